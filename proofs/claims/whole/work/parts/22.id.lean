-- 190 NineDownModel.lift
theorem zi190_0 {E : zE} {x : Nat} {ls sk : List Value} {h : zH} : zrun zpp E 190 (0, .ref x :: ls, sk, h) = zrun zpp E 190 (1, .ref x :: ls, .ref x :: sk, h) := zrun_at rfl
theorem zi190_0n {E : zE} {ls sk : List Value} {h : zH} : zrun zpp E 190 (0, .null :: ls, sk, h) = zrun zpp E 190 (1, .null :: ls, .null :: sk, h) := zrun_at rfl
theorem zi190_1 {E : zE} {ls sk : List Value} {h : zH} : zrun zpp E 190 (1, ls, sk, h) = zrun zpp E 190 (2, ls, .int 0 :: sk, h) := zg_iconst rfl ci_0
theorem zi190_2 {E : zE} {x : Nat} {v : Value} {ls sk : List Value} {h : zH} : zrun zpp E 190 (2, ls, v :: .ref x :: sk, h) = (zstf [11] 0 h x 0 v).bind (fun h' => zrun zpp E 190 (5, ls, sk, h')) := zg_putf rfl
theorem zi190_5 {E : zE} {x : Nat} {ls sk : List Value} {h : zH} : zrun zpp E 190 (5, .ref x :: ls, sk, h) = zrun zpp E 190 (6, .ref x :: ls, .ref x :: sk, h) := zrun_at rfl
theorem zi190_5n {E : zE} {ls sk : List Value} {h : zH} : zrun zpp E 190 (5, .null :: ls, sk, h) = zrun zpp E 190 (6, .null :: ls, .null :: sk, h) := zrun_at rfl
theorem zi190_6 {E : zE} {v0 : Value} {x : Int32} {ls sk : List Value} {h : zH} : zrun zpp E 190 (6, v0 :: .int x :: ls, sk, h) = zrun zpp E 190 (7, v0 :: .int x :: ls, .int x :: sk, h) := zrun_at rfl
theorem zi190_7 {E : zE} {x : Int32} {ls sk : List Value} {h : zH} : zrun zpp E 190 (7, ls, .int x :: sk, h) = zrun zpp E 190 (8, ls, .long x.toInt64 :: sk, h) := zrun_at rfl
theorem zi190_8 {E : zE} {a0 : Value} {x : Nat} {ls sk : List Value} {h : zH} : zrun zpp E 190 (8, ls, a0 :: .ref x :: sk, h) = (zcls h x).bind (fun d => (zsel d [11, 174]).bind (fun M' => zcl1 E 190 11 M' ls sk [.ref x, a0] h)) := zg_vir (as := [a0]) rfl rfl
theorem zi190_11 {E : zE} {x : Int32} {ls sk : List Value} {h : zH} : zrun zpp E 190 (11, ls, .int x :: sk, h) = if x = 0 then zrun zpp E 190 (23, ls, sk, h) else zrun zpp E 190 (14, ls, sk, h) := zrun_at rfl
theorem zi190_14 {E : zE} {x : Nat} {ls sk : List Value} {h : zH} : zrun zpp E 190 (14, .ref x :: ls, sk, h) = zrun zpp E 190 (15, .ref x :: ls, .ref x :: sk, h) := zrun_at rfl
theorem zi190_14n {E : zE} {ls sk : List Value} {h : zH} : zrun zpp E 190 (14, .null :: ls, sk, h) = zrun zpp E 190 (15, .null :: ls, .null :: sk, h) := zrun_at rfl
theorem zi190_15 {E : zE} {v0 v1 : Value} {x : Int32} {ls sk : List Value} {h : zH} : zrun zpp E 190 (15, v0 :: v1 :: .int x :: ls, sk, h) = zrun zpp E 190 (16, v0 :: v1 :: .int x :: ls, .int x :: sk, h) := zrun_at rfl
theorem zi190_16 {E : zE} {x : Int32} {ls sk : List Value} {h : zH} : zrun zpp E 190 (16, ls, .int x :: sk, h) = zrun zpp E 190 (17, ls, .long x.toInt64 :: sk, h) := zrun_at rfl
theorem zi190_17 {E : zE} {a0 : Value} {x : Nat} {ls sk : List Value} {h : zH} : zrun zpp E 190 (17, ls, a0 :: .ref x :: sk, h) = (zcls h x).bind (fun d => (zsel d [11, 173]).bind (fun M' => zcl1 E 190 20 M' ls sk [.ref x, a0] h)) := zg_vir (as := [a0]) rfl rfl
theorem zi190_20 {E : zE} {x : Int32} {ls sk : List Value} {h : zH} : zrun zpp E 190 (20, ls, .int x :: sk, h) = if x = 0 then zrun zpp E 190 (23, ls, sk, h) else zrun zpp E 190 (26, ls, sk, h) := zrun_at rfl
theorem zi190_23 {E : zE} {ls sk : List Value} {h : zH} : zrun zpp E 190 (23, ls, sk, h) = zrun zpp E 190 (25, ls, .int (-1000001) :: sk, h) := zg_ldc rfl ci_m1000001
theorem zi190_25 {E : zE} {x : Int32} {ls sk : List Value} {h : zH} : zrun zpp E 190 (25, ls, [.int x], h) = some (some (.int x), h) := zrun_at rfl
theorem zi190_26 {E : zE} {x : Nat} {ls sk : List Value} {h : zH} : zrun zpp E 190 (26, .ref x :: ls, sk, h) = zrun zpp E 190 (27, .ref x :: ls, .ref x :: sk, h) := zrun_at rfl
theorem zi190_26n {E : zE} {ls sk : List Value} {h : zH} : zrun zpp E 190 (26, .null :: ls, sk, h) = zrun zpp E 190 (27, .null :: ls, .null :: sk, h) := zrun_at rfl
theorem zi190_27 {E : zE} {x : Nat} {ls sk : List Value} {h : zH} : zrun zpp E 190 (27, .ref x :: ls, sk, h) = zrun zpp E 190 (28, .ref x :: ls, .ref x :: sk, h) := zrun_at rfl
theorem zi190_27n {E : zE} {ls sk : List Value} {h : zH} : zrun zpp E 190 (27, .null :: ls, sk, h) = zrun zpp E 190 (28, .null :: ls, .null :: sk, h) := zrun_at rfl
theorem zi190_28 {E : zE} {v0 : Value} {x : Int32} {ls sk : List Value} {h : zH} : zrun zpp E 190 (28, v0 :: .int x :: ls, sk, h) = zrun zpp E 190 (29, v0 :: .int x :: ls, .int x :: sk, h) := zrun_at rfl
theorem zi190_29 {E : zE} {a0 : Value} {x : Nat} {ls sk : List Value} {h : zH} : zrun zpp E 190 (29, ls, a0 :: .ref x :: sk, h) = (zcls h x).bind (fun d => (zsel d [11, 179]).bind (fun M' => zcl1 E 190 32 M' ls sk [.ref x, a0] h)) := zg_vir (as := [a0]) rfl rfl
theorem zi190_32 {E : zE} {x : Nat} {ls sk : List Value} {h : zH} : zrun zpp E 190 (32, .ref x :: ls, sk, h) = zrun zpp E 190 (33, .ref x :: ls, .ref x :: sk, h) := zrun_at rfl
theorem zi190_32n {E : zE} {ls sk : List Value} {h : zH} : zrun zpp E 190 (32, .null :: ls, sk, h) = zrun zpp E 190 (33, .null :: ls, .null :: sk, h) := zrun_at rfl
theorem zi190_33 {E : zE} {v0 : Value} {x : Int32} {ls sk : List Value} {h : zH} : zrun zpp E 190 (33, v0 :: .int x :: ls, sk, h) = zrun zpp E 190 (34, v0 :: .int x :: ls, .int x :: sk, h) := zrun_at rfl
theorem zi190_34 {E : zE} {a0 : Value} {x : Nat} {ls sk : List Value} {h : zH} : zrun zpp E 190 (34, ls, a0 :: .ref x :: sk, h) = (zcls h x).bind (fun d => (zsel d [11, 180]).bind (fun M' => zcl1 E 190 37 M' ls sk [.ref x, a0] h)) := zg_vir (as := [a0]) rfl rfl
theorem zi190_37 {E : zE} {x : Nat} {ls sk : List Value} {h : zH} : zrun zpp E 190 (37, .ref x :: ls, sk, h) = zrun zpp E 190 (38, .ref x :: ls, .ref x :: sk, h) := zrun_at rfl
theorem zi190_37n {E : zE} {ls sk : List Value} {h : zH} : zrun zpp E 190 (37, .null :: ls, sk, h) = zrun zpp E 190 (38, .null :: ls, .null :: sk, h) := zrun_at rfl
theorem zi190_38 {E : zE} {x : Nat} {ls sk : List Value} {h : zH} : zrun zpp E 190 (38, ls, .ref x :: sk, h) = (zfld [11] h x 5).bind (fun v => zrun zpp E 190 (41, ls, v :: sk, h)) := zg_getf rfl
theorem zi190_41 {E : zE} {ls sk : List Value} {h : zH} : zrun zpp E 190 (41, ls, sk, h) = zrun zpp E 190 (43, ls, .int 8 :: sk, h) := zg_bipush rfl ci_8
theorem zi190_43 {E : zE} {x : Nat} {i : Int32} {ls sk : List Value} {h : zH} : zrun zpp E 190 (43, ls, .int i :: .ref x :: sk, h) = (zarr 0 h x i).bind (fun v => zrun zpp E 190 (44, ls, .int v :: sk, h)) := zg_iald rfl
theorem zi190_44 {E : zE} {v0 v1 : Value} {x : Int32} {ls sk : List Value} {h : zH} : zrun zpp E 190 (44, v0 :: v1 :: .int x :: ls, sk, h) = zrun zpp E 190 (45, v0 :: v1 :: .int x :: ls, .int x :: sk, h) := zrun_at rfl
theorem zi190_45 {E : zE} {a0 a1 a2 a3 : Value} {x : Nat} {ls sk : List Value} {h : zH} : zrun zpp E 190 (45, ls, a3 :: a2 :: a1 :: a0 :: .ref x :: sk, h) = (zcls h x).bind (fun d => (zsel d [11, 186]).bind (fun M' => zcl1 E 190 48 M' ls sk [.ref x, a0, a1, a2, a3] h)) := zg_vir (as := [a0, a1, a2, a3]) rfl rfl
theorem zi190_48 {E : zE} {x : Int32} {ls sk : List Value} {h : zH} : zrun zpp E 190 (48, ls, .int x :: sk, h) = if x = 0 then zrun zpp E 190 (51, ls, sk, h) else zrun zpp E 190 (54, ls, sk, h) := zrun_at rfl
theorem zi190_51 {E : zE} {ls sk : List Value} {h : zH} : zrun zpp E 190 (51, ls, sk, h) = zrun zpp E 190 (53, ls, .int (-1000002) :: sk, h) := zg_ldc rfl ci_m1000002
theorem zi190_53 {E : zE} {x : Int32} {ls sk : List Value} {h : zH} : zrun zpp E 190 (53, ls, [.int x], h) = some (some (.int x), h) := zrun_at rfl
theorem zi190_54 {E : zE} {x : Nat} {ls sk : List Value} {h : zH} : zrun zpp E 190 (54, .ref x :: ls, sk, h) = zrun zpp E 190 (55, .ref x :: ls, .ref x :: sk, h) := zrun_at rfl
theorem zi190_54n {E : zE} {ls sk : List Value} {h : zH} : zrun zpp E 190 (54, .null :: ls, sk, h) = zrun zpp E 190 (55, .null :: ls, .null :: sk, h) := zrun_at rfl
theorem zi190_55 {E : zE} {x : Nat} {ls sk : List Value} {h : zH} : zrun zpp E 190 (55, ls, .ref x :: sk, h) = (zcls h x).bind (fun d => (zsel d [11, 189]).bind (fun M' => zcl1 E 190 58 M' ls sk [.ref x] h)) := zg_vir (as := []) rfl rfl
theorem zi190_58 {E : zE} {x : Nat} {ls sk : List Value} {h : zH} : zrun zpp E 190 (58, .ref x :: ls, sk, h) = zrun zpp E 190 (59, .ref x :: ls, .ref x :: sk, h) := zrun_at rfl
theorem zi190_58n {E : zE} {ls sk : List Value} {h : zH} : zrun zpp E 190 (58, .null :: ls, sk, h) = zrun zpp E 190 (59, .null :: ls, .null :: sk, h) := zrun_at rfl
theorem zi190_59 {E : zE} {x : Nat} {ls sk : List Value} {h : zH} : zrun zpp E 190 (59, .ref x :: ls, sk, h) = zrun zpp E 190 (60, .ref x :: ls, .ref x :: sk, h) := zrun_at rfl
theorem zi190_59n {E : zE} {ls sk : List Value} {h : zH} : zrun zpp E 190 (59, .null :: ls, sk, h) = zrun zpp E 190 (60, .null :: ls, .null :: sk, h) := zrun_at rfl
theorem zi190_60 {E : zE} {v0 : Value} {x : Int32} {ls sk : List Value} {h : zH} : zrun zpp E 190 (60, v0 :: .int x :: ls, sk, h) = zrun zpp E 190 (61, v0 :: .int x :: ls, .int x :: sk, h) := zrun_at rfl
theorem zi190_61 {E : zE} {a0 : Value} {x : Nat} {ls sk : List Value} {h : zH} : zrun zpp E 190 (61, ls, a0 :: .ref x :: sk, h) = (zcls h x).bind (fun d => (zsel d [11, 179]).bind (fun M' => zcl1 E 190 64 M' ls sk [.ref x, a0] h)) := zg_vir (as := [a0]) rfl rfl
theorem zi190_64 {E : zE} {x : Nat} {ls sk : List Value} {h : zH} : zrun zpp E 190 (64, .ref x :: ls, sk, h) = zrun zpp E 190 (65, .ref x :: ls, .ref x :: sk, h) := zrun_at rfl
theorem zi190_64n {E : zE} {ls sk : List Value} {h : zH} : zrun zpp E 190 (64, .null :: ls, sk, h) = zrun zpp E 190 (65, .null :: ls, .null :: sk, h) := zrun_at rfl
theorem zi190_65 {E : zE} {x : Nat} {ls sk : List Value} {h : zH} : zrun zpp E 190 (65, ls, .ref x :: sk, h) = (zfld [11] h x 5).bind (fun v => zrun zpp E 190 (68, ls, v :: sk, h)) := zg_getf rfl
theorem zi190_68 {E : zE} {ls sk : List Value} {h : zH} : zrun zpp E 190 (68, ls, sk, h) = zrun zpp E 190 (70, ls, .int 8 :: sk, h) := zg_bipush rfl ci_8
theorem zi190_70 {E : zE} {x : Nat} {i : Int32} {ls sk : List Value} {h : zH} : zrun zpp E 190 (70, ls, .int i :: .ref x :: sk, h) = (zarr 0 h x i).bind (fun v => zrun zpp E 190 (71, ls, .int v :: sk, h)) := zg_iald rfl
theorem zi190_71 {E : zE} {v0 v1 : Value} {x : Int32} {ls sk : List Value} {h : zH} : zrun zpp E 190 (71, v0 :: v1 :: .int x :: ls, sk, h) = zrun zpp E 190 (72, v0 :: v1 :: .int x :: ls, .int x :: sk, h) := zrun_at rfl
theorem zi190_72 {E : zE} {a0 a1 a2 : Value} {x : Nat} {ls sk : List Value} {h : zH} : zrun zpp E 190 (72, ls, a2 :: a1 :: a0 :: .ref x :: sk, h) = (zcls h x).bind (fun d => (zsel d [11, 187]).bind (fun M' => zcl1 E 190 75 M' ls sk [.ref x, a0, a1, a2] h)) := zg_vir (as := [a0, a1, a2]) rfl rfl
theorem zi190_75 {E : zE} {x : Int32} {ls sk : List Value} {h : zH} : zrun zpp E 190 (75, ls, .int x :: sk, h) = if zfree ls 3 = true then zrun zpp E 190 (76, ls.set 3 (.int x), sk, h) else none := zg_ist rfl (fun _ _ _ => rfl)
theorem zi190_76 {E : zE} {x : Nat} {ls sk : List Value} {h : zH} : zrun zpp E 190 (76, .ref x :: ls, sk, h) = zrun zpp E 190 (77, .ref x :: ls, .ref x :: sk, h) := zrun_at rfl
theorem zi190_76n {E : zE} {ls sk : List Value} {h : zH} : zrun zpp E 190 (76, .null :: ls, sk, h) = zrun zpp E 190 (77, .null :: ls, .null :: sk, h) := zrun_at rfl
theorem zi190_77 {E : zE} {x : Nat} {ls sk : List Value} {h : zH} : zrun zpp E 190 (77, ls, .ref x :: sk, h) = (zfld [11] h x 5).bind (fun v => zrun zpp E 190 (80, ls, v :: sk, h)) := zg_getf rfl
theorem zi190_80 {E : zE} {ls sk : List Value} {h : zH} : zrun zpp E 190 (80, ls, sk, h) = zrun zpp E 190 (82, ls, .int 6 :: sk, h) := zg_bipush rfl ci_6
theorem zi190_82 {E : zE} {x : Int32} {y : Nat} {ls sk : List Value} {h : zH} : zrun zpp E 190 (82, ls, .int x :: .ref y :: sk, h) = zrun zpp E 190 (83, ls, .int x :: .ref y :: .int x :: .ref y :: sk, h) := zrun_at rfl
theorem zi190_83 {E : zE} {x : Nat} {i : Int32} {ls sk : List Value} {h : zH} : zrun zpp E 190 (83, ls, .int i :: .ref x :: sk, h) = (zarr 0 h x i).bind (fun v => zrun zpp E 190 (84, ls, .int v :: sk, h)) := zg_iald rfl
theorem zi190_84 {E : zE} {v0 v1 v2 : Value} {x : Int32} {ls sk : List Value} {h : zH} : zrun zpp E 190 (84, v0 :: v1 :: v2 :: .int x :: ls, sk, h) = zrun zpp E 190 (85, v0 :: v1 :: v2 :: .int x :: ls, .int x :: sk, h) := zrun_at rfl
theorem zi190_85 {E : zE} {x y : Int32} {ls sk : List Value} {h : zH} : zrun zpp E 190 (85, ls, .int y :: .int x :: sk, h) = zrun zpp E 190 (86, ls, .int (x + y) :: sk, h) := zrun_at rfl
theorem zi190_86 {E : zE} {x : Nat} {i v : Int32} {ls sk : List Value} {h : zH} : zrun zpp E 190 (86, ls, .int v :: .int i :: .ref x :: sk, h) = (zars 0 h x i v).bind (fun h' => zrun zpp E 190 (87, ls, sk, h')) := zg_iast rfl
theorem zi190_87 {E : zE} {x : Nat} {ls sk : List Value} {h : zH} : zrun zpp E 190 (87, .ref x :: ls, sk, h) = zrun zpp E 190 (88, .ref x :: ls, .ref x :: sk, h) := zrun_at rfl
theorem zi190_87n {E : zE} {ls sk : List Value} {h : zH} : zrun zpp E 190 (87, .null :: ls, sk, h) = zrun zpp E 190 (88, .null :: ls, .null :: sk, h) := zrun_at rfl
theorem zi190_88 {E : zE} {x : Nat} {ls sk : List Value} {h : zH} : zrun zpp E 190 (88, ls, .ref x :: sk, h) = (zfld [11] h x 5).bind (fun v => zrun zpp E 190 (91, ls, v :: sk, h)) := zg_getf rfl
theorem zi190_91 {E : zE} {ls sk : List Value} {h : zH} : zrun zpp E 190 (91, ls, sk, h) = zrun zpp E 190 (93, ls, .int 7 :: sk, h) := zg_bipush rfl ci_7
theorem zi190_93 {E : zE} {x : Int32} {y : Nat} {ls sk : List Value} {h : zH} : zrun zpp E 190 (93, ls, .int x :: .ref y :: sk, h) = zrun zpp E 190 (94, ls, .int x :: .ref y :: .int x :: .ref y :: sk, h) := zrun_at rfl
theorem zi190_94 {E : zE} {x : Nat} {i : Int32} {ls sk : List Value} {h : zH} : zrun zpp E 190 (94, ls, .int i :: .ref x :: sk, h) = (zarr 0 h x i).bind (fun v => zrun zpp E 190 (95, ls, .int v :: sk, h)) := zg_iald rfl
theorem zi190_95 {E : zE} {x : Nat} {ls sk : List Value} {h : zH} : zrun zpp E 190 (95, .ref x :: ls, sk, h) = zrun zpp E 190 (96, .ref x :: ls, .ref x :: sk, h) := zrun_at rfl
theorem zi190_95n {E : zE} {ls sk : List Value} {h : zH} : zrun zpp E 190 (95, .null :: ls, sk, h) = zrun zpp E 190 (96, .null :: ls, .null :: sk, h) := zrun_at rfl
theorem zi190_96 {E : zE} {x : Nat} {ls sk : List Value} {h : zH} : zrun zpp E 190 (96, .ref x :: ls, sk, h) = zrun zpp E 190 (97, .ref x :: ls, .ref x :: sk, h) := zrun_at rfl
theorem zi190_96n {E : zE} {ls sk : List Value} {h : zH} : zrun zpp E 190 (96, .null :: ls, sk, h) = zrun zpp E 190 (97, .null :: ls, .null :: sk, h) := zrun_at rfl
theorem zi190_97 {E : zE} {v0 : Value} {x : Int32} {ls sk : List Value} {h : zH} : zrun zpp E 190 (97, v0 :: .int x :: ls, sk, h) = zrun zpp E 190 (98, v0 :: .int x :: ls, .int x :: sk, h) := zrun_at rfl
theorem zi190_98 {E : zE} {a0 : Value} {x : Nat} {ls sk : List Value} {h : zH} : zrun zpp E 190 (98, ls, a0 :: .ref x :: sk, h) = (zcls h x).bind (fun d => (zsel d [11, 179]).bind (fun M' => zcl1 E 190 101 M' ls sk [.ref x, a0] h)) := zg_vir (as := [a0]) rfl rfl
theorem zi190_101 {E : zE} {x : Nat} {ls sk : List Value} {h : zH} : zrun zpp E 190 (101, .ref x :: ls, sk, h) = zrun zpp E 190 (102, .ref x :: ls, .ref x :: sk, h) := zrun_at rfl
theorem zi190_101n {E : zE} {ls sk : List Value} {h : zH} : zrun zpp E 190 (101, .null :: ls, sk, h) = zrun zpp E 190 (102, .null :: ls, .null :: sk, h) := zrun_at rfl
theorem zi190_102 {E : zE} {x : Nat} {ls sk : List Value} {h : zH} : zrun zpp E 190 (102, ls, .ref x :: sk, h) = (zfld [11] h x 5).bind (fun v => zrun zpp E 190 (105, ls, v :: sk, h)) := zg_getf rfl
theorem zi190_105 {E : zE} {ls sk : List Value} {h : zH} : zrun zpp E 190 (105, ls, sk, h) = zrun zpp E 190 (107, ls, .int 8 :: sk, h) := zg_bipush rfl ci_8
theorem zi190_107 {E : zE} {x : Nat} {i : Int32} {ls sk : List Value} {h : zH} : zrun zpp E 190 (107, ls, .int i :: .ref x :: sk, h) = (zarr 0 h x i).bind (fun v => zrun zpp E 190 (108, ls, .int v :: sk, h)) := zg_iald rfl
theorem zi190_108 {E : zE} {v0 v1 : Value} {x : Int32} {ls sk : List Value} {h : zH} : zrun zpp E 190 (108, v0 :: v1 :: .int x :: ls, sk, h) = zrun zpp E 190 (109, v0 :: v1 :: .int x :: ls, .int x :: sk, h) := zrun_at rfl
theorem zi190_109 {E : zE} {a0 a1 a2 : Value} {x : Nat} {ls sk : List Value} {h : zH} : zrun zpp E 190 (109, ls, a2 :: a1 :: a0 :: .ref x :: sk, h) = (zcls h x).bind (fun d => (zsel d [11, 188]).bind (fun M' => zcl1 E 190 112 M' ls sk [.ref x, a0, a1, a2] h)) := zg_vir (as := [a0, a1, a2]) rfl rfl
theorem zi190_112 {E : zE} {x y : Int32} {ls sk : List Value} {h : zH} : zrun zpp E 190 (112, ls, .int y :: .int x :: sk, h) = zrun zpp E 190 (113, ls, .int (x + y) :: sk, h) := zrun_at rfl
theorem zi190_113 {E : zE} {x : Nat} {i v : Int32} {ls sk : List Value} {h : zH} : zrun zpp E 190 (113, ls, .int v :: .int i :: .ref x :: sk, h) = (zars 0 h x i v).bind (fun h' => zrun zpp E 190 (114, ls, sk, h')) := zg_iast rfl
theorem zi190_114 {E : zE} {x : Nat} {ls sk : List Value} {h : zH} : zrun zpp E 190 (114, .ref x :: ls, sk, h) = zrun zpp E 190 (115, .ref x :: ls, .ref x :: sk, h) := zrun_at rfl
theorem zi190_114n {E : zE} {ls sk : List Value} {h : zH} : zrun zpp E 190 (114, .null :: ls, sk, h) = zrun zpp E 190 (115, .null :: ls, .null :: sk, h) := zrun_at rfl
theorem zi190_115 {E : zE} {x : Nat} {ls sk : List Value} {h : zH} : zrun zpp E 190 (115, ls, .ref x :: sk, h) = (zfld [11] h x 5).bind (fun v => zrun zpp E 190 (118, ls, v :: sk, h)) := zg_getf rfl
theorem zi190_118 {E : zE} {ls sk : List Value} {h : zH} : zrun zpp E 190 (118, ls, sk, h) = zrun zpp E 190 (120, ls, .int 8 :: sk, h) := zg_bipush rfl ci_8
theorem zi190_120 {E : zE} {x : Int32} {y : Nat} {ls sk : List Value} {h : zH} : zrun zpp E 190 (120, ls, .int x :: .ref y :: sk, h) = zrun zpp E 190 (121, ls, .int x :: .ref y :: .int x :: .ref y :: sk, h) := zrun_at rfl
theorem zi190_121 {E : zE} {x : Nat} {i : Int32} {ls sk : List Value} {h : zH} : zrun zpp E 190 (121, ls, .int i :: .ref x :: sk, h) = (zarr 0 h x i).bind (fun v => zrun zpp E 190 (122, ls, .int v :: sk, h)) := zg_iald rfl
theorem zi190_122 {E : zE} {ls sk : List Value} {h : zH} : zrun zpp E 190 (122, ls, sk, h) = zrun zpp E 190 (123, ls, .int 1 :: sk, h) := zg_iconst rfl ci_1
theorem zi190_123 {E : zE} {v0 v1 : Value} {x : Int32} {ls sk : List Value} {h : zH} : zrun zpp E 190 (123, v0 :: v1 :: .int x :: ls, sk, h) = zrun zpp E 190 (124, v0 :: v1 :: .int x :: ls, .int x :: sk, h) := zrun_at rfl
theorem zi190_124 {E : zE} {x y : Int32} {ls sk : List Value} {h : zH} : zrun zpp E 190 (124, ls, .int y :: .int x :: sk, h) = zrun zpp E 190 (125, ls, .int (x <<< (y &&& 31)) :: sk, h) := zrun_at rfl
theorem zi190_125 {E : zE} {ls sk : List Value} {h : zH} : zrun zpp E 190 (125, ls, sk, h) = zrun zpp E 190 (126, ls, .int (-1) :: sk, h) := zg_iconst rfl ci_m1
theorem zi190_126 {E : zE} {x y : Int32} {ls sk : List Value} {h : zH} : zrun zpp E 190 (126, ls, .int y :: .int x :: sk, h) = zrun zpp E 190 (127, ls, .int (x ^^^ y) :: sk, h) := zrun_at rfl
theorem zi190_127 {E : zE} {x y : Int32} {ls sk : List Value} {h : zH} : zrun zpp E 190 (127, ls, .int y :: .int x :: sk, h) = zrun zpp E 190 (128, ls, .int (x &&& y) :: sk, h) := zrun_at rfl
theorem zi190_128 {E : zE} {x : Nat} {i v : Int32} {ls sk : List Value} {h : zH} : zrun zpp E 190 (128, ls, .int v :: .int i :: .ref x :: sk, h) = (zars 0 h x i v).bind (fun h' => zrun zpp E 190 (129, ls, sk, h')) := zg_iast rfl
theorem zi190_129 {E : zE} {v0 v1 v2 : Value} {x : Int32} {ls sk : List Value} {h : zH} : zrun zpp E 190 (129, v0 :: v1 :: v2 :: .int x :: ls, sk, h) = zrun zpp E 190 (130, v0 :: v1 :: v2 :: .int x :: ls, .int x :: sk, h) := zrun_at rfl
theorem zi190_130 {E : zE} {x : Int32} {ls sk : List Value} {h : zH} : zrun zpp E 190 (130, ls, [.int x], h) = some (some (.int x), h) := zrun_at rfl
-- 191 NineDownModel.loosen
theorem zi191_0 {E : zE} {x : Nat} {ls sk : List Value} {h : zH} : zrun zpp E 191 (0, .ref x :: ls, sk, h) = zrun zpp E 191 (1, .ref x :: ls, .ref x :: sk, h) := zrun_at rfl
theorem zi191_0n {E : zE} {ls sk : List Value} {h : zH} : zrun zpp E 191 (0, .null :: ls, sk, h) = zrun zpp E 191 (1, .null :: ls, .null :: sk, h) := zrun_at rfl
theorem zi191_1 {E : zE} {ls sk : List Value} {h : zH} : zrun zpp E 191 (1, ls, sk, h) = zrun zpp E 191 (2, ls, .int 0 :: sk, h) := zg_iconst rfl ci_0
theorem zi191_2 {E : zE} {x : Nat} {v : Value} {ls sk : List Value} {h : zH} : zrun zpp E 191 (2, ls, v :: .ref x :: sk, h) = (zstf [11] 0 h x 0 v).bind (fun h' => zrun zpp E 191 (5, ls, sk, h')) := zg_putf rfl
theorem zi191_5 {E : zE} {x : Nat} {ls sk : List Value} {h : zH} : zrun zpp E 191 (5, .ref x :: ls, sk, h) = zrun zpp E 191 (6, .ref x :: ls, .ref x :: sk, h) := zrun_at rfl
theorem zi191_5n {E : zE} {ls sk : List Value} {h : zH} : zrun zpp E 191 (5, .null :: ls, sk, h) = zrun zpp E 191 (6, .null :: ls, .null :: sk, h) := zrun_at rfl
theorem zi191_6 {E : zE} {v0 : Value} {x : Int32} {ls sk : List Value} {h : zH} : zrun zpp E 191 (6, v0 :: .int x :: ls, sk, h) = zrun zpp E 191 (7, v0 :: .int x :: ls, .int x :: sk, h) := zrun_at rfl
theorem zi191_7 {E : zE} {a0 : Value} {x : Nat} {ls sk : List Value} {h : zH} : zrun zpp E 191 (7, ls, a0 :: .ref x :: sk, h) = (zcls h x).bind (fun d => (zsel d [11, 175]).bind (fun M' => zcl1 E 191 10 M' ls sk [.ref x, a0] h)) := zg_vir (as := [a0]) rfl rfl
theorem zi191_10 {E : zE} {x : Int32} {ls sk : List Value} {h : zH} : zrun zpp E 191 (10, ls, .int x :: sk, h) = if x = 0 then zrun zpp E 191 (13, ls, sk, h) else zrun zpp E 191 (16, ls, sk, h) := zrun_at rfl
theorem zi191_13 {E : zE} {ls sk : List Value} {h : zH} : zrun zpp E 191 (13, ls, sk, h) = zrun zpp E 191 (15, ls, .int (-1000001) :: sk, h) := zg_ldc rfl ci_m1000001
theorem zi191_15 {E : zE} {x : Int32} {ls sk : List Value} {h : zH} : zrun zpp E 191 (15, ls, [.int x], h) = some (some (.int x), h) := zrun_at rfl
theorem zi191_16 {E : zE} {ls sk : List Value} {h : zH} : zrun zpp E 191 (16, ls, sk, h) = zrun zpp E 191 (18, ls, .int 25 :: sk, h) := zg_bipush rfl ci_25
theorem zi191_18 {E : zE} {ls sk : List Value} {h : zH} : zrun zpp E 191 (18, ls, sk, h) = zrun zpp E 191 (19, ls, .int 4 :: sk, h) := zg_iconst rfl ci_4
theorem zi191_19 {E : zE} {v0 : Value} {x : Int32} {ls sk : List Value} {h : zH} : zrun zpp E 191 (19, v0 :: .int x :: ls, sk, h) = zrun zpp E 191 (20, v0 :: .int x :: ls, .int x :: sk, h) := zrun_at rfl
theorem zi191_20 {E : zE} {x y : Int32} {ls sk : List Value} {h : zH} : zrun zpp E 191 (20, ls, .int y :: .int x :: sk, h) = zrun zpp E 191 (21, ls, .int (x * y) :: sk, h) := zrun_at rfl
theorem zi191_21 {E : zE} {x y : Int32} {ls sk : List Value} {h : zH} : zrun zpp E 191 (21, ls, .int y :: .int x :: sk, h) = zrun zpp E 191 (22, ls, .int (x + y) :: sk, h) := zrun_at rfl
theorem zi191_22 {E : zE} {x : Int32} {ls sk : List Value} {h : zH} : zrun zpp E 191 (22, ls, .int x :: sk, h) = if zfree ls 2 = true then zrun zpp E 191 (23, ls.set 2 (.int x), sk, h) else none := zg_ist rfl (fun _ _ _ => rfl)
theorem zi191_23 {E : zE} {x : Nat} {ls sk : List Value} {h : zH} : zrun zpp E 191 (23, .ref x :: ls, sk, h) = zrun zpp E 191 (24, .ref x :: ls, .ref x :: sk, h) := zrun_at rfl
theorem zi191_23n {E : zE} {ls sk : List Value} {h : zH} : zrun zpp E 191 (23, .null :: ls, sk, h) = zrun zpp E 191 (24, .null :: ls, .null :: sk, h) := zrun_at rfl
theorem zi191_24 {E : zE} {x : Nat} {ls sk : List Value} {h : zH} : zrun zpp E 191 (24, ls, .ref x :: sk, h) = (zfld [11] h x 5).bind (fun v => zrun zpp E 191 (27, ls, v :: sk, h)) := zg_getf rfl
theorem zi191_27 {E : zE} {v0 v1 : Value} {x : Int32} {ls sk : List Value} {h : zH} : zrun zpp E 191 (27, v0 :: v1 :: .int x :: ls, sk, h) = zrun zpp E 191 (28, v0 :: v1 :: .int x :: ls, .int x :: sk, h) := zrun_at rfl
theorem zi191_28 {E : zE} {x : Nat} {i : Int32} {ls sk : List Value} {h : zH} : zrun zpp E 191 (28, ls, .int i :: .ref x :: sk, h) = (zarr 0 h x i).bind (fun v => zrun zpp E 191 (29, ls, .int v :: sk, h)) := zg_iald rfl
theorem zi191_29 {E : zE} {x : Int32} {ls sk : List Value} {h : zH} : zrun zpp E 191 (29, ls, .int x :: sk, h) = if x = 0 then zrun zpp E 191 (44, ls, sk, h) else zrun zpp E 191 (32, ls, sk, h) := zrun_at rfl
theorem zi191_32 {E : zE} {x : Nat} {ls sk : List Value} {h : zH} : zrun zpp E 191 (32, .ref x :: ls, sk, h) = zrun zpp E 191 (33, .ref x :: ls, .ref x :: sk, h) := zrun_at rfl
theorem zi191_32n {E : zE} {ls sk : List Value} {h : zH} : zrun zpp E 191 (32, .null :: ls, sk, h) = zrun zpp E 191 (33, .null :: ls, .null :: sk, h) := zrun_at rfl
theorem zi191_33 {E : zE} {x : Nat} {ls sk : List Value} {h : zH} : zrun zpp E 191 (33, ls, .ref x :: sk, h) = (zfld [11] h x 5).bind (fun v => zrun zpp E 191 (36, ls, v :: sk, h)) := zg_getf rfl
theorem zi191_36 {E : zE} {v0 v1 : Value} {x : Int32} {ls sk : List Value} {h : zH} : zrun zpp E 191 (36, v0 :: v1 :: .int x :: ls, sk, h) = zrun zpp E 191 (37, v0 :: v1 :: .int x :: ls, .int x :: sk, h) := zrun_at rfl
theorem zi191_37 {E : zE} {ls sk : List Value} {h : zH} : zrun zpp E 191 (37, ls, sk, h) = zrun zpp E 191 (38, ls, .int 3 :: sk, h) := zg_iconst rfl ci_3
theorem zi191_38 {E : zE} {x y : Int32} {ls sk : List Value} {h : zH} : zrun zpp E 191 (38, ls, .int y :: .int x :: sk, h) = zrun zpp E 191 (39, ls, .int (x + y) :: sk, h) := zrun_at rfl
theorem zi191_39 {E : zE} {x : Nat} {i : Int32} {ls sk : List Value} {h : zH} : zrun zpp E 191 (39, ls, .int i :: .ref x :: sk, h) = (zarr 0 h x i).bind (fun v => zrun zpp E 191 (40, ls, .int v :: sk, h)) := zg_iald rfl
theorem zi191_40 {E : zE} {ls sk : List Value} {h : zH} : zrun zpp E 191 (40, ls, sk, h) = zrun zpp E 191 (41, ls, .int 1 :: sk, h) := zg_iconst rfl ci_1
theorem zi191_41 {E : zE} {x y : Int32} {ls sk : List Value} {h : zH} : zrun zpp E 191 (41, ls, .int y :: .int x :: sk, h) = if x = y then zrun zpp E 191 (44, ls, sk, h) else zrun zpp E 191 (47, ls, sk, h) := zrun_at rfl
theorem zi191_44 {E : zE} {ls sk : List Value} {h : zH} : zrun zpp E 191 (44, ls, sk, h) = zrun zpp E 191 (46, ls, .int (-1000002) :: sk, h) := zg_ldc rfl ci_m1000002
theorem zi191_46 {E : zE} {x : Int32} {ls sk : List Value} {h : zH} : zrun zpp E 191 (46, ls, [.int x], h) = some (some (.int x), h) := zrun_at rfl
theorem zi191_47 {E : zE} {x : Nat} {ls sk : List Value} {h : zH} : zrun zpp E 191 (47, .ref x :: ls, sk, h) = zrun zpp E 191 (48, .ref x :: ls, .ref x :: sk, h) := zrun_at rfl
theorem zi191_47n {E : zE} {ls sk : List Value} {h : zH} : zrun zpp E 191 (47, .null :: ls, sk, h) = zrun zpp E 191 (48, .null :: ls, .null :: sk, h) := zrun_at rfl
theorem zi191_48 {E : zE} {x : Nat} {ls sk : List Value} {h : zH} : zrun zpp E 191 (48, ls, .ref x :: sk, h) = (zcls h x).bind (fun d => (zsel d [11, 189]).bind (fun M' => zcl1 E 191 51 M' ls sk [.ref x] h)) := zg_vir (as := []) rfl rfl
theorem zi191_51 {E : zE} {x : Nat} {ls sk : List Value} {h : zH} : zrun zpp E 191 (51, .ref x :: ls, sk, h) = zrun zpp E 191 (52, .ref x :: ls, .ref x :: sk, h) := zrun_at rfl
theorem zi191_51n {E : zE} {ls sk : List Value} {h : zH} : zrun zpp E 191 (51, .null :: ls, sk, h) = zrun zpp E 191 (52, .null :: ls, .null :: sk, h) := zrun_at rfl
theorem zi191_52 {E : zE} {x : Nat} {ls sk : List Value} {h : zH} : zrun zpp E 191 (52, ls, .ref x :: sk, h) = (zfld [11] h x 5).bind (fun v => zrun zpp E 191 (55, ls, v :: sk, h)) := zg_getf rfl
theorem zi191_55 {E : zE} {v0 v1 : Value} {x : Int32} {ls sk : List Value} {h : zH} : zrun zpp E 191 (55, v0 :: v1 :: .int x :: ls, sk, h) = zrun zpp E 191 (56, v0 :: v1 :: .int x :: ls, .int x :: sk, h) := zrun_at rfl
theorem zi191_56 {E : zE} {ls sk : List Value} {h : zH} : zrun zpp E 191 (56, ls, sk, h) = zrun zpp E 191 (57, ls, .int 3 :: sk, h) := zg_iconst rfl ci_3
theorem zi191_57 {E : zE} {x y : Int32} {ls sk : List Value} {h : zH} : zrun zpp E 191 (57, ls, .int y :: .int x :: sk, h) = zrun zpp E 191 (58, ls, .int (x + y) :: sk, h) := zrun_at rfl
theorem zi191_58 {E : zE} {ls sk : List Value} {h : zH} : zrun zpp E 191 (58, ls, sk, h) = zrun zpp E 191 (59, ls, .int 1 :: sk, h) := zg_iconst rfl ci_1
theorem zi191_59 {E : zE} {x : Nat} {i v : Int32} {ls sk : List Value} {h : zH} : zrun zpp E 191 (59, ls, .int v :: .int i :: .ref x :: sk, h) = (zars 0 h x i v).bind (fun h' => zrun zpp E 191 (60, ls, sk, h')) := zg_iast rfl
theorem zi191_60 {E : zE} {x : Nat} {ls sk : List Value} {h : zH} : zrun zpp E 191 (60, .ref x :: ls, sk, h) = zrun zpp E 191 (61, .ref x :: ls, .ref x :: sk, h) := zrun_at rfl
theorem zi191_60n {E : zE} {ls sk : List Value} {h : zH} : zrun zpp E 191 (60, .null :: ls, sk, h) = zrun zpp E 191 (61, .null :: ls, .null :: sk, h) := zrun_at rfl
theorem zi191_61 {E : zE} {x : Nat} {ls sk : List Value} {h : zH} : zrun zpp E 191 (61, ls, .ref x :: sk, h) = (zfld [11] h x 5).bind (fun v => zrun zpp E 191 (64, ls, v :: sk, h)) := zg_getf rfl
theorem zi191_64 {E : zE} {ls sk : List Value} {h : zH} : zrun zpp E 191 (64, ls, sk, h) = zrun zpp E 191 (66, ls, .int 6 :: sk, h) := zg_bipush rfl ci_6
theorem zi191_66 {E : zE} {x : Int32} {y : Nat} {ls sk : List Value} {h : zH} : zrun zpp E 191 (66, ls, .int x :: .ref y :: sk, h) = zrun zpp E 191 (67, ls, .int x :: .ref y :: .int x :: .ref y :: sk, h) := zrun_at rfl
theorem zi191_67 {E : zE} {x : Nat} {i : Int32} {ls sk : List Value} {h : zH} : zrun zpp E 191 (67, ls, .int i :: .ref x :: sk, h) = (zarr 0 h x i).bind (fun v => zrun zpp E 191 (68, ls, .int v :: sk, h)) := zg_iald rfl
theorem zi191_68 {E : zE} {x : Nat} {ls sk : List Value} {h : zH} : zrun zpp E 191 (68, .ref x :: ls, sk, h) = zrun zpp E 191 (69, .ref x :: ls, .ref x :: sk, h) := zrun_at rfl
theorem zi191_68n {E : zE} {ls sk : List Value} {h : zH} : zrun zpp E 191 (68, .null :: ls, sk, h) = zrun zpp E 191 (69, .null :: ls, .null :: sk, h) := zrun_at rfl
theorem zi191_69 {E : zE} {x : Nat} {ls sk : List Value} {h : zH} : zrun zpp E 191 (69, ls, .ref x :: sk, h) = (zfld [11] h x 5).bind (fun v => zrun zpp E 191 (72, ls, v :: sk, h)) := zg_getf rfl
theorem zi191_72 {E : zE} {ls sk : List Value} {h : zH} : zrun zpp E 191 (72, ls, sk, h) = zrun zpp E 191 (73, ls, .int 1 :: sk, h) := zg_iconst rfl ci_1
theorem zi191_73 {E : zE} {x : Nat} {i : Int32} {ls sk : List Value} {h : zH} : zrun zpp E 191 (73, ls, .int i :: .ref x :: sk, h) = (zarr 0 h x i).bind (fun v => zrun zpp E 191 (74, ls, .int v :: sk, h)) := zg_iald rfl
theorem zi191_74 {E : zE} {x y : Int32} {ls sk : List Value} {h : zH} : zrun zpp E 191 (74, ls, .int y :: .int x :: sk, h) = zrun zpp E 191 (75, ls, .int (x + y) :: sk, h) := zrun_at rfl
theorem zi191_75 {E : zE} {x : Nat} {i v : Int32} {ls sk : List Value} {h : zH} : zrun zpp E 191 (75, ls, .int v :: .int i :: .ref x :: sk, h) = (zars 0 h x i v).bind (fun h' => zrun zpp E 191 (76, ls, sk, h')) := zg_iast rfl
theorem zi191_76 {E : zE} {x : Nat} {ls sk : List Value} {h : zH} : zrun zpp E 191 (76, .ref x :: ls, sk, h) = zrun zpp E 191 (77, .ref x :: ls, .ref x :: sk, h) := zrun_at rfl
theorem zi191_76n {E : zE} {ls sk : List Value} {h : zH} : zrun zpp E 191 (76, .null :: ls, sk, h) = zrun zpp E 191 (77, .null :: ls, .null :: sk, h) := zrun_at rfl
theorem zi191_77 {E : zE} {x : Nat} {ls sk : List Value} {h : zH} : zrun zpp E 191 (77, ls, .ref x :: sk, h) = (zfld [11] h x 5).bind (fun v => zrun zpp E 191 (80, ls, v :: sk, h)) := zg_getf rfl
theorem zi191_80 {E : zE} {ls sk : List Value} {h : zH} : zrun zpp E 191 (80, ls, sk, h) = zrun zpp E 191 (82, ls, .int 6 :: sk, h) := zg_bipush rfl ci_6
theorem zi191_82 {E : zE} {x : Nat} {i : Int32} {ls sk : List Value} {h : zH} : zrun zpp E 191 (82, ls, .int i :: .ref x :: sk, h) = (zarr 0 h x i).bind (fun v => zrun zpp E 191 (83, ls, .int v :: sk, h)) := zg_iald rfl
theorem zi191_83 {E : zE} {x : Int32} {ls sk : List Value} {h : zH} : zrun zpp E 191 (83, ls, [.int x], h) = some (some (.int x), h) := zrun_at rfl
-- 192 NineDownModel.fall
theorem zi192_0 {E : zE} {x : Nat} {ls sk : List Value} {h : zH} : zrun zpp E 192 (0, .ref x :: ls, sk, h) = zrun zpp E 192 (1, .ref x :: ls, .ref x :: sk, h) := zrun_at rfl
theorem zi192_0n {E : zE} {ls sk : List Value} {h : zH} : zrun zpp E 192 (0, .null :: ls, sk, h) = zrun zpp E 192 (1, .null :: ls, .null :: sk, h) := zrun_at rfl
theorem zi192_1 {E : zE} {ls sk : List Value} {h : zH} : zrun zpp E 192 (1, ls, sk, h) = zrun zpp E 192 (2, ls, .int 0 :: sk, h) := zg_iconst rfl ci_0
theorem zi192_2 {E : zE} {x : Nat} {v : Value} {ls sk : List Value} {h : zH} : zrun zpp E 192 (2, ls, v :: .ref x :: sk, h) = (zstf [11] 0 h x 0 v).bind (fun h' => zrun zpp E 192 (5, ls, sk, h')) := zg_putf rfl
theorem zi192_5 {E : zE} {x : Nat} {ls sk : List Value} {h : zH} : zrun zpp E 192 (5, .ref x :: ls, sk, h) = zrun zpp E 192 (6, .ref x :: ls, .ref x :: sk, h) := zrun_at rfl
theorem zi192_5n {E : zE} {ls sk : List Value} {h : zH} : zrun zpp E 192 (5, .null :: ls, sk, h) = zrun zpp E 192 (6, .null :: ls, .null :: sk, h) := zrun_at rfl
theorem zi192_6 {E : zE} {v0 : Value} {x : Int32} {ls sk : List Value} {h : zH} : zrun zpp E 192 (6, v0 :: .int x :: ls, sk, h) = zrun zpp E 192 (7, v0 :: .int x :: ls, .int x :: sk, h) := zrun_at rfl
theorem zi192_7 {E : zE} {x : Int32} {ls sk : List Value} {h : zH} : zrun zpp E 192 (7, ls, .int x :: sk, h) = zrun zpp E 192 (8, ls, .long x.toInt64 :: sk, h) := zrun_at rfl
theorem zi192_8 {E : zE} {a0 : Value} {x : Nat} {ls sk : List Value} {h : zH} : zrun zpp E 192 (8, ls, a0 :: .ref x :: sk, h) = (zcls h x).bind (fun d => (zsel d [11, 173]).bind (fun M' => zcl1 E 192 11 M' ls sk [.ref x, a0] h)) := zg_vir (as := [a0]) rfl rfl
theorem zi192_11 {E : zE} {x : Int32} {ls sk : List Value} {h : zH} : zrun zpp E 192 (11, ls, .int x :: sk, h) = if x = 0 then zrun zpp E 192 (14, ls, sk, h) else zrun zpp E 192 (17, ls, sk, h) := zrun_at rfl
theorem zi192_14 {E : zE} {ls sk : List Value} {h : zH} : zrun zpp E 192 (14, ls, sk, h) = zrun zpp E 192 (16, ls, .int (-1000001) :: sk, h) := zg_ldc rfl ci_m1000001
theorem zi192_16 {E : zE} {x : Int32} {ls sk : List Value} {h : zH} : zrun zpp E 192 (16, ls, [.int x], h) = some (some (.int x), h) := zrun_at rfl
theorem zi192_17 {E : zE} {x : Nat} {ls sk : List Value} {h : zH} : zrun zpp E 192 (17, .ref x :: ls, sk, h) = zrun zpp E 192 (18, .ref x :: ls, .ref x :: sk, h) := zrun_at rfl
theorem zi192_17n {E : zE} {ls sk : List Value} {h : zH} : zrun zpp E 192 (17, .null :: ls, sk, h) = zrun zpp E 192 (18, .null :: ls, .null :: sk, h) := zrun_at rfl
theorem zi192_18 {E : zE} {x : Nat} {ls sk : List Value} {h : zH} : zrun zpp E 192 (18, ls, .ref x :: sk, h) = (zfld [11] h x 5).bind (fun v => zrun zpp E 192 (21, ls, v :: sk, h)) := zg_getf rfl
theorem zi192_21 {E : zE} {ls sk : List Value} {h : zH} : zrun zpp E 192 (21, ls, sk, h) = zrun zpp E 192 (23, ls, .int 8 :: sk, h) := zg_bipush rfl ci_8
theorem zi192_23 {E : zE} {x : Nat} {i : Int32} {ls sk : List Value} {h : zH} : zrun zpp E 192 (23, ls, .int i :: .ref x :: sk, h) = (zarr 0 h x i).bind (fun v => zrun zpp E 192 (24, ls, .int v :: sk, h)) := zg_iald rfl
theorem zi192_24 {E : zE} {v0 : Value} {x : Int32} {ls sk : List Value} {h : zH} : zrun zpp E 192 (24, v0 :: .int x :: ls, sk, h) = zrun zpp E 192 (25, v0 :: .int x :: ls, .int x :: sk, h) := zrun_at rfl
theorem zi192_25 {E : zE} {a0 a1 : Value} {ls sk : List Value} {h : zH} : zrun zpp E 192 (25, ls, a1 :: a0 :: sk, h) = zcl1 E 192 28 181 ls sk [a0, a1] h := zg_inv (as := [a0, a1]) rfl rfl
theorem zi192_28 {E : zE} {x : Int32} {ls sk : List Value} {h : zH} : zrun zpp E 192 (28, ls, .int x :: sk, h) = if x = 0 then zrun zpp E 192 (34, ls, sk, h) else zrun zpp E 192 (31, ls, sk, h) := zrun_at rfl
theorem zi192_31 {E : zE} {ls sk : List Value} {h : zH} : zrun zpp E 192 (31, ls, sk, h) = zrun zpp E 192 (33, ls, .int (-1000002) :: sk, h) := zg_ldc rfl ci_m1000002
theorem zi192_33 {E : zE} {x : Int32} {ls sk : List Value} {h : zH} : zrun zpp E 192 (33, ls, [.int x], h) = some (some (.int x), h) := zrun_at rfl
theorem zi192_34 {E : zE} {x : Nat} {ls sk : List Value} {h : zH} : zrun zpp E 192 (34, .ref x :: ls, sk, h) = zrun zpp E 192 (35, .ref x :: ls, .ref x :: sk, h) := zrun_at rfl
theorem zi192_34n {E : zE} {ls sk : List Value} {h : zH} : zrun zpp E 192 (34, .null :: ls, sk, h) = zrun zpp E 192 (35, .null :: ls, .null :: sk, h) := zrun_at rfl
theorem zi192_35 {E : zE} {x : Nat} {ls sk : List Value} {h : zH} : zrun zpp E 192 (35, ls, .ref x :: sk, h) = (zcls h x).bind (fun d => (zsel d [11, 189]).bind (fun M' => zcl1 E 192 38 M' ls sk [.ref x] h)) := zg_vir (as := []) rfl rfl
theorem zi192_38 {E : zE} {x : Nat} {ls sk : List Value} {h : zH} : zrun zpp E 192 (38, .ref x :: ls, sk, h) = zrun zpp E 192 (39, .ref x :: ls, .ref x :: sk, h) := zrun_at rfl
theorem zi192_38n {E : zE} {ls sk : List Value} {h : zH} : zrun zpp E 192 (38, .null :: ls, sk, h) = zrun zpp E 192 (39, .null :: ls, .null :: sk, h) := zrun_at rfl
theorem zi192_39 {E : zE} {x : Nat} {ls sk : List Value} {h : zH} : zrun zpp E 192 (39, ls, .ref x :: sk, h) = (zfld [11] h x 5).bind (fun v => zrun zpp E 192 (42, ls, v :: sk, h)) := zg_getf rfl
theorem zi192_42 {E : zE} {ls sk : List Value} {h : zH} : zrun zpp E 192 (42, ls, sk, h) = zrun zpp E 192 (44, ls, .int 8 :: sk, h) := zg_bipush rfl ci_8
theorem zi192_44 {E : zE} {x : Int32} {y : Nat} {ls sk : List Value} {h : zH} : zrun zpp E 192 (44, ls, .int x :: .ref y :: sk, h) = zrun zpp E 192 (45, ls, .int x :: .ref y :: .int x :: .ref y :: sk, h) := zrun_at rfl
theorem zi192_45 {E : zE} {x : Nat} {i : Int32} {ls sk : List Value} {h : zH} : zrun zpp E 192 (45, ls, .int i :: .ref x :: sk, h) = (zarr 0 h x i).bind (fun v => zrun zpp E 192 (46, ls, .int v :: sk, h)) := zg_iald rfl
theorem zi192_46 {E : zE} {ls sk : List Value} {h : zH} : zrun zpp E 192 (46, ls, sk, h) = zrun zpp E 192 (47, ls, .int 1 :: sk, h) := zg_iconst rfl ci_1
theorem zi192_47 {E : zE} {v0 : Value} {x : Int32} {ls sk : List Value} {h : zH} : zrun zpp E 192 (47, v0 :: .int x :: ls, sk, h) = zrun zpp E 192 (48, v0 :: .int x :: ls, .int x :: sk, h) := zrun_at rfl
theorem zi192_48 {E : zE} {x y : Int32} {ls sk : List Value} {h : zH} : zrun zpp E 192 (48, ls, .int y :: .int x :: sk, h) = zrun zpp E 192 (49, ls, .int (x <<< (y &&& 31)) :: sk, h) := zrun_at rfl
theorem zi192_49 {E : zE} {x y : Int32} {ls sk : List Value} {h : zH} : zrun zpp E 192 (49, ls, .int y :: .int x :: sk, h) = zrun zpp E 192 (50, ls, .int (x ||| y) :: sk, h) := zrun_at rfl
theorem zi192_50 {E : zE} {x : Nat} {i v : Int32} {ls sk : List Value} {h : zH} : zrun zpp E 192 (50, ls, .int v :: .int i :: .ref x :: sk, h) = (zars 0 h x i v).bind (fun h' => zrun zpp E 192 (51, ls, sk, h')) := zg_iast rfl
theorem zi192_51 {E : zE} {x : Nat} {ls sk : List Value} {h : zH} : zrun zpp E 192 (51, .ref x :: ls, sk, h) = zrun zpp E 192 (52, .ref x :: ls, .ref x :: sk, h) := zrun_at rfl
theorem zi192_51n {E : zE} {ls sk : List Value} {h : zH} : zrun zpp E 192 (51, .null :: ls, sk, h) = zrun zpp E 192 (52, .null :: ls, .null :: sk, h) := zrun_at rfl
theorem zi192_52 {E : zE} {x : Nat} {ls sk : List Value} {h : zH} : zrun zpp E 192 (52, ls, .ref x :: sk, h) = (zfld [11] h x 5).bind (fun v => zrun zpp E 192 (55, ls, v :: sk, h)) := zg_getf rfl
theorem zi192_55 {E : zE} {ls sk : List Value} {h : zH} : zrun zpp E 192 (55, ls, sk, h) = zrun zpp E 192 (57, ls, .int 7 :: sk, h) := zg_bipush rfl ci_7
theorem zi192_57 {E : zE} {x : Int32} {y : Nat} {ls sk : List Value} {h : zH} : zrun zpp E 192 (57, ls, .int x :: .ref y :: sk, h) = zrun zpp E 192 (58, ls, .int x :: .ref y :: .int x :: .ref y :: sk, h) := zrun_at rfl
theorem zi192_58 {E : zE} {x : Nat} {i : Int32} {ls sk : List Value} {h : zH} : zrun zpp E 192 (58, ls, .int i :: .ref x :: sk, h) = (zarr 0 h x i).bind (fun v => zrun zpp E 192 (59, ls, .int v :: sk, h)) := zg_iald rfl
theorem zi192_59 {E : zE} {ls sk : List Value} {h : zH} : zrun zpp E 192 (59, ls, sk, h) = zrun zpp E 192 (60, ls, .int 1 :: sk, h) := zg_iconst rfl ci_1
theorem zi192_60 {E : zE} {x y : Int32} {ls sk : List Value} {h : zH} : zrun zpp E 192 (60, ls, .int y :: .int x :: sk, h) = zrun zpp E 192 (61, ls, .int (x + y) :: sk, h) := zrun_at rfl
theorem zi192_61 {E : zE} {x : Nat} {i v : Int32} {ls sk : List Value} {h : zH} : zrun zpp E 192 (61, ls, .int v :: .int i :: .ref x :: sk, h) = (zars 0 h x i v).bind (fun h' => zrun zpp E 192 (62, ls, sk, h')) := zg_iast rfl
theorem zi192_62 {E : zE} {x : Nat} {ls sk : List Value} {h : zH} : zrun zpp E 192 (62, .ref x :: ls, sk, h) = zrun zpp E 192 (63, .ref x :: ls, .ref x :: sk, h) := zrun_at rfl
theorem zi192_62n {E : zE} {ls sk : List Value} {h : zH} : zrun zpp E 192 (62, .null :: ls, sk, h) = zrun zpp E 192 (63, .null :: ls, .null :: sk, h) := zrun_at rfl
theorem zi192_63 {E : zE} {x : Nat} {ls sk : List Value} {h : zH} : zrun zpp E 192 (63, ls, .ref x :: sk, h) = (zfld [11] h x 5).bind (fun v => zrun zpp E 192 (66, ls, v :: sk, h)) := zg_getf rfl
theorem zi192_66 {E : zE} {ls sk : List Value} {h : zH} : zrun zpp E 192 (66, ls, sk, h) = zrun zpp E 192 (68, ls, .int 7 :: sk, h) := zg_bipush rfl ci_7
theorem zi192_68 {E : zE} {x : Nat} {i : Int32} {ls sk : List Value} {h : zH} : zrun zpp E 192 (68, ls, .int i :: .ref x :: sk, h) = (zarr 0 h x i).bind (fun v => zrun zpp E 192 (69, ls, .int v :: sk, h)) := zg_iald rfl
theorem zi192_69 {E : zE} {x : Int32} {ls sk : List Value} {h : zH} : zrun zpp E 192 (69, ls, [.int x], h) = some (some (.int x), h) := zrun_at rfl
-- 193 NineDownModel.space
theorem zi193_0 {E : zE} {x : Nat} {ls sk : List Value} {h : zH} : zrun zpp E 193 (0, .ref x :: ls, sk, h) = zrun zpp E 193 (1, .ref x :: ls, .ref x :: sk, h) := zrun_at rfl
theorem zi193_0n {E : zE} {ls sk : List Value} {h : zH} : zrun zpp E 193 (0, .null :: ls, sk, h) = zrun zpp E 193 (1, .null :: ls, .null :: sk, h) := zrun_at rfl
theorem zi193_1 {E : zE} {ls sk : List Value} {h : zH} : zrun zpp E 193 (1, ls, sk, h) = zrun zpp E 193 (2, ls, .int 0 :: sk, h) := zg_iconst rfl ci_0
theorem zi193_2 {E : zE} {x : Nat} {v : Value} {ls sk : List Value} {h : zH} : zrun zpp E 193 (2, ls, v :: .ref x :: sk, h) = (zstf [11] 0 h x 0 v).bind (fun h' => zrun zpp E 193 (5, ls, sk, h')) := zg_putf rfl
theorem zi193_5 {E : zE} {x : Nat} {ls sk : List Value} {h : zH} : zrun zpp E 193 (5, .ref x :: ls, sk, h) = zrun zpp E 193 (6, .ref x :: ls, .ref x :: sk, h) := zrun_at rfl
theorem zi193_5n {E : zE} {ls sk : List Value} {h : zH} : zrun zpp E 193 (5, .null :: ls, sk, h) = zrun zpp E 193 (6, .null :: ls, .null :: sk, h) := zrun_at rfl
theorem zi193_6 {E : zE} {v0 : Value} {x : Int32} {ls sk : List Value} {h : zH} : zrun zpp E 193 (6, v0 :: .int x :: ls, sk, h) = zrun zpp E 193 (7, v0 :: .int x :: ls, .int x :: sk, h) := zrun_at rfl
theorem zi193_7 {E : zE} {x : Int32} {ls sk : List Value} {h : zH} : zrun zpp E 193 (7, ls, .int x :: sk, h) = zrun zpp E 193 (8, ls, .long x.toInt64 :: sk, h) := zrun_at rfl
theorem zi193_8 {E : zE} {a0 : Value} {x : Nat} {ls sk : List Value} {h : zH} : zrun zpp E 193 (8, ls, a0 :: .ref x :: sk, h) = (zcls h x).bind (fun d => (zsel d [11, 173]).bind (fun M' => zcl1 E 193 11 M' ls sk [.ref x, a0] h)) := zg_vir (as := [a0]) rfl rfl
theorem zi193_11 {E : zE} {x : Int32} {ls sk : List Value} {h : zH} : zrun zpp E 193 (11, ls, .int x :: sk, h) = if x = 0 then zrun zpp E 193 (26, ls, sk, h) else zrun zpp E 193 (14, ls, sk, h) := zrun_at rfl
theorem zi193_14 {E : zE} {v0 v1 : Value} {x : Int32} {ls sk : List Value} {h : zH} : zrun zpp E 193 (14, v0 :: v1 :: .int x :: ls, sk, h) = zrun zpp E 193 (15, v0 :: v1 :: .int x :: ls, .int x :: sk, h) := zrun_at rfl
theorem zi193_15 {E : zE} {x : Int32} {ls sk : List Value} {h : zH} : zrun zpp E 193 (15, ls, .int x :: sk, h) = zrun zpp E 193 (16, ls, .long x.toInt64 :: sk, h) := zrun_at rfl
theorem zi193_16 {E : zE} {ls sk : List Value} {h : zH} : zrun zpp E 193 (16, ls, sk, h) = zrun zpp E 193 (17, ls, .long 1 :: sk, h) := zg_lconst rfl rfl
theorem zi193_17 {E : zE} {ls sk : List Value} {h : zH} : zrun zpp E 193 (17, ls, sk, h) = zrun zpp E 193 (20, ls, .long 20 :: sk, h) := zg_ldc2_w rfl cj_20
theorem zi193_20 {E : zE} {a0 a1 a2 : Value} {ls sk : List Value} {h : zH} : zrun zpp E 193 (20, ls, a2 :: a1 :: a0 :: sk, h) = zcl1 E 193 23 149 ls sk [a0, a1, a2] h := zg_inv (as := [a0, a1, a2]) rfl rfl
theorem zi193_23 {E : zE} {x : Int32} {ls sk : List Value} {h : zH} : zrun zpp E 193 (23, ls, .int x :: sk, h) = if x = 0 then zrun zpp E 193 (26, ls, sk, h) else zrun zpp E 193 (29, ls, sk, h) := zrun_at rfl
theorem zi193_26 {E : zE} {ls sk : List Value} {h : zH} : zrun zpp E 193 (26, ls, sk, h) = zrun zpp E 193 (28, ls, .int (-1000001) :: sk, h) := zg_ldc rfl ci_m1000001
theorem zi193_28 {E : zE} {x : Int32} {ls sk : List Value} {h : zH} : zrun zpp E 193 (28, ls, [.int x], h) = some (some (.int x), h) := zrun_at rfl
theorem zi193_29 {E : zE} {x : Nat} {ls sk : List Value} {h : zH} : zrun zpp E 193 (29, .ref x :: ls, sk, h) = zrun zpp E 193 (30, .ref x :: ls, .ref x :: sk, h) := zrun_at rfl
theorem zi193_29n {E : zE} {ls sk : List Value} {h : zH} : zrun zpp E 193 (29, .null :: ls, sk, h) = zrun zpp E 193 (30, .null :: ls, .null :: sk, h) := zrun_at rfl
theorem zi193_30 {E : zE} {x : Nat} {ls sk : List Value} {h : zH} : zrun zpp E 193 (30, ls, .ref x :: sk, h) = (zcls h x).bind (fun d => (zsel d [11, 189]).bind (fun M' => zcl1 E 193 33 M' ls sk [.ref x] h)) := zg_vir (as := []) rfl rfl
theorem zi193_33 {E : zE} {x : Nat} {ls sk : List Value} {h : zH} : zrun zpp E 193 (33, .ref x :: ls, sk, h) = zrun zpp E 193 (34, .ref x :: ls, .ref x :: sk, h) := zrun_at rfl
theorem zi193_33n {E : zE} {ls sk : List Value} {h : zH} : zrun zpp E 193 (33, .null :: ls, sk, h) = zrun zpp E 193 (34, .null :: ls, .null :: sk, h) := zrun_at rfl
theorem zi193_34 {E : zE} {v0 : Value} {x : Int32} {ls sk : List Value} {h : zH} : zrun zpp E 193 (34, v0 :: .int x :: ls, sk, h) = zrun zpp E 193 (35, v0 :: .int x :: ls, .int x :: sk, h) := zrun_at rfl
theorem zi193_35 {E : zE} {a0 : Value} {x : Nat} {ls sk : List Value} {h : zH} : zrun zpp E 193 (35, ls, a0 :: .ref x :: sk, h) = (zcls h x).bind (fun d => (zsel d [11, 178]).bind (fun M' => zcl1 E 193 38 M' ls sk [.ref x, a0] h)) := zg_vir (as := [a0]) rfl rfl
theorem zi193_38 {E : zE} {x : Int32} {ls sk : List Value} {h : zH} : zrun zpp E 193 (38, ls, .int x :: sk, h) = if zfree ls 3 = true then zrun zpp E 193 (39, ls.set 3 (.int x), sk, h) else none := zg_ist rfl (fun _ _ _ => rfl)
theorem zi193_39 {E : zE} {x : Nat} {ls sk : List Value} {h : zH} : zrun zpp E 193 (39, .ref x :: ls, sk, h) = zrun zpp E 193 (40, .ref x :: ls, .ref x :: sk, h) := zrun_at rfl
theorem zi193_39n {E : zE} {ls sk : List Value} {h : zH} : zrun zpp E 193 (39, .null :: ls, sk, h) = zrun zpp E 193 (40, .null :: ls, .null :: sk, h) := zrun_at rfl
theorem zi193_40 {E : zE} {x : Nat} {ls sk : List Value} {h : zH} : zrun zpp E 193 (40, ls, .ref x :: sk, h) = (zfld [11] h x 5).bind (fun v => zrun zpp E 193 (43, ls, v :: sk, h)) := zg_getf rfl
theorem zi193_43 {E : zE} {ls sk : List Value} {h : zH} : zrun zpp E 193 (43, ls, sk, h) = zrun zpp E 193 (45, ls, .int 9 :: sk, h) := zg_bipush rfl ci_9
theorem zi193_45 {E : zE} {ls sk : List Value} {h : zH} : zrun zpp E 193 (45, ls, sk, h) = zrun zpp E 193 (46, ls, .int 2 :: sk, h) := zg_iconst rfl ci_2
theorem zi193_46 {E : zE} {v0 : Value} {x : Int32} {ls sk : List Value} {h : zH} : zrun zpp E 193 (46, v0 :: .int x :: ls, sk, h) = zrun zpp E 193 (47, v0 :: .int x :: ls, .int x :: sk, h) := zrun_at rfl
theorem zi193_47 {E : zE} {x y : Int32} {ls sk : List Value} {h : zH} : zrun zpp E 193 (47, ls, .int y :: .int x :: sk, h) = zrun zpp E 193 (48, ls, .int (x * y) :: sk, h) := zrun_at rfl
theorem zi193_48 {E : zE} {x y : Int32} {ls sk : List Value} {h : zH} : zrun zpp E 193 (48, ls, .int y :: .int x :: sk, h) = zrun zpp E 193 (49, ls, .int (x + y) :: sk, h) := zrun_at rfl
theorem zi193_49 {E : zE} {ls sk : List Value} {h : zH} : zrun zpp E 193 (49, ls, sk, h) = zrun zpp E 193 (50, ls, .int 1 :: sk, h) := zg_iconst rfl ci_1
theorem zi193_50 {E : zE} {x y : Int32} {ls sk : List Value} {h : zH} : zrun zpp E 193 (50, ls, .int y :: .int x :: sk, h) = zrun zpp E 193 (51, ls, .int (x + y) :: sk, h) := zrun_at rfl
theorem zi193_51 {E : zE} {v0 v1 : Value} {x : Int32} {ls sk : List Value} {h : zH} : zrun zpp E 193 (51, v0 :: v1 :: .int x :: ls, sk, h) = zrun zpp E 193 (52, v0 :: v1 :: .int x :: ls, .int x :: sk, h) := zrun_at rfl
theorem zi193_52 {E : zE} {x : Nat} {i v : Int32} {ls sk : List Value} {h : zH} : zrun zpp E 193 (52, ls, .int v :: .int i :: .ref x :: sk, h) = (zars 0 h x i v).bind (fun h' => zrun zpp E 193 (53, ls, sk, h')) := zg_iast rfl
theorem zi193_53 {E : zE} {v0 v1 v2 : Value} {x : Int32} {ls sk : List Value} {h : zH} : zrun zpp E 193 (53, v0 :: v1 :: v2 :: .int x :: ls, sk, h) = zrun zpp E 193 (54, v0 :: v1 :: v2 :: .int x :: ls, .int x :: sk, h) := zrun_at rfl
theorem zi193_54 {E : zE} {x : Int32} {ls sk : List Value} {h : zH} : zrun zpp E 193 (54, ls, [.int x], h) = some (some (.int x), h) := zrun_at rfl
-- 194 NineDownModel.undo
theorem zi194_0 {E : zE} {x : Nat} {ls sk : List Value} {h : zH} : zrun zpp E 194 (0, .ref x :: ls, sk, h) = zrun zpp E 194 (1, .ref x :: ls, .ref x :: sk, h) := zrun_at rfl
theorem zi194_0n {E : zE} {ls sk : List Value} {h : zH} : zrun zpp E 194 (0, .null :: ls, sk, h) = zrun zpp E 194 (1, .null :: ls, .null :: sk, h) := zrun_at rfl
theorem zi194_1 {E : zE} {ls sk : List Value} {h : zH} : zrun zpp E 194 (1, ls, sk, h) = zrun zpp E 194 (2, ls, .int 0 :: sk, h) := zg_iconst rfl ci_0
theorem zi194_2 {E : zE} {x : Nat} {v : Value} {ls sk : List Value} {h : zH} : zrun zpp E 194 (2, ls, v :: .ref x :: sk, h) = (zstf [11] 0 h x 0 v).bind (fun h' => zrun zpp E 194 (5, ls, sk, h')) := zg_putf rfl
theorem zi194_5 {E : zE} {x : Nat} {ls sk : List Value} {h : zH} : zrun zpp E 194 (5, .ref x :: ls, sk, h) = zrun zpp E 194 (6, .ref x :: ls, .ref x :: sk, h) := zrun_at rfl
theorem zi194_5n {E : zE} {ls sk : List Value} {h : zH} : zrun zpp E 194 (5, .null :: ls, sk, h) = zrun zpp E 194 (6, .null :: ls, .null :: sk, h) := zrun_at rfl
theorem zi194_6 {E : zE} {x : Nat} {ls sk : List Value} {h : zH} : zrun zpp E 194 (6, ls, .ref x :: sk, h) = (zfld [11] h x 8).bind (fun v => zrun zpp E 194 (9, ls, v :: sk, h)) := zg_getf rfl
theorem zi194_9 {E : zE} {x : Int32} {ls sk : List Value} {h : zH} : zrun zpp E 194 (9, ls, .int x :: sk, h) = if x = 0 then zrun zpp E 194 (12, ls, sk, h) else zrun zpp E 194 (15, ls, sk, h) := zrun_at rfl
theorem zi194_12 {E : zE} {ls sk : List Value} {h : zH} : zrun zpp E 194 (12, ls, sk, h) = zrun zpp E 194 (14, ls, .int (-1000002) :: sk, h) := zg_ldc rfl ci_m1000002
theorem zi194_14 {E : zE} {x : Int32} {ls sk : List Value} {h : zH} : zrun zpp E 194 (14, ls, [.int x], h) = some (some (.int x), h) := zrun_at rfl
theorem zi194_15 {E : zE} {x : Nat} {ls sk : List Value} {h : zH} : zrun zpp E 194 (15, .ref x :: ls, sk, h) = zrun zpp E 194 (16, .ref x :: ls, .ref x :: sk, h) := zrun_at rfl
theorem zi194_15n {E : zE} {ls sk : List Value} {h : zH} : zrun zpp E 194 (15, .null :: ls, sk, h) = zrun zpp E 194 (16, .null :: ls, .null :: sk, h) := zrun_at rfl
theorem zi194_16 {E : zE} {x : Nat} {ls sk : List Value} {h : zH} : zrun zpp E 194 (16, ls, .ref x :: sk, h) = zrun zpp E 194 (17, ls, .ref x :: .ref x :: sk, h) := zrun_at rfl
theorem zi194_16i {E : zE} {x : Int32} {ls sk : List Value} {h : zH} : zrun zpp E 194 (16, ls, .int x :: sk, h) = zrun zpp E 194 (17, ls, .int x :: .int x :: sk, h) := zrun_at rfl
theorem zi194_17 {E : zE} {x : Nat} {ls sk : List Value} {h : zH} : zrun zpp E 194 (17, ls, .ref x :: sk, h) = (zfld [11] h x 8).bind (fun v => zrun zpp E 194 (20, ls, v :: sk, h)) := zg_getf rfl
theorem zi194_20 {E : zE} {ls sk : List Value} {h : zH} : zrun zpp E 194 (20, ls, sk, h) = zrun zpp E 194 (21, ls, .int 1 :: sk, h) := zg_iconst rfl ci_1
theorem zi194_21 {E : zE} {x y : Int32} {ls sk : List Value} {h : zH} : zrun zpp E 194 (21, ls, .int y :: .int x :: sk, h) = zrun zpp E 194 (22, ls, .int (x - y) :: sk, h) := zrun_at rfl
theorem zi194_22 {E : zE} {x : Nat} {v : Value} {ls sk : List Value} {h : zH} : zrun zpp E 194 (22, ls, v :: .ref x :: sk, h) = (zstf [11] 0 h x 8 v).bind (fun h' => zrun zpp E 194 (25, ls, sk, h')) := zg_putf rfl
theorem zi194_25 {E : zE} {ls sk : List Value} {h : zH} : zrun zpp E 194 (25, ls, sk, h) = zrun zpp E 194 (26, ls, .int 0 :: sk, h) := zg_iconst rfl ci_0
theorem zi194_26 {E : zE} {x : Int32} {ls sk : List Value} {h : zH} : zrun zpp E 194 (26, ls, .int x :: sk, h) = if zfree ls 1 = true then zrun zpp E 194 (27, ls.set 1 (.int x), sk, h) else none := zg_ist rfl (fun _ _ _ => rfl)
theorem zi194_27 {E : zE} {v0 : Value} {x : Int32} {ls sk : List Value} {h : zH} : zrun zpp E 194 (27, v0 :: .int x :: ls, sk, h) = zrun zpp E 194 (28, v0 :: .int x :: ls, .int x :: sk, h) := zrun_at rfl
theorem zi194_28 {E : zE} {ls sk : List Value} {h : zH} : zrun zpp E 194 (28, ls, sk, h) = zrun zpp E 194 (30, ls, .int 73 :: sk, h) := zg_bipush rfl ci_73
theorem zi194_30 {E : zE} {x y : Int32} {ls sk : List Value} {h : zH} : zrun zpp E 194 (30, ls, .int y :: .int x :: sk, h) = if y ≤ x then zrun zpp E 194 (59, ls, sk, h) else zrun zpp E 194 (33, ls, sk, h) := zrun_at rfl
theorem zi194_33 {E : zE} {x : Nat} {ls sk : List Value} {h : zH} : zrun zpp E 194 (33, .ref x :: ls, sk, h) = zrun zpp E 194 (34, .ref x :: ls, .ref x :: sk, h) := zrun_at rfl
theorem zi194_33n {E : zE} {ls sk : List Value} {h : zH} : zrun zpp E 194 (33, .null :: ls, sk, h) = zrun zpp E 194 (34, .null :: ls, .null :: sk, h) := zrun_at rfl
theorem zi194_34 {E : zE} {x : Nat} {ls sk : List Value} {h : zH} : zrun zpp E 194 (34, ls, .ref x :: sk, h) = (zfld [11] h x 5).bind (fun v => zrun zpp E 194 (37, ls, v :: sk, h)) := zg_getf rfl
theorem zi194_37 {E : zE} {v0 : Value} {x : Int32} {ls sk : List Value} {h : zH} : zrun zpp E 194 (37, v0 :: .int x :: ls, sk, h) = zrun zpp E 194 (38, v0 :: .int x :: ls, .int x :: sk, h) := zrun_at rfl
theorem zi194_38 {E : zE} {x : Nat} {ls sk : List Value} {h : zH} : zrun zpp E 194 (38, .ref x :: ls, sk, h) = zrun zpp E 194 (39, .ref x :: ls, .ref x :: sk, h) := zrun_at rfl
theorem zi194_38n {E : zE} {ls sk : List Value} {h : zH} : zrun zpp E 194 (38, .null :: ls, sk, h) = zrun zpp E 194 (39, .null :: ls, .null :: sk, h) := zrun_at rfl
theorem zi194_39 {E : zE} {x : Nat} {ls sk : List Value} {h : zH} : zrun zpp E 194 (39, ls, .ref x :: sk, h) = (zfld [11] h x 7).bind (fun v => zrun zpp E 194 (42, ls, v :: sk, h)) := zg_getf rfl
theorem zi194_42 {E : zE} {ls sk : List Value} {h : zH} : zrun zpp E 194 (42, ls, sk, h) = zrun zpp E 194 (44, ls, .int 73 :: sk, h) := zg_bipush rfl ci_73
theorem zi194_44 {E : zE} {x : Nat} {ls sk : List Value} {h : zH} : zrun zpp E 194 (44, .ref x :: ls, sk, h) = zrun zpp E 194 (45, .ref x :: ls, .ref x :: sk, h) := zrun_at rfl
theorem zi194_44n {E : zE} {ls sk : List Value} {h : zH} : zrun zpp E 194 (44, .null :: ls, sk, h) = zrun zpp E 194 (45, .null :: ls, .null :: sk, h) := zrun_at rfl
theorem zi194_45 {E : zE} {x : Nat} {ls sk : List Value} {h : zH} : zrun zpp E 194 (45, ls, .ref x :: sk, h) = (zfld [11] h x 8).bind (fun v => zrun zpp E 194 (48, ls, v :: sk, h)) := zg_getf rfl
theorem zi194_48 {E : zE} {x y : Int32} {ls sk : List Value} {h : zH} : zrun zpp E 194 (48, ls, .int y :: .int x :: sk, h) = zrun zpp E 194 (49, ls, .int (x * y) :: sk, h) := zrun_at rfl
theorem zi194_49 {E : zE} {v0 : Value} {x : Int32} {ls sk : List Value} {h : zH} : zrun zpp E 194 (49, v0 :: .int x :: ls, sk, h) = zrun zpp E 194 (50, v0 :: .int x :: ls, .int x :: sk, h) := zrun_at rfl
theorem zi194_50 {E : zE} {x y : Int32} {ls sk : List Value} {h : zH} : zrun zpp E 194 (50, ls, .int y :: .int x :: sk, h) = zrun zpp E 194 (51, ls, .int (x + y) :: sk, h) := zrun_at rfl
theorem zi194_51 {E : zE} {x : Nat} {i : Int32} {ls sk : List Value} {h : zH} : zrun zpp E 194 (51, ls, .int i :: .ref x :: sk, h) = (zarr 0 h x i).bind (fun v => zrun zpp E 194 (52, ls, .int v :: sk, h)) := zg_iald rfl
theorem zi194_52 {E : zE} {x : Nat} {i v : Int32} {ls sk : List Value} {h : zH} : zrun zpp E 194 (52, ls, .int v :: .int i :: .ref x :: sk, h) = (zars 0 h x i v).bind (fun h' => zrun zpp E 194 (53, ls, sk, h')) := zg_iast rfl
theorem zi194_53 {E : zE} {v0 : Value} {x : Int32} {ls sk : List Value} {h : zH} : zrun zpp E 194 (53, v0 :: .int x :: ls, sk, h) = if zfree (v0 :: .int x :: ls) 1 = true then zrun zpp E 194 (56, v0 :: .int (x + 1) :: ls, sk, h) else none := by rw [← ci_1]; exact zrun_at rfl
theorem zi194_56 {E : zE} {ls sk : List Value} {h : zH} : zrun zpp E 194 (56, ls, sk, h) = zrun zpp E 194 (27, ls, sk, h) := zrun_at rfl
theorem zi194_59 {E : zE} {x : Nat} {ls sk : List Value} {h : zH} : zrun zpp E 194 (59, .ref x :: ls, sk, h) = zrun zpp E 194 (60, .ref x :: ls, .ref x :: sk, h) := zrun_at rfl
theorem zi194_59n {E : zE} {ls sk : List Value} {h : zH} : zrun zpp E 194 (59, .null :: ls, sk, h) = zrun zpp E 194 (60, .null :: ls, .null :: sk, h) := zrun_at rfl
theorem zi194_60 {E : zE} {x : Nat} {ls sk : List Value} {h : zH} : zrun zpp E 194 (60, ls, .ref x :: sk, h) = (zfld [11] h x 8).bind (fun v => zrun zpp E 194 (63, ls, v :: sk, h)) := zg_getf rfl
theorem zi194_63 {E : zE} {x : Int32} {ls sk : List Value} {h : zH} : zrun zpp E 194 (63, ls, [.int x], h) = some (some (.int x), h) := zrun_at rfl
-- 195 NineDownModel.bike
theorem zi195_0 {E : zE} {x : Nat} {ls sk : List Value} {h : zH} : zrun zpp E 195 (0, .ref x :: ls, sk, h) = zrun zpp E 195 (1, .ref x :: ls, .ref x :: sk, h) := zrun_at rfl
theorem zi195_0n {E : zE} {ls sk : List Value} {h : zH} : zrun zpp E 195 (0, .null :: ls, sk, h) = zrun zpp E 195 (1, .null :: ls, .null :: sk, h) := zrun_at rfl
theorem zi195_1 {E : zE} {ls sk : List Value} {h : zH} : zrun zpp E 195 (1, ls, sk, h) = zrun zpp E 195 (2, ls, .int 0 :: sk, h) := zg_iconst rfl ci_0
theorem zi195_2 {E : zE} {x : Nat} {v : Value} {ls sk : List Value} {h : zH} : zrun zpp E 195 (2, ls, v :: .ref x :: sk, h) = (zstf [11] 0 h x 0 v).bind (fun h' => zrun zpp E 195 (5, ls, sk, h')) := zg_putf rfl
theorem zi195_5 {E : zE} {x : Nat} {ls sk : List Value} {h : zH} : zrun zpp E 195 (5, .ref x :: ls, sk, h) = zrun zpp E 195 (6, .ref x :: ls, .ref x :: sk, h) := zrun_at rfl
theorem zi195_5n {E : zE} {ls sk : List Value} {h : zH} : zrun zpp E 195 (5, .null :: ls, sk, h) = zrun zpp E 195 (6, .null :: ls, .null :: sk, h) := zrun_at rfl
theorem zi195_6 {E : zE} {v0 : Value} {x : Int32} {ls sk : List Value} {h : zH} : zrun zpp E 195 (6, v0 :: .int x :: ls, sk, h) = zrun zpp E 195 (7, v0 :: .int x :: ls, .int x :: sk, h) := zrun_at rfl
theorem zi195_7 {E : zE} {x : Int32} {ls sk : List Value} {h : zH} : zrun zpp E 195 (7, ls, .int x :: sk, h) = zrun zpp E 195 (8, ls, .long x.toInt64 :: sk, h) := zrun_at rfl
theorem zi195_8 {E : zE} {a0 : Value} {x : Nat} {ls sk : List Value} {h : zH} : zrun zpp E 195 (8, ls, a0 :: .ref x :: sk, h) = (zcls h x).bind (fun d => (zsel d [11, 173]).bind (fun M' => zcl1 E 195 11 M' ls sk [.ref x, a0] h)) := zg_vir (as := [a0]) rfl rfl
theorem zi195_11 {E : zE} {x : Int32} {ls sk : List Value} {h : zH} : zrun zpp E 195 (11, ls, .int x :: sk, h) = if x = 0 then zrun zpp E 195 (14, ls, sk, h) else zrun zpp E 195 (17, ls, sk, h) := zrun_at rfl
theorem zi195_14 {E : zE} {ls sk : List Value} {h : zH} : zrun zpp E 195 (14, ls, sk, h) = zrun zpp E 195 (16, ls, .int (-1000001) :: sk, h) := zg_ldc rfl ci_m1000001
theorem zi195_16 {E : zE} {x : Int32} {ls sk : List Value} {h : zH} : zrun zpp E 195 (16, ls, [.int x], h) = some (some (.int x), h) := zrun_at rfl
theorem zi195_17 {E : zE} {v0 v1 : Value} {x : Int32} {ls sk : List Value} {h : zH} : zrun zpp E 195 (17, v0 :: v1 :: .int x :: ls, sk, h) = zrun zpp E 195 (18, v0 :: v1 :: .int x :: ls, .int x :: sk, h) := zrun_at rfl
theorem zi195_18 {E : zE} {x : Int32} {ls sk : List Value} {h : zH} : zrun zpp E 195 (18, ls, .int x :: sk, h) = if x = 0 then zrun zpp E 195 (52, ls, sk, h) else if x = 1 then zrun zpp E 195 (58, ls, sk, h) else if x = 2 then zrun zpp E 195 (64, ls, sk, h) else if x = 3 then zrun zpp E 195 (76, ls, sk, h) else if x = 4 then zrun zpp E 195 (97, ls, sk, h) else zrun zpp E 195 (110, ls, sk, h) := zrun_at rfl
theorem zi195_52 {E : zE} {x : Nat} {ls sk : List Value} {h : zH} : zrun zpp E 195 (52, .ref x :: ls, sk, h) = zrun zpp E 195 (53, .ref x :: ls, .ref x :: sk, h) := zrun_at rfl
theorem zi195_52n {E : zE} {ls sk : List Value} {h : zH} : zrun zpp E 195 (52, .null :: ls, sk, h) = zrun zpp E 195 (53, .null :: ls, .null :: sk, h) := zrun_at rfl
theorem zi195_53 {E : zE} {v0 : Value} {x : Int32} {ls sk : List Value} {h : zH} : zrun zpp E 195 (53, v0 :: .int x :: ls, sk, h) = zrun zpp E 195 (54, v0 :: .int x :: ls, .int x :: sk, h) := zrun_at rfl
theorem zi195_54 {E : zE} {a0 : Value} {x : Nat} {ls sk : List Value} {h : zH} : zrun zpp E 195 (54, ls, a0 :: .ref x :: sk, h) = (zcls h x).bind (fun d => (zsel d [11, 177]).bind (fun M' => zcl1 E 195 57 M' ls sk [.ref x, a0] h)) := zg_vir (as := [a0]) rfl rfl
theorem zi195_57 {E : zE} {x : Int32} {ls sk : List Value} {h : zH} : zrun zpp E 195 (57, ls, [.int x], h) = some (some (.int x), h) := zrun_at rfl
theorem zi195_58 {E : zE} {x : Nat} {ls sk : List Value} {h : zH} : zrun zpp E 195 (58, .ref x :: ls, sk, h) = zrun zpp E 195 (59, .ref x :: ls, .ref x :: sk, h) := zrun_at rfl
theorem zi195_58n {E : zE} {ls sk : List Value} {h : zH} : zrun zpp E 195 (58, .null :: ls, sk, h) = zrun zpp E 195 (59, .null :: ls, .null :: sk, h) := zrun_at rfl
theorem zi195_59 {E : zE} {v0 : Value} {x : Int32} {ls sk : List Value} {h : zH} : zrun zpp E 195 (59, v0 :: .int x :: ls, sk, h) = zrun zpp E 195 (60, v0 :: .int x :: ls, .int x :: sk, h) := zrun_at rfl
theorem zi195_60 {E : zE} {a0 : Value} {x : Nat} {ls sk : List Value} {h : zH} : zrun zpp E 195 (60, ls, a0 :: .ref x :: sk, h) = (zcls h x).bind (fun d => (zsel d [11, 178]).bind (fun M' => zcl1 E 195 63 M' ls sk [.ref x, a0] h)) := zg_vir (as := [a0]) rfl rfl
theorem zi195_63 {E : zE} {x : Int32} {ls sk : List Value} {h : zH} : zrun zpp E 195 (63, ls, [.int x], h) = some (some (.int x), h) := zrun_at rfl
theorem zi195_64 {E : zE} {x : Nat} {ls sk : List Value} {h : zH} : zrun zpp E 195 (64, .ref x :: ls, sk, h) = zrun zpp E 195 (65, .ref x :: ls, .ref x :: sk, h) := zrun_at rfl
theorem zi195_64n {E : zE} {ls sk : List Value} {h : zH} : zrun zpp E 195 (64, .null :: ls, sk, h) = zrun zpp E 195 (65, .null :: ls, .null :: sk, h) := zrun_at rfl
theorem zi195_65 {E : zE} {x : Nat} {ls sk : List Value} {h : zH} : zrun zpp E 195 (65, ls, .ref x :: sk, h) = (zfld [11] h x 5).bind (fun v => zrun zpp E 195 (68, ls, v :: sk, h)) := zg_getf rfl
theorem zi195_68 {E : zE} {ls sk : List Value} {h : zH} : zrun zpp E 195 (68, ls, sk, h) = zrun zpp E 195 (70, ls, .int 8 :: sk, h) := zg_bipush rfl ci_8
theorem zi195_70 {E : zE} {x : Nat} {i : Int32} {ls sk : List Value} {h : zH} : zrun zpp E 195 (70, ls, .int i :: .ref x :: sk, h) = (zarr 0 h x i).bind (fun v => zrun zpp E 195 (71, ls, .int v :: sk, h)) := zg_iald rfl
theorem zi195_71 {E : zE} {v0 : Value} {x : Int32} {ls sk : List Value} {h : zH} : zrun zpp E 195 (71, v0 :: .int x :: ls, sk, h) = zrun zpp E 195 (72, v0 :: .int x :: ls, .int x :: sk, h) := zrun_at rfl
theorem zi195_72 {E : zE} {x y : Int32} {ls sk : List Value} {h : zH} : zrun zpp E 195 (72, ls, .int y :: .int x :: sk, h) = zrun zpp E 195 (73, ls, .int (x >>> (y &&& 31)) :: sk, h) := zrun_at rfl
theorem zi195_73 {E : zE} {ls sk : List Value} {h : zH} : zrun zpp E 195 (73, ls, sk, h) = zrun zpp E 195 (74, ls, .int 1 :: sk, h) := zg_iconst rfl ci_1
theorem zi195_74 {E : zE} {x y : Int32} {ls sk : List Value} {h : zH} : zrun zpp E 195 (74, ls, .int y :: .int x :: sk, h) = zrun zpp E 195 (75, ls, .int (x &&& y) :: sk, h) := zrun_at rfl
theorem zi195_75 {E : zE} {x : Int32} {ls sk : List Value} {h : zH} : zrun zpp E 195 (75, ls, [.int x], h) = some (some (.int x), h) := zrun_at rfl
theorem zi195_76 {E : zE} {x : Nat} {ls sk : List Value} {h : zH} : zrun zpp E 195 (76, .ref x :: ls, sk, h) = zrun zpp E 195 (77, .ref x :: ls, .ref x :: sk, h) := zrun_at rfl
theorem zi195_76n {E : zE} {ls sk : List Value} {h : zH} : zrun zpp E 195 (76, .null :: ls, sk, h) = zrun zpp E 195 (77, .null :: ls, .null :: sk, h) := zrun_at rfl
theorem zi195_77 {E : zE} {x : Nat} {ls sk : List Value} {h : zH} : zrun zpp E 195 (77, .ref x :: ls, sk, h) = zrun zpp E 195 (78, .ref x :: ls, .ref x :: sk, h) := zrun_at rfl
theorem zi195_77n {E : zE} {ls sk : List Value} {h : zH} : zrun zpp E 195 (77, .null :: ls, sk, h) = zrun zpp E 195 (78, .null :: ls, .null :: sk, h) := zrun_at rfl
theorem zi195_78 {E : zE} {x : Nat} {ls sk : List Value} {h : zH} : zrun zpp E 195 (78, ls, .ref x :: sk, h) = (zfld [11] h x 5).bind (fun v => zrun zpp E 195 (81, ls, v :: sk, h)) := zg_getf rfl
theorem zi195_81 {E : zE} {ls sk : List Value} {h : zH} : zrun zpp E 195 (81, ls, sk, h) = zrun zpp E 195 (83, ls, .int 8 :: sk, h) := zg_bipush rfl ci_8
theorem zi195_83 {E : zE} {x : Nat} {i : Int32} {ls sk : List Value} {h : zH} : zrun zpp E 195 (83, ls, .int i :: .ref x :: sk, h) = (zarr 0 h x i).bind (fun v => zrun zpp E 195 (84, ls, .int v :: sk, h)) := zg_iald rfl
theorem zi195_84 {E : zE} {v0 : Value} {x : Int32} {ls sk : List Value} {h : zH} : zrun zpp E 195 (84, v0 :: .int x :: ls, sk, h) = zrun zpp E 195 (85, v0 :: .int x :: ls, .int x :: sk, h) := zrun_at rfl
theorem zi195_85 {E : zE} {a0 a1 : Value} {x : Nat} {ls sk : List Value} {h : zH} : zrun zpp E 195 (85, ls, a1 :: a0 :: .ref x :: sk, h) = (zcls h x).bind (fun d => (zsel d [11, 184]).bind (fun M' => zcl1 E 195 88 M' ls sk [.ref x, a0, a1] h)) := zg_vir (as := [a0, a1]) rfl rfl
theorem zi195_88 {E : zE} {x : Int32} {ls sk : List Value} {h : zH} : zrun zpp E 195 (88, ls, .int x :: sk, h) = if x = 0 then zrun zpp E 195 (95, ls, sk, h) else zrun zpp E 195 (91, ls, sk, h) := zrun_at rfl
theorem zi195_91 {E : zE} {ls sk : List Value} {h : zH} : zrun zpp E 195 (91, ls, sk, h) = zrun zpp E 195 (92, ls, .int 1 :: sk, h) := zg_iconst rfl ci_1
theorem zi195_92 {E : zE} {ls sk : List Value} {h : zH} : zrun zpp E 195 (92, ls, sk, h) = zrun zpp E 195 (96, ls, sk, h) := zrun_at rfl
theorem zi195_95 {E : zE} {ls sk : List Value} {h : zH} : zrun zpp E 195 (95, ls, sk, h) = zrun zpp E 195 (96, ls, .int 0 :: sk, h) := zg_iconst rfl ci_0
theorem zi195_96 {E : zE} {x : Int32} {ls sk : List Value} {h : zH} : zrun zpp E 195 (96, ls, [.int x], h) = some (some (.int x), h) := zrun_at rfl
theorem zi195_97 {E : zE} {x : Nat} {ls sk : List Value} {h : zH} : zrun zpp E 195 (97, .ref x :: ls, sk, h) = zrun zpp E 195 (98, .ref x :: ls, .ref x :: sk, h) := zrun_at rfl
theorem zi195_97n {E : zE} {ls sk : List Value} {h : zH} : zrun zpp E 195 (97, .null :: ls, sk, h) = zrun zpp E 195 (98, .null :: ls, .null :: sk, h) := zrun_at rfl
theorem zi195_98 {E : zE} {x : Nat} {ls sk : List Value} {h : zH} : zrun zpp E 195 (98, .ref x :: ls, sk, h) = zrun zpp E 195 (99, .ref x :: ls, .ref x :: sk, h) := zrun_at rfl
theorem zi195_98n {E : zE} {ls sk : List Value} {h : zH} : zrun zpp E 195 (98, .null :: ls, sk, h) = zrun zpp E 195 (99, .null :: ls, .null :: sk, h) := zrun_at rfl
theorem zi195_99 {E : zE} {x : Nat} {ls sk : List Value} {h : zH} : zrun zpp E 195 (99, ls, .ref x :: sk, h) = (zfld [11] h x 5).bind (fun v => zrun zpp E 195 (102, ls, v :: sk, h)) := zg_getf rfl
theorem zi195_102 {E : zE} {ls sk : List Value} {h : zH} : zrun zpp E 195 (102, ls, sk, h) = zrun zpp E 195 (104, ls, .int 8 :: sk, h) := zg_bipush rfl ci_8
theorem zi195_104 {E : zE} {x : Nat} {i : Int32} {ls sk : List Value} {h : zH} : zrun zpp E 195 (104, ls, .int i :: .ref x :: sk, h) = (zarr 0 h x i).bind (fun v => zrun zpp E 195 (105, ls, .int v :: sk, h)) := zg_iald rfl
theorem zi195_105 {E : zE} {v0 : Value} {x : Int32} {ls sk : List Value} {h : zH} : zrun zpp E 195 (105, v0 :: .int x :: ls, sk, h) = zrun zpp E 195 (106, v0 :: .int x :: ls, .int x :: sk, h) := zrun_at rfl
theorem zi195_106 {E : zE} {a0 a1 : Value} {x : Nat} {ls sk : List Value} {h : zH} : zrun zpp E 195 (106, ls, a1 :: a0 :: .ref x :: sk, h) = (zcls h x).bind (fun d => (zsel d [11, 185]).bind (fun M' => zcl1 E 195 109 M' ls sk [.ref x, a0, a1] h)) := zg_vir (as := [a0, a1]) rfl rfl
theorem zi195_109 {E : zE} {x : Int32} {ls sk : List Value} {h : zH} : zrun zpp E 195 (109, ls, [.int x], h) = some (some (.int x), h) := zrun_at rfl
theorem zi195_110 {E : zE} {ls sk : List Value} {h : zH} : zrun zpp E 195 (110, ls, sk, h) = zrun zpp E 195 (112, ls, .int (-1000001) :: sk, h) := zg_ldc rfl ci_m1000001
theorem zi195_112 {E : zE} {x : Int32} {ls sk : List Value} {h : zH} : zrun zpp E 195 (112, ls, [.int x], h) = some (some (.int x), h) := zrun_at rfl
-- 196 NineDownModel.hold
theorem zi196_0 {E : zE} {x : Nat} {ls sk : List Value} {h : zH} : zrun zpp E 196 (0, .ref x :: ls, sk, h) = zrun zpp E 196 (1, .ref x :: ls, .ref x :: sk, h) := zrun_at rfl
theorem zi196_0n {E : zE} {ls sk : List Value} {h : zH} : zrun zpp E 196 (0, .null :: ls, sk, h) = zrun zpp E 196 (1, .null :: ls, .null :: sk, h) := zrun_at rfl
theorem zi196_1 {E : zE} {ls sk : List Value} {h : zH} : zrun zpp E 196 (1, ls, sk, h) = zrun zpp E 196 (2, ls, .int 0 :: sk, h) := zg_iconst rfl ci_0
theorem zi196_2 {E : zE} {x : Nat} {v : Value} {ls sk : List Value} {h : zH} : zrun zpp E 196 (2, ls, v :: .ref x :: sk, h) = (zstf [11] 0 h x 0 v).bind (fun h' => zrun zpp E 196 (5, ls, sk, h')) := zg_putf rfl
theorem zi196_5 {E : zE} {x : Nat} {ls sk : List Value} {h : zH} : zrun zpp E 196 (5, .ref x :: ls, sk, h) = zrun zpp E 196 (6, .ref x :: ls, .ref x :: sk, h) := zrun_at rfl
theorem zi196_5n {E : zE} {ls sk : List Value} {h : zH} : zrun zpp E 196 (5, .null :: ls, sk, h) = zrun zpp E 196 (6, .null :: ls, .null :: sk, h) := zrun_at rfl
theorem zi196_6 {E : zE} {v0 : Value} {x : Int32} {ls sk : List Value} {h : zH} : zrun zpp E 196 (6, v0 :: .int x :: ls, sk, h) = zrun zpp E 196 (7, v0 :: .int x :: ls, .int x :: sk, h) := zrun_at rfl
theorem zi196_7 {E : zE} {a0 : Value} {x : Nat} {ls sk : List Value} {h : zH} : zrun zpp E 196 (7, ls, a0 :: .ref x :: sk, h) = (zcls h x).bind (fun d => (zsel d [11, 175]).bind (fun M' => zcl1 E 196 10 M' ls sk [.ref x, a0] h)) := zg_vir (as := [a0]) rfl rfl
theorem zi196_10 {E : zE} {x : Int32} {ls sk : List Value} {h : zH} : zrun zpp E 196 (10, ls, .int x :: sk, h) = if x = 0 then zrun zpp E 196 (41, ls, sk, h) else zrun zpp E 196 (13, ls, sk, h) := zrun_at rfl
theorem zi196_13 {E : zE} {v0 v1 : Value} {x : Int32} {ls sk : List Value} {h : zH} : zrun zpp E 196 (13, v0 :: v1 :: .int x :: ls, sk, h) = zrun zpp E 196 (14, v0 :: v1 :: .int x :: ls, .int x :: sk, h) := zrun_at rfl
theorem zi196_14 {E : zE} {x : Int32} {ls sk : List Value} {h : zH} : zrun zpp E 196 (14, ls, .int x :: sk, h) = zrun zpp E 196 (15, ls, .long x.toInt64 :: sk, h) := zrun_at rfl
theorem zi196_15 {E : zE} {ls sk : List Value} {h : zH} : zrun zpp E 196 (15, ls, sk, h) = zrun zpp E 196 (16, ls, .long 0 :: sk, h) := zg_lconst rfl rfl
theorem zi196_16 {E : zE} {ls sk : List Value} {h : zH} : zrun zpp E 196 (16, ls, sk, h) = zrun zpp E 196 (19, ls, .long 3 :: sk, h) := zg_ldc2_w rfl cj_3
theorem zi196_19 {E : zE} {a0 a1 a2 : Value} {ls sk : List Value} {h : zH} : zrun zpp E 196 (19, ls, a2 :: a1 :: a0 :: sk, h) = zcl1 E 196 22 149 ls sk [a0, a1, a2] h := zg_inv (as := [a0, a1, a2]) rfl rfl
theorem zi196_22 {E : zE} {x : Int32} {ls sk : List Value} {h : zH} : zrun zpp E 196 (22, ls, .int x :: sk, h) = if x = 0 then zrun zpp E 196 (41, ls, sk, h) else zrun zpp E 196 (25, ls, sk, h) := zrun_at rfl
theorem zi196_25 {E : zE} {x : Nat} {ls sk : List Value} {h : zH} : zrun zpp E 196 (25, .ref x :: ls, sk, h) = zrun zpp E 196 (26, .ref x :: ls, .ref x :: sk, h) := zrun_at rfl
theorem zi196_25n {E : zE} {ls sk : List Value} {h : zH} : zrun zpp E 196 (25, .null :: ls, sk, h) = zrun zpp E 196 (26, .null :: ls, .null :: sk, h) := zrun_at rfl
theorem zi196_26 {E : zE} {x : Nat} {ls sk : List Value} {h : zH} : zrun zpp E 196 (26, ls, .ref x :: sk, h) = (zfld [11] h x 5).bind (fun v => zrun zpp E 196 (29, ls, v :: sk, h)) := zg_getf rfl
theorem zi196_29 {E : zE} {ls sk : List Value} {h : zH} : zrun zpp E 196 (29, ls, sk, h) = zrun zpp E 196 (31, ls, .int 25 :: sk, h) := zg_bipush rfl ci_25
theorem zi196_31 {E : zE} {ls sk : List Value} {h : zH} : zrun zpp E 196 (31, ls, sk, h) = zrun zpp E 196 (32, ls, .int 4 :: sk, h) := zg_iconst rfl ci_4
theorem zi196_32 {E : zE} {v0 : Value} {x : Int32} {ls sk : List Value} {h : zH} : zrun zpp E 196 (32, v0 :: .int x :: ls, sk, h) = zrun zpp E 196 (33, v0 :: .int x :: ls, .int x :: sk, h) := zrun_at rfl
theorem zi196_33 {E : zE} {x y : Int32} {ls sk : List Value} {h : zH} : zrun zpp E 196 (33, ls, .int y :: .int x :: sk, h) = zrun zpp E 196 (34, ls, .int (x * y) :: sk, h) := zrun_at rfl
theorem zi196_34 {E : zE} {x y : Int32} {ls sk : List Value} {h : zH} : zrun zpp E 196 (34, ls, .int y :: .int x :: sk, h) = zrun zpp E 196 (35, ls, .int (x + y) :: sk, h) := zrun_at rfl
theorem zi196_35 {E : zE} {v0 v1 : Value} {x : Int32} {ls sk : List Value} {h : zH} : zrun zpp E 196 (35, v0 :: v1 :: .int x :: ls, sk, h) = zrun zpp E 196 (36, v0 :: v1 :: .int x :: ls, .int x :: sk, h) := zrun_at rfl
theorem zi196_36 {E : zE} {x y : Int32} {ls sk : List Value} {h : zH} : zrun zpp E 196 (36, ls, .int y :: .int x :: sk, h) = zrun zpp E 196 (37, ls, .int (x + y) :: sk, h) := zrun_at rfl
theorem zi196_37 {E : zE} {x : Nat} {i : Int32} {ls sk : List Value} {h : zH} : zrun zpp E 196 (37, ls, .int i :: .ref x :: sk, h) = (zarr 0 h x i).bind (fun v => zrun zpp E 196 (38, ls, .int v :: sk, h)) := zg_iald rfl
theorem zi196_38 {E : zE} {ls sk : List Value} {h : zH} : zrun zpp E 196 (38, ls, sk, h) = zrun zpp E 196 (43, ls, sk, h) := zrun_at rfl
theorem zi196_41 {E : zE} {ls sk : List Value} {h : zH} : zrun zpp E 196 (41, ls, sk, h) = zrun zpp E 196 (43, ls, .int (-1000001) :: sk, h) := zg_ldc rfl ci_m1000001
theorem zi196_43 {E : zE} {x : Int32} {ls sk : List Value} {h : zH} : zrun zpp E 196 (43, ls, [.int x], h) = some (some (.int x), h) := zrun_at rfl
-- 197 NineDownModel.takes
theorem zi197_0 {E : zE} {x : Nat} {ls sk : List Value} {h : zH} : zrun zpp E 197 (0, .ref x :: ls, sk, h) = zrun zpp E 197 (1, .ref x :: ls, .ref x :: sk, h) := zrun_at rfl
theorem zi197_0n {E : zE} {ls sk : List Value} {h : zH} : zrun zpp E 197 (0, .null :: ls, sk, h) = zrun zpp E 197 (1, .null :: ls, .null :: sk, h) := zrun_at rfl
theorem zi197_1 {E : zE} {ls sk : List Value} {h : zH} : zrun zpp E 197 (1, ls, sk, h) = zrun zpp E 197 (2, ls, .int 0 :: sk, h) := zg_iconst rfl ci_0
theorem zi197_2 {E : zE} {x : Nat} {v : Value} {ls sk : List Value} {h : zH} : zrun zpp E 197 (2, ls, v :: .ref x :: sk, h) = (zstf [11] 0 h x 0 v).bind (fun h' => zrun zpp E 197 (5, ls, sk, h')) := zg_putf rfl
theorem zi197_5 {E : zE} {x : Nat} {ls sk : List Value} {h : zH} : zrun zpp E 197 (5, .ref x :: ls, sk, h) = zrun zpp E 197 (6, .ref x :: ls, .ref x :: sk, h) := zrun_at rfl
theorem zi197_5n {E : zE} {ls sk : List Value} {h : zH} : zrun zpp E 197 (5, .null :: ls, sk, h) = zrun zpp E 197 (6, .null :: ls, .null :: sk, h) := zrun_at rfl
theorem zi197_6 {E : zE} {v0 : Value} {x : Int32} {ls sk : List Value} {h : zH} : zrun zpp E 197 (6, v0 :: .int x :: ls, sk, h) = zrun zpp E 197 (7, v0 :: .int x :: ls, .int x :: sk, h) := zrun_at rfl
theorem zi197_7 {E : zE} {x : Int32} {ls sk : List Value} {h : zH} : zrun zpp E 197 (7, ls, .int x :: sk, h) = zrun zpp E 197 (8, ls, .long x.toInt64 :: sk, h) := zrun_at rfl
theorem zi197_8 {E : zE} {a0 : Value} {x : Nat} {ls sk : List Value} {h : zH} : zrun zpp E 197 (8, ls, a0 :: .ref x :: sk, h) = (zcls h x).bind (fun d => (zsel d [11, 174]).bind (fun M' => zcl1 E 197 11 M' ls sk [.ref x, a0] h)) := zg_vir (as := [a0]) rfl rfl
theorem zi197_11 {E : zE} {x : Int32} {ls sk : List Value} {h : zH} : zrun zpp E 197 (11, ls, .int x :: sk, h) = if x = 0 then zrun zpp E 197 (33, ls, sk, h) else zrun zpp E 197 (14, ls, sk, h) := zrun_at rfl
theorem zi197_14 {E : zE} {x : Nat} {ls sk : List Value} {h : zH} : zrun zpp E 197 (14, .ref x :: ls, sk, h) = zrun zpp E 197 (15, .ref x :: ls, .ref x :: sk, h) := zrun_at rfl
theorem zi197_14n {E : zE} {ls sk : List Value} {h : zH} : zrun zpp E 197 (14, .null :: ls, sk, h) = zrun zpp E 197 (15, .null :: ls, .null :: sk, h) := zrun_at rfl
theorem zi197_15 {E : zE} {v0 v1 : Value} {x : Int32} {ls sk : List Value} {h : zH} : zrun zpp E 197 (15, v0 :: v1 :: .int x :: ls, sk, h) = zrun zpp E 197 (16, v0 :: v1 :: .int x :: ls, .int x :: sk, h) := zrun_at rfl
theorem zi197_16 {E : zE} {x : Int32} {ls sk : List Value} {h : zH} : zrun zpp E 197 (16, ls, .int x :: sk, h) = zrun zpp E 197 (17, ls, .long x.toInt64 :: sk, h) := zrun_at rfl
theorem zi197_17 {E : zE} {a0 : Value} {x : Nat} {ls sk : List Value} {h : zH} : zrun zpp E 197 (17, ls, a0 :: .ref x :: sk, h) = (zcls h x).bind (fun d => (zsel d [11, 173]).bind (fun M' => zcl1 E 197 20 M' ls sk [.ref x, a0] h)) := zg_vir (as := [a0]) rfl rfl
theorem zi197_20 {E : zE} {x : Int32} {ls sk : List Value} {h : zH} : zrun zpp E 197 (20, ls, .int x :: sk, h) = if x = 0 then zrun zpp E 197 (33, ls, sk, h) else zrun zpp E 197 (23, ls, sk, h) := zrun_at rfl
theorem zi197_23 {E : zE} {v0 v1 v2 : Value} {x : Int32} {ls sk : List Value} {h : zH} : zrun zpp E 197 (23, v0 :: v1 :: v2 :: .int x :: ls, sk, h) = zrun zpp E 197 (24, v0 :: v1 :: v2 :: .int x :: ls, .int x :: sk, h) := zrun_at rfl
theorem zi197_24 {E : zE} {x : Int32} {ls sk : List Value} {h : zH} : zrun zpp E 197 (24, ls, .int x :: sk, h) = zrun zpp E 197 (25, ls, .long x.toInt64 :: sk, h) := zrun_at rfl
theorem zi197_25 {E : zE} {ls sk : List Value} {h : zH} : zrun zpp E 197 (25, ls, sk, h) = zrun zpp E 197 (26, ls, .long 0 :: sk, h) := zg_lconst rfl rfl
theorem zi197_26 {E : zE} {ls sk : List Value} {h : zH} : zrun zpp E 197 (26, ls, sk, h) = zrun zpp E 197 (27, ls, .long 1 :: sk, h) := zg_lconst rfl rfl
theorem zi197_27 {E : zE} {a0 a1 a2 : Value} {ls sk : List Value} {h : zH} : zrun zpp E 197 (27, ls, a2 :: a1 :: a0 :: sk, h) = zcl1 E 197 30 149 ls sk [a0, a1, a2] h := zg_inv (as := [a0, a1, a2]) rfl rfl
theorem zi197_30 {E : zE} {x : Int32} {ls sk : List Value} {h : zH} : zrun zpp E 197 (30, ls, .int x :: sk, h) = if x = 0 then zrun zpp E 197 (33, ls, sk, h) else zrun zpp E 197 (36, ls, sk, h) := zrun_at rfl
theorem zi197_33 {E : zE} {ls sk : List Value} {h : zH} : zrun zpp E 197 (33, ls, sk, h) = zrun zpp E 197 (35, ls, .int (-1000001) :: sk, h) := zg_ldc rfl ci_m1000001
theorem zi197_35 {E : zE} {x : Int32} {ls sk : List Value} {h : zH} : zrun zpp E 197 (35, ls, [.int x], h) = some (some (.int x), h) := zrun_at rfl
theorem zi197_36 {E : zE} {x : Nat} {ls sk : List Value} {h : zH} : zrun zpp E 197 (36, .ref x :: ls, sk, h) = zrun zpp E 197 (37, .ref x :: ls, .ref x :: sk, h) := zrun_at rfl
theorem zi197_36n {E : zE} {ls sk : List Value} {h : zH} : zrun zpp E 197 (36, .null :: ls, sk, h) = zrun zpp E 197 (37, .null :: ls, .null :: sk, h) := zrun_at rfl
theorem zi197_37 {E : zE} {x : Nat} {ls sk : List Value} {h : zH} : zrun zpp E 197 (37, .ref x :: ls, sk, h) = zrun zpp E 197 (38, .ref x :: ls, .ref x :: sk, h) := zrun_at rfl
theorem zi197_37n {E : zE} {ls sk : List Value} {h : zH} : zrun zpp E 197 (37, .null :: ls, sk, h) = zrun zpp E 197 (38, .null :: ls, .null :: sk, h) := zrun_at rfl
theorem zi197_38 {E : zE} {v0 : Value} {x : Int32} {ls sk : List Value} {h : zH} : zrun zpp E 197 (38, v0 :: .int x :: ls, sk, h) = zrun zpp E 197 (39, v0 :: .int x :: ls, .int x :: sk, h) := zrun_at rfl
theorem zi197_39 {E : zE} {a0 : Value} {x : Nat} {ls sk : List Value} {h : zH} : zrun zpp E 197 (39, ls, a0 :: .ref x :: sk, h) = (zcls h x).bind (fun d => (zsel d [11, 179]).bind (fun M' => zcl1 E 197 42 M' ls sk [.ref x, a0] h)) := zg_vir (as := [a0]) rfl rfl
theorem zi197_42 {E : zE} {x : Nat} {ls sk : List Value} {h : zH} : zrun zpp E 197 (42, .ref x :: ls, sk, h) = zrun zpp E 197 (43, .ref x :: ls, .ref x :: sk, h) := zrun_at rfl
theorem zi197_42n {E : zE} {ls sk : List Value} {h : zH} : zrun zpp E 197 (42, .null :: ls, sk, h) = zrun zpp E 197 (43, .null :: ls, .null :: sk, h) := zrun_at rfl
theorem zi197_43 {E : zE} {v0 : Value} {x : Int32} {ls sk : List Value} {h : zH} : zrun zpp E 197 (43, v0 :: .int x :: ls, sk, h) = zrun zpp E 197 (44, v0 :: .int x :: ls, .int x :: sk, h) := zrun_at rfl
theorem zi197_44 {E : zE} {a0 : Value} {x : Nat} {ls sk : List Value} {h : zH} : zrun zpp E 197 (44, ls, a0 :: .ref x :: sk, h) = (zcls h x).bind (fun d => (zsel d [11, 180]).bind (fun M' => zcl1 E 197 47 M' ls sk [.ref x, a0] h)) := zg_vir (as := [a0]) rfl rfl
theorem zi197_47 {E : zE} {x : Nat} {ls sk : List Value} {h : zH} : zrun zpp E 197 (47, .ref x :: ls, sk, h) = zrun zpp E 197 (48, .ref x :: ls, .ref x :: sk, h) := zrun_at rfl
theorem zi197_47n {E : zE} {ls sk : List Value} {h : zH} : zrun zpp E 197 (47, .null :: ls, sk, h) = zrun zpp E 197 (48, .null :: ls, .null :: sk, h) := zrun_at rfl
theorem zi197_48 {E : zE} {x : Nat} {ls sk : List Value} {h : zH} : zrun zpp E 197 (48, ls, .ref x :: sk, h) = (zfld [11] h x 5).bind (fun v => zrun zpp E 197 (51, ls, v :: sk, h)) := zg_getf rfl
theorem zi197_51 {E : zE} {ls sk : List Value} {h : zH} : zrun zpp E 197 (51, ls, sk, h) = zrun zpp E 197 (53, ls, .int 8 :: sk, h) := zg_bipush rfl ci_8
theorem zi197_53 {E : zE} {x : Nat} {i : Int32} {ls sk : List Value} {h : zH} : zrun zpp E 197 (53, ls, .int i :: .ref x :: sk, h) = (zarr 0 h x i).bind (fun v => zrun zpp E 197 (54, ls, .int v :: sk, h)) := zg_iald rfl
theorem zi197_54 {E : zE} {v0 v1 : Value} {x : Int32} {ls sk : List Value} {h : zH} : zrun zpp E 197 (54, v0 :: v1 :: .int x :: ls, sk, h) = zrun zpp E 197 (55, v0 :: v1 :: .int x :: ls, .int x :: sk, h) := zrun_at rfl
theorem zi197_55 {E : zE} {a0 a1 a2 a3 : Value} {x : Nat} {ls sk : List Value} {h : zH} : zrun zpp E 197 (55, ls, a3 :: a2 :: a1 :: a0 :: .ref x :: sk, h) = (zcls h x).bind (fun d => (zsel d [11, 186]).bind (fun M' => zcl1 E 197 58 M' ls sk [.ref x, a0, a1, a2, a3] h)) := zg_vir (as := [a0, a1, a2, a3]) rfl rfl
theorem zi197_58 {E : zE} {x : Int32} {ls sk : List Value} {h : zH} : zrun zpp E 197 (58, ls, .int x :: sk, h) = if x = 0 then zrun zpp E 197 (61, ls, sk, h) else zrun zpp E 197 (64, ls, sk, h) := zrun_at rfl
theorem zi197_61 {E : zE} {ls sk : List Value} {h : zH} : zrun zpp E 197 (61, ls, sk, h) = zrun zpp E 197 (63, ls, .int (-1000000) :: sk, h) := zg_ldc rfl ci_m1000000
theorem zi197_63 {E : zE} {x : Int32} {ls sk : List Value} {h : zH} : zrun zpp E 197 (63, ls, [.int x], h) = some (some (.int x), h) := zrun_at rfl
theorem zi197_64 {E : zE} {v0 v1 v2 : Value} {x : Int32} {ls sk : List Value} {h : zH} : zrun zpp E 197 (64, v0 :: v1 :: v2 :: .int x :: ls, sk, h) = zrun zpp E 197 (65, v0 :: v1 :: v2 :: .int x :: ls, .int x :: sk, h) := zrun_at rfl
theorem zi197_65 {E : zE} {x : Int32} {ls sk : List Value} {h : zH} : zrun zpp E 197 (65, ls, .int x :: sk, h) = if x = 0 then zrun zpp E 197 (68, ls, sk, h) else zrun zpp E 197 (88, ls, sk, h) := zrun_at rfl
theorem zi197_68 {E : zE} {x : Nat} {ls sk : List Value} {h : zH} : zrun zpp E 197 (68, .ref x :: ls, sk, h) = zrun zpp E 197 (69, .ref x :: ls, .ref x :: sk, h) := zrun_at rfl
theorem zi197_68n {E : zE} {ls sk : List Value} {h : zH} : zrun zpp E 197 (68, .null :: ls, sk, h) = zrun zpp E 197 (69, .null :: ls, .null :: sk, h) := zrun_at rfl
theorem zi197_69 {E : zE} {x : Nat} {ls sk : List Value} {h : zH} : zrun zpp E 197 (69, .ref x :: ls, sk, h) = zrun zpp E 197 (70, .ref x :: ls, .ref x :: sk, h) := zrun_at rfl
theorem zi197_69n {E : zE} {ls sk : List Value} {h : zH} : zrun zpp E 197 (69, .null :: ls, sk, h) = zrun zpp E 197 (70, .null :: ls, .null :: sk, h) := zrun_at rfl
theorem zi197_70 {E : zE} {v0 : Value} {x : Int32} {ls sk : List Value} {h : zH} : zrun zpp E 197 (70, v0 :: .int x :: ls, sk, h) = zrun zpp E 197 (71, v0 :: .int x :: ls, .int x :: sk, h) := zrun_at rfl
theorem zi197_71 {E : zE} {a0 : Value} {x : Nat} {ls sk : List Value} {h : zH} : zrun zpp E 197 (71, ls, a0 :: .ref x :: sk, h) = (zcls h x).bind (fun d => (zsel d [11, 179]).bind (fun M' => zcl1 E 197 74 M' ls sk [.ref x, a0] h)) := zg_vir (as := [a0]) rfl rfl
theorem zi197_74 {E : zE} {x : Nat} {ls sk : List Value} {h : zH} : zrun zpp E 197 (74, .ref x :: ls, sk, h) = zrun zpp E 197 (75, .ref x :: ls, .ref x :: sk, h) := zrun_at rfl
theorem zi197_74n {E : zE} {ls sk : List Value} {h : zH} : zrun zpp E 197 (74, .null :: ls, sk, h) = zrun zpp E 197 (75, .null :: ls, .null :: sk, h) := zrun_at rfl
theorem zi197_75 {E : zE} {x : Nat} {ls sk : List Value} {h : zH} : zrun zpp E 197 (75, ls, .ref x :: sk, h) = (zfld [11] h x 5).bind (fun v => zrun zpp E 197 (78, ls, v :: sk, h)) := zg_getf rfl
theorem zi197_78 {E : zE} {ls sk : List Value} {h : zH} : zrun zpp E 197 (78, ls, sk, h) = zrun zpp E 197 (80, ls, .int 8 :: sk, h) := zg_bipush rfl ci_8
theorem zi197_80 {E : zE} {x : Nat} {i : Int32} {ls sk : List Value} {h : zH} : zrun zpp E 197 (80, ls, .int i :: .ref x :: sk, h) = (zarr 0 h x i).bind (fun v => zrun zpp E 197 (81, ls, .int v :: sk, h)) := zg_iald rfl
theorem zi197_81 {E : zE} {v0 v1 : Value} {x : Int32} {ls sk : List Value} {h : zH} : zrun zpp E 197 (81, v0 :: v1 :: .int x :: ls, sk, h) = zrun zpp E 197 (82, v0 :: v1 :: .int x :: ls, .int x :: sk, h) := zrun_at rfl
theorem zi197_82 {E : zE} {a0 a1 a2 : Value} {x : Nat} {ls sk : List Value} {h : zH} : zrun zpp E 197 (82, ls, a2 :: a1 :: a0 :: .ref x :: sk, h) = (zcls h x).bind (fun d => (zsel d [11, 187]).bind (fun M' => zcl1 E 197 85 M' ls sk [.ref x, a0, a1, a2] h)) := zg_vir (as := [a0, a1, a2]) rfl rfl
theorem zi197_85 {E : zE} {ls sk : List Value} {h : zH} : zrun zpp E 197 (85, ls, sk, h) = zrun zpp E 197 (105, ls, sk, h) := zrun_at rfl
theorem zi197_88 {E : zE} {x : Nat} {ls sk : List Value} {h : zH} : zrun zpp E 197 (88, .ref x :: ls, sk, h) = zrun zpp E 197 (89, .ref x :: ls, .ref x :: sk, h) := zrun_at rfl
theorem zi197_88n {E : zE} {ls sk : List Value} {h : zH} : zrun zpp E 197 (88, .null :: ls, sk, h) = zrun zpp E 197 (89, .null :: ls, .null :: sk, h) := zrun_at rfl
theorem zi197_89 {E : zE} {x : Nat} {ls sk : List Value} {h : zH} : zrun zpp E 197 (89, .ref x :: ls, sk, h) = zrun zpp E 197 (90, .ref x :: ls, .ref x :: sk, h) := zrun_at rfl
theorem zi197_89n {E : zE} {ls sk : List Value} {h : zH} : zrun zpp E 197 (89, .null :: ls, sk, h) = zrun zpp E 197 (90, .null :: ls, .null :: sk, h) := zrun_at rfl
theorem zi197_90 {E : zE} {v0 : Value} {x : Int32} {ls sk : List Value} {h : zH} : zrun zpp E 197 (90, v0 :: .int x :: ls, sk, h) = zrun zpp E 197 (91, v0 :: .int x :: ls, .int x :: sk, h) := zrun_at rfl
theorem zi197_91 {E : zE} {a0 : Value} {x : Nat} {ls sk : List Value} {h : zH} : zrun zpp E 197 (91, ls, a0 :: .ref x :: sk, h) = (zcls h x).bind (fun d => (zsel d [11, 179]).bind (fun M' => zcl1 E 197 94 M' ls sk [.ref x, a0] h)) := zg_vir (as := [a0]) rfl rfl
theorem zi197_94 {E : zE} {x : Nat} {ls sk : List Value} {h : zH} : zrun zpp E 197 (94, .ref x :: ls, sk, h) = zrun zpp E 197 (95, .ref x :: ls, .ref x :: sk, h) := zrun_at rfl
theorem zi197_94n {E : zE} {ls sk : List Value} {h : zH} : zrun zpp E 197 (94, .null :: ls, sk, h) = zrun zpp E 197 (95, .null :: ls, .null :: sk, h) := zrun_at rfl
theorem zi197_95 {E : zE} {x : Nat} {ls sk : List Value} {h : zH} : zrun zpp E 197 (95, ls, .ref x :: sk, h) = (zfld [11] h x 5).bind (fun v => zrun zpp E 197 (98, ls, v :: sk, h)) := zg_getf rfl
theorem zi197_98 {E : zE} {ls sk : List Value} {h : zH} : zrun zpp E 197 (98, ls, sk, h) = zrun zpp E 197 (100, ls, .int 8 :: sk, h) := zg_bipush rfl ci_8
theorem zi197_100 {E : zE} {x : Nat} {i : Int32} {ls sk : List Value} {h : zH} : zrun zpp E 197 (100, ls, .int i :: .ref x :: sk, h) = (zarr 0 h x i).bind (fun v => zrun zpp E 197 (101, ls, .int v :: sk, h)) := zg_iald rfl
theorem zi197_101 {E : zE} {v0 v1 : Value} {x : Int32} {ls sk : List Value} {h : zH} : zrun zpp E 197 (101, v0 :: v1 :: .int x :: ls, sk, h) = zrun zpp E 197 (102, v0 :: v1 :: .int x :: ls, .int x :: sk, h) := zrun_at rfl
theorem zi197_102 {E : zE} {a0 a1 a2 : Value} {x : Nat} {ls sk : List Value} {h : zH} : zrun zpp E 197 (102, ls, a2 :: a1 :: a0 :: .ref x :: sk, h) = (zcls h x).bind (fun d => (zsel d [11, 188]).bind (fun M' => zcl1 E 197 105 M' ls sk [.ref x, a0, a1, a2] h)) := zg_vir (as := [a0, a1, a2]) rfl rfl
theorem zi197_105 {E : zE} {x : Int32} {ls sk : List Value} {h : zH} : zrun zpp E 197 (105, ls, [.int x], h) = some (some (.int x), h) := zrun_at rfl
-- 198 NineDownModel.freeOf
theorem zi198_0 {E : zE} {ls sk : List Value} {h : zH} : zrun zpp E 198 (0, ls, sk, h) = zrun zpp E 198 (1, ls, .int 0 :: sk, h) := zg_iconst rfl ci_0
theorem zi198_1 {E : zE} {x : Int32} {ls sk : List Value} {h : zH} : zrun zpp E 198 (1, ls, .int x :: sk, h) = if zfree ls 2 = true then zrun zpp E 198 (2, ls.set 2 (.int x), sk, h) else none := zg_ist rfl (fun _ _ _ => rfl)
theorem zi198_2 {E : zE} {ls sk : List Value} {h : zH} : zrun zpp E 198 (2, ls, sk, h) = zrun zpp E 198 (3, ls, .int 0 :: sk, h) := zg_iconst rfl ci_0
theorem zi198_3 {E : zE} {x : Int32} {ls sk : List Value} {h : zH} : zrun zpp E 198 (3, ls, .int x :: sk, h) = if zfree ls 3 = true then zrun zpp E 198 (4, ls.set 3 (.int x), sk, h) else none := zg_ist rfl (fun _ _ _ => rfl)
theorem zi198_4 {E : zE} {v0 v1 v2 : Value} {x : Int32} {ls sk : List Value} {h : zH} : zrun zpp E 198 (4, v0 :: v1 :: v2 :: .int x :: ls, sk, h) = zrun zpp E 198 (5, v0 :: v1 :: v2 :: .int x :: ls, .int x :: sk, h) := zrun_at rfl
theorem zi198_5 {E : zE} {x : Nat} {ls sk : List Value} {h : zH} : zrun zpp E 198 (5, .ref x :: ls, sk, h) = zrun zpp E 198 (6, .ref x :: ls, .ref x :: sk, h) := zrun_at rfl
theorem zi198_5n {E : zE} {ls sk : List Value} {h : zH} : zrun zpp E 198 (5, .null :: ls, sk, h) = zrun zpp E 198 (6, .null :: ls, .null :: sk, h) := zrun_at rfl
theorem zi198_6 {E : zE} {x : Nat} {ls sk : List Value} {h : zH} : zrun zpp E 198 (6, ls, .ref x :: sk, h) = (zfld [11] h x 5).bind (fun v => zrun zpp E 198 (9, ls, v :: sk, h)) := zg_getf rfl
theorem zi198_9 {E : zE} {ls sk : List Value} {h : zH} : zrun zpp E 198 (9, ls, sk, h) = zrun zpp E 198 (10, ls, .int 3 :: sk, h) := zg_iconst rfl ci_3
theorem zi198_10 {E : zE} {x : Nat} {i : Int32} {ls sk : List Value} {h : zH} : zrun zpp E 198 (10, ls, .int i :: .ref x :: sk, h) = (zarr 0 h x i).bind (fun v => zrun zpp E 198 (11, ls, .int v :: sk, h)) := zg_iald rfl
theorem zi198_11 {E : zE} {x y : Int32} {ls sk : List Value} {h : zH} : zrun zpp E 198 (11, ls, .int y :: .int x :: sk, h) = if y ≤ x then zrun zpp E 198 (39, ls, sk, h) else zrun zpp E 198 (14, ls, sk, h) := zrun_at rfl
theorem zi198_14 {E : zE} {v0 v1 : Value} {x : Int32} {ls sk : List Value} {h : zH} : zrun zpp E 198 (14, v0 :: v1 :: .int x :: ls, sk, h) = zrun zpp E 198 (15, v0 :: v1 :: .int x :: ls, .int x :: sk, h) := zrun_at rfl
theorem zi198_15 {E : zE} {x : Nat} {ls sk : List Value} {h : zH} : zrun zpp E 198 (15, .ref x :: ls, sk, h) = zrun zpp E 198 (16, .ref x :: ls, .ref x :: sk, h) := zrun_at rfl
theorem zi198_15n {E : zE} {ls sk : List Value} {h : zH} : zrun zpp E 198 (15, .null :: ls, sk, h) = zrun zpp E 198 (16, .null :: ls, .null :: sk, h) := zrun_at rfl
theorem zi198_16 {E : zE} {v0 : Value} {x : Int32} {ls sk : List Value} {h : zH} : zrun zpp E 198 (16, v0 :: .int x :: ls, sk, h) = zrun zpp E 198 (17, v0 :: .int x :: ls, .int x :: sk, h) := zrun_at rfl
theorem zi198_17 {E : zE} {v0 v1 v2 : Value} {x : Int32} {ls sk : List Value} {h : zH} : zrun zpp E 198 (17, v0 :: v1 :: v2 :: .int x :: ls, sk, h) = zrun zpp E 198 (18, v0 :: v1 :: v2 :: .int x :: ls, .int x :: sk, h) := zrun_at rfl
theorem zi198_18 {E : zE} {a0 a1 : Value} {x : Nat} {ls sk : List Value} {h : zH} : zrun zpp E 198 (18, ls, a1 :: a0 :: .ref x :: sk, h) = (zcls h x).bind (fun d => (zsel d [11, 184]).bind (fun M' => zcl1 E 198 21 M' ls sk [.ref x, a0, a1] h)) := zg_vir (as := [a0, a1]) rfl rfl
theorem zi198_21 {E : zE} {x : Int32} {ls sk : List Value} {h : zH} : zrun zpp E 198 (21, ls, .int x :: sk, h) = if x = 0 then zrun zpp E 198 (30, ls, sk, h) else zrun zpp E 198 (24, ls, sk, h) := zrun_at rfl
theorem zi198_24 {E : zE} {ls sk : List Value} {h : zH} : zrun zpp E 198 (24, ls, sk, h) = zrun zpp E 198 (25, ls, .int 1 :: sk, h) := zg_iconst rfl ci_1
theorem zi198_25 {E : zE} {v0 v1 v2 : Value} {x : Int32} {ls sk : List Value} {h : zH} : zrun zpp E 198 (25, v0 :: v1 :: v2 :: .int x :: ls, sk, h) = zrun zpp E 198 (26, v0 :: v1 :: v2 :: .int x :: ls, .int x :: sk, h) := zrun_at rfl
theorem zi198_26 {E : zE} {x y : Int32} {ls sk : List Value} {h : zH} : zrun zpp E 198 (26, ls, .int y :: .int x :: sk, h) = zrun zpp E 198 (27, ls, .int (x <<< (y &&& 31)) :: sk, h) := zrun_at rfl
theorem zi198_27 {E : zE} {ls sk : List Value} {h : zH} : zrun zpp E 198 (27, ls, sk, h) = zrun zpp E 198 (31, ls, sk, h) := zrun_at rfl
theorem zi198_30 {E : zE} {ls sk : List Value} {h : zH} : zrun zpp E 198 (30, ls, sk, h) = zrun zpp E 198 (31, ls, .int 0 :: sk, h) := zg_iconst rfl ci_0
theorem zi198_31 {E : zE} {x y : Int32} {ls sk : List Value} {h : zH} : zrun zpp E 198 (31, ls, .int y :: .int x :: sk, h) = zrun zpp E 198 (32, ls, .int (x ||| y) :: sk, h) := zrun_at rfl
theorem zi198_32 {E : zE} {x : Int32} {ls sk : List Value} {h : zH} : zrun zpp E 198 (32, ls, .int x :: sk, h) = if zfree ls 2 = true then zrun zpp E 198 (33, ls.set 2 (.int x), sk, h) else none := zg_ist rfl (fun _ _ _ => rfl)
theorem zi198_33 {E : zE} {v0 v1 v2 : Value} {x : Int32} {ls sk : List Value} {h : zH} : zrun zpp E 198 (33, v0 :: v1 :: v2 :: .int x :: ls, sk, h) = if zfree (v0 :: v1 :: v2 :: .int x :: ls) 3 = true then zrun zpp E 198 (36, v0 :: v1 :: v2 :: .int (x + 1) :: ls, sk, h) else none := by rw [← ci_1]; exact zrun_at rfl
theorem zi198_36 {E : zE} {ls sk : List Value} {h : zH} : zrun zpp E 198 (36, ls, sk, h) = zrun zpp E 198 (4, ls, sk, h) := zrun_at rfl
theorem zi198_39 {E : zE} {v0 v1 : Value} {x : Int32} {ls sk : List Value} {h : zH} : zrun zpp E 198 (39, v0 :: v1 :: .int x :: ls, sk, h) = zrun zpp E 198 (40, v0 :: v1 :: .int x :: ls, .int x :: sk, h) := zrun_at rfl
theorem zi198_40 {E : zE} {x : Int32} {ls sk : List Value} {h : zH} : zrun zpp E 198 (40, ls, [.int x], h) = some (some (.int x), h) := zrun_at rfl
-- 199 NineDownModel.stand
theorem zi199_0 {E : zE} {x : Nat} {ls sk : List Value} {h : zH} : zrun zpp E 199 (0, .ref x :: ls, sk, h) = zrun zpp E 199 (1, .ref x :: ls, .ref x :: sk, h) := zrun_at rfl
theorem zi199_0n {E : zE} {ls sk : List Value} {h : zH} : zrun zpp E 199 (0, .null :: ls, sk, h) = zrun zpp E 199 (1, .null :: ls, .null :: sk, h) := zrun_at rfl
theorem zi199_1 {E : zE} {ls sk : List Value} {h : zH} : zrun zpp E 199 (1, ls, sk, h) = zrun zpp E 199 (2, ls, .int 0 :: sk, h) := zg_iconst rfl ci_0
theorem zi199_2 {E : zE} {x : Nat} {v : Value} {ls sk : List Value} {h : zH} : zrun zpp E 199 (2, ls, v :: .ref x :: sk, h) = (zstf [11] 0 h x 0 v).bind (fun h' => zrun zpp E 199 (5, ls, sk, h')) := zg_putf rfl
theorem zi199_5 {E : zE} {x : Nat} {ls sk : List Value} {h : zH} : zrun zpp E 199 (5, .ref x :: ls, sk, h) = zrun zpp E 199 (6, .ref x :: ls, .ref x :: sk, h) := zrun_at rfl
theorem zi199_5n {E : zE} {ls sk : List Value} {h : zH} : zrun zpp E 199 (5, .null :: ls, sk, h) = zrun zpp E 199 (6, .null :: ls, .null :: sk, h) := zrun_at rfl
theorem zi199_6 {E : zE} {x : Nat} {ls sk : List Value} {h : zH} : zrun zpp E 199 (6, ls, .ref x :: sk, h) = (zcls h x).bind (fun d => (zsel d [11, 172]).bind (fun M' => zcl1 E 199 9 M' ls sk [.ref x] h)) := zg_vir (as := []) rfl rfl
theorem zi199_9 {E : zE} {x : Int32} {ls sk : List Value} {h : zH} : zrun zpp E 199 (9, ls, .int x :: sk, h) = if x = 0 then zrun zpp E 199 (12, ls, sk, h) else zrun zpp E 199 (15, ls, sk, h) := zrun_at rfl
theorem zi199_12 {E : zE} {ls sk : List Value} {h : zH} : zrun zpp E 199 (12, ls, sk, h) = zrun zpp E 199 (14, ls, .int (-1000002) :: sk, h) := zg_ldc rfl ci_m1000002
theorem zi199_14 {E : zE} {x : Int32} {ls sk : List Value} {h : zH} : zrun zpp E 199 (14, ls, [.int x], h) = some (some (.int x), h) := zrun_at rfl
theorem zi199_15 {E : zE} {v0 : Value} {x : Int32} {ls sk : List Value} {h : zH} : zrun zpp E 199 (15, v0 :: .int x :: ls, sk, h) = zrun zpp E 199 (16, v0 :: .int x :: ls, .int x :: sk, h) := zrun_at rfl
theorem zi199_16 {E : zE} {x : Int32} {ls sk : List Value} {h : zH} : zrun zpp E 199 (16, ls, .int x :: sk, h) = if x = 0 then zrun zpp E 199 (48, ls, sk, h) else if x = 1 then zrun zpp E 199 (56, ls, sk, h) else if x = 2 then zrun zpp E 199 (64, ls, sk, h) else if x = 3 then zrun zpp E 199 (72, ls, sk, h) else zrun zpp E 199 (84, ls, sk, h) := zrun_at rfl
theorem zi199_48 {E : zE} {x : Nat} {ls sk : List Value} {h : zH} : zrun zpp E 199 (48, .ref x :: ls, sk, h) = zrun zpp E 199 (49, .ref x :: ls, .ref x :: sk, h) := zrun_at rfl
theorem zi199_48n {E : zE} {ls sk : List Value} {h : zH} : zrun zpp E 199 (48, .null :: ls, sk, h) = zrun zpp E 199 (49, .null :: ls, .null :: sk, h) := zrun_at rfl
theorem zi199_49 {E : zE} {x : Nat} {ls sk : List Value} {h : zH} : zrun zpp E 199 (49, ls, .ref x :: sk, h) = (zfld [11] h x 5).bind (fun v => zrun zpp E 199 (52, ls, v :: sk, h)) := zg_getf rfl
theorem zi199_52 {E : zE} {ls sk : List Value} {h : zH} : zrun zpp E 199 (52, ls, sk, h) = zrun zpp E 199 (54, ls, .int 6 :: sk, h) := zg_bipush rfl ci_6
theorem zi199_54 {E : zE} {x : Nat} {i : Int32} {ls sk : List Value} {h : zH} : zrun zpp E 199 (54, ls, .int i :: .ref x :: sk, h) = (zarr 0 h x i).bind (fun v => zrun zpp E 199 (55, ls, .int v :: sk, h)) := zg_iald rfl
theorem zi199_55 {E : zE} {x : Int32} {ls sk : List Value} {h : zH} : zrun zpp E 199 (55, ls, [.int x], h) = some (some (.int x), h) := zrun_at rfl
theorem zi199_56 {E : zE} {x : Nat} {ls sk : List Value} {h : zH} : zrun zpp E 199 (56, .ref x :: ls, sk, h) = zrun zpp E 199 (57, .ref x :: ls, .ref x :: sk, h) := zrun_at rfl
theorem zi199_56n {E : zE} {ls sk : List Value} {h : zH} : zrun zpp E 199 (56, .null :: ls, sk, h) = zrun zpp E 199 (57, .null :: ls, .null :: sk, h) := zrun_at rfl
theorem zi199_57 {E : zE} {x : Nat} {ls sk : List Value} {h : zH} : zrun zpp E 199 (57, ls, .ref x :: sk, h) = (zfld [11] h x 5).bind (fun v => zrun zpp E 199 (60, ls, v :: sk, h)) := zg_getf rfl
theorem zi199_60 {E : zE} {ls sk : List Value} {h : zH} : zrun zpp E 199 (60, ls, sk, h) = zrun zpp E 199 (62, ls, .int 7 :: sk, h) := zg_bipush rfl ci_7
theorem zi199_62 {E : zE} {x : Nat} {i : Int32} {ls sk : List Value} {h : zH} : zrun zpp E 199 (62, ls, .int i :: .ref x :: sk, h) = (zarr 0 h x i).bind (fun v => zrun zpp E 199 (63, ls, .int v :: sk, h)) := zg_iald rfl
theorem zi199_63 {E : zE} {x : Int32} {ls sk : List Value} {h : zH} : zrun zpp E 199 (63, ls, [.int x], h) = some (some (.int x), h) := zrun_at rfl
theorem zi199_64 {E : zE} {x : Nat} {ls sk : List Value} {h : zH} : zrun zpp E 199 (64, .ref x :: ls, sk, h) = zrun zpp E 199 (65, .ref x :: ls, .ref x :: sk, h) := zrun_at rfl
theorem zi199_64n {E : zE} {ls sk : List Value} {h : zH} : zrun zpp E 199 (64, .null :: ls, sk, h) = zrun zpp E 199 (65, .null :: ls, .null :: sk, h) := zrun_at rfl
theorem zi199_65 {E : zE} {x : Nat} {ls sk : List Value} {h : zH} : zrun zpp E 199 (65, ls, .ref x :: sk, h) = (zfld [11] h x 5).bind (fun v => zrun zpp E 199 (68, ls, v :: sk, h)) := zg_getf rfl
theorem zi199_68 {E : zE} {ls sk : List Value} {h : zH} : zrun zpp E 199 (68, ls, sk, h) = zrun zpp E 199 (70, ls, .int 8 :: sk, h) := zg_bipush rfl ci_8
theorem zi199_70 {E : zE} {x : Nat} {i : Int32} {ls sk : List Value} {h : zH} : zrun zpp E 199 (70, ls, .int i :: .ref x :: sk, h) = (zarr 0 h x i).bind (fun v => zrun zpp E 199 (71, ls, .int v :: sk, h)) := zg_iald rfl
theorem zi199_71 {E : zE} {x : Int32} {ls sk : List Value} {h : zH} : zrun zpp E 199 (71, ls, [.int x], h) = some (some (.int x), h) := zrun_at rfl
theorem zi199_72 {E : zE} {x : Nat} {ls sk : List Value} {h : zH} : zrun zpp E 199 (72, .ref x :: ls, sk, h) = zrun zpp E 199 (73, .ref x :: ls, .ref x :: sk, h) := zrun_at rfl
theorem zi199_72n {E : zE} {ls sk : List Value} {h : zH} : zrun zpp E 199 (72, .null :: ls, sk, h) = zrun zpp E 199 (73, .null :: ls, .null :: sk, h) := zrun_at rfl
theorem zi199_73 {E : zE} {x : Nat} {ls sk : List Value} {h : zH} : zrun zpp E 199 (73, .ref x :: ls, sk, h) = zrun zpp E 199 (74, .ref x :: ls, .ref x :: sk, h) := zrun_at rfl
theorem zi199_73n {E : zE} {ls sk : List Value} {h : zH} : zrun zpp E 199 (73, .null :: ls, sk, h) = zrun zpp E 199 (74, .null :: ls, .null :: sk, h) := zrun_at rfl
theorem zi199_74 {E : zE} {x : Nat} {ls sk : List Value} {h : zH} : zrun zpp E 199 (74, ls, .ref x :: sk, h) = (zfld [11] h x 5).bind (fun v => zrun zpp E 199 (77, ls, v :: sk, h)) := zg_getf rfl
theorem zi199_77 {E : zE} {ls sk : List Value} {h : zH} : zrun zpp E 199 (77, ls, sk, h) = zrun zpp E 199 (79, ls, .int 8 :: sk, h) := zg_bipush rfl ci_8
theorem zi199_79 {E : zE} {x : Nat} {i : Int32} {ls sk : List Value} {h : zH} : zrun zpp E 199 (79, ls, .int i :: .ref x :: sk, h) = (zarr 0 h x i).bind (fun v => zrun zpp E 199 (80, ls, .int v :: sk, h)) := zg_iald rfl
theorem zi199_80 {E : zE} {a0 : Value} {x : Nat} {ls sk : List Value} {h : zH} : zrun zpp E 199 (80, ls, a0 :: .ref x :: sk, h) = (zcls h x).bind (fun d => (zsel d [11, 198]).bind (fun M' => zcl1 E 199 83 M' ls sk [.ref x, a0] h)) := zg_vir (as := [a0]) rfl rfl
theorem zi199_83 {E : zE} {x : Int32} {ls sk : List Value} {h : zH} : zrun zpp E 199 (83, ls, [.int x], h) = some (some (.int x), h) := zrun_at rfl
theorem zi199_84 {E : zE} {ls sk : List Value} {h : zH} : zrun zpp E 199 (84, ls, sk, h) = zrun zpp E 199 (86, ls, .int (-1000001) :: sk, h) := zg_ldc rfl ci_m1000001
theorem zi199_86 {E : zE} {x : Int32} {ls sk : List Value} {h : zH} : zrun zpp E 199 (86, ls, [.int x], h) = some (some (.int x), h) := zrun_at rfl
-- 200 NineDownModel.layLeast
theorem zi200_0 {E : zE} {x : Nat} {ls sk : List Value} {h : zH} : zrun zpp E 200 (0, .ref x :: ls, sk, h) = zrun zpp E 200 (1, .ref x :: ls, .ref x :: sk, h) := zrun_at rfl
theorem zi200_0n {E : zE} {ls sk : List Value} {h : zH} : zrun zpp E 200 (0, .null :: ls, sk, h) = zrun zpp E 200 (1, .null :: ls, .null :: sk, h) := zrun_at rfl
theorem zi200_1 {E : zE} {x : Nat} {ls sk : List Value} {h : zH} : zrun zpp E 200 (1, ls, .ref x :: sk, h) = (zfld [11] h x 18).bind (fun v => zrun zpp E 200 (4, ls, v :: sk, h)) := zg_getf rfl
theorem zi200_4 {E : zE} {ls sk : List Value} {h : zH} : zrun zpp E 200 (4, ls, sk, h) = zrun zpp E 200 (5, ls, .int 0 :: sk, h) := zg_iconst rfl ci_0
theorem zi200_5 {E : zE} {ls sk : List Value} {h : zH} : zrun zpp E 200 (5, ls, sk, h) = zrun zpp E 200 (6, ls, .int 0 :: sk, h) := zg_iconst rfl ci_0
theorem zi200_6 {E : zE} {x : Nat} {i v : Int32} {ls sk : List Value} {h : zH} : zrun zpp E 200 (6, ls, .int v :: .int i :: .ref x :: sk, h) = (zars 0 h x i v).bind (fun h' => zrun zpp E 200 (7, ls, sk, h')) := zg_iast rfl
theorem zi200_7 {E : zE} {x : Nat} {ls sk : List Value} {h : zH} : zrun zpp E 200 (7, .ref x :: ls, sk, h) = zrun zpp E 200 (8, .ref x :: ls, .ref x :: sk, h) := zrun_at rfl
theorem zi200_7n {E : zE} {ls sk : List Value} {h : zH} : zrun zpp E 200 (7, .null :: ls, sk, h) = zrun zpp E 200 (8, .null :: ls, .null :: sk, h) := zrun_at rfl
theorem zi200_8 {E : zE} {x : Nat} {ls sk : List Value} {h : zH} : zrun zpp E 200 (8, ls, .ref x :: sk, h) = (zfld [11] h x 19).bind (fun v => zrun zpp E 200 (11, ls, v :: sk, h)) := zg_getf rfl
theorem zi200_11 {E : zE} {ls sk : List Value} {h : zH} : zrun zpp E 200 (11, ls, sk, h) = zrun zpp E 200 (12, ls, .int 0 :: sk, h) := zg_iconst rfl ci_0
theorem zi200_12 {E : zE} {ls sk : List Value} {h : zH} : zrun zpp E 200 (12, ls, sk, h) = zrun zpp E 200 (14, ls, .int (-1000000) :: sk, h) := zg_ldc rfl ci_m1000000
theorem zi200_14 {E : zE} {x : Nat} {i v : Int32} {ls sk : List Value} {h : zH} : zrun zpp E 200 (14, ls, .int v :: .int i :: .ref x :: sk, h) = (zars 0 h x i v).bind (fun h' => zrun zpp E 200 (15, ls, sk, h')) := zg_iast rfl
theorem zi200_15 {E : zE} {ls sk : List Value} {h : zH} : zrun zpp E 200 (15, ls, sk, h) = zrun zpp E 200 (16, ls, .int 1 :: sk, h) := zg_iconst rfl ci_1
theorem zi200_16 {E : zE} {x : Int32} {ls sk : List Value} {h : zH} : zrun zpp E 200 (16, ls, .int x :: sk, h) = if zfree ls 3 = true then zrun zpp E 200 (17, ls.set 3 (.int x), sk, h) else none := zg_ist rfl (fun _ _ _ => rfl)
theorem zi200_17 {E : zE} {v0 v1 v2 : Value} {x : Int32} {ls sk : List Value} {h : zH} : zrun zpp E 200 (17, v0 :: v1 :: v2 :: .int x :: ls, sk, h) = zrun zpp E 200 (18, v0 :: v1 :: v2 :: .int x :: ls, .int x :: sk, h) := zrun_at rfl
theorem zi200_18 {E : zE} {ls sk : List Value} {h : zH} : zrun zpp E 200 (18, ls, sk, h) = zrun zpp E 200 (19, ls, .int 1 :: sk, h) := zg_iconst rfl ci_1
theorem zi200_19 {E : zE} {x : Nat} {ls sk : List Value} {h : zH} : zrun zpp E 200 (19, .ref x :: ls, sk, h) = zrun zpp E 200 (20, .ref x :: ls, .ref x :: sk, h) := zrun_at rfl
theorem zi200_19n {E : zE} {ls sk : List Value} {h : zH} : zrun zpp E 200 (19, .null :: ls, sk, h) = zrun zpp E 200 (20, .null :: ls, .null :: sk, h) := zrun_at rfl
theorem zi200_20 {E : zE} {x : Nat} {ls sk : List Value} {h : zH} : zrun zpp E 200 (20, ls, .ref x :: sk, h) = (zfld [11] h x 5).bind (fun v => zrun zpp E 200 (23, ls, v :: sk, h)) := zg_getf rfl
theorem zi200_23 {E : zE} {ls sk : List Value} {h : zH} : zrun zpp E 200 (23, ls, sk, h) = zrun zpp E 200 (24, ls, .int 3 :: sk, h) := zg_iconst rfl ci_3
theorem zi200_24 {E : zE} {x : Nat} {i : Int32} {ls sk : List Value} {h : zH} : zrun zpp E 200 (24, ls, .int i :: .ref x :: sk, h) = (zarr 0 h x i).bind (fun v => zrun zpp E 200 (25, ls, .int v :: sk, h)) := zg_iald rfl
theorem zi200_25 {E : zE} {x y : Int32} {ls sk : List Value} {h : zH} : zrun zpp E 200 (25, ls, .int y :: .int x :: sk, h) = zrun zpp E 200 (26, ls, .int (x <<< (y &&& 31)) :: sk, h) := zrun_at rfl
theorem zi200_26 {E : zE} {x y : Int32} {ls sk : List Value} {h : zH} : zrun zpp E 200 (26, ls, .int y :: .int x :: sk, h) = if y ≤ x then zrun zpp E 200 (276, ls, sk, h) else zrun zpp E 200 (29, ls, sk, h) := zrun_at rfl
theorem zi200_29 {E : zE} {x : Nat} {ls sk : List Value} {h : zH} : zrun zpp E 200 (29, .ref x :: ls, sk, h) = zrun zpp E 200 (30, .ref x :: ls, .ref x :: sk, h) := zrun_at rfl
theorem zi200_29n {E : zE} {ls sk : List Value} {h : zH} : zrun zpp E 200 (29, .null :: ls, sk, h) = zrun zpp E 200 (30, .null :: ls, .null :: sk, h) := zrun_at rfl
theorem zi200_30 {E : zE} {x : Nat} {ls sk : List Value} {h : zH} : zrun zpp E 200 (30, ls, .ref x :: sk, h) = (zfld [11] h x 18).bind (fun v => zrun zpp E 200 (33, ls, v :: sk, h)) := zg_getf rfl
theorem zi200_33 {E : zE} {v0 v1 v2 : Value} {x : Int32} {ls sk : List Value} {h : zH} : zrun zpp E 200 (33, v0 :: v1 :: v2 :: .int x :: ls, sk, h) = zrun zpp E 200 (34, v0 :: v1 :: v2 :: .int x :: ls, .int x :: sk, h) := zrun_at rfl
theorem zi200_34 {E : zE} {ls sk : List Value} {h : zH} : zrun zpp E 200 (34, ls, sk, h) = zrun zpp E 200 (36, ls, .int (-1000000) :: sk, h) := zg_ldc rfl ci_m1000000
theorem zi200_36 {E : zE} {x : Nat} {i v : Int32} {ls sk : List Value} {h : zH} : zrun zpp E 200 (36, ls, .int v :: .int i :: .ref x :: sk, h) = (zars 0 h x i v).bind (fun h' => zrun zpp E 200 (37, ls, sk, h')) := zg_iast rfl
theorem zi200_37 {E : zE} {x : Nat} {ls sk : List Value} {h : zH} : zrun zpp E 200 (37, .ref x :: ls, sk, h) = zrun zpp E 200 (38, .ref x :: ls, .ref x :: sk, h) := zrun_at rfl
theorem zi200_37n {E : zE} {ls sk : List Value} {h : zH} : zrun zpp E 200 (37, .null :: ls, sk, h) = zrun zpp E 200 (38, .null :: ls, .null :: sk, h) := zrun_at rfl
theorem zi200_38 {E : zE} {x : Nat} {ls sk : List Value} {h : zH} : zrun zpp E 200 (38, ls, .ref x :: sk, h) = (zfld [11] h x 19).bind (fun v => zrun zpp E 200 (41, ls, v :: sk, h)) := zg_getf rfl
theorem zi200_41 {E : zE} {v0 v1 v2 : Value} {x : Int32} {ls sk : List Value} {h : zH} : zrun zpp E 200 (41, v0 :: v1 :: v2 :: .int x :: ls, sk, h) = zrun zpp E 200 (42, v0 :: v1 :: v2 :: .int x :: ls, .int x :: sk, h) := zrun_at rfl
theorem zi200_42 {E : zE} {ls sk : List Value} {h : zH} : zrun zpp E 200 (42, ls, sk, h) = zrun zpp E 200 (44, ls, .int (-1000000) :: sk, h) := zg_ldc rfl ci_m1000000
theorem zi200_44 {E : zE} {x : Nat} {i v : Int32} {ls sk : List Value} {h : zH} : zrun zpp E 200 (44, ls, .int v :: .int i :: .ref x :: sk, h) = (zars 0 h x i v).bind (fun h' => zrun zpp E 200 (45, ls, sk, h')) := zg_iast rfl
theorem zi200_45 {E : zE} {ls sk : List Value} {h : zH} : zrun zpp E 200 (45, ls, sk, h) = zrun zpp E 200 (46, ls, .int 0 :: sk, h) := zg_iconst rfl ci_0
theorem zi200_46 {E : zE} {x : Int32} {ls sk : List Value} {h : zH} : zrun zpp E 200 (46, ls, .int x :: sk, h) = if zfree ls 4 = true then zrun zpp E 200 (48, ls.set 4 (.int x), sk, h) else none := zg_ist rfl (fun _ _ _ => rfl)
theorem zi200_48 {E : zE} {v0 v1 v2 v3 : Value} {x : Int32} {ls sk : List Value} {h : zH} : zrun zpp E 200 (48, v0 :: v1 :: v2 :: v3 :: .int x :: ls, sk, h) = zrun zpp E 200 (50, v0 :: v1 :: v2 :: v3 :: .int x :: ls, .int x :: sk, h) := zrun_at rfl
theorem zi200_50 {E : zE} {x : Nat} {ls sk : List Value} {h : zH} : zrun zpp E 200 (50, .ref x :: ls, sk, h) = zrun zpp E 200 (51, .ref x :: ls, .ref x :: sk, h) := zrun_at rfl
theorem zi200_50n {E : zE} {ls sk : List Value} {h : zH} : zrun zpp E 200 (50, .null :: ls, sk, h) = zrun zpp E 200 (51, .null :: ls, .null :: sk, h) := zrun_at rfl
theorem zi200_51 {E : zE} {x : Nat} {ls sk : List Value} {h : zH} : zrun zpp E 200 (51, ls, .ref x :: sk, h) = (zfld [11] h x 5).bind (fun v => zrun zpp E 200 (54, ls, v :: sk, h)) := zg_getf rfl
theorem zi200_54 {E : zE} {ls sk : List Value} {h : zH} : zrun zpp E 200 (54, ls, sk, h) = zrun zpp E 200 (55, ls, .int 5 :: sk, h) := zg_iconst rfl ci_5
theorem zi200_55 {E : zE} {x : Nat} {i : Int32} {ls sk : List Value} {h : zH} : zrun zpp E 200 (55, ls, .int i :: .ref x :: sk, h) = (zarr 0 h x i).bind (fun v => zrun zpp E 200 (56, ls, .int v :: sk, h)) := zg_iald rfl
theorem zi200_56 {E : zE} {x y : Int32} {ls sk : List Value} {h : zH} : zrun zpp E 200 (56, ls, .int y :: .int x :: sk, h) = if y ≤ x then zrun zpp E 200 (270, ls, sk, h) else zrun zpp E 200 (59, ls, sk, h) := zrun_at rfl
theorem zi200_59 {E : zE} {ls sk : List Value} {h : zH} : zrun zpp E 200 (59, ls, sk, h) = zrun zpp E 200 (60, ls, .int 0 :: sk, h) := zg_iconst rfl ci_0
theorem zi200_60 {E : zE} {x : Int32} {ls sk : List Value} {h : zH} : zrun zpp E 200 (60, ls, .int x :: sk, h) = if zfree ls 5 = true then zrun zpp E 200 (62, ls.set 5 (.int x), sk, h) else none := zg_ist rfl (fun _ _ _ => rfl)
theorem zi200_62 {E : zE} {v0 v1 v2 v3 v4 : Value} {x : Int32} {ls sk : List Value} {h : zH} : zrun zpp E 200 (62, v0 :: v1 :: v2 :: v3 :: v4 :: .int x :: ls, sk, h) = zrun zpp E 200 (64, v0 :: v1 :: v2 :: v3 :: v4 :: .int x :: ls, .int x :: sk, h) := zrun_at rfl
theorem zi200_64 {E : zE} {x : Nat} {ls sk : List Value} {h : zH} : zrun zpp E 200 (64, .ref x :: ls, sk, h) = zrun zpp E 200 (65, .ref x :: ls, .ref x :: sk, h) := zrun_at rfl
theorem zi200_64n {E : zE} {ls sk : List Value} {h : zH} : zrun zpp E 200 (64, .null :: ls, sk, h) = zrun zpp E 200 (65, .null :: ls, .null :: sk, h) := zrun_at rfl
theorem zi200_65 {E : zE} {x : Nat} {ls sk : List Value} {h : zH} : zrun zpp E 200 (65, ls, .ref x :: sk, h) = (zfld [11] h x 5).bind (fun v => zrun zpp E 200 (68, ls, v :: sk, h)) := zg_getf rfl
theorem zi200_68 {E : zE} {ls sk : List Value} {h : zH} : zrun zpp E 200 (68, ls, sk, h) = zrun zpp E 200 (69, ls, .int 3 :: sk, h) := zg_iconst rfl ci_3
theorem zi200_69 {E : zE} {x : Nat} {i : Int32} {ls sk : List Value} {h : zH} : zrun zpp E 200 (69, ls, .int i :: .ref x :: sk, h) = (zarr 0 h x i).bind (fun v => zrun zpp E 200 (70, ls, .int v :: sk, h)) := zg_iald rfl
theorem zi200_70 {E : zE} {x y : Int32} {ls sk : List Value} {h : zH} : zrun zpp E 200 (70, ls, .int y :: .int x :: sk, h) = if y ≤ x then zrun zpp E 200 (264, ls, sk, h) else zrun zpp E 200 (73, ls, sk, h) := zrun_at rfl
theorem zi200_73 {E : zE} {v0 v1 v2 : Value} {x : Int32} {ls sk : List Value} {h : zH} : zrun zpp E 200 (73, v0 :: v1 :: v2 :: .int x :: ls, sk, h) = zrun zpp E 200 (74, v0 :: v1 :: v2 :: .int x :: ls, .int x :: sk, h) := zrun_at rfl
theorem zi200_74 {E : zE} {ls sk : List Value} {h : zH} : zrun zpp E 200 (74, ls, sk, h) = zrun zpp E 200 (75, ls, .int 1 :: sk, h) := zg_iconst rfl ci_1
theorem zi200_75 {E : zE} {v0 v1 v2 v3 v4 : Value} {x : Int32} {ls sk : List Value} {h : zH} : zrun zpp E 200 (75, v0 :: v1 :: v2 :: v3 :: v4 :: .int x :: ls, sk, h) = zrun zpp E 200 (77, v0 :: v1 :: v2 :: v3 :: v4 :: .int x :: ls, .int x :: sk, h) := zrun_at rfl
theorem zi200_77 {E : zE} {x y : Int32} {ls sk : List Value} {h : zH} : zrun zpp E 200 (77, ls, .int y :: .int x :: sk, h) = zrun zpp E 200 (78, ls, .int (x <<< (y &&& 31)) :: sk, h) := zrun_at rfl
theorem zi200_78 {E : zE} {ls sk : List Value} {h : zH} : zrun zpp E 200 (78, ls, sk, h) = zrun zpp E 200 (79, ls, .int (-1) :: sk, h) := zg_iconst rfl ci_m1
theorem zi200_79 {E : zE} {x y : Int32} {ls sk : List Value} {h : zH} : zrun zpp E 200 (79, ls, .int y :: .int x :: sk, h) = zrun zpp E 200 (80, ls, .int (x ^^^ y) :: sk, h) := zrun_at rfl
theorem zi200_80 {E : zE} {x y : Int32} {ls sk : List Value} {h : zH} : zrun zpp E 200 (80, ls, .int y :: .int x :: sk, h) = zrun zpp E 200 (81, ls, .int (x &&& y) :: sk, h) := zrun_at rfl
theorem zi200_81 {E : zE} {x : Int32} {ls sk : List Value} {h : zH} : zrun zpp E 200 (81, ls, .int x :: sk, h) = if zfree ls 6 = true then zrun zpp E 200 (83, ls.set 6 (.int x), sk, h) else none := zg_ist rfl (fun _ _ _ => rfl)
theorem zi200_83 {E : zE} {v0 : Value} {x : Int32} {ls sk : List Value} {h : zH} : zrun zpp E 200 (83, v0 :: .int x :: ls, sk, h) = zrun zpp E 200 (84, v0 :: .int x :: ls, .int x :: sk, h) := zrun_at rfl
theorem zi200_84 {E : zE} {v0 v1 v2 v3 : Value} {x : Int32} {ls sk : List Value} {h : zH} : zrun zpp E 200 (84, v0 :: v1 :: v2 :: v3 :: .int x :: ls, sk, h) = zrun zpp E 200 (86, v0 :: v1 :: v2 :: v3 :: .int x :: ls, .int x :: sk, h) := zrun_at rfl
theorem zi200_86 {E : zE} {a0 a1 : Value} {ls sk : List Value} {h : zH} : zrun zpp E 200 (86, ls, a1 :: a0 :: sk, h) = zcl1 E 200 89 181 ls sk [a0, a1] h := zg_inv (as := [a0, a1]) rfl rfl
theorem zi200_89 {E : zE} {x : Int32} {ls sk : List Value} {h : zH} : zrun zpp E 200 (89, ls, .int x :: sk, h) = if x = 0 then zrun zpp E 200 (258, ls, sk, h) else zrun zpp E 200 (92, ls, sk, h) := zrun_at rfl
theorem zi200_92 {E : zE} {x : Nat} {ls sk : List Value} {h : zH} : zrun zpp E 200 (92, .ref x :: ls, sk, h) = zrun zpp E 200 (93, .ref x :: ls, .ref x :: sk, h) := zrun_at rfl
theorem zi200_92n {E : zE} {ls sk : List Value} {h : zH} : zrun zpp E 200 (92, .null :: ls, sk, h) = zrun zpp E 200 (93, .null :: ls, .null :: sk, h) := zrun_at rfl
theorem zi200_93 {E : zE} {x : Nat} {ls sk : List Value} {h : zH} : zrun zpp E 200 (93, .ref x :: ls, sk, h) = zrun zpp E 200 (94, .ref x :: ls, .ref x :: sk, h) := zrun_at rfl
theorem zi200_93n {E : zE} {ls sk : List Value} {h : zH} : zrun zpp E 200 (93, .null :: ls, sk, h) = zrun zpp E 200 (94, .null :: ls, .null :: sk, h) := zrun_at rfl
theorem zi200_94 {E : zE} {v0 v1 v2 v3 : Value} {x : Int32} {ls sk : List Value} {h : zH} : zrun zpp E 200 (94, v0 :: v1 :: v2 :: v3 :: .int x :: ls, sk, h) = zrun zpp E 200 (96, v0 :: v1 :: v2 :: v3 :: .int x :: ls, .int x :: sk, h) := zrun_at rfl
theorem zi200_96 {E : zE} {a0 : Value} {x : Nat} {ls sk : List Value} {h : zH} : zrun zpp E 200 (96, ls, a0 :: .ref x :: sk, h) = (zcls h x).bind (fun d => (zsel d [11, 179]).bind (fun M' => zcl1 E 200 99 M' ls sk [.ref x, a0] h)) := zg_vir (as := [a0]) rfl rfl
theorem zi200_99 {E : zE} {x : Nat} {ls sk : List Value} {h : zH} : zrun zpp E 200 (99, .ref x :: ls, sk, h) = zrun zpp E 200 (100, .ref x :: ls, .ref x :: sk, h) := zrun_at rfl
theorem zi200_99n {E : zE} {ls sk : List Value} {h : zH} : zrun zpp E 200 (99, .null :: ls, sk, h) = zrun zpp E 200 (100, .null :: ls, .null :: sk, h) := zrun_at rfl
theorem zi200_100 {E : zE} {v0 v1 v2 v3 : Value} {x : Int32} {ls sk : List Value} {h : zH} : zrun zpp E 200 (100, v0 :: v1 :: v2 :: v3 :: .int x :: ls, sk, h) = zrun zpp E 200 (102, v0 :: v1 :: v2 :: v3 :: .int x :: ls, .int x :: sk, h) := zrun_at rfl
theorem zi200_102 {E : zE} {a0 : Value} {x : Nat} {ls sk : List Value} {h : zH} : zrun zpp E 200 (102, ls, a0 :: .ref x :: sk, h) = (zcls h x).bind (fun d => (zsel d [11, 180]).bind (fun M' => zcl1 E 200 105 M' ls sk [.ref x, a0] h)) := zg_vir (as := [a0]) rfl rfl
theorem zi200_105 {E : zE} {v0 v1 v2 : Value} {x : Int32} {ls sk : List Value} {h : zH} : zrun zpp E 200 (105, v0 :: v1 :: v2 :: .int x :: ls, sk, h) = zrun zpp E 200 (106, v0 :: v1 :: v2 :: .int x :: ls, .int x :: sk, h) := zrun_at rfl
theorem zi200_106 {E : zE} {v0 v1 v2 v3 v4 : Value} {x : Int32} {ls sk : List Value} {h : zH} : zrun zpp E 200 (106, v0 :: v1 :: v2 :: v3 :: v4 :: .int x :: ls, sk, h) = zrun zpp E 200 (108, v0 :: v1 :: v2 :: v3 :: v4 :: .int x :: ls, .int x :: sk, h) := zrun_at rfl
theorem zi200_108 {E : zE} {a0 a1 a2 a3 : Value} {x : Nat} {ls sk : List Value} {h : zH} : zrun zpp E 200 (108, ls, a3 :: a2 :: a1 :: a0 :: .ref x :: sk, h) = (zcls h x).bind (fun d => (zsel d [11, 186]).bind (fun M' => zcl1 E 200 111 M' ls sk [.ref x, a0, a1, a2, a3] h)) := zg_vir (as := [a0, a1, a2, a3]) rfl rfl
theorem zi200_111 {E : zE} {x : Int32} {ls sk : List Value} {h : zH} : zrun zpp E 200 (111, ls, .int x :: sk, h) = if x = 0 then zrun zpp E 200 (258, ls, sk, h) else zrun zpp E 200 (114, ls, sk, h) := zrun_at rfl
theorem zi200_114 {E : zE} {x : Nat} {ls sk : List Value} {h : zH} : zrun zpp E 200 (114, .ref x :: ls, sk, h) = zrun zpp E 200 (115, .ref x :: ls, .ref x :: sk, h) := zrun_at rfl
theorem zi200_114n {E : zE} {ls sk : List Value} {h : zH} : zrun zpp E 200 (114, .null :: ls, sk, h) = zrun zpp E 200 (115, .null :: ls, .null :: sk, h) := zrun_at rfl
theorem zi200_115 {E : zE} {x : Nat} {ls sk : List Value} {h : zH} : zrun zpp E 200 (115, ls, .ref x :: sk, h) = (zfld [11] h x 18).bind (fun v => zrun zpp E 200 (118, ls, v :: sk, h)) := zg_getf rfl
theorem zi200_118 {E : zE} {v0 v1 v2 v3 v4 v5 : Value} {x : Int32} {ls sk : List Value} {h : zH} : zrun zpp E 200 (118, v0 :: v1 :: v2 :: v3 :: v4 :: v5 :: .int x :: ls, sk, h) = zrun zpp E 200 (120, v0 :: v1 :: v2 :: v3 :: v4 :: v5 :: .int x :: ls, .int x :: sk, h) := zrun_at rfl
theorem zi200_120 {E : zE} {x : Nat} {i : Int32} {ls sk : List Value} {h : zH} : zrun zpp E 200 (120, ls, .int i :: .ref x :: sk, h) = (zarr 0 h x i).bind (fun v => zrun zpp E 200 (121, ls, .int v :: sk, h)) := zg_iald rfl
theorem zi200_121 {E : zE} {ls sk : List Value} {h : zH} : zrun zpp E 200 (121, ls, sk, h) = zrun zpp E 200 (123, ls, .int (-1000000) :: sk, h) := zg_ldc rfl ci_m1000000
theorem zi200_123 {E : zE} {x y : Int32} {ls sk : List Value} {h : zH} : zrun zpp E 200 (123, ls, .int y :: .int x :: sk, h) = if x = y then zrun zpp E 200 (258, ls, sk, h) else zrun zpp E 200 (126, ls, sk, h) := zrun_at rfl
theorem zi200_126 {E : zE} {x : Nat} {ls sk : List Value} {h : zH} : zrun zpp E 200 (126, .ref x :: ls, sk, h) = zrun zpp E 200 (127, .ref x :: ls, .ref x :: sk, h) := zrun_at rfl
theorem zi200_126n {E : zE} {ls sk : List Value} {h : zH} : zrun zpp E 200 (126, .null :: ls, sk, h) = zrun zpp E 200 (127, .null :: ls, .null :: sk, h) := zrun_at rfl
theorem zi200_127 {E : zE} {x : Nat} {ls sk : List Value} {h : zH} : zrun zpp E 200 (127, ls, .ref x :: sk, h) = (zfld [11] h x 18).bind (fun v => zrun zpp E 200 (130, ls, v :: sk, h)) := zg_getf rfl
theorem zi200_130 {E : zE} {v0 v1 v2 v3 v4 v5 : Value} {x : Int32} {ls sk : List Value} {h : zH} : zrun zpp E 200 (130, v0 :: v1 :: v2 :: v3 :: v4 :: v5 :: .int x :: ls, sk, h) = zrun zpp E 200 (132, v0 :: v1 :: v2 :: v3 :: v4 :: v5 :: .int x :: ls, .int x :: sk, h) := zrun_at rfl
theorem zi200_132 {E : zE} {x : Nat} {i : Int32} {ls sk : List Value} {h : zH} : zrun zpp E 200 (132, ls, .int i :: .ref x :: sk, h) = (zarr 0 h x i).bind (fun v => zrun zpp E 200 (133, ls, .int v :: sk, h)) := zg_iald rfl
theorem zi200_133 {E : zE} {x : Nat} {ls sk : List Value} {h : zH} : zrun zpp E 200 (133, .ref x :: ls, sk, h) = zrun zpp E 200 (134, .ref x :: ls, .ref x :: sk, h) := zrun_at rfl
theorem zi200_133n {E : zE} {ls sk : List Value} {h : zH} : zrun zpp E 200 (133, .null :: ls, sk, h) = zrun zpp E 200 (134, .null :: ls, .null :: sk, h) := zrun_at rfl
theorem zi200_134 {E : zE} {x : Nat} {ls sk : List Value} {h : zH} : zrun zpp E 200 (134, .ref x :: ls, sk, h) = zrun zpp E 200 (135, .ref x :: ls, .ref x :: sk, h) := zrun_at rfl
theorem zi200_134n {E : zE} {ls sk : List Value} {h : zH} : zrun zpp E 200 (134, .null :: ls, sk, h) = zrun zpp E 200 (135, .null :: ls, .null :: sk, h) := zrun_at rfl
theorem zi200_135 {E : zE} {v0 v1 v2 v3 : Value} {x : Int32} {ls sk : List Value} {h : zH} : zrun zpp E 200 (135, v0 :: v1 :: v2 :: v3 :: .int x :: ls, sk, h) = zrun zpp E 200 (137, v0 :: v1 :: v2 :: v3 :: .int x :: ls, .int x :: sk, h) := zrun_at rfl
theorem zi200_137 {E : zE} {a0 : Value} {x : Nat} {ls sk : List Value} {h : zH} : zrun zpp E 200 (137, ls, a0 :: .ref x :: sk, h) = (zcls h x).bind (fun d => (zsel d [11, 179]).bind (fun M' => zcl1 E 200 140 M' ls sk [.ref x, a0] h)) := zg_vir (as := [a0]) rfl rfl
theorem zi200_140 {E : zE} {v0 v1 v2 : Value} {x : Int32} {ls sk : List Value} {h : zH} : zrun zpp E 200 (140, v0 :: v1 :: v2 :: .int x :: ls, sk, h) = zrun zpp E 200 (141, v0 :: v1 :: v2 :: .int x :: ls, .int x :: sk, h) := zrun_at rfl
theorem zi200_141 {E : zE} {v0 v1 v2 v3 v4 : Value} {x : Int32} {ls sk : List Value} {h : zH} : zrun zpp E 200 (141, v0 :: v1 :: v2 :: v3 :: v4 :: .int x :: ls, sk, h) = zrun zpp E 200 (143, v0 :: v1 :: v2 :: v3 :: v4 :: .int x :: ls, .int x :: sk, h) := zrun_at rfl
theorem zi200_143 {E : zE} {a0 a1 a2 : Value} {x : Nat} {ls sk : List Value} {h : zH} : zrun zpp E 200 (143, ls, a2 :: a1 :: a0 :: .ref x :: sk, h) = (zcls h x).bind (fun d => (zsel d [11, 187]).bind (fun M' => zcl1 E 200 146 M' ls sk [.ref x, a0, a1, a2] h)) := zg_vir (as := [a0, a1, a2]) rfl rfl
theorem zi200_146 {E : zE} {x y : Int32} {ls sk : List Value} {h : zH} : zrun zpp E 200 (146, ls, .int y :: .int x :: sk, h) = zrun zpp E 200 (147, ls, .int (x + y) :: sk, h) := zrun_at rfl
theorem zi200_147 {E : zE} {v0 v1 : Value} {x : Int32} {ls sk : List Value} {h : zH} : zrun zpp E 200 (147, v0 :: v1 :: .int x :: ls, sk, h) = zrun zpp E 200 (148, v0 :: v1 :: .int x :: ls, .int x :: sk, h) := zrun_at rfl
theorem zi200_148 {E : zE} {x : Int32} {ls sk : List Value} {h : zH} : zrun zpp E 200 (148, ls, .int x :: sk, h) = if x = 0 then zrun zpp E 200 (170, ls, sk, h) else zrun zpp E 200 (151, ls, sk, h) := zrun_at rfl
theorem zi200_151 {E : zE} {ls sk : List Value} {h : zH} : zrun zpp E 200 (151, ls, sk, h) = zrun zpp E 200 (153, ls, .int 100000 :: sk, h) := zg_ldc rfl ci_100000
theorem zi200_153 {E : zE} {x : Nat} {ls sk : List Value} {h : zH} : zrun zpp E 200 (153, .ref x :: ls, sk, h) = zrun zpp E 200 (154, .ref x :: ls, .ref x :: sk, h) := zrun_at rfl
theorem zi200_153n {E : zE} {ls sk : List Value} {h : zH} : zrun zpp E 200 (153, .null :: ls, sk, h) = zrun zpp E 200 (154, .null :: ls, .null :: sk, h) := zrun_at rfl
theorem zi200_154 {E : zE} {x : Nat} {ls sk : List Value} {h : zH} : zrun zpp E 200 (154, .ref x :: ls, sk, h) = zrun zpp E 200 (155, .ref x :: ls, .ref x :: sk, h) := zrun_at rfl
theorem zi200_154n {E : zE} {ls sk : List Value} {h : zH} : zrun zpp E 200 (154, .null :: ls, sk, h) = zrun zpp E 200 (155, .null :: ls, .null :: sk, h) := zrun_at rfl
theorem zi200_155 {E : zE} {v0 v1 v2 v3 : Value} {x : Int32} {ls sk : List Value} {h : zH} : zrun zpp E 200 (155, v0 :: v1 :: v2 :: v3 :: .int x :: ls, sk, h) = zrun zpp E 200 (157, v0 :: v1 :: v2 :: v3 :: .int x :: ls, .int x :: sk, h) := zrun_at rfl
theorem zi200_157 {E : zE} {a0 : Value} {x : Nat} {ls sk : List Value} {h : zH} : zrun zpp E 200 (157, ls, a0 :: .ref x :: sk, h) = (zcls h x).bind (fun d => (zsel d [11, 179]).bind (fun M' => zcl1 E 200 160 M' ls sk [.ref x, a0] h)) := zg_vir (as := [a0]) rfl rfl
theorem zi200_160 {E : zE} {v0 v1 v2 : Value} {x : Int32} {ls sk : List Value} {h : zH} : zrun zpp E 200 (160, v0 :: v1 :: v2 :: .int x :: ls, sk, h) = zrun zpp E 200 (161, v0 :: v1 :: v2 :: .int x :: ls, .int x :: sk, h) := zrun_at rfl
theorem zi200_161 {E : zE} {v0 v1 v2 v3 v4 : Value} {x : Int32} {ls sk : List Value} {h : zH} : zrun zpp E 200 (161, v0 :: v1 :: v2 :: v3 :: v4 :: .int x :: ls, sk, h) = zrun zpp E 200 (163, v0 :: v1 :: v2 :: v3 :: v4 :: .int x :: ls, .int x :: sk, h) := zrun_at rfl
theorem zi200_163 {E : zE} {a0 a1 a2 : Value} {x : Nat} {ls sk : List Value} {h : zH} : zrun zpp E 200 (163, ls, a2 :: a1 :: a0 :: .ref x :: sk, h) = (zcls h x).bind (fun d => (zsel d [11, 188]).bind (fun M' => zcl1 E 200 166 M' ls sk [.ref x, a0, a1, a2] h)) := zg_vir (as := [a0, a1, a2]) rfl rfl
theorem zi200_166 {E : zE} {x y : Int32} {ls sk : List Value} {h : zH} : zrun zpp E 200 (166, ls, .int y :: .int x :: sk, h) = zrun zpp E 200 (167, ls, .int (x * y) :: sk, h) := zrun_at rfl
theorem zi200_167 {E : zE} {ls sk : List Value} {h : zH} : zrun zpp E 200 (167, ls, sk, h) = zrun zpp E 200 (171, ls, sk, h) := zrun_at rfl
theorem zi200_170 {E : zE} {ls sk : List Value} {h : zH} : zrun zpp E 200 (170, ls, sk, h) = zrun zpp E 200 (171, ls, .int 0 :: sk, h) := zg_iconst rfl ci_0
theorem zi200_171 {E : zE} {x y : Int32} {ls sk : List Value} {h : zH} : zrun zpp E 200 (171, ls, .int y :: .int x :: sk, h) = zrun zpp E 200 (172, ls, .int (x + y) :: sk, h) := zrun_at rfl
theorem zi200_172 {E : zE} {x : Int32} {ls sk : List Value} {h : zH} : zrun zpp E 200 (172, ls, .int x :: sk, h) = if zfree ls 7 = true then zrun zpp E 200 (174, ls.set 7 (.int x), sk, h) else none := zg_ist rfl (fun _ _ _ => rfl)
theorem zi200_174 {E : zE} {x : Nat} {ls sk : List Value} {h : zH} : zrun zpp E 200 (174, .ref x :: ls, sk, h) = zrun zpp E 200 (175, .ref x :: ls, .ref x :: sk, h) := zrun_at rfl
theorem zi200_174n {E : zE} {ls sk : List Value} {h : zH} : zrun zpp E 200 (174, .null :: ls, sk, h) = zrun zpp E 200 (175, .null :: ls, .null :: sk, h) := zrun_at rfl
theorem zi200_175 {E : zE} {x : Nat} {ls sk : List Value} {h : zH} : zrun zpp E 200 (175, ls, .ref x :: sk, h) = (zfld [11] h x 19).bind (fun v => zrun zpp E 200 (178, ls, v :: sk, h)) := zg_getf rfl
theorem zi200_178 {E : zE} {v0 v1 v2 : Value} {x : Int32} {ls sk : List Value} {h : zH} : zrun zpp E 200 (178, v0 :: v1 :: v2 :: .int x :: ls, sk, h) = zrun zpp E 200 (179, v0 :: v1 :: v2 :: .int x :: ls, .int x :: sk, h) := zrun_at rfl
theorem zi200_179 {E : zE} {x : Nat} {ls sk : List Value} {h : zH} : zrun zpp E 200 (179, .ref x :: ls, sk, h) = zrun zpp E 200 (180, .ref x :: ls, .ref x :: sk, h) := zrun_at rfl
theorem zi200_179n {E : zE} {ls sk : List Value} {h : zH} : zrun zpp E 200 (179, .null :: ls, sk, h) = zrun zpp E 200 (180, .null :: ls, .null :: sk, h) := zrun_at rfl
theorem zi200_180 {E : zE} {x : Nat} {ls sk : List Value} {h : zH} : zrun zpp E 200 (180, ls, .ref x :: sk, h) = (zfld [11] h x 18).bind (fun v => zrun zpp E 200 (183, ls, v :: sk, h)) := zg_getf rfl
theorem zi200_183 {E : zE} {v0 v1 v2 : Value} {x : Int32} {ls sk : List Value} {h : zH} : zrun zpp E 200 (183, v0 :: v1 :: v2 :: .int x :: ls, sk, h) = zrun zpp E 200 (184, v0 :: v1 :: v2 :: .int x :: ls, .int x :: sk, h) := zrun_at rfl
theorem zi200_184 {E : zE} {x : Nat} {i : Int32} {ls sk : List Value} {h : zH} : zrun zpp E 200 (184, ls, .int i :: .ref x :: sk, h) = (zarr 0 h x i).bind (fun v => zrun zpp E 200 (185, ls, .int v :: sk, h)) := zg_iald rfl
theorem zi200_185 {E : zE} {ls sk : List Value} {h : zH} : zrun zpp E 200 (185, ls, sk, h) = zrun zpp E 200 (187, ls, .int (-1000000) :: sk, h) := zg_ldc rfl ci_m1000000
theorem zi200_187 {E : zE} {x y : Int32} {ls sk : List Value} {h : zH} : zrun zpp E 200 (187, ls, .int y :: .int x :: sk, h) = if x = y then zrun zpp E 200 (201, ls, sk, h) else zrun zpp E 200 (190, ls, sk, h) := zrun_at rfl
theorem zi200_190 {E : zE} {v0 v1 v2 v3 v4 v5 v6 : Value} {x : Int32} {ls sk : List Value} {h : zH} : zrun zpp E 200 (190, v0 :: v1 :: v2 :: v3 :: v4 :: v5 :: v6 :: .int x :: ls, sk, h) = zrun zpp E 200 (192, v0 :: v1 :: v2 :: v3 :: v4 :: v5 :: v6 :: .int x :: ls, .int x :: sk, h) := zrun_at rfl
theorem zi200_192 {E : zE} {x : Nat} {ls sk : List Value} {h : zH} : zrun zpp E 200 (192, .ref x :: ls, sk, h) = zrun zpp E 200 (193, .ref x :: ls, .ref x :: sk, h) := zrun_at rfl
theorem zi200_192n {E : zE} {ls sk : List Value} {h : zH} : zrun zpp E 200 (192, .null :: ls, sk, h) = zrun zpp E 200 (193, .null :: ls, .null :: sk, h) := zrun_at rfl
theorem zi200_193 {E : zE} {x : Nat} {ls sk : List Value} {h : zH} : zrun zpp E 200 (193, ls, .ref x :: sk, h) = (zfld [11] h x 18).bind (fun v => zrun zpp E 200 (196, ls, v :: sk, h)) := zg_getf rfl
theorem zi200_196 {E : zE} {v0 v1 v2 : Value} {x : Int32} {ls sk : List Value} {h : zH} : zrun zpp E 200 (196, v0 :: v1 :: v2 :: .int x :: ls, sk, h) = zrun zpp E 200 (197, v0 :: v1 :: v2 :: .int x :: ls, .int x :: sk, h) := zrun_at rfl
theorem zi200_197 {E : zE} {x : Nat} {i : Int32} {ls sk : List Value} {h : zH} : zrun zpp E 200 (197, ls, .int i :: .ref x :: sk, h) = (zarr 0 h x i).bind (fun v => zrun zpp E 200 (198, ls, .int v :: sk, h)) := zg_iald rfl
theorem zi200_198 {E : zE} {x y : Int32} {ls sk : List Value} {h : zH} : zrun zpp E 200 (198, ls, .int y :: .int x :: sk, h) = if y ≤ x then zrun zpp E 200 (212, ls, sk, h) else zrun zpp E 200 (201, ls, sk, h) := zrun_at rfl
theorem zi200_201 {E : zE} {ls sk : List Value} {h : zH} : zrun zpp E 200 (201, ls, sk, h) = zrun zpp E 200 (203, ls, .int 10 :: sk, h) := zg_bipush rfl ci_10
theorem zi200_203 {E : zE} {v0 v1 v2 v3 : Value} {x : Int32} {ls sk : List Value} {h : zH} : zrun zpp E 200 (203, v0 :: v1 :: v2 :: v3 :: .int x :: ls, sk, h) = zrun zpp E 200 (205, v0 :: v1 :: v2 :: v3 :: .int x :: ls, .int x :: sk, h) := zrun_at rfl
theorem zi200_205 {E : zE} {x y : Int32} {ls sk : List Value} {h : zH} : zrun zpp E 200 (205, ls, .int y :: .int x :: sk, h) = zrun zpp E 200 (206, ls, .int (x * y) :: sk, h) := zrun_at rfl
theorem zi200_206 {E : zE} {v0 v1 v2 v3 v4 : Value} {x : Int32} {ls sk : List Value} {h : zH} : zrun zpp E 200 (206, v0 :: v1 :: v2 :: v3 :: v4 :: .int x :: ls, sk, h) = zrun zpp E 200 (208, v0 :: v1 :: v2 :: v3 :: v4 :: .int x :: ls, .int x :: sk, h) := zrun_at rfl
theorem zi200_208 {E : zE} {x y : Int32} {ls sk : List Value} {h : zH} : zrun zpp E 200 (208, ls, .int y :: .int x :: sk, h) = zrun zpp E 200 (209, ls, .int (x + y) :: sk, h) := zrun_at rfl
theorem zi200_209 {E : zE} {ls sk : List Value} {h : zH} : zrun zpp E 200 (209, ls, sk, h) = zrun zpp E 200 (218, ls, sk, h) := zrun_at rfl
theorem zi200_212 {E : zE} {x : Nat} {ls sk : List Value} {h : zH} : zrun zpp E 200 (212, .ref x :: ls, sk, h) = zrun zpp E 200 (213, .ref x :: ls, .ref x :: sk, h) := zrun_at rfl
theorem zi200_212n {E : zE} {ls sk : List Value} {h : zH} : zrun zpp E 200 (212, .null :: ls, sk, h) = zrun zpp E 200 (213, .null :: ls, .null :: sk, h) := zrun_at rfl
theorem zi200_213 {E : zE} {x : Nat} {ls sk : List Value} {h : zH} : zrun zpp E 200 (213, ls, .ref x :: sk, h) = (zfld [11] h x 19).bind (fun v => zrun zpp E 200 (216, ls, v :: sk, h)) := zg_getf rfl
theorem zi200_216 {E : zE} {v0 v1 v2 : Value} {x : Int32} {ls sk : List Value} {h : zH} : zrun zpp E 200 (216, v0 :: v1 :: v2 :: .int x :: ls, sk, h) = zrun zpp E 200 (217, v0 :: v1 :: v2 :: .int x :: ls, .int x :: sk, h) := zrun_at rfl
theorem zi200_217 {E : zE} {x : Nat} {i : Int32} {ls sk : List Value} {h : zH} : zrun zpp E 200 (217, ls, .int i :: .ref x :: sk, h) = (zarr 0 h x i).bind (fun v => zrun zpp E 200 (218, ls, .int v :: sk, h)) := zg_iald rfl
theorem zi200_218 {E : zE} {x : Nat} {i v : Int32} {ls sk : List Value} {h : zH} : zrun zpp E 200 (218, ls, .int v :: .int i :: .ref x :: sk, h) = (zars 0 h x i v).bind (fun h' => zrun zpp E 200 (219, ls, sk, h')) := zg_iast rfl
theorem zi200_219 {E : zE} {x : Nat} {ls sk : List Value} {h : zH} : zrun zpp E 200 (219, .ref x :: ls, sk, h) = zrun zpp E 200 (220, .ref x :: ls, .ref x :: sk, h) := zrun_at rfl
theorem zi200_219n {E : zE} {ls sk : List Value} {h : zH} : zrun zpp E 200 (219, .null :: ls, sk, h) = zrun zpp E 200 (220, .null :: ls, .null :: sk, h) := zrun_at rfl
theorem zi200_220 {E : zE} {x : Nat} {ls sk : List Value} {h : zH} : zrun zpp E 200 (220, ls, .ref x :: sk, h) = (zfld [11] h x 18).bind (fun v => zrun zpp E 200 (223, ls, v :: sk, h)) := zg_getf rfl
theorem zi200_223 {E : zE} {v0 v1 v2 : Value} {x : Int32} {ls sk : List Value} {h : zH} : zrun zpp E 200 (223, v0 :: v1 :: v2 :: .int x :: ls, sk, h) = zrun zpp E 200 (224, v0 :: v1 :: v2 :: .int x :: ls, .int x :: sk, h) := zrun_at rfl
theorem zi200_224 {E : zE} {x : Nat} {ls sk : List Value} {h : zH} : zrun zpp E 200 (224, .ref x :: ls, sk, h) = zrun zpp E 200 (225, .ref x :: ls, .ref x :: sk, h) := zrun_at rfl
theorem zi200_224n {E : zE} {ls sk : List Value} {h : zH} : zrun zpp E 200 (224, .null :: ls, sk, h) = zrun zpp E 200 (225, .null :: ls, .null :: sk, h) := zrun_at rfl
theorem zi200_225 {E : zE} {x : Nat} {ls sk : List Value} {h : zH} : zrun zpp E 200 (225, ls, .ref x :: sk, h) = (zfld [11] h x 18).bind (fun v => zrun zpp E 200 (228, ls, v :: sk, h)) := zg_getf rfl
theorem zi200_228 {E : zE} {v0 v1 v2 : Value} {x : Int32} {ls sk : List Value} {h : zH} : zrun zpp E 200 (228, v0 :: v1 :: v2 :: .int x :: ls, sk, h) = zrun zpp E 200 (229, v0 :: v1 :: v2 :: .int x :: ls, .int x :: sk, h) := zrun_at rfl
theorem zi200_229 {E : zE} {x : Nat} {i : Int32} {ls sk : List Value} {h : zH} : zrun zpp E 200 (229, ls, .int i :: .ref x :: sk, h) = (zarr 0 h x i).bind (fun v => zrun zpp E 200 (230, ls, .int v :: sk, h)) := zg_iald rfl
theorem zi200_230 {E : zE} {ls sk : List Value} {h : zH} : zrun zpp E 200 (230, ls, sk, h) = zrun zpp E 200 (232, ls, .int (-1000000) :: sk, h) := zg_ldc rfl ci_m1000000
theorem zi200_232 {E : zE} {x y : Int32} {ls sk : List Value} {h : zH} : zrun zpp E 200 (232, ls, .int y :: .int x :: sk, h) = if x = y then zrun zpp E 200 (246, ls, sk, h) else zrun zpp E 200 (235, ls, sk, h) := zrun_at rfl
theorem zi200_235 {E : zE} {v0 v1 v2 v3 v4 v5 v6 : Value} {x : Int32} {ls sk : List Value} {h : zH} : zrun zpp E 200 (235, v0 :: v1 :: v2 :: v3 :: v4 :: v5 :: v6 :: .int x :: ls, sk, h) = zrun zpp E 200 (237, v0 :: v1 :: v2 :: v3 :: v4 :: v5 :: v6 :: .int x :: ls, .int x :: sk, h) := zrun_at rfl
theorem zi200_237 {E : zE} {x : Nat} {ls sk : List Value} {h : zH} : zrun zpp E 200 (237, .ref x :: ls, sk, h) = zrun zpp E 200 (238, .ref x :: ls, .ref x :: sk, h) := zrun_at rfl
theorem zi200_237n {E : zE} {ls sk : List Value} {h : zH} : zrun zpp E 200 (237, .null :: ls, sk, h) = zrun zpp E 200 (238, .null :: ls, .null :: sk, h) := zrun_at rfl
theorem zi200_238 {E : zE} {x : Nat} {ls sk : List Value} {h : zH} : zrun zpp E 200 (238, ls, .ref x :: sk, h) = (zfld [11] h x 18).bind (fun v => zrun zpp E 200 (241, ls, v :: sk, h)) := zg_getf rfl
theorem zi200_241 {E : zE} {v0 v1 v2 : Value} {x : Int32} {ls sk : List Value} {h : zH} : zrun zpp E 200 (241, v0 :: v1 :: v2 :: .int x :: ls, sk, h) = zrun zpp E 200 (242, v0 :: v1 :: v2 :: .int x :: ls, .int x :: sk, h) := zrun_at rfl
theorem zi200_242 {E : zE} {x : Nat} {i : Int32} {ls sk : List Value} {h : zH} : zrun zpp E 200 (242, ls, .int i :: .ref x :: sk, h) = (zarr 0 h x i).bind (fun v => zrun zpp E 200 (243, ls, .int v :: sk, h)) := zg_iald rfl
theorem zi200_243 {E : zE} {x y : Int32} {ls sk : List Value} {h : zH} : zrun zpp E 200 (243, ls, .int y :: .int x :: sk, h) = if y ≤ x then zrun zpp E 200 (251, ls, sk, h) else zrun zpp E 200 (246, ls, sk, h) := zrun_at rfl
theorem zi200_246 {E : zE} {v0 v1 v2 v3 v4 v5 v6 : Value} {x : Int32} {ls sk : List Value} {h : zH} : zrun zpp E 200 (246, v0 :: v1 :: v2 :: v3 :: v4 :: v5 :: v6 :: .int x :: ls, sk, h) = zrun zpp E 200 (248, v0 :: v1 :: v2 :: v3 :: v4 :: v5 :: v6 :: .int x :: ls, .int x :: sk, h) := zrun_at rfl
theorem zi200_248 {E : zE} {ls sk : List Value} {h : zH} : zrun zpp E 200 (248, ls, sk, h) = zrun zpp E 200 (257, ls, sk, h) := zrun_at rfl
theorem zi200_251 {E : zE} {x : Nat} {ls sk : List Value} {h : zH} : zrun zpp E 200 (251, .ref x :: ls, sk, h) = zrun zpp E 200 (252, .ref x :: ls, .ref x :: sk, h) := zrun_at rfl
theorem zi200_251n {E : zE} {ls sk : List Value} {h : zH} : zrun zpp E 200 (251, .null :: ls, sk, h) = zrun zpp E 200 (252, .null :: ls, .null :: sk, h) := zrun_at rfl
theorem zi200_252 {E : zE} {x : Nat} {ls sk : List Value} {h : zH} : zrun zpp E 200 (252, ls, .ref x :: sk, h) = (zfld [11] h x 18).bind (fun v => zrun zpp E 200 (255, ls, v :: sk, h)) := zg_getf rfl
theorem zi200_255 {E : zE} {v0 v1 v2 : Value} {x : Int32} {ls sk : List Value} {h : zH} : zrun zpp E 200 (255, v0 :: v1 :: v2 :: .int x :: ls, sk, h) = zrun zpp E 200 (256, v0 :: v1 :: v2 :: .int x :: ls, .int x :: sk, h) := zrun_at rfl
theorem zi200_256 {E : zE} {x : Nat} {i : Int32} {ls sk : List Value} {h : zH} : zrun zpp E 200 (256, ls, .int i :: .ref x :: sk, h) = (zarr 0 h x i).bind (fun v => zrun zpp E 200 (257, ls, .int v :: sk, h)) := zg_iald rfl
theorem zi200_257 {E : zE} {x : Nat} {i v : Int32} {ls sk : List Value} {h : zH} : zrun zpp E 200 (257, ls, .int v :: .int i :: .ref x :: sk, h) = (zars 0 h x i v).bind (fun h' => zrun zpp E 200 (258, ls, sk, h')) := zg_iast rfl
theorem zi200_258 {E : zE} {v0 v1 v2 v3 v4 : Value} {x : Int32} {ls sk : List Value} {h : zH} : zrun zpp E 200 (258, v0 :: v1 :: v2 :: v3 :: v4 :: .int x :: ls, sk, h) = if zfree (v0 :: v1 :: v2 :: v3 :: v4 :: .int x :: ls) 5 = true then zrun zpp E 200 (261, v0 :: v1 :: v2 :: v3 :: v4 :: .int (x + 1) :: ls, sk, h) else none := by rw [← ci_1]; exact zrun_at rfl
theorem zi200_261 {E : zE} {ls sk : List Value} {h : zH} : zrun zpp E 200 (261, ls, sk, h) = zrun zpp E 200 (62, ls, sk, h) := zrun_at rfl
theorem zi200_264 {E : zE} {v0 v1 v2 v3 : Value} {x : Int32} {ls sk : List Value} {h : zH} : zrun zpp E 200 (264, v0 :: v1 :: v2 :: v3 :: .int x :: ls, sk, h) = if zfree (v0 :: v1 :: v2 :: v3 :: .int x :: ls) 4 = true then zrun zpp E 200 (267, v0 :: v1 :: v2 :: v3 :: .int (x + 1) :: ls, sk, h) else none := by rw [← ci_1]; exact zrun_at rfl
theorem zi200_267 {E : zE} {ls sk : List Value} {h : zH} : zrun zpp E 200 (267, ls, sk, h) = zrun zpp E 200 (48, ls, sk, h) := zrun_at rfl
theorem zi200_270 {E : zE} {v0 v1 v2 : Value} {x : Int32} {ls sk : List Value} {h : zH} : zrun zpp E 200 (270, v0 :: v1 :: v2 :: .int x :: ls, sk, h) = if zfree (v0 :: v1 :: v2 :: .int x :: ls) 3 = true then zrun zpp E 200 (273, v0 :: v1 :: v2 :: .int (x + 1) :: ls, sk, h) else none := by rw [← ci_1]; exact zrun_at rfl
theorem zi200_273 {E : zE} {ls sk : List Value} {h : zH} : zrun zpp E 200 (273, ls, sk, h) = zrun zpp E 200 (17, ls, sk, h) := zrun_at rfl
theorem zi200_276 {E : zE} {ls sk : List Value} {h : zH} : zrun zpp E 200 (276, ls, [], h) = some (none, h) := zrun_at rfl
-- 201 NineDownModel.soonest
theorem zi201_0 {E : zE} {x : Nat} {ls sk : List Value} {h : zH} : zrun zpp E 201 (0, .ref x :: ls, sk, h) = zrun zpp E 201 (1, .ref x :: ls, .ref x :: sk, h) := zrun_at rfl
theorem zi201_0n {E : zE} {ls sk : List Value} {h : zH} : zrun zpp E 201 (0, .null :: ls, sk, h) = zrun zpp E 201 (1, .null :: ls, .null :: sk, h) := zrun_at rfl
theorem zi201_1 {E : zE} {ls sk : List Value} {h : zH} : zrun zpp E 201 (1, ls, sk, h) = zrun zpp E 201 (2, ls, .int 0 :: sk, h) := zg_iconst rfl ci_0
theorem zi201_2 {E : zE} {x : Nat} {v : Value} {ls sk : List Value} {h : zH} : zrun zpp E 201 (2, ls, v :: .ref x :: sk, h) = (zstf [11] 0 h x 0 v).bind (fun h' => zrun zpp E 201 (5, ls, sk, h')) := zg_putf rfl
theorem zi201_5 {E : zE} {x : Nat} {ls sk : List Value} {h : zH} : zrun zpp E 201 (5, .ref x :: ls, sk, h) = zrun zpp E 201 (6, .ref x :: ls, .ref x :: sk, h) := zrun_at rfl
theorem zi201_5n {E : zE} {ls sk : List Value} {h : zH} : zrun zpp E 201 (5, .null :: ls, sk, h) = zrun zpp E 201 (6, .null :: ls, .null :: sk, h) := zrun_at rfl
theorem zi201_6 {E : zE} {x : Nat} {ls sk : List Value} {h : zH} : zrun zpp E 201 (6, ls, .ref x :: sk, h) = (zcls h x).bind (fun d => (zsel d [11, 172]).bind (fun M' => zcl1 E 201 9 M' ls sk [.ref x] h)) := zg_vir (as := []) rfl rfl
theorem zi201_9 {E : zE} {x : Int32} {ls sk : List Value} {h : zH} : zrun zpp E 201 (9, ls, .int x :: sk, h) = if x = 0 then zrun zpp E 201 (12, ls, sk, h) else zrun zpp E 201 (15, ls, sk, h) := zrun_at rfl
theorem zi201_12 {E : zE} {ls sk : List Value} {h : zH} : zrun zpp E 201 (12, ls, sk, h) = zrun zpp E 201 (14, ls, .int (-1000002) :: sk, h) := zg_ldc rfl ci_m1000002
theorem zi201_14 {E : zE} {x : Int32} {ls sk : List Value} {h : zH} : zrun zpp E 201 (14, ls, [.int x], h) = some (some (.int x), h) := zrun_at rfl
theorem zi201_15 {E : zE} {x : Nat} {ls sk : List Value} {h : zH} : zrun zpp E 201 (15, .ref x :: ls, sk, h) = zrun zpp E 201 (16, .ref x :: ls, .ref x :: sk, h) := zrun_at rfl
theorem zi201_15n {E : zE} {ls sk : List Value} {h : zH} : zrun zpp E 201 (15, .null :: ls, sk, h) = zrun zpp E 201 (16, .null :: ls, .null :: sk, h) := zrun_at rfl
theorem zi201_16 {E : zE} {v0 : Value} {x : Int32} {ls sk : List Value} {h : zH} : zrun zpp E 201 (16, v0 :: .int x :: ls, sk, h) = zrun zpp E 201 (17, v0 :: .int x :: ls, .int x :: sk, h) := zrun_at rfl
theorem zi201_17 {E : zE} {a0 : Value} {x : Nat} {ls sk : List Value} {h : zH} : zrun zpp E 201 (17, ls, a0 :: .ref x :: sk, h) = (zcls h x).bind (fun d => (zsel d [11, 176]).bind (fun M' => zcl1 E 201 20 M' ls sk [.ref x, a0] h)) := zg_vir (as := [a0]) rfl rfl
theorem zi201_20 {E : zE} {x : Int32} {ls sk : List Value} {h : zH} : zrun zpp E 201 (20, ls, .int x :: sk, h) = if x = 0 then zrun zpp E 201 (33, ls, sk, h) else zrun zpp E 201 (23, ls, sk, h) := zrun_at rfl
theorem zi201_23 {E : zE} {v0 v1 : Value} {x : Int32} {ls sk : List Value} {h : zH} : zrun zpp E 201 (23, v0 :: v1 :: .int x :: ls, sk, h) = zrun zpp E 201 (24, v0 :: v1 :: .int x :: ls, .int x :: sk, h) := zrun_at rfl
theorem zi201_24 {E : zE} {x : Int32} {ls sk : List Value} {h : zH} : zrun zpp E 201 (24, ls, .int x :: sk, h) = zrun zpp E 201 (25, ls, .long x.toInt64 :: sk, h) := zrun_at rfl
theorem zi201_25 {E : zE} {ls sk : List Value} {h : zH} : zrun zpp E 201 (25, ls, sk, h) = zrun zpp E 201 (26, ls, .long 0 :: sk, h) := zg_lconst rfl rfl
theorem zi201_26 {E : zE} {ls sk : List Value} {h : zH} : zrun zpp E 201 (26, ls, sk, h) = zrun zpp E 201 (27, ls, .long 1 :: sk, h) := zg_lconst rfl rfl
theorem zi201_27 {E : zE} {a0 a1 a2 : Value} {ls sk : List Value} {h : zH} : zrun zpp E 201 (27, ls, a2 :: a1 :: a0 :: sk, h) = zcl1 E 201 30 149 ls sk [a0, a1, a2] h := zg_inv (as := [a0, a1, a2]) rfl rfl
theorem zi201_30 {E : zE} {x : Int32} {ls sk : List Value} {h : zH} : zrun zpp E 201 (30, ls, .int x :: sk, h) = if x = 0 then zrun zpp E 201 (33, ls, sk, h) else zrun zpp E 201 (36, ls, sk, h) := zrun_at rfl
theorem zi201_33 {E : zE} {ls sk : List Value} {h : zH} : zrun zpp E 201 (33, ls, sk, h) = zrun zpp E 201 (35, ls, .int (-1000001) :: sk, h) := zg_ldc rfl ci_m1000001
theorem zi201_35 {E : zE} {x : Int32} {ls sk : List Value} {h : zH} : zrun zpp E 201 (35, ls, [.int x], h) = some (some (.int x), h) := zrun_at rfl
theorem zi201_36 {E : zE} {x : Nat} {ls sk : List Value} {h : zH} : zrun zpp E 201 (36, .ref x :: ls, sk, h) = zrun zpp E 201 (37, .ref x :: ls, .ref x :: sk, h) := zrun_at rfl
theorem zi201_36n {E : zE} {ls sk : List Value} {h : zH} : zrun zpp E 201 (36, .null :: ls, sk, h) = zrun zpp E 201 (37, .null :: ls, .null :: sk, h) := zrun_at rfl
theorem zi201_37 {E : zE} {v0 : Value} {x : Int32} {ls sk : List Value} {h : zH} : zrun zpp E 201 (37, v0 :: .int x :: ls, sk, h) = zrun zpp E 201 (38, v0 :: .int x :: ls, .int x :: sk, h) := zrun_at rfl
theorem zi201_38 {E : zE} {ls sk : List Value} {h : zH} : zrun zpp E 201 (38, ls, sk, h) = zrun zpp E 201 (39, ls, .int 0 :: sk, h) := zg_iconst rfl ci_0
theorem zi201_39 {E : zE} {a0 a1 : Value} {x : Nat} {ls sk : List Value} {h : zH} : zrun zpp E 201 (39, ls, a1 :: a0 :: .ref x :: sk, h) = (zcls h x).bind (fun d => (zsel d [11, 200]).bind (fun M' => zcl1 E 201 42 M' ls sk [.ref x, a0, a1] h)) := zg_vir (as := [a0, a1]) rfl rfl
theorem zi201_42 {E : zE} {v0 v1 : Value} {x : Int32} {ls sk : List Value} {h : zH} : zrun zpp E 201 (42, v0 :: v1 :: .int x :: ls, sk, h) = zrun zpp E 201 (43, v0 :: v1 :: .int x :: ls, .int x :: sk, h) := zrun_at rfl
theorem zi201_43 {E : zE} {x : Int32} {ls sk : List Value} {h : zH} : zrun zpp E 201 (43, ls, .int x :: sk, h) = if x = 0 then zrun zpp E 201 (46, ls, sk, h) else zrun zpp E 201 (61, ls, sk, h) := zrun_at rfl
theorem zi201_46 {E : zE} {x : Nat} {ls sk : List Value} {h : zH} : zrun zpp E 201 (46, .ref x :: ls, sk, h) = zrun zpp E 201 (47, .ref x :: ls, .ref x :: sk, h) := zrun_at rfl
theorem zi201_46n {E : zE} {ls sk : List Value} {h : zH} : zrun zpp E 201 (46, .null :: ls, sk, h) = zrun zpp E 201 (47, .null :: ls, .null :: sk, h) := zrun_at rfl
theorem zi201_47 {E : zE} {x : Nat} {ls sk : List Value} {h : zH} : zrun zpp E 201 (47, ls, .ref x :: sk, h) = (zfld [11] h x 18).bind (fun v => zrun zpp E 201 (50, ls, v :: sk, h)) := zg_getf rfl
theorem zi201_50 {E : zE} {x : Nat} {ls sk : List Value} {h : zH} : zrun zpp E 201 (50, .ref x :: ls, sk, h) = zrun zpp E 201 (51, .ref x :: ls, .ref x :: sk, h) := zrun_at rfl
theorem zi201_50n {E : zE} {ls sk : List Value} {h : zH} : zrun zpp E 201 (50, .null :: ls, sk, h) = zrun zpp E 201 (51, .null :: ls, .null :: sk, h) := zrun_at rfl
theorem zi201_51 {E : zE} {x : Nat} {ls sk : List Value} {h : zH} : zrun zpp E 201 (51, ls, .ref x :: sk, h) = (zfld [11] h x 5).bind (fun v => zrun zpp E 201 (54, ls, v :: sk, h)) := zg_getf rfl
theorem zi201_54 {E : zE} {ls sk : List Value} {h : zH} : zrun zpp E 201 (54, ls, sk, h) = zrun zpp E 201 (56, ls, .int 8 :: sk, h) := zg_bipush rfl ci_8
theorem zi201_56 {E : zE} {x : Nat} {i : Int32} {ls sk : List Value} {h : zH} : zrun zpp E 201 (56, ls, .int i :: .ref x :: sk, h) = (zarr 0 h x i).bind (fun v => zrun zpp E 201 (57, ls, .int v :: sk, h)) := zg_iald rfl
theorem zi201_57 {E : zE} {x : Nat} {i : Int32} {ls sk : List Value} {h : zH} : zrun zpp E 201 (57, ls, .int i :: .ref x :: sk, h) = (zarr 0 h x i).bind (fun v => zrun zpp E 201 (58, ls, .int v :: sk, h)) := zg_iald rfl
theorem zi201_58 {E : zE} {ls sk : List Value} {h : zH} : zrun zpp E 201 (58, ls, sk, h) = zrun zpp E 201 (73, ls, sk, h) := zrun_at rfl
theorem zi201_61 {E : zE} {x : Nat} {ls sk : List Value} {h : zH} : zrun zpp E 201 (61, .ref x :: ls, sk, h) = zrun zpp E 201 (62, .ref x :: ls, .ref x :: sk, h) := zrun_at rfl
theorem zi201_61n {E : zE} {ls sk : List Value} {h : zH} : zrun zpp E 201 (61, .null :: ls, sk, h) = zrun zpp E 201 (62, .null :: ls, .null :: sk, h) := zrun_at rfl
theorem zi201_62 {E : zE} {x : Nat} {ls sk : List Value} {h : zH} : zrun zpp E 201 (62, ls, .ref x :: sk, h) = (zfld [11] h x 19).bind (fun v => zrun zpp E 201 (65, ls, v :: sk, h)) := zg_getf rfl
theorem zi201_65 {E : zE} {x : Nat} {ls sk : List Value} {h : zH} : zrun zpp E 201 (65, .ref x :: ls, sk, h) = zrun zpp E 201 (66, .ref x :: ls, .ref x :: sk, h) := zrun_at rfl
theorem zi201_65n {E : zE} {ls sk : List Value} {h : zH} : zrun zpp E 201 (65, .null :: ls, sk, h) = zrun zpp E 201 (66, .null :: ls, .null :: sk, h) := zrun_at rfl
theorem zi201_66 {E : zE} {x : Nat} {ls sk : List Value} {h : zH} : zrun zpp E 201 (66, ls, .ref x :: sk, h) = (zfld [11] h x 5).bind (fun v => zrun zpp E 201 (69, ls, v :: sk, h)) := zg_getf rfl
theorem zi201_69 {E : zE} {ls sk : List Value} {h : zH} : zrun zpp E 201 (69, ls, sk, h) = zrun zpp E 201 (71, ls, .int 8 :: sk, h) := zg_bipush rfl ci_8
theorem zi201_71 {E : zE} {x : Nat} {i : Int32} {ls sk : List Value} {h : zH} : zrun zpp E 201 (71, ls, .int i :: .ref x :: sk, h) = (zarr 0 h x i).bind (fun v => zrun zpp E 201 (72, ls, .int v :: sk, h)) := zg_iald rfl
theorem zi201_72 {E : zE} {x : Nat} {i : Int32} {ls sk : List Value} {h : zH} : zrun zpp E 201 (72, ls, .int i :: .ref x :: sk, h) = (zarr 0 h x i).bind (fun v => zrun zpp E 201 (73, ls, .int v :: sk, h)) := zg_iald rfl
theorem zi201_73 {E : zE} {x : Int32} {ls sk : List Value} {h : zH} : zrun zpp E 201 (73, ls, [.int x], h) = some (some (.int x), h) := zrun_at rfl
-- 202 NineDownModel.gentlest
theorem zi202_0 {E : zE} {x : Nat} {ls sk : List Value} {h : zH} : zrun zpp E 202 (0, .ref x :: ls, sk, h) = zrun zpp E 202 (1, .ref x :: ls, .ref x :: sk, h) := zrun_at rfl
theorem zi202_0n {E : zE} {ls sk : List Value} {h : zH} : zrun zpp E 202 (0, .null :: ls, sk, h) = zrun zpp E 202 (1, .null :: ls, .null :: sk, h) := zrun_at rfl
theorem zi202_1 {E : zE} {ls sk : List Value} {h : zH} : zrun zpp E 202 (1, ls, sk, h) = zrun zpp E 202 (2, ls, .int 0 :: sk, h) := zg_iconst rfl ci_0
theorem zi202_2 {E : zE} {x : Nat} {v : Value} {ls sk : List Value} {h : zH} : zrun zpp E 202 (2, ls, v :: .ref x :: sk, h) = (zstf [11] 0 h x 0 v).bind (fun h' => zrun zpp E 202 (5, ls, sk, h')) := zg_putf rfl
theorem zi202_5 {E : zE} {x : Nat} {ls sk : List Value} {h : zH} : zrun zpp E 202 (5, .ref x :: ls, sk, h) = zrun zpp E 202 (6, .ref x :: ls, .ref x :: sk, h) := zrun_at rfl
theorem zi202_5n {E : zE} {ls sk : List Value} {h : zH} : zrun zpp E 202 (5, .null :: ls, sk, h) = zrun zpp E 202 (6, .null :: ls, .null :: sk, h) := zrun_at rfl
theorem zi202_6 {E : zE} {x : Nat} {ls sk : List Value} {h : zH} : zrun zpp E 202 (6, ls, .ref x :: sk, h) = (zcls h x).bind (fun d => (zsel d [11, 172]).bind (fun M' => zcl1 E 202 9 M' ls sk [.ref x] h)) := zg_vir (as := []) rfl rfl
theorem zi202_9 {E : zE} {x : Int32} {ls sk : List Value} {h : zH} : zrun zpp E 202 (9, ls, .int x :: sk, h) = if x = 0 then zrun zpp E 202 (12, ls, sk, h) else zrun zpp E 202 (15, ls, sk, h) := zrun_at rfl
theorem zi202_12 {E : zE} {ls sk : List Value} {h : zH} : zrun zpp E 202 (12, ls, sk, h) = zrun zpp E 202 (14, ls, .int (-1000002) :: sk, h) := zg_ldc rfl ci_m1000002
theorem zi202_14 {E : zE} {x : Int32} {ls sk : List Value} {h : zH} : zrun zpp E 202 (14, ls, [.int x], h) = some (some (.int x), h) := zrun_at rfl
theorem zi202_15 {E : zE} {x : Nat} {ls sk : List Value} {h : zH} : zrun zpp E 202 (15, .ref x :: ls, sk, h) = zrun zpp E 202 (16, .ref x :: ls, .ref x :: sk, h) := zrun_at rfl
theorem zi202_15n {E : zE} {ls sk : List Value} {h : zH} : zrun zpp E 202 (15, .null :: ls, sk, h) = zrun zpp E 202 (16, .null :: ls, .null :: sk, h) := zrun_at rfl
theorem zi202_16 {E : zE} {v0 : Value} {x : Int32} {ls sk : List Value} {h : zH} : zrun zpp E 202 (16, v0 :: .int x :: ls, sk, h) = zrun zpp E 202 (17, v0 :: .int x :: ls, .int x :: sk, h) := zrun_at rfl
theorem zi202_17 {E : zE} {a0 : Value} {x : Nat} {ls sk : List Value} {h : zH} : zrun zpp E 202 (17, ls, a0 :: .ref x :: sk, h) = (zcls h x).bind (fun d => (zsel d [11, 176]).bind (fun M' => zcl1 E 202 20 M' ls sk [.ref x, a0] h)) := zg_vir (as := [a0]) rfl rfl
theorem zi202_20 {E : zE} {x : Int32} {ls sk : List Value} {h : zH} : zrun zpp E 202 (20, ls, .int x :: sk, h) = if x = 0 then zrun zpp E 202 (35, ls, sk, h) else zrun zpp E 202 (23, ls, sk, h) := zrun_at rfl
theorem zi202_23 {E : zE} {v0 v1 : Value} {x : Int32} {ls sk : List Value} {h : zH} : zrun zpp E 202 (23, v0 :: v1 :: .int x :: ls, sk, h) = zrun zpp E 202 (24, v0 :: v1 :: .int x :: ls, .int x :: sk, h) := zrun_at rfl
theorem zi202_24 {E : zE} {x : Int32} {ls sk : List Value} {h : zH} : zrun zpp E 202 (24, ls, .int x :: sk, h) = zrun zpp E 202 (25, ls, .long x.toInt64 :: sk, h) := zrun_at rfl
theorem zi202_25 {E : zE} {ls sk : List Value} {h : zH} : zrun zpp E 202 (25, ls, sk, h) = zrun zpp E 202 (26, ls, .long 0 :: sk, h) := zg_lconst rfl rfl
theorem zi202_26 {E : zE} {ls sk : List Value} {h : zH} : zrun zpp E 202 (26, ls, sk, h) = zrun zpp E 202 (29, ls, .long 2 :: sk, h) := zg_ldc2_w rfl cj_2
theorem zi202_29 {E : zE} {a0 a1 a2 : Value} {ls sk : List Value} {h : zH} : zrun zpp E 202 (29, ls, a2 :: a1 :: a0 :: sk, h) = zcl1 E 202 32 149 ls sk [a0, a1, a2] h := zg_inv (as := [a0, a1, a2]) rfl rfl
theorem zi202_32 {E : zE} {x : Int32} {ls sk : List Value} {h : zH} : zrun zpp E 202 (32, ls, .int x :: sk, h) = if x = 0 then zrun zpp E 202 (35, ls, sk, h) else zrun zpp E 202 (38, ls, sk, h) := zrun_at rfl
theorem zi202_35 {E : zE} {ls sk : List Value} {h : zH} : zrun zpp E 202 (35, ls, sk, h) = zrun zpp E 202 (37, ls, .int (-1000001) :: sk, h) := zg_ldc rfl ci_m1000001
theorem zi202_37 {E : zE} {x : Int32} {ls sk : List Value} {h : zH} : zrun zpp E 202 (37, ls, [.int x], h) = some (some (.int x), h) := zrun_at rfl
theorem zi202_38 {E : zE} {x : Nat} {ls sk : List Value} {h : zH} : zrun zpp E 202 (38, .ref x :: ls, sk, h) = zrun zpp E 202 (39, .ref x :: ls, .ref x :: sk, h) := zrun_at rfl
theorem zi202_38n {E : zE} {ls sk : List Value} {h : zH} : zrun zpp E 202 (38, .null :: ls, sk, h) = zrun zpp E 202 (39, .null :: ls, .null :: sk, h) := zrun_at rfl
theorem zi202_39 {E : zE} {v0 : Value} {x : Int32} {ls sk : List Value} {h : zH} : zrun zpp E 202 (39, v0 :: .int x :: ls, sk, h) = zrun zpp E 202 (40, v0 :: .int x :: ls, .int x :: sk, h) := zrun_at rfl
theorem zi202_40 {E : zE} {ls sk : List Value} {h : zH} : zrun zpp E 202 (40, ls, sk, h) = zrun zpp E 202 (41, ls, .int 1 :: sk, h) := zg_iconst rfl ci_1
theorem zi202_41 {E : zE} {a0 a1 : Value} {x : Nat} {ls sk : List Value} {h : zH} : zrun zpp E 202 (41, ls, a1 :: a0 :: .ref x :: sk, h) = (zcls h x).bind (fun d => (zsel d [11, 200]).bind (fun M' => zcl1 E 202 44 M' ls sk [.ref x, a0, a1] h)) := zg_vir (as := [a0, a1]) rfl rfl
theorem zi202_44 {E : zE} {x : Nat} {ls sk : List Value} {h : zH} : zrun zpp E 202 (44, .ref x :: ls, sk, h) = zrun zpp E 202 (45, .ref x :: ls, .ref x :: sk, h) := zrun_at rfl
theorem zi202_44n {E : zE} {ls sk : List Value} {h : zH} : zrun zpp E 202 (44, .null :: ls, sk, h) = zrun zpp E 202 (45, .null :: ls, .null :: sk, h) := zrun_at rfl
theorem zi202_45 {E : zE} {x : Nat} {ls sk : List Value} {h : zH} : zrun zpp E 202 (45, ls, .ref x :: sk, h) = (zfld [11] h x 18).bind (fun v => zrun zpp E 202 (48, ls, v :: sk, h)) := zg_getf rfl
theorem zi202_48 {E : zE} {x : Nat} {ls sk : List Value} {h : zH} : zrun zpp E 202 (48, .ref x :: ls, sk, h) = zrun zpp E 202 (49, .ref x :: ls, .ref x :: sk, h) := zrun_at rfl
theorem zi202_48n {E : zE} {ls sk : List Value} {h : zH} : zrun zpp E 202 (48, .null :: ls, sk, h) = zrun zpp E 202 (49, .null :: ls, .null :: sk, h) := zrun_at rfl
theorem zi202_49 {E : zE} {x : Nat} {ls sk : List Value} {h : zH} : zrun zpp E 202 (49, ls, .ref x :: sk, h) = (zfld [11] h x 5).bind (fun v => zrun zpp E 202 (52, ls, v :: sk, h)) := zg_getf rfl
theorem zi202_52 {E : zE} {ls sk : List Value} {h : zH} : zrun zpp E 202 (52, ls, sk, h) = zrun zpp E 202 (54, ls, .int 8 :: sk, h) := zg_bipush rfl ci_8
theorem zi202_54 {E : zE} {x : Nat} {i : Int32} {ls sk : List Value} {h : zH} : zrun zpp E 202 (54, ls, .int i :: .ref x :: sk, h) = (zarr 0 h x i).bind (fun v => zrun zpp E 202 (55, ls, .int v :: sk, h)) := zg_iald rfl
theorem zi202_55 {E : zE} {x : Nat} {i : Int32} {ls sk : List Value} {h : zH} : zrun zpp E 202 (55, ls, .int i :: .ref x :: sk, h) = (zarr 0 h x i).bind (fun v => zrun zpp E 202 (56, ls, .int v :: sk, h)) := zg_iald rfl
theorem zi202_56 {E : zE} {x : Int32} {ls sk : List Value} {h : zH} : zrun zpp E 202 (56, ls, .int x :: sk, h) = if zfree ls 3 = true then zrun zpp E 202 (57, ls.set 3 (.int x), sk, h) else none := zg_ist rfl (fun _ _ _ => rfl)
theorem zi202_57 {E : zE} {v0 v1 v2 : Value} {x : Int32} {ls sk : List Value} {h : zH} : zrun zpp E 202 (57, v0 :: v1 :: v2 :: .int x :: ls, sk, h) = zrun zpp E 202 (58, v0 :: v1 :: v2 :: .int x :: ls, .int x :: sk, h) := zrun_at rfl
theorem zi202_58 {E : zE} {ls sk : List Value} {h : zH} : zrun zpp E 202 (58, ls, sk, h) = zrun zpp E 202 (60, ls, .int (-1000000) :: sk, h) := zg_ldc rfl ci_m1000000
theorem zi202_60 {E : zE} {x y : Int32} {ls sk : List Value} {h : zH} : zrun zpp E 202 (60, ls, .int y :: .int x :: sk, h) = if x = y then zrun zpp E 202 (63, ls, sk, h) else zrun zpp E 202 (68, ls, sk, h) := zrun_at rfl
theorem zi202_63 {E : zE} {ls sk : List Value} {h : zH} : zrun zpp E 202 (63, ls, sk, h) = zrun zpp E 202 (65, ls, .int (-1000000) :: sk, h) := zg_ldc rfl ci_m1000000
theorem zi202_65 {E : zE} {ls sk : List Value} {h : zH} : zrun zpp E 202 (65, ls, sk, h) = zrun zpp E 202 (103, ls, sk, h) := zrun_at rfl
theorem zi202_68 {E : zE} {v0 v1 : Value} {x : Int32} {ls sk : List Value} {h : zH} : zrun zpp E 202 (68, v0 :: v1 :: .int x :: ls, sk, h) = zrun zpp E 202 (69, v0 :: v1 :: .int x :: ls, .int x :: sk, h) := zrun_at rfl
theorem zi202_69 {E : zE} {x : Int32} {ls sk : List Value} {h : zH} : zrun zpp E 202 (69, ls, .int x :: sk, h) = if x = 0 then zrun zpp E 202 (72, ls, sk, h) else zrun zpp E 202 (79, ls, sk, h) := zrun_at rfl
theorem zi202_72 {E : zE} {v0 v1 v2 : Value} {x : Int32} {ls sk : List Value} {h : zH} : zrun zpp E 202 (72, v0 :: v1 :: v2 :: .int x :: ls, sk, h) = zrun zpp E 202 (73, v0 :: v1 :: v2 :: .int x :: ls, .int x :: sk, h) := zrun_at rfl
theorem zi202_73 {E : zE} {ls sk : List Value} {h : zH} : zrun zpp E 202 (73, ls, sk, h) = zrun zpp E 202 (75, ls, .int 100000 :: sk, h) := zg_ldc rfl ci_100000
theorem zi202_75 {E : zE} {x y : Int32} {ls sk : List Value} {h : zH} : zrun zpp E 202 (75, ls, .int y :: .int x :: sk, h) = if y = 0 then none else zrun zpp E 202 (76, ls, .int (x / y) :: sk, h) := zrun_at rfl
theorem zi202_76 {E : zE} {ls sk : List Value} {h : zH} : zrun zpp E 202 (76, ls, sk, h) = zrun zpp E 202 (103, ls, sk, h) := zrun_at rfl
theorem zi202_79 {E : zE} {v0 v1 : Value} {x : Int32} {ls sk : List Value} {h : zH} : zrun zpp E 202 (79, v0 :: v1 :: .int x :: ls, sk, h) = zrun zpp E 202 (80, v0 :: v1 :: .int x :: ls, .int x :: sk, h) := zrun_at rfl
theorem zi202_80 {E : zE} {ls sk : List Value} {h : zH} : zrun zpp E 202 (80, ls, sk, h) = zrun zpp E 202 (81, ls, .int 1 :: sk, h) := zg_iconst rfl ci_1
theorem zi202_81 {E : zE} {x y : Int32} {ls sk : List Value} {h : zH} : zrun zpp E 202 (81, ls, .int y :: .int x :: sk, h) = if x = y then zrun zpp E 202 (84, ls, sk, h) else zrun zpp E 202 (91, ls, sk, h) := zrun_at rfl
theorem zi202_84 {E : zE} {v0 v1 v2 : Value} {x : Int32} {ls sk : List Value} {h : zH} : zrun zpp E 202 (84, v0 :: v1 :: v2 :: .int x :: ls, sk, h) = zrun zpp E 202 (85, v0 :: v1 :: v2 :: .int x :: ls, .int x :: sk, h) := zrun_at rfl
theorem zi202_85 {E : zE} {ls sk : List Value} {h : zH} : zrun zpp E 202 (85, ls, sk, h) = zrun zpp E 202 (87, ls, .int 100000 :: sk, h) := zg_ldc rfl ci_100000
theorem zi202_87 {E : zE} {x y : Int32} {ls sk : List Value} {h : zH} : zrun zpp E 202 (87, ls, .int y :: .int x :: sk, h) = if y = 0 then none else zrun zpp E 202 (88, ls, .int (x - x / y * y) :: sk, h) := zrun_at rfl
theorem zi202_88 {E : zE} {ls sk : List Value} {h : zH} : zrun zpp E 202 (88, ls, sk, h) = zrun zpp E 202 (103, ls, sk, h) := zrun_at rfl
theorem zi202_91 {E : zE} {x : Nat} {ls sk : List Value} {h : zH} : zrun zpp E 202 (91, .ref x :: ls, sk, h) = zrun zpp E 202 (92, .ref x :: ls, .ref x :: sk, h) := zrun_at rfl
theorem zi202_91n {E : zE} {ls sk : List Value} {h : zH} : zrun zpp E 202 (91, .null :: ls, sk, h) = zrun zpp E 202 (92, .null :: ls, .null :: sk, h) := zrun_at rfl
theorem zi202_92 {E : zE} {x : Nat} {ls sk : List Value} {h : zH} : zrun zpp E 202 (92, ls, .ref x :: sk, h) = (zfld [11] h x 19).bind (fun v => zrun zpp E 202 (95, ls, v :: sk, h)) := zg_getf rfl
theorem zi202_95 {E : zE} {x : Nat} {ls sk : List Value} {h : zH} : zrun zpp E 202 (95, .ref x :: ls, sk, h) = zrun zpp E 202 (96, .ref x :: ls, .ref x :: sk, h) := zrun_at rfl
theorem zi202_95n {E : zE} {ls sk : List Value} {h : zH} : zrun zpp E 202 (95, .null :: ls, sk, h) = zrun zpp E 202 (96, .null :: ls, .null :: sk, h) := zrun_at rfl
theorem zi202_96 {E : zE} {x : Nat} {ls sk : List Value} {h : zH} : zrun zpp E 202 (96, ls, .ref x :: sk, h) = (zfld [11] h x 5).bind (fun v => zrun zpp E 202 (99, ls, v :: sk, h)) := zg_getf rfl
theorem zi202_99 {E : zE} {ls sk : List Value} {h : zH} : zrun zpp E 202 (99, ls, sk, h) = zrun zpp E 202 (101, ls, .int 8 :: sk, h) := zg_bipush rfl ci_8
theorem zi202_101 {E : zE} {x : Nat} {i : Int32} {ls sk : List Value} {h : zH} : zrun zpp E 202 (101, ls, .int i :: .ref x :: sk, h) = (zarr 0 h x i).bind (fun v => zrun zpp E 202 (102, ls, .int v :: sk, h)) := zg_iald rfl
theorem zi202_102 {E : zE} {x : Nat} {i : Int32} {ls sk : List Value} {h : zH} : zrun zpp E 202 (102, ls, .int i :: .ref x :: sk, h) = (zarr 0 h x i).bind (fun v => zrun zpp E 202 (103, ls, .int v :: sk, h)) := zg_iald rfl
theorem zi202_103 {E : zE} {x : Int32} {ls sk : List Value} {h : zH} : zrun zpp E 202 (103, ls, [.int x], h) = some (some (.int x), h) := zrun_at rfl
-- 203 NineDownModel.stays
theorem zi203_0 {E : zE} {x : Nat} {ls sk : List Value} {h : zH} : zrun zpp E 203 (0, .ref x :: ls, sk, h) = zrun zpp E 203 (1, .ref x :: ls, .ref x :: sk, h) := zrun_at rfl
theorem zi203_0n {E : zE} {ls sk : List Value} {h : zH} : zrun zpp E 203 (0, .null :: ls, sk, h) = zrun zpp E 203 (1, .null :: ls, .null :: sk, h) := zrun_at rfl
theorem zi203_1 {E : zE} {x : Nat} {ls sk : List Value} {h : zH} : zrun zpp E 203 (1, ls, .ref x :: sk, h) = (zfld [11] h x 5).bind (fun v => zrun zpp E 203 (4, ls, v :: sk, h)) := zg_getf rfl
theorem zi203_4 {E : zE} {ls sk : List Value} {h : zH} : zrun zpp E 203 (4, ls, sk, h) = zrun zpp E 203 (6, ls, .int 8 :: sk, h) := zg_bipush rfl ci_8
theorem zi203_6 {E : zE} {x : Nat} {i : Int32} {ls sk : List Value} {h : zH} : zrun zpp E 203 (6, ls, .int i :: .ref x :: sk, h) = (zarr 0 h x i).bind (fun v => zrun zpp E 203 (7, ls, .int v :: sk, h)) := zg_iald rfl
theorem zi203_7 {E : zE} {x : Int32} {ls sk : List Value} {h : zH} : zrun zpp E 203 (7, ls, .int x :: sk, h) = if zfree ls 2 = true then zrun zpp E 203 (8, ls.set 2 (.int x), sk, h) else none := zg_ist rfl (fun _ _ _ => rfl)
theorem zi203_8 {E : zE} {ls sk : List Value} {h : zH} : zrun zpp E 203 (8, ls, sk, h) = zrun zpp E 203 (9, ls, .int 0 :: sk, h) := zg_iconst rfl ci_0
theorem zi203_9 {E : zE} {x : Int32} {ls sk : List Value} {h : zH} : zrun zpp E 203 (9, ls, .int x :: sk, h) = if zfree ls 3 = true then zrun zpp E 203 (10, ls.set 3 (.int x), sk, h) else none := zg_ist rfl (fun _ _ _ => rfl)
theorem zi203_10 {E : zE} {v0 v1 v2 : Value} {x : Int32} {ls sk : List Value} {h : zH} : zrun zpp E 203 (10, v0 :: v1 :: v2 :: .int x :: ls, sk, h) = zrun zpp E 203 (11, v0 :: v1 :: v2 :: .int x :: ls, .int x :: sk, h) := zrun_at rfl
theorem zi203_11 {E : zE} {ls sk : List Value} {h : zH} : zrun zpp E 203 (11, ls, sk, h) = zrun zpp E 203 (13, ls, .int 8 :: sk, h) := zg_bipush rfl ci_8
theorem zi203_13 {E : zE} {x y : Int32} {ls sk : List Value} {h : zH} : zrun zpp E 203 (13, ls, .int y :: .int x :: sk, h) = if y ≤ x then zrun zpp E 203 (106, ls, sk, h) else zrun zpp E 203 (16, ls, sk, h) := zrun_at rfl
theorem zi203_16 {E : zE} {ls sk : List Value} {h : zH} : zrun zpp E 203 (16, ls, sk, h) = zrun zpp E 203 (17, ls, .int 0 :: sk, h) := zg_iconst rfl ci_0
theorem zi203_17 {E : zE} {x : Int32} {ls sk : List Value} {h : zH} : zrun zpp E 203 (17, ls, .int x :: sk, h) = if zfree ls 4 = true then zrun zpp E 203 (19, ls.set 4 (.int x), sk, h) else none := zg_ist rfl (fun _ _ _ => rfl)
theorem zi203_19 {E : zE} {v0 v1 v2 v3 : Value} {x : Int32} {ls sk : List Value} {h : zH} : zrun zpp E 203 (19, v0 :: v1 :: v2 :: v3 :: .int x :: ls, sk, h) = zrun zpp E 203 (21, v0 :: v1 :: v2 :: v3 :: .int x :: ls, .int x :: sk, h) := zrun_at rfl
theorem zi203_21 {E : zE} {x : Nat} {ls sk : List Value} {h : zH} : zrun zpp E 203 (21, .ref x :: ls, sk, h) = zrun zpp E 203 (22, .ref x :: ls, .ref x :: sk, h) := zrun_at rfl
theorem zi203_21n {E : zE} {ls sk : List Value} {h : zH} : zrun zpp E 203 (21, .null :: ls, sk, h) = zrun zpp E 203 (22, .null :: ls, .null :: sk, h) := zrun_at rfl
theorem zi203_22 {E : zE} {x : Nat} {ls sk : List Value} {h : zH} : zrun zpp E 203 (22, ls, .ref x :: sk, h) = (zfld [11] h x 5).bind (fun v => zrun zpp E 203 (25, ls, v :: sk, h)) := zg_getf rfl
theorem zi203_25 {E : zE} {ls sk : List Value} {h : zH} : zrun zpp E 203 (25, ls, sk, h) = zrun zpp E 203 (26, ls, .int 5 :: sk, h) := zg_iconst rfl ci_5
theorem zi203_26 {E : zE} {x : Nat} {i : Int32} {ls sk : List Value} {h : zH} : zrun zpp E 203 (26, ls, .int i :: .ref x :: sk, h) = (zarr 0 h x i).bind (fun v => zrun zpp E 203 (27, ls, .int v :: sk, h)) := zg_iald rfl
theorem zi203_27 {E : zE} {x y : Int32} {ls sk : List Value} {h : zH} : zrun zpp E 203 (27, ls, .int y :: .int x :: sk, h) = if y ≤ x then zrun zpp E 203 (100, ls, sk, h) else zrun zpp E 203 (30, ls, sk, h) := zrun_at rfl
theorem zi203_30 {E : zE} {ls sk : List Value} {h : zH} : zrun zpp E 203 (30, ls, sk, h) = zrun zpp E 203 (31, ls, .int 0 :: sk, h) := zg_iconst rfl ci_0
theorem zi203_31 {E : zE} {x : Int32} {ls sk : List Value} {h : zH} : zrun zpp E 203 (31, ls, .int x :: sk, h) = if zfree ls 5 = true then zrun zpp E 203 (33, ls.set 5 (.int x), sk, h) else none := zg_ist rfl (fun _ _ _ => rfl)
theorem zi203_33 {E : zE} {v0 v1 v2 v3 v4 : Value} {x : Int32} {ls sk : List Value} {h : zH} : zrun zpp E 203 (33, v0 :: v1 :: v2 :: v3 :: v4 :: .int x :: ls, sk, h) = zrun zpp E 203 (35, v0 :: v1 :: v2 :: v3 :: v4 :: .int x :: ls, .int x :: sk, h) := zrun_at rfl
theorem zi203_35 {E : zE} {x : Nat} {ls sk : List Value} {h : zH} : zrun zpp E 203 (35, .ref x :: ls, sk, h) = zrun zpp E 203 (36, .ref x :: ls, .ref x :: sk, h) := zrun_at rfl
theorem zi203_35n {E : zE} {ls sk : List Value} {h : zH} : zrun zpp E 203 (35, .null :: ls, sk, h) = zrun zpp E 203 (36, .null :: ls, .null :: sk, h) := zrun_at rfl
theorem zi203_36 {E : zE} {x : Nat} {ls sk : List Value} {h : zH} : zrun zpp E 203 (36, ls, .ref x :: sk, h) = (zfld [11] h x 5).bind (fun v => zrun zpp E 203 (39, ls, v :: sk, h)) := zg_getf rfl
theorem zi203_39 {E : zE} {ls sk : List Value} {h : zH} : zrun zpp E 203 (39, ls, sk, h) = zrun zpp E 203 (40, ls, .int 3 :: sk, h) := zg_iconst rfl ci_3
theorem zi203_40 {E : zE} {x : Nat} {i : Int32} {ls sk : List Value} {h : zH} : zrun zpp E 203 (40, ls, .int i :: .ref x :: sk, h) = (zarr 0 h x i).bind (fun v => zrun zpp E 203 (41, ls, .int v :: sk, h)) := zg_iald rfl
theorem zi203_41 {E : zE} {x y : Int32} {ls sk : List Value} {h : zH} : zrun zpp E 203 (41, ls, .int y :: .int x :: sk, h) = if y ≤ x then zrun zpp E 203 (94, ls, sk, h) else zrun zpp E 203 (44, ls, sk, h) := zrun_at rfl
theorem zi203_44 {E : zE} {v0 v1 : Value} {x : Int32} {ls sk : List Value} {h : zH} : zrun zpp E 203 (44, v0 :: v1 :: .int x :: ls, sk, h) = zrun zpp E 203 (45, v0 :: v1 :: .int x :: ls, .int x :: sk, h) := zrun_at rfl
theorem zi203_45 {E : zE} {v0 : Value} {x : Int32} {ls sk : List Value} {h : zH} : zrun zpp E 203 (45, v0 :: .int x :: ls, sk, h) = zrun zpp E 203 (46, v0 :: .int x :: ls, .int x :: sk, h) := zrun_at rfl
theorem zi203_46 {E : zE} {v0 v1 v2 v3 : Value} {x : Int32} {ls sk : List Value} {h : zH} : zrun zpp E 203 (46, v0 :: v1 :: v2 :: v3 :: .int x :: ls, sk, h) = zrun zpp E 203 (48, v0 :: v1 :: v2 :: v3 :: .int x :: ls, .int x :: sk, h) := zrun_at rfl
theorem zi203_48 {E : zE} {a0 a1 : Value} {ls sk : List Value} {h : zH} : zrun zpp E 203 (48, ls, a1 :: a0 :: sk, h) = zcl1 E 203 51 181 ls sk [a0, a1] h := zg_inv (as := [a0, a1]) rfl rfl
theorem zi203_51 {E : zE} {x : Int32} {ls sk : List Value} {h : zH} : zrun zpp E 203 (51, ls, .int x :: sk, h) = if x = 0 then zrun zpp E 203 (85, ls, sk, h) else zrun zpp E 203 (54, ls, sk, h) := zrun_at rfl
theorem zi203_54 {E : zE} {x : Nat} {ls sk : List Value} {h : zH} : zrun zpp E 203 (54, .ref x :: ls, sk, h) = zrun zpp E 203 (55, .ref x :: ls, .ref x :: sk, h) := zrun_at rfl
theorem zi203_54n {E : zE} {ls sk : List Value} {h : zH} : zrun zpp E 203 (54, .null :: ls, sk, h) = zrun zpp E 203 (55, .null :: ls, .null :: sk, h) := zrun_at rfl
theorem zi203_55 {E : zE} {x : Nat} {ls sk : List Value} {h : zH} : zrun zpp E 203 (55, .ref x :: ls, sk, h) = zrun zpp E 203 (56, .ref x :: ls, .ref x :: sk, h) := zrun_at rfl
theorem zi203_55n {E : zE} {ls sk : List Value} {h : zH} : zrun zpp E 203 (55, .null :: ls, sk, h) = zrun zpp E 203 (56, .null :: ls, .null :: sk, h) := zrun_at rfl
theorem zi203_56 {E : zE} {v0 v1 v2 v3 : Value} {x : Int32} {ls sk : List Value} {h : zH} : zrun zpp E 203 (56, v0 :: v1 :: v2 :: v3 :: .int x :: ls, sk, h) = zrun zpp E 203 (58, v0 :: v1 :: v2 :: v3 :: .int x :: ls, .int x :: sk, h) := zrun_at rfl
theorem zi203_58 {E : zE} {a0 : Value} {x : Nat} {ls sk : List Value} {h : zH} : zrun zpp E 203 (58, ls, a0 :: .ref x :: sk, h) = (zcls h x).bind (fun d => (zsel d [11, 179]).bind (fun M' => zcl1 E 203 61 M' ls sk [.ref x, a0] h)) := zg_vir (as := [a0]) rfl rfl
theorem zi203_61 {E : zE} {x : Nat} {ls sk : List Value} {h : zH} : zrun zpp E 203 (61, .ref x :: ls, sk, h) = zrun zpp E 203 (62, .ref x :: ls, .ref x :: sk, h) := zrun_at rfl
theorem zi203_61n {E : zE} {ls sk : List Value} {h : zH} : zrun zpp E 203 (61, .null :: ls, sk, h) = zrun zpp E 203 (62, .null :: ls, .null :: sk, h) := zrun_at rfl
theorem zi203_62 {E : zE} {v0 v1 v2 v3 : Value} {x : Int32} {ls sk : List Value} {h : zH} : zrun zpp E 203 (62, v0 :: v1 :: v2 :: v3 :: .int x :: ls, sk, h) = zrun zpp E 203 (64, v0 :: v1 :: v2 :: v3 :: .int x :: ls, .int x :: sk, h) := zrun_at rfl
theorem zi203_64 {E : zE} {a0 : Value} {x : Nat} {ls sk : List Value} {h : zH} : zrun zpp E 203 (64, ls, a0 :: .ref x :: sk, h) = (zcls h x).bind (fun d => (zsel d [11, 180]).bind (fun M' => zcl1 E 203 67 M' ls sk [.ref x, a0] h)) := zg_vir (as := [a0]) rfl rfl
theorem zi203_67 {E : zE} {v0 v1 : Value} {x : Int32} {ls sk : List Value} {h : zH} : zrun zpp E 203 (67, v0 :: v1 :: .int x :: ls, sk, h) = zrun zpp E 203 (68, v0 :: v1 :: .int x :: ls, .int x :: sk, h) := zrun_at rfl
theorem zi203_68 {E : zE} {v0 v1 v2 v3 v4 : Value} {x : Int32} {ls sk : List Value} {h : zH} : zrun zpp E 203 (68, v0 :: v1 :: v2 :: v3 :: v4 :: .int x :: ls, sk, h) = zrun zpp E 203 (70, v0 :: v1 :: v2 :: v3 :: v4 :: .int x :: ls, .int x :: sk, h) := zrun_at rfl
theorem zi203_70 {E : zE} {a0 a1 a2 a3 : Value} {x : Nat} {ls sk : List Value} {h : zH} : zrun zpp E 203 (70, ls, a3 :: a2 :: a1 :: a0 :: .ref x :: sk, h) = (zcls h x).bind (fun d => (zsel d [11, 186]).bind (fun M' => zcl1 E 203 73 M' ls sk [.ref x, a0, a1, a2, a3] h)) := zg_vir (as := [a0, a1, a2, a3]) rfl rfl
theorem zi203_73 {E : zE} {x : Int32} {ls sk : List Value} {h : zH} : zrun zpp E 203 (73, ls, .int x :: sk, h) = if x = 0 then zrun zpp E 203 (85, ls, sk, h) else zrun zpp E 203 (76, ls, sk, h) := zrun_at rfl
theorem zi203_76 {E : zE} {ls sk : List Value} {h : zH} : zrun zpp E 203 (76, ls, sk, h) = zrun zpp E 203 (77, ls, .int 1 :: sk, h) := zg_iconst rfl ci_1
theorem zi203_77 {E : zE} {v0 v1 v2 v3 v4 : Value} {x : Int32} {ls sk : List Value} {h : zH} : zrun zpp E 203 (77, v0 :: v1 :: v2 :: v3 :: v4 :: .int x :: ls, sk, h) = zrun zpp E 203 (79, v0 :: v1 :: v2 :: v3 :: v4 :: .int x :: ls, .int x :: sk, h) := zrun_at rfl
theorem zi203_79 {E : zE} {x y : Int32} {ls sk : List Value} {h : zH} : zrun zpp E 203 (79, ls, .int y :: .int x :: sk, h) = zrun zpp E 203 (80, ls, .int (x <<< (y &&& 31)) :: sk, h) := zrun_at rfl
theorem zi203_80 {E : zE} {ls sk : List Value} {h : zH} : zrun zpp E 203 (80, ls, sk, h) = zrun zpp E 203 (81, ls, .int (-1) :: sk, h) := zg_iconst rfl ci_m1
theorem zi203_81 {E : zE} {x y : Int32} {ls sk : List Value} {h : zH} : zrun zpp E 203 (81, ls, .int y :: .int x :: sk, h) = zrun zpp E 203 (82, ls, .int (x ^^^ y) :: sk, h) := zrun_at rfl
theorem zi203_82 {E : zE} {ls sk : List Value} {h : zH} : zrun zpp E 203 (82, ls, sk, h) = zrun zpp E 203 (86, ls, sk, h) := zrun_at rfl
theorem zi203_85 {E : zE} {ls sk : List Value} {h : zH} : zrun zpp E 203 (85, ls, sk, h) = zrun zpp E 203 (86, ls, .int (-1) :: sk, h) := zg_iconst rfl ci_m1
theorem zi203_86 {E : zE} {x y : Int32} {ls sk : List Value} {h : zH} : zrun zpp E 203 (86, ls, .int y :: .int x :: sk, h) = zrun zpp E 203 (87, ls, .int (x &&& y) :: sk, h) := zrun_at rfl
theorem zi203_87 {E : zE} {x : Int32} {ls sk : List Value} {h : zH} : zrun zpp E 203 (87, ls, .int x :: sk, h) = if zfree ls 2 = true then zrun zpp E 203 (88, ls.set 2 (.int x), sk, h) else none := zg_ist rfl (fun _ _ _ => rfl)
theorem zi203_88 {E : zE} {v0 v1 v2 v3 v4 : Value} {x : Int32} {ls sk : List Value} {h : zH} : zrun zpp E 203 (88, v0 :: v1 :: v2 :: v3 :: v4 :: .int x :: ls, sk, h) = if zfree (v0 :: v1 :: v2 :: v3 :: v4 :: .int x :: ls) 5 = true then zrun zpp E 203 (91, v0 :: v1 :: v2 :: v3 :: v4 :: .int (x + 1) :: ls, sk, h) else none := by rw [← ci_1]; exact zrun_at rfl
theorem zi203_91 {E : zE} {ls sk : List Value} {h : zH} : zrun zpp E 203 (91, ls, sk, h) = zrun zpp E 203 (33, ls, sk, h) := zrun_at rfl
theorem zi203_94 {E : zE} {v0 v1 v2 v3 : Value} {x : Int32} {ls sk : List Value} {h : zH} : zrun zpp E 203 (94, v0 :: v1 :: v2 :: v3 :: .int x :: ls, sk, h) = if zfree (v0 :: v1 :: v2 :: v3 :: .int x :: ls) 4 = true then zrun zpp E 203 (97, v0 :: v1 :: v2 :: v3 :: .int (x + 1) :: ls, sk, h) else none := by rw [← ci_1]; exact zrun_at rfl
theorem zi203_97 {E : zE} {ls sk : List Value} {h : zH} : zrun zpp E 203 (97, ls, sk, h) = zrun zpp E 203 (19, ls, sk, h) := zrun_at rfl
theorem zi203_100 {E : zE} {v0 v1 v2 : Value} {x : Int32} {ls sk : List Value} {h : zH} : zrun zpp E 203 (100, v0 :: v1 :: v2 :: .int x :: ls, sk, h) = if zfree (v0 :: v1 :: v2 :: .int x :: ls) 3 = true then zrun zpp E 203 (103, v0 :: v1 :: v2 :: .int (x + 1) :: ls, sk, h) else none := by rw [← ci_1]; exact zrun_at rfl
theorem zi203_103 {E : zE} {ls sk : List Value} {h : zH} : zrun zpp E 203 (103, ls, sk, h) = zrun zpp E 203 (10, ls, sk, h) := zrun_at rfl
theorem zi203_106 {E : zE} {v0 v1 : Value} {x : Int32} {ls sk : List Value} {h : zH} : zrun zpp E 203 (106, v0 :: v1 :: .int x :: ls, sk, h) = zrun zpp E 203 (107, v0 :: v1 :: .int x :: ls, .int x :: sk, h) := zrun_at rfl
theorem zi203_107 {E : zE} {x : Int32} {ls sk : List Value} {h : zH} : zrun zpp E 203 (107, ls, [.int x], h) = some (some (.int x), h) := zrun_at rfl
-- 204 NineDownModel.never
theorem zi204_0 {E : zE} {x : Nat} {ls sk : List Value} {h : zH} : zrun zpp E 204 (0, .ref x :: ls, sk, h) = zrun zpp E 204 (1, .ref x :: ls, .ref x :: sk, h) := zrun_at rfl
theorem zi204_0n {E : zE} {ls sk : List Value} {h : zH} : zrun zpp E 204 (0, .null :: ls, sk, h) = zrun zpp E 204 (1, .null :: ls, .null :: sk, h) := zrun_at rfl
theorem zi204_1 {E : zE} {ls sk : List Value} {h : zH} : zrun zpp E 204 (1, ls, sk, h) = zrun zpp E 204 (2, ls, .int 0 :: sk, h) := zg_iconst rfl ci_0
theorem zi204_2 {E : zE} {x : Nat} {v : Value} {ls sk : List Value} {h : zH} : zrun zpp E 204 (2, ls, v :: .ref x :: sk, h) = (zstf [11] 0 h x 0 v).bind (fun h' => zrun zpp E 204 (5, ls, sk, h')) := zg_putf rfl
theorem zi204_5 {E : zE} {x : Nat} {ls sk : List Value} {h : zH} : zrun zpp E 204 (5, .ref x :: ls, sk, h) = zrun zpp E 204 (6, .ref x :: ls, .ref x :: sk, h) := zrun_at rfl
theorem zi204_5n {E : zE} {ls sk : List Value} {h : zH} : zrun zpp E 204 (5, .null :: ls, sk, h) = zrun zpp E 204 (6, .null :: ls, .null :: sk, h) := zrun_at rfl
theorem zi204_6 {E : zE} {x : Nat} {ls sk : List Value} {h : zH} : zrun zpp E 204 (6, ls, .ref x :: sk, h) = (zcls h x).bind (fun d => (zsel d [11, 172]).bind (fun M' => zcl1 E 204 9 M' ls sk [.ref x] h)) := zg_vir (as := []) rfl rfl
theorem zi204_9 {E : zE} {x : Int32} {ls sk : List Value} {h : zH} : zrun zpp E 204 (9, ls, .int x :: sk, h) = if x = 0 then zrun zpp E 204 (12, ls, sk, h) else zrun zpp E 204 (15, ls, sk, h) := zrun_at rfl
theorem zi204_12 {E : zE} {ls sk : List Value} {h : zH} : zrun zpp E 204 (12, ls, sk, h) = zrun zpp E 204 (14, ls, .int (-1000002) :: sk, h) := zg_ldc rfl ci_m1000002
theorem zi204_14 {E : zE} {x : Int32} {ls sk : List Value} {h : zH} : zrun zpp E 204 (14, ls, [.int x], h) = some (some (.int x), h) := zrun_at rfl
theorem zi204_15 {E : zE} {x : Nat} {ls sk : List Value} {h : zH} : zrun zpp E 204 (15, .ref x :: ls, sk, h) = zrun zpp E 204 (16, .ref x :: ls, .ref x :: sk, h) := zrun_at rfl
theorem zi204_15n {E : zE} {ls sk : List Value} {h : zH} : zrun zpp E 204 (15, .null :: ls, sk, h) = zrun zpp E 204 (16, .null :: ls, .null :: sk, h) := zrun_at rfl
theorem zi204_16 {E : zE} {v0 : Value} {x : Int32} {ls sk : List Value} {h : zH} : zrun zpp E 204 (16, v0 :: .int x :: ls, sk, h) = zrun zpp E 204 (17, v0 :: .int x :: ls, .int x :: sk, h) := zrun_at rfl
theorem zi204_17 {E : zE} {a0 : Value} {x : Nat} {ls sk : List Value} {h : zH} : zrun zpp E 204 (17, ls, a0 :: .ref x :: sk, h) = (zcls h x).bind (fun d => (zsel d [11, 176]).bind (fun M' => zcl1 E 204 20 M' ls sk [.ref x, a0] h)) := zg_vir (as := [a0]) rfl rfl
theorem zi204_20 {E : zE} {x : Int32} {ls sk : List Value} {h : zH} : zrun zpp E 204 (20, ls, .int x :: sk, h) = if x = 0 then zrun zpp E 204 (31, ls, sk, h) else zrun zpp E 204 (23, ls, sk, h) := zrun_at rfl
theorem zi204_23 {E : zE} {x : Nat} {ls sk : List Value} {h : zH} : zrun zpp E 204 (23, .ref x :: ls, sk, h) = zrun zpp E 204 (24, .ref x :: ls, .ref x :: sk, h) := zrun_at rfl
theorem zi204_23n {E : zE} {ls sk : List Value} {h : zH} : zrun zpp E 204 (23, .null :: ls, sk, h) = zrun zpp E 204 (24, .null :: ls, .null :: sk, h) := zrun_at rfl
theorem zi204_24 {E : zE} {v0 : Value} {x : Int32} {ls sk : List Value} {h : zH} : zrun zpp E 204 (24, v0 :: .int x :: ls, sk, h) = zrun zpp E 204 (25, v0 :: .int x :: ls, .int x :: sk, h) := zrun_at rfl
theorem zi204_25 {E : zE} {a0 : Value} {x : Nat} {ls sk : List Value} {h : zH} : zrun zpp E 204 (25, ls, a0 :: .ref x :: sk, h) = (zcls h x).bind (fun d => (zsel d [11, 203]).bind (fun M' => zcl1 E 204 28 M' ls sk [.ref x, a0] h)) := zg_vir (as := [a0]) rfl rfl
theorem zi204_28 {E : zE} {ls sk : List Value} {h : zH} : zrun zpp E 204 (28, ls, sk, h) = zrun zpp E 204 (33, ls, sk, h) := zrun_at rfl
theorem zi204_31 {E : zE} {ls sk : List Value} {h : zH} : zrun zpp E 204 (31, ls, sk, h) = zrun zpp E 204 (33, ls, .int (-1000001) :: sk, h) := zg_ldc rfl ci_m1000001
theorem zi204_33 {E : zE} {x : Int32} {ls sk : List Value} {h : zH} : zrun zpp E 204 (33, ls, [.int x], h) = some (some (.int x), h) := zrun_at rfl
-- 205 NineDownModel.fetch
theorem zi205_0 {E : zE} {x : Nat} {ls sk : List Value} {h : zH} : zrun zpp E 205 (0, .ref x :: ls, sk, h) = zrun zpp E 205 (1, .ref x :: ls, .ref x :: sk, h) := zrun_at rfl
theorem zi205_0n {E : zE} {ls sk : List Value} {h : zH} : zrun zpp E 205 (0, .null :: ls, sk, h) = zrun zpp E 205 (1, .null :: ls, .null :: sk, h) := zrun_at rfl
theorem zi205_1 {E : zE} {ls sk : List Value} {h : zH} : zrun zpp E 205 (1, ls, sk, h) = zrun zpp E 205 (2, ls, .int 0 :: sk, h) := zg_iconst rfl ci_0
theorem zi205_2 {E : zE} {x : Nat} {v : Value} {ls sk : List Value} {h : zH} : zrun zpp E 205 (2, ls, v :: .ref x :: sk, h) = (zstf [11] 0 h x 0 v).bind (fun h' => zrun zpp E 205 (5, ls, sk, h')) := zg_putf rfl
theorem zi205_5 {E : zE} {x : Nat} {ls sk : List Value} {h : zH} : zrun zpp E 205 (5, .ref x :: ls, sk, h) = zrun zpp E 205 (6, .ref x :: ls, .ref x :: sk, h) := zrun_at rfl
theorem zi205_5n {E : zE} {ls sk : List Value} {h : zH} : zrun zpp E 205 (5, .null :: ls, sk, h) = zrun zpp E 205 (6, .null :: ls, .null :: sk, h) := zrun_at rfl
theorem zi205_6 {E : zE} {x : Nat} {ls sk : List Value} {h : zH} : zrun zpp E 205 (6, ls, .ref x :: sk, h) = (zcls h x).bind (fun d => (zsel d [11, 172]).bind (fun M' => zcl1 E 205 9 M' ls sk [.ref x] h)) := zg_vir (as := []) rfl rfl
theorem zi205_9 {E : zE} {x : Int32} {ls sk : List Value} {h : zH} : zrun zpp E 205 (9, ls, .int x :: sk, h) = if x = 0 then zrun zpp E 205 (12, ls, sk, h) else zrun zpp E 205 (15, ls, sk, h) := zrun_at rfl
theorem zi205_12 {E : zE} {ls sk : List Value} {h : zH} : zrun zpp E 205 (12, ls, sk, h) = zrun zpp E 205 (14, ls, .int (-1000002) :: sk, h) := zg_ldc rfl ci_m1000002
theorem zi205_14 {E : zE} {x : Int32} {ls sk : List Value} {h : zH} : zrun zpp E 205 (14, ls, [.int x], h) = some (some (.int x), h) := zrun_at rfl
theorem zi205_15 {E : zE} {v0 : Value} {x : Int32} {ls sk : List Value} {h : zH} : zrun zpp E 205 (15, v0 :: .int x :: ls, sk, h) = zrun zpp E 205 (16, v0 :: .int x :: ls, .int x :: sk, h) := zrun_at rfl
theorem zi205_16 {E : zE} {x : Int32} {ls sk : List Value} {h : zH} : zrun zpp E 205 (16, ls, .int x :: sk, h) = zrun zpp E 205 (17, ls, .long x.toInt64 :: sk, h) := zrun_at rfl
theorem zi205_17 {E : zE} {ls sk : List Value} {h : zH} : zrun zpp E 205 (17, ls, sk, h) = zrun zpp E 205 (18, ls, .long 0 :: sk, h) := zg_lconst rfl rfl
theorem zi205_18 {E : zE} {ls sk : List Value} {h : zH} : zrun zpp E 205 (18, ls, sk, h) = zrun zpp E 205 (19, ls, .long 1 :: sk, h) := zg_lconst rfl rfl
theorem zi205_19 {E : zE} {a0 a1 a2 : Value} {ls sk : List Value} {h : zH} : zrun zpp E 205 (19, ls, a2 :: a1 :: a0 :: sk, h) = zcl1 E 205 22 149 ls sk [a0, a1, a2] h := zg_inv (as := [a0, a1, a2]) rfl rfl
theorem zi205_22 {E : zE} {x : Int32} {ls sk : List Value} {h : zH} : zrun zpp E 205 (22, ls, .int x :: sk, h) = if x = 0 then zrun zpp E 205 (25, ls, sk, h) else zrun zpp E 205 (28, ls, sk, h) := zrun_at rfl
theorem zi205_25 {E : zE} {ls sk : List Value} {h : zH} : zrun zpp E 205 (25, ls, sk, h) = zrun zpp E 205 (27, ls, .int (-1000001) :: sk, h) := zg_ldc rfl ci_m1000001
theorem zi205_27 {E : zE} {x : Int32} {ls sk : List Value} {h : zH} : zrun zpp E 205 (27, ls, [.int x], h) = some (some (.int x), h) := zrun_at rfl
theorem zi205_28 {E : zE} {ls sk : List Value} {h : zH} : zrun zpp E 205 (28, ls, sk, h) = zrun zpp E 205 (30, ls, .int (-1000000) :: sk, h) := zg_ldc rfl ci_m1000000
theorem zi205_30 {E : zE} {x : Int32} {ls sk : List Value} {h : zH} : zrun zpp E 205 (30, ls, .int x :: sk, h) = if zfree ls 2 = true then zrun zpp E 205 (31, ls.set 2 (.int x), sk, h) else none := zg_ist rfl (fun _ _ _ => rfl)
theorem zi205_31 {E : zE} {ls sk : List Value} {h : zH} : zrun zpp E 205 (31, ls, sk, h) = zrun zpp E 205 (32, ls, .int 0 :: sk, h) := zg_iconst rfl ci_0
theorem zi205_32 {E : zE} {x : Int32} {ls sk : List Value} {h : zH} : zrun zpp E 205 (32, ls, .int x :: sk, h) = if zfree ls 3 = true then zrun zpp E 205 (33, ls.set 3 (.int x), sk, h) else none := zg_ist rfl (fun _ _ _ => rfl)
theorem zi205_33 {E : zE} {v0 v1 v2 : Value} {x : Int32} {ls sk : List Value} {h : zH} : zrun zpp E 205 (33, v0 :: v1 :: v2 :: .int x :: ls, sk, h) = zrun zpp E 205 (34, v0 :: v1 :: v2 :: .int x :: ls, .int x :: sk, h) := zrun_at rfl
theorem zi205_34 {E : zE} {ls sk : List Value} {h : zH} : zrun zpp E 205 (34, ls, sk, h) = zrun zpp E 205 (35, ls, .int 1 :: sk, h) := zg_iconst rfl ci_1
theorem zi205_35 {E : zE} {x : Nat} {ls sk : List Value} {h : zH} : zrun zpp E 205 (35, .ref x :: ls, sk, h) = zrun zpp E 205 (36, .ref x :: ls, .ref x :: sk, h) := zrun_at rfl
theorem zi205_35n {E : zE} {ls sk : List Value} {h : zH} : zrun zpp E 205 (35, .null :: ls, sk, h) = zrun zpp E 205 (36, .null :: ls, .null :: sk, h) := zrun_at rfl
theorem zi205_36 {E : zE} {x : Nat} {ls sk : List Value} {h : zH} : zrun zpp E 205 (36, ls, .ref x :: sk, h) = (zfld [11] h x 5).bind (fun v => zrun zpp E 205 (39, ls, v :: sk, h)) := zg_getf rfl
theorem zi205_39 {E : zE} {ls sk : List Value} {h : zH} : zrun zpp E 205 (39, ls, sk, h) = zrun zpp E 205 (40, ls, .int 5 :: sk, h) := zg_iconst rfl ci_5
theorem zi205_40 {E : zE} {x : Nat} {i : Int32} {ls sk : List Value} {h : zH} : zrun zpp E 205 (40, ls, .int i :: .ref x :: sk, h) = (zarr 0 h x i).bind (fun v => zrun zpp E 205 (41, ls, .int v :: sk, h)) := zg_iald rfl
theorem zi205_41 {E : zE} {x y : Int32} {ls sk : List Value} {h : zH} : zrun zpp E 205 (41, ls, .int y :: .int x :: sk, h) = zrun zpp E 205 (42, ls, .int (x <<< (y &&& 31)) :: sk, h) := zrun_at rfl
theorem zi205_42 {E : zE} {x y : Int32} {ls sk : List Value} {h : zH} : zrun zpp E 205 (42, ls, .int y :: .int x :: sk, h) = if y ≤ x then zrun zpp E 205 (94, ls, sk, h) else zrun zpp E 205 (45, ls, sk, h) := zrun_at rfl
theorem zi205_45 {E : zE} {v0 v1 : Value} {x : Int32} {ls sk : List Value} {h : zH} : zrun zpp E 205 (45, v0 :: v1 :: .int x :: ls, sk, h) = zrun zpp E 205 (46, v0 :: v1 :: .int x :: ls, .int x :: sk, h) := zrun_at rfl
theorem zi205_46 {E : zE} {ls sk : List Value} {h : zH} : zrun zpp E 205 (46, ls, sk, h) = zrun zpp E 205 (48, ls, .int (-1000000) :: sk, h) := zg_ldc rfl ci_m1000000
theorem zi205_48 {E : zE} {x y : Int32} {ls sk : List Value} {h : zH} : zrun zpp E 205 (48, ls, .int y :: .int x :: sk, h) = if x = y then zrun zpp E 205 (62, ls, sk, h) else zrun zpp E 205 (51, ls, sk, h) := zrun_at rfl
theorem zi205_51 {E : zE} {v0 v1 v2 : Value} {x : Int32} {ls sk : List Value} {h : zH} : zrun zpp E 205 (51, v0 :: v1 :: v2 :: .int x :: ls, sk, h) = zrun zpp E 205 (52, v0 :: v1 :: v2 :: .int x :: ls, .int x :: sk, h) := zrun_at rfl
theorem zi205_52 {E : zE} {a0 : Value} {ls sk : List Value} {h : zH} : zrun zpp E 205 (52, ls, a0 :: sk, h) = zcl1 E 205 55 182 ls sk [a0] h := zg_inv (as := [a0]) rfl rfl
theorem zi205_55 {E : zE} {v0 v1 : Value} {x : Int32} {ls sk : List Value} {h : zH} : zrun zpp E 205 (55, v0 :: v1 :: .int x :: ls, sk, h) = zrun zpp E 205 (56, v0 :: v1 :: .int x :: ls, .int x :: sk, h) := zrun_at rfl
theorem zi205_56 {E : zE} {a0 : Value} {ls sk : List Value} {h : zH} : zrun zpp E 205 (56, ls, a0 :: sk, h) = zcl1 E 205 59 182 ls sk [a0] h := zg_inv (as := [a0]) rfl rfl
theorem zi205_59 {E : zE} {x y : Int32} {ls sk : List Value} {h : zH} : zrun zpp E 205 (59, ls, .int y :: .int x :: sk, h) = if y ≤ x then zrun zpp E 205 (66, ls, sk, h) else zrun zpp E 205 (62, ls, sk, h) := zrun_at rfl
theorem zi205_62 {E : zE} {ls sk : List Value} {h : zH} : zrun zpp E 205 (62, ls, sk, h) = zrun zpp E 205 (63, ls, .int 1 :: sk, h) := zg_iconst rfl ci_1
theorem zi205_63 {E : zE} {ls sk : List Value} {h : zH} : zrun zpp E 205 (63, ls, sk, h) = zrun zpp E 205 (67, ls, sk, h) := zrun_at rfl
theorem zi205_66 {E : zE} {ls sk : List Value} {h : zH} : zrun zpp E 205 (66, ls, sk, h) = zrun zpp E 205 (67, ls, .int 0 :: sk, h) := zg_iconst rfl ci_0
theorem zi205_67 {E : zE} {x : Int32} {ls sk : List Value} {h : zH} : zrun zpp E 205 (67, ls, .int x :: sk, h) = if zfree ls 4 = true then zrun zpp E 205 (69, ls.set 4 (.int x), sk, h) else none := zg_ist rfl (fun _ _ _ => rfl)
theorem zi205_69 {E : zE} {v0 v1 v2 v3 : Value} {x : Int32} {ls sk : List Value} {h : zH} : zrun zpp E 205 (69, v0 :: v1 :: v2 :: v3 :: .int x :: ls, sk, h) = zrun zpp E 205 (71, v0 :: v1 :: v2 :: v3 :: .int x :: ls, .int x :: sk, h) := zrun_at rfl
theorem zi205_71 {E : zE} {x : Int32} {ls sk : List Value} {h : zH} : zrun zpp E 205 (71, ls, .int x :: sk, h) = if x = 0 then zrun zpp E 205 (86, ls, sk, h) else zrun zpp E 205 (74, ls, sk, h) := zrun_at rfl
theorem zi205_74 {E : zE} {x : Nat} {ls sk : List Value} {h : zH} : zrun zpp E 205 (74, .ref x :: ls, sk, h) = zrun zpp E 205 (75, .ref x :: ls, .ref x :: sk, h) := zrun_at rfl
theorem zi205_74n {E : zE} {ls sk : List Value} {h : zH} : zrun zpp E 205 (74, .null :: ls, sk, h) = zrun zpp E 205 (75, .null :: ls, .null :: sk, h) := zrun_at rfl
theorem zi205_75 {E : zE} {v0 v1 v2 : Value} {x : Int32} {ls sk : List Value} {h : zH} : zrun zpp E 205 (75, v0 :: v1 :: v2 :: .int x :: ls, sk, h) = zrun zpp E 205 (76, v0 :: v1 :: v2 :: .int x :: ls, .int x :: sk, h) := zrun_at rfl
theorem zi205_76 {E : zE} {a0 : Value} {x : Nat} {ls sk : List Value} {h : zH} : zrun zpp E 205 (76, ls, a0 :: .ref x :: sk, h) = (zcls h x).bind (fun d => (zsel d [11, 203]).bind (fun M' => zcl1 E 205 79 M' ls sk [.ref x, a0] h)) := zg_vir (as := [a0]) rfl rfl
theorem zi205_79 {E : zE} {x : Int32} {ls sk : List Value} {h : zH} : zrun zpp E 205 (79, ls, .int x :: sk, h) = if x = 0 then zrun zpp E 205 (82, ls, sk, h) else zrun zpp E 205 (86, ls, sk, h) := zrun_at rfl
theorem zi205_82 {E : zE} {v0 v1 v2 : Value} {x : Int32} {ls sk : List Value} {h : zH} : zrun zpp E 205 (82, v0 :: v1 :: v2 :: .int x :: ls, sk, h) = zrun zpp E 205 (83, v0 :: v1 :: v2 :: .int x :: ls, .int x :: sk, h) := zrun_at rfl
theorem zi205_83 {E : zE} {ls sk : List Value} {h : zH} : zrun zpp E 205 (83, ls, sk, h) = zrun zpp E 205 (87, ls, sk, h) := zrun_at rfl
theorem zi205_86 {E : zE} {v0 v1 : Value} {x : Int32} {ls sk : List Value} {h : zH} : zrun zpp E 205 (86, v0 :: v1 :: .int x :: ls, sk, h) = zrun zpp E 205 (87, v0 :: v1 :: .int x :: ls, .int x :: sk, h) := zrun_at rfl
theorem zi205_87 {E : zE} {x : Int32} {ls sk : List Value} {h : zH} : zrun zpp E 205 (87, ls, .int x :: sk, h) = if zfree ls 2 = true then zrun zpp E 205 (88, ls.set 2 (.int x), sk, h) else none := zg_ist rfl (fun _ _ _ => rfl)
theorem zi205_88 {E : zE} {v0 v1 v2 : Value} {x : Int32} {ls sk : List Value} {h : zH} : zrun zpp E 205 (88, v0 :: v1 :: v2 :: .int x :: ls, sk, h) = if zfree (v0 :: v1 :: v2 :: .int x :: ls) 3 = true then zrun zpp E 205 (91, v0 :: v1 :: v2 :: .int (x + 1) :: ls, sk, h) else none := by rw [← ci_1]; exact zrun_at rfl
theorem zi205_91 {E : zE} {ls sk : List Value} {h : zH} : zrun zpp E 205 (91, ls, sk, h) = zrun zpp E 205 (33, ls, sk, h) := zrun_at rfl
theorem zi205_94 {E : zE} {v0 v1 : Value} {x : Int32} {ls sk : List Value} {h : zH} : zrun zpp E 205 (94, v0 :: v1 :: .int x :: ls, sk, h) = zrun zpp E 205 (95, v0 :: v1 :: .int x :: ls, .int x :: sk, h) := zrun_at rfl
theorem zi205_95 {E : zE} {ls sk : List Value} {h : zH} : zrun zpp E 205 (95, ls, sk, h) = zrun zpp E 205 (97, ls, .int (-1000000) :: sk, h) := zg_ldc rfl ci_m1000000
theorem zi205_97 {E : zE} {x y : Int32} {ls sk : List Value} {h : zH} : zrun zpp E 205 (97, ls, .int y :: .int x :: sk, h) = if x = y then zrun zpp E 205 (105, ls, sk, h) else zrun zpp E 205 (100, ls, sk, h) := zrun_at rfl
theorem zi205_100 {E : zE} {v0 : Value} {x : Int32} {ls sk : List Value} {h : zH} : zrun zpp E 205 (100, v0 :: .int x :: ls, sk, h) = zrun zpp E 205 (101, v0 :: .int x :: ls, .int x :: sk, h) := zrun_at rfl
theorem zi205_101 {E : zE} {ls sk : List Value} {h : zH} : zrun zpp E 205 (101, ls, sk, h) = zrun zpp E 205 (102, ls, .int 1 :: sk, h) := zg_iconst rfl ci_1
theorem zi205_102 {E : zE} {x y : Int32} {ls sk : List Value} {h : zH} : zrun zpp E 205 (102, ls, .int y :: .int x :: sk, h) = if x = y then zrun zpp E 205 (105, ls, sk, h) else zrun zpp E 205 (109, ls, sk, h) := zrun_at rfl
theorem zi205_105 {E : zE} {v0 v1 : Value} {x : Int32} {ls sk : List Value} {h : zH} : zrun zpp E 205 (105, v0 :: v1 :: .int x :: ls, sk, h) = zrun zpp E 205 (106, v0 :: v1 :: .int x :: ls, .int x :: sk, h) := zrun_at rfl
theorem zi205_106 {E : zE} {ls sk : List Value} {h : zH} : zrun zpp E 205 (106, ls, sk, h) = zrun zpp E 205 (113, ls, sk, h) := zrun_at rfl
theorem zi205_109 {E : zE} {v0 v1 : Value} {x : Int32} {ls sk : List Value} {h : zH} : zrun zpp E 205 (109, v0 :: v1 :: .int x :: ls, sk, h) = zrun zpp E 205 (110, v0 :: v1 :: .int x :: ls, .int x :: sk, h) := zrun_at rfl
theorem zi205_110 {E : zE} {a0 : Value} {ls sk : List Value} {h : zH} : zrun zpp E 205 (110, ls, a0 :: sk, h) = zcl1 E 205 113 182 ls sk [a0] h := zg_inv (as := [a0]) rfl rfl
theorem zi205_113 {E : zE} {x : Int32} {ls sk : List Value} {h : zH} : zrun zpp E 205 (113, ls, [.int x], h) = some (some (.int x), h) := zrun_at rfl
-- 206 NineDownModel.layer
theorem zi206_0 {E : zE} {x : Nat} {ls sk : List Value} {h : zH} : zrun zpp E 206 (0, .ref x :: ls, sk, h) = zrun zpp E 206 (1, .ref x :: ls, .ref x :: sk, h) := zrun_at rfl
theorem zi206_0n {E : zE} {ls sk : List Value} {h : zH} : zrun zpp E 206 (0, .null :: ls, sk, h) = zrun zpp E 206 (1, .null :: ls, .null :: sk, h) := zrun_at rfl
theorem zi206_1 {E : zE} {ls sk : List Value} {h : zH} : zrun zpp E 206 (1, ls, sk, h) = zrun zpp E 206 (2, ls, .int 0 :: sk, h) := zg_iconst rfl ci_0
theorem zi206_2 {E : zE} {x : Nat} {v : Value} {ls sk : List Value} {h : zH} : zrun zpp E 206 (2, ls, v :: .ref x :: sk, h) = (zstf [11] 0 h x 0 v).bind (fun h' => zrun zpp E 206 (5, ls, sk, h')) := zg_putf rfl
theorem zi206_5 {E : zE} {x : Nat} {ls sk : List Value} {h : zH} : zrun zpp E 206 (5, .ref x :: ls, sk, h) = zrun zpp E 206 (6, .ref x :: ls, .ref x :: sk, h) := zrun_at rfl
theorem zi206_5n {E : zE} {ls sk : List Value} {h : zH} : zrun zpp E 206 (5, .null :: ls, sk, h) = zrun zpp E 206 (6, .null :: ls, .null :: sk, h) := zrun_at rfl
theorem zi206_6 {E : zE} {v0 : Value} {x : Int32} {ls sk : List Value} {h : zH} : zrun zpp E 206 (6, v0 :: .int x :: ls, sk, h) = zrun zpp E 206 (7, v0 :: .int x :: ls, .int x :: sk, h) := zrun_at rfl
theorem zi206_7 {E : zE} {x : Int32} {ls sk : List Value} {h : zH} : zrun zpp E 206 (7, ls, .int x :: sk, h) = zrun zpp E 206 (8, ls, .long x.toInt64 :: sk, h) := zrun_at rfl
theorem zi206_8 {E : zE} {a0 : Value} {x : Nat} {ls sk : List Value} {h : zH} : zrun zpp E 206 (8, ls, a0 :: .ref x :: sk, h) = (zcls h x).bind (fun d => (zsel d [11, 173]).bind (fun M' => zcl1 E 206 11 M' ls sk [.ref x, a0] h)) := zg_vir (as := [a0]) rfl rfl
theorem zi206_11 {E : zE} {x : Int32} {ls sk : List Value} {h : zH} : zrun zpp E 206 (11, ls, .int x :: sk, h) = if x = 0 then zrun zpp E 206 (14, ls, sk, h) else zrun zpp E 206 (17, ls, sk, h) := zrun_at rfl
theorem zi206_14 {E : zE} {ls sk : List Value} {h : zH} : zrun zpp E 206 (14, ls, sk, h) = zrun zpp E 206 (16, ls, .int (-1000001) :: sk, h) := zg_ldc rfl ci_m1000001
theorem zi206_16 {E : zE} {x : Int32} {ls sk : List Value} {h : zH} : zrun zpp E 206 (16, ls, [.int x], h) = some (some (.int x), h) := zrun_at rfl
theorem zi206_17 {E : zE} {ls sk : List Value} {h : zH} : zrun zpp E 206 (17, ls, sk, h) = zrun zpp E 206 (18, ls, .int 0 :: sk, h) := zg_iconst rfl ci_0
theorem zi206_18 {E : zE} {x : Int32} {ls sk : List Value} {h : zH} : zrun zpp E 206 (18, ls, .int x :: sk, h) = if zfree ls 2 = true then zrun zpp E 206 (19, ls.set 2 (.int x), sk, h) else none := zg_ist rfl (fun _ _ _ => rfl)
theorem zi206_19 {E : zE} {ls sk : List Value} {h : zH} : zrun zpp E 206 (19, ls, sk, h) = zrun zpp E 206 (20, ls, .int 0 :: sk, h) := zg_iconst rfl ci_0
theorem zi206_20 {E : zE} {x : Int32} {ls sk : List Value} {h : zH} : zrun zpp E 206 (20, ls, .int x :: sk, h) = if zfree ls 3 = true then zrun zpp E 206 (21, ls.set 3 (.int x), sk, h) else none := zg_ist rfl (fun _ _ _ => rfl)
theorem zi206_21 {E : zE} {v0 v1 v2 : Value} {x : Int32} {ls sk : List Value} {h : zH} : zrun zpp E 206 (21, v0 :: v1 :: v2 :: .int x :: ls, sk, h) = zrun zpp E 206 (22, v0 :: v1 :: v2 :: .int x :: ls, .int x :: sk, h) := zrun_at rfl
theorem zi206_22 {E : zE} {ls sk : List Value} {h : zH} : zrun zpp E 206 (22, ls, sk, h) = zrun zpp E 206 (24, ls, .int 8 :: sk, h) := zg_bipush rfl ci_8
theorem zi206_24 {E : zE} {x y : Int32} {ls sk : List Value} {h : zH} : zrun zpp E 206 (24, ls, .int y :: .int x :: sk, h) = if y ≤ x then zrun zpp E 206 (186, ls, sk, h) else zrun zpp E 206 (27, ls, sk, h) := zrun_at rfl
theorem zi206_27 {E : zE} {ls sk : List Value} {h : zH} : zrun zpp E 206 (27, ls, sk, h) = zrun zpp E 206 (28, ls, .int 0 :: sk, h) := zg_iconst rfl ci_0
theorem zi206_28 {E : zE} {x : Int32} {ls sk : List Value} {h : zH} : zrun zpp E 206 (28, ls, .int x :: sk, h) = if zfree ls 4 = true then zrun zpp E 206 (30, ls.set 4 (.int x), sk, h) else none := zg_ist rfl (fun _ _ _ => rfl)
theorem zi206_30 {E : zE} {v0 v1 v2 v3 : Value} {x : Int32} {ls sk : List Value} {h : zH} : zrun zpp E 206 (30, v0 :: v1 :: v2 :: v3 :: .int x :: ls, sk, h) = zrun zpp E 206 (32, v0 :: v1 :: v2 :: v3 :: .int x :: ls, .int x :: sk, h) := zrun_at rfl
theorem zi206_32 {E : zE} {x : Nat} {ls sk : List Value} {h : zH} : zrun zpp E 206 (32, .ref x :: ls, sk, h) = zrun zpp E 206 (33, .ref x :: ls, .ref x :: sk, h) := zrun_at rfl
theorem zi206_32n {E : zE} {ls sk : List Value} {h : zH} : zrun zpp E 206 (32, .null :: ls, sk, h) = zrun zpp E 206 (33, .null :: ls, .null :: sk, h) := zrun_at rfl
theorem zi206_33 {E : zE} {x : Nat} {ls sk : List Value} {h : zH} : zrun zpp E 206 (33, ls, .ref x :: sk, h) = (zfld [11] h x 5).bind (fun v => zrun zpp E 206 (36, ls, v :: sk, h)) := zg_getf rfl
theorem zi206_36 {E : zE} {ls sk : List Value} {h : zH} : zrun zpp E 206 (36, ls, sk, h) = zrun zpp E 206 (37, ls, .int 3 :: sk, h) := zg_iconst rfl ci_3
theorem zi206_37 {E : zE} {x : Nat} {i : Int32} {ls sk : List Value} {h : zH} : zrun zpp E 206 (37, ls, .int i :: .ref x :: sk, h) = (zarr 0 h x i).bind (fun v => zrun zpp E 206 (38, ls, .int v :: sk, h)) := zg_iald rfl
theorem zi206_38 {E : zE} {x y : Int32} {ls sk : List Value} {h : zH} : zrun zpp E 206 (38, ls, .int y :: .int x :: sk, h) = if y ≤ x then zrun zpp E 206 (180, ls, sk, h) else zrun zpp E 206 (41, ls, sk, h) := zrun_at rfl
theorem zi206_41 {E : zE} {x : Nat} {ls sk : List Value} {h : zH} : zrun zpp E 206 (41, .ref x :: ls, sk, h) = zrun zpp E 206 (42, .ref x :: ls, .ref x :: sk, h) := zrun_at rfl
theorem zi206_41n {E : zE} {ls sk : List Value} {h : zH} : zrun zpp E 206 (41, .null :: ls, sk, h) = zrun zpp E 206 (42, .null :: ls, .null :: sk, h) := zrun_at rfl
theorem zi206_42 {E : zE} {v0 v1 v2 v3 : Value} {x : Int32} {ls sk : List Value} {h : zH} : zrun zpp E 206 (42, v0 :: v1 :: v2 :: v3 :: .int x :: ls, sk, h) = zrun zpp E 206 (44, v0 :: v1 :: v2 :: v3 :: .int x :: ls, .int x :: sk, h) := zrun_at rfl
theorem zi206_44 {E : zE} {a0 : Value} {x : Nat} {ls sk : List Value} {h : zH} : zrun zpp E 206 (44, ls, a0 :: .ref x :: sk, h) = (zcls h x).bind (fun d => (zsel d [11, 183]).bind (fun M' => zcl1 E 206 47 M' ls sk [.ref x, a0] h)) := zg_vir (as := [a0]) rfl rfl
theorem zi206_47 {E : zE} {x : Nat} {ls sk : List Value} {h : zH} : zrun zpp E 206 (47, .ref x :: ls, sk, h) = zrun zpp E 206 (48, .ref x :: ls, .ref x :: sk, h) := zrun_at rfl
theorem zi206_47n {E : zE} {ls sk : List Value} {h : zH} : zrun zpp E 206 (47, .null :: ls, sk, h) = zrun zpp E 206 (48, .null :: ls, .null :: sk, h) := zrun_at rfl
theorem zi206_48 {E : zE} {x : Nat} {ls sk : List Value} {h : zH} : zrun zpp E 206 (48, ls, .ref x :: sk, h) = (zfld [11] h x 5).bind (fun v => zrun zpp E 206 (51, ls, v :: sk, h)) := zg_getf rfl
theorem zi206_51 {E : zE} {ls sk : List Value} {h : zH} : zrun zpp E 206 (51, ls, sk, h) = zrun zpp E 206 (53, ls, .int 8 :: sk, h) := zg_bipush rfl ci_8
theorem zi206_53 {E : zE} {x : Nat} {i : Int32} {ls sk : List Value} {h : zH} : zrun zpp E 206 (53, ls, .int i :: .ref x :: sk, h) = (zarr 0 h x i).bind (fun v => zrun zpp E 206 (54, ls, .int v :: sk, h)) := zg_iald rfl
theorem zi206_54 {E : zE} {x y : Int32} {ls sk : List Value} {h : zH} : zrun zpp E 206 (54, ls, .int y :: .int x :: sk, h) = zrun zpp E 206 (55, ls, .int (x &&& y) :: sk, h) := zrun_at rfl
theorem zi206_55 {E : zE} {x : Int32} {ls sk : List Value} {h : zH} : zrun zpp E 206 (55, ls, .int x :: sk, h) = if zfree ls 5 = true then zrun zpp E 206 (57, ls.set 5 (.int x), sk, h) else none := zg_ist rfl (fun _ _ _ => rfl)
theorem zi206_57 {E : zE} {x : Nat} {ls sk : List Value} {h : zH} : zrun zpp E 206 (57, .ref x :: ls, sk, h) = zrun zpp E 206 (58, .ref x :: ls, .ref x :: sk, h) := zrun_at rfl
theorem zi206_57n {E : zE} {ls sk : List Value} {h : zH} : zrun zpp E 206 (57, .null :: ls, sk, h) = zrun zpp E 206 (58, .null :: ls, .null :: sk, h) := zrun_at rfl
theorem zi206_58 {E : zE} {x : Nat} {ls sk : List Value} {h : zH} : zrun zpp E 206 (58, ls, .ref x :: sk, h) = (zfld [11] h x 5).bind (fun v => zrun zpp E 206 (61, ls, v :: sk, h)) := zg_getf rfl
theorem zi206_61 {E : zE} {ls sk : List Value} {h : zH} : zrun zpp E 206 (61, ls, sk, h) = zrun zpp E 206 (63, ls, .int 8 :: sk, h) := zg_bipush rfl ci_8
theorem zi206_63 {E : zE} {x : Nat} {i : Int32} {ls sk : List Value} {h : zH} : zrun zpp E 206 (63, ls, .int i :: .ref x :: sk, h) = (zarr 0 h x i).bind (fun v => zrun zpp E 206 (64, ls, .int v :: sk, h)) := zg_iald rfl
theorem zi206_64 {E : zE} {v0 v1 v2 v3 : Value} {x : Int32} {ls sk : List Value} {h : zH} : zrun zpp E 206 (64, v0 :: v1 :: v2 :: v3 :: .int x :: ls, sk, h) = zrun zpp E 206 (66, v0 :: v1 :: v2 :: v3 :: .int x :: ls, .int x :: sk, h) := zrun_at rfl
theorem zi206_66 {E : zE} {a0 a1 : Value} {ls sk : List Value} {h : zH} : zrun zpp E 206 (66, ls, a1 :: a0 :: sk, h) = zcl1 E 206 69 181 ls sk [a0, a1] h := zg_inv (as := [a0, a1]) rfl rfl
theorem zi206_69 {E : zE} {x : Int32} {ls sk : List Value} {h : zH} : zrun zpp E 206 (69, ls, .int x :: sk, h) = if x = 0 then zrun zpp E 206 (174, ls, sk, h) else zrun zpp E 206 (72, ls, sk, h) := zrun_at rfl
theorem zi206_72 {E : zE} {v0 v1 : Value} {x : Int32} {ls sk : List Value} {h : zH} : zrun zpp E 206 (72, v0 :: v1 :: .int x :: ls, sk, h) = zrun zpp E 206 (73, v0 :: v1 :: .int x :: ls, .int x :: sk, h) := zrun_at rfl
theorem zi206_73 {E : zE} {v0 v1 v2 v3 : Value} {x : Int32} {ls sk : List Value} {h : zH} : zrun zpp E 206 (73, v0 :: v1 :: v2 :: v3 :: .int x :: ls, sk, h) = zrun zpp E 206 (75, v0 :: v1 :: v2 :: v3 :: .int x :: ls, .int x :: sk, h) := zrun_at rfl
theorem zi206_75 {E : zE} {a0 a1 : Value} {ls sk : List Value} {h : zH} : zrun zpp E 206 (75, ls, a1 :: a0 :: sk, h) = zcl1 E 206 78 181 ls sk [a0, a1] h := zg_inv (as := [a0, a1]) rfl rfl
theorem zi206_78 {E : zE} {x : Int32} {ls sk : List Value} {h : zH} : zrun zpp E 206 (78, ls, .int x :: sk, h) = if x = 0 then zrun zpp E 206 (81, ls, sk, h) else zrun zpp E 206 (174, ls, sk, h) := zrun_at rfl
theorem zi206_81 {E : zE} {v0 v1 v2 v3 v4 : Value} {x : Int32} {ls sk : List Value} {h : zH} : zrun zpp E 206 (81, v0 :: v1 :: v2 :: v3 :: v4 :: .int x :: ls, sk, h) = zrun zpp E 206 (83, v0 :: v1 :: v2 :: v3 :: v4 :: .int x :: ls, .int x :: sk, h) := zrun_at rfl
theorem zi206_83 {E : zE} {v0 v1 : Value} {x : Int32} {ls sk : List Value} {h : zH} : zrun zpp E 206 (83, v0 :: v1 :: .int x :: ls, sk, h) = zrun zpp E 206 (84, v0 :: v1 :: .int x :: ls, .int x :: sk, h) := zrun_at rfl
theorem zi206_84 {E : zE} {ls sk : List Value} {h : zH} : zrun zpp E 206 (84, ls, sk, h) = zrun zpp E 206 (85, ls, .int (-1) :: sk, h) := zg_iconst rfl ci_m1
theorem zi206_85 {E : zE} {x y : Int32} {ls sk : List Value} {h : zH} : zrun zpp E 206 (85, ls, .int y :: .int x :: sk, h) = zrun zpp E 206 (86, ls, .int (x ^^^ y) :: sk, h) := zrun_at rfl
theorem zi206_86 {E : zE} {x y : Int32} {ls sk : List Value} {h : zH} : zrun zpp E 206 (86, ls, .int y :: .int x :: sk, h) = zrun zpp E 206 (87, ls, .int (x &&& y) :: sk, h) := zrun_at rfl
theorem zi206_87 {E : zE} {x : Int32} {ls sk : List Value} {h : zH} : zrun zpp E 206 (87, ls, .int x :: sk, h) = if x = 0 then zrun zpp E 206 (90, ls, sk, h) else zrun zpp E 206 (174, ls, sk, h) := zrun_at rfl
theorem zi206_90 {E : zE} {x : Nat} {ls sk : List Value} {h : zH} : zrun zpp E 206 (90, .ref x :: ls, sk, h) = zrun zpp E 206 (91, .ref x :: ls, .ref x :: sk, h) := zrun_at rfl
theorem zi206_90n {E : zE} {ls sk : List Value} {h : zH} : zrun zpp E 206 (90, .null :: ls, sk, h) = zrun zpp E 206 (91, .null :: ls, .null :: sk, h) := zrun_at rfl
theorem zi206_91 {E : zE} {x : Nat} {ls sk : List Value} {h : zH} : zrun zpp E 206 (91, ls, .ref x :: sk, h) = (zfld [11] h x 20).bind (fun v => zrun zpp E 206 (94, ls, v :: sk, h)) := zg_getf rfl
theorem zi206_94 {E : zE} {v0 v1 v2 v3 : Value} {x : Int32} {ls sk : List Value} {h : zH} : zrun zpp E 206 (94, v0 :: v1 :: v2 :: v3 :: .int x :: ls, sk, h) = zrun zpp E 206 (96, v0 :: v1 :: v2 :: v3 :: .int x :: ls, .int x :: sk, h) := zrun_at rfl
theorem zi206_96 {E : zE} {ls sk : List Value} {h : zH} : zrun zpp E 206 (96, ls, sk, h) = zrun zpp E 206 (97, ls, .int 0 :: sk, h) := zg_iconst rfl ci_0
theorem zi206_97 {E : zE} {x : Nat} {i v : Int32} {ls sk : List Value} {h : zH} : zrun zpp E 206 (97, ls, .int v :: .int i :: .ref x :: sk, h) = (zars 0 h x i v).bind (fun h' => zrun zpp E 206 (98, ls, sk, h')) := zg_iast rfl
theorem zi206_98 {E : zE} {ls sk : List Value} {h : zH} : zrun zpp E 206 (98, ls, sk, h) = zrun zpp E 206 (99, ls, .int 0 :: sk, h) := zg_iconst rfl ci_0
theorem zi206_99 {E : zE} {x : Int32} {ls sk : List Value} {h : zH} : zrun zpp E 206 (99, ls, .int x :: sk, h) = if zfree ls 6 = true then zrun zpp E 206 (101, ls.set 6 (.int x), sk, h) else none := zg_ist rfl (fun _ _ _ => rfl)
theorem zi206_101 {E : zE} {v0 v1 v2 v3 v4 v5 : Value} {x : Int32} {ls sk : List Value} {h : zH} : zrun zpp E 206 (101, v0 :: v1 :: v2 :: v3 :: v4 :: v5 :: .int x :: ls, sk, h) = zrun zpp E 206 (103, v0 :: v1 :: v2 :: v3 :: v4 :: v5 :: .int x :: ls, .int x :: sk, h) := zrun_at rfl
theorem zi206_103 {E : zE} {ls sk : List Value} {h : zH} : zrun zpp E 206 (103, ls, sk, h) = zrun zpp E 206 (105, ls, .int 8 :: sk, h) := zg_bipush rfl ci_8
theorem zi206_105 {E : zE} {x y : Int32} {ls sk : List Value} {h : zH} : zrun zpp E 206 (105, ls, .int y :: .int x :: sk, h) = if y ≤ x then zrun zpp E 206 (167, ls, sk, h) else zrun zpp E 206 (108, ls, sk, h) := zrun_at rfl
theorem zi206_108 {E : zE} {x : Nat} {ls sk : List Value} {h : zH} : zrun zpp E 206 (108, .ref x :: ls, sk, h) = zrun zpp E 206 (109, .ref x :: ls, .ref x :: sk, h) := zrun_at rfl
theorem zi206_108n {E : zE} {ls sk : List Value} {h : zH} : zrun zpp E 206 (108, .null :: ls, sk, h) = zrun zpp E 206 (109, .null :: ls, .null :: sk, h) := zrun_at rfl
theorem zi206_109 {E : zE} {x : Nat} {ls sk : List Value} {h : zH} : zrun zpp E 206 (109, ls, .ref x :: sk, h) = (zfld [11] h x 20).bind (fun v => zrun zpp E 206 (112, ls, v :: sk, h)) := zg_getf rfl
theorem zi206_112 {E : zE} {v0 v1 v2 v3 : Value} {x : Int32} {ls sk : List Value} {h : zH} : zrun zpp E 206 (112, v0 :: v1 :: v2 :: v3 :: .int x :: ls, sk, h) = zrun zpp E 206 (114, v0 :: v1 :: v2 :: v3 :: .int x :: ls, .int x :: sk, h) := zrun_at rfl
theorem zi206_114 {E : zE} {v0 v1 v2 v3 v4 : Value} {x : Int32} {ls sk : List Value} {h : zH} : zrun zpp E 206 (114, v0 :: v1 :: v2 :: v3 :: v4 :: .int x :: ls, sk, h) = zrun zpp E 206 (116, v0 :: v1 :: v2 :: v3 :: v4 :: .int x :: ls, .int x :: sk, h) := zrun_at rfl
theorem zi206_116 {E : zE} {v0 v1 v2 v3 v4 v5 : Value} {x : Int32} {ls sk : List Value} {h : zH} : zrun zpp E 206 (116, v0 :: v1 :: v2 :: v3 :: v4 :: v5 :: .int x :: ls, sk, h) = zrun zpp E 206 (118, v0 :: v1 :: v2 :: v3 :: v4 :: v5 :: .int x :: ls, .int x :: sk, h) := zrun_at rfl
theorem zi206_118 {E : zE} {a0 a1 : Value} {ls sk : List Value} {h : zH} : zrun zpp E 206 (118, ls, a1 :: a0 :: sk, h) = zcl1 E 206 121 181 ls sk [a0, a1] h := zg_inv (as := [a0, a1]) rfl rfl
theorem zi206_121 {E : zE} {x : Int32} {ls sk : List Value} {h : zH} : zrun zpp E 206 (121, ls, .int x :: sk, h) = if x = 0 then zrun zpp E 206 (153, ls, sk, h) else zrun zpp E 206 (124, ls, sk, h) := zrun_at rfl
theorem zi206_124 {E : zE} {x : Nat} {ls sk : List Value} {h : zH} : zrun zpp E 206 (124, .ref x :: ls, sk, h) = zrun zpp E 206 (125, .ref x :: ls, .ref x :: sk, h) := zrun_at rfl
theorem zi206_124n {E : zE} {ls sk : List Value} {h : zH} : zrun zpp E 206 (124, .null :: ls, sk, h) = zrun zpp E 206 (125, .null :: ls, .null :: sk, h) := zrun_at rfl
theorem zi206_125 {E : zE} {x : Nat} {ls sk : List Value} {h : zH} : zrun zpp E 206 (125, ls, .ref x :: sk, h) = (zfld [11] h x 20).bind (fun v => zrun zpp E 206 (128, ls, v :: sk, h)) := zg_getf rfl
theorem zi206_128 {E : zE} {v0 v1 v2 v3 v4 v5 : Value} {x : Int32} {ls sk : List Value} {h : zH} : zrun zpp E 206 (128, v0 :: v1 :: v2 :: v3 :: v4 :: v5 :: .int x :: ls, sk, h) = zrun zpp E 206 (130, v0 :: v1 :: v2 :: v3 :: v4 :: v5 :: .int x :: ls, .int x :: sk, h) := zrun_at rfl
theorem zi206_130 {E : zE} {x : Nat} {i : Int32} {ls sk : List Value} {h : zH} : zrun zpp E 206 (130, ls, .int i :: .ref x :: sk, h) = (zarr 0 h x i).bind (fun v => zrun zpp E 206 (131, ls, .int v :: sk, h)) := zg_iald rfl
theorem zi206_131 {E : zE} {x : Nat} {ls sk : List Value} {h : zH} : zrun zpp E 206 (131, .ref x :: ls, sk, h) = zrun zpp E 206 (132, .ref x :: ls, .ref x :: sk, h) := zrun_at rfl
theorem zi206_131n {E : zE} {ls sk : List Value} {h : zH} : zrun zpp E 206 (131, .null :: ls, sk, h) = zrun zpp E 206 (132, .null :: ls, .null :: sk, h) := zrun_at rfl
theorem zi206_132 {E : zE} {x : Nat} {ls sk : List Value} {h : zH} : zrun zpp E 206 (132, ls, .ref x :: sk, h) = (zfld [11] h x 20).bind (fun v => zrun zpp E 206 (135, ls, v :: sk, h)) := zg_getf rfl
theorem zi206_135 {E : zE} {v0 v1 v2 v3 : Value} {x : Int32} {ls sk : List Value} {h : zH} : zrun zpp E 206 (135, v0 :: v1 :: v2 :: v3 :: .int x :: ls, sk, h) = zrun zpp E 206 (137, v0 :: v1 :: v2 :: v3 :: .int x :: ls, .int x :: sk, h) := zrun_at rfl
theorem zi206_137 {E : zE} {x : Nat} {i : Int32} {ls sk : List Value} {h : zH} : zrun zpp E 206 (137, ls, .int i :: .ref x :: sk, h) = (zarr 0 h x i).bind (fun v => zrun zpp E 206 (138, ls, .int v :: sk, h)) := zg_iald rfl
theorem zi206_138 {E : zE} {x y : Int32} {ls sk : List Value} {h : zH} : zrun zpp E 206 (138, ls, .int y :: .int x :: sk, h) = if x < y then zrun zpp E 206 (153, ls, sk, h) else zrun zpp E 206 (141, ls, sk, h) := zrun_at rfl
theorem zi206_141 {E : zE} {x : Nat} {ls sk : List Value} {h : zH} : zrun zpp E 206 (141, .ref x :: ls, sk, h) = zrun zpp E 206 (142, .ref x :: ls, .ref x :: sk, h) := zrun_at rfl
theorem zi206_141n {E : zE} {ls sk : List Value} {h : zH} : zrun zpp E 206 (141, .null :: ls, sk, h) = zrun zpp E 206 (142, .null :: ls, .null :: sk, h) := zrun_at rfl
theorem zi206_142 {E : zE} {x : Nat} {ls sk : List Value} {h : zH} : zrun zpp E 206 (142, ls, .ref x :: sk, h) = (zfld [11] h x 20).bind (fun v => zrun zpp E 206 (145, ls, v :: sk, h)) := zg_getf rfl
theorem zi206_145 {E : zE} {v0 v1 v2 v3 v4 v5 : Value} {x : Int32} {ls sk : List Value} {h : zH} : zrun zpp E 206 (145, v0 :: v1 :: v2 :: v3 :: v4 :: v5 :: .int x :: ls, sk, h) = zrun zpp E 206 (147, v0 :: v1 :: v2 :: v3 :: v4 :: v5 :: .int x :: ls, .int x :: sk, h) := zrun_at rfl
theorem zi206_147 {E : zE} {x : Nat} {i : Int32} {ls sk : List Value} {h : zH} : zrun zpp E 206 (147, ls, .int i :: .ref x :: sk, h) = (zarr 0 h x i).bind (fun v => zrun zpp E 206 (148, ls, .int v :: sk, h)) := zg_iald rfl
theorem zi206_148 {E : zE} {ls sk : List Value} {h : zH} : zrun zpp E 206 (148, ls, sk, h) = zrun zpp E 206 (149, ls, .int 1 :: sk, h) := zg_iconst rfl ci_1
theorem zi206_149 {E : zE} {x y : Int32} {ls sk : List Value} {h : zH} : zrun zpp E 206 (149, ls, .int y :: .int x :: sk, h) = zrun zpp E 206 (150, ls, .int (x + y) :: sk, h) := zrun_at rfl
theorem zi206_150 {E : zE} {ls sk : List Value} {h : zH} : zrun zpp E 206 (150, ls, sk, h) = zrun zpp E 206 (160, ls, sk, h) := zrun_at rfl
theorem zi206_153 {E : zE} {x : Nat} {ls sk : List Value} {h : zH} : zrun zpp E 206 (153, .ref x :: ls, sk, h) = zrun zpp E 206 (154, .ref x :: ls, .ref x :: sk, h) := zrun_at rfl
theorem zi206_153n {E : zE} {ls sk : List Value} {h : zH} : zrun zpp E 206 (153, .null :: ls, sk, h) = zrun zpp E 206 (154, .null :: ls, .null :: sk, h) := zrun_at rfl
theorem zi206_154 {E : zE} {x : Nat} {ls sk : List Value} {h : zH} : zrun zpp E 206 (154, ls, .ref x :: sk, h) = (zfld [11] h x 20).bind (fun v => zrun zpp E 206 (157, ls, v :: sk, h)) := zg_getf rfl
theorem zi206_157 {E : zE} {v0 v1 v2 v3 : Value} {x : Int32} {ls sk : List Value} {h : zH} : zrun zpp E 206 (157, v0 :: v1 :: v2 :: v3 :: .int x :: ls, sk, h) = zrun zpp E 206 (159, v0 :: v1 :: v2 :: v3 :: .int x :: ls, .int x :: sk, h) := zrun_at rfl
theorem zi206_159 {E : zE} {x : Nat} {i : Int32} {ls sk : List Value} {h : zH} : zrun zpp E 206 (159, ls, .int i :: .ref x :: sk, h) = (zarr 0 h x i).bind (fun v => zrun zpp E 206 (160, ls, .int v :: sk, h)) := zg_iald rfl
theorem zi206_160 {E : zE} {x : Nat} {i v : Int32} {ls sk : List Value} {h : zH} : zrun zpp E 206 (160, ls, .int v :: .int i :: .ref x :: sk, h) = (zars 0 h x i v).bind (fun h' => zrun zpp E 206 (161, ls, sk, h')) := zg_iast rfl
theorem zi206_161 {E : zE} {v0 v1 v2 v3 v4 v5 : Value} {x : Int32} {ls sk : List Value} {h : zH} : zrun zpp E 206 (161, v0 :: v1 :: v2 :: v3 :: v4 :: v5 :: .int x :: ls, sk, h) = if zfree (v0 :: v1 :: v2 :: v3 :: v4 :: v5 :: .int x :: ls) 6 = true then zrun zpp E 206 (164, v0 :: v1 :: v2 :: v3 :: v4 :: v5 :: .int (x + 1) :: ls, sk, h) else none := by rw [← ci_1]; exact zrun_at rfl
theorem zi206_164 {E : zE} {ls sk : List Value} {h : zH} : zrun zpp E 206 (164, ls, sk, h) = zrun zpp E 206 (101, ls, sk, h) := zrun_at rfl
theorem zi206_167 {E : zE} {v0 v1 : Value} {x : Int32} {ls sk : List Value} {h : zH} : zrun zpp E 206 (167, v0 :: v1 :: .int x :: ls, sk, h) = zrun zpp E 206 (168, v0 :: v1 :: .int x :: ls, .int x :: sk, h) := zrun_at rfl
theorem zi206_168 {E : zE} {ls sk : List Value} {h : zH} : zrun zpp E 206 (168, ls, sk, h) = zrun zpp E 206 (169, ls, .int 1 :: sk, h) := zg_iconst rfl ci_1
theorem zi206_169 {E : zE} {v0 v1 v2 v3 : Value} {x : Int32} {ls sk : List Value} {h : zH} : zrun zpp E 206 (169, v0 :: v1 :: v2 :: v3 :: .int x :: ls, sk, h) = zrun zpp E 206 (171, v0 :: v1 :: v2 :: v3 :: .int x :: ls, .int x :: sk, h) := zrun_at rfl
theorem zi206_171 {E : zE} {x y : Int32} {ls sk : List Value} {h : zH} : zrun zpp E 206 (171, ls, .int y :: .int x :: sk, h) = zrun zpp E 206 (172, ls, .int (x <<< (y &&& 31)) :: sk, h) := zrun_at rfl
theorem zi206_172 {E : zE} {x y : Int32} {ls sk : List Value} {h : zH} : zrun zpp E 206 (172, ls, .int y :: .int x :: sk, h) = zrun zpp E 206 (173, ls, .int (x ||| y) :: sk, h) := zrun_at rfl
theorem zi206_173 {E : zE} {x : Int32} {ls sk : List Value} {h : zH} : zrun zpp E 206 (173, ls, .int x :: sk, h) = if zfree ls 2 = true then zrun zpp E 206 (174, ls.set 2 (.int x), sk, h) else none := zg_ist rfl (fun _ _ _ => rfl)
theorem zi206_174 {E : zE} {v0 v1 v2 v3 : Value} {x : Int32} {ls sk : List Value} {h : zH} : zrun zpp E 206 (174, v0 :: v1 :: v2 :: v3 :: .int x :: ls, sk, h) = if zfree (v0 :: v1 :: v2 :: v3 :: .int x :: ls) 4 = true then zrun zpp E 206 (177, v0 :: v1 :: v2 :: v3 :: .int (x + 1) :: ls, sk, h) else none := by rw [← ci_1]; exact zrun_at rfl
theorem zi206_177 {E : zE} {ls sk : List Value} {h : zH} : zrun zpp E 206 (177, ls, sk, h) = zrun zpp E 206 (30, ls, sk, h) := zrun_at rfl
theorem zi206_180 {E : zE} {v0 v1 v2 : Value} {x : Int32} {ls sk : List Value} {h : zH} : zrun zpp E 206 (180, v0 :: v1 :: v2 :: .int x :: ls, sk, h) = if zfree (v0 :: v1 :: v2 :: .int x :: ls) 3 = true then zrun zpp E 206 (183, v0 :: v1 :: v2 :: .int (x + 1) :: ls, sk, h) else none := by rw [← ci_1]; exact zrun_at rfl
theorem zi206_183 {E : zE} {ls sk : List Value} {h : zH} : zrun zpp E 206 (183, ls, sk, h) = zrun zpp E 206 (21, ls, sk, h) := zrun_at rfl
theorem zi206_186 {E : zE} {v0 v1 : Value} {x : Int32} {ls sk : List Value} {h : zH} : zrun zpp E 206 (186, v0 :: v1 :: .int x :: ls, sk, h) = zrun zpp E 206 (187, v0 :: v1 :: .int x :: ls, .int x :: sk, h) := zrun_at rfl
theorem zi206_187 {E : zE} {v0 : Value} {x : Int32} {ls sk : List Value} {h : zH} : zrun zpp E 206 (187, v0 :: .int x :: ls, sk, h) = zrun zpp E 206 (188, v0 :: .int x :: ls, .int x :: sk, h) := zrun_at rfl
theorem zi206_188 {E : zE} {a0 a1 : Value} {ls sk : List Value} {h : zH} : zrun zpp E 206 (188, ls, a1 :: a0 :: sk, h) = zcl1 E 206 191 181 ls sk [a0, a1] h := zg_inv (as := [a0, a1]) rfl rfl
theorem zi206_191 {E : zE} {x : Int32} {ls sk : List Value} {h : zH} : zrun zpp E 206 (191, ls, .int x :: sk, h) = if x = 0 then zrun zpp E 206 (203, ls, sk, h) else zrun zpp E 206 (194, ls, sk, h) := zrun_at rfl
theorem zi206_194 {E : zE} {x : Nat} {ls sk : List Value} {h : zH} : zrun zpp E 206 (194, .ref x :: ls, sk, h) = zrun zpp E 206 (195, .ref x :: ls, .ref x :: sk, h) := zrun_at rfl
theorem zi206_194n {E : zE} {ls sk : List Value} {h : zH} : zrun zpp E 206 (194, .null :: ls, sk, h) = zrun zpp E 206 (195, .null :: ls, .null :: sk, h) := zrun_at rfl
theorem zi206_195 {E : zE} {x : Nat} {ls sk : List Value} {h : zH} : zrun zpp E 206 (195, ls, .ref x :: sk, h) = (zfld [11] h x 20).bind (fun v => zrun zpp E 206 (198, ls, v :: sk, h)) := zg_getf rfl
theorem zi206_198 {E : zE} {v0 : Value} {x : Int32} {ls sk : List Value} {h : zH} : zrun zpp E 206 (198, v0 :: .int x :: ls, sk, h) = zrun zpp E 206 (199, v0 :: .int x :: ls, .int x :: sk, h) := zrun_at rfl
theorem zi206_199 {E : zE} {x : Nat} {i : Int32} {ls sk : List Value} {h : zH} : zrun zpp E 206 (199, ls, .int i :: .ref x :: sk, h) = (zarr 0 h x i).bind (fun v => zrun zpp E 206 (200, ls, .int v :: sk, h)) := zg_iald rfl
theorem zi206_200 {E : zE} {ls sk : List Value} {h : zH} : zrun zpp E 206 (200, ls, sk, h) = zrun zpp E 206 (205, ls, sk, h) := zrun_at rfl
theorem zi206_203 {E : zE} {ls sk : List Value} {h : zH} : zrun zpp E 206 (203, ls, sk, h) = zrun zpp E 206 (205, ls, .int (-1000000) :: sk, h) := zg_ldc rfl ci_m1000000
theorem zi206_205 {E : zE} {x : Int32} {ls sk : List Value} {h : zH} : zrun zpp E 206 (205, ls, [.int x], h) = some (some (.int x), h) := zrun_at rfl
-- 207 NineDownModel.fellBy
theorem zi207_0 {E : zE} {ls sk : List Value} {h : zH} : zrun zpp E 207 (0, ls, sk, h) = zrun zpp E 207 (1, ls, .int 1 :: sk, h) := zg_iconst rfl ci_1
theorem zi207_1 {E : zE} {v0 : Value} {x : Int32} {ls sk : List Value} {h : zH} : zrun zpp E 207 (1, v0 :: .int x :: ls, sk, h) = zrun zpp E 207 (2, v0 :: .int x :: ls, .int x :: sk, h) := zrun_at rfl
theorem zi207_2 {E : zE} {x y : Int32} {ls sk : List Value} {h : zH} : zrun zpp E 207 (2, ls, .int y :: .int x :: sk, h) = zrun zpp E 207 (3, ls, .int (x <<< (y &&& 31)) :: sk, h) := zrun_at rfl
theorem zi207_3 {E : zE} {x : Int32} {ls sk : List Value} {h : zH} : zrun zpp E 207 (3, ls, .int x :: sk, h) = if zfree ls 3 = true then zrun zpp E 207 (4, ls.set 3 (.int x), sk, h) else none := zg_ist rfl (fun _ _ _ => rfl)
theorem zi207_4 {E : zE} {v0 : Value} {x : Int32} {ls sk : List Value} {h : zH} : zrun zpp E 207 (4, v0 :: .int x :: ls, sk, h) = zrun zpp E 207 (5, v0 :: .int x :: ls, .int x :: sk, h) := zrun_at rfl
theorem zi207_5 {E : zE} {x : Int32} {ls sk : List Value} {h : zH} : zrun zpp E 207 (5, ls, .int x :: sk, h) = if zfree ls 4 = true then zrun zpp E 207 (7, ls.set 4 (.int x), sk, h) else none := zg_ist rfl (fun _ _ _ => rfl)
theorem zi207_7 {E : zE} {ls sk : List Value} {h : zH} : zrun zpp E 207 (7, ls, sk, h) = zrun zpp E 207 (8, ls, .int 1 :: sk, h) := zg_iconst rfl ci_1
theorem zi207_8 {E : zE} {x : Int32} {ls sk : List Value} {h : zH} : zrun zpp E 207 (8, ls, .int x :: sk, h) = if zfree ls 5 = true then zrun zpp E 207 (10, ls.set 5 (.int x), sk, h) else none := zg_ist rfl (fun _ _ _ => rfl)
theorem zi207_10 {E : zE} {v0 v1 v2 v3 v4 : Value} {x : Int32} {ls sk : List Value} {h : zH} : zrun zpp E 207 (10, v0 :: v1 :: v2 :: v3 :: v4 :: .int x :: ls, sk, h) = zrun zpp E 207 (12, v0 :: v1 :: v2 :: v3 :: v4 :: .int x :: ls, .int x :: sk, h) := zrun_at rfl
theorem zi207_12 {E : zE} {x : Int32} {ls sk : List Value} {h : zH} : zrun zpp E 207 (12, ls, .int x :: sk, h) = if x = 0 then zrun zpp E 207 (105, ls, sk, h) else zrun zpp E 207 (15, ls, sk, h) := zrun_at rfl
theorem zi207_15 {E : zE} {v0 v1 : Value} {x : Int32} {ls sk : List Value} {h : zH} : zrun zpp E 207 (15, v0 :: v1 :: .int x :: ls, sk, h) = zrun zpp E 207 (16, v0 :: v1 :: .int x :: ls, .int x :: sk, h) := zrun_at rfl
theorem zi207_16 {E : zE} {ls sk : List Value} {h : zH} : zrun zpp E 207 (16, ls, sk, h) = zrun zpp E 207 (17, ls, .int 1 :: sk, h) := zg_iconst rfl ci_1
theorem zi207_17 {E : zE} {x y : Int32} {ls sk : List Value} {h : zH} : zrun zpp E 207 (17, ls, .int y :: .int x :: sk, h) = if x = y then zrun zpp E 207 (20, ls, sk, h) else zrun zpp E 207 (25, ls, sk, h) := zrun_at rfl
theorem zi207_20 {E : zE} {v0 v1 v2 v3 : Value} {x : Int32} {ls sk : List Value} {h : zH} : zrun zpp E 207 (20, v0 :: v1 :: v2 :: v3 :: .int x :: ls, sk, h) = zrun zpp E 207 (22, v0 :: v1 :: v2 :: v3 :: .int x :: ls, .int x :: sk, h) := zrun_at rfl
theorem zi207_22 {E : zE} {ls sk : List Value} {h : zH} : zrun zpp E 207 (22, ls, sk, h) = zrun zpp E 207 (29, ls, sk, h) := zrun_at rfl
theorem zi207_25 {E : zE} {v0 v1 v2 v3 : Value} {x : Int32} {ls sk : List Value} {h : zH} : zrun zpp E 207 (25, v0 :: v1 :: v2 :: v3 :: .int x :: ls, sk, h) = zrun zpp E 207 (27, v0 :: v1 :: v2 :: v3 :: .int x :: ls, .int x :: sk, h) := zrun_at rfl
theorem zi207_27 {E : zE} {ls sk : List Value} {h : zH} : zrun zpp E 207 (27, ls, sk, h) = zrun zpp E 207 (28, ls, .int 1 :: sk, h) := zg_iconst rfl ci_1
theorem zi207_28 {E : zE} {x y : Int32} {ls sk : List Value} {h : zH} : zrun zpp E 207 (28, ls, .int y :: .int x :: sk, h) = zrun zpp E 207 (29, ls, .int (x - y) :: sk, h) := zrun_at rfl
theorem zi207_29 {E : zE} {x : Int32} {ls sk : List Value} {h : zH} : zrun zpp E 207 (29, ls, .int x :: sk, h) = if zfree ls 6 = true then zrun zpp E 207 (31, ls.set 6 (.int x), sk, h) else none := zg_ist rfl (fun _ _ _ => rfl)
theorem zi207_31 {E : zE} {v0 v1 v2 v3 v4 v5 : Value} {x : Int32} {ls sk : List Value} {h : zH} : zrun zpp E 207 (31, v0 :: v1 :: v2 :: v3 :: v4 :: v5 :: .int x :: ls, sk, h) = zrun zpp E 207 (33, v0 :: v1 :: v2 :: v3 :: v4 :: v5 :: .int x :: ls, .int x :: sk, h) := zrun_at rfl
theorem zi207_33 {E : zE} {x : Int32} {ls sk : List Value} {h : zH} : zrun zpp E 207 (33, ls, .int x :: sk, h) = if x < 0 then zrun zpp E 207 (68, ls, sk, h) else zrun zpp E 207 (36, ls, sk, h) := zrun_at rfl
theorem zi207_36 {E : zE} {v0 v1 v2 v3 v4 v5 : Value} {x : Int32} {ls sk : List Value} {h : zH} : zrun zpp E 207 (36, v0 :: v1 :: v2 :: v3 :: v4 :: v5 :: .int x :: ls, sk, h) = zrun zpp E 207 (38, v0 :: v1 :: v2 :: v3 :: v4 :: v5 :: .int x :: ls, .int x :: sk, h) := zrun_at rfl
theorem zi207_38 {E : zE} {x : Nat} {ls sk : List Value} {h : zH} : zrun zpp E 207 (38, .ref x :: ls, sk, h) = zrun zpp E 207 (39, .ref x :: ls, .ref x :: sk, h) := zrun_at rfl
theorem zi207_38n {E : zE} {ls sk : List Value} {h : zH} : zrun zpp E 207 (38, .null :: ls, sk, h) = zrun zpp E 207 (39, .null :: ls, .null :: sk, h) := zrun_at rfl
theorem zi207_39 {E : zE} {x : Nat} {ls sk : List Value} {h : zH} : zrun zpp E 207 (39, ls, .ref x :: sk, h) = (zfld [11] h x 5).bind (fun v => zrun zpp E 207 (42, ls, v :: sk, h)) := zg_getf rfl
theorem zi207_42 {E : zE} {ls sk : List Value} {h : zH} : zrun zpp E 207 (42, ls, sk, h) = zrun zpp E 207 (43, ls, .int 3 :: sk, h) := zg_iconst rfl ci_3
theorem zi207_43 {E : zE} {x : Nat} {i : Int32} {ls sk : List Value} {h : zH} : zrun zpp E 207 (43, ls, .int i :: .ref x :: sk, h) = (zarr 0 h x i).bind (fun v => zrun zpp E 207 (44, ls, .int v :: sk, h)) := zg_iald rfl
theorem zi207_44 {E : zE} {ls sk : List Value} {h : zH} : zrun zpp E 207 (44, ls, sk, h) = zrun zpp E 207 (45, ls, .int 1 :: sk, h) := zg_iconst rfl ci_1
theorem zi207_45 {E : zE} {x y : Int32} {ls sk : List Value} {h : zH} : zrun zpp E 207 (45, ls, .int y :: .int x :: sk, h) = zrun zpp E 207 (46, ls, .int (x - y) :: sk, h) := zrun_at rfl
theorem zi207_46 {E : zE} {x y : Int32} {ls sk : List Value} {h : zH} : zrun zpp E 207 (46, ls, .int y :: .int x :: sk, h) = if y ≤ x then zrun zpp E 207 (68, ls, sk, h) else zrun zpp E 207 (49, ls, sk, h) := zrun_at rfl
theorem zi207_49 {E : zE} {x : Nat} {ls sk : List Value} {h : zH} : zrun zpp E 207 (49, .ref x :: ls, sk, h) = zrun zpp E 207 (50, .ref x :: ls, .ref x :: sk, h) := zrun_at rfl
theorem zi207_49n {E : zE} {ls sk : List Value} {h : zH} : zrun zpp E 207 (49, .null :: ls, sk, h) = zrun zpp E 207 (50, .null :: ls, .null :: sk, h) := zrun_at rfl
theorem zi207_50 {E : zE} {v0 v1 v2 v3 v4 v5 : Value} {x : Int32} {ls sk : List Value} {h : zH} : zrun zpp E 207 (50, v0 :: v1 :: v2 :: v3 :: v4 :: v5 :: .int x :: ls, sk, h) = zrun zpp E 207 (52, v0 :: v1 :: v2 :: v3 :: v4 :: v5 :: .int x :: ls, .int x :: sk, h) := zrun_at rfl
theorem zi207_52 {E : zE} {a0 : Value} {x : Nat} {ls sk : List Value} {h : zH} : zrun zpp E 207 (52, ls, a0 :: .ref x :: sk, h) = (zcls h x).bind (fun d => (zsel d [11, 178]).bind (fun M' => zcl1 E 207 55 M' ls sk [.ref x, a0] h)) := zg_vir (as := [a0]) rfl rfl
theorem zi207_55 {E : zE} {x : Nat} {ls sk : List Value} {h : zH} : zrun zpp E 207 (55, .ref x :: ls, sk, h) = zrun zpp E 207 (56, .ref x :: ls, .ref x :: sk, h) := zrun_at rfl
theorem zi207_55n {E : zE} {ls sk : List Value} {h : zH} : zrun zpp E 207 (55, .null :: ls, sk, h) = zrun zpp E 207 (56, .null :: ls, .null :: sk, h) := zrun_at rfl
theorem zi207_56 {E : zE} {x : Nat} {ls sk : List Value} {h : zH} : zrun zpp E 207 (56, ls, .ref x :: sk, h) = (zfld [11] h x 5).bind (fun v => zrun zpp E 207 (59, ls, v :: sk, h)) := zg_getf rfl
theorem zi207_59 {E : zE} {ls sk : List Value} {h : zH} : zrun zpp E 207 (59, ls, sk, h) = zrun zpp E 207 (60, ls, .int 0 :: sk, h) := zg_iconst rfl ci_0
theorem zi207_60 {E : zE} {x : Nat} {i : Int32} {ls sk : List Value} {h : zH} : zrun zpp E 207 (60, ls, .int i :: .ref x :: sk, h) = (zarr 0 h x i).bind (fun v => zrun zpp E 207 (61, ls, .int v :: sk, h)) := zg_iald rfl
theorem zi207_61 {E : zE} {x y : Int32} {ls sk : List Value} {h : zH} : zrun zpp E 207 (61, ls, .int y :: .int x :: sk, h) = if y < x then zrun zpp E 207 (68, ls, sk, h) else zrun zpp E 207 (64, ls, sk, h) := zrun_at rfl
theorem zi207_64 {E : zE} {ls sk : List Value} {h : zH} : zrun zpp E 207 (64, ls, sk, h) = zrun zpp E 207 (65, ls, .int 1 :: sk, h) := zg_iconst rfl ci_1
theorem zi207_65 {E : zE} {ls sk : List Value} {h : zH} : zrun zpp E 207 (65, ls, sk, h) = zrun zpp E 207 (69, ls, sk, h) := zrun_at rfl
theorem zi207_68 {E : zE} {ls sk : List Value} {h : zH} : zrun zpp E 207 (68, ls, sk, h) = zrun zpp E 207 (69, ls, .int 0 :: sk, h) := zg_iconst rfl ci_0
theorem zi207_69 {E : zE} {x : Int32} {ls sk : List Value} {h : zH} : zrun zpp E 207 (69, ls, .int x :: sk, h) = if zfree ls 5 = true then zrun zpp E 207 (71, ls.set 5 (.int x), sk, h) else none := zg_ist rfl (fun _ _ _ => rfl)
theorem zi207_71 {E : zE} {v0 v1 v2 v3 : Value} {x : Int32} {ls sk : List Value} {h : zH} : zrun zpp E 207 (71, v0 :: v1 :: v2 :: v3 :: .int x :: ls, sk, h) = zrun zpp E 207 (73, v0 :: v1 :: v2 :: v3 :: .int x :: ls, .int x :: sk, h) := zrun_at rfl
theorem zi207_73 {E : zE} {v0 v1 v2 v3 v4 : Value} {x : Int32} {ls sk : List Value} {h : zH} : zrun zpp E 207 (73, v0 :: v1 :: v2 :: v3 :: v4 :: .int x :: ls, sk, h) = zrun zpp E 207 (75, v0 :: v1 :: v2 :: v3 :: v4 :: .int x :: ls, .int x :: sk, h) := zrun_at rfl
theorem zi207_75 {E : zE} {x : Int32} {ls sk : List Value} {h : zH} : zrun zpp E 207 (75, ls, .int x :: sk, h) = if x = 0 then zrun zpp E 207 (91, ls, sk, h) else zrun zpp E 207 (78, ls, sk, h) := zrun_at rfl
theorem zi207_78 {E : zE} {v0 v1 : Value} {x : Int32} {ls sk : List Value} {h : zH} : zrun zpp E 207 (78, v0 :: v1 :: .int x :: ls, sk, h) = zrun zpp E 207 (79, v0 :: v1 :: .int x :: ls, .int x :: sk, h) := zrun_at rfl
theorem zi207_79 {E : zE} {ls sk : List Value} {h : zH} : zrun zpp E 207 (79, ls, sk, h) = zrun zpp E 207 (80, ls, .int 1 :: sk, h) := zg_iconst rfl ci_1
theorem zi207_80 {E : zE} {x y : Int32} {ls sk : List Value} {h : zH} : zrun zpp E 207 (80, ls, .int y :: .int x :: sk, h) = if x = y then zrun zpp E 207 (83, ls, sk, h) else zrun zpp E 207 (87, ls, sk, h) := zrun_at rfl
theorem zi207_83 {E : zE} {ls sk : List Value} {h : zH} : zrun zpp E 207 (83, ls, sk, h) = zrun zpp E 207 (84, ls, .int 1 :: sk, h) := zg_iconst rfl ci_1
theorem zi207_84 {E : zE} {ls sk : List Value} {h : zH} : zrun zpp E 207 (84, ls, sk, h) = zrun zpp E 207 (92, ls, sk, h) := zrun_at rfl
theorem zi207_87 {E : zE} {ls sk : List Value} {h : zH} : zrun zpp E 207 (87, ls, sk, h) = zrun zpp E 207 (88, ls, .int (-1) :: sk, h) := zg_iconst rfl ci_m1
theorem zi207_88 {E : zE} {ls sk : List Value} {h : zH} : zrun zpp E 207 (88, ls, sk, h) = zrun zpp E 207 (92, ls, sk, h) := zrun_at rfl
theorem zi207_91 {E : zE} {ls sk : List Value} {h : zH} : zrun zpp E 207 (91, ls, sk, h) = zrun zpp E 207 (92, ls, .int 0 :: sk, h) := zg_iconst rfl ci_0
theorem zi207_92 {E : zE} {x y : Int32} {ls sk : List Value} {h : zH} : zrun zpp E 207 (92, ls, .int y :: .int x :: sk, h) = zrun zpp E 207 (93, ls, .int (x + y) :: sk, h) := zrun_at rfl
theorem zi207_93 {E : zE} {x : Int32} {ls sk : List Value} {h : zH} : zrun zpp E 207 (93, ls, .int x :: sk, h) = if zfree ls 4 = true then zrun zpp E 207 (95, ls.set 4 (.int x), sk, h) else none := zg_ist rfl (fun _ _ _ => rfl)
theorem zi207_95 {E : zE} {v0 v1 v2 : Value} {x : Int32} {ls sk : List Value} {h : zH} : zrun zpp E 207 (95, v0 :: v1 :: v2 :: .int x :: ls, sk, h) = zrun zpp E 207 (96, v0 :: v1 :: v2 :: .int x :: ls, .int x :: sk, h) := zrun_at rfl
theorem zi207_96 {E : zE} {ls sk : List Value} {h : zH} : zrun zpp E 207 (96, ls, sk, h) = zrun zpp E 207 (97, ls, .int 1 :: sk, h) := zg_iconst rfl ci_1
theorem zi207_97 {E : zE} {v0 v1 v2 v3 : Value} {x : Int32} {ls sk : List Value} {h : zH} : zrun zpp E 207 (97, v0 :: v1 :: v2 :: v3 :: .int x :: ls, sk, h) = zrun zpp E 207 (99, v0 :: v1 :: v2 :: v3 :: .int x :: ls, .int x :: sk, h) := zrun_at rfl
theorem zi207_99 {E : zE} {x y : Int32} {ls sk : List Value} {h : zH} : zrun zpp E 207 (99, ls, .int y :: .int x :: sk, h) = zrun zpp E 207 (100, ls, .int (x <<< (y &&& 31)) :: sk, h) := zrun_at rfl
theorem zi207_100 {E : zE} {x y : Int32} {ls sk : List Value} {h : zH} : zrun zpp E 207 (100, ls, .int y :: .int x :: sk, h) = zrun zpp E 207 (101, ls, .int (x ||| y) :: sk, h) := zrun_at rfl
theorem zi207_101 {E : zE} {x : Int32} {ls sk : List Value} {h : zH} : zrun zpp E 207 (101, ls, .int x :: sk, h) = if zfree ls 3 = true then zrun zpp E 207 (102, ls.set 3 (.int x), sk, h) else none := zg_ist rfl (fun _ _ _ => rfl)
theorem zi207_102 {E : zE} {ls sk : List Value} {h : zH} : zrun zpp E 207 (102, ls, sk, h) = zrun zpp E 207 (10, ls, sk, h) := zrun_at rfl
theorem zi207_105 {E : zE} {v0 v1 v2 : Value} {x : Int32} {ls sk : List Value} {h : zH} : zrun zpp E 207 (105, v0 :: v1 :: v2 :: .int x :: ls, sk, h) = zrun zpp E 207 (106, v0 :: v1 :: v2 :: .int x :: ls, .int x :: sk, h) := zrun_at rfl
theorem zi207_106 {E : zE} {x : Int32} {ls sk : List Value} {h : zH} : zrun zpp E 207 (106, ls, [.int x], h) = some (some (.int x), h) := zrun_at rfl
-- 208 NineDownModel.fell
theorem zi208_0 {E : zE} {x : Nat} {ls sk : List Value} {h : zH} : zrun zpp E 208 (0, .ref x :: ls, sk, h) = zrun zpp E 208 (1, .ref x :: ls, .ref x :: sk, h) := zrun_at rfl
theorem zi208_0n {E : zE} {ls sk : List Value} {h : zH} : zrun zpp E 208 (0, .null :: ls, sk, h) = zrun zpp E 208 (1, .null :: ls, .null :: sk, h) := zrun_at rfl
theorem zi208_1 {E : zE} {ls sk : List Value} {h : zH} : zrun zpp E 208 (1, ls, sk, h) = zrun zpp E 208 (2, ls, .int 0 :: sk, h) := zg_iconst rfl ci_0
theorem zi208_2 {E : zE} {x : Nat} {v : Value} {ls sk : List Value} {h : zH} : zrun zpp E 208 (2, ls, v :: .ref x :: sk, h) = (zstf [11] 0 h x 0 v).bind (fun h' => zrun zpp E 208 (5, ls, sk, h')) := zg_putf rfl
theorem zi208_5 {E : zE} {x : Nat} {ls sk : List Value} {h : zH} : zrun zpp E 208 (5, .ref x :: ls, sk, h) = zrun zpp E 208 (6, .ref x :: ls, .ref x :: sk, h) := zrun_at rfl
theorem zi208_5n {E : zE} {ls sk : List Value} {h : zH} : zrun zpp E 208 (5, .null :: ls, sk, h) = zrun zpp E 208 (6, .null :: ls, .null :: sk, h) := zrun_at rfl
theorem zi208_6 {E : zE} {v0 : Value} {x : Int32} {ls sk : List Value} {h : zH} : zrun zpp E 208 (6, v0 :: .int x :: ls, sk, h) = zrun zpp E 208 (7, v0 :: .int x :: ls, .int x :: sk, h) := zrun_at rfl
theorem zi208_7 {E : zE} {x : Int32} {ls sk : List Value} {h : zH} : zrun zpp E 208 (7, ls, .int x :: sk, h) = zrun zpp E 208 (8, ls, .long x.toInt64 :: sk, h) := zrun_at rfl
theorem zi208_8 {E : zE} {a0 : Value} {x : Nat} {ls sk : List Value} {h : zH} : zrun zpp E 208 (8, ls, a0 :: .ref x :: sk, h) = (zcls h x).bind (fun d => (zsel d [11, 173]).bind (fun M' => zcl1 E 208 11 M' ls sk [.ref x, a0] h)) := zg_vir (as := [a0]) rfl rfl
theorem zi208_11 {E : zE} {x : Int32} {ls sk : List Value} {h : zH} : zrun zpp E 208 (11, ls, .int x :: sk, h) = if x = 0 then zrun zpp E 208 (33, ls, sk, h) else zrun zpp E 208 (14, ls, sk, h) := zrun_at rfl
theorem zi208_14 {E : zE} {v0 v1 : Value} {x : Int32} {ls sk : List Value} {h : zH} : zrun zpp E 208 (14, v0 :: v1 :: .int x :: ls, sk, h) = zrun zpp E 208 (15, v0 :: v1 :: .int x :: ls, .int x :: sk, h) := zrun_at rfl
theorem zi208_15 {E : zE} {x : Int32} {ls sk : List Value} {h : zH} : zrun zpp E 208 (15, ls, .int x :: sk, h) = zrun zpp E 208 (16, ls, .long x.toInt64 :: sk, h) := zrun_at rfl
theorem zi208_16 {E : zE} {ls sk : List Value} {h : zH} : zrun zpp E 208 (16, ls, sk, h) = zrun zpp E 208 (17, ls, .long 0 :: sk, h) := zg_lconst rfl rfl
theorem zi208_17 {E : zE} {ls sk : List Value} {h : zH} : zrun zpp E 208 (17, ls, sk, h) = zrun zpp E 208 (18, ls, .long 1 :: sk, h) := zg_lconst rfl rfl
theorem zi208_18 {E : zE} {a0 a1 a2 : Value} {ls sk : List Value} {h : zH} : zrun zpp E 208 (18, ls, a2 :: a1 :: a0 :: sk, h) = zcl1 E 208 21 149 ls sk [a0, a1, a2] h := zg_inv (as := [a0, a1, a2]) rfl rfl
theorem zi208_21 {E : zE} {x : Int32} {ls sk : List Value} {h : zH} : zrun zpp E 208 (21, ls, .int x :: sk, h) = if x = 0 then zrun zpp E 208 (33, ls, sk, h) else zrun zpp E 208 (24, ls, sk, h) := zrun_at rfl
theorem zi208_24 {E : zE} {x : Nat} {ls sk : List Value} {h : zH} : zrun zpp E 208 (24, .ref x :: ls, sk, h) = zrun zpp E 208 (25, .ref x :: ls, .ref x :: sk, h) := zrun_at rfl
theorem zi208_24n {E : zE} {ls sk : List Value} {h : zH} : zrun zpp E 208 (24, .null :: ls, sk, h) = zrun zpp E 208 (25, .null :: ls, .null :: sk, h) := zrun_at rfl
theorem zi208_25 {E : zE} {v0 : Value} {x : Int32} {ls sk : List Value} {h : zH} : zrun zpp E 208 (25, v0 :: .int x :: ls, sk, h) = zrun zpp E 208 (26, v0 :: .int x :: ls, .int x :: sk, h) := zrun_at rfl
theorem zi208_26 {E : zE} {v0 v1 : Value} {x : Int32} {ls sk : List Value} {h : zH} : zrun zpp E 208 (26, v0 :: v1 :: .int x :: ls, sk, h) = zrun zpp E 208 (27, v0 :: v1 :: .int x :: ls, .int x :: sk, h) := zrun_at rfl
theorem zi208_27 {E : zE} {a0 a1 : Value} {x : Nat} {ls sk : List Value} {h : zH} : zrun zpp E 208 (27, ls, a1 :: a0 :: .ref x :: sk, h) = (zcls h x).bind (fun d => (zsel d [11, 207]).bind (fun M' => zcl1 E 208 30 M' ls sk [.ref x, a0, a1] h)) := zg_vir (as := [a0, a1]) rfl rfl
theorem zi208_30 {E : zE} {ls sk : List Value} {h : zH} : zrun zpp E 208 (30, ls, sk, h) = zrun zpp E 208 (35, ls, sk, h) := zrun_at rfl
theorem zi208_33 {E : zE} {ls sk : List Value} {h : zH} : zrun zpp E 208 (33, ls, sk, h) = zrun zpp E 208 (35, ls, .int (-1000001) :: sk, h) := zg_ldc rfl ci_m1000001
theorem zi208_35 {E : zE} {x : Int32} {ls sk : List Value} {h : zH} : zrun zpp E 208 (35, ls, [.int x], h) = some (some (.int x), h) := zrun_at rfl
-- 209 NineDownModel.first
theorem zi209_0 {E : zE} {x : Nat} {ls sk : List Value} {h : zH} : zrun zpp E 209 (0, .ref x :: ls, sk, h) = zrun zpp E 209 (1, .ref x :: ls, .ref x :: sk, h) := zrun_at rfl
theorem zi209_0n {E : zE} {ls sk : List Value} {h : zH} : zrun zpp E 209 (0, .null :: ls, sk, h) = zrun zpp E 209 (1, .null :: ls, .null :: sk, h) := zrun_at rfl
theorem zi209_1 {E : zE} {ls sk : List Value} {h : zH} : zrun zpp E 209 (1, ls, sk, h) = zrun zpp E 209 (2, ls, .int 0 :: sk, h) := zg_iconst rfl ci_0
theorem zi209_2 {E : zE} {x : Nat} {v : Value} {ls sk : List Value} {h : zH} : zrun zpp E 209 (2, ls, v :: .ref x :: sk, h) = (zstf [11] 0 h x 0 v).bind (fun h' => zrun zpp E 209 (5, ls, sk, h')) := zg_putf rfl
theorem zi209_5 {E : zE} {x : Nat} {ls sk : List Value} {h : zH} : zrun zpp E 209 (5, .ref x :: ls, sk, h) = zrun zpp E 209 (6, .ref x :: ls, .ref x :: sk, h) := zrun_at rfl
theorem zi209_5n {E : zE} {ls sk : List Value} {h : zH} : zrun zpp E 209 (5, .null :: ls, sk, h) = zrun zpp E 209 (6, .null :: ls, .null :: sk, h) := zrun_at rfl
theorem zi209_6 {E : zE} {x : Nat} {ls sk : List Value} {h : zH} : zrun zpp E 209 (6, ls, .ref x :: sk, h) = (zcls h x).bind (fun d => (zsel d [11, 172]).bind (fun M' => zcl1 E 209 9 M' ls sk [.ref x] h)) := zg_vir (as := []) rfl rfl
theorem zi209_9 {E : zE} {x : Int32} {ls sk : List Value} {h : zH} : zrun zpp E 209 (9, ls, .int x :: sk, h) = if x = 0 then zrun zpp E 209 (12, ls, sk, h) else zrun zpp E 209 (15, ls, sk, h) := zrun_at rfl
theorem zi209_12 {E : zE} {ls sk : List Value} {h : zH} : zrun zpp E 209 (12, ls, sk, h) = zrun zpp E 209 (14, ls, .int (-1000002) :: sk, h) := zg_ldc rfl ci_m1000002
theorem zi209_14 {E : zE} {x : Int32} {ls sk : List Value} {h : zH} : zrun zpp E 209 (14, ls, [.int x], h) = some (some (.int x), h) := zrun_at rfl
theorem zi209_15 {E : zE} {v0 : Value} {x : Int32} {ls sk : List Value} {h : zH} : zrun zpp E 209 (15, v0 :: .int x :: ls, sk, h) = zrun zpp E 209 (16, v0 :: .int x :: ls, .int x :: sk, h) := zrun_at rfl
theorem zi209_16 {E : zE} {a0 : Value} {ls sk : List Value} {h : zH} : zrun zpp E 209 (16, ls, a0 :: sk, h) = zcl1 E 209 19 151 ls sk [a0] h := zg_inv (as := [a0]) rfl rfl
theorem zi209_19 {E : zE} {x : Int32} {ls sk : List Value} {h : zH} : zrun zpp E 209 (19, ls, .int x :: sk, h) = if x = 0 then zrun zpp E 209 (22, ls, sk, h) else zrun zpp E 209 (25, ls, sk, h) := zrun_at rfl
theorem zi209_22 {E : zE} {ls sk : List Value} {h : zH} : zrun zpp E 209 (22, ls, sk, h) = zrun zpp E 209 (24, ls, .int (-1000001) :: sk, h) := zg_ldc rfl ci_m1000001
theorem zi209_24 {E : zE} {x : Int32} {ls sk : List Value} {h : zH} : zrun zpp E 209 (24, ls, [.int x], h) = some (some (.int x), h) := zrun_at rfl
theorem zi209_25 {E : zE} {x : Nat} {ls sk : List Value} {h : zH} : zrun zpp E 209 (25, .ref x :: ls, sk, h) = zrun zpp E 209 (26, .ref x :: ls, .ref x :: sk, h) := zrun_at rfl
theorem zi209_25n {E : zE} {ls sk : List Value} {h : zH} : zrun zpp E 209 (25, .null :: ls, sk, h) = zrun zpp E 209 (26, .null :: ls, .null :: sk, h) := zrun_at rfl
theorem zi209_26 {E : zE} {x : Nat} {ls sk : List Value} {h : zH} : zrun zpp E 209 (26, ls, .ref x :: sk, h) = (zfld [11] h x 2).bind (fun v => zrun zpp E 209 (29, ls, v :: sk, h)) := zg_getf rfl
theorem zi209_29 {E : zE} {v0 : Value} {x : Int32} {ls sk : List Value} {h : zH} : zrun zpp E 209 (29, v0 :: .int x :: ls, sk, h) = zrun zpp E 209 (30, v0 :: .int x :: ls, .int x :: sk, h) := zrun_at rfl
theorem zi209_30 {E : zE} {x : Nat} {i : Int32} {ls sk : List Value} {h : zH} : zrun zpp E 209 (30, ls, .int i :: .ref x :: sk, h) = (zarr 0 h x i).bind (fun v => zrun zpp E 209 (31, ls, .int v :: sk, h)) := zg_iald rfl
theorem zi209_31 {E : zE} {x : Int32} {ls sk : List Value} {h : zH} : zrun zpp E 209 (31, ls, .int x :: sk, h) = if 0 ≤ x then zrun zpp E 209 (40, ls, sk, h) else zrun zpp E 209 (34, ls, sk, h) := zrun_at rfl
theorem zi209_34 {E : zE} {x : Nat} {ls sk : List Value} {h : zH} : zrun zpp E 209 (34, .ref x :: ls, sk, h) = zrun zpp E 209 (35, .ref x :: ls, .ref x :: sk, h) := zrun_at rfl
theorem zi209_34n {E : zE} {ls sk : List Value} {h : zH} : zrun zpp E 209 (34, .null :: ls, sk, h) = zrun zpp E 209 (35, .null :: ls, .null :: sk, h) := zrun_at rfl
theorem zi209_35 {E : zE} {ls sk : List Value} {h : zH} : zrun zpp E 209 (35, ls, sk, h) = zrun zpp E 209 (36, ls, .int 1 :: sk, h) := zg_iconst rfl ci_1
theorem zi209_36 {E : zE} {a0 : Value} {x : Nat} {ls sk : List Value} {h : zH} : zrun zpp E 209 (36, ls, a0 :: .ref x :: sk, h) = (zcls h x).bind (fun d => (zsel d [11, 150]).bind (fun M' => zcl1 E 209 39 M' ls sk [.ref x, a0] h)) := zg_vir (as := [a0]) rfl rfl
theorem zi209_39 {E : zE} {x : Int32} {ls sk : List Value} {h : zH} : zrun zpp E 209 (39, ls, [.int x], h) = some (some (.int x), h) := zrun_at rfl
theorem zi209_40 {E : zE} {v0 v1 : Value} {x : Int32} {ls sk : List Value} {h : zH} : zrun zpp E 209 (40, v0 :: v1 :: .int x :: ls, sk, h) = zrun zpp E 209 (41, v0 :: v1 :: .int x :: ls, .int x :: sk, h) := zrun_at rfl
theorem zi209_41 {E : zE} {x : Int32} {ls sk : List Value} {h : zH} : zrun zpp E 209 (41, ls, .int x :: sk, h) = if x < 0 then zrun zpp E 209 (65, ls, sk, h) else zrun zpp E 209 (44, ls, sk, h) := zrun_at rfl
theorem zi209_44 {E : zE} {v0 v1 : Value} {x : Int32} {ls sk : List Value} {h : zH} : zrun zpp E 209 (44, v0 :: v1 :: .int x :: ls, sk, h) = zrun zpp E 209 (45, v0 :: v1 :: .int x :: ls, .int x :: sk, h) := zrun_at rfl
theorem zi209_45 {E : zE} {x : Int32} {ls sk : List Value} {h : zH} : zrun zpp E 209 (45, ls, .int x :: sk, h) = zrun zpp E 209 (46, ls, .long x.toInt64 :: sk, h) := zrun_at rfl
theorem zi209_46 {E : zE} {x : Nat} {ls sk : List Value} {h : zH} : zrun zpp E 209 (46, .ref x :: ls, sk, h) = zrun zpp E 209 (47, .ref x :: ls, .ref x :: sk, h) := zrun_at rfl
theorem zi209_46n {E : zE} {ls sk : List Value} {h : zH} : zrun zpp E 209 (46, .null :: ls, sk, h) = zrun zpp E 209 (47, .null :: ls, .null :: sk, h) := zrun_at rfl
theorem zi209_47 {E : zE} {x : Nat} {ls sk : List Value} {h : zH} : zrun zpp E 209 (47, ls, .ref x :: sk, h) = (zfld [11] h x 5).bind (fun v => zrun zpp E 209 (50, ls, v :: sk, h)) := zg_getf rfl
theorem zi209_50 {E : zE} {ls sk : List Value} {h : zH} : zrun zpp E 209 (50, ls, sk, h) = zrun zpp E 209 (51, ls, .int 3 :: sk, h) := zg_iconst rfl ci_3
theorem zi209_51 {E : zE} {x : Nat} {i : Int32} {ls sk : List Value} {h : zH} : zrun zpp E 209 (51, ls, .int i :: .ref x :: sk, h) = (zarr 0 h x i).bind (fun v => zrun zpp E 209 (52, ls, .int v :: sk, h)) := zg_iald rfl
theorem zi209_52 {E : zE} {x : Int32} {ls sk : List Value} {h : zH} : zrun zpp E 209 (52, ls, .int x :: sk, h) = zrun zpp E 209 (53, ls, .long x.toInt64 :: sk, h) := zrun_at rfl
theorem zi209_53 {E : zE} {x y : Int64} {ls sk : List Value} {h : zH} : zrun zpp E 209 (53, ls, .long y :: .long x :: sk, h) = zrun zpp E 209 (54, ls, .long (x + y) :: sk, h) := zrun_at rfl
theorem zi209_54 {E : zE} {x : Nat} {ls sk : List Value} {h : zH} : zrun zpp E 209 (54, .ref x :: ls, sk, h) = zrun zpp E 209 (55, .ref x :: ls, .ref x :: sk, h) := zrun_at rfl
theorem zi209_54n {E : zE} {ls sk : List Value} {h : zH} : zrun zpp E 209 (54, .null :: ls, sk, h) = zrun zpp E 209 (55, .null :: ls, .null :: sk, h) := zrun_at rfl
theorem zi209_55 {E : zE} {x : Nat} {ls sk : List Value} {h : zH} : zrun zpp E 209 (55, ls, .ref x :: sk, h) = (zfld [11] h x 3).bind (fun v => zrun zpp E 209 (58, ls, v :: sk, h)) := zg_getf rfl
theorem zi209_58 {E : zE} {v0 : Value} {x : Int32} {ls sk : List Value} {h : zH} : zrun zpp E 209 (58, v0 :: .int x :: ls, sk, h) = zrun zpp E 209 (59, v0 :: .int x :: ls, .int x :: sk, h) := zrun_at rfl
theorem zi209_59 {E : zE} {x : Nat} {i : Int32} {ls sk : List Value} {h : zH} : zrun zpp E 209 (59, ls, .int i :: .ref x :: sk, h) = (zarr 0 h x i).bind (fun v => zrun zpp E 209 (60, ls, .int v :: sk, h)) := zg_iald rfl
theorem zi209_60 {E : zE} {x : Int32} {ls sk : List Value} {h : zH} : zrun zpp E 209 (60, ls, .int x :: sk, h) = zrun zpp E 209 (61, ls, .long x.toInt64 :: sk, h) := zrun_at rfl
theorem zi209_61 {E : zE} {x y : Int64} {ls sk : List Value} {h : zH} : zrun zpp E 209 (61, ls, .long y :: .long x :: sk, h) = zrun zpp E 209 (62, ls, .int (lg_cmp x y) :: sk, h) := zrun_at rfl
theorem zi209_62 {E : zE} {x : Int32} {ls sk : List Value} {h : zH} : zrun zpp E 209 (62, ls, .int x :: sk, h) = if x ≤ 0 then zrun zpp E 209 (71, ls, sk, h) else zrun zpp E 209 (65, ls, sk, h) := zrun_at rfl
theorem zi209_65 {E : zE} {x : Nat} {ls sk : List Value} {h : zH} : zrun zpp E 209 (65, .ref x :: ls, sk, h) = zrun zpp E 209 (66, .ref x :: ls, .ref x :: sk, h) := zrun_at rfl
theorem zi209_65n {E : zE} {ls sk : List Value} {h : zH} : zrun zpp E 209 (65, .null :: ls, sk, h) = zrun zpp E 209 (66, .null :: ls, .null :: sk, h) := zrun_at rfl
theorem zi209_66 {E : zE} {ls sk : List Value} {h : zH} : zrun zpp E 209 (66, ls, sk, h) = zrun zpp E 209 (67, ls, .int 2 :: sk, h) := zg_iconst rfl ci_2
theorem zi209_67 {E : zE} {a0 : Value} {x : Nat} {ls sk : List Value} {h : zH} : zrun zpp E 209 (67, ls, a0 :: .ref x :: sk, h) = (zcls h x).bind (fun d => (zsel d [11, 150]).bind (fun M' => zcl1 E 209 70 M' ls sk [.ref x, a0] h)) := zg_vir (as := [a0]) rfl rfl
theorem zi209_70 {E : zE} {x : Int32} {ls sk : List Value} {h : zH} : zrun zpp E 209 (70, ls, [.int x], h) = some (some (.int x), h) := zrun_at rfl
theorem zi209_71 {E : zE} {x : Nat} {ls sk : List Value} {h : zH} : zrun zpp E 209 (71, .ref x :: ls, sk, h) = zrun zpp E 209 (72, .ref x :: ls, .ref x :: sk, h) := zrun_at rfl
theorem zi209_71n {E : zE} {ls sk : List Value} {h : zH} : zrun zpp E 209 (71, .null :: ls, sk, h) = zrun zpp E 209 (72, .null :: ls, .null :: sk, h) := zrun_at rfl
theorem zi209_72 {E : zE} {ls sk : List Value} {h : zH} : zrun zpp E 209 (72, ls, sk, h) = zrun zpp E 209 (73, ls, .int 0 :: sk, h) := zg_iconst rfl ci_0
theorem zi209_73 {E : zE} {x : Nat} {v : Value} {ls sk : List Value} {h : zH} : zrun zpp E 209 (73, ls, v :: .ref x :: sk, h) = (zstf [11] 0 h x 1 v).bind (fun h' => zrun zpp E 209 (76, ls, sk, h')) := zg_putf rfl
theorem zi209_76 {E : zE} {ls sk : List Value} {h : zH} : zrun zpp E 209 (76, ls, sk, h) = zrun zpp E 209 (77, ls, .int 0 :: sk, h) := zg_iconst rfl ci_0
theorem zi209_77 {E : zE} {x : Int32} {ls sk : List Value} {h : zH} : zrun zpp E 209 (77, ls, .int x :: sk, h) = if zfree ls 3 = true then zrun zpp E 209 (78, ls.set 3 (.int x), sk, h) else none := zg_ist rfl (fun _ _ _ => rfl)
theorem zi209_78 {E : zE} {ls sk : List Value} {h : zH} : zrun zpp E 209 (78, ls, sk, h) = zrun zpp E 209 (79, ls, .int 0 :: sk, h) := zg_iconst rfl ci_0
theorem zi209_79 {E : zE} {x : Int32} {ls sk : List Value} {h : zH} : zrun zpp E 209 (79, ls, .int x :: sk, h) = if zfree ls 4 = true then zrun zpp E 209 (81, ls.set 4 (.int x), sk, h) else none := zg_ist rfl (fun _ _ _ => rfl)
theorem zi209_81 {E : zE} {v0 v1 v2 v3 : Value} {x : Int32} {ls sk : List Value} {h : zH} : zrun zpp E 209 (81, v0 :: v1 :: v2 :: v3 :: .int x :: ls, sk, h) = zrun zpp E 209 (83, v0 :: v1 :: v2 :: v3 :: .int x :: ls, .int x :: sk, h) := zrun_at rfl
theorem zi209_83 {E : zE} {ls sk : List Value} {h : zH} : zrun zpp E 209 (83, ls, sk, h) = zrun zpp E 209 (84, ls, .int 2 :: sk, h) := zg_iconst rfl ci_2
theorem zi209_84 {E : zE} {x y : Int32} {ls sk : List Value} {h : zH} : zrun zpp E 209 (84, ls, .int y :: .int x :: sk, h) = if y ≤ x then zrun zpp E 209 (211, ls, sk, h) else zrun zpp E 209 (87, ls, sk, h) := zrun_at rfl
theorem zi209_87 {E : zE} {ls sk : List Value} {h : zH} : zrun zpp E 209 (87, ls, sk, h) = zrun zpp E 209 (88, ls, .int 0 :: sk, h) := zg_iconst rfl ci_0
theorem zi209_88 {E : zE} {x : Int32} {ls sk : List Value} {h : zH} : zrun zpp E 209 (88, ls, .int x :: sk, h) = if zfree ls 5 = true then zrun zpp E 209 (90, ls.set 5 (.int x), sk, h) else none := zg_ist rfl (fun _ _ _ => rfl)
theorem zi209_90 {E : zE} {v0 v1 v2 v3 v4 : Value} {x : Int32} {ls sk : List Value} {h : zH} : zrun zpp E 209 (90, v0 :: v1 :: v2 :: v3 :: v4 :: .int x :: ls, sk, h) = zrun zpp E 209 (92, v0 :: v1 :: v2 :: v3 :: v4 :: .int x :: ls, .int x :: sk, h) := zrun_at rfl
theorem zi209_92 {E : zE} {x : Nat} {ls sk : List Value} {h : zH} : zrun zpp E 209 (92, .ref x :: ls, sk, h) = zrun zpp E 209 (93, .ref x :: ls, .ref x :: sk, h) := zrun_at rfl
theorem zi209_92n {E : zE} {ls sk : List Value} {h : zH} : zrun zpp E 209 (92, .null :: ls, sk, h) = zrun zpp E 209 (93, .null :: ls, .null :: sk, h) := zrun_at rfl
theorem zi209_93 {E : zE} {x : Nat} {ls sk : List Value} {h : zH} : zrun zpp E 209 (93, ls, .ref x :: sk, h) = (zfld [11] h x 5).bind (fun v => zrun zpp E 209 (96, ls, v :: sk, h)) := zg_getf rfl
theorem zi209_96 {E : zE} {ls sk : List Value} {h : zH} : zrun zpp E 209 (96, ls, sk, h) = zrun zpp E 209 (97, ls, .int 3 :: sk, h) := zg_iconst rfl ci_3
theorem zi209_97 {E : zE} {x : Nat} {i : Int32} {ls sk : List Value} {h : zH} : zrun zpp E 209 (97, ls, .int i :: .ref x :: sk, h) = (zarr 0 h x i).bind (fun v => zrun zpp E 209 (98, ls, .int v :: sk, h)) := zg_iald rfl
theorem zi209_98 {E : zE} {x y : Int32} {ls sk : List Value} {h : zH} : zrun zpp E 209 (98, ls, .int y :: .int x :: sk, h) = if y ≤ x then zrun zpp E 209 (205, ls, sk, h) else zrun zpp E 209 (101, ls, sk, h) := zrun_at rfl
theorem zi209_101 {E : zE} {x : Nat} {ls sk : List Value} {h : zH} : zrun zpp E 209 (101, .ref x :: ls, sk, h) = zrun zpp E 209 (102, .ref x :: ls, .ref x :: sk, h) := zrun_at rfl
theorem zi209_101n {E : zE} {ls sk : List Value} {h : zH} : zrun zpp E 209 (101, .null :: ls, sk, h) = zrun zpp E 209 (102, .null :: ls, .null :: sk, h) := zrun_at rfl
theorem zi209_102 {E : zE} {v0 v1 v2 v3 v4 : Value} {x : Int32} {ls sk : List Value} {h : zH} : zrun zpp E 209 (102, v0 :: v1 :: v2 :: v3 :: v4 :: .int x :: ls, sk, h) = zrun zpp E 209 (104, v0 :: v1 :: v2 :: v3 :: v4 :: .int x :: ls, .int x :: sk, h) := zrun_at rfl
theorem zi209_104 {E : zE} {v0 v1 v2 v3 : Value} {x : Int32} {ls sk : List Value} {h : zH} : zrun zpp E 209 (104, v0 :: v1 :: v2 :: v3 :: .int x :: ls, sk, h) = zrun zpp E 209 (106, v0 :: v1 :: v2 :: v3 :: .int x :: ls, .int x :: sk, h) := zrun_at rfl
theorem zi209_106 {E : zE} {a0 a1 : Value} {x : Nat} {ls sk : List Value} {h : zH} : zrun zpp E 209 (106, ls, a1 :: a0 :: .ref x :: sk, h) = (zcls h x).bind (fun d => (zsel d [11, 207]).bind (fun M' => zcl1 E 209 109 M' ls sk [.ref x, a0, a1] h)) := zg_vir (as := [a0, a1]) rfl rfl
theorem zi209_109 {E : zE} {x : Int32} {ls sk : List Value} {h : zH} : zrun zpp E 209 (109, ls, .int x :: sk, h) = if zfree ls 6 = true then zrun zpp E 209 (111, ls.set 6 (.int x), sk, h) else none := zg_ist rfl (fun _ _ _ => rfl)
theorem zi209_111 {E : zE} {ls sk : List Value} {h : zH} : zrun zpp E 209 (111, ls, sk, h) = zrun zpp E 209 (112, ls, .int 1 :: sk, h) := zg_iconst rfl ci_1
theorem zi209_112 {E : zE} {x : Int32} {ls sk : List Value} {h : zH} : zrun zpp E 209 (112, ls, .int x :: sk, h) = if zfree ls 7 = true then zrun zpp E 209 (114, ls.set 7 (.int x), sk, h) else none := zg_ist rfl (fun _ _ _ => rfl)
theorem zi209_114 {E : zE} {ls sk : List Value} {h : zH} : zrun zpp E 209 (114, ls, sk, h) = zrun zpp E 209 (115, ls, .int 0 :: sk, h) := zg_iconst rfl ci_0
theorem zi209_115 {E : zE} {x : Int32} {ls sk : List Value} {h : zH} : zrun zpp E 209 (115, ls, .int x :: sk, h) = if zfree ls 8 = true then zrun zpp E 209 (117, ls.set 8 (.int x), sk, h) else none := zg_ist rfl (fun _ _ _ => rfl)
theorem zi209_117 {E : zE} {v0 v1 v2 v3 v4 v5 v6 v7 : Value} {x : Int32} {ls sk : List Value} {h : zH} : zrun zpp E 209 (117, v0 :: v1 :: v2 :: v3 :: v4 :: v5 :: v6 :: v7 :: .int x :: ls, sk, h) = zrun zpp E 209 (119, v0 :: v1 :: v2 :: v3 :: v4 :: v5 :: v6 :: v7 :: .int x :: ls, .int x :: sk, h) := zrun_at rfl
theorem zi209_119 {E : zE} {x : Nat} {ls sk : List Value} {h : zH} : zrun zpp E 209 (119, .ref x :: ls, sk, h) = zrun zpp E 209 (120, .ref x :: ls, .ref x :: sk, h) := zrun_at rfl
theorem zi209_119n {E : zE} {ls sk : List Value} {h : zH} : zrun zpp E 209 (119, .null :: ls, sk, h) = zrun zpp E 209 (120, .null :: ls, .null :: sk, h) := zrun_at rfl
theorem zi209_120 {E : zE} {x : Nat} {ls sk : List Value} {h : zH} : zrun zpp E 209 (120, ls, .ref x :: sk, h) = (zfld [11] h x 5).bind (fun v => zrun zpp E 209 (123, ls, v :: sk, h)) := zg_getf rfl
theorem zi209_123 {E : zE} {ls sk : List Value} {h : zH} : zrun zpp E 209 (123, ls, sk, h) = zrun zpp E 209 (124, ls, .int 3 :: sk, h) := zg_iconst rfl ci_3
theorem zi209_124 {E : zE} {x : Nat} {i : Int32} {ls sk : List Value} {h : zH} : zrun zpp E 209 (124, ls, .int i :: .ref x :: sk, h) = (zarr 0 h x i).bind (fun v => zrun zpp E 209 (125, ls, .int v :: sk, h)) := zg_iald rfl
theorem zi209_125 {E : zE} {x y : Int32} {ls sk : List Value} {h : zH} : zrun zpp E 209 (125, ls, .int y :: .int x :: sk, h) = if y ≤ x then zrun zpp E 209 (170, ls, sk, h) else zrun zpp E 209 (128, ls, sk, h) := zrun_at rfl
theorem zi209_128 {E : zE} {v0 v1 v2 v3 v4 v5 v6 : Value} {x : Int32} {ls sk : List Value} {h : zH} : zrun zpp E 209 (128, v0 :: v1 :: v2 :: v3 :: v4 :: v5 :: v6 :: .int x :: ls, sk, h) = zrun zpp E 209 (130, v0 :: v1 :: v2 :: v3 :: v4 :: v5 :: v6 :: .int x :: ls, .int x :: sk, h) := zrun_at rfl
theorem zi209_130 {E : zE} {x : Int32} {ls sk : List Value} {h : zH} : zrun zpp E 209 (130, ls, .int x :: sk, h) = if x = 0 then zrun zpp E 209 (161, ls, sk, h) else zrun zpp E 209 (133, ls, sk, h) := zrun_at rfl
theorem zi209_133 {E : zE} {x : Nat} {ls sk : List Value} {h : zH} : zrun zpp E 209 (133, .ref x :: ls, sk, h) = zrun zpp E 209 (134, .ref x :: ls, .ref x :: sk, h) := zrun_at rfl
theorem zi209_133n {E : zE} {ls sk : List Value} {h : zH} : zrun zpp E 209 (133, .null :: ls, sk, h) = zrun zpp E 209 (134, .null :: ls, .null :: sk, h) := zrun_at rfl
theorem zi209_134 {E : zE} {x : Nat} {ls sk : List Value} {h : zH} : zrun zpp E 209 (134, ls, .ref x :: sk, h) = (zfld [11] h x 4).bind (fun v => zrun zpp E 209 (137, ls, v :: sk, h)) := zg_getf rfl
theorem zi209_137 {E : zE} {ls sk : List Value} {h : zH} : zrun zpp E 209 (137, ls, sk, h) = zrun zpp E 209 (139, ls, .int 40 :: sk, h) := zg_bipush rfl ci_40
theorem zi209_139 {E : zE} {v0 : Value} {x : Int32} {ls sk : List Value} {h : zH} : zrun zpp E 209 (139, v0 :: .int x :: ls, sk, h) = zrun zpp E 209 (140, v0 :: .int x :: ls, .int x :: sk, h) := zrun_at rfl
theorem zi209_140 {E : zE} {x y : Int32} {ls sk : List Value} {h : zH} : zrun zpp E 209 (140, ls, .int y :: .int x :: sk, h) = zrun zpp E 209 (141, ls, .int (x * y) :: sk, h) := zrun_at rfl
theorem zi209_141 {E : zE} {v0 v1 : Value} {x : Int32} {ls sk : List Value} {h : zH} : zrun zpp E 209 (141, v0 :: v1 :: .int x :: ls, sk, h) = zrun zpp E 209 (142, v0 :: v1 :: .int x :: ls, .int x :: sk, h) := zrun_at rfl
theorem zi209_142 {E : zE} {x y : Int32} {ls sk : List Value} {h : zH} : zrun zpp E 209 (142, ls, .int y :: .int x :: sk, h) = zrun zpp E 209 (143, ls, .int (x + y) :: sk, h) := zrun_at rfl
theorem zi209_143 {E : zE} {v0 v1 v2 v3 v4 v5 v6 v7 : Value} {x : Int32} {ls sk : List Value} {h : zH} : zrun zpp E 209 (143, v0 :: v1 :: v2 :: v3 :: v4 :: v5 :: v6 :: v7 :: .int x :: ls, sk, h) = zrun zpp E 209 (145, v0 :: v1 :: v2 :: v3 :: v4 :: v5 :: v6 :: v7 :: .int x :: ls, .int x :: sk, h) := zrun_at rfl
theorem zi209_145 {E : zE} {x y : Int32} {ls sk : List Value} {h : zH} : zrun zpp E 209 (145, ls, .int y :: .int x :: sk, h) = zrun zpp E 209 (146, ls, .int (x + y) :: sk, h) := zrun_at rfl
theorem zi209_146 {E : zE} {x : Nat} {i : Int32} {ls sk : List Value} {h : zH} : zrun zpp E 209 (146, ls, .int i :: .ref x :: sk, h) = (zarr 0 h x i).bind (fun v => zrun zpp E 209 (147, ls, .int v :: sk, h)) := zg_iald rfl
theorem zi209_147 {E : zE} {v0 v1 v2 v3 v4 v5 : Value} {x : Int32} {ls sk : List Value} {h : zH} : zrun zpp E 209 (147, v0 :: v1 :: v2 :: v3 :: v4 :: v5 :: .int x :: ls, sk, h) = zrun zpp E 209 (149, v0 :: v1 :: v2 :: v3 :: v4 :: v5 :: .int x :: ls, .int x :: sk, h) := zrun_at rfl
theorem zi209_149 {E : zE} {v0 v1 v2 v3 v4 v5 v6 v7 : Value} {x : Int32} {ls sk : List Value} {h : zH} : zrun zpp E 209 (149, v0 :: v1 :: v2 :: v3 :: v4 :: v5 :: v6 :: v7 :: .int x :: ls, sk, h) = zrun zpp E 209 (151, v0 :: v1 :: v2 :: v3 :: v4 :: v5 :: v6 :: v7 :: .int x :: ls, .int x :: sk, h) := zrun_at rfl
theorem zi209_151 {E : zE} {x y : Int32} {ls sk : List Value} {h : zH} : zrun zpp E 209 (151, ls, .int y :: .int x :: sk, h) = zrun zpp E 209 (152, ls, .int (x >>> (y &&& 31)) :: sk, h) := zrun_at rfl
theorem zi209_152 {E : zE} {ls sk : List Value} {h : zH} : zrun zpp E 209 (152, ls, sk, h) = zrun zpp E 209 (153, ls, .int 1 :: sk, h) := zg_iconst rfl ci_1
theorem zi209_153 {E : zE} {x y : Int32} {ls sk : List Value} {h : zH} : zrun zpp E 209 (153, ls, .int y :: .int x :: sk, h) = zrun zpp E 209 (154, ls, .int (x &&& y) :: sk, h) := zrun_at rfl
theorem zi209_154 {E : zE} {x y : Int32} {ls sk : List Value} {h : zH} : zrun zpp E 209 (154, ls, .int y :: .int x :: sk, h) = if x = y then zrun zpp E 209 (157, ls, sk, h) else zrun zpp E 209 (161, ls, sk, h) := zrun_at rfl
theorem zi209_157 {E : zE} {ls sk : List Value} {h : zH} : zrun zpp E 209 (157, ls, sk, h) = zrun zpp E 209 (158, ls, .int 1 :: sk, h) := zg_iconst rfl ci_1
theorem zi209_158 {E : zE} {ls sk : List Value} {h : zH} : zrun zpp E 209 (158, ls, sk, h) = zrun zpp E 209 (162, ls, sk, h) := zrun_at rfl
theorem zi209_161 {E : zE} {ls sk : List Value} {h : zH} : zrun zpp E 209 (161, ls, sk, h) = zrun zpp E 209 (162, ls, .int 0 :: sk, h) := zg_iconst rfl ci_0
theorem zi209_162 {E : zE} {x : Int32} {ls sk : List Value} {h : zH} : zrun zpp E 209 (162, ls, .int x :: sk, h) = if zfree ls 7 = true then zrun zpp E 209 (164, ls.set 7 (.int x), sk, h) else none := zg_ist rfl (fun _ _ _ => rfl)
theorem zi209_164 {E : zE} {v0 v1 v2 v3 v4 v5 v6 v7 : Value} {x : Int32} {ls sk : List Value} {h : zH} : zrun zpp E 209 (164, v0 :: v1 :: v2 :: v3 :: v4 :: v5 :: v6 :: v7 :: .int x :: ls, sk, h) = if zfree (v0 :: v1 :: v2 :: v3 :: v4 :: v5 :: v6 :: v7 :: .int x :: ls) 8 = true then zrun zpp E 209 (167, v0 :: v1 :: v2 :: v3 :: v4 :: v5 :: v6 :: v7 :: .int (x + 1) :: ls, sk, h) else none := by rw [← ci_1]; exact zrun_at rfl
theorem zi209_167 {E : zE} {ls sk : List Value} {h : zH} : zrun zpp E 209 (167, ls, sk, h) = zrun zpp E 209 (117, ls, sk, h) := zrun_at rfl
theorem zi209_170 {E : zE} {v0 v1 v2 : Value} {x : Int32} {ls sk : List Value} {h : zH} : zrun zpp E 209 (170, v0 :: v1 :: v2 :: .int x :: ls, sk, h) = zrun zpp E 209 (171, v0 :: v1 :: v2 :: .int x :: ls, .int x :: sk, h) := zrun_at rfl
theorem zi209_171 {E : zE} {v0 v1 v2 v3 v4 v5 v6 : Value} {x : Int32} {ls sk : List Value} {h : zH} : zrun zpp E 209 (171, v0 :: v1 :: v2 :: v3 :: v4 :: v5 :: v6 :: .int x :: ls, sk, h) = zrun zpp E 209 (173, v0 :: v1 :: v2 :: v3 :: v4 :: v5 :: v6 :: .int x :: ls, .int x :: sk, h) := zrun_at rfl
theorem zi209_173 {E : zE} {x : Int32} {ls sk : List Value} {h : zH} : zrun zpp E 209 (173, ls, .int x :: sk, h) = if x = 0 then zrun zpp E 209 (196, ls, sk, h) else zrun zpp E 209 (176, ls, sk, h) := zrun_at rfl
theorem zi209_176 {E : zE} {ls sk : List Value} {h : zH} : zrun zpp E 209 (176, ls, sk, h) = zrun zpp E 209 (177, ls, .int 1 :: sk, h) := zg_iconst rfl ci_1
theorem zi209_177 {E : zE} {v0 v1 v2 v3 v4 : Value} {x : Int32} {ls sk : List Value} {h : zH} : zrun zpp E 209 (177, v0 :: v1 :: v2 :: v3 :: v4 :: .int x :: ls, sk, h) = zrun zpp E 209 (179, v0 :: v1 :: v2 :: v3 :: v4 :: .int x :: ls, .int x :: sk, h) := zrun_at rfl
theorem zi209_179 {E : zE} {v0 v1 v2 v3 : Value} {x : Int32} {ls sk : List Value} {h : zH} : zrun zpp E 209 (179, v0 :: v1 :: v2 :: v3 :: .int x :: ls, sk, h) = zrun zpp E 209 (181, v0 :: v1 :: v2 :: v3 :: .int x :: ls, .int x :: sk, h) := zrun_at rfl
theorem zi209_181 {E : zE} {ls sk : List Value} {h : zH} : zrun zpp E 209 (181, ls, sk, h) = zrun zpp E 209 (182, ls, .int 1 :: sk, h) := zg_iconst rfl ci_1
theorem zi209_182 {E : zE} {x y : Int32} {ls sk : List Value} {h : zH} : zrun zpp E 209 (182, ls, .int y :: .int x :: sk, h) = if x = y then zrun zpp E 209 (185, ls, sk, h) else zrun zpp E 209 (189, ls, sk, h) := zrun_at rfl
theorem zi209_185 {E : zE} {ls sk : List Value} {h : zH} : zrun zpp E 209 (185, ls, sk, h) = zrun zpp E 209 (186, ls, .int 0 :: sk, h) := zg_iconst rfl ci_0
theorem zi209_186 {E : zE} {ls sk : List Value} {h : zH} : zrun zpp E 209 (186, ls, sk, h) = zrun zpp E 209 (191, ls, sk, h) := zrun_at rfl
theorem zi209_189 {E : zE} {ls sk : List Value} {h : zH} : zrun zpp E 209 (189, ls, sk, h) = zrun zpp E 209 (191, ls, .int 8 :: sk, h) := zg_bipush rfl ci_8
theorem zi209_191 {E : zE} {x y : Int32} {ls sk : List Value} {h : zH} : zrun zpp E 209 (191, ls, .int y :: .int x :: sk, h) = zrun zpp E 209 (192, ls, .int (x + y) :: sk, h) := zrun_at rfl
theorem zi209_192 {E : zE} {x y : Int32} {ls sk : List Value} {h : zH} : zrun zpp E 209 (192, ls, .int y :: .int x :: sk, h) = zrun zpp E 209 (193, ls, .int (x <<< (y &&& 31)) :: sk, h) := zrun_at rfl
theorem zi209_193 {E : zE} {ls sk : List Value} {h : zH} : zrun zpp E 209 (193, ls, sk, h) = zrun zpp E 209 (197, ls, sk, h) := zrun_at rfl
theorem zi209_196 {E : zE} {ls sk : List Value} {h : zH} : zrun zpp E 209 (196, ls, sk, h) = zrun zpp E 209 (197, ls, .int 0 :: sk, h) := zg_iconst rfl ci_0
theorem zi209_197 {E : zE} {x y : Int32} {ls sk : List Value} {h : zH} : zrun zpp E 209 (197, ls, .int y :: .int x :: sk, h) = zrun zpp E 209 (198, ls, .int (x ||| y) :: sk, h) := zrun_at rfl
theorem zi209_198 {E : zE} {x : Int32} {ls sk : List Value} {h : zH} : zrun zpp E 209 (198, ls, .int x :: sk, h) = if zfree ls 3 = true then zrun zpp E 209 (199, ls.set 3 (.int x), sk, h) else none := zg_ist rfl (fun _ _ _ => rfl)
theorem zi209_199 {E : zE} {v0 v1 v2 v3 v4 : Value} {x : Int32} {ls sk : List Value} {h : zH} : zrun zpp E 209 (199, v0 :: v1 :: v2 :: v3 :: v4 :: .int x :: ls, sk, h) = if zfree (v0 :: v1 :: v2 :: v3 :: v4 :: .int x :: ls) 5 = true then zrun zpp E 209 (202, v0 :: v1 :: v2 :: v3 :: v4 :: .int (x + 1) :: ls, sk, h) else none := by rw [← ci_1]; exact zrun_at rfl
theorem zi209_202 {E : zE} {ls sk : List Value} {h : zH} : zrun zpp E 209 (202, ls, sk, h) = zrun zpp E 209 (90, ls, sk, h) := zrun_at rfl
theorem zi209_205 {E : zE} {v0 v1 v2 v3 : Value} {x : Int32} {ls sk : List Value} {h : zH} : zrun zpp E 209 (205, v0 :: v1 :: v2 :: v3 :: .int x :: ls, sk, h) = if zfree (v0 :: v1 :: v2 :: v3 :: .int x :: ls) 4 = true then zrun zpp E 209 (208, v0 :: v1 :: v2 :: v3 :: .int (x + 1) :: ls, sk, h) else none := by rw [← ci_1]; exact zrun_at rfl
theorem zi209_208 {E : zE} {ls sk : List Value} {h : zH} : zrun zpp E 209 (208, ls, sk, h) = zrun zpp E 209 (81, ls, sk, h) := zrun_at rfl
theorem zi209_211 {E : zE} {v0 v1 v2 : Value} {x : Int32} {ls sk : List Value} {h : zH} : zrun zpp E 209 (211, v0 :: v1 :: v2 :: .int x :: ls, sk, h) = zrun zpp E 209 (212, v0 :: v1 :: v2 :: .int x :: ls, .int x :: sk, h) := zrun_at rfl
theorem zi209_212 {E : zE} {x : Int32} {ls sk : List Value} {h : zH} : zrun zpp E 209 (212, ls, [.int x], h) = some (some (.int x), h) := zrun_at rfl
-- 210 NineDownModel.longest
theorem zi210_0 {E : zE} {ls sk : List Value} {h : zH} : zrun zpp E 210 (0, ls, sk, h) = zrun zpp E 210 (1, ls, .int 1 :: sk, h) := zg_iconst rfl ci_1
theorem zi210_1 {E : zE} {x : Int32} {ls sk : List Value} {h : zH} : zrun zpp E 210 (1, ls, .int x :: sk, h) = if zfree ls 2 = true then zrun zpp E 210 (2, ls.set 2 (.int x), sk, h) else none := zg_ist rfl (fun _ _ _ => rfl)
theorem zi210_2 {E : zE} {ls sk : List Value} {h : zH} : zrun zpp E 210 (2, ls, sk, h) = zrun zpp E 210 (3, ls, .int 1 :: sk, h) := zg_iconst rfl ci_1
theorem zi210_3 {E : zE} {x : Int32} {ls sk : List Value} {h : zH} : zrun zpp E 210 (3, ls, .int x :: sk, h) = if zfree ls 3 = true then zrun zpp E 210 (4, ls.set 3 (.int x), sk, h) else none := zg_ist rfl (fun _ _ _ => rfl)
theorem zi210_4 {E : zE} {ls sk : List Value} {h : zH} : zrun zpp E 210 (4, ls, sk, h) = zrun zpp E 210 (5, ls, .int 0 :: sk, h) := zg_iconst rfl ci_0
theorem zi210_5 {E : zE} {x : Int32} {ls sk : List Value} {h : zH} : zrun zpp E 210 (5, ls, .int x :: sk, h) = if zfree ls 4 = true then zrun zpp E 210 (7, ls.set 4 (.int x), sk, h) else none := zg_ist rfl (fun _ _ _ => rfl)
theorem zi210_7 {E : zE} {v0 v1 v2 v3 : Value} {x : Int32} {ls sk : List Value} {h : zH} : zrun zpp E 210 (7, v0 :: v1 :: v2 :: v3 :: .int x :: ls, sk, h) = zrun zpp E 210 (9, v0 :: v1 :: v2 :: v3 :: .int x :: ls, .int x :: sk, h) := zrun_at rfl
theorem zi210_9 {E : zE} {x : Nat} {ls sk : List Value} {h : zH} : zrun zpp E 210 (9, .ref x :: ls, sk, h) = zrun zpp E 210 (10, .ref x :: ls, .ref x :: sk, h) := zrun_at rfl
theorem zi210_9n {E : zE} {ls sk : List Value} {h : zH} : zrun zpp E 210 (9, .null :: ls, sk, h) = zrun zpp E 210 (10, .null :: ls, .null :: sk, h) := zrun_at rfl
theorem zi210_10 {E : zE} {x : Nat} {ls sk : List Value} {h : zH} : zrun zpp E 210 (10, ls, .ref x :: sk, h) = (zfld [11] h x 5).bind (fun v => zrun zpp E 210 (13, ls, v :: sk, h)) := zg_getf rfl
theorem zi210_13 {E : zE} {ls sk : List Value} {h : zH} : zrun zpp E 210 (13, ls, sk, h) = zrun zpp E 210 (14, ls, .int 3 :: sk, h) := zg_iconst rfl ci_3
theorem zi210_14 {E : zE} {x : Nat} {i : Int32} {ls sk : List Value} {h : zH} : zrun zpp E 210 (14, ls, .int i :: .ref x :: sk, h) = (zarr 0 h x i).bind (fun v => zrun zpp E 210 (15, ls, .int v :: sk, h)) := zg_iald rfl
theorem zi210_15 {E : zE} {ls sk : List Value} {h : zH} : zrun zpp E 210 (15, ls, sk, h) = zrun zpp E 210 (16, ls, .int 1 :: sk, h) := zg_iconst rfl ci_1
theorem zi210_16 {E : zE} {x y : Int32} {ls sk : List Value} {h : zH} : zrun zpp E 210 (16, ls, .int y :: .int x :: sk, h) = zrun zpp E 210 (17, ls, .int (x - y) :: sk, h) := zrun_at rfl
theorem zi210_17 {E : zE} {x y : Int32} {ls sk : List Value} {h : zH} : zrun zpp E 210 (17, ls, .int y :: .int x :: sk, h) = if y ≤ x then zrun zpp E 210 (69, ls, sk, h) else zrun zpp E 210 (20, ls, sk, h) := zrun_at rfl
theorem zi210_20 {E : zE} {x : Nat} {ls sk : List Value} {h : zH} : zrun zpp E 210 (20, .ref x :: ls, sk, h) = zrun zpp E 210 (21, .ref x :: ls, .ref x :: sk, h) := zrun_at rfl
theorem zi210_20n {E : zE} {ls sk : List Value} {h : zH} : zrun zpp E 210 (20, .null :: ls, sk, h) = zrun zpp E 210 (21, .null :: ls, .null :: sk, h) := zrun_at rfl
theorem zi210_21 {E : zE} {v0 v1 v2 v3 : Value} {x : Int32} {ls sk : List Value} {h : zH} : zrun zpp E 210 (21, v0 :: v1 :: v2 :: v3 :: .int x :: ls, sk, h) = zrun zpp E 210 (23, v0 :: v1 :: v2 :: v3 :: .int x :: ls, .int x :: sk, h) := zrun_at rfl
theorem zi210_23 {E : zE} {a0 : Value} {x : Nat} {ls sk : List Value} {h : zH} : zrun zpp E 210 (23, ls, a0 :: .ref x :: sk, h) = (zcls h x).bind (fun d => (zsel d [11, 178]).bind (fun M' => zcl1 E 210 26 M' ls sk [.ref x, a0] h)) := zg_vir (as := [a0]) rfl rfl
theorem zi210_26 {E : zE} {x : Nat} {ls sk : List Value} {h : zH} : zrun zpp E 210 (26, .ref x :: ls, sk, h) = zrun zpp E 210 (27, .ref x :: ls, .ref x :: sk, h) := zrun_at rfl
theorem zi210_26n {E : zE} {ls sk : List Value} {h : zH} : zrun zpp E 210 (26, .null :: ls, sk, h) = zrun zpp E 210 (27, .null :: ls, .null :: sk, h) := zrun_at rfl
theorem zi210_27 {E : zE} {x : Nat} {ls sk : List Value} {h : zH} : zrun zpp E 210 (27, ls, .ref x :: sk, h) = (zfld [11] h x 5).bind (fun v => zrun zpp E 210 (30, ls, v :: sk, h)) := zg_getf rfl
theorem zi210_30 {E : zE} {ls sk : List Value} {h : zH} : zrun zpp E 210 (30, ls, sk, h) = zrun zpp E 210 (31, ls, .int 0 :: sk, h) := zg_iconst rfl ci_0
theorem zi210_31 {E : zE} {x : Nat} {i : Int32} {ls sk : List Value} {h : zH} : zrun zpp E 210 (31, ls, .int i :: .ref x :: sk, h) = (zarr 0 h x i).bind (fun v => zrun zpp E 210 (32, ls, .int v :: sk, h)) := zg_iald rfl
theorem zi210_32 {E : zE} {x y : Int32} {ls sk : List Value} {h : zH} : zrun zpp E 210 (32, ls, .int y :: .int x :: sk, h) = if y < x then zrun zpp E 210 (50, ls, sk, h) else zrun zpp E 210 (35, ls, sk, h) := zrun_at rfl
theorem zi210_35 {E : zE} {v0 : Value} {x : Int32} {ls sk : List Value} {h : zH} : zrun zpp E 210 (35, v0 :: .int x :: ls, sk, h) = zrun zpp E 210 (36, v0 :: .int x :: ls, .int x :: sk, h) := zrun_at rfl
theorem zi210_36 {E : zE} {v0 v1 v2 v3 : Value} {x : Int32} {ls sk : List Value} {h : zH} : zrun zpp E 210 (36, v0 :: v1 :: v2 :: v3 :: .int x :: ls, sk, h) = zrun zpp E 210 (38, v0 :: v1 :: v2 :: v3 :: .int x :: ls, .int x :: sk, h) := zrun_at rfl
theorem zi210_38 {E : zE} {a0 a1 : Value} {ls sk : List Value} {h : zH} : zrun zpp E 210 (38, ls, a1 :: a0 :: sk, h) = zcl1 E 210 41 181 ls sk [a0, a1] h := zg_inv (as := [a0, a1]) rfl rfl
theorem zi210_41 {E : zE} {x : Int32} {ls sk : List Value} {h : zH} : zrun zpp E 210 (41, ls, .int x :: sk, h) = if x = 0 then zrun zpp E 210 (44, ls, sk, h) else zrun zpp E 210 (50, ls, sk, h) := zrun_at rfl
theorem zi210_44 {E : zE} {v0 v1 v2 : Value} {x : Int32} {ls sk : List Value} {h : zH} : zrun zpp E 210 (44, v0 :: v1 :: v2 :: .int x :: ls, sk, h) = zrun zpp E 210 (45, v0 :: v1 :: v2 :: .int x :: ls, .int x :: sk, h) := zrun_at rfl
theorem zi210_45 {E : zE} {ls sk : List Value} {h : zH} : zrun zpp E 210 (45, ls, sk, h) = zrun zpp E 210 (46, ls, .int 1 :: sk, h) := zg_iconst rfl ci_1
theorem zi210_46 {E : zE} {x y : Int32} {ls sk : List Value} {h : zH} : zrun zpp E 210 (46, ls, .int y :: .int x :: sk, h) = zrun zpp E 210 (47, ls, .int (x + y) :: sk, h) := zrun_at rfl
theorem zi210_47 {E : zE} {ls sk : List Value} {h : zH} : zrun zpp E 210 (47, ls, sk, h) = zrun zpp E 210 (51, ls, sk, h) := zrun_at rfl
theorem zi210_50 {E : zE} {ls sk : List Value} {h : zH} : zrun zpp E 210 (50, ls, sk, h) = zrun zpp E 210 (51, ls, .int 1 :: sk, h) := zg_iconst rfl ci_1
theorem zi210_51 {E : zE} {x : Int32} {ls sk : List Value} {h : zH} : zrun zpp E 210 (51, ls, .int x :: sk, h) = if zfree ls 3 = true then zrun zpp E 210 (52, ls.set 3 (.int x), sk, h) else none := zg_ist rfl (fun _ _ _ => rfl)
theorem zi210_52 {E : zE} {v0 v1 v2 : Value} {x : Int32} {ls sk : List Value} {h : zH} : zrun zpp E 210 (52, v0 :: v1 :: v2 :: .int x :: ls, sk, h) = zrun zpp E 210 (53, v0 :: v1 :: v2 :: .int x :: ls, .int x :: sk, h) := zrun_at rfl
theorem zi210_53 {E : zE} {v0 v1 : Value} {x : Int32} {ls sk : List Value} {h : zH} : zrun zpp E 210 (53, v0 :: v1 :: .int x :: ls, sk, h) = zrun zpp E 210 (54, v0 :: v1 :: .int x :: ls, .int x :: sk, h) := zrun_at rfl
theorem zi210_54 {E : zE} {x y : Int32} {ls sk : List Value} {h : zH} : zrun zpp E 210 (54, ls, .int y :: .int x :: sk, h) = if x ≤ y then zrun zpp E 210 (61, ls, sk, h) else zrun zpp E 210 (57, ls, sk, h) := zrun_at rfl
theorem zi210_57 {E : zE} {v0 v1 v2 : Value} {x : Int32} {ls sk : List Value} {h : zH} : zrun zpp E 210 (57, v0 :: v1 :: v2 :: .int x :: ls, sk, h) = zrun zpp E 210 (58, v0 :: v1 :: v2 :: .int x :: ls, .int x :: sk, h) := zrun_at rfl
theorem zi210_58 {E : zE} {ls sk : List Value} {h : zH} : zrun zpp E 210 (58, ls, sk, h) = zrun zpp E 210 (62, ls, sk, h) := zrun_at rfl
theorem zi210_61 {E : zE} {v0 v1 : Value} {x : Int32} {ls sk : List Value} {h : zH} : zrun zpp E 210 (61, v0 :: v1 :: .int x :: ls, sk, h) = zrun zpp E 210 (62, v0 :: v1 :: .int x :: ls, .int x :: sk, h) := zrun_at rfl
theorem zi210_62 {E : zE} {x : Int32} {ls sk : List Value} {h : zH} : zrun zpp E 210 (62, ls, .int x :: sk, h) = if zfree ls 2 = true then zrun zpp E 210 (63, ls.set 2 (.int x), sk, h) else none := zg_ist rfl (fun _ _ _ => rfl)
theorem zi210_63 {E : zE} {v0 v1 v2 v3 : Value} {x : Int32} {ls sk : List Value} {h : zH} : zrun zpp E 210 (63, v0 :: v1 :: v2 :: v3 :: .int x :: ls, sk, h) = if zfree (v0 :: v1 :: v2 :: v3 :: .int x :: ls) 4 = true then zrun zpp E 210 (66, v0 :: v1 :: v2 :: v3 :: .int (x + 1) :: ls, sk, h) else none := by rw [← ci_1]; exact zrun_at rfl
theorem zi210_66 {E : zE} {ls sk : List Value} {h : zH} : zrun zpp E 210 (66, ls, sk, h) = zrun zpp E 210 (7, ls, sk, h) := zrun_at rfl
theorem zi210_69 {E : zE} {v0 v1 : Value} {x : Int32} {ls sk : List Value} {h : zH} : zrun zpp E 210 (69, v0 :: v1 :: .int x :: ls, sk, h) = zrun zpp E 210 (70, v0 :: v1 :: .int x :: ls, .int x :: sk, h) := zrun_at rfl
theorem zi210_70 {E : zE} {x : Int32} {ls sk : List Value} {h : zH} : zrun zpp E 210 (70, ls, [.int x], h) = some (some (.int x), h) := zrun_at rfl
-- 211 NineDownModel.widen
theorem zi211_0 {E : zE} {x : Nat} {ls sk : List Value} {h : zH} : zrun zpp E 211 (0, .ref x :: ls, sk, h) = zrun zpp E 211 (1, .ref x :: ls, .ref x :: sk, h) := zrun_at rfl
theorem zi211_0n {E : zE} {ls sk : List Value} {h : zH} : zrun zpp E 211 (0, .null :: ls, sk, h) = zrun zpp E 211 (1, .null :: ls, .null :: sk, h) := zrun_at rfl
theorem zi211_1 {E : zE} {ls sk : List Value} {h : zH} : zrun zpp E 211 (1, ls, sk, h) = zrun zpp E 211 (2, ls, .int 0 :: sk, h) := zg_iconst rfl ci_0
theorem zi211_2 {E : zE} {x : Nat} {v : Value} {ls sk : List Value} {h : zH} : zrun zpp E 211 (2, ls, v :: .ref x :: sk, h) = (zstf [11] 0 h x 0 v).bind (fun h' => zrun zpp E 211 (5, ls, sk, h')) := zg_putf rfl
theorem zi211_5 {E : zE} {x : Nat} {ls sk : List Value} {h : zH} : zrun zpp E 211 (5, .ref x :: ls, sk, h) = zrun zpp E 211 (6, .ref x :: ls, .ref x :: sk, h) := zrun_at rfl
theorem zi211_5n {E : zE} {ls sk : List Value} {h : zH} : zrun zpp E 211 (5, .null :: ls, sk, h) = zrun zpp E 211 (6, .null :: ls, .null :: sk, h) := zrun_at rfl
theorem zi211_6 {E : zE} {x : Nat} {ls sk : List Value} {h : zH} : zrun zpp E 211 (6, ls, .ref x :: sk, h) = (zcls h x).bind (fun d => (zsel d [11, 172]).bind (fun M' => zcl1 E 211 9 M' ls sk [.ref x] h)) := zg_vir (as := []) rfl rfl
theorem zi211_9 {E : zE} {x : Int32} {ls sk : List Value} {h : zH} : zrun zpp E 211 (9, ls, .int x :: sk, h) = if x = 0 then zrun zpp E 211 (12, ls, sk, h) else zrun zpp E 211 (15, ls, sk, h) := zrun_at rfl
theorem zi211_12 {E : zE} {ls sk : List Value} {h : zH} : zrun zpp E 211 (12, ls, sk, h) = zrun zpp E 211 (14, ls, .int (-1000002) :: sk, h) := zg_ldc rfl ci_m1000002
theorem zi211_14 {E : zE} {x : Int32} {ls sk : List Value} {h : zH} : zrun zpp E 211 (14, ls, [.int x], h) = some (some (.int x), h) := zrun_at rfl
theorem zi211_15 {E : zE} {v0 : Value} {x : Int32} {ls sk : List Value} {h : zH} : zrun zpp E 211 (15, v0 :: .int x :: ls, sk, h) = zrun zpp E 211 (16, v0 :: .int x :: ls, .int x :: sk, h) := zrun_at rfl
theorem zi211_16 {E : zE} {x : Int32} {ls sk : List Value} {h : zH} : zrun zpp E 211 (16, ls, .int x :: sk, h) = zrun zpp E 211 (17, ls, .long x.toInt64 :: sk, h) := zrun_at rfl
theorem zi211_17 {E : zE} {ls sk : List Value} {h : zH} : zrun zpp E 211 (17, ls, sk, h) = zrun zpp E 211 (18, ls, .long 1 :: sk, h) := zg_lconst rfl rfl
theorem zi211_18 {E : zE} {ls sk : List Value} {h : zH} : zrun zpp E 211 (18, ls, sk, h) = zrun zpp E 211 (21, ls, .long 8 :: sk, h) := zg_ldc2_w rfl cj_8
theorem zi211_21 {E : zE} {a0 a1 a2 : Value} {ls sk : List Value} {h : zH} : zrun zpp E 211 (21, ls, a2 :: a1 :: a0 :: sk, h) = zcl1 E 211 24 149 ls sk [a0, a1, a2] h := zg_inv (as := [a0, a1, a2]) rfl rfl
theorem zi211_24 {E : zE} {x : Int32} {ls sk : List Value} {h : zH} : zrun zpp E 211 (24, ls, .int x :: sk, h) = if x = 0 then zrun zpp E 211 (37, ls, sk, h) else zrun zpp E 211 (27, ls, sk, h) := zrun_at rfl
theorem zi211_27 {E : zE} {v0 v1 : Value} {x : Int32} {ls sk : List Value} {h : zH} : zrun zpp E 211 (27, v0 :: v1 :: .int x :: ls, sk, h) = zrun zpp E 211 (28, v0 :: v1 :: .int x :: ls, .int x :: sk, h) := zrun_at rfl
theorem zi211_28 {E : zE} {x : Int32} {ls sk : List Value} {h : zH} : zrun zpp E 211 (28, ls, .int x :: sk, h) = zrun zpp E 211 (29, ls, .long x.toInt64 :: sk, h) := zrun_at rfl
theorem zi211_29 {E : zE} {ls sk : List Value} {h : zH} : zrun zpp E 211 (29, ls, sk, h) = zrun zpp E 211 (30, ls, .long 0 :: sk, h) := zg_lconst rfl rfl
theorem zi211_30 {E : zE} {ls sk : List Value} {h : zH} : zrun zpp E 211 (30, ls, sk, h) = zrun zpp E 211 (31, ls, .long 1 :: sk, h) := zg_lconst rfl rfl
theorem zi211_31 {E : zE} {a0 a1 a2 : Value} {ls sk : List Value} {h : zH} : zrun zpp E 211 (31, ls, a2 :: a1 :: a0 :: sk, h) = zcl1 E 211 34 149 ls sk [a0, a1, a2] h := zg_inv (as := [a0, a1, a2]) rfl rfl
theorem zi211_34 {E : zE} {x : Int32} {ls sk : List Value} {h : zH} : zrun zpp E 211 (34, ls, .int x :: sk, h) = if x = 0 then zrun zpp E 211 (37, ls, sk, h) else zrun zpp E 211 (40, ls, sk, h) := zrun_at rfl
theorem zi211_37 {E : zE} {ls sk : List Value} {h : zH} : zrun zpp E 211 (37, ls, sk, h) = zrun zpp E 211 (39, ls, .int (-1000001) :: sk, h) := zg_ldc rfl ci_m1000001
theorem zi211_39 {E : zE} {x : Int32} {ls sk : List Value} {h : zH} : zrun zpp E 211 (39, ls, [.int x], h) = some (some (.int x), h) := zrun_at rfl
theorem zi211_40 {E : zE} {ls sk : List Value} {h : zH} : zrun zpp E 211 (40, ls, sk, h) = zrun zpp E 211 (42, ls, .int (-1000000) :: sk, h) := zg_ldc rfl ci_m1000000
theorem zi211_42 {E : zE} {x : Int32} {ls sk : List Value} {h : zH} : zrun zpp E 211 (42, ls, .int x :: sk, h) = if zfree ls 3 = true then zrun zpp E 211 (43, ls.set 3 (.int x), sk, h) else none := zg_ist rfl (fun _ _ _ => rfl)
theorem zi211_43 {E : zE} {ls sk : List Value} {h : zH} : zrun zpp E 211 (43, ls, sk, h) = zrun zpp E 211 (44, ls, .int 0 :: sk, h) := zg_iconst rfl ci_0
theorem zi211_44 {E : zE} {x : Int32} {ls sk : List Value} {h : zH} : zrun zpp E 211 (44, ls, .int x :: sk, h) = if zfree ls 4 = true then zrun zpp E 211 (46, ls.set 4 (.int x), sk, h) else none := zg_ist rfl (fun _ _ _ => rfl)
theorem zi211_46 {E : zE} {v0 v1 v2 v3 : Value} {x : Int32} {ls sk : List Value} {h : zH} : zrun zpp E 211 (46, v0 :: v1 :: v2 :: v3 :: .int x :: ls, sk, h) = zrun zpp E 211 (48, v0 :: v1 :: v2 :: v3 :: .int x :: ls, .int x :: sk, h) := zrun_at rfl
theorem zi211_48 {E : zE} {ls sk : List Value} {h : zH} : zrun zpp E 211 (48, ls, sk, h) = zrun zpp E 211 (49, ls, .int 1 :: sk, h) := zg_iconst rfl ci_1
theorem zi211_49 {E : zE} {x : Nat} {ls sk : List Value} {h : zH} : zrun zpp E 211 (49, .ref x :: ls, sk, h) = zrun zpp E 211 (50, .ref x :: ls, .ref x :: sk, h) := zrun_at rfl
theorem zi211_49n {E : zE} {ls sk : List Value} {h : zH} : zrun zpp E 211 (49, .null :: ls, sk, h) = zrun zpp E 211 (50, .null :: ls, .null :: sk, h) := zrun_at rfl
theorem zi211_50 {E : zE} {x : Nat} {ls sk : List Value} {h : zH} : zrun zpp E 211 (50, ls, .ref x :: sk, h) = (zfld [11] h x 5).bind (fun v => zrun zpp E 211 (53, ls, v :: sk, h)) := zg_getf rfl
theorem zi211_53 {E : zE} {ls sk : List Value} {h : zH} : zrun zpp E 211 (53, ls, sk, h) = zrun zpp E 211 (54, ls, .int 3 :: sk, h) := zg_iconst rfl ci_3
theorem zi211_54 {E : zE} {x : Nat} {i : Int32} {ls sk : List Value} {h : zH} : zrun zpp E 211 (54, ls, .int i :: .ref x :: sk, h) = (zarr 0 h x i).bind (fun v => zrun zpp E 211 (55, ls, .int v :: sk, h)) := zg_iald rfl
theorem zi211_55 {E : zE} {ls sk : List Value} {h : zH} : zrun zpp E 211 (55, ls, sk, h) = zrun zpp E 211 (56, ls, .int 1 :: sk, h) := zg_iconst rfl ci_1
theorem zi211_56 {E : zE} {x y : Int32} {ls sk : List Value} {h : zH} : zrun zpp E 211 (56, ls, .int y :: .int x :: sk, h) = zrun zpp E 211 (57, ls, .int (x - y) :: sk, h) := zrun_at rfl
theorem zi211_57 {E : zE} {x y : Int32} {ls sk : List Value} {h : zH} : zrun zpp E 211 (57, ls, .int y :: .int x :: sk, h) = zrun zpp E 211 (58, ls, .int (x <<< (y &&& 31)) :: sk, h) := zrun_at rfl
theorem zi211_58 {E : zE} {x y : Int32} {ls sk : List Value} {h : zH} : zrun zpp E 211 (58, ls, .int y :: .int x :: sk, h) = if y ≤ x then zrun zpp E 211 (114, ls, sk, h) else zrun zpp E 211 (61, ls, sk, h) := zrun_at rfl
theorem zi211_61 {E : zE} {v0 v1 v2 : Value} {x : Int32} {ls sk : List Value} {h : zH} : zrun zpp E 211 (61, v0 :: v1 :: v2 :: .int x :: ls, sk, h) = zrun zpp E 211 (62, v0 :: v1 :: v2 :: .int x :: ls, .int x :: sk, h) := zrun_at rfl
theorem zi211_62 {E : zE} {ls sk : List Value} {h : zH} : zrun zpp E 211 (62, ls, sk, h) = zrun zpp E 211 (64, ls, .int (-1000000) :: sk, h) := zg_ldc rfl ci_m1000000
theorem zi211_64 {E : zE} {x y : Int32} {ls sk : List Value} {h : zH} : zrun zpp E 211 (64, ls, .int y :: .int x :: sk, h) = if x = y then zrun zpp E 211 (79, ls, sk, h) else zrun zpp E 211 (67, ls, sk, h) := zrun_at rfl
theorem zi211_67 {E : zE} {v0 v1 v2 v3 : Value} {x : Int32} {ls sk : List Value} {h : zH} : zrun zpp E 211 (67, v0 :: v1 :: v2 :: v3 :: .int x :: ls, sk, h) = zrun zpp E 211 (69, v0 :: v1 :: v2 :: v3 :: .int x :: ls, .int x :: sk, h) := zrun_at rfl
theorem zi211_69 {E : zE} {a0 : Value} {ls sk : List Value} {h : zH} : zrun zpp E 211 (69, ls, a0 :: sk, h) = zcl1 E 211 72 182 ls sk [a0] h := zg_inv (as := [a0]) rfl rfl
theorem zi211_72 {E : zE} {v0 v1 v2 : Value} {x : Int32} {ls sk : List Value} {h : zH} : zrun zpp E 211 (72, v0 :: v1 :: v2 :: .int x :: ls, sk, h) = zrun zpp E 211 (73, v0 :: v1 :: v2 :: .int x :: ls, .int x :: sk, h) := zrun_at rfl
theorem zi211_73 {E : zE} {a0 : Value} {ls sk : List Value} {h : zH} : zrun zpp E 211 (73, ls, a0 :: sk, h) = zcl1 E 211 76 182 ls sk [a0] h := zg_inv (as := [a0]) rfl rfl
theorem zi211_76 {E : zE} {x y : Int32} {ls sk : List Value} {h : zH} : zrun zpp E 211 (76, ls, .int y :: .int x :: sk, h) = if y ≤ x then zrun zpp E 211 (83, ls, sk, h) else zrun zpp E 211 (79, ls, sk, h) := zrun_at rfl
theorem zi211_79 {E : zE} {ls sk : List Value} {h : zH} : zrun zpp E 211 (79, ls, sk, h) = zrun zpp E 211 (80, ls, .int 1 :: sk, h) := zg_iconst rfl ci_1
theorem zi211_80 {E : zE} {ls sk : List Value} {h : zH} : zrun zpp E 211 (80, ls, sk, h) = zrun zpp E 211 (84, ls, sk, h) := zrun_at rfl
theorem zi211_83 {E : zE} {ls sk : List Value} {h : zH} : zrun zpp E 211 (83, ls, sk, h) = zrun zpp E 211 (84, ls, .int 0 :: sk, h) := zg_iconst rfl ci_0
theorem zi211_84 {E : zE} {x : Int32} {ls sk : List Value} {h : zH} : zrun zpp E 211 (84, ls, .int x :: sk, h) = if zfree ls 5 = true then zrun zpp E 211 (86, ls.set 5 (.int x), sk, h) else none := zg_ist rfl (fun _ _ _ => rfl)
theorem zi211_86 {E : zE} {v0 v1 v2 v3 v4 : Value} {x : Int32} {ls sk : List Value} {h : zH} : zrun zpp E 211 (86, v0 :: v1 :: v2 :: v3 :: v4 :: .int x :: ls, sk, h) = zrun zpp E 211 (88, v0 :: v1 :: v2 :: v3 :: v4 :: .int x :: ls, .int x :: sk, h) := zrun_at rfl
theorem zi211_88 {E : zE} {x : Int32} {ls sk : List Value} {h : zH} : zrun zpp E 211 (88, ls, .int x :: sk, h) = if x = 0 then zrun zpp E 211 (106, ls, sk, h) else zrun zpp E 211 (91, ls, sk, h) := zrun_at rfl
theorem zi211_91 {E : zE} {x : Nat} {ls sk : List Value} {h : zH} : zrun zpp E 211 (91, .ref x :: ls, sk, h) = zrun zpp E 211 (92, .ref x :: ls, .ref x :: sk, h) := zrun_at rfl
theorem zi211_91n {E : zE} {ls sk : List Value} {h : zH} : zrun zpp E 211 (91, .null :: ls, sk, h) = zrun zpp E 211 (92, .null :: ls, .null :: sk, h) := zrun_at rfl
theorem zi211_92 {E : zE} {v0 v1 v2 v3 : Value} {x : Int32} {ls sk : List Value} {h : zH} : zrun zpp E 211 (92, v0 :: v1 :: v2 :: v3 :: .int x :: ls, sk, h) = zrun zpp E 211 (94, v0 :: v1 :: v2 :: v3 :: .int x :: ls, .int x :: sk, h) := zrun_at rfl
theorem zi211_94 {E : zE} {a0 : Value} {x : Nat} {ls sk : List Value} {h : zH} : zrun zpp E 211 (94, ls, a0 :: .ref x :: sk, h) = (zcls h x).bind (fun d => (zsel d [11, 210]).bind (fun M' => zcl1 E 211 97 M' ls sk [.ref x, a0] h)) := zg_vir (as := [a0]) rfl rfl
theorem zi211_97 {E : zE} {v0 : Value} {x : Int32} {ls sk : List Value} {h : zH} : zrun zpp E 211 (97, v0 :: .int x :: ls, sk, h) = zrun zpp E 211 (98, v0 :: .int x :: ls, .int x :: sk, h) := zrun_at rfl
theorem zi211_98 {E : zE} {x y : Int32} {ls sk : List Value} {h : zH} : zrun zpp E 211 (98, ls, .int y :: .int x :: sk, h) = if y < x then zrun zpp E 211 (106, ls, sk, h) else zrun zpp E 211 (101, ls, sk, h) := zrun_at rfl
theorem zi211_101 {E : zE} {v0 v1 v2 v3 : Value} {x : Int32} {ls sk : List Value} {h : zH} : zrun zpp E 211 (101, v0 :: v1 :: v2 :: v3 :: .int x :: ls, sk, h) = zrun zpp E 211 (103, v0 :: v1 :: v2 :: v3 :: .int x :: ls, .int x :: sk, h) := zrun_at rfl
theorem zi211_103 {E : zE} {ls sk : List Value} {h : zH} : zrun zpp E 211 (103, ls, sk, h) = zrun zpp E 211 (107, ls, sk, h) := zrun_at rfl
theorem zi211_106 {E : zE} {v0 v1 v2 : Value} {x : Int32} {ls sk : List Value} {h : zH} : zrun zpp E 211 (106, v0 :: v1 :: v2 :: .int x :: ls, sk, h) = zrun zpp E 211 (107, v0 :: v1 :: v2 :: .int x :: ls, .int x :: sk, h) := zrun_at rfl
theorem zi211_107 {E : zE} {x : Int32} {ls sk : List Value} {h : zH} : zrun zpp E 211 (107, ls, .int x :: sk, h) = if zfree ls 3 = true then zrun zpp E 211 (108, ls.set 3 (.int x), sk, h) else none := zg_ist rfl (fun _ _ _ => rfl)
theorem zi211_108 {E : zE} {v0 v1 v2 v3 : Value} {x : Int32} {ls sk : List Value} {h : zH} : zrun zpp E 211 (108, v0 :: v1 :: v2 :: v3 :: .int x :: ls, sk, h) = if zfree (v0 :: v1 :: v2 :: v3 :: .int x :: ls) 4 = true then zrun zpp E 211 (111, v0 :: v1 :: v2 :: v3 :: .int (x + 1) :: ls, sk, h) else none := by rw [← ci_1]; exact zrun_at rfl
theorem zi211_111 {E : zE} {ls sk : List Value} {h : zH} : zrun zpp E 211 (111, ls, sk, h) = zrun zpp E 211 (46, ls, sk, h) := zrun_at rfl
theorem zi211_114 {E : zE} {v0 v1 : Value} {x : Int32} {ls sk : List Value} {h : zH} : zrun zpp E 211 (114, v0 :: v1 :: .int x :: ls, sk, h) = zrun zpp E 211 (115, v0 :: v1 :: .int x :: ls, .int x :: sk, h) := zrun_at rfl
theorem zi211_115 {E : zE} {x : Int32} {ls sk : List Value} {h : zH} : zrun zpp E 211 (115, ls, .int x :: sk, h) = if x = 0 then zrun zpp E 211 (118, ls, sk, h) else zrun zpp E 211 (125, ls, sk, h) := zrun_at rfl
theorem zi211_118 {E : zE} {v0 v1 v2 : Value} {x : Int32} {ls sk : List Value} {h : zH} : zrun zpp E 211 (118, v0 :: v1 :: v2 :: .int x :: ls, sk, h) = zrun zpp E 211 (119, v0 :: v1 :: v2 :: .int x :: ls, .int x :: sk, h) := zrun_at rfl
theorem zi211_119 {E : zE} {a0 : Value} {ls sk : List Value} {h : zH} : zrun zpp E 211 (119, ls, a0 :: sk, h) = zcl1 E 211 122 182 ls sk [a0] h := zg_inv (as := [a0]) rfl rfl
theorem zi211_122 {E : zE} {ls sk : List Value} {h : zH} : zrun zpp E 211 (122, ls, sk, h) = zrun zpp E 211 (126, ls, sk, h) := zrun_at rfl
theorem zi211_125 {E : zE} {v0 v1 v2 : Value} {x : Int32} {ls sk : List Value} {h : zH} : zrun zpp E 211 (125, v0 :: v1 :: v2 :: .int x :: ls, sk, h) = zrun zpp E 211 (126, v0 :: v1 :: v2 :: .int x :: ls, .int x :: sk, h) := zrun_at rfl
theorem zi211_126 {E : zE} {x : Int32} {ls sk : List Value} {h : zH} : zrun zpp E 211 (126, ls, [.int x], h) = some (some (.int x), h) := zrun_at rfl
-- 212 NineDownModel.plan
theorem zi212_0 {E : zE} {x : Nat} {ls sk : List Value} {h : zH} : zrun zpp E 212 (0, .ref x :: ls, sk, h) = zrun zpp E 212 (1, .ref x :: ls, .ref x :: sk, h) := zrun_at rfl
theorem zi212_0n {E : zE} {ls sk : List Value} {h : zH} : zrun zpp E 212 (0, .null :: ls, sk, h) = zrun zpp E 212 (1, .null :: ls, .null :: sk, h) := zrun_at rfl
theorem zi212_1 {E : zE} {ls sk : List Value} {h : zH} : zrun zpp E 212 (1, ls, sk, h) = zrun zpp E 212 (2, ls, .int 0 :: sk, h) := zg_iconst rfl ci_0
theorem zi212_2 {E : zE} {x : Nat} {v : Value} {ls sk : List Value} {h : zH} : zrun zpp E 212 (2, ls, v :: .ref x :: sk, h) = (zstf [11] 0 h x 0 v).bind (fun h' => zrun zpp E 212 (5, ls, sk, h')) := zg_putf rfl
theorem zi212_5 {E : zE} {x : Nat} {ls sk : List Value} {h : zH} : zrun zpp E 212 (5, .ref x :: ls, sk, h) = zrun zpp E 212 (6, .ref x :: ls, .ref x :: sk, h) := zrun_at rfl
theorem zi212_5n {E : zE} {ls sk : List Value} {h : zH} : zrun zpp E 212 (5, .null :: ls, sk, h) = zrun zpp E 212 (6, .null :: ls, .null :: sk, h) := zrun_at rfl
theorem zi212_6 {E : zE} {x : Nat} {ls sk : List Value} {h : zH} : zrun zpp E 212 (6, ls, .ref x :: sk, h) = (zcls h x).bind (fun d => (zsel d [11, 172]).bind (fun M' => zcl1 E 212 9 M' ls sk [.ref x] h)) := zg_vir (as := []) rfl rfl
theorem zi212_9 {E : zE} {x : Int32} {ls sk : List Value} {h : zH} : zrun zpp E 212 (9, ls, .int x :: sk, h) = if x = 0 then zrun zpp E 212 (12, ls, sk, h) else zrun zpp E 212 (15, ls, sk, h) := zrun_at rfl
theorem zi212_12 {E : zE} {ls sk : List Value} {h : zH} : zrun zpp E 212 (12, ls, sk, h) = zrun zpp E 212 (14, ls, .int (-1000002) :: sk, h) := zg_ldc rfl ci_m1000002
theorem zi212_14 {E : zE} {x : Int32} {ls sk : List Value} {h : zH} : zrun zpp E 212 (14, ls, [.int x], h) = some (some (.int x), h) := zrun_at rfl
theorem zi212_15 {E : zE} {v0 : Value} {x : Int32} {ls sk : List Value} {h : zH} : zrun zpp E 212 (15, v0 :: .int x :: ls, sk, h) = zrun zpp E 212 (16, v0 :: .int x :: ls, .int x :: sk, h) := zrun_at rfl
theorem zi212_16 {E : zE} {a0 : Value} {ls sk : List Value} {h : zH} : zrun zpp E 212 (16, ls, a0 :: sk, h) = zcl1 E 212 19 151 ls sk [a0] h := zg_inv (as := [a0]) rfl rfl
theorem zi212_19 {E : zE} {x : Int32} {ls sk : List Value} {h : zH} : zrun zpp E 212 (19, ls, .int x :: sk, h) = if x = 0 then zrun zpp E 212 (47, ls, sk, h) else zrun zpp E 212 (22, ls, sk, h) := zrun_at rfl
theorem zi212_22 {E : zE} {v0 v1 v2 : Value} {x : Int32} {ls sk : List Value} {h : zH} : zrun zpp E 212 (22, v0 :: v1 :: v2 :: .int x :: ls, sk, h) = zrun zpp E 212 (23, v0 :: v1 :: v2 :: .int x :: ls, .int x :: sk, h) := zrun_at rfl
theorem zi212_23 {E : zE} {x : Int32} {ls sk : List Value} {h : zH} : zrun zpp E 212 (23, ls, .int x :: sk, h) = zrun zpp E 212 (24, ls, .long x.toInt64 :: sk, h) := zrun_at rfl
theorem zi212_24 {E : zE} {ls sk : List Value} {h : zH} : zrun zpp E 212 (24, ls, sk, h) = zrun zpp E 212 (25, ls, .long 0 :: sk, h) := zg_lconst rfl rfl
theorem zi212_25 {E : zE} {ls sk : List Value} {h : zH} : zrun zpp E 212 (25, ls, sk, h) = zrun zpp E 212 (28, ls, .long 40 :: sk, h) := zg_ldc2_w rfl cj_40
theorem zi212_28 {E : zE} {a0 a1 a2 : Value} {ls sk : List Value} {h : zH} : zrun zpp E 212 (28, ls, a2 :: a1 :: a0 :: sk, h) = zcl1 E 212 31 149 ls sk [a0, a1, a2] h := zg_inv (as := [a0, a1, a2]) rfl rfl
theorem zi212_31 {E : zE} {x : Int32} {ls sk : List Value} {h : zH} : zrun zpp E 212 (31, ls, .int x :: sk, h) = if x = 0 then zrun zpp E 212 (47, ls, sk, h) else zrun zpp E 212 (34, ls, sk, h) := zrun_at rfl
theorem zi212_34 {E : zE} {v0 v1 v2 v3 : Value} {x : Int32} {ls sk : List Value} {h : zH} : zrun zpp E 212 (34, v0 :: v1 :: v2 :: v3 :: .int x :: ls, sk, h) = zrun zpp E 212 (36, v0 :: v1 :: v2 :: v3 :: .int x :: ls, .int x :: sk, h) := zrun_at rfl
theorem zi212_36 {E : zE} {x : Int32} {ls sk : List Value} {h : zH} : zrun zpp E 212 (36, ls, .int x :: sk, h) = zrun zpp E 212 (37, ls, .long x.toInt64 :: sk, h) := zrun_at rfl
theorem zi212_37 {E : zE} {ls sk : List Value} {h : zH} : zrun zpp E 212 (37, ls, sk, h) = zrun zpp E 212 (38, ls, .long 0 :: sk, h) := zg_lconst rfl rfl
theorem zi212_38 {E : zE} {ls sk : List Value} {h : zH} : zrun zpp E 212 (38, ls, sk, h) = zrun zpp E 212 (41, ls, .long 2 :: sk, h) := zg_ldc2_w rfl cj_2
theorem zi212_41 {E : zE} {a0 a1 a2 : Value} {ls sk : List Value} {h : zH} : zrun zpp E 212 (41, ls, a2 :: a1 :: a0 :: sk, h) = zcl1 E 212 44 149 ls sk [a0, a1, a2] h := zg_inv (as := [a0, a1, a2]) rfl rfl
theorem zi212_44 {E : zE} {x : Int32} {ls sk : List Value} {h : zH} : zrun zpp E 212 (44, ls, .int x :: sk, h) = if x = 0 then zrun zpp E 212 (47, ls, sk, h) else zrun zpp E 212 (50, ls, sk, h) := zrun_at rfl
theorem zi212_47 {E : zE} {ls sk : List Value} {h : zH} : zrun zpp E 212 (47, ls, sk, h) = zrun zpp E 212 (49, ls, .int (-1000001) :: sk, h) := zg_ldc rfl ci_m1000001
theorem zi212_49 {E : zE} {x : Int32} {ls sk : List Value} {h : zH} : zrun zpp E 212 (49, ls, [.int x], h) = some (some (.int x), h) := zrun_at rfl
theorem zi212_50 {E : zE} {x : Nat} {ls sk : List Value} {h : zH} : zrun zpp E 212 (50, .ref x :: ls, sk, h) = zrun zpp E 212 (51, .ref x :: ls, .ref x :: sk, h) := zrun_at rfl
theorem zi212_50n {E : zE} {ls sk : List Value} {h : zH} : zrun zpp E 212 (50, .null :: ls, sk, h) = zrun zpp E 212 (51, .null :: ls, .null :: sk, h) := zrun_at rfl
theorem zi212_51 {E : zE} {x : Nat} {ls sk : List Value} {h : zH} : zrun zpp E 212 (51, ls, .ref x :: sk, h) = (zfld [11] h x 2).bind (fun v => zrun zpp E 212 (54, ls, v :: sk, h)) := zg_getf rfl
theorem zi212_54 {E : zE} {v0 : Value} {x : Int32} {ls sk : List Value} {h : zH} : zrun zpp E 212 (54, v0 :: .int x :: ls, sk, h) = zrun zpp E 212 (55, v0 :: .int x :: ls, .int x :: sk, h) := zrun_at rfl
theorem zi212_55 {E : zE} {x : Nat} {i : Int32} {ls sk : List Value} {h : zH} : zrun zpp E 212 (55, ls, .int i :: .ref x :: sk, h) = (zarr 0 h x i).bind (fun v => zrun zpp E 212 (56, ls, .int v :: sk, h)) := zg_iald rfl
theorem zi212_56 {E : zE} {x : Int32} {ls sk : List Value} {h : zH} : zrun zpp E 212 (56, ls, .int x :: sk, h) = if 0 ≤ x then zrun zpp E 212 (65, ls, sk, h) else zrun zpp E 212 (59, ls, sk, h) := zrun_at rfl
theorem zi212_59 {E : zE} {x : Nat} {ls sk : List Value} {h : zH} : zrun zpp E 212 (59, .ref x :: ls, sk, h) = zrun zpp E 212 (60, .ref x :: ls, .ref x :: sk, h) := zrun_at rfl
theorem zi212_59n {E : zE} {ls sk : List Value} {h : zH} : zrun zpp E 212 (59, .null :: ls, sk, h) = zrun zpp E 212 (60, .null :: ls, .null :: sk, h) := zrun_at rfl
theorem zi212_60 {E : zE} {ls sk : List Value} {h : zH} : zrun zpp E 212 (60, ls, sk, h) = zrun zpp E 212 (61, ls, .int 1 :: sk, h) := zg_iconst rfl ci_1
theorem zi212_61 {E : zE} {a0 : Value} {x : Nat} {ls sk : List Value} {h : zH} : zrun zpp E 212 (61, ls, a0 :: .ref x :: sk, h) = (zcls h x).bind (fun d => (zsel d [11, 150]).bind (fun M' => zcl1 E 212 64 M' ls sk [.ref x, a0] h)) := zg_vir (as := [a0]) rfl rfl
theorem zi212_64 {E : zE} {x : Int32} {ls sk : List Value} {h : zH} : zrun zpp E 212 (64, ls, [.int x], h) = some (some (.int x), h) := zrun_at rfl
theorem zi212_65 {E : zE} {v0 v1 : Value} {x : Int32} {ls sk : List Value} {h : zH} : zrun zpp E 212 (65, v0 :: v1 :: .int x :: ls, sk, h) = zrun zpp E 212 (66, v0 :: v1 :: .int x :: ls, .int x :: sk, h) := zrun_at rfl
theorem zi212_66 {E : zE} {x : Int32} {ls sk : List Value} {h : zH} : zrun zpp E 212 (66, ls, .int x :: sk, h) = if x < 0 then zrun zpp E 212 (85, ls, sk, h) else zrun zpp E 212 (69, ls, sk, h) := zrun_at rfl
theorem zi212_69 {E : zE} {v0 v1 : Value} {x : Int32} {ls sk : List Value} {h : zH} : zrun zpp E 212 (69, v0 :: v1 :: .int x :: ls, sk, h) = zrun zpp E 212 (70, v0 :: v1 :: .int x :: ls, .int x :: sk, h) := zrun_at rfl
theorem zi212_70 {E : zE} {x : Int32} {ls sk : List Value} {h : zH} : zrun zpp E 212 (70, ls, .int x :: sk, h) = zrun zpp E 212 (71, ls, .long x.toInt64 :: sk, h) := zrun_at rfl
theorem zi212_71 {E : zE} {v0 v1 v2 : Value} {x : Int32} {ls sk : List Value} {h : zH} : zrun zpp E 212 (71, v0 :: v1 :: v2 :: .int x :: ls, sk, h) = zrun zpp E 212 (72, v0 :: v1 :: v2 :: .int x :: ls, .int x :: sk, h) := zrun_at rfl
theorem zi212_72 {E : zE} {x : Int32} {ls sk : List Value} {h : zH} : zrun zpp E 212 (72, ls, .int x :: sk, h) = zrun zpp E 212 (73, ls, .long x.toInt64 :: sk, h) := zrun_at rfl
theorem zi212_73 {E : zE} {x y : Int64} {ls sk : List Value} {h : zH} : zrun zpp E 212 (73, ls, .long y :: .long x :: sk, h) = zrun zpp E 212 (74, ls, .long (x + y) :: sk, h) := zrun_at rfl
theorem zi212_74 {E : zE} {x : Nat} {ls sk : List Value} {h : zH} : zrun zpp E 212 (74, .ref x :: ls, sk, h) = zrun zpp E 212 (75, .ref x :: ls, .ref x :: sk, h) := zrun_at rfl
theorem zi212_74n {E : zE} {ls sk : List Value} {h : zH} : zrun zpp E 212 (74, .null :: ls, sk, h) = zrun zpp E 212 (75, .null :: ls, .null :: sk, h) := zrun_at rfl
theorem zi212_75 {E : zE} {x : Nat} {ls sk : List Value} {h : zH} : zrun zpp E 212 (75, ls, .ref x :: sk, h) = (zfld [11] h x 3).bind (fun v => zrun zpp E 212 (78, ls, v :: sk, h)) := zg_getf rfl
theorem zi212_78 {E : zE} {v0 : Value} {x : Int32} {ls sk : List Value} {h : zH} : zrun zpp E 212 (78, v0 :: .int x :: ls, sk, h) = zrun zpp E 212 (79, v0 :: .int x :: ls, .int x :: sk, h) := zrun_at rfl
theorem zi212_79 {E : zE} {x : Nat} {i : Int32} {ls sk : List Value} {h : zH} : zrun zpp E 212 (79, ls, .int i :: .ref x :: sk, h) = (zarr 0 h x i).bind (fun v => zrun zpp E 212 (80, ls, .int v :: sk, h)) := zg_iald rfl
theorem zi212_80 {E : zE} {x : Int32} {ls sk : List Value} {h : zH} : zrun zpp E 212 (80, ls, .int x :: sk, h) = zrun zpp E 212 (81, ls, .long x.toInt64 :: sk, h) := zrun_at rfl
theorem zi212_81 {E : zE} {x y : Int64} {ls sk : List Value} {h : zH} : zrun zpp E 212 (81, ls, .long y :: .long x :: sk, h) = zrun zpp E 212 (82, ls, .int (lg_cmp x y) :: sk, h) := zrun_at rfl
theorem zi212_82 {E : zE} {x : Int32} {ls sk : List Value} {h : zH} : zrun zpp E 212 (82, ls, .int x :: sk, h) = if x ≤ 0 then zrun zpp E 212 (91, ls, sk, h) else zrun zpp E 212 (85, ls, sk, h) := zrun_at rfl
theorem zi212_85 {E : zE} {x : Nat} {ls sk : List Value} {h : zH} : zrun zpp E 212 (85, .ref x :: ls, sk, h) = zrun zpp E 212 (86, .ref x :: ls, .ref x :: sk, h) := zrun_at rfl
theorem zi212_85n {E : zE} {ls sk : List Value} {h : zH} : zrun zpp E 212 (85, .null :: ls, sk, h) = zrun zpp E 212 (86, .null :: ls, .null :: sk, h) := zrun_at rfl
theorem zi212_86 {E : zE} {ls sk : List Value} {h : zH} : zrun zpp E 212 (86, ls, sk, h) = zrun zpp E 212 (87, ls, .int 2 :: sk, h) := zg_iconst rfl ci_2
theorem zi212_87 {E : zE} {a0 : Value} {x : Nat} {ls sk : List Value} {h : zH} : zrun zpp E 212 (87, ls, a0 :: .ref x :: sk, h) = (zcls h x).bind (fun d => (zsel d [11, 150]).bind (fun M' => zcl1 E 212 90 M' ls sk [.ref x, a0] h)) := zg_vir (as := [a0]) rfl rfl
theorem zi212_90 {E : zE} {x : Int32} {ls sk : List Value} {h : zH} : zrun zpp E 212 (90, ls, [.int x], h) = some (some (.int x), h) := zrun_at rfl
theorem zi212_91 {E : zE} {x : Nat} {ls sk : List Value} {h : zH} : zrun zpp E 212 (91, .ref x :: ls, sk, h) = zrun zpp E 212 (92, .ref x :: ls, .ref x :: sk, h) := zrun_at rfl
theorem zi212_91n {E : zE} {ls sk : List Value} {h : zH} : zrun zpp E 212 (91, .null :: ls, sk, h) = zrun zpp E 212 (92, .null :: ls, .null :: sk, h) := zrun_at rfl
theorem zi212_92 {E : zE} {ls sk : List Value} {h : zH} : zrun zpp E 212 (92, ls, sk, h) = zrun zpp E 212 (93, ls, .int 0 :: sk, h) := zg_iconst rfl ci_0
theorem zi212_93 {E : zE} {x : Nat} {v : Value} {ls sk : List Value} {h : zH} : zrun zpp E 212 (93, ls, v :: .ref x :: sk, h) = (zstf [11] 0 h x 1 v).bind (fun h' => zrun zpp E 212 (96, ls, sk, h')) := zg_putf rfl
theorem zi212_96 {E : zE} {x : Nat} {ls sk : List Value} {h : zH} : zrun zpp E 212 (96, .ref x :: ls, sk, h) = zrun zpp E 212 (97, .ref x :: ls, .ref x :: sk, h) := zrun_at rfl
theorem zi212_96n {E : zE} {ls sk : List Value} {h : zH} : zrun zpp E 212 (96, .null :: ls, sk, h) = zrun zpp E 212 (97, .null :: ls, .null :: sk, h) := zrun_at rfl
theorem zi212_97 {E : zE} {x : Nat} {ls sk : List Value} {h : zH} : zrun zpp E 212 (97, ls, .ref x :: sk, h) = (zfld [11] h x 5).bind (fun v => zrun zpp E 212 (100, ls, v :: sk, h)) := zg_getf rfl
theorem zi212_100 {E : zE} {ls sk : List Value} {h : zH} : zrun zpp E 212 (100, ls, sk, h) = zrun zpp E 212 (102, ls, .int 8 :: sk, h) := zg_bipush rfl ci_8
theorem zi212_102 {E : zE} {x : Nat} {i : Int32} {ls sk : List Value} {h : zH} : zrun zpp E 212 (102, ls, .int i :: .ref x :: sk, h) = (zarr 0 h x i).bind (fun v => zrun zpp E 212 (103, ls, .int v :: sk, h)) := zg_iald rfl
theorem zi212_103 {E : zE} {x : Int32} {ls sk : List Value} {h : zH} : zrun zpp E 212 (103, ls, .int x :: sk, h) = if zfree ls 5 = true then zrun zpp E 212 (105, ls.set 5 (.int x), sk, h) else none := zg_ist rfl (fun _ _ _ => rfl)
theorem zi212_105 {E : zE} {ls sk : List Value} {h : zH} : zrun zpp E 212 (105, ls, sk, h) = zrun zpp E 212 (106, ls, .int 0 :: sk, h) := zg_iconst rfl ci_0
theorem zi212_106 {E : zE} {x : Int32} {ls sk : List Value} {h : zH} : zrun zpp E 212 (106, ls, .int x :: sk, h) = if zfree ls 6 = true then zrun zpp E 212 (108, ls.set 6 (.int x), sk, h) else none := zg_ist rfl (fun _ _ _ => rfl)
theorem zi212_108 {E : zE} {ls sk : List Value} {h : zH} : zrun zpp E 212 (108, ls, sk, h) = zrun zpp E 212 (109, ls, .int 0 :: sk, h) := zg_iconst rfl ci_0
theorem zi212_109 {E : zE} {x : Int32} {ls sk : List Value} {h : zH} : zrun zpp E 212 (109, ls, .int x :: sk, h) = if zfree ls 7 = true then zrun zpp E 212 (111, ls.set 7 (.int x), sk, h) else none := zg_ist rfl (fun _ _ _ => rfl)
theorem zi212_111 {E : zE} {ls sk : List Value} {h : zH} : zrun zpp E 212 (111, ls, sk, h) = zrun zpp E 212 (112, ls, .int 0 :: sk, h) := zg_iconst rfl ci_0
theorem zi212_112 {E : zE} {x : Int32} {ls sk : List Value} {h : zH} : zrun zpp E 212 (112, ls, .int x :: sk, h) = if zfree ls 8 = true then zrun zpp E 212 (114, ls.set 8 (.int x), sk, h) else none := zg_ist rfl (fun _ _ _ => rfl)
theorem zi212_114 {E : zE} {ls sk : List Value} {h : zH} : zrun zpp E 212 (114, ls, sk, h) = zrun zpp E 212 (115, ls, .int 1 :: sk, h) := zg_iconst rfl ci_1
theorem zi212_115 {E : zE} {x : Int32} {ls sk : List Value} {h : zH} : zrun zpp E 212 (115, ls, .int x :: sk, h) = if zfree ls 9 = true then zrun zpp E 212 (117, ls.set 9 (.int x), sk, h) else none := zg_ist rfl (fun _ _ _ => rfl)
theorem zi212_117 {E : zE} {ls sk : List Value} {h : zH} : zrun zpp E 212 (117, ls, sk, h) = zrun zpp E 212 (118, ls, .int 0 :: sk, h) := zg_iconst rfl ci_0
theorem zi212_118 {E : zE} {x : Int32} {ls sk : List Value} {h : zH} : zrun zpp E 212 (118, ls, .int x :: sk, h) = if zfree ls 10 = true then zrun zpp E 212 (120, ls.set 10 (.int x), sk, h) else none := zg_ist rfl (fun _ _ _ => rfl)
theorem zi212_120 {E : zE} {v0 v1 v2 v3 v4 v5 v6 v7 v8 v9 : Value} {x : Int32} {ls sk : List Value} {h : zH} : zrun zpp E 212 (120, v0 :: v1 :: v2 :: v3 :: v4 :: v5 :: v6 :: v7 :: v8 :: v9 :: .int x :: ls, sk, h) = zrun zpp E 212 (122, v0 :: v1 :: v2 :: v3 :: v4 :: v5 :: v6 :: v7 :: v8 :: v9 :: .int x :: ls, .int x :: sk, h) := zrun_at rfl
theorem zi212_122 {E : zE} {v0 v1 v2 : Value} {x : Int32} {ls sk : List Value} {h : zH} : zrun zpp E 212 (122, v0 :: v1 :: v2 :: .int x :: ls, sk, h) = zrun zpp E 212 (123, v0 :: v1 :: v2 :: .int x :: ls, .int x :: sk, h) := zrun_at rfl
theorem zi212_123 {E : zE} {x y : Int32} {ls sk : List Value} {h : zH} : zrun zpp E 212 (123, ls, .int y :: .int x :: sk, h) = if y ≤ x then zrun zpp E 212 (279, ls, sk, h) else zrun zpp E 212 (126, ls, sk, h) := zrun_at rfl
theorem zi212_126 {E : zE} {v0 v1 v2 v3 v4 v5 v6 v7 v8 : Value} {x : Int32} {ls sk : List Value} {h : zH} : zrun zpp E 212 (126, v0 :: v1 :: v2 :: v3 :: v4 :: v5 :: v6 :: v7 :: v8 :: .int x :: ls, sk, h) = zrun zpp E 212 (128, v0 :: v1 :: v2 :: v3 :: v4 :: v5 :: v6 :: v7 :: v8 :: .int x :: ls, .int x :: sk, h) := zrun_at rfl
theorem zi212_128 {E : zE} {x : Int32} {ls sk : List Value} {h : zH} : zrun zpp E 212 (128, ls, .int x :: sk, h) = if x = 0 then zrun zpp E 212 (279, ls, sk, h) else zrun zpp E 212 (131, ls, sk, h) := zrun_at rfl
theorem zi212_131 {E : zE} {x : Nat} {ls sk : List Value} {h : zH} : zrun zpp E 212 (131, .ref x :: ls, sk, h) = zrun zpp E 212 (132, .ref x :: ls, .ref x :: sk, h) := zrun_at rfl
theorem zi212_131n {E : zE} {ls sk : List Value} {h : zH} : zrun zpp E 212 (131, .null :: ls, sk, h) = zrun zpp E 212 (132, .null :: ls, .null :: sk, h) := zrun_at rfl
theorem zi212_132 {E : zE} {x : Nat} {ls sk : List Value} {h : zH} : zrun zpp E 212 (132, ls, .ref x :: sk, h) = (zfld [11] h x 4).bind (fun v => zrun zpp E 212 (135, ls, v :: sk, h)) := zg_getf rfl
theorem zi212_135 {E : zE} {ls sk : List Value} {h : zH} : zrun zpp E 212 (135, ls, sk, h) = zrun zpp E 212 (137, ls, .int 40 :: sk, h) := zg_bipush rfl ci_40
theorem zi212_137 {E : zE} {v0 : Value} {x : Int32} {ls sk : List Value} {h : zH} : zrun zpp E 212 (137, v0 :: .int x :: ls, sk, h) = zrun zpp E 212 (138, v0 :: .int x :: ls, .int x :: sk, h) := zrun_at rfl
theorem zi212_138 {E : zE} {x y : Int32} {ls sk : List Value} {h : zH} : zrun zpp E 212 (138, ls, .int y :: .int x :: sk, h) = zrun zpp E 212 (139, ls, .int (x * y) :: sk, h) := zrun_at rfl
theorem zi212_139 {E : zE} {v0 v1 : Value} {x : Int32} {ls sk : List Value} {h : zH} : zrun zpp E 212 (139, v0 :: v1 :: .int x :: ls, sk, h) = zrun zpp E 212 (140, v0 :: v1 :: .int x :: ls, .int x :: sk, h) := zrun_at rfl
theorem zi212_140 {E : zE} {x y : Int32} {ls sk : List Value} {h : zH} : zrun zpp E 212 (140, ls, .int y :: .int x :: sk, h) = zrun zpp E 212 (141, ls, .int (x + y) :: sk, h) := zrun_at rfl
theorem zi212_141 {E : zE} {v0 v1 v2 v3 v4 v5 v6 v7 v8 v9 : Value} {x : Int32} {ls sk : List Value} {h : zH} : zrun zpp E 212 (141, v0 :: v1 :: v2 :: v3 :: v4 :: v5 :: v6 :: v7 :: v8 :: v9 :: .int x :: ls, sk, h) = zrun zpp E 212 (143, v0 :: v1 :: v2 :: v3 :: v4 :: v5 :: v6 :: v7 :: v8 :: v9 :: .int x :: ls, .int x :: sk, h) := zrun_at rfl
theorem zi212_143 {E : zE} {x y : Int32} {ls sk : List Value} {h : zH} : zrun zpp E 212 (143, ls, .int y :: .int x :: sk, h) = zrun zpp E 212 (144, ls, .int (x + y) :: sk, h) := zrun_at rfl
theorem zi212_144 {E : zE} {x : Nat} {i : Int32} {ls sk : List Value} {h : zH} : zrun zpp E 212 (144, ls, .int i :: .ref x :: sk, h) = (zarr 0 h x i).bind (fun v => zrun zpp E 212 (145, ls, .int v :: sk, h)) := zg_iald rfl
theorem zi212_145 {E : zE} {x : Int32} {ls sk : List Value} {h : zH} : zrun zpp E 212 (145, ls, .int x :: sk, h) = if zfree ls 11 = true then zrun zpp E 212 (147, ls.set 11 (.int x), sk, h) else none := zg_ist rfl (fun _ _ _ => rfl)
theorem zi212_147 {E : zE} {v0 v1 v2 v3 v4 v5 v6 v7 v8 v9 v10 : Value} {x : Int32} {ls sk : List Value} {h : zH} : zrun zpp E 212 (147, v0 :: v1 :: v2 :: v3 :: v4 :: v5 :: v6 :: v7 :: v8 :: v9 :: v10 :: .int x :: ls, sk, h) = zrun zpp E 212 (149, v0 :: v1 :: v2 :: v3 :: v4 :: v5 :: v6 :: v7 :: v8 :: v9 :: v10 :: .int x :: ls, .int x :: sk, h) := zrun_at rfl
theorem zi212_149 {E : zE} {ls sk : List Value} {h : zH} : zrun zpp E 212 (149, ls, sk, h) = zrun zpp E 212 (151, ls, .int 10 :: sk, h) := zg_bipush rfl ci_10
theorem zi212_151 {E : zE} {x y : Int32} {ls sk : List Value} {h : zH} : zrun zpp E 212 (151, ls, .int y :: .int x :: sk, h) = if y = 0 then none else zrun zpp E 212 (152, ls, .int (x / y) :: sk, h) := zrun_at rfl
theorem zi212_152 {E : zE} {x : Int32} {ls sk : List Value} {h : zH} : zrun zpp E 212 (152, ls, .int x :: sk, h) = if zfree ls 12 = true then zrun zpp E 212 (154, ls.set 12 (.int x), sk, h) else none := zg_ist rfl (fun _ _ _ => rfl)
theorem zi212_154 {E : zE} {v0 v1 v2 v3 v4 v5 v6 v7 v8 v9 v10 : Value} {x : Int32} {ls sk : List Value} {h : zH} : zrun zpp E 212 (154, v0 :: v1 :: v2 :: v3 :: v4 :: v5 :: v6 :: v7 :: v8 :: v9 :: v10 :: .int x :: ls, sk, h) = zrun zpp E 212 (156, v0 :: v1 :: v2 :: v3 :: v4 :: v5 :: v6 :: v7 :: v8 :: v9 :: v10 :: .int x :: ls, .int x :: sk, h) := zrun_at rfl
theorem zi212_156 {E : zE} {ls sk : List Value} {h : zH} : zrun zpp E 212 (156, ls, sk, h) = zrun zpp E 212 (158, ls, .int 10 :: sk, h) := zg_bipush rfl ci_10
theorem zi212_158 {E : zE} {x y : Int32} {ls sk : List Value} {h : zH} : zrun zpp E 212 (158, ls, .int y :: .int x :: sk, h) = if y = 0 then none else zrun zpp E 212 (159, ls, .int (x - x / y * y) :: sk, h) := zrun_at rfl
theorem zi212_159 {E : zE} {x : Int32} {ls sk : List Value} {h : zH} : zrun zpp E 212 (159, ls, .int x :: sk, h) = if zfree ls 13 = true then zrun zpp E 212 (161, ls.set 13 (.int x), sk, h) else none := zg_ist rfl (fun _ _ _ => rfl)
theorem zi212_161 {E : zE} {v0 v1 v2 v3 v4 v5 v6 v7 v8 v9 v10 : Value} {x : Int32} {ls sk : List Value} {h : zH} : zrun zpp E 212 (161, v0 :: v1 :: v2 :: v3 :: v4 :: v5 :: v6 :: v7 :: v8 :: v9 :: v10 :: .int x :: ls, sk, h) = zrun zpp E 212 (163, v0 :: v1 :: v2 :: v3 :: v4 :: v5 :: v6 :: v7 :: v8 :: v9 :: v10 :: .int x :: ls, .int x :: sk, h) := zrun_at rfl
theorem zi212_163 {E : zE} {x : Int32} {ls sk : List Value} {h : zH} : zrun zpp E 212 (163, ls, .int x :: sk, h) = if x < 0 then zrun zpp E 212 (213, ls, sk, h) else zrun zpp E 212 (166, ls, sk, h) := zrun_at rfl
theorem zi212_166 {E : zE} {x : Nat} {ls sk : List Value} {h : zH} : zrun zpp E 212 (166, .ref x :: ls, sk, h) = zrun zpp E 212 (167, .ref x :: ls, .ref x :: sk, h) := zrun_at rfl
theorem zi212_166n {E : zE} {ls sk : List Value} {h : zH} : zrun zpp E 212 (166, .null :: ls, sk, h) = zrun zpp E 212 (167, .null :: ls, .null :: sk, h) := zrun_at rfl
theorem zi212_167 {E : zE} {v0 v1 v2 v3 v4 v5 v6 v7 v8 v9 v10 v11 : Value} {x : Int32} {ls sk : List Value} {h : zH} : zrun zpp E 212 (167, v0 :: v1 :: v2 :: v3 :: v4 :: v5 :: v6 :: v7 :: v8 :: v9 :: v10 :: v11 :: .int x :: ls, sk, h) = zrun zpp E 212 (169, v0 :: v1 :: v2 :: v3 :: v4 :: v5 :: v6 :: v7 :: v8 :: v9 :: v10 :: v11 :: .int x :: ls, .int x :: sk, h) := zrun_at rfl
theorem zi212_169 {E : zE} {x : Int32} {ls sk : List Value} {h : zH} : zrun zpp E 212 (169, ls, .int x :: sk, h) = zrun zpp E 212 (170, ls, .long x.toInt64 :: sk, h) := zrun_at rfl
theorem zi212_170 {E : zE} {a0 : Value} {x : Nat} {ls sk : List Value} {h : zH} : zrun zpp E 212 (170, ls, a0 :: .ref x :: sk, h) = (zcls h x).bind (fun d => (zsel d [11, 174]).bind (fun M' => zcl1 E 212 173 M' ls sk [.ref x, a0] h)) := zg_vir (as := [a0]) rfl rfl
theorem zi212_173 {E : zE} {x : Int32} {ls sk : List Value} {h : zH} : zrun zpp E 212 (173, ls, .int x :: sk, h) = if x = 0 then zrun zpp E 212 (213, ls, sk, h) else zrun zpp E 212 (176, ls, sk, h) := zrun_at rfl
theorem zi212_176 {E : zE} {x : Nat} {ls sk : List Value} {h : zH} : zrun zpp E 212 (176, .ref x :: ls, sk, h) = zrun zpp E 212 (177, .ref x :: ls, .ref x :: sk, h) := zrun_at rfl
theorem zi212_176n {E : zE} {ls sk : List Value} {h : zH} : zrun zpp E 212 (176, .null :: ls, sk, h) = zrun zpp E 212 (177, .null :: ls, .null :: sk, h) := zrun_at rfl
theorem zi212_177 {E : zE} {v0 v1 v2 v3 v4 v5 v6 v7 v8 v9 v10 v11 v12 : Value} {x : Int32} {ls sk : List Value} {h : zH} : zrun zpp E 212 (177, v0 :: v1 :: v2 :: v3 :: v4 :: v5 :: v6 :: v7 :: v8 :: v9 :: v10 :: v11 :: v12 :: .int x :: ls, sk, h) = zrun zpp E 212 (179, v0 :: v1 :: v2 :: v3 :: v4 :: v5 :: v6 :: v7 :: v8 :: v9 :: v10 :: v11 :: v12 :: .int x :: ls, .int x :: sk, h) := zrun_at rfl
theorem zi212_179 {E : zE} {x : Int32} {ls sk : List Value} {h : zH} : zrun zpp E 212 (179, ls, .int x :: sk, h) = zrun zpp E 212 (180, ls, .long x.toInt64 :: sk, h) := zrun_at rfl
theorem zi212_180 {E : zE} {a0 : Value} {x : Nat} {ls sk : List Value} {h : zH} : zrun zpp E 212 (180, ls, a0 :: .ref x :: sk, h) = (zcls h x).bind (fun d => (zsel d [11, 173]).bind (fun M' => zcl1 E 212 183 M' ls sk [.ref x, a0] h)) := zg_vir (as := [a0]) rfl rfl
theorem zi212_183 {E : zE} {x : Int32} {ls sk : List Value} {h : zH} : zrun zpp E 212 (183, ls, .int x :: sk, h) = if x = 0 then zrun zpp E 212 (213, ls, sk, h) else zrun zpp E 212 (186, ls, sk, h) := zrun_at rfl
theorem zi212_186 {E : zE} {x : Nat} {ls sk : List Value} {h : zH} : zrun zpp E 212 (186, .ref x :: ls, sk, h) = zrun zpp E 212 (187, .ref x :: ls, .ref x :: sk, h) := zrun_at rfl
theorem zi212_186n {E : zE} {ls sk : List Value} {h : zH} : zrun zpp E 212 (186, .null :: ls, sk, h) = zrun zpp E 212 (187, .null :: ls, .null :: sk, h) := zrun_at rfl
theorem zi212_187 {E : zE} {x : Nat} {ls sk : List Value} {h : zH} : zrun zpp E 212 (187, .ref x :: ls, sk, h) = zrun zpp E 212 (188, .ref x :: ls, .ref x :: sk, h) := zrun_at rfl
theorem zi212_187n {E : zE} {ls sk : List Value} {h : zH} : zrun zpp E 212 (187, .null :: ls, sk, h) = zrun zpp E 212 (188, .null :: ls, .null :: sk, h) := zrun_at rfl
theorem zi212_188 {E : zE} {v0 v1 v2 v3 v4 v5 v6 v7 v8 v9 v10 v11 : Value} {x : Int32} {ls sk : List Value} {h : zH} : zrun zpp E 212 (188, v0 :: v1 :: v2 :: v3 :: v4 :: v5 :: v6 :: v7 :: v8 :: v9 :: v10 :: v11 :: .int x :: ls, sk, h) = zrun zpp E 212 (190, v0 :: v1 :: v2 :: v3 :: v4 :: v5 :: v6 :: v7 :: v8 :: v9 :: v10 :: v11 :: .int x :: ls, .int x :: sk, h) := zrun_at rfl
theorem zi212_190 {E : zE} {a0 : Value} {x : Nat} {ls sk : List Value} {h : zH} : zrun zpp E 212 (190, ls, a0 :: .ref x :: sk, h) = (zcls h x).bind (fun d => (zsel d [11, 179]).bind (fun M' => zcl1 E 212 193 M' ls sk [.ref x, a0] h)) := zg_vir (as := [a0]) rfl rfl
theorem zi212_193 {E : zE} {x : Nat} {ls sk : List Value} {h : zH} : zrun zpp E 212 (193, .ref x :: ls, sk, h) = zrun zpp E 212 (194, .ref x :: ls, .ref x :: sk, h) := zrun_at rfl
theorem zi212_193n {E : zE} {ls sk : List Value} {h : zH} : zrun zpp E 212 (193, .null :: ls, sk, h) = zrun zpp E 212 (194, .null :: ls, .null :: sk, h) := zrun_at rfl
theorem zi212_194 {E : zE} {v0 v1 v2 v3 v4 v5 v6 v7 v8 v9 v10 v11 : Value} {x : Int32} {ls sk : List Value} {h : zH} : zrun zpp E 212 (194, v0 :: v1 :: v2 :: v3 :: v4 :: v5 :: v6 :: v7 :: v8 :: v9 :: v10 :: v11 :: .int x :: ls, sk, h) = zrun zpp E 212 (196, v0 :: v1 :: v2 :: v3 :: v4 :: v5 :: v6 :: v7 :: v8 :: v9 :: v10 :: v11 :: .int x :: ls, .int x :: sk, h) := zrun_at rfl
theorem zi212_196 {E : zE} {a0 : Value} {x : Nat} {ls sk : List Value} {h : zH} : zrun zpp E 212 (196, ls, a0 :: .ref x :: sk, h) = (zcls h x).bind (fun d => (zsel d [11, 180]).bind (fun M' => zcl1 E 212 199 M' ls sk [.ref x, a0] h)) := zg_vir (as := [a0]) rfl rfl
theorem zi212_199 {E : zE} {v0 v1 v2 v3 v4 : Value} {x : Int32} {ls sk : List Value} {h : zH} : zrun zpp E 212 (199, v0 :: v1 :: v2 :: v3 :: v4 :: .int x :: ls, sk, h) = zrun zpp E 212 (201, v0 :: v1 :: v2 :: v3 :: v4 :: .int x :: ls, .int x :: sk, h) := zrun_at rfl
theorem zi212_201 {E : zE} {v0 v1 v2 v3 v4 v5 v6 v7 v8 v9 v10 v11 v12 : Value} {x : Int32} {ls sk : List Value} {h : zH} : zrun zpp E 212 (201, v0 :: v1 :: v2 :: v3 :: v4 :: v5 :: v6 :: v7 :: v8 :: v9 :: v10 :: v11 :: v12 :: .int x :: ls, sk, h) = zrun zpp E 212 (203, v0 :: v1 :: v2 :: v3 :: v4 :: v5 :: v6 :: v7 :: v8 :: v9 :: v10 :: v11 :: v12 :: .int x :: ls, .int x :: sk, h) := zrun_at rfl
theorem zi212_203 {E : zE} {a0 a1 a2 a3 : Value} {x : Nat} {ls sk : List Value} {h : zH} : zrun zpp E 212 (203, ls, a3 :: a2 :: a1 :: a0 :: .ref x :: sk, h) = (zcls h x).bind (fun d => (zsel d [11, 186]).bind (fun M' => zcl1 E 212 206 M' ls sk [.ref x, a0, a1, a2, a3] h)) := zg_vir (as := [a0, a1, a2, a3]) rfl rfl
theorem zi212_206 {E : zE} {x : Int32} {ls sk : List Value} {h : zH} : zrun zpp E 212 (206, ls, .int x :: sk, h) = if x = 0 then zrun zpp E 212 (213, ls, sk, h) else zrun zpp E 212 (209, ls, sk, h) := zrun_at rfl
theorem zi212_209 {E : zE} {ls sk : List Value} {h : zH} : zrun zpp E 212 (209, ls, sk, h) = zrun zpp E 212 (210, ls, .int 1 :: sk, h) := zg_iconst rfl ci_1
theorem zi212_210 {E : zE} {ls sk : List Value} {h : zH} : zrun zpp E 212 (210, ls, sk, h) = zrun zpp E 212 (214, ls, sk, h) := zrun_at rfl
theorem zi212_213 {E : zE} {ls sk : List Value} {h : zH} : zrun zpp E 212 (213, ls, sk, h) = zrun zpp E 212 (214, ls, .int 0 :: sk, h) := zg_iconst rfl ci_0
theorem zi212_214 {E : zE} {x : Int32} {ls sk : List Value} {h : zH} : zrun zpp E 212 (214, ls, .int x :: sk, h) = if zfree ls 9 = true then zrun zpp E 212 (216, ls.set 9 (.int x), sk, h) else none := zg_ist rfl (fun _ _ _ => rfl)
theorem zi212_216 {E : zE} {v0 v1 v2 v3 v4 v5 v6 v7 v8 : Value} {x : Int32} {ls sk : List Value} {h : zH} : zrun zpp E 212 (216, v0 :: v1 :: v2 :: v3 :: v4 :: v5 :: v6 :: v7 :: v8 :: .int x :: ls, sk, h) = zrun zpp E 212 (218, v0 :: v1 :: v2 :: v3 :: v4 :: v5 :: v6 :: v7 :: v8 :: .int x :: ls, .int x :: sk, h) := zrun_at rfl
theorem zi212_218 {E : zE} {x : Int32} {ls sk : List Value} {h : zH} : zrun zpp E 212 (218, ls, .int x :: sk, h) = if x = 0 then zrun zpp E 212 (273, ls, sk, h) else zrun zpp E 212 (221, ls, sk, h) := zrun_at rfl
theorem zi212_221 {E : zE} {v0 v1 v2 v3 v4 v5 : Value} {x : Int32} {ls sk : List Value} {h : zH} : zrun zpp E 212 (221, v0 :: v1 :: v2 :: v3 :: v4 :: v5 :: .int x :: ls, sk, h) = zrun zpp E 212 (223, v0 :: v1 :: v2 :: v3 :: v4 :: v5 :: .int x :: ls, .int x :: sk, h) := zrun_at rfl
theorem zi212_223 {E : zE} {x : Nat} {ls sk : List Value} {h : zH} : zrun zpp E 212 (223, .ref x :: ls, sk, h) = zrun zpp E 212 (224, .ref x :: ls, .ref x :: sk, h) := zrun_at rfl
theorem zi212_223n {E : zE} {ls sk : List Value} {h : zH} : zrun zpp E 212 (223, .null :: ls, sk, h) = zrun zpp E 212 (224, .null :: ls, .null :: sk, h) := zrun_at rfl
theorem zi212_224 {E : zE} {x : Nat} {ls sk : List Value} {h : zH} : zrun zpp E 212 (224, .ref x :: ls, sk, h) = zrun zpp E 212 (225, .ref x :: ls, .ref x :: sk, h) := zrun_at rfl
theorem zi212_224n {E : zE} {ls sk : List Value} {h : zH} : zrun zpp E 212 (224, .null :: ls, sk, h) = zrun zpp E 212 (225, .null :: ls, .null :: sk, h) := zrun_at rfl
theorem zi212_225 {E : zE} {v0 v1 v2 v3 v4 v5 v6 v7 v8 v9 v10 v11 : Value} {x : Int32} {ls sk : List Value} {h : zH} : zrun zpp E 212 (225, v0 :: v1 :: v2 :: v3 :: v4 :: v5 :: v6 :: v7 :: v8 :: v9 :: v10 :: v11 :: .int x :: ls, sk, h) = zrun zpp E 212 (227, v0 :: v1 :: v2 :: v3 :: v4 :: v5 :: v6 :: v7 :: v8 :: v9 :: v10 :: v11 :: .int x :: ls, .int x :: sk, h) := zrun_at rfl
theorem zi212_227 {E : zE} {a0 : Value} {x : Nat} {ls sk : List Value} {h : zH} : zrun zpp E 212 (227, ls, a0 :: .ref x :: sk, h) = (zcls h x).bind (fun d => (zsel d [11, 179]).bind (fun M' => zcl1 E 212 230 M' ls sk [.ref x, a0] h)) := zg_vir (as := [a0]) rfl rfl
theorem zi212_230 {E : zE} {v0 v1 v2 v3 v4 : Value} {x : Int32} {ls sk : List Value} {h : zH} : zrun zpp E 212 (230, v0 :: v1 :: v2 :: v3 :: v4 :: .int x :: ls, sk, h) = zrun zpp E 212 (232, v0 :: v1 :: v2 :: v3 :: v4 :: .int x :: ls, .int x :: sk, h) := zrun_at rfl
theorem zi212_232 {E : zE} {v0 v1 v2 v3 v4 v5 v6 v7 v8 v9 v10 v11 v12 : Value} {x : Int32} {ls sk : List Value} {h : zH} : zrun zpp E 212 (232, v0 :: v1 :: v2 :: v3 :: v4 :: v5 :: v6 :: v7 :: v8 :: v9 :: v10 :: v11 :: v12 :: .int x :: ls, sk, h) = zrun zpp E 212 (234, v0 :: v1 :: v2 :: v3 :: v4 :: v5 :: v6 :: v7 :: v8 :: v9 :: v10 :: v11 :: v12 :: .int x :: ls, .int x :: sk, h) := zrun_at rfl
theorem zi212_234 {E : zE} {a0 a1 a2 : Value} {x : Nat} {ls sk : List Value} {h : zH} : zrun zpp E 212 (234, ls, a2 :: a1 :: a0 :: .ref x :: sk, h) = (zcls h x).bind (fun d => (zsel d [11, 187]).bind (fun M' => zcl1 E 212 237 M' ls sk [.ref x, a0, a1, a2] h)) := zg_vir (as := [a0, a1, a2]) rfl rfl
theorem zi212_237 {E : zE} {x y : Int32} {ls sk : List Value} {h : zH} : zrun zpp E 212 (237, ls, .int y :: .int x :: sk, h) = zrun zpp E 212 (238, ls, .int (x + y) :: sk, h) := zrun_at rfl
theorem zi212_238 {E : zE} {x : Int32} {ls sk : List Value} {h : zH} : zrun zpp E 212 (238, ls, .int x :: sk, h) = if zfree ls 6 = true then zrun zpp E 212 (240, ls.set 6 (.int x), sk, h) else none := zg_ist rfl (fun _ _ _ => rfl)
theorem zi212_240 {E : zE} {v0 v1 v2 v3 v4 v5 v6 : Value} {x : Int32} {ls sk : List Value} {h : zH} : zrun zpp E 212 (240, v0 :: v1 :: v2 :: v3 :: v4 :: v5 :: v6 :: .int x :: ls, sk, h) = zrun zpp E 212 (242, v0 :: v1 :: v2 :: v3 :: v4 :: v5 :: v6 :: .int x :: ls, .int x :: sk, h) := zrun_at rfl
theorem zi212_242 {E : zE} {x : Nat} {ls sk : List Value} {h : zH} : zrun zpp E 212 (242, .ref x :: ls, sk, h) = zrun zpp E 212 (243, .ref x :: ls, .ref x :: sk, h) := zrun_at rfl
theorem zi212_242n {E : zE} {ls sk : List Value} {h : zH} : zrun zpp E 212 (242, .null :: ls, sk, h) = zrun zpp E 212 (243, .null :: ls, .null :: sk, h) := zrun_at rfl
theorem zi212_243 {E : zE} {x : Nat} {ls sk : List Value} {h : zH} : zrun zpp E 212 (243, .ref x :: ls, sk, h) = zrun zpp E 212 (244, .ref x :: ls, .ref x :: sk, h) := zrun_at rfl
theorem zi212_243n {E : zE} {ls sk : List Value} {h : zH} : zrun zpp E 212 (243, .null :: ls, sk, h) = zrun zpp E 212 (244, .null :: ls, .null :: sk, h) := zrun_at rfl
theorem zi212_244 {E : zE} {v0 v1 v2 v3 v4 v5 v6 v7 v8 v9 v10 v11 : Value} {x : Int32} {ls sk : List Value} {h : zH} : zrun zpp E 212 (244, v0 :: v1 :: v2 :: v3 :: v4 :: v5 :: v6 :: v7 :: v8 :: v9 :: v10 :: v11 :: .int x :: ls, sk, h) = zrun zpp E 212 (246, v0 :: v1 :: v2 :: v3 :: v4 :: v5 :: v6 :: v7 :: v8 :: v9 :: v10 :: v11 :: .int x :: ls, .int x :: sk, h) := zrun_at rfl
theorem zi212_246 {E : zE} {a0 : Value} {x : Nat} {ls sk : List Value} {h : zH} : zrun zpp E 212 (246, ls, a0 :: .ref x :: sk, h) = (zcls h x).bind (fun d => (zsel d [11, 179]).bind (fun M' => zcl1 E 212 249 M' ls sk [.ref x, a0] h)) := zg_vir (as := [a0]) rfl rfl
theorem zi212_249 {E : zE} {v0 v1 v2 v3 v4 : Value} {x : Int32} {ls sk : List Value} {h : zH} : zrun zpp E 212 (249, v0 :: v1 :: v2 :: v3 :: v4 :: .int x :: ls, sk, h) = zrun zpp E 212 (251, v0 :: v1 :: v2 :: v3 :: v4 :: .int x :: ls, .int x :: sk, h) := zrun_at rfl
theorem zi212_251 {E : zE} {v0 v1 v2 v3 v4 v5 v6 v7 v8 v9 v10 v11 v12 : Value} {x : Int32} {ls sk : List Value} {h : zH} : zrun zpp E 212 (251, v0 :: v1 :: v2 :: v3 :: v4 :: v5 :: v6 :: v7 :: v8 :: v9 :: v10 :: v11 :: v12 :: .int x :: ls, sk, h) = zrun zpp E 212 (253, v0 :: v1 :: v2 :: v3 :: v4 :: v5 :: v6 :: v7 :: v8 :: v9 :: v10 :: v11 :: v12 :: .int x :: ls, .int x :: sk, h) := zrun_at rfl
theorem zi212_253 {E : zE} {a0 a1 a2 : Value} {x : Nat} {ls sk : List Value} {h : zH} : zrun zpp E 212 (253, ls, a2 :: a1 :: a0 :: .ref x :: sk, h) = (zcls h x).bind (fun d => (zsel d [11, 188]).bind (fun M' => zcl1 E 212 256 M' ls sk [.ref x, a0, a1, a2] h)) := zg_vir (as := [a0, a1, a2]) rfl rfl
theorem zi212_256 {E : zE} {x y : Int32} {ls sk : List Value} {h : zH} : zrun zpp E 212 (256, ls, .int y :: .int x :: sk, h) = zrun zpp E 212 (257, ls, .int (x + y) :: sk, h) := zrun_at rfl
theorem zi212_257 {E : zE} {x : Int32} {ls sk : List Value} {h : zH} : zrun zpp E 212 (257, ls, .int x :: sk, h) = if zfree ls 7 = true then zrun zpp E 212 (259, ls.set 7 (.int x), sk, h) else none := zg_ist rfl (fun _ _ _ => rfl)
theorem zi212_259 {E : zE} {v0 v1 v2 v3 v4 : Value} {x : Int32} {ls sk : List Value} {h : zH} : zrun zpp E 212 (259, v0 :: v1 :: v2 :: v3 :: v4 :: .int x :: ls, sk, h) = zrun zpp E 212 (261, v0 :: v1 :: v2 :: v3 :: v4 :: .int x :: ls, .int x :: sk, h) := zrun_at rfl
theorem zi212_261 {E : zE} {ls sk : List Value} {h : zH} : zrun zpp E 212 (261, ls, sk, h) = zrun zpp E 212 (262, ls, .int 1 :: sk, h) := zg_iconst rfl ci_1
theorem zi212_262 {E : zE} {v0 v1 v2 v3 v4 v5 v6 v7 v8 v9 v10 v11 v12 : Value} {x : Int32} {ls sk : List Value} {h : zH} : zrun zpp E 212 (262, v0 :: v1 :: v2 :: v3 :: v4 :: v5 :: v6 :: v7 :: v8 :: v9 :: v10 :: v11 :: v12 :: .int x :: ls, sk, h) = zrun zpp E 212 (264, v0 :: v1 :: v2 :: v3 :: v4 :: v5 :: v6 :: v7 :: v8 :: v9 :: v10 :: v11 :: v12 :: .int x :: ls, .int x :: sk, h) := zrun_at rfl
theorem zi212_264 {E : zE} {x y : Int32} {ls sk : List Value} {h : zH} : zrun zpp E 212 (264, ls, .int y :: .int x :: sk, h) = zrun zpp E 212 (265, ls, .int (x <<< (y &&& 31)) :: sk, h) := zrun_at rfl
theorem zi212_265 {E : zE} {ls sk : List Value} {h : zH} : zrun zpp E 212 (265, ls, sk, h) = zrun zpp E 212 (266, ls, .int (-1) :: sk, h) := zg_iconst rfl ci_m1
theorem zi212_266 {E : zE} {x y : Int32} {ls sk : List Value} {h : zH} : zrun zpp E 212 (266, ls, .int y :: .int x :: sk, h) = zrun zpp E 212 (267, ls, .int (x ^^^ y) :: sk, h) := zrun_at rfl
theorem zi212_267 {E : zE} {x y : Int32} {ls sk : List Value} {h : zH} : zrun zpp E 212 (267, ls, .int y :: .int x :: sk, h) = zrun zpp E 212 (268, ls, .int (x &&& y) :: sk, h) := zrun_at rfl
theorem zi212_268 {E : zE} {x : Int32} {ls sk : List Value} {h : zH} : zrun zpp E 212 (268, ls, .int x :: sk, h) = if zfree ls 5 = true then zrun zpp E 212 (270, ls.set 5 (.int x), sk, h) else none := zg_ist rfl (fun _ _ _ => rfl)
theorem zi212_270 {E : zE} {v0 v1 v2 v3 v4 v5 v6 v7 : Value} {x : Int32} {ls sk : List Value} {h : zH} : zrun zpp E 212 (270, v0 :: v1 :: v2 :: v3 :: v4 :: v5 :: v6 :: v7 :: .int x :: ls, sk, h) = if zfree (v0 :: v1 :: v2 :: v3 :: v4 :: v5 :: v6 :: v7 :: .int x :: ls) 8 = true then zrun zpp E 212 (273, v0 :: v1 :: v2 :: v3 :: v4 :: v5 :: v6 :: v7 :: .int (x + 1) :: ls, sk, h) else none := by rw [← ci_1]; exact zrun_at rfl
theorem zi212_273 {E : zE} {v0 v1 v2 v3 v4 v5 v6 v7 v8 v9 : Value} {x : Int32} {ls sk : List Value} {h : zH} : zrun zpp E 212 (273, v0 :: v1 :: v2 :: v3 :: v4 :: v5 :: v6 :: v7 :: v8 :: v9 :: .int x :: ls, sk, h) = if zfree (v0 :: v1 :: v2 :: v3 :: v4 :: v5 :: v6 :: v7 :: v8 :: v9 :: .int x :: ls) 10 = true then zrun zpp E 212 (276, v0 :: v1 :: v2 :: v3 :: v4 :: v5 :: v6 :: v7 :: v8 :: v9 :: .int (x + 1) :: ls, sk, h) else none := by rw [← ci_1]; exact zrun_at rfl
theorem zi212_276 {E : zE} {ls sk : List Value} {h : zH} : zrun zpp E 212 (276, ls, sk, h) = zrun zpp E 212 (120, ls, sk, h) := zrun_at rfl
theorem zi212_279 {E : zE} {v0 v1 v2 v3 : Value} {x : Int32} {ls sk : List Value} {h : zH} : zrun zpp E 212 (279, v0 :: v1 :: v2 :: v3 :: .int x :: ls, sk, h) = zrun zpp E 212 (281, v0 :: v1 :: v2 :: v3 :: .int x :: ls, .int x :: sk, h) := zrun_at rfl
theorem zi212_281 {E : zE} {x : Int32} {ls sk : List Value} {h : zH} : zrun zpp E 212 (281, ls, .int x :: sk, h) = if x = 0 then zrun zpp E 212 (284, ls, sk, h) else zrun zpp E 212 (289, ls, sk, h) := zrun_at rfl
theorem zi212_284 {E : zE} {v0 v1 v2 v3 v4 v5 v6 v7 : Value} {x : Int32} {ls sk : List Value} {h : zH} : zrun zpp E 212 (284, v0 :: v1 :: v2 :: v3 :: v4 :: v5 :: v6 :: v7 :: .int x :: ls, sk, h) = zrun zpp E 212 (286, v0 :: v1 :: v2 :: v3 :: v4 :: v5 :: v6 :: v7 :: .int x :: ls, .int x :: sk, h) := zrun_at rfl
theorem zi212_286 {E : zE} {ls sk : List Value} {h : zH} : zrun zpp E 212 (286, ls, sk, h) = zrun zpp E 212 (302, ls, sk, h) := zrun_at rfl
theorem zi212_289 {E : zE} {v0 v1 v2 v3 : Value} {x : Int32} {ls sk : List Value} {h : zH} : zrun zpp E 212 (289, v0 :: v1 :: v2 :: v3 :: .int x :: ls, sk, h) = zrun zpp E 212 (291, v0 :: v1 :: v2 :: v3 :: .int x :: ls, .int x :: sk, h) := zrun_at rfl
theorem zi212_291 {E : zE} {ls sk : List Value} {h : zH} : zrun zpp E 212 (291, ls, sk, h) = zrun zpp E 212 (292, ls, .int 1 :: sk, h) := zg_iconst rfl ci_1
theorem zi212_292 {E : zE} {x y : Int32} {ls sk : List Value} {h : zH} : zrun zpp E 212 (292, ls, .int y :: .int x :: sk, h) = if x = y then zrun zpp E 212 (295, ls, sk, h) else zrun zpp E 212 (300, ls, sk, h) := zrun_at rfl
theorem zi212_295 {E : zE} {v0 v1 v2 v3 v4 v5 : Value} {x : Int32} {ls sk : List Value} {h : zH} : zrun zpp E 212 (295, v0 :: v1 :: v2 :: v3 :: v4 :: v5 :: .int x :: ls, sk, h) = zrun zpp E 212 (297, v0 :: v1 :: v2 :: v3 :: v4 :: v5 :: .int x :: ls, .int x :: sk, h) := zrun_at rfl
theorem zi212_297 {E : zE} {ls sk : List Value} {h : zH} : zrun zpp E 212 (297, ls, sk, h) = zrun zpp E 212 (302, ls, sk, h) := zrun_at rfl
theorem zi212_300 {E : zE} {v0 v1 v2 v3 v4 v5 v6 : Value} {x : Int32} {ls sk : List Value} {h : zH} : zrun zpp E 212 (300, v0 :: v1 :: v2 :: v3 :: v4 :: v5 :: v6 :: .int x :: ls, sk, h) = zrun zpp E 212 (302, v0 :: v1 :: v2 :: v3 :: v4 :: v5 :: v6 :: .int x :: ls, .int x :: sk, h) := zrun_at rfl
theorem zi212_302 {E : zE} {x : Int32} {ls sk : List Value} {h : zH} : zrun zpp E 212 (302, ls, [.int x], h) = some (some (.int x), h) := zrun_at rfl
-- 213 NineDownModel.who
theorem zi213_0 {E : zE} {x : Nat} {ls sk : List Value} {h : zH} : zrun zpp E 213 (0, .ref x :: ls, sk, h) = zrun zpp E 213 (1, .ref x :: ls, .ref x :: sk, h) := zrun_at rfl
theorem zi213_0n {E : zE} {ls sk : List Value} {h : zH} : zrun zpp E 213 (0, .null :: ls, sk, h) = zrun zpp E 213 (1, .null :: ls, .null :: sk, h) := zrun_at rfl
theorem zi213_1 {E : zE} {ls sk : List Value} {h : zH} : zrun zpp E 213 (1, ls, sk, h) = zrun zpp E 213 (2, ls, .int 0 :: sk, h) := zg_iconst rfl ci_0
theorem zi213_2 {E : zE} {x : Nat} {v : Value} {ls sk : List Value} {h : zH} : zrun zpp E 213 (2, ls, v :: .ref x :: sk, h) = (zstf [11] 0 h x 0 v).bind (fun h' => zrun zpp E 213 (5, ls, sk, h')) := zg_putf rfl
theorem zi213_5 {E : zE} {x : Nat} {ls sk : List Value} {h : zH} : zrun zpp E 213 (5, .ref x :: ls, sk, h) = zrun zpp E 213 (6, .ref x :: ls, .ref x :: sk, h) := zrun_at rfl
theorem zi213_5n {E : zE} {ls sk : List Value} {h : zH} : zrun zpp E 213 (5, .null :: ls, sk, h) = zrun zpp E 213 (6, .null :: ls, .null :: sk, h) := zrun_at rfl
theorem zi213_6 {E : zE} {v0 : Value} {x : Int32} {ls sk : List Value} {h : zH} : zrun zpp E 213 (6, v0 :: .int x :: ls, sk, h) = zrun zpp E 213 (7, v0 :: .int x :: ls, .int x :: sk, h) := zrun_at rfl
theorem zi213_7 {E : zE} {x : Int32} {ls sk : List Value} {h : zH} : zrun zpp E 213 (7, ls, .int x :: sk, h) = zrun zpp E 213 (8, ls, .long x.toInt64 :: sk, h) := zrun_at rfl
theorem zi213_8 {E : zE} {a0 : Value} {x : Nat} {ls sk : List Value} {h : zH} : zrun zpp E 213 (8, ls, a0 :: .ref x :: sk, h) = (zcls h x).bind (fun d => (zsel d [11, 174]).bind (fun M' => zcl1 E 213 11 M' ls sk [.ref x, a0] h)) := zg_vir (as := [a0]) rfl rfl
theorem zi213_11 {E : zE} {x : Int32} {ls sk : List Value} {h : zH} : zrun zpp E 213 (11, ls, .int x :: sk, h) = if x = 0 then zrun zpp E 213 (34, ls, sk, h) else zrun zpp E 213 (14, ls, sk, h) := zrun_at rfl
theorem zi213_14 {E : zE} {v0 v1 : Value} {x : Int32} {ls sk : List Value} {h : zH} : zrun zpp E 213 (14, v0 :: v1 :: .int x :: ls, sk, h) = zrun zpp E 213 (15, v0 :: v1 :: .int x :: ls, .int x :: sk, h) := zrun_at rfl
theorem zi213_15 {E : zE} {a0 : Value} {ls sk : List Value} {h : zH} : zrun zpp E 213 (15, ls, a0 :: sk, h) = zcl1 E 213 18 151 ls sk [a0] h := zg_inv (as := [a0]) rfl rfl
theorem zi213_18 {E : zE} {x : Int32} {ls sk : List Value} {h : zH} : zrun zpp E 213 (18, ls, .int x :: sk, h) = if x = 0 then zrun zpp E 213 (34, ls, sk, h) else zrun zpp E 213 (21, ls, sk, h) := zrun_at rfl
theorem zi213_21 {E : zE} {v0 v1 v2 v3 : Value} {x : Int32} {ls sk : List Value} {h : zH} : zrun zpp E 213 (21, v0 :: v1 :: v2 :: v3 :: .int x :: ls, sk, h) = zrun zpp E 213 (23, v0 :: v1 :: v2 :: v3 :: .int x :: ls, .int x :: sk, h) := zrun_at rfl
theorem zi213_23 {E : zE} {x : Int32} {ls sk : List Value} {h : zH} : zrun zpp E 213 (23, ls, .int x :: sk, h) = zrun zpp E 213 (24, ls, .long x.toInt64 :: sk, h) := zrun_at rfl
theorem zi213_24 {E : zE} {ls sk : List Value} {h : zH} : zrun zpp E 213 (24, ls, sk, h) = zrun zpp E 213 (25, ls, .long 1 :: sk, h) := zg_lconst rfl rfl
theorem zi213_25 {E : zE} {ls sk : List Value} {h : zH} : zrun zpp E 213 (25, ls, sk, h) = zrun zpp E 213 (28, ls, .long 8 :: sk, h) := zg_ldc2_w rfl cj_8
theorem zi213_28 {E : zE} {a0 a1 a2 : Value} {ls sk : List Value} {h : zH} : zrun zpp E 213 (28, ls, a2 :: a1 :: a0 :: sk, h) = zcl1 E 213 31 149 ls sk [a0, a1, a2] h := zg_inv (as := [a0, a1, a2]) rfl rfl
theorem zi213_31 {E : zE} {x : Int32} {ls sk : List Value} {h : zH} : zrun zpp E 213 (31, ls, .int x :: sk, h) = if x = 0 then zrun zpp E 213 (34, ls, sk, h) else zrun zpp E 213 (37, ls, sk, h) := zrun_at rfl
theorem zi213_34 {E : zE} {ls sk : List Value} {h : zH} : zrun zpp E 213 (34, ls, sk, h) = zrun zpp E 213 (36, ls, .int (-1000001) :: sk, h) := zg_ldc rfl ci_m1000001
theorem zi213_36 {E : zE} {x : Int32} {ls sk : List Value} {h : zH} : zrun zpp E 213 (36, ls, [.int x], h) = some (some (.int x), h) := zrun_at rfl
theorem zi213_37 {E : zE} {x : Nat} {ls sk : List Value} {h : zH} : zrun zpp E 213 (37, .ref x :: ls, sk, h) = zrun zpp E 213 (38, .ref x :: ls, .ref x :: sk, h) := zrun_at rfl
theorem zi213_37n {E : zE} {ls sk : List Value} {h : zH} : zrun zpp E 213 (37, .null :: ls, sk, h) = zrun zpp E 213 (38, .null :: ls, .null :: sk, h) := zrun_at rfl
theorem zi213_38 {E : zE} {x : Nat} {ls sk : List Value} {h : zH} : zrun zpp E 213 (38, ls, .ref x :: sk, h) = (zfld [11] h x 2).bind (fun v => zrun zpp E 213 (41, ls, v :: sk, h)) := zg_getf rfl
theorem zi213_41 {E : zE} {v0 v1 : Value} {x : Int32} {ls sk : List Value} {h : zH} : zrun zpp E 213 (41, v0 :: v1 :: .int x :: ls, sk, h) = zrun zpp E 213 (42, v0 :: v1 :: .int x :: ls, .int x :: sk, h) := zrun_at rfl
theorem zi213_42 {E : zE} {x : Nat} {i : Int32} {ls sk : List Value} {h : zH} : zrun zpp E 213 (42, ls, .int i :: .ref x :: sk, h) = (zarr 0 h x i).bind (fun v => zrun zpp E 213 (43, ls, .int v :: sk, h)) := zg_iald rfl
theorem zi213_43 {E : zE} {x : Int32} {ls sk : List Value} {h : zH} : zrun zpp E 213 (43, ls, .int x :: sk, h) = if 0 ≤ x then zrun zpp E 213 (52, ls, sk, h) else zrun zpp E 213 (46, ls, sk, h) := zrun_at rfl
theorem zi213_46 {E : zE} {x : Nat} {ls sk : List Value} {h : zH} : zrun zpp E 213 (46, .ref x :: ls, sk, h) = zrun zpp E 213 (47, .ref x :: ls, .ref x :: sk, h) := zrun_at rfl
theorem zi213_46n {E : zE} {ls sk : List Value} {h : zH} : zrun zpp E 213 (46, .null :: ls, sk, h) = zrun zpp E 213 (47, .null :: ls, .null :: sk, h) := zrun_at rfl
theorem zi213_47 {E : zE} {ls sk : List Value} {h : zH} : zrun zpp E 213 (47, ls, sk, h) = zrun zpp E 213 (48, ls, .int 1 :: sk, h) := zg_iconst rfl ci_1
theorem zi213_48 {E : zE} {a0 : Value} {x : Nat} {ls sk : List Value} {h : zH} : zrun zpp E 213 (48, ls, a0 :: .ref x :: sk, h) = (zcls h x).bind (fun d => (zsel d [11, 150]).bind (fun M' => zcl1 E 213 51 M' ls sk [.ref x, a0] h)) := zg_vir (as := [a0]) rfl rfl
theorem zi213_51 {E : zE} {x : Int32} {ls sk : List Value} {h : zH} : zrun zpp E 213 (51, ls, [.int x], h) = some (some (.int x), h) := zrun_at rfl
theorem zi213_52 {E : zE} {v0 v1 v2 : Value} {x : Int32} {ls sk : List Value} {h : zH} : zrun zpp E 213 (52, v0 :: v1 :: v2 :: .int x :: ls, sk, h) = zrun zpp E 213 (53, v0 :: v1 :: v2 :: .int x :: ls, .int x :: sk, h) := zrun_at rfl
theorem zi213_53 {E : zE} {x : Int32} {ls sk : List Value} {h : zH} : zrun zpp E 213 (53, ls, .int x :: sk, h) = if x < 0 then zrun zpp E 213 (75, ls, sk, h) else zrun zpp E 213 (56, ls, sk, h) := zrun_at rfl
theorem zi213_56 {E : zE} {v0 v1 v2 : Value} {x : Int32} {ls sk : List Value} {h : zH} : zrun zpp E 213 (56, v0 :: v1 :: v2 :: .int x :: ls, sk, h) = zrun zpp E 213 (57, v0 :: v1 :: v2 :: .int x :: ls, .int x :: sk, h) := zrun_at rfl
theorem zi213_57 {E : zE} {x : Int32} {ls sk : List Value} {h : zH} : zrun zpp E 213 (57, ls, .int x :: sk, h) = zrun zpp E 213 (58, ls, .long x.toInt64 :: sk, h) := zrun_at rfl
theorem zi213_58 {E : zE} {ls sk : List Value} {h : zH} : zrun zpp E 213 (58, ls, sk, h) = zrun zpp E 213 (59, ls, .int 2 :: sk, h) := zg_iconst rfl ci_2
theorem zi213_59 {E : zE} {v0 v1 v2 v3 : Value} {x : Int32} {ls sk : List Value} {h : zH} : zrun zpp E 213 (59, v0 :: v1 :: v2 :: v3 :: .int x :: ls, sk, h) = zrun zpp E 213 (61, v0 :: v1 :: v2 :: v3 :: .int x :: ls, .int x :: sk, h) := zrun_at rfl
theorem zi213_61 {E : zE} {x y : Int32} {ls sk : List Value} {h : zH} : zrun zpp E 213 (61, ls, .int y :: .int x :: sk, h) = zrun zpp E 213 (62, ls, .int (x * y) :: sk, h) := zrun_at rfl
theorem zi213_62 {E : zE} {x : Int32} {ls sk : List Value} {h : zH} : zrun zpp E 213 (62, ls, .int x :: sk, h) = zrun zpp E 213 (63, ls, .long x.toInt64 :: sk, h) := zrun_at rfl
theorem zi213_63 {E : zE} {x y : Int64} {ls sk : List Value} {h : zH} : zrun zpp E 213 (63, ls, .long y :: .long x :: sk, h) = zrun zpp E 213 (64, ls, .long (x + y) :: sk, h) := zrun_at rfl
theorem zi213_64 {E : zE} {x : Nat} {ls sk : List Value} {h : zH} : zrun zpp E 213 (64, .ref x :: ls, sk, h) = zrun zpp E 213 (65, .ref x :: ls, .ref x :: sk, h) := zrun_at rfl
theorem zi213_64n {E : zE} {ls sk : List Value} {h : zH} : zrun zpp E 213 (64, .null :: ls, sk, h) = zrun zpp E 213 (65, .null :: ls, .null :: sk, h) := zrun_at rfl
theorem zi213_65 {E : zE} {x : Nat} {ls sk : List Value} {h : zH} : zrun zpp E 213 (65, ls, .ref x :: sk, h) = (zfld [11] h x 3).bind (fun v => zrun zpp E 213 (68, ls, v :: sk, h)) := zg_getf rfl
theorem zi213_68 {E : zE} {v0 v1 : Value} {x : Int32} {ls sk : List Value} {h : zH} : zrun zpp E 213 (68, v0 :: v1 :: .int x :: ls, sk, h) = zrun zpp E 213 (69, v0 :: v1 :: .int x :: ls, .int x :: sk, h) := zrun_at rfl
theorem zi213_69 {E : zE} {x : Nat} {i : Int32} {ls sk : List Value} {h : zH} : zrun zpp E 213 (69, ls, .int i :: .ref x :: sk, h) = (zarr 0 h x i).bind (fun v => zrun zpp E 213 (70, ls, .int v :: sk, h)) := zg_iald rfl
theorem zi213_70 {E : zE} {x : Int32} {ls sk : List Value} {h : zH} : zrun zpp E 213 (70, ls, .int x :: sk, h) = zrun zpp E 213 (71, ls, .long x.toInt64 :: sk, h) := zrun_at rfl
theorem zi213_71 {E : zE} {x y : Int64} {ls sk : List Value} {h : zH} : zrun zpp E 213 (71, ls, .long y :: .long x :: sk, h) = zrun zpp E 213 (72, ls, .int (lg_cmp x y) :: sk, h) := zrun_at rfl
theorem zi213_72 {E : zE} {x : Int32} {ls sk : List Value} {h : zH} : zrun zpp E 213 (72, ls, .int x :: sk, h) = if x ≤ 0 then zrun zpp E 213 (81, ls, sk, h) else zrun zpp E 213 (75, ls, sk, h) := zrun_at rfl
theorem zi213_75 {E : zE} {x : Nat} {ls sk : List Value} {h : zH} : zrun zpp E 213 (75, .ref x :: ls, sk, h) = zrun zpp E 213 (76, .ref x :: ls, .ref x :: sk, h) := zrun_at rfl
theorem zi213_75n {E : zE} {ls sk : List Value} {h : zH} : zrun zpp E 213 (75, .null :: ls, sk, h) = zrun zpp E 213 (76, .null :: ls, .null :: sk, h) := zrun_at rfl
theorem zi213_76 {E : zE} {ls sk : List Value} {h : zH} : zrun zpp E 213 (76, ls, sk, h) = zrun zpp E 213 (77, ls, .int 2 :: sk, h) := zg_iconst rfl ci_2
theorem zi213_77 {E : zE} {a0 : Value} {x : Nat} {ls sk : List Value} {h : zH} : zrun zpp E 213 (77, ls, a0 :: .ref x :: sk, h) = (zcls h x).bind (fun d => (zsel d [11, 150]).bind (fun M' => zcl1 E 213 80 M' ls sk [.ref x, a0] h)) := zg_vir (as := [a0]) rfl rfl
theorem zi213_80 {E : zE} {x : Int32} {ls sk : List Value} {h : zH} : zrun zpp E 213 (80, ls, [.int x], h) = some (some (.int x), h) := zrun_at rfl
theorem zi213_81 {E : zE} {ls sk : List Value} {h : zH} : zrun zpp E 213 (81, ls, sk, h) = zrun zpp E 213 (82, ls, .int 0 :: sk, h) := zg_iconst rfl ci_0
theorem zi213_82 {E : zE} {x : Int32} {ls sk : List Value} {h : zH} : zrun zpp E 213 (82, ls, .int x :: sk, h) = if zfree ls 5 = true then zrun zpp E 213 (84, ls.set 5 (.int x), sk, h) else none := zg_ist rfl (fun _ _ _ => rfl)
theorem zi213_84 {E : zE} {v0 v1 v2 v3 v4 : Value} {x : Int32} {ls sk : List Value} {h : zH} : zrun zpp E 213 (84, v0 :: v1 :: v2 :: v3 :: v4 :: .int x :: ls, sk, h) = zrun zpp E 213 (86, v0 :: v1 :: v2 :: v3 :: v4 :: .int x :: ls, .int x :: sk, h) := zrun_at rfl
theorem zi213_86 {E : zE} {v0 v1 v2 v3 : Value} {x : Int32} {ls sk : List Value} {h : zH} : zrun zpp E 213 (86, v0 :: v1 :: v2 :: v3 :: .int x :: ls, sk, h) = zrun zpp E 213 (88, v0 :: v1 :: v2 :: v3 :: .int x :: ls, .int x :: sk, h) := zrun_at rfl
theorem zi213_88 {E : zE} {x y : Int32} {ls sk : List Value} {h : zH} : zrun zpp E 213 (88, ls, .int y :: .int x :: sk, h) = if y ≤ x then zrun zpp E 213 (124, ls, sk, h) else zrun zpp E 213 (91, ls, sk, h) := zrun_at rfl
theorem zi213_91 {E : zE} {x : Nat} {ls sk : List Value} {h : zH} : zrun zpp E 213 (91, .ref x :: ls, sk, h) = zrun zpp E 213 (92, .ref x :: ls, .ref x :: sk, h) := zrun_at rfl
theorem zi213_91n {E : zE} {ls sk : List Value} {h : zH} : zrun zpp E 213 (91, .null :: ls, sk, h) = zrun zpp E 213 (92, .null :: ls, .null :: sk, h) := zrun_at rfl
theorem zi213_92 {E : zE} {x : Nat} {ls sk : List Value} {h : zH} : zrun zpp E 213 (92, .ref x :: ls, sk, h) = zrun zpp E 213 (93, .ref x :: ls, .ref x :: sk, h) := zrun_at rfl
theorem zi213_92n {E : zE} {ls sk : List Value} {h : zH} : zrun zpp E 213 (92, .null :: ls, sk, h) = zrun zpp E 213 (93, .null :: ls, .null :: sk, h) := zrun_at rfl
theorem zi213_93 {E : zE} {x : Nat} {ls sk : List Value} {h : zH} : zrun zpp E 213 (93, ls, .ref x :: sk, h) = (zfld [11] h x 4).bind (fun v => zrun zpp E 213 (96, ls, v :: sk, h)) := zg_getf rfl
theorem zi213_96 {E : zE} {ls sk : List Value} {h : zH} : zrun zpp E 213 (96, ls, sk, h) = zrun zpp E 213 (98, ls, .int 40 :: sk, h) := zg_bipush rfl ci_40
theorem zi213_98 {E : zE} {v0 v1 : Value} {x : Int32} {ls sk : List Value} {h : zH} : zrun zpp E 213 (98, v0 :: v1 :: .int x :: ls, sk, h) = zrun zpp E 213 (99, v0 :: v1 :: .int x :: ls, .int x :: sk, h) := zrun_at rfl
theorem zi213_99 {E : zE} {x y : Int32} {ls sk : List Value} {h : zH} : zrun zpp E 213 (99, ls, .int y :: .int x :: sk, h) = zrun zpp E 213 (100, ls, .int (x * y) :: sk, h) := zrun_at rfl
theorem zi213_100 {E : zE} {v0 v1 v2 : Value} {x : Int32} {ls sk : List Value} {h : zH} : zrun zpp E 213 (100, v0 :: v1 :: v2 :: .int x :: ls, sk, h) = zrun zpp E 213 (101, v0 :: v1 :: v2 :: .int x :: ls, .int x :: sk, h) := zrun_at rfl
theorem zi213_101 {E : zE} {x y : Int32} {ls sk : List Value} {h : zH} : zrun zpp E 213 (101, ls, .int y :: .int x :: sk, h) = zrun zpp E 213 (102, ls, .int (x + y) :: sk, h) := zrun_at rfl
theorem zi213_102 {E : zE} {ls sk : List Value} {h : zH} : zrun zpp E 213 (102, ls, sk, h) = zrun zpp E 213 (103, ls, .int 2 :: sk, h) := zg_iconst rfl ci_2
theorem zi213_103 {E : zE} {v0 v1 v2 v3 v4 : Value} {x : Int32} {ls sk : List Value} {h : zH} : zrun zpp E 213 (103, v0 :: v1 :: v2 :: v3 :: v4 :: .int x :: ls, sk, h) = zrun zpp E 213 (105, v0 :: v1 :: v2 :: v3 :: v4 :: .int x :: ls, .int x :: sk, h) := zrun_at rfl
theorem zi213_105 {E : zE} {x y : Int32} {ls sk : List Value} {h : zH} : zrun zpp E 213 (105, ls, .int y :: .int x :: sk, h) = zrun zpp E 213 (106, ls, .int (x * y) :: sk, h) := zrun_at rfl
theorem zi213_106 {E : zE} {x y : Int32} {ls sk : List Value} {h : zH} : zrun zpp E 213 (106, ls, .int y :: .int x :: sk, h) = zrun zpp E 213 (107, ls, .int (x + y) :: sk, h) := zrun_at rfl
theorem zi213_107 {E : zE} {x : Nat} {i : Int32} {ls sk : List Value} {h : zH} : zrun zpp E 213 (107, ls, .int i :: .ref x :: sk, h) = (zarr 0 h x i).bind (fun v => zrun zpp E 213 (108, ls, .int v :: sk, h)) := zg_iald rfl
theorem zi213_108 {E : zE} {x : Int32} {ls sk : List Value} {h : zH} : zrun zpp E 213 (108, ls, .int x :: sk, h) = zrun zpp E 213 (109, ls, .long x.toInt64 :: sk, h) := zrun_at rfl
theorem zi213_109 {E : zE} {a0 : Value} {x : Nat} {ls sk : List Value} {h : zH} : zrun zpp E 213 (109, ls, a0 :: .ref x :: sk, h) = (zcls h x).bind (fun d => (zsel d [11, 173]).bind (fun M' => zcl1 E 213 112 M' ls sk [.ref x, a0] h)) := zg_vir (as := [a0]) rfl rfl
theorem zi213_112 {E : zE} {x : Int32} {ls sk : List Value} {h : zH} : zrun zpp E 213 (112, ls, .int x :: sk, h) = if x = 0 then zrun zpp E 213 (115, ls, sk, h) else zrun zpp E 213 (118, ls, sk, h) := zrun_at rfl
theorem zi213_115 {E : zE} {ls sk : List Value} {h : zH} : zrun zpp E 213 (115, ls, sk, h) = zrun zpp E 213 (117, ls, .int (-1000001) :: sk, h) := zg_ldc rfl ci_m1000001
theorem zi213_117 {E : zE} {x : Int32} {ls sk : List Value} {h : zH} : zrun zpp E 213 (117, ls, [.int x], h) = some (some (.int x), h) := zrun_at rfl
theorem zi213_118 {E : zE} {v0 v1 v2 v3 v4 : Value} {x : Int32} {ls sk : List Value} {h : zH} : zrun zpp E 213 (118, v0 :: v1 :: v2 :: v3 :: v4 :: .int x :: ls, sk, h) = if zfree (v0 :: v1 :: v2 :: v3 :: v4 :: .int x :: ls) 5 = true then zrun zpp E 213 (121, v0 :: v1 :: v2 :: v3 :: v4 :: .int (x + 1) :: ls, sk, h) else none := by rw [← ci_1]; exact zrun_at rfl
theorem zi213_121 {E : zE} {ls sk : List Value} {h : zH} : zrun zpp E 213 (121, ls, sk, h) = zrun zpp E 213 (84, ls, sk, h) := zrun_at rfl
theorem zi213_124 {E : zE} {x : Nat} {ls sk : List Value} {h : zH} : zrun zpp E 213 (124, .ref x :: ls, sk, h) = zrun zpp E 213 (125, .ref x :: ls, .ref x :: sk, h) := zrun_at rfl
theorem zi213_124n {E : zE} {ls sk : List Value} {h : zH} : zrun zpp E 213 (124, .null :: ls, sk, h) = zrun zpp E 213 (125, .null :: ls, .null :: sk, h) := zrun_at rfl
theorem zi213_125 {E : zE} {ls sk : List Value} {h : zH} : zrun zpp E 213 (125, ls, sk, h) = zrun zpp E 213 (126, ls, .int 0 :: sk, h) := zg_iconst rfl ci_0
theorem zi213_126 {E : zE} {x : Nat} {v : Value} {ls sk : List Value} {h : zH} : zrun zpp E 213 (126, ls, v :: .ref x :: sk, h) = (zstf [11] 0 h x 1 v).bind (fun h' => zrun zpp E 213 (129, ls, sk, h')) := zg_putf rfl
theorem zi213_129 {E : zE} {ls sk : List Value} {h : zH} : zrun zpp E 213 (129, ls, sk, h) = zrun zpp E 213 (130, ls, .int 0 :: sk, h) := zg_iconst rfl ci_0
theorem zi213_130 {E : zE} {x : Int32} {ls sk : List Value} {h : zH} : zrun zpp E 213 (130, ls, .int x :: sk, h) = if zfree ls 5 = true then zrun zpp E 213 (132, ls.set 5 (.int x), sk, h) else none := zg_ist rfl (fun _ _ _ => rfl)
theorem zi213_132 {E : zE} {ls sk : List Value} {h : zH} : zrun zpp E 213 (132, ls, sk, h) = zrun zpp E 213 (133, ls, .int 1 :: sk, h) := zg_iconst rfl ci_1
theorem zi213_133 {E : zE} {x : Int32} {ls sk : List Value} {h : zH} : zrun zpp E 213 (133, ls, .int x :: sk, h) = if zfree ls 6 = true then zrun zpp E 213 (135, ls.set 6 (.int x), sk, h) else none := zg_ist rfl (fun _ _ _ => rfl)
theorem zi213_135 {E : zE} {v0 v1 v2 v3 v4 v5 : Value} {x : Int32} {ls sk : List Value} {h : zH} : zrun zpp E 213 (135, v0 :: v1 :: v2 :: v3 :: v4 :: v5 :: .int x :: ls, sk, h) = zrun zpp E 213 (137, v0 :: v1 :: v2 :: v3 :: v4 :: v5 :: .int x :: ls, .int x :: sk, h) := zrun_at rfl
theorem zi213_137 {E : zE} {ls sk : List Value} {h : zH} : zrun zpp E 213 (137, ls, sk, h) = zrun zpp E 213 (138, ls, .int 5 :: sk, h) := zg_iconst rfl ci_5
theorem zi213_138 {E : zE} {x y : Int32} {ls sk : List Value} {h : zH} : zrun zpp E 213 (138, ls, .int y :: .int x :: sk, h) = if y < x then zrun zpp E 213 (283, ls, sk, h) else zrun zpp E 213 (141, ls, sk, h) := zrun_at rfl
theorem zi213_141 {E : zE} {x : Nat} {ls sk : List Value} {h : zH} : zrun zpp E 213 (141, .ref x :: ls, sk, h) = zrun zpp E 213 (142, .ref x :: ls, .ref x :: sk, h) := zrun_at rfl
theorem zi213_141n {E : zE} {ls sk : List Value} {h : zH} : zrun zpp E 213 (141, .null :: ls, sk, h) = zrun zpp E 213 (142, .null :: ls, .null :: sk, h) := zrun_at rfl
theorem zi213_142 {E : zE} {x : Nat} {ls sk : List Value} {h : zH} : zrun zpp E 213 (142, ls, .ref x :: sk, h) = (zfld [11] h x 5).bind (fun v => zrun zpp E 213 (145, ls, v :: sk, h)) := zg_getf rfl
theorem zi213_145 {E : zE} {ls sk : List Value} {h : zH} : zrun zpp E 213 (145, ls, sk, h) = zrun zpp E 213 (147, ls, .int 8 :: sk, h) := zg_bipush rfl ci_8
theorem zi213_147 {E : zE} {x : Nat} {i : Int32} {ls sk : List Value} {h : zH} : zrun zpp E 213 (147, ls, .int i :: .ref x :: sk, h) = (zarr 0 h x i).bind (fun v => zrun zpp E 213 (148, ls, .int v :: sk, h)) := zg_iald rfl
theorem zi213_148 {E : zE} {x : Int32} {ls sk : List Value} {h : zH} : zrun zpp E 213 (148, ls, .int x :: sk, h) = if zfree ls 7 = true then zrun zpp E 213 (150, ls.set 7 (.int x), sk, h) else none := zg_ist rfl (fun _ _ _ => rfl)
theorem zi213_150 {E : zE} {ls sk : List Value} {h : zH} : zrun zpp E 213 (150, ls, sk, h) = zrun zpp E 213 (151, ls, .int 1 :: sk, h) := zg_iconst rfl ci_1
theorem zi213_151 {E : zE} {x : Int32} {ls sk : List Value} {h : zH} : zrun zpp E 213 (151, ls, .int x :: sk, h) = if zfree ls 8 = true then zrun zpp E 213 (153, ls.set 8 (.int x), sk, h) else none := zg_ist rfl (fun _ _ _ => rfl)
theorem zi213_153 {E : zE} {ls sk : List Value} {h : zH} : zrun zpp E 213 (153, ls, sk, h) = zrun zpp E 213 (154, ls, .int 0 :: sk, h) := zg_iconst rfl ci_0
theorem zi213_154 {E : zE} {x : Int32} {ls sk : List Value} {h : zH} : zrun zpp E 213 (154, ls, .int x :: sk, h) = if zfree ls 9 = true then zrun zpp E 213 (156, ls.set 9 (.int x), sk, h) else none := zg_ist rfl (fun _ _ _ => rfl)
theorem zi213_156 {E : zE} {v0 v1 v2 v3 v4 v5 v6 v7 v8 : Value} {x : Int32} {ls sk : List Value} {h : zH} : zrun zpp E 213 (156, v0 :: v1 :: v2 :: v3 :: v4 :: v5 :: v6 :: v7 :: v8 :: .int x :: ls, sk, h) = zrun zpp E 213 (158, v0 :: v1 :: v2 :: v3 :: v4 :: v5 :: v6 :: v7 :: v8 :: .int x :: ls, .int x :: sk, h) := zrun_at rfl
theorem zi213_158 {E : zE} {v0 v1 v2 v3 : Value} {x : Int32} {ls sk : List Value} {h : zH} : zrun zpp E 213 (158, v0 :: v1 :: v2 :: v3 :: .int x :: ls, sk, h) = zrun zpp E 213 (160, v0 :: v1 :: v2 :: v3 :: .int x :: ls, .int x :: sk, h) := zrun_at rfl
theorem zi213_160 {E : zE} {x y : Int32} {ls sk : List Value} {h : zH} : zrun zpp E 213 (160, ls, .int y :: .int x :: sk, h) = if y ≤ x then zrun zpp E 213 (259, ls, sk, h) else zrun zpp E 213 (163, ls, sk, h) := zrun_at rfl
theorem zi213_163 {E : zE} {v0 v1 v2 v3 v4 v5 v6 v7 : Value} {x : Int32} {ls sk : List Value} {h : zH} : zrun zpp E 213 (163, v0 :: v1 :: v2 :: v3 :: v4 :: v5 :: v6 :: v7 :: .int x :: ls, sk, h) = zrun zpp E 213 (165, v0 :: v1 :: v2 :: v3 :: v4 :: v5 :: v6 :: v7 :: .int x :: ls, .int x :: sk, h) := zrun_at rfl
theorem zi213_165 {E : zE} {x : Int32} {ls sk : List Value} {h : zH} : zrun zpp E 213 (165, ls, .int x :: sk, h) = if x = 0 then zrun zpp E 213 (259, ls, sk, h) else zrun zpp E 213 (168, ls, sk, h) := zrun_at rfl
theorem zi213_168 {E : zE} {x : Nat} {ls sk : List Value} {h : zH} : zrun zpp E 213 (168, .ref x :: ls, sk, h) = zrun zpp E 213 (169, .ref x :: ls, .ref x :: sk, h) := zrun_at rfl
theorem zi213_168n {E : zE} {ls sk : List Value} {h : zH} : zrun zpp E 213 (168, .null :: ls, sk, h) = zrun zpp E 213 (169, .null :: ls, .null :: sk, h) := zrun_at rfl
theorem zi213_169 {E : zE} {x : Nat} {ls sk : List Value} {h : zH} : zrun zpp E 213 (169, ls, .ref x :: sk, h) = (zfld [11] h x 4).bind (fun v => zrun zpp E 213 (172, ls, v :: sk, h)) := zg_getf rfl
theorem zi213_172 {E : zE} {ls sk : List Value} {h : zH} : zrun zpp E 213 (172, ls, sk, h) = zrun zpp E 213 (174, ls, .int 40 :: sk, h) := zg_bipush rfl ci_40
theorem zi213_174 {E : zE} {v0 v1 : Value} {x : Int32} {ls sk : List Value} {h : zH} : zrun zpp E 213 (174, v0 :: v1 :: .int x :: ls, sk, h) = zrun zpp E 213 (175, v0 :: v1 :: .int x :: ls, .int x :: sk, h) := zrun_at rfl
theorem zi213_175 {E : zE} {x y : Int32} {ls sk : List Value} {h : zH} : zrun zpp E 213 (175, ls, .int y :: .int x :: sk, h) = zrun zpp E 213 (176, ls, .int (x * y) :: sk, h) := zrun_at rfl
theorem zi213_176 {E : zE} {v0 v1 v2 : Value} {x : Int32} {ls sk : List Value} {h : zH} : zrun zpp E 213 (176, v0 :: v1 :: v2 :: .int x :: ls, sk, h) = zrun zpp E 213 (177, v0 :: v1 :: v2 :: .int x :: ls, .int x :: sk, h) := zrun_at rfl
theorem zi213_177 {E : zE} {x y : Int32} {ls sk : List Value} {h : zH} : zrun zpp E 213 (177, ls, .int y :: .int x :: sk, h) = zrun zpp E 213 (178, ls, .int (x + y) :: sk, h) := zrun_at rfl
theorem zi213_178 {E : zE} {ls sk : List Value} {h : zH} : zrun zpp E 213 (178, ls, sk, h) = zrun zpp E 213 (179, ls, .int 2 :: sk, h) := zg_iconst rfl ci_2
theorem zi213_179 {E : zE} {v0 v1 v2 v3 v4 v5 v6 v7 v8 : Value} {x : Int32} {ls sk : List Value} {h : zH} : zrun zpp E 213 (179, v0 :: v1 :: v2 :: v3 :: v4 :: v5 :: v6 :: v7 :: v8 :: .int x :: ls, sk, h) = zrun zpp E 213 (181, v0 :: v1 :: v2 :: v3 :: v4 :: v5 :: v6 :: v7 :: v8 :: .int x :: ls, .int x :: sk, h) := zrun_at rfl
theorem zi213_181 {E : zE} {x y : Int32} {ls sk : List Value} {h : zH} : zrun zpp E 213 (181, ls, .int y :: .int x :: sk, h) = zrun zpp E 213 (182, ls, .int (x * y) :: sk, h) := zrun_at rfl
theorem zi213_182 {E : zE} {x y : Int32} {ls sk : List Value} {h : zH} : zrun zpp E 213 (182, ls, .int y :: .int x :: sk, h) = zrun zpp E 213 (183, ls, .int (x + y) :: sk, h) := zrun_at rfl
theorem zi213_183 {E : zE} {x : Nat} {i : Int32} {ls sk : List Value} {h : zH} : zrun zpp E 213 (183, ls, .int i :: .ref x :: sk, h) = (zarr 0 h x i).bind (fun v => zrun zpp E 213 (184, ls, .int v :: sk, h)) := zg_iald rfl
theorem zi213_184 {E : zE} {x : Int32} {ls sk : List Value} {h : zH} : zrun zpp E 213 (184, ls, .int x :: sk, h) = if zfree ls 10 = true then zrun zpp E 213 (186, ls.set 10 (.int x), sk, h) else none := zg_ist rfl (fun _ _ _ => rfl)
theorem zi213_186 {E : zE} {x : Nat} {ls sk : List Value} {h : zH} : zrun zpp E 213 (186, .ref x :: ls, sk, h) = zrun zpp E 213 (187, .ref x :: ls, .ref x :: sk, h) := zrun_at rfl
theorem zi213_186n {E : zE} {ls sk : List Value} {h : zH} : zrun zpp E 213 (186, .null :: ls, sk, h) = zrun zpp E 213 (187, .null :: ls, .null :: sk, h) := zrun_at rfl
theorem zi213_187 {E : zE} {v0 v1 v2 v3 v4 v5 : Value} {x : Int32} {ls sk : List Value} {h : zH} : zrun zpp E 213 (187, v0 :: v1 :: v2 :: v3 :: v4 :: v5 :: .int x :: ls, sk, h) = zrun zpp E 213 (189, v0 :: v1 :: v2 :: v3 :: v4 :: v5 :: .int x :: ls, .int x :: sk, h) := zrun_at rfl
theorem zi213_189 {E : zE} {x : Nat} {ls sk : List Value} {h : zH} : zrun zpp E 213 (189, .ref x :: ls, sk, h) = zrun zpp E 213 (190, .ref x :: ls, .ref x :: sk, h) := zrun_at rfl
theorem zi213_189n {E : zE} {ls sk : List Value} {h : zH} : zrun zpp E 213 (189, .null :: ls, sk, h) = zrun zpp E 213 (190, .null :: ls, .null :: sk, h) := zrun_at rfl
theorem zi213_190 {E : zE} {v0 : Value} {x : Int32} {ls sk : List Value} {h : zH} : zrun zpp E 213 (190, v0 :: .int x :: ls, sk, h) = zrun zpp E 213 (191, v0 :: .int x :: ls, .int x :: sk, h) := zrun_at rfl
theorem zi213_191 {E : zE} {a0 : Value} {x : Nat} {ls sk : List Value} {h : zH} : zrun zpp E 213 (191, ls, a0 :: .ref x :: sk, h) = (zcls h x).bind (fun d => (zsel d [11, 180]).bind (fun M' => zcl1 E 213 194 M' ls sk [.ref x, a0] h)) := zg_vir (as := [a0]) rfl rfl
theorem zi213_194 {E : zE} {v0 v1 v2 v3 v4 v5 v6 : Value} {x : Int32} {ls sk : List Value} {h : zH} : zrun zpp E 213 (194, v0 :: v1 :: v2 :: v3 :: v4 :: v5 :: v6 :: .int x :: ls, sk, h) = zrun zpp E 213 (196, v0 :: v1 :: v2 :: v3 :: v4 :: v5 :: v6 :: .int x :: ls, .int x :: sk, h) := zrun_at rfl
theorem zi213_196 {E : zE} {v0 v1 v2 v3 v4 v5 v6 v7 v8 v9 : Value} {x : Int32} {ls sk : List Value} {h : zH} : zrun zpp E 213 (196, v0 :: v1 :: v2 :: v3 :: v4 :: v5 :: v6 :: v7 :: v8 :: v9 :: .int x :: ls, sk, h) = zrun zpp E 213 (198, v0 :: v1 :: v2 :: v3 :: v4 :: v5 :: v6 :: v7 :: v8 :: v9 :: .int x :: ls, .int x :: sk, h) := zrun_at rfl
theorem zi213_198 {E : zE} {a0 a1 a2 a3 : Value} {x : Nat} {ls sk : List Value} {h : zH} : zrun zpp E 213 (198, ls, a3 :: a2 :: a1 :: a0 :: .ref x :: sk, h) = (zcls h x).bind (fun d => (zsel d [11, 186]).bind (fun M' => zcl1 E 213 201 M' ls sk [.ref x, a0, a1, a2, a3] h)) := zg_vir (as := [a0, a1, a2, a3]) rfl rfl
theorem zi213_201 {E : zE} {x : Int32} {ls sk : List Value} {h : zH} : zrun zpp E 213 (201, ls, .int x :: sk, h) = if x = 0 then zrun zpp E 213 (239, ls, sk, h) else zrun zpp E 213 (204, ls, sk, h) := zrun_at rfl
theorem zi213_204 {E : zE} {x : Nat} {ls sk : List Value} {h : zH} : zrun zpp E 213 (204, .ref x :: ls, sk, h) = zrun zpp E 213 (205, .ref x :: ls, .ref x :: sk, h) := zrun_at rfl
theorem zi213_204n {E : zE} {ls sk : List Value} {h : zH} : zrun zpp E 213 (204, .null :: ls, sk, h) = zrun zpp E 213 (205, .null :: ls, .null :: sk, h) := zrun_at rfl
theorem zi213_205 {E : zE} {v0 v1 v2 v3 v4 v5 : Value} {x : Int32} {ls sk : List Value} {h : zH} : zrun zpp E 213 (205, v0 :: v1 :: v2 :: v3 :: v4 :: v5 :: .int x :: ls, sk, h) = zrun zpp E 213 (207, v0 :: v1 :: v2 :: v3 :: v4 :: v5 :: .int x :: ls, .int x :: sk, h) := zrun_at rfl
theorem zi213_207 {E : zE} {v0 v1 v2 v3 v4 v5 v6 : Value} {x : Int32} {ls sk : List Value} {h : zH} : zrun zpp E 213 (207, v0 :: v1 :: v2 :: v3 :: v4 :: v5 :: v6 :: .int x :: ls, sk, h) = zrun zpp E 213 (209, v0 :: v1 :: v2 :: v3 :: v4 :: v5 :: v6 :: .int x :: ls, .int x :: sk, h) := zrun_at rfl
theorem zi213_209 {E : zE} {v0 v1 v2 v3 v4 v5 v6 v7 v8 v9 : Value} {x : Int32} {ls sk : List Value} {h : zH} : zrun zpp E 213 (209, v0 :: v1 :: v2 :: v3 :: v4 :: v5 :: v6 :: v7 :: v8 :: v9 :: .int x :: ls, sk, h) = zrun zpp E 213 (211, v0 :: v1 :: v2 :: v3 :: v4 :: v5 :: v6 :: v7 :: v8 :: v9 :: .int x :: ls, .int x :: sk, h) := zrun_at rfl
theorem zi213_211 {E : zE} {a0 a1 a2 : Value} {x : Nat} {ls sk : List Value} {h : zH} : zrun zpp E 213 (211, ls, a2 :: a1 :: a0 :: .ref x :: sk, h) = (zcls h x).bind (fun d => (zsel d [11, 187]).bind (fun M' => zcl1 E 213 214 M' ls sk [.ref x, a0, a1, a2] h)) := zg_vir (as := [a0, a1, a2]) rfl rfl
theorem zi213_214 {E : zE} {x : Nat} {ls sk : List Value} {h : zH} : zrun zpp E 213 (214, .ref x :: ls, sk, h) = zrun zpp E 213 (215, .ref x :: ls, .ref x :: sk, h) := zrun_at rfl
theorem zi213_214n {E : zE} {ls sk : List Value} {h : zH} : zrun zpp E 213 (214, .null :: ls, sk, h) = zrun zpp E 213 (215, .null :: ls, .null :: sk, h) := zrun_at rfl
theorem zi213_215 {E : zE} {x : Nat} {ls sk : List Value} {h : zH} : zrun zpp E 213 (215, ls, .ref x :: sk, h) = (zfld [11] h x 4).bind (fun v => zrun zpp E 213 (218, ls, v :: sk, h)) := zg_getf rfl
theorem zi213_218 {E : zE} {ls sk : List Value} {h : zH} : zrun zpp E 213 (218, ls, sk, h) = zrun zpp E 213 (220, ls, .int 40 :: sk, h) := zg_bipush rfl ci_40
theorem zi213_220 {E : zE} {v0 v1 : Value} {x : Int32} {ls sk : List Value} {h : zH} : zrun zpp E 213 (220, v0 :: v1 :: .int x :: ls, sk, h) = zrun zpp E 213 (221, v0 :: v1 :: .int x :: ls, .int x :: sk, h) := zrun_at rfl
theorem zi213_221 {E : zE} {x y : Int32} {ls sk : List Value} {h : zH} : zrun zpp E 213 (221, ls, .int y :: .int x :: sk, h) = zrun zpp E 213 (222, ls, .int (x * y) :: sk, h) := zrun_at rfl
theorem zi213_222 {E : zE} {v0 v1 v2 : Value} {x : Int32} {ls sk : List Value} {h : zH} : zrun zpp E 213 (222, v0 :: v1 :: v2 :: .int x :: ls, sk, h) = zrun zpp E 213 (223, v0 :: v1 :: v2 :: .int x :: ls, .int x :: sk, h) := zrun_at rfl
theorem zi213_223 {E : zE} {x y : Int32} {ls sk : List Value} {h : zH} : zrun zpp E 213 (223, ls, .int y :: .int x :: sk, h) = zrun zpp E 213 (224, ls, .int (x + y) :: sk, h) := zrun_at rfl
theorem zi213_224 {E : zE} {ls sk : List Value} {h : zH} : zrun zpp E 213 (224, ls, sk, h) = zrun zpp E 213 (225, ls, .int 2 :: sk, h) := zg_iconst rfl ci_2
theorem zi213_225 {E : zE} {v0 v1 v2 v3 v4 v5 v6 v7 v8 : Value} {x : Int32} {ls sk : List Value} {h : zH} : zrun zpp E 213 (225, v0 :: v1 :: v2 :: v3 :: v4 :: v5 :: v6 :: v7 :: v8 :: .int x :: ls, sk, h) = zrun zpp E 213 (227, v0 :: v1 :: v2 :: v3 :: v4 :: v5 :: v6 :: v7 :: v8 :: .int x :: ls, .int x :: sk, h) := zrun_at rfl
theorem zi213_227 {E : zE} {x y : Int32} {ls sk : List Value} {h : zH} : zrun zpp E 213 (227, ls, .int y :: .int x :: sk, h) = zrun zpp E 213 (228, ls, .int (x * y) :: sk, h) := zrun_at rfl
theorem zi213_228 {E : zE} {x y : Int32} {ls sk : List Value} {h : zH} : zrun zpp E 213 (228, ls, .int y :: .int x :: sk, h) = zrun zpp E 213 (229, ls, .int (x + y) :: sk, h) := zrun_at rfl
theorem zi213_229 {E : zE} {ls sk : List Value} {h : zH} : zrun zpp E 213 (229, ls, sk, h) = zrun zpp E 213 (230, ls, .int 1 :: sk, h) := zg_iconst rfl ci_1
theorem zi213_230 {E : zE} {x y : Int32} {ls sk : List Value} {h : zH} : zrun zpp E 213 (230, ls, .int y :: .int x :: sk, h) = zrun zpp E 213 (231, ls, .int (x + y) :: sk, h) := zrun_at rfl
theorem zi213_231 {E : zE} {x : Nat} {i : Int32} {ls sk : List Value} {h : zH} : zrun zpp E 213 (231, ls, .int i :: .ref x :: sk, h) = (zarr 0 h x i).bind (fun v => zrun zpp E 213 (232, ls, .int v :: sk, h)) := zg_iald rfl
theorem zi213_232 {E : zE} {x y : Int32} {ls sk : List Value} {h : zH} : zrun zpp E 213 (232, ls, .int y :: .int x :: sk, h) = if x = y then zrun zpp E 213 (235, ls, sk, h) else zrun zpp E 213 (239, ls, sk, h) := zrun_at rfl
theorem zi213_235 {E : zE} {ls sk : List Value} {h : zH} : zrun zpp E 213 (235, ls, sk, h) = zrun zpp E 213 (236, ls, .int 1 :: sk, h) := zg_iconst rfl ci_1
theorem zi213_236 {E : zE} {ls sk : List Value} {h : zH} : zrun zpp E 213 (236, ls, sk, h) = zrun zpp E 213 (240, ls, sk, h) := zrun_at rfl
theorem zi213_239 {E : zE} {ls sk : List Value} {h : zH} : zrun zpp E 213 (239, ls, sk, h) = zrun zpp E 213 (240, ls, .int 0 :: sk, h) := zg_iconst rfl ci_0
theorem zi213_240 {E : zE} {x : Int32} {ls sk : List Value} {h : zH} : zrun zpp E 213 (240, ls, .int x :: sk, h) = if zfree ls 8 = true then zrun zpp E 213 (242, ls.set 8 (.int x), sk, h) else none := zg_ist rfl (fun _ _ _ => rfl)
theorem zi213_242 {E : zE} {v0 v1 v2 v3 v4 v5 v6 : Value} {x : Int32} {ls sk : List Value} {h : zH} : zrun zpp E 213 (242, v0 :: v1 :: v2 :: v3 :: v4 :: v5 :: v6 :: .int x :: ls, sk, h) = zrun zpp E 213 (244, v0 :: v1 :: v2 :: v3 :: v4 :: v5 :: v6 :: .int x :: ls, .int x :: sk, h) := zrun_at rfl
theorem zi213_244 {E : zE} {ls sk : List Value} {h : zH} : zrun zpp E 213 (244, ls, sk, h) = zrun zpp E 213 (245, ls, .int 1 :: sk, h) := zg_iconst rfl ci_1
theorem zi213_245 {E : zE} {v0 v1 v2 v3 v4 v5 v6 v7 v8 v9 : Value} {x : Int32} {ls sk : List Value} {h : zH} : zrun zpp E 213 (245, v0 :: v1 :: v2 :: v3 :: v4 :: v5 :: v6 :: v7 :: v8 :: v9 :: .int x :: ls, sk, h) = zrun zpp E 213 (247, v0 :: v1 :: v2 :: v3 :: v4 :: v5 :: v6 :: v7 :: v8 :: v9 :: .int x :: ls, .int x :: sk, h) := zrun_at rfl
theorem zi213_247 {E : zE} {x y : Int32} {ls sk : List Value} {h : zH} : zrun zpp E 213 (247, ls, .int y :: .int x :: sk, h) = zrun zpp E 213 (248, ls, .int (x <<< (y &&& 31)) :: sk, h) := zrun_at rfl
theorem zi213_248 {E : zE} {ls sk : List Value} {h : zH} : zrun zpp E 213 (248, ls, sk, h) = zrun zpp E 213 (249, ls, .int (-1) :: sk, h) := zg_iconst rfl ci_m1
theorem zi213_249 {E : zE} {x y : Int32} {ls sk : List Value} {h : zH} : zrun zpp E 213 (249, ls, .int y :: .int x :: sk, h) = zrun zpp E 213 (250, ls, .int (x ^^^ y) :: sk, h) := zrun_at rfl
theorem zi213_250 {E : zE} {x y : Int32} {ls sk : List Value} {h : zH} : zrun zpp E 213 (250, ls, .int y :: .int x :: sk, h) = zrun zpp E 213 (251, ls, .int (x &&& y) :: sk, h) := zrun_at rfl
theorem zi213_251 {E : zE} {x : Int32} {ls sk : List Value} {h : zH} : zrun zpp E 213 (251, ls, .int x :: sk, h) = if zfree ls 7 = true then zrun zpp E 213 (253, ls.set 7 (.int x), sk, h) else none := zg_ist rfl (fun _ _ _ => rfl)
theorem zi213_253 {E : zE} {v0 v1 v2 v3 v4 v5 v6 v7 v8 : Value} {x : Int32} {ls sk : List Value} {h : zH} : zrun zpp E 213 (253, v0 :: v1 :: v2 :: v3 :: v4 :: v5 :: v6 :: v7 :: v8 :: .int x :: ls, sk, h) = if zfree (v0 :: v1 :: v2 :: v3 :: v4 :: v5 :: v6 :: v7 :: v8 :: .int x :: ls) 9 = true then zrun zpp E 213 (256, v0 :: v1 :: v2 :: v3 :: v4 :: v5 :: v6 :: v7 :: v8 :: .int (x + 1) :: ls, sk, h) else none := by rw [← ci_1]; exact zrun_at rfl
theorem zi213_256 {E : zE} {ls sk : List Value} {h : zH} : zrun zpp E 213 (256, ls, sk, h) = zrun zpp E 213 (156, ls, sk, h) := zrun_at rfl
theorem zi213_259 {E : zE} {v0 v1 v2 v3 v4 : Value} {x : Int32} {ls sk : List Value} {h : zH} : zrun zpp E 213 (259, v0 :: v1 :: v2 :: v3 :: v4 :: .int x :: ls, sk, h) = zrun zpp E 213 (261, v0 :: v1 :: v2 :: v3 :: v4 :: .int x :: ls, .int x :: sk, h) := zrun_at rfl
theorem zi213_261 {E : zE} {v0 v1 v2 v3 v4 v5 v6 v7 : Value} {x : Int32} {ls sk : List Value} {h : zH} : zrun zpp E 213 (261, v0 :: v1 :: v2 :: v3 :: v4 :: v5 :: v6 :: v7 :: .int x :: ls, sk, h) = zrun zpp E 213 (263, v0 :: v1 :: v2 :: v3 :: v4 :: v5 :: v6 :: v7 :: .int x :: ls, .int x :: sk, h) := zrun_at rfl
theorem zi213_263 {E : zE} {x : Int32} {ls sk : List Value} {h : zH} : zrun zpp E 213 (263, ls, .int x :: sk, h) = if x = 0 then zrun zpp E 213 (273, ls, sk, h) else zrun zpp E 213 (266, ls, sk, h) := zrun_at rfl
theorem zi213_266 {E : zE} {ls sk : List Value} {h : zH} : zrun zpp E 213 (266, ls, sk, h) = zrun zpp E 213 (267, ls, .int 1 :: sk, h) := zg_iconst rfl ci_1
theorem zi213_267 {E : zE} {v0 v1 v2 v3 v4 v5 : Value} {x : Int32} {ls sk : List Value} {h : zH} : zrun zpp E 213 (267, v0 :: v1 :: v2 :: v3 :: v4 :: v5 :: .int x :: ls, sk, h) = zrun zpp E 213 (269, v0 :: v1 :: v2 :: v3 :: v4 :: v5 :: .int x :: ls, .int x :: sk, h) := zrun_at rfl
theorem zi213_269 {E : zE} {x y : Int32} {ls sk : List Value} {h : zH} : zrun zpp E 213 (269, ls, .int y :: .int x :: sk, h) = zrun zpp E 213 (270, ls, .int (x <<< (y &&& 31)) :: sk, h) := zrun_at rfl
theorem zi213_270 {E : zE} {ls sk : List Value} {h : zH} : zrun zpp E 213 (270, ls, sk, h) = zrun zpp E 213 (274, ls, sk, h) := zrun_at rfl
theorem zi213_273 {E : zE} {ls sk : List Value} {h : zH} : zrun zpp E 213 (273, ls, sk, h) = zrun zpp E 213 (274, ls, .int 0 :: sk, h) := zg_iconst rfl ci_0
theorem zi213_274 {E : zE} {x y : Int32} {ls sk : List Value} {h : zH} : zrun zpp E 213 (274, ls, .int y :: .int x :: sk, h) = zrun zpp E 213 (275, ls, .int (x ||| y) :: sk, h) := zrun_at rfl
theorem zi213_275 {E : zE} {x : Int32} {ls sk : List Value} {h : zH} : zrun zpp E 213 (275, ls, .int x :: sk, h) = if zfree ls 5 = true then zrun zpp E 213 (277, ls.set 5 (.int x), sk, h) else none := zg_ist rfl (fun _ _ _ => rfl)
theorem zi213_277 {E : zE} {v0 v1 v2 v3 v4 v5 : Value} {x : Int32} {ls sk : List Value} {h : zH} : zrun zpp E 213 (277, v0 :: v1 :: v2 :: v3 :: v4 :: v5 :: .int x :: ls, sk, h) = if zfree (v0 :: v1 :: v2 :: v3 :: v4 :: v5 :: .int x :: ls) 6 = true then zrun zpp E 213 (280, v0 :: v1 :: v2 :: v3 :: v4 :: v5 :: .int (x + 1) :: ls, sk, h) else none := by rw [← ci_1]; exact zrun_at rfl
theorem zi213_280 {E : zE} {ls sk : List Value} {h : zH} : zrun zpp E 213 (280, ls, sk, h) = zrun zpp E 213 (135, ls, sk, h) := zrun_at rfl
theorem zi213_283 {E : zE} {v0 v1 v2 v3 v4 : Value} {x : Int32} {ls sk : List Value} {h : zH} : zrun zpp E 213 (283, v0 :: v1 :: v2 :: v3 :: v4 :: .int x :: ls, sk, h) = zrun zpp E 213 (285, v0 :: v1 :: v2 :: v3 :: v4 :: .int x :: ls, .int x :: sk, h) := zrun_at rfl
theorem zi213_285 {E : zE} {x : Int32} {ls sk : List Value} {h : zH} : zrun zpp E 213 (285, ls, [.int x], h) = some (some (.int x), h) := zrun_at rfl
-- 214 NineDownModel.seen
theorem zi214_0 {E : zE} {x : Nat} {ls sk : List Value} {h : zH} : zrun zpp E 214 (0, .ref x :: ls, sk, h) = zrun zpp E 214 (1, .ref x :: ls, .ref x :: sk, h) := zrun_at rfl
theorem zi214_0n {E : zE} {ls sk : List Value} {h : zH} : zrun zpp E 214 (0, .null :: ls, sk, h) = zrun zpp E 214 (1, .null :: ls, .null :: sk, h) := zrun_at rfl
theorem zi214_1 {E : zE} {ls sk : List Value} {h : zH} : zrun zpp E 214 (1, ls, sk, h) = zrun zpp E 214 (2, ls, .int 0 :: sk, h) := zg_iconst rfl ci_0
theorem zi214_2 {E : zE} {x : Nat} {v : Value} {ls sk : List Value} {h : zH} : zrun zpp E 214 (2, ls, v :: .ref x :: sk, h) = (zstf [11] 0 h x 0 v).bind (fun h' => zrun zpp E 214 (5, ls, sk, h')) := zg_putf rfl
theorem zi214_5 {E : zE} {v0 : Value} {x : Int32} {ls sk : List Value} {h : zH} : zrun zpp E 214 (5, v0 :: .int x :: ls, sk, h) = zrun zpp E 214 (6, v0 :: .int x :: ls, .int x :: sk, h) := zrun_at rfl
theorem zi214_6 {E : zE} {x : Int32} {ls sk : List Value} {h : zH} : zrun zpp E 214 (6, ls, .int x :: sk, h) = zrun zpp E 214 (7, ls, .long x.toInt64 :: sk, h) := zrun_at rfl
theorem zi214_7 {E : zE} {ls sk : List Value} {h : zH} : zrun zpp E 214 (7, ls, sk, h) = zrun zpp E 214 (8, ls, .long 0 :: sk, h) := zg_lconst rfl rfl
theorem zi214_8 {E : zE} {ls sk : List Value} {h : zH} : zrun zpp E 214 (8, ls, sk, h) = zrun zpp E 214 (11, ls, .long 10 :: sk, h) := zg_ldc2_w rfl cj_10
theorem zi214_11 {E : zE} {a0 a1 a2 : Value} {ls sk : List Value} {h : zH} : zrun zpp E 214 (11, ls, a2 :: a1 :: a0 :: sk, h) = zcl1 E 214 14 149 ls sk [a0, a1, a2] h := zg_inv (as := [a0, a1, a2]) rfl rfl
theorem zi214_14 {E : zE} {x : Int32} {ls sk : List Value} {h : zH} : zrun zpp E 214 (14, ls, .int x :: sk, h) = if x = 0 then zrun zpp E 214 (51, ls, sk, h) else zrun zpp E 214 (17, ls, sk, h) := zrun_at rfl
theorem zi214_17 {E : zE} {v0 v1 : Value} {x : Int32} {ls sk : List Value} {h : zH} : zrun zpp E 214 (17, v0 :: v1 :: .int x :: ls, sk, h) = zrun zpp E 214 (18, v0 :: v1 :: .int x :: ls, .int x :: sk, h) := zrun_at rfl
theorem zi214_18 {E : zE} {x : Int32} {ls sk : List Value} {h : zH} : zrun zpp E 214 (18, ls, .int x :: sk, h) = zrun zpp E 214 (19, ls, .long x.toInt64 :: sk, h) := zrun_at rfl
theorem zi214_19 {E : zE} {ls sk : List Value} {h : zH} : zrun zpp E 214 (19, ls, sk, h) = zrun zpp E 214 (20, ls, .long 0 :: sk, h) := zg_lconst rfl rfl
theorem zi214_20 {E : zE} {ls sk : List Value} {h : zH} : zrun zpp E 214 (20, ls, sk, h) = zrun zpp E 214 (23, ls, .long 9 :: sk, h) := zg_ldc2_w rfl cj_9
theorem zi214_23 {E : zE} {a0 a1 a2 : Value} {ls sk : List Value} {h : zH} : zrun zpp E 214 (23, ls, a2 :: a1 :: a0 :: sk, h) = zcl1 E 214 26 149 ls sk [a0, a1, a2] h := zg_inv (as := [a0, a1, a2]) rfl rfl
theorem zi214_26 {E : zE} {x : Int32} {ls sk : List Value} {h : zH} : zrun zpp E 214 (26, ls, .int x :: sk, h) = if x = 0 then zrun zpp E 214 (51, ls, sk, h) else zrun zpp E 214 (29, ls, sk, h) := zrun_at rfl
theorem zi214_29 {E : zE} {v0 v1 v2 : Value} {x : Int32} {ls sk : List Value} {h : zH} : zrun zpp E 214 (29, v0 :: v1 :: v2 :: .int x :: ls, sk, h) = zrun zpp E 214 (30, v0 :: v1 :: v2 :: .int x :: ls, .int x :: sk, h) := zrun_at rfl
theorem zi214_30 {E : zE} {x : Int32} {ls sk : List Value} {h : zH} : zrun zpp E 214 (30, ls, .int x :: sk, h) = zrun zpp E 214 (31, ls, .long x.toInt64 :: sk, h) := zrun_at rfl
theorem zi214_31 {E : zE} {ls sk : List Value} {h : zH} : zrun zpp E 214 (31, ls, sk, h) = zrun zpp E 214 (32, ls, .long 0 :: sk, h) := zg_lconst rfl rfl
theorem zi214_32 {E : zE} {v0 v1 : Value} {x : Int32} {ls sk : List Value} {h : zH} : zrun zpp E 214 (32, v0 :: v1 :: .int x :: ls, sk, h) = zrun zpp E 214 (33, v0 :: v1 :: .int x :: ls, .int x :: sk, h) := zrun_at rfl
theorem zi214_33 {E : zE} {x : Int32} {ls sk : List Value} {h : zH} : zrun zpp E 214 (33, ls, .int x :: sk, h) = zrun zpp E 214 (34, ls, .long x.toInt64 :: sk, h) := zrun_at rfl
theorem zi214_34 {E : zE} {a0 a1 a2 : Value} {ls sk : List Value} {h : zH} : zrun zpp E 214 (34, ls, a2 :: a1 :: a0 :: sk, h) = zcl1 E 214 37 149 ls sk [a0, a1, a2] h := zg_inv (as := [a0, a1, a2]) rfl rfl
theorem zi214_37 {E : zE} {x : Int32} {ls sk : List Value} {h : zH} : zrun zpp E 214 (37, ls, .int x :: sk, h) = if x = 0 then zrun zpp E 214 (51, ls, sk, h) else zrun zpp E 214 (40, ls, sk, h) := zrun_at rfl
theorem zi214_40 {E : zE} {v0 v1 v2 v3 : Value} {x : Int32} {ls sk : List Value} {h : zH} : zrun zpp E 214 (40, v0 :: v1 :: v2 :: v3 :: .int x :: ls, sk, h) = zrun zpp E 214 (42, v0 :: v1 :: v2 :: v3 :: .int x :: ls, .int x :: sk, h) := zrun_at rfl
theorem zi214_42 {E : zE} {x : Int32} {ls sk : List Value} {h : zH} : zrun zpp E 214 (42, ls, .int x :: sk, h) = zrun zpp E 214 (43, ls, .long x.toInt64 :: sk, h) := zrun_at rfl
theorem zi214_43 {E : zE} {ls sk : List Value} {h : zH} : zrun zpp E 214 (43, ls, sk, h) = zrun zpp E 214 (44, ls, .long 0 :: sk, h) := zg_lconst rfl rfl
theorem zi214_44 {E : zE} {ls sk : List Value} {h : zH} : zrun zpp E 214 (44, ls, sk, h) = zrun zpp E 214 (45, ls, .long 1 :: sk, h) := zg_lconst rfl rfl
theorem zi214_45 {E : zE} {a0 a1 a2 : Value} {ls sk : List Value} {h : zH} : zrun zpp E 214 (45, ls, a2 :: a1 :: a0 :: sk, h) = zcl1 E 214 48 149 ls sk [a0, a1, a2] h := zg_inv (as := [a0, a1, a2]) rfl rfl
theorem zi214_48 {E : zE} {x : Int32} {ls sk : List Value} {h : zH} : zrun zpp E 214 (48, ls, .int x :: sk, h) = if x = 0 then zrun zpp E 214 (51, ls, sk, h) else zrun zpp E 214 (55, ls, sk, h) := zrun_at rfl
theorem zi214_51 {E : zE} {ls sk : List Value} {h : zH} : zrun zpp E 214 (51, ls, sk, h) = zrun zpp E 214 (54, ls, .long (-1000001) :: sk, h) := zg_ldc2_w rfl cj_m1000001
theorem zi214_54 {E : zE} {x : Int64} {ls sk : List Value} {h : zH} : zrun zpp E 214 (54, ls, [.long x], h) = some (some (.long x), h) := zrun_at rfl
theorem zi214_55 {E : zE} {ls sk : List Value} {h : zH} : zrun zpp E 214 (55, ls, sk, h) = zrun zpp E 214 (56, ls, .long 1 :: sk, h) := zg_lconst rfl rfl
theorem zi214_56 {E : zE} {x : Int64} {ls sk : List Value} {h : zH} : zrun zpp E 214 (56, ls, .long x :: sk, h) = if (zfree ls 5 && decide (5 + 1 < ls.length)) = true then zrun zpp E 214 (58, (ls.set 5 (.long x)).set (5 + 1) (.retAddr 0), sk, h) else none := zg_lst rfl (fun _ _ _ => rfl)
theorem zi214_58 {E : zE} {ls sk : List Value} {h : zH} : zrun zpp E 214 (58, ls, sk, h) = zrun zpp E 214 (59, ls, .long 0 :: sk, h) := zg_lconst rfl rfl
theorem zi214_59 {E : zE} {x : Int64} {ls sk : List Value} {h : zH} : zrun zpp E 214 (59, ls, .long x :: sk, h) = if (zfree ls 7 && decide (7 + 1 < ls.length)) = true then zrun zpp E 214 (61, (ls.set 7 (.long x)).set (7 + 1) (.retAddr 0), sk, h) else none := zg_lst rfl (fun _ _ _ => rfl)
theorem zi214_61 {E : zE} {ls sk : List Value} {h : zH} : zrun zpp E 214 (61, ls, sk, h) = zrun zpp E 214 (62, ls, .long 1 :: sk, h) := zg_lconst rfl rfl
theorem zi214_62 {E : zE} {x : Int64} {ls sk : List Value} {h : zH} : zrun zpp E 214 (62, ls, .long x :: sk, h) = if (zfree ls 9 && decide (9 + 1 < ls.length)) = true then zrun zpp E 214 (64, (ls.set 9 (.long x)).set (9 + 1) (.retAddr 0), sk, h) else none := zg_lst rfl (fun _ _ _ => rfl)
theorem zi214_64 {E : zE} {ls sk : List Value} {h : zH} : zrun zpp E 214 (64, ls, sk, h) = zrun zpp E 214 (65, ls, .int 0 :: sk, h) := zg_iconst rfl ci_0
theorem zi214_65 {E : zE} {x : Int32} {ls sk : List Value} {h : zH} : zrun zpp E 214 (65, ls, .int x :: sk, h) = if zfree ls 11 = true then zrun zpp E 214 (67, ls.set 11 (.int x), sk, h) else none := zg_ist rfl (fun _ _ _ => rfl)
theorem zi214_67 {E : zE} {v0 v1 v2 v3 v4 v5 v6 v7 v8 v9 v10 : Value} {x : Int32} {ls sk : List Value} {h : zH} : zrun zpp E 214 (67, v0 :: v1 :: v2 :: v3 :: v4 :: v5 :: v6 :: v7 :: v8 :: v9 :: v10 :: .int x :: ls, sk, h) = zrun zpp E 214 (69, v0 :: v1 :: v2 :: v3 :: v4 :: v5 :: v6 :: v7 :: v8 :: v9 :: v10 :: .int x :: ls, .int x :: sk, h) := zrun_at rfl
theorem zi214_69 {E : zE} {v0 v1 : Value} {x : Int32} {ls sk : List Value} {h : zH} : zrun zpp E 214 (69, v0 :: v1 :: .int x :: ls, sk, h) = zrun zpp E 214 (70, v0 :: v1 :: .int x :: ls, .int x :: sk, h) := zrun_at rfl
theorem zi214_70 {E : zE} {x y : Int32} {ls sk : List Value} {h : zH} : zrun zpp E 214 (70, ls, .int y :: .int x :: sk, h) = if y < x then zrun zpp E 214 (154, ls, sk, h) else zrun zpp E 214 (73, ls, sk, h) := zrun_at rfl
theorem zi214_73 {E : zE} {v0 v1 v2 v3 v4 : Value} {x : Int64} {ls sk : List Value} {h : zH} : zrun zpp E 214 (73, v0 :: v1 :: v2 :: v3 :: v4 :: .long x :: ls, sk, h) = zrun zpp E 214 (75, v0 :: v1 :: v2 :: v3 :: v4 :: .long x :: ls, .long x :: sk, h) := zrun_at rfl
theorem zi214_75 {E : zE} {x : Int64} {ls sk : List Value} {h : zH} : zrun zpp E 214 (75, ls, .long x :: sk, h) = if (zfree ls 12 && decide (12 + 1 < ls.length)) = true then zrun zpp E 214 (77, (ls.set 12 (.long x)).set (12 + 1) (.retAddr 0), sk, h) else none := zg_lst rfl (fun _ _ _ => rfl)
theorem zi214_77 {E : zE} {ls sk : List Value} {h : zH} : zrun zpp E 214 (77, ls, sk, h) = zrun zpp E 214 (78, ls, .int 0 :: sk, h) := zg_iconst rfl ci_0
theorem zi214_78 {E : zE} {x : Int32} {ls sk : List Value} {h : zH} : zrun zpp E 214 (78, ls, .int x :: sk, h) = if zfree ls 14 = true then zrun zpp E 214 (80, ls.set 14 (.int x), sk, h) else none := zg_ist rfl (fun _ _ _ => rfl)
theorem zi214_80 {E : zE} {v0 v1 v2 v3 v4 v5 v6 v7 v8 v9 v10 v11 v12 v13 : Value} {x : Int32} {ls sk : List Value} {h : zH} : zrun zpp E 214 (80, v0 :: v1 :: v2 :: v3 :: v4 :: v5 :: v6 :: v7 :: v8 :: v9 :: v10 :: v11 :: v12 :: v13 :: .int x :: ls, sk, h) = zrun zpp E 214 (82, v0 :: v1 :: v2 :: v3 :: v4 :: v5 :: v6 :: v7 :: v8 :: v9 :: v10 :: v11 :: v12 :: v13 :: .int x :: ls, .int x :: sk, h) := zrun_at rfl
theorem zi214_82 {E : zE} {v0 v1 : Value} {x : Int32} {ls sk : List Value} {h : zH} : zrun zpp E 214 (82, v0 :: v1 :: .int x :: ls, sk, h) = zrun zpp E 214 (83, v0 :: v1 :: .int x :: ls, .int x :: sk, h) := zrun_at rfl
theorem zi214_83 {E : zE} {x y : Int32} {ls sk : List Value} {h : zH} : zrun zpp E 214 (83, ls, .int y :: .int x :: sk, h) = if y ≤ x then zrun zpp E 214 (115, ls, sk, h) else zrun zpp E 214 (86, ls, sk, h) := zrun_at rfl
theorem zi214_86 {E : zE} {v0 v1 v2 v3 v4 v5 v6 v7 v8 v9 v10 v11 : Value} {x : Int64} {ls sk : List Value} {h : zH} : zrun zpp E 214 (86, v0 :: v1 :: v2 :: v3 :: v4 :: v5 :: v6 :: v7 :: v8 :: v9 :: v10 :: v11 :: .long x :: ls, sk, h) = zrun zpp E 214 (88, v0 :: v1 :: v2 :: v3 :: v4 :: v5 :: v6 :: v7 :: v8 :: v9 :: v10 :: v11 :: .long x :: ls, .long x :: sk, h) := zrun_at rfl
theorem zi214_88 {E : zE} {v0 v1 v2 v3 v4 v5 v6 v7 v8 v9 v10 v11 v12 v13 : Value} {x : Int32} {ls sk : List Value} {h : zH} : zrun zpp E 214 (88, v0 :: v1 :: v2 :: v3 :: v4 :: v5 :: v6 :: v7 :: v8 :: v9 :: v10 :: v11 :: v12 :: v13 :: .int x :: ls, sk, h) = zrun zpp E 214 (90, v0 :: v1 :: v2 :: v3 :: v4 :: v5 :: v6 :: v7 :: v8 :: v9 :: v10 :: v11 :: v12 :: v13 :: .int x :: ls, .int x :: sk, h) := zrun_at rfl
theorem zi214_90 {E : zE} {v0 v1 v2 v3 v4 v5 v6 v7 v8 v9 v10 : Value} {x : Int32} {ls sk : List Value} {h : zH} : zrun zpp E 214 (90, v0 :: v1 :: v2 :: v3 :: v4 :: v5 :: v6 :: v7 :: v8 :: v9 :: v10 :: .int x :: ls, sk, h) = zrun zpp E 214 (92, v0 :: v1 :: v2 :: v3 :: v4 :: v5 :: v6 :: v7 :: v8 :: v9 :: v10 :: .int x :: ls, .int x :: sk, h) := zrun_at rfl
theorem zi214_92 {E : zE} {x y : Int32} {ls sk : List Value} {h : zH} : zrun zpp E 214 (92, ls, .int y :: .int x :: sk, h) = if y ≤ x then zrun zpp E 214 (100, ls, sk, h) else zrun zpp E 214 (95, ls, sk, h) := zrun_at rfl
theorem zi214_95 {E : zE} {v0 : Value} {x : Int32} {ls sk : List Value} {h : zH} : zrun zpp E 214 (95, v0 :: .int x :: ls, sk, h) = zrun zpp E 214 (96, v0 :: .int x :: ls, .int x :: sk, h) := zrun_at rfl
theorem zi214_96 {E : zE} {x : Int32} {ls sk : List Value} {h : zH} : zrun zpp E 214 (96, ls, .int x :: sk, h) = zrun zpp E 214 (97, ls, .long x.toInt64 :: sk, h) := zrun_at rfl
theorem zi214_97 {E : zE} {ls sk : List Value} {h : zH} : zrun zpp E 214 (97, ls, sk, h) = zrun zpp E 214 (106, ls, sk, h) := zrun_at rfl
theorem zi214_100 {E : zE} {ls sk : List Value} {h : zH} : zrun zpp E 214 (100, ls, sk, h) = zrun zpp E 214 (103, ls, .long 10 :: sk, h) := zg_ldc2_w rfl cj_10
theorem zi214_103 {E : zE} {v0 : Value} {x : Int32} {ls sk : List Value} {h : zH} : zrun zpp E 214 (103, v0 :: .int x :: ls, sk, h) = zrun zpp E 214 (104, v0 :: .int x :: ls, .int x :: sk, h) := zrun_at rfl
theorem zi214_104 {E : zE} {x : Int32} {ls sk : List Value} {h : zH} : zrun zpp E 214 (104, ls, .int x :: sk, h) = zrun zpp E 214 (105, ls, .long x.toInt64 :: sk, h) := zrun_at rfl
theorem zi214_105 {E : zE} {x y : Int64} {ls sk : List Value} {h : zH} : zrun zpp E 214 (105, ls, .long y :: .long x :: sk, h) = zrun zpp E 214 (106, ls, .long (x - y) :: sk, h) := zrun_at rfl
theorem zi214_106 {E : zE} {x y : Int64} {ls sk : List Value} {h : zH} : zrun zpp E 214 (106, ls, .long y :: .long x :: sk, h) = zrun zpp E 214 (107, ls, .long (x * y) :: sk, h) := zrun_at rfl
theorem zi214_107 {E : zE} {x : Int64} {ls sk : List Value} {h : zH} : zrun zpp E 214 (107, ls, .long x :: sk, h) = if (zfree ls 12 && decide (12 + 1 < ls.length)) = true then zrun zpp E 214 (109, (ls.set 12 (.long x)).set (12 + 1) (.retAddr 0), sk, h) else none := zg_lst rfl (fun _ _ _ => rfl)
theorem zi214_109 {E : zE} {v0 v1 v2 v3 v4 v5 v6 v7 v8 v9 v10 v11 v12 v13 : Value} {x : Int32} {ls sk : List Value} {h : zH} : zrun zpp E 214 (109, v0 :: v1 :: v2 :: v3 :: v4 :: v5 :: v6 :: v7 :: v8 :: v9 :: v10 :: v11 :: v12 :: v13 :: .int x :: ls, sk, h) = if zfree (v0 :: v1 :: v2 :: v3 :: v4 :: v5 :: v6 :: v7 :: v8 :: v9 :: v10 :: v11 :: v12 :: v13 :: .int x :: ls) 14 = true then zrun zpp E 214 (112, v0 :: v1 :: v2 :: v3 :: v4 :: v5 :: v6 :: v7 :: v8 :: v9 :: v10 :: v11 :: v12 :: v13 :: .int (x + 1) :: ls, sk, h) else none := by rw [← ci_1]; exact zrun_at rfl
theorem zi214_112 {E : zE} {ls sk : List Value} {h : zH} : zrun zpp E 214 (112, ls, sk, h) = zrun zpp E 214 (80, ls, sk, h) := zrun_at rfl
theorem zi214_115 {E : zE} {v0 v1 v2 v3 v4 v5 v6 : Value} {x : Int64} {ls sk : List Value} {h : zH} : zrun zpp E 214 (115, v0 :: v1 :: v2 :: v3 :: v4 :: v5 :: v6 :: .long x :: ls, sk, h) = zrun zpp E 214 (117, v0 :: v1 :: v2 :: v3 :: v4 :: v5 :: v6 :: .long x :: ls, .long x :: sk, h) := zrun_at rfl
theorem zi214_117 {E : zE} {v0 v1 v2 v3 v4 v5 v6 v7 v8 v9 v10 : Value} {x : Int32} {ls sk : List Value} {h : zH} : zrun zpp E 214 (117, v0 :: v1 :: v2 :: v3 :: v4 :: v5 :: v6 :: v7 :: v8 :: v9 :: v10 :: .int x :: ls, sk, h) = zrun zpp E 214 (119, v0 :: v1 :: v2 :: v3 :: v4 :: v5 :: v6 :: v7 :: v8 :: v9 :: v10 :: .int x :: ls, .int x :: sk, h) := zrun_at rfl
theorem zi214_119 {E : zE} {v0 v1 v2 : Value} {x : Int32} {ls sk : List Value} {h : zH} : zrun zpp E 214 (119, v0 :: v1 :: v2 :: .int x :: ls, sk, h) = zrun zpp E 214 (120, v0 :: v1 :: v2 :: .int x :: ls, .int x :: sk, h) := zrun_at rfl
theorem zi214_120 {E : zE} {x y : Int32} {ls sk : List Value} {h : zH} : zrun zpp E 214 (120, ls, .int y :: .int x :: sk, h) = if x < y then zrun zpp E 214 (128, ls, sk, h) else zrun zpp E 214 (123, ls, sk, h) := zrun_at rfl
theorem zi214_123 {E : zE} {v0 v1 v2 v3 v4 v5 v6 v7 v8 v9 v10 v11 : Value} {x : Int64} {ls sk : List Value} {h : zH} : zrun zpp E 214 (123, v0 :: v1 :: v2 :: v3 :: v4 :: v5 :: v6 :: v7 :: v8 :: v9 :: v10 :: v11 :: .long x :: ls, sk, h) = zrun zpp E 214 (125, v0 :: v1 :: v2 :: v3 :: v4 :: v5 :: v6 :: v7 :: v8 :: v9 :: v10 :: v11 :: .long x :: ls, .long x :: sk, h) := zrun_at rfl
theorem zi214_125 {E : zE} {ls sk : List Value} {h : zH} : zrun zpp E 214 (125, ls, sk, h) = zrun zpp E 214 (129, ls, sk, h) := zrun_at rfl
theorem zi214_128 {E : zE} {ls sk : List Value} {h : zH} : zrun zpp E 214 (128, ls, sk, h) = zrun zpp E 214 (129, ls, .long 0 :: sk, h) := zg_lconst rfl rfl
theorem zi214_129 {E : zE} {x y : Int64} {ls sk : List Value} {h : zH} : zrun zpp E 214 (129, ls, .long y :: .long x :: sk, h) = zrun zpp E 214 (130, ls, .long (x + y) :: sk, h) := zrun_at rfl
theorem zi214_130 {E : zE} {x : Int64} {ls sk : List Value} {h : zH} : zrun zpp E 214 (130, ls, .long x :: sk, h) = if (zfree ls 7 && decide (7 + 1 < ls.length)) = true then zrun zpp E 214 (132, (ls.set 7 (.long x)).set (7 + 1) (.retAddr 0), sk, h) else none := zg_lst rfl (fun _ _ _ => rfl)
theorem zi214_132 {E : zE} {v0 v1 v2 v3 v4 : Value} {x : Int64} {ls sk : List Value} {h : zH} : zrun zpp E 214 (132, v0 :: v1 :: v2 :: v3 :: v4 :: .long x :: ls, sk, h) = zrun zpp E 214 (134, v0 :: v1 :: v2 :: v3 :: v4 :: .long x :: ls, .long x :: sk, h) := zrun_at rfl
theorem zi214_134 {E : zE} {v0 v1 : Value} {x : Int32} {ls sk : List Value} {h : zH} : zrun zpp E 214 (134, v0 :: v1 :: .int x :: ls, sk, h) = zrun zpp E 214 (135, v0 :: v1 :: .int x :: ls, .int x :: sk, h) := zrun_at rfl
theorem zi214_135 {E : zE} {v0 v1 v2 v3 v4 v5 v6 v7 v8 v9 v10 : Value} {x : Int32} {ls sk : List Value} {h : zH} : zrun zpp E 214 (135, v0 :: v1 :: v2 :: v3 :: v4 :: v5 :: v6 :: v7 :: v8 :: v9 :: v10 :: .int x :: ls, sk, h) = zrun zpp E 214 (137, v0 :: v1 :: v2 :: v3 :: v4 :: v5 :: v6 :: v7 :: v8 :: v9 :: v10 :: .int x :: ls, .int x :: sk, h) := zrun_at rfl
theorem zi214_137 {E : zE} {x y : Int32} {ls sk : List Value} {h : zH} : zrun zpp E 214 (137, ls, .int y :: .int x :: sk, h) = zrun zpp E 214 (138, ls, .int (x - y) :: sk, h) := zrun_at rfl
theorem zi214_138 {E : zE} {x : Int32} {ls sk : List Value} {h : zH} : zrun zpp E 214 (138, ls, .int x :: sk, h) = zrun zpp E 214 (139, ls, .long x.toInt64 :: sk, h) := zrun_at rfl
theorem zi214_139 {E : zE} {x y : Int64} {ls sk : List Value} {h : zH} : zrun zpp E 214 (139, ls, .long y :: .long x :: sk, h) = zrun zpp E 214 (140, ls, .long (x * y) :: sk, h) := zrun_at rfl
theorem zi214_140 {E : zE} {v0 v1 v2 v3 v4 v5 v6 v7 v8 v9 v10 : Value} {x : Int32} {ls sk : List Value} {h : zH} : zrun zpp E 214 (140, v0 :: v1 :: v2 :: v3 :: v4 :: v5 :: v6 :: v7 :: v8 :: v9 :: v10 :: .int x :: ls, sk, h) = zrun zpp E 214 (142, v0 :: v1 :: v2 :: v3 :: v4 :: v5 :: v6 :: v7 :: v8 :: v9 :: v10 :: .int x :: ls, .int x :: sk, h) := zrun_at rfl
theorem zi214_142 {E : zE} {ls sk : List Value} {h : zH} : zrun zpp E 214 (142, ls, sk, h) = zrun zpp E 214 (143, ls, .int 1 :: sk, h) := zg_iconst rfl ci_1
theorem zi214_143 {E : zE} {x y : Int32} {ls sk : List Value} {h : zH} : zrun zpp E 214 (143, ls, .int y :: .int x :: sk, h) = zrun zpp E 214 (144, ls, .int (x + y) :: sk, h) := zrun_at rfl
theorem zi214_144 {E : zE} {x : Int32} {ls sk : List Value} {h : zH} : zrun zpp E 214 (144, ls, .int x :: sk, h) = zrun zpp E 214 (145, ls, .long x.toInt64 :: sk, h) := zrun_at rfl
theorem zi214_145 {E : zE} {x y : Int64} {ls sk : List Value} {h : zH} : zrun zpp E 214 (145, ls, .long y :: .long x :: sk, h) = if y = 0 then none else zrun zpp E 214 (146, ls, .long (x / y) :: sk, h) := zrun_at rfl
theorem zi214_146 {E : zE} {x : Int64} {ls sk : List Value} {h : zH} : zrun zpp E 214 (146, ls, .long x :: sk, h) = if (zfree ls 5 && decide (5 + 1 < ls.length)) = true then zrun zpp E 214 (148, (ls.set 5 (.long x)).set (5 + 1) (.retAddr 0), sk, h) else none := zg_lst rfl (fun _ _ _ => rfl)
theorem zi214_148 {E : zE} {v0 v1 v2 v3 v4 v5 v6 v7 v8 v9 v10 : Value} {x : Int32} {ls sk : List Value} {h : zH} : zrun zpp E 214 (148, v0 :: v1 :: v2 :: v3 :: v4 :: v5 :: v6 :: v7 :: v8 :: v9 :: v10 :: .int x :: ls, sk, h) = if zfree (v0 :: v1 :: v2 :: v3 :: v4 :: v5 :: v6 :: v7 :: v8 :: v9 :: v10 :: .int x :: ls) 11 = true then zrun zpp E 214 (151, v0 :: v1 :: v2 :: v3 :: v4 :: v5 :: v6 :: v7 :: v8 :: v9 :: v10 :: .int (x + 1) :: ls, sk, h) else none := by rw [← ci_1]; exact zrun_at rfl
theorem zi214_151 {E : zE} {ls sk : List Value} {h : zH} : zrun zpp E 214 (151, ls, sk, h) = zrun zpp E 214 (67, ls, sk, h) := zrun_at rfl
theorem zi214_154 {E : zE} {ls sk : List Value} {h : zH} : zrun zpp E 214 (154, ls, sk, h) = zrun zpp E 214 (155, ls, .int 0 :: sk, h) := zg_iconst rfl ci_0
theorem zi214_155 {E : zE} {x : Int32} {ls sk : List Value} {h : zH} : zrun zpp E 214 (155, ls, .int x :: sk, h) = if zfree ls 11 = true then zrun zpp E 214 (157, ls.set 11 (.int x), sk, h) else none := zg_ist rfl (fun _ _ _ => rfl)
theorem zi214_157 {E : zE} {v0 v1 v2 v3 v4 v5 v6 v7 v8 v9 v10 : Value} {x : Int32} {ls sk : List Value} {h : zH} : zrun zpp E 214 (157, v0 :: v1 :: v2 :: v3 :: v4 :: v5 :: v6 :: v7 :: v8 :: v9 :: v10 :: .int x :: ls, sk, h) = zrun zpp E 214 (159, v0 :: v1 :: v2 :: v3 :: v4 :: v5 :: v6 :: v7 :: v8 :: v9 :: v10 :: .int x :: ls, .int x :: sk, h) := zrun_at rfl
theorem zi214_159 {E : zE} {v0 v1 : Value} {x : Int32} {ls sk : List Value} {h : zH} : zrun zpp E 214 (159, v0 :: v1 :: .int x :: ls, sk, h) = zrun zpp E 214 (160, v0 :: v1 :: .int x :: ls, .int x :: sk, h) := zrun_at rfl
theorem zi214_160 {E : zE} {x y : Int32} {ls sk : List Value} {h : zH} : zrun zpp E 214 (160, ls, .int y :: .int x :: sk, h) = if y ≤ x then zrun zpp E 214 (177, ls, sk, h) else zrun zpp E 214 (163, ls, sk, h) := zrun_at rfl
theorem zi214_163 {E : zE} {v0 v1 v2 v3 v4 v5 v6 v7 v8 : Value} {x : Int64} {ls sk : List Value} {h : zH} : zrun zpp E 214 (163, v0 :: v1 :: v2 :: v3 :: v4 :: v5 :: v6 :: v7 :: v8 :: .long x :: ls, sk, h) = zrun zpp E 214 (165, v0 :: v1 :: v2 :: v3 :: v4 :: v5 :: v6 :: v7 :: v8 :: .long x :: ls, .long x :: sk, h) := zrun_at rfl
theorem zi214_165 {E : zE} {ls sk : List Value} {h : zH} : zrun zpp E 214 (165, ls, sk, h) = zrun zpp E 214 (168, ls, .long 10 :: sk, h) := zg_ldc2_w rfl cj_10
theorem zi214_168 {E : zE} {x y : Int64} {ls sk : List Value} {h : zH} : zrun zpp E 214 (168, ls, .long y :: .long x :: sk, h) = zrun zpp E 214 (169, ls, .long (x * y) :: sk, h) := zrun_at rfl
theorem zi214_169 {E : zE} {x : Int64} {ls sk : List Value} {h : zH} : zrun zpp E 214 (169, ls, .long x :: sk, h) = if (zfree ls 9 && decide (9 + 1 < ls.length)) = true then zrun zpp E 214 (171, (ls.set 9 (.long x)).set (9 + 1) (.retAddr 0), sk, h) else none := zg_lst rfl (fun _ _ _ => rfl)
theorem zi214_171 {E : zE} {v0 v1 v2 v3 v4 v5 v6 v7 v8 v9 v10 : Value} {x : Int32} {ls sk : List Value} {h : zH} : zrun zpp E 214 (171, v0 :: v1 :: v2 :: v3 :: v4 :: v5 :: v6 :: v7 :: v8 :: v9 :: v10 :: .int x :: ls, sk, h) = if zfree (v0 :: v1 :: v2 :: v3 :: v4 :: v5 :: v6 :: v7 :: v8 :: v9 :: v10 :: .int x :: ls) 11 = true then zrun zpp E 214 (174, v0 :: v1 :: v2 :: v3 :: v4 :: v5 :: v6 :: v7 :: v8 :: v9 :: v10 :: .int (x + 1) :: ls, sk, h) else none := by rw [← ci_1]; exact zrun_at rfl
theorem zi214_174 {E : zE} {ls sk : List Value} {h : zH} : zrun zpp E 214 (174, ls, sk, h) = zrun zpp E 214 (157, ls, sk, h) := zrun_at rfl
theorem zi214_177 {E : zE} {v0 v1 v2 v3 v4 v5 v6 : Value} {x : Int64} {ls sk : List Value} {h : zH} : zrun zpp E 214 (177, v0 :: v1 :: v2 :: v3 :: v4 :: v5 :: v6 :: .long x :: ls, sk, h) = zrun zpp E 214 (179, v0 :: v1 :: v2 :: v3 :: v4 :: v5 :: v6 :: .long x :: ls, .long x :: sk, h) := zrun_at rfl
theorem zi214_179 {E : zE} {x : Int64} {ls sk : List Value} {h : zH} : zrun zpp E 214 (179, ls, .long x :: sk, h) = if (zfree ls 11 && decide (11 + 1 < ls.length)) = true then zrun zpp E 214 (181, (ls.set 11 (.long x)).set (11 + 1) (.retAddr 0), sk, h) else none := zg_lst rfl (fun _ _ _ => rfl)
theorem zi214_181 {E : zE} {v0 v1 v2 v3 v4 v5 v6 v7 v8 : Value} {x : Int64} {ls sk : List Value} {h : zH} : zrun zpp E 214 (181, v0 :: v1 :: v2 :: v3 :: v4 :: v5 :: v6 :: v7 :: v8 :: .long x :: ls, sk, h) = zrun zpp E 214 (183, v0 :: v1 :: v2 :: v3 :: v4 :: v5 :: v6 :: v7 :: v8 :: .long x :: ls, .long x :: sk, h) := zrun_at rfl
theorem zi214_183 {E : zE} {x : Int64} {ls sk : List Value} {h : zH} : zrun zpp E 214 (183, ls, .long x :: sk, h) = if (zfree ls 13 && decide (13 + 1 < ls.length)) = true then zrun zpp E 214 (185, (ls.set 13 (.long x)).set (13 + 1) (.retAddr 0), sk, h) else none := zg_lst rfl (fun _ _ _ => rfl)
theorem zi214_185 {E : zE} {v0 v1 v2 v3 v4 v5 v6 v7 v8 v9 v10 v11 v12 : Value} {x : Int64} {ls sk : List Value} {h : zH} : zrun zpp E 214 (185, v0 :: v1 :: v2 :: v3 :: v4 :: v5 :: v6 :: v7 :: v8 :: v9 :: v10 :: v11 :: v12 :: .long x :: ls, sk, h) = zrun zpp E 214 (187, v0 :: v1 :: v2 :: v3 :: v4 :: v5 :: v6 :: v7 :: v8 :: v9 :: v10 :: v11 :: v12 :: .long x :: ls, .long x :: sk, h) := zrun_at rfl
theorem zi214_187 {E : zE} {ls sk : List Value} {h : zH} : zrun zpp E 214 (187, ls, sk, h) = zrun zpp E 214 (188, ls, .long 0 :: sk, h) := zg_lconst rfl rfl
theorem zi214_188 {E : zE} {x y : Int64} {ls sk : List Value} {h : zH} : zrun zpp E 214 (188, ls, .long y :: .long x :: sk, h) = zrun zpp E 214 (189, ls, .int (lg_cmp x y) :: sk, h) := zrun_at rfl
theorem zi214_189 {E : zE} {x : Int32} {ls sk : List Value} {h : zH} : zrun zpp E 214 (189, ls, .int x :: sk, h) = if x = 0 then zrun zpp E 214 (210, ls, sk, h) else zrun zpp E 214 (192, ls, sk, h) := zrun_at rfl
theorem zi214_192 {E : zE} {v0 v1 v2 v3 v4 v5 v6 v7 v8 v9 v10 : Value} {x : Int64} {ls sk : List Value} {h : zH} : zrun zpp E 214 (192, v0 :: v1 :: v2 :: v3 :: v4 :: v5 :: v6 :: v7 :: v8 :: v9 :: v10 :: .long x :: ls, sk, h) = zrun zpp E 214 (194, v0 :: v1 :: v2 :: v3 :: v4 :: v5 :: v6 :: v7 :: v8 :: v9 :: v10 :: .long x :: ls, .long x :: sk, h) := zrun_at rfl
theorem zi214_194 {E : zE} {v0 v1 v2 v3 v4 v5 v6 v7 v8 v9 v10 v11 v12 : Value} {x : Int64} {ls sk : List Value} {h : zH} : zrun zpp E 214 (194, v0 :: v1 :: v2 :: v3 :: v4 :: v5 :: v6 :: v7 :: v8 :: v9 :: v10 :: v11 :: v12 :: .long x :: ls, sk, h) = zrun zpp E 214 (196, v0 :: v1 :: v2 :: v3 :: v4 :: v5 :: v6 :: v7 :: v8 :: v9 :: v10 :: v11 :: v12 :: .long x :: ls, .long x :: sk, h) := zrun_at rfl
theorem zi214_196 {E : zE} {x y : Int64} {ls sk : List Value} {h : zH} : zrun zpp E 214 (196, ls, .long y :: .long x :: sk, h) = if y = 0 then none else zrun zpp E 214 (197, ls, .long (x - x / y * y) :: sk, h) := zrun_at rfl
theorem zi214_197 {E : zE} {x : Int64} {ls sk : List Value} {h : zH} : zrun zpp E 214 (197, ls, .long x :: sk, h) = if (zfree ls 15 && decide (15 + 1 < ls.length)) = true then zrun zpp E 214 (199, (ls.set 15 (.long x)).set (15 + 1) (.retAddr 0), sk, h) else none := zg_lst rfl (fun _ _ _ => rfl)
theorem zi214_199 {E : zE} {v0 v1 v2 v3 v4 v5 v6 v7 v8 v9 v10 v11 v12 : Value} {x : Int64} {ls sk : List Value} {h : zH} : zrun zpp E 214 (199, v0 :: v1 :: v2 :: v3 :: v4 :: v5 :: v6 :: v7 :: v8 :: v9 :: v10 :: v11 :: v12 :: .long x :: ls, sk, h) = zrun zpp E 214 (201, v0 :: v1 :: v2 :: v3 :: v4 :: v5 :: v6 :: v7 :: v8 :: v9 :: v10 :: v11 :: v12 :: .long x :: ls, .long x :: sk, h) := zrun_at rfl
theorem zi214_201 {E : zE} {x : Int64} {ls sk : List Value} {h : zH} : zrun zpp E 214 (201, ls, .long x :: sk, h) = if (zfree ls 11 && decide (11 + 1 < ls.length)) = true then zrun zpp E 214 (203, (ls.set 11 (.long x)).set (11 + 1) (.retAddr 0), sk, h) else none := zg_lst rfl (fun _ _ _ => rfl)
theorem zi214_203 {E : zE} {v0 v1 v2 v3 v4 v5 v6 v7 v8 v9 v10 v11 v12 v13 v14 : Value} {x : Int64} {ls sk : List Value} {h : zH} : zrun zpp E 214 (203, v0 :: v1 :: v2 :: v3 :: v4 :: v5 :: v6 :: v7 :: v8 :: v9 :: v10 :: v11 :: v12 :: v13 :: v14 :: .long x :: ls, sk, h) = zrun zpp E 214 (205, v0 :: v1 :: v2 :: v3 :: v4 :: v5 :: v6 :: v7 :: v8 :: v9 :: v10 :: v11 :: v12 :: v13 :: v14 :: .long x :: ls, .long x :: sk, h) := zrun_at rfl
theorem zi214_205 {E : zE} {x : Int64} {ls sk : List Value} {h : zH} : zrun zpp E 214 (205, ls, .long x :: sk, h) = if (zfree ls 13 && decide (13 + 1 < ls.length)) = true then zrun zpp E 214 (207, (ls.set 13 (.long x)).set (13 + 1) (.retAddr 0), sk, h) else none := zg_lst rfl (fun _ _ _ => rfl)
theorem zi214_207 {E : zE} {ls sk : List Value} {h : zH} : zrun zpp E 214 (207, ls, sk, h) = zrun zpp E 214 (185, ls, sk, h) := zrun_at rfl
theorem zi214_210 {E : zE} {v0 v1 v2 v3 : Value} {x : Int32} {ls sk : List Value} {h : zH} : zrun zpp E 214 (210, v0 :: v1 :: v2 :: v3 :: .int x :: ls, sk, h) = zrun zpp E 214 (212, v0 :: v1 :: v2 :: v3 :: .int x :: ls, .int x :: sk, h) := zrun_at rfl
theorem zi214_212 {E : zE} {x : Int32} {ls sk : List Value} {h : zH} : zrun zpp E 214 (212, ls, .int x :: sk, h) = if x = 0 then zrun zpp E 214 (215, ls, sk, h) else zrun zpp E 214 (220, ls, sk, h) := zrun_at rfl
theorem zi214_215 {E : zE} {v0 v1 v2 v3 v4 v5 v6 : Value} {x : Int64} {ls sk : List Value} {h : zH} : zrun zpp E 214 (215, v0 :: v1 :: v2 :: v3 :: v4 :: v5 :: v6 :: .long x :: ls, sk, h) = zrun zpp E 214 (217, v0 :: v1 :: v2 :: v3 :: v4 :: v5 :: v6 :: .long x :: ls, .long x :: sk, h) := zrun_at rfl
theorem zi214_217 {E : zE} {ls sk : List Value} {h : zH} : zrun zpp E 214 (217, ls, sk, h) = zrun zpp E 214 (222, ls, sk, h) := zrun_at rfl
theorem zi214_220 {E : zE} {v0 v1 v2 v3 v4 v5 v6 v7 v8 : Value} {x : Int64} {ls sk : List Value} {h : zH} : zrun zpp E 214 (220, v0 :: v1 :: v2 :: v3 :: v4 :: v5 :: v6 :: v7 :: v8 :: .long x :: ls, sk, h) = zrun zpp E 214 (222, v0 :: v1 :: v2 :: v3 :: v4 :: v5 :: v6 :: v7 :: v8 :: .long x :: ls, .long x :: sk, h) := zrun_at rfl
theorem zi214_222 {E : zE} {v0 v1 v2 v3 v4 v5 v6 v7 v8 v9 v10 : Value} {x : Int64} {ls sk : List Value} {h : zH} : zrun zpp E 214 (222, v0 :: v1 :: v2 :: v3 :: v4 :: v5 :: v6 :: v7 :: v8 :: v9 :: v10 :: .long x :: ls, sk, h) = zrun zpp E 214 (224, v0 :: v1 :: v2 :: v3 :: v4 :: v5 :: v6 :: v7 :: v8 :: v9 :: v10 :: .long x :: ls, .long x :: sk, h) := zrun_at rfl
theorem zi214_224 {E : zE} {x y : Int64} {ls sk : List Value} {h : zH} : zrun zpp E 214 (224, ls, .long y :: .long x :: sk, h) = if y = 0 then none else zrun zpp E 214 (225, ls, .long (x / y) :: sk, h) := zrun_at rfl
theorem zi214_225 {E : zE} {x : Int64} {ls sk : List Value} {h : zH} : zrun zpp E 214 (225, ls, [.long x], h) = some (some (.long x), h) := zrun_at rfl
-- 215 NineDownModel.drawn
theorem zi215_0 {E : zE} {x : Nat} {ls sk : List Value} {h : zH} : zrun zpp E 215 (0, .ref x :: ls, sk, h) = zrun zpp E 215 (1, .ref x :: ls, .ref x :: sk, h) := zrun_at rfl
theorem zi215_0n {E : zE} {ls sk : List Value} {h : zH} : zrun zpp E 215 (0, .null :: ls, sk, h) = zrun zpp E 215 (1, .null :: ls, .null :: sk, h) := zrun_at rfl
theorem zi215_1 {E : zE} {ls sk : List Value} {h : zH} : zrun zpp E 215 (1, ls, sk, h) = zrun zpp E 215 (2, ls, .int 0 :: sk, h) := zg_iconst rfl ci_0
theorem zi215_2 {E : zE} {x : Nat} {v : Value} {ls sk : List Value} {h : zH} : zrun zpp E 215 (2, ls, v :: .ref x :: sk, h) = (zstf [11] 0 h x 0 v).bind (fun h' => zrun zpp E 215 (5, ls, sk, h')) := zg_putf rfl
theorem zi215_5 {E : zE} {x : Nat} {ls sk : List Value} {h : zH} : zrun zpp E 215 (5, .ref x :: ls, sk, h) = zrun zpp E 215 (6, .ref x :: ls, .ref x :: sk, h) := zrun_at rfl
theorem zi215_5n {E : zE} {ls sk : List Value} {h : zH} : zrun zpp E 215 (5, .null :: ls, sk, h) = zrun zpp E 215 (6, .null :: ls, .null :: sk, h) := zrun_at rfl
theorem zi215_6 {E : zE} {x : Nat} {ls sk : List Value} {h : zH} : zrun zpp E 215 (6, ls, .ref x :: sk, h) = (zcls h x).bind (fun d => (zsel d [11, 172]).bind (fun M' => zcl1 E 215 9 M' ls sk [.ref x] h)) := zg_vir (as := []) rfl rfl
theorem zi215_9 {E : zE} {x : Int32} {ls sk : List Value} {h : zH} : zrun zpp E 215 (9, ls, .int x :: sk, h) = if x = 0 then zrun zpp E 215 (12, ls, sk, h) else zrun zpp E 215 (15, ls, sk, h) := zrun_at rfl
theorem zi215_12 {E : zE} {ls sk : List Value} {h : zH} : zrun zpp E 215 (12, ls, sk, h) = zrun zpp E 215 (14, ls, .int (-1000002) :: sk, h) := zg_ldc rfl ci_m1000002
theorem zi215_14 {E : zE} {x : Int32} {ls sk : List Value} {h : zH} : zrun zpp E 215 (14, ls, [.int x], h) = some (some (.int x), h) := zrun_at rfl
theorem zi215_15 {E : zE} {v0 : Value} {x : Int32} {ls sk : List Value} {h : zH} : zrun zpp E 215 (15, v0 :: .int x :: ls, sk, h) = zrun zpp E 215 (16, v0 :: .int x :: ls, .int x :: sk, h) := zrun_at rfl
theorem zi215_16 {E : zE} {x : Int32} {ls sk : List Value} {h : zH} : zrun zpp E 215 (16, ls, .int x :: sk, h) = zrun zpp E 215 (17, ls, .long x.toInt64 :: sk, h) := zrun_at rfl
theorem zi215_17 {E : zE} {ls sk : List Value} {h : zH} : zrun zpp E 215 (17, ls, sk, h) = zrun zpp E 215 (18, ls, .long 0 :: sk, h) := zg_lconst rfl rfl
theorem zi215_18 {E : zE} {ls sk : List Value} {h : zH} : zrun zpp E 215 (18, ls, sk, h) = zrun zpp E 215 (21, ls, .long 60 :: sk, h) := zg_ldc2_w rfl cj_60
theorem zi215_21 {E : zE} {a0 a1 a2 : Value} {ls sk : List Value} {h : zH} : zrun zpp E 215 (21, ls, a2 :: a1 :: a0 :: sk, h) = zcl1 E 215 24 149 ls sk [a0, a1, a2] h := zg_inv (as := [a0, a1, a2]) rfl rfl
theorem zi215_24 {E : zE} {x : Int32} {ls sk : List Value} {h : zH} : zrun zpp E 215 (24, ls, .int x :: sk, h) = if x = 0 then zrun zpp E 215 (49, ls, sk, h) else zrun zpp E 215 (27, ls, sk, h) := zrun_at rfl
theorem zi215_27 {E : zE} {v0 v1 : Value} {x : Int32} {ls sk : List Value} {h : zH} : zrun zpp E 215 (27, v0 :: v1 :: .int x :: ls, sk, h) = zrun zpp E 215 (28, v0 :: v1 :: .int x :: ls, .int x :: sk, h) := zrun_at rfl
theorem zi215_28 {E : zE} {x : Int32} {ls sk : List Value} {h : zH} : zrun zpp E 215 (28, ls, .int x :: sk, h) = zrun zpp E 215 (29, ls, .long x.toInt64 :: sk, h) := zrun_at rfl
theorem zi215_29 {E : zE} {ls sk : List Value} {h : zH} : zrun zpp E 215 (29, ls, sk, h) = zrun zpp E 215 (30, ls, .long 1 :: sk, h) := zg_lconst rfl rfl
theorem zi215_30 {E : zE} {ls sk : List Value} {h : zH} : zrun zpp E 215 (30, ls, sk, h) = zrun zpp E 215 (33, ls, .long 999999 :: sk, h) := zg_ldc2_w rfl cj_999999
theorem zi215_33 {E : zE} {a0 a1 a2 : Value} {ls sk : List Value} {h : zH} : zrun zpp E 215 (33, ls, a2 :: a1 :: a0 :: sk, h) = zcl1 E 215 36 149 ls sk [a0, a1, a2] h := zg_inv (as := [a0, a1, a2]) rfl rfl
theorem zi215_36 {E : zE} {x : Int32} {ls sk : List Value} {h : zH} : zrun zpp E 215 (36, ls, .int x :: sk, h) = if x = 0 then zrun zpp E 215 (49, ls, sk, h) else zrun zpp E 215 (39, ls, sk, h) := zrun_at rfl
theorem zi215_39 {E : zE} {v0 v1 v2 : Value} {x : Int32} {ls sk : List Value} {h : zH} : zrun zpp E 215 (39, v0 :: v1 :: v2 :: .int x :: ls, sk, h) = zrun zpp E 215 (40, v0 :: v1 :: v2 :: .int x :: ls, .int x :: sk, h) := zrun_at rfl
theorem zi215_40 {E : zE} {x : Int32} {ls sk : List Value} {h : zH} : zrun zpp E 215 (40, ls, .int x :: sk, h) = zrun zpp E 215 (41, ls, .long x.toInt64 :: sk, h) := zrun_at rfl
theorem zi215_41 {E : zE} {ls sk : List Value} {h : zH} : zrun zpp E 215 (41, ls, sk, h) = zrun zpp E 215 (42, ls, .long 0 :: sk, h) := zg_lconst rfl rfl
theorem zi215_42 {E : zE} {ls sk : List Value} {h : zH} : zrun zpp E 215 (42, ls, sk, h) = zrun zpp E 215 (43, ls, .long 1 :: sk, h) := zg_lconst rfl rfl
theorem zi215_43 {E : zE} {a0 a1 a2 : Value} {ls sk : List Value} {h : zH} : zrun zpp E 215 (43, ls, a2 :: a1 :: a0 :: sk, h) = zcl1 E 215 46 149 ls sk [a0, a1, a2] h := zg_inv (as := [a0, a1, a2]) rfl rfl
theorem zi215_46 {E : zE} {x : Int32} {ls sk : List Value} {h : zH} : zrun zpp E 215 (46, ls, .int x :: sk, h) = if x = 0 then zrun zpp E 215 (49, ls, sk, h) else zrun zpp E 215 (52, ls, sk, h) := zrun_at rfl
theorem zi215_49 {E : zE} {ls sk : List Value} {h : zH} : zrun zpp E 215 (49, ls, sk, h) = zrun zpp E 215 (51, ls, .int (-1000001) :: sk, h) := zg_ldc rfl ci_m1000001
theorem zi215_51 {E : zE} {x : Int32} {ls sk : List Value} {h : zH} : zrun zpp E 215 (51, ls, [.int x], h) = some (some (.int x), h) := zrun_at rfl
theorem zi215_52 {E : zE} {v0 v1 : Value} {x : Int32} {ls sk : List Value} {h : zH} : zrun zpp E 215 (52, v0 :: v1 :: .int x :: ls, sk, h) = zrun zpp E 215 (53, v0 :: v1 :: .int x :: ls, .int x :: sk, h) := zrun_at rfl
theorem zi215_53 {E : zE} {x : Int32} {ls sk : List Value} {h : zH} : zrun zpp E 215 (53, ls, .int x :: sk, h) = zrun zpp E 215 (54, ls, .long x.toInt64 :: sk, h) := zrun_at rfl
theorem zi215_54 {E : zE} {x : Int64} {ls sk : List Value} {h : zH} : zrun zpp E 215 (54, ls, .long x :: sk, h) = if (zfree ls 4 && decide (4 + 1 < ls.length)) = true then zrun zpp E 215 (56, (ls.set 4 (.long x)).set (4 + 1) (.retAddr 0), sk, h) else none := zg_lst rfl (fun _ _ _ => rfl)
theorem zi215_56 {E : zE} {x : Nat} {ls sk : List Value} {h : zH} : zrun zpp E 215 (56, .ref x :: ls, sk, h) = zrun zpp E 215 (57, .ref x :: ls, .ref x :: sk, h) := zrun_at rfl
theorem zi215_56n {E : zE} {ls sk : List Value} {h : zH} : zrun zpp E 215 (56, .null :: ls, sk, h) = zrun zpp E 215 (57, .null :: ls, .null :: sk, h) := zrun_at rfl
theorem zi215_57 {E : zE} {x : Nat} {ls sk : List Value} {h : zH} : zrun zpp E 215 (57, ls, .ref x :: sk, h) = (zfld [11] h x 5).bind (fun v => zrun zpp E 215 (60, ls, v :: sk, h)) := zg_getf rfl
theorem zi215_60 {E : zE} {ls sk : List Value} {h : zH} : zrun zpp E 215 (60, ls, sk, h) = zrun zpp E 215 (62, ls, .int 8 :: sk, h) := zg_bipush rfl ci_8
theorem zi215_62 {E : zE} {x : Nat} {i : Int32} {ls sk : List Value} {h : zH} : zrun zpp E 215 (62, ls, .int i :: .ref x :: sk, h) = (zarr 0 h x i).bind (fun v => zrun zpp E 215 (63, ls, .int v :: sk, h)) := zg_iald rfl
theorem zi215_63 {E : zE} {x : Int32} {ls sk : List Value} {h : zH} : zrun zpp E 215 (63, ls, .int x :: sk, h) = if zfree ls 6 = true then zrun zpp E 215 (65, ls.set 6 (.int x), sk, h) else none := zg_ist rfl (fun _ _ _ => rfl)
theorem zi215_65 {E : zE} {ls sk : List Value} {h : zH} : zrun zpp E 215 (65, ls, sk, h) = zrun zpp E 215 (66, ls, .int 0 :: sk, h) := zg_iconst rfl ci_0
theorem zi215_66 {E : zE} {x : Int32} {ls sk : List Value} {h : zH} : zrun zpp E 215 (66, ls, .int x :: sk, h) = if zfree ls 7 = true then zrun zpp E 215 (68, ls.set 7 (.int x), sk, h) else none := zg_ist rfl (fun _ _ _ => rfl)
theorem zi215_68 {E : zE} {ls sk : List Value} {h : zH} : zrun zpp E 215 (68, ls, sk, h) = zrun zpp E 215 (69, ls, .int 0 :: sk, h) := zg_iconst rfl ci_0
theorem zi215_69 {E : zE} {x : Int32} {ls sk : List Value} {h : zH} : zrun zpp E 215 (69, ls, .int x :: sk, h) = if zfree ls 8 = true then zrun zpp E 215 (71, ls.set 8 (.int x), sk, h) else none := zg_ist rfl (fun _ _ _ => rfl)
theorem zi215_71 {E : zE} {ls sk : List Value} {h : zH} : zrun zpp E 215 (71, ls, sk, h) = zrun zpp E 215 (72, ls, .int 0 :: sk, h) := zg_iconst rfl ci_0
theorem zi215_72 {E : zE} {x : Int32} {ls sk : List Value} {h : zH} : zrun zpp E 215 (72, ls, .int x :: sk, h) = if zfree ls 9 = true then zrun zpp E 215 (74, ls.set 9 (.int x), sk, h) else none := zg_ist rfl (fun _ _ _ => rfl)
theorem zi215_74 {E : zE} {v0 v1 v2 v3 v4 v5 v6 v7 v8 : Value} {x : Int32} {ls sk : List Value} {h : zH} : zrun zpp E 215 (74, v0 :: v1 :: v2 :: v3 :: v4 :: v5 :: v6 :: v7 :: v8 :: .int x :: ls, sk, h) = zrun zpp E 215 (76, v0 :: v1 :: v2 :: v3 :: v4 :: v5 :: v6 :: v7 :: v8 :: .int x :: ls, .int x :: sk, h) := zrun_at rfl
theorem zi215_76 {E : zE} {v0 : Value} {x : Int32} {ls sk : List Value} {h : zH} : zrun zpp E 215 (76, v0 :: .int x :: ls, sk, h) = zrun zpp E 215 (77, v0 :: .int x :: ls, .int x :: sk, h) := zrun_at rfl
theorem zi215_77 {E : zE} {x y : Int32} {ls sk : List Value} {h : zH} : zrun zpp E 215 (77, ls, .int y :: .int x :: sk, h) = if y ≤ x then zrun zpp E 215 (251, ls, sk, h) else zrun zpp E 215 (80, ls, sk, h) := zrun_at rfl
theorem zi215_80 {E : zE} {v0 v1 v2 v3 : Value} {x : Int64} {ls sk : List Value} {h : zH} : zrun zpp E 215 (80, v0 :: v1 :: v2 :: v3 :: .long x :: ls, sk, h) = zrun zpp E 215 (82, v0 :: v1 :: v2 :: v3 :: .long x :: ls, .long x :: sk, h) := zrun_at rfl
theorem zi215_82 {E : zE} {ls sk : List Value} {h : zH} : zrun zpp E 215 (82, ls, sk, h) = zrun zpp E 215 (85, ls, .long 16807 :: sk, h) := zg_ldc2_w rfl cj_16807
theorem zi215_85 {E : zE} {x y : Int64} {ls sk : List Value} {h : zH} : zrun zpp E 215 (85, ls, .long y :: .long x :: sk, h) = zrun zpp E 215 (86, ls, .long (x * y) :: sk, h) := zrun_at rfl
theorem zi215_86 {E : zE} {ls sk : List Value} {h : zH} : zrun zpp E 215 (86, ls, sk, h) = zrun zpp E 215 (89, ls, .long 2147483647 :: sk, h) := zg_ldc2_w rfl cj_2147483647
theorem zi215_89 {E : zE} {x y : Int64} {ls sk : List Value} {h : zH} : zrun zpp E 215 (89, ls, .long y :: .long x :: sk, h) = if y = 0 then none else zrun zpp E 215 (90, ls, .long (x - x / y * y) :: sk, h) := zrun_at rfl
theorem zi215_90 {E : zE} {x : Int64} {ls sk : List Value} {h : zH} : zrun zpp E 215 (90, ls, .long x :: sk, h) = if (zfree ls 4 && decide (4 + 1 < ls.length)) = true then zrun zpp E 215 (92, (ls.set 4 (.long x)).set (4 + 1) (.retAddr 0), sk, h) else none := zg_lst rfl (fun _ _ _ => rfl)
theorem zi215_92 {E : zE} {v0 v1 v2 v3 : Value} {x : Int64} {ls sk : List Value} {h : zH} : zrun zpp E 215 (92, v0 :: v1 :: v2 :: v3 :: .long x :: ls, sk, h) = zrun zpp E 215 (94, v0 :: v1 :: v2 :: v3 :: .long x :: ls, .long x :: sk, h) := zrun_at rfl
theorem zi215_94 {E : zE} {x : Nat} {ls sk : List Value} {h : zH} : zrun zpp E 215 (94, .ref x :: ls, sk, h) = zrun zpp E 215 (95, .ref x :: ls, .ref x :: sk, h) := zrun_at rfl
theorem zi215_94n {E : zE} {ls sk : List Value} {h : zH} : zrun zpp E 215 (94, .null :: ls, sk, h) = zrun zpp E 215 (95, .null :: ls, .null :: sk, h) := zrun_at rfl
theorem zi215_95 {E : zE} {x : Nat} {ls sk : List Value} {h : zH} : zrun zpp E 215 (95, ls, .ref x :: sk, h) = (zfld [11] h x 5).bind (fun v => zrun zpp E 215 (98, ls, v :: sk, h)) := zg_getf rfl
theorem zi215_98 {E : zE} {ls sk : List Value} {h : zH} : zrun zpp E 215 (98, ls, sk, h) = zrun zpp E 215 (99, ls, .int 3 :: sk, h) := zg_iconst rfl ci_3
theorem zi215_99 {E : zE} {x : Nat} {i : Int32} {ls sk : List Value} {h : zH} : zrun zpp E 215 (99, ls, .int i :: .ref x :: sk, h) = (zarr 0 h x i).bind (fun v => zrun zpp E 215 (100, ls, .int v :: sk, h)) := zg_iald rfl
theorem zi215_100 {E : zE} {x : Int32} {ls sk : List Value} {h : zH} : zrun zpp E 215 (100, ls, .int x :: sk, h) = zrun zpp E 215 (101, ls, .long x.toInt64 :: sk, h) := zrun_at rfl
theorem zi215_101 {E : zE} {x y : Int64} {ls sk : List Value} {h : zH} : zrun zpp E 215 (101, ls, .long y :: .long x :: sk, h) = if y = 0 then none else zrun zpp E 215 (102, ls, .long (x - x / y * y) :: sk, h) := zrun_at rfl
theorem zi215_102 {E : zE} {x : Int64} {ls sk : List Value} {h : zH} : zrun zpp E 215 (102, ls, .long x :: sk, h) = zrun zpp E 215 (103, ls, .int x.toInt32 :: sk, h) := zrun_at rfl
theorem zi215_103 {E : zE} {x : Int32} {ls sk : List Value} {h : zH} : zrun zpp E 215 (103, ls, .int x :: sk, h) = if zfree ls 10 = true then zrun zpp E 215 (105, ls.set 10 (.int x), sk, h) else none := zg_ist rfl (fun _ _ _ => rfl)
theorem zi215_105 {E : zE} {x : Nat} {ls sk : List Value} {h : zH} : zrun zpp E 215 (105, .ref x :: ls, sk, h) = zrun zpp E 215 (106, .ref x :: ls, .ref x :: sk, h) := zrun_at rfl
theorem zi215_105n {E : zE} {ls sk : List Value} {h : zH} : zrun zpp E 215 (105, .null :: ls, sk, h) = zrun zpp E 215 (106, .null :: ls, .null :: sk, h) := zrun_at rfl
theorem zi215_106 {E : zE} {x : Nat} {ls sk : List Value} {h : zH} : zrun zpp E 215 (106, ls, .ref x :: sk, h) = (zfld [11] h x 5).bind (fun v => zrun zpp E 215 (109, ls, v :: sk, h)) := zg_getf rfl
theorem zi215_109 {E : zE} {ls sk : List Value} {h : zH} : zrun zpp E 215 (109, ls, sk, h) = zrun zpp E 215 (110, ls, .int 5 :: sk, h) := zg_iconst rfl ci_5
theorem zi215_110 {E : zE} {x : Nat} {i : Int32} {ls sk : List Value} {h : zH} : zrun zpp E 215 (110, ls, .int i :: .ref x :: sk, h) = (zarr 0 h x i).bind (fun v => zrun zpp E 215 (111, ls, .int v :: sk, h)) := zg_iald rfl
theorem zi215_111 {E : zE} {x : Int32} {ls sk : List Value} {h : zH} : zrun zpp E 215 (111, ls, .int x :: sk, h) = if x = 0 then zrun zpp E 215 (114, ls, sk, h) else zrun zpp E 215 (118, ls, sk, h) := zrun_at rfl
theorem zi215_114 {E : zE} {ls sk : List Value} {h : zH} : zrun zpp E 215 (114, ls, sk, h) = zrun zpp E 215 (115, ls, .int 0 :: sk, h) := zg_iconst rfl ci_0
theorem zi215_115 {E : zE} {ls sk : List Value} {h : zH} : zrun zpp E 215 (115, ls, sk, h) = zrun zpp E 215 (129, ls, sk, h) := zrun_at rfl
theorem zi215_118 {E : zE} {v0 v1 v2 v3 : Value} {x : Int64} {ls sk : List Value} {h : zH} : zrun zpp E 215 (118, v0 :: v1 :: v2 :: v3 :: .long x :: ls, sk, h) = zrun zpp E 215 (120, v0 :: v1 :: v2 :: v3 :: .long x :: ls, .long x :: sk, h) := zrun_at rfl
theorem zi215_120 {E : zE} {x : Nat} {ls sk : List Value} {h : zH} : zrun zpp E 215 (120, .ref x :: ls, sk, h) = zrun zpp E 215 (121, .ref x :: ls, .ref x :: sk, h) := zrun_at rfl
theorem zi215_120n {E : zE} {ls sk : List Value} {h : zH} : zrun zpp E 215 (120, .null :: ls, sk, h) = zrun zpp E 215 (121, .null :: ls, .null :: sk, h) := zrun_at rfl
theorem zi215_121 {E : zE} {x : Nat} {ls sk : List Value} {h : zH} : zrun zpp E 215 (121, ls, .ref x :: sk, h) = (zfld [11] h x 5).bind (fun v => zrun zpp E 215 (124, ls, v :: sk, h)) := zg_getf rfl
theorem zi215_124 {E : zE} {ls sk : List Value} {h : zH} : zrun zpp E 215 (124, ls, sk, h) = zrun zpp E 215 (125, ls, .int 5 :: sk, h) := zg_iconst rfl ci_5
theorem zi215_125 {E : zE} {x : Nat} {i : Int32} {ls sk : List Value} {h : zH} : zrun zpp E 215 (125, ls, .int i :: .ref x :: sk, h) = (zarr 0 h x i).bind (fun v => zrun zpp E 215 (126, ls, .int v :: sk, h)) := zg_iald rfl
theorem zi215_126 {E : zE} {x : Int32} {ls sk : List Value} {h : zH} : zrun zpp E 215 (126, ls, .int x :: sk, h) = zrun zpp E 215 (127, ls, .long x.toInt64 :: sk, h) := zrun_at rfl
theorem zi215_127 {E : zE} {x y : Int64} {ls sk : List Value} {h : zH} : zrun zpp E 215 (127, ls, .long y :: .long x :: sk, h) = if y = 0 then none else zrun zpp E 215 (128, ls, .long (x - x / y * y) :: sk, h) := zrun_at rfl
theorem zi215_128 {E : zE} {x : Int64} {ls sk : List Value} {h : zH} : zrun zpp E 215 (128, ls, .long x :: sk, h) = zrun zpp E 215 (129, ls, .int x.toInt32 :: sk, h) := zrun_at rfl
theorem zi215_129 {E : zE} {x : Int32} {ls sk : List Value} {h : zH} : zrun zpp E 215 (129, ls, .int x :: sk, h) = if zfree ls 11 = true then zrun zpp E 215 (131, ls.set 11 (.int x), sk, h) else none := zg_ist rfl (fun _ _ _ => rfl)
theorem zi215_131 {E : zE} {x : Nat} {ls sk : List Value} {h : zH} : zrun zpp E 215 (131, .ref x :: ls, sk, h) = zrun zpp E 215 (132, .ref x :: ls, .ref x :: sk, h) := zrun_at rfl
theorem zi215_131n {E : zE} {ls sk : List Value} {h : zH} : zrun zpp E 215 (131, .null :: ls, sk, h) = zrun zpp E 215 (132, .null :: ls, .null :: sk, h) := zrun_at rfl
theorem zi215_132 {E : zE} {x : Nat} {ls sk : List Value} {h : zH} : zrun zpp E 215 (132, ls, .ref x :: sk, h) = (zfld [11] h x 5).bind (fun v => zrun zpp E 215 (135, ls, v :: sk, h)) := zg_getf rfl
theorem zi215_135 {E : zE} {ls sk : List Value} {h : zH} : zrun zpp E 215 (135, ls, sk, h) = zrun zpp E 215 (136, ls, .int 5 :: sk, h) := zg_iconst rfl ci_5
theorem zi215_136 {E : zE} {x : Nat} {i : Int32} {ls sk : List Value} {h : zH} : zrun zpp E 215 (136, ls, .int i :: .ref x :: sk, h) = (zarr 0 h x i).bind (fun v => zrun zpp E 215 (137, ls, .int v :: sk, h)) := zg_iald rfl
theorem zi215_137 {E : zE} {x : Int32} {ls sk : List Value} {h : zH} : zrun zpp E 215 (137, ls, .int x :: sk, h) = if x ≤ 0 then zrun zpp E 215 (212, ls, sk, h) else zrun zpp E 215 (140, ls, sk, h) := zrun_at rfl
theorem zi215_140 {E : zE} {x : Nat} {ls sk : List Value} {h : zH} : zrun zpp E 215 (140, .ref x :: ls, sk, h) = zrun zpp E 215 (141, .ref x :: ls, .ref x :: sk, h) := zrun_at rfl
theorem zi215_140n {E : zE} {ls sk : List Value} {h : zH} : zrun zpp E 215 (140, .null :: ls, sk, h) = zrun zpp E 215 (141, .null :: ls, .null :: sk, h) := zrun_at rfl
theorem zi215_141 {E : zE} {x : Nat} {ls sk : List Value} {h : zH} : zrun zpp E 215 (141, .ref x :: ls, sk, h) = zrun zpp E 215 (142, .ref x :: ls, .ref x :: sk, h) := zrun_at rfl
theorem zi215_141n {E : zE} {ls sk : List Value} {h : zH} : zrun zpp E 215 (141, .null :: ls, sk, h) = zrun zpp E 215 (142, .null :: ls, .null :: sk, h) := zrun_at rfl
theorem zi215_142 {E : zE} {v0 v1 v2 v3 v4 v5 v6 v7 v8 v9 v10 : Value} {x : Int32} {ls sk : List Value} {h : zH} : zrun zpp E 215 (142, v0 :: v1 :: v2 :: v3 :: v4 :: v5 :: v6 :: v7 :: v8 :: v9 :: v10 :: .int x :: ls, sk, h) = zrun zpp E 215 (144, v0 :: v1 :: v2 :: v3 :: v4 :: v5 :: v6 :: v7 :: v8 :: v9 :: v10 :: .int x :: ls, .int x :: sk, h) := zrun_at rfl
theorem zi215_144 {E : zE} {a0 : Value} {x : Nat} {ls sk : List Value} {h : zH} : zrun zpp E 215 (144, ls, a0 :: .ref x :: sk, h) = (zcls h x).bind (fun d => (zsel d [11, 179]).bind (fun M' => zcl1 E 215 147 M' ls sk [.ref x, a0] h)) := zg_vir (as := [a0]) rfl rfl
theorem zi215_147 {E : zE} {x : Nat} {ls sk : List Value} {h : zH} : zrun zpp E 215 (147, .ref x :: ls, sk, h) = zrun zpp E 215 (148, .ref x :: ls, .ref x :: sk, h) := zrun_at rfl
theorem zi215_147n {E : zE} {ls sk : List Value} {h : zH} : zrun zpp E 215 (147, .null :: ls, sk, h) = zrun zpp E 215 (148, .null :: ls, .null :: sk, h) := zrun_at rfl
theorem zi215_148 {E : zE} {v0 v1 v2 v3 v4 v5 v6 v7 v8 v9 v10 : Value} {x : Int32} {ls sk : List Value} {h : zH} : zrun zpp E 215 (148, v0 :: v1 :: v2 :: v3 :: v4 :: v5 :: v6 :: v7 :: v8 :: v9 :: v10 :: .int x :: ls, sk, h) = zrun zpp E 215 (150, v0 :: v1 :: v2 :: v3 :: v4 :: v5 :: v6 :: v7 :: v8 :: v9 :: v10 :: .int x :: ls, .int x :: sk, h) := zrun_at rfl
theorem zi215_150 {E : zE} {a0 : Value} {x : Nat} {ls sk : List Value} {h : zH} : zrun zpp E 215 (150, ls, a0 :: .ref x :: sk, h) = (zcls h x).bind (fun d => (zsel d [11, 180]).bind (fun M' => zcl1 E 215 153 M' ls sk [.ref x, a0] h)) := zg_vir (as := [a0]) rfl rfl
theorem zi215_153 {E : zE} {v0 v1 v2 v3 v4 v5 : Value} {x : Int32} {ls sk : List Value} {h : zH} : zrun zpp E 215 (153, v0 :: v1 :: v2 :: v3 :: v4 :: v5 :: .int x :: ls, sk, h) = zrun zpp E 215 (155, v0 :: v1 :: v2 :: v3 :: v4 :: v5 :: .int x :: ls, .int x :: sk, h) := zrun_at rfl
theorem zi215_155 {E : zE} {v0 v1 v2 v3 v4 v5 v6 v7 v8 v9 : Value} {x : Int32} {ls sk : List Value} {h : zH} : zrun zpp E 215 (155, v0 :: v1 :: v2 :: v3 :: v4 :: v5 :: v6 :: v7 :: v8 :: v9 :: .int x :: ls, sk, h) = zrun zpp E 215 (157, v0 :: v1 :: v2 :: v3 :: v4 :: v5 :: v6 :: v7 :: v8 :: v9 :: .int x :: ls, .int x :: sk, h) := zrun_at rfl
theorem zi215_157 {E : zE} {a0 a1 a2 a3 : Value} {x : Nat} {ls sk : List Value} {h : zH} : zrun zpp E 215 (157, ls, a3 :: a2 :: a1 :: a0 :: .ref x :: sk, h) = (zcls h x).bind (fun d => (zsel d [11, 186]).bind (fun M' => zcl1 E 215 160 M' ls sk [.ref x, a0, a1, a2, a3] h)) := zg_vir (as := [a0, a1, a2, a3]) rfl rfl
theorem zi215_160 {E : zE} {x : Int32} {ls sk : List Value} {h : zH} : zrun zpp E 215 (160, ls, .int x :: sk, h) = if x = 0 then zrun zpp E 215 (212, ls, sk, h) else zrun zpp E 215 (163, ls, sk, h) := zrun_at rfl
theorem zi215_163 {E : zE} {v0 v1 v2 v3 v4 v5 v6 : Value} {x : Int32} {ls sk : List Value} {h : zH} : zrun zpp E 215 (163, v0 :: v1 :: v2 :: v3 :: v4 :: v5 :: v6 :: .int x :: ls, sk, h) = zrun zpp E 215 (165, v0 :: v1 :: v2 :: v3 :: v4 :: v5 :: v6 :: .int x :: ls, .int x :: sk, h) := zrun_at rfl
theorem zi215_165 {E : zE} {x : Nat} {ls sk : List Value} {h : zH} : zrun zpp E 215 (165, .ref x :: ls, sk, h) = zrun zpp E 215 (166, .ref x :: ls, .ref x :: sk, h) := zrun_at rfl
theorem zi215_165n {E : zE} {ls sk : List Value} {h : zH} : zrun zpp E 215 (165, .null :: ls, sk, h) = zrun zpp E 215 (166, .null :: ls, .null :: sk, h) := zrun_at rfl
theorem zi215_166 {E : zE} {x : Nat} {ls sk : List Value} {h : zH} : zrun zpp E 215 (166, .ref x :: ls, sk, h) = zrun zpp E 215 (167, .ref x :: ls, .ref x :: sk, h) := zrun_at rfl
theorem zi215_166n {E : zE} {ls sk : List Value} {h : zH} : zrun zpp E 215 (166, .null :: ls, sk, h) = zrun zpp E 215 (167, .null :: ls, .null :: sk, h) := zrun_at rfl
theorem zi215_167 {E : zE} {v0 v1 v2 v3 v4 v5 v6 v7 v8 v9 v10 : Value} {x : Int32} {ls sk : List Value} {h : zH} : zrun zpp E 215 (167, v0 :: v1 :: v2 :: v3 :: v4 :: v5 :: v6 :: v7 :: v8 :: v9 :: v10 :: .int x :: ls, sk, h) = zrun zpp E 215 (169, v0 :: v1 :: v2 :: v3 :: v4 :: v5 :: v6 :: v7 :: v8 :: v9 :: v10 :: .int x :: ls, .int x :: sk, h) := zrun_at rfl
theorem zi215_169 {E : zE} {a0 : Value} {x : Nat} {ls sk : List Value} {h : zH} : zrun zpp E 215 (169, ls, a0 :: .ref x :: sk, h) = (zcls h x).bind (fun d => (zsel d [11, 179]).bind (fun M' => zcl1 E 215 172 M' ls sk [.ref x, a0] h)) := zg_vir (as := [a0]) rfl rfl
theorem zi215_172 {E : zE} {v0 v1 v2 v3 v4 v5 : Value} {x : Int32} {ls sk : List Value} {h : zH} : zrun zpp E 215 (172, v0 :: v1 :: v2 :: v3 :: v4 :: v5 :: .int x :: ls, sk, h) = zrun zpp E 215 (174, v0 :: v1 :: v2 :: v3 :: v4 :: v5 :: .int x :: ls, .int x :: sk, h) := zrun_at rfl
theorem zi215_174 {E : zE} {v0 v1 v2 v3 v4 v5 v6 v7 v8 v9 : Value} {x : Int32} {ls sk : List Value} {h : zH} : zrun zpp E 215 (174, v0 :: v1 :: v2 :: v3 :: v4 :: v5 :: v6 :: v7 :: v8 :: v9 :: .int x :: ls, sk, h) = zrun zpp E 215 (176, v0 :: v1 :: v2 :: v3 :: v4 :: v5 :: v6 :: v7 :: v8 :: v9 :: .int x :: ls, .int x :: sk, h) := zrun_at rfl
theorem zi215_176 {E : zE} {a0 a1 a2 : Value} {x : Nat} {ls sk : List Value} {h : zH} : zrun zpp E 215 (176, ls, a2 :: a1 :: a0 :: .ref x :: sk, h) = (zcls h x).bind (fun d => (zsel d [11, 187]).bind (fun M' => zcl1 E 215 179 M' ls sk [.ref x, a0, a1, a2] h)) := zg_vir (as := [a0, a1, a2]) rfl rfl
theorem zi215_179 {E : zE} {x y : Int32} {ls sk : List Value} {h : zH} : zrun zpp E 215 (179, ls, .int y :: .int x :: sk, h) = zrun zpp E 215 (180, ls, .int (x + y) :: sk, h) := zrun_at rfl
theorem zi215_180 {E : zE} {x : Int32} {ls sk : List Value} {h : zH} : zrun zpp E 215 (180, ls, .int x :: sk, h) = if zfree ls 7 = true then zrun zpp E 215 (182, ls.set 7 (.int x), sk, h) else none := zg_ist rfl (fun _ _ _ => rfl)
theorem zi215_182 {E : zE} {v0 v1 v2 v3 v4 v5 v6 v7 : Value} {x : Int32} {ls sk : List Value} {h : zH} : zrun zpp E 215 (182, v0 :: v1 :: v2 :: v3 :: v4 :: v5 :: v6 :: v7 :: .int x :: ls, sk, h) = zrun zpp E 215 (184, v0 :: v1 :: v2 :: v3 :: v4 :: v5 :: v6 :: v7 :: .int x :: ls, .int x :: sk, h) := zrun_at rfl
theorem zi215_184 {E : zE} {x : Nat} {ls sk : List Value} {h : zH} : zrun zpp E 215 (184, .ref x :: ls, sk, h) = zrun zpp E 215 (185, .ref x :: ls, .ref x :: sk, h) := zrun_at rfl
theorem zi215_184n {E : zE} {ls sk : List Value} {h : zH} : zrun zpp E 215 (184, .null :: ls, sk, h) = zrun zpp E 215 (185, .null :: ls, .null :: sk, h) := zrun_at rfl
theorem zi215_185 {E : zE} {x : Nat} {ls sk : List Value} {h : zH} : zrun zpp E 215 (185, .ref x :: ls, sk, h) = zrun zpp E 215 (186, .ref x :: ls, .ref x :: sk, h) := zrun_at rfl
theorem zi215_185n {E : zE} {ls sk : List Value} {h : zH} : zrun zpp E 215 (185, .null :: ls, sk, h) = zrun zpp E 215 (186, .null :: ls, .null :: sk, h) := zrun_at rfl
theorem zi215_186 {E : zE} {v0 v1 v2 v3 v4 v5 v6 v7 v8 v9 v10 : Value} {x : Int32} {ls sk : List Value} {h : zH} : zrun zpp E 215 (186, v0 :: v1 :: v2 :: v3 :: v4 :: v5 :: v6 :: v7 :: v8 :: v9 :: v10 :: .int x :: ls, sk, h) = zrun zpp E 215 (188, v0 :: v1 :: v2 :: v3 :: v4 :: v5 :: v6 :: v7 :: v8 :: v9 :: v10 :: .int x :: ls, .int x :: sk, h) := zrun_at rfl
theorem zi215_188 {E : zE} {a0 : Value} {x : Nat} {ls sk : List Value} {h : zH} : zrun zpp E 215 (188, ls, a0 :: .ref x :: sk, h) = (zcls h x).bind (fun d => (zsel d [11, 179]).bind (fun M' => zcl1 E 215 191 M' ls sk [.ref x, a0] h)) := zg_vir (as := [a0]) rfl rfl
theorem zi215_191 {E : zE} {v0 v1 v2 v3 v4 v5 : Value} {x : Int32} {ls sk : List Value} {h : zH} : zrun zpp E 215 (191, v0 :: v1 :: v2 :: v3 :: v4 :: v5 :: .int x :: ls, sk, h) = zrun zpp E 215 (193, v0 :: v1 :: v2 :: v3 :: v4 :: v5 :: .int x :: ls, .int x :: sk, h) := zrun_at rfl
theorem zi215_193 {E : zE} {v0 v1 v2 v3 v4 v5 v6 v7 v8 v9 : Value} {x : Int32} {ls sk : List Value} {h : zH} : zrun zpp E 215 (193, v0 :: v1 :: v2 :: v3 :: v4 :: v5 :: v6 :: v7 :: v8 :: v9 :: .int x :: ls, sk, h) = zrun zpp E 215 (195, v0 :: v1 :: v2 :: v3 :: v4 :: v5 :: v6 :: v7 :: v8 :: v9 :: .int x :: ls, .int x :: sk, h) := zrun_at rfl
theorem zi215_195 {E : zE} {a0 a1 a2 : Value} {x : Nat} {ls sk : List Value} {h : zH} : zrun zpp E 215 (195, ls, a2 :: a1 :: a0 :: .ref x :: sk, h) = (zcls h x).bind (fun d => (zsel d [11, 188]).bind (fun M' => zcl1 E 215 198 M' ls sk [.ref x, a0, a1, a2] h)) := zg_vir (as := [a0, a1, a2]) rfl rfl
theorem zi215_198 {E : zE} {x y : Int32} {ls sk : List Value} {h : zH} : zrun zpp E 215 (198, ls, .int y :: .int x :: sk, h) = zrun zpp E 215 (199, ls, .int (x + y) :: sk, h) := zrun_at rfl
theorem zi215_199 {E : zE} {x : Int32} {ls sk : List Value} {h : zH} : zrun zpp E 215 (199, ls, .int x :: sk, h) = if zfree ls 8 = true then zrun zpp E 215 (201, ls.set 8 (.int x), sk, h) else none := zg_ist rfl (fun _ _ _ => rfl)
theorem zi215_201 {E : zE} {v0 v1 v2 v3 v4 v5 : Value} {x : Int32} {ls sk : List Value} {h : zH} : zrun zpp E 215 (201, v0 :: v1 :: v2 :: v3 :: v4 :: v5 :: .int x :: ls, sk, h) = zrun zpp E 215 (203, v0 :: v1 :: v2 :: v3 :: v4 :: v5 :: .int x :: ls, .int x :: sk, h) := zrun_at rfl
theorem zi215_203 {E : zE} {ls sk : List Value} {h : zH} : zrun zpp E 215 (203, ls, sk, h) = zrun zpp E 215 (204, ls, .int 1 :: sk, h) := zg_iconst rfl ci_1
theorem zi215_204 {E : zE} {v0 v1 v2 v3 v4 v5 v6 v7 v8 v9 : Value} {x : Int32} {ls sk : List Value} {h : zH} : zrun zpp E 215 (204, v0 :: v1 :: v2 :: v3 :: v4 :: v5 :: v6 :: v7 :: v8 :: v9 :: .int x :: ls, sk, h) = zrun zpp E 215 (206, v0 :: v1 :: v2 :: v3 :: v4 :: v5 :: v6 :: v7 :: v8 :: v9 :: .int x :: ls, .int x :: sk, h) := zrun_at rfl
theorem zi215_206 {E : zE} {x y : Int32} {ls sk : List Value} {h : zH} : zrun zpp E 215 (206, ls, .int y :: .int x :: sk, h) = zrun zpp E 215 (207, ls, .int (x <<< (y &&& 31)) :: sk, h) := zrun_at rfl
theorem zi215_207 {E : zE} {ls sk : List Value} {h : zH} : zrun zpp E 215 (207, ls, sk, h) = zrun zpp E 215 (208, ls, .int (-1) :: sk, h) := zg_iconst rfl ci_m1
theorem zi215_208 {E : zE} {x y : Int32} {ls sk : List Value} {h : zH} : zrun zpp E 215 (208, ls, .int y :: .int x :: sk, h) = zrun zpp E 215 (209, ls, .int (x ^^^ y) :: sk, h) := zrun_at rfl
theorem zi215_209 {E : zE} {x y : Int32} {ls sk : List Value} {h : zH} : zrun zpp E 215 (209, ls, .int y :: .int x :: sk, h) = zrun zpp E 215 (210, ls, .int (x &&& y) :: sk, h) := zrun_at rfl
theorem zi215_210 {E : zE} {x : Int32} {ls sk : List Value} {h : zH} : zrun zpp E 215 (210, ls, .int x :: sk, h) = if zfree ls 6 = true then zrun zpp E 215 (212, ls.set 6 (.int x), sk, h) else none := zg_ist rfl (fun _ _ _ => rfl)
theorem zi215_212 {E : zE} {v0 v1 v2 v3 : Value} {x : Int64} {ls sk : List Value} {h : zH} : zrun zpp E 215 (212, v0 :: v1 :: v2 :: v3 :: .long x :: ls, sk, h) = zrun zpp E 215 (214, v0 :: v1 :: v2 :: v3 :: .long x :: ls, .long x :: sk, h) := zrun_at rfl
theorem zi215_214 {E : zE} {ls sk : List Value} {h : zH} : zrun zpp E 215 (214, ls, sk, h) = zrun zpp E 215 (217, ls, .long 7 :: sk, h) := zg_ldc2_w rfl cj_7
theorem zi215_217 {E : zE} {x y : Int64} {ls sk : List Value} {h : zH} : zrun zpp E 215 (217, ls, .long y :: .long x :: sk, h) = if y = 0 then none else zrun zpp E 215 (218, ls, .long (x - x / y * y) :: sk, h) := zrun_at rfl
theorem zi215_218 {E : zE} {ls sk : List Value} {h : zH} : zrun zpp E 215 (218, ls, sk, h) = zrun zpp E 215 (219, ls, .long 0 :: sk, h) := zg_lconst rfl rfl
theorem zi215_219 {E : zE} {x y : Int64} {ls sk : List Value} {h : zH} : zrun zpp E 215 (219, ls, .long y :: .long x :: sk, h) = zrun zpp E 215 (220, ls, .int (lg_cmp x y) :: sk, h) := zrun_at rfl
theorem zi215_220 {E : zE} {x : Int32} {ls sk : List Value} {h : zH} : zrun zpp E 215 (220, ls, .int x :: sk, h) = if x = 0 then zrun zpp E 215 (223, ls, sk, h) else zrun zpp E 215 (245, ls, sk, h) := zrun_at rfl
theorem zi215_223 {E : zE} {v0 v1 v2 v3 v4 v5 : Value} {x : Int32} {ls sk : List Value} {h : zH} : zrun zpp E 215 (223, v0 :: v1 :: v2 :: v3 :: v4 :: v5 :: .int x :: ls, sk, h) = zrun zpp E 215 (225, v0 :: v1 :: v2 :: v3 :: v4 :: v5 :: .int x :: ls, .int x :: sk, h) := zrun_at rfl
theorem zi215_225 {E : zE} {v0 v1 v2 v3 v4 v5 v6 v7 v8 v9 : Value} {x : Int32} {ls sk : List Value} {h : zH} : zrun zpp E 215 (225, v0 :: v1 :: v2 :: v3 :: v4 :: v5 :: v6 :: v7 :: v8 :: v9 :: .int x :: ls, sk, h) = zrun zpp E 215 (227, v0 :: v1 :: v2 :: v3 :: v4 :: v5 :: v6 :: v7 :: v8 :: v9 :: .int x :: ls, .int x :: sk, h) := zrun_at rfl
theorem zi215_227 {E : zE} {a0 a1 : Value} {ls sk : List Value} {h : zH} : zrun zpp E 215 (227, ls, a1 :: a0 :: sk, h) = zcl1 E 215 230 181 ls sk [a0, a1] h := zg_inv (as := [a0, a1]) rfl rfl
theorem zi215_230 {E : zE} {x : Int32} {ls sk : List Value} {h : zH} : zrun zpp E 215 (230, ls, .int x :: sk, h) = if x = 0 then zrun zpp E 215 (233, ls, sk, h) else zrun zpp E 215 (245, ls, sk, h) := zrun_at rfl
theorem zi215_233 {E : zE} {v0 v1 v2 v3 v4 v5 : Value} {x : Int32} {ls sk : List Value} {h : zH} : zrun zpp E 215 (233, v0 :: v1 :: v2 :: v3 :: v4 :: v5 :: .int x :: ls, sk, h) = zrun zpp E 215 (235, v0 :: v1 :: v2 :: v3 :: v4 :: v5 :: .int x :: ls, .int x :: sk, h) := zrun_at rfl
theorem zi215_235 {E : zE} {ls sk : List Value} {h : zH} : zrun zpp E 215 (235, ls, sk, h) = zrun zpp E 215 (236, ls, .int 1 :: sk, h) := zg_iconst rfl ci_1
theorem zi215_236 {E : zE} {v0 v1 v2 v3 v4 v5 v6 v7 v8 v9 : Value} {x : Int32} {ls sk : List Value} {h : zH} : zrun zpp E 215 (236, v0 :: v1 :: v2 :: v3 :: v4 :: v5 :: v6 :: v7 :: v8 :: v9 :: .int x :: ls, sk, h) = zrun zpp E 215 (238, v0 :: v1 :: v2 :: v3 :: v4 :: v5 :: v6 :: v7 :: v8 :: v9 :: .int x :: ls, .int x :: sk, h) := zrun_at rfl
theorem zi215_238 {E : zE} {x y : Int32} {ls sk : List Value} {h : zH} : zrun zpp E 215 (238, ls, .int y :: .int x :: sk, h) = zrun zpp E 215 (239, ls, .int (x <<< (y &&& 31)) :: sk, h) := zrun_at rfl
theorem zi215_239 {E : zE} {x y : Int32} {ls sk : List Value} {h : zH} : zrun zpp E 215 (239, ls, .int y :: .int x :: sk, h) = zrun zpp E 215 (240, ls, .int (x ||| y) :: sk, h) := zrun_at rfl
theorem zi215_240 {E : zE} {x : Int32} {ls sk : List Value} {h : zH} : zrun zpp E 215 (240, ls, .int x :: sk, h) = if zfree ls 6 = true then zrun zpp E 215 (242, ls.set 6 (.int x), sk, h) else none := zg_ist rfl (fun _ _ _ => rfl)
theorem zi215_242 {E : zE} {v0 v1 v2 v3 v4 v5 v6 v7 : Value} {x : Int32} {ls sk : List Value} {h : zH} : zrun zpp E 215 (242, v0 :: v1 :: v2 :: v3 :: v4 :: v5 :: v6 :: v7 :: .int x :: ls, sk, h) = if zfree (v0 :: v1 :: v2 :: v3 :: v4 :: v5 :: v6 :: v7 :: .int x :: ls) 8 = true then zrun zpp E 215 (245, v0 :: v1 :: v2 :: v3 :: v4 :: v5 :: v6 :: v7 :: .int (x + 1) :: ls, sk, h) else none := by rw [← ci_1]; exact zrun_at rfl
theorem zi215_245 {E : zE} {v0 v1 v2 v3 v4 v5 v6 v7 v8 : Value} {x : Int32} {ls sk : List Value} {h : zH} : zrun zpp E 215 (245, v0 :: v1 :: v2 :: v3 :: v4 :: v5 :: v6 :: v7 :: v8 :: .int x :: ls, sk, h) = if zfree (v0 :: v1 :: v2 :: v3 :: v4 :: v5 :: v6 :: v7 :: v8 :: .int x :: ls) 9 = true then zrun zpp E 215 (248, v0 :: v1 :: v2 :: v3 :: v4 :: v5 :: v6 :: v7 :: v8 :: .int (x + 1) :: ls, sk, h) else none := by rw [← ci_1]; exact zrun_at rfl
theorem zi215_248 {E : zE} {ls sk : List Value} {h : zH} : zrun zpp E 215 (248, ls, sk, h) = zrun zpp E 215 (74, ls, sk, h) := zrun_at rfl
theorem zi215_251 {E : zE} {v0 v1 v2 : Value} {x : Int32} {ls sk : List Value} {h : zH} : zrun zpp E 215 (251, v0 :: v1 :: v2 :: .int x :: ls, sk, h) = zrun zpp E 215 (252, v0 :: v1 :: v2 :: .int x :: ls, .int x :: sk, h) := zrun_at rfl
theorem zi215_252 {E : zE} {x : Int32} {ls sk : List Value} {h : zH} : zrun zpp E 215 (252, ls, .int x :: sk, h) = if x = 0 then zrun zpp E 215 (255, ls, sk, h) else zrun zpp E 215 (260, ls, sk, h) := zrun_at rfl
theorem zi215_255 {E : zE} {v0 v1 v2 v3 v4 v5 v6 : Value} {x : Int32} {ls sk : List Value} {h : zH} : zrun zpp E 215 (255, v0 :: v1 :: v2 :: v3 :: v4 :: v5 :: v6 :: .int x :: ls, sk, h) = zrun zpp E 215 (257, v0 :: v1 :: v2 :: v3 :: v4 :: v5 :: v6 :: .int x :: ls, .int x :: sk, h) := zrun_at rfl
theorem zi215_257 {E : zE} {ls sk : List Value} {h : zH} : zrun zpp E 215 (257, ls, sk, h) = zrun zpp E 215 (262, ls, sk, h) := zrun_at rfl
theorem zi215_260 {E : zE} {v0 v1 v2 v3 v4 v5 v6 v7 : Value} {x : Int32} {ls sk : List Value} {h : zH} : zrun zpp E 215 (260, v0 :: v1 :: v2 :: v3 :: v4 :: v5 :: v6 :: v7 :: .int x :: ls, sk, h) = zrun zpp E 215 (262, v0 :: v1 :: v2 :: v3 :: v4 :: v5 :: v6 :: v7 :: .int x :: ls, .int x :: sk, h) := zrun_at rfl
theorem zi215_262 {E : zE} {x : Int32} {ls sk : List Value} {h : zH} : zrun zpp E 215 (262, ls, [.int x], h) = some (some (.int x), h) := zrun_at rfl
-- 216 NineDownModel.image
theorem zi216_0 {E : zE} {x : Nat} {ls sk : List Value} {h : zH} : zrun zpp E 216 (0, .ref x :: ls, sk, h) = zrun zpp E 216 (1, .ref x :: ls, .ref x :: sk, h) := zrun_at rfl
theorem zi216_0n {E : zE} {ls sk : List Value} {h : zH} : zrun zpp E 216 (0, .null :: ls, sk, h) = zrun zpp E 216 (1, .null :: ls, .null :: sk, h) := zrun_at rfl
theorem zi216_1 {E : zE} {ls sk : List Value} {h : zH} : zrun zpp E 216 (1, ls, sk, h) = zrun zpp E 216 (2, ls, .int 0 :: sk, h) := zg_iconst rfl ci_0
theorem zi216_2 {E : zE} {x : Nat} {v : Value} {ls sk : List Value} {h : zH} : zrun zpp E 216 (2, ls, v :: .ref x :: sk, h) = (zstf [11] 0 h x 0 v).bind (fun h' => zrun zpp E 216 (5, ls, sk, h')) := zg_putf rfl
theorem zi216_5 {E : zE} {v0 : Value} {x : Int32} {ls sk : List Value} {h : zH} : zrun zpp E 216 (5, v0 :: .int x :: ls, sk, h) = zrun zpp E 216 (6, v0 :: .int x :: ls, .int x :: sk, h) := zrun_at rfl
theorem zi216_6 {E : zE} {x : Int32} {ls sk : List Value} {h : zH} : zrun zpp E 216 (6, ls, .int x :: sk, h) = zrun zpp E 216 (7, ls, .long x.toInt64 :: sk, h) := zrun_at rfl
theorem zi216_7 {E : zE} {ls sk : List Value} {h : zH} : zrun zpp E 216 (7, ls, sk, h) = zrun zpp E 216 (8, ls, .long 0 :: sk, h) := zg_lconst rfl rfl
theorem zi216_8 {E : zE} {ls sk : List Value} {h : zH} : zrun zpp E 216 (8, ls, sk, h) = zrun zpp E 216 (9, ls, .long 1 :: sk, h) := zg_lconst rfl rfl
theorem zi216_9 {E : zE} {a0 a1 a2 : Value} {ls sk : List Value} {h : zH} : zrun zpp E 216 (9, ls, a2 :: a1 :: a0 :: sk, h) = zcl1 E 216 12 149 ls sk [a0, a1, a2] h := zg_inv (as := [a0, a1, a2]) rfl rfl
theorem zi216_12 {E : zE} {x : Int32} {ls sk : List Value} {h : zH} : zrun zpp E 216 (12, ls, .int x :: sk, h) = if x = 0 then zrun zpp E 216 (15, ls, sk, h) else zrun zpp E 216 (18, ls, sk, h) := zrun_at rfl
theorem zi216_15 {E : zE} {ls sk : List Value} {h : zH} : zrun zpp E 216 (15, ls, sk, h) = zrun zpp E 216 (17, ls, .int (-1000001) :: sk, h) := zg_ldc rfl ci_m1000001
theorem zi216_17 {E : zE} {x : Int32} {ls sk : List Value} {h : zH} : zrun zpp E 216 (17, ls, [.int x], h) = some (some (.int x), h) := zrun_at rfl
theorem zi216_18 {E : zE} {x : Nat} {ls sk : List Value} {h : zH} : zrun zpp E 216 (18, .ref x :: ls, sk, h) = zrun zpp E 216 (19, .ref x :: ls, .ref x :: sk, h) := zrun_at rfl
theorem zi216_18n {E : zE} {ls sk : List Value} {h : zH} : zrun zpp E 216 (18, .null :: ls, sk, h) = zrun zpp E 216 (19, .null :: ls, .null :: sk, h) := zrun_at rfl
theorem zi216_19 {E : zE} {x : Nat} {ls sk : List Value} {h : zH} : zrun zpp E 216 (19, ls, .ref x :: sk, h) = (zcls h x).bind (fun d => (zsel d [11, 172]).bind (fun M' => zcl1 E 216 22 M' ls sk [.ref x] h)) := zg_vir (as := []) rfl rfl
theorem zi216_22 {E : zE} {x : Int32} {ls sk : List Value} {h : zH} : zrun zpp E 216 (22, ls, .int x :: sk, h) = if x = 0 then zrun zpp E 216 (25, ls, sk, h) else zrun zpp E 216 (28, ls, sk, h) := zrun_at rfl
theorem zi216_25 {E : zE} {ls sk : List Value} {h : zH} : zrun zpp E 216 (25, ls, sk, h) = zrun zpp E 216 (27, ls, .int (-1000002) :: sk, h) := zg_ldc rfl ci_m1000002
theorem zi216_27 {E : zE} {x : Int32} {ls sk : List Value} {h : zH} : zrun zpp E 216 (27, ls, [.int x], h) = some (some (.int x), h) := zrun_at rfl
theorem zi216_28 {E : zE} {ls sk : List Value} {h : zH} : zrun zpp E 216 (28, ls, sk, h) = zrun zpp E 216 (29, ls, .int 0 :: sk, h) := zg_iconst rfl ci_0
theorem zi216_29 {E : zE} {x : Int32} {ls sk : List Value} {h : zH} : zrun zpp E 216 (29, ls, .int x :: sk, h) = if zfree ls 2 = true then zrun zpp E 216 (30, ls.set 2 (.int x), sk, h) else none := zg_ist rfl (fun _ _ _ => rfl)
theorem zi216_30 {E : zE} {v0 v1 : Value} {x : Int32} {ls sk : List Value} {h : zH} : zrun zpp E 216 (30, v0 :: v1 :: .int x :: ls, sk, h) = zrun zpp E 216 (31, v0 :: v1 :: .int x :: ls, .int x :: sk, h) := zrun_at rfl
theorem zi216_31 {E : zE} {ls sk : List Value} {h : zH} : zrun zpp E 216 (31, ls, sk, h) = zrun zpp E 216 (33, ls, .int 73 :: sk, h) := zg_bipush rfl ci_73
theorem zi216_33 {E : zE} {x y : Int32} {ls sk : List Value} {h : zH} : zrun zpp E 216 (33, ls, .int y :: .int x :: sk, h) = if y ≤ x then zrun zpp E 216 (59, ls, sk, h) else zrun zpp E 216 (36, ls, sk, h) := zrun_at rfl
theorem zi216_36 {E : zE} {x : Nat} {ls sk : List Value} {h : zH} : zrun zpp E 216 (36, .ref x :: ls, sk, h) = zrun zpp E 216 (37, .ref x :: ls, .ref x :: sk, h) := zrun_at rfl
theorem zi216_36n {E : zE} {ls sk : List Value} {h : zH} : zrun zpp E 216 (36, .null :: ls, sk, h) = zrun zpp E 216 (37, .null :: ls, .null :: sk, h) := zrun_at rfl
theorem zi216_37 {E : zE} {x : Nat} {ls sk : List Value} {h : zH} : zrun zpp E 216 (37, ls, .ref x :: sk, h) = (zfld [11] h x 22).bind (fun v => zrun zpp E 216 (40, ls, v :: sk, h)) := zg_getf rfl
theorem zi216_40 {E : zE} {ls sk : List Value} {h : zH} : zrun zpp E 216 (40, ls, sk, h) = zrun zpp E 216 (42, ls, .int 73 :: sk, h) := zg_bipush rfl ci_73
theorem zi216_42 {E : zE} {v0 : Value} {x : Int32} {ls sk : List Value} {h : zH} : zrun zpp E 216 (42, v0 :: .int x :: ls, sk, h) = zrun zpp E 216 (43, v0 :: .int x :: ls, .int x :: sk, h) := zrun_at rfl
theorem zi216_43 {E : zE} {x y : Int32} {ls sk : List Value} {h : zH} : zrun zpp E 216 (43, ls, .int y :: .int x :: sk, h) = zrun zpp E 216 (44, ls, .int (x * y) :: sk, h) := zrun_at rfl
theorem zi216_44 {E : zE} {v0 v1 : Value} {x : Int32} {ls sk : List Value} {h : zH} : zrun zpp E 216 (44, v0 :: v1 :: .int x :: ls, sk, h) = zrun zpp E 216 (45, v0 :: v1 :: .int x :: ls, .int x :: sk, h) := zrun_at rfl
theorem zi216_45 {E : zE} {x y : Int32} {ls sk : List Value} {h : zH} : zrun zpp E 216 (45, ls, .int y :: .int x :: sk, h) = zrun zpp E 216 (46, ls, .int (x + y) :: sk, h) := zrun_at rfl
theorem zi216_46 {E : zE} {x : Nat} {ls sk : List Value} {h : zH} : zrun zpp E 216 (46, .ref x :: ls, sk, h) = zrun zpp E 216 (47, .ref x :: ls, .ref x :: sk, h) := zrun_at rfl
theorem zi216_46n {E : zE} {ls sk : List Value} {h : zH} : zrun zpp E 216 (46, .null :: ls, sk, h) = zrun zpp E 216 (47, .null :: ls, .null :: sk, h) := zrun_at rfl
theorem zi216_47 {E : zE} {x : Nat} {ls sk : List Value} {h : zH} : zrun zpp E 216 (47, ls, .ref x :: sk, h) = (zfld [11] h x 5).bind (fun v => zrun zpp E 216 (50, ls, v :: sk, h)) := zg_getf rfl
theorem zi216_50 {E : zE} {v0 v1 : Value} {x : Int32} {ls sk : List Value} {h : zH} : zrun zpp E 216 (50, v0 :: v1 :: .int x :: ls, sk, h) = zrun zpp E 216 (51, v0 :: v1 :: .int x :: ls, .int x :: sk, h) := zrun_at rfl
theorem zi216_51 {E : zE} {x : Nat} {i : Int32} {ls sk : List Value} {h : zH} : zrun zpp E 216 (51, ls, .int i :: .ref x :: sk, h) = (zarr 0 h x i).bind (fun v => zrun zpp E 216 (52, ls, .int v :: sk, h)) := zg_iald rfl
theorem zi216_52 {E : zE} {x : Nat} {i v : Int32} {ls sk : List Value} {h : zH} : zrun zpp E 216 (52, ls, .int v :: .int i :: .ref x :: sk, h) = (zars 0 h x i v).bind (fun h' => zrun zpp E 216 (53, ls, sk, h')) := zg_iast rfl
theorem zi216_53 {E : zE} {v0 v1 : Value} {x : Int32} {ls sk : List Value} {h : zH} : zrun zpp E 216 (53, v0 :: v1 :: .int x :: ls, sk, h) = if zfree (v0 :: v1 :: .int x :: ls) 2 = true then zrun zpp E 216 (56, v0 :: v1 :: .int (x + 1) :: ls, sk, h) else none := by rw [← ci_1]; exact zrun_at rfl
theorem zi216_56 {E : zE} {ls sk : List Value} {h : zH} : zrun zpp E 216 (56, ls, sk, h) = zrun zpp E 216 (30, ls, sk, h) := zrun_at rfl
theorem zi216_59 {E : zE} {x : Nat} {ls sk : List Value} {h : zH} : zrun zpp E 216 (59, .ref x :: ls, sk, h) = zrun zpp E 216 (60, .ref x :: ls, .ref x :: sk, h) := zrun_at rfl
theorem zi216_59n {E : zE} {ls sk : List Value} {h : zH} : zrun zpp E 216 (59, .null :: ls, sk, h) = zrun zpp E 216 (60, .null :: ls, .null :: sk, h) := zrun_at rfl
theorem zi216_60 {E : zE} {x : Nat} {ls sk : List Value} {h : zH} : zrun zpp E 216 (60, ls, .ref x :: sk, h) = (zfld [11] h x 21).bind (fun v => zrun zpp E 216 (63, ls, v :: sk, h)) := zg_getf rfl
theorem zi216_63 {E : zE} {v0 : Value} {x : Int32} {ls sk : List Value} {h : zH} : zrun zpp E 216 (63, v0 :: .int x :: ls, sk, h) = zrun zpp E 216 (64, v0 :: .int x :: ls, .int x :: sk, h) := zrun_at rfl
theorem zi216_64 {E : zE} {ls sk : List Value} {h : zH} : zrun zpp E 216 (64, ls, sk, h) = zrun zpp E 216 (65, ls, .int 1 :: sk, h) := zg_iconst rfl ci_1
theorem zi216_65 {E : zE} {x : Nat} {i v : Int32} {ls sk : List Value} {h : zH} : zrun zpp E 216 (65, ls, .int v :: .int i :: .ref x :: sk, h) = (zars 1 h x i v).bind (fun h' => zrun zpp E 216 (66, ls, sk, h')) := zg_bast rfl
theorem zi216_66 {E : zE} {ls sk : List Value} {h : zH} : zrun zpp E 216 (66, ls, sk, h) = zrun zpp E 216 (67, ls, .int 1 :: sk, h) := zg_iconst rfl ci_1
theorem zi216_67 {E : zE} {x : Int32} {ls sk : List Value} {h : zH} : zrun zpp E 216 (67, ls, [.int x], h) = some (some (.int x), h) := zrun_at rfl
-- 217 NineDownModel.restore
theorem zi217_0 {E : zE} {x : Nat} {ls sk : List Value} {h : zH} : zrun zpp E 217 (0, .ref x :: ls, sk, h) = zrun zpp E 217 (1, .ref x :: ls, .ref x :: sk, h) := zrun_at rfl
theorem zi217_0n {E : zE} {ls sk : List Value} {h : zH} : zrun zpp E 217 (0, .null :: ls, sk, h) = zrun zpp E 217 (1, .null :: ls, .null :: sk, h) := zrun_at rfl
theorem zi217_1 {E : zE} {ls sk : List Value} {h : zH} : zrun zpp E 217 (1, ls, sk, h) = zrun zpp E 217 (2, ls, .int 0 :: sk, h) := zg_iconst rfl ci_0
theorem zi217_2 {E : zE} {x : Nat} {v : Value} {ls sk : List Value} {h : zH} : zrun zpp E 217 (2, ls, v :: .ref x :: sk, h) = (zstf [11] 0 h x 0 v).bind (fun h' => zrun zpp E 217 (5, ls, sk, h')) := zg_putf rfl
theorem zi217_5 {E : zE} {v0 : Value} {x : Int32} {ls sk : List Value} {h : zH} : zrun zpp E 217 (5, v0 :: .int x :: ls, sk, h) = zrun zpp E 217 (6, v0 :: .int x :: ls, .int x :: sk, h) := zrun_at rfl
theorem zi217_6 {E : zE} {x : Int32} {ls sk : List Value} {h : zH} : zrun zpp E 217 (6, ls, .int x :: sk, h) = zrun zpp E 217 (7, ls, .long x.toInt64 :: sk, h) := zrun_at rfl
theorem zi217_7 {E : zE} {ls sk : List Value} {h : zH} : zrun zpp E 217 (7, ls, sk, h) = zrun zpp E 217 (8, ls, .long 0 :: sk, h) := zg_lconst rfl rfl
theorem zi217_8 {E : zE} {ls sk : List Value} {h : zH} : zrun zpp E 217 (8, ls, sk, h) = zrun zpp E 217 (9, ls, .long 1 :: sk, h) := zg_lconst rfl rfl
theorem zi217_9 {E : zE} {a0 a1 a2 : Value} {ls sk : List Value} {h : zH} : zrun zpp E 217 (9, ls, a2 :: a1 :: a0 :: sk, h) = zcl1 E 217 12 149 ls sk [a0, a1, a2] h := zg_inv (as := [a0, a1, a2]) rfl rfl
theorem zi217_12 {E : zE} {x : Int32} {ls sk : List Value} {h : zH} : zrun zpp E 217 (12, ls, .int x :: sk, h) = if x = 0 then zrun zpp E 217 (15, ls, sk, h) else zrun zpp E 217 (18, ls, sk, h) := zrun_at rfl
theorem zi217_15 {E : zE} {ls sk : List Value} {h : zH} : zrun zpp E 217 (15, ls, sk, h) = zrun zpp E 217 (17, ls, .int (-1000001) :: sk, h) := zg_ldc rfl ci_m1000001
theorem zi217_17 {E : zE} {x : Int32} {ls sk : List Value} {h : zH} : zrun zpp E 217 (17, ls, [.int x], h) = some (some (.int x), h) := zrun_at rfl
theorem zi217_18 {E : zE} {x : Nat} {ls sk : List Value} {h : zH} : zrun zpp E 217 (18, .ref x :: ls, sk, h) = zrun zpp E 217 (19, .ref x :: ls, .ref x :: sk, h) := zrun_at rfl
theorem zi217_18n {E : zE} {ls sk : List Value} {h : zH} : zrun zpp E 217 (18, .null :: ls, sk, h) = zrun zpp E 217 (19, .null :: ls, .null :: sk, h) := zrun_at rfl
theorem zi217_19 {E : zE} {x : Nat} {ls sk : List Value} {h : zH} : zrun zpp E 217 (19, ls, .ref x :: sk, h) = (zfld [11] h x 21).bind (fun v => zrun zpp E 217 (22, ls, v :: sk, h)) := zg_getf rfl
theorem zi217_22 {E : zE} {v0 : Value} {x : Int32} {ls sk : List Value} {h : zH} : zrun zpp E 217 (22, v0 :: .int x :: ls, sk, h) = zrun zpp E 217 (23, v0 :: .int x :: ls, .int x :: sk, h) := zrun_at rfl
theorem zi217_23 {E : zE} {x : Nat} {i : Int32} {ls sk : List Value} {h : zH} : zrun zpp E 217 (23, ls, .int i :: .ref x :: sk, h) = (zarr 1 h x i).bind (fun v => zrun zpp E 217 (24, ls, .int v :: sk, h)) := zg_bald rfl
theorem zi217_24 {E : zE} {x : Int32} {ls sk : List Value} {h : zH} : zrun zpp E 217 (24, ls, .int x :: sk, h) = if x = 0 then zrun zpp E 217 (27, ls, sk, h) else zrun zpp E 217 (30, ls, sk, h) := zrun_at rfl
theorem zi217_27 {E : zE} {ls sk : List Value} {h : zH} : zrun zpp E 217 (27, ls, sk, h) = zrun zpp E 217 (29, ls, .int (-1000002) :: sk, h) := zg_ldc rfl ci_m1000002
theorem zi217_29 {E : zE} {x : Int32} {ls sk : List Value} {h : zH} : zrun zpp E 217 (29, ls, [.int x], h) = some (some (.int x), h) := zrun_at rfl
theorem zi217_30 {E : zE} {ls sk : List Value} {h : zH} : zrun zpp E 217 (30, ls, sk, h) = zrun zpp E 217 (31, ls, .int 0 :: sk, h) := zg_iconst rfl ci_0
theorem zi217_31 {E : zE} {x : Int32} {ls sk : List Value} {h : zH} : zrun zpp E 217 (31, ls, .int x :: sk, h) = if zfree ls 2 = true then zrun zpp E 217 (32, ls.set 2 (.int x), sk, h) else none := zg_ist rfl (fun _ _ _ => rfl)
theorem zi217_32 {E : zE} {v0 v1 : Value} {x : Int32} {ls sk : List Value} {h : zH} : zrun zpp E 217 (32, v0 :: v1 :: .int x :: ls, sk, h) = zrun zpp E 217 (33, v0 :: v1 :: .int x :: ls, .int x :: sk, h) := zrun_at rfl
theorem zi217_33 {E : zE} {ls sk : List Value} {h : zH} : zrun zpp E 217 (33, ls, sk, h) = zrun zpp E 217 (35, ls, .int 73 :: sk, h) := zg_bipush rfl ci_73
theorem zi217_35 {E : zE} {x y : Int32} {ls sk : List Value} {h : zH} : zrun zpp E 217 (35, ls, .int y :: .int x :: sk, h) = if y ≤ x then zrun zpp E 217 (61, ls, sk, h) else zrun zpp E 217 (38, ls, sk, h) := zrun_at rfl
theorem zi217_38 {E : zE} {x : Nat} {ls sk : List Value} {h : zH} : zrun zpp E 217 (38, .ref x :: ls, sk, h) = zrun zpp E 217 (39, .ref x :: ls, .ref x :: sk, h) := zrun_at rfl
theorem zi217_38n {E : zE} {ls sk : List Value} {h : zH} : zrun zpp E 217 (38, .null :: ls, sk, h) = zrun zpp E 217 (39, .null :: ls, .null :: sk, h) := zrun_at rfl
theorem zi217_39 {E : zE} {x : Nat} {ls sk : List Value} {h : zH} : zrun zpp E 217 (39, ls, .ref x :: sk, h) = (zfld [11] h x 5).bind (fun v => zrun zpp E 217 (42, ls, v :: sk, h)) := zg_getf rfl
theorem zi217_42 {E : zE} {v0 v1 : Value} {x : Int32} {ls sk : List Value} {h : zH} : zrun zpp E 217 (42, v0 :: v1 :: .int x :: ls, sk, h) = zrun zpp E 217 (43, v0 :: v1 :: .int x :: ls, .int x :: sk, h) := zrun_at rfl
theorem zi217_43 {E : zE} {x : Nat} {ls sk : List Value} {h : zH} : zrun zpp E 217 (43, .ref x :: ls, sk, h) = zrun zpp E 217 (44, .ref x :: ls, .ref x :: sk, h) := zrun_at rfl
theorem zi217_43n {E : zE} {ls sk : List Value} {h : zH} : zrun zpp E 217 (43, .null :: ls, sk, h) = zrun zpp E 217 (44, .null :: ls, .null :: sk, h) := zrun_at rfl
theorem zi217_44 {E : zE} {x : Nat} {ls sk : List Value} {h : zH} : zrun zpp E 217 (44, ls, .ref x :: sk, h) = (zfld [11] h x 22).bind (fun v => zrun zpp E 217 (47, ls, v :: sk, h)) := zg_getf rfl
theorem zi217_47 {E : zE} {ls sk : List Value} {h : zH} : zrun zpp E 217 (47, ls, sk, h) = zrun zpp E 217 (49, ls, .int 73 :: sk, h) := zg_bipush rfl ci_73
theorem zi217_49 {E : zE} {v0 : Value} {x : Int32} {ls sk : List Value} {h : zH} : zrun zpp E 217 (49, v0 :: .int x :: ls, sk, h) = zrun zpp E 217 (50, v0 :: .int x :: ls, .int x :: sk, h) := zrun_at rfl
theorem zi217_50 {E : zE} {x y : Int32} {ls sk : List Value} {h : zH} : zrun zpp E 217 (50, ls, .int y :: .int x :: sk, h) = zrun zpp E 217 (51, ls, .int (x * y) :: sk, h) := zrun_at rfl
theorem zi217_51 {E : zE} {v0 v1 : Value} {x : Int32} {ls sk : List Value} {h : zH} : zrun zpp E 217 (51, v0 :: v1 :: .int x :: ls, sk, h) = zrun zpp E 217 (52, v0 :: v1 :: .int x :: ls, .int x :: sk, h) := zrun_at rfl
theorem zi217_52 {E : zE} {x y : Int32} {ls sk : List Value} {h : zH} : zrun zpp E 217 (52, ls, .int y :: .int x :: sk, h) = zrun zpp E 217 (53, ls, .int (x + y) :: sk, h) := zrun_at rfl
theorem zi217_53 {E : zE} {x : Nat} {i : Int32} {ls sk : List Value} {h : zH} : zrun zpp E 217 (53, ls, .int i :: .ref x :: sk, h) = (zarr 0 h x i).bind (fun v => zrun zpp E 217 (54, ls, .int v :: sk, h)) := zg_iald rfl
theorem zi217_54 {E : zE} {x : Nat} {i v : Int32} {ls sk : List Value} {h : zH} : zrun zpp E 217 (54, ls, .int v :: .int i :: .ref x :: sk, h) = (zars 0 h x i v).bind (fun h' => zrun zpp E 217 (55, ls, sk, h')) := zg_iast rfl
theorem zi217_55 {E : zE} {v0 v1 : Value} {x : Int32} {ls sk : List Value} {h : zH} : zrun zpp E 217 (55, v0 :: v1 :: .int x :: ls, sk, h) = if zfree (v0 :: v1 :: .int x :: ls) 2 = true then zrun zpp E 217 (58, v0 :: v1 :: .int (x + 1) :: ls, sk, h) else none := by rw [← ci_1]; exact zrun_at rfl
theorem zi217_58 {E : zE} {ls sk : List Value} {h : zH} : zrun zpp E 217 (58, ls, sk, h) = zrun zpp E 217 (32, ls, sk, h) := zrun_at rfl
theorem zi217_61 {E : zE} {x : Nat} {ls sk : List Value} {h : zH} : zrun zpp E 217 (61, .ref x :: ls, sk, h) = zrun zpp E 217 (62, .ref x :: ls, .ref x :: sk, h) := zrun_at rfl
theorem zi217_61n {E : zE} {ls sk : List Value} {h : zH} : zrun zpp E 217 (61, .null :: ls, sk, h) = zrun zpp E 217 (62, .null :: ls, .null :: sk, h) := zrun_at rfl
theorem zi217_62 {E : zE} {ls sk : List Value} {h : zH} : zrun zpp E 217 (62, ls, sk, h) = zrun zpp E 217 (63, ls, .int 0 :: sk, h) := zg_iconst rfl ci_0
theorem zi217_63 {E : zE} {x : Nat} {v : Value} {ls sk : List Value} {h : zH} : zrun zpp E 217 (63, ls, v :: .ref x :: sk, h) = (zstf [11] 0 h x 8 v).bind (fun h' => zrun zpp E 217 (66, ls, sk, h')) := zg_putf rfl
theorem zi217_66 {E : zE} {ls sk : List Value} {h : zH} : zrun zpp E 217 (66, ls, sk, h) = zrun zpp E 217 (67, ls, .int 1 :: sk, h) := zg_iconst rfl ci_1
theorem zi217_67 {E : zE} {x : Int32} {ls sk : List Value} {h : zH} : zrun zpp E 217 (67, ls, [.int x], h) = some (some (.int x), h) := zrun_at rfl
-- 218 NineDownModel.isOf
theorem zi218_0 {E : zE} {v0 : Value} {x : Int32} {ls sk : List Value} {h : zH} : zrun zpp E 218 (0, v0 :: .int x :: ls, sk, h) = zrun zpp E 218 (1, v0 :: .int x :: ls, .int x :: sk, h) := zrun_at rfl
theorem zi218_1 {E : zE} {x : Int32} {ls sk : List Value} {h : zH} : zrun zpp E 218 (1, ls, .int x :: sk, h) = if x = 0 then zrun zpp E 218 (29, ls, sk, h) else zrun zpp E 218 (4, ls, sk, h) := zrun_at rfl
theorem zi218_4 {E : zE} {x : Int32} {ls sk : List Value} {h : zH} : zrun zpp E 218 (4, .int x :: ls, sk, h) = zrun zpp E 218 (5, .int x :: ls, .int x :: sk, h) := zrun_at rfl
theorem zi218_5 {E : zE} {v0 : Value} {x : Int32} {ls sk : List Value} {h : zH} : zrun zpp E 218 (5, v0 :: .int x :: ls, sk, h) = zrun zpp E 218 (6, v0 :: .int x :: ls, .int x :: sk, h) := zrun_at rfl
theorem zi218_6 {E : zE} {x y : Int32} {ls sk : List Value} {h : zH} : zrun zpp E 218 (6, ls, .int y :: .int x :: sk, h) = if x = y then zrun zpp E 218 (29, ls, sk, h) else zrun zpp E 218 (9, ls, sk, h) := zrun_at rfl
theorem zi218_9 {E : zE} {v0 : Value} {x : Int32} {ls sk : List Value} {h : zH} : zrun zpp E 218 (9, v0 :: .int x :: ls, sk, h) = zrun zpp E 218 (10, v0 :: .int x :: ls, .int x :: sk, h) := zrun_at rfl
theorem zi218_10 {E : zE} {ls sk : List Value} {h : zH} : zrun zpp E 218 (10, ls, sk, h) = zrun zpp E 218 (11, ls, .int 1 :: sk, h) := zg_iconst rfl ci_1
theorem zi218_11 {E : zE} {x y : Int32} {ls sk : List Value} {h : zH} : zrun zpp E 218 (11, ls, .int y :: .int x :: sk, h) = if x = y then zrun zpp E 218 (14, ls, sk, h) else zrun zpp E 218 (19, ls, sk, h) := zrun_at rfl
theorem zi218_14 {E : zE} {x : Int32} {ls sk : List Value} {h : zH} : zrun zpp E 218 (14, .int x :: ls, sk, h) = zrun zpp E 218 (15, .int x :: ls, .int x :: sk, h) := zrun_at rfl
theorem zi218_15 {E : zE} {ls sk : List Value} {h : zH} : zrun zpp E 218 (15, ls, sk, h) = zrun zpp E 218 (16, ls, .int 4 :: sk, h) := zg_iconst rfl ci_4
theorem zi218_16 {E : zE} {x y : Int32} {ls sk : List Value} {h : zH} : zrun zpp E 218 (16, ls, .int y :: .int x :: sk, h) = if x < y then zrun zpp E 218 (29, ls, sk, h) else zrun zpp E 218 (19, ls, sk, h) := zrun_at rfl
theorem zi218_19 {E : zE} {v0 : Value} {x : Int32} {ls sk : List Value} {h : zH} : zrun zpp E 218 (19, v0 :: .int x :: ls, sk, h) = zrun zpp E 218 (20, v0 :: .int x :: ls, .int x :: sk, h) := zrun_at rfl
theorem zi218_20 {E : zE} {ls sk : List Value} {h : zH} : zrun zpp E 218 (20, ls, sk, h) = zrun zpp E 218 (21, ls, .int 4 :: sk, h) := zg_iconst rfl ci_4
theorem zi218_21 {E : zE} {x y : Int32} {ls sk : List Value} {h : zH} : zrun zpp E 218 (21, ls, .int y :: .int x :: sk, h) = if x = y then zrun zpp E 218 (24, ls, sk, h) else zrun zpp E 218 (33, ls, sk, h) := zrun_at rfl
theorem zi218_24 {E : zE} {x : Int32} {ls sk : List Value} {h : zH} : zrun zpp E 218 (24, .int x :: ls, sk, h) = zrun zpp E 218 (25, .int x :: ls, .int x :: sk, h) := zrun_at rfl
theorem zi218_25 {E : zE} {ls sk : List Value} {h : zH} : zrun zpp E 218 (25, ls, sk, h) = zrun zpp E 218 (26, ls, .int 5 :: sk, h) := zg_iconst rfl ci_5
theorem zi218_26 {E : zE} {x y : Int32} {ls sk : List Value} {h : zH} : zrun zpp E 218 (26, ls, .int y :: .int x :: sk, h) = if x = y then zrun zpp E 218 (29, ls, sk, h) else zrun zpp E 218 (33, ls, sk, h) := zrun_at rfl
theorem zi218_29 {E : zE} {ls sk : List Value} {h : zH} : zrun zpp E 218 (29, ls, sk, h) = zrun zpp E 218 (30, ls, .int 1 :: sk, h) := zg_iconst rfl ci_1
theorem zi218_30 {E : zE} {ls sk : List Value} {h : zH} : zrun zpp E 218 (30, ls, sk, h) = zrun zpp E 218 (34, ls, sk, h) := zrun_at rfl
theorem zi218_33 {E : zE} {ls sk : List Value} {h : zH} : zrun zpp E 218 (33, ls, sk, h) = zrun zpp E 218 (34, ls, .int 0 :: sk, h) := zg_iconst rfl ci_0
theorem zi218_34 {E : zE} {x : Int32} {ls sk : List Value} {h : zH} : zrun zpp E 218 (34, ls, [.int x], h) = if x = 0 then some (some (.int 0), h) else if x = 1 then some (some (.int 1), h) else none := zrun_at rfl
-- 219 NineDownModel.kind
theorem zi219_0 {E : zE} {x : Nat} {ls sk : List Value} {h : zH} : zrun zpp E 219 (0, .ref x :: ls, sk, h) = zrun zpp E 219 (1, .ref x :: ls, .ref x :: sk, h) := zrun_at rfl
theorem zi219_0n {E : zE} {ls sk : List Value} {h : zH} : zrun zpp E 219 (0, .null :: ls, sk, h) = zrun zpp E 219 (1, .null :: ls, .null :: sk, h) := zrun_at rfl
theorem zi219_1 {E : zE} {ls sk : List Value} {h : zH} : zrun zpp E 219 (1, ls, sk, h) = zrun zpp E 219 (2, ls, .int 0 :: sk, h) := zg_iconst rfl ci_0
theorem zi219_2 {E : zE} {x : Nat} {v : Value} {ls sk : List Value} {h : zH} : zrun zpp E 219 (2, ls, v :: .ref x :: sk, h) = (zstf [11] 0 h x 0 v).bind (fun h' => zrun zpp E 219 (5, ls, sk, h')) := zg_putf rfl
theorem zi219_5 {E : zE} {x : Nat} {ls sk : List Value} {h : zH} : zrun zpp E 219 (5, .ref x :: ls, sk, h) = zrun zpp E 219 (6, .ref x :: ls, .ref x :: sk, h) := zrun_at rfl
theorem zi219_5n {E : zE} {ls sk : List Value} {h : zH} : zrun zpp E 219 (5, .null :: ls, sk, h) = zrun zpp E 219 (6, .null :: ls, .null :: sk, h) := zrun_at rfl
theorem zi219_6 {E : zE} {v0 : Value} {x : Int32} {ls sk : List Value} {h : zH} : zrun zpp E 219 (6, v0 :: .int x :: ls, sk, h) = zrun zpp E 219 (7, v0 :: .int x :: ls, .int x :: sk, h) := zrun_at rfl
theorem zi219_7 {E : zE} {x : Int32} {ls sk : List Value} {h : zH} : zrun zpp E 219 (7, ls, .int x :: sk, h) = zrun zpp E 219 (8, ls, .long x.toInt64 :: sk, h) := zrun_at rfl
theorem zi219_8 {E : zE} {a0 : Value} {x : Nat} {ls sk : List Value} {h : zH} : zrun zpp E 219 (8, ls, a0 :: .ref x :: sk, h) = (zcls h x).bind (fun d => (zsel d [11, 174]).bind (fun M' => zcl1 E 219 11 M' ls sk [.ref x, a0] h)) := zg_vir (as := [a0]) rfl rfl
theorem zi219_11 {E : zE} {x : Int32} {ls sk : List Value} {h : zH} : zrun zpp E 219 (11, ls, .int x :: sk, h) = if x = 0 then zrun zpp E 219 (22, ls, sk, h) else zrun zpp E 219 (14, ls, sk, h) := zrun_at rfl
theorem zi219_14 {E : zE} {x : Nat} {ls sk : List Value} {h : zH} : zrun zpp E 219 (14, .ref x :: ls, sk, h) = zrun zpp E 219 (15, .ref x :: ls, .ref x :: sk, h) := zrun_at rfl
theorem zi219_14n {E : zE} {ls sk : List Value} {h : zH} : zrun zpp E 219 (14, .null :: ls, sk, h) = zrun zpp E 219 (15, .null :: ls, .null :: sk, h) := zrun_at rfl
theorem zi219_15 {E : zE} {v0 : Value} {x : Int32} {ls sk : List Value} {h : zH} : zrun zpp E 219 (15, v0 :: .int x :: ls, sk, h) = zrun zpp E 219 (16, v0 :: .int x :: ls, .int x :: sk, h) := zrun_at rfl
theorem zi219_16 {E : zE} {a0 : Value} {x : Nat} {ls sk : List Value} {h : zH} : zrun zpp E 219 (16, ls, a0 :: .ref x :: sk, h) = (zcls h x).bind (fun d => (zsel d [11, 179]).bind (fun M' => zcl1 E 219 19 M' ls sk [.ref x, a0] h)) := zg_vir (as := [a0]) rfl rfl
theorem zi219_19 {E : zE} {ls sk : List Value} {h : zH} : zrun zpp E 219 (19, ls, sk, h) = zrun zpp E 219 (24, ls, sk, h) := zrun_at rfl
theorem zi219_22 {E : zE} {ls sk : List Value} {h : zH} : zrun zpp E 219 (22, ls, sk, h) = zrun zpp E 219 (24, ls, .int (-1000001) :: sk, h) := zg_ldc rfl ci_m1000001
theorem zi219_24 {E : zE} {x : Int32} {ls sk : List Value} {h : zH} : zrun zpp E 219 (24, ls, [.int x], h) = some (some (.int x), h) := zrun_at rfl
-- 220 NineDownModel.as
theorem zi220_0 {E : zE} {x : Nat} {ls sk : List Value} {h : zH} : zrun zpp E 220 (0, .ref x :: ls, sk, h) = zrun zpp E 220 (1, .ref x :: ls, .ref x :: sk, h) := zrun_at rfl
theorem zi220_0n {E : zE} {ls sk : List Value} {h : zH} : zrun zpp E 220 (0, .null :: ls, sk, h) = zrun zpp E 220 (1, .null :: ls, .null :: sk, h) := zrun_at rfl
theorem zi220_1 {E : zE} {ls sk : List Value} {h : zH} : zrun zpp E 220 (1, ls, sk, h) = zrun zpp E 220 (2, ls, .int 0 :: sk, h) := zg_iconst rfl ci_0
theorem zi220_2 {E : zE} {x : Nat} {v : Value} {ls sk : List Value} {h : zH} : zrun zpp E 220 (2, ls, v :: .ref x :: sk, h) = (zstf [11] 0 h x 0 v).bind (fun h' => zrun zpp E 220 (5, ls, sk, h')) := zg_putf rfl
theorem zi220_5 {E : zE} {x : Nat} {ls sk : List Value} {h : zH} : zrun zpp E 220 (5, .ref x :: ls, sk, h) = zrun zpp E 220 (6, .ref x :: ls, .ref x :: sk, h) := zrun_at rfl
theorem zi220_5n {E : zE} {ls sk : List Value} {h : zH} : zrun zpp E 220 (5, .null :: ls, sk, h) = zrun zpp E 220 (6, .null :: ls, .null :: sk, h) := zrun_at rfl
theorem zi220_6 {E : zE} {v0 : Value} {x : Int32} {ls sk : List Value} {h : zH} : zrun zpp E 220 (6, v0 :: .int x :: ls, sk, h) = zrun zpp E 220 (7, v0 :: .int x :: ls, .int x :: sk, h) := zrun_at rfl
theorem zi220_7 {E : zE} {x : Int32} {ls sk : List Value} {h : zH} : zrun zpp E 220 (7, ls, .int x :: sk, h) = zrun zpp E 220 (8, ls, .long x.toInt64 :: sk, h) := zrun_at rfl
theorem zi220_8 {E : zE} {a0 : Value} {x : Nat} {ls sk : List Value} {h : zH} : zrun zpp E 220 (8, ls, a0 :: .ref x :: sk, h) = (zcls h x).bind (fun d => (zsel d [11, 174]).bind (fun M' => zcl1 E 220 11 M' ls sk [.ref x, a0] h)) := zg_vir (as := [a0]) rfl rfl
theorem zi220_11 {E : zE} {x : Int32} {ls sk : List Value} {h : zH} : zrun zpp E 220 (11, ls, .int x :: sk, h) = if x = 0 then zrun zpp E 220 (26, ls, sk, h) else zrun zpp E 220 (14, ls, sk, h) := zrun_at rfl
theorem zi220_14 {E : zE} {v0 v1 : Value} {x : Int32} {ls sk : List Value} {h : zH} : zrun zpp E 220 (14, v0 :: v1 :: .int x :: ls, sk, h) = zrun zpp E 220 (15, v0 :: v1 :: .int x :: ls, .int x :: sk, h) := zrun_at rfl
theorem zi220_15 {E : zE} {x : Int32} {ls sk : List Value} {h : zH} : zrun zpp E 220 (15, ls, .int x :: sk, h) = zrun zpp E 220 (16, ls, .long x.toInt64 :: sk, h) := zrun_at rfl
theorem zi220_16 {E : zE} {ls sk : List Value} {h : zH} : zrun zpp E 220 (16, ls, sk, h) = zrun zpp E 220 (17, ls, .long 0 :: sk, h) := zg_lconst rfl rfl
theorem zi220_17 {E : zE} {ls sk : List Value} {h : zH} : zrun zpp E 220 (17, ls, sk, h) = zrun zpp E 220 (20, ls, .long 5 :: sk, h) := zg_ldc2_w rfl cj_5
theorem zi220_20 {E : zE} {a0 a1 a2 : Value} {ls sk : List Value} {h : zH} : zrun zpp E 220 (20, ls, a2 :: a1 :: a0 :: sk, h) = zcl1 E 220 23 149 ls sk [a0, a1, a2] h := zg_inv (as := [a0, a1, a2]) rfl rfl
theorem zi220_23 {E : zE} {x : Int32} {ls sk : List Value} {h : zH} : zrun zpp E 220 (23, ls, .int x :: sk, h) = if x = 0 then zrun zpp E 220 (26, ls, sk, h) else zrun zpp E 220 (29, ls, sk, h) := zrun_at rfl
theorem zi220_26 {E : zE} {ls sk : List Value} {h : zH} : zrun zpp E 220 (26, ls, sk, h) = zrun zpp E 220 (28, ls, .int (-1000001) :: sk, h) := zg_ldc rfl ci_m1000001
theorem zi220_28 {E : zE} {x : Int32} {ls sk : List Value} {h : zH} : zrun zpp E 220 (28, ls, [.int x], h) = some (some (.int x), h) := zrun_at rfl
theorem zi220_29 {E : zE} {x : Nat} {ls sk : List Value} {h : zH} : zrun zpp E 220 (29, .ref x :: ls, sk, h) = zrun zpp E 220 (30, .ref x :: ls, .ref x :: sk, h) := zrun_at rfl
theorem zi220_29n {E : zE} {ls sk : List Value} {h : zH} : zrun zpp E 220 (29, .null :: ls, sk, h) = zrun zpp E 220 (30, .null :: ls, .null :: sk, h) := zrun_at rfl
theorem zi220_30 {E : zE} {ls sk : List Value} {h : zH} : zrun zpp E 220 (30, ls, sk, h) = zrun zpp E 220 (31, ls, .int 0 :: sk, h) := zg_iconst rfl ci_0
theorem zi220_31 {E : zE} {x : Nat} {v : Value} {ls sk : List Value} {h : zH} : zrun zpp E 220 (31, ls, v :: .ref x :: sk, h) = (zstf [11] 0 h x 1 v).bind (fun h' => zrun zpp E 220 (34, ls, sk, h')) := zg_putf rfl
theorem zi220_34 {E : zE} {x : Nat} {ls sk : List Value} {h : zH} : zrun zpp E 220 (34, .ref x :: ls, sk, h) = zrun zpp E 220 (35, .ref x :: ls, .ref x :: sk, h) := zrun_at rfl
theorem zi220_34n {E : zE} {ls sk : List Value} {h : zH} : zrun zpp E 220 (34, .null :: ls, sk, h) = zrun zpp E 220 (35, .null :: ls, .null :: sk, h) := zrun_at rfl
theorem zi220_35 {E : zE} {v0 : Value} {x : Int32} {ls sk : List Value} {h : zH} : zrun zpp E 220 (35, v0 :: .int x :: ls, sk, h) = zrun zpp E 220 (36, v0 :: .int x :: ls, .int x :: sk, h) := zrun_at rfl
theorem zi220_36 {E : zE} {a0 : Value} {x : Nat} {ls sk : List Value} {h : zH} : zrun zpp E 220 (36, ls, a0 :: .ref x :: sk, h) = (zcls h x).bind (fun d => (zsel d [11, 179]).bind (fun M' => zcl1 E 220 39 M' ls sk [.ref x, a0] h)) := zg_vir (as := [a0]) rfl rfl
theorem zi220_39 {E : zE} {v0 v1 : Value} {x : Int32} {ls sk : List Value} {h : zH} : zrun zpp E 220 (39, v0 :: v1 :: .int x :: ls, sk, h) = zrun zpp E 220 (40, v0 :: v1 :: .int x :: ls, .int x :: sk, h) := zrun_at rfl
theorem zi220_40 {E : zE} {a0 a1 : Value} {ls sk : List Value} {h : zH} : zrun zpp E 220 (40, ls, a1 :: a0 :: sk, h) = zcl1 E 220 43 218 ls sk [a0, a1] h := zg_inv (as := [a0, a1]) rfl rfl
theorem zi220_43 {E : zE} {x : Int32} {ls sk : List Value} {h : zH} : zrun zpp E 220 (43, ls, .int x :: sk, h) = if x = 0 then zrun zpp E 220 (50, ls, sk, h) else zrun zpp E 220 (46, ls, sk, h) := zrun_at rfl
theorem zi220_46 {E : zE} {v0 : Value} {x : Int32} {ls sk : List Value} {h : zH} : zrun zpp E 220 (46, v0 :: .int x :: ls, sk, h) = zrun zpp E 220 (47, v0 :: .int x :: ls, .int x :: sk, h) := zrun_at rfl
theorem zi220_47 {E : zE} {ls sk : List Value} {h : zH} : zrun zpp E 220 (47, ls, sk, h) = zrun zpp E 220 (55, ls, sk, h) := zrun_at rfl
theorem zi220_50 {E : zE} {x : Nat} {ls sk : List Value} {h : zH} : zrun zpp E 220 (50, .ref x :: ls, sk, h) = zrun zpp E 220 (51, .ref x :: ls, .ref x :: sk, h) := zrun_at rfl
theorem zi220_50n {E : zE} {ls sk : List Value} {h : zH} : zrun zpp E 220 (50, .null :: ls, sk, h) = zrun zpp E 220 (51, .null :: ls, .null :: sk, h) := zrun_at rfl
theorem zi220_51 {E : zE} {ls sk : List Value} {h : zH} : zrun zpp E 220 (51, ls, sk, h) = zrun zpp E 220 (52, ls, .int 3 :: sk, h) := zg_iconst rfl ci_3
theorem zi220_52 {E : zE} {a0 : Value} {x : Nat} {ls sk : List Value} {h : zH} : zrun zpp E 220 (52, ls, a0 :: .ref x :: sk, h) = (zcls h x).bind (fun d => (zsel d [11, 150]).bind (fun M' => zcl1 E 220 55 M' ls sk [.ref x, a0] h)) := zg_vir (as := [a0]) rfl rfl
theorem zi220_55 {E : zE} {x : Int32} {ls sk : List Value} {h : zH} : zrun zpp E 220 (55, ls, [.int x], h) = some (some (.int x), h) := zrun_at rfl
-- 221 NineDownModel.began
theorem zi221_0 {E : zE} {x : Nat} {ls sk : List Value} {h : zH} : zrun zpp E 221 (0, .ref x :: ls, sk, h) = zrun zpp E 221 (1, .ref x :: ls, .ref x :: sk, h) := zrun_at rfl
theorem zi221_0n {E : zE} {ls sk : List Value} {h : zH} : zrun zpp E 221 (0, .null :: ls, sk, h) = zrun zpp E 221 (1, .null :: ls, .null :: sk, h) := zrun_at rfl
theorem zi221_1 {E : zE} {x : Nat} {ls sk : List Value} {h : zH} : zrun zpp E 221 (1, ls, .ref x :: sk, h) = (zfld [11] h x 24).bind (fun v => zrun zpp E 221 (4, ls, v :: sk, h)) := zg_getf rfl
theorem zi221_4 {E : zE} {ls sk : List Value} {h : zH} : zrun zpp E 221 (4, ls, sk, h) = zrun zpp E 221 (6, ls, .int 16 :: sk, h) := zg_bipush rfl ci_16
theorem zi221_6 {E : zE} {x y : Int32} {ls sk : List Value} {h : zH} : zrun zpp E 221 (6, ls, .int y :: .int x :: sk, h) = if y ≤ x then zrun zpp E 221 (29, ls, sk, h) else zrun zpp E 221 (9, ls, sk, h) := zrun_at rfl
theorem zi221_9 {E : zE} {x : Nat} {ls sk : List Value} {h : zH} : zrun zpp E 221 (9, .ref x :: ls, sk, h) = zrun zpp E 221 (10, .ref x :: ls, .ref x :: sk, h) := zrun_at rfl
theorem zi221_9n {E : zE} {ls sk : List Value} {h : zH} : zrun zpp E 221 (9, .null :: ls, sk, h) = zrun zpp E 221 (10, .null :: ls, .null :: sk, h) := zrun_at rfl
theorem zi221_10 {E : zE} {x : Nat} {ls sk : List Value} {h : zH} : zrun zpp E 221 (10, ls, .ref x :: sk, h) = (zfld [11] h x 23).bind (fun v => zrun zpp E 221 (13, ls, v :: sk, h)) := zg_getf rfl
theorem zi221_13 {E : zE} {x : Nat} {ls sk : List Value} {h : zH} : zrun zpp E 221 (13, .ref x :: ls, sk, h) = zrun zpp E 221 (14, .ref x :: ls, .ref x :: sk, h) := zrun_at rfl
theorem zi221_13n {E : zE} {ls sk : List Value} {h : zH} : zrun zpp E 221 (13, .null :: ls, sk, h) = zrun zpp E 221 (14, .null :: ls, .null :: sk, h) := zrun_at rfl
theorem zi221_14 {E : zE} {x : Nat} {ls sk : List Value} {h : zH} : zrun zpp E 221 (14, ls, .ref x :: sk, h) = (zfld [11] h x 24).bind (fun v => zrun zpp E 221 (17, ls, v :: sk, h)) := zg_getf rfl
theorem zi221_17 {E : zE} {v0 : Value} {x : Int32} {ls sk : List Value} {h : zH} : zrun zpp E 221 (17, v0 :: .int x :: ls, sk, h) = zrun zpp E 221 (18, v0 :: .int x :: ls, .int x :: sk, h) := zrun_at rfl
theorem zi221_18 {E : zE} {x : Nat} {i v : Int32} {ls sk : List Value} {h : zH} : zrun zpp E 221 (18, ls, .int v :: .int i :: .ref x :: sk, h) = (zars 0 h x i v).bind (fun h' => zrun zpp E 221 (19, ls, sk, h')) := zg_iast rfl
theorem zi221_19 {E : zE} {x : Nat} {ls sk : List Value} {h : zH} : zrun zpp E 221 (19, .ref x :: ls, sk, h) = zrun zpp E 221 (20, .ref x :: ls, .ref x :: sk, h) := zrun_at rfl
theorem zi221_19n {E : zE} {ls sk : List Value} {h : zH} : zrun zpp E 221 (19, .null :: ls, sk, h) = zrun zpp E 221 (20, .null :: ls, .null :: sk, h) := zrun_at rfl
theorem zi221_20 {E : zE} {x : Nat} {ls sk : List Value} {h : zH} : zrun zpp E 221 (20, ls, .ref x :: sk, h) = zrun zpp E 221 (21, ls, .ref x :: .ref x :: sk, h) := zrun_at rfl
theorem zi221_20i {E : zE} {x : Int32} {ls sk : List Value} {h : zH} : zrun zpp E 221 (20, ls, .int x :: sk, h) = zrun zpp E 221 (21, ls, .int x :: .int x :: sk, h) := zrun_at rfl
theorem zi221_21 {E : zE} {x : Nat} {ls sk : List Value} {h : zH} : zrun zpp E 221 (21, ls, .ref x :: sk, h) = (zfld [11] h x 24).bind (fun v => zrun zpp E 221 (24, ls, v :: sk, h)) := zg_getf rfl
theorem zi221_24 {E : zE} {ls sk : List Value} {h : zH} : zrun zpp E 221 (24, ls, sk, h) = zrun zpp E 221 (25, ls, .int 1 :: sk, h) := zg_iconst rfl ci_1
theorem zi221_25 {E : zE} {x y : Int32} {ls sk : List Value} {h : zH} : zrun zpp E 221 (25, ls, .int y :: .int x :: sk, h) = zrun zpp E 221 (26, ls, .int (x + y) :: sk, h) := zrun_at rfl
theorem zi221_26 {E : zE} {x : Nat} {v : Value} {ls sk : List Value} {h : zH} : zrun zpp E 221 (26, ls, v :: .ref x :: sk, h) = (zstf [11] 0 h x 24 v).bind (fun h' => zrun zpp E 221 (29, ls, sk, h')) := zg_putf rfl
theorem zi221_29 {E : zE} {ls sk : List Value} {h : zH} : zrun zpp E 221 (29, ls, [], h) = some (none, h) := zrun_at rfl
-- 222 NineDownModel.plainSize
theorem zi222_0 {E : zE} {x : Nat} {ls sk : List Value} {h : zH} : zrun zpp E 222 (0, .ref x :: ls, sk, h) = zrun zpp E 222 (1, .ref x :: ls, .ref x :: sk, h) := zrun_at rfl
theorem zi222_0n {E : zE} {ls sk : List Value} {h : zH} : zrun zpp E 222 (0, .null :: ls, sk, h) = zrun zpp E 222 (1, .null :: ls, .null :: sk, h) := zrun_at rfl
theorem zi222_1 {E : zE} {ls sk : List Value} {h : zH} : zrun zpp E 222 (1, ls, sk, h) = zrun zpp E 222 (3, ls, .int 10 :: sk, h) := zg_bipush rfl ci_10
theorem zi222_3 {E : zE} {a0 : Value} {x : Nat} {ls sk : List Value} {h : zH} : zrun zpp E 222 (3, ls, a0 :: .ref x :: sk, h) = (zcls h x).bind (fun d => (zsel d [11, 221]).bind (fun M' => zcl1 E 222 6 M' ls sk [.ref x, a0] h)) := zg_vir (as := [a0]) rfl rfl
theorem zi222_6 {E : zE} {x : Nat} {ls sk : List Value} {h : zH} : zrun zpp E 222 (6, .ref x :: ls, sk, h) = zrun zpp E 222 (7, .ref x :: ls, .ref x :: sk, h) := zrun_at rfl
theorem zi222_6n {E : zE} {ls sk : List Value} {h : zH} : zrun zpp E 222 (6, .null :: ls, sk, h) = zrun zpp E 222 (7, .null :: ls, .null :: sk, h) := zrun_at rfl
theorem zi222_7 {E : zE} {v0 : Value} {x : Int32} {ls sk : List Value} {h : zH} : zrun zpp E 222 (7, v0 :: .int x :: ls, sk, h) = zrun zpp E 222 (8, v0 :: .int x :: ls, .int x :: sk, h) := zrun_at rfl
theorem zi222_8 {E : zE} {a0 : Value} {x : Nat} {ls sk : List Value} {h : zH} : zrun zpp E 222 (8, ls, a0 :: .ref x :: sk, h) = (zcls h x).bind (fun d => (zsel d [11, 180]).bind (fun M' => zcl1 E 222 11 M' ls sk [.ref x, a0] h)) := zg_vir (as := [a0]) rfl rfl
theorem zi222_11 {E : zE} {x : Int32} {ls sk : List Value} {h : zH} : zrun zpp E 222 (11, ls, [.int x], h) = some (some (.int x), h) := zrun_at rfl
-- 223 NineDownModel.goingSize
theorem zi223_0 {E : zE} {x : Nat} {ls sk : List Value} {h : zH} : zrun zpp E 223 (0, .ref x :: ls, sk, h) = zrun zpp E 223 (1, .ref x :: ls, .ref x :: sk, h) := zrun_at rfl
theorem zi223_0n {E : zE} {ls sk : List Value} {h : zH} : zrun zpp E 223 (0, .null :: ls, sk, h) = zrun zpp E 223 (1, .null :: ls, .null :: sk, h) := zrun_at rfl
theorem zi223_1 {E : zE} {v0 : Value} {x : Int32} {ls sk : List Value} {h : zH} : zrun zpp E 223 (1, v0 :: .int x :: ls, sk, h) = zrun zpp E 223 (2, v0 :: .int x :: ls, .int x :: sk, h) := zrun_at rfl
theorem zi223_2 {E : zE} {a0 : Value} {x : Nat} {ls sk : List Value} {h : zH} : zrun zpp E 223 (2, ls, a0 :: .ref x :: sk, h) = (zcls h x).bind (fun d => (zsel d [11, 179]).bind (fun M' => zcl1 E 223 5 M' ls sk [.ref x, a0] h)) := zg_vir (as := [a0]) rfl rfl
theorem zi223_5 {E : zE} {ls sk : List Value} {h : zH} : zrun zpp E 223 (5, ls, sk, h) = zrun zpp E 223 (6, ls, .int 5 :: sk, h) := zg_iconst rfl ci_5
theorem zi223_6 {E : zE} {x y : Int32} {ls sk : List Value} {h : zH} : zrun zpp E 223 (6, ls, .int y :: .int x :: sk, h) = if x = y then zrun zpp E 223 (9, ls, sk, h) else zrun zpp E 223 (13, ls, sk, h) := zrun_at rfl
theorem zi223_9 {E : zE} {ls sk : List Value} {h : zH} : zrun zpp E 223 (9, ls, sk, h) = zrun zpp E 223 (10, ls, .int 1 :: sk, h) := zg_iconst rfl ci_1
theorem zi223_10 {E : zE} {ls sk : List Value} {h : zH} : zrun zpp E 223 (10, ls, sk, h) = zrun zpp E 223 (14, ls, sk, h) := zrun_at rfl
theorem zi223_13 {E : zE} {ls sk : List Value} {h : zH} : zrun zpp E 223 (13, ls, sk, h) = zrun zpp E 223 (14, ls, .int 0 :: sk, h) := zg_iconst rfl ci_0
theorem zi223_14 {E : zE} {x : Int32} {ls sk : List Value} {h : zH} : zrun zpp E 223 (14, ls, .int x :: sk, h) = if zfree ls 2 = true then zrun zpp E 223 (15, ls.set 2 (.int x), sk, h) else none := zg_ist rfl (fun _ _ _ => rfl)
theorem zi223_15 {E : zE} {v0 v1 : Value} {x : Int32} {ls sk : List Value} {h : zH} : zrun zpp E 223 (15, v0 :: v1 :: .int x :: ls, sk, h) = zrun zpp E 223 (16, v0 :: v1 :: .int x :: ls, .int x :: sk, h) := zrun_at rfl
theorem zi223_16 {E : zE} {x : Int32} {ls sk : List Value} {h : zH} : zrun zpp E 223 (16, ls, .int x :: sk, h) = if x = 0 then zrun zpp E 223 (25, ls, sk, h) else zrun zpp E 223 (19, ls, sk, h) := zrun_at rfl
theorem zi223_19 {E : zE} {x : Nat} {ls sk : List Value} {h : zH} : zrun zpp E 223 (19, .ref x :: ls, sk, h) = zrun zpp E 223 (20, .ref x :: ls, .ref x :: sk, h) := zrun_at rfl
theorem zi223_19n {E : zE} {ls sk : List Value} {h : zH} : zrun zpp E 223 (19, .null :: ls, sk, h) = zrun zpp E 223 (20, .null :: ls, .null :: sk, h) := zrun_at rfl
theorem zi223_20 {E : zE} {ls sk : List Value} {h : zH} : zrun zpp E 223 (20, ls, sk, h) = zrun zpp E 223 (22, ls, .int 14 :: sk, h) := zg_bipush rfl ci_14
theorem zi223_22 {E : zE} {a0 : Value} {x : Nat} {ls sk : List Value} {h : zH} : zrun zpp E 223 (22, ls, a0 :: .ref x :: sk, h) = (zcls h x).bind (fun d => (zsel d [11, 221]).bind (fun M' => zcl1 E 223 25 M' ls sk [.ref x, a0] h)) := zg_vir (as := [a0]) rfl rfl
theorem zi223_25 {E : zE} {x : Nat} {ls sk : List Value} {h : zH} : zrun zpp E 223 (25, .ref x :: ls, sk, h) = zrun zpp E 223 (26, .ref x :: ls, .ref x :: sk, h) := zrun_at rfl
theorem zi223_25n {E : zE} {ls sk : List Value} {h : zH} : zrun zpp E 223 (25, .null :: ls, sk, h) = zrun zpp E 223 (26, .null :: ls, .null :: sk, h) := zrun_at rfl
theorem zi223_26 {E : zE} {ls sk : List Value} {h : zH} : zrun zpp E 223 (26, ls, sk, h) = zrun zpp E 223 (28, ls, .int 13 :: sk, h) := zg_bipush rfl ci_13
theorem zi223_28 {E : zE} {a0 : Value} {x : Nat} {ls sk : List Value} {h : zH} : zrun zpp E 223 (28, ls, a0 :: .ref x :: sk, h) = (zcls h x).bind (fun d => (zsel d [11, 221]).bind (fun M' => zcl1 E 223 31 M' ls sk [.ref x, a0] h)) := zg_vir (as := [a0]) rfl rfl
theorem zi223_31 {E : zE} {x : Nat} {ls sk : List Value} {h : zH} : zrun zpp E 223 (31, .ref x :: ls, sk, h) = zrun zpp E 223 (32, .ref x :: ls, .ref x :: sk, h) := zrun_at rfl
theorem zi223_31n {E : zE} {ls sk : List Value} {h : zH} : zrun zpp E 223 (31, .null :: ls, sk, h) = zrun zpp E 223 (32, .null :: ls, .null :: sk, h) := zrun_at rfl
theorem zi223_32 {E : zE} {v0 : Value} {x : Int32} {ls sk : List Value} {h : zH} : zrun zpp E 223 (32, v0 :: .int x :: ls, sk, h) = zrun zpp E 223 (33, v0 :: .int x :: ls, .int x :: sk, h) := zrun_at rfl
theorem zi223_33 {E : zE} {a0 : Value} {x : Nat} {ls sk : List Value} {h : zH} : zrun zpp E 223 (33, ls, a0 :: .ref x :: sk, h) = (zcls h x).bind (fun d => (zsel d [11, 222]).bind (fun M' => zcl1 E 223 36 M' ls sk [.ref x, a0] h)) := zg_vir (as := [a0]) rfl rfl
theorem zi223_36 {E : zE} {ls sk : List Value} {h : zH} : zrun zpp E 223 (36, ls, sk, h) = zrun zpp E 223 (38, ls, .int 100 :: sk, h) := zg_bipush rfl ci_100
theorem zi223_38 {E : zE} {x y : Int32} {ls sk : List Value} {h : zH} : zrun zpp E 223 (38, ls, .int y :: .int x :: sk, h) = zrun zpp E 223 (39, ls, .int (x - y) :: sk, h) := zrun_at rfl
theorem zi223_39 {E : zE} {x : Int32} {ls sk : List Value} {h : zH} : zrun zpp E 223 (39, ls, .int x :: sk, h) = if zfree ls 3 = true then zrun zpp E 223 (40, ls.set 3 (.int x), sk, h) else none := zg_ist rfl (fun _ _ _ => rfl)
theorem zi223_40 {E : zE} {v0 v1 : Value} {x : Int32} {ls sk : List Value} {h : zH} : zrun zpp E 223 (40, v0 :: v1 :: .int x :: ls, sk, h) = zrun zpp E 223 (41, v0 :: v1 :: .int x :: ls, .int x :: sk, h) := zrun_at rfl
theorem zi223_41 {E : zE} {x : Int32} {ls sk : List Value} {h : zH} : zrun zpp E 223 (41, ls, .int x :: sk, h) = if x = 0 then zrun zpp E 223 (50, ls, sk, h) else zrun zpp E 223 (44, ls, sk, h) := zrun_at rfl
theorem zi223_44 {E : zE} {ls sk : List Value} {h : zH} : zrun zpp E 223 (44, ls, sk, h) = zrun zpp E 223 (45, ls, .int 2 :: sk, h) := zg_iconst rfl ci_2
theorem zi223_45 {E : zE} {v0 v1 v2 : Value} {x : Int32} {ls sk : List Value} {h : zH} : zrun zpp E 223 (45, v0 :: v1 :: v2 :: .int x :: ls, sk, h) = zrun zpp E 223 (46, v0 :: v1 :: v2 :: .int x :: ls, .int x :: sk, h) := zrun_at rfl
theorem zi223_46 {E : zE} {x y : Int32} {ls sk : List Value} {h : zH} : zrun zpp E 223 (46, ls, .int y :: .int x :: sk, h) = zrun zpp E 223 (47, ls, .int (x * y) :: sk, h) := zrun_at rfl
theorem zi223_47 {E : zE} {ls sk : List Value} {h : zH} : zrun zpp E 223 (47, ls, sk, h) = zrun zpp E 223 (51, ls, sk, h) := zrun_at rfl
theorem zi223_50 {E : zE} {v0 v1 v2 : Value} {x : Int32} {ls sk : List Value} {h : zH} : zrun zpp E 223 (50, v0 :: v1 :: v2 :: .int x :: ls, sk, h) = zrun zpp E 223 (51, v0 :: v1 :: v2 :: .int x :: ls, .int x :: sk, h) := zrun_at rfl
theorem zi223_51 {E : zE} {x : Int32} {ls sk : List Value} {h : zH} : zrun zpp E 223 (51, ls, [.int x], h) = some (some (.int x), h) := zrun_at rfl
-- 224 NineDownModel.markOf
theorem zi224_0 {E : zE} {x : Nat} {ls sk : List Value} {h : zH} : zrun zpp E 224 (0, .ref x :: ls, sk, h) = zrun zpp E 224 (1, .ref x :: ls, .ref x :: sk, h) := zrun_at rfl
theorem zi224_0n {E : zE} {ls sk : List Value} {h : zH} : zrun zpp E 224 (0, .null :: ls, sk, h) = zrun zpp E 224 (1, .null :: ls, .null :: sk, h) := zrun_at rfl
theorem zi224_1 {E : zE} {v0 : Value} {x : Int32} {ls sk : List Value} {h : zH} : zrun zpp E 224 (1, v0 :: .int x :: ls, sk, h) = zrun zpp E 224 (2, v0 :: .int x :: ls, .int x :: sk, h) := zrun_at rfl
theorem zi224_2 {E : zE} {a0 : Value} {x : Nat} {ls sk : List Value} {h : zH} : zrun zpp E 224 (2, ls, a0 :: .ref x :: sk, h) = (zcls h x).bind (fun d => (zsel d [11, 179]).bind (fun M' => zcl1 E 224 5 M' ls sk [.ref x, a0] h)) := zg_vir (as := [a0]) rfl rfl
theorem zi224_5 {E : zE} {x : Int32} {ls sk : List Value} {h : zH} : zrun zpp E 224 (5, ls, .int x :: sk, h) = if zfree ls 2 = true then zrun zpp E 224 (6, ls.set 2 (.int x), sk, h) else none := zg_ist rfl (fun _ _ _ => rfl)
theorem zi224_6 {E : zE} {v0 v1 : Value} {x : Int32} {ls sk : List Value} {h : zH} : zrun zpp E 224 (6, v0 :: v1 :: .int x :: ls, sk, h) = zrun zpp E 224 (7, v0 :: v1 :: .int x :: ls, .int x :: sk, h) := zrun_at rfl
theorem zi224_7 {E : zE} {ls sk : List Value} {h : zH} : zrun zpp E 224 (7, ls, sk, h) = zrun zpp E 224 (8, ls, .int 4 :: sk, h) := zg_iconst rfl ci_4
theorem zi224_8 {E : zE} {x y : Int32} {ls sk : List Value} {h : zH} : zrun zpp E 224 (8, ls, .int y :: .int x :: sk, h) = if x < y then zrun zpp E 224 (31, ls, sk, h) else zrun zpp E 224 (11, ls, sk, h) := zrun_at rfl
theorem zi224_11 {E : zE} {x : Nat} {ls sk : List Value} {h : zH} : zrun zpp E 224 (11, .ref x :: ls, sk, h) = zrun zpp E 224 (12, .ref x :: ls, .ref x :: sk, h) := zrun_at rfl
theorem zi224_11n {E : zE} {ls sk : List Value} {h : zH} : zrun zpp E 224 (11, .null :: ls, sk, h) = zrun zpp E 224 (12, .null :: ls, .null :: sk, h) := zrun_at rfl
theorem zi224_12 {E : zE} {ls sk : List Value} {h : zH} : zrun zpp E 224 (12, ls, sk, h) = zrun zpp E 224 (14, ls, .int 23 :: sk, h) := zg_bipush rfl ci_23
theorem zi224_14 {E : zE} {a0 : Value} {x : Nat} {ls sk : List Value} {h : zH} : zrun zpp E 224 (14, ls, a0 :: .ref x :: sk, h) = (zcls h x).bind (fun d => (zsel d [11, 221]).bind (fun M' => zcl1 E 224 17 M' ls sk [.ref x, a0] h)) := zg_vir (as := [a0]) rfl rfl
theorem zi224_17 {E : zE} {x : Nat} {ls sk : List Value} {h : zH} : zrun zpp E 224 (17, .ref x :: ls, sk, h) = zrun zpp E 224 (18, .ref x :: ls, .ref x :: sk, h) := zrun_at rfl
theorem zi224_17n {E : zE} {ls sk : List Value} {h : zH} : zrun zpp E 224 (17, .null :: ls, sk, h) = zrun zpp E 224 (18, .null :: ls, .null :: sk, h) := zrun_at rfl
theorem zi224_18 {E : zE} {ls sk : List Value} {h : zH} : zrun zpp E 224 (18, ls, sk, h) = zrun zpp E 224 (20, ls, .int 20 :: sk, h) := zg_bipush rfl ci_20
theorem zi224_20 {E : zE} {a0 : Value} {x : Nat} {ls sk : List Value} {h : zH} : zrun zpp E 224 (20, ls, a0 :: .ref x :: sk, h) = (zcls h x).bind (fun d => (zsel d [11, 221]).bind (fun M' => zcl1 E 224 23 M' ls sk [.ref x, a0] h)) := zg_vir (as := [a0]) rfl rfl
theorem zi224_23 {E : zE} {v0 : Value} {x : Int32} {ls sk : List Value} {h : zH} : zrun zpp E 224 (23, v0 :: .int x :: ls, sk, h) = zrun zpp E 224 (24, v0 :: .int x :: ls, .int x :: sk, h) := zrun_at rfl
theorem zi224_24 {E : zE} {x : Nat} {ls sk : List Value} {h : zH} : zrun zpp E 224 (24, .ref x :: ls, sk, h) = zrun zpp E 224 (25, .ref x :: ls, .ref x :: sk, h) := zrun_at rfl
theorem zi224_24n {E : zE} {ls sk : List Value} {h : zH} : zrun zpp E 224 (24, .null :: ls, sk, h) = zrun zpp E 224 (25, .null :: ls, .null :: sk, h) := zrun_at rfl
theorem zi224_25 {E : zE} {v0 : Value} {x : Int32} {ls sk : List Value} {h : zH} : zrun zpp E 224 (25, v0 :: .int x :: ls, sk, h) = zrun zpp E 224 (26, v0 :: .int x :: ls, .int x :: sk, h) := zrun_at rfl
theorem zi224_26 {E : zE} {a0 : Value} {x : Nat} {ls sk : List Value} {h : zH} : zrun zpp E 224 (26, ls, a0 :: .ref x :: sk, h) = (zcls h x).bind (fun d => (zsel d [11, 223]).bind (fun M' => zcl1 E 224 29 M' ls sk [.ref x, a0] h)) := zg_vir (as := [a0]) rfl rfl
theorem zi224_29 {E : zE} {x y : Int32} {ls sk : List Value} {h : zH} : zrun zpp E 224 (29, ls, .int y :: .int x :: sk, h) = zrun zpp E 224 (30, ls, .int (x - y) :: sk, h) := zrun_at rfl
theorem zi224_30 {E : zE} {x : Int32} {ls sk : List Value} {h : zH} : zrun zpp E 224 (30, ls, [.int x], h) = some (some (.int x), h) := zrun_at rfl
theorem zi224_31 {E : zE} {v0 v1 : Value} {x : Int32} {ls sk : List Value} {h : zH} : zrun zpp E 224 (31, v0 :: v1 :: .int x :: ls, sk, h) = zrun zpp E 224 (32, v0 :: v1 :: .int x :: ls, .int x :: sk, h) := zrun_at rfl
theorem zi224_32 {E : zE} {ls sk : List Value} {h : zH} : zrun zpp E 224 (32, ls, sk, h) = zrun zpp E 224 (33, ls, .int 1 :: sk, h) := zg_iconst rfl ci_1
theorem zi224_33 {E : zE} {x y : Int32} {ls sk : List Value} {h : zH} : zrun zpp E 224 (33, ls, .int y :: .int x :: sk, h) = if x = y then zrun zpp E 224 (52, ls, sk, h) else zrun zpp E 224 (36, ls, sk, h) := zrun_at rfl
theorem zi224_36 {E : zE} {x : Nat} {ls sk : List Value} {h : zH} : zrun zpp E 224 (36, .ref x :: ls, sk, h) = zrun zpp E 224 (37, .ref x :: ls, .ref x :: sk, h) := zrun_at rfl
theorem zi224_36n {E : zE} {ls sk : List Value} {h : zH} : zrun zpp E 224 (36, .null :: ls, sk, h) = zrun zpp E 224 (37, .null :: ls, .null :: sk, h) := zrun_at rfl
theorem zi224_37 {E : zE} {v0 v1 : Value} {x : Int32} {ls sk : List Value} {h : zH} : zrun zpp E 224 (37, v0 :: v1 :: .int x :: ls, sk, h) = zrun zpp E 224 (38, v0 :: v1 :: .int x :: ls, .int x :: sk, h) := zrun_at rfl
theorem zi224_38 {E : zE} {ls sk : List Value} {h : zH} : zrun zpp E 224 (38, ls, sk, h) = zrun zpp E 224 (39, ls, .int 3 :: sk, h) := zg_iconst rfl ci_3
theorem zi224_39 {E : zE} {x y : Int32} {ls sk : List Value} {h : zH} : zrun zpp E 224 (39, ls, .int y :: .int x :: sk, h) = if x = y then zrun zpp E 224 (42, ls, sk, h) else zrun zpp E 224 (47, ls, sk, h) := zrun_at rfl
theorem zi224_42 {E : zE} {ls sk : List Value} {h : zH} : zrun zpp E 224 (42, ls, sk, h) = zrun zpp E 224 (44, ls, .int 22 :: sk, h) := zg_bipush rfl ci_22
theorem zi224_44 {E : zE} {ls sk : List Value} {h : zH} : zrun zpp E 224 (44, ls, sk, h) = zrun zpp E 224 (49, ls, sk, h) := zrun_at rfl
theorem zi224_47 {E : zE} {ls sk : List Value} {h : zH} : zrun zpp E 224 (47, ls, sk, h) = zrun zpp E 224 (49, ls, .int 24 :: sk, h) := zg_bipush rfl ci_24
theorem zi224_49 {E : zE} {a0 : Value} {x : Nat} {ls sk : List Value} {h : zH} : zrun zpp E 224 (49, ls, a0 :: .ref x :: sk, h) = (zcls h x).bind (fun d => (zsel d [11, 221]).bind (fun M' => zcl1 E 224 52 M' ls sk [.ref x, a0] h)) := zg_vir (as := [a0]) rfl rfl
theorem zi224_52 {E : zE} {x : Nat} {ls sk : List Value} {h : zH} : zrun zpp E 224 (52, .ref x :: ls, sk, h) = zrun zpp E 224 (53, .ref x :: ls, .ref x :: sk, h) := zrun_at rfl
theorem zi224_52n {E : zE} {ls sk : List Value} {h : zH} : zrun zpp E 224 (52, .null :: ls, sk, h) = zrun zpp E 224 (53, .null :: ls, .null :: sk, h) := zrun_at rfl
theorem zi224_53 {E : zE} {ls sk : List Value} {h : zH} : zrun zpp E 224 (53, ls, sk, h) = zrun zpp E 224 (55, ls, .int 21 :: sk, h) := zg_bipush rfl ci_21
theorem zi224_55 {E : zE} {a0 : Value} {x : Nat} {ls sk : List Value} {h : zH} : zrun zpp E 224 (55, ls, a0 :: .ref x :: sk, h) = (zcls h x).bind (fun d => (zsel d [11, 221]).bind (fun M' => zcl1 E 224 58 M' ls sk [.ref x, a0] h)) := zg_vir (as := [a0]) rfl rfl
theorem zi224_58 {E : zE} {x : Nat} {ls sk : List Value} {h : zH} : zrun zpp E 224 (58, .ref x :: ls, sk, h) = zrun zpp E 224 (59, .ref x :: ls, .ref x :: sk, h) := zrun_at rfl
theorem zi224_58n {E : zE} {ls sk : List Value} {h : zH} : zrun zpp E 224 (58, .null :: ls, sk, h) = zrun zpp E 224 (59, .null :: ls, .null :: sk, h) := zrun_at rfl
theorem zi224_59 {E : zE} {ls sk : List Value} {h : zH} : zrun zpp E 224 (59, ls, sk, h) = zrun zpp E 224 (61, ls, .int 20 :: sk, h) := zg_bipush rfl ci_20
theorem zi224_61 {E : zE} {a0 : Value} {x : Nat} {ls sk : List Value} {h : zH} : zrun zpp E 224 (61, ls, a0 :: .ref x :: sk, h) = (zcls h x).bind (fun d => (zsel d [11, 221]).bind (fun M' => zcl1 E 224 64 M' ls sk [.ref x, a0] h)) := zg_vir (as := [a0]) rfl rfl
theorem zi224_64 {E : zE} {v0 : Value} {x : Int32} {ls sk : List Value} {h : zH} : zrun zpp E 224 (64, v0 :: .int x :: ls, sk, h) = zrun zpp E 224 (65, v0 :: .int x :: ls, .int x :: sk, h) := zrun_at rfl
theorem zi224_65 {E : zE} {x : Nat} {ls sk : List Value} {h : zH} : zrun zpp E 224 (65, .ref x :: ls, sk, h) = zrun zpp E 224 (66, .ref x :: ls, .ref x :: sk, h) := zrun_at rfl
theorem zi224_65n {E : zE} {ls sk : List Value} {h : zH} : zrun zpp E 224 (65, .null :: ls, sk, h) = zrun zpp E 224 (66, .null :: ls, .null :: sk, h) := zrun_at rfl
theorem zi224_66 {E : zE} {x : Nat} {ls sk : List Value} {h : zH} : zrun zpp E 224 (66, ls, .ref x :: sk, h) = (zfld [11] h x 5).bind (fun v => zrun zpp E 224 (69, ls, v :: sk, h)) := zg_getf rfl
theorem zi224_69 {E : zE} {ls sk : List Value} {h : zH} : zrun zpp E 224 (69, ls, sk, h) = zrun zpp E 224 (71, ls, .int 8 :: sk, h) := zg_bipush rfl ci_8
theorem zi224_71 {E : zE} {x : Nat} {i : Int32} {ls sk : List Value} {h : zH} : zrun zpp E 224 (71, ls, .int i :: .ref x :: sk, h) = (zarr 0 h x i).bind (fun v => zrun zpp E 224 (72, ls, .int v :: sk, h)) := zg_iald rfl
theorem zi224_72 {E : zE} {a0 : Value} {ls sk : List Value} {h : zH} : zrun zpp E 224 (72, ls, a0 :: sk, h) = zcl1 E 224 75 182 ls sk [a0] h := zg_inv (as := [a0]) rfl rfl
theorem zi224_75 {E : zE} {x y : Int32} {ls sk : List Value} {h : zH} : zrun zpp E 224 (75, ls, .int y :: .int x :: sk, h) = zrun zpp E 224 (76, ls, .int (x + y) :: sk, h) := zrun_at rfl
theorem zi224_76 {E : zE} {x : Int32} {ls sk : List Value} {h : zH} : zrun zpp E 224 (76, ls, .int x :: sk, h) = if zfree ls 3 = true then zrun zpp E 224 (77, ls.set 3 (.int x), sk, h) else none := zg_ist rfl (fun _ _ _ => rfl)
theorem zi224_77 {E : zE} {v0 v1 : Value} {x : Int32} {ls sk : List Value} {h : zH} : zrun zpp E 224 (77, v0 :: v1 :: .int x :: ls, sk, h) = zrun zpp E 224 (78, v0 :: v1 :: .int x :: ls, .int x :: sk, h) := zrun_at rfl
theorem zi224_78 {E : zE} {ls sk : List Value} {h : zH} : zrun zpp E 224 (78, ls, sk, h) = zrun zpp E 224 (79, ls, .int 1 :: sk, h) := zg_iconst rfl ci_1
theorem zi224_79 {E : zE} {x y : Int32} {ls sk : List Value} {h : zH} : zrun zpp E 224 (79, ls, .int y :: .int x :: sk, h) = if x = y then zrun zpp E 224 (82, ls, sk, h) else zrun zpp E 224 (86, ls, sk, h) := zrun_at rfl
theorem zi224_82 {E : zE} {v0 v1 v2 : Value} {x : Int32} {ls sk : List Value} {h : zH} : zrun zpp E 224 (82, v0 :: v1 :: v2 :: .int x :: ls, sk, h) = zrun zpp E 224 (83, v0 :: v1 :: v2 :: .int x :: ls, .int x :: sk, h) := zrun_at rfl
theorem zi224_83 {E : zE} {ls sk : List Value} {h : zH} : zrun zpp E 224 (83, ls, sk, h) = zrun zpp E 224 (102, ls, sk, h) := zrun_at rfl
theorem zi224_86 {E : zE} {v0 v1 : Value} {x : Int32} {ls sk : List Value} {h : zH} : zrun zpp E 224 (86, v0 :: v1 :: .int x :: ls, sk, h) = zrun zpp E 224 (87, v0 :: v1 :: .int x :: ls, .int x :: sk, h) := zrun_at rfl
theorem zi224_87 {E : zE} {ls sk : List Value} {h : zH} : zrun zpp E 224 (87, ls, sk, h) = zrun zpp E 224 (88, ls, .int 3 :: sk, h) := zg_iconst rfl ci_3
theorem zi224_88 {E : zE} {x y : Int32} {ls sk : List Value} {h : zH} : zrun zpp E 224 (88, ls, .int y :: .int x :: sk, h) = if x = y then zrun zpp E 224 (91, ls, sk, h) else zrun zpp E 224 (99, ls, sk, h) := zrun_at rfl
theorem zi224_91 {E : zE} {v0 v1 v2 : Value} {x : Int32} {ls sk : List Value} {h : zH} : zrun zpp E 224 (91, v0 :: v1 :: v2 :: .int x :: ls, sk, h) = zrun zpp E 224 (92, v0 :: v1 :: v2 :: .int x :: ls, .int x :: sk, h) := zrun_at rfl
theorem zi224_92 {E : zE} {ls sk : List Value} {h : zH} : zrun zpp E 224 (92, ls, sk, h) = zrun zpp E 224 (95, ls, .int 1000 :: sk, h) := zg_sipush rfl ci_1000
theorem zi224_95 {E : zE} {x y : Int32} {ls sk : List Value} {h : zH} : zrun zpp E 224 (95, ls, .int y :: .int x :: sk, h) = zrun zpp E 224 (96, ls, .int (x - y) :: sk, h) := zrun_at rfl
theorem zi224_96 {E : zE} {ls sk : List Value} {h : zH} : zrun zpp E 224 (96, ls, sk, h) = zrun zpp E 224 (102, ls, sk, h) := zrun_at rfl
theorem zi224_99 {E : zE} {ls sk : List Value} {h : zH} : zrun zpp E 224 (99, ls, sk, h) = zrun zpp E 224 (100, ls, .int 2 :: sk, h) := zg_iconst rfl ci_2
theorem zi224_100 {E : zE} {v0 v1 v2 : Value} {x : Int32} {ls sk : List Value} {h : zH} : zrun zpp E 224 (100, v0 :: v1 :: v2 :: .int x :: ls, sk, h) = zrun zpp E 224 (101, v0 :: v1 :: v2 :: .int x :: ls, .int x :: sk, h) := zrun_at rfl
theorem zi224_101 {E : zE} {x y : Int32} {ls sk : List Value} {h : zH} : zrun zpp E 224 (101, ls, .int y :: .int x :: sk, h) = zrun zpp E 224 (102, ls, .int (x * y) :: sk, h) := zrun_at rfl
theorem zi224_102 {E : zE} {x : Int32} {ls sk : List Value} {h : zH} : zrun zpp E 224 (102, ls, [.int x], h) = some (some (.int x), h) := zrun_at rfl
-- 225 NineDownModel.sizeOf
theorem zi225_0 {E : zE} {x : Nat} {ls sk : List Value} {h : zH} : zrun zpp E 225 (0, .ref x :: ls, sk, h) = zrun zpp E 225 (1, .ref x :: ls, .ref x :: sk, h) := zrun_at rfl
theorem zi225_0n {E : zE} {ls sk : List Value} {h : zH} : zrun zpp E 225 (0, .null :: ls, sk, h) = zrun zpp E 225 (1, .null :: ls, .null :: sk, h) := zrun_at rfl
theorem zi225_1 {E : zE} {v0 : Value} {x : Int32} {ls sk : List Value} {h : zH} : zrun zpp E 225 (1, v0 :: .int x :: ls, sk, h) = zrun zpp E 225 (2, v0 :: .int x :: ls, .int x :: sk, h) := zrun_at rfl
theorem zi225_2 {E : zE} {a0 : Value} {x : Nat} {ls sk : List Value} {h : zH} : zrun zpp E 225 (2, ls, a0 :: .ref x :: sk, h) = (zcls h x).bind (fun d => (zsel d [11, 179]).bind (fun M' => zcl1 E 225 5 M' ls sk [.ref x, a0] h)) := zg_vir (as := [a0]) rfl rfl
theorem zi225_5 {E : zE} {x : Int32} {ls sk : List Value} {h : zH} : zrun zpp E 225 (5, ls, .int x :: sk, h) = if zfree ls 2 = true then zrun zpp E 225 (6, ls.set 2 (.int x), sk, h) else none := zg_ist rfl (fun _ _ _ => rfl)
theorem zi225_6 {E : zE} {v0 v1 : Value} {x : Int32} {ls sk : List Value} {h : zH} : zrun zpp E 225 (6, v0 :: v1 :: .int x :: ls, sk, h) = zrun zpp E 225 (7, v0 :: v1 :: .int x :: ls, .int x :: sk, h) := zrun_at rfl
theorem zi225_7 {E : zE} {ls sk : List Value} {h : zH} : zrun zpp E 225 (7, ls, sk, h) = zrun zpp E 225 (8, ls, .int 4 :: sk, h) := zg_iconst rfl ci_4
theorem zi225_8 {E : zE} {x y : Int32} {ls sk : List Value} {h : zH} : zrun zpp E 225 (8, ls, .int y :: .int x :: sk, h) = if x < y then zrun zpp E 225 (17, ls, sk, h) else zrun zpp E 225 (11, ls, sk, h) := zrun_at rfl
theorem zi225_11 {E : zE} {x : Nat} {ls sk : List Value} {h : zH} : zrun zpp E 225 (11, .ref x :: ls, sk, h) = zrun zpp E 225 (12, .ref x :: ls, .ref x :: sk, h) := zrun_at rfl
theorem zi225_11n {E : zE} {ls sk : List Value} {h : zH} : zrun zpp E 225 (11, .null :: ls, sk, h) = zrun zpp E 225 (12, .null :: ls, .null :: sk, h) := zrun_at rfl
theorem zi225_12 {E : zE} {v0 : Value} {x : Int32} {ls sk : List Value} {h : zH} : zrun zpp E 225 (12, v0 :: .int x :: ls, sk, h) = zrun zpp E 225 (13, v0 :: .int x :: ls, .int x :: sk, h) := zrun_at rfl
theorem zi225_13 {E : zE} {a0 : Value} {x : Nat} {ls sk : List Value} {h : zH} : zrun zpp E 225 (13, ls, a0 :: .ref x :: sk, h) = (zcls h x).bind (fun d => (zsel d [11, 223]).bind (fun M' => zcl1 E 225 16 M' ls sk [.ref x, a0] h)) := zg_vir (as := [a0]) rfl rfl
theorem zi225_16 {E : zE} {x : Int32} {ls sk : List Value} {h : zH} : zrun zpp E 225 (16, ls, [.int x], h) = some (some (.int x), h) := zrun_at rfl
theorem zi225_17 {E : zE} {v0 v1 : Value} {x : Int32} {ls sk : List Value} {h : zH} : zrun zpp E 225 (17, v0 :: v1 :: .int x :: ls, sk, h) = zrun zpp E 225 (18, v0 :: v1 :: .int x :: ls, .int x :: sk, h) := zrun_at rfl
theorem zi225_18 {E : zE} {ls sk : List Value} {h : zH} : zrun zpp E 225 (18, ls, sk, h) = zrun zpp E 225 (19, ls, .int 2 :: sk, h) := zg_iconst rfl ci_2
theorem zi225_19 {E : zE} {x y : Int32} {ls sk : List Value} {h : zH} : zrun zpp E 225 (19, ls, .int y :: .int x :: sk, h) = if x = y then zrun zpp E 225 (22, ls, sk, h) else zrun zpp E 225 (28, ls, sk, h) := zrun_at rfl
theorem zi225_22 {E : zE} {x : Nat} {ls sk : List Value} {h : zH} : zrun zpp E 225 (22, .ref x :: ls, sk, h) = zrun zpp E 225 (23, .ref x :: ls, .ref x :: sk, h) := zrun_at rfl
theorem zi225_22n {E : zE} {ls sk : List Value} {h : zH} : zrun zpp E 225 (22, .null :: ls, sk, h) = zrun zpp E 225 (23, .null :: ls, .null :: sk, h) := zrun_at rfl
theorem zi225_23 {E : zE} {ls sk : List Value} {h : zH} : zrun zpp E 225 (23, ls, sk, h) = zrun zpp E 225 (25, ls, .int 12 :: sk, h) := zg_bipush rfl ci_12
theorem zi225_25 {E : zE} {a0 : Value} {x : Nat} {ls sk : List Value} {h : zH} : zrun zpp E 225 (25, ls, a0 :: .ref x :: sk, h) = (zcls h x).bind (fun d => (zsel d [11, 221]).bind (fun M' => zcl1 E 225 28 M' ls sk [.ref x, a0] h)) := zg_vir (as := [a0]) rfl rfl
theorem zi225_28 {E : zE} {x : Nat} {ls sk : List Value} {h : zH} : zrun zpp E 225 (28, .ref x :: ls, sk, h) = zrun zpp E 225 (29, .ref x :: ls, .ref x :: sk, h) := zrun_at rfl
theorem zi225_28n {E : zE} {ls sk : List Value} {h : zH} : zrun zpp E 225 (28, .null :: ls, sk, h) = zrun zpp E 225 (29, .null :: ls, .null :: sk, h) := zrun_at rfl
theorem zi225_29 {E : zE} {ls sk : List Value} {h : zH} : zrun zpp E 225 (29, ls, sk, h) = zrun zpp E 225 (31, ls, .int 11 :: sk, h) := zg_bipush rfl ci_11
theorem zi225_31 {E : zE} {a0 : Value} {x : Nat} {ls sk : List Value} {h : zH} : zrun zpp E 225 (31, ls, a0 :: .ref x :: sk, h) = (zcls h x).bind (fun d => (zsel d [11, 221]).bind (fun M' => zcl1 E 225 34 M' ls sk [.ref x, a0] h)) := zg_vir (as := [a0]) rfl rfl
theorem zi225_34 {E : zE} {x : Nat} {ls sk : List Value} {h : zH} : zrun zpp E 225 (34, .ref x :: ls, sk, h) = zrun zpp E 225 (35, .ref x :: ls, .ref x :: sk, h) := zrun_at rfl
theorem zi225_34n {E : zE} {ls sk : List Value} {h : zH} : zrun zpp E 225 (34, .null :: ls, sk, h) = zrun zpp E 225 (35, .null :: ls, .null :: sk, h) := zrun_at rfl
theorem zi225_35 {E : zE} {v0 : Value} {x : Int32} {ls sk : List Value} {h : zH} : zrun zpp E 225 (35, v0 :: .int x :: ls, sk, h) = zrun zpp E 225 (36, v0 :: .int x :: ls, .int x :: sk, h) := zrun_at rfl
theorem zi225_36 {E : zE} {a0 : Value} {x : Nat} {ls sk : List Value} {h : zH} : zrun zpp E 225 (36, ls, a0 :: .ref x :: sk, h) = (zcls h x).bind (fun d => (zsel d [11, 222]).bind (fun M' => zcl1 E 225 39 M' ls sk [.ref x, a0] h)) := zg_vir (as := [a0]) rfl rfl
theorem zi225_39 {E : zE} {x : Int32} {ls sk : List Value} {h : zH} : zrun zpp E 225 (39, ls, .int x :: sk, h) = if zfree ls 3 = true then zrun zpp E 225 (40, ls.set 3 (.int x), sk, h) else none := zg_ist rfl (fun _ _ _ => rfl)
theorem zi225_40 {E : zE} {v0 v1 v2 : Value} {x : Int32} {ls sk : List Value} {h : zH} : zrun zpp E 225 (40, v0 :: v1 :: v2 :: .int x :: ls, sk, h) = zrun zpp E 225 (41, v0 :: v1 :: v2 :: .int x :: ls, .int x :: sk, h) := zrun_at rfl
theorem zi225_41 {E : zE} {x : Nat} {ls sk : List Value} {h : zH} : zrun zpp E 225 (41, .ref x :: ls, sk, h) = zrun zpp E 225 (42, .ref x :: ls, .ref x :: sk, h) := zrun_at rfl
theorem zi225_41n {E : zE} {ls sk : List Value} {h : zH} : zrun zpp E 225 (41, .null :: ls, sk, h) = zrun zpp E 225 (42, .null :: ls, .null :: sk, h) := zrun_at rfl
theorem zi225_42 {E : zE} {v0 : Value} {x : Int32} {ls sk : List Value} {h : zH} : zrun zpp E 225 (42, v0 :: .int x :: ls, sk, h) = zrun zpp E 225 (43, v0 :: .int x :: ls, .int x :: sk, h) := zrun_at rfl
theorem zi225_43 {E : zE} {a0 : Value} {x : Nat} {ls sk : List Value} {h : zH} : zrun zpp E 225 (43, ls, a0 :: .ref x :: sk, h) = (zcls h x).bind (fun d => (zsel d [11, 224]).bind (fun M' => zcl1 E 225 46 M' ls sk [.ref x, a0] h)) := zg_vir (as := [a0]) rfl rfl
theorem zi225_46 {E : zE} {x y : Int32} {ls sk : List Value} {h : zH} : zrun zpp E 225 (46, ls, .int y :: .int x :: sk, h) = zrun zpp E 225 (47, ls, .int (x + y) :: sk, h) := zrun_at rfl
theorem zi225_47 {E : zE} {x : Int32} {ls sk : List Value} {h : zH} : zrun zpp E 225 (47, ls, .int x :: sk, h) = if zfree ls 3 = true then zrun zpp E 225 (48, ls.set 3 (.int x), sk, h) else none := zg_ist rfl (fun _ _ _ => rfl)
theorem zi225_48 {E : zE} {v0 v1 : Value} {x : Int32} {ls sk : List Value} {h : zH} : zrun zpp E 225 (48, v0 :: v1 :: .int x :: ls, sk, h) = zrun zpp E 225 (49, v0 :: v1 :: .int x :: ls, .int x :: sk, h) := zrun_at rfl
theorem zi225_49 {E : zE} {ls sk : List Value} {h : zH} : zrun zpp E 225 (49, ls, sk, h) = zrun zpp E 225 (50, ls, .int 2 :: sk, h) := zg_iconst rfl ci_2
theorem zi225_50 {E : zE} {x y : Int32} {ls sk : List Value} {h : zH} : zrun zpp E 225 (50, ls, .int y :: .int x :: sk, h) = if x = y then zrun zpp E 225 (53, ls, sk, h) else zrun zpp E 225 (58, ls, sk, h) := zrun_at rfl
theorem zi225_53 {E : zE} {v0 v1 v2 : Value} {x : Int32} {ls sk : List Value} {h : zH} : zrun zpp E 225 (53, v0 :: v1 :: v2 :: .int x :: ls, sk, h) = zrun zpp E 225 (54, v0 :: v1 :: v2 :: .int x :: ls, .int x :: sk, h) := zrun_at rfl
theorem zi225_54 {E : zE} {x : Int32} {ls sk : List Value} {h : zH} : zrun zpp E 225 (54, ls, .int x :: sk, h) = zrun zpp E 225 (55, ls, .int (-x) :: sk, h) := zrun_at rfl
theorem zi225_55 {E : zE} {ls sk : List Value} {h : zH} : zrun zpp E 225 (55, ls, sk, h) = zrun zpp E 225 (59, ls, sk, h) := zrun_at rfl
theorem zi225_58 {E : zE} {v0 v1 v2 : Value} {x : Int32} {ls sk : List Value} {h : zH} : zrun zpp E 225 (58, v0 :: v1 :: v2 :: .int x :: ls, sk, h) = zrun zpp E 225 (59, v0 :: v1 :: v2 :: .int x :: ls, .int x :: sk, h) := zrun_at rfl
theorem zi225_59 {E : zE} {x : Int32} {ls sk : List Value} {h : zH} : zrun zpp E 225 (59, ls, [.int x], h) = some (some (.int x), h) := zrun_at rfl
-- 226 NineDownModel.ask
theorem zi226_0 {E : zE} {x : Nat} {ls sk : List Value} {h : zH} : zrun zpp E 226 (0, .ref x :: ls, sk, h) = zrun zpp E 226 (1, .ref x :: ls, .ref x :: sk, h) := zrun_at rfl
theorem zi226_0n {E : zE} {ls sk : List Value} {h : zH} : zrun zpp E 226 (0, .null :: ls, sk, h) = zrun zpp E 226 (1, .null :: ls, .null :: sk, h) := zrun_at rfl
theorem zi226_1 {E : zE} {ls sk : List Value} {h : zH} : zrun zpp E 226 (1, ls, sk, h) = zrun zpp E 226 (2, ls, .int 0 :: sk, h) := zg_iconst rfl ci_0
theorem zi226_2 {E : zE} {x : Nat} {v : Value} {ls sk : List Value} {h : zH} : zrun zpp E 226 (2, ls, v :: .ref x :: sk, h) = (zstf [11] 0 h x 0 v).bind (fun h' => zrun zpp E 226 (5, ls, sk, h')) := zg_putf rfl
theorem zi226_5 {E : zE} {x : Nat} {ls sk : List Value} {h : zH} : zrun zpp E 226 (5, .ref x :: ls, sk, h) = zrun zpp E 226 (6, .ref x :: ls, .ref x :: sk, h) := zrun_at rfl
theorem zi226_5n {E : zE} {ls sk : List Value} {h : zH} : zrun zpp E 226 (5, .null :: ls, sk, h) = zrun zpp E 226 (6, .null :: ls, .null :: sk, h) := zrun_at rfl
theorem zi226_6 {E : zE} {v0 : Value} {x : Int32} {ls sk : List Value} {h : zH} : zrun zpp E 226 (6, v0 :: .int x :: ls, sk, h) = zrun zpp E 226 (7, v0 :: .int x :: ls, .int x :: sk, h) := zrun_at rfl
theorem zi226_7 {E : zE} {x : Int32} {ls sk : List Value} {h : zH} : zrun zpp E 226 (7, ls, .int x :: sk, h) = zrun zpp E 226 (8, ls, .long x.toInt64 :: sk, h) := zrun_at rfl
theorem zi226_8 {E : zE} {a0 : Value} {x : Nat} {ls sk : List Value} {h : zH} : zrun zpp E 226 (8, ls, a0 :: .ref x :: sk, h) = (zcls h x).bind (fun d => (zsel d [11, 174]).bind (fun M' => zcl1 E 226 11 M' ls sk [.ref x, a0] h)) := zg_vir (as := [a0]) rfl rfl
theorem zi226_11 {E : zE} {x : Int32} {ls sk : List Value} {h : zH} : zrun zpp E 226 (11, ls, .int x :: sk, h) = if x = 0 then zrun zpp E 226 (24, ls, sk, h) else zrun zpp E 226 (14, ls, sk, h) := zrun_at rfl
theorem zi226_14 {E : zE} {v0 v1 : Value} {x : Int32} {ls sk : List Value} {h : zH} : zrun zpp E 226 (14, v0 :: v1 :: .int x :: ls, sk, h) = zrun zpp E 226 (15, v0 :: v1 :: .int x :: ls, .int x :: sk, h) := zrun_at rfl
theorem zi226_15 {E : zE} {x : Int32} {ls sk : List Value} {h : zH} : zrun zpp E 226 (15, ls, .int x :: sk, h) = zrun zpp E 226 (16, ls, .long x.toInt64 :: sk, h) := zrun_at rfl
theorem zi226_16 {E : zE} {ls sk : List Value} {h : zH} : zrun zpp E 226 (16, ls, sk, h) = zrun zpp E 226 (17, ls, .long 0 :: sk, h) := zg_lconst rfl rfl
theorem zi226_17 {E : zE} {ls sk : List Value} {h : zH} : zrun zpp E 226 (17, ls, sk, h) = zrun zpp E 226 (18, ls, .long 1 :: sk, h) := zg_lconst rfl rfl
theorem zi226_18 {E : zE} {a0 a1 a2 : Value} {ls sk : List Value} {h : zH} : zrun zpp E 226 (18, ls, a2 :: a1 :: a0 :: sk, h) = zcl1 E 226 21 149 ls sk [a0, a1, a2] h := zg_inv (as := [a0, a1, a2]) rfl rfl
theorem zi226_21 {E : zE} {x : Int32} {ls sk : List Value} {h : zH} : zrun zpp E 226 (21, ls, .int x :: sk, h) = if x = 0 then zrun zpp E 226 (24, ls, sk, h) else zrun zpp E 226 (27, ls, sk, h) := zrun_at rfl
theorem zi226_24 {E : zE} {ls sk : List Value} {h : zH} : zrun zpp E 226 (24, ls, sk, h) = zrun zpp E 226 (26, ls, .int (-1000001) :: sk, h) := zg_ldc rfl ci_m1000001
theorem zi226_26 {E : zE} {x : Int32} {ls sk : List Value} {h : zH} : zrun zpp E 226 (26, ls, [.int x], h) = some (some (.int x), h) := zrun_at rfl
theorem zi226_27 {E : zE} {x : Nat} {ls sk : List Value} {h : zH} : zrun zpp E 226 (27, .ref x :: ls, sk, h) = zrun zpp E 226 (28, .ref x :: ls, .ref x :: sk, h) := zrun_at rfl
theorem zi226_27n {E : zE} {ls sk : List Value} {h : zH} : zrun zpp E 226 (27, .null :: ls, sk, h) = zrun zpp E 226 (28, .null :: ls, .null :: sk, h) := zrun_at rfl
theorem zi226_28 {E : zE} {ls sk : List Value} {h : zH} : zrun zpp E 226 (28, ls, sk, h) = zrun zpp E 226 (29, ls, .int 0 :: sk, h) := zg_iconst rfl ci_0
theorem zi226_29 {E : zE} {x : Nat} {v : Value} {ls sk : List Value} {h : zH} : zrun zpp E 226 (29, ls, v :: .ref x :: sk, h) = (zstf [11] 0 h x 24 v).bind (fun h' => zrun zpp E 226 (32, ls, sk, h')) := zg_putf rfl
theorem zi226_32 {E : zE} {v0 v1 : Value} {x : Int32} {ls sk : List Value} {h : zH} : zrun zpp E 226 (32, v0 :: v1 :: .int x :: ls, sk, h) = zrun zpp E 226 (33, v0 :: v1 :: .int x :: ls, .int x :: sk, h) := zrun_at rfl
theorem zi226_33 {E : zE} {x : Int32} {ls sk : List Value} {h : zH} : zrun zpp E 226 (33, ls, .int x :: sk, h) = if x = 0 then zrun zpp E 226 (36, ls, sk, h) else zrun zpp E 226 (44, ls, sk, h) := zrun_at rfl
theorem zi226_36 {E : zE} {x : Nat} {ls sk : List Value} {h : zH} : zrun zpp E 226 (36, .ref x :: ls, sk, h) = zrun zpp E 226 (37, .ref x :: ls, .ref x :: sk, h) := zrun_at rfl
theorem zi226_36n {E : zE} {ls sk : List Value} {h : zH} : zrun zpp E 226 (36, .null :: ls, sk, h) = zrun zpp E 226 (37, .null :: ls, .null :: sk, h) := zrun_at rfl
theorem zi226_37 {E : zE} {v0 : Value} {x : Int32} {ls sk : List Value} {h : zH} : zrun zpp E 226 (37, v0 :: .int x :: ls, sk, h) = zrun zpp E 226 (38, v0 :: .int x :: ls, .int x :: sk, h) := zrun_at rfl
theorem zi226_38 {E : zE} {a0 : Value} {x : Nat} {ls sk : List Value} {h : zH} : zrun zpp E 226 (38, ls, a0 :: .ref x :: sk, h) = (zcls h x).bind (fun d => (zsel d [11, 225]).bind (fun M' => zcl1 E 226 41 M' ls sk [.ref x, a0] h)) := zg_vir (as := [a0]) rfl rfl
theorem zi226_41 {E : zE} {ls sk : List Value} {h : zH} : zrun zpp E 226 (41, ls, sk, h) = zrun zpp E 226 (49, ls, sk, h) := zrun_at rfl
theorem zi226_44 {E : zE} {x : Nat} {ls sk : List Value} {h : zH} : zrun zpp E 226 (44, .ref x :: ls, sk, h) = zrun zpp E 226 (45, .ref x :: ls, .ref x :: sk, h) := zrun_at rfl
theorem zi226_44n {E : zE} {ls sk : List Value} {h : zH} : zrun zpp E 226 (44, .null :: ls, sk, h) = zrun zpp E 226 (45, .null :: ls, .null :: sk, h) := zrun_at rfl
theorem zi226_45 {E : zE} {v0 : Value} {x : Int32} {ls sk : List Value} {h : zH} : zrun zpp E 226 (45, v0 :: .int x :: ls, sk, h) = zrun zpp E 226 (46, v0 :: .int x :: ls, .int x :: sk, h) := zrun_at rfl
theorem zi226_46 {E : zE} {a0 : Value} {x : Nat} {ls sk : List Value} {h : zH} : zrun zpp E 226 (46, ls, a0 :: .ref x :: sk, h) = (zcls h x).bind (fun d => (zsel d [11, 224]).bind (fun M' => zcl1 E 226 49 M' ls sk [.ref x, a0] h)) := zg_vir (as := [a0]) rfl rfl
theorem zi226_49 {E : zE} {x : Int32} {ls sk : List Value} {h : zH} : zrun zpp E 226 (49, ls, [.int x], h) = some (some (.int x), h) := zrun_at rfl
-- 227 NineDownModel.trace
theorem zi227_0 {E : zE} {x : Nat} {ls sk : List Value} {h : zH} : zrun zpp E 227 (0, .ref x :: ls, sk, h) = zrun zpp E 227 (1, .ref x :: ls, .ref x :: sk, h) := zrun_at rfl
theorem zi227_0n {E : zE} {ls sk : List Value} {h : zH} : zrun zpp E 227 (0, .null :: ls, sk, h) = zrun zpp E 227 (1, .null :: ls, .null :: sk, h) := zrun_at rfl
theorem zi227_1 {E : zE} {ls sk : List Value} {h : zH} : zrun zpp E 227 (1, ls, sk, h) = zrun zpp E 227 (2, ls, .int 0 :: sk, h) := zg_iconst rfl ci_0
theorem zi227_2 {E : zE} {x : Nat} {v : Value} {ls sk : List Value} {h : zH} : zrun zpp E 227 (2, ls, v :: .ref x :: sk, h) = (zstf [11] 0 h x 0 v).bind (fun h' => zrun zpp E 227 (5, ls, sk, h')) := zg_putf rfl
theorem zi227_5 {E : zE} {v0 : Value} {x : Int32} {ls sk : List Value} {h : zH} : zrun zpp E 227 (5, v0 :: .int x :: ls, sk, h) = zrun zpp E 227 (6, v0 :: .int x :: ls, .int x :: sk, h) := zrun_at rfl
theorem zi227_6 {E : zE} {x : Int32} {ls sk : List Value} {h : zH} : zrun zpp E 227 (6, ls, .int x :: sk, h) = zrun zpp E 227 (7, ls, .long x.toInt64 :: sk, h) := zrun_at rfl
theorem zi227_7 {E : zE} {ls sk : List Value} {h : zH} : zrun zpp E 227 (7, ls, sk, h) = zrun zpp E 227 (8, ls, .long 0 :: sk, h) := zg_lconst rfl rfl
theorem zi227_8 {E : zE} {x : Nat} {ls sk : List Value} {h : zH} : zrun zpp E 227 (8, .ref x :: ls, sk, h) = zrun zpp E 227 (9, .ref x :: ls, .ref x :: sk, h) := zrun_at rfl
theorem zi227_8n {E : zE} {ls sk : List Value} {h : zH} : zrun zpp E 227 (8, .null :: ls, sk, h) = zrun zpp E 227 (9, .null :: ls, .null :: sk, h) := zrun_at rfl
theorem zi227_9 {E : zE} {x : Nat} {ls sk : List Value} {h : zH} : zrun zpp E 227 (9, ls, .ref x :: sk, h) = (zfld [11] h x 24).bind (fun v => zrun zpp E 227 (12, ls, v :: sk, h)) := zg_getf rfl
theorem zi227_12 {E : zE} {ls sk : List Value} {h : zH} : zrun zpp E 227 (12, ls, sk, h) = zrun zpp E 227 (13, ls, .int 1 :: sk, h) := zg_iconst rfl ci_1
theorem zi227_13 {E : zE} {x y : Int32} {ls sk : List Value} {h : zH} : zrun zpp E 227 (13, ls, .int y :: .int x :: sk, h) = zrun zpp E 227 (14, ls, .int (x - y) :: sk, h) := zrun_at rfl
theorem zi227_14 {E : zE} {x : Int32} {ls sk : List Value} {h : zH} : zrun zpp E 227 (14, ls, .int x :: sk, h) = zrun zpp E 227 (15, ls, .long x.toInt64 :: sk, h) := zrun_at rfl
theorem zi227_15 {E : zE} {a0 a1 a2 : Value} {ls sk : List Value} {h : zH} : zrun zpp E 227 (15, ls, a2 :: a1 :: a0 :: sk, h) = zcl1 E 227 18 149 ls sk [a0, a1, a2] h := zg_inv (as := [a0, a1, a2]) rfl rfl
theorem zi227_18 {E : zE} {x : Int32} {ls sk : List Value} {h : zH} : zrun zpp E 227 (18, ls, .int x :: sk, h) = if x = 0 then zrun zpp E 227 (30, ls, sk, h) else zrun zpp E 227 (21, ls, sk, h) := zrun_at rfl
theorem zi227_21 {E : zE} {x : Nat} {ls sk : List Value} {h : zH} : zrun zpp E 227 (21, .ref x :: ls, sk, h) = zrun zpp E 227 (22, .ref x :: ls, .ref x :: sk, h) := zrun_at rfl
theorem zi227_21n {E : zE} {ls sk : List Value} {h : zH} : zrun zpp E 227 (21, .null :: ls, sk, h) = zrun zpp E 227 (22, .null :: ls, .null :: sk, h) := zrun_at rfl
theorem zi227_22 {E : zE} {x : Nat} {ls sk : List Value} {h : zH} : zrun zpp E 227 (22, ls, .ref x :: sk, h) = (zfld [11] h x 23).bind (fun v => zrun zpp E 227 (25, ls, v :: sk, h)) := zg_getf rfl
theorem zi227_25 {E : zE} {v0 : Value} {x : Int32} {ls sk : List Value} {h : zH} : zrun zpp E 227 (25, v0 :: .int x :: ls, sk, h) = zrun zpp E 227 (26, v0 :: .int x :: ls, .int x :: sk, h) := zrun_at rfl
theorem zi227_26 {E : zE} {x : Nat} {i : Int32} {ls sk : List Value} {h : zH} : zrun zpp E 227 (26, ls, .int i :: .ref x :: sk, h) = (zarr 0 h x i).bind (fun v => zrun zpp E 227 (27, ls, .int v :: sk, h)) := zg_iald rfl
theorem zi227_27 {E : zE} {ls sk : List Value} {h : zH} : zrun zpp E 227 (27, ls, sk, h) = zrun zpp E 227 (32, ls, sk, h) := zrun_at rfl
theorem zi227_30 {E : zE} {ls sk : List Value} {h : zH} : zrun zpp E 227 (30, ls, sk, h) = zrun zpp E 227 (32, ls, .int (-1000000) :: sk, h) := zg_ldc rfl ci_m1000000
theorem zi227_32 {E : zE} {x : Int32} {ls sk : List Value} {h : zH} : zrun zpp E 227 (32, ls, [.int x], h) = some (some (.int x), h) := zrun_at rfl
-- 228 NineDownModel.count
theorem zi228_0 {E : zE} {x : Nat} {ls sk : List Value} {h : zH} : zrun zpp E 228 (0, .ref x :: ls, sk, h) = zrun zpp E 228 (1, .ref x :: ls, .ref x :: sk, h) := zrun_at rfl
theorem zi228_0n {E : zE} {ls sk : List Value} {h : zH} : zrun zpp E 228 (0, .null :: ls, sk, h) = zrun zpp E 228 (1, .null :: ls, .null :: sk, h) := zrun_at rfl
theorem zi228_1 {E : zE} {ls sk : List Value} {h : zH} : zrun zpp E 228 (1, ls, sk, h) = zrun zpp E 228 (2, ls, .int 0 :: sk, h) := zg_iconst rfl ci_0
theorem zi228_2 {E : zE} {x : Nat} {v : Value} {ls sk : List Value} {h : zH} : zrun zpp E 228 (2, ls, v :: .ref x :: sk, h) = (zstf [11] 0 h x 0 v).bind (fun h' => zrun zpp E 228 (5, ls, sk, h')) := zg_putf rfl
theorem zi228_5 {E : zE} {ls sk : List Value} {h : zH} : zrun zpp E 228 (5, ls, sk, h) = zrun zpp E 228 (6, ls, .int 0 :: sk, h) := zg_iconst rfl ci_0
theorem zi228_6 {E : zE} {x : Int32} {ls sk : List Value} {h : zH} : zrun zpp E 228 (6, ls, .int x :: sk, h) = if zfree ls 2 = true then zrun zpp E 228 (7, ls.set 2 (.int x), sk, h) else none := zg_ist rfl (fun _ _ _ => rfl)
theorem zi228_7 {E : zE} {v0 : Value} {x : Int32} {ls sk : List Value} {h : zH} : zrun zpp E 228 (7, v0 :: .int x :: ls, sk, h) = zrun zpp E 228 (8, v0 :: .int x :: ls, .int x :: sk, h) := zrun_at rfl
theorem zi228_8 {E : zE} {x : Int32} {ls sk : List Value} {h : zH} : zrun zpp E 228 (8, ls, .int x :: sk, h) = if x = 0 then zrun zpp E 228 (56, ls, sk, h) else if x = 1 then zrun zpp E 228 (89, ls, sk, h) else if x = 2 then zrun zpp E 228 (96, ls, sk, h) else if x = 3 then zrun zpp E 228 (103, ls, sk, h) else if x = 4 then zrun zpp E 228 (110, ls, sk, h) else if x = 5 then zrun zpp E 228 (118, ls, sk, h) else if x = 6 then zrun zpp E 228 (126, ls, sk, h) else if x = 7 then zrun zpp E 228 (131, ls, sk, h) else zrun zpp E 228 (136, ls, sk, h) := zrun_at rfl
theorem zi228_56 {E : zE} {ls sk : List Value} {h : zH} : zrun zpp E 228 (56, ls, sk, h) = zrun zpp E 228 (57, ls, .int 0 :: sk, h) := zg_iconst rfl ci_0
theorem zi228_57 {E : zE} {x : Int32} {ls sk : List Value} {h : zH} : zrun zpp E 228 (57, ls, .int x :: sk, h) = if zfree ls 3 = true then zrun zpp E 228 (58, ls.set 3 (.int x), sk, h) else none := zg_ist rfl (fun _ _ _ => rfl)
theorem zi228_58 {E : zE} {v0 v1 v2 : Value} {x : Int32} {ls sk : List Value} {h : zH} : zrun zpp E 228 (58, v0 :: v1 :: v2 :: .int x :: ls, sk, h) = zrun zpp E 228 (59, v0 :: v1 :: v2 :: .int x :: ls, .int x :: sk, h) := zrun_at rfl
theorem zi228_59 {E : zE} {ls sk : List Value} {h : zH} : zrun zpp E 228 (59, ls, sk, h) = zrun zpp E 228 (61, ls, .int 8 :: sk, h) := zg_bipush rfl ci_8
theorem zi228_61 {E : zE} {x y : Int32} {ls sk : List Value} {h : zH} : zrun zpp E 228 (61, ls, .int y :: .int x :: sk, h) = if y ≤ x then zrun zpp E 228 (87, ls, sk, h) else zrun zpp E 228 (64, ls, sk, h) := zrun_at rfl
theorem zi228_64 {E : zE} {v0 v1 : Value} {x : Int32} {ls sk : List Value} {h : zH} : zrun zpp E 228 (64, v0 :: v1 :: .int x :: ls, sk, h) = zrun zpp E 228 (65, v0 :: v1 :: .int x :: ls, .int x :: sk, h) := zrun_at rfl
theorem zi228_65 {E : zE} {x : Nat} {ls sk : List Value} {h : zH} : zrun zpp E 228 (65, .ref x :: ls, sk, h) = zrun zpp E 228 (66, .ref x :: ls, .ref x :: sk, h) := zrun_at rfl
theorem zi228_65n {E : zE} {ls sk : List Value} {h : zH} : zrun zpp E 228 (65, .null :: ls, sk, h) = zrun zpp E 228 (66, .null :: ls, .null :: sk, h) := zrun_at rfl
theorem zi228_66 {E : zE} {x : Nat} {ls sk : List Value} {h : zH} : zrun zpp E 228 (66, ls, .ref x :: sk, h) = (zfld [11] h x 2).bind (fun v => zrun zpp E 228 (69, ls, v :: sk, h)) := zg_getf rfl
theorem zi228_69 {E : zE} {v0 v1 v2 : Value} {x : Int32} {ls sk : List Value} {h : zH} : zrun zpp E 228 (69, v0 :: v1 :: v2 :: .int x :: ls, sk, h) = zrun zpp E 228 (70, v0 :: v1 :: v2 :: .int x :: ls, .int x :: sk, h) := zrun_at rfl
theorem zi228_70 {E : zE} {x : Nat} {i : Int32} {ls sk : List Value} {h : zH} : zrun zpp E 228 (70, ls, .int i :: .ref x :: sk, h) = (zarr 0 h x i).bind (fun v => zrun zpp E 228 (71, ls, .int v :: sk, h)) := zg_iald rfl
theorem zi228_71 {E : zE} {x : Int32} {ls sk : List Value} {h : zH} : zrun zpp E 228 (71, ls, .int x :: sk, h) = if x < 0 then zrun zpp E 228 (78, ls, sk, h) else zrun zpp E 228 (74, ls, sk, h) := zrun_at rfl
theorem zi228_74 {E : zE} {ls sk : List Value} {h : zH} : zrun zpp E 228 (74, ls, sk, h) = zrun zpp E 228 (75, ls, .int 1 :: sk, h) := zg_iconst rfl ci_1
theorem zi228_75 {E : zE} {ls sk : List Value} {h : zH} : zrun zpp E 228 (75, ls, sk, h) = zrun zpp E 228 (79, ls, sk, h) := zrun_at rfl
theorem zi228_78 {E : zE} {ls sk : List Value} {h : zH} : zrun zpp E 228 (78, ls, sk, h) = zrun zpp E 228 (79, ls, .int 0 :: sk, h) := zg_iconst rfl ci_0
theorem zi228_79 {E : zE} {x y : Int32} {ls sk : List Value} {h : zH} : zrun zpp E 228 (79, ls, .int y :: .int x :: sk, h) = zrun zpp E 228 (80, ls, .int (x + y) :: sk, h) := zrun_at rfl
theorem zi228_80 {E : zE} {x : Int32} {ls sk : List Value} {h : zH} : zrun zpp E 228 (80, ls, .int x :: sk, h) = if zfree ls 2 = true then zrun zpp E 228 (81, ls.set 2 (.int x), sk, h) else none := zg_ist rfl (fun _ _ _ => rfl)
theorem zi228_81 {E : zE} {v0 v1 v2 : Value} {x : Int32} {ls sk : List Value} {h : zH} : zrun zpp E 228 (81, v0 :: v1 :: v2 :: .int x :: ls, sk, h) = if zfree (v0 :: v1 :: v2 :: .int x :: ls) 3 = true then zrun zpp E 228 (84, v0 :: v1 :: v2 :: .int (x + 1) :: ls, sk, h) else none := by rw [← ci_1]; exact zrun_at rfl
theorem zi228_84 {E : zE} {ls sk : List Value} {h : zH} : zrun zpp E 228 (84, ls, sk, h) = zrun zpp E 228 (58, ls, sk, h) := zrun_at rfl
theorem zi228_87 {E : zE} {v0 v1 : Value} {x : Int32} {ls sk : List Value} {h : zH} : zrun zpp E 228 (87, v0 :: v1 :: .int x :: ls, sk, h) = zrun zpp E 228 (88, v0 :: v1 :: .int x :: ls, .int x :: sk, h) := zrun_at rfl
theorem zi228_88 {E : zE} {x : Int32} {ls sk : List Value} {h : zH} : zrun zpp E 228 (88, ls, [.int x], h) = some (some (.int x), h) := zrun_at rfl
theorem zi228_89 {E : zE} {x : Nat} {ls sk : List Value} {h : zH} : zrun zpp E 228 (89, .ref x :: ls, sk, h) = zrun zpp E 228 (90, .ref x :: ls, .ref x :: sk, h) := zrun_at rfl
theorem zi228_89n {E : zE} {ls sk : List Value} {h : zH} : zrun zpp E 228 (89, .null :: ls, sk, h) = zrun zpp E 228 (90, .null :: ls, .null :: sk, h) := zrun_at rfl
theorem zi228_90 {E : zE} {x : Nat} {ls sk : List Value} {h : zH} : zrun zpp E 228 (90, ls, .ref x :: sk, h) = (zfld [11] h x 5).bind (fun v => zrun zpp E 228 (93, ls, v :: sk, h)) := zg_getf rfl
theorem zi228_93 {E : zE} {ls sk : List Value} {h : zH} : zrun zpp E 228 (93, ls, sk, h) = zrun zpp E 228 (94, ls, .int 3 :: sk, h) := zg_iconst rfl ci_3
theorem zi228_94 {E : zE} {x : Nat} {i : Int32} {ls sk : List Value} {h : zH} : zrun zpp E 228 (94, ls, .int i :: .ref x :: sk, h) = (zarr 0 h x i).bind (fun v => zrun zpp E 228 (95, ls, .int v :: sk, h)) := zg_iald rfl
theorem zi228_95 {E : zE} {x : Int32} {ls sk : List Value} {h : zH} : zrun zpp E 228 (95, ls, [.int x], h) = some (some (.int x), h) := zrun_at rfl
theorem zi228_96 {E : zE} {x : Nat} {ls sk : List Value} {h : zH} : zrun zpp E 228 (96, .ref x :: ls, sk, h) = zrun zpp E 228 (97, .ref x :: ls, .ref x :: sk, h) := zrun_at rfl
theorem zi228_96n {E : zE} {ls sk : List Value} {h : zH} : zrun zpp E 228 (96, .null :: ls, sk, h) = zrun zpp E 228 (97, .null :: ls, .null :: sk, h) := zrun_at rfl
theorem zi228_97 {E : zE} {x : Nat} {ls sk : List Value} {h : zH} : zrun zpp E 228 (97, ls, .ref x :: sk, h) = (zfld [11] h x 5).bind (fun v => zrun zpp E 228 (100, ls, v :: sk, h)) := zg_getf rfl
theorem zi228_100 {E : zE} {ls sk : List Value} {h : zH} : zrun zpp E 228 (100, ls, sk, h) = zrun zpp E 228 (101, ls, .int 4 :: sk, h) := zg_iconst rfl ci_4
theorem zi228_101 {E : zE} {x : Nat} {i : Int32} {ls sk : List Value} {h : zH} : zrun zpp E 228 (101, ls, .int i :: .ref x :: sk, h) = (zarr 0 h x i).bind (fun v => zrun zpp E 228 (102, ls, .int v :: sk, h)) := zg_iald rfl
theorem zi228_102 {E : zE} {x : Int32} {ls sk : List Value} {h : zH} : zrun zpp E 228 (102, ls, [.int x], h) = some (some (.int x), h) := zrun_at rfl
theorem zi228_103 {E : zE} {x : Nat} {ls sk : List Value} {h : zH} : zrun zpp E 228 (103, .ref x :: ls, sk, h) = zrun zpp E 228 (104, .ref x :: ls, .ref x :: sk, h) := zrun_at rfl
theorem zi228_103n {E : zE} {ls sk : List Value} {h : zH} : zrun zpp E 228 (103, .null :: ls, sk, h) = zrun zpp E 228 (104, .null :: ls, .null :: sk, h) := zrun_at rfl
theorem zi228_104 {E : zE} {x : Nat} {ls sk : List Value} {h : zH} : zrun zpp E 228 (104, ls, .ref x :: sk, h) = (zfld [11] h x 5).bind (fun v => zrun zpp E 228 (107, ls, v :: sk, h)) := zg_getf rfl
theorem zi228_107 {E : zE} {ls sk : List Value} {h : zH} : zrun zpp E 228 (107, ls, sk, h) = zrun zpp E 228 (108, ls, .int 5 :: sk, h) := zg_iconst rfl ci_5
theorem zi228_108 {E : zE} {x : Nat} {i : Int32} {ls sk : List Value} {h : zH} : zrun zpp E 228 (108, ls, .int i :: .ref x :: sk, h) = (zarr 0 h x i).bind (fun v => zrun zpp E 228 (109, ls, .int v :: sk, h)) := zg_iald rfl
theorem zi228_109 {E : zE} {x : Int32} {ls sk : List Value} {h : zH} : zrun zpp E 228 (109, ls, [.int x], h) = some (some (.int x), h) := zrun_at rfl
theorem zi228_110 {E : zE} {x : Nat} {ls sk : List Value} {h : zH} : zrun zpp E 228 (110, .ref x :: ls, sk, h) = zrun zpp E 228 (111, .ref x :: ls, .ref x :: sk, h) := zrun_at rfl
theorem zi228_110n {E : zE} {ls sk : List Value} {h : zH} : zrun zpp E 228 (110, .null :: ls, sk, h) = zrun zpp E 228 (111, .null :: ls, .null :: sk, h) := zrun_at rfl
theorem zi228_111 {E : zE} {x : Nat} {ls sk : List Value} {h : zH} : zrun zpp E 228 (111, ls, .ref x :: sk, h) = (zfld [11] h x 5).bind (fun v => zrun zpp E 228 (114, ls, v :: sk, h)) := zg_getf rfl
theorem zi228_114 {E : zE} {ls sk : List Value} {h : zH} : zrun zpp E 228 (114, ls, sk, h) = zrun zpp E 228 (116, ls, .int 6 :: sk, h) := zg_bipush rfl ci_6
theorem zi228_116 {E : zE} {x : Nat} {i : Int32} {ls sk : List Value} {h : zH} : zrun zpp E 228 (116, ls, .int i :: .ref x :: sk, h) = (zarr 0 h x i).bind (fun v => zrun zpp E 228 (117, ls, .int v :: sk, h)) := zg_iald rfl
theorem zi228_117 {E : zE} {x : Int32} {ls sk : List Value} {h : zH} : zrun zpp E 228 (117, ls, [.int x], h) = some (some (.int x), h) := zrun_at rfl
theorem zi228_118 {E : zE} {x : Nat} {ls sk : List Value} {h : zH} : zrun zpp E 228 (118, .ref x :: ls, sk, h) = zrun zpp E 228 (119, .ref x :: ls, .ref x :: sk, h) := zrun_at rfl
theorem zi228_118n {E : zE} {ls sk : List Value} {h : zH} : zrun zpp E 228 (118, .null :: ls, sk, h) = zrun zpp E 228 (119, .null :: ls, .null :: sk, h) := zrun_at rfl
theorem zi228_119 {E : zE} {x : Nat} {ls sk : List Value} {h : zH} : zrun zpp E 228 (119, ls, .ref x :: sk, h) = (zfld [11] h x 5).bind (fun v => zrun zpp E 228 (122, ls, v :: sk, h)) := zg_getf rfl
theorem zi228_122 {E : zE} {ls sk : List Value} {h : zH} : zrun zpp E 228 (122, ls, sk, h) = zrun zpp E 228 (124, ls, .int 7 :: sk, h) := zg_bipush rfl ci_7
theorem zi228_124 {E : zE} {x : Nat} {i : Int32} {ls sk : List Value} {h : zH} : zrun zpp E 228 (124, ls, .int i :: .ref x :: sk, h) = (zarr 0 h x i).bind (fun v => zrun zpp E 228 (125, ls, .int v :: sk, h)) := zg_iald rfl
theorem zi228_125 {E : zE} {x : Int32} {ls sk : List Value} {h : zH} : zrun zpp E 228 (125, ls, [.int x], h) = some (some (.int x), h) := zrun_at rfl
theorem zi228_126 {E : zE} {x : Nat} {ls sk : List Value} {h : zH} : zrun zpp E 228 (126, .ref x :: ls, sk, h) = zrun zpp E 228 (127, .ref x :: ls, .ref x :: sk, h) := zrun_at rfl
theorem zi228_126n {E : zE} {ls sk : List Value} {h : zH} : zrun zpp E 228 (126, .null :: ls, sk, h) = zrun zpp E 228 (127, .null :: ls, .null :: sk, h) := zrun_at rfl
theorem zi228_127 {E : zE} {x : Nat} {ls sk : List Value} {h : zH} : zrun zpp E 228 (127, ls, .ref x :: sk, h) = (zfld [11] h x 8).bind (fun v => zrun zpp E 228 (130, ls, v :: sk, h)) := zg_getf rfl
theorem zi228_130 {E : zE} {x : Int32} {ls sk : List Value} {h : zH} : zrun zpp E 228 (130, ls, [.int x], h) = some (some (.int x), h) := zrun_at rfl
theorem zi228_131 {E : zE} {x : Nat} {ls sk : List Value} {h : zH} : zrun zpp E 228 (131, .ref x :: ls, sk, h) = zrun zpp E 228 (132, .ref x :: ls, .ref x :: sk, h) := zrun_at rfl
theorem zi228_131n {E : zE} {ls sk : List Value} {h : zH} : zrun zpp E 228 (131, .null :: ls, sk, h) = zrun zpp E 228 (132, .null :: ls, .null :: sk, h) := zrun_at rfl
theorem zi228_132 {E : zE} {x : Nat} {ls sk : List Value} {h : zH} : zrun zpp E 228 (132, ls, .ref x :: sk, h) = (zfld [11] h x 10).bind (fun v => zrun zpp E 228 (135, ls, v :: sk, h)) := zg_getf rfl
theorem zi228_135 {E : zE} {x : Int32} {ls sk : List Value} {h : zH} : zrun zpp E 228 (135, ls, [.int x], h) = some (some (.int x), h) := zrun_at rfl
theorem zi228_136 {E : zE} {ls sk : List Value} {h : zH} : zrun zpp E 228 (136, ls, sk, h) = zrun zpp E 228 (138, ls, .int (-1000001) :: sk, h) := zg_ldc rfl ci_m1000001
theorem zi228_138 {E : zE} {x : Int32} {ls sk : List Value} {h : zH} : zrun zpp E 228 (138, ls, [.int x], h) = some (some (.int x), h) := zrun_at rfl
-- 229 NineDownModel.status
theorem zi229_0 {E : zE} {x : Nat} {ls sk : List Value} {h : zH} : zrun zpp E 229 (0, .ref x :: ls, sk, h) = zrun zpp E 229 (1, .ref x :: ls, .ref x :: sk, h) := zrun_at rfl
theorem zi229_0n {E : zE} {ls sk : List Value} {h : zH} : zrun zpp E 229 (0, .null :: ls, sk, h) = zrun zpp E 229 (1, .null :: ls, .null :: sk, h) := zrun_at rfl
theorem zi229_1 {E : zE} {ls sk : List Value} {h : zH} : zrun zpp E 229 (1, ls, sk, h) = zrun zpp E 229 (2, ls, .int 0 :: sk, h) := zg_iconst rfl ci_0
theorem zi229_2 {E : zE} {x : Nat} {v : Value} {ls sk : List Value} {h : zH} : zrun zpp E 229 (2, ls, v :: .ref x :: sk, h) = (zstf [11] 0 h x 0 v).bind (fun h' => zrun zpp E 229 (5, ls, sk, h')) := zg_putf rfl
theorem zi229_5 {E : zE} {x : Nat} {ls sk : List Value} {h : zH} : zrun zpp E 229 (5, .ref x :: ls, sk, h) = zrun zpp E 229 (6, .ref x :: ls, .ref x :: sk, h) := zrun_at rfl
theorem zi229_5n {E : zE} {ls sk : List Value} {h : zH} : zrun zpp E 229 (5, .null :: ls, sk, h) = zrun zpp E 229 (6, .null :: ls, .null :: sk, h) := zrun_at rfl
theorem zi229_6 {E : zE} {x : Nat} {ls sk : List Value} {h : zH} : zrun zpp E 229 (6, ls, .ref x :: sk, h) = (zfld [11] h x 1).bind (fun v => zrun zpp E 229 (9, ls, v :: sk, h)) := zg_getf rfl
theorem zi229_9 {E : zE} {x : Int32} {ls sk : List Value} {h : zH} : zrun zpp E 229 (9, ls, [.int x], h) = some (some (.int x), h) := zrun_at rfl
-- 230 java/lang/Integer.bitCount
theorem zi230_0 {E : zE} {x : Int32} {ls sk : List Value} {h : zH} : zrun zpp E 230 (0, .int x :: ls, sk, h) = zrun zpp E 230 (1, .int x :: ls, .int x :: sk, h) := zrun_at rfl
theorem zi230_1 {E : zE} {x : Int32} {ls sk : List Value} {h : zH} : zrun zpp E 230 (1, .int x :: ls, sk, h) = zrun zpp E 230 (2, .int x :: ls, .int x :: sk, h) := zrun_at rfl
theorem zi230_2 {E : zE} {ls sk : List Value} {h : zH} : zrun zpp E 230 (2, ls, sk, h) = zrun zpp E 230 (3, ls, .int 1 :: sk, h) := zg_iconst rfl ci_1
theorem zi230_3 {E : zE} {x y : Int32} {ls sk : List Value} {h : zH} : zrun zpp E 230 (3, ls, .int y :: .int x :: sk, h) = zrun zpp E 230 (4, ls, .int ((x.toUInt32 >>> (y.toUInt32 &&& Int32.toUInt32 31)).toInt32) :: sk, h) := zrun_at rfl
theorem zi230_4 {E : zE} {ls sk : List Value} {h : zH} : zrun zpp E 230 (4, ls, sk, h) = zrun zpp E 230 (7, ls, .int 1431655765 :: sk, h) := zg_ldc_w rfl ci_1431655765
theorem zi230_7 {E : zE} {x y : Int32} {ls sk : List Value} {h : zH} : zrun zpp E 230 (7, ls, .int y :: .int x :: sk, h) = zrun zpp E 230 (8, ls, .int (x &&& y) :: sk, h) := zrun_at rfl
theorem zi230_8 {E : zE} {x y : Int32} {ls sk : List Value} {h : zH} : zrun zpp E 230 (8, ls, .int y :: .int x :: sk, h) = zrun zpp E 230 (9, ls, .int (x - y) :: sk, h) := zrun_at rfl
theorem zi230_9 {E : zE} {x : Int32} {ls sk : List Value} {h : zH} : zrun zpp E 230 (9, ls, .int x :: sk, h) = if zfree ls 0 = true then zrun zpp E 230 (10, ls.set 0 (.int x), sk, h) else none := zg_ist rfl (fun _ _ _ => rfl)
theorem zi230_10 {E : zE} {x : Int32} {ls sk : List Value} {h : zH} : zrun zpp E 230 (10, .int x :: ls, sk, h) = zrun zpp E 230 (11, .int x :: ls, .int x :: sk, h) := zrun_at rfl
theorem zi230_11 {E : zE} {ls sk : List Value} {h : zH} : zrun zpp E 230 (11, ls, sk, h) = zrun zpp E 230 (14, ls, .int 858993459 :: sk, h) := zg_ldc_w rfl ci_858993459
theorem zi230_14 {E : zE} {x y : Int32} {ls sk : List Value} {h : zH} : zrun zpp E 230 (14, ls, .int y :: .int x :: sk, h) = zrun zpp E 230 (15, ls, .int (x &&& y) :: sk, h) := zrun_at rfl
theorem zi230_15 {E : zE} {x : Int32} {ls sk : List Value} {h : zH} : zrun zpp E 230 (15, .int x :: ls, sk, h) = zrun zpp E 230 (16, .int x :: ls, .int x :: sk, h) := zrun_at rfl
theorem zi230_16 {E : zE} {ls sk : List Value} {h : zH} : zrun zpp E 230 (16, ls, sk, h) = zrun zpp E 230 (17, ls, .int 2 :: sk, h) := zg_iconst rfl ci_2
theorem zi230_17 {E : zE} {x y : Int32} {ls sk : List Value} {h : zH} : zrun zpp E 230 (17, ls, .int y :: .int x :: sk, h) = zrun zpp E 230 (18, ls, .int ((x.toUInt32 >>> (y.toUInt32 &&& Int32.toUInt32 31)).toInt32) :: sk, h) := zrun_at rfl
theorem zi230_18 {E : zE} {ls sk : List Value} {h : zH} : zrun zpp E 230 (18, ls, sk, h) = zrun zpp E 230 (21, ls, .int 858993459 :: sk, h) := zg_ldc_w rfl ci_858993459
theorem zi230_21 {E : zE} {x y : Int32} {ls sk : List Value} {h : zH} : zrun zpp E 230 (21, ls, .int y :: .int x :: sk, h) = zrun zpp E 230 (22, ls, .int (x &&& y) :: sk, h) := zrun_at rfl
theorem zi230_22 {E : zE} {x y : Int32} {ls sk : List Value} {h : zH} : zrun zpp E 230 (22, ls, .int y :: .int x :: sk, h) = zrun zpp E 230 (23, ls, .int (x + y) :: sk, h) := zrun_at rfl
theorem zi230_23 {E : zE} {x : Int32} {ls sk : List Value} {h : zH} : zrun zpp E 230 (23, ls, .int x :: sk, h) = if zfree ls 0 = true then zrun zpp E 230 (24, ls.set 0 (.int x), sk, h) else none := zg_ist rfl (fun _ _ _ => rfl)
theorem zi230_24 {E : zE} {x : Int32} {ls sk : List Value} {h : zH} : zrun zpp E 230 (24, .int x :: ls, sk, h) = zrun zpp E 230 (25, .int x :: ls, .int x :: sk, h) := zrun_at rfl
theorem zi230_25 {E : zE} {x : Int32} {ls sk : List Value} {h : zH} : zrun zpp E 230 (25, .int x :: ls, sk, h) = zrun zpp E 230 (26, .int x :: ls, .int x :: sk, h) := zrun_at rfl
theorem zi230_26 {E : zE} {ls sk : List Value} {h : zH} : zrun zpp E 230 (26, ls, sk, h) = zrun zpp E 230 (27, ls, .int 4 :: sk, h) := zg_iconst rfl ci_4
theorem zi230_27 {E : zE} {x y : Int32} {ls sk : List Value} {h : zH} : zrun zpp E 230 (27, ls, .int y :: .int x :: sk, h) = zrun zpp E 230 (28, ls, .int ((x.toUInt32 >>> (y.toUInt32 &&& Int32.toUInt32 31)).toInt32) :: sk, h) := zrun_at rfl
theorem zi230_28 {E : zE} {x y : Int32} {ls sk : List Value} {h : zH} : zrun zpp E 230 (28, ls, .int y :: .int x :: sk, h) = zrun zpp E 230 (29, ls, .int (x + y) :: sk, h) := zrun_at rfl
theorem zi230_29 {E : zE} {ls sk : List Value} {h : zH} : zrun zpp E 230 (29, ls, sk, h) = zrun zpp E 230 (32, ls, .int 252645135 :: sk, h) := zg_ldc_w rfl ci_252645135
theorem zi230_32 {E : zE} {x y : Int32} {ls sk : List Value} {h : zH} : zrun zpp E 230 (32, ls, .int y :: .int x :: sk, h) = zrun zpp E 230 (33, ls, .int (x &&& y) :: sk, h) := zrun_at rfl
theorem zi230_33 {E : zE} {x : Int32} {ls sk : List Value} {h : zH} : zrun zpp E 230 (33, ls, .int x :: sk, h) = if zfree ls 0 = true then zrun zpp E 230 (34, ls.set 0 (.int x), sk, h) else none := zg_ist rfl (fun _ _ _ => rfl)
theorem zi230_34 {E : zE} {x : Int32} {ls sk : List Value} {h : zH} : zrun zpp E 230 (34, .int x :: ls, sk, h) = zrun zpp E 230 (35, .int x :: ls, .int x :: sk, h) := zrun_at rfl
theorem zi230_35 {E : zE} {x : Int32} {ls sk : List Value} {h : zH} : zrun zpp E 230 (35, .int x :: ls, sk, h) = zrun zpp E 230 (36, .int x :: ls, .int x :: sk, h) := zrun_at rfl
theorem zi230_36 {E : zE} {ls sk : List Value} {h : zH} : zrun zpp E 230 (36, ls, sk, h) = zrun zpp E 230 (38, ls, .int 8 :: sk, h) := zg_bipush rfl ci_8
theorem zi230_38 {E : zE} {x y : Int32} {ls sk : List Value} {h : zH} : zrun zpp E 230 (38, ls, .int y :: .int x :: sk, h) = zrun zpp E 230 (39, ls, .int ((x.toUInt32 >>> (y.toUInt32 &&& Int32.toUInt32 31)).toInt32) :: sk, h) := zrun_at rfl
theorem zi230_39 {E : zE} {x y : Int32} {ls sk : List Value} {h : zH} : zrun zpp E 230 (39, ls, .int y :: .int x :: sk, h) = zrun zpp E 230 (40, ls, .int (x + y) :: sk, h) := zrun_at rfl
theorem zi230_40 {E : zE} {x : Int32} {ls sk : List Value} {h : zH} : zrun zpp E 230 (40, ls, .int x :: sk, h) = if zfree ls 0 = true then zrun zpp E 230 (41, ls.set 0 (.int x), sk, h) else none := zg_ist rfl (fun _ _ _ => rfl)
theorem zi230_41 {E : zE} {x : Int32} {ls sk : List Value} {h : zH} : zrun zpp E 230 (41, .int x :: ls, sk, h) = zrun zpp E 230 (42, .int x :: ls, .int x :: sk, h) := zrun_at rfl
theorem zi230_42 {E : zE} {x : Int32} {ls sk : List Value} {h : zH} : zrun zpp E 230 (42, .int x :: ls, sk, h) = zrun zpp E 230 (43, .int x :: ls, .int x :: sk, h) := zrun_at rfl
theorem zi230_43 {E : zE} {ls sk : List Value} {h : zH} : zrun zpp E 230 (43, ls, sk, h) = zrun zpp E 230 (45, ls, .int 16 :: sk, h) := zg_bipush rfl ci_16
theorem zi230_45 {E : zE} {x y : Int32} {ls sk : List Value} {h : zH} : zrun zpp E 230 (45, ls, .int y :: .int x :: sk, h) = zrun zpp E 230 (46, ls, .int ((x.toUInt32 >>> (y.toUInt32 &&& Int32.toUInt32 31)).toInt32) :: sk, h) := zrun_at rfl
theorem zi230_46 {E : zE} {x y : Int32} {ls sk : List Value} {h : zH} : zrun zpp E 230 (46, ls, .int y :: .int x :: sk, h) = zrun zpp E 230 (47, ls, .int (x + y) :: sk, h) := zrun_at rfl
theorem zi230_47 {E : zE} {x : Int32} {ls sk : List Value} {h : zH} : zrun zpp E 230 (47, ls, .int x :: sk, h) = if zfree ls 0 = true then zrun zpp E 230 (48, ls.set 0 (.int x), sk, h) else none := zg_ist rfl (fun _ _ _ => rfl)
theorem zi230_48 {E : zE} {x : Int32} {ls sk : List Value} {h : zH} : zrun zpp E 230 (48, .int x :: ls, sk, h) = zrun zpp E 230 (49, .int x :: ls, .int x :: sk, h) := zrun_at rfl
theorem zi230_49 {E : zE} {ls sk : List Value} {h : zH} : zrun zpp E 230 (49, ls, sk, h) = zrun zpp E 230 (51, ls, .int 63 :: sk, h) := zg_bipush rfl ci_63
theorem zi230_51 {E : zE} {x y : Int32} {ls sk : List Value} {h : zH} : zrun zpp E 230 (51, ls, .int y :: .int x :: sk, h) = zrun zpp E 230 (52, ls, .int (x &&& y) :: sk, h) := zrun_at rfl
theorem zi230_52 {E : zE} {x : Int32} {ls sk : List Value} {h : zH} : zrun zpp E 230 (52, ls, [.int x], h) = some (some (.int x), h) := zrun_at rfl
-- 231 java/lang/Math.max
theorem zi231_0 {E : zE} {x : Int32} {ls sk : List Value} {h : zH} : zrun zpp E 231 (0, .int x :: ls, sk, h) = zrun zpp E 231 (1, .int x :: ls, .int x :: sk, h) := zrun_at rfl
theorem zi231_1 {E : zE} {v0 : Value} {x : Int32} {ls sk : List Value} {h : zH} : zrun zpp E 231 (1, v0 :: .int x :: ls, sk, h) = zrun zpp E 231 (2, v0 :: .int x :: ls, .int x :: sk, h) := zrun_at rfl
theorem zi231_2 {E : zE} {x y : Int32} {ls sk : List Value} {h : zH} : zrun zpp E 231 (2, ls, .int y :: .int x :: sk, h) = if x < y then zrun zpp E 231 (9, ls, sk, h) else zrun zpp E 231 (5, ls, sk, h) := zrun_at rfl
theorem zi231_5 {E : zE} {x : Int32} {ls sk : List Value} {h : zH} : zrun zpp E 231 (5, .int x :: ls, sk, h) = zrun zpp E 231 (6, .int x :: ls, .int x :: sk, h) := zrun_at rfl
theorem zi231_6 {E : zE} {ls sk : List Value} {h : zH} : zrun zpp E 231 (6, ls, sk, h) = zrun zpp E 231 (10, ls, sk, h) := zrun_at rfl
theorem zi231_9 {E : zE} {v0 : Value} {x : Int32} {ls sk : List Value} {h : zH} : zrun zpp E 231 (9, v0 :: .int x :: ls, sk, h) = zrun zpp E 231 (10, v0 :: .int x :: ls, .int x :: sk, h) := zrun_at rfl
theorem zi231_10 {E : zE} {x : Int32} {ls sk : List Value} {h : zH} : zrun zpp E 231 (10, ls, [.int x], h) = some (some (.int x), h) := zrun_at rfl
-- 232 java/lang/Math.min
theorem zi232_0 {E : zE} {x : Int32} {ls sk : List Value} {h : zH} : zrun zpp E 232 (0, .int x :: ls, sk, h) = zrun zpp E 232 (1, .int x :: ls, .int x :: sk, h) := zrun_at rfl
theorem zi232_1 {E : zE} {v0 : Value} {x : Int32} {ls sk : List Value} {h : zH} : zrun zpp E 232 (1, v0 :: .int x :: ls, sk, h) = zrun zpp E 232 (2, v0 :: .int x :: ls, .int x :: sk, h) := zrun_at rfl
theorem zi232_2 {E : zE} {x y : Int32} {ls sk : List Value} {h : zH} : zrun zpp E 232 (2, ls, .int y :: .int x :: sk, h) = if y < x then zrun zpp E 232 (9, ls, sk, h) else zrun zpp E 232 (5, ls, sk, h) := zrun_at rfl
theorem zi232_5 {E : zE} {x : Int32} {ls sk : List Value} {h : zH} : zrun zpp E 232 (5, .int x :: ls, sk, h) = zrun zpp E 232 (6, .int x :: ls, .int x :: sk, h) := zrun_at rfl
theorem zi232_6 {E : zE} {ls sk : List Value} {h : zH} : zrun zpp E 232 (6, ls, sk, h) = zrun zpp E 232 (10, ls, sk, h) := zrun_at rfl
theorem zi232_9 {E : zE} {v0 : Value} {x : Int32} {ls sk : List Value} {h : zH} : zrun zpp E 232 (9, v0 :: .int x :: ls, sk, h) = zrun zpp E 232 (10, v0 :: .int x :: ls, .int x :: sk, h) := zrun_at rfl
theorem zi232_10 {E : zE} {x : Int32} {ls sk : List Value} {h : zH} : zrun zpp E 232 (10, ls, [.int x], h) = some (some (.int x), h) := zrun_at rfl
