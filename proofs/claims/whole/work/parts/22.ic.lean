-- 150 NineDownModel.finding
theorem zi150_0 {E : zE} {x : Nat} {ls sk : List Value} {h : zH} : zrun zpp E 150 (0, .ref x :: ls, sk, h) = zrun zpp E 150 (1, .ref x :: ls, .ref x :: sk, h) := zrun_at rfl
theorem zi150_0n {E : zE} {ls sk : List Value} {h : zH} : zrun zpp E 150 (0, .null :: ls, sk, h) = zrun zpp E 150 (1, .null :: ls, .null :: sk, h) := zrun_at rfl
theorem zi150_1 {E : zE} {v0 : Value} {x : Int32} {ls sk : List Value} {h : zH} : zrun zpp E 150 (1, v0 :: .int x :: ls, sk, h) = zrun zpp E 150 (2, v0 :: .int x :: ls, .int x :: sk, h) := zrun_at rfl
theorem zi150_2 {E : zE} {x : Nat} {v : Value} {ls sk : List Value} {h : zH} : zrun zpp E 150 (2, ls, v :: .ref x :: sk, h) = (zstf [11] 0 h x 1 v).bind (fun h' => zrun zpp E 150 (5, ls, sk, h')) := zg_putf rfl
theorem zi150_5 {E : zE} {ls sk : List Value} {h : zH} : zrun zpp E 150 (5, ls, sk, h) = zrun zpp E 150 (7, ls, .int (-1000010) :: sk, h) := zg_ldc rfl ci_m1000010
theorem zi150_7 {E : zE} {v0 : Value} {x : Int32} {ls sk : List Value} {h : zH} : zrun zpp E 150 (7, v0 :: .int x :: ls, sk, h) = zrun zpp E 150 (8, v0 :: .int x :: ls, .int x :: sk, h) := zrun_at rfl
theorem zi150_8 {E : zE} {x y : Int32} {ls sk : List Value} {h : zH} : zrun zpp E 150 (8, ls, .int y :: .int x :: sk, h) = zrun zpp E 150 (9, ls, .int (x - y) :: sk, h) := zrun_at rfl
theorem zi150_9 {E : zE} {x : Int32} {ls sk : List Value} {h : zH} : zrun zpp E 150 (9, ls, [.int x], h) = some (some (.int x), h) := zrun_at rfl
-- 151 NineDownModel.isRow
theorem zi151_0 {E : zE} {x : Int32} {ls sk : List Value} {h : zH} : zrun zpp E 151 (0, .int x :: ls, sk, h) = zrun zpp E 151 (1, .int x :: ls, .int x :: sk, h) := zrun_at rfl
theorem zi151_1 {E : zE} {x : Int32} {ls sk : List Value} {h : zH} : zrun zpp E 151 (1, ls, .int x :: sk, h) = zrun zpp E 151 (2, ls, .long x.toInt64 :: sk, h) := zrun_at rfl
theorem zi151_2 {E : zE} {ls sk : List Value} {h : zH} : zrun zpp E 151 (2, ls, sk, h) = zrun zpp E 151 (3, ls, .long 0 :: sk, h) := zg_lconst rfl rfl
theorem zi151_3 {E : zE} {ls sk : List Value} {h : zH} : zrun zpp E 151 (3, ls, sk, h) = zrun zpp E 151 (6, ls, .long 7 :: sk, h) := zg_ldc2_w rfl cj_7
theorem zi151_6 {E : zE} {a0 a1 a2 : Value} {ls sk : List Value} {h : zH} : zrun zpp E 151 (6, ls, a2 :: a1 :: a0 :: sk, h) = zcl1 E 151 9 149 ls sk [a0, a1, a2] h := zg_inv (as := [a0, a1, a2]) rfl rfl
theorem zi151_9 {E : zE} {x : Int32} {ls sk : List Value} {h : zH} : zrun zpp E 151 (9, ls, [.int x], h) = if x = 0 then some (some (.int 0), h) else if x = 1 then some (some (.int 1), h) else none := zrun_at rfl
-- 152 NineDownModel.row
theorem zi152_0 {E : zE} {x : Nat} {ls sk : List Value} {h : zH} : zrun zpp E 152 (0, .ref x :: ls, sk, h) = zrun zpp E 152 (1, .ref x :: ls, .ref x :: sk, h) := zrun_at rfl
theorem zi152_0n {E : zE} {ls sk : List Value} {h : zH} : zrun zpp E 152 (0, .null :: ls, sk, h) = zrun zpp E 152 (1, .null :: ls, .null :: sk, h) := zrun_at rfl
theorem zi152_1 {E : zE} {ls sk : List Value} {h : zH} : zrun zpp E 152 (1, ls, sk, h) = zrun zpp E 152 (2, ls, .int 0 :: sk, h) := zg_iconst rfl ci_0
theorem zi152_2 {E : zE} {x : Nat} {v : Value} {ls sk : List Value} {h : zH} : zrun zpp E 152 (2, ls, v :: .ref x :: sk, h) = (zstf [11] 0 h x 0 v).bind (fun h' => zrun zpp E 152 (5, ls, sk, h')) := zg_putf rfl
theorem zi152_5 {E : zE} {v0 : Value} {x : Int32} {ls sk : List Value} {h : zH} : zrun zpp E 152 (5, v0 :: .int x :: ls, sk, h) = zrun zpp E 152 (6, v0 :: .int x :: ls, .int x :: sk, h) := zrun_at rfl
theorem zi152_6 {E : zE} {a0 : Value} {ls sk : List Value} {h : zH} : zrun zpp E 152 (6, ls, a0 :: sk, h) = zcl1 E 152 9 151 ls sk [a0] h := zg_inv (as := [a0]) rfl rfl
theorem zi152_9 {E : zE} {x : Int32} {ls sk : List Value} {h : zH} : zrun zpp E 152 (9, ls, .int x :: sk, h) = if x = 0 then zrun zpp E 152 (30, ls, sk, h) else zrun zpp E 152 (12, ls, sk, h) := zrun_at rfl
theorem zi152_12 {E : zE} {v0 v1 : Value} {x : Int32} {ls sk : List Value} {h : zH} : zrun zpp E 152 (12, v0 :: v1 :: .int x :: ls, sk, h) = zrun zpp E 152 (13, v0 :: v1 :: .int x :: ls, .int x :: sk, h) := zrun_at rfl
theorem zi152_13 {E : zE} {x : Int32} {ls sk : List Value} {h : zH} : zrun zpp E 152 (13, ls, .int x :: sk, h) = zrun zpp E 152 (14, ls, .long x.toInt64 :: sk, h) := zrun_at rfl
theorem zi152_14 {E : zE} {ls sk : List Value} {h : zH} : zrun zpp E 152 (14, ls, sk, h) = zrun zpp E 152 (15, ls, .long 0 :: sk, h) := zg_lconst rfl rfl
theorem zi152_15 {E : zE} {ls sk : List Value} {h : zH} : zrun zpp E 152 (15, ls, sk, h) = zrun zpp E 152 (18, ls, .long 2 :: sk, h) := zg_ldc2_w rfl cj_2
theorem zi152_18 {E : zE} {a0 a1 a2 : Value} {ls sk : List Value} {h : zH} : zrun zpp E 152 (18, ls, a2 :: a1 :: a0 :: sk, h) = zcl1 E 152 21 149 ls sk [a0, a1, a2] h := zg_inv (as := [a0, a1, a2]) rfl rfl
theorem zi152_21 {E : zE} {x : Int32} {ls sk : List Value} {h : zH} : zrun zpp E 152 (21, ls, .int x :: sk, h) = if x = 0 then zrun zpp E 152 (30, ls, sk, h) else zrun zpp E 152 (24, ls, sk, h) := zrun_at rfl
theorem zi152_24 {E : zE} {v0 v1 v2 : Value} {x : Int32} {ls sk : List Value} {h : zH} : zrun zpp E 152 (24, v0 :: v1 :: v2 :: .int x :: ls, sk, h) = zrun zpp E 152 (25, v0 :: v1 :: v2 :: .int x :: ls, .int x :: sk, h) := zrun_at rfl
theorem zi152_25 {E : zE} {ls sk : List Value} {h : zH} : zrun zpp E 152 (25, ls, sk, h) = zrun zpp E 152 (27, ls, .int 40 :: sk, h) := zg_bipush rfl ci_40
theorem zi152_27 {E : zE} {x y : Int32} {ls sk : List Value} {h : zH} : zrun zpp E 152 (27, ls, .int y :: .int x :: sk, h) = if x ≤ y then zrun zpp E 152 (33, ls, sk, h) else zrun zpp E 152 (30, ls, sk, h) := zrun_at rfl
theorem zi152_30 {E : zE} {ls sk : List Value} {h : zH} : zrun zpp E 152 (30, ls, sk, h) = zrun zpp E 152 (32, ls, .int (-1000001) :: sk, h) := zg_ldc rfl ci_m1000001
theorem zi152_32 {E : zE} {x : Int32} {ls sk : List Value} {h : zH} : zrun zpp E 152 (32, ls, [.int x], h) = some (some (.int x), h) := zrun_at rfl
theorem zi152_33 {E : zE} {x : Nat} {ls sk : List Value} {h : zH} : zrun zpp E 152 (33, .ref x :: ls, sk, h) = zrun zpp E 152 (34, .ref x :: ls, .ref x :: sk, h) := zrun_at rfl
theorem zi152_33n {E : zE} {ls sk : List Value} {h : zH} : zrun zpp E 152 (33, .null :: ls, sk, h) = zrun zpp E 152 (34, .null :: ls, .null :: sk, h) := zrun_at rfl
theorem zi152_34 {E : zE} {ls sk : List Value} {h : zH} : zrun zpp E 152 (34, ls, sk, h) = zrun zpp E 152 (35, ls, .int 0 :: sk, h) := zg_iconst rfl ci_0
theorem zi152_35 {E : zE} {x : Nat} {v : Value} {ls sk : List Value} {h : zH} : zrun zpp E 152 (35, ls, v :: .ref x :: sk, h) = (zstf [11] 0 h x 1 v).bind (fun h' => zrun zpp E 152 (38, ls, sk, h')) := zg_putf rfl
theorem zi152_38 {E : zE} {v0 v1 v2 : Value} {x : Int32} {ls sk : List Value} {h : zH} : zrun zpp E 152 (38, v0 :: v1 :: v2 :: .int x :: ls, sk, h) = zrun zpp E 152 (39, v0 :: v1 :: v2 :: .int x :: ls, .int x :: sk, h) := zrun_at rfl
theorem zi152_39 {E : zE} {x : Int32} {ls sk : List Value} {h : zH} : zrun zpp E 152 (39, ls, .int x :: sk, h) = if 0 ≤ x then zrun zpp E 152 (48, ls, sk, h) else zrun zpp E 152 (42, ls, sk, h) := zrun_at rfl
theorem zi152_42 {E : zE} {x : Nat} {ls sk : List Value} {h : zH} : zrun zpp E 152 (42, .ref x :: ls, sk, h) = zrun zpp E 152 (43, .ref x :: ls, .ref x :: sk, h) := zrun_at rfl
theorem zi152_42n {E : zE} {ls sk : List Value} {h : zH} : zrun zpp E 152 (42, .null :: ls, sk, h) = zrun zpp E 152 (43, .null :: ls, .null :: sk, h) := zrun_at rfl
theorem zi152_43 {E : zE} {ls sk : List Value} {h : zH} : zrun zpp E 152 (43, ls, sk, h) = zrun zpp E 152 (44, ls, .int 4 :: sk, h) := zg_iconst rfl ci_4
theorem zi152_44 {E : zE} {a0 : Value} {x : Nat} {ls sk : List Value} {h : zH} : zrun zpp E 152 (44, ls, a0 :: .ref x :: sk, h) = (zcls h x).bind (fun d => (zsel d [11, 150]).bind (fun M' => zcl1 E 152 47 M' ls sk [.ref x, a0] h)) := zg_vir (as := [a0]) rfl rfl
theorem zi152_47 {E : zE} {x : Int32} {ls sk : List Value} {h : zH} : zrun zpp E 152 (47, ls, [.int x], h) = some (some (.int x), h) := zrun_at rfl
theorem zi152_48 {E : zE} {x : Nat} {ls sk : List Value} {h : zH} : zrun zpp E 152 (48, .ref x :: ls, sk, h) = zrun zpp E 152 (49, .ref x :: ls, .ref x :: sk, h) := zrun_at rfl
theorem zi152_48n {E : zE} {ls sk : List Value} {h : zH} : zrun zpp E 152 (48, .null :: ls, sk, h) = zrun zpp E 152 (49, .null :: ls, .null :: sk, h) := zrun_at rfl
theorem zi152_49 {E : zE} {x : Nat} {ls sk : List Value} {h : zH} : zrun zpp E 152 (49, ls, .ref x :: sk, h) = (zfld [11] h x 2).bind (fun v => zrun zpp E 152 (52, ls, v :: sk, h)) := zg_getf rfl
theorem zi152_52 {E : zE} {v0 : Value} {x : Int32} {ls sk : List Value} {h : zH} : zrun zpp E 152 (52, v0 :: .int x :: ls, sk, h) = zrun zpp E 152 (53, v0 :: .int x :: ls, .int x :: sk, h) := zrun_at rfl
theorem zi152_53 {E : zE} {v0 v1 : Value} {x : Int32} {ls sk : List Value} {h : zH} : zrun zpp E 152 (53, v0 :: v1 :: .int x :: ls, sk, h) = zrun zpp E 152 (54, v0 :: v1 :: .int x :: ls, .int x :: sk, h) := zrun_at rfl
theorem zi152_54 {E : zE} {x : Nat} {i v : Int32} {ls sk : List Value} {h : zH} : zrun zpp E 152 (54, ls, .int v :: .int i :: .ref x :: sk, h) = (zars 0 h x i v).bind (fun h' => zrun zpp E 152 (55, ls, sk, h')) := zg_iast rfl
theorem zi152_55 {E : zE} {x : Nat} {ls sk : List Value} {h : zH} : zrun zpp E 152 (55, .ref x :: ls, sk, h) = zrun zpp E 152 (56, .ref x :: ls, .ref x :: sk, h) := zrun_at rfl
theorem zi152_55n {E : zE} {ls sk : List Value} {h : zH} : zrun zpp E 152 (55, .null :: ls, sk, h) = zrun zpp E 152 (56, .null :: ls, .null :: sk, h) := zrun_at rfl
theorem zi152_56 {E : zE} {x : Nat} {ls sk : List Value} {h : zH} : zrun zpp E 152 (56, ls, .ref x :: sk, h) = (zfld [11] h x 3).bind (fun v => zrun zpp E 152 (59, ls, v :: sk, h)) := zg_getf rfl
theorem zi152_59 {E : zE} {v0 : Value} {x : Int32} {ls sk : List Value} {h : zH} : zrun zpp E 152 (59, v0 :: .int x :: ls, sk, h) = zrun zpp E 152 (60, v0 :: .int x :: ls, .int x :: sk, h) := zrun_at rfl
theorem zi152_60 {E : zE} {v0 v1 v2 : Value} {x : Int32} {ls sk : List Value} {h : zH} : zrun zpp E 152 (60, v0 :: v1 :: v2 :: .int x :: ls, sk, h) = zrun zpp E 152 (61, v0 :: v1 :: v2 :: .int x :: ls, .int x :: sk, h) := zrun_at rfl
theorem zi152_61 {E : zE} {x : Nat} {i v : Int32} {ls sk : List Value} {h : zH} : zrun zpp E 152 (61, ls, .int v :: .int i :: .ref x :: sk, h) = (zars 0 h x i v).bind (fun h' => zrun zpp E 152 (62, ls, sk, h')) := zg_iast rfl
theorem zi152_62 {E : zE} {ls sk : List Value} {h : zH} : zrun zpp E 152 (62, ls, sk, h) = zrun zpp E 152 (63, ls, .int 0 :: sk, h) := zg_iconst rfl ci_0
theorem zi152_63 {E : zE} {x : Int32} {ls sk : List Value} {h : zH} : zrun zpp E 152 (63, ls, .int x :: sk, h) = if zfree ls 4 = true then zrun zpp E 152 (65, ls.set 4 (.int x), sk, h) else none := zg_ist rfl (fun _ _ _ => rfl)
theorem zi152_65 {E : zE} {v0 v1 v2 v3 : Value} {x : Int32} {ls sk : List Value} {h : zH} : zrun zpp E 152 (65, v0 :: v1 :: v2 :: v3 :: .int x :: ls, sk, h) = zrun zpp E 152 (67, v0 :: v1 :: v2 :: v3 :: .int x :: ls, .int x :: sk, h) := zrun_at rfl
theorem zi152_67 {E : zE} {ls sk : List Value} {h : zH} : zrun zpp E 152 (67, ls, sk, h) = zrun zpp E 152 (69, ls, .int 40 :: sk, h) := zg_bipush rfl ci_40
theorem zi152_69 {E : zE} {x y : Int32} {ls sk : List Value} {h : zH} : zrun zpp E 152 (69, ls, .int y :: .int x :: sk, h) = if y ≤ x then zrun zpp E 152 (91, ls, sk, h) else zrun zpp E 152 (72, ls, sk, h) := zrun_at rfl
theorem zi152_72 {E : zE} {x : Nat} {ls sk : List Value} {h : zH} : zrun zpp E 152 (72, .ref x :: ls, sk, h) = zrun zpp E 152 (73, .ref x :: ls, .ref x :: sk, h) := zrun_at rfl
theorem zi152_72n {E : zE} {ls sk : List Value} {h : zH} : zrun zpp E 152 (72, .null :: ls, sk, h) = zrun zpp E 152 (73, .null :: ls, .null :: sk, h) := zrun_at rfl
theorem zi152_73 {E : zE} {x : Nat} {ls sk : List Value} {h : zH} : zrun zpp E 152 (73, ls, .ref x :: sk, h) = (zfld [11] h x 4).bind (fun v => zrun zpp E 152 (76, ls, v :: sk, h)) := zg_getf rfl
theorem zi152_76 {E : zE} {ls sk : List Value} {h : zH} : zrun zpp E 152 (76, ls, sk, h) = zrun zpp E 152 (78, ls, .int 40 :: sk, h) := zg_bipush rfl ci_40
theorem zi152_78 {E : zE} {v0 : Value} {x : Int32} {ls sk : List Value} {h : zH} : zrun zpp E 152 (78, v0 :: .int x :: ls, sk, h) = zrun zpp E 152 (79, v0 :: .int x :: ls, .int x :: sk, h) := zrun_at rfl
theorem zi152_79 {E : zE} {x y : Int32} {ls sk : List Value} {h : zH} : zrun zpp E 152 (79, ls, .int y :: .int x :: sk, h) = zrun zpp E 152 (80, ls, .int (x * y) :: sk, h) := zrun_at rfl
theorem zi152_80 {E : zE} {v0 v1 v2 v3 : Value} {x : Int32} {ls sk : List Value} {h : zH} : zrun zpp E 152 (80, v0 :: v1 :: v2 :: v3 :: .int x :: ls, sk, h) = zrun zpp E 152 (82, v0 :: v1 :: v2 :: v3 :: .int x :: ls, .int x :: sk, h) := zrun_at rfl
theorem zi152_82 {E : zE} {x y : Int32} {ls sk : List Value} {h : zH} : zrun zpp E 152 (82, ls, .int y :: .int x :: sk, h) = zrun zpp E 152 (83, ls, .int (x + y) :: sk, h) := zrun_at rfl
theorem zi152_83 {E : zE} {ls sk : List Value} {h : zH} : zrun zpp E 152 (83, ls, sk, h) = zrun zpp E 152 (84, ls, .int 0 :: sk, h) := zg_iconst rfl ci_0
theorem zi152_84 {E : zE} {x : Nat} {i v : Int32} {ls sk : List Value} {h : zH} : zrun zpp E 152 (84, ls, .int v :: .int i :: .ref x :: sk, h) = (zars 0 h x i v).bind (fun h' => zrun zpp E 152 (85, ls, sk, h')) := zg_iast rfl
theorem zi152_85 {E : zE} {v0 v1 v2 v3 : Value} {x : Int32} {ls sk : List Value} {h : zH} : zrun zpp E 152 (85, v0 :: v1 :: v2 :: v3 :: .int x :: ls, sk, h) = if zfree (v0 :: v1 :: v2 :: v3 :: .int x :: ls) 4 = true then zrun zpp E 152 (88, v0 :: v1 :: v2 :: v3 :: .int (x + 1) :: ls, sk, h) else none := by rw [← ci_1]; exact zrun_at rfl
theorem zi152_88 {E : zE} {ls sk : List Value} {h : zH} : zrun zpp E 152 (88, ls, sk, h) = zrun zpp E 152 (65, ls, sk, h) := zrun_at rfl
theorem zi152_91 {E : zE} {v0 v1 v2 : Value} {x : Int32} {ls sk : List Value} {h : zH} : zrun zpp E 152 (91, v0 :: v1 :: v2 :: .int x :: ls, sk, h) = zrun zpp E 152 (92, v0 :: v1 :: v2 :: .int x :: ls, .int x :: sk, h) := zrun_at rfl
theorem zi152_92 {E : zE} {x : Int32} {ls sk : List Value} {h : zH} : zrun zpp E 152 (92, ls, [.int x], h) = some (some (.int x), h) := zrun_at rfl
-- 153 NineDownModel.set
theorem zi153_0 {E : zE} {x : Nat} {ls sk : List Value} {h : zH} : zrun zpp E 153 (0, .ref x :: ls, sk, h) = zrun zpp E 153 (1, .ref x :: ls, .ref x :: sk, h) := zrun_at rfl
theorem zi153_0n {E : zE} {ls sk : List Value} {h : zH} : zrun zpp E 153 (0, .null :: ls, sk, h) = zrun zpp E 153 (1, .null :: ls, .null :: sk, h) := zrun_at rfl
theorem zi153_1 {E : zE} {ls sk : List Value} {h : zH} : zrun zpp E 153 (1, ls, sk, h) = zrun zpp E 153 (2, ls, .int 0 :: sk, h) := zg_iconst rfl ci_0
theorem zi153_2 {E : zE} {x : Nat} {v : Value} {ls sk : List Value} {h : zH} : zrun zpp E 153 (2, ls, v :: .ref x :: sk, h) = (zstf [11] 0 h x 0 v).bind (fun h' => zrun zpp E 153 (5, ls, sk, h')) := zg_putf rfl
theorem zi153_5 {E : zE} {v0 : Value} {x : Int32} {ls sk : List Value} {h : zH} : zrun zpp E 153 (5, v0 :: .int x :: ls, sk, h) = zrun zpp E 153 (6, v0 :: .int x :: ls, .int x :: sk, h) := zrun_at rfl
theorem zi153_6 {E : zE} {a0 : Value} {ls sk : List Value} {h : zH} : zrun zpp E 153 (6, ls, a0 :: sk, h) = zcl1 E 153 9 151 ls sk [a0] h := zg_inv (as := [a0]) rfl rfl
theorem zi153_9 {E : zE} {x : Int32} {ls sk : List Value} {h : zH} : zrun zpp E 153 (9, ls, .int x :: sk, h) = if x = 0 then zrun zpp E 153 (12, ls, sk, h) else zrun zpp E 153 (15, ls, sk, h) := zrun_at rfl
theorem zi153_12 {E : zE} {ls sk : List Value} {h : zH} : zrun zpp E 153 (12, ls, sk, h) = zrun zpp E 153 (14, ls, .int (-1000001) :: sk, h) := zg_ldc rfl ci_m1000001
theorem zi153_14 {E : zE} {x : Int32} {ls sk : List Value} {h : zH} : zrun zpp E 153 (14, ls, [.int x], h) = some (some (.int x), h) := zrun_at rfl
theorem zi153_15 {E : zE} {x : Nat} {ls sk : List Value} {h : zH} : zrun zpp E 153 (15, .ref x :: ls, sk, h) = zrun zpp E 153 (16, .ref x :: ls, .ref x :: sk, h) := zrun_at rfl
theorem zi153_15n {E : zE} {ls sk : List Value} {h : zH} : zrun zpp E 153 (15, .null :: ls, sk, h) = zrun zpp E 153 (16, .null :: ls, .null :: sk, h) := zrun_at rfl
theorem zi153_16 {E : zE} {ls sk : List Value} {h : zH} : zrun zpp E 153 (16, ls, sk, h) = zrun zpp E 153 (17, ls, .int 0 :: sk, h) := zg_iconst rfl ci_0
theorem zi153_17 {E : zE} {x : Nat} {v : Value} {ls sk : List Value} {h : zH} : zrun zpp E 153 (17, ls, v :: .ref x :: sk, h) = (zstf [11] 0 h x 1 v).bind (fun h' => zrun zpp E 153 (20, ls, sk, h')) := zg_putf rfl
theorem zi153_20 {E : zE} {x : Nat} {ls sk : List Value} {h : zH} : zrun zpp E 153 (20, .ref x :: ls, sk, h) = zrun zpp E 153 (21, .ref x :: ls, .ref x :: sk, h) := zrun_at rfl
theorem zi153_20n {E : zE} {ls sk : List Value} {h : zH} : zrun zpp E 153 (20, .null :: ls, sk, h) = zrun zpp E 153 (21, .null :: ls, .null :: sk, h) := zrun_at rfl
theorem zi153_21 {E : zE} {x : Nat} {ls sk : List Value} {h : zH} : zrun zpp E 153 (21, ls, .ref x :: sk, h) = (zfld [11] h x 2).bind (fun v => zrun zpp E 153 (24, ls, v :: sk, h)) := zg_getf rfl
theorem zi153_24 {E : zE} {v0 : Value} {x : Int32} {ls sk : List Value} {h : zH} : zrun zpp E 153 (24, v0 :: .int x :: ls, sk, h) = zrun zpp E 153 (25, v0 :: .int x :: ls, .int x :: sk, h) := zrun_at rfl
theorem zi153_25 {E : zE} {x : Nat} {i : Int32} {ls sk : List Value} {h : zH} : zrun zpp E 153 (25, ls, .int i :: .ref x :: sk, h) = (zarr 0 h x i).bind (fun v => zrun zpp E 153 (26, ls, .int v :: sk, h)) := zg_iald rfl
theorem zi153_26 {E : zE} {x : Int32} {ls sk : List Value} {h : zH} : zrun zpp E 153 (26, ls, .int x :: sk, h) = if 0 ≤ x then zrun zpp E 153 (35, ls, sk, h) else zrun zpp E 153 (29, ls, sk, h) := zrun_at rfl
theorem zi153_29 {E : zE} {x : Nat} {ls sk : List Value} {h : zH} : zrun zpp E 153 (29, .ref x :: ls, sk, h) = zrun zpp E 153 (30, .ref x :: ls, .ref x :: sk, h) := zrun_at rfl
theorem zi153_29n {E : zE} {ls sk : List Value} {h : zH} : zrun zpp E 153 (29, .null :: ls, sk, h) = zrun zpp E 153 (30, .null :: ls, .null :: sk, h) := zrun_at rfl
theorem zi153_30 {E : zE} {ls sk : List Value} {h : zH} : zrun zpp E 153 (30, ls, sk, h) = zrun zpp E 153 (31, ls, .int 1 :: sk, h) := zg_iconst rfl ci_1
theorem zi153_31 {E : zE} {a0 : Value} {x : Nat} {ls sk : List Value} {h : zH} : zrun zpp E 153 (31, ls, a0 :: .ref x :: sk, h) = (zcls h x).bind (fun d => (zsel d [11, 150]).bind (fun M' => zcl1 E 153 34 M' ls sk [.ref x, a0] h)) := zg_vir (as := [a0]) rfl rfl
theorem zi153_34 {E : zE} {x : Int32} {ls sk : List Value} {h : zH} : zrun zpp E 153 (34, ls, [.int x], h) = some (some (.int x), h) := zrun_at rfl
theorem zi153_35 {E : zE} {v0 v1 : Value} {x : Int32} {ls sk : List Value} {h : zH} : zrun zpp E 153 (35, v0 :: v1 :: .int x :: ls, sk, h) = zrun zpp E 153 (36, v0 :: v1 :: .int x :: ls, .int x :: sk, h) := zrun_at rfl
theorem zi153_36 {E : zE} {x : Int32} {ls sk : List Value} {h : zH} : zrun zpp E 153 (36, ls, .int x :: sk, h) = zrun zpp E 153 (37, ls, .long x.toInt64 :: sk, h) := zrun_at rfl
theorem zi153_37 {E : zE} {ls sk : List Value} {h : zH} : zrun zpp E 153 (37, ls, sk, h) = zrun zpp E 153 (38, ls, .long 0 :: sk, h) := zg_lconst rfl rfl
theorem zi153_38 {E : zE} {x : Nat} {ls sk : List Value} {h : zH} : zrun zpp E 153 (38, .ref x :: ls, sk, h) = zrun zpp E 153 (39, .ref x :: ls, .ref x :: sk, h) := zrun_at rfl
theorem zi153_38n {E : zE} {ls sk : List Value} {h : zH} : zrun zpp E 153 (38, .null :: ls, sk, h) = zrun zpp E 153 (39, .null :: ls, .null :: sk, h) := zrun_at rfl
theorem zi153_39 {E : zE} {x : Nat} {ls sk : List Value} {h : zH} : zrun zpp E 153 (39, ls, .ref x :: sk, h) = (zfld [11] h x 3).bind (fun v => zrun zpp E 153 (42, ls, v :: sk, h)) := zg_getf rfl
theorem zi153_42 {E : zE} {v0 : Value} {x : Int32} {ls sk : List Value} {h : zH} : zrun zpp E 153 (42, v0 :: .int x :: ls, sk, h) = zrun zpp E 153 (43, v0 :: .int x :: ls, .int x :: sk, h) := zrun_at rfl
theorem zi153_43 {E : zE} {x : Nat} {i : Int32} {ls sk : List Value} {h : zH} : zrun zpp E 153 (43, ls, .int i :: .ref x :: sk, h) = (zarr 0 h x i).bind (fun v => zrun zpp E 153 (44, ls, .int v :: sk, h)) := zg_iald rfl
theorem zi153_44 {E : zE} {ls sk : List Value} {h : zH} : zrun zpp E 153 (44, ls, sk, h) = zrun zpp E 153 (45, ls, .int 1 :: sk, h) := zg_iconst rfl ci_1
theorem zi153_45 {E : zE} {x y : Int32} {ls sk : List Value} {h : zH} : zrun zpp E 153 (45, ls, .int y :: .int x :: sk, h) = zrun zpp E 153 (46, ls, .int (x - y) :: sk, h) := zrun_at rfl
theorem zi153_46 {E : zE} {x : Int32} {ls sk : List Value} {h : zH} : zrun zpp E 153 (46, ls, .int x :: sk, h) = zrun zpp E 153 (47, ls, .long x.toInt64 :: sk, h) := zrun_at rfl
theorem zi153_47 {E : zE} {a0 a1 a2 : Value} {ls sk : List Value} {h : zH} : zrun zpp E 153 (47, ls, a2 :: a1 :: a0 :: sk, h) = zcl1 E 153 50 149 ls sk [a0, a1, a2] h := zg_inv (as := [a0, a1, a2]) rfl rfl
theorem zi153_50 {E : zE} {x : Int32} {ls sk : List Value} {h : zH} : zrun zpp E 153 (50, ls, .int x :: sk, h) = if x = 0 then zrun zpp E 153 (53, ls, sk, h) else zrun zpp E 153 (59, ls, sk, h) := zrun_at rfl
theorem zi153_53 {E : zE} {x : Nat} {ls sk : List Value} {h : zH} : zrun zpp E 153 (53, .ref x :: ls, sk, h) = zrun zpp E 153 (54, .ref x :: ls, .ref x :: sk, h) := zrun_at rfl
theorem zi153_53n {E : zE} {ls sk : List Value} {h : zH} : zrun zpp E 153 (53, .null :: ls, sk, h) = zrun zpp E 153 (54, .null :: ls, .null :: sk, h) := zrun_at rfl
theorem zi153_54 {E : zE} {ls sk : List Value} {h : zH} : zrun zpp E 153 (54, ls, sk, h) = zrun zpp E 153 (55, ls, .int 2 :: sk, h) := zg_iconst rfl ci_2
theorem zi153_55 {E : zE} {a0 : Value} {x : Nat} {ls sk : List Value} {h : zH} : zrun zpp E 153 (55, ls, a0 :: .ref x :: sk, h) = (zcls h x).bind (fun d => (zsel d [11, 150]).bind (fun M' => zcl1 E 153 58 M' ls sk [.ref x, a0] h)) := zg_vir (as := [a0]) rfl rfl
theorem zi153_58 {E : zE} {x : Int32} {ls sk : List Value} {h : zH} : zrun zpp E 153 (58, ls, [.int x], h) = some (some (.int x), h) := zrun_at rfl
theorem zi153_59 {E : zE} {x : Nat} {ls sk : List Value} {h : zH} : zrun zpp E 153 (59, .ref x :: ls, sk, h) = zrun zpp E 153 (60, .ref x :: ls, .ref x :: sk, h) := zrun_at rfl
theorem zi153_59n {E : zE} {ls sk : List Value} {h : zH} : zrun zpp E 153 (59, .null :: ls, sk, h) = zrun zpp E 153 (60, .null :: ls, .null :: sk, h) := zrun_at rfl
theorem zi153_60 {E : zE} {x : Nat} {ls sk : List Value} {h : zH} : zrun zpp E 153 (60, ls, .ref x :: sk, h) = (zfld [11] h x 4).bind (fun v => zrun zpp E 153 (63, ls, v :: sk, h)) := zg_getf rfl
theorem zi153_63 {E : zE} {ls sk : List Value} {h : zH} : zrun zpp E 153 (63, ls, sk, h) = zrun zpp E 153 (65, ls, .int 40 :: sk, h) := zg_bipush rfl ci_40
theorem zi153_65 {E : zE} {v0 : Value} {x : Int32} {ls sk : List Value} {h : zH} : zrun zpp E 153 (65, v0 :: .int x :: ls, sk, h) = zrun zpp E 153 (66, v0 :: .int x :: ls, .int x :: sk, h) := zrun_at rfl
theorem zi153_66 {E : zE} {x y : Int32} {ls sk : List Value} {h : zH} : zrun zpp E 153 (66, ls, .int y :: .int x :: sk, h) = zrun zpp E 153 (67, ls, .int (x * y) :: sk, h) := zrun_at rfl
theorem zi153_67 {E : zE} {v0 v1 : Value} {x : Int32} {ls sk : List Value} {h : zH} : zrun zpp E 153 (67, v0 :: v1 :: .int x :: ls, sk, h) = zrun zpp E 153 (68, v0 :: v1 :: .int x :: ls, .int x :: sk, h) := zrun_at rfl
theorem zi153_68 {E : zE} {x y : Int32} {ls sk : List Value} {h : zH} : zrun zpp E 153 (68, ls, .int y :: .int x :: sk, h) = zrun zpp E 153 (69, ls, .int (x + y) :: sk, h) := zrun_at rfl
theorem zi153_69 {E : zE} {x : Nat} {ls sk : List Value} {h : zH} : zrun zpp E 153 (69, .ref x :: ls, sk, h) = zrun zpp E 153 (70, .ref x :: ls, .ref x :: sk, h) := zrun_at rfl
theorem zi153_69n {E : zE} {ls sk : List Value} {h : zH} : zrun zpp E 153 (69, .null :: ls, sk, h) = zrun zpp E 153 (70, .null :: ls, .null :: sk, h) := zrun_at rfl
theorem zi153_70 {E : zE} {x : Nat} {ls sk : List Value} {h : zH} : zrun zpp E 153 (70, ls, .ref x :: sk, h) = (zfld [11] h x 2).bind (fun v => zrun zpp E 153 (73, ls, v :: sk, h)) := zg_getf rfl
theorem zi153_73 {E : zE} {v0 : Value} {x : Int32} {ls sk : List Value} {h : zH} : zrun zpp E 153 (73, v0 :: .int x :: ls, sk, h) = zrun zpp E 153 (74, v0 :: .int x :: ls, .int x :: sk, h) := zrun_at rfl
theorem zi153_74 {E : zE} {x : Nat} {i : Int32} {ls sk : List Value} {h : zH} : zrun zpp E 153 (74, ls, .int i :: .ref x :: sk, h) = (zarr 0 h x i).bind (fun v => zrun zpp E 153 (75, ls, .int v :: sk, h)) := zg_iald rfl
theorem zi153_75 {E : zE} {x : Int32} {ls sk : List Value} {h : zH} : zrun zpp E 153 (75, ls, .int x :: sk, h) = if x = 0 then zrun zpp E 153 (78, ls, sk, h) else zrun zpp E 153 (83, ls, sk, h) := zrun_at rfl
theorem zi153_78 {E : zE} {v0 v1 v2 : Value} {x : Int32} {ls sk : List Value} {h : zH} : zrun zpp E 153 (78, v0 :: v1 :: v2 :: .int x :: ls, sk, h) = zrun zpp E 153 (79, v0 :: v1 :: v2 :: .int x :: ls, .int x :: sk, h) := zrun_at rfl
theorem zi153_79 {E : zE} {x : Int32} {ls sk : List Value} {h : zH} : zrun zpp E 153 (79, ls, .int x :: sk, h) = zrun zpp E 153 (80, ls, .int (x.toInt8.toInt32) :: sk, h) := zrun_at rfl
theorem zi153_80 {E : zE} {ls sk : List Value} {h : zH} : zrun zpp E 153 (80, ls, sk, h) = zrun zpp E 153 (99, ls, sk, h) := zrun_at rfl
theorem zi153_83 {E : zE} {x : Nat} {ls sk : List Value} {h : zH} : zrun zpp E 153 (83, .ref x :: ls, sk, h) = zrun zpp E 153 (84, .ref x :: ls, .ref x :: sk, h) := zrun_at rfl
theorem zi153_83n {E : zE} {ls sk : List Value} {h : zH} : zrun zpp E 153 (83, .null :: ls, sk, h) = zrun zpp E 153 (84, .null :: ls, .null :: sk, h) := zrun_at rfl
theorem zi153_84 {E : zE} {x : Nat} {ls sk : List Value} {h : zH} : zrun zpp E 153 (84, ls, .ref x :: sk, h) = (zfld [11] h x 2).bind (fun v => zrun zpp E 153 (87, ls, v :: sk, h)) := zg_getf rfl
theorem zi153_87 {E : zE} {v0 : Value} {x : Int32} {ls sk : List Value} {h : zH} : zrun zpp E 153 (87, v0 :: .int x :: ls, sk, h) = zrun zpp E 153 (88, v0 :: .int x :: ls, .int x :: sk, h) := zrun_at rfl
theorem zi153_88 {E : zE} {x : Nat} {i : Int32} {ls sk : List Value} {h : zH} : zrun zpp E 153 (88, ls, .int i :: .ref x :: sk, h) = (zarr 0 h x i).bind (fun v => zrun zpp E 153 (89, ls, .int v :: sk, h)) := zg_iald rfl
theorem zi153_89 {E : zE} {ls sk : List Value} {h : zH} : zrun zpp E 153 (89, ls, sk, h) = zrun zpp E 153 (90, ls, .int 1 :: sk, h) := zg_iconst rfl ci_1
theorem zi153_90 {E : zE} {x y : Int32} {ls sk : List Value} {h : zH} : zrun zpp E 153 (90, ls, .int y :: .int x :: sk, h) = if x = y then zrun zpp E 153 (93, ls, sk, h) else zrun zpp E 153 (98, ls, sk, h) := zrun_at rfl
theorem zi153_93 {E : zE} {v0 v1 v2 : Value} {x : Int32} {ls sk : List Value} {h : zH} : zrun zpp E 153 (93, v0 :: v1 :: v2 :: .int x :: ls, sk, h) = zrun zpp E 153 (94, v0 :: v1 :: v2 :: .int x :: ls, .int x :: sk, h) := zrun_at rfl
theorem zi153_94 {E : zE} {x : Int32} {ls sk : List Value} {h : zH} : zrun zpp E 153 (94, ls, .int x :: sk, h) = zrun zpp E 153 (95, ls, .int (x.toInt16.toInt32) :: sk, h) := zrun_at rfl
theorem zi153_95 {E : zE} {ls sk : List Value} {h : zH} : zrun zpp E 153 (95, ls, sk, h) = zrun zpp E 153 (99, ls, sk, h) := zrun_at rfl
theorem zi153_98 {E : zE} {v0 v1 v2 : Value} {x : Int32} {ls sk : List Value} {h : zH} : zrun zpp E 153 (98, v0 :: v1 :: v2 :: .int x :: ls, sk, h) = zrun zpp E 153 (99, v0 :: v1 :: v2 :: .int x :: ls, .int x :: sk, h) := zrun_at rfl
theorem zi153_99 {E : zE} {x : Nat} {i v : Int32} {ls sk : List Value} {h : zH} : zrun zpp E 153 (99, ls, .int v :: .int i :: .ref x :: sk, h) = (zars 0 h x i v).bind (fun h' => zrun zpp E 153 (100, ls, sk, h')) := zg_iast rfl
theorem zi153_100 {E : zE} {x : Nat} {ls sk : List Value} {h : zH} : zrun zpp E 153 (100, .ref x :: ls, sk, h) = zrun zpp E 153 (101, .ref x :: ls, .ref x :: sk, h) := zrun_at rfl
theorem zi153_100n {E : zE} {ls sk : List Value} {h : zH} : zrun zpp E 153 (100, .null :: ls, sk, h) = zrun zpp E 153 (101, .null :: ls, .null :: sk, h) := zrun_at rfl
theorem zi153_101 {E : zE} {x : Nat} {ls sk : List Value} {h : zH} : zrun zpp E 153 (101, ls, .ref x :: sk, h) = (zfld [11] h x 4).bind (fun v => zrun zpp E 153 (104, ls, v :: sk, h)) := zg_getf rfl
theorem zi153_104 {E : zE} {ls sk : List Value} {h : zH} : zrun zpp E 153 (104, ls, sk, h) = zrun zpp E 153 (106, ls, .int 40 :: sk, h) := zg_bipush rfl ci_40
theorem zi153_106 {E : zE} {v0 : Value} {x : Int32} {ls sk : List Value} {h : zH} : zrun zpp E 153 (106, v0 :: .int x :: ls, sk, h) = zrun zpp E 153 (107, v0 :: .int x :: ls, .int x :: sk, h) := zrun_at rfl
theorem zi153_107 {E : zE} {x y : Int32} {ls sk : List Value} {h : zH} : zrun zpp E 153 (107, ls, .int y :: .int x :: sk, h) = zrun zpp E 153 (108, ls, .int (x * y) :: sk, h) := zrun_at rfl
theorem zi153_108 {E : zE} {v0 v1 : Value} {x : Int32} {ls sk : List Value} {h : zH} : zrun zpp E 153 (108, v0 :: v1 :: .int x :: ls, sk, h) = zrun zpp E 153 (109, v0 :: v1 :: .int x :: ls, .int x :: sk, h) := zrun_at rfl
theorem zi153_109 {E : zE} {x y : Int32} {ls sk : List Value} {h : zH} : zrun zpp E 153 (109, ls, .int y :: .int x :: sk, h) = zrun zpp E 153 (110, ls, .int (x + y) :: sk, h) := zrun_at rfl
theorem zi153_110 {E : zE} {x : Nat} {i : Int32} {ls sk : List Value} {h : zH} : zrun zpp E 153 (110, ls, .int i :: .ref x :: sk, h) = (zarr 0 h x i).bind (fun v => zrun zpp E 153 (111, ls, .int v :: sk, h)) := zg_iald rfl
theorem zi153_111 {E : zE} {x : Int32} {ls sk : List Value} {h : zH} : zrun zpp E 153 (111, ls, [.int x], h) = some (some (.int x), h) := zrun_at rfl
-- 154 NineDownModel.copy
theorem zi154_0 {E : zE} {x : Nat} {ls sk : List Value} {h : zH} : zrun zpp E 154 (0, .ref x :: ls, sk, h) = zrun zpp E 154 (1, .ref x :: ls, .ref x :: sk, h) := zrun_at rfl
theorem zi154_0n {E : zE} {ls sk : List Value} {h : zH} : zrun zpp E 154 (0, .null :: ls, sk, h) = zrun zpp E 154 (1, .null :: ls, .null :: sk, h) := zrun_at rfl
theorem zi154_1 {E : zE} {ls sk : List Value} {h : zH} : zrun zpp E 154 (1, ls, sk, h) = zrun zpp E 154 (2, ls, .int 0 :: sk, h) := zg_iconst rfl ci_0
theorem zi154_2 {E : zE} {x : Nat} {v : Value} {ls sk : List Value} {h : zH} : zrun zpp E 154 (2, ls, v :: .ref x :: sk, h) = (zstf [11] 0 h x 0 v).bind (fun h' => zrun zpp E 154 (5, ls, sk, h')) := zg_putf rfl
theorem zi154_5 {E : zE} {v0 : Value} {x : Int32} {ls sk : List Value} {h : zH} : zrun zpp E 154 (5, v0 :: .int x :: ls, sk, h) = zrun zpp E 154 (6, v0 :: .int x :: ls, .int x :: sk, h) := zrun_at rfl
theorem zi154_6 {E : zE} {a0 : Value} {ls sk : List Value} {h : zH} : zrun zpp E 154 (6, ls, a0 :: sk, h) = zcl1 E 154 9 151 ls sk [a0] h := zg_inv (as := [a0]) rfl rfl
theorem zi154_9 {E : zE} {x : Int32} {ls sk : List Value} {h : zH} : zrun zpp E 154 (9, ls, .int x :: sk, h) = if x = 0 then zrun zpp E 154 (19, ls, sk, h) else zrun zpp E 154 (12, ls, sk, h) := zrun_at rfl
theorem zi154_12 {E : zE} {v0 v1 v2 : Value} {x : Int32} {ls sk : List Value} {h : zH} : zrun zpp E 154 (12, v0 :: v1 :: v2 :: .int x :: ls, sk, h) = zrun zpp E 154 (13, v0 :: v1 :: v2 :: .int x :: ls, .int x :: sk, h) := zrun_at rfl
theorem zi154_13 {E : zE} {a0 : Value} {ls sk : List Value} {h : zH} : zrun zpp E 154 (13, ls, a0 :: sk, h) = zcl1 E 154 16 151 ls sk [a0] h := zg_inv (as := [a0]) rfl rfl
theorem zi154_16 {E : zE} {x : Int32} {ls sk : List Value} {h : zH} : zrun zpp E 154 (16, ls, .int x :: sk, h) = if x = 0 then zrun zpp E 154 (19, ls, sk, h) else zrun zpp E 154 (22, ls, sk, h) := zrun_at rfl
theorem zi154_19 {E : zE} {ls sk : List Value} {h : zH} : zrun zpp E 154 (19, ls, sk, h) = zrun zpp E 154 (21, ls, .int (-1000001) :: sk, h) := zg_ldc rfl ci_m1000001
theorem zi154_21 {E : zE} {x : Int32} {ls sk : List Value} {h : zH} : zrun zpp E 154 (21, ls, [.int x], h) = some (some (.int x), h) := zrun_at rfl
theorem zi154_22 {E : zE} {x : Nat} {ls sk : List Value} {h : zH} : zrun zpp E 154 (22, .ref x :: ls, sk, h) = zrun zpp E 154 (23, .ref x :: ls, .ref x :: sk, h) := zrun_at rfl
theorem zi154_22n {E : zE} {ls sk : List Value} {h : zH} : zrun zpp E 154 (22, .null :: ls, sk, h) = zrun zpp E 154 (23, .null :: ls, .null :: sk, h) := zrun_at rfl
theorem zi154_23 {E : zE} {ls sk : List Value} {h : zH} : zrun zpp E 154 (23, ls, sk, h) = zrun zpp E 154 (24, ls, .int 0 :: sk, h) := zg_iconst rfl ci_0
theorem zi154_24 {E : zE} {x : Nat} {v : Value} {ls sk : List Value} {h : zH} : zrun zpp E 154 (24, ls, v :: .ref x :: sk, h) = (zstf [11] 0 h x 1 v).bind (fun h' => zrun zpp E 154 (27, ls, sk, h')) := zg_putf rfl
theorem zi154_27 {E : zE} {x : Nat} {ls sk : List Value} {h : zH} : zrun zpp E 154 (27, .ref x :: ls, sk, h) = zrun zpp E 154 (28, .ref x :: ls, .ref x :: sk, h) := zrun_at rfl
theorem zi154_27n {E : zE} {ls sk : List Value} {h : zH} : zrun zpp E 154 (27, .null :: ls, sk, h) = zrun zpp E 154 (28, .null :: ls, .null :: sk, h) := zrun_at rfl
theorem zi154_28 {E : zE} {x : Nat} {ls sk : List Value} {h : zH} : zrun zpp E 154 (28, ls, .ref x :: sk, h) = (zfld [11] h x 2).bind (fun v => zrun zpp E 154 (31, ls, v :: sk, h)) := zg_getf rfl
theorem zi154_31 {E : zE} {v0 : Value} {x : Int32} {ls sk : List Value} {h : zH} : zrun zpp E 154 (31, v0 :: .int x :: ls, sk, h) = zrun zpp E 154 (32, v0 :: .int x :: ls, .int x :: sk, h) := zrun_at rfl
theorem zi154_32 {E : zE} {x : Nat} {i : Int32} {ls sk : List Value} {h : zH} : zrun zpp E 154 (32, ls, .int i :: .ref x :: sk, h) = (zarr 0 h x i).bind (fun v => zrun zpp E 154 (33, ls, .int v :: sk, h)) := zg_iald rfl
theorem zi154_33 {E : zE} {x : Int32} {ls sk : List Value} {h : zH} : zrun zpp E 154 (33, ls, .int x :: sk, h) = if x < 0 then zrun zpp E 154 (45, ls, sk, h) else zrun zpp E 154 (36, ls, sk, h) := zrun_at rfl
theorem zi154_36 {E : zE} {x : Nat} {ls sk : List Value} {h : zH} : zrun zpp E 154 (36, .ref x :: ls, sk, h) = zrun zpp E 154 (37, .ref x :: ls, .ref x :: sk, h) := zrun_at rfl
theorem zi154_36n {E : zE} {ls sk : List Value} {h : zH} : zrun zpp E 154 (36, .null :: ls, sk, h) = zrun zpp E 154 (37, .null :: ls, .null :: sk, h) := zrun_at rfl
theorem zi154_37 {E : zE} {x : Nat} {ls sk : List Value} {h : zH} : zrun zpp E 154 (37, ls, .ref x :: sk, h) = (zfld [11] h x 2).bind (fun v => zrun zpp E 154 (40, ls, v :: sk, h)) := zg_getf rfl
theorem zi154_40 {E : zE} {v0 v1 v2 : Value} {x : Int32} {ls sk : List Value} {h : zH} : zrun zpp E 154 (40, v0 :: v1 :: v2 :: .int x :: ls, sk, h) = zrun zpp E 154 (41, v0 :: v1 :: v2 :: .int x :: ls, .int x :: sk, h) := zrun_at rfl
theorem zi154_41 {E : zE} {x : Nat} {i : Int32} {ls sk : List Value} {h : zH} : zrun zpp E 154 (41, ls, .int i :: .ref x :: sk, h) = (zarr 0 h x i).bind (fun v => zrun zpp E 154 (42, ls, .int v :: sk, h)) := zg_iald rfl
theorem zi154_42 {E : zE} {x : Int32} {ls sk : List Value} {h : zH} : zrun zpp E 154 (42, ls, .int x :: sk, h) = if 0 ≤ x then zrun zpp E 154 (51, ls, sk, h) else zrun zpp E 154 (45, ls, sk, h) := zrun_at rfl
theorem zi154_45 {E : zE} {x : Nat} {ls sk : List Value} {h : zH} : zrun zpp E 154 (45, .ref x :: ls, sk, h) = zrun zpp E 154 (46, .ref x :: ls, .ref x :: sk, h) := zrun_at rfl
theorem zi154_45n {E : zE} {ls sk : List Value} {h : zH} : zrun zpp E 154 (45, .null :: ls, sk, h) = zrun zpp E 154 (46, .null :: ls, .null :: sk, h) := zrun_at rfl
theorem zi154_46 {E : zE} {ls sk : List Value} {h : zH} : zrun zpp E 154 (46, ls, sk, h) = zrun zpp E 154 (47, ls, .int 1 :: sk, h) := zg_iconst rfl ci_1
theorem zi154_47 {E : zE} {a0 : Value} {x : Nat} {ls sk : List Value} {h : zH} : zrun zpp E 154 (47, ls, a0 :: .ref x :: sk, h) = (zcls h x).bind (fun d => (zsel d [11, 150]).bind (fun M' => zcl1 E 154 50 M' ls sk [.ref x, a0] h)) := zg_vir (as := [a0]) rfl rfl
theorem zi154_50 {E : zE} {x : Int32} {ls sk : List Value} {h : zH} : zrun zpp E 154 (50, ls, [.int x], h) = some (some (.int x), h) := zrun_at rfl
theorem zi154_51 {E : zE} {x : Nat} {ls sk : List Value} {h : zH} : zrun zpp E 154 (51, .ref x :: ls, sk, h) = zrun zpp E 154 (52, .ref x :: ls, .ref x :: sk, h) := zrun_at rfl
theorem zi154_51n {E : zE} {ls sk : List Value} {h : zH} : zrun zpp E 154 (51, .null :: ls, sk, h) = zrun zpp E 154 (52, .null :: ls, .null :: sk, h) := zrun_at rfl
theorem zi154_52 {E : zE} {x : Nat} {ls sk : List Value} {h : zH} : zrun zpp E 154 (52, ls, .ref x :: sk, h) = (zfld [11] h x 2).bind (fun v => zrun zpp E 154 (55, ls, v :: sk, h)) := zg_getf rfl
theorem zi154_55 {E : zE} {v0 : Value} {x : Int32} {ls sk : List Value} {h : zH} : zrun zpp E 154 (55, v0 :: .int x :: ls, sk, h) = zrun zpp E 154 (56, v0 :: .int x :: ls, .int x :: sk, h) := zrun_at rfl
theorem zi154_56 {E : zE} {x : Nat} {i : Int32} {ls sk : List Value} {h : zH} : zrun zpp E 154 (56, ls, .int i :: .ref x :: sk, h) = (zarr 0 h x i).bind (fun v => zrun zpp E 154 (57, ls, .int v :: sk, h)) := zg_iald rfl
theorem zi154_57 {E : zE} {x : Nat} {ls sk : List Value} {h : zH} : zrun zpp E 154 (57, .ref x :: ls, sk, h) = zrun zpp E 154 (58, .ref x :: ls, .ref x :: sk, h) := zrun_at rfl
theorem zi154_57n {E : zE} {ls sk : List Value} {h : zH} : zrun zpp E 154 (57, .null :: ls, sk, h) = zrun zpp E 154 (58, .null :: ls, .null :: sk, h) := zrun_at rfl
theorem zi154_58 {E : zE} {x : Nat} {ls sk : List Value} {h : zH} : zrun zpp E 154 (58, ls, .ref x :: sk, h) = (zfld [11] h x 2).bind (fun v => zrun zpp E 154 (61, ls, v :: sk, h)) := zg_getf rfl
theorem zi154_61 {E : zE} {v0 v1 v2 : Value} {x : Int32} {ls sk : List Value} {h : zH} : zrun zpp E 154 (61, v0 :: v1 :: v2 :: .int x :: ls, sk, h) = zrun zpp E 154 (62, v0 :: v1 :: v2 :: .int x :: ls, .int x :: sk, h) := zrun_at rfl
theorem zi154_62 {E : zE} {x : Nat} {i : Int32} {ls sk : List Value} {h : zH} : zrun zpp E 154 (62, ls, .int i :: .ref x :: sk, h) = (zarr 0 h x i).bind (fun v => zrun zpp E 154 (63, ls, .int v :: sk, h)) := zg_iald rfl
theorem zi154_63 {E : zE} {x y : Int32} {ls sk : List Value} {h : zH} : zrun zpp E 154 (63, ls, .int y :: .int x :: sk, h) = if x = y then zrun zpp E 154 (72, ls, sk, h) else zrun zpp E 154 (66, ls, sk, h) := zrun_at rfl
theorem zi154_66 {E : zE} {x : Nat} {ls sk : List Value} {h : zH} : zrun zpp E 154 (66, .ref x :: ls, sk, h) = zrun zpp E 154 (67, .ref x :: ls, .ref x :: sk, h) := zrun_at rfl
theorem zi154_66n {E : zE} {ls sk : List Value} {h : zH} : zrun zpp E 154 (66, .null :: ls, sk, h) = zrun zpp E 154 (67, .null :: ls, .null :: sk, h) := zrun_at rfl
theorem zi154_67 {E : zE} {ls sk : List Value} {h : zH} : zrun zpp E 154 (67, ls, sk, h) = zrun zpp E 154 (68, ls, .int 5 :: sk, h) := zg_iconst rfl ci_5
theorem zi154_68 {E : zE} {a0 : Value} {x : Nat} {ls sk : List Value} {h : zH} : zrun zpp E 154 (68, ls, a0 :: .ref x :: sk, h) = (zcls h x).bind (fun d => (zsel d [11, 150]).bind (fun M' => zcl1 E 154 71 M' ls sk [.ref x, a0] h)) := zg_vir (as := [a0]) rfl rfl
theorem zi154_71 {E : zE} {x : Int32} {ls sk : List Value} {h : zH} : zrun zpp E 154 (71, ls, [.int x], h) = some (some (.int x), h) := zrun_at rfl
theorem zi154_72 {E : zE} {v0 v1 : Value} {x : Int32} {ls sk : List Value} {h : zH} : zrun zpp E 154 (72, v0 :: v1 :: .int x :: ls, sk, h) = zrun zpp E 154 (73, v0 :: v1 :: .int x :: ls, .int x :: sk, h) := zrun_at rfl
theorem zi154_73 {E : zE} {x : Int32} {ls sk : List Value} {h : zH} : zrun zpp E 154 (73, ls, .int x :: sk, h) = if x < 0 then zrun zpp E 154 (121, ls, sk, h) else zrun zpp E 154 (76, ls, sk, h) := zrun_at rfl
theorem zi154_76 {E : zE} {v0 v1 v2 v3 : Value} {x : Int32} {ls sk : List Value} {h : zH} : zrun zpp E 154 (76, v0 :: v1 :: v2 :: v3 :: .int x :: ls, sk, h) = zrun zpp E 154 (78, v0 :: v1 :: v2 :: v3 :: .int x :: ls, .int x :: sk, h) := zrun_at rfl
theorem zi154_78 {E : zE} {x : Int32} {ls sk : List Value} {h : zH} : zrun zpp E 154 (78, ls, .int x :: sk, h) = if x < 0 then zrun zpp E 154 (121, ls, sk, h) else zrun zpp E 154 (81, ls, sk, h) := zrun_at rfl
theorem zi154_81 {E : zE} {v0 v1 v2 v3 v4 : Value} {x : Int32} {ls sk : List Value} {h : zH} : zrun zpp E 154 (81, v0 :: v1 :: v2 :: v3 :: v4 :: .int x :: ls, sk, h) = zrun zpp E 154 (83, v0 :: v1 :: v2 :: v3 :: v4 :: .int x :: ls, .int x :: sk, h) := zrun_at rfl
theorem zi154_83 {E : zE} {x : Int32} {ls sk : List Value} {h : zH} : zrun zpp E 154 (83, ls, .int x :: sk, h) = if x < 0 then zrun zpp E 154 (121, ls, sk, h) else zrun zpp E 154 (86, ls, sk, h) := zrun_at rfl
theorem zi154_86 {E : zE} {v0 v1 : Value} {x : Int32} {ls sk : List Value} {h : zH} : zrun zpp E 154 (86, v0 :: v1 :: .int x :: ls, sk, h) = zrun zpp E 154 (87, v0 :: v1 :: .int x :: ls, .int x :: sk, h) := zrun_at rfl
theorem zi154_87 {E : zE} {x : Int32} {ls sk : List Value} {h : zH} : zrun zpp E 154 (87, ls, .int x :: sk, h) = zrun zpp E 154 (88, ls, .long x.toInt64 :: sk, h) := zrun_at rfl
theorem zi154_88 {E : zE} {v0 v1 v2 v3 v4 : Value} {x : Int32} {ls sk : List Value} {h : zH} : zrun zpp E 154 (88, v0 :: v1 :: v2 :: v3 :: v4 :: .int x :: ls, sk, h) = zrun zpp E 154 (90, v0 :: v1 :: v2 :: v3 :: v4 :: .int x :: ls, .int x :: sk, h) := zrun_at rfl
theorem zi154_90 {E : zE} {x : Int32} {ls sk : List Value} {h : zH} : zrun zpp E 154 (90, ls, .int x :: sk, h) = zrun zpp E 154 (91, ls, .long x.toInt64 :: sk, h) := zrun_at rfl
theorem zi154_91 {E : zE} {x y : Int64} {ls sk : List Value} {h : zH} : zrun zpp E 154 (91, ls, .long y :: .long x :: sk, h) = zrun zpp E 154 (92, ls, .long (x + y) :: sk, h) := zrun_at rfl
theorem zi154_92 {E : zE} {x : Nat} {ls sk : List Value} {h : zH} : zrun zpp E 154 (92, .ref x :: ls, sk, h) = zrun zpp E 154 (93, .ref x :: ls, .ref x :: sk, h) := zrun_at rfl
theorem zi154_92n {E : zE} {ls sk : List Value} {h : zH} : zrun zpp E 154 (92, .null :: ls, sk, h) = zrun zpp E 154 (93, .null :: ls, .null :: sk, h) := zrun_at rfl
theorem zi154_93 {E : zE} {x : Nat} {ls sk : List Value} {h : zH} : zrun zpp E 154 (93, ls, .ref x :: sk, h) = (zfld [11] h x 3).bind (fun v => zrun zpp E 154 (96, ls, v :: sk, h)) := zg_getf rfl
theorem zi154_96 {E : zE} {v0 : Value} {x : Int32} {ls sk : List Value} {h : zH} : zrun zpp E 154 (96, v0 :: .int x :: ls, sk, h) = zrun zpp E 154 (97, v0 :: .int x :: ls, .int x :: sk, h) := zrun_at rfl
theorem zi154_97 {E : zE} {x : Nat} {i : Int32} {ls sk : List Value} {h : zH} : zrun zpp E 154 (97, ls, .int i :: .ref x :: sk, h) = (zarr 0 h x i).bind (fun v => zrun zpp E 154 (98, ls, .int v :: sk, h)) := zg_iald rfl
theorem zi154_98 {E : zE} {x : Int32} {ls sk : List Value} {h : zH} : zrun zpp E 154 (98, ls, .int x :: sk, h) = zrun zpp E 154 (99, ls, .long x.toInt64 :: sk, h) := zrun_at rfl
theorem zi154_99 {E : zE} {x y : Int64} {ls sk : List Value} {h : zH} : zrun zpp E 154 (99, ls, .long y :: .long x :: sk, h) = zrun zpp E 154 (100, ls, .int (lg_cmp x y) :: sk, h) := zrun_at rfl
theorem zi154_100 {E : zE} {x : Int32} {ls sk : List Value} {h : zH} : zrun zpp E 154 (100, ls, .int x :: sk, h) = if 0 < x then zrun zpp E 154 (121, ls, sk, h) else zrun zpp E 154 (103, ls, sk, h) := zrun_at rfl
theorem zi154_103 {E : zE} {v0 v1 v2 v3 : Value} {x : Int32} {ls sk : List Value} {h : zH} : zrun zpp E 154 (103, v0 :: v1 :: v2 :: v3 :: .int x :: ls, sk, h) = zrun zpp E 154 (105, v0 :: v1 :: v2 :: v3 :: .int x :: ls, .int x :: sk, h) := zrun_at rfl
theorem zi154_105 {E : zE} {x : Int32} {ls sk : List Value} {h : zH} : zrun zpp E 154 (105, ls, .int x :: sk, h) = zrun zpp E 154 (106, ls, .long x.toInt64 :: sk, h) := zrun_at rfl
theorem zi154_106 {E : zE} {v0 v1 v2 v3 v4 : Value} {x : Int32} {ls sk : List Value} {h : zH} : zrun zpp E 154 (106, v0 :: v1 :: v2 :: v3 :: v4 :: .int x :: ls, sk, h) = zrun zpp E 154 (108, v0 :: v1 :: v2 :: v3 :: v4 :: .int x :: ls, .int x :: sk, h) := zrun_at rfl
theorem zi154_108 {E : zE} {x : Int32} {ls sk : List Value} {h : zH} : zrun zpp E 154 (108, ls, .int x :: sk, h) = zrun zpp E 154 (109, ls, .long x.toInt64 :: sk, h) := zrun_at rfl
theorem zi154_109 {E : zE} {x y : Int64} {ls sk : List Value} {h : zH} : zrun zpp E 154 (109, ls, .long y :: .long x :: sk, h) = zrun zpp E 154 (110, ls, .long (x + y) :: sk, h) := zrun_at rfl
theorem zi154_110 {E : zE} {x : Nat} {ls sk : List Value} {h : zH} : zrun zpp E 154 (110, .ref x :: ls, sk, h) = zrun zpp E 154 (111, .ref x :: ls, .ref x :: sk, h) := zrun_at rfl
theorem zi154_110n {E : zE} {ls sk : List Value} {h : zH} : zrun zpp E 154 (110, .null :: ls, sk, h) = zrun zpp E 154 (111, .null :: ls, .null :: sk, h) := zrun_at rfl
theorem zi154_111 {E : zE} {x : Nat} {ls sk : List Value} {h : zH} : zrun zpp E 154 (111, ls, .ref x :: sk, h) = (zfld [11] h x 3).bind (fun v => zrun zpp E 154 (114, ls, v :: sk, h)) := zg_getf rfl
theorem zi154_114 {E : zE} {v0 v1 v2 : Value} {x : Int32} {ls sk : List Value} {h : zH} : zrun zpp E 154 (114, v0 :: v1 :: v2 :: .int x :: ls, sk, h) = zrun zpp E 154 (115, v0 :: v1 :: v2 :: .int x :: ls, .int x :: sk, h) := zrun_at rfl
theorem zi154_115 {E : zE} {x : Nat} {i : Int32} {ls sk : List Value} {h : zH} : zrun zpp E 154 (115, ls, .int i :: .ref x :: sk, h) = (zarr 0 h x i).bind (fun v => zrun zpp E 154 (116, ls, .int v :: sk, h)) := zg_iald rfl
theorem zi154_116 {E : zE} {x : Int32} {ls sk : List Value} {h : zH} : zrun zpp E 154 (116, ls, .int x :: sk, h) = zrun zpp E 154 (117, ls, .long x.toInt64 :: sk, h) := zrun_at rfl
theorem zi154_117 {E : zE} {x y : Int64} {ls sk : List Value} {h : zH} : zrun zpp E 154 (117, ls, .long y :: .long x :: sk, h) = zrun zpp E 154 (118, ls, .int (lg_cmp x y) :: sk, h) := zrun_at rfl
theorem zi154_118 {E : zE} {x : Int32} {ls sk : List Value} {h : zH} : zrun zpp E 154 (118, ls, .int x :: sk, h) = if x ≤ 0 then zrun zpp E 154 (127, ls, sk, h) else zrun zpp E 154 (121, ls, sk, h) := zrun_at rfl
theorem zi154_121 {E : zE} {x : Nat} {ls sk : List Value} {h : zH} : zrun zpp E 154 (121, .ref x :: ls, sk, h) = zrun zpp E 154 (122, .ref x :: ls, .ref x :: sk, h) := zrun_at rfl
theorem zi154_121n {E : zE} {ls sk : List Value} {h : zH} : zrun zpp E 154 (121, .null :: ls, sk, h) = zrun zpp E 154 (122, .null :: ls, .null :: sk, h) := zrun_at rfl
theorem zi154_122 {E : zE} {ls sk : List Value} {h : zH} : zrun zpp E 154 (122, ls, sk, h) = zrun zpp E 154 (123, ls, .int 2 :: sk, h) := zg_iconst rfl ci_2
theorem zi154_123 {E : zE} {a0 : Value} {x : Nat} {ls sk : List Value} {h : zH} : zrun zpp E 154 (123, ls, a0 :: .ref x :: sk, h) = (zcls h x).bind (fun d => (zsel d [11, 150]).bind (fun M' => zcl1 E 154 126 M' ls sk [.ref x, a0] h)) := zg_vir (as := [a0]) rfl rfl
theorem zi154_126 {E : zE} {x : Int32} {ls sk : List Value} {h : zH} : zrun zpp E 154 (126, ls, [.int x], h) = some (some (.int x), h) := zrun_at rfl
theorem zi154_127 {E : zE} {v0 v1 : Value} {x : Int32} {ls sk : List Value} {h : zH} : zrun zpp E 154 (127, v0 :: v1 :: .int x :: ls, sk, h) = zrun zpp E 154 (128, v0 :: v1 :: .int x :: ls, .int x :: sk, h) := zrun_at rfl
theorem zi154_128 {E : zE} {v0 v1 v2 v3 : Value} {x : Int32} {ls sk : List Value} {h : zH} : zrun zpp E 154 (128, v0 :: v1 :: v2 :: v3 :: .int x :: ls, sk, h) = zrun zpp E 154 (130, v0 :: v1 :: v2 :: v3 :: .int x :: ls, .int x :: sk, h) := zrun_at rfl
theorem zi154_130 {E : zE} {x y : Int32} {ls sk : List Value} {h : zH} : zrun zpp E 154 (130, ls, .int y :: .int x :: sk, h) = if x < y then zrun zpp E 154 (137, ls, sk, h) else zrun zpp E 154 (133, ls, sk, h) := zrun_at rfl
theorem zi154_133 {E : zE} {ls sk : List Value} {h : zH} : zrun zpp E 154 (133, ls, sk, h) = zrun zpp E 154 (134, ls, .int 1 :: sk, h) := zg_iconst rfl ci_1
theorem zi154_134 {E : zE} {ls sk : List Value} {h : zH} : zrun zpp E 154 (134, ls, sk, h) = zrun zpp E 154 (138, ls, sk, h) := zrun_at rfl
theorem zi154_137 {E : zE} {ls sk : List Value} {h : zH} : zrun zpp E 154 (137, ls, sk, h) = zrun zpp E 154 (138, ls, .int 0 :: sk, h) := zg_iconst rfl ci_0
theorem zi154_138 {E : zE} {x : Int32} {ls sk : List Value} {h : zH} : zrun zpp E 154 (138, ls, .int x :: sk, h) = if zfree ls 6 = true then zrun zpp E 154 (140, ls.set 6 (.int x), sk, h) else none := zg_ist rfl (fun _ _ _ => rfl)
theorem zi154_140 {E : zE} {ls sk : List Value} {h : zH} : zrun zpp E 154 (140, ls, sk, h) = zrun zpp E 154 (141, ls, .int 0 :: sk, h) := zg_iconst rfl ci_0
theorem zi154_141 {E : zE} {x : Int32} {ls sk : List Value} {h : zH} : zrun zpp E 154 (141, ls, .int x :: sk, h) = if zfree ls 7 = true then zrun zpp E 154 (143, ls.set 7 (.int x), sk, h) else none := zg_ist rfl (fun _ _ _ => rfl)
theorem zi154_143 {E : zE} {v0 v1 v2 v3 v4 v5 v6 : Value} {x : Int32} {ls sk : List Value} {h : zH} : zrun zpp E 154 (143, v0 :: v1 :: v2 :: v3 :: v4 :: v5 :: v6 :: .int x :: ls, sk, h) = zrun zpp E 154 (145, v0 :: v1 :: v2 :: v3 :: v4 :: v5 :: v6 :: .int x :: ls, .int x :: sk, h) := zrun_at rfl
theorem zi154_145 {E : zE} {v0 v1 v2 v3 v4 : Value} {x : Int32} {ls sk : List Value} {h : zH} : zrun zpp E 154 (145, v0 :: v1 :: v2 :: v3 :: v4 :: .int x :: ls, sk, h) = zrun zpp E 154 (147, v0 :: v1 :: v2 :: v3 :: v4 :: .int x :: ls, .int x :: sk, h) := zrun_at rfl
theorem zi154_147 {E : zE} {x y : Int32} {ls sk : List Value} {h : zH} : zrun zpp E 154 (147, ls, .int y :: .int x :: sk, h) = if y ≤ x then zrun zpp E 154 (204, ls, sk, h) else zrun zpp E 154 (150, ls, sk, h) := zrun_at rfl
theorem zi154_150 {E : zE} {v0 v1 v2 v3 v4 v5 : Value} {x : Int32} {ls sk : List Value} {h : zH} : zrun zpp E 154 (150, v0 :: v1 :: v2 :: v3 :: v4 :: v5 :: .int x :: ls, sk, h) = zrun zpp E 154 (152, v0 :: v1 :: v2 :: v3 :: v4 :: v5 :: .int x :: ls, .int x :: sk, h) := zrun_at rfl
theorem zi154_152 {E : zE} {x : Int32} {ls sk : List Value} {h : zH} : zrun zpp E 154 (152, ls, .int x :: sk, h) = if x = 0 then zrun zpp E 154 (160, ls, sk, h) else zrun zpp E 154 (155, ls, sk, h) := zrun_at rfl
theorem zi154_155 {E : zE} {v0 v1 v2 v3 v4 v5 v6 : Value} {x : Int32} {ls sk : List Value} {h : zH} : zrun zpp E 154 (155, v0 :: v1 :: v2 :: v3 :: v4 :: v5 :: v6 :: .int x :: ls, sk, h) = zrun zpp E 154 (157, v0 :: v1 :: v2 :: v3 :: v4 :: v5 :: v6 :: .int x :: ls, .int x :: sk, h) := zrun_at rfl
theorem zi154_157 {E : zE} {ls sk : List Value} {h : zH} : zrun zpp E 154 (157, ls, sk, h) = zrun zpp E 154 (167, ls, sk, h) := zrun_at rfl
theorem zi154_160 {E : zE} {v0 v1 v2 v3 v4 : Value} {x : Int32} {ls sk : List Value} {h : zH} : zrun zpp E 154 (160, v0 :: v1 :: v2 :: v3 :: v4 :: .int x :: ls, sk, h) = zrun zpp E 154 (162, v0 :: v1 :: v2 :: v3 :: v4 :: .int x :: ls, .int x :: sk, h) := zrun_at rfl
theorem zi154_162 {E : zE} {ls sk : List Value} {h : zH} : zrun zpp E 154 (162, ls, sk, h) = zrun zpp E 154 (163, ls, .int 1 :: sk, h) := zg_iconst rfl ci_1
theorem zi154_163 {E : zE} {x y : Int32} {ls sk : List Value} {h : zH} : zrun zpp E 154 (163, ls, .int y :: .int x :: sk, h) = zrun zpp E 154 (164, ls, .int (x - y) :: sk, h) := zrun_at rfl
theorem zi154_164 {E : zE} {v0 v1 v2 v3 v4 v5 v6 : Value} {x : Int32} {ls sk : List Value} {h : zH} : zrun zpp E 154 (164, v0 :: v1 :: v2 :: v3 :: v4 :: v5 :: v6 :: .int x :: ls, sk, h) = zrun zpp E 154 (166, v0 :: v1 :: v2 :: v3 :: v4 :: v5 :: v6 :: .int x :: ls, .int x :: sk, h) := zrun_at rfl
theorem zi154_166 {E : zE} {x y : Int32} {ls sk : List Value} {h : zH} : zrun zpp E 154 (166, ls, .int y :: .int x :: sk, h) = zrun zpp E 154 (167, ls, .int (x - y) :: sk, h) := zrun_at rfl
theorem zi154_167 {E : zE} {x : Int32} {ls sk : List Value} {h : zH} : zrun zpp E 154 (167, ls, .int x :: sk, h) = if zfree ls 8 = true then zrun zpp E 154 (169, ls.set 8 (.int x), sk, h) else none := zg_ist rfl (fun _ _ _ => rfl)
theorem zi154_169 {E : zE} {x : Nat} {ls sk : List Value} {h : zH} : zrun zpp E 154 (169, .ref x :: ls, sk, h) = zrun zpp E 154 (170, .ref x :: ls, .ref x :: sk, h) := zrun_at rfl
theorem zi154_169n {E : zE} {ls sk : List Value} {h : zH} : zrun zpp E 154 (169, .null :: ls, sk, h) = zrun zpp E 154 (170, .null :: ls, .null :: sk, h) := zrun_at rfl
theorem zi154_170 {E : zE} {x : Nat} {ls sk : List Value} {h : zH} : zrun zpp E 154 (170, ls, .ref x :: sk, h) = (zfld [11] h x 4).bind (fun v => zrun zpp E 154 (173, ls, v :: sk, h)) := zg_getf rfl
theorem zi154_173 {E : zE} {ls sk : List Value} {h : zH} : zrun zpp E 154 (173, ls, sk, h) = zrun zpp E 154 (175, ls, .int 40 :: sk, h) := zg_bipush rfl ci_40
theorem zi154_175 {E : zE} {v0 v1 v2 : Value} {x : Int32} {ls sk : List Value} {h : zH} : zrun zpp E 154 (175, v0 :: v1 :: v2 :: .int x :: ls, sk, h) = zrun zpp E 154 (176, v0 :: v1 :: v2 :: .int x :: ls, .int x :: sk, h) := zrun_at rfl
theorem zi154_176 {E : zE} {x y : Int32} {ls sk : List Value} {h : zH} : zrun zpp E 154 (176, ls, .int y :: .int x :: sk, h) = zrun zpp E 154 (177, ls, .int (x * y) :: sk, h) := zrun_at rfl
theorem zi154_177 {E : zE} {v0 v1 v2 v3 : Value} {x : Int32} {ls sk : List Value} {h : zH} : zrun zpp E 154 (177, v0 :: v1 :: v2 :: v3 :: .int x :: ls, sk, h) = zrun zpp E 154 (179, v0 :: v1 :: v2 :: v3 :: .int x :: ls, .int x :: sk, h) := zrun_at rfl
theorem zi154_179 {E : zE} {x y : Int32} {ls sk : List Value} {h : zH} : zrun zpp E 154 (179, ls, .int y :: .int x :: sk, h) = zrun zpp E 154 (180, ls, .int (x + y) :: sk, h) := zrun_at rfl
theorem zi154_180 {E : zE} {v0 v1 v2 v3 v4 v5 v6 v7 : Value} {x : Int32} {ls sk : List Value} {h : zH} : zrun zpp E 154 (180, v0 :: v1 :: v2 :: v3 :: v4 :: v5 :: v6 :: v7 :: .int x :: ls, sk, h) = zrun zpp E 154 (182, v0 :: v1 :: v2 :: v3 :: v4 :: v5 :: v6 :: v7 :: .int x :: ls, .int x :: sk, h) := zrun_at rfl
theorem zi154_182 {E : zE} {x y : Int32} {ls sk : List Value} {h : zH} : zrun zpp E 154 (182, ls, .int y :: .int x :: sk, h) = zrun zpp E 154 (183, ls, .int (x + y) :: sk, h) := zrun_at rfl
theorem zi154_183 {E : zE} {x : Nat} {ls sk : List Value} {h : zH} : zrun zpp E 154 (183, .ref x :: ls, sk, h) = zrun zpp E 154 (184, .ref x :: ls, .ref x :: sk, h) := zrun_at rfl
theorem zi154_183n {E : zE} {ls sk : List Value} {h : zH} : zrun zpp E 154 (183, .null :: ls, sk, h) = zrun zpp E 154 (184, .null :: ls, .null :: sk, h) := zrun_at rfl
theorem zi154_184 {E : zE} {x : Nat} {ls sk : List Value} {h : zH} : zrun zpp E 154 (184, ls, .ref x :: sk, h) = (zfld [11] h x 4).bind (fun v => zrun zpp E 154 (187, ls, v :: sk, h)) := zg_getf rfl
theorem zi154_187 {E : zE} {ls sk : List Value} {h : zH} : zrun zpp E 154 (187, ls, sk, h) = zrun zpp E 154 (189, ls, .int 40 :: sk, h) := zg_bipush rfl ci_40
theorem zi154_189 {E : zE} {v0 : Value} {x : Int32} {ls sk : List Value} {h : zH} : zrun zpp E 154 (189, v0 :: .int x :: ls, sk, h) = zrun zpp E 154 (190, v0 :: .int x :: ls, .int x :: sk, h) := zrun_at rfl
theorem zi154_190 {E : zE} {x y : Int32} {ls sk : List Value} {h : zH} : zrun zpp E 154 (190, ls, .int y :: .int x :: sk, h) = zrun zpp E 154 (191, ls, .int (x * y) :: sk, h) := zrun_at rfl
theorem zi154_191 {E : zE} {v0 v1 : Value} {x : Int32} {ls sk : List Value} {h : zH} : zrun zpp E 154 (191, v0 :: v1 :: .int x :: ls, sk, h) = zrun zpp E 154 (192, v0 :: v1 :: .int x :: ls, .int x :: sk, h) := zrun_at rfl
theorem zi154_192 {E : zE} {x y : Int32} {ls sk : List Value} {h : zH} : zrun zpp E 154 (192, ls, .int y :: .int x :: sk, h) = zrun zpp E 154 (193, ls, .int (x + y) :: sk, h) := zrun_at rfl
theorem zi154_193 {E : zE} {v0 v1 v2 v3 v4 v5 v6 v7 : Value} {x : Int32} {ls sk : List Value} {h : zH} : zrun zpp E 154 (193, v0 :: v1 :: v2 :: v3 :: v4 :: v5 :: v6 :: v7 :: .int x :: ls, sk, h) = zrun zpp E 154 (195, v0 :: v1 :: v2 :: v3 :: v4 :: v5 :: v6 :: v7 :: .int x :: ls, .int x :: sk, h) := zrun_at rfl
theorem zi154_195 {E : zE} {x y : Int32} {ls sk : List Value} {h : zH} : zrun zpp E 154 (195, ls, .int y :: .int x :: sk, h) = zrun zpp E 154 (196, ls, .int (x + y) :: sk, h) := zrun_at rfl
theorem zi154_196 {E : zE} {x : Nat} {i : Int32} {ls sk : List Value} {h : zH} : zrun zpp E 154 (196, ls, .int i :: .ref x :: sk, h) = (zarr 0 h x i).bind (fun v => zrun zpp E 154 (197, ls, .int v :: sk, h)) := zg_iald rfl
theorem zi154_197 {E : zE} {x : Nat} {i v : Int32} {ls sk : List Value} {h : zH} : zrun zpp E 154 (197, ls, .int v :: .int i :: .ref x :: sk, h) = (zars 0 h x i v).bind (fun h' => zrun zpp E 154 (198, ls, sk, h')) := zg_iast rfl
theorem zi154_198 {E : zE} {v0 v1 v2 v3 v4 v5 v6 : Value} {x : Int32} {ls sk : List Value} {h : zH} : zrun zpp E 154 (198, v0 :: v1 :: v2 :: v3 :: v4 :: v5 :: v6 :: .int x :: ls, sk, h) = if zfree (v0 :: v1 :: v2 :: v3 :: v4 :: v5 :: v6 :: .int x :: ls) 7 = true then zrun zpp E 154 (201, v0 :: v1 :: v2 :: v3 :: v4 :: v5 :: v6 :: .int (x + 1) :: ls, sk, h) else none := by rw [← ci_1]; exact zrun_at rfl
theorem zi154_201 {E : zE} {ls sk : List Value} {h : zH} : zrun zpp E 154 (201, ls, sk, h) = zrun zpp E 154 (143, ls, sk, h) := zrun_at rfl
theorem zi154_204 {E : zE} {v0 v1 v2 v3 v4 : Value} {x : Int32} {ls sk : List Value} {h : zH} : zrun zpp E 154 (204, v0 :: v1 :: v2 :: v3 :: v4 :: .int x :: ls, sk, h) = zrun zpp E 154 (206, v0 :: v1 :: v2 :: v3 :: v4 :: .int x :: ls, .int x :: sk, h) := zrun_at rfl
theorem zi154_206 {E : zE} {x : Int32} {ls sk : List Value} {h : zH} : zrun zpp E 154 (206, ls, [.int x], h) = some (some (.int x), h) := zrun_at rfl
-- 155 NineDownModel.drop
theorem zi155_0 {E : zE} {x : Nat} {ls sk : List Value} {h : zH} : zrun zpp E 155 (0, .ref x :: ls, sk, h) = zrun zpp E 155 (1, .ref x :: ls, .ref x :: sk, h) := zrun_at rfl
theorem zi155_0n {E : zE} {ls sk : List Value} {h : zH} : zrun zpp E 155 (0, .null :: ls, sk, h) = zrun zpp E 155 (1, .null :: ls, .null :: sk, h) := zrun_at rfl
theorem zi155_1 {E : zE} {ls sk : List Value} {h : zH} : zrun zpp E 155 (1, ls, sk, h) = zrun zpp E 155 (2, ls, .int 0 :: sk, h) := zg_iconst rfl ci_0
theorem zi155_2 {E : zE} {x : Nat} {v : Value} {ls sk : List Value} {h : zH} : zrun zpp E 155 (2, ls, v :: .ref x :: sk, h) = (zstf [11] 0 h x 0 v).bind (fun h' => zrun zpp E 155 (5, ls, sk, h')) := zg_putf rfl
theorem zi155_5 {E : zE} {v0 : Value} {x : Int32} {ls sk : List Value} {h : zH} : zrun zpp E 155 (5, v0 :: .int x :: ls, sk, h) = zrun zpp E 155 (6, v0 :: .int x :: ls, .int x :: sk, h) := zrun_at rfl
theorem zi155_6 {E : zE} {a0 : Value} {ls sk : List Value} {h : zH} : zrun zpp E 155 (6, ls, a0 :: sk, h) = zcl1 E 155 9 151 ls sk [a0] h := zg_inv (as := [a0]) rfl rfl
theorem zi155_9 {E : zE} {x : Int32} {ls sk : List Value} {h : zH} : zrun zpp E 155 (9, ls, .int x :: sk, h) = if x = 0 then zrun zpp E 155 (12, ls, sk, h) else zrun zpp E 155 (15, ls, sk, h) := zrun_at rfl
theorem zi155_12 {E : zE} {ls sk : List Value} {h : zH} : zrun zpp E 155 (12, ls, sk, h) = zrun zpp E 155 (14, ls, .int (-1000001) :: sk, h) := zg_ldc rfl ci_m1000001
theorem zi155_14 {E : zE} {x : Int32} {ls sk : List Value} {h : zH} : zrun zpp E 155 (14, ls, [.int x], h) = some (some (.int x), h) := zrun_at rfl
theorem zi155_15 {E : zE} {x : Nat} {ls sk : List Value} {h : zH} : zrun zpp E 155 (15, .ref x :: ls, sk, h) = zrun zpp E 155 (16, .ref x :: ls, .ref x :: sk, h) := zrun_at rfl
theorem zi155_15n {E : zE} {ls sk : List Value} {h : zH} : zrun zpp E 155 (15, .null :: ls, sk, h) = zrun zpp E 155 (16, .null :: ls, .null :: sk, h) := zrun_at rfl
theorem zi155_16 {E : zE} {ls sk : List Value} {h : zH} : zrun zpp E 155 (16, ls, sk, h) = zrun zpp E 155 (17, ls, .int 0 :: sk, h) := zg_iconst rfl ci_0
theorem zi155_17 {E : zE} {x : Nat} {v : Value} {ls sk : List Value} {h : zH} : zrun zpp E 155 (17, ls, v :: .ref x :: sk, h) = (zstf [11] 0 h x 1 v).bind (fun h' => zrun zpp E 155 (20, ls, sk, h')) := zg_putf rfl
theorem zi155_20 {E : zE} {x : Nat} {ls sk : List Value} {h : zH} : zrun zpp E 155 (20, .ref x :: ls, sk, h) = zrun zpp E 155 (21, .ref x :: ls, .ref x :: sk, h) := zrun_at rfl
theorem zi155_20n {E : zE} {ls sk : List Value} {h : zH} : zrun zpp E 155 (20, .null :: ls, sk, h) = zrun zpp E 155 (21, .null :: ls, .null :: sk, h) := zrun_at rfl
theorem zi155_21 {E : zE} {x : Nat} {ls sk : List Value} {h : zH} : zrun zpp E 155 (21, ls, .ref x :: sk, h) = (zfld [11] h x 2).bind (fun v => zrun zpp E 155 (24, ls, v :: sk, h)) := zg_getf rfl
theorem zi155_24 {E : zE} {v0 : Value} {x : Int32} {ls sk : List Value} {h : zH} : zrun zpp E 155 (24, v0 :: .int x :: ls, sk, h) = zrun zpp E 155 (25, v0 :: .int x :: ls, .int x :: sk, h) := zrun_at rfl
theorem zi155_25 {E : zE} {x : Nat} {i : Int32} {ls sk : List Value} {h : zH} : zrun zpp E 155 (25, ls, .int i :: .ref x :: sk, h) = (zarr 0 h x i).bind (fun v => zrun zpp E 155 (26, ls, .int v :: sk, h)) := zg_iald rfl
theorem zi155_26 {E : zE} {x : Int32} {ls sk : List Value} {h : zH} : zrun zpp E 155 (26, ls, .int x :: sk, h) = if 0 ≤ x then zrun zpp E 155 (35, ls, sk, h) else zrun zpp E 155 (29, ls, sk, h) := zrun_at rfl
theorem zi155_29 {E : zE} {x : Nat} {ls sk : List Value} {h : zH} : zrun zpp E 155 (29, .ref x :: ls, sk, h) = zrun zpp E 155 (30, .ref x :: ls, .ref x :: sk, h) := zrun_at rfl
theorem zi155_29n {E : zE} {ls sk : List Value} {h : zH} : zrun zpp E 155 (29, .null :: ls, sk, h) = zrun zpp E 155 (30, .null :: ls, .null :: sk, h) := zrun_at rfl
theorem zi155_30 {E : zE} {ls sk : List Value} {h : zH} : zrun zpp E 155 (30, ls, sk, h) = zrun zpp E 155 (31, ls, .int 1 :: sk, h) := zg_iconst rfl ci_1
theorem zi155_31 {E : zE} {a0 : Value} {x : Nat} {ls sk : List Value} {h : zH} : zrun zpp E 155 (31, ls, a0 :: .ref x :: sk, h) = (zcls h x).bind (fun d => (zsel d [11, 150]).bind (fun M' => zcl1 E 155 34 M' ls sk [.ref x, a0] h)) := zg_vir (as := [a0]) rfl rfl
theorem zi155_34 {E : zE} {x : Int32} {ls sk : List Value} {h : zH} : zrun zpp E 155 (34, ls, [.int x], h) = some (some (.int x), h) := zrun_at rfl
theorem zi155_35 {E : zE} {x : Nat} {ls sk : List Value} {h : zH} : zrun zpp E 155 (35, .ref x :: ls, sk, h) = zrun zpp E 155 (36, .ref x :: ls, .ref x :: sk, h) := zrun_at rfl
theorem zi155_35n {E : zE} {ls sk : List Value} {h : zH} : zrun zpp E 155 (35, .null :: ls, sk, h) = zrun zpp E 155 (36, .null :: ls, .null :: sk, h) := zrun_at rfl
theorem zi155_36 {E : zE} {x : Nat} {ls sk : List Value} {h : zH} : zrun zpp E 155 (36, ls, .ref x :: sk, h) = (zfld [11] h x 2).bind (fun v => zrun zpp E 155 (39, ls, v :: sk, h)) := zg_getf rfl
theorem zi155_39 {E : zE} {v0 : Value} {x : Int32} {ls sk : List Value} {h : zH} : zrun zpp E 155 (39, v0 :: .int x :: ls, sk, h) = zrun zpp E 155 (40, v0 :: .int x :: ls, .int x :: sk, h) := zrun_at rfl
theorem zi155_40 {E : zE} {ls sk : List Value} {h : zH} : zrun zpp E 155 (40, ls, sk, h) = zrun zpp E 155 (41, ls, .int (-1) :: sk, h) := zg_iconst rfl ci_m1
theorem zi155_41 {E : zE} {x : Nat} {i v : Int32} {ls sk : List Value} {h : zH} : zrun zpp E 155 (41, ls, .int v :: .int i :: .ref x :: sk, h) = (zars 0 h x i v).bind (fun h' => zrun zpp E 155 (42, ls, sk, h')) := zg_iast rfl
theorem zi155_42 {E : zE} {x : Nat} {ls sk : List Value} {h : zH} : zrun zpp E 155 (42, .ref x :: ls, sk, h) = zrun zpp E 155 (43, .ref x :: ls, .ref x :: sk, h) := zrun_at rfl
theorem zi155_42n {E : zE} {ls sk : List Value} {h : zH} : zrun zpp E 155 (42, .null :: ls, sk, h) = zrun zpp E 155 (43, .null :: ls, .null :: sk, h) := zrun_at rfl
theorem zi155_43 {E : zE} {x : Nat} {ls sk : List Value} {h : zH} : zrun zpp E 155 (43, ls, .ref x :: sk, h) = (zfld [11] h x 3).bind (fun v => zrun zpp E 155 (46, ls, v :: sk, h)) := zg_getf rfl
theorem zi155_46 {E : zE} {v0 : Value} {x : Int32} {ls sk : List Value} {h : zH} : zrun zpp E 155 (46, v0 :: .int x :: ls, sk, h) = zrun zpp E 155 (47, v0 :: .int x :: ls, .int x :: sk, h) := zrun_at rfl
theorem zi155_47 {E : zE} {x : Nat} {i : Int32} {ls sk : List Value} {h : zH} : zrun zpp E 155 (47, ls, .int i :: .ref x :: sk, h) = (zarr 0 h x i).bind (fun v => zrun zpp E 155 (48, ls, .int v :: sk, h)) := zg_iald rfl
theorem zi155_48 {E : zE} {x : Int32} {ls sk : List Value} {h : zH} : zrun zpp E 155 (48, ls, [.int x], h) = some (some (.int x), h) := zrun_at rfl
-- 156 NineDownModel.feed
theorem zi156_0 {E : zE} {x : Nat} {ls sk : List Value} {h : zH} : zrun zpp E 156 (0, .ref x :: ls, sk, h) = zrun zpp E 156 (1, .ref x :: ls, .ref x :: sk, h) := zrun_at rfl
theorem zi156_0n {E : zE} {ls sk : List Value} {h : zH} : zrun zpp E 156 (0, .null :: ls, sk, h) = zrun zpp E 156 (1, .null :: ls, .null :: sk, h) := zrun_at rfl
theorem zi156_1 {E : zE} {ls sk : List Value} {h : zH} : zrun zpp E 156 (1, ls, sk, h) = zrun zpp E 156 (2, ls, .int 0 :: sk, h) := zg_iconst rfl ci_0
theorem zi156_2 {E : zE} {x : Nat} {v : Value} {ls sk : List Value} {h : zH} : zrun zpp E 156 (2, ls, v :: .ref x :: sk, h) = (zstf [11] 0 h x 0 v).bind (fun h' => zrun zpp E 156 (5, ls, sk, h')) := zg_putf rfl
theorem zi156_5 {E : zE} {v0 : Value} {x : Int32} {ls sk : List Value} {h : zH} : zrun zpp E 156 (5, v0 :: .int x :: ls, sk, h) = zrun zpp E 156 (6, v0 :: .int x :: ls, .int x :: sk, h) := zrun_at rfl
theorem zi156_6 {E : zE} {x : Int32} {ls sk : List Value} {h : zH} : zrun zpp E 156 (6, ls, .int x :: sk, h) = zrun zpp E 156 (7, ls, .long x.toInt64 :: sk, h) := zrun_at rfl
theorem zi156_7 {E : zE} {ls sk : List Value} {h : zH} : zrun zpp E 156 (7, ls, sk, h) = zrun zpp E 156 (8, ls, .long 0 :: sk, h) := zg_lconst rfl rfl
theorem zi156_8 {E : zE} {ls sk : List Value} {h : zH} : zrun zpp E 156 (8, ls, sk, h) = zrun zpp E 156 (11, ls, .long 255 :: sk, h) := zg_ldc2_w rfl cj_255
theorem zi156_11 {E : zE} {a0 a1 a2 : Value} {ls sk : List Value} {h : zH} : zrun zpp E 156 (11, ls, a2 :: a1 :: a0 :: sk, h) = zcl1 E 156 14 149 ls sk [a0, a1, a2] h := zg_inv (as := [a0, a1, a2]) rfl rfl
theorem zi156_14 {E : zE} {x : Int32} {ls sk : List Value} {h : zH} : zrun zpp E 156 (14, ls, .int x :: sk, h) = if x = 0 then zrun zpp E 156 (17, ls, sk, h) else zrun zpp E 156 (20, ls, sk, h) := zrun_at rfl
theorem zi156_17 {E : zE} {ls sk : List Value} {h : zH} : zrun zpp E 156 (17, ls, sk, h) = zrun zpp E 156 (19, ls, .int (-1000001) :: sk, h) := zg_ldc rfl ci_m1000001
theorem zi156_19 {E : zE} {x : Int32} {ls sk : List Value} {h : zH} : zrun zpp E 156 (19, ls, [.int x], h) = some (some (.int x), h) := zrun_at rfl
theorem zi156_20 {E : zE} {x : Nat} {ls sk : List Value} {h : zH} : zrun zpp E 156 (20, .ref x :: ls, sk, h) = zrun zpp E 156 (21, .ref x :: ls, .ref x :: sk, h) := zrun_at rfl
theorem zi156_20n {E : zE} {ls sk : List Value} {h : zH} : zrun zpp E 156 (20, .null :: ls, sk, h) = zrun zpp E 156 (21, .null :: ls, .null :: sk, h) := zrun_at rfl
theorem zi156_21 {E : zE} {x : Nat} {ls sk : List Value} {h : zH} : zrun zpp E 156 (21, ls, .ref x :: sk, h) = (zfld [11] h x 10).bind (fun v => zrun zpp E 156 (24, ls, v :: sk, h)) := zg_getf rfl
theorem zi156_24 {E : zE} {ls sk : List Value} {h : zH} : zrun zpp E 156 (24, ls, sk, h) = zrun zpp E 156 (26, ls, .int 120 :: sk, h) := zg_bipush rfl ci_120
theorem zi156_26 {E : zE} {x y : Int32} {ls sk : List Value} {h : zH} : zrun zpp E 156 (26, ls, .int y :: .int x :: sk, h) = if x = y then zrun zpp E 156 (29, ls, sk, h) else zrun zpp E 156 (32, ls, sk, h) := zrun_at rfl
theorem zi156_29 {E : zE} {ls sk : List Value} {h : zH} : zrun zpp E 156 (29, ls, sk, h) = zrun zpp E 156 (31, ls, .int (-1000003) :: sk, h) := zg_ldc rfl ci_m1000003
theorem zi156_31 {E : zE} {x : Int32} {ls sk : List Value} {h : zH} : zrun zpp E 156 (31, ls, [.int x], h) = some (some (.int x), h) := zrun_at rfl
theorem zi156_32 {E : zE} {x : Nat} {ls sk : List Value} {h : zH} : zrun zpp E 156 (32, .ref x :: ls, sk, h) = zrun zpp E 156 (33, .ref x :: ls, .ref x :: sk, h) := zrun_at rfl
theorem zi156_32n {E : zE} {ls sk : List Value} {h : zH} : zrun zpp E 156 (32, .null :: ls, sk, h) = zrun zpp E 156 (33, .null :: ls, .null :: sk, h) := zrun_at rfl
theorem zi156_33 {E : zE} {x : Nat} {ls sk : List Value} {h : zH} : zrun zpp E 156 (33, ls, .ref x :: sk, h) = (zfld [11] h x 9).bind (fun v => zrun zpp E 156 (36, ls, v :: sk, h)) := zg_getf rfl
theorem zi156_36 {E : zE} {x : Nat} {ls sk : List Value} {h : zH} : zrun zpp E 156 (36, .ref x :: ls, sk, h) = zrun zpp E 156 (37, .ref x :: ls, .ref x :: sk, h) := zrun_at rfl
theorem zi156_36n {E : zE} {ls sk : List Value} {h : zH} : zrun zpp E 156 (36, .null :: ls, sk, h) = zrun zpp E 156 (37, .null :: ls, .null :: sk, h) := zrun_at rfl
theorem zi156_37 {E : zE} {x : Nat} {ls sk : List Value} {h : zH} : zrun zpp E 156 (37, ls, .ref x :: sk, h) = (zfld [11] h x 10).bind (fun v => zrun zpp E 156 (40, ls, v :: sk, h)) := zg_getf rfl
theorem zi156_40 {E : zE} {v0 : Value} {x : Int32} {ls sk : List Value} {h : zH} : zrun zpp E 156 (40, v0 :: .int x :: ls, sk, h) = zrun zpp E 156 (41, v0 :: .int x :: ls, .int x :: sk, h) := zrun_at rfl
theorem zi156_41 {E : zE} {x : Nat} {i v : Int32} {ls sk : List Value} {h : zH} : zrun zpp E 156 (41, ls, .int v :: .int i :: .ref x :: sk, h) = (zars 0 h x i v).bind (fun h' => zrun zpp E 156 (42, ls, sk, h')) := zg_iast rfl
theorem zi156_42 {E : zE} {x : Nat} {ls sk : List Value} {h : zH} : zrun zpp E 156 (42, .ref x :: ls, sk, h) = zrun zpp E 156 (43, .ref x :: ls, .ref x :: sk, h) := zrun_at rfl
theorem zi156_42n {E : zE} {ls sk : List Value} {h : zH} : zrun zpp E 156 (42, .null :: ls, sk, h) = zrun zpp E 156 (43, .null :: ls, .null :: sk, h) := zrun_at rfl
theorem zi156_43 {E : zE} {x : Nat} {ls sk : List Value} {h : zH} : zrun zpp E 156 (43, ls, .ref x :: sk, h) = zrun zpp E 156 (44, ls, .ref x :: .ref x :: sk, h) := zrun_at rfl
theorem zi156_43i {E : zE} {x : Int32} {ls sk : List Value} {h : zH} : zrun zpp E 156 (43, ls, .int x :: sk, h) = zrun zpp E 156 (44, ls, .int x :: .int x :: sk, h) := zrun_at rfl
theorem zi156_44 {E : zE} {x : Nat} {ls sk : List Value} {h : zH} : zrun zpp E 156 (44, ls, .ref x :: sk, h) = (zfld [11] h x 10).bind (fun v => zrun zpp E 156 (47, ls, v :: sk, h)) := zg_getf rfl
theorem zi156_47 {E : zE} {ls sk : List Value} {h : zH} : zrun zpp E 156 (47, ls, sk, h) = zrun zpp E 156 (48, ls, .int 1 :: sk, h) := zg_iconst rfl ci_1
theorem zi156_48 {E : zE} {x y : Int32} {ls sk : List Value} {h : zH} : zrun zpp E 156 (48, ls, .int y :: .int x :: sk, h) = zrun zpp E 156 (49, ls, .int (x + y) :: sk, h) := zrun_at rfl
theorem zi156_49 {E : zE} {x : Nat} {v : Value} {ls sk : List Value} {h : zH} : zrun zpp E 156 (49, ls, v :: .ref x :: sk, h) = (zstf [11] 0 h x 10 v).bind (fun h' => zrun zpp E 156 (52, ls, sk, h')) := zg_putf rfl
theorem zi156_52 {E : zE} {x : Nat} {ls sk : List Value} {h : zH} : zrun zpp E 156 (52, .ref x :: ls, sk, h) = zrun zpp E 156 (53, .ref x :: ls, .ref x :: sk, h) := zrun_at rfl
theorem zi156_52n {E : zE} {ls sk : List Value} {h : zH} : zrun zpp E 156 (52, .null :: ls, sk, h) = zrun zpp E 156 (53, .null :: ls, .null :: sk, h) := zrun_at rfl
theorem zi156_53 {E : zE} {x : Nat} {ls sk : List Value} {h : zH} : zrun zpp E 156 (53, ls, .ref x :: sk, h) = (zfld [11] h x 10).bind (fun v => zrun zpp E 156 (56, ls, v :: sk, h)) := zg_getf rfl
theorem zi156_56 {E : zE} {x : Int32} {ls sk : List Value} {h : zH} : zrun zpp E 156 (56, ls, [.int x], h) = some (some (.int x), h) := zrun_at rfl
-- 157 NineDownModel.bad
theorem zi157_0 {E : zE} {x : Nat} {ls sk : List Value} {h : zH} : zrun zpp E 157 (0, .ref x :: ls, sk, h) = zrun zpp E 157 (1, .ref x :: ls, .ref x :: sk, h) := zrun_at rfl
theorem zi157_0n {E : zE} {ls sk : List Value} {h : zH} : zrun zpp E 157 (0, .null :: ls, sk, h) = zrun zpp E 157 (1, .null :: ls, .null :: sk, h) := zrun_at rfl
theorem zi157_1 {E : zE} {x : Nat} {ls sk : List Value} {h : zH} : zrun zpp E 157 (1, ls, .ref x :: sk, h) = (zfld [11] h x 15).bind (fun v => zrun zpp E 157 (4, ls, v :: sk, h)) := zg_getf rfl
theorem zi157_4 {E : zE} {x : Int32} {ls sk : List Value} {h : zH} : zrun zpp E 157 (4, ls, .int x :: sk, h) = if x = 0 then zrun zpp E 157 (7, ls, sk, h) else zrun zpp E 157 (20, ls, sk, h) := zrun_at rfl
theorem zi157_7 {E : zE} {x : Nat} {ls sk : List Value} {h : zH} : zrun zpp E 157 (7, .ref x :: ls, sk, h) = zrun zpp E 157 (8, .ref x :: ls, .ref x :: sk, h) := zrun_at rfl
theorem zi157_7n {E : zE} {ls sk : List Value} {h : zH} : zrun zpp E 157 (7, .null :: ls, sk, h) = zrun zpp E 157 (8, .null :: ls, .null :: sk, h) := zrun_at rfl
theorem zi157_8 {E : zE} {v0 : Value} {x : Int32} {ls sk : List Value} {h : zH} : zrun zpp E 157 (8, v0 :: .int x :: ls, sk, h) = zrun zpp E 157 (9, v0 :: .int x :: ls, .int x :: sk, h) := zrun_at rfl
theorem zi157_9 {E : zE} {x : Nat} {v : Value} {ls sk : List Value} {h : zH} : zrun zpp E 157 (9, ls, v :: .ref x :: sk, h) = (zstf [11] 0 h x 15 v).bind (fun h' => zrun zpp E 157 (12, ls, sk, h')) := zg_putf rfl
theorem zi157_12 {E : zE} {x : Nat} {ls sk : List Value} {h : zH} : zrun zpp E 157 (12, .ref x :: ls, sk, h) = zrun zpp E 157 (13, .ref x :: ls, .ref x :: sk, h) := zrun_at rfl
theorem zi157_12n {E : zE} {ls sk : List Value} {h : zH} : zrun zpp E 157 (12, .null :: ls, sk, h) = zrun zpp E 157 (13, .null :: ls, .null :: sk, h) := zrun_at rfl
theorem zi157_13 {E : zE} {x : Nat} {ls sk : List Value} {h : zH} : zrun zpp E 157 (13, .ref x :: ls, sk, h) = zrun zpp E 157 (14, .ref x :: ls, .ref x :: sk, h) := zrun_at rfl
theorem zi157_13n {E : zE} {ls sk : List Value} {h : zH} : zrun zpp E 157 (13, .null :: ls, sk, h) = zrun zpp E 157 (14, .null :: ls, .null :: sk, h) := zrun_at rfl
theorem zi157_14 {E : zE} {x : Nat} {ls sk : List Value} {h : zH} : zrun zpp E 157 (14, ls, .ref x :: sk, h) = (zfld [11] h x 12).bind (fun v => zrun zpp E 157 (17, ls, v :: sk, h)) := zg_getf rfl
theorem zi157_17 {E : zE} {x : Nat} {v : Value} {ls sk : List Value} {h : zH} : zrun zpp E 157 (17, ls, v :: .ref x :: sk, h) = (zstf [11] 0 h x 16 v).bind (fun h' => zrun zpp E 157 (20, ls, sk, h')) := zg_putf rfl
theorem zi157_20 {E : zE} {ls sk : List Value} {h : zH} : zrun zpp E 157 (20, ls, [], h) = some (none, h) := zrun_at rfl
-- 158 NineDownModel.nextToken
theorem zi158_0 {E : zE} {x : Nat} {ls sk : List Value} {h : zH} : zrun zpp E 158 (0, .ref x :: ls, sk, h) = zrun zpp E 158 (1, .ref x :: ls, .ref x :: sk, h) := zrun_at rfl
theorem zi158_0n {E : zE} {ls sk : List Value} {h : zH} : zrun zpp E 158 (0, .null :: ls, sk, h) = zrun zpp E 158 (1, .null :: ls, .null :: sk, h) := zrun_at rfl
theorem zi158_1 {E : zE} {x : Nat} {ls sk : List Value} {h : zH} : zrun zpp E 158 (1, .ref x :: ls, sk, h) = zrun zpp E 158 (2, .ref x :: ls, .ref x :: sk, h) := zrun_at rfl
theorem zi158_1n {E : zE} {ls sk : List Value} {h : zH} : zrun zpp E 158 (1, .null :: ls, sk, h) = zrun zpp E 158 (2, .null :: ls, .null :: sk, h) := zrun_at rfl
theorem zi158_2 {E : zE} {x : Nat} {ls sk : List Value} {h : zH} : zrun zpp E 158 (2, ls, .ref x :: sk, h) = (zfld [11] h x 11).bind (fun v => zrun zpp E 158 (5, ls, v :: sk, h)) := zg_getf rfl
theorem zi158_5 {E : zE} {x : Nat} {v : Value} {ls sk : List Value} {h : zH} : zrun zpp E 158 (5, ls, v :: .ref x :: sk, h) = (zstf [11] 0 h x 12 v).bind (fun h' => zrun zpp E 158 (8, ls, sk, h')) := zg_putf rfl
theorem zi158_8 {E : zE} {x : Nat} {ls sk : List Value} {h : zH} : zrun zpp E 158 (8, .ref x :: ls, sk, h) = zrun zpp E 158 (9, .ref x :: ls, .ref x :: sk, h) := zrun_at rfl
theorem zi158_8n {E : zE} {ls sk : List Value} {h : zH} : zrun zpp E 158 (8, .null :: ls, sk, h) = zrun zpp E 158 (9, .null :: ls, .null :: sk, h) := zrun_at rfl
theorem zi158_9 {E : zE} {x : Nat} {ls sk : List Value} {h : zH} : zrun zpp E 158 (9, .ref x :: ls, sk, h) = zrun zpp E 158 (10, .ref x :: ls, .ref x :: sk, h) := zrun_at rfl
theorem zi158_9n {E : zE} {ls sk : List Value} {h : zH} : zrun zpp E 158 (9, .null :: ls, sk, h) = zrun zpp E 158 (10, .null :: ls, .null :: sk, h) := zrun_at rfl
theorem zi158_10 {E : zE} {x : Nat} {ls sk : List Value} {h : zH} : zrun zpp E 158 (10, ls, .ref x :: sk, h) = (zfld [11] h x 11).bind (fun v => zrun zpp E 158 (13, ls, v :: sk, h)) := zg_getf rfl
theorem zi158_13 {E : zE} {x : Nat} {ls sk : List Value} {h : zH} : zrun zpp E 158 (13, .ref x :: ls, sk, h) = zrun zpp E 158 (14, .ref x :: ls, .ref x :: sk, h) := zrun_at rfl
theorem zi158_13n {E : zE} {ls sk : List Value} {h : zH} : zrun zpp E 158 (13, .null :: ls, sk, h) = zrun zpp E 158 (14, .null :: ls, .null :: sk, h) := zrun_at rfl
theorem zi158_14 {E : zE} {x : Nat} {ls sk : List Value} {h : zH} : zrun zpp E 158 (14, ls, .ref x :: sk, h) = (zfld [11] h x 10).bind (fun v => zrun zpp E 158 (17, ls, v :: sk, h)) := zg_getf rfl
theorem zi158_17 {E : zE} {x y : Int32} {ls sk : List Value} {h : zH} : zrun zpp E 158 (17, ls, .int y :: .int x :: sk, h) = if y ≤ x then zrun zpp E 158 (32, ls, sk, h) else zrun zpp E 158 (20, ls, sk, h) := zrun_at rfl
theorem zi158_20 {E : zE} {x : Nat} {ls sk : List Value} {h : zH} : zrun zpp E 158 (20, .ref x :: ls, sk, h) = zrun zpp E 158 (21, .ref x :: ls, .ref x :: sk, h) := zrun_at rfl
theorem zi158_20n {E : zE} {ls sk : List Value} {h : zH} : zrun zpp E 158 (20, .null :: ls, sk, h) = zrun zpp E 158 (21, .null :: ls, .null :: sk, h) := zrun_at rfl
theorem zi158_21 {E : zE} {x : Nat} {ls sk : List Value} {h : zH} : zrun zpp E 158 (21, ls, .ref x :: sk, h) = (zfld [11] h x 9).bind (fun v => zrun zpp E 158 (24, ls, v :: sk, h)) := zg_getf rfl
theorem zi158_24 {E : zE} {x : Nat} {ls sk : List Value} {h : zH} : zrun zpp E 158 (24, .ref x :: ls, sk, h) = zrun zpp E 158 (25, .ref x :: ls, .ref x :: sk, h) := zrun_at rfl
theorem zi158_24n {E : zE} {ls sk : List Value} {h : zH} : zrun zpp E 158 (24, .null :: ls, sk, h) = zrun zpp E 158 (25, .null :: ls, .null :: sk, h) := zrun_at rfl
theorem zi158_25 {E : zE} {x : Nat} {ls sk : List Value} {h : zH} : zrun zpp E 158 (25, ls, .ref x :: sk, h) = (zfld [11] h x 11).bind (fun v => zrun zpp E 158 (28, ls, v :: sk, h)) := zg_getf rfl
theorem zi158_28 {E : zE} {x : Nat} {i : Int32} {ls sk : List Value} {h : zH} : zrun zpp E 158 (28, ls, .int i :: .ref x :: sk, h) = (zarr 0 h x i).bind (fun v => zrun zpp E 158 (29, ls, .int v :: sk, h)) := zg_iald rfl
theorem zi158_29 {E : zE} {ls sk : List Value} {h : zH} : zrun zpp E 158 (29, ls, sk, h) = zrun zpp E 158 (34, ls, sk, h) := zrun_at rfl
theorem zi158_32 {E : zE} {ls sk : List Value} {h : zH} : zrun zpp E 158 (32, ls, sk, h) = zrun zpp E 158 (34, ls, .int (-1000000) :: sk, h) := zg_ldc rfl ci_m1000000
theorem zi158_34 {E : zE} {x : Nat} {v : Value} {ls sk : List Value} {h : zH} : zrun zpp E 158 (34, ls, v :: .ref x :: sk, h) = (zstf [11] 0 h x 14 v).bind (fun h' => zrun zpp E 158 (37, ls, sk, h')) := zg_putf rfl
theorem zi158_37 {E : zE} {x : Nat} {ls sk : List Value} {h : zH} : zrun zpp E 158 (37, .ref x :: ls, sk, h) = zrun zpp E 158 (38, .ref x :: ls, .ref x :: sk, h) := zrun_at rfl
theorem zi158_37n {E : zE} {ls sk : List Value} {h : zH} : zrun zpp E 158 (37, .null :: ls, sk, h) = zrun zpp E 158 (38, .null :: ls, .null :: sk, h) := zrun_at rfl
theorem zi158_38 {E : zE} {x : Nat} {ls sk : List Value} {h : zH} : zrun zpp E 158 (38, .ref x :: ls, sk, h) = zrun zpp E 158 (39, .ref x :: ls, .ref x :: sk, h) := zrun_at rfl
theorem zi158_38n {E : zE} {ls sk : List Value} {h : zH} : zrun zpp E 158 (38, .null :: ls, sk, h) = zrun zpp E 158 (39, .null :: ls, .null :: sk, h) := zrun_at rfl
theorem zi158_39 {E : zE} {x : Nat} {ls sk : List Value} {h : zH} : zrun zpp E 158 (39, ls, .ref x :: sk, h) = (zfld [11] h x 11).bind (fun v => zrun zpp E 158 (42, ls, v :: sk, h)) := zg_getf rfl
theorem zi158_42 {E : zE} {x : Nat} {ls sk : List Value} {h : zH} : zrun zpp E 158 (42, .ref x :: ls, sk, h) = zrun zpp E 158 (43, .ref x :: ls, .ref x :: sk, h) := zrun_at rfl
theorem zi158_42n {E : zE} {ls sk : List Value} {h : zH} : zrun zpp E 158 (42, .null :: ls, sk, h) = zrun zpp E 158 (43, .null :: ls, .null :: sk, h) := zrun_at rfl
theorem zi158_43 {E : zE} {x : Nat} {ls sk : List Value} {h : zH} : zrun zpp E 158 (43, ls, .ref x :: sk, h) = (zfld [11] h x 10).bind (fun v => zrun zpp E 158 (46, ls, v :: sk, h)) := zg_getf rfl
theorem zi158_46 {E : zE} {x y : Int32} {ls sk : List Value} {h : zH} : zrun zpp E 158 (46, ls, .int y :: .int x :: sk, h) = if x = y then zrun zpp E 158 (49, ls, sk, h) else zrun zpp E 158 (53, ls, sk, h) := zrun_at rfl
theorem zi158_49 {E : zE} {ls sk : List Value} {h : zH} : zrun zpp E 158 (49, ls, sk, h) = zrun zpp E 158 (50, ls, .int 1 :: sk, h) := zg_iconst rfl ci_1
theorem zi158_50 {E : zE} {ls sk : List Value} {h : zH} : zrun zpp E 158 (50, ls, sk, h) = zrun zpp E 158 (118, ls, sk, h) := zrun_at rfl
theorem zi158_53 {E : zE} {x : Nat} {ls sk : List Value} {h : zH} : zrun zpp E 158 (53, .ref x :: ls, sk, h) = zrun zpp E 158 (54, .ref x :: ls, .ref x :: sk, h) := zrun_at rfl
theorem zi158_53n {E : zE} {ls sk : List Value} {h : zH} : zrun zpp E 158 (53, .null :: ls, sk, h) = zrun zpp E 158 (54, .null :: ls, .null :: sk, h) := zrun_at rfl
theorem zi158_54 {E : zE} {x : Nat} {ls sk : List Value} {h : zH} : zrun zpp E 158 (54, ls, .ref x :: sk, h) = (zfld [11] h x 14).bind (fun v => zrun zpp E 158 (57, ls, v :: sk, h)) := zg_getf rfl
theorem zi158_57 {E : zE} {x : Int32} {ls sk : List Value} {h : zH} : zrun zpp E 158 (57, ls, .int x :: sk, h) = zrun zpp E 158 (58, ls, .long x.toInt64 :: sk, h) := zrun_at rfl
theorem zi158_58 {E : zE} {ls sk : List Value} {h : zH} : zrun zpp E 158 (58, ls, sk, h) = zrun zpp E 158 (61, ls, .long 97 :: sk, h) := zg_ldc2_w rfl cj_97
theorem zi158_61 {E : zE} {ls sk : List Value} {h : zH} : zrun zpp E 158 (61, ls, sk, h) = zrun zpp E 158 (64, ls, .long 122 :: sk, h) := zg_ldc2_w rfl cj_122
theorem zi158_64 {E : zE} {a0 a1 a2 : Value} {ls sk : List Value} {h : zH} : zrun zpp E 158 (64, ls, a2 :: a1 :: a0 :: sk, h) = zcl1 E 158 67 149 ls sk [a0, a1, a2] h := zg_inv (as := [a0, a1, a2]) rfl rfl
theorem zi158_67 {E : zE} {x : Int32} {ls sk : List Value} {h : zH} : zrun zpp E 158 (67, ls, .int x :: sk, h) = if x = 0 then zrun zpp E 158 (74, ls, sk, h) else zrun zpp E 158 (70, ls, sk, h) := zrun_at rfl
theorem zi158_70 {E : zE} {ls sk : List Value} {h : zH} : zrun zpp E 158 (70, ls, sk, h) = zrun zpp E 158 (71, ls, .int 2 :: sk, h) := zg_iconst rfl ci_2
theorem zi158_71 {E : zE} {ls sk : List Value} {h : zH} : zrun zpp E 158 (71, ls, sk, h) = zrun zpp E 158 (118, ls, sk, h) := zrun_at rfl
theorem zi158_74 {E : zE} {x : Nat} {ls sk : List Value} {h : zH} : zrun zpp E 158 (74, .ref x :: ls, sk, h) = zrun zpp E 158 (75, .ref x :: ls, .ref x :: sk, h) := zrun_at rfl
theorem zi158_74n {E : zE} {ls sk : List Value} {h : zH} : zrun zpp E 158 (74, .null :: ls, sk, h) = zrun zpp E 158 (75, .null :: ls, .null :: sk, h) := zrun_at rfl
theorem zi158_75 {E : zE} {x : Nat} {ls sk : List Value} {h : zH} : zrun zpp E 158 (75, ls, .ref x :: sk, h) = (zfld [11] h x 14).bind (fun v => zrun zpp E 158 (78, ls, v :: sk, h)) := zg_getf rfl
theorem zi158_78 {E : zE} {x : Int32} {ls sk : List Value} {h : zH} : zrun zpp E 158 (78, ls, .int x :: sk, h) = zrun zpp E 158 (79, ls, .long x.toInt64 :: sk, h) := zrun_at rfl
theorem zi158_79 {E : zE} {ls sk : List Value} {h : zH} : zrun zpp E 158 (79, ls, sk, h) = zrun zpp E 158 (82, ls, .long 48 :: sk, h) := zg_ldc2_w rfl cj_48
theorem zi158_82 {E : zE} {ls sk : List Value} {h : zH} : zrun zpp E 158 (82, ls, sk, h) = zrun zpp E 158 (85, ls, .long 57 :: sk, h) := zg_ldc2_w rfl cj_57
theorem zi158_85 {E : zE} {a0 a1 a2 : Value} {ls sk : List Value} {h : zH} : zrun zpp E 158 (85, ls, a2 :: a1 :: a0 :: sk, h) = zcl1 E 158 88 149 ls sk [a0, a1, a2] h := zg_inv (as := [a0, a1, a2]) rfl rfl
theorem zi158_88 {E : zE} {x : Int32} {ls sk : List Value} {h : zH} : zrun zpp E 158 (88, ls, .int x :: sk, h) = if x = 0 then zrun zpp E 158 (95, ls, sk, h) else zrun zpp E 158 (91, ls, sk, h) := zrun_at rfl
theorem zi158_91 {E : zE} {ls sk : List Value} {h : zH} : zrun zpp E 158 (91, ls, sk, h) = zrun zpp E 158 (92, ls, .int 3 :: sk, h) := zg_iconst rfl ci_3
theorem zi158_92 {E : zE} {ls sk : List Value} {h : zH} : zrun zpp E 158 (92, ls, sk, h) = zrun zpp E 158 (118, ls, sk, h) := zrun_at rfl
theorem zi158_95 {E : zE} {x : Nat} {ls sk : List Value} {h : zH} : zrun zpp E 158 (95, .ref x :: ls, sk, h) = zrun zpp E 158 (96, .ref x :: ls, .ref x :: sk, h) := zrun_at rfl
theorem zi158_95n {E : zE} {ls sk : List Value} {h : zH} : zrun zpp E 158 (95, .null :: ls, sk, h) = zrun zpp E 158 (96, .null :: ls, .null :: sk, h) := zrun_at rfl
theorem zi158_96 {E : zE} {x : Nat} {ls sk : List Value} {h : zH} : zrun zpp E 158 (96, ls, .ref x :: sk, h) = (zfld [11] h x 14).bind (fun v => zrun zpp E 158 (99, ls, v :: sk, h)) := zg_getf rfl
theorem zi158_99 {E : zE} {ls sk : List Value} {h : zH} : zrun zpp E 158 (99, ls, sk, h) = zrun zpp E 158 (101, ls, .int 44 :: sk, h) := zg_bipush rfl ci_44
theorem zi158_101 {E : zE} {x y : Int32} {ls sk : List Value} {h : zH} : zrun zpp E 158 (101, ls, .int y :: .int x :: sk, h) = if x = y then zrun zpp E 158 (113, ls, sk, h) else zrun zpp E 158 (104, ls, sk, h) := zrun_at rfl
theorem zi158_104 {E : zE} {x : Nat} {ls sk : List Value} {h : zH} : zrun zpp E 158 (104, .ref x :: ls, sk, h) = zrun zpp E 158 (105, .ref x :: ls, .ref x :: sk, h) := zrun_at rfl
theorem zi158_104n {E : zE} {ls sk : List Value} {h : zH} : zrun zpp E 158 (104, .null :: ls, sk, h) = zrun zpp E 158 (105, .null :: ls, .null :: sk, h) := zrun_at rfl
theorem zi158_105 {E : zE} {x : Nat} {ls sk : List Value} {h : zH} : zrun zpp E 158 (105, ls, .ref x :: sk, h) = (zfld [11] h x 14).bind (fun v => zrun zpp E 158 (108, ls, v :: sk, h)) := zg_getf rfl
theorem zi158_108 {E : zE} {ls sk : List Value} {h : zH} : zrun zpp E 158 (108, ls, sk, h) = zrun zpp E 158 (110, ls, .int 59 :: sk, h) := zg_bipush rfl ci_59
theorem zi158_110 {E : zE} {x y : Int32} {ls sk : List Value} {h : zH} : zrun zpp E 158 (110, ls, .int y :: .int x :: sk, h) = if x = y then zrun zpp E 158 (113, ls, sk, h) else zrun zpp E 158 (117, ls, sk, h) := zrun_at rfl
theorem zi158_113 {E : zE} {ls sk : List Value} {h : zH} : zrun zpp E 158 (113, ls, sk, h) = zrun zpp E 158 (114, ls, .int 4 :: sk, h) := zg_iconst rfl ci_4
theorem zi158_114 {E : zE} {ls sk : List Value} {h : zH} : zrun zpp E 158 (114, ls, sk, h) = zrun zpp E 158 (118, ls, sk, h) := zrun_at rfl
theorem zi158_117 {E : zE} {ls sk : List Value} {h : zH} : zrun zpp E 158 (117, ls, sk, h) = zrun zpp E 158 (118, ls, .int 0 :: sk, h) := zg_iconst rfl ci_0
theorem zi158_118 {E : zE} {x : Nat} {v : Value} {ls sk : List Value} {h : zH} : zrun zpp E 158 (118, ls, v :: .ref x :: sk, h) = (zstf [11] 0 h x 13 v).bind (fun h' => zrun zpp E 158 (121, ls, sk, h')) := zg_putf rfl
theorem zi158_121 {E : zE} {x : Nat} {ls sk : List Value} {h : zH} : zrun zpp E 158 (121, .ref x :: ls, sk, h) = zrun zpp E 158 (122, .ref x :: ls, .ref x :: sk, h) := zrun_at rfl
theorem zi158_121n {E : zE} {ls sk : List Value} {h : zH} : zrun zpp E 158 (121, .null :: ls, sk, h) = zrun zpp E 158 (122, .null :: ls, .null :: sk, h) := zrun_at rfl
theorem zi158_122 {E : zE} {x : Nat} {ls sk : List Value} {h : zH} : zrun zpp E 158 (122, ls, .ref x :: sk, h) = zrun zpp E 158 (123, ls, .ref x :: .ref x :: sk, h) := zrun_at rfl
theorem zi158_122i {E : zE} {x : Int32} {ls sk : List Value} {h : zH} : zrun zpp E 158 (122, ls, .int x :: sk, h) = zrun zpp E 158 (123, ls, .int x :: .int x :: sk, h) := zrun_at rfl
theorem zi158_123 {E : zE} {x : Nat} {ls sk : List Value} {h : zH} : zrun zpp E 158 (123, ls, .ref x :: sk, h) = (zfld [11] h x 11).bind (fun v => zrun zpp E 158 (126, ls, v :: sk, h)) := zg_getf rfl
theorem zi158_126 {E : zE} {x : Nat} {ls sk : List Value} {h : zH} : zrun zpp E 158 (126, .ref x :: ls, sk, h) = zrun zpp E 158 (127, .ref x :: ls, .ref x :: sk, h) := zrun_at rfl
theorem zi158_126n {E : zE} {ls sk : List Value} {h : zH} : zrun zpp E 158 (126, .null :: ls, sk, h) = zrun zpp E 158 (127, .null :: ls, .null :: sk, h) := zrun_at rfl
theorem zi158_127 {E : zE} {x : Nat} {ls sk : List Value} {h : zH} : zrun zpp E 158 (127, ls, .ref x :: sk, h) = (zfld [11] h x 11).bind (fun v => zrun zpp E 158 (130, ls, v :: sk, h)) := zg_getf rfl
theorem zi158_130 {E : zE} {x : Nat} {ls sk : List Value} {h : zH} : zrun zpp E 158 (130, .ref x :: ls, sk, h) = zrun zpp E 158 (131, .ref x :: ls, .ref x :: sk, h) := zrun_at rfl
theorem zi158_130n {E : zE} {ls sk : List Value} {h : zH} : zrun zpp E 158 (130, .null :: ls, sk, h) = zrun zpp E 158 (131, .null :: ls, .null :: sk, h) := zrun_at rfl
theorem zi158_131 {E : zE} {x : Nat} {ls sk : List Value} {h : zH} : zrun zpp E 158 (131, ls, .ref x :: sk, h) = (zfld [11] h x 10).bind (fun v => zrun zpp E 158 (134, ls, v :: sk, h)) := zg_getf rfl
theorem zi158_134 {E : zE} {x y : Int32} {ls sk : List Value} {h : zH} : zrun zpp E 158 (134, ls, .int y :: .int x :: sk, h) = if y ≤ x then zrun zpp E 158 (141, ls, sk, h) else zrun zpp E 158 (137, ls, sk, h) := zrun_at rfl
theorem zi158_137 {E : zE} {ls sk : List Value} {h : zH} : zrun zpp E 158 (137, ls, sk, h) = zrun zpp E 158 (138, ls, .int 1 :: sk, h) := zg_iconst rfl ci_1
theorem zi158_138 {E : zE} {ls sk : List Value} {h : zH} : zrun zpp E 158 (138, ls, sk, h) = zrun zpp E 158 (142, ls, sk, h) := zrun_at rfl
theorem zi158_141 {E : zE} {ls sk : List Value} {h : zH} : zrun zpp E 158 (141, ls, sk, h) = zrun zpp E 158 (142, ls, .int 0 :: sk, h) := zg_iconst rfl ci_0
theorem zi158_142 {E : zE} {x y : Int32} {ls sk : List Value} {h : zH} : zrun zpp E 158 (142, ls, .int y :: .int x :: sk, h) = zrun zpp E 158 (143, ls, .int (x + y) :: sk, h) := zrun_at rfl
theorem zi158_143 {E : zE} {x : Nat} {v : Value} {ls sk : List Value} {h : zH} : zrun zpp E 158 (143, ls, v :: .ref x :: sk, h) = (zstf [11] 0 h x 11 v).bind (fun h' => zrun zpp E 158 (146, ls, sk, h')) := zg_putf rfl
theorem zi158_146 {E : zE} {x : Nat} {ls sk : List Value} {h : zH} : zrun zpp E 158 (146, .ref x :: ls, sk, h) = zrun zpp E 158 (147, .ref x :: ls, .ref x :: sk, h) := zrun_at rfl
theorem zi158_146n {E : zE} {ls sk : List Value} {h : zH} : zrun zpp E 158 (146, .null :: ls, sk, h) = zrun zpp E 158 (147, .null :: ls, .null :: sk, h) := zrun_at rfl
theorem zi158_147 {E : zE} {x : Nat} {ls sk : List Value} {h : zH} : zrun zpp E 158 (147, ls, .ref x :: sk, h) = (zfld [11] h x 13).bind (fun v => zrun zpp E 158 (150, ls, v :: sk, h)) := zg_getf rfl
theorem zi158_150 {E : zE} {ls sk : List Value} {h : zH} : zrun zpp E 158 (150, ls, sk, h) = zrun zpp E 158 (151, ls, .int 3 :: sk, h) := zg_iconst rfl ci_3
theorem zi158_151 {E : zE} {x y : Int32} {ls sk : List Value} {h : zH} : zrun zpp E 158 (151, ls, .int y :: .int x :: sk, h) = if x = y then zrun zpp E 158 (154, ls, sk, h) else zrun zpp E 158 (277, ls, sk, h) := zrun_at rfl
theorem zi158_154 {E : zE} {x : Nat} {ls sk : List Value} {h : zH} : zrun zpp E 158 (154, .ref x :: ls, sk, h) = zrun zpp E 158 (155, .ref x :: ls, .ref x :: sk, h) := zrun_at rfl
theorem zi158_154n {E : zE} {ls sk : List Value} {h : zH} : zrun zpp E 158 (154, .null :: ls, sk, h) = zrun zpp E 158 (155, .null :: ls, .null :: sk, h) := zrun_at rfl
theorem zi158_155 {E : zE} {x : Nat} {ls sk : List Value} {h : zH} : zrun zpp E 158 (155, ls, .ref x :: sk, h) = zrun zpp E 158 (156, ls, .ref x :: .ref x :: sk, h) := zrun_at rfl
theorem zi158_155i {E : zE} {x : Int32} {ls sk : List Value} {h : zH} : zrun zpp E 158 (155, ls, .int x :: sk, h) = zrun zpp E 158 (156, ls, .int x :: .int x :: sk, h) := zrun_at rfl
theorem zi158_156 {E : zE} {x : Nat} {ls sk : List Value} {h : zH} : zrun zpp E 158 (156, ls, .ref x :: sk, h) = (zfld [11] h x 14).bind (fun v => zrun zpp E 158 (159, ls, v :: sk, h)) := zg_getf rfl
theorem zi158_159 {E : zE} {ls sk : List Value} {h : zH} : zrun zpp E 158 (159, ls, sk, h) = zrun zpp E 158 (161, ls, .int 48 :: sk, h) := zg_bipush rfl ci_48
theorem zi158_161 {E : zE} {x y : Int32} {ls sk : List Value} {h : zH} : zrun zpp E 158 (161, ls, .int y :: .int x :: sk, h) = zrun zpp E 158 (162, ls, .int (x - y) :: sk, h) := zrun_at rfl
theorem zi158_162 {E : zE} {x : Nat} {v : Value} {ls sk : List Value} {h : zH} : zrun zpp E 158 (162, ls, v :: .ref x :: sk, h) = (zstf [11] 0 h x 14 v).bind (fun h' => zrun zpp E 158 (165, ls, sk, h')) := zg_putf rfl
theorem zi158_165 {E : zE} {x : Nat} {ls sk : List Value} {h : zH} : zrun zpp E 158 (165, .ref x :: ls, sk, h) = zrun zpp E 158 (166, .ref x :: ls, .ref x :: sk, h) := zrun_at rfl
theorem zi158_165n {E : zE} {ls sk : List Value} {h : zH} : zrun zpp E 158 (165, .null :: ls, sk, h) = zrun zpp E 158 (166, .null :: ls, .null :: sk, h) := zrun_at rfl
theorem zi158_166 {E : zE} {x : Nat} {ls sk : List Value} {h : zH} : zrun zpp E 158 (166, ls, .ref x :: sk, h) = (zfld [11] h x 11).bind (fun v => zrun zpp E 158 (169, ls, v :: sk, h)) := zg_getf rfl
theorem zi158_169 {E : zE} {x : Nat} {ls sk : List Value} {h : zH} : zrun zpp E 158 (169, .ref x :: ls, sk, h) = zrun zpp E 158 (170, .ref x :: ls, .ref x :: sk, h) := zrun_at rfl
theorem zi158_169n {E : zE} {ls sk : List Value} {h : zH} : zrun zpp E 158 (169, .null :: ls, sk, h) = zrun zpp E 158 (170, .null :: ls, .null :: sk, h) := zrun_at rfl
theorem zi158_170 {E : zE} {x : Nat} {ls sk : List Value} {h : zH} : zrun zpp E 158 (170, ls, .ref x :: sk, h) = (zfld [11] h x 10).bind (fun v => zrun zpp E 158 (173, ls, v :: sk, h)) := zg_getf rfl
theorem zi158_173 {E : zE} {x y : Int32} {ls sk : List Value} {h : zH} : zrun zpp E 158 (173, ls, .int y :: .int x :: sk, h) = if y ≤ x then zrun zpp E 158 (255, ls, sk, h) else zrun zpp E 158 (176, ls, sk, h) := zrun_at rfl
theorem zi158_176 {E : zE} {x : Nat} {ls sk : List Value} {h : zH} : zrun zpp E 158 (176, .ref x :: ls, sk, h) = zrun zpp E 158 (177, .ref x :: ls, .ref x :: sk, h) := zrun_at rfl
theorem zi158_176n {E : zE} {ls sk : List Value} {h : zH} : zrun zpp E 158 (176, .null :: ls, sk, h) = zrun zpp E 158 (177, .null :: ls, .null :: sk, h) := zrun_at rfl
theorem zi158_177 {E : zE} {x : Nat} {ls sk : List Value} {h : zH} : zrun zpp E 158 (177, ls, .ref x :: sk, h) = (zfld [11] h x 9).bind (fun v => zrun zpp E 158 (180, ls, v :: sk, h)) := zg_getf rfl
theorem zi158_180 {E : zE} {x : Nat} {ls sk : List Value} {h : zH} : zrun zpp E 158 (180, .ref x :: ls, sk, h) = zrun zpp E 158 (181, .ref x :: ls, .ref x :: sk, h) := zrun_at rfl
theorem zi158_180n {E : zE} {ls sk : List Value} {h : zH} : zrun zpp E 158 (180, .null :: ls, sk, h) = zrun zpp E 158 (181, .null :: ls, .null :: sk, h) := zrun_at rfl
theorem zi158_181 {E : zE} {x : Nat} {ls sk : List Value} {h : zH} : zrun zpp E 158 (181, ls, .ref x :: sk, h) = (zfld [11] h x 11).bind (fun v => zrun zpp E 158 (184, ls, v :: sk, h)) := zg_getf rfl
theorem zi158_184 {E : zE} {x : Nat} {i : Int32} {ls sk : List Value} {h : zH} : zrun zpp E 158 (184, ls, .int i :: .ref x :: sk, h) = (zarr 0 h x i).bind (fun v => zrun zpp E 158 (185, ls, .int v :: sk, h)) := zg_iald rfl
theorem zi158_185 {E : zE} {x : Int32} {ls sk : List Value} {h : zH} : zrun zpp E 158 (185, ls, .int x :: sk, h) = zrun zpp E 158 (186, ls, .long x.toInt64 :: sk, h) := zrun_at rfl
theorem zi158_186 {E : zE} {ls sk : List Value} {h : zH} : zrun zpp E 158 (186, ls, sk, h) = zrun zpp E 158 (189, ls, .long 48 :: sk, h) := zg_ldc2_w rfl cj_48
theorem zi158_189 {E : zE} {ls sk : List Value} {h : zH} : zrun zpp E 158 (189, ls, sk, h) = zrun zpp E 158 (192, ls, .long 57 :: sk, h) := zg_ldc2_w rfl cj_57
theorem zi158_192 {E : zE} {a0 a1 a2 : Value} {ls sk : List Value} {h : zH} : zrun zpp E 158 (192, ls, a2 :: a1 :: a0 :: sk, h) = zcl1 E 158 195 149 ls sk [a0, a1, a2] h := zg_inv (as := [a0, a1, a2]) rfl rfl
theorem zi158_195 {E : zE} {x : Int32} {ls sk : List Value} {h : zH} : zrun zpp E 158 (195, ls, .int x :: sk, h) = if x = 0 then zrun zpp E 158 (255, ls, sk, h) else zrun zpp E 158 (198, ls, sk, h) := zrun_at rfl
theorem zi158_198 {E : zE} {x : Nat} {ls sk : List Value} {h : zH} : zrun zpp E 158 (198, .ref x :: ls, sk, h) = zrun zpp E 158 (199, .ref x :: ls, .ref x :: sk, h) := zrun_at rfl
theorem zi158_198n {E : zE} {ls sk : List Value} {h : zH} : zrun zpp E 158 (198, .null :: ls, sk, h) = zrun zpp E 158 (199, .null :: ls, .null :: sk, h) := zrun_at rfl
theorem zi158_199 {E : zE} {x : Nat} {ls sk : List Value} {h : zH} : zrun zpp E 158 (199, .ref x :: ls, sk, h) = zrun zpp E 158 (200, .ref x :: ls, .ref x :: sk, h) := zrun_at rfl
theorem zi158_199n {E : zE} {ls sk : List Value} {h : zH} : zrun zpp E 158 (199, .null :: ls, sk, h) = zrun zpp E 158 (200, .null :: ls, .null :: sk, h) := zrun_at rfl
theorem zi158_200 {E : zE} {x : Nat} {ls sk : List Value} {h : zH} : zrun zpp E 158 (200, ls, .ref x :: sk, h) = (zfld [11] h x 11).bind (fun v => zrun zpp E 158 (203, ls, v :: sk, h)) := zg_getf rfl
theorem zi158_203 {E : zE} {x : Nat} {ls sk : List Value} {h : zH} : zrun zpp E 158 (203, .ref x :: ls, sk, h) = zrun zpp E 158 (204, .ref x :: ls, .ref x :: sk, h) := zrun_at rfl
theorem zi158_203n {E : zE} {ls sk : List Value} {h : zH} : zrun zpp E 158 (203, .null :: ls, sk, h) = zrun zpp E 158 (204, .null :: ls, .null :: sk, h) := zrun_at rfl
theorem zi158_204 {E : zE} {x : Nat} {ls sk : List Value} {h : zH} : zrun zpp E 158 (204, ls, .ref x :: sk, h) = (zfld [11] h x 12).bind (fun v => zrun zpp E 158 (207, ls, v :: sk, h)) := zg_getf rfl
theorem zi158_207 {E : zE} {x y : Int32} {ls sk : List Value} {h : zH} : zrun zpp E 158 (207, ls, .int y :: .int x :: sk, h) = zrun zpp E 158 (208, ls, .int (x - y) :: sk, h) := zrun_at rfl
theorem zi158_208 {E : zE} {ls sk : List Value} {h : zH} : zrun zpp E 158 (208, ls, sk, h) = zrun zpp E 158 (209, ls, .int 2 :: sk, h) := zg_iconst rfl ci_2
theorem zi158_209 {E : zE} {x y : Int32} {ls sk : List Value} {h : zH} : zrun zpp E 158 (209, ls, .int y :: .int x :: sk, h) = if y ≤ x then zrun zpp E 158 (235, ls, sk, h) else zrun zpp E 158 (212, ls, sk, h) := zrun_at rfl
theorem zi158_212 {E : zE} {ls sk : List Value} {h : zH} : zrun zpp E 158 (212, ls, sk, h) = zrun zpp E 158 (214, ls, .int 10 :: sk, h) := zg_bipush rfl ci_10
theorem zi158_214 {E : zE} {x : Nat} {ls sk : List Value} {h : zH} : zrun zpp E 158 (214, .ref x :: ls, sk, h) = zrun zpp E 158 (215, .ref x :: ls, .ref x :: sk, h) := zrun_at rfl
theorem zi158_214n {E : zE} {ls sk : List Value} {h : zH} : zrun zpp E 158 (214, .null :: ls, sk, h) = zrun zpp E 158 (215, .null :: ls, .null :: sk, h) := zrun_at rfl
theorem zi158_215 {E : zE} {x : Nat} {ls sk : List Value} {h : zH} : zrun zpp E 158 (215, ls, .ref x :: sk, h) = (zfld [11] h x 14).bind (fun v => zrun zpp E 158 (218, ls, v :: sk, h)) := zg_getf rfl
theorem zi158_218 {E : zE} {x y : Int32} {ls sk : List Value} {h : zH} : zrun zpp E 158 (218, ls, .int y :: .int x :: sk, h) = zrun zpp E 158 (219, ls, .int (x * y) :: sk, h) := zrun_at rfl
theorem zi158_219 {E : zE} {x : Nat} {ls sk : List Value} {h : zH} : zrun zpp E 158 (219, .ref x :: ls, sk, h) = zrun zpp E 158 (220, .ref x :: ls, .ref x :: sk, h) := zrun_at rfl
theorem zi158_219n {E : zE} {ls sk : List Value} {h : zH} : zrun zpp E 158 (219, .null :: ls, sk, h) = zrun zpp E 158 (220, .null :: ls, .null :: sk, h) := zrun_at rfl
theorem zi158_220 {E : zE} {x : Nat} {ls sk : List Value} {h : zH} : zrun zpp E 158 (220, ls, .ref x :: sk, h) = (zfld [11] h x 9).bind (fun v => zrun zpp E 158 (223, ls, v :: sk, h)) := zg_getf rfl
theorem zi158_223 {E : zE} {x : Nat} {ls sk : List Value} {h : zH} : zrun zpp E 158 (223, .ref x :: ls, sk, h) = zrun zpp E 158 (224, .ref x :: ls, .ref x :: sk, h) := zrun_at rfl
theorem zi158_223n {E : zE} {ls sk : List Value} {h : zH} : zrun zpp E 158 (223, .null :: ls, sk, h) = zrun zpp E 158 (224, .null :: ls, .null :: sk, h) := zrun_at rfl
theorem zi158_224 {E : zE} {x : Nat} {ls sk : List Value} {h : zH} : zrun zpp E 158 (224, ls, .ref x :: sk, h) = (zfld [11] h x 11).bind (fun v => zrun zpp E 158 (227, ls, v :: sk, h)) := zg_getf rfl
theorem zi158_227 {E : zE} {x : Nat} {i : Int32} {ls sk : List Value} {h : zH} : zrun zpp E 158 (227, ls, .int i :: .ref x :: sk, h) = (zarr 0 h x i).bind (fun v => zrun zpp E 158 (228, ls, .int v :: sk, h)) := zg_iald rfl
theorem zi158_228 {E : zE} {x y : Int32} {ls sk : List Value} {h : zH} : zrun zpp E 158 (228, ls, .int y :: .int x :: sk, h) = zrun zpp E 158 (229, ls, .int (x + y) :: sk, h) := zrun_at rfl
theorem zi158_229 {E : zE} {ls sk : List Value} {h : zH} : zrun zpp E 158 (229, ls, sk, h) = zrun zpp E 158 (231, ls, .int 48 :: sk, h) := zg_bipush rfl ci_48
theorem zi158_231 {E : zE} {x y : Int32} {ls sk : List Value} {h : zH} : zrun zpp E 158 (231, ls, .int y :: .int x :: sk, h) = zrun zpp E 158 (232, ls, .int (x - y) :: sk, h) := zrun_at rfl
theorem zi158_232 {E : zE} {ls sk : List Value} {h : zH} : zrun zpp E 158 (232, ls, sk, h) = zrun zpp E 158 (239, ls, sk, h) := zrun_at rfl
theorem zi158_235 {E : zE} {x : Nat} {ls sk : List Value} {h : zH} : zrun zpp E 158 (235, .ref x :: ls, sk, h) = zrun zpp E 158 (236, .ref x :: ls, .ref x :: sk, h) := zrun_at rfl
theorem zi158_235n {E : zE} {ls sk : List Value} {h : zH} : zrun zpp E 158 (235, .null :: ls, sk, h) = zrun zpp E 158 (236, .null :: ls, .null :: sk, h) := zrun_at rfl
theorem zi158_236 {E : zE} {x : Nat} {ls sk : List Value} {h : zH} : zrun zpp E 158 (236, ls, .ref x :: sk, h) = (zfld [11] h x 14).bind (fun v => zrun zpp E 158 (239, ls, v :: sk, h)) := zg_getf rfl
theorem zi158_239 {E : zE} {x : Nat} {v : Value} {ls sk : List Value} {h : zH} : zrun zpp E 158 (239, ls, v :: .ref x :: sk, h) = (zstf [11] 0 h x 14 v).bind (fun h' => zrun zpp E 158 (242, ls, sk, h')) := zg_putf rfl
theorem zi158_242 {E : zE} {x : Nat} {ls sk : List Value} {h : zH} : zrun zpp E 158 (242, .ref x :: ls, sk, h) = zrun zpp E 158 (243, .ref x :: ls, .ref x :: sk, h) := zrun_at rfl
theorem zi158_242n {E : zE} {ls sk : List Value} {h : zH} : zrun zpp E 158 (242, .null :: ls, sk, h) = zrun zpp E 158 (243, .null :: ls, .null :: sk, h) := zrun_at rfl
theorem zi158_243 {E : zE} {x : Nat} {ls sk : List Value} {h : zH} : zrun zpp E 158 (243, ls, .ref x :: sk, h) = zrun zpp E 158 (244, ls, .ref x :: .ref x :: sk, h) := zrun_at rfl
theorem zi158_243i {E : zE} {x : Int32} {ls sk : List Value} {h : zH} : zrun zpp E 158 (243, ls, .int x :: sk, h) = zrun zpp E 158 (244, ls, .int x :: .int x :: sk, h) := zrun_at rfl
theorem zi158_244 {E : zE} {x : Nat} {ls sk : List Value} {h : zH} : zrun zpp E 158 (244, ls, .ref x :: sk, h) = (zfld [11] h x 11).bind (fun v => zrun zpp E 158 (247, ls, v :: sk, h)) := zg_getf rfl
theorem zi158_247 {E : zE} {ls sk : List Value} {h : zH} : zrun zpp E 158 (247, ls, sk, h) = zrun zpp E 158 (248, ls, .int 1 :: sk, h) := zg_iconst rfl ci_1
theorem zi158_248 {E : zE} {x y : Int32} {ls sk : List Value} {h : zH} : zrun zpp E 158 (248, ls, .int y :: .int x :: sk, h) = zrun zpp E 158 (249, ls, .int (x + y) :: sk, h) := zrun_at rfl
theorem zi158_249 {E : zE} {x : Nat} {v : Value} {ls sk : List Value} {h : zH} : zrun zpp E 158 (249, ls, v :: .ref x :: sk, h) = (zstf [11] 0 h x 11 v).bind (fun h' => zrun zpp E 158 (252, ls, sk, h')) := zg_putf rfl
theorem zi158_252 {E : zE} {ls sk : List Value} {h : zH} : zrun zpp E 158 (252, ls, sk, h) = zrun zpp E 158 (165, ls, sk, h) := zrun_at rfl
theorem zi158_255 {E : zE} {x : Nat} {ls sk : List Value} {h : zH} : zrun zpp E 158 (255, .ref x :: ls, sk, h) = zrun zpp E 158 (256, .ref x :: ls, .ref x :: sk, h) := zrun_at rfl
theorem zi158_255n {E : zE} {ls sk : List Value} {h : zH} : zrun zpp E 158 (255, .null :: ls, sk, h) = zrun zpp E 158 (256, .null :: ls, .null :: sk, h) := zrun_at rfl
theorem zi158_256 {E : zE} {x : Nat} {ls sk : List Value} {h : zH} : zrun zpp E 158 (256, .ref x :: ls, sk, h) = zrun zpp E 158 (257, .ref x :: ls, .ref x :: sk, h) := zrun_at rfl
theorem zi158_256n {E : zE} {ls sk : List Value} {h : zH} : zrun zpp E 158 (256, .null :: ls, sk, h) = zrun zpp E 158 (257, .null :: ls, .null :: sk, h) := zrun_at rfl
theorem zi158_257 {E : zE} {x : Nat} {ls sk : List Value} {h : zH} : zrun zpp E 158 (257, ls, .ref x :: sk, h) = (zfld [11] h x 11).bind (fun v => zrun zpp E 158 (260, ls, v :: sk, h)) := zg_getf rfl
theorem zi158_260 {E : zE} {x : Nat} {ls sk : List Value} {h : zH} : zrun zpp E 158 (260, .ref x :: ls, sk, h) = zrun zpp E 158 (261, .ref x :: ls, .ref x :: sk, h) := zrun_at rfl
theorem zi158_260n {E : zE} {ls sk : List Value} {h : zH} : zrun zpp E 158 (260, .null :: ls, sk, h) = zrun zpp E 158 (261, .null :: ls, .null :: sk, h) := zrun_at rfl
theorem zi158_261 {E : zE} {x : Nat} {ls sk : List Value} {h : zH} : zrun zpp E 158 (261, ls, .ref x :: sk, h) = (zfld [11] h x 12).bind (fun v => zrun zpp E 158 (264, ls, v :: sk, h)) := zg_getf rfl
theorem zi158_264 {E : zE} {x y : Int32} {ls sk : List Value} {h : zH} : zrun zpp E 158 (264, ls, .int y :: .int x :: sk, h) = zrun zpp E 158 (265, ls, .int (x - y) :: sk, h) := zrun_at rfl
theorem zi158_265 {E : zE} {ls sk : List Value} {h : zH} : zrun zpp E 158 (265, ls, sk, h) = zrun zpp E 158 (266, ls, .int 2 :: sk, h) := zg_iconst rfl ci_2
theorem zi158_266 {E : zE} {x y : Int32} {ls sk : List Value} {h : zH} : zrun zpp E 158 (266, ls, .int y :: .int x :: sk, h) = if x ≤ y then zrun zpp E 158 (273, ls, sk, h) else zrun zpp E 158 (269, ls, sk, h) := zrun_at rfl
theorem zi158_269 {E : zE} {ls sk : List Value} {h : zH} : zrun zpp E 158 (269, ls, sk, h) = zrun zpp E 158 (270, ls, .int 0 :: sk, h) := zg_iconst rfl ci_0
theorem zi158_270 {E : zE} {ls sk : List Value} {h : zH} : zrun zpp E 158 (270, ls, sk, h) = zrun zpp E 158 (274, ls, sk, h) := zrun_at rfl
theorem zi158_273 {E : zE} {ls sk : List Value} {h : zH} : zrun zpp E 158 (273, ls, sk, h) = zrun zpp E 158 (274, ls, .int 3 :: sk, h) := zg_iconst rfl ci_3
theorem zi158_274 {E : zE} {x : Nat} {v : Value} {ls sk : List Value} {h : zH} : zrun zpp E 158 (274, ls, v :: .ref x :: sk, h) = (zstf [11] 0 h x 13 v).bind (fun h' => zrun zpp E 158 (277, ls, sk, h')) := zg_putf rfl
theorem zi158_277 {E : zE} {ls sk : List Value} {h : zH} : zrun zpp E 158 (277, ls, [], h) = some (none, h) := zrun_at rfl
-- 159 NineDownModel.must
theorem zi159_0 {E : zE} {v0 : Value} {x : Int32} {ls sk : List Value} {h : zH} : zrun zpp E 159 (0, v0 :: .int x :: ls, sk, h) = zrun zpp E 159 (1, v0 :: .int x :: ls, .int x :: sk, h) := zrun_at rfl
theorem zi159_1 {E : zE} {x : Int32} {ls sk : List Value} {h : zH} : zrun zpp E 159 (1, ls, .int x :: sk, h) = if x = 0 then zrun zpp E 159 (4, ls, sk, h) else zrun zpp E 159 (9, ls, sk, h) := zrun_at rfl
theorem zi159_4 {E : zE} {x : Nat} {ls sk : List Value} {h : zH} : zrun zpp E 159 (4, .ref x :: ls, sk, h) = zrun zpp E 159 (5, .ref x :: ls, .ref x :: sk, h) := zrun_at rfl
theorem zi159_4n {E : zE} {ls sk : List Value} {h : zH} : zrun zpp E 159 (4, .null :: ls, sk, h) = zrun zpp E 159 (5, .null :: ls, .null :: sk, h) := zrun_at rfl
theorem zi159_5 {E : zE} {ls sk : List Value} {h : zH} : zrun zpp E 159 (5, ls, sk, h) = zrun zpp E 159 (6, ls, .int 1 :: sk, h) := zg_iconst rfl ci_1
theorem zi159_6 {E : zE} {a0 : Value} {x : Nat} {ls sk : List Value} {h : zH} : zrun zpp E 159 (6, ls, a0 :: .ref x :: sk, h) = (zcls h x).bind (fun d => (zsel d [11, 157]).bind (fun M' => zcl1 E 159 9 M' ls sk [.ref x, a0] h)) := zg_vir (as := [a0]) rfl rfl
theorem zi159_9 {E : zE} {x : Nat} {ls sk : List Value} {h : zH} : zrun zpp E 159 (9, .ref x :: ls, sk, h) = zrun zpp E 159 (10, .ref x :: ls, .ref x :: sk, h) := zrun_at rfl
theorem zi159_9n {E : zE} {ls sk : List Value} {h : zH} : zrun zpp E 159 (9, .null :: ls, sk, h) = zrun zpp E 159 (10, .null :: ls, .null :: sk, h) := zrun_at rfl
theorem zi159_10 {E : zE} {x : Nat} {ls sk : List Value} {h : zH} : zrun zpp E 159 (10, ls, .ref x :: sk, h) = (zfld [11] h x 15).bind (fun v => zrun zpp E 159 (13, ls, v :: sk, h)) := zg_getf rfl
theorem zi159_13 {E : zE} {x : Int32} {ls sk : List Value} {h : zH} : zrun zpp E 159 (13, ls, .int x :: sk, h) = if x = 0 then zrun zpp E 159 (16, ls, sk, h) else zrun zpp E 159 (20, ls, sk, h) := zrun_at rfl
theorem zi159_16 {E : zE} {x : Nat} {ls sk : List Value} {h : zH} : zrun zpp E 159 (16, .ref x :: ls, sk, h) = zrun zpp E 159 (17, .ref x :: ls, .ref x :: sk, h) := zrun_at rfl
theorem zi159_16n {E : zE} {ls sk : List Value} {h : zH} : zrun zpp E 159 (16, .null :: ls, sk, h) = zrun zpp E 159 (17, .null :: ls, .null :: sk, h) := zrun_at rfl
theorem zi159_17 {E : zE} {x : Nat} {ls sk : List Value} {h : zH} : zrun zpp E 159 (17, ls, .ref x :: sk, h) = (zcls h x).bind (fun d => (zsel d [11, 158]).bind (fun M' => zcl1 E 159 20 M' ls sk [.ref x] h)) := zg_vir (as := []) rfl rfl
theorem zi159_20 {E : zE} {ls sk : List Value} {h : zH} : zrun zpp E 159 (20, ls, [], h) = some (none, h) := zrun_at rfl
-- 160 NineDownModel.isLetter
theorem zi160_0 {E : zE} {x : Nat} {ls sk : List Value} {h : zH} : zrun zpp E 160 (0, .ref x :: ls, sk, h) = zrun zpp E 160 (1, .ref x :: ls, .ref x :: sk, h) := zrun_at rfl
theorem zi160_0n {E : zE} {ls sk : List Value} {h : zH} : zrun zpp E 160 (0, .null :: ls, sk, h) = zrun zpp E 160 (1, .null :: ls, .null :: sk, h) := zrun_at rfl
theorem zi160_1 {E : zE} {x : Nat} {ls sk : List Value} {h : zH} : zrun zpp E 160 (1, ls, .ref x :: sk, h) = (zfld [11] h x 15).bind (fun v => zrun zpp E 160 (4, ls, v :: sk, h)) := zg_getf rfl
theorem zi160_4 {E : zE} {x : Int32} {ls sk : List Value} {h : zH} : zrun zpp E 160 (4, ls, .int x :: sk, h) = if x = 0 then zrun zpp E 160 (7, ls, sk, h) else zrun zpp E 160 (27, ls, sk, h) := zrun_at rfl
theorem zi160_7 {E : zE} {x : Nat} {ls sk : List Value} {h : zH} : zrun zpp E 160 (7, .ref x :: ls, sk, h) = zrun zpp E 160 (8, .ref x :: ls, .ref x :: sk, h) := zrun_at rfl
theorem zi160_7n {E : zE} {ls sk : List Value} {h : zH} : zrun zpp E 160 (7, .null :: ls, sk, h) = zrun zpp E 160 (8, .null :: ls, .null :: sk, h) := zrun_at rfl
theorem zi160_8 {E : zE} {x : Nat} {ls sk : List Value} {h : zH} : zrun zpp E 160 (8, ls, .ref x :: sk, h) = (zfld [11] h x 13).bind (fun v => zrun zpp E 160 (11, ls, v :: sk, h)) := zg_getf rfl
theorem zi160_11 {E : zE} {ls sk : List Value} {h : zH} : zrun zpp E 160 (11, ls, sk, h) = zrun zpp E 160 (12, ls, .int 2 :: sk, h) := zg_iconst rfl ci_2
theorem zi160_12 {E : zE} {x y : Int32} {ls sk : List Value} {h : zH} : zrun zpp E 160 (12, ls, .int y :: .int x :: sk, h) = if x = y then zrun zpp E 160 (15, ls, sk, h) else zrun zpp E 160 (27, ls, sk, h) := zrun_at rfl
theorem zi160_15 {E : zE} {x : Nat} {ls sk : List Value} {h : zH} : zrun zpp E 160 (15, .ref x :: ls, sk, h) = zrun zpp E 160 (16, .ref x :: ls, .ref x :: sk, h) := zrun_at rfl
theorem zi160_15n {E : zE} {ls sk : List Value} {h : zH} : zrun zpp E 160 (15, .null :: ls, sk, h) = zrun zpp E 160 (16, .null :: ls, .null :: sk, h) := zrun_at rfl
theorem zi160_16 {E : zE} {x : Nat} {ls sk : List Value} {h : zH} : zrun zpp E 160 (16, ls, .ref x :: sk, h) = (zfld [11] h x 14).bind (fun v => zrun zpp E 160 (19, ls, v :: sk, h)) := zg_getf rfl
theorem zi160_19 {E : zE} {v0 : Value} {x : Int32} {ls sk : List Value} {h : zH} : zrun zpp E 160 (19, v0 :: .int x :: ls, sk, h) = zrun zpp E 160 (20, v0 :: .int x :: ls, .int x :: sk, h) := zrun_at rfl
theorem zi160_20 {E : zE} {x y : Int32} {ls sk : List Value} {h : zH} : zrun zpp E 160 (20, ls, .int y :: .int x :: sk, h) = if x = y then zrun zpp E 160 (23, ls, sk, h) else zrun zpp E 160 (27, ls, sk, h) := zrun_at rfl
theorem zi160_23 {E : zE} {ls sk : List Value} {h : zH} : zrun zpp E 160 (23, ls, sk, h) = zrun zpp E 160 (24, ls, .int 1 :: sk, h) := zg_iconst rfl ci_1
theorem zi160_24 {E : zE} {ls sk : List Value} {h : zH} : zrun zpp E 160 (24, ls, sk, h) = zrun zpp E 160 (28, ls, sk, h) := zrun_at rfl
theorem zi160_27 {E : zE} {ls sk : List Value} {h : zH} : zrun zpp E 160 (27, ls, sk, h) = zrun zpp E 160 (28, ls, .int 0 :: sk, h) := zg_iconst rfl ci_0
theorem zi160_28 {E : zE} {x : Int32} {ls sk : List Value} {h : zH} : zrun zpp E 160 (28, ls, [.int x], h) = if x = 0 then some (some (.int 0), h) else if x = 1 then some (some (.int 1), h) else none := zrun_at rfl
-- 161 NineDownModel.number
theorem zi161_0 {E : zE} {x : Nat} {ls sk : List Value} {h : zH} : zrun zpp E 161 (0, .ref x :: ls, sk, h) = zrun zpp E 161 (1, .ref x :: ls, .ref x :: sk, h) := zrun_at rfl
theorem zi161_0n {E : zE} {ls sk : List Value} {h : zH} : zrun zpp E 161 (0, .null :: ls, sk, h) = zrun zpp E 161 (1, .null :: ls, .null :: sk, h) := zrun_at rfl
theorem zi161_1 {E : zE} {x : Nat} {ls sk : List Value} {h : zH} : zrun zpp E 161 (1, ls, .ref x :: sk, h) = (zfld [11] h x 15).bind (fun v => zrun zpp E 161 (4, ls, v :: sk, h)) := zg_getf rfl
theorem zi161_4 {E : zE} {x : Int32} {ls sk : List Value} {h : zH} : zrun zpp E 161 (4, ls, .int x :: sk, h) = if x = 0 then zrun zpp E 161 (7, ls, sk, h) else zrun zpp E 161 (20, ls, sk, h) := zrun_at rfl
theorem zi161_7 {E : zE} {x : Nat} {ls sk : List Value} {h : zH} : zrun zpp E 161 (7, .ref x :: ls, sk, h) = zrun zpp E 161 (8, .ref x :: ls, .ref x :: sk, h) := zrun_at rfl
theorem zi161_7n {E : zE} {ls sk : List Value} {h : zH} : zrun zpp E 161 (7, .null :: ls, sk, h) = zrun zpp E 161 (8, .null :: ls, .null :: sk, h) := zrun_at rfl
theorem zi161_8 {E : zE} {x : Nat} {ls sk : List Value} {h : zH} : zrun zpp E 161 (8, ls, .ref x :: sk, h) = (zfld [11] h x 13).bind (fun v => zrun zpp E 161 (11, ls, v :: sk, h)) := zg_getf rfl
theorem zi161_11 {E : zE} {ls sk : List Value} {h : zH} : zrun zpp E 161 (11, ls, sk, h) = zrun zpp E 161 (12, ls, .int 3 :: sk, h) := zg_iconst rfl ci_3
theorem zi161_12 {E : zE} {x y : Int32} {ls sk : List Value} {h : zH} : zrun zpp E 161 (12, ls, .int y :: .int x :: sk, h) = if x = y then zrun zpp E 161 (20, ls, sk, h) else zrun zpp E 161 (15, ls, sk, h) := zrun_at rfl
theorem zi161_15 {E : zE} {x : Nat} {ls sk : List Value} {h : zH} : zrun zpp E 161 (15, .ref x :: ls, sk, h) = zrun zpp E 161 (16, .ref x :: ls, .ref x :: sk, h) := zrun_at rfl
theorem zi161_15n {E : zE} {ls sk : List Value} {h : zH} : zrun zpp E 161 (15, .null :: ls, sk, h) = zrun zpp E 161 (16, .null :: ls, .null :: sk, h) := zrun_at rfl
theorem zi161_16 {E : zE} {ls sk : List Value} {h : zH} : zrun zpp E 161 (16, ls, sk, h) = zrun zpp E 161 (17, ls, .int 1 :: sk, h) := zg_iconst rfl ci_1
theorem zi161_17 {E : zE} {a0 : Value} {x : Nat} {ls sk : List Value} {h : zH} : zrun zpp E 161 (17, ls, a0 :: .ref x :: sk, h) = (zcls h x).bind (fun d => (zsel d [11, 157]).bind (fun M' => zcl1 E 161 20 M' ls sk [.ref x, a0] h)) := zg_vir (as := [a0]) rfl rfl
theorem zi161_20 {E : zE} {x : Nat} {ls sk : List Value} {h : zH} : zrun zpp E 161 (20, .ref x :: ls, sk, h) = zrun zpp E 161 (21, .ref x :: ls, .ref x :: sk, h) := zrun_at rfl
theorem zi161_20n {E : zE} {ls sk : List Value} {h : zH} : zrun zpp E 161 (20, .null :: ls, sk, h) = zrun zpp E 161 (21, .null :: ls, .null :: sk, h) := zrun_at rfl
theorem zi161_21 {E : zE} {x : Nat} {ls sk : List Value} {h : zH} : zrun zpp E 161 (21, ls, .ref x :: sk, h) = (zfld [11] h x 15).bind (fun v => zrun zpp E 161 (24, ls, v :: sk, h)) := zg_getf rfl
theorem zi161_24 {E : zE} {x : Int32} {ls sk : List Value} {h : zH} : zrun zpp E 161 (24, ls, .int x :: sk, h) = if x = 0 then zrun zpp E 161 (27, ls, sk, h) else zrun zpp E 161 (47, ls, sk, h) := zrun_at rfl
theorem zi161_27 {E : zE} {x : Nat} {ls sk : List Value} {h : zH} : zrun zpp E 161 (27, .ref x :: ls, sk, h) = zrun zpp E 161 (28, .ref x :: ls, .ref x :: sk, h) := zrun_at rfl
theorem zi161_27n {E : zE} {ls sk : List Value} {h : zH} : zrun zpp E 161 (27, .null :: ls, sk, h) = zrun zpp E 161 (28, .null :: ls, .null :: sk, h) := zrun_at rfl
theorem zi161_28 {E : zE} {x : Nat} {ls sk : List Value} {h : zH} : zrun zpp E 161 (28, ls, .ref x :: sk, h) = (zfld [11] h x 14).bind (fun v => zrun zpp E 161 (31, ls, v :: sk, h)) := zg_getf rfl
theorem zi161_31 {E : zE} {x : Int32} {ls sk : List Value} {h : zH} : zrun zpp E 161 (31, ls, .int x :: sk, h) = zrun zpp E 161 (32, ls, .long x.toInt64 :: sk, h) := zrun_at rfl
theorem zi161_32 {E : zE} {v0 : Value} {x : Int32} {ls sk : List Value} {h : zH} : zrun zpp E 161 (32, v0 :: .int x :: ls, sk, h) = zrun zpp E 161 (33, v0 :: .int x :: ls, .int x :: sk, h) := zrun_at rfl
theorem zi161_33 {E : zE} {x : Int32} {ls sk : List Value} {h : zH} : zrun zpp E 161 (33, ls, .int x :: sk, h) = zrun zpp E 161 (34, ls, .long x.toInt64 :: sk, h) := zrun_at rfl
theorem zi161_34 {E : zE} {v0 v1 : Value} {x : Int32} {ls sk : List Value} {h : zH} : zrun zpp E 161 (34, v0 :: v1 :: .int x :: ls, sk, h) = zrun zpp E 161 (35, v0 :: v1 :: .int x :: ls, .int x :: sk, h) := zrun_at rfl
theorem zi161_35 {E : zE} {x : Int32} {ls sk : List Value} {h : zH} : zrun zpp E 161 (35, ls, .int x :: sk, h) = zrun zpp E 161 (36, ls, .long x.toInt64 :: sk, h) := zrun_at rfl
theorem zi161_36 {E : zE} {a0 a1 a2 : Value} {ls sk : List Value} {h : zH} : zrun zpp E 161 (36, ls, a2 :: a1 :: a0 :: sk, h) = zcl1 E 161 39 149 ls sk [a0, a1, a2] h := zg_inv (as := [a0, a1, a2]) rfl rfl
theorem zi161_39 {E : zE} {x : Int32} {ls sk : List Value} {h : zH} : zrun zpp E 161 (39, ls, .int x :: sk, h) = if x = 0 then zrun zpp E 161 (42, ls, sk, h) else zrun zpp E 161 (47, ls, sk, h) := zrun_at rfl
theorem zi161_42 {E : zE} {x : Nat} {ls sk : List Value} {h : zH} : zrun zpp E 161 (42, .ref x :: ls, sk, h) = zrun zpp E 161 (43, .ref x :: ls, .ref x :: sk, h) := zrun_at rfl
theorem zi161_42n {E : zE} {ls sk : List Value} {h : zH} : zrun zpp E 161 (42, .null :: ls, sk, h) = zrun zpp E 161 (43, .null :: ls, .null :: sk, h) := zrun_at rfl
theorem zi161_43 {E : zE} {ls sk : List Value} {h : zH} : zrun zpp E 161 (43, ls, sk, h) = zrun zpp E 161 (44, ls, .int 2 :: sk, h) := zg_iconst rfl ci_2
theorem zi161_44 {E : zE} {a0 : Value} {x : Nat} {ls sk : List Value} {h : zH} : zrun zpp E 161 (44, ls, a0 :: .ref x :: sk, h) = (zcls h x).bind (fun d => (zsel d [11, 157]).bind (fun M' => zcl1 E 161 47 M' ls sk [.ref x, a0] h)) := zg_vir (as := [a0]) rfl rfl
theorem zi161_47 {E : zE} {x : Nat} {ls sk : List Value} {h : zH} : zrun zpp E 161 (47, .ref x :: ls, sk, h) = zrun zpp E 161 (48, .ref x :: ls, .ref x :: sk, h) := zrun_at rfl
theorem zi161_47n {E : zE} {ls sk : List Value} {h : zH} : zrun zpp E 161 (47, .null :: ls, sk, h) = zrun zpp E 161 (48, .null :: ls, .null :: sk, h) := zrun_at rfl
theorem zi161_48 {E : zE} {x : Nat} {ls sk : List Value} {h : zH} : zrun zpp E 161 (48, ls, .ref x :: sk, h) = (zfld [11] h x 15).bind (fun v => zrun zpp E 161 (51, ls, v :: sk, h)) := zg_getf rfl
theorem zi161_51 {E : zE} {x : Int32} {ls sk : List Value} {h : zH} : zrun zpp E 161 (51, ls, .int x :: sk, h) = if x = 0 then zrun zpp E 161 (54, ls, sk, h) else zrun zpp E 161 (61, ls, sk, h) := zrun_at rfl
theorem zi161_54 {E : zE} {x : Nat} {ls sk : List Value} {h : zH} : zrun zpp E 161 (54, .ref x :: ls, sk, h) = zrun zpp E 161 (55, .ref x :: ls, .ref x :: sk, h) := zrun_at rfl
theorem zi161_54n {E : zE} {ls sk : List Value} {h : zH} : zrun zpp E 161 (54, .null :: ls, sk, h) = zrun zpp E 161 (55, .null :: ls, .null :: sk, h) := zrun_at rfl
theorem zi161_55 {E : zE} {x : Nat} {ls sk : List Value} {h : zH} : zrun zpp E 161 (55, ls, .ref x :: sk, h) = (zfld [11] h x 14).bind (fun v => zrun zpp E 161 (58, ls, v :: sk, h)) := zg_getf rfl
theorem zi161_58 {E : zE} {ls sk : List Value} {h : zH} : zrun zpp E 161 (58, ls, sk, h) = zrun zpp E 161 (62, ls, sk, h) := zrun_at rfl
theorem zi161_61 {E : zE} {v0 : Value} {x : Int32} {ls sk : List Value} {h : zH} : zrun zpp E 161 (61, v0 :: .int x :: ls, sk, h) = zrun zpp E 161 (62, v0 :: .int x :: ls, .int x :: sk, h) := zrun_at rfl
theorem zi161_62 {E : zE} {x : Int32} {ls sk : List Value} {h : zH} : zrun zpp E 161 (62, ls, .int x :: sk, h) = if zfree ls 3 = true then zrun zpp E 161 (63, ls.set 3 (.int x), sk, h) else none := zg_ist rfl (fun _ _ _ => rfl)
theorem zi161_63 {E : zE} {x : Nat} {ls sk : List Value} {h : zH} : zrun zpp E 161 (63, .ref x :: ls, sk, h) = zrun zpp E 161 (64, .ref x :: ls, .ref x :: sk, h) := zrun_at rfl
theorem zi161_63n {E : zE} {ls sk : List Value} {h : zH} : zrun zpp E 161 (63, .null :: ls, sk, h) = zrun zpp E 161 (64, .null :: ls, .null :: sk, h) := zrun_at rfl
theorem zi161_64 {E : zE} {ls sk : List Value} {h : zH} : zrun zpp E 161 (64, ls, sk, h) = zrun zpp E 161 (65, ls, .int 1 :: sk, h) := zg_iconst rfl ci_1
theorem zi161_65 {E : zE} {a0 : Value} {x : Nat} {ls sk : List Value} {h : zH} : zrun zpp E 161 (65, ls, a0 :: .ref x :: sk, h) = (zcls h x).bind (fun d => (zsel d [11, 159]).bind (fun M' => zcl1 E 161 68 M' ls sk [.ref x, a0] h)) := zg_vir (as := [a0]) rfl rfl
theorem zi161_68 {E : zE} {v0 v1 v2 : Value} {x : Int32} {ls sk : List Value} {h : zH} : zrun zpp E 161 (68, v0 :: v1 :: v2 :: .int x :: ls, sk, h) = zrun zpp E 161 (69, v0 :: v1 :: v2 :: .int x :: ls, .int x :: sk, h) := zrun_at rfl
theorem zi161_69 {E : zE} {x : Int32} {ls sk : List Value} {h : zH} : zrun zpp E 161 (69, ls, [.int x], h) = some (some (.int x), h) := zrun_at rfl
-- 162 NineDownModel.mustSign
theorem zi162_0 {E : zE} {x : Nat} {ls sk : List Value} {h : zH} : zrun zpp E 162 (0, .ref x :: ls, sk, h) = zrun zpp E 162 (1, .ref x :: ls, .ref x :: sk, h) := zrun_at rfl
theorem zi162_0n {E : zE} {ls sk : List Value} {h : zH} : zrun zpp E 162 (0, .null :: ls, sk, h) = zrun zpp E 162 (1, .null :: ls, .null :: sk, h) := zrun_at rfl
theorem zi162_1 {E : zE} {x : Nat} {ls sk : List Value} {h : zH} : zrun zpp E 162 (1, .ref x :: ls, sk, h) = zrun zpp E 162 (2, .ref x :: ls, .ref x :: sk, h) := zrun_at rfl
theorem zi162_1n {E : zE} {ls sk : List Value} {h : zH} : zrun zpp E 162 (1, .null :: ls, sk, h) = zrun zpp E 162 (2, .null :: ls, .null :: sk, h) := zrun_at rfl
theorem zi162_2 {E : zE} {x : Nat} {ls sk : List Value} {h : zH} : zrun zpp E 162 (2, ls, .ref x :: sk, h) = (zfld [11] h x 13).bind (fun v => zrun zpp E 162 (5, ls, v :: sk, h)) := zg_getf rfl
theorem zi162_5 {E : zE} {ls sk : List Value} {h : zH} : zrun zpp E 162 (5, ls, sk, h) = zrun zpp E 162 (6, ls, .int 4 :: sk, h) := zg_iconst rfl ci_4
theorem zi162_6 {E : zE} {x y : Int32} {ls sk : List Value} {h : zH} : zrun zpp E 162 (6, ls, .int y :: .int x :: sk, h) = if x = y then zrun zpp E 162 (9, ls, sk, h) else zrun zpp E 162 (21, ls, sk, h) := zrun_at rfl
theorem zi162_9 {E : zE} {x : Nat} {ls sk : List Value} {h : zH} : zrun zpp E 162 (9, .ref x :: ls, sk, h) = zrun zpp E 162 (10, .ref x :: ls, .ref x :: sk, h) := zrun_at rfl
theorem zi162_9n {E : zE} {ls sk : List Value} {h : zH} : zrun zpp E 162 (9, .null :: ls, sk, h) = zrun zpp E 162 (10, .null :: ls, .null :: sk, h) := zrun_at rfl
theorem zi162_10 {E : zE} {x : Nat} {ls sk : List Value} {h : zH} : zrun zpp E 162 (10, ls, .ref x :: sk, h) = (zfld [11] h x 14).bind (fun v => zrun zpp E 162 (13, ls, v :: sk, h)) := zg_getf rfl
theorem zi162_13 {E : zE} {v0 : Value} {x : Int32} {ls sk : List Value} {h : zH} : zrun zpp E 162 (13, v0 :: .int x :: ls, sk, h) = zrun zpp E 162 (14, v0 :: .int x :: ls, .int x :: sk, h) := zrun_at rfl
theorem zi162_14 {E : zE} {x y : Int32} {ls sk : List Value} {h : zH} : zrun zpp E 162 (14, ls, .int y :: .int x :: sk, h) = if x = y then zrun zpp E 162 (17, ls, sk, h) else zrun zpp E 162 (21, ls, sk, h) := zrun_at rfl
theorem zi162_17 {E : zE} {ls sk : List Value} {h : zH} : zrun zpp E 162 (17, ls, sk, h) = zrun zpp E 162 (18, ls, .int 1 :: sk, h) := zg_iconst rfl ci_1
theorem zi162_18 {E : zE} {ls sk : List Value} {h : zH} : zrun zpp E 162 (18, ls, sk, h) = zrun zpp E 162 (22, ls, sk, h) := zrun_at rfl
theorem zi162_21 {E : zE} {ls sk : List Value} {h : zH} : zrun zpp E 162 (21, ls, sk, h) = zrun zpp E 162 (22, ls, .int 0 :: sk, h) := zg_iconst rfl ci_0
theorem zi162_22 {E : zE} {a0 : Value} {x : Nat} {ls sk : List Value} {h : zH} : zrun zpp E 162 (22, ls, a0 :: .ref x :: sk, h) = (zcls h x).bind (fun d => (zsel d [11, 159]).bind (fun M' => zcl1 E 162 25 M' ls sk [.ref x, a0] h)) := zg_vir (as := [a0]) rfl rfl
theorem zi162_25 {E : zE} {ls sk : List Value} {h : zH} : zrun zpp E 162 (25, ls, [], h) = some (none, h) := zrun_at rfl
-- 163 NineDownModel.begin
theorem zi163_0 {E : zE} {x : Nat} {ls sk : List Value} {h : zH} : zrun zpp E 163 (0, .ref x :: ls, sk, h) = zrun zpp E 163 (1, .ref x :: ls, .ref x :: sk, h) := zrun_at rfl
theorem zi163_0n {E : zE} {ls sk : List Value} {h : zH} : zrun zpp E 163 (0, .null :: ls, sk, h) = zrun zpp E 163 (1, .null :: ls, .null :: sk, h) := zrun_at rfl
theorem zi163_1 {E : zE} {ls sk : List Value} {h : zH} : zrun zpp E 163 (1, ls, sk, h) = zrun zpp E 163 (2, ls, .int 0 :: sk, h) := zg_iconst rfl ci_0
theorem zi163_2 {E : zE} {x : Nat} {v : Value} {ls sk : List Value} {h : zH} : zrun zpp E 163 (2, ls, v :: .ref x :: sk, h) = (zstf [11] 0 h x 11 v).bind (fun h' => zrun zpp E 163 (5, ls, sk, h')) := zg_putf rfl
theorem zi163_5 {E : zE} {x : Nat} {ls sk : List Value} {h : zH} : zrun zpp E 163 (5, .ref x :: ls, sk, h) = zrun zpp E 163 (6, .ref x :: ls, .ref x :: sk, h) := zrun_at rfl
theorem zi163_5n {E : zE} {ls sk : List Value} {h : zH} : zrun zpp E 163 (5, .null :: ls, sk, h) = zrun zpp E 163 (6, .null :: ls, .null :: sk, h) := zrun_at rfl
theorem zi163_6 {E : zE} {ls sk : List Value} {h : zH} : zrun zpp E 163 (6, ls, sk, h) = zrun zpp E 163 (7, ls, .int 0 :: sk, h) := zg_iconst rfl ci_0
theorem zi163_7 {E : zE} {x : Nat} {v : Value} {ls sk : List Value} {h : zH} : zrun zpp E 163 (7, ls, v :: .ref x :: sk, h) = (zstf [11] 0 h x 15 v).bind (fun h' => zrun zpp E 163 (10, ls, sk, h')) := zg_putf rfl
theorem zi163_10 {E : zE} {x : Nat} {ls sk : List Value} {h : zH} : zrun zpp E 163 (10, .ref x :: ls, sk, h) = zrun zpp E 163 (11, .ref x :: ls, .ref x :: sk, h) := zrun_at rfl
theorem zi163_10n {E : zE} {ls sk : List Value} {h : zH} : zrun zpp E 163 (10, .null :: ls, sk, h) = zrun zpp E 163 (11, .null :: ls, .null :: sk, h) := zrun_at rfl
theorem zi163_11 {E : zE} {x : Nat} {ls sk : List Value} {h : zH} : zrun zpp E 163 (11, ls, .ref x :: sk, h) = (zcls h x).bind (fun d => (zsel d [11, 158]).bind (fun M' => zcl1 E 163 14 M' ls sk [.ref x] h)) := zg_vir (as := []) rfl rfl
theorem zi163_14 {E : zE} {ls sk : List Value} {h : zH} : zrun zpp E 163 (14, ls, [], h) = some (none, h) := zrun_at rfl
-- 164 NineDownModel.failed
theorem zi164_0 {E : zE} {x : Nat} {ls sk : List Value} {h : zH} : zrun zpp E 164 (0, .ref x :: ls, sk, h) = zrun zpp E 164 (1, .ref x :: ls, .ref x :: sk, h) := zrun_at rfl
theorem zi164_0n {E : zE} {ls sk : List Value} {h : zH} : zrun zpp E 164 (0, .null :: ls, sk, h) = zrun zpp E 164 (1, .null :: ls, .null :: sk, h) := zrun_at rfl
theorem zi164_1 {E : zE} {x : Nat} {ls sk : List Value} {h : zH} : zrun zpp E 164 (1, ls, .ref x :: sk, h) = (zfld [11] h x 15).bind (fun v => zrun zpp E 164 (4, ls, v :: sk, h)) := zg_getf rfl
theorem zi164_4 {E : zE} {x : Int32} {ls sk : List Value} {h : zH} : zrun zpp E 164 (4, ls, .int x :: sk, h) = if x = 0 then zrun zpp E 164 (7, ls, sk, h) else zrun zpp E 164 (20, ls, sk, h) := zrun_at rfl
theorem zi164_7 {E : zE} {x : Nat} {ls sk : List Value} {h : zH} : zrun zpp E 164 (7, .ref x :: ls, sk, h) = zrun zpp E 164 (8, .ref x :: ls, .ref x :: sk, h) := zrun_at rfl
theorem zi164_7n {E : zE} {ls sk : List Value} {h : zH} : zrun zpp E 164 (7, .null :: ls, sk, h) = zrun zpp E 164 (8, .null :: ls, .null :: sk, h) := zrun_at rfl
theorem zi164_8 {E : zE} {x : Nat} {ls sk : List Value} {h : zH} : zrun zpp E 164 (8, ls, .ref x :: sk, h) = (zfld [11] h x 13).bind (fun v => zrun zpp E 164 (11, ls, v :: sk, h)) := zg_getf rfl
theorem zi164_11 {E : zE} {ls sk : List Value} {h : zH} : zrun zpp E 164 (11, ls, sk, h) = zrun zpp E 164 (12, ls, .int 1 :: sk, h) := zg_iconst rfl ci_1
theorem zi164_12 {E : zE} {x y : Int32} {ls sk : List Value} {h : zH} : zrun zpp E 164 (12, ls, .int y :: .int x :: sk, h) = if x = y then zrun zpp E 164 (20, ls, sk, h) else zrun zpp E 164 (15, ls, sk, h) := zrun_at rfl
theorem zi164_15 {E : zE} {x : Nat} {ls sk : List Value} {h : zH} : zrun zpp E 164 (15, .ref x :: ls, sk, h) = zrun zpp E 164 (16, .ref x :: ls, .ref x :: sk, h) := zrun_at rfl
theorem zi164_15n {E : zE} {ls sk : List Value} {h : zH} : zrun zpp E 164 (15, .null :: ls, sk, h) = zrun zpp E 164 (16, .null :: ls, .null :: sk, h) := zrun_at rfl
theorem zi164_16 {E : zE} {ls sk : List Value} {h : zH} : zrun zpp E 164 (16, ls, sk, h) = zrun zpp E 164 (17, ls, .int 1 :: sk, h) := zg_iconst rfl ci_1
theorem zi164_17 {E : zE} {a0 : Value} {x : Nat} {ls sk : List Value} {h : zH} : zrun zpp E 164 (17, ls, a0 :: .ref x :: sk, h) = (zcls h x).bind (fun d => (zsel d [11, 157]).bind (fun M' => zcl1 E 164 20 M' ls sk [.ref x, a0] h)) := zg_vir (as := [a0]) rfl rfl
theorem zi164_20 {E : zE} {x : Nat} {ls sk : List Value} {h : zH} : zrun zpp E 164 (20, .ref x :: ls, sk, h) = zrun zpp E 164 (21, .ref x :: ls, .ref x :: sk, h) := zrun_at rfl
theorem zi164_20n {E : zE} {ls sk : List Value} {h : zH} : zrun zpp E 164 (20, .null :: ls, sk, h) = zrun zpp E 164 (21, .null :: ls, .null :: sk, h) := zrun_at rfl
theorem zi164_21 {E : zE} {ls sk : List Value} {h : zH} : zrun zpp E 164 (21, ls, sk, h) = zrun zpp E 164 (22, ls, .int 0 :: sk, h) := zg_iconst rfl ci_0
theorem zi164_22 {E : zE} {x : Nat} {v : Value} {ls sk : List Value} {h : zH} : zrun zpp E 164 (22, ls, v :: .ref x :: sk, h) = (zstf [11] 0 h x 10 v).bind (fun h' => zrun zpp E 164 (25, ls, sk, h')) := zg_putf rfl
theorem zi164_25 {E : zE} {x : Nat} {ls sk : List Value} {h : zH} : zrun zpp E 164 (25, .ref x :: ls, sk, h) = zrun zpp E 164 (26, .ref x :: ls, .ref x :: sk, h) := zrun_at rfl
theorem zi164_25n {E : zE} {ls sk : List Value} {h : zH} : zrun zpp E 164 (25, .null :: ls, sk, h) = zrun zpp E 164 (26, .null :: ls, .null :: sk, h) := zrun_at rfl
theorem zi164_26 {E : zE} {x : Nat} {ls sk : List Value} {h : zH} : zrun zpp E 164 (26, .ref x :: ls, sk, h) = zrun zpp E 164 (27, .ref x :: ls, .ref x :: sk, h) := zrun_at rfl
theorem zi164_26n {E : zE} {ls sk : List Value} {h : zH} : zrun zpp E 164 (26, .null :: ls, sk, h) = zrun zpp E 164 (27, .null :: ls, .null :: sk, h) := zrun_at rfl
theorem zi164_27 {E : zE} {x : Nat} {ls sk : List Value} {h : zH} : zrun zpp E 164 (27, ls, .ref x :: sk, h) = (zfld [11] h x 15).bind (fun v => zrun zpp E 164 (30, ls, v :: sk, h)) := zg_getf rfl
theorem zi164_30 {E : zE} {x : Int32} {ls sk : List Value} {h : zH} : zrun zpp E 164 (30, ls, .int x :: sk, h) = if x ≤ 0 then zrun zpp E 164 (40, ls, sk, h) else zrun zpp E 164 (33, ls, sk, h) := zrun_at rfl
theorem zi164_33 {E : zE} {x : Nat} {ls sk : List Value} {h : zH} : zrun zpp E 164 (33, .ref x :: ls, sk, h) = zrun zpp E 164 (34, .ref x :: ls, .ref x :: sk, h) := zrun_at rfl
theorem zi164_33n {E : zE} {ls sk : List Value} {h : zH} : zrun zpp E 164 (33, .null :: ls, sk, h) = zrun zpp E 164 (34, .null :: ls, .null :: sk, h) := zrun_at rfl
theorem zi164_34 {E : zE} {x : Nat} {ls sk : List Value} {h : zH} : zrun zpp E 164 (34, ls, .ref x :: sk, h) = (zfld [11] h x 15).bind (fun v => zrun zpp E 164 (37, ls, v :: sk, h)) := zg_getf rfl
theorem zi164_37 {E : zE} {ls sk : List Value} {h : zH} : zrun zpp E 164 (37, ls, sk, h) = zrun zpp E 164 (44, ls, sk, h) := zrun_at rfl
theorem zi164_40 {E : zE} {x : Nat} {ls sk : List Value} {h : zH} : zrun zpp E 164 (40, .ref x :: ls, sk, h) = zrun zpp E 164 (41, .ref x :: ls, .ref x :: sk, h) := zrun_at rfl
theorem zi164_40n {E : zE} {ls sk : List Value} {h : zH} : zrun zpp E 164 (40, .null :: ls, sk, h) = zrun zpp E 164 (41, .null :: ls, .null :: sk, h) := zrun_at rfl
theorem zi164_41 {E : zE} {x : Nat} {ls sk : List Value} {h : zH} : zrun zpp E 164 (41, ls, .ref x :: sk, h) = (zfld [11] h x 17).bind (fun v => zrun zpp E 164 (44, ls, v :: sk, h)) := zg_getf rfl
theorem zi164_44 {E : zE} {x : Nat} {v : Value} {ls sk : List Value} {h : zH} : zrun zpp E 164 (44, ls, v :: .ref x :: sk, h) = (zstf [11] 0 h x 17 v).bind (fun h' => zrun zpp E 164 (47, ls, sk, h')) := zg_putf rfl
theorem zi164_47 {E : zE} {x : Nat} {ls sk : List Value} {h : zH} : zrun zpp E 164 (47, .ref x :: ls, sk, h) = zrun zpp E 164 (48, .ref x :: ls, .ref x :: sk, h) := zrun_at rfl
theorem zi164_47n {E : zE} {ls sk : List Value} {h : zH} : zrun zpp E 164 (47, .null :: ls, sk, h) = zrun zpp E 164 (48, .null :: ls, .null :: sk, h) := zrun_at rfl
theorem zi164_48 {E : zE} {x : Nat} {ls sk : List Value} {h : zH} : zrun zpp E 164 (48, ls, .ref x :: sk, h) = (zfld [11] h x 15).bind (fun v => zrun zpp E 164 (51, ls, v :: sk, h)) := zg_getf rfl
theorem zi164_51 {E : zE} {x : Int32} {ls sk : List Value} {h : zH} : zrun zpp E 164 (51, ls, .int x :: sk, h) = if x ≤ 0 then zrun zpp E 164 (58, ls, sk, h) else zrun zpp E 164 (54, ls, sk, h) := zrun_at rfl
theorem zi164_54 {E : zE} {ls sk : List Value} {h : zH} : zrun zpp E 164 (54, ls, sk, h) = zrun zpp E 164 (55, ls, .int 1 :: sk, h) := zg_iconst rfl ci_1
theorem zi164_55 {E : zE} {ls sk : List Value} {h : zH} : zrun zpp E 164 (55, ls, sk, h) = zrun zpp E 164 (59, ls, sk, h) := zrun_at rfl
theorem zi164_58 {E : zE} {ls sk : List Value} {h : zH} : zrun zpp E 164 (58, ls, sk, h) = zrun zpp E 164 (59, ls, .int 0 :: sk, h) := zg_iconst rfl ci_0
theorem zi164_59 {E : zE} {x : Int32} {ls sk : List Value} {h : zH} : zrun zpp E 164 (59, ls, [.int x], h) = if x = 0 then some (some (.int 0), h) else if x = 1 then some (some (.int 1), h) else none := zrun_at rfl
-- 165 NineDownModel.fault
theorem zi165_0 {E : zE} {x : Nat} {ls sk : List Value} {h : zH} : zrun zpp E 165 (0, .ref x :: ls, sk, h) = zrun zpp E 165 (1, .ref x :: ls, .ref x :: sk, h) := zrun_at rfl
theorem zi165_0n {E : zE} {ls sk : List Value} {h : zH} : zrun zpp E 165 (0, .null :: ls, sk, h) = zrun zpp E 165 (1, .null :: ls, .null :: sk, h) := zrun_at rfl
theorem zi165_1 {E : zE} {ls sk : List Value} {h : zH} : zrun zpp E 165 (1, ls, sk, h) = zrun zpp E 165 (2, ls, .int 0 :: sk, h) := zg_iconst rfl ci_0
theorem zi165_2 {E : zE} {x : Nat} {v : Value} {ls sk : List Value} {h : zH} : zrun zpp E 165 (2, ls, v :: .ref x :: sk, h) = (zstf [11] 0 h x 0 v).bind (fun h' => zrun zpp E 165 (5, ls, sk, h')) := zg_putf rfl
theorem zi165_5 {E : zE} {x : Nat} {ls sk : List Value} {h : zH} : zrun zpp E 165 (5, .ref x :: ls, sk, h) = zrun zpp E 165 (6, .ref x :: ls, .ref x :: sk, h) := zrun_at rfl
theorem zi165_5n {E : zE} {ls sk : List Value} {h : zH} : zrun zpp E 165 (5, .null :: ls, sk, h) = zrun zpp E 165 (6, .null :: ls, .null :: sk, h) := zrun_at rfl
theorem zi165_6 {E : zE} {x : Nat} {ls sk : List Value} {h : zH} : zrun zpp E 165 (6, ls, .ref x :: sk, h) = (zfld [11] h x 17).bind (fun v => zrun zpp E 165 (9, ls, v :: sk, h)) := zg_getf rfl
theorem zi165_9 {E : zE} {x : Int32} {ls sk : List Value} {h : zH} : zrun zpp E 165 (9, ls, [.int x], h) = some (some (.int x), h) := zrun_at rfl
-- 166 NineDownModel.kindBy
theorem zi166_0 {E : zE} {x : Int32} {ls sk : List Value} {h : zH} : zrun zpp E 166 (0, .int x :: ls, sk, h) = zrun zpp E 166 (1, .int x :: ls, .int x :: sk, h) := zrun_at rfl
theorem zi166_1 {E : zE} {ls sk : List Value} {h : zH} : zrun zpp E 166 (1, ls, sk, h) = zrun zpp E 166 (3, ls, .int 116 :: sk, h) := zg_bipush rfl ci_116
theorem zi166_3 {E : zE} {x y : Int32} {ls sk : List Value} {h : zH} : zrun zpp E 166 (3, ls, .int y :: .int x :: sk, h) = if x = y then zrun zpp E 166 (6, ls, sk, h) else zrun zpp E 166 (10, ls, sk, h) := zrun_at rfl
theorem zi166_6 {E : zE} {ls sk : List Value} {h : zH} : zrun zpp E 166 (6, ls, sk, h) = zrun zpp E 166 (7, ls, .int 1 :: sk, h) := zg_iconst rfl ci_1
theorem zi166_7 {E : zE} {ls sk : List Value} {h : zH} : zrun zpp E 166 (7, ls, sk, h) = zrun zpp E 166 (52, ls, sk, h) := zrun_at rfl
theorem zi166_10 {E : zE} {x : Int32} {ls sk : List Value} {h : zH} : zrun zpp E 166 (10, .int x :: ls, sk, h) = zrun zpp E 166 (11, .int x :: ls, .int x :: sk, h) := zrun_at rfl
theorem zi166_11 {E : zE} {ls sk : List Value} {h : zH} : zrun zpp E 166 (11, ls, sk, h) = zrun zpp E 166 (13, ls, .int 102 :: sk, h) := zg_bipush rfl ci_102
theorem zi166_13 {E : zE} {x y : Int32} {ls sk : List Value} {h : zH} : zrun zpp E 166 (13, ls, .int y :: .int x :: sk, h) = if x = y then zrun zpp E 166 (16, ls, sk, h) else zrun zpp E 166 (20, ls, sk, h) := zrun_at rfl
theorem zi166_16 {E : zE} {ls sk : List Value} {h : zH} : zrun zpp E 166 (16, ls, sk, h) = zrun zpp E 166 (17, ls, .int 2 :: sk, h) := zg_iconst rfl ci_2
theorem zi166_17 {E : zE} {ls sk : List Value} {h : zH} : zrun zpp E 166 (17, ls, sk, h) = zrun zpp E 166 (52, ls, sk, h) := zrun_at rfl
theorem zi166_20 {E : zE} {x : Int32} {ls sk : List Value} {h : zH} : zrun zpp E 166 (20, .int x :: ls, sk, h) = zrun zpp E 166 (21, .int x :: ls, .int x :: sk, h) := zrun_at rfl
theorem zi166_21 {E : zE} {ls sk : List Value} {h : zH} : zrun zpp E 166 (21, ls, sk, h) = zrun zpp E 166 (23, ls, .int 112 :: sk, h) := zg_bipush rfl ci_112
theorem zi166_23 {E : zE} {x y : Int32} {ls sk : List Value} {h : zH} : zrun zpp E 166 (23, ls, .int y :: .int x :: sk, h) = if x = y then zrun zpp E 166 (26, ls, sk, h) else zrun zpp E 166 (30, ls, sk, h) := zrun_at rfl
theorem zi166_26 {E : zE} {ls sk : List Value} {h : zH} : zrun zpp E 166 (26, ls, sk, h) = zrun zpp E 166 (27, ls, .int 3 :: sk, h) := zg_iconst rfl ci_3
theorem zi166_27 {E : zE} {ls sk : List Value} {h : zH} : zrun zpp E 166 (27, ls, sk, h) = zrun zpp E 166 (52, ls, sk, h) := zrun_at rfl
theorem zi166_30 {E : zE} {x : Int32} {ls sk : List Value} {h : zH} : zrun zpp E 166 (30, .int x :: ls, sk, h) = zrun zpp E 166 (31, .int x :: ls, .int x :: sk, h) := zrun_at rfl
theorem zi166_31 {E : zE} {ls sk : List Value} {h : zH} : zrun zpp E 166 (31, ls, sk, h) = zrun zpp E 166 (33, ls, .int 103 :: sk, h) := zg_bipush rfl ci_103
theorem zi166_33 {E : zE} {x y : Int32} {ls sk : List Value} {h : zH} : zrun zpp E 166 (33, ls, .int y :: .int x :: sk, h) = if x = y then zrun zpp E 166 (36, ls, sk, h) else zrun zpp E 166 (40, ls, sk, h) := zrun_at rfl
theorem zi166_36 {E : zE} {ls sk : List Value} {h : zH} : zrun zpp E 166 (36, ls, sk, h) = zrun zpp E 166 (37, ls, .int 4 :: sk, h) := zg_iconst rfl ci_4
theorem zi166_37 {E : zE} {ls sk : List Value} {h : zH} : zrun zpp E 166 (37, ls, sk, h) = zrun zpp E 166 (52, ls, sk, h) := zrun_at rfl
theorem zi166_40 {E : zE} {x : Int32} {ls sk : List Value} {h : zH} : zrun zpp E 166 (40, .int x :: ls, sk, h) = zrun zpp E 166 (41, .int x :: ls, .int x :: sk, h) := zrun_at rfl
theorem zi166_41 {E : zE} {ls sk : List Value} {h : zH} : zrun zpp E 166 (41, ls, sk, h) = zrun zpp E 166 (43, ls, .int 110 :: sk, h) := zg_bipush rfl ci_110
theorem zi166_43 {E : zE} {x y : Int32} {ls sk : List Value} {h : zH} : zrun zpp E 166 (43, ls, .int y :: .int x :: sk, h) = if x = y then zrun zpp E 166 (46, ls, sk, h) else zrun zpp E 166 (50, ls, sk, h) := zrun_at rfl
theorem zi166_46 {E : zE} {ls sk : List Value} {h : zH} : zrun zpp E 166 (46, ls, sk, h) = zrun zpp E 166 (47, ls, .int 5 :: sk, h) := zg_iconst rfl ci_5
theorem zi166_47 {E : zE} {ls sk : List Value} {h : zH} : zrun zpp E 166 (47, ls, sk, h) = zrun zpp E 166 (52, ls, sk, h) := zrun_at rfl
theorem zi166_50 {E : zE} {ls sk : List Value} {h : zH} : zrun zpp E 166 (50, ls, sk, h) = zrun zpp E 166 (52, ls, .int (-1000000) :: sk, h) := zg_ldc rfl ci_m1000000
theorem zi166_52 {E : zE} {x : Int32} {ls sk : List Value} {h : zH} : zrun zpp E 166 (52, ls, [.int x], h) = some (some (.int x), h) := zrun_at rfl
-- 167 NineDownModel.readBike
theorem zi167_0 {E : zE} {x : Nat} {ls sk : List Value} {h : zH} : zrun zpp E 167 (0, .ref x :: ls, sk, h) = zrun zpp E 167 (1, .ref x :: ls, .ref x :: sk, h) := zrun_at rfl
theorem zi167_0n {E : zE} {ls sk : List Value} {h : zH} : zrun zpp E 167 (0, .null :: ls, sk, h) = zrun zpp E 167 (1, .null :: ls, .null :: sk, h) := zrun_at rfl
theorem zi167_1 {E : zE} {x : Nat} {ls sk : List Value} {h : zH} : zrun zpp E 167 (1, ls, .ref x :: sk, h) = (zfld [11] h x 6).bind (fun v => zrun zpp E 167 (4, ls, v :: sk, h)) := zg_getf rfl
theorem zi167_4 {E : zE} {ls sk : List Value} {h : zH} : zrun zpp E 167 (4, ls, sk, h) = zrun zpp E 167 (5, ls, .int 3 :: sk, h) := zg_iconst rfl ci_3
theorem zi167_5 {E : zE} {x : Nat} {i : Int32} {ls sk : List Value} {h : zH} : zrun zpp E 167 (5, ls, .int i :: .ref x :: sk, h) = (zarr 0 h x i).bind (fun v => zrun zpp E 167 (6, ls, .int v :: sk, h)) := zg_iald rfl
theorem zi167_6 {E : zE} {ls sk : List Value} {h : zH} : zrun zpp E 167 (6, ls, sk, h) = zrun zpp E 167 (8, ls, .int 8 :: sk, h) := zg_bipush rfl ci_8
theorem zi167_8 {E : zE} {x y : Int32} {ls sk : List Value} {h : zH} : zrun zpp E 167 (8, ls, .int y :: .int x :: sk, h) = if x = y then zrun zpp E 167 (11, ls, sk, h) else zrun zpp E 167 (16, ls, sk, h) := zrun_at rfl
theorem zi167_11 {E : zE} {x : Nat} {ls sk : List Value} {h : zH} : zrun zpp E 167 (11, .ref x :: ls, sk, h) = zrun zpp E 167 (12, .ref x :: ls, .ref x :: sk, h) := zrun_at rfl
theorem zi167_11n {E : zE} {ls sk : List Value} {h : zH} : zrun zpp E 167 (11, .null :: ls, sk, h) = zrun zpp E 167 (12, .null :: ls, .null :: sk, h) := zrun_at rfl
theorem zi167_12 {E : zE} {ls sk : List Value} {h : zH} : zrun zpp E 167 (12, ls, sk, h) = zrun zpp E 167 (13, ls, .int 3 :: sk, h) := zg_iconst rfl ci_3
theorem zi167_13 {E : zE} {a0 : Value} {x : Nat} {ls sk : List Value} {h : zH} : zrun zpp E 167 (13, ls, a0 :: .ref x :: sk, h) = (zcls h x).bind (fun d => (zsel d [11, 157]).bind (fun M' => zcl1 E 167 16 M' ls sk [.ref x, a0] h)) := zg_vir (as := [a0]) rfl rfl
theorem zi167_16 {E : zE} {x : Nat} {ls sk : List Value} {h : zH} : zrun zpp E 167 (16, .ref x :: ls, sk, h) = zrun zpp E 167 (17, .ref x :: ls, .ref x :: sk, h) := zrun_at rfl
theorem zi167_16n {E : zE} {ls sk : List Value} {h : zH} : zrun zpp E 167 (16, .null :: ls, sk, h) = zrun zpp E 167 (17, .null :: ls, .null :: sk, h) := zrun_at rfl
theorem zi167_17 {E : zE} {x : Nat} {ls sk : List Value} {h : zH} : zrun zpp E 167 (17, .ref x :: ls, sk, h) = zrun zpp E 167 (18, .ref x :: ls, .ref x :: sk, h) := zrun_at rfl
theorem zi167_17n {E : zE} {ls sk : List Value} {h : zH} : zrun zpp E 167 (17, .null :: ls, sk, h) = zrun zpp E 167 (18, .null :: ls, .null :: sk, h) := zrun_at rfl
theorem zi167_18 {E : zE} {ls sk : List Value} {h : zH} : zrun zpp E 167 (18, ls, sk, h) = zrun zpp E 167 (20, ls, .int 107 :: sk, h) := zg_bipush rfl ci_107
theorem zi167_20 {E : zE} {a0 : Value} {x : Nat} {ls sk : List Value} {h : zH} : zrun zpp E 167 (20, ls, a0 :: .ref x :: sk, h) = (zcls h x).bind (fun d => (zsel d [11, 160]).bind (fun M' => zcl1 E 167 23 M' ls sk [.ref x, a0] h)) := zg_vir (as := [a0]) rfl rfl
theorem zi167_23 {E : zE} {a0 : Value} {x : Nat} {ls sk : List Value} {h : zH} : zrun zpp E 167 (23, ls, a0 :: .ref x :: sk, h) = (zcls h x).bind (fun d => (zsel d [11, 159]).bind (fun M' => zcl1 E 167 26 M' ls sk [.ref x, a0] h)) := zg_vir (as := [a0]) rfl rfl
theorem zi167_26 {E : zE} {x : Nat} {ls sk : List Value} {h : zH} : zrun zpp E 167 (26, .ref x :: ls, sk, h) = zrun zpp E 167 (27, .ref x :: ls, .ref x :: sk, h) := zrun_at rfl
theorem zi167_26n {E : zE} {ls sk : List Value} {h : zH} : zrun zpp E 167 (26, .null :: ls, sk, h) = zrun zpp E 167 (27, .null :: ls, .null :: sk, h) := zrun_at rfl
theorem zi167_27 {E : zE} {ls sk : List Value} {h : zH} : zrun zpp E 167 (27, ls, sk, h) = zrun zpp E 167 (28, ls, .int 1 :: sk, h) := zg_iconst rfl ci_1
theorem zi167_28 {E : zE} {ls sk : List Value} {h : zH} : zrun zpp E 167 (28, ls, sk, h) = zrun zpp E 167 (30, ls, .int 30 :: sk, h) := zg_bipush rfl ci_30
theorem zi167_30 {E : zE} {a0 a1 : Value} {x : Nat} {ls sk : List Value} {h : zH} : zrun zpp E 167 (30, ls, a1 :: a0 :: .ref x :: sk, h) = (zcls h x).bind (fun d => (zsel d [11, 161]).bind (fun M' => zcl1 E 167 33 M' ls sk [.ref x, a0, a1] h)) := zg_vir (as := [a0, a1]) rfl rfl
theorem zi167_33 {E : zE} {x : Int32} {ls sk : List Value} {h : zH} : zrun zpp E 167 (33, ls, .int x :: sk, h) = if zfree ls 1 = true then zrun zpp E 167 (34, ls.set 1 (.int x), sk, h) else none := zg_ist rfl (fun _ _ _ => rfl)
theorem zi167_34 {E : zE} {x : Nat} {ls sk : List Value} {h : zH} : zrun zpp E 167 (34, .ref x :: ls, sk, h) = zrun zpp E 167 (35, .ref x :: ls, .ref x :: sk, h) := zrun_at rfl
theorem zi167_34n {E : zE} {ls sk : List Value} {h : zH} : zrun zpp E 167 (34, .null :: ls, sk, h) = zrun zpp E 167 (35, .null :: ls, .null :: sk, h) := zrun_at rfl
theorem zi167_35 {E : zE} {ls sk : List Value} {h : zH} : zrun zpp E 167 (35, ls, sk, h) = zrun zpp E 167 (37, ls, .int 44 :: sk, h) := zg_bipush rfl ci_44
theorem zi167_37 {E : zE} {a0 : Value} {x : Nat} {ls sk : List Value} {h : zH} : zrun zpp E 167 (37, ls, a0 :: .ref x :: sk, h) = (zcls h x).bind (fun d => (zsel d [11, 162]).bind (fun M' => zcl1 E 167 40 M' ls sk [.ref x, a0] h)) := zg_vir (as := [a0]) rfl rfl
theorem zi167_40 {E : zE} {x : Nat} {ls sk : List Value} {h : zH} : zrun zpp E 167 (40, .ref x :: ls, sk, h) = zrun zpp E 167 (41, .ref x :: ls, .ref x :: sk, h) := zrun_at rfl
theorem zi167_40n {E : zE} {ls sk : List Value} {h : zH} : zrun zpp E 167 (40, .null :: ls, sk, h) = zrun zpp E 167 (41, .null :: ls, .null :: sk, h) := zrun_at rfl
theorem zi167_41 {E : zE} {ls sk : List Value} {h : zH} : zrun zpp E 167 (41, ls, sk, h) = zrun zpp E 167 (42, ls, .int 1 :: sk, h) := zg_iconst rfl ci_1
theorem zi167_42 {E : zE} {ls sk : List Value} {h : zH} : zrun zpp E 167 (42, ls, sk, h) = zrun zpp E 167 (44, ls, .int 20 :: sk, h) := zg_bipush rfl ci_20
theorem zi167_44 {E : zE} {a0 a1 : Value} {x : Nat} {ls sk : List Value} {h : zH} : zrun zpp E 167 (44, ls, a1 :: a0 :: .ref x :: sk, h) = (zcls h x).bind (fun d => (zsel d [11, 161]).bind (fun M' => zcl1 E 167 47 M' ls sk [.ref x, a0, a1] h)) := zg_vir (as := [a0, a1]) rfl rfl
theorem zi167_47 {E : zE} {x : Int32} {ls sk : List Value} {h : zH} : zrun zpp E 167 (47, ls, .int x :: sk, h) = if zfree ls 2 = true then zrun zpp E 167 (48, ls.set 2 (.int x), sk, h) else none := zg_ist rfl (fun _ _ _ => rfl)
theorem zi167_48 {E : zE} {x : Nat} {ls sk : List Value} {h : zH} : zrun zpp E 167 (48, .ref x :: ls, sk, h) = zrun zpp E 167 (49, .ref x :: ls, .ref x :: sk, h) := zrun_at rfl
theorem zi167_48n {E : zE} {ls sk : List Value} {h : zH} : zrun zpp E 167 (48, .null :: ls, sk, h) = zrun zpp E 167 (49, .null :: ls, .null :: sk, h) := zrun_at rfl
theorem zi167_49 {E : zE} {ls sk : List Value} {h : zH} : zrun zpp E 167 (49, ls, sk, h) = zrun zpp E 167 (51, ls, .int 59 :: sk, h) := zg_bipush rfl ci_59
theorem zi167_51 {E : zE} {a0 : Value} {x : Nat} {ls sk : List Value} {h : zH} : zrun zpp E 167 (51, ls, a0 :: .ref x :: sk, h) = (zcls h x).bind (fun d => (zsel d [11, 162]).bind (fun M' => zcl1 E 167 54 M' ls sk [.ref x, a0] h)) := zg_vir (as := [a0]) rfl rfl
theorem zi167_54 {E : zE} {x : Nat} {ls sk : List Value} {h : zH} : zrun zpp E 167 (54, .ref x :: ls, sk, h) = zrun zpp E 167 (55, .ref x :: ls, .ref x :: sk, h) := zrun_at rfl
theorem zi167_54n {E : zE} {ls sk : List Value} {h : zH} : zrun zpp E 167 (54, .null :: ls, sk, h) = zrun zpp E 167 (55, .null :: ls, .null :: sk, h) := zrun_at rfl
theorem zi167_55 {E : zE} {x : Nat} {ls sk : List Value} {h : zH} : zrun zpp E 167 (55, ls, .ref x :: sk, h) = (zfld [11] h x 15).bind (fun v => zrun zpp E 167 (58, ls, v :: sk, h)) := zg_getf rfl
theorem zi167_58 {E : zE} {x : Int32} {ls sk : List Value} {h : zH} : zrun zpp E 167 (58, ls, .int x :: sk, h) = if x = 0 then zrun zpp E 167 (61, ls, sk, h) else zrun zpp E 167 (107, ls, sk, h) := zrun_at rfl
theorem zi167_61 {E : zE} {x : Nat} {ls sk : List Value} {h : zH} : zrun zpp E 167 (61, .ref x :: ls, sk, h) = zrun zpp E 167 (62, .ref x :: ls, .ref x :: sk, h) := zrun_at rfl
theorem zi167_61n {E : zE} {ls sk : List Value} {h : zH} : zrun zpp E 167 (61, .null :: ls, sk, h) = zrun zpp E 167 (62, .null :: ls, .null :: sk, h) := zrun_at rfl
theorem zi167_62 {E : zE} {x : Nat} {ls sk : List Value} {h : zH} : zrun zpp E 167 (62, ls, .ref x :: sk, h) = (zfld [11] h x 6).bind (fun v => zrun zpp E 167 (65, ls, v :: sk, h)) := zg_getf rfl
theorem zi167_65 {E : zE} {ls sk : List Value} {h : zH} : zrun zpp E 167 (65, ls, sk, h) = zrun zpp E 167 (67, ls, .int 9 :: sk, h) := zg_bipush rfl ci_9
theorem zi167_67 {E : zE} {ls sk : List Value} {h : zH} : zrun zpp E 167 (67, ls, sk, h) = zrun zpp E 167 (68, ls, .int 2 :: sk, h) := zg_iconst rfl ci_2
theorem zi167_68 {E : zE} {x : Nat} {ls sk : List Value} {h : zH} : zrun zpp E 167 (68, .ref x :: ls, sk, h) = zrun zpp E 167 (69, .ref x :: ls, .ref x :: sk, h) := zrun_at rfl
theorem zi167_68n {E : zE} {ls sk : List Value} {h : zH} : zrun zpp E 167 (68, .null :: ls, sk, h) = zrun zpp E 167 (69, .null :: ls, .null :: sk, h) := zrun_at rfl
theorem zi167_69 {E : zE} {x : Nat} {ls sk : List Value} {h : zH} : zrun zpp E 167 (69, ls, .ref x :: sk, h) = (zfld [11] h x 6).bind (fun v => zrun zpp E 167 (72, ls, v :: sk, h)) := zg_getf rfl
theorem zi167_72 {E : zE} {ls sk : List Value} {h : zH} : zrun zpp E 167 (72, ls, sk, h) = zrun zpp E 167 (73, ls, .int 3 :: sk, h) := zg_iconst rfl ci_3
theorem zi167_73 {E : zE} {x : Nat} {i : Int32} {ls sk : List Value} {h : zH} : zrun zpp E 167 (73, ls, .int i :: .ref x :: sk, h) = (zarr 0 h x i).bind (fun v => zrun zpp E 167 (74, ls, .int v :: sk, h)) := zg_iald rfl
theorem zi167_74 {E : zE} {x y : Int32} {ls sk : List Value} {h : zH} : zrun zpp E 167 (74, ls, .int y :: .int x :: sk, h) = zrun zpp E 167 (75, ls, .int (x * y) :: sk, h) := zrun_at rfl
theorem zi167_75 {E : zE} {x y : Int32} {ls sk : List Value} {h : zH} : zrun zpp E 167 (75, ls, .int y :: .int x :: sk, h) = zrun zpp E 167 (76, ls, .int (x + y) :: sk, h) := zrun_at rfl
theorem zi167_76 {E : zE} {v0 : Value} {x : Int32} {ls sk : List Value} {h : zH} : zrun zpp E 167 (76, v0 :: .int x :: ls, sk, h) = zrun zpp E 167 (77, v0 :: .int x :: ls, .int x :: sk, h) := zrun_at rfl
theorem zi167_77 {E : zE} {x : Nat} {i v : Int32} {ls sk : List Value} {h : zH} : zrun zpp E 167 (77, ls, .int v :: .int i :: .ref x :: sk, h) = (zars 0 h x i v).bind (fun h' => zrun zpp E 167 (78, ls, sk, h')) := zg_iast rfl
theorem zi167_78 {E : zE} {x : Nat} {ls sk : List Value} {h : zH} : zrun zpp E 167 (78, .ref x :: ls, sk, h) = zrun zpp E 167 (79, .ref x :: ls, .ref x :: sk, h) := zrun_at rfl
theorem zi167_78n {E : zE} {ls sk : List Value} {h : zH} : zrun zpp E 167 (78, .null :: ls, sk, h) = zrun zpp E 167 (79, .null :: ls, .null :: sk, h) := zrun_at rfl
theorem zi167_79 {E : zE} {x : Nat} {ls sk : List Value} {h : zH} : zrun zpp E 167 (79, ls, .ref x :: sk, h) = (zfld [11] h x 6).bind (fun v => zrun zpp E 167 (82, ls, v :: sk, h)) := zg_getf rfl
theorem zi167_82 {E : zE} {ls sk : List Value} {h : zH} : zrun zpp E 167 (82, ls, sk, h) = zrun zpp E 167 (84, ls, .int 9 :: sk, h) := zg_bipush rfl ci_9
theorem zi167_84 {E : zE} {ls sk : List Value} {h : zH} : zrun zpp E 167 (84, ls, sk, h) = zrun zpp E 167 (85, ls, .int 2 :: sk, h) := zg_iconst rfl ci_2
theorem zi167_85 {E : zE} {x : Nat} {ls sk : List Value} {h : zH} : zrun zpp E 167 (85, .ref x :: ls, sk, h) = zrun zpp E 167 (86, .ref x :: ls, .ref x :: sk, h) := zrun_at rfl
theorem zi167_85n {E : zE} {ls sk : List Value} {h : zH} : zrun zpp E 167 (85, .null :: ls, sk, h) = zrun zpp E 167 (86, .null :: ls, .null :: sk, h) := zrun_at rfl
theorem zi167_86 {E : zE} {x : Nat} {ls sk : List Value} {h : zH} : zrun zpp E 167 (86, ls, .ref x :: sk, h) = (zfld [11] h x 6).bind (fun v => zrun zpp E 167 (89, ls, v :: sk, h)) := zg_getf rfl
theorem zi167_89 {E : zE} {ls sk : List Value} {h : zH} : zrun zpp E 167 (89, ls, sk, h) = zrun zpp E 167 (90, ls, .int 3 :: sk, h) := zg_iconst rfl ci_3
theorem zi167_90 {E : zE} {x : Nat} {i : Int32} {ls sk : List Value} {h : zH} : zrun zpp E 167 (90, ls, .int i :: .ref x :: sk, h) = (zarr 0 h x i).bind (fun v => zrun zpp E 167 (91, ls, .int v :: sk, h)) := zg_iald rfl
theorem zi167_91 {E : zE} {x y : Int32} {ls sk : List Value} {h : zH} : zrun zpp E 167 (91, ls, .int y :: .int x :: sk, h) = zrun zpp E 167 (92, ls, .int (x * y) :: sk, h) := zrun_at rfl
theorem zi167_92 {E : zE} {x y : Int32} {ls sk : List Value} {h : zH} : zrun zpp E 167 (92, ls, .int y :: .int x :: sk, h) = zrun zpp E 167 (93, ls, .int (x + y) :: sk, h) := zrun_at rfl
theorem zi167_93 {E : zE} {ls sk : List Value} {h : zH} : zrun zpp E 167 (93, ls, sk, h) = zrun zpp E 167 (94, ls, .int 1 :: sk, h) := zg_iconst rfl ci_1
theorem zi167_94 {E : zE} {x y : Int32} {ls sk : List Value} {h : zH} : zrun zpp E 167 (94, ls, .int y :: .int x :: sk, h) = zrun zpp E 167 (95, ls, .int (x + y) :: sk, h) := zrun_at rfl
theorem zi167_95 {E : zE} {v0 v1 : Value} {x : Int32} {ls sk : List Value} {h : zH} : zrun zpp E 167 (95, v0 :: v1 :: .int x :: ls, sk, h) = zrun zpp E 167 (96, v0 :: v1 :: .int x :: ls, .int x :: sk, h) := zrun_at rfl
theorem zi167_96 {E : zE} {x : Nat} {i v : Int32} {ls sk : List Value} {h : zH} : zrun zpp E 167 (96, ls, .int v :: .int i :: .ref x :: sk, h) = (zars 0 h x i v).bind (fun h' => zrun zpp E 167 (97, ls, sk, h')) := zg_iast rfl
theorem zi167_97 {E : zE} {x : Nat} {ls sk : List Value} {h : zH} : zrun zpp E 167 (97, .ref x :: ls, sk, h) = zrun zpp E 167 (98, .ref x :: ls, .ref x :: sk, h) := zrun_at rfl
theorem zi167_97n {E : zE} {ls sk : List Value} {h : zH} : zrun zpp E 167 (97, .null :: ls, sk, h) = zrun zpp E 167 (98, .null :: ls, .null :: sk, h) := zrun_at rfl
theorem zi167_98 {E : zE} {x : Nat} {ls sk : List Value} {h : zH} : zrun zpp E 167 (98, ls, .ref x :: sk, h) = (zfld [11] h x 6).bind (fun v => zrun zpp E 167 (101, ls, v :: sk, h)) := zg_getf rfl
theorem zi167_101 {E : zE} {ls sk : List Value} {h : zH} : zrun zpp E 167 (101, ls, sk, h) = zrun zpp E 167 (102, ls, .int 3 :: sk, h) := zg_iconst rfl ci_3
theorem zi167_102 {E : zE} {x : Int32} {y : Nat} {ls sk : List Value} {h : zH} : zrun zpp E 167 (102, ls, .int x :: .ref y :: sk, h) = zrun zpp E 167 (103, ls, .int x :: .ref y :: .int x :: .ref y :: sk, h) := zrun_at rfl
theorem zi167_103 {E : zE} {x : Nat} {i : Int32} {ls sk : List Value} {h : zH} : zrun zpp E 167 (103, ls, .int i :: .ref x :: sk, h) = (zarr 0 h x i).bind (fun v => zrun zpp E 167 (104, ls, .int v :: sk, h)) := zg_iald rfl
theorem zi167_104 {E : zE} {ls sk : List Value} {h : zH} : zrun zpp E 167 (104, ls, sk, h) = zrun zpp E 167 (105, ls, .int 1 :: sk, h) := zg_iconst rfl ci_1
theorem zi167_105 {E : zE} {x y : Int32} {ls sk : List Value} {h : zH} : zrun zpp E 167 (105, ls, .int y :: .int x :: sk, h) = zrun zpp E 167 (106, ls, .int (x + y) :: sk, h) := zrun_at rfl
theorem zi167_106 {E : zE} {x : Nat} {i v : Int32} {ls sk : List Value} {h : zH} : zrun zpp E 167 (106, ls, .int v :: .int i :: .ref x :: sk, h) = (zars 0 h x i v).bind (fun h' => zrun zpp E 167 (107, ls, sk, h')) := zg_iast rfl
theorem zi167_107 {E : zE} {ls sk : List Value} {h : zH} : zrun zpp E 167 (107, ls, [], h) = some (none, h) := zrun_at rfl
-- 168 NineDownModel.isHeld
theorem zi168_0 {E : zE} {ls sk : List Value} {h : zH} : zrun zpp E 168 (0, ls, sk, h) = zrun zpp E 168 (1, ls, .int 0 :: sk, h) := zg_iconst rfl ci_0
theorem zi168_1 {E : zE} {x : Int32} {ls sk : List Value} {h : zH} : zrun zpp E 168 (1, ls, .int x :: sk, h) = if zfree ls 5 = true then zrun zpp E 168 (3, ls.set 5 (.int x), sk, h) else none := zg_ist rfl (fun _ _ _ => rfl)
theorem zi168_3 {E : zE} {ls sk : List Value} {h : zH} : zrun zpp E 168 (3, ls, sk, h) = zrun zpp E 168 (4, ls, .int 0 :: sk, h) := zg_iconst rfl ci_0
theorem zi168_4 {E : zE} {x : Int32} {ls sk : List Value} {h : zH} : zrun zpp E 168 (4, ls, .int x :: sk, h) = if zfree ls 6 = true then zrun zpp E 168 (6, ls.set 6 (.int x), sk, h) else none := zg_ist rfl (fun _ _ _ => rfl)
theorem zi168_6 {E : zE} {v0 v1 v2 v3 v4 v5 : Value} {x : Int32} {ls sk : List Value} {h : zH} : zrun zpp E 168 (6, v0 :: v1 :: v2 :: v3 :: v4 :: v5 :: .int x :: ls, sk, h) = zrun zpp E 168 (8, v0 :: v1 :: v2 :: v3 :: v4 :: v5 :: .int x :: ls, .int x :: sk, h) := zrun_at rfl
theorem zi168_8 {E : zE} {x : Nat} {ls sk : List Value} {h : zH} : zrun zpp E 168 (8, .ref x :: ls, sk, h) = zrun zpp E 168 (9, .ref x :: ls, .ref x :: sk, h) := zrun_at rfl
theorem zi168_8n {E : zE} {ls sk : List Value} {h : zH} : zrun zpp E 168 (8, .null :: ls, sk, h) = zrun zpp E 168 (9, .null :: ls, .null :: sk, h) := zrun_at rfl
theorem zi168_9 {E : zE} {x : Nat} {ls sk : List Value} {h : zH} : zrun zpp E 168 (9, ls, .ref x :: sk, h) = (zfld [11] h x 6).bind (fun v => zrun zpp E 168 (12, ls, v :: sk, h)) := zg_getf rfl
theorem zi168_12 {E : zE} {ls sk : List Value} {h : zH} : zrun zpp E 168 (12, ls, sk, h) = zrun zpp E 168 (13, ls, .int 4 :: sk, h) := zg_iconst rfl ci_4
theorem zi168_13 {E : zE} {x : Nat} {i : Int32} {ls sk : List Value} {h : zH} : zrun zpp E 168 (13, ls, .int i :: .ref x :: sk, h) = (zarr 0 h x i).bind (fun v => zrun zpp E 168 (14, ls, .int v :: sk, h)) := zg_iald rfl
theorem zi168_14 {E : zE} {x y : Int32} {ls sk : List Value} {h : zH} : zrun zpp E 168 (14, ls, .int y :: .int x :: sk, h) = if y ≤ x then zrun zpp E 168 (111, ls, sk, h) else zrun zpp E 168 (17, ls, sk, h) := zrun_at rfl
theorem zi168_17 {E : zE} {ls sk : List Value} {h : zH} : zrun zpp E 168 (17, ls, sk, h) = zrun zpp E 168 (19, ls, .int 25 :: sk, h) := zg_bipush rfl ci_25
theorem zi168_19 {E : zE} {ls sk : List Value} {h : zH} : zrun zpp E 168 (19, ls, sk, h) = zrun zpp E 168 (20, ls, .int 4 :: sk, h) := zg_iconst rfl ci_4
theorem zi168_20 {E : zE} {v0 v1 v2 v3 v4 v5 : Value} {x : Int32} {ls sk : List Value} {h : zH} : zrun zpp E 168 (20, v0 :: v1 :: v2 :: v3 :: v4 :: v5 :: .int x :: ls, sk, h) = zrun zpp E 168 (22, v0 :: v1 :: v2 :: v3 :: v4 :: v5 :: .int x :: ls, .int x :: sk, h) := zrun_at rfl
theorem zi168_22 {E : zE} {x y : Int32} {ls sk : List Value} {h : zH} : zrun zpp E 168 (22, ls, .int y :: .int x :: sk, h) = zrun zpp E 168 (23, ls, .int (x * y) :: sk, h) := zrun_at rfl
theorem zi168_23 {E : zE} {x y : Int32} {ls sk : List Value} {h : zH} : zrun zpp E 168 (23, ls, .int y :: .int x :: sk, h) = zrun zpp E 168 (24, ls, .int (x + y) :: sk, h) := zrun_at rfl
theorem zi168_24 {E : zE} {x : Int32} {ls sk : List Value} {h : zH} : zrun zpp E 168 (24, ls, .int x :: sk, h) = if zfree ls 7 = true then zrun zpp E 168 (26, ls.set 7 (.int x), sk, h) else none := zg_ist rfl (fun _ _ _ => rfl)
theorem zi168_26 {E : zE} {v0 v1 v2 v3 v4 : Value} {x : Int32} {ls sk : List Value} {h : zH} : zrun zpp E 168 (26, v0 :: v1 :: v2 :: v3 :: v4 :: .int x :: ls, sk, h) = zrun zpp E 168 (28, v0 :: v1 :: v2 :: v3 :: v4 :: .int x :: ls, .int x :: sk, h) := zrun_at rfl
theorem zi168_28 {E : zE} {x : Int32} {ls sk : List Value} {h : zH} : zrun zpp E 168 (28, ls, .int x :: sk, h) = if x = 0 then zrun zpp E 168 (31, ls, sk, h) else zrun zpp E 168 (98, ls, sk, h) := zrun_at rfl
theorem zi168_31 {E : zE} {x : Nat} {ls sk : List Value} {h : zH} : zrun zpp E 168 (31, .ref x :: ls, sk, h) = zrun zpp E 168 (32, .ref x :: ls, .ref x :: sk, h) := zrun_at rfl
theorem zi168_31n {E : zE} {ls sk : List Value} {h : zH} : zrun zpp E 168 (31, .null :: ls, sk, h) = zrun zpp E 168 (32, .null :: ls, .null :: sk, h) := zrun_at rfl
theorem zi168_32 {E : zE} {x : Nat} {ls sk : List Value} {h : zH} : zrun zpp E 168 (32, ls, .ref x :: sk, h) = (zfld [11] h x 6).bind (fun v => zrun zpp E 168 (35, ls, v :: sk, h)) := zg_getf rfl
theorem zi168_35 {E : zE} {v0 v1 v2 v3 v4 v5 v6 : Value} {x : Int32} {ls sk : List Value} {h : zH} : zrun zpp E 168 (35, v0 :: v1 :: v2 :: v3 :: v4 :: v5 :: v6 :: .int x :: ls, sk, h) = zrun zpp E 168 (37, v0 :: v1 :: v2 :: v3 :: v4 :: v5 :: v6 :: .int x :: ls, .int x :: sk, h) := zrun_at rfl
theorem zi168_37 {E : zE} {x : Nat} {i : Int32} {ls sk : List Value} {h : zH} : zrun zpp E 168 (37, ls, .int i :: .ref x :: sk, h) = (zarr 0 h x i).bind (fun v => zrun zpp E 168 (38, ls, .int v :: sk, h)) := zg_iald rfl
theorem zi168_38 {E : zE} {v0 : Value} {x : Int32} {ls sk : List Value} {h : zH} : zrun zpp E 168 (38, v0 :: .int x :: ls, sk, h) = zrun zpp E 168 (39, v0 :: .int x :: ls, .int x :: sk, h) := zrun_at rfl
theorem zi168_39 {E : zE} {x y : Int32} {ls sk : List Value} {h : zH} : zrun zpp E 168 (39, ls, .int y :: .int x :: sk, h) = if x = y then zrun zpp E 168 (42, ls, sk, h) else zrun zpp E 168 (102, ls, sk, h) := zrun_at rfl
theorem zi168_42 {E : zE} {x : Nat} {ls sk : List Value} {h : zH} : zrun zpp E 168 (42, .ref x :: ls, sk, h) = zrun zpp E 168 (43, .ref x :: ls, .ref x :: sk, h) := zrun_at rfl
theorem zi168_42n {E : zE} {ls sk : List Value} {h : zH} : zrun zpp E 168 (42, .null :: ls, sk, h) = zrun zpp E 168 (43, .null :: ls, .null :: sk, h) := zrun_at rfl
theorem zi168_43 {E : zE} {x : Nat} {ls sk : List Value} {h : zH} : zrun zpp E 168 (43, ls, .ref x :: sk, h) = (zfld [11] h x 6).bind (fun v => zrun zpp E 168 (46, ls, v :: sk, h)) := zg_getf rfl
theorem zi168_46 {E : zE} {v0 v1 v2 v3 v4 v5 v6 : Value} {x : Int32} {ls sk : List Value} {h : zH} : zrun zpp E 168 (46, v0 :: v1 :: v2 :: v3 :: v4 :: v5 :: v6 :: .int x :: ls, sk, h) = zrun zpp E 168 (48, v0 :: v1 :: v2 :: v3 :: v4 :: v5 :: v6 :: .int x :: ls, .int x :: sk, h) := zrun_at rfl
theorem zi168_48 {E : zE} {ls sk : List Value} {h : zH} : zrun zpp E 168 (48, ls, sk, h) = zrun zpp E 168 (49, ls, .int 1 :: sk, h) := zg_iconst rfl ci_1
theorem zi168_49 {E : zE} {x y : Int32} {ls sk : List Value} {h : zH} : zrun zpp E 168 (49, ls, .int y :: .int x :: sk, h) = zrun zpp E 168 (50, ls, .int (x + y) :: sk, h) := zrun_at rfl
theorem zi168_50 {E : zE} {x : Nat} {i : Int32} {ls sk : List Value} {h : zH} : zrun zpp E 168 (50, ls, .int i :: .ref x :: sk, h) = (zarr 0 h x i).bind (fun v => zrun zpp E 168 (51, ls, .int v :: sk, h)) := zg_iald rfl
theorem zi168_51 {E : zE} {v0 v1 : Value} {x : Int32} {ls sk : List Value} {h : zH} : zrun zpp E 168 (51, v0 :: v1 :: .int x :: ls, sk, h) = zrun zpp E 168 (52, v0 :: v1 :: .int x :: ls, .int x :: sk, h) := zrun_at rfl
theorem zi168_52 {E : zE} {x y : Int32} {ls sk : List Value} {h : zH} : zrun zpp E 168 (52, ls, .int y :: .int x :: sk, h) = if x = y then zrun zpp E 168 (55, ls, sk, h) else zrun zpp E 168 (70, ls, sk, h) := zrun_at rfl
theorem zi168_55 {E : zE} {x : Nat} {ls sk : List Value} {h : zH} : zrun zpp E 168 (55, .ref x :: ls, sk, h) = zrun zpp E 168 (56, .ref x :: ls, .ref x :: sk, h) := zrun_at rfl
theorem zi168_55n {E : zE} {ls sk : List Value} {h : zH} : zrun zpp E 168 (55, .null :: ls, sk, h) = zrun zpp E 168 (56, .null :: ls, .null :: sk, h) := zrun_at rfl
theorem zi168_56 {E : zE} {x : Nat} {ls sk : List Value} {h : zH} : zrun zpp E 168 (56, ls, .ref x :: sk, h) = (zfld [11] h x 6).bind (fun v => zrun zpp E 168 (59, ls, v :: sk, h)) := zg_getf rfl
theorem zi168_59 {E : zE} {v0 v1 v2 v3 v4 v5 v6 : Value} {x : Int32} {ls sk : List Value} {h : zH} : zrun zpp E 168 (59, v0 :: v1 :: v2 :: v3 :: v4 :: v5 :: v6 :: .int x :: ls, sk, h) = zrun zpp E 168 (61, v0 :: v1 :: v2 :: v3 :: v4 :: v5 :: v6 :: .int x :: ls, .int x :: sk, h) := zrun_at rfl
theorem zi168_61 {E : zE} {ls sk : List Value} {h : zH} : zrun zpp E 168 (61, ls, sk, h) = zrun zpp E 168 (62, ls, .int 2 :: sk, h) := zg_iconst rfl ci_2
theorem zi168_62 {E : zE} {x y : Int32} {ls sk : List Value} {h : zH} : zrun zpp E 168 (62, ls, .int y :: .int x :: sk, h) = zrun zpp E 168 (63, ls, .int (x + y) :: sk, h) := zrun_at rfl
theorem zi168_63 {E : zE} {x : Nat} {i : Int32} {ls sk : List Value} {h : zH} : zrun zpp E 168 (63, ls, .int i :: .ref x :: sk, h) = (zarr 0 h x i).bind (fun v => zrun zpp E 168 (64, ls, .int v :: sk, h)) := zg_iald rfl
theorem zi168_64 {E : zE} {x : Int32} {ls sk : List Value} {h : zH} : zrun zpp E 168 (64, ls, .int x :: sk, h) = zrun zpp E 168 (65, ls, .long x.toInt64 :: sk, h) := zrun_at rfl
theorem zi168_65 {E : zE} {v0 v1 v2 : Value} {x : Int64} {ls sk : List Value} {h : zH} : zrun zpp E 168 (65, v0 :: v1 :: v2 :: .long x :: ls, sk, h) = zrun zpp E 168 (66, v0 :: v1 :: v2 :: .long x :: ls, .long x :: sk, h) := zrun_at rfl
theorem zi168_66 {E : zE} {x y : Int64} {ls sk : List Value} {h : zH} : zrun zpp E 168 (66, ls, .long y :: .long x :: sk, h) = zrun zpp E 168 (67, ls, .int (lg_cmp x y) :: sk, h) := zrun_at rfl
theorem zi168_67 {E : zE} {x : Int32} {ls sk : List Value} {h : zH} : zrun zpp E 168 (67, ls, .int x :: sk, h) = if x = 0 then zrun zpp E 168 (98, ls, sk, h) else zrun zpp E 168 (70, ls, sk, h) := zrun_at rfl
theorem zi168_70 {E : zE} {x : Nat} {ls sk : List Value} {h : zH} : zrun zpp E 168 (70, .ref x :: ls, sk, h) = zrun zpp E 168 (71, .ref x :: ls, .ref x :: sk, h) := zrun_at rfl
theorem zi168_70n {E : zE} {ls sk : List Value} {h : zH} : zrun zpp E 168 (70, .null :: ls, sk, h) = zrun zpp E 168 (71, .null :: ls, .null :: sk, h) := zrun_at rfl
theorem zi168_71 {E : zE} {x : Nat} {ls sk : List Value} {h : zH} : zrun zpp E 168 (71, ls, .ref x :: sk, h) = (zfld [11] h x 6).bind (fun v => zrun zpp E 168 (74, ls, v :: sk, h)) := zg_getf rfl
theorem zi168_74 {E : zE} {v0 v1 v2 v3 v4 v5 v6 : Value} {x : Int32} {ls sk : List Value} {h : zH} : zrun zpp E 168 (74, v0 :: v1 :: v2 :: v3 :: v4 :: v5 :: v6 :: .int x :: ls, sk, h) = zrun zpp E 168 (76, v0 :: v1 :: v2 :: v3 :: v4 :: v5 :: v6 :: .int x :: ls, .int x :: sk, h) := zrun_at rfl
theorem zi168_76 {E : zE} {ls sk : List Value} {h : zH} : zrun zpp E 168 (76, ls, sk, h) = zrun zpp E 168 (77, ls, .int 1 :: sk, h) := zg_iconst rfl ci_1
theorem zi168_77 {E : zE} {x y : Int32} {ls sk : List Value} {h : zH} : zrun zpp E 168 (77, ls, .int y :: .int x :: sk, h) = zrun zpp E 168 (78, ls, .int (x + y) :: sk, h) := zrun_at rfl
theorem zi168_78 {E : zE} {x : Nat} {i : Int32} {ls sk : List Value} {h : zH} : zrun zpp E 168 (78, ls, .int i :: .ref x :: sk, h) = (zarr 0 h x i).bind (fun v => zrun zpp E 168 (79, ls, .int v :: sk, h)) := zg_iald rfl
theorem zi168_79 {E : zE} {x : Int32} {ls sk : List Value} {h : zH} : zrun zpp E 168 (79, ls, .int x :: sk, h) = zrun zpp E 168 (80, ls, .long x.toInt64 :: sk, h) := zrun_at rfl
theorem zi168_80 {E : zE} {v0 v1 v2 : Value} {x : Int64} {ls sk : List Value} {h : zH} : zrun zpp E 168 (80, v0 :: v1 :: v2 :: .long x :: ls, sk, h) = zrun zpp E 168 (81, v0 :: v1 :: v2 :: .long x :: ls, .long x :: sk, h) := zrun_at rfl
theorem zi168_81 {E : zE} {x y : Int64} {ls sk : List Value} {h : zH} : zrun zpp E 168 (81, ls, .long y :: .long x :: sk, h) = zrun zpp E 168 (82, ls, .int (lg_cmp x y) :: sk, h) := zrun_at rfl
theorem zi168_82 {E : zE} {x : Int32} {ls sk : List Value} {h : zH} : zrun zpp E 168 (82, ls, .int x :: sk, h) = if x = 0 then zrun zpp E 168 (85, ls, sk, h) else zrun zpp E 168 (102, ls, sk, h) := zrun_at rfl
theorem zi168_85 {E : zE} {x : Nat} {ls sk : List Value} {h : zH} : zrun zpp E 168 (85, .ref x :: ls, sk, h) = zrun zpp E 168 (86, .ref x :: ls, .ref x :: sk, h) := zrun_at rfl
theorem zi168_85n {E : zE} {ls sk : List Value} {h : zH} : zrun zpp E 168 (85, .null :: ls, sk, h) = zrun zpp E 168 (86, .null :: ls, .null :: sk, h) := zrun_at rfl
theorem zi168_86 {E : zE} {x : Nat} {ls sk : List Value} {h : zH} : zrun zpp E 168 (86, ls, .ref x :: sk, h) = (zfld [11] h x 6).bind (fun v => zrun zpp E 168 (89, ls, v :: sk, h)) := zg_getf rfl
theorem zi168_89 {E : zE} {v0 v1 v2 v3 v4 v5 v6 : Value} {x : Int32} {ls sk : List Value} {h : zH} : zrun zpp E 168 (89, v0 :: v1 :: v2 :: v3 :: v4 :: v5 :: v6 :: .int x :: ls, sk, h) = zrun zpp E 168 (91, v0 :: v1 :: v2 :: v3 :: v4 :: v5 :: v6 :: .int x :: ls, .int x :: sk, h) := zrun_at rfl
theorem zi168_91 {E : zE} {ls sk : List Value} {h : zH} : zrun zpp E 168 (91, ls, sk, h) = zrun zpp E 168 (92, ls, .int 2 :: sk, h) := zg_iconst rfl ci_2
theorem zi168_92 {E : zE} {x y : Int32} {ls sk : List Value} {h : zH} : zrun zpp E 168 (92, ls, .int y :: .int x :: sk, h) = zrun zpp E 168 (93, ls, .int (x + y) :: sk, h) := zrun_at rfl
theorem zi168_93 {E : zE} {x : Nat} {i : Int32} {ls sk : List Value} {h : zH} : zrun zpp E 168 (93, ls, .int i :: .ref x :: sk, h) = (zarr 0 h x i).bind (fun v => zrun zpp E 168 (94, ls, .int v :: sk, h)) := zg_iald rfl
theorem zi168_94 {E : zE} {v0 v1 : Value} {x : Int32} {ls sk : List Value} {h : zH} : zrun zpp E 168 (94, v0 :: v1 :: .int x :: ls, sk, h) = zrun zpp E 168 (95, v0 :: v1 :: .int x :: ls, .int x :: sk, h) := zrun_at rfl
theorem zi168_95 {E : zE} {x y : Int32} {ls sk : List Value} {h : zH} : zrun zpp E 168 (95, ls, .int y :: .int x :: sk, h) = if x = y then zrun zpp E 168 (98, ls, sk, h) else zrun zpp E 168 (102, ls, sk, h) := zrun_at rfl
theorem zi168_98 {E : zE} {ls sk : List Value} {h : zH} : zrun zpp E 168 (98, ls, sk, h) = zrun zpp E 168 (99, ls, .int 1 :: sk, h) := zg_iconst rfl ci_1
theorem zi168_99 {E : zE} {ls sk : List Value} {h : zH} : zrun zpp E 168 (99, ls, sk, h) = zrun zpp E 168 (103, ls, sk, h) := zrun_at rfl
theorem zi168_102 {E : zE} {ls sk : List Value} {h : zH} : zrun zpp E 168 (102, ls, sk, h) = zrun zpp E 168 (103, ls, .int 0 :: sk, h) := zg_iconst rfl ci_0
theorem zi168_103 {E : zE} {x : Int32} {ls sk : List Value} {h : zH} : zrun zpp E 168 (103, ls, .int x :: sk, h) = if zfree ls 5 = true then zrun zpp E 168 (105, ls.set 5 (.int x), sk, h) else none := zg_ist rfl (fun _ _ _ => rfl)
theorem zi168_105 {E : zE} {v0 v1 v2 v3 v4 v5 : Value} {x : Int32} {ls sk : List Value} {h : zH} : zrun zpp E 168 (105, v0 :: v1 :: v2 :: v3 :: v4 :: v5 :: .int x :: ls, sk, h) = if zfree (v0 :: v1 :: v2 :: v3 :: v4 :: v5 :: .int x :: ls) 6 = true then zrun zpp E 168 (108, v0 :: v1 :: v2 :: v3 :: v4 :: v5 :: .int (x + 1) :: ls, sk, h) else none := by rw [← ci_1]; exact zrun_at rfl
theorem zi168_108 {E : zE} {ls sk : List Value} {h : zH} : zrun zpp E 168 (108, ls, sk, h) = zrun zpp E 168 (6, ls, sk, h) := zrun_at rfl
theorem zi168_111 {E : zE} {v0 v1 v2 v3 v4 : Value} {x : Int32} {ls sk : List Value} {h : zH} : zrun zpp E 168 (111, v0 :: v1 :: v2 :: v3 :: v4 :: .int x :: ls, sk, h) = zrun zpp E 168 (113, v0 :: v1 :: v2 :: v3 :: v4 :: .int x :: ls, .int x :: sk, h) := zrun_at rfl
theorem zi168_113 {E : zE} {x : Int32} {ls sk : List Value} {h : zH} : zrun zpp E 168 (113, ls, [.int x], h) = if x = 0 then some (some (.int 0), h) else if x = 1 then some (some (.int 1), h) else none := zrun_at rfl
-- 169 NineDownModel.readHold
theorem zi169_0 {E : zE} {x : Nat} {ls sk : List Value} {h : zH} : zrun zpp E 169 (0, .ref x :: ls, sk, h) = zrun zpp E 169 (1, .ref x :: ls, .ref x :: sk, h) := zrun_at rfl
theorem zi169_0n {E : zE} {ls sk : List Value} {h : zH} : zrun zpp E 169 (0, .null :: ls, sk, h) = zrun zpp E 169 (1, .null :: ls, .null :: sk, h) := zrun_at rfl
theorem zi169_1 {E : zE} {x : Nat} {ls sk : List Value} {h : zH} : zrun zpp E 169 (1, ls, .ref x :: sk, h) = (zfld [11] h x 14).bind (fun v => zrun zpp E 169 (4, ls, v :: sk, h)) := zg_getf rfl
theorem zi169_4 {E : zE} {ls sk : List Value} {h : zH} : zrun zpp E 169 (4, ls, sk, h) = zrun zpp E 169 (6, ls, .int 99 :: sk, h) := zg_bipush rfl ci_99
theorem zi169_6 {E : zE} {x y : Int32} {ls sk : List Value} {h : zH} : zrun zpp E 169 (6, ls, .int y :: .int x :: sk, h) = if x = y then zrun zpp E 169 (9, ls, sk, h) else zrun zpp E 169 (13, ls, sk, h) := zrun_at rfl
theorem zi169_9 {E : zE} {ls sk : List Value} {h : zH} : zrun zpp E 169 (9, ls, sk, h) = zrun zpp E 169 (10, ls, .int 1 :: sk, h) := zg_iconst rfl ci_1
theorem zi169_10 {E : zE} {ls sk : List Value} {h : zH} : zrun zpp E 169 (10, ls, sk, h) = zrun zpp E 169 (14, ls, sk, h) := zrun_at rfl
theorem zi169_13 {E : zE} {ls sk : List Value} {h : zH} : zrun zpp E 169 (13, ls, sk, h) = zrun zpp E 169 (14, ls, .int 0 :: sk, h) := zg_iconst rfl ci_0
theorem zi169_14 {E : zE} {x : Int32} {ls sk : List Value} {h : zH} : zrun zpp E 169 (14, ls, .int x :: sk, h) = if zfree ls 1 = true then zrun zpp E 169 (15, ls.set 1 (.int x), sk, h) else none := zg_ist rfl (fun _ _ _ => rfl)
theorem zi169_15 {E : zE} {x : Nat} {ls sk : List Value} {h : zH} : zrun zpp E 169 (15, .ref x :: ls, sk, h) = zrun zpp E 169 (16, .ref x :: ls, .ref x :: sk, h) := zrun_at rfl
theorem zi169_15n {E : zE} {ls sk : List Value} {h : zH} : zrun zpp E 169 (15, .null :: ls, sk, h) = zrun zpp E 169 (16, .null :: ls, .null :: sk, h) := zrun_at rfl
theorem zi169_16 {E : zE} {x : Nat} {ls sk : List Value} {h : zH} : zrun zpp E 169 (16, ls, .ref x :: sk, h) = (zfld [11] h x 6).bind (fun v => zrun zpp E 169 (19, ls, v :: sk, h)) := zg_getf rfl
theorem zi169_19 {E : zE} {ls sk : List Value} {h : zH} : zrun zpp E 169 (19, ls, sk, h) = zrun zpp E 169 (20, ls, .int 4 :: sk, h) := zg_iconst rfl ci_4
theorem zi169_20 {E : zE} {x : Nat} {i : Int32} {ls sk : List Value} {h : zH} : zrun zpp E 169 (20, ls, .int i :: .ref x :: sk, h) = (zarr 0 h x i).bind (fun v => zrun zpp E 169 (21, ls, .int v :: sk, h)) := zg_iald rfl
theorem zi169_21 {E : zE} {ls sk : List Value} {h : zH} : zrun zpp E 169 (21, ls, sk, h) = zrun zpp E 169 (23, ls, .int 10 :: sk, h) := zg_bipush rfl ci_10
theorem zi169_23 {E : zE} {x y : Int32} {ls sk : List Value} {h : zH} : zrun zpp E 169 (23, ls, .int y :: .int x :: sk, h) = if x = y then zrun zpp E 169 (26, ls, sk, h) else zrun zpp E 169 (31, ls, sk, h) := zrun_at rfl
theorem zi169_26 {E : zE} {x : Nat} {ls sk : List Value} {h : zH} : zrun zpp E 169 (26, .ref x :: ls, sk, h) = zrun zpp E 169 (27, .ref x :: ls, .ref x :: sk, h) := zrun_at rfl
theorem zi169_26n {E : zE} {ls sk : List Value} {h : zH} : zrun zpp E 169 (26, .null :: ls, sk, h) = zrun zpp E 169 (27, .null :: ls, .null :: sk, h) := zrun_at rfl
theorem zi169_27 {E : zE} {ls sk : List Value} {h : zH} : zrun zpp E 169 (27, ls, sk, h) = zrun zpp E 169 (28, ls, .int 3 :: sk, h) := zg_iconst rfl ci_3
theorem zi169_28 {E : zE} {a0 : Value} {x : Nat} {ls sk : List Value} {h : zH} : zrun zpp E 169 (28, ls, a0 :: .ref x :: sk, h) = (zcls h x).bind (fun d => (zsel d [11, 157]).bind (fun M' => zcl1 E 169 31 M' ls sk [.ref x, a0] h)) := zg_vir (as := [a0]) rfl rfl
theorem zi169_31 {E : zE} {x : Nat} {ls sk : List Value} {h : zH} : zrun zpp E 169 (31, .ref x :: ls, sk, h) = zrun zpp E 169 (32, .ref x :: ls, .ref x :: sk, h) := zrun_at rfl
theorem zi169_31n {E : zE} {ls sk : List Value} {h : zH} : zrun zpp E 169 (31, .null :: ls, sk, h) = zrun zpp E 169 (32, .null :: ls, .null :: sk, h) := zrun_at rfl
theorem zi169_32 {E : zE} {ls sk : List Value} {h : zH} : zrun zpp E 169 (32, ls, sk, h) = zrun zpp E 169 (33, ls, .int 1 :: sk, h) := zg_iconst rfl ci_1
theorem zi169_33 {E : zE} {a0 : Value} {x : Nat} {ls sk : List Value} {h : zH} : zrun zpp E 169 (33, ls, a0 :: .ref x :: sk, h) = (zcls h x).bind (fun d => (zsel d [11, 159]).bind (fun M' => zcl1 E 169 36 M' ls sk [.ref x, a0] h)) := zg_vir (as := [a0]) rfl rfl
theorem zi169_36 {E : zE} {x : Nat} {ls sk : List Value} {h : zH} : zrun zpp E 169 (36, .ref x :: ls, sk, h) = zrun zpp E 169 (37, .ref x :: ls, .ref x :: sk, h) := zrun_at rfl
theorem zi169_36n {E : zE} {ls sk : List Value} {h : zH} : zrun zpp E 169 (36, .null :: ls, sk, h) = zrun zpp E 169 (37, .null :: ls, .null :: sk, h) := zrun_at rfl
theorem zi169_37 {E : zE} {ls sk : List Value} {h : zH} : zrun zpp E 169 (37, ls, sk, h) = zrun zpp E 169 (38, ls, .int 0 :: sk, h) := zg_iconst rfl ci_0
theorem zi169_38 {E : zE} {x : Nat} {ls sk : List Value} {h : zH} : zrun zpp E 169 (38, .ref x :: ls, sk, h) = zrun zpp E 169 (39, .ref x :: ls, .ref x :: sk, h) := zrun_at rfl
theorem zi169_38n {E : zE} {ls sk : List Value} {h : zH} : zrun zpp E 169 (38, .null :: ls, sk, h) = zrun zpp E 169 (39, .null :: ls, .null :: sk, h) := zrun_at rfl
theorem zi169_39 {E : zE} {x : Nat} {ls sk : List Value} {h : zH} : zrun zpp E 169 (39, ls, .ref x :: sk, h) = (zfld [11] h x 6).bind (fun v => zrun zpp E 169 (42, ls, v :: sk, h)) := zg_getf rfl
theorem zi169_42 {E : zE} {ls sk : List Value} {h : zH} : zrun zpp E 169 (42, ls, sk, h) = zrun zpp E 169 (43, ls, .int 3 :: sk, h) := zg_iconst rfl ci_3
theorem zi169_43 {E : zE} {x : Nat} {i : Int32} {ls sk : List Value} {h : zH} : zrun zpp E 169 (43, ls, .int i :: .ref x :: sk, h) = (zarr 0 h x i).bind (fun v => zrun zpp E 169 (44, ls, .int v :: sk, h)) := zg_iald rfl
theorem zi169_44 {E : zE} {ls sk : List Value} {h : zH} : zrun zpp E 169 (44, ls, sk, h) = zrun zpp E 169 (45, ls, .int 1 :: sk, h) := zg_iconst rfl ci_1
theorem zi169_45 {E : zE} {x y : Int32} {ls sk : List Value} {h : zH} : zrun zpp E 169 (45, ls, .int y :: .int x :: sk, h) = zrun zpp E 169 (46, ls, .int (x - y) :: sk, h) := zrun_at rfl
theorem zi169_46 {E : zE} {a0 a1 : Value} {x : Nat} {ls sk : List Value} {h : zH} : zrun zpp E 169 (46, ls, a1 :: a0 :: .ref x :: sk, h) = (zcls h x).bind (fun d => (zsel d [11, 161]).bind (fun M' => zcl1 E 169 49 M' ls sk [.ref x, a0, a1] h)) := zg_vir (as := [a0, a1]) rfl rfl
theorem zi169_49 {E : zE} {x : Int32} {ls sk : List Value} {h : zH} : zrun zpp E 169 (49, ls, .int x :: sk, h) = if zfree ls 2 = true then zrun zpp E 169 (50, ls.set 2 (.int x), sk, h) else none := zg_ist rfl (fun _ _ _ => rfl)
theorem zi169_50 {E : zE} {x : Nat} {ls sk : List Value} {h : zH} : zrun zpp E 169 (50, .ref x :: ls, sk, h) = zrun zpp E 169 (51, .ref x :: ls, .ref x :: sk, h) := zrun_at rfl
theorem zi169_50n {E : zE} {ls sk : List Value} {h : zH} : zrun zpp E 169 (50, .null :: ls, sk, h) = zrun zpp E 169 (51, .null :: ls, .null :: sk, h) := zrun_at rfl
theorem zi169_51 {E : zE} {ls sk : List Value} {h : zH} : zrun zpp E 169 (51, ls, sk, h) = zrun zpp E 169 (53, ls, .int 44 :: sk, h) := zg_bipush rfl ci_44
theorem zi169_53 {E : zE} {a0 : Value} {x : Nat} {ls sk : List Value} {h : zH} : zrun zpp E 169 (53, ls, a0 :: .ref x :: sk, h) = (zcls h x).bind (fun d => (zsel d [11, 162]).bind (fun M' => zcl1 E 169 56 M' ls sk [.ref x, a0] h)) := zg_vir (as := [a0]) rfl rfl
theorem zi169_56 {E : zE} {x : Nat} {ls sk : List Value} {h : zH} : zrun zpp E 169 (56, .ref x :: ls, sk, h) = zrun zpp E 169 (57, .ref x :: ls, .ref x :: sk, h) := zrun_at rfl
theorem zi169_56n {E : zE} {ls sk : List Value} {h : zH} : zrun zpp E 169 (56, .null :: ls, sk, h) = zrun zpp E 169 (57, .null :: ls, .null :: sk, h) := zrun_at rfl
theorem zi169_57 {E : zE} {x : Nat} {ls sk : List Value} {h : zH} : zrun zpp E 169 (57, ls, .ref x :: sk, h) = (zfld [11] h x 15).bind (fun v => zrun zpp E 169 (60, ls, v :: sk, h)) := zg_getf rfl
theorem zi169_60 {E : zE} {x : Int32} {ls sk : List Value} {h : zH} : zrun zpp E 169 (60, ls, .int x :: sk, h) = if x = 0 then zrun zpp E 169 (63, ls, sk, h) else zrun zpp E 169 (98, ls, sk, h) := zrun_at rfl
theorem zi169_63 {E : zE} {x : Nat} {ls sk : List Value} {h : zH} : zrun zpp E 169 (63, .ref x :: ls, sk, h) = zrun zpp E 169 (64, .ref x :: ls, .ref x :: sk, h) := zrun_at rfl
theorem zi169_63n {E : zE} {ls sk : List Value} {h : zH} : zrun zpp E 169 (63, .null :: ls, sk, h) = zrun zpp E 169 (64, .null :: ls, .null :: sk, h) := zrun_at rfl
theorem zi169_64 {E : zE} {x : Nat} {ls sk : List Value} {h : zH} : zrun zpp E 169 (64, ls, .ref x :: sk, h) = (zfld [11] h x 13).bind (fun v => zrun zpp E 169 (67, ls, v :: sk, h)) := zg_getf rfl
theorem zi169_67 {E : zE} {ls sk : List Value} {h : zH} : zrun zpp E 169 (67, ls, sk, h) = zrun zpp E 169 (68, ls, .int 3 :: sk, h) := zg_iconst rfl ci_3
theorem zi169_68 {E : zE} {x y : Int32} {ls sk : List Value} {h : zH} : zrun zpp E 169 (68, ls, .int y :: .int x :: sk, h) = if x = y then zrun zpp E 169 (71, ls, sk, h) else zrun zpp E 169 (98, ls, sk, h) := zrun_at rfl
theorem zi169_71 {E : zE} {x : Nat} {ls sk : List Value} {h : zH} : zrun zpp E 169 (71, .ref x :: ls, sk, h) = zrun zpp E 169 (72, .ref x :: ls, .ref x :: sk, h) := zrun_at rfl
theorem zi169_71n {E : zE} {ls sk : List Value} {h : zH} : zrun zpp E 169 (71, .null :: ls, sk, h) = zrun zpp E 169 (72, .null :: ls, .null :: sk, h) := zrun_at rfl
theorem zi169_72 {E : zE} {x : Nat} {ls sk : List Value} {h : zH} : zrun zpp E 169 (72, ls, .ref x :: sk, h) = (zfld [11] h x 14).bind (fun v => zrun zpp E 169 (75, ls, v :: sk, h)) := zg_getf rfl
theorem zi169_75 {E : zE} {v0 v1 : Value} {x : Int32} {ls sk : List Value} {h : zH} : zrun zpp E 169 (75, v0 :: v1 :: .int x :: ls, sk, h) = zrun zpp E 169 (76, v0 :: v1 :: .int x :: ls, .int x :: sk, h) := zrun_at rfl
theorem zi169_76 {E : zE} {x y : Int32} {ls sk : List Value} {h : zH} : zrun zpp E 169 (76, ls, .int y :: .int x :: sk, h) = if x = y then zrun zpp E 169 (93, ls, sk, h) else zrun zpp E 169 (79, ls, sk, h) := zrun_at rfl
theorem zi169_79 {E : zE} {x : Nat} {ls sk : List Value} {h : zH} : zrun zpp E 169 (79, .ref x :: ls, sk, h) = zrun zpp E 169 (80, .ref x :: ls, .ref x :: sk, h) := zrun_at rfl
theorem zi169_79n {E : zE} {ls sk : List Value} {h : zH} : zrun zpp E 169 (79, .null :: ls, sk, h) = zrun zpp E 169 (80, .null :: ls, .null :: sk, h) := zrun_at rfl
theorem zi169_80 {E : zE} {v0 : Value} {x : Int32} {ls sk : List Value} {h : zH} : zrun zpp E 169 (80, v0 :: .int x :: ls, sk, h) = zrun zpp E 169 (81, v0 :: .int x :: ls, .int x :: sk, h) := zrun_at rfl
theorem zi169_81 {E : zE} {v0 v1 : Value} {x : Int32} {ls sk : List Value} {h : zH} : zrun zpp E 169 (81, v0 :: v1 :: .int x :: ls, sk, h) = zrun zpp E 169 (82, v0 :: v1 :: .int x :: ls, .int x :: sk, h) := zrun_at rfl
theorem zi169_82 {E : zE} {x : Nat} {ls sk : List Value} {h : zH} : zrun zpp E 169 (82, .ref x :: ls, sk, h) = zrun zpp E 169 (83, .ref x :: ls, .ref x :: sk, h) := zrun_at rfl
theorem zi169_82n {E : zE} {ls sk : List Value} {h : zH} : zrun zpp E 169 (82, .null :: ls, sk, h) = zrun zpp E 169 (83, .null :: ls, .null :: sk, h) := zrun_at rfl
theorem zi169_83 {E : zE} {x : Nat} {ls sk : List Value} {h : zH} : zrun zpp E 169 (83, ls, .ref x :: sk, h) = (zfld [11] h x 14).bind (fun v => zrun zpp E 169 (86, ls, v :: sk, h)) := zg_getf rfl
theorem zi169_86 {E : zE} {x : Int32} {ls sk : List Value} {h : zH} : zrun zpp E 169 (86, ls, .int x :: sk, h) = zrun zpp E 169 (87, ls, .long x.toInt64 :: sk, h) := zrun_at rfl
theorem zi169_87 {E : zE} {a0 a1 a2 : Value} {x : Nat} {ls sk : List Value} {h : zH} : zrun zpp E 169 (87, ls, a2 :: a1 :: a0 :: .ref x :: sk, h) = (zcls h x).bind (fun d => (zsel d [11, 168]).bind (fun M' => zcl1 E 169 90 M' ls sk [.ref x, a0, a1, a2] h)) := zg_vir (as := [a0, a1, a2]) rfl rfl
theorem zi169_90 {E : zE} {x : Int32} {ls sk : List Value} {h : zH} : zrun zpp E 169 (90, ls, .int x :: sk, h) = if x = 0 then zrun zpp E 169 (98, ls, sk, h) else zrun zpp E 169 (93, ls, sk, h) := zrun_at rfl
theorem zi169_93 {E : zE} {x : Nat} {ls sk : List Value} {h : zH} : zrun zpp E 169 (93, .ref x :: ls, sk, h) = zrun zpp E 169 (94, .ref x :: ls, .ref x :: sk, h) := zrun_at rfl
theorem zi169_93n {E : zE} {ls sk : List Value} {h : zH} : zrun zpp E 169 (93, .null :: ls, sk, h) = zrun zpp E 169 (94, .null :: ls, .null :: sk, h) := zrun_at rfl
theorem zi169_94 {E : zE} {ls sk : List Value} {h : zH} : zrun zpp E 169 (94, ls, sk, h) = zrun zpp E 169 (95, ls, .int 2 :: sk, h) := zg_iconst rfl ci_2
theorem zi169_95 {E : zE} {a0 : Value} {x : Nat} {ls sk : List Value} {h : zH} : zrun zpp E 169 (95, ls, a0 :: .ref x :: sk, h) = (zcls h x).bind (fun d => (zsel d [11, 157]).bind (fun M' => zcl1 E 169 98 M' ls sk [.ref x, a0] h)) := zg_vir (as := [a0]) rfl rfl
theorem zi169_98 {E : zE} {x : Nat} {ls sk : List Value} {h : zH} : zrun zpp E 169 (98, .ref x :: ls, sk, h) = zrun zpp E 169 (99, .ref x :: ls, .ref x :: sk, h) := zrun_at rfl
theorem zi169_98n {E : zE} {ls sk : List Value} {h : zH} : zrun zpp E 169 (98, .null :: ls, sk, h) = zrun zpp E 169 (99, .null :: ls, .null :: sk, h) := zrun_at rfl
theorem zi169_99 {E : zE} {ls sk : List Value} {h : zH} : zrun zpp E 169 (99, ls, sk, h) = zrun zpp E 169 (100, ls, .int 0 :: sk, h) := zg_iconst rfl ci_0
theorem zi169_100 {E : zE} {x : Nat} {ls sk : List Value} {h : zH} : zrun zpp E 169 (100, .ref x :: ls, sk, h) = zrun zpp E 169 (101, .ref x :: ls, .ref x :: sk, h) := zrun_at rfl
theorem zi169_100n {E : zE} {ls sk : List Value} {h : zH} : zrun zpp E 169 (100, .null :: ls, sk, h) = zrun zpp E 169 (101, .null :: ls, .null :: sk, h) := zrun_at rfl
theorem zi169_101 {E : zE} {x : Nat} {ls sk : List Value} {h : zH} : zrun zpp E 169 (101, ls, .ref x :: sk, h) = (zfld [11] h x 6).bind (fun v => zrun zpp E 169 (104, ls, v :: sk, h)) := zg_getf rfl
theorem zi169_104 {E : zE} {ls sk : List Value} {h : zH} : zrun zpp E 169 (104, ls, sk, h) = zrun zpp E 169 (105, ls, .int 3 :: sk, h) := zg_iconst rfl ci_3
theorem zi169_105 {E : zE} {x : Nat} {i : Int32} {ls sk : List Value} {h : zH} : zrun zpp E 169 (105, ls, .int i :: .ref x :: sk, h) = (zarr 0 h x i).bind (fun v => zrun zpp E 169 (106, ls, .int v :: sk, h)) := zg_iald rfl
theorem zi169_106 {E : zE} {ls sk : List Value} {h : zH} : zrun zpp E 169 (106, ls, sk, h) = zrun zpp E 169 (107, ls, .int 1 :: sk, h) := zg_iconst rfl ci_1
theorem zi169_107 {E : zE} {x y : Int32} {ls sk : List Value} {h : zH} : zrun zpp E 169 (107, ls, .int y :: .int x :: sk, h) = zrun zpp E 169 (108, ls, .int (x - y) :: sk, h) := zrun_at rfl
theorem zi169_108 {E : zE} {a0 a1 : Value} {x : Nat} {ls sk : List Value} {h : zH} : zrun zpp E 169 (108, ls, a1 :: a0 :: .ref x :: sk, h) = (zcls h x).bind (fun d => (zsel d [11, 161]).bind (fun M' => zcl1 E 169 111 M' ls sk [.ref x, a0, a1] h)) := zg_vir (as := [a0, a1]) rfl rfl
theorem zi169_111 {E : zE} {x : Int32} {ls sk : List Value} {h : zH} : zrun zpp E 169 (111, ls, .int x :: sk, h) = if zfree ls 3 = true then zrun zpp E 169 (112, ls.set 3 (.int x), sk, h) else none := zg_ist rfl (fun _ _ _ => rfl)
theorem zi169_112 {E : zE} {x : Nat} {ls sk : List Value} {h : zH} : zrun zpp E 169 (112, .ref x :: ls, sk, h) = zrun zpp E 169 (113, .ref x :: ls, .ref x :: sk, h) := zrun_at rfl
theorem zi169_112n {E : zE} {ls sk : List Value} {h : zH} : zrun zpp E 169 (112, .null :: ls, sk, h) = zrun zpp E 169 (113, .null :: ls, .null :: sk, h) := zrun_at rfl
theorem zi169_113 {E : zE} {ls sk : List Value} {h : zH} : zrun zpp E 169 (113, ls, sk, h) = zrun zpp E 169 (115, ls, .int 59 :: sk, h) := zg_bipush rfl ci_59
theorem zi169_115 {E : zE} {a0 : Value} {x : Nat} {ls sk : List Value} {h : zH} : zrun zpp E 169 (115, ls, a0 :: .ref x :: sk, h) = (zcls h x).bind (fun d => (zsel d [11, 162]).bind (fun M' => zcl1 E 169 118 M' ls sk [.ref x, a0] h)) := zg_vir (as := [a0]) rfl rfl
theorem zi169_118 {E : zE} {x : Nat} {ls sk : List Value} {h : zH} : zrun zpp E 169 (118, .ref x :: ls, sk, h) = zrun zpp E 169 (119, .ref x :: ls, .ref x :: sk, h) := zrun_at rfl
theorem zi169_118n {E : zE} {ls sk : List Value} {h : zH} : zrun zpp E 169 (118, .null :: ls, sk, h) = zrun zpp E 169 (119, .null :: ls, .null :: sk, h) := zrun_at rfl
theorem zi169_119 {E : zE} {x : Nat} {ls sk : List Value} {h : zH} : zrun zpp E 169 (119, ls, .ref x :: sk, h) = (zfld [11] h x 15).bind (fun v => zrun zpp E 169 (122, ls, v :: sk, h)) := zg_getf rfl
theorem zi169_122 {E : zE} {x : Int32} {ls sk : List Value} {h : zH} : zrun zpp E 169 (122, ls, .int x :: sk, h) = if x = 0 then zrun zpp E 169 (125, ls, sk, h) else zrun zpp E 169 (176, ls, sk, h) := zrun_at rfl
theorem zi169_125 {E : zE} {ls sk : List Value} {h : zH} : zrun zpp E 169 (125, ls, sk, h) = zrun zpp E 169 (127, ls, .int 25 :: sk, h) := zg_bipush rfl ci_25
theorem zi169_127 {E : zE} {ls sk : List Value} {h : zH} : zrun zpp E 169 (127, ls, sk, h) = zrun zpp E 169 (128, ls, .int 4 :: sk, h) := zg_iconst rfl ci_4
theorem zi169_128 {E : zE} {x : Nat} {ls sk : List Value} {h : zH} : zrun zpp E 169 (128, .ref x :: ls, sk, h) = zrun zpp E 169 (129, .ref x :: ls, .ref x :: sk, h) := zrun_at rfl
theorem zi169_128n {E : zE} {ls sk : List Value} {h : zH} : zrun zpp E 169 (128, .null :: ls, sk, h) = zrun zpp E 169 (129, .null :: ls, .null :: sk, h) := zrun_at rfl
theorem zi169_129 {E : zE} {x : Nat} {ls sk : List Value} {h : zH} : zrun zpp E 169 (129, ls, .ref x :: sk, h) = (zfld [11] h x 6).bind (fun v => zrun zpp E 169 (132, ls, v :: sk, h)) := zg_getf rfl
theorem zi169_132 {E : zE} {ls sk : List Value} {h : zH} : zrun zpp E 169 (132, ls, sk, h) = zrun zpp E 169 (133, ls, .int 4 :: sk, h) := zg_iconst rfl ci_4
theorem zi169_133 {E : zE} {x : Nat} {i : Int32} {ls sk : List Value} {h : zH} : zrun zpp E 169 (133, ls, .int i :: .ref x :: sk, h) = (zarr 0 h x i).bind (fun v => zrun zpp E 169 (134, ls, .int v :: sk, h)) := zg_iald rfl
theorem zi169_134 {E : zE} {x y : Int32} {ls sk : List Value} {h : zH} : zrun zpp E 169 (134, ls, .int y :: .int x :: sk, h) = zrun zpp E 169 (135, ls, .int (x * y) :: sk, h) := zrun_at rfl
theorem zi169_135 {E : zE} {x y : Int32} {ls sk : List Value} {h : zH} : zrun zpp E 169 (135, ls, .int y :: .int x :: sk, h) = zrun zpp E 169 (136, ls, .int (x + y) :: sk, h) := zrun_at rfl
theorem zi169_136 {E : zE} {x : Int32} {ls sk : List Value} {h : zH} : zrun zpp E 169 (136, ls, .int x :: sk, h) = if zfree ls 4 = true then zrun zpp E 169 (138, ls.set 4 (.int x), sk, h) else none := zg_ist rfl (fun _ _ _ => rfl)
theorem zi169_138 {E : zE} {x : Nat} {ls sk : List Value} {h : zH} : zrun zpp E 169 (138, .ref x :: ls, sk, h) = zrun zpp E 169 (139, .ref x :: ls, .ref x :: sk, h) := zrun_at rfl
theorem zi169_138n {E : zE} {ls sk : List Value} {h : zH} : zrun zpp E 169 (138, .null :: ls, sk, h) = zrun zpp E 169 (139, .null :: ls, .null :: sk, h) := zrun_at rfl
theorem zi169_139 {E : zE} {x : Nat} {ls sk : List Value} {h : zH} : zrun zpp E 169 (139, ls, .ref x :: sk, h) = (zfld [11] h x 6).bind (fun v => zrun zpp E 169 (142, ls, v :: sk, h)) := zg_getf rfl
theorem zi169_142 {E : zE} {v0 v1 v2 v3 : Value} {x : Int32} {ls sk : List Value} {h : zH} : zrun zpp E 169 (142, v0 :: v1 :: v2 :: v3 :: .int x :: ls, sk, h) = zrun zpp E 169 (144, v0 :: v1 :: v2 :: v3 :: .int x :: ls, .int x :: sk, h) := zrun_at rfl
theorem zi169_144 {E : zE} {v0 : Value} {x : Int32} {ls sk : List Value} {h : zH} : zrun zpp E 169 (144, v0 :: .int x :: ls, sk, h) = zrun zpp E 169 (145, v0 :: .int x :: ls, .int x :: sk, h) := zrun_at rfl
theorem zi169_145 {E : zE} {x : Nat} {i v : Int32} {ls sk : List Value} {h : zH} : zrun zpp E 169 (145, ls, .int v :: .int i :: .ref x :: sk, h) = (zars 0 h x i v).bind (fun h' => zrun zpp E 169 (146, ls, sk, h')) := zg_iast rfl
theorem zi169_146 {E : zE} {x : Nat} {ls sk : List Value} {h : zH} : zrun zpp E 169 (146, .ref x :: ls, sk, h) = zrun zpp E 169 (147, .ref x :: ls, .ref x :: sk, h) := zrun_at rfl
theorem zi169_146n {E : zE} {ls sk : List Value} {h : zH} : zrun zpp E 169 (146, .null :: ls, sk, h) = zrun zpp E 169 (147, .null :: ls, .null :: sk, h) := zrun_at rfl
theorem zi169_147 {E : zE} {x : Nat} {ls sk : List Value} {h : zH} : zrun zpp E 169 (147, ls, .ref x :: sk, h) = (zfld [11] h x 6).bind (fun v => zrun zpp E 169 (150, ls, v :: sk, h)) := zg_getf rfl
theorem zi169_150 {E : zE} {v0 v1 v2 v3 : Value} {x : Int32} {ls sk : List Value} {h : zH} : zrun zpp E 169 (150, v0 :: v1 :: v2 :: v3 :: .int x :: ls, sk, h) = zrun zpp E 169 (152, v0 :: v1 :: v2 :: v3 :: .int x :: ls, .int x :: sk, h) := zrun_at rfl
theorem zi169_152 {E : zE} {ls sk : List Value} {h : zH} : zrun zpp E 169 (152, ls, sk, h) = zrun zpp E 169 (153, ls, .int 1 :: sk, h) := zg_iconst rfl ci_1
theorem zi169_153 {E : zE} {x y : Int32} {ls sk : List Value} {h : zH} : zrun zpp E 169 (153, ls, .int y :: .int x :: sk, h) = zrun zpp E 169 (154, ls, .int (x + y) :: sk, h) := zrun_at rfl
theorem zi169_154 {E : zE} {v0 v1 : Value} {x : Int32} {ls sk : List Value} {h : zH} : zrun zpp E 169 (154, v0 :: v1 :: .int x :: ls, sk, h) = zrun zpp E 169 (155, v0 :: v1 :: .int x :: ls, .int x :: sk, h) := zrun_at rfl
theorem zi169_155 {E : zE} {x : Nat} {i v : Int32} {ls sk : List Value} {h : zH} : zrun zpp E 169 (155, ls, .int v :: .int i :: .ref x :: sk, h) = (zars 0 h x i v).bind (fun h' => zrun zpp E 169 (156, ls, sk, h')) := zg_iast rfl
theorem zi169_156 {E : zE} {x : Nat} {ls sk : List Value} {h : zH} : zrun zpp E 169 (156, .ref x :: ls, sk, h) = zrun zpp E 169 (157, .ref x :: ls, .ref x :: sk, h) := zrun_at rfl
theorem zi169_156n {E : zE} {ls sk : List Value} {h : zH} : zrun zpp E 169 (156, .null :: ls, sk, h) = zrun zpp E 169 (157, .null :: ls, .null :: sk, h) := zrun_at rfl
theorem zi169_157 {E : zE} {x : Nat} {ls sk : List Value} {h : zH} : zrun zpp E 169 (157, ls, .ref x :: sk, h) = (zfld [11] h x 6).bind (fun v => zrun zpp E 169 (160, ls, v :: sk, h)) := zg_getf rfl
theorem zi169_160 {E : zE} {v0 v1 v2 v3 : Value} {x : Int32} {ls sk : List Value} {h : zH} : zrun zpp E 169 (160, v0 :: v1 :: v2 :: v3 :: .int x :: ls, sk, h) = zrun zpp E 169 (162, v0 :: v1 :: v2 :: v3 :: .int x :: ls, .int x :: sk, h) := zrun_at rfl
theorem zi169_162 {E : zE} {ls sk : List Value} {h : zH} : zrun zpp E 169 (162, ls, sk, h) = zrun zpp E 169 (163, ls, .int 2 :: sk, h) := zg_iconst rfl ci_2
theorem zi169_163 {E : zE} {x y : Int32} {ls sk : List Value} {h : zH} : zrun zpp E 169 (163, ls, .int y :: .int x :: sk, h) = zrun zpp E 169 (164, ls, .int (x + y) :: sk, h) := zrun_at rfl
theorem zi169_164 {E : zE} {v0 v1 v2 : Value} {x : Int32} {ls sk : List Value} {h : zH} : zrun zpp E 169 (164, v0 :: v1 :: v2 :: .int x :: ls, sk, h) = zrun zpp E 169 (165, v0 :: v1 :: v2 :: .int x :: ls, .int x :: sk, h) := zrun_at rfl
theorem zi169_165 {E : zE} {x : Nat} {i v : Int32} {ls sk : List Value} {h : zH} : zrun zpp E 169 (165, ls, .int v :: .int i :: .ref x :: sk, h) = (zars 0 h x i v).bind (fun h' => zrun zpp E 169 (166, ls, sk, h')) := zg_iast rfl
theorem zi169_166 {E : zE} {x : Nat} {ls sk : List Value} {h : zH} : zrun zpp E 169 (166, .ref x :: ls, sk, h) = zrun zpp E 169 (167, .ref x :: ls, .ref x :: sk, h) := zrun_at rfl
theorem zi169_166n {E : zE} {ls sk : List Value} {h : zH} : zrun zpp E 169 (166, .null :: ls, sk, h) = zrun zpp E 169 (167, .null :: ls, .null :: sk, h) := zrun_at rfl
theorem zi169_167 {E : zE} {x : Nat} {ls sk : List Value} {h : zH} : zrun zpp E 169 (167, ls, .ref x :: sk, h) = (zfld [11] h x 6).bind (fun v => zrun zpp E 169 (170, ls, v :: sk, h)) := zg_getf rfl
theorem zi169_170 {E : zE} {ls sk : List Value} {h : zH} : zrun zpp E 169 (170, ls, sk, h) = zrun zpp E 169 (171, ls, .int 4 :: sk, h) := zg_iconst rfl ci_4
theorem zi169_171 {E : zE} {x : Int32} {y : Nat} {ls sk : List Value} {h : zH} : zrun zpp E 169 (171, ls, .int x :: .ref y :: sk, h) = zrun zpp E 169 (172, ls, .int x :: .ref y :: .int x :: .ref y :: sk, h) := zrun_at rfl
theorem zi169_172 {E : zE} {x : Nat} {i : Int32} {ls sk : List Value} {h : zH} : zrun zpp E 169 (172, ls, .int i :: .ref x :: sk, h) = (zarr 0 h x i).bind (fun v => zrun zpp E 169 (173, ls, .int v :: sk, h)) := zg_iald rfl
theorem zi169_173 {E : zE} {ls sk : List Value} {h : zH} : zrun zpp E 169 (173, ls, sk, h) = zrun zpp E 169 (174, ls, .int 1 :: sk, h) := zg_iconst rfl ci_1
theorem zi169_174 {E : zE} {x y : Int32} {ls sk : List Value} {h : zH} : zrun zpp E 169 (174, ls, .int y :: .int x :: sk, h) = zrun zpp E 169 (175, ls, .int (x + y) :: sk, h) := zrun_at rfl
theorem zi169_175 {E : zE} {x : Nat} {i v : Int32} {ls sk : List Value} {h : zH} : zrun zpp E 169 (175, ls, .int v :: .int i :: .ref x :: sk, h) = (zars 0 h x i v).bind (fun h' => zrun zpp E 169 (176, ls, sk, h')) := zg_iast rfl
theorem zi169_176 {E : zE} {ls sk : List Value} {h : zH} : zrun zpp E 169 (176, ls, [], h) = some (none, h) := zrun_at rfl
-- 170 NineDownModel.readLifter
theorem zi170_0 {E : zE} {x : Nat} {ls sk : List Value} {h : zH} : zrun zpp E 170 (0, .ref x :: ls, sk, h) = zrun zpp E 170 (1, .ref x :: ls, .ref x :: sk, h) := zrun_at rfl
theorem zi170_0n {E : zE} {ls sk : List Value} {h : zH} : zrun zpp E 170 (0, .null :: ls, sk, h) = zrun zpp E 170 (1, .null :: ls, .null :: sk, h) := zrun_at rfl
theorem zi170_1 {E : zE} {x : Nat} {ls sk : List Value} {h : zH} : zrun zpp E 170 (1, ls, .ref x :: sk, h) = (zfld [11] h x 14).bind (fun v => zrun zpp E 170 (4, ls, v :: sk, h)) := zg_getf rfl
theorem zi170_4 {E : zE} {a0 : Value} {ls sk : List Value} {h : zH} : zrun zpp E 170 (4, ls, a0 :: sk, h) = zcl1 E 170 7 166 ls sk [a0] h := zg_inv (as := [a0]) rfl rfl
theorem zi170_7 {E : zE} {x : Int32} {ls sk : List Value} {h : zH} : zrun zpp E 170 (7, ls, .int x :: sk, h) = if zfree ls 1 = true then zrun zpp E 170 (8, ls.set 1 (.int x), sk, h) else none := zg_ist rfl (fun _ _ _ => rfl)
theorem zi170_8 {E : zE} {x : Nat} {ls sk : List Value} {h : zH} : zrun zpp E 170 (8, .ref x :: ls, sk, h) = zrun zpp E 170 (9, .ref x :: ls, .ref x :: sk, h) := zrun_at rfl
theorem zi170_8n {E : zE} {ls sk : List Value} {h : zH} : zrun zpp E 170 (8, .null :: ls, sk, h) = zrun zpp E 170 (9, .null :: ls, .null :: sk, h) := zrun_at rfl
theorem zi170_9 {E : zE} {x : Nat} {ls sk : List Value} {h : zH} : zrun zpp E 170 (9, ls, .ref x :: sk, h) = (zfld [11] h x 6).bind (fun v => zrun zpp E 170 (12, ls, v :: sk, h)) := zg_getf rfl
theorem zi170_12 {E : zE} {ls sk : List Value} {h : zH} : zrun zpp E 170 (12, ls, sk, h) = zrun zpp E 170 (13, ls, .int 5 :: sk, h) := zg_iconst rfl ci_5
theorem zi170_13 {E : zE} {x : Nat} {i : Int32} {ls sk : List Value} {h : zH} : zrun zpp E 170 (13, ls, .int i :: .ref x :: sk, h) = (zarr 0 h x i).bind (fun v => zrun zpp E 170 (14, ls, .int v :: sk, h)) := zg_iald rfl
theorem zi170_14 {E : zE} {ls sk : List Value} {h : zH} : zrun zpp E 170 (14, ls, sk, h) = zrun zpp E 170 (15, ls, .int 4 :: sk, h) := zg_iconst rfl ci_4
theorem zi170_15 {E : zE} {x y : Int32} {ls sk : List Value} {h : zH} : zrun zpp E 170 (15, ls, .int y :: .int x :: sk, h) = if x = y then zrun zpp E 170 (18, ls, sk, h) else zrun zpp E 170 (23, ls, sk, h) := zrun_at rfl
theorem zi170_18 {E : zE} {x : Nat} {ls sk : List Value} {h : zH} : zrun zpp E 170 (18, .ref x :: ls, sk, h) = zrun zpp E 170 (19, .ref x :: ls, .ref x :: sk, h) := zrun_at rfl
theorem zi170_18n {E : zE} {ls sk : List Value} {h : zH} : zrun zpp E 170 (18, .null :: ls, sk, h) = zrun zpp E 170 (19, .null :: ls, .null :: sk, h) := zrun_at rfl
theorem zi170_19 {E : zE} {ls sk : List Value} {h : zH} : zrun zpp E 170 (19, ls, sk, h) = zrun zpp E 170 (20, ls, .int 3 :: sk, h) := zg_iconst rfl ci_3
theorem zi170_20 {E : zE} {a0 : Value} {x : Nat} {ls sk : List Value} {h : zH} : zrun zpp E 170 (20, ls, a0 :: .ref x :: sk, h) = (zcls h x).bind (fun d => (zsel d [11, 157]).bind (fun M' => zcl1 E 170 23 M' ls sk [.ref x, a0] h)) := zg_vir (as := [a0]) rfl rfl
theorem zi170_23 {E : zE} {x : Nat} {ls sk : List Value} {h : zH} : zrun zpp E 170 (23, .ref x :: ls, sk, h) = zrun zpp E 170 (24, .ref x :: ls, .ref x :: sk, h) := zrun_at rfl
theorem zi170_23n {E : zE} {ls sk : List Value} {h : zH} : zrun zpp E 170 (23, .null :: ls, sk, h) = zrun zpp E 170 (24, .null :: ls, .null :: sk, h) := zrun_at rfl
theorem zi170_24 {E : zE} {ls sk : List Value} {h : zH} : zrun zpp E 170 (24, ls, sk, h) = zrun zpp E 170 (25, ls, .int 1 :: sk, h) := zg_iconst rfl ci_1
theorem zi170_25 {E : zE} {a0 : Value} {x : Nat} {ls sk : List Value} {h : zH} : zrun zpp E 170 (25, ls, a0 :: .ref x :: sk, h) = (zcls h x).bind (fun d => (zsel d [11, 159]).bind (fun M' => zcl1 E 170 28 M' ls sk [.ref x, a0] h)) := zg_vir (as := [a0]) rfl rfl
theorem zi170_28 {E : zE} {x : Nat} {ls sk : List Value} {h : zH} : zrun zpp E 170 (28, .ref x :: ls, sk, h) = zrun zpp E 170 (29, .ref x :: ls, .ref x :: sk, h) := zrun_at rfl
theorem zi170_28n {E : zE} {ls sk : List Value} {h : zH} : zrun zpp E 170 (28, .null :: ls, sk, h) = zrun zpp E 170 (29, .null :: ls, .null :: sk, h) := zrun_at rfl
theorem zi170_29 {E : zE} {ls sk : List Value} {h : zH} : zrun zpp E 170 (29, ls, sk, h) = zrun zpp E 170 (30, ls, .int 1 :: sk, h) := zg_iconst rfl ci_1
theorem zi170_30 {E : zE} {ls sk : List Value} {h : zH} : zrun zpp E 170 (30, ls, sk, h) = zrun zpp E 170 (32, ls, .int 40 :: sk, h) := zg_bipush rfl ci_40
theorem zi170_32 {E : zE} {a0 a1 : Value} {x : Nat} {ls sk : List Value} {h : zH} : zrun zpp E 170 (32, ls, a1 :: a0 :: .ref x :: sk, h) = (zcls h x).bind (fun d => (zsel d [11, 161]).bind (fun M' => zcl1 E 170 35 M' ls sk [.ref x, a0, a1] h)) := zg_vir (as := [a0, a1]) rfl rfl
theorem zi170_35 {E : zE} {x : Int32} {ls sk : List Value} {h : zH} : zrun zpp E 170 (35, ls, .int x :: sk, h) = if zfree ls 2 = true then zrun zpp E 170 (36, ls.set 2 (.int x), sk, h) else none := zg_ist rfl (fun _ _ _ => rfl)
theorem zi170_36 {E : zE} {x : Nat} {ls sk : List Value} {h : zH} : zrun zpp E 170 (36, .ref x :: ls, sk, h) = zrun zpp E 170 (37, .ref x :: ls, .ref x :: sk, h) := zrun_at rfl
theorem zi170_36n {E : zE} {ls sk : List Value} {h : zH} : zrun zpp E 170 (36, .null :: ls, sk, h) = zrun zpp E 170 (37, .null :: ls, .null :: sk, h) := zrun_at rfl
theorem zi170_37 {E : zE} {ls sk : List Value} {h : zH} : zrun zpp E 170 (37, ls, sk, h) = zrun zpp E 170 (39, ls, .int 59 :: sk, h) := zg_bipush rfl ci_59
theorem zi170_39 {E : zE} {a0 : Value} {x : Nat} {ls sk : List Value} {h : zH} : zrun zpp E 170 (39, ls, a0 :: .ref x :: sk, h) = (zcls h x).bind (fun d => (zsel d [11, 162]).bind (fun M' => zcl1 E 170 42 M' ls sk [.ref x, a0] h)) := zg_vir (as := [a0]) rfl rfl
theorem zi170_42 {E : zE} {x : Nat} {ls sk : List Value} {h : zH} : zrun zpp E 170 (42, .ref x :: ls, sk, h) = zrun zpp E 170 (43, .ref x :: ls, .ref x :: sk, h) := zrun_at rfl
theorem zi170_42n {E : zE} {ls sk : List Value} {h : zH} : zrun zpp E 170 (42, .null :: ls, sk, h) = zrun zpp E 170 (43, .null :: ls, .null :: sk, h) := zrun_at rfl
theorem zi170_43 {E : zE} {x : Nat} {ls sk : List Value} {h : zH} : zrun zpp E 170 (43, ls, .ref x :: sk, h) = (zfld [11] h x 15).bind (fun v => zrun zpp E 170 (46, ls, v :: sk, h)) := zg_getf rfl
theorem zi170_46 {E : zE} {x : Int32} {ls sk : List Value} {h : zH} : zrun zpp E 170 (46, ls, .int x :: sk, h) = if x = 0 then zrun zpp E 170 (49, ls, sk, h) else zrun zpp E 170 (95, ls, sk, h) := zrun_at rfl
theorem zi170_49 {E : zE} {x : Nat} {ls sk : List Value} {h : zH} : zrun zpp E 170 (49, .ref x :: ls, sk, h) = zrun zpp E 170 (50, .ref x :: ls, .ref x :: sk, h) := zrun_at rfl
theorem zi170_49n {E : zE} {ls sk : List Value} {h : zH} : zrun zpp E 170 (49, .null :: ls, sk, h) = zrun zpp E 170 (50, .null :: ls, .null :: sk, h) := zrun_at rfl
theorem zi170_50 {E : zE} {x : Nat} {ls sk : List Value} {h : zH} : zrun zpp E 170 (50, ls, .ref x :: sk, h) = (zfld [11] h x 6).bind (fun v => zrun zpp E 170 (53, ls, v :: sk, h)) := zg_getf rfl
theorem zi170_53 {E : zE} {ls sk : List Value} {h : zH} : zrun zpp E 170 (53, ls, sk, h) = zrun zpp E 170 (55, ls, .int 65 :: sk, h) := zg_bipush rfl ci_65
theorem zi170_55 {E : zE} {ls sk : List Value} {h : zH} : zrun zpp E 170 (55, ls, sk, h) = zrun zpp E 170 (56, ls, .int 2 :: sk, h) := zg_iconst rfl ci_2
theorem zi170_56 {E : zE} {x : Nat} {ls sk : List Value} {h : zH} : zrun zpp E 170 (56, .ref x :: ls, sk, h) = zrun zpp E 170 (57, .ref x :: ls, .ref x :: sk, h) := zrun_at rfl
theorem zi170_56n {E : zE} {ls sk : List Value} {h : zH} : zrun zpp E 170 (56, .null :: ls, sk, h) = zrun zpp E 170 (57, .null :: ls, .null :: sk, h) := zrun_at rfl
theorem zi170_57 {E : zE} {x : Nat} {ls sk : List Value} {h : zH} : zrun zpp E 170 (57, ls, .ref x :: sk, h) = (zfld [11] h x 6).bind (fun v => zrun zpp E 170 (60, ls, v :: sk, h)) := zg_getf rfl
theorem zi170_60 {E : zE} {ls sk : List Value} {h : zH} : zrun zpp E 170 (60, ls, sk, h) = zrun zpp E 170 (61, ls, .int 5 :: sk, h) := zg_iconst rfl ci_5
theorem zi170_61 {E : zE} {x : Nat} {i : Int32} {ls sk : List Value} {h : zH} : zrun zpp E 170 (61, ls, .int i :: .ref x :: sk, h) = (zarr 0 h x i).bind (fun v => zrun zpp E 170 (62, ls, .int v :: sk, h)) := zg_iald rfl
theorem zi170_62 {E : zE} {x y : Int32} {ls sk : List Value} {h : zH} : zrun zpp E 170 (62, ls, .int y :: .int x :: sk, h) = zrun zpp E 170 (63, ls, .int (x * y) :: sk, h) := zrun_at rfl
theorem zi170_63 {E : zE} {x y : Int32} {ls sk : List Value} {h : zH} : zrun zpp E 170 (63, ls, .int y :: .int x :: sk, h) = zrun zpp E 170 (64, ls, .int (x + y) :: sk, h) := zrun_at rfl
theorem zi170_64 {E : zE} {v0 : Value} {x : Int32} {ls sk : List Value} {h : zH} : zrun zpp E 170 (64, v0 :: .int x :: ls, sk, h) = zrun zpp E 170 (65, v0 :: .int x :: ls, .int x :: sk, h) := zrun_at rfl
theorem zi170_65 {E : zE} {x : Nat} {i v : Int32} {ls sk : List Value} {h : zH} : zrun zpp E 170 (65, ls, .int v :: .int i :: .ref x :: sk, h) = (zars 0 h x i v).bind (fun h' => zrun zpp E 170 (66, ls, sk, h')) := zg_iast rfl
theorem zi170_66 {E : zE} {x : Nat} {ls sk : List Value} {h : zH} : zrun zpp E 170 (66, .ref x :: ls, sk, h) = zrun zpp E 170 (67, .ref x :: ls, .ref x :: sk, h) := zrun_at rfl
theorem zi170_66n {E : zE} {ls sk : List Value} {h : zH} : zrun zpp E 170 (66, .null :: ls, sk, h) = zrun zpp E 170 (67, .null :: ls, .null :: sk, h) := zrun_at rfl
theorem zi170_67 {E : zE} {x : Nat} {ls sk : List Value} {h : zH} : zrun zpp E 170 (67, ls, .ref x :: sk, h) = (zfld [11] h x 6).bind (fun v => zrun zpp E 170 (70, ls, v :: sk, h)) := zg_getf rfl
theorem zi170_70 {E : zE} {ls sk : List Value} {h : zH} : zrun zpp E 170 (70, ls, sk, h) = zrun zpp E 170 (72, ls, .int 65 :: sk, h) := zg_bipush rfl ci_65
theorem zi170_72 {E : zE} {ls sk : List Value} {h : zH} : zrun zpp E 170 (72, ls, sk, h) = zrun zpp E 170 (73, ls, .int 2 :: sk, h) := zg_iconst rfl ci_2
theorem zi170_73 {E : zE} {x : Nat} {ls sk : List Value} {h : zH} : zrun zpp E 170 (73, .ref x :: ls, sk, h) = zrun zpp E 170 (74, .ref x :: ls, .ref x :: sk, h) := zrun_at rfl
theorem zi170_73n {E : zE} {ls sk : List Value} {h : zH} : zrun zpp E 170 (73, .null :: ls, sk, h) = zrun zpp E 170 (74, .null :: ls, .null :: sk, h) := zrun_at rfl
theorem zi170_74 {E : zE} {x : Nat} {ls sk : List Value} {h : zH} : zrun zpp E 170 (74, ls, .ref x :: sk, h) = (zfld [11] h x 6).bind (fun v => zrun zpp E 170 (77, ls, v :: sk, h)) := zg_getf rfl
theorem zi170_77 {E : zE} {ls sk : List Value} {h : zH} : zrun zpp E 170 (77, ls, sk, h) = zrun zpp E 170 (78, ls, .int 5 :: sk, h) := zg_iconst rfl ci_5
theorem zi170_78 {E : zE} {x : Nat} {i : Int32} {ls sk : List Value} {h : zH} : zrun zpp E 170 (78, ls, .int i :: .ref x :: sk, h) = (zarr 0 h x i).bind (fun v => zrun zpp E 170 (79, ls, .int v :: sk, h)) := zg_iald rfl
theorem zi170_79 {E : zE} {x y : Int32} {ls sk : List Value} {h : zH} : zrun zpp E 170 (79, ls, .int y :: .int x :: sk, h) = zrun zpp E 170 (80, ls, .int (x * y) :: sk, h) := zrun_at rfl
theorem zi170_80 {E : zE} {x y : Int32} {ls sk : List Value} {h : zH} : zrun zpp E 170 (80, ls, .int y :: .int x :: sk, h) = zrun zpp E 170 (81, ls, .int (x + y) :: sk, h) := zrun_at rfl
theorem zi170_81 {E : zE} {ls sk : List Value} {h : zH} : zrun zpp E 170 (81, ls, sk, h) = zrun zpp E 170 (82, ls, .int 1 :: sk, h) := zg_iconst rfl ci_1
theorem zi170_82 {E : zE} {x y : Int32} {ls sk : List Value} {h : zH} : zrun zpp E 170 (82, ls, .int y :: .int x :: sk, h) = zrun zpp E 170 (83, ls, .int (x + y) :: sk, h) := zrun_at rfl
theorem zi170_83 {E : zE} {v0 v1 : Value} {x : Int32} {ls sk : List Value} {h : zH} : zrun zpp E 170 (83, v0 :: v1 :: .int x :: ls, sk, h) = zrun zpp E 170 (84, v0 :: v1 :: .int x :: ls, .int x :: sk, h) := zrun_at rfl
theorem zi170_84 {E : zE} {x : Nat} {i v : Int32} {ls sk : List Value} {h : zH} : zrun zpp E 170 (84, ls, .int v :: .int i :: .ref x :: sk, h) = (zars 0 h x i v).bind (fun h' => zrun zpp E 170 (85, ls, sk, h')) := zg_iast rfl
theorem zi170_85 {E : zE} {x : Nat} {ls sk : List Value} {h : zH} : zrun zpp E 170 (85, .ref x :: ls, sk, h) = zrun zpp E 170 (86, .ref x :: ls, .ref x :: sk, h) := zrun_at rfl
theorem zi170_85n {E : zE} {ls sk : List Value} {h : zH} : zrun zpp E 170 (85, .null :: ls, sk, h) = zrun zpp E 170 (86, .null :: ls, .null :: sk, h) := zrun_at rfl
theorem zi170_86 {E : zE} {x : Nat} {ls sk : List Value} {h : zH} : zrun zpp E 170 (86, ls, .ref x :: sk, h) = (zfld [11] h x 6).bind (fun v => zrun zpp E 170 (89, ls, v :: sk, h)) := zg_getf rfl
theorem zi170_89 {E : zE} {ls sk : List Value} {h : zH} : zrun zpp E 170 (89, ls, sk, h) = zrun zpp E 170 (90, ls, .int 5 :: sk, h) := zg_iconst rfl ci_5
theorem zi170_90 {E : zE} {x : Int32} {y : Nat} {ls sk : List Value} {h : zH} : zrun zpp E 170 (90, ls, .int x :: .ref y :: sk, h) = zrun zpp E 170 (91, ls, .int x :: .ref y :: .int x :: .ref y :: sk, h) := zrun_at rfl
theorem zi170_91 {E : zE} {x : Nat} {i : Int32} {ls sk : List Value} {h : zH} : zrun zpp E 170 (91, ls, .int i :: .ref x :: sk, h) = (zarr 0 h x i).bind (fun v => zrun zpp E 170 (92, ls, .int v :: sk, h)) := zg_iald rfl
theorem zi170_92 {E : zE} {ls sk : List Value} {h : zH} : zrun zpp E 170 (92, ls, sk, h) = zrun zpp E 170 (93, ls, .int 1 :: sk, h) := zg_iconst rfl ci_1
theorem zi170_93 {E : zE} {x y : Int32} {ls sk : List Value} {h : zH} : zrun zpp E 170 (93, ls, .int y :: .int x :: sk, h) = zrun zpp E 170 (94, ls, .int (x + y) :: sk, h) := zrun_at rfl
theorem zi170_94 {E : zE} {x : Nat} {i v : Int32} {ls sk : List Value} {h : zH} : zrun zpp E 170 (94, ls, .int v :: .int i :: .ref x :: sk, h) = (zars 0 h x i v).bind (fun h' => zrun zpp E 170 (95, ls, sk, h')) := zg_iast rfl
theorem zi170_95 {E : zE} {ls sk : List Value} {h : zH} : zrun zpp E 170 (95, ls, [], h) = some (none, h) := zrun_at rfl
-- 171 NineDownModel.yard
theorem zi171_0 {E : zE} {x : Nat} {ls sk : List Value} {h : zH} : zrun zpp E 171 (0, .ref x :: ls, sk, h) = zrun zpp E 171 (1, .ref x :: ls, .ref x :: sk, h) := zrun_at rfl
theorem zi171_0n {E : zE} {ls sk : List Value} {h : zH} : zrun zpp E 171 (0, .null :: ls, sk, h) = zrun zpp E 171 (1, .null :: ls, .null :: sk, h) := zrun_at rfl
theorem zi171_1 {E : zE} {ls sk : List Value} {h : zH} : zrun zpp E 171 (1, ls, sk, h) = zrun zpp E 171 (2, ls, .int 0 :: sk, h) := zg_iconst rfl ci_0
theorem zi171_2 {E : zE} {x : Nat} {v : Value} {ls sk : List Value} {h : zH} : zrun zpp E 171 (2, ls, v :: .ref x :: sk, h) = (zstf [11] 0 h x 0 v).bind (fun h' => zrun zpp E 171 (5, ls, sk, h')) := zg_putf rfl
theorem zi171_5 {E : zE} {x : Nat} {ls sk : List Value} {h : zH} : zrun zpp E 171 (5, .ref x :: ls, sk, h) = zrun zpp E 171 (6, .ref x :: ls, .ref x :: sk, h) := zrun_at rfl
theorem zi171_5n {E : zE} {ls sk : List Value} {h : zH} : zrun zpp E 171 (5, .null :: ls, sk, h) = zrun zpp E 171 (6, .null :: ls, .null :: sk, h) := zrun_at rfl
theorem zi171_6 {E : zE} {x : Nat} {ls sk : List Value} {h : zH} : zrun zpp E 171 (6, ls, .ref x :: sk, h) = (zcls h x).bind (fun d => (zsel d [11, 163]).bind (fun M' => zcl1 E 171 9 M' ls sk [.ref x] h)) := zg_vir (as := []) rfl rfl
theorem zi171_9 {E : zE} {ls sk : List Value} {h : zH} : zrun zpp E 171 (9, ls, sk, h) = zrun zpp E 171 (10, ls, .int 0 :: sk, h) := zg_iconst rfl ci_0
theorem zi171_10 {E : zE} {x : Int32} {ls sk : List Value} {h : zH} : zrun zpp E 171 (10, ls, .int x :: sk, h) = if zfree ls 1 = true then zrun zpp E 171 (11, ls.set 1 (.int x), sk, h) else none := zg_ist rfl (fun _ _ _ => rfl)
theorem zi171_11 {E : zE} {v0 : Value} {x : Int32} {ls sk : List Value} {h : zH} : zrun zpp E 171 (11, v0 :: .int x :: ls, sk, h) = zrun zpp E 171 (12, v0 :: .int x :: ls, .int x :: sk, h) := zrun_at rfl
theorem zi171_12 {E : zE} {ls sk : List Value} {h : zH} : zrun zpp E 171 (12, ls, sk, h) = zrun zpp E 171 (14, ls, .int 73 :: sk, h) := zg_bipush rfl ci_73
theorem zi171_14 {E : zE} {x y : Int32} {ls sk : List Value} {h : zH} : zrun zpp E 171 (14, ls, .int y :: .int x :: sk, h) = if y ≤ x then zrun zpp E 171 (30, ls, sk, h) else zrun zpp E 171 (17, ls, sk, h) := zrun_at rfl
theorem zi171_17 {E : zE} {x : Nat} {ls sk : List Value} {h : zH} : zrun zpp E 171 (17, .ref x :: ls, sk, h) = zrun zpp E 171 (18, .ref x :: ls, .ref x :: sk, h) := zrun_at rfl
theorem zi171_17n {E : zE} {ls sk : List Value} {h : zH} : zrun zpp E 171 (17, .null :: ls, sk, h) = zrun zpp E 171 (18, .null :: ls, .null :: sk, h) := zrun_at rfl
theorem zi171_18 {E : zE} {x : Nat} {ls sk : List Value} {h : zH} : zrun zpp E 171 (18, ls, .ref x :: sk, h) = (zfld [11] h x 6).bind (fun v => zrun zpp E 171 (21, ls, v :: sk, h)) := zg_getf rfl
theorem zi171_21 {E : zE} {v0 : Value} {x : Int32} {ls sk : List Value} {h : zH} : zrun zpp E 171 (21, v0 :: .int x :: ls, sk, h) = zrun zpp E 171 (22, v0 :: .int x :: ls, .int x :: sk, h) := zrun_at rfl
theorem zi171_22 {E : zE} {ls sk : List Value} {h : zH} : zrun zpp E 171 (22, ls, sk, h) = zrun zpp E 171 (23, ls, .int 0 :: sk, h) := zg_iconst rfl ci_0
theorem zi171_23 {E : zE} {x : Nat} {i v : Int32} {ls sk : List Value} {h : zH} : zrun zpp E 171 (23, ls, .int v :: .int i :: .ref x :: sk, h) = (zars 0 h x i v).bind (fun h' => zrun zpp E 171 (24, ls, sk, h')) := zg_iast rfl
theorem zi171_24 {E : zE} {v0 : Value} {x : Int32} {ls sk : List Value} {h : zH} : zrun zpp E 171 (24, v0 :: .int x :: ls, sk, h) = if zfree (v0 :: .int x :: ls) 1 = true then zrun zpp E 171 (27, v0 :: .int (x + 1) :: ls, sk, h) else none := by rw [← ci_1]; exact zrun_at rfl
theorem zi171_27 {E : zE} {ls sk : List Value} {h : zH} : zrun zpp E 171 (27, ls, sk, h) = zrun zpp E 171 (11, ls, sk, h) := zrun_at rfl
theorem zi171_30 {E : zE} {x : Nat} {ls sk : List Value} {h : zH} : zrun zpp E 171 (30, .ref x :: ls, sk, h) = zrun zpp E 171 (31, .ref x :: ls, .ref x :: sk, h) := zrun_at rfl
theorem zi171_30n {E : zE} {ls sk : List Value} {h : zH} : zrun zpp E 171 (30, .null :: ls, sk, h) = zrun zpp E 171 (31, .null :: ls, .null :: sk, h) := zrun_at rfl
theorem zi171_31 {E : zE} {x : Nat} {ls sk : List Value} {h : zH} : zrun zpp E 171 (31, .ref x :: ls, sk, h) = zrun zpp E 171 (32, .ref x :: ls, .ref x :: sk, h) := zrun_at rfl
theorem zi171_31n {E : zE} {ls sk : List Value} {h : zH} : zrun zpp E 171 (31, .null :: ls, sk, h) = zrun zpp E 171 (32, .null :: ls, .null :: sk, h) := zrun_at rfl
theorem zi171_32 {E : zE} {ls sk : List Value} {h : zH} : zrun zpp E 171 (32, ls, sk, h) = zrun zpp E 171 (34, ls, .int 121 :: sk, h) := zg_bipush rfl ci_121
theorem zi171_34 {E : zE} {a0 : Value} {x : Nat} {ls sk : List Value} {h : zH} : zrun zpp E 171 (34, ls, a0 :: .ref x :: sk, h) = (zcls h x).bind (fun d => (zsel d [11, 160]).bind (fun M' => zcl1 E 171 37 M' ls sk [.ref x, a0] h)) := zg_vir (as := [a0]) rfl rfl
theorem zi171_37 {E : zE} {a0 : Value} {x : Nat} {ls sk : List Value} {h : zH} : zrun zpp E 171 (37, ls, a0 :: .ref x :: sk, h) = (zcls h x).bind (fun d => (zsel d [11, 159]).bind (fun M' => zcl1 E 171 40 M' ls sk [.ref x, a0] h)) := zg_vir (as := [a0]) rfl rfl
theorem zi171_40 {E : zE} {x : Nat} {ls sk : List Value} {h : zH} : zrun zpp E 171 (40, .ref x :: ls, sk, h) = zrun zpp E 171 (41, .ref x :: ls, .ref x :: sk, h) := zrun_at rfl
theorem zi171_40n {E : zE} {ls sk : List Value} {h : zH} : zrun zpp E 171 (40, .null :: ls, sk, h) = zrun zpp E 171 (41, .null :: ls, .null :: sk, h) := zrun_at rfl
theorem zi171_41 {E : zE} {x : Nat} {ls sk : List Value} {h : zH} : zrun zpp E 171 (41, ls, .ref x :: sk, h) = (zfld [11] h x 6).bind (fun v => zrun zpp E 171 (44, ls, v :: sk, h)) := zg_getf rfl
theorem zi171_44 {E : zE} {ls sk : List Value} {h : zH} : zrun zpp E 171 (44, ls, sk, h) = zrun zpp E 171 (45, ls, .int 0 :: sk, h) := zg_iconst rfl ci_0
theorem zi171_45 {E : zE} {x : Nat} {ls sk : List Value} {h : zH} : zrun zpp E 171 (45, .ref x :: ls, sk, h) = zrun zpp E 171 (46, .ref x :: ls, .ref x :: sk, h) := zrun_at rfl
theorem zi171_45n {E : zE} {ls sk : List Value} {h : zH} : zrun zpp E 171 (45, .null :: ls, sk, h) = zrun zpp E 171 (46, .null :: ls, .null :: sk, h) := zrun_at rfl
theorem zi171_46 {E : zE} {ls sk : List Value} {h : zH} : zrun zpp E 171 (46, ls, sk, h) = zrun zpp E 171 (47, ls, .int 1 :: sk, h) := zg_iconst rfl ci_1
theorem zi171_47 {E : zE} {ls sk : List Value} {h : zH} : zrun zpp E 171 (47, ls, sk, h) = zrun zpp E 171 (49, ls, .int 9 :: sk, h) := zg_bipush rfl ci_9
theorem zi171_49 {E : zE} {a0 a1 : Value} {x : Nat} {ls sk : List Value} {h : zH} : zrun zpp E 171 (49, ls, a1 :: a0 :: .ref x :: sk, h) = (zcls h x).bind (fun d => (zsel d [11, 161]).bind (fun M' => zcl1 E 171 52 M' ls sk [.ref x, a0, a1] h)) := zg_vir (as := [a0, a1]) rfl rfl
theorem zi171_52 {E : zE} {x : Nat} {i v : Int32} {ls sk : List Value} {h : zH} : zrun zpp E 171 (52, ls, .int v :: .int i :: .ref x :: sk, h) = (zars 0 h x i v).bind (fun h' => zrun zpp E 171 (53, ls, sk, h')) := zg_iast rfl
theorem zi171_53 {E : zE} {x : Nat} {ls sk : List Value} {h : zH} : zrun zpp E 171 (53, .ref x :: ls, sk, h) = zrun zpp E 171 (54, .ref x :: ls, .ref x :: sk, h) := zrun_at rfl
theorem zi171_53n {E : zE} {ls sk : List Value} {h : zH} : zrun zpp E 171 (53, .null :: ls, sk, h) = zrun zpp E 171 (54, .null :: ls, .null :: sk, h) := zrun_at rfl
theorem zi171_54 {E : zE} {ls sk : List Value} {h : zH} : zrun zpp E 171 (54, ls, sk, h) = zrun zpp E 171 (56, ls, .int 44 :: sk, h) := zg_bipush rfl ci_44
theorem zi171_56 {E : zE} {a0 : Value} {x : Nat} {ls sk : List Value} {h : zH} : zrun zpp E 171 (56, ls, a0 :: .ref x :: sk, h) = (zcls h x).bind (fun d => (zsel d [11, 162]).bind (fun M' => zcl1 E 171 59 M' ls sk [.ref x, a0] h)) := zg_vir (as := [a0]) rfl rfl
theorem zi171_59 {E : zE} {x : Nat} {ls sk : List Value} {h : zH} : zrun zpp E 171 (59, .ref x :: ls, sk, h) = zrun zpp E 171 (60, .ref x :: ls, .ref x :: sk, h) := zrun_at rfl
theorem zi171_59n {E : zE} {ls sk : List Value} {h : zH} : zrun zpp E 171 (59, .null :: ls, sk, h) = zrun zpp E 171 (60, .null :: ls, .null :: sk, h) := zrun_at rfl
theorem zi171_60 {E : zE} {x : Nat} {ls sk : List Value} {h : zH} : zrun zpp E 171 (60, ls, .ref x :: sk, h) = (zfld [11] h x 6).bind (fun v => zrun zpp E 171 (63, ls, v :: sk, h)) := zg_getf rfl
theorem zi171_63 {E : zE} {ls sk : List Value} {h : zH} : zrun zpp E 171 (63, ls, sk, h) = zrun zpp E 171 (64, ls, .int 1 :: sk, h) := zg_iconst rfl ci_1
theorem zi171_64 {E : zE} {x : Nat} {ls sk : List Value} {h : zH} : zrun zpp E 171 (64, .ref x :: ls, sk, h) = zrun zpp E 171 (65, .ref x :: ls, .ref x :: sk, h) := zrun_at rfl
theorem zi171_64n {E : zE} {ls sk : List Value} {h : zH} : zrun zpp E 171 (64, .null :: ls, sk, h) = zrun zpp E 171 (65, .null :: ls, .null :: sk, h) := zrun_at rfl
theorem zi171_65 {E : zE} {ls sk : List Value} {h : zH} : zrun zpp E 171 (65, ls, sk, h) = zrun zpp E 171 (66, ls, .int 0 :: sk, h) := zg_iconst rfl ci_0
theorem zi171_66 {E : zE} {ls sk : List Value} {h : zH} : zrun zpp E 171 (66, ls, sk, h) = zrun zpp E 171 (68, ls, .int 9 :: sk, h) := zg_bipush rfl ci_9
theorem zi171_68 {E : zE} {a0 a1 : Value} {x : Nat} {ls sk : List Value} {h : zH} : zrun zpp E 171 (68, ls, a1 :: a0 :: .ref x :: sk, h) = (zcls h x).bind (fun d => (zsel d [11, 161]).bind (fun M' => zcl1 E 171 71 M' ls sk [.ref x, a0, a1] h)) := zg_vir (as := [a0, a1]) rfl rfl
theorem zi171_71 {E : zE} {x : Nat} {i v : Int32} {ls sk : List Value} {h : zH} : zrun zpp E 171 (71, ls, .int v :: .int i :: .ref x :: sk, h) = (zars 0 h x i v).bind (fun h' => zrun zpp E 171 (72, ls, sk, h')) := zg_iast rfl
theorem zi171_72 {E : zE} {x : Nat} {ls sk : List Value} {h : zH} : zrun zpp E 171 (72, .ref x :: ls, sk, h) = zrun zpp E 171 (73, .ref x :: ls, .ref x :: sk, h) := zrun_at rfl
theorem zi171_72n {E : zE} {ls sk : List Value} {h : zH} : zrun zpp E 171 (72, .null :: ls, sk, h) = zrun zpp E 171 (73, .null :: ls, .null :: sk, h) := zrun_at rfl
theorem zi171_73 {E : zE} {ls sk : List Value} {h : zH} : zrun zpp E 171 (73, ls, sk, h) = zrun zpp E 171 (75, ls, .int 44 :: sk, h) := zg_bipush rfl ci_44
theorem zi171_75 {E : zE} {a0 : Value} {x : Nat} {ls sk : List Value} {h : zH} : zrun zpp E 171 (75, ls, a0 :: .ref x :: sk, h) = (zcls h x).bind (fun d => (zsel d [11, 162]).bind (fun M' => zcl1 E 171 78 M' ls sk [.ref x, a0] h)) := zg_vir (as := [a0]) rfl rfl
theorem zi171_78 {E : zE} {x : Nat} {ls sk : List Value} {h : zH} : zrun zpp E 171 (78, .ref x :: ls, sk, h) = zrun zpp E 171 (79, .ref x :: ls, .ref x :: sk, h) := zrun_at rfl
theorem zi171_78n {E : zE} {ls sk : List Value} {h : zH} : zrun zpp E 171 (78, .null :: ls, sk, h) = zrun zpp E 171 (79, .null :: ls, .null :: sk, h) := zrun_at rfl
theorem zi171_79 {E : zE} {x : Nat} {ls sk : List Value} {h : zH} : zrun zpp E 171 (79, ls, .ref x :: sk, h) = (zfld [11] h x 6).bind (fun v => zrun zpp E 171 (82, ls, v :: sk, h)) := zg_getf rfl
theorem zi171_82 {E : zE} {ls sk : List Value} {h : zH} : zrun zpp E 171 (82, ls, sk, h) = zrun zpp E 171 (83, ls, .int 2 :: sk, h) := zg_iconst rfl ci_2
theorem zi171_83 {E : zE} {x : Nat} {ls sk : List Value} {h : zH} : zrun zpp E 171 (83, .ref x :: ls, sk, h) = zrun zpp E 171 (84, .ref x :: ls, .ref x :: sk, h) := zrun_at rfl
theorem zi171_83n {E : zE} {ls sk : List Value} {h : zH} : zrun zpp E 171 (83, .null :: ls, sk, h) = zrun zpp E 171 (84, .null :: ls, .null :: sk, h) := zrun_at rfl
theorem zi171_84 {E : zE} {ls sk : List Value} {h : zH} : zrun zpp E 171 (84, ls, sk, h) = zrun zpp E 171 (85, ls, .int 0 :: sk, h) := zg_iconst rfl ci_0
theorem zi171_85 {E : zE} {ls sk : List Value} {h : zH} : zrun zpp E 171 (85, ls, sk, h) = zrun zpp E 171 (87, ls, .int 20 :: sk, h) := zg_bipush rfl ci_20
theorem zi171_87 {E : zE} {a0 a1 : Value} {x : Nat} {ls sk : List Value} {h : zH} : zrun zpp E 171 (87, ls, a1 :: a0 :: .ref x :: sk, h) = (zcls h x).bind (fun d => (zsel d [11, 161]).bind (fun M' => zcl1 E 171 90 M' ls sk [.ref x, a0, a1] h)) := zg_vir (as := [a0, a1]) rfl rfl
theorem zi171_90 {E : zE} {x : Nat} {i v : Int32} {ls sk : List Value} {h : zH} : zrun zpp E 171 (90, ls, .int v :: .int i :: .ref x :: sk, h) = (zars 0 h x i v).bind (fun h' => zrun zpp E 171 (91, ls, sk, h')) := zg_iast rfl
theorem zi171_91 {E : zE} {x : Nat} {ls sk : List Value} {h : zH} : zrun zpp E 171 (91, .ref x :: ls, sk, h) = zrun zpp E 171 (92, .ref x :: ls, .ref x :: sk, h) := zrun_at rfl
theorem zi171_91n {E : zE} {ls sk : List Value} {h : zH} : zrun zpp E 171 (91, .null :: ls, sk, h) = zrun zpp E 171 (92, .null :: ls, .null :: sk, h) := zrun_at rfl
theorem zi171_92 {E : zE} {ls sk : List Value} {h : zH} : zrun zpp E 171 (92, ls, sk, h) = zrun zpp E 171 (94, ls, .int 59 :: sk, h) := zg_bipush rfl ci_59
theorem zi171_94 {E : zE} {a0 : Value} {x : Nat} {ls sk : List Value} {h : zH} : zrun zpp E 171 (94, ls, a0 :: .ref x :: sk, h) = (zcls h x).bind (fun d => (zsel d [11, 162]).bind (fun M' => zcl1 E 171 97 M' ls sk [.ref x, a0] h)) := zg_vir (as := [a0]) rfl rfl
theorem zi171_97 {E : zE} {x : Nat} {ls sk : List Value} {h : zH} : zrun zpp E 171 (97, .ref x :: ls, sk, h) = zrun zpp E 171 (98, .ref x :: ls, .ref x :: sk, h) := zrun_at rfl
theorem zi171_97n {E : zE} {ls sk : List Value} {h : zH} : zrun zpp E 171 (97, .null :: ls, sk, h) = zrun zpp E 171 (98, .null :: ls, .null :: sk, h) := zrun_at rfl
theorem zi171_98 {E : zE} {ls sk : List Value} {h : zH} : zrun zpp E 171 (98, ls, sk, h) = zrun zpp E 171 (100, ls, .int 107 :: sk, h) := zg_bipush rfl ci_107
theorem zi171_100 {E : zE} {a0 : Value} {x : Nat} {ls sk : List Value} {h : zH} : zrun zpp E 171 (100, ls, a0 :: .ref x :: sk, h) = (zcls h x).bind (fun d => (zsel d [11, 160]).bind (fun M' => zcl1 E 171 103 M' ls sk [.ref x, a0] h)) := zg_vir (as := [a0]) rfl rfl
theorem zi171_103 {E : zE} {x : Int32} {ls sk : List Value} {h : zH} : zrun zpp E 171 (103, ls, .int x :: sk, h) = if x = 0 then zrun zpp E 171 (106, ls, sk, h) else zrun zpp E 171 (111, ls, sk, h) := zrun_at rfl
theorem zi171_106 {E : zE} {x : Nat} {ls sk : List Value} {h : zH} : zrun zpp E 171 (106, .ref x :: ls, sk, h) = zrun zpp E 171 (107, .ref x :: ls, .ref x :: sk, h) := zrun_at rfl
theorem zi171_106n {E : zE} {ls sk : List Value} {h : zH} : zrun zpp E 171 (106, .null :: ls, sk, h) = zrun zpp E 171 (107, .null :: ls, .null :: sk, h) := zrun_at rfl
theorem zi171_107 {E : zE} {ls sk : List Value} {h : zH} : zrun zpp E 171 (107, ls, sk, h) = zrun zpp E 171 (108, ls, .int 1 :: sk, h) := zg_iconst rfl ci_1
theorem zi171_108 {E : zE} {a0 : Value} {x : Nat} {ls sk : List Value} {h : zH} : zrun zpp E 171 (108, ls, a0 :: .ref x :: sk, h) = (zcls h x).bind (fun d => (zsel d [11, 157]).bind (fun M' => zcl1 E 171 111 M' ls sk [.ref x, a0] h)) := zg_vir (as := [a0]) rfl rfl
theorem zi171_111 {E : zE} {x : Nat} {ls sk : List Value} {h : zH} : zrun zpp E 171 (111, .ref x :: ls, sk, h) = zrun zpp E 171 (112, .ref x :: ls, .ref x :: sk, h) := zrun_at rfl
theorem zi171_111n {E : zE} {ls sk : List Value} {h : zH} : zrun zpp E 171 (111, .null :: ls, sk, h) = zrun zpp E 171 (112, .null :: ls, .null :: sk, h) := zrun_at rfl
theorem zi171_112 {E : zE} {ls sk : List Value} {h : zH} : zrun zpp E 171 (112, ls, sk, h) = zrun zpp E 171 (114, ls, .int 107 :: sk, h) := zg_bipush rfl ci_107
theorem zi171_114 {E : zE} {a0 : Value} {x : Nat} {ls sk : List Value} {h : zH} : zrun zpp E 171 (114, ls, a0 :: .ref x :: sk, h) = (zcls h x).bind (fun d => (zsel d [11, 160]).bind (fun M' => zcl1 E 171 117 M' ls sk [.ref x, a0] h)) := zg_vir (as := [a0]) rfl rfl
theorem zi171_117 {E : zE} {x : Int32} {ls sk : List Value} {h : zH} : zrun zpp E 171 (117, ls, .int x :: sk, h) = if x = 0 then zrun zpp E 171 (127, ls, sk, h) else zrun zpp E 171 (120, ls, sk, h) := zrun_at rfl
theorem zi171_120 {E : zE} {x : Nat} {ls sk : List Value} {h : zH} : zrun zpp E 171 (120, .ref x :: ls, sk, h) = zrun zpp E 171 (121, .ref x :: ls, .ref x :: sk, h) := zrun_at rfl
theorem zi171_120n {E : zE} {ls sk : List Value} {h : zH} : zrun zpp E 171 (120, .null :: ls, sk, h) = zrun zpp E 171 (121, .null :: ls, .null :: sk, h) := zrun_at rfl
theorem zi171_121 {E : zE} {x : Nat} {ls sk : List Value} {h : zH} : zrun zpp E 171 (121, ls, .ref x :: sk, h) = (zcls h x).bind (fun d => (zsel d [11, 167]).bind (fun M' => zcl1 E 171 124 M' ls sk [.ref x] h)) := zg_vir (as := []) rfl rfl
theorem zi171_124 {E : zE} {ls sk : List Value} {h : zH} : zrun zpp E 171 (124, ls, sk, h) = zrun zpp E 171 (111, ls, sk, h) := zrun_at rfl
theorem zi171_127 {E : zE} {x : Nat} {ls sk : List Value} {h : zH} : zrun zpp E 171 (127, .ref x :: ls, sk, h) = zrun zpp E 171 (128, .ref x :: ls, .ref x :: sk, h) := zrun_at rfl
theorem zi171_127n {E : zE} {ls sk : List Value} {h : zH} : zrun zpp E 171 (127, .null :: ls, sk, h) = zrun zpp E 171 (128, .null :: ls, .null :: sk, h) := zrun_at rfl
theorem zi171_128 {E : zE} {ls sk : List Value} {h : zH} : zrun zpp E 171 (128, ls, sk, h) = zrun zpp E 171 (130, ls, .int 111 :: sk, h) := zg_bipush rfl ci_111
theorem zi171_130 {E : zE} {a0 : Value} {x : Nat} {ls sk : List Value} {h : zH} : zrun zpp E 171 (130, ls, a0 :: .ref x :: sk, h) = (zcls h x).bind (fun d => (zsel d [11, 160]).bind (fun M' => zcl1 E 171 133 M' ls sk [.ref x, a0] h)) := zg_vir (as := [a0]) rfl rfl
theorem zi171_133 {E : zE} {x : Int32} {ls sk : List Value} {h : zH} : zrun zpp E 171 (133, ls, .int x :: sk, h) = if x = 0 then zrun zpp E 171 (136, ls, sk, h) else zrun zpp E 171 (145, ls, sk, h) := zrun_at rfl
theorem zi171_136 {E : zE} {x : Nat} {ls sk : List Value} {h : zH} : zrun zpp E 171 (136, .ref x :: ls, sk, h) = zrun zpp E 171 (137, .ref x :: ls, .ref x :: sk, h) := zrun_at rfl
theorem zi171_136n {E : zE} {ls sk : List Value} {h : zH} : zrun zpp E 171 (136, .null :: ls, sk, h) = zrun zpp E 171 (137, .null :: ls, .null :: sk, h) := zrun_at rfl
theorem zi171_137 {E : zE} {ls sk : List Value} {h : zH} : zrun zpp E 171 (137, ls, sk, h) = zrun zpp E 171 (139, ls, .int 99 :: sk, h) := zg_bipush rfl ci_99
theorem zi171_139 {E : zE} {a0 : Value} {x : Nat} {ls sk : List Value} {h : zH} : zrun zpp E 171 (139, ls, a0 :: .ref x :: sk, h) = (zcls h x).bind (fun d => (zsel d [11, 160]).bind (fun M' => zcl1 E 171 142 M' ls sk [.ref x, a0] h)) := zg_vir (as := [a0]) rfl rfl
theorem zi171_142 {E : zE} {x : Int32} {ls sk : List Value} {h : zH} : zrun zpp E 171 (142, ls, .int x :: sk, h) = if x = 0 then zrun zpp E 171 (152, ls, sk, h) else zrun zpp E 171 (145, ls, sk, h) := zrun_at rfl
theorem zi171_145 {E : zE} {x : Nat} {ls sk : List Value} {h : zH} : zrun zpp E 171 (145, .ref x :: ls, sk, h) = zrun zpp E 171 (146, .ref x :: ls, .ref x :: sk, h) := zrun_at rfl
theorem zi171_145n {E : zE} {ls sk : List Value} {h : zH} : zrun zpp E 171 (145, .null :: ls, sk, h) = zrun zpp E 171 (146, .null :: ls, .null :: sk, h) := zrun_at rfl
theorem zi171_146 {E : zE} {x : Nat} {ls sk : List Value} {h : zH} : zrun zpp E 171 (146, ls, .ref x :: sk, h) = (zcls h x).bind (fun d => (zsel d [11, 169]).bind (fun M' => zcl1 E 171 149 M' ls sk [.ref x] h)) := zg_vir (as := []) rfl rfl
theorem zi171_149 {E : zE} {ls sk : List Value} {h : zH} : zrun zpp E 171 (149, ls, sk, h) = zrun zpp E 171 (127, ls, sk, h) := zrun_at rfl
theorem zi171_152 {E : zE} {x : Nat} {ls sk : List Value} {h : zH} : zrun zpp E 171 (152, .ref x :: ls, sk, h) = zrun zpp E 171 (153, .ref x :: ls, .ref x :: sk, h) := zrun_at rfl
theorem zi171_152n {E : zE} {ls sk : List Value} {h : zH} : zrun zpp E 171 (152, .null :: ls, sk, h) = zrun zpp E 171 (153, .null :: ls, .null :: sk, h) := zrun_at rfl
theorem zi171_153 {E : zE} {x : Nat} {ls sk : List Value} {h : zH} : zrun zpp E 171 (153, ls, .ref x :: sk, h) = (zfld [11] h x 15).bind (fun v => zrun zpp E 171 (156, ls, v :: sk, h)) := zg_getf rfl
theorem zi171_156 {E : zE} {x : Int32} {ls sk : List Value} {h : zH} : zrun zpp E 171 (156, ls, .int x :: sk, h) = if x = 0 then zrun zpp E 171 (159, ls, sk, h) else zrun zpp E 171 (186, ls, sk, h) := zrun_at rfl
theorem zi171_159 {E : zE} {x : Nat} {ls sk : List Value} {h : zH} : zrun zpp E 171 (159, .ref x :: ls, sk, h) = zrun zpp E 171 (160, .ref x :: ls, .ref x :: sk, h) := zrun_at rfl
theorem zi171_159n {E : zE} {ls sk : List Value} {h : zH} : zrun zpp E 171 (159, .null :: ls, sk, h) = zrun zpp E 171 (160, .null :: ls, .null :: sk, h) := zrun_at rfl
theorem zi171_160 {E : zE} {x : Nat} {ls sk : List Value} {h : zH} : zrun zpp E 171 (160, ls, .ref x :: sk, h) = (zfld [11] h x 13).bind (fun v => zrun zpp E 171 (163, ls, v :: sk, h)) := zg_getf rfl
theorem zi171_163 {E : zE} {ls sk : List Value} {h : zH} : zrun zpp E 171 (163, ls, sk, h) = zrun zpp E 171 (164, ls, .int 2 :: sk, h) := zg_iconst rfl ci_2
theorem zi171_164 {E : zE} {x y : Int32} {ls sk : List Value} {h : zH} : zrun zpp E 171 (164, ls, .int y :: .int x :: sk, h) = if x = y then zrun zpp E 171 (167, ls, sk, h) else zrun zpp E 171 (186, ls, sk, h) := zrun_at rfl
theorem zi171_167 {E : zE} {x : Nat} {ls sk : List Value} {h : zH} : zrun zpp E 171 (167, .ref x :: ls, sk, h) = zrun zpp E 171 (168, .ref x :: ls, .ref x :: sk, h) := zrun_at rfl
theorem zi171_167n {E : zE} {ls sk : List Value} {h : zH} : zrun zpp E 171 (167, .null :: ls, sk, h) = zrun zpp E 171 (168, .null :: ls, .null :: sk, h) := zrun_at rfl
theorem zi171_168 {E : zE} {x : Nat} {ls sk : List Value} {h : zH} : zrun zpp E 171 (168, ls, .ref x :: sk, h) = (zfld [11] h x 14).bind (fun v => zrun zpp E 171 (171, ls, v :: sk, h)) := zg_getf rfl
theorem zi171_171 {E : zE} {a0 : Value} {ls sk : List Value} {h : zH} : zrun zpp E 171 (171, ls, a0 :: sk, h) = zcl1 E 171 174 166 ls sk [a0] h := zg_inv (as := [a0]) rfl rfl
theorem zi171_174 {E : zE} {ls sk : List Value} {h : zH} : zrun zpp E 171 (174, ls, sk, h) = zrun zpp E 171 (176, ls, .int (-1000000) :: sk, h) := zg_ldc rfl ci_m1000000
theorem zi171_176 {E : zE} {x y : Int32} {ls sk : List Value} {h : zH} : zrun zpp E 171 (176, ls, .int y :: .int x :: sk, h) = if x = y then zrun zpp E 171 (186, ls, sk, h) else zrun zpp E 171 (179, ls, sk, h) := zrun_at rfl
theorem zi171_179 {E : zE} {x : Nat} {ls sk : List Value} {h : zH} : zrun zpp E 171 (179, .ref x :: ls, sk, h) = zrun zpp E 171 (180, .ref x :: ls, .ref x :: sk, h) := zrun_at rfl
theorem zi171_179n {E : zE} {ls sk : List Value} {h : zH} : zrun zpp E 171 (179, .null :: ls, sk, h) = zrun zpp E 171 (180, .null :: ls, .null :: sk, h) := zrun_at rfl
theorem zi171_180 {E : zE} {x : Nat} {ls sk : List Value} {h : zH} : zrun zpp E 171 (180, ls, .ref x :: sk, h) = (zcls h x).bind (fun d => (zsel d [11, 170]).bind (fun M' => zcl1 E 171 183 M' ls sk [.ref x] h)) := zg_vir (as := []) rfl rfl
theorem zi171_183 {E : zE} {ls sk : List Value} {h : zH} : zrun zpp E 171 (183, ls, sk, h) = zrun zpp E 171 (152, ls, sk, h) := zrun_at rfl
theorem zi171_186 {E : zE} {x : Nat} {ls sk : List Value} {h : zH} : zrun zpp E 171 (186, .ref x :: ls, sk, h) = zrun zpp E 171 (187, .ref x :: ls, .ref x :: sk, h) := zrun_at rfl
theorem zi171_186n {E : zE} {ls sk : List Value} {h : zH} : zrun zpp E 171 (186, .null :: ls, sk, h) = zrun zpp E 171 (187, .null :: ls, .null :: sk, h) := zrun_at rfl
theorem zi171_187 {E : zE} {x : Nat} {ls sk : List Value} {h : zH} : zrun zpp E 171 (187, ls, .ref x :: sk, h) = (zcls h x).bind (fun d => (zsel d [11, 164]).bind (fun M' => zcl1 E 171 190 M' ls sk [.ref x] h)) := zg_vir (as := []) rfl rfl
theorem zi171_190 {E : zE} {x : Int32} {ls sk : List Value} {h : zH} : zrun zpp E 171 (190, ls, .int x :: sk, h) = if x = 0 then zrun zpp E 171 (201, ls, sk, h) else zrun zpp E 171 (193, ls, sk, h) := zrun_at rfl
theorem zi171_193 {E : zE} {ls sk : List Value} {h : zH} : zrun zpp E 171 (193, ls, sk, h) = zrun zpp E 171 (195, ls, .int (-1000100) :: sk, h) := zg_ldc rfl ci_m1000100
theorem zi171_195 {E : zE} {x : Nat} {ls sk : List Value} {h : zH} : zrun zpp E 171 (195, .ref x :: ls, sk, h) = zrun zpp E 171 (196, .ref x :: ls, .ref x :: sk, h) := zrun_at rfl
theorem zi171_195n {E : zE} {ls sk : List Value} {h : zH} : zrun zpp E 171 (195, .null :: ls, sk, h) = zrun zpp E 171 (196, .null :: ls, .null :: sk, h) := zrun_at rfl
theorem zi171_196 {E : zE} {x : Nat} {ls sk : List Value} {h : zH} : zrun zpp E 171 (196, ls, .ref x :: sk, h) = (zfld [11] h x 16).bind (fun v => zrun zpp E 171 (199, ls, v :: sk, h)) := zg_getf rfl
theorem zi171_199 {E : zE} {x y : Int32} {ls sk : List Value} {h : zH} : zrun zpp E 171 (199, ls, .int y :: .int x :: sk, h) = zrun zpp E 171 (200, ls, .int (x - y) :: sk, h) := zrun_at rfl
theorem zi171_200 {E : zE} {x : Int32} {ls sk : List Value} {h : zH} : zrun zpp E 171 (200, ls, [.int x], h) = some (some (.int x), h) := zrun_at rfl
theorem zi171_201 {E : zE} {x : Nat} {ls sk : List Value} {h : zH} : zrun zpp E 171 (201, .ref x :: ls, sk, h) = zrun zpp E 171 (202, .ref x :: ls, .ref x :: sk, h) := zrun_at rfl
theorem zi171_201n {E : zE} {ls sk : List Value} {h : zH} : zrun zpp E 171 (201, .null :: ls, sk, h) = zrun zpp E 171 (202, .null :: ls, .null :: sk, h) := zrun_at rfl
theorem zi171_202 {E : zE} {ls sk : List Value} {h : zH} : zrun zpp E 171 (202, ls, sk, h) = zrun zpp E 171 (203, ls, .int 0 :: sk, h) := zg_iconst rfl ci_0
theorem zi171_203 {E : zE} {x : Nat} {v : Value} {ls sk : List Value} {h : zH} : zrun zpp E 171 (203, ls, v :: .ref x :: sk, h) = (zstf [11] 0 h x 8 v).bind (fun h' => zrun zpp E 171 (206, ls, sk, h')) := zg_putf rfl
theorem zi171_206 {E : zE} {x : Nat} {ls sk : List Value} {h : zH} : zrun zpp E 171 (206, .ref x :: ls, sk, h) = zrun zpp E 171 (207, .ref x :: ls, .ref x :: sk, h) := zrun_at rfl
theorem zi171_206n {E : zE} {ls sk : List Value} {h : zH} : zrun zpp E 171 (206, .null :: ls, sk, h) = zrun zpp E 171 (207, .null :: ls, .null :: sk, h) := zrun_at rfl
theorem zi171_207 {E : zE} {x : Nat} {ls sk : List Value} {h : zH} : zrun zpp E 171 (207, ls, .ref x :: sk, h) = (zfld [11] h x 6).bind (fun v => zrun zpp E 171 (210, ls, v :: sk, h)) := zg_getf rfl
theorem zi171_210 {E : zE} {ls sk : List Value} {h : zH} : zrun zpp E 171 (210, ls, sk, h) = zrun zpp E 171 (212, ls, .int 8 :: sk, h) := zg_bipush rfl ci_8
theorem zi171_212 {E : zE} {ls sk : List Value} {h : zH} : zrun zpp E 171 (212, ls, sk, h) = zrun zpp E 171 (213, ls, .int 1 :: sk, h) := zg_iconst rfl ci_1
theorem zi171_213 {E : zE} {x : Nat} {ls sk : List Value} {h : zH} : zrun zpp E 171 (213, .ref x :: ls, sk, h) = zrun zpp E 171 (214, .ref x :: ls, .ref x :: sk, h) := zrun_at rfl
theorem zi171_213n {E : zE} {ls sk : List Value} {h : zH} : zrun zpp E 171 (213, .null :: ls, sk, h) = zrun zpp E 171 (214, .null :: ls, .null :: sk, h) := zrun_at rfl
theorem zi171_214 {E : zE} {x : Nat} {ls sk : List Value} {h : zH} : zrun zpp E 171 (214, ls, .ref x :: sk, h) = (zfld [11] h x 6).bind (fun v => zrun zpp E 171 (217, ls, v :: sk, h)) := zg_getf rfl
theorem zi171_217 {E : zE} {ls sk : List Value} {h : zH} : zrun zpp E 171 (217, ls, sk, h) = zrun zpp E 171 (218, ls, .int 3 :: sk, h) := zg_iconst rfl ci_3
theorem zi171_218 {E : zE} {x : Nat} {i : Int32} {ls sk : List Value} {h : zH} : zrun zpp E 171 (218, ls, .int i :: .ref x :: sk, h) = (zarr 0 h x i).bind (fun v => zrun zpp E 171 (219, ls, .int v :: sk, h)) := zg_iald rfl
theorem zi171_219 {E : zE} {x y : Int32} {ls sk : List Value} {h : zH} : zrun zpp E 171 (219, ls, .int y :: .int x :: sk, h) = zrun zpp E 171 (220, ls, .int (x <<< (y &&& 31)) :: sk, h) := zrun_at rfl
theorem zi171_220 {E : zE} {ls sk : List Value} {h : zH} : zrun zpp E 171 (220, ls, sk, h) = zrun zpp E 171 (221, ls, .int 1 :: sk, h) := zg_iconst rfl ci_1
theorem zi171_221 {E : zE} {x y : Int32} {ls sk : List Value} {h : zH} : zrun zpp E 171 (221, ls, .int y :: .int x :: sk, h) = zrun zpp E 171 (222, ls, .int (x - y) :: sk, h) := zrun_at rfl
theorem zi171_222 {E : zE} {x : Nat} {i v : Int32} {ls sk : List Value} {h : zH} : zrun zpp E 171 (222, ls, .int v :: .int i :: .ref x :: sk, h) = (zars 0 h x i v).bind (fun h' => zrun zpp E 171 (223, ls, sk, h')) := zg_iast rfl
theorem zi171_223 {E : zE} {ls sk : List Value} {h : zH} : zrun zpp E 171 (223, ls, sk, h) = zrun zpp E 171 (224, ls, .int 0 :: sk, h) := zg_iconst rfl ci_0
theorem zi171_224 {E : zE} {x : Int32} {ls sk : List Value} {h : zH} : zrun zpp E 171 (224, ls, .int x :: sk, h) = if zfree ls 1 = true then zrun zpp E 171 (225, ls.set 1 (.int x), sk, h) else none := zg_ist rfl (fun _ _ _ => rfl)
theorem zi171_225 {E : zE} {v0 : Value} {x : Int32} {ls sk : List Value} {h : zH} : zrun zpp E 171 (225, v0 :: .int x :: ls, sk, h) = zrun zpp E 171 (226, v0 :: .int x :: ls, .int x :: sk, h) := zrun_at rfl
theorem zi171_226 {E : zE} {ls sk : List Value} {h : zH} : zrun zpp E 171 (226, ls, sk, h) = zrun zpp E 171 (228, ls, .int 73 :: sk, h) := zg_bipush rfl ci_73
theorem zi171_228 {E : zE} {x y : Int32} {ls sk : List Value} {h : zH} : zrun zpp E 171 (228, ls, .int y :: .int x :: sk, h) = if y ≤ x then zrun zpp E 171 (249, ls, sk, h) else zrun zpp E 171 (231, ls, sk, h) := zrun_at rfl
theorem zi171_231 {E : zE} {x : Nat} {ls sk : List Value} {h : zH} : zrun zpp E 171 (231, .ref x :: ls, sk, h) = zrun zpp E 171 (232, .ref x :: ls, .ref x :: sk, h) := zrun_at rfl
theorem zi171_231n {E : zE} {ls sk : List Value} {h : zH} : zrun zpp E 171 (231, .null :: ls, sk, h) = zrun zpp E 171 (232, .null :: ls, .null :: sk, h) := zrun_at rfl
theorem zi171_232 {E : zE} {x : Nat} {ls sk : List Value} {h : zH} : zrun zpp E 171 (232, ls, .ref x :: sk, h) = (zfld [11] h x 5).bind (fun v => zrun zpp E 171 (235, ls, v :: sk, h)) := zg_getf rfl
theorem zi171_235 {E : zE} {v0 : Value} {x : Int32} {ls sk : List Value} {h : zH} : zrun zpp E 171 (235, v0 :: .int x :: ls, sk, h) = zrun zpp E 171 (236, v0 :: .int x :: ls, .int x :: sk, h) := zrun_at rfl
theorem zi171_236 {E : zE} {x : Nat} {ls sk : List Value} {h : zH} : zrun zpp E 171 (236, .ref x :: ls, sk, h) = zrun zpp E 171 (237, .ref x :: ls, .ref x :: sk, h) := zrun_at rfl
theorem zi171_236n {E : zE} {ls sk : List Value} {h : zH} : zrun zpp E 171 (236, .null :: ls, sk, h) = zrun zpp E 171 (237, .null :: ls, .null :: sk, h) := zrun_at rfl
theorem zi171_237 {E : zE} {x : Nat} {ls sk : List Value} {h : zH} : zrun zpp E 171 (237, ls, .ref x :: sk, h) = (zfld [11] h x 6).bind (fun v => zrun zpp E 171 (240, ls, v :: sk, h)) := zg_getf rfl
theorem zi171_240 {E : zE} {v0 : Value} {x : Int32} {ls sk : List Value} {h : zH} : zrun zpp E 171 (240, v0 :: .int x :: ls, sk, h) = zrun zpp E 171 (241, v0 :: .int x :: ls, .int x :: sk, h) := zrun_at rfl
theorem zi171_241 {E : zE} {x : Nat} {i : Int32} {ls sk : List Value} {h : zH} : zrun zpp E 171 (241, ls, .int i :: .ref x :: sk, h) = (zarr 0 h x i).bind (fun v => zrun zpp E 171 (242, ls, .int v :: sk, h)) := zg_iald rfl
theorem zi171_242 {E : zE} {x : Nat} {i v : Int32} {ls sk : List Value} {h : zH} : zrun zpp E 171 (242, ls, .int v :: .int i :: .ref x :: sk, h) = (zars 0 h x i v).bind (fun h' => zrun zpp E 171 (243, ls, sk, h')) := zg_iast rfl
theorem zi171_243 {E : zE} {v0 : Value} {x : Int32} {ls sk : List Value} {h : zH} : zrun zpp E 171 (243, v0 :: .int x :: ls, sk, h) = if zfree (v0 :: .int x :: ls) 1 = true then zrun zpp E 171 (246, v0 :: .int (x + 1) :: ls, sk, h) else none := by rw [← ci_1]; exact zrun_at rfl
theorem zi171_246 {E : zE} {ls sk : List Value} {h : zH} : zrun zpp E 171 (246, ls, sk, h) = zrun zpp E 171 (225, ls, sk, h) := zrun_at rfl
theorem zi171_249 {E : zE} {x : Nat} {ls sk : List Value} {h : zH} : zrun zpp E 171 (249, .ref x :: ls, sk, h) = zrun zpp E 171 (250, .ref x :: ls, .ref x :: sk, h) := zrun_at rfl
theorem zi171_249n {E : zE} {ls sk : List Value} {h : zH} : zrun zpp E 171 (249, .null :: ls, sk, h) = zrun zpp E 171 (250, .null :: ls, .null :: sk, h) := zrun_at rfl
theorem zi171_250 {E : zE} {x : Nat} {ls sk : List Value} {h : zH} : zrun zpp E 171 (250, ls, .ref x :: sk, h) = (zfld [11] h x 5).bind (fun v => zrun zpp E 171 (253, ls, v :: sk, h)) := zg_getf rfl
theorem zi171_253 {E : zE} {ls sk : List Value} {h : zH} : zrun zpp E 171 (253, ls, sk, h) = zrun zpp E 171 (254, ls, .int 3 :: sk, h) := zg_iconst rfl ci_3
theorem zi171_254 {E : zE} {x : Nat} {i : Int32} {ls sk : List Value} {h : zH} : zrun zpp E 171 (254, ls, .int i :: .ref x :: sk, h) = (zarr 0 h x i).bind (fun v => zrun zpp E 171 (255, ls, .int v :: sk, h)) := zg_iald rfl
theorem zi171_255 {E : zE} {x : Int32} {ls sk : List Value} {h : zH} : zrun zpp E 171 (255, ls, [.int x], h) = some (some (.int x), h) := zrun_at rfl
-- 172 NineDownModel.isThere
theorem zi172_0 {E : zE} {x : Nat} {ls sk : List Value} {h : zH} : zrun zpp E 172 (0, .ref x :: ls, sk, h) = zrun zpp E 172 (1, .ref x :: ls, .ref x :: sk, h) := zrun_at rfl
theorem zi172_0n {E : zE} {ls sk : List Value} {h : zH} : zrun zpp E 172 (0, .null :: ls, sk, h) = zrun zpp E 172 (1, .null :: ls, .null :: sk, h) := zrun_at rfl
theorem zi172_1 {E : zE} {x : Nat} {ls sk : List Value} {h : zH} : zrun zpp E 172 (1, ls, .ref x :: sk, h) = (zfld [11] h x 5).bind (fun v => zrun zpp E 172 (4, ls, v :: sk, h)) := zg_getf rfl
theorem zi172_4 {E : zE} {ls sk : List Value} {h : zH} : zrun zpp E 172 (4, ls, sk, h) = zrun zpp E 172 (5, ls, .int 0 :: sk, h) := zg_iconst rfl ci_0
theorem zi172_5 {E : zE} {x : Nat} {i : Int32} {ls sk : List Value} {h : zH} : zrun zpp E 172 (5, ls, .int i :: .ref x :: sk, h) = (zarr 0 h x i).bind (fun v => zrun zpp E 172 (6, ls, .int v :: sk, h)) := zg_iald rfl
theorem zi172_6 {E : zE} {x : Int32} {ls sk : List Value} {h : zH} : zrun zpp E 172 (6, ls, .int x :: sk, h) = if x ≤ 0 then zrun zpp E 172 (13, ls, sk, h) else zrun zpp E 172 (9, ls, sk, h) := zrun_at rfl
theorem zi172_9 {E : zE} {ls sk : List Value} {h : zH} : zrun zpp E 172 (9, ls, sk, h) = zrun zpp E 172 (10, ls, .int 1 :: sk, h) := zg_iconst rfl ci_1
theorem zi172_10 {E : zE} {ls sk : List Value} {h : zH} : zrun zpp E 172 (10, ls, sk, h) = zrun zpp E 172 (14, ls, sk, h) := zrun_at rfl
theorem zi172_13 {E : zE} {ls sk : List Value} {h : zH} : zrun zpp E 172 (13, ls, sk, h) = zrun zpp E 172 (14, ls, .int 0 :: sk, h) := zg_iconst rfl ci_0
theorem zi172_14 {E : zE} {x : Int32} {ls sk : List Value} {h : zH} : zrun zpp E 172 (14, ls, [.int x], h) = if x = 0 then some (some (.int 0), h) else if x = 1 then some (some (.int 1), h) else none := zrun_at rfl
-- 173 NineDownModel.isBike
theorem zi173_0 {E : zE} {v0 : Value} {x : Int64} {ls sk : List Value} {h : zH} : zrun zpp E 173 (0, v0 :: .long x :: ls, sk, h) = zrun zpp E 173 (1, v0 :: .long x :: ls, .long x :: sk, h) := zrun_at rfl
theorem zi173_1 {E : zE} {ls sk : List Value} {h : zH} : zrun zpp E 173 (1, ls, sk, h) = zrun zpp E 173 (2, ls, .long 0 :: sk, h) := zg_lconst rfl rfl
theorem zi173_2 {E : zE} {x : Nat} {ls sk : List Value} {h : zH} : zrun zpp E 173 (2, .ref x :: ls, sk, h) = zrun zpp E 173 (3, .ref x :: ls, .ref x :: sk, h) := zrun_at rfl
theorem zi173_2n {E : zE} {ls sk : List Value} {h : zH} : zrun zpp E 173 (2, .null :: ls, sk, h) = zrun zpp E 173 (3, .null :: ls, .null :: sk, h) := zrun_at rfl
theorem zi173_3 {E : zE} {x : Nat} {ls sk : List Value} {h : zH} : zrun zpp E 173 (3, ls, .ref x :: sk, h) = (zfld [11] h x 5).bind (fun v => zrun zpp E 173 (6, ls, v :: sk, h)) := zg_getf rfl
theorem zi173_6 {E : zE} {ls sk : List Value} {h : zH} : zrun zpp E 173 (6, ls, sk, h) = zrun zpp E 173 (7, ls, .int 3 :: sk, h) := zg_iconst rfl ci_3
theorem zi173_7 {E : zE} {x : Nat} {i : Int32} {ls sk : List Value} {h : zH} : zrun zpp E 173 (7, ls, .int i :: .ref x :: sk, h) = (zarr 0 h x i).bind (fun v => zrun zpp E 173 (8, ls, .int v :: sk, h)) := zg_iald rfl
theorem zi173_8 {E : zE} {ls sk : List Value} {h : zH} : zrun zpp E 173 (8, ls, sk, h) = zrun zpp E 173 (9, ls, .int 1 :: sk, h) := zg_iconst rfl ci_1
theorem zi173_9 {E : zE} {x y : Int32} {ls sk : List Value} {h : zH} : zrun zpp E 173 (9, ls, .int y :: .int x :: sk, h) = zrun zpp E 173 (10, ls, .int (x - y) :: sk, h) := zrun_at rfl
theorem zi173_10 {E : zE} {x : Int32} {ls sk : List Value} {h : zH} : zrun zpp E 173 (10, ls, .int x :: sk, h) = zrun zpp E 173 (11, ls, .long x.toInt64 :: sk, h) := zrun_at rfl
theorem zi173_11 {E : zE} {a0 a1 a2 : Value} {ls sk : List Value} {h : zH} : zrun zpp E 173 (11, ls, a2 :: a1 :: a0 :: sk, h) = zcl1 E 173 14 149 ls sk [a0, a1, a2] h := zg_inv (as := [a0, a1, a2]) rfl rfl
theorem zi173_14 {E : zE} {x : Int32} {ls sk : List Value} {h : zH} : zrun zpp E 173 (14, ls, [.int x], h) = if x = 0 then some (some (.int 0), h) else if x = 1 then some (some (.int 1), h) else none := zrun_at rfl
-- 174 NineDownModel.isLifter
theorem zi174_0 {E : zE} {v0 : Value} {x : Int64} {ls sk : List Value} {h : zH} : zrun zpp E 174 (0, v0 :: .long x :: ls, sk, h) = zrun zpp E 174 (1, v0 :: .long x :: ls, .long x :: sk, h) := zrun_at rfl
theorem zi174_1 {E : zE} {ls sk : List Value} {h : zH} : zrun zpp E 174 (1, ls, sk, h) = zrun zpp E 174 (2, ls, .long 0 :: sk, h) := zg_lconst rfl rfl
theorem zi174_2 {E : zE} {x : Nat} {ls sk : List Value} {h : zH} : zrun zpp E 174 (2, .ref x :: ls, sk, h) = zrun zpp E 174 (3, .ref x :: ls, .ref x :: sk, h) := zrun_at rfl
theorem zi174_2n {E : zE} {ls sk : List Value} {h : zH} : zrun zpp E 174 (2, .null :: ls, sk, h) = zrun zpp E 174 (3, .null :: ls, .null :: sk, h) := zrun_at rfl
theorem zi174_3 {E : zE} {x : Nat} {ls sk : List Value} {h : zH} : zrun zpp E 174 (3, ls, .ref x :: sk, h) = (zfld [11] h x 5).bind (fun v => zrun zpp E 174 (6, ls, v :: sk, h)) := zg_getf rfl
theorem zi174_6 {E : zE} {ls sk : List Value} {h : zH} : zrun zpp E 174 (6, ls, sk, h) = zrun zpp E 174 (7, ls, .int 5 :: sk, h) := zg_iconst rfl ci_5
theorem zi174_7 {E : zE} {x : Nat} {i : Int32} {ls sk : List Value} {h : zH} : zrun zpp E 174 (7, ls, .int i :: .ref x :: sk, h) = (zarr 0 h x i).bind (fun v => zrun zpp E 174 (8, ls, .int v :: sk, h)) := zg_iald rfl
theorem zi174_8 {E : zE} {ls sk : List Value} {h : zH} : zrun zpp E 174 (8, ls, sk, h) = zrun zpp E 174 (9, ls, .int 1 :: sk, h) := zg_iconst rfl ci_1
theorem zi174_9 {E : zE} {x y : Int32} {ls sk : List Value} {h : zH} : zrun zpp E 174 (9, ls, .int y :: .int x :: sk, h) = zrun zpp E 174 (10, ls, .int (x - y) :: sk, h) := zrun_at rfl
theorem zi174_10 {E : zE} {x : Int32} {ls sk : List Value} {h : zH} : zrun zpp E 174 (10, ls, .int x :: sk, h) = zrun zpp E 174 (11, ls, .long x.toInt64 :: sk, h) := zrun_at rfl
theorem zi174_11 {E : zE} {a0 a1 a2 : Value} {ls sk : List Value} {h : zH} : zrun zpp E 174 (11, ls, a2 :: a1 :: a0 :: sk, h) = zcl1 E 174 14 149 ls sk [a0, a1, a2] h := zg_inv (as := [a0, a1, a2]) rfl rfl
theorem zi174_14 {E : zE} {x : Int32} {ls sk : List Value} {h : zH} : zrun zpp E 174 (14, ls, [.int x], h) = if x = 0 then some (some (.int 0), h) else if x = 1 then some (some (.int 1), h) else none := zrun_at rfl
-- 175 NineDownModel.isHold
theorem zi175_0 {E : zE} {v0 : Value} {x : Int32} {ls sk : List Value} {h : zH} : zrun zpp E 175 (0, v0 :: .int x :: ls, sk, h) = zrun zpp E 175 (1, v0 :: .int x :: ls, .int x :: sk, h) := zrun_at rfl
theorem zi175_1 {E : zE} {x : Int32} {ls sk : List Value} {h : zH} : zrun zpp E 175 (1, ls, .int x :: sk, h) = zrun zpp E 175 (2, ls, .long x.toInt64 :: sk, h) := zrun_at rfl
theorem zi175_2 {E : zE} {ls sk : List Value} {h : zH} : zrun zpp E 175 (2, ls, sk, h) = zrun zpp E 175 (3, ls, .long 0 :: sk, h) := zg_lconst rfl rfl
theorem zi175_3 {E : zE} {x : Nat} {ls sk : List Value} {h : zH} : zrun zpp E 175 (3, .ref x :: ls, sk, h) = zrun zpp E 175 (4, .ref x :: ls, .ref x :: sk, h) := zrun_at rfl
theorem zi175_3n {E : zE} {ls sk : List Value} {h : zH} : zrun zpp E 175 (3, .null :: ls, sk, h) = zrun zpp E 175 (4, .null :: ls, .null :: sk, h) := zrun_at rfl
theorem zi175_4 {E : zE} {x : Nat} {ls sk : List Value} {h : zH} : zrun zpp E 175 (4, ls, .ref x :: sk, h) = (zfld [11] h x 5).bind (fun v => zrun zpp E 175 (7, ls, v :: sk, h)) := zg_getf rfl
theorem zi175_7 {E : zE} {ls sk : List Value} {h : zH} : zrun zpp E 175 (7, ls, sk, h) = zrun zpp E 175 (8, ls, .int 4 :: sk, h) := zg_iconst rfl ci_4
theorem zi175_8 {E : zE} {x : Nat} {i : Int32} {ls sk : List Value} {h : zH} : zrun zpp E 175 (8, ls, .int i :: .ref x :: sk, h) = (zarr 0 h x i).bind (fun v => zrun zpp E 175 (9, ls, .int v :: sk, h)) := zg_iald rfl
theorem zi175_9 {E : zE} {ls sk : List Value} {h : zH} : zrun zpp E 175 (9, ls, sk, h) = zrun zpp E 175 (10, ls, .int 1 :: sk, h) := zg_iconst rfl ci_1
theorem zi175_10 {E : zE} {x y : Int32} {ls sk : List Value} {h : zH} : zrun zpp E 175 (10, ls, .int y :: .int x :: sk, h) = zrun zpp E 175 (11, ls, .int (x - y) :: sk, h) := zrun_at rfl
theorem zi175_11 {E : zE} {x : Int32} {ls sk : List Value} {h : zH} : zrun zpp E 175 (11, ls, .int x :: sk, h) = zrun zpp E 175 (12, ls, .long x.toInt64 :: sk, h) := zrun_at rfl
theorem zi175_12 {E : zE} {a0 a1 a2 : Value} {ls sk : List Value} {h : zH} : zrun zpp E 175 (12, ls, a2 :: a1 :: a0 :: sk, h) = zcl1 E 175 15 149 ls sk [a0, a1, a2] h := zg_inv (as := [a0, a1, a2]) rfl rfl
theorem zi175_15 {E : zE} {x : Int32} {ls sk : List Value} {h : zH} : zrun zpp E 175 (15, ls, [.int x], h) = if x = 0 then some (some (.int 0), h) else if x = 1 then some (some (.int 1), h) else none := zrun_at rfl
-- 176 NineDownModel.areLifters
theorem zi176_0 {E : zE} {v0 : Value} {x : Int32} {ls sk : List Value} {h : zH} : zrun zpp E 176 (0, v0 :: .int x :: ls, sk, h) = zrun zpp E 176 (1, v0 :: .int x :: ls, .int x :: sk, h) := zrun_at rfl
theorem zi176_1 {E : zE} {x : Int32} {ls sk : List Value} {h : zH} : zrun zpp E 176 (1, ls, .int x :: sk, h) = zrun zpp E 176 (2, ls, .long x.toInt64 :: sk, h) := zrun_at rfl
theorem zi176_2 {E : zE} {ls sk : List Value} {h : zH} : zrun zpp E 176 (2, ls, sk, h) = zrun zpp E 176 (3, ls, .long 0 :: sk, h) := zg_lconst rfl rfl
theorem zi176_3 {E : zE} {ls sk : List Value} {h : zH} : zrun zpp E 176 (3, ls, sk, h) = zrun zpp E 176 (4, ls, .int 1 :: sk, h) := zg_iconst rfl ci_1
theorem zi176_4 {E : zE} {x : Nat} {ls sk : List Value} {h : zH} : zrun zpp E 176 (4, .ref x :: ls, sk, h) = zrun zpp E 176 (5, .ref x :: ls, .ref x :: sk, h) := zrun_at rfl
theorem zi176_4n {E : zE} {ls sk : List Value} {h : zH} : zrun zpp E 176 (4, .null :: ls, sk, h) = zrun zpp E 176 (5, .null :: ls, .null :: sk, h) := zrun_at rfl
theorem zi176_5 {E : zE} {x : Nat} {ls sk : List Value} {h : zH} : zrun zpp E 176 (5, ls, .ref x :: sk, h) = (zfld [11] h x 5).bind (fun v => zrun zpp E 176 (8, ls, v :: sk, h)) := zg_getf rfl
theorem zi176_8 {E : zE} {ls sk : List Value} {h : zH} : zrun zpp E 176 (8, ls, sk, h) = zrun zpp E 176 (9, ls, .int 5 :: sk, h) := zg_iconst rfl ci_5
theorem zi176_9 {E : zE} {x : Nat} {i : Int32} {ls sk : List Value} {h : zH} : zrun zpp E 176 (9, ls, .int i :: .ref x :: sk, h) = (zarr 0 h x i).bind (fun v => zrun zpp E 176 (10, ls, .int v :: sk, h)) := zg_iald rfl
theorem zi176_10 {E : zE} {x y : Int32} {ls sk : List Value} {h : zH} : zrun zpp E 176 (10, ls, .int y :: .int x :: sk, h) = zrun zpp E 176 (11, ls, .int (x <<< (y &&& 31)) :: sk, h) := zrun_at rfl
theorem zi176_11 {E : zE} {ls sk : List Value} {h : zH} : zrun zpp E 176 (11, ls, sk, h) = zrun zpp E 176 (12, ls, .int 1 :: sk, h) := zg_iconst rfl ci_1
theorem zi176_12 {E : zE} {x y : Int32} {ls sk : List Value} {h : zH} : zrun zpp E 176 (12, ls, .int y :: .int x :: sk, h) = zrun zpp E 176 (13, ls, .int (x - y) :: sk, h) := zrun_at rfl
theorem zi176_13 {E : zE} {x : Int32} {ls sk : List Value} {h : zH} : zrun zpp E 176 (13, ls, .int x :: sk, h) = zrun zpp E 176 (14, ls, .long x.toInt64 :: sk, h) := zrun_at rfl
theorem zi176_14 {E : zE} {a0 a1 a2 : Value} {ls sk : List Value} {h : zH} : zrun zpp E 176 (14, ls, a2 :: a1 :: a0 :: sk, h) = zcl1 E 176 17 149 ls sk [a0, a1, a2] h := zg_inv (as := [a0, a1, a2]) rfl rfl
theorem zi176_17 {E : zE} {x : Int32} {ls sk : List Value} {h : zH} : zrun zpp E 176 (17, ls, [.int x], h) = if x = 0 then some (some (.int 0), h) else if x = 1 then some (some (.int 1), h) else none := zrun_at rfl
-- 177 NineDownModel.weightOf
theorem zi177_0 {E : zE} {x : Nat} {ls sk : List Value} {h : zH} : zrun zpp E 177 (0, .ref x :: ls, sk, h) = zrun zpp E 177 (1, .ref x :: ls, .ref x :: sk, h) := zrun_at rfl
theorem zi177_0n {E : zE} {ls sk : List Value} {h : zH} : zrun zpp E 177 (0, .null :: ls, sk, h) = zrun zpp E 177 (1, .null :: ls, .null :: sk, h) := zrun_at rfl
theorem zi177_1 {E : zE} {x : Nat} {ls sk : List Value} {h : zH} : zrun zpp E 177 (1, ls, .ref x :: sk, h) = (zfld [11] h x 5).bind (fun v => zrun zpp E 177 (4, ls, v :: sk, h)) := zg_getf rfl
theorem zi177_4 {E : zE} {ls sk : List Value} {h : zH} : zrun zpp E 177 (4, ls, sk, h) = zrun zpp E 177 (6, ls, .int 9 :: sk, h) := zg_bipush rfl ci_9
theorem zi177_6 {E : zE} {ls sk : List Value} {h : zH} : zrun zpp E 177 (6, ls, sk, h) = zrun zpp E 177 (7, ls, .int 2 :: sk, h) := zg_iconst rfl ci_2
theorem zi177_7 {E : zE} {v0 : Value} {x : Int32} {ls sk : List Value} {h : zH} : zrun zpp E 177 (7, v0 :: .int x :: ls, sk, h) = zrun zpp E 177 (8, v0 :: .int x :: ls, .int x :: sk, h) := zrun_at rfl
theorem zi177_8 {E : zE} {x y : Int32} {ls sk : List Value} {h : zH} : zrun zpp E 177 (8, ls, .int y :: .int x :: sk, h) = zrun zpp E 177 (9, ls, .int (x * y) :: sk, h) := zrun_at rfl
theorem zi177_9 {E : zE} {x y : Int32} {ls sk : List Value} {h : zH} : zrun zpp E 177 (9, ls, .int y :: .int x :: sk, h) = zrun zpp E 177 (10, ls, .int (x + y) :: sk, h) := zrun_at rfl
theorem zi177_10 {E : zE} {x : Nat} {i : Int32} {ls sk : List Value} {h : zH} : zrun zpp E 177 (10, ls, .int i :: .ref x :: sk, h) = (zarr 0 h x i).bind (fun v => zrun zpp E 177 (11, ls, .int v :: sk, h)) := zg_iald rfl
theorem zi177_11 {E : zE} {x : Int32} {ls sk : List Value} {h : zH} : zrun zpp E 177 (11, ls, [.int x], h) = some (some (.int x), h) := zrun_at rfl
-- 178 NineDownModel.gapOf
theorem zi178_0 {E : zE} {x : Nat} {ls sk : List Value} {h : zH} : zrun zpp E 178 (0, .ref x :: ls, sk, h) = zrun zpp E 178 (1, .ref x :: ls, .ref x :: sk, h) := zrun_at rfl
theorem zi178_0n {E : zE} {ls sk : List Value} {h : zH} : zrun zpp E 178 (0, .null :: ls, sk, h) = zrun zpp E 178 (1, .null :: ls, .null :: sk, h) := zrun_at rfl
theorem zi178_1 {E : zE} {x : Nat} {ls sk : List Value} {h : zH} : zrun zpp E 178 (1, ls, .ref x :: sk, h) = (zfld [11] h x 5).bind (fun v => zrun zpp E 178 (4, ls, v :: sk, h)) := zg_getf rfl
theorem zi178_4 {E : zE} {ls sk : List Value} {h : zH} : zrun zpp E 178 (4, ls, sk, h) = zrun zpp E 178 (6, ls, .int 9 :: sk, h) := zg_bipush rfl ci_9
theorem zi178_6 {E : zE} {ls sk : List Value} {h : zH} : zrun zpp E 178 (6, ls, sk, h) = zrun zpp E 178 (7, ls, .int 2 :: sk, h) := zg_iconst rfl ci_2
theorem zi178_7 {E : zE} {v0 : Value} {x : Int32} {ls sk : List Value} {h : zH} : zrun zpp E 178 (7, v0 :: .int x :: ls, sk, h) = zrun zpp E 178 (8, v0 :: .int x :: ls, .int x :: sk, h) := zrun_at rfl
theorem zi178_8 {E : zE} {x y : Int32} {ls sk : List Value} {h : zH} : zrun zpp E 178 (8, ls, .int y :: .int x :: sk, h) = zrun zpp E 178 (9, ls, .int (x * y) :: sk, h) := zrun_at rfl
theorem zi178_9 {E : zE} {x y : Int32} {ls sk : List Value} {h : zH} : zrun zpp E 178 (9, ls, .int y :: .int x :: sk, h) = zrun zpp E 178 (10, ls, .int (x + y) :: sk, h) := zrun_at rfl
theorem zi178_10 {E : zE} {ls sk : List Value} {h : zH} : zrun zpp E 178 (10, ls, sk, h) = zrun zpp E 178 (11, ls, .int 1 :: sk, h) := zg_iconst rfl ci_1
theorem zi178_11 {E : zE} {x y : Int32} {ls sk : List Value} {h : zH} : zrun zpp E 178 (11, ls, .int y :: .int x :: sk, h) = zrun zpp E 178 (12, ls, .int (x + y) :: sk, h) := zrun_at rfl
theorem zi178_12 {E : zE} {x : Nat} {i : Int32} {ls sk : List Value} {h : zH} : zrun zpp E 178 (12, ls, .int i :: .ref x :: sk, h) = (zarr 0 h x i).bind (fun v => zrun zpp E 178 (13, ls, .int v :: sk, h)) := zg_iald rfl
theorem zi178_13 {E : zE} {x : Int32} {ls sk : List Value} {h : zH} : zrun zpp E 178 (13, ls, [.int x], h) = some (some (.int x), h) := zrun_at rfl
-- 179 NineDownModel.kindOf
theorem zi179_0 {E : zE} {x : Nat} {ls sk : List Value} {h : zH} : zrun zpp E 179 (0, .ref x :: ls, sk, h) = zrun zpp E 179 (1, .ref x :: ls, .ref x :: sk, h) := zrun_at rfl
theorem zi179_0n {E : zE} {ls sk : List Value} {h : zH} : zrun zpp E 179 (0, .null :: ls, sk, h) = zrun zpp E 179 (1, .null :: ls, .null :: sk, h) := zrun_at rfl
theorem zi179_1 {E : zE} {x : Nat} {ls sk : List Value} {h : zH} : zrun zpp E 179 (1, ls, .ref x :: sk, h) = (zfld [11] h x 5).bind (fun v => zrun zpp E 179 (4, ls, v :: sk, h)) := zg_getf rfl
theorem zi179_4 {E : zE} {ls sk : List Value} {h : zH} : zrun zpp E 179 (4, ls, sk, h) = zrun zpp E 179 (6, ls, .int 65 :: sk, h) := zg_bipush rfl ci_65
theorem zi179_6 {E : zE} {ls sk : List Value} {h : zH} : zrun zpp E 179 (6, ls, sk, h) = zrun zpp E 179 (7, ls, .int 2 :: sk, h) := zg_iconst rfl ci_2
theorem zi179_7 {E : zE} {v0 : Value} {x : Int32} {ls sk : List Value} {h : zH} : zrun zpp E 179 (7, v0 :: .int x :: ls, sk, h) = zrun zpp E 179 (8, v0 :: .int x :: ls, .int x :: sk, h) := zrun_at rfl
theorem zi179_8 {E : zE} {x y : Int32} {ls sk : List Value} {h : zH} : zrun zpp E 179 (8, ls, .int y :: .int x :: sk, h) = zrun zpp E 179 (9, ls, .int (x * y) :: sk, h) := zrun_at rfl
theorem zi179_9 {E : zE} {x y : Int32} {ls sk : List Value} {h : zH} : zrun zpp E 179 (9, ls, .int y :: .int x :: sk, h) = zrun zpp E 179 (10, ls, .int (x + y) :: sk, h) := zrun_at rfl
theorem zi179_10 {E : zE} {x : Nat} {i : Int32} {ls sk : List Value} {h : zH} : zrun zpp E 179 (10, ls, .int i :: .ref x :: sk, h) = (zarr 0 h x i).bind (fun v => zrun zpp E 179 (11, ls, .int v :: sk, h)) := zg_iald rfl
theorem zi179_11 {E : zE} {x : Int32} {ls sk : List Value} {h : zH} : zrun zpp E 179 (11, ls, [.int x], h) = some (some (.int x), h) := zrun_at rfl
-- 180 NineDownModel.forceOf
theorem zi180_0 {E : zE} {x : Nat} {ls sk : List Value} {h : zH} : zrun zpp E 180 (0, .ref x :: ls, sk, h) = zrun zpp E 180 (1, .ref x :: ls, .ref x :: sk, h) := zrun_at rfl
theorem zi180_0n {E : zE} {ls sk : List Value} {h : zH} : zrun zpp E 180 (0, .null :: ls, sk, h) = zrun zpp E 180 (1, .null :: ls, .null :: sk, h) := zrun_at rfl
theorem zi180_1 {E : zE} {x : Nat} {ls sk : List Value} {h : zH} : zrun zpp E 180 (1, ls, .ref x :: sk, h) = (zfld [11] h x 5).bind (fun v => zrun zpp E 180 (4, ls, v :: sk, h)) := zg_getf rfl
theorem zi180_4 {E : zE} {ls sk : List Value} {h : zH} : zrun zpp E 180 (4, ls, sk, h) = zrun zpp E 180 (6, ls, .int 65 :: sk, h) := zg_bipush rfl ci_65
theorem zi180_6 {E : zE} {ls sk : List Value} {h : zH} : zrun zpp E 180 (6, ls, sk, h) = zrun zpp E 180 (7, ls, .int 2 :: sk, h) := zg_iconst rfl ci_2
theorem zi180_7 {E : zE} {v0 : Value} {x : Int32} {ls sk : List Value} {h : zH} : zrun zpp E 180 (7, v0 :: .int x :: ls, sk, h) = zrun zpp E 180 (8, v0 :: .int x :: ls, .int x :: sk, h) := zrun_at rfl
theorem zi180_8 {E : zE} {x y : Int32} {ls sk : List Value} {h : zH} : zrun zpp E 180 (8, ls, .int y :: .int x :: sk, h) = zrun zpp E 180 (9, ls, .int (x * y) :: sk, h) := zrun_at rfl
theorem zi180_9 {E : zE} {x y : Int32} {ls sk : List Value} {h : zH} : zrun zpp E 180 (9, ls, .int y :: .int x :: sk, h) = zrun zpp E 180 (10, ls, .int (x + y) :: sk, h) := zrun_at rfl
theorem zi180_10 {E : zE} {ls sk : List Value} {h : zH} : zrun zpp E 180 (10, ls, sk, h) = zrun zpp E 180 (11, ls, .int 1 :: sk, h) := zg_iconst rfl ci_1
theorem zi180_11 {E : zE} {x y : Int32} {ls sk : List Value} {h : zH} : zrun zpp E 180 (11, ls, .int y :: .int x :: sk, h) = zrun zpp E 180 (12, ls, .int (x + y) :: sk, h) := zrun_at rfl
theorem zi180_12 {E : zE} {x : Nat} {i : Int32} {ls sk : List Value} {h : zH} : zrun zpp E 180 (12, ls, .int i :: .ref x :: sk, h) = (zarr 0 h x i).bind (fun v => zrun zpp E 180 (13, ls, .int v :: sk, h)) := zg_iald rfl
theorem zi180_13 {E : zE} {x : Int32} {ls sk : List Value} {h : zH} : zrun zpp E 180 (13, ls, [.int x], h) = some (some (.int x), h) := zrun_at rfl
-- 181 NineDownModel.has
theorem zi181_0 {E : zE} {x : Int32} {ls sk : List Value} {h : zH} : zrun zpp E 181 (0, .int x :: ls, sk, h) = zrun zpp E 181 (1, .int x :: ls, .int x :: sk, h) := zrun_at rfl
theorem zi181_1 {E : zE} {v0 : Value} {x : Int32} {ls sk : List Value} {h : zH} : zrun zpp E 181 (1, v0 :: .int x :: ls, sk, h) = zrun zpp E 181 (2, v0 :: .int x :: ls, .int x :: sk, h) := zrun_at rfl
theorem zi181_2 {E : zE} {x y : Int32} {ls sk : List Value} {h : zH} : zrun zpp E 181 (2, ls, .int y :: .int x :: sk, h) = zrun zpp E 181 (3, ls, .int (x >>> (y &&& 31)) :: sk, h) := zrun_at rfl
theorem zi181_3 {E : zE} {ls sk : List Value} {h : zH} : zrun zpp E 181 (3, ls, sk, h) = zrun zpp E 181 (4, ls, .int 1 :: sk, h) := zg_iconst rfl ci_1
theorem zi181_4 {E : zE} {x y : Int32} {ls sk : List Value} {h : zH} : zrun zpp E 181 (4, ls, .int y :: .int x :: sk, h) = zrun zpp E 181 (5, ls, .int (x &&& y) :: sk, h) := zrun_at rfl
theorem zi181_5 {E : zE} {ls sk : List Value} {h : zH} : zrun zpp E 181 (5, ls, sk, h) = zrun zpp E 181 (6, ls, .int 1 :: sk, h) := zg_iconst rfl ci_1
theorem zi181_6 {E : zE} {x y : Int32} {ls sk : List Value} {h : zH} : zrun zpp E 181 (6, ls, .int y :: .int x :: sk, h) = if x = y then zrun zpp E 181 (9, ls, sk, h) else zrun zpp E 181 (13, ls, sk, h) := zrun_at rfl
theorem zi181_9 {E : zE} {ls sk : List Value} {h : zH} : zrun zpp E 181 (9, ls, sk, h) = zrun zpp E 181 (10, ls, .int 1 :: sk, h) := zg_iconst rfl ci_1
theorem zi181_10 {E : zE} {ls sk : List Value} {h : zH} : zrun zpp E 181 (10, ls, sk, h) = zrun zpp E 181 (14, ls, sk, h) := zrun_at rfl
theorem zi181_13 {E : zE} {ls sk : List Value} {h : zH} : zrun zpp E 181 (13, ls, sk, h) = zrun zpp E 181 (14, ls, .int 0 :: sk, h) := zg_iconst rfl ci_0
theorem zi181_14 {E : zE} {x : Int32} {ls sk : List Value} {h : zH} : zrun zpp E 181 (14, ls, [.int x], h) = if x = 0 then some (some (.int 0), h) else if x = 1 then some (some (.int 1), h) else none := zrun_at rfl
-- 182 NineDownModel.bits
theorem zi182_0 {E : zE} {ls sk : List Value} {h : zH} : zrun zpp E 182 (0, ls, sk, h) = zrun zpp E 182 (1, ls, .int 0 :: sk, h) := zg_iconst rfl ci_0
theorem zi182_1 {E : zE} {x : Int32} {ls sk : List Value} {h : zH} : zrun zpp E 182 (1, ls, .int x :: sk, h) = if zfree ls 1 = true then zrun zpp E 182 (2, ls.set 1 (.int x), sk, h) else none := zg_ist rfl (fun _ _ _ => rfl)
theorem zi182_2 {E : zE} {ls sk : List Value} {h : zH} : zrun zpp E 182 (2, ls, sk, h) = zrun zpp E 182 (3, ls, .int 0 :: sk, h) := zg_iconst rfl ci_0
theorem zi182_3 {E : zE} {x : Int32} {ls sk : List Value} {h : zH} : zrun zpp E 182 (3, ls, .int x :: sk, h) = if zfree ls 2 = true then zrun zpp E 182 (4, ls.set 2 (.int x), sk, h) else none := zg_ist rfl (fun _ _ _ => rfl)
theorem zi182_4 {E : zE} {v0 v1 : Value} {x : Int32} {ls sk : List Value} {h : zH} : zrun zpp E 182 (4, v0 :: v1 :: .int x :: ls, sk, h) = zrun zpp E 182 (5, v0 :: v1 :: .int x :: ls, .int x :: sk, h) := zrun_at rfl
theorem zi182_5 {E : zE} {ls sk : List Value} {h : zH} : zrun zpp E 182 (5, ls, sk, h) = zrun zpp E 182 (7, ls, .int 8 :: sk, h) := zg_bipush rfl ci_8
theorem zi182_7 {E : zE} {x y : Int32} {ls sk : List Value} {h : zH} : zrun zpp E 182 (7, ls, .int y :: .int x :: sk, h) = if y ≤ x then zrun zpp E 182 (24, ls, sk, h) else zrun zpp E 182 (10, ls, sk, h) := zrun_at rfl
theorem zi182_10 {E : zE} {v0 : Value} {x : Int32} {ls sk : List Value} {h : zH} : zrun zpp E 182 (10, v0 :: .int x :: ls, sk, h) = zrun zpp E 182 (11, v0 :: .int x :: ls, .int x :: sk, h) := zrun_at rfl
theorem zi182_11 {E : zE} {x : Int32} {ls sk : List Value} {h : zH} : zrun zpp E 182 (11, .int x :: ls, sk, h) = zrun zpp E 182 (12, .int x :: ls, .int x :: sk, h) := zrun_at rfl
theorem zi182_12 {E : zE} {v0 v1 : Value} {x : Int32} {ls sk : List Value} {h : zH} : zrun zpp E 182 (12, v0 :: v1 :: .int x :: ls, sk, h) = zrun zpp E 182 (13, v0 :: v1 :: .int x :: ls, .int x :: sk, h) := zrun_at rfl
theorem zi182_13 {E : zE} {x y : Int32} {ls sk : List Value} {h : zH} : zrun zpp E 182 (13, ls, .int y :: .int x :: sk, h) = zrun zpp E 182 (14, ls, .int (x >>> (y &&& 31)) :: sk, h) := zrun_at rfl
theorem zi182_14 {E : zE} {ls sk : List Value} {h : zH} : zrun zpp E 182 (14, ls, sk, h) = zrun zpp E 182 (15, ls, .int 1 :: sk, h) := zg_iconst rfl ci_1
theorem zi182_15 {E : zE} {x y : Int32} {ls sk : List Value} {h : zH} : zrun zpp E 182 (15, ls, .int y :: .int x :: sk, h) = zrun zpp E 182 (16, ls, .int (x &&& y) :: sk, h) := zrun_at rfl
theorem zi182_16 {E : zE} {x y : Int32} {ls sk : List Value} {h : zH} : zrun zpp E 182 (16, ls, .int y :: .int x :: sk, h) = zrun zpp E 182 (17, ls, .int (x + y) :: sk, h) := zrun_at rfl
theorem zi182_17 {E : zE} {x : Int32} {ls sk : List Value} {h : zH} : zrun zpp E 182 (17, ls, .int x :: sk, h) = if zfree ls 1 = true then zrun zpp E 182 (18, ls.set 1 (.int x), sk, h) else none := zg_ist rfl (fun _ _ _ => rfl)
theorem zi182_18 {E : zE} {v0 v1 : Value} {x : Int32} {ls sk : List Value} {h : zH} : zrun zpp E 182 (18, v0 :: v1 :: .int x :: ls, sk, h) = if zfree (v0 :: v1 :: .int x :: ls) 2 = true then zrun zpp E 182 (21, v0 :: v1 :: .int (x + 1) :: ls, sk, h) else none := by rw [← ci_1]; exact zrun_at rfl
theorem zi182_21 {E : zE} {ls sk : List Value} {h : zH} : zrun zpp E 182 (21, ls, sk, h) = zrun zpp E 182 (4, ls, sk, h) := zrun_at rfl
theorem zi182_24 {E : zE} {v0 : Value} {x : Int32} {ls sk : List Value} {h : zH} : zrun zpp E 182 (24, v0 :: .int x :: ls, sk, h) = zrun zpp E 182 (25, v0 :: .int x :: ls, .int x :: sk, h) := zrun_at rfl
theorem zi182_25 {E : zE} {x : Int32} {ls sk : List Value} {h : zH} : zrun zpp E 182 (25, ls, [.int x], h) = some (some (.int x), h) := zrun_at rfl
-- 183 NineDownModel.above
theorem zi183_0 {E : zE} {ls sk : List Value} {h : zH} : zrun zpp E 183 (0, ls, sk, h) = zrun zpp E 183 (1, ls, .int 0 :: sk, h) := zg_iconst rfl ci_0
theorem zi183_1 {E : zE} {x : Int32} {ls sk : List Value} {h : zH} : zrun zpp E 183 (1, ls, .int x :: sk, h) = if zfree ls 2 = true then zrun zpp E 183 (2, ls.set 2 (.int x), sk, h) else none := zg_ist rfl (fun _ _ _ => rfl)
theorem zi183_2 {E : zE} {ls sk : List Value} {h : zH} : zrun zpp E 183 (2, ls, sk, h) = zrun zpp E 183 (3, ls, .int 0 :: sk, h) := zg_iconst rfl ci_0
theorem zi183_3 {E : zE} {x : Int32} {ls sk : List Value} {h : zH} : zrun zpp E 183 (3, ls, .int x :: sk, h) = if zfree ls 3 = true then zrun zpp E 183 (4, ls.set 3 (.int x), sk, h) else none := zg_ist rfl (fun _ _ _ => rfl)
theorem zi183_4 {E : zE} {v0 v1 v2 : Value} {x : Int32} {ls sk : List Value} {h : zH} : zrun zpp E 183 (4, v0 :: v1 :: v2 :: .int x :: ls, sk, h) = zrun zpp E 183 (5, v0 :: v1 :: v2 :: .int x :: ls, .int x :: sk, h) := zrun_at rfl
theorem zi183_5 {E : zE} {x : Nat} {ls sk : List Value} {h : zH} : zrun zpp E 183 (5, .ref x :: ls, sk, h) = zrun zpp E 183 (6, .ref x :: ls, .ref x :: sk, h) := zrun_at rfl
theorem zi183_5n {E : zE} {ls sk : List Value} {h : zH} : zrun zpp E 183 (5, .null :: ls, sk, h) = zrun zpp E 183 (6, .null :: ls, .null :: sk, h) := zrun_at rfl
theorem zi183_6 {E : zE} {x : Nat} {ls sk : List Value} {h : zH} : zrun zpp E 183 (6, ls, .ref x :: sk, h) = (zfld [11] h x 5).bind (fun v => zrun zpp E 183 (9, ls, v :: sk, h)) := zg_getf rfl
theorem zi183_9 {E : zE} {ls sk : List Value} {h : zH} : zrun zpp E 183 (9, ls, sk, h) = zrun zpp E 183 (10, ls, .int 4 :: sk, h) := zg_iconst rfl ci_4
theorem zi183_10 {E : zE} {x : Nat} {i : Int32} {ls sk : List Value} {h : zH} : zrun zpp E 183 (10, ls, .int i :: .ref x :: sk, h) = (zarr 0 h x i).bind (fun v => zrun zpp E 183 (11, ls, .int v :: sk, h)) := zg_iald rfl
theorem zi183_11 {E : zE} {x y : Int32} {ls sk : List Value} {h : zH} : zrun zpp E 183 (11, ls, .int y :: .int x :: sk, h) = if y ≤ x then zrun zpp E 183 (69, ls, sk, h) else zrun zpp E 183 (14, ls, sk, h) := zrun_at rfl
theorem zi183_14 {E : zE} {ls sk : List Value} {h : zH} : zrun zpp E 183 (14, ls, sk, h) = zrun zpp E 183 (16, ls, .int 25 :: sk, h) := zg_bipush rfl ci_25
theorem zi183_16 {E : zE} {ls sk : List Value} {h : zH} : zrun zpp E 183 (16, ls, sk, h) = zrun zpp E 183 (17, ls, .int 4 :: sk, h) := zg_iconst rfl ci_4
theorem zi183_17 {E : zE} {v0 v1 v2 : Value} {x : Int32} {ls sk : List Value} {h : zH} : zrun zpp E 183 (17, v0 :: v1 :: v2 :: .int x :: ls, sk, h) = zrun zpp E 183 (18, v0 :: v1 :: v2 :: .int x :: ls, .int x :: sk, h) := zrun_at rfl
theorem zi183_18 {E : zE} {x y : Int32} {ls sk : List Value} {h : zH} : zrun zpp E 183 (18, ls, .int y :: .int x :: sk, h) = zrun zpp E 183 (19, ls, .int (x * y) :: sk, h) := zrun_at rfl
theorem zi183_19 {E : zE} {x y : Int32} {ls sk : List Value} {h : zH} : zrun zpp E 183 (19, ls, .int y :: .int x :: sk, h) = zrun zpp E 183 (20, ls, .int (x + y) :: sk, h) := zrun_at rfl
theorem zi183_20 {E : zE} {x : Int32} {ls sk : List Value} {h : zH} : zrun zpp E 183 (20, ls, .int x :: sk, h) = if zfree ls 4 = true then zrun zpp E 183 (22, ls.set 4 (.int x), sk, h) else none := zg_ist rfl (fun _ _ _ => rfl)
theorem zi183_22 {E : zE} {v0 v1 : Value} {x : Int32} {ls sk : List Value} {h : zH} : zrun zpp E 183 (22, v0 :: v1 :: .int x :: ls, sk, h) = zrun zpp E 183 (23, v0 :: v1 :: .int x :: ls, .int x :: sk, h) := zrun_at rfl
theorem zi183_23 {E : zE} {x : Nat} {ls sk : List Value} {h : zH} : zrun zpp E 183 (23, .ref x :: ls, sk, h) = zrun zpp E 183 (24, .ref x :: ls, .ref x :: sk, h) := zrun_at rfl
theorem zi183_23n {E : zE} {ls sk : List Value} {h : zH} : zrun zpp E 183 (23, .null :: ls, sk, h) = zrun zpp E 183 (24, .null :: ls, .null :: sk, h) := zrun_at rfl
theorem zi183_24 {E : zE} {x : Nat} {ls sk : List Value} {h : zH} : zrun zpp E 183 (24, ls, .ref x :: sk, h) = (zfld [11] h x 5).bind (fun v => zrun zpp E 183 (27, ls, v :: sk, h)) := zg_getf rfl
theorem zi183_27 {E : zE} {v0 v1 v2 v3 : Value} {x : Int32} {ls sk : List Value} {h : zH} : zrun zpp E 183 (27, v0 :: v1 :: v2 :: v3 :: .int x :: ls, sk, h) = zrun zpp E 183 (29, v0 :: v1 :: v2 :: v3 :: .int x :: ls, .int x :: sk, h) := zrun_at rfl
theorem zi183_29 {E : zE} {x : Nat} {i : Int32} {ls sk : List Value} {h : zH} : zrun zpp E 183 (29, ls, .int i :: .ref x :: sk, h) = (zarr 0 h x i).bind (fun v => zrun zpp E 183 (30, ls, .int v :: sk, h)) := zg_iald rfl
theorem zi183_30 {E : zE} {x : Int32} {ls sk : List Value} {h : zH} : zrun zpp E 183 (30, ls, .int x :: sk, h) = if x = 0 then zrun zpp E 183 (33, ls, sk, h) else zrun zpp E 183 (60, ls, sk, h) := zrun_at rfl
theorem zi183_33 {E : zE} {x : Nat} {ls sk : List Value} {h : zH} : zrun zpp E 183 (33, .ref x :: ls, sk, h) = zrun zpp E 183 (34, .ref x :: ls, .ref x :: sk, h) := zrun_at rfl
theorem zi183_33n {E : zE} {ls sk : List Value} {h : zH} : zrun zpp E 183 (33, .null :: ls, sk, h) = zrun zpp E 183 (34, .null :: ls, .null :: sk, h) := zrun_at rfl
theorem zi183_34 {E : zE} {x : Nat} {ls sk : List Value} {h : zH} : zrun zpp E 183 (34, ls, .ref x :: sk, h) = (zfld [11] h x 5).bind (fun v => zrun zpp E 183 (37, ls, v :: sk, h)) := zg_getf rfl
theorem zi183_37 {E : zE} {v0 v1 v2 v3 : Value} {x : Int32} {ls sk : List Value} {h : zH} : zrun zpp E 183 (37, v0 :: v1 :: v2 :: v3 :: .int x :: ls, sk, h) = zrun zpp E 183 (39, v0 :: v1 :: v2 :: v3 :: .int x :: ls, .int x :: sk, h) := zrun_at rfl
theorem zi183_39 {E : zE} {ls sk : List Value} {h : zH} : zrun zpp E 183 (39, ls, sk, h) = zrun zpp E 183 (40, ls, .int 2 :: sk, h) := zg_iconst rfl ci_2
theorem zi183_40 {E : zE} {x y : Int32} {ls sk : List Value} {h : zH} : zrun zpp E 183 (40, ls, .int y :: .int x :: sk, h) = zrun zpp E 183 (41, ls, .int (x + y) :: sk, h) := zrun_at rfl
theorem zi183_41 {E : zE} {x : Nat} {i : Int32} {ls sk : List Value} {h : zH} : zrun zpp E 183 (41, ls, .int i :: .ref x :: sk, h) = (zarr 0 h x i).bind (fun v => zrun zpp E 183 (42, ls, .int v :: sk, h)) := zg_iald rfl
theorem zi183_42 {E : zE} {v0 : Value} {x : Int32} {ls sk : List Value} {h : zH} : zrun zpp E 183 (42, v0 :: .int x :: ls, sk, h) = zrun zpp E 183 (43, v0 :: .int x :: ls, .int x :: sk, h) := zrun_at rfl
theorem zi183_43 {E : zE} {x y : Int32} {ls sk : List Value} {h : zH} : zrun zpp E 183 (43, ls, .int y :: .int x :: sk, h) = if x = y then zrun zpp E 183 (46, ls, sk, h) else zrun zpp E 183 (60, ls, sk, h) := zrun_at rfl
theorem zi183_46 {E : zE} {ls sk : List Value} {h : zH} : zrun zpp E 183 (46, ls, sk, h) = zrun zpp E 183 (47, ls, .int 1 :: sk, h) := zg_iconst rfl ci_1
theorem zi183_47 {E : zE} {x : Nat} {ls sk : List Value} {h : zH} : zrun zpp E 183 (47, .ref x :: ls, sk, h) = zrun zpp E 183 (48, .ref x :: ls, .ref x :: sk, h) := zrun_at rfl
theorem zi183_47n {E : zE} {ls sk : List Value} {h : zH} : zrun zpp E 183 (47, .null :: ls, sk, h) = zrun zpp E 183 (48, .null :: ls, .null :: sk, h) := zrun_at rfl
theorem zi183_48 {E : zE} {x : Nat} {ls sk : List Value} {h : zH} : zrun zpp E 183 (48, ls, .ref x :: sk, h) = (zfld [11] h x 5).bind (fun v => zrun zpp E 183 (51, ls, v :: sk, h)) := zg_getf rfl
theorem zi183_51 {E : zE} {v0 v1 v2 v3 : Value} {x : Int32} {ls sk : List Value} {h : zH} : zrun zpp E 183 (51, v0 :: v1 :: v2 :: v3 :: .int x :: ls, sk, h) = zrun zpp E 183 (53, v0 :: v1 :: v2 :: v3 :: .int x :: ls, .int x :: sk, h) := zrun_at rfl
theorem zi183_53 {E : zE} {ls sk : List Value} {h : zH} : zrun zpp E 183 (53, ls, sk, h) = zrun zpp E 183 (54, ls, .int 1 :: sk, h) := zg_iconst rfl ci_1
theorem zi183_54 {E : zE} {x y : Int32} {ls sk : List Value} {h : zH} : zrun zpp E 183 (54, ls, .int y :: .int x :: sk, h) = zrun zpp E 183 (55, ls, .int (x + y) :: sk, h) := zrun_at rfl
theorem zi183_55 {E : zE} {x : Nat} {i : Int32} {ls sk : List Value} {h : zH} : zrun zpp E 183 (55, ls, .int i :: .ref x :: sk, h) = (zarr 0 h x i).bind (fun v => zrun zpp E 183 (56, ls, .int v :: sk, h)) := zg_iald rfl
theorem zi183_56 {E : zE} {x y : Int32} {ls sk : List Value} {h : zH} : zrun zpp E 183 (56, ls, .int y :: .int x :: sk, h) = zrun zpp E 183 (57, ls, .int (x <<< (y &&& 31)) :: sk, h) := zrun_at rfl
theorem zi183_57 {E : zE} {ls sk : List Value} {h : zH} : zrun zpp E 183 (57, ls, sk, h) = zrun zpp E 183 (61, ls, sk, h) := zrun_at rfl
theorem zi183_60 {E : zE} {ls sk : List Value} {h : zH} : zrun zpp E 183 (60, ls, sk, h) = zrun zpp E 183 (61, ls, .int 0 :: sk, h) := zg_iconst rfl ci_0
theorem zi183_61 {E : zE} {x y : Int32} {ls sk : List Value} {h : zH} : zrun zpp E 183 (61, ls, .int y :: .int x :: sk, h) = zrun zpp E 183 (62, ls, .int (x ||| y) :: sk, h) := zrun_at rfl
theorem zi183_62 {E : zE} {x : Int32} {ls sk : List Value} {h : zH} : zrun zpp E 183 (62, ls, .int x :: sk, h) = if zfree ls 2 = true then zrun zpp E 183 (63, ls.set 2 (.int x), sk, h) else none := zg_ist rfl (fun _ _ _ => rfl)
theorem zi183_63 {E : zE} {v0 v1 v2 : Value} {x : Int32} {ls sk : List Value} {h : zH} : zrun zpp E 183 (63, v0 :: v1 :: v2 :: .int x :: ls, sk, h) = if zfree (v0 :: v1 :: v2 :: .int x :: ls) 3 = true then zrun zpp E 183 (66, v0 :: v1 :: v2 :: .int (x + 1) :: ls, sk, h) else none := by rw [← ci_1]; exact zrun_at rfl
theorem zi183_66 {E : zE} {ls sk : List Value} {h : zH} : zrun zpp E 183 (66, ls, sk, h) = zrun zpp E 183 (4, ls, sk, h) := zrun_at rfl
theorem zi183_69 {E : zE} {v0 v1 : Value} {x : Int32} {ls sk : List Value} {h : zH} : zrun zpp E 183 (69, v0 :: v1 :: .int x :: ls, sk, h) = zrun zpp E 183 (70, v0 :: v1 :: .int x :: ls, .int x :: sk, h) := zrun_at rfl
theorem zi183_70 {E : zE} {x : Int32} {ls sk : List Value} {h : zH} : zrun zpp E 183 (70, ls, [.int x], h) = some (some (.int x), h) := zrun_at rfl
-- 184 NineDownModel.isFree
theorem zi184_0 {E : zE} {v0 : Value} {x : Int32} {ls sk : List Value} {h : zH} : zrun zpp E 184 (0, v0 :: .int x :: ls, sk, h) = zrun zpp E 184 (1, v0 :: .int x :: ls, .int x :: sk, h) := zrun_at rfl
theorem zi184_1 {E : zE} {v0 v1 : Value} {x : Int32} {ls sk : List Value} {h : zH} : zrun zpp E 184 (1, v0 :: v1 :: .int x :: ls, sk, h) = zrun zpp E 184 (2, v0 :: v1 :: .int x :: ls, .int x :: sk, h) := zrun_at rfl
theorem zi184_2 {E : zE} {a0 a1 : Value} {ls sk : List Value} {h : zH} : zrun zpp E 184 (2, ls, a1 :: a0 :: sk, h) = zcl1 E 184 5 181 ls sk [a0, a1] h := zg_inv (as := [a0, a1]) rfl rfl
theorem zi184_5 {E : zE} {x : Int32} {ls sk : List Value} {h : zH} : zrun zpp E 184 (5, ls, .int x :: sk, h) = if x = 0 then zrun zpp E 184 (22, ls, sk, h) else zrun zpp E 184 (8, ls, sk, h) := zrun_at rfl
theorem zi184_8 {E : zE} {x : Nat} {ls sk : List Value} {h : zH} : zrun zpp E 184 (8, .ref x :: ls, sk, h) = zrun zpp E 184 (9, .ref x :: ls, .ref x :: sk, h) := zrun_at rfl
theorem zi184_8n {E : zE} {ls sk : List Value} {h : zH} : zrun zpp E 184 (8, .null :: ls, sk, h) = zrun zpp E 184 (9, .null :: ls, .null :: sk, h) := zrun_at rfl
theorem zi184_9 {E : zE} {v0 v1 : Value} {x : Int32} {ls sk : List Value} {h : zH} : zrun zpp E 184 (9, v0 :: v1 :: .int x :: ls, sk, h) = zrun zpp E 184 (10, v0 :: v1 :: .int x :: ls, .int x :: sk, h) := zrun_at rfl
theorem zi184_10 {E : zE} {a0 : Value} {x : Nat} {ls sk : List Value} {h : zH} : zrun zpp E 184 (10, ls, a0 :: .ref x :: sk, h) = (zcls h x).bind (fun d => (zsel d [11, 183]).bind (fun M' => zcl1 E 184 13 M' ls sk [.ref x, a0] h)) := zg_vir (as := [a0]) rfl rfl
theorem zi184_13 {E : zE} {v0 : Value} {x : Int32} {ls sk : List Value} {h : zH} : zrun zpp E 184 (13, v0 :: .int x :: ls, sk, h) = zrun zpp E 184 (14, v0 :: .int x :: ls, .int x :: sk, h) := zrun_at rfl
theorem zi184_14 {E : zE} {x y : Int32} {ls sk : List Value} {h : zH} : zrun zpp E 184 (14, ls, .int y :: .int x :: sk, h) = zrun zpp E 184 (15, ls, .int (x &&& y) :: sk, h) := zrun_at rfl
theorem zi184_15 {E : zE} {x : Int32} {ls sk : List Value} {h : zH} : zrun zpp E 184 (15, ls, .int x :: sk, h) = if x = 0 then zrun zpp E 184 (18, ls, sk, h) else zrun zpp E 184 (22, ls, sk, h) := zrun_at rfl
theorem zi184_18 {E : zE} {ls sk : List Value} {h : zH} : zrun zpp E 184 (18, ls, sk, h) = zrun zpp E 184 (19, ls, .int 1 :: sk, h) := zg_iconst rfl ci_1
theorem zi184_19 {E : zE} {ls sk : List Value} {h : zH} : zrun zpp E 184 (19, ls, sk, h) = zrun zpp E 184 (23, ls, sk, h) := zrun_at rfl
theorem zi184_22 {E : zE} {ls sk : List Value} {h : zH} : zrun zpp E 184 (22, ls, sk, h) = zrun zpp E 184 (23, ls, .int 0 :: sk, h) := zg_iconst rfl ci_0
theorem zi184_23 {E : zE} {x : Int32} {ls sk : List Value} {h : zH} : zrun zpp E 184 (23, ls, [.int x], h) = if x = 0 then some (some (.int 0), h) else if x = 1 then some (some (.int 1), h) else none := zrun_at rfl
-- 185 NineDownModel.catches
theorem zi185_0 {E : zE} {ls sk : List Value} {h : zH} : zrun zpp E 185 (0, ls, sk, h) = zrun zpp E 185 (1, ls, .int 0 :: sk, h) := zg_iconst rfl ci_0
theorem zi185_1 {E : zE} {x : Int32} {ls sk : List Value} {h : zH} : zrun zpp E 185 (1, ls, .int x :: sk, h) = if zfree ls 3 = true then zrun zpp E 185 (2, ls.set 3 (.int x), sk, h) else none := zg_ist rfl (fun _ _ _ => rfl)
theorem zi185_2 {E : zE} {ls sk : List Value} {h : zH} : zrun zpp E 185 (2, ls, sk, h) = zrun zpp E 185 (3, ls, .int 0 :: sk, h) := zg_iconst rfl ci_0
theorem zi185_3 {E : zE} {x : Int32} {ls sk : List Value} {h : zH} : zrun zpp E 185 (3, ls, .int x :: sk, h) = if zfree ls 4 = true then zrun zpp E 185 (5, ls.set 4 (.int x), sk, h) else none := zg_ist rfl (fun _ _ _ => rfl)
theorem zi185_5 {E : zE} {v0 v1 v2 v3 : Value} {x : Int32} {ls sk : List Value} {h : zH} : zrun zpp E 185 (5, v0 :: v1 :: v2 :: v3 :: .int x :: ls, sk, h) = zrun zpp E 185 (7, v0 :: v1 :: v2 :: v3 :: .int x :: ls, .int x :: sk, h) := zrun_at rfl
theorem zi185_7 {E : zE} {x : Nat} {ls sk : List Value} {h : zH} : zrun zpp E 185 (7, .ref x :: ls, sk, h) = zrun zpp E 185 (8, .ref x :: ls, .ref x :: sk, h) := zrun_at rfl
theorem zi185_7n {E : zE} {ls sk : List Value} {h : zH} : zrun zpp E 185 (7, .null :: ls, sk, h) = zrun zpp E 185 (8, .null :: ls, .null :: sk, h) := zrun_at rfl
theorem zi185_8 {E : zE} {x : Nat} {ls sk : List Value} {h : zH} : zrun zpp E 185 (8, ls, .ref x :: sk, h) = (zfld [11] h x 5).bind (fun v => zrun zpp E 185 (11, ls, v :: sk, h)) := zg_getf rfl
theorem zi185_11 {E : zE} {ls sk : List Value} {h : zH} : zrun zpp E 185 (11, ls, sk, h) = zrun zpp E 185 (12, ls, .int 4 :: sk, h) := zg_iconst rfl ci_4
theorem zi185_12 {E : zE} {x : Nat} {i : Int32} {ls sk : List Value} {h : zH} : zrun zpp E 185 (12, ls, .int i :: .ref x :: sk, h) = (zarr 0 h x i).bind (fun v => zrun zpp E 185 (13, ls, .int v :: sk, h)) := zg_iald rfl
theorem zi185_13 {E : zE} {x y : Int32} {ls sk : List Value} {h : zH} : zrun zpp E 185 (13, ls, .int y :: .int x :: sk, h) = if y ≤ x then zrun zpp E 185 (132, ls, sk, h) else zrun zpp E 185 (16, ls, sk, h) := zrun_at rfl
theorem zi185_16 {E : zE} {ls sk : List Value} {h : zH} : zrun zpp E 185 (16, ls, sk, h) = zrun zpp E 185 (18, ls, .int 25 :: sk, h) := zg_bipush rfl ci_25
theorem zi185_18 {E : zE} {ls sk : List Value} {h : zH} : zrun zpp E 185 (18, ls, sk, h) = zrun zpp E 185 (19, ls, .int 4 :: sk, h) := zg_iconst rfl ci_4
theorem zi185_19 {E : zE} {v0 v1 v2 v3 : Value} {x : Int32} {ls sk : List Value} {h : zH} : zrun zpp E 185 (19, v0 :: v1 :: v2 :: v3 :: .int x :: ls, sk, h) = zrun zpp E 185 (21, v0 :: v1 :: v2 :: v3 :: .int x :: ls, .int x :: sk, h) := zrun_at rfl
theorem zi185_21 {E : zE} {x y : Int32} {ls sk : List Value} {h : zH} : zrun zpp E 185 (21, ls, .int y :: .int x :: sk, h) = zrun zpp E 185 (22, ls, .int (x * y) :: sk, h) := zrun_at rfl
theorem zi185_22 {E : zE} {x y : Int32} {ls sk : List Value} {h : zH} : zrun zpp E 185 (22, ls, .int y :: .int x :: sk, h) = zrun zpp E 185 (23, ls, .int (x + y) :: sk, h) := zrun_at rfl
theorem zi185_23 {E : zE} {x : Int32} {ls sk : List Value} {h : zH} : zrun zpp E 185 (23, ls, .int x :: sk, h) = if zfree ls 5 = true then zrun zpp E 185 (25, ls.set 5 (.int x), sk, h) else none := zg_ist rfl (fun _ _ _ => rfl)
theorem zi185_25 {E : zE} {x : Nat} {ls sk : List Value} {h : zH} : zrun zpp E 185 (25, .ref x :: ls, sk, h) = zrun zpp E 185 (26, .ref x :: ls, .ref x :: sk, h) := zrun_at rfl
theorem zi185_25n {E : zE} {ls sk : List Value} {h : zH} : zrun zpp E 185 (25, .null :: ls, sk, h) = zrun zpp E 185 (26, .null :: ls, .null :: sk, h) := zrun_at rfl
theorem zi185_26 {E : zE} {x : Nat} {ls sk : List Value} {h : zH} : zrun zpp E 185 (26, ls, .ref x :: sk, h) = (zfld [11] h x 5).bind (fun v => zrun zpp E 185 (29, ls, v :: sk, h)) := zg_getf rfl
theorem zi185_29 {E : zE} {v0 v1 v2 v3 v4 : Value} {x : Int32} {ls sk : List Value} {h : zH} : zrun zpp E 185 (29, v0 :: v1 :: v2 :: v3 :: v4 :: .int x :: ls, sk, h) = zrun zpp E 185 (31, v0 :: v1 :: v2 :: v3 :: v4 :: .int x :: ls, .int x :: sk, h) := zrun_at rfl
theorem zi185_31 {E : zE} {x : Nat} {i : Int32} {ls sk : List Value} {h : zH} : zrun zpp E 185 (31, ls, .int i :: .ref x :: sk, h) = (zarr 0 h x i).bind (fun v => zrun zpp E 185 (32, ls, .int v :: sk, h)) := zg_iald rfl
theorem zi185_32 {E : zE} {ls sk : List Value} {h : zH} : zrun zpp E 185 (32, ls, sk, h) = zrun zpp E 185 (33, ls, .int 1 :: sk, h) := zg_iconst rfl ci_1
theorem zi185_33 {E : zE} {x y : Int32} {ls sk : List Value} {h : zH} : zrun zpp E 185 (33, ls, .int y :: .int x :: sk, h) = if x = y then zrun zpp E 185 (36, ls, sk, h) else zrun zpp E 185 (52, ls, sk, h) := zrun_at rfl
theorem zi185_36 {E : zE} {x : Nat} {ls sk : List Value} {h : zH} : zrun zpp E 185 (36, .ref x :: ls, sk, h) = zrun zpp E 185 (37, .ref x :: ls, .ref x :: sk, h) := zrun_at rfl
theorem zi185_36n {E : zE} {ls sk : List Value} {h : zH} : zrun zpp E 185 (36, .null :: ls, sk, h) = zrun zpp E 185 (37, .null :: ls, .null :: sk, h) := zrun_at rfl
theorem zi185_37 {E : zE} {x : Nat} {ls sk : List Value} {h : zH} : zrun zpp E 185 (37, ls, .ref x :: sk, h) = (zfld [11] h x 5).bind (fun v => zrun zpp E 185 (40, ls, v :: sk, h)) := zg_getf rfl
theorem zi185_40 {E : zE} {v0 v1 v2 v3 v4 : Value} {x : Int32} {ls sk : List Value} {h : zH} : zrun zpp E 185 (40, v0 :: v1 :: v2 :: v3 :: v4 :: .int x :: ls, sk, h) = zrun zpp E 185 (42, v0 :: v1 :: v2 :: v3 :: v4 :: .int x :: ls, .int x :: sk, h) := zrun_at rfl
theorem zi185_42 {E : zE} {ls sk : List Value} {h : zH} : zrun zpp E 185 (42, ls, sk, h) = zrun zpp E 185 (43, ls, .int 3 :: sk, h) := zg_iconst rfl ci_3
theorem zi185_43 {E : zE} {x y : Int32} {ls sk : List Value} {h : zH} : zrun zpp E 185 (43, ls, .int y :: .int x :: sk, h) = zrun zpp E 185 (44, ls, .int (x + y) :: sk, h) := zrun_at rfl
theorem zi185_44 {E : zE} {x : Nat} {i : Int32} {ls sk : List Value} {h : zH} : zrun zpp E 185 (44, ls, .int i :: .ref x :: sk, h) = (zarr 0 h x i).bind (fun v => zrun zpp E 185 (45, ls, .int v :: sk, h)) := zg_iald rfl
theorem zi185_45 {E : zE} {x : Int32} {ls sk : List Value} {h : zH} : zrun zpp E 185 (45, ls, .int x :: sk, h) = if x = 0 then zrun zpp E 185 (48, ls, sk, h) else zrun zpp E 185 (52, ls, sk, h) := zrun_at rfl
theorem zi185_48 {E : zE} {ls sk : List Value} {h : zH} : zrun zpp E 185 (48, ls, sk, h) = zrun zpp E 185 (49, ls, .int 1 :: sk, h) := zg_iconst rfl ci_1
theorem zi185_49 {E : zE} {ls sk : List Value} {h : zH} : zrun zpp E 185 (49, ls, sk, h) = zrun zpp E 185 (53, ls, sk, h) := zrun_at rfl
theorem zi185_52 {E : zE} {ls sk : List Value} {h : zH} : zrun zpp E 185 (52, ls, sk, h) = zrun zpp E 185 (53, ls, .int 0 :: sk, h) := zg_iconst rfl ci_0
theorem zi185_53 {E : zE} {x : Int32} {ls sk : List Value} {h : zH} : zrun zpp E 185 (53, ls, .int x :: sk, h) = if zfree ls 6 = true then zrun zpp E 185 (55, ls.set 6 (.int x), sk, h) else none := zg_ist rfl (fun _ _ _ => rfl)
theorem zi185_55 {E : zE} {v0 v1 v2 : Value} {x : Int32} {ls sk : List Value} {h : zH} : zrun zpp E 185 (55, v0 :: v1 :: v2 :: .int x :: ls, sk, h) = zrun zpp E 185 (56, v0 :: v1 :: v2 :: .int x :: ls, .int x :: sk, h) := zrun_at rfl
theorem zi185_56 {E : zE} {v0 v1 v2 v3 v4 v5 : Value} {x : Int32} {ls sk : List Value} {h : zH} : zrun zpp E 185 (56, v0 :: v1 :: v2 :: v3 :: v4 :: v5 :: .int x :: ls, sk, h) = zrun zpp E 185 (58, v0 :: v1 :: v2 :: v3 :: v4 :: v5 :: .int x :: ls, .int x :: sk, h) := zrun_at rfl
theorem zi185_58 {E : zE} {x : Int32} {ls sk : List Value} {h : zH} : zrun zpp E 185 (58, ls, .int x :: sk, h) = if x = 0 then zrun zpp E 185 (123, ls, sk, h) else zrun zpp E 185 (61, ls, sk, h) := zrun_at rfl
theorem zi185_61 {E : zE} {x : Nat} {ls sk : List Value} {h : zH} : zrun zpp E 185 (61, .ref x :: ls, sk, h) = zrun zpp E 185 (62, .ref x :: ls, .ref x :: sk, h) := zrun_at rfl
theorem zi185_61n {E : zE} {ls sk : List Value} {h : zH} : zrun zpp E 185 (61, .null :: ls, sk, h) = zrun zpp E 185 (62, .null :: ls, .null :: sk, h) := zrun_at rfl
theorem zi185_62 {E : zE} {x : Nat} {ls sk : List Value} {h : zH} : zrun zpp E 185 (62, ls, .ref x :: sk, h) = (zfld [11] h x 5).bind (fun v => zrun zpp E 185 (65, ls, v :: sk, h)) := zg_getf rfl
theorem zi185_65 {E : zE} {v0 v1 v2 v3 v4 : Value} {x : Int32} {ls sk : List Value} {h : zH} : zrun zpp E 185 (65, v0 :: v1 :: v2 :: v3 :: v4 :: .int x :: ls, sk, h) = zrun zpp E 185 (67, v0 :: v1 :: v2 :: v3 :: v4 :: .int x :: ls, .int x :: sk, h) := zrun_at rfl
theorem zi185_67 {E : zE} {ls sk : List Value} {h : zH} : zrun zpp E 185 (67, ls, sk, h) = zrun zpp E 185 (68, ls, .int 1 :: sk, h) := zg_iconst rfl ci_1
theorem zi185_68 {E : zE} {x y : Int32} {ls sk : List Value} {h : zH} : zrun zpp E 185 (68, ls, .int y :: .int x :: sk, h) = zrun zpp E 185 (69, ls, .int (x + y) :: sk, h) := zrun_at rfl
theorem zi185_69 {E : zE} {x : Nat} {i : Int32} {ls sk : List Value} {h : zH} : zrun zpp E 185 (69, ls, .int i :: .ref x :: sk, h) = (zarr 0 h x i).bind (fun v => zrun zpp E 185 (70, ls, .int v :: sk, h)) := zg_iald rfl
theorem zi185_70 {E : zE} {v0 v1 : Value} {x : Int32} {ls sk : List Value} {h : zH} : zrun zpp E 185 (70, v0 :: v1 :: .int x :: ls, sk, h) = zrun zpp E 185 (71, v0 :: v1 :: .int x :: ls, .int x :: sk, h) := zrun_at rfl
theorem zi185_71 {E : zE} {x y : Int32} {ls sk : List Value} {h : zH} : zrun zpp E 185 (71, ls, .int y :: .int x :: sk, h) = if x = y then zrun zpp E 185 (74, ls, sk, h) else zrun zpp E 185 (90, ls, sk, h) := zrun_at rfl
theorem zi185_74 {E : zE} {v0 : Value} {x : Int32} {ls sk : List Value} {h : zH} : zrun zpp E 185 (74, v0 :: .int x :: ls, sk, h) = zrun zpp E 185 (75, v0 :: .int x :: ls, .int x :: sk, h) := zrun_at rfl
theorem zi185_75 {E : zE} {x : Nat} {ls sk : List Value} {h : zH} : zrun zpp E 185 (75, .ref x :: ls, sk, h) = zrun zpp E 185 (76, .ref x :: ls, .ref x :: sk, h) := zrun_at rfl
theorem zi185_75n {E : zE} {ls sk : List Value} {h : zH} : zrun zpp E 185 (75, .null :: ls, sk, h) = zrun zpp E 185 (76, .null :: ls, .null :: sk, h) := zrun_at rfl
theorem zi185_76 {E : zE} {x : Nat} {ls sk : List Value} {h : zH} : zrun zpp E 185 (76, ls, .ref x :: sk, h) = (zfld [11] h x 5).bind (fun v => zrun zpp E 185 (79, ls, v :: sk, h)) := zg_getf rfl
theorem zi185_79 {E : zE} {v0 v1 v2 v3 v4 : Value} {x : Int32} {ls sk : List Value} {h : zH} : zrun zpp E 185 (79, v0 :: v1 :: v2 :: v3 :: v4 :: .int x :: ls, sk, h) = zrun zpp E 185 (81, v0 :: v1 :: v2 :: v3 :: v4 :: .int x :: ls, .int x :: sk, h) := zrun_at rfl
theorem zi185_81 {E : zE} {ls sk : List Value} {h : zH} : zrun zpp E 185 (81, ls, sk, h) = zrun zpp E 185 (82, ls, .int 2 :: sk, h) := zg_iconst rfl ci_2
theorem zi185_82 {E : zE} {x y : Int32} {ls sk : List Value} {h : zH} : zrun zpp E 185 (82, ls, .int y :: .int x :: sk, h) = zrun zpp E 185 (83, ls, .int (x + y) :: sk, h) := zrun_at rfl
theorem zi185_83 {E : zE} {x : Nat} {i : Int32} {ls sk : List Value} {h : zH} : zrun zpp E 185 (83, ls, .int i :: .ref x :: sk, h) = (zarr 0 h x i).bind (fun v => zrun zpp E 185 (84, ls, .int v :: sk, h)) := zg_iald rfl
theorem zi185_84 {E : zE} {a0 a1 : Value} {ls sk : List Value} {h : zH} : zrun zpp E 185 (84, ls, a1 :: a0 :: sk, h) = zcl1 E 185 87 181 ls sk [a0, a1] h := zg_inv (as := [a0, a1]) rfl rfl
theorem zi185_87 {E : zE} {x : Int32} {ls sk : List Value} {h : zH} : zrun zpp E 185 (87, ls, .int x :: sk, h) = if x = 0 then zrun zpp E 185 (90, ls, sk, h) else zrun zpp E 185 (119, ls, sk, h) := zrun_at rfl
theorem zi185_90 {E : zE} {x : Nat} {ls sk : List Value} {h : zH} : zrun zpp E 185 (90, .ref x :: ls, sk, h) = zrun zpp E 185 (91, .ref x :: ls, .ref x :: sk, h) := zrun_at rfl
theorem zi185_90n {E : zE} {ls sk : List Value} {h : zH} : zrun zpp E 185 (90, .null :: ls, sk, h) = zrun zpp E 185 (91, .null :: ls, .null :: sk, h) := zrun_at rfl
theorem zi185_91 {E : zE} {x : Nat} {ls sk : List Value} {h : zH} : zrun zpp E 185 (91, ls, .ref x :: sk, h) = (zfld [11] h x 5).bind (fun v => zrun zpp E 185 (94, ls, v :: sk, h)) := zg_getf rfl
theorem zi185_94 {E : zE} {v0 v1 v2 v3 v4 : Value} {x : Int32} {ls sk : List Value} {h : zH} : zrun zpp E 185 (94, v0 :: v1 :: v2 :: v3 :: v4 :: .int x :: ls, sk, h) = zrun zpp E 185 (96, v0 :: v1 :: v2 :: v3 :: v4 :: .int x :: ls, .int x :: sk, h) := zrun_at rfl
theorem zi185_96 {E : zE} {ls sk : List Value} {h : zH} : zrun zpp E 185 (96, ls, sk, h) = zrun zpp E 185 (97, ls, .int 2 :: sk, h) := zg_iconst rfl ci_2
theorem zi185_97 {E : zE} {x y : Int32} {ls sk : List Value} {h : zH} : zrun zpp E 185 (97, ls, .int y :: .int x :: sk, h) = zrun zpp E 185 (98, ls, .int (x + y) :: sk, h) := zrun_at rfl
theorem zi185_98 {E : zE} {x : Nat} {i : Int32} {ls sk : List Value} {h : zH} : zrun zpp E 185 (98, ls, .int i :: .ref x :: sk, h) = (zarr 0 h x i).bind (fun v => zrun zpp E 185 (99, ls, .int v :: sk, h)) := zg_iald rfl
theorem zi185_99 {E : zE} {v0 v1 : Value} {x : Int32} {ls sk : List Value} {h : zH} : zrun zpp E 185 (99, v0 :: v1 :: .int x :: ls, sk, h) = zrun zpp E 185 (100, v0 :: v1 :: .int x :: ls, .int x :: sk, h) := zrun_at rfl
theorem zi185_100 {E : zE} {x y : Int32} {ls sk : List Value} {h : zH} : zrun zpp E 185 (100, ls, .int y :: .int x :: sk, h) = if x = y then zrun zpp E 185 (103, ls, sk, h) else zrun zpp E 185 (123, ls, sk, h) := zrun_at rfl
theorem zi185_103 {E : zE} {v0 : Value} {x : Int32} {ls sk : List Value} {h : zH} : zrun zpp E 185 (103, v0 :: .int x :: ls, sk, h) = zrun zpp E 185 (104, v0 :: .int x :: ls, .int x :: sk, h) := zrun_at rfl
theorem zi185_104 {E : zE} {x : Nat} {ls sk : List Value} {h : zH} : zrun zpp E 185 (104, .ref x :: ls, sk, h) = zrun zpp E 185 (105, .ref x :: ls, .ref x :: sk, h) := zrun_at rfl
theorem zi185_104n {E : zE} {ls sk : List Value} {h : zH} : zrun zpp E 185 (104, .null :: ls, sk, h) = zrun zpp E 185 (105, .null :: ls, .null :: sk, h) := zrun_at rfl
theorem zi185_105 {E : zE} {x : Nat} {ls sk : List Value} {h : zH} : zrun zpp E 185 (105, ls, .ref x :: sk, h) = (zfld [11] h x 5).bind (fun v => zrun zpp E 185 (108, ls, v :: sk, h)) := zg_getf rfl
theorem zi185_108 {E : zE} {v0 v1 v2 v3 v4 : Value} {x : Int32} {ls sk : List Value} {h : zH} : zrun zpp E 185 (108, v0 :: v1 :: v2 :: v3 :: v4 :: .int x :: ls, sk, h) = zrun zpp E 185 (110, v0 :: v1 :: v2 :: v3 :: v4 :: .int x :: ls, .int x :: sk, h) := zrun_at rfl
theorem zi185_110 {E : zE} {ls sk : List Value} {h : zH} : zrun zpp E 185 (110, ls, sk, h) = zrun zpp E 185 (111, ls, .int 1 :: sk, h) := zg_iconst rfl ci_1
theorem zi185_111 {E : zE} {x y : Int32} {ls sk : List Value} {h : zH} : zrun zpp E 185 (111, ls, .int y :: .int x :: sk, h) = zrun zpp E 185 (112, ls, .int (x + y) :: sk, h) := zrun_at rfl
theorem zi185_112 {E : zE} {x : Nat} {i : Int32} {ls sk : List Value} {h : zH} : zrun zpp E 185 (112, ls, .int i :: .ref x :: sk, h) = (zarr 0 h x i).bind (fun v => zrun zpp E 185 (113, ls, .int v :: sk, h)) := zg_iald rfl
theorem zi185_113 {E : zE} {a0 a1 : Value} {ls sk : List Value} {h : zH} : zrun zpp E 185 (113, ls, a1 :: a0 :: sk, h) = zcl1 E 185 116 181 ls sk [a0, a1] h := zg_inv (as := [a0, a1]) rfl rfl
theorem zi185_116 {E : zE} {x : Int32} {ls sk : List Value} {h : zH} : zrun zpp E 185 (116, ls, .int x :: sk, h) = if x = 0 then zrun zpp E 185 (123, ls, sk, h) else zrun zpp E 185 (119, ls, sk, h) := zrun_at rfl
theorem zi185_119 {E : zE} {ls sk : List Value} {h : zH} : zrun zpp E 185 (119, ls, sk, h) = zrun zpp E 185 (120, ls, .int 1 :: sk, h) := zg_iconst rfl ci_1
theorem zi185_120 {E : zE} {ls sk : List Value} {h : zH} : zrun zpp E 185 (120, ls, sk, h) = zrun zpp E 185 (124, ls, sk, h) := zrun_at rfl
theorem zi185_123 {E : zE} {ls sk : List Value} {h : zH} : zrun zpp E 185 (123, ls, sk, h) = zrun zpp E 185 (124, ls, .int 0 :: sk, h) := zg_iconst rfl ci_0
theorem zi185_124 {E : zE} {x y : Int32} {ls sk : List Value} {h : zH} : zrun zpp E 185 (124, ls, .int y :: .int x :: sk, h) = zrun zpp E 185 (125, ls, .int (x + y) :: sk, h) := zrun_at rfl
theorem zi185_125 {E : zE} {x : Int32} {ls sk : List Value} {h : zH} : zrun zpp E 185 (125, ls, .int x :: sk, h) = if zfree ls 3 = true then zrun zpp E 185 (126, ls.set 3 (.int x), sk, h) else none := zg_ist rfl (fun _ _ _ => rfl)
theorem zi185_126 {E : zE} {v0 v1 v2 v3 : Value} {x : Int32} {ls sk : List Value} {h : zH} : zrun zpp E 185 (126, v0 :: v1 :: v2 :: v3 :: .int x :: ls, sk, h) = if zfree (v0 :: v1 :: v2 :: v3 :: .int x :: ls) 4 = true then zrun zpp E 185 (129, v0 :: v1 :: v2 :: v3 :: .int (x + 1) :: ls, sk, h) else none := by rw [← ci_1]; exact zrun_at rfl
theorem zi185_129 {E : zE} {ls sk : List Value} {h : zH} : zrun zpp E 185 (129, ls, sk, h) = zrun zpp E 185 (5, ls, sk, h) := zrun_at rfl
theorem zi185_132 {E : zE} {v0 : Value} {x : Int32} {ls sk : List Value} {h : zH} : zrun zpp E 185 (132, v0 :: .int x :: ls, sk, h) = zrun zpp E 185 (133, v0 :: .int x :: ls, .int x :: sk, h) := zrun_at rfl
theorem zi185_133 {E : zE} {v0 v1 : Value} {x : Int32} {ls sk : List Value} {h : zH} : zrun zpp E 185 (133, v0 :: v1 :: .int x :: ls, sk, h) = zrun zpp E 185 (134, v0 :: v1 :: .int x :: ls, .int x :: sk, h) := zrun_at rfl
theorem zi185_134 {E : zE} {a0 a1 : Value} {ls sk : List Value} {h : zH} : zrun zpp E 185 (134, ls, a1 :: a0 :: sk, h) = zcl1 E 185 137 181 ls sk [a0, a1] h := zg_inv (as := [a0, a1]) rfl rfl
theorem zi185_137 {E : zE} {x : Int32} {ls sk : List Value} {h : zH} : zrun zpp E 185 (137, ls, .int x :: sk, h) = if x = 0 then zrun zpp E 185 (144, ls, sk, h) else zrun zpp E 185 (140, ls, sk, h) := zrun_at rfl
theorem zi185_140 {E : zE} {v0 v1 v2 : Value} {x : Int32} {ls sk : List Value} {h : zH} : zrun zpp E 185 (140, v0 :: v1 :: v2 :: .int x :: ls, sk, h) = zrun zpp E 185 (141, v0 :: v1 :: v2 :: .int x :: ls, .int x :: sk, h) := zrun_at rfl
theorem zi185_141 {E : zE} {ls sk : List Value} {h : zH} : zrun zpp E 185 (141, ls, sk, h) = zrun zpp E 185 (145, ls, sk, h) := zrun_at rfl
theorem zi185_144 {E : zE} {ls sk : List Value} {h : zH} : zrun zpp E 185 (144, ls, sk, h) = zrun zpp E 185 (145, ls, .int 0 :: sk, h) := zg_iconst rfl ci_0
theorem zi185_145 {E : zE} {x : Int32} {ls sk : List Value} {h : zH} : zrun zpp E 185 (145, ls, [.int x], h) = some (some (.int x), h) := zrun_at rfl
-- 186 NineDownModel.can
theorem zi186_0 {E : zE} {x : Nat} {ls sk : List Value} {h : zH} : zrun zpp E 186 (0, .ref x :: ls, sk, h) = zrun zpp E 186 (1, .ref x :: ls, .ref x :: sk, h) := zrun_at rfl
theorem zi186_0n {E : zE} {ls sk : List Value} {h : zH} : zrun zpp E 186 (0, .null :: ls, sk, h) = zrun zpp E 186 (1, .null :: ls, .null :: sk, h) := zrun_at rfl
theorem zi186_1 {E : zE} {v0 v1 v2 : Value} {x : Int32} {ls sk : List Value} {h : zH} : zrun zpp E 186 (1, v0 :: v1 :: v2 :: .int x :: ls, sk, h) = zrun zpp E 186 (2, v0 :: v1 :: v2 :: .int x :: ls, .int x :: sk, h) := zrun_at rfl
theorem zi186_2 {E : zE} {v0 v1 v2 v3 : Value} {x : Int32} {ls sk : List Value} {h : zH} : zrun zpp E 186 (2, v0 :: v1 :: v2 :: v3 :: .int x :: ls, sk, h) = zrun zpp E 186 (4, v0 :: v1 :: v2 :: v3 :: .int x :: ls, .int x :: sk, h) := zrun_at rfl
theorem zi186_4 {E : zE} {a0 a1 : Value} {x : Nat} {ls sk : List Value} {h : zH} : zrun zpp E 186 (4, ls, a1 :: a0 :: .ref x :: sk, h) = (zcls h x).bind (fun d => (zsel d [11, 184]).bind (fun M' => zcl1 E 186 7 M' ls sk [.ref x, a0, a1] h)) := zg_vir (as := [a0, a1]) rfl rfl
theorem zi186_7 {E : zE} {x : Int32} {ls sk : List Value} {h : zH} : zrun zpp E 186 (7, ls, .int x :: sk, h) = if x = 0 then zrun zpp E 186 (50, ls, sk, h) else zrun zpp E 186 (10, ls, sk, h) := zrun_at rfl
theorem zi186_10 {E : zE} {x : Nat} {ls sk : List Value} {h : zH} : zrun zpp E 186 (10, .ref x :: ls, sk, h) = zrun zpp E 186 (11, .ref x :: ls, .ref x :: sk, h) := zrun_at rfl
theorem zi186_10n {E : zE} {ls sk : List Value} {h : zH} : zrun zpp E 186 (10, .null :: ls, sk, h) = zrun zpp E 186 (11, .null :: ls, .null :: sk, h) := zrun_at rfl
theorem zi186_11 {E : zE} {v0 v1 v2 v3 : Value} {x : Int32} {ls sk : List Value} {h : zH} : zrun zpp E 186 (11, v0 :: v1 :: v2 :: v3 :: .int x :: ls, sk, h) = zrun zpp E 186 (13, v0 :: v1 :: v2 :: v3 :: .int x :: ls, .int x :: sk, h) := zrun_at rfl
theorem zi186_13 {E : zE} {a0 : Value} {x : Nat} {ls sk : List Value} {h : zH} : zrun zpp E 186 (13, ls, a0 :: .ref x :: sk, h) = (zcls h x).bind (fun d => (zsel d [11, 177]).bind (fun M' => zcl1 E 186 16 M' ls sk [.ref x, a0] h)) := zg_vir (as := [a0]) rfl rfl
theorem zi186_16 {E : zE} {v0 : Value} {x : Int32} {ls sk : List Value} {h : zH} : zrun zpp E 186 (16, v0 :: .int x :: ls, sk, h) = zrun zpp E 186 (17, v0 :: .int x :: ls, .int x :: sk, h) := zrun_at rfl
theorem zi186_17 {E : zE} {ls sk : List Value} {h : zH} : zrun zpp E 186 (17, ls, sk, h) = zrun zpp E 186 (18, ls, .int 3 :: sk, h) := zg_iconst rfl ci_3
theorem zi186_18 {E : zE} {x y : Int32} {ls sk : List Value} {h : zH} : zrun zpp E 186 (18, ls, .int y :: .int x :: sk, h) = if x = y then zrun zpp E 186 (21, ls, sk, h) else zrun zpp E 186 (27, ls, sk, h) := zrun_at rfl
theorem zi186_21 {E : zE} {ls sk : List Value} {h : zH} : zrun zpp E 186 (21, ls, sk, h) = zrun zpp E 186 (22, ls, .int 2 :: sk, h) := zg_iconst rfl ci_2
theorem zi186_22 {E : zE} {v0 v1 : Value} {x : Int32} {ls sk : List Value} {h : zH} : zrun zpp E 186 (22, v0 :: v1 :: .int x :: ls, sk, h) = zrun zpp E 186 (23, v0 :: v1 :: .int x :: ls, .int x :: sk, h) := zrun_at rfl
theorem zi186_23 {E : zE} {x y : Int32} {ls sk : List Value} {h : zH} : zrun zpp E 186 (23, ls, .int y :: .int x :: sk, h) = zrun zpp E 186 (24, ls, .int (x * y) :: sk, h) := zrun_at rfl
theorem zi186_24 {E : zE} {ls sk : List Value} {h : zH} : zrun zpp E 186 (24, ls, sk, h) = zrun zpp E 186 (28, ls, sk, h) := zrun_at rfl
theorem zi186_27 {E : zE} {v0 v1 : Value} {x : Int32} {ls sk : List Value} {h : zH} : zrun zpp E 186 (27, v0 :: v1 :: .int x :: ls, sk, h) = zrun zpp E 186 (28, v0 :: v1 :: .int x :: ls, .int x :: sk, h) := zrun_at rfl
theorem zi186_28 {E : zE} {x y : Int32} {ls sk : List Value} {h : zH} : zrun zpp E 186 (28, ls, .int y :: .int x :: sk, h) = if y < x then zrun zpp E 186 (50, ls, sk, h) else zrun zpp E 186 (31, ls, sk, h) := zrun_at rfl
theorem zi186_31 {E : zE} {v0 : Value} {x : Int32} {ls sk : List Value} {h : zH} : zrun zpp E 186 (31, v0 :: .int x :: ls, sk, h) = zrun zpp E 186 (32, v0 :: .int x :: ls, .int x :: sk, h) := zrun_at rfl
theorem zi186_32 {E : zE} {ls sk : List Value} {h : zH} : zrun zpp E 186 (32, ls, sk, h) = zrun zpp E 186 (33, ls, .int 4 :: sk, h) := zg_iconst rfl ci_4
theorem zi186_33 {E : zE} {x y : Int32} {ls sk : List Value} {h : zH} : zrun zpp E 186 (33, ls, .int y :: .int x :: sk, h) = if x < y then zrun zpp E 186 (46, ls, sk, h) else zrun zpp E 186 (36, ls, sk, h) := zrun_at rfl
theorem zi186_36 {E : zE} {x : Nat} {ls sk : List Value} {h : zH} : zrun zpp E 186 (36, .ref x :: ls, sk, h) = zrun zpp E 186 (37, .ref x :: ls, .ref x :: sk, h) := zrun_at rfl
theorem zi186_36n {E : zE} {ls sk : List Value} {h : zH} : zrun zpp E 186 (36, .null :: ls, sk, h) = zrun zpp E 186 (37, .null :: ls, .null :: sk, h) := zrun_at rfl
theorem zi186_37 {E : zE} {v0 v1 v2 : Value} {x : Int32} {ls sk : List Value} {h : zH} : zrun zpp E 186 (37, v0 :: v1 :: v2 :: .int x :: ls, sk, h) = zrun zpp E 186 (38, v0 :: v1 :: v2 :: .int x :: ls, .int x :: sk, h) := zrun_at rfl
theorem zi186_38 {E : zE} {v0 v1 v2 v3 : Value} {x : Int32} {ls sk : List Value} {h : zH} : zrun zpp E 186 (38, v0 :: v1 :: v2 :: v3 :: .int x :: ls, sk, h) = zrun zpp E 186 (40, v0 :: v1 :: v2 :: v3 :: .int x :: ls, .int x :: sk, h) := zrun_at rfl
theorem zi186_40 {E : zE} {a0 a1 : Value} {x : Nat} {ls sk : List Value} {h : zH} : zrun zpp E 186 (40, ls, a1 :: a0 :: .ref x :: sk, h) = (zcls h x).bind (fun d => (zsel d [11, 185]).bind (fun M' => zcl1 E 186 43 M' ls sk [.ref x, a0, a1] h)) := zg_vir (as := [a0, a1]) rfl rfl
theorem zi186_43 {E : zE} {x : Int32} {ls sk : List Value} {h : zH} : zrun zpp E 186 (43, ls, .int x :: sk, h) = if x = 0 then zrun zpp E 186 (46, ls, sk, h) else zrun zpp E 186 (50, ls, sk, h) := zrun_at rfl
theorem zi186_46 {E : zE} {ls sk : List Value} {h : zH} : zrun zpp E 186 (46, ls, sk, h) = zrun zpp E 186 (47, ls, .int 1 :: sk, h) := zg_iconst rfl ci_1
theorem zi186_47 {E : zE} {ls sk : List Value} {h : zH} : zrun zpp E 186 (47, ls, sk, h) = zrun zpp E 186 (51, ls, sk, h) := zrun_at rfl
theorem zi186_50 {E : zE} {ls sk : List Value} {h : zH} : zrun zpp E 186 (50, ls, sk, h) = zrun zpp E 186 (51, ls, .int 0 :: sk, h) := zg_iconst rfl ci_0
theorem zi186_51 {E : zE} {x : Int32} {ls sk : List Value} {h : zH} : zrun zpp E 186 (51, ls, [.int x], h) = if x = 0 then some (some (.int 0), h) else if x = 1 then some (some (.int 1), h) else none := zrun_at rfl
-- 187 NineDownModel.takesBy
theorem zi187_0 {E : zE} {x : Nat} {ls sk : List Value} {h : zH} : zrun zpp E 187 (0, .ref x :: ls, sk, h) = zrun zpp E 187 (1, .ref x :: ls, .ref x :: sk, h) := zrun_at rfl
theorem zi187_0n {E : zE} {ls sk : List Value} {h : zH} : zrun zpp E 187 (0, .null :: ls, sk, h) = zrun zpp E 187 (1, .null :: ls, .null :: sk, h) := zrun_at rfl
theorem zi187_1 {E : zE} {v0 v1 : Value} {x : Int32} {ls sk : List Value} {h : zH} : zrun zpp E 187 (1, v0 :: v1 :: .int x :: ls, sk, h) = zrun zpp E 187 (2, v0 :: v1 :: .int x :: ls, .int x :: sk, h) := zrun_at rfl
theorem zi187_2 {E : zE} {v0 v1 v2 : Value} {x : Int32} {ls sk : List Value} {h : zH} : zrun zpp E 187 (2, v0 :: v1 :: v2 :: .int x :: ls, sk, h) = zrun zpp E 187 (3, v0 :: v1 :: v2 :: .int x :: ls, .int x :: sk, h) := zrun_at rfl
theorem zi187_3 {E : zE} {a0 a1 : Value} {x : Nat} {ls sk : List Value} {h : zH} : zrun zpp E 187 (3, ls, a1 :: a0 :: .ref x :: sk, h) = (zcls h x).bind (fun d => (zsel d [11, 185]).bind (fun M' => zcl1 E 187 6 M' ls sk [.ref x, a0, a1] h)) := zg_vir (as := [a0, a1]) rfl rfl
theorem zi187_6 {E : zE} {x : Int32} {ls sk : List Value} {h : zH} : zrun zpp E 187 (6, ls, .int x :: sk, h) = if zfree ls 4 = true then zrun zpp E 187 (8, ls.set 4 (.int x), sk, h) else none := zg_ist rfl (fun _ _ _ => rfl)
theorem zi187_8 {E : zE} {x : Nat} {ls sk : List Value} {h : zH} : zrun zpp E 187 (8, .ref x :: ls, sk, h) = zrun zpp E 187 (9, .ref x :: ls, .ref x :: sk, h) := zrun_at rfl
theorem zi187_8n {E : zE} {ls sk : List Value} {h : zH} : zrun zpp E 187 (8, .null :: ls, sk, h) = zrun zpp E 187 (9, .null :: ls, .null :: sk, h) := zrun_at rfl
theorem zi187_9 {E : zE} {v0 v1 v2 : Value} {x : Int32} {ls sk : List Value} {h : zH} : zrun zpp E 187 (9, v0 :: v1 :: v2 :: .int x :: ls, sk, h) = zrun zpp E 187 (10, v0 :: v1 :: v2 :: .int x :: ls, .int x :: sk, h) := zrun_at rfl
theorem zi187_10 {E : zE} {a0 : Value} {x : Nat} {ls sk : List Value} {h : zH} : zrun zpp E 187 (10, ls, a0 :: .ref x :: sk, h) = (zcls h x).bind (fun d => (zsel d [11, 177]).bind (fun M' => zcl1 E 187 13 M' ls sk [.ref x, a0] h)) := zg_vir (as := [a0]) rfl rfl
theorem zi187_13 {E : zE} {x : Int32} {ls sk : List Value} {h : zH} : zrun zpp E 187 (13, ls, .int x :: sk, h) = if zfree ls 5 = true then zrun zpp E 187 (15, ls.set 5 (.int x), sk, h) else none := zg_ist rfl (fun _ _ _ => rfl)
theorem zi187_15 {E : zE} {v0 : Value} {x : Int32} {ls sk : List Value} {h : zH} : zrun zpp E 187 (15, v0 :: .int x :: ls, sk, h) = zrun zpp E 187 (16, v0 :: .int x :: ls, .int x :: sk, h) := zrun_at rfl
theorem zi187_16 {E : zE} {x : Int32} {ls sk : List Value} {h : zH} : zrun zpp E 187 (16, ls, .int x :: sk, h) = if x = 1 then zrun zpp E 187 (48, ls, sk, h) else if x = 2 then zrun zpp E 187 (56, ls, sk, h) else if x = 3 then zrun zpp E 187 (69, ls, sk, h) else if x = 4 then zrun zpp E 187 (79, ls, sk, h) else zrun zpp E 187 (84, ls, sk, h) := zrun_at rfl
theorem zi187_48 {E : zE} {v0 v1 v2 v3 v4 : Value} {x : Int32} {ls sk : List Value} {h : zH} : zrun zpp E 187 (48, v0 :: v1 :: v2 :: v3 :: v4 :: .int x :: ls, sk, h) = zrun zpp E 187 (50, v0 :: v1 :: v2 :: v3 :: v4 :: .int x :: ls, .int x :: sk, h) := zrun_at rfl
theorem zi187_50 {E : zE} {ls sk : List Value} {h : zH} : zrun zpp E 187 (50, ls, sk, h) = zrun zpp E 187 (51, ls, .int 3 :: sk, h) := zg_iconst rfl ci_3
theorem zi187_51 {E : zE} {v0 v1 v2 v3 : Value} {x : Int32} {ls sk : List Value} {h : zH} : zrun zpp E 187 (51, v0 :: v1 :: v2 :: v3 :: .int x :: ls, sk, h) = zrun zpp E 187 (53, v0 :: v1 :: v2 :: v3 :: .int x :: ls, .int x :: sk, h) := zrun_at rfl
theorem zi187_53 {E : zE} {x y : Int32} {ls sk : List Value} {h : zH} : zrun zpp E 187 (53, ls, .int y :: .int x :: sk, h) = zrun zpp E 187 (54, ls, .int (x * y) :: sk, h) := zrun_at rfl
theorem zi187_54 {E : zE} {x y : Int32} {ls sk : List Value} {h : zH} : zrun zpp E 187 (54, ls, .int y :: .int x :: sk, h) = zrun zpp E 187 (55, ls, .int (x + y) :: sk, h) := zrun_at rfl
theorem zi187_55 {E : zE} {x : Int32} {ls sk : List Value} {h : zH} : zrun zpp E 187 (55, ls, [.int x], h) = some (some (.int x), h) := zrun_at rfl
theorem zi187_56 {E : zE} {v0 v1 v2 v3 v4 : Value} {x : Int32} {ls sk : List Value} {h : zH} : zrun zpp E 187 (56, v0 :: v1 :: v2 :: v3 :: v4 :: .int x :: ls, sk, h) = zrun zpp E 187 (58, v0 :: v1 :: v2 :: v3 :: v4 :: .int x :: ls, .int x :: sk, h) := zrun_at rfl
theorem zi187_58 {E : zE} {x : Nat} {ls sk : List Value} {h : zH} : zrun zpp E 187 (58, .ref x :: ls, sk, h) = zrun zpp E 187 (59, .ref x :: ls, .ref x :: sk, h) := zrun_at rfl
theorem zi187_58n {E : zE} {ls sk : List Value} {h : zH} : zrun zpp E 187 (58, .null :: ls, sk, h) = zrun zpp E 187 (59, .null :: ls, .null :: sk, h) := zrun_at rfl
theorem zi187_59 {E : zE} {x : Nat} {ls sk : List Value} {h : zH} : zrun zpp E 187 (59, ls, .ref x :: sk, h) = (zfld [11] h x 5).bind (fun v => zrun zpp E 187 (62, ls, v :: sk, h)) := zg_getf rfl
theorem zi187_62 {E : zE} {ls sk : List Value} {h : zH} : zrun zpp E 187 (62, ls, sk, h) = zrun zpp E 187 (63, ls, .int 1 :: sk, h) := zg_iconst rfl ci_1
theorem zi187_63 {E : zE} {x : Nat} {i : Int32} {ls sk : List Value} {h : zH} : zrun zpp E 187 (63, ls, .int i :: .ref x :: sk, h) = (zarr 0 h x i).bind (fun v => zrun zpp E 187 (64, ls, .int v :: sk, h)) := zg_iald rfl
theorem zi187_64 {E : zE} {v0 v1 v2 v3 : Value} {x : Int32} {ls sk : List Value} {h : zH} : zrun zpp E 187 (64, v0 :: v1 :: v2 :: v3 :: .int x :: ls, sk, h) = zrun zpp E 187 (66, v0 :: v1 :: v2 :: v3 :: .int x :: ls, .int x :: sk, h) := zrun_at rfl
theorem zi187_66 {E : zE} {x y : Int32} {ls sk : List Value} {h : zH} : zrun zpp E 187 (66, ls, .int y :: .int x :: sk, h) = zrun zpp E 187 (67, ls, .int (x * y) :: sk, h) := zrun_at rfl
theorem zi187_67 {E : zE} {x y : Int32} {ls sk : List Value} {h : zH} : zrun zpp E 187 (67, ls, .int y :: .int x :: sk, h) = zrun zpp E 187 (68, ls, .int (x + y) :: sk, h) := zrun_at rfl
theorem zi187_68 {E : zE} {x : Int32} {ls sk : List Value} {h : zH} : zrun zpp E 187 (68, ls, [.int x], h) = some (some (.int x), h) := zrun_at rfl
theorem zi187_69 {E : zE} {v0 v1 v2 v3 v4 : Value} {x : Int32} {ls sk : List Value} {h : zH} : zrun zpp E 187 (69, v0 :: v1 :: v2 :: v3 :: v4 :: .int x :: ls, sk, h) = zrun zpp E 187 (71, v0 :: v1 :: v2 :: v3 :: v4 :: .int x :: ls, .int x :: sk, h) := zrun_at rfl
theorem zi187_71 {E : zE} {ls sk : List Value} {h : zH} : zrun zpp E 187 (71, ls, sk, h) = zrun zpp E 187 (72, ls, .int 3 :: sk, h) := zg_iconst rfl ci_3
theorem zi187_72 {E : zE} {v0 v1 v2 v3 : Value} {x : Int32} {ls sk : List Value} {h : zH} : zrun zpp E 187 (72, v0 :: v1 :: v2 :: v3 :: .int x :: ls, sk, h) = zrun zpp E 187 (74, v0 :: v1 :: v2 :: v3 :: .int x :: ls, .int x :: sk, h) := zrun_at rfl
theorem zi187_74 {E : zE} {x y : Int32} {ls sk : List Value} {h : zH} : zrun zpp E 187 (74, ls, .int y :: .int x :: sk, h) = zrun zpp E 187 (75, ls, .int (x * y) :: sk, h) := zrun_at rfl
theorem zi187_75 {E : zE} {x y : Int32} {ls sk : List Value} {h : zH} : zrun zpp E 187 (75, ls, .int y :: .int x :: sk, h) = zrun zpp E 187 (76, ls, .int (x + y) :: sk, h) := zrun_at rfl
theorem zi187_76 {E : zE} {ls sk : List Value} {h : zH} : zrun zpp E 187 (76, ls, sk, h) = zrun zpp E 187 (77, ls, .int 2 :: sk, h) := zg_iconst rfl ci_2
theorem zi187_77 {E : zE} {x y : Int32} {ls sk : List Value} {h : zH} : zrun zpp E 187 (77, ls, .int y :: .int x :: sk, h) = if y = 0 then none else zrun zpp E 187 (78, ls, .int (x / y) :: sk, h) := zrun_at rfl
theorem zi187_78 {E : zE} {x : Int32} {ls sk : List Value} {h : zH} : zrun zpp E 187 (78, ls, [.int x], h) = some (some (.int x), h) := zrun_at rfl
theorem zi187_79 {E : zE} {v0 v1 v2 v3 v4 : Value} {x : Int32} {ls sk : List Value} {h : zH} : zrun zpp E 187 (79, v0 :: v1 :: v2 :: v3 :: v4 :: .int x :: ls, sk, h) = zrun zpp E 187 (81, v0 :: v1 :: v2 :: v3 :: v4 :: .int x :: ls, .int x :: sk, h) := zrun_at rfl
theorem zi187_81 {E : zE} {ls sk : List Value} {h : zH} : zrun zpp E 187 (81, ls, sk, h) = zrun zpp E 187 (82, ls, .int 2 :: sk, h) := zg_iconst rfl ci_2
theorem zi187_82 {E : zE} {x y : Int32} {ls sk : List Value} {h : zH} : zrun zpp E 187 (82, ls, .int y :: .int x :: sk, h) = if y = 0 then none else zrun zpp E 187 (83, ls, .int (x / y) :: sk, h) := zrun_at rfl
theorem zi187_83 {E : zE} {x : Int32} {ls sk : List Value} {h : zH} : zrun zpp E 187 (83, ls, [.int x], h) = some (some (.int x), h) := zrun_at rfl
theorem zi187_84 {E : zE} {v0 v1 v2 v3 v4 : Value} {x : Int32} {ls sk : List Value} {h : zH} : zrun zpp E 187 (84, v0 :: v1 :: v2 :: v3 :: v4 :: .int x :: ls, sk, h) = zrun zpp E 187 (86, v0 :: v1 :: v2 :: v3 :: v4 :: .int x :: ls, .int x :: sk, h) := zrun_at rfl
theorem zi187_86 {E : zE} {ls sk : List Value} {h : zH} : zrun zpp E 187 (86, ls, sk, h) = zrun zpp E 187 (87, ls, .int 2 :: sk, h) := zg_iconst rfl ci_2
theorem zi187_87 {E : zE} {x y : Int32} {ls sk : List Value} {h : zH} : zrun zpp E 187 (87, ls, .int y :: .int x :: sk, h) = if y = 0 then none else zrun zpp E 187 (88, ls, .int (x / y) :: sk, h) := zrun_at rfl
theorem zi187_88 {E : zE} {x : Nat} {ls sk : List Value} {h : zH} : zrun zpp E 187 (88, .ref x :: ls, sk, h) = zrun zpp E 187 (89, .ref x :: ls, .ref x :: sk, h) := zrun_at rfl
theorem zi187_88n {E : zE} {ls sk : List Value} {h : zH} : zrun zpp E 187 (88, .null :: ls, sk, h) = zrun zpp E 187 (89, .null :: ls, .null :: sk, h) := zrun_at rfl
theorem zi187_89 {E : zE} {x : Nat} {ls sk : List Value} {h : zH} : zrun zpp E 187 (89, ls, .ref x :: sk, h) = (zfld [11] h x 5).bind (fun v => zrun zpp E 187 (92, ls, v :: sk, h)) := zg_getf rfl
theorem zi187_92 {E : zE} {ls sk : List Value} {h : zH} : zrun zpp E 187 (92, ls, sk, h) = zrun zpp E 187 (93, ls, .int 2 :: sk, h) := zg_iconst rfl ci_2
theorem zi187_93 {E : zE} {x : Nat} {i : Int32} {ls sk : List Value} {h : zH} : zrun zpp E 187 (93, ls, .int i :: .ref x :: sk, h) = (zarr 0 h x i).bind (fun v => zrun zpp E 187 (94, ls, .int v :: sk, h)) := zg_iald rfl
theorem zi187_94 {E : zE} {x y : Int32} {ls sk : List Value} {h : zH} : zrun zpp E 187 (94, ls, .int y :: .int x :: sk, h) = zrun zpp E 187 (95, ls, .int (x + y) :: sk, h) := zrun_at rfl
theorem zi187_95 {E : zE} {x : Int32} {ls sk : List Value} {h : zH} : zrun zpp E 187 (95, ls, [.int x], h) = some (some (.int x), h) := zrun_at rfl
-- 188 NineDownModel.fallsBy
theorem zi188_0 {E : zE} {v0 : Value} {x : Int32} {ls sk : List Value} {h : zH} : zrun zpp E 188 (0, v0 :: .int x :: ls, sk, h) = zrun zpp E 188 (1, v0 :: .int x :: ls, .int x :: sk, h) := zrun_at rfl
theorem zi188_1 {E : zE} {ls sk : List Value} {h : zH} : zrun zpp E 188 (1, ls, sk, h) = zrun zpp E 188 (2, ls, .int 1 :: sk, h) := zg_iconst rfl ci_1
theorem zi188_2 {E : zE} {x y : Int32} {ls sk : List Value} {h : zH} : zrun zpp E 188 (2, ls, .int y :: .int x :: sk, h) = if x = y then zrun zpp E 188 (10, ls, sk, h) else zrun zpp E 188 (5, ls, sk, h) := zrun_at rfl
theorem zi188_5 {E : zE} {v0 : Value} {x : Int32} {ls sk : List Value} {h : zH} : zrun zpp E 188 (5, v0 :: .int x :: ls, sk, h) = zrun zpp E 188 (6, v0 :: .int x :: ls, .int x :: sk, h) := zrun_at rfl
theorem zi188_6 {E : zE} {ls sk : List Value} {h : zH} : zrun zpp E 188 (6, ls, sk, h) = zrun zpp E 188 (7, ls, .int 3 :: sk, h) := zg_iconst rfl ci_3
theorem zi188_7 {E : zE} {x y : Int32} {ls sk : List Value} {h : zH} : zrun zpp E 188 (7, ls, .int y :: .int x :: sk, h) = if x = y then zrun zpp E 188 (10, ls, sk, h) else zrun zpp E 188 (19, ls, sk, h) := zrun_at rfl
theorem zi188_10 {E : zE} {x : Nat} {ls sk : List Value} {h : zH} : zrun zpp E 188 (10, .ref x :: ls, sk, h) = zrun zpp E 188 (11, .ref x :: ls, .ref x :: sk, h) := zrun_at rfl
theorem zi188_10n {E : zE} {ls sk : List Value} {h : zH} : zrun zpp E 188 (10, .null :: ls, sk, h) = zrun zpp E 188 (11, .null :: ls, .null :: sk, h) := zrun_at rfl
theorem zi188_11 {E : zE} {v0 v1 : Value} {x : Int32} {ls sk : List Value} {h : zH} : zrun zpp E 188 (11, v0 :: v1 :: .int x :: ls, sk, h) = zrun zpp E 188 (12, v0 :: v1 :: .int x :: ls, .int x :: sk, h) := zrun_at rfl
theorem zi188_12 {E : zE} {v0 v1 v2 : Value} {x : Int32} {ls sk : List Value} {h : zH} : zrun zpp E 188 (12, v0 :: v1 :: v2 :: .int x :: ls, sk, h) = zrun zpp E 188 (13, v0 :: v1 :: v2 :: .int x :: ls, .int x :: sk, h) := zrun_at rfl
theorem zi188_13 {E : zE} {a0 a1 : Value} {x : Nat} {ls sk : List Value} {h : zH} : zrun zpp E 188 (13, ls, a1 :: a0 :: .ref x :: sk, h) = (zcls h x).bind (fun d => (zsel d [11, 185]).bind (fun M' => zcl1 E 188 16 M' ls sk [.ref x, a0, a1] h)) := zg_vir (as := [a0, a1]) rfl rfl
theorem zi188_16 {E : zE} {ls sk : List Value} {h : zH} : zrun zpp E 188 (16, ls, sk, h) = zrun zpp E 188 (20, ls, sk, h) := zrun_at rfl
theorem zi188_19 {E : zE} {ls sk : List Value} {h : zH} : zrun zpp E 188 (19, ls, sk, h) = zrun zpp E 188 (20, ls, .int 0 :: sk, h) := zg_iconst rfl ci_0
theorem zi188_20 {E : zE} {x : Int32} {ls sk : List Value} {h : zH} : zrun zpp E 188 (20, ls, [.int x], h) = some (some (.int x), h) := zrun_at rfl
-- 189 NineDownModel.keep
theorem zi189_0 {E : zE} {x : Nat} {ls sk : List Value} {h : zH} : zrun zpp E 189 (0, .ref x :: ls, sk, h) = zrun zpp E 189 (1, .ref x :: ls, .ref x :: sk, h) := zrun_at rfl
theorem zi189_0n {E : zE} {ls sk : List Value} {h : zH} : zrun zpp E 189 (0, .null :: ls, sk, h) = zrun zpp E 189 (1, .null :: ls, .null :: sk, h) := zrun_at rfl
theorem zi189_1 {E : zE} {x : Nat} {ls sk : List Value} {h : zH} : zrun zpp E 189 (1, ls, .ref x :: sk, h) = (zfld [11] h x 8).bind (fun v => zrun zpp E 189 (4, ls, v :: sk, h)) := zg_getf rfl
theorem zi189_4 {E : zE} {ls sk : List Value} {h : zH} : zrun zpp E 189 (4, ls, sk, h) = zrun zpp E 189 (6, ls, .int 24 :: sk, h) := zg_bipush rfl ci_24
theorem zi189_6 {E : zE} {x y : Int32} {ls sk : List Value} {h : zH} : zrun zpp E 189 (6, ls, .int y :: .int x :: sk, h) = if x = y then zrun zpp E 189 (9, ls, sk, h) else zrun zpp E 189 (49, ls, sk, h) := zrun_at rfl
theorem zi189_9 {E : zE} {ls sk : List Value} {h : zH} : zrun zpp E 189 (9, ls, sk, h) = zrun zpp E 189 (10, ls, .int 0 :: sk, h) := zg_iconst rfl ci_0
theorem zi189_10 {E : zE} {x : Int32} {ls sk : List Value} {h : zH} : zrun zpp E 189 (10, ls, .int x :: sk, h) = if zfree ls 1 = true then zrun zpp E 189 (11, ls.set 1 (.int x), sk, h) else none := zg_ist rfl (fun _ _ _ => rfl)
theorem zi189_11 {E : zE} {v0 : Value} {x : Int32} {ls sk : List Value} {h : zH} : zrun zpp E 189 (11, v0 :: .int x :: ls, sk, h) = zrun zpp E 189 (12, v0 :: .int x :: ls, .int x :: sk, h) := zrun_at rfl
theorem zi189_12 {E : zE} {ls sk : List Value} {h : zH} : zrun zpp E 189 (12, ls, sk, h) = zrun zpp E 189 (15, ls, .int 1679 :: sk, h) := zg_sipush rfl ci_1679
theorem zi189_15 {E : zE} {x y : Int32} {ls sk : List Value} {h : zH} : zrun zpp E 189 (15, ls, .int y :: .int x :: sk, h) = if y ≤ x then zrun zpp E 189 (39, ls, sk, h) else zrun zpp E 189 (18, ls, sk, h) := zrun_at rfl
theorem zi189_18 {E : zE} {x : Nat} {ls sk : List Value} {h : zH} : zrun zpp E 189 (18, .ref x :: ls, sk, h) = zrun zpp E 189 (19, .ref x :: ls, .ref x :: sk, h) := zrun_at rfl
theorem zi189_18n {E : zE} {ls sk : List Value} {h : zH} : zrun zpp E 189 (18, .null :: ls, sk, h) = zrun zpp E 189 (19, .null :: ls, .null :: sk, h) := zrun_at rfl
theorem zi189_19 {E : zE} {x : Nat} {ls sk : List Value} {h : zH} : zrun zpp E 189 (19, ls, .ref x :: sk, h) = (zfld [11] h x 7).bind (fun v => zrun zpp E 189 (22, ls, v :: sk, h)) := zg_getf rfl
theorem zi189_22 {E : zE} {v0 : Value} {x : Int32} {ls sk : List Value} {h : zH} : zrun zpp E 189 (22, v0 :: .int x :: ls, sk, h) = zrun zpp E 189 (23, v0 :: .int x :: ls, .int x :: sk, h) := zrun_at rfl
theorem zi189_23 {E : zE} {x : Nat} {ls sk : List Value} {h : zH} : zrun zpp E 189 (23, .ref x :: ls, sk, h) = zrun zpp E 189 (24, .ref x :: ls, .ref x :: sk, h) := zrun_at rfl
theorem zi189_23n {E : zE} {ls sk : List Value} {h : zH} : zrun zpp E 189 (23, .null :: ls, sk, h) = zrun zpp E 189 (24, .null :: ls, .null :: sk, h) := zrun_at rfl
theorem zi189_24 {E : zE} {x : Nat} {ls sk : List Value} {h : zH} : zrun zpp E 189 (24, ls, .ref x :: sk, h) = (zfld [11] h x 7).bind (fun v => zrun zpp E 189 (27, ls, v :: sk, h)) := zg_getf rfl
theorem zi189_27 {E : zE} {v0 : Value} {x : Int32} {ls sk : List Value} {h : zH} : zrun zpp E 189 (27, v0 :: .int x :: ls, sk, h) = zrun zpp E 189 (28, v0 :: .int x :: ls, .int x :: sk, h) := zrun_at rfl
theorem zi189_28 {E : zE} {ls sk : List Value} {h : zH} : zrun zpp E 189 (28, ls, sk, h) = zrun zpp E 189 (30, ls, .int 73 :: sk, h) := zg_bipush rfl ci_73
theorem zi189_30 {E : zE} {x y : Int32} {ls sk : List Value} {h : zH} : zrun zpp E 189 (30, ls, .int y :: .int x :: sk, h) = zrun zpp E 189 (31, ls, .int (x + y) :: sk, h) := zrun_at rfl
theorem zi189_31 {E : zE} {x : Nat} {i : Int32} {ls sk : List Value} {h : zH} : zrun zpp E 189 (31, ls, .int i :: .ref x :: sk, h) = (zarr 0 h x i).bind (fun v => zrun zpp E 189 (32, ls, .int v :: sk, h)) := zg_iald rfl
theorem zi189_32 {E : zE} {x : Nat} {i v : Int32} {ls sk : List Value} {h : zH} : zrun zpp E 189 (32, ls, .int v :: .int i :: .ref x :: sk, h) = (zars 0 h x i v).bind (fun h' => zrun zpp E 189 (33, ls, sk, h')) := zg_iast rfl
theorem zi189_33 {E : zE} {v0 : Value} {x : Int32} {ls sk : List Value} {h : zH} : zrun zpp E 189 (33, v0 :: .int x :: ls, sk, h) = if zfree (v0 :: .int x :: ls) 1 = true then zrun zpp E 189 (36, v0 :: .int (x + 1) :: ls, sk, h) else none := by rw [← ci_1]; exact zrun_at rfl
theorem zi189_36 {E : zE} {ls sk : List Value} {h : zH} : zrun zpp E 189 (36, ls, sk, h) = zrun zpp E 189 (11, ls, sk, h) := zrun_at rfl
theorem zi189_39 {E : zE} {x : Nat} {ls sk : List Value} {h : zH} : zrun zpp E 189 (39, .ref x :: ls, sk, h) = zrun zpp E 189 (40, .ref x :: ls, .ref x :: sk, h) := zrun_at rfl
theorem zi189_39n {E : zE} {ls sk : List Value} {h : zH} : zrun zpp E 189 (39, .null :: ls, sk, h) = zrun zpp E 189 (40, .null :: ls, .null :: sk, h) := zrun_at rfl
theorem zi189_40 {E : zE} {x : Nat} {ls sk : List Value} {h : zH} : zrun zpp E 189 (40, ls, .ref x :: sk, h) = zrun zpp E 189 (41, ls, .ref x :: .ref x :: sk, h) := zrun_at rfl
theorem zi189_40i {E : zE} {x : Int32} {ls sk : List Value} {h : zH} : zrun zpp E 189 (40, ls, .int x :: sk, h) = zrun zpp E 189 (41, ls, .int x :: .int x :: sk, h) := zrun_at rfl
theorem zi189_41 {E : zE} {x : Nat} {ls sk : List Value} {h : zH} : zrun zpp E 189 (41, ls, .ref x :: sk, h) = (zfld [11] h x 8).bind (fun v => zrun zpp E 189 (44, ls, v :: sk, h)) := zg_getf rfl
theorem zi189_44 {E : zE} {ls sk : List Value} {h : zH} : zrun zpp E 189 (44, ls, sk, h) = zrun zpp E 189 (45, ls, .int 1 :: sk, h) := zg_iconst rfl ci_1
theorem zi189_45 {E : zE} {x y : Int32} {ls sk : List Value} {h : zH} : zrun zpp E 189 (45, ls, .int y :: .int x :: sk, h) = zrun zpp E 189 (46, ls, .int (x - y) :: sk, h) := zrun_at rfl
theorem zi189_46 {E : zE} {x : Nat} {v : Value} {ls sk : List Value} {h : zH} : zrun zpp E 189 (46, ls, v :: .ref x :: sk, h) = (zstf [11] 0 h x 8 v).bind (fun h' => zrun zpp E 189 (49, ls, sk, h')) := zg_putf rfl
theorem zi189_49 {E : zE} {ls sk : List Value} {h : zH} : zrun zpp E 189 (49, ls, sk, h) = zrun zpp E 189 (50, ls, .int 0 :: sk, h) := zg_iconst rfl ci_0
theorem zi189_50 {E : zE} {x : Int32} {ls sk : List Value} {h : zH} : zrun zpp E 189 (50, ls, .int x :: sk, h) = if zfree ls 1 = true then zrun zpp E 189 (51, ls.set 1 (.int x), sk, h) else none := zg_ist rfl (fun _ _ _ => rfl)
theorem zi189_51 {E : zE} {v0 : Value} {x : Int32} {ls sk : List Value} {h : zH} : zrun zpp E 189 (51, v0 :: .int x :: ls, sk, h) = zrun zpp E 189 (52, v0 :: .int x :: ls, .int x :: sk, h) := zrun_at rfl
theorem zi189_52 {E : zE} {ls sk : List Value} {h : zH} : zrun zpp E 189 (52, ls, sk, h) = zrun zpp E 189 (54, ls, .int 73 :: sk, h) := zg_bipush rfl ci_73
theorem zi189_54 {E : zE} {x y : Int32} {ls sk : List Value} {h : zH} : zrun zpp E 189 (54, ls, .int y :: .int x :: sk, h) = if y ≤ x then zrun zpp E 189 (83, ls, sk, h) else zrun zpp E 189 (57, ls, sk, h) := zrun_at rfl
theorem zi189_57 {E : zE} {x : Nat} {ls sk : List Value} {h : zH} : zrun zpp E 189 (57, .ref x :: ls, sk, h) = zrun zpp E 189 (58, .ref x :: ls, .ref x :: sk, h) := zrun_at rfl
theorem zi189_57n {E : zE} {ls sk : List Value} {h : zH} : zrun zpp E 189 (57, .null :: ls, sk, h) = zrun zpp E 189 (58, .null :: ls, .null :: sk, h) := zrun_at rfl
theorem zi189_58 {E : zE} {x : Nat} {ls sk : List Value} {h : zH} : zrun zpp E 189 (58, ls, .ref x :: sk, h) = (zfld [11] h x 7).bind (fun v => zrun zpp E 189 (61, ls, v :: sk, h)) := zg_getf rfl
theorem zi189_61 {E : zE} {ls sk : List Value} {h : zH} : zrun zpp E 189 (61, ls, sk, h) = zrun zpp E 189 (63, ls, .int 73 :: sk, h) := zg_bipush rfl ci_73
theorem zi189_63 {E : zE} {x : Nat} {ls sk : List Value} {h : zH} : zrun zpp E 189 (63, .ref x :: ls, sk, h) = zrun zpp E 189 (64, .ref x :: ls, .ref x :: sk, h) := zrun_at rfl
theorem zi189_63n {E : zE} {ls sk : List Value} {h : zH} : zrun zpp E 189 (63, .null :: ls, sk, h) = zrun zpp E 189 (64, .null :: ls, .null :: sk, h) := zrun_at rfl
theorem zi189_64 {E : zE} {x : Nat} {ls sk : List Value} {h : zH} : zrun zpp E 189 (64, ls, .ref x :: sk, h) = (zfld [11] h x 8).bind (fun v => zrun zpp E 189 (67, ls, v :: sk, h)) := zg_getf rfl
theorem zi189_67 {E : zE} {x y : Int32} {ls sk : List Value} {h : zH} : zrun zpp E 189 (67, ls, .int y :: .int x :: sk, h) = zrun zpp E 189 (68, ls, .int (x * y) :: sk, h) := zrun_at rfl
theorem zi189_68 {E : zE} {v0 : Value} {x : Int32} {ls sk : List Value} {h : zH} : zrun zpp E 189 (68, v0 :: .int x :: ls, sk, h) = zrun zpp E 189 (69, v0 :: .int x :: ls, .int x :: sk, h) := zrun_at rfl
theorem zi189_69 {E : zE} {x y : Int32} {ls sk : List Value} {h : zH} : zrun zpp E 189 (69, ls, .int y :: .int x :: sk, h) = zrun zpp E 189 (70, ls, .int (x + y) :: sk, h) := zrun_at rfl
theorem zi189_70 {E : zE} {x : Nat} {ls sk : List Value} {h : zH} : zrun zpp E 189 (70, .ref x :: ls, sk, h) = zrun zpp E 189 (71, .ref x :: ls, .ref x :: sk, h) := zrun_at rfl
theorem zi189_70n {E : zE} {ls sk : List Value} {h : zH} : zrun zpp E 189 (70, .null :: ls, sk, h) = zrun zpp E 189 (71, .null :: ls, .null :: sk, h) := zrun_at rfl
theorem zi189_71 {E : zE} {x : Nat} {ls sk : List Value} {h : zH} : zrun zpp E 189 (71, ls, .ref x :: sk, h) = (zfld [11] h x 5).bind (fun v => zrun zpp E 189 (74, ls, v :: sk, h)) := zg_getf rfl
theorem zi189_74 {E : zE} {v0 : Value} {x : Int32} {ls sk : List Value} {h : zH} : zrun zpp E 189 (74, v0 :: .int x :: ls, sk, h) = zrun zpp E 189 (75, v0 :: .int x :: ls, .int x :: sk, h) := zrun_at rfl
theorem zi189_75 {E : zE} {x : Nat} {i : Int32} {ls sk : List Value} {h : zH} : zrun zpp E 189 (75, ls, .int i :: .ref x :: sk, h) = (zarr 0 h x i).bind (fun v => zrun zpp E 189 (76, ls, .int v :: sk, h)) := zg_iald rfl
theorem zi189_76 {E : zE} {x : Nat} {i v : Int32} {ls sk : List Value} {h : zH} : zrun zpp E 189 (76, ls, .int v :: .int i :: .ref x :: sk, h) = (zars 0 h x i v).bind (fun h' => zrun zpp E 189 (77, ls, sk, h')) := zg_iast rfl
theorem zi189_77 {E : zE} {v0 : Value} {x : Int32} {ls sk : List Value} {h : zH} : zrun zpp E 189 (77, v0 :: .int x :: ls, sk, h) = if zfree (v0 :: .int x :: ls) 1 = true then zrun zpp E 189 (80, v0 :: .int (x + 1) :: ls, sk, h) else none := by rw [← ci_1]; exact zrun_at rfl
theorem zi189_80 {E : zE} {ls sk : List Value} {h : zH} : zrun zpp E 189 (80, ls, sk, h) = zrun zpp E 189 (51, ls, sk, h) := zrun_at rfl
theorem zi189_83 {E : zE} {x : Nat} {ls sk : List Value} {h : zH} : zrun zpp E 189 (83, .ref x :: ls, sk, h) = zrun zpp E 189 (84, .ref x :: ls, .ref x :: sk, h) := zrun_at rfl
theorem zi189_83n {E : zE} {ls sk : List Value} {h : zH} : zrun zpp E 189 (83, .null :: ls, sk, h) = zrun zpp E 189 (84, .null :: ls, .null :: sk, h) := zrun_at rfl
theorem zi189_84 {E : zE} {x : Nat} {ls sk : List Value} {h : zH} : zrun zpp E 189 (84, ls, .ref x :: sk, h) = zrun zpp E 189 (85, ls, .ref x :: .ref x :: sk, h) := zrun_at rfl
theorem zi189_84i {E : zE} {x : Int32} {ls sk : List Value} {h : zH} : zrun zpp E 189 (84, ls, .int x :: sk, h) = zrun zpp E 189 (85, ls, .int x :: .int x :: sk, h) := zrun_at rfl
theorem zi189_85 {E : zE} {x : Nat} {ls sk : List Value} {h : zH} : zrun zpp E 189 (85, ls, .ref x :: sk, h) = (zfld [11] h x 8).bind (fun v => zrun zpp E 189 (88, ls, v :: sk, h)) := zg_getf rfl
theorem zi189_88 {E : zE} {ls sk : List Value} {h : zH} : zrun zpp E 189 (88, ls, sk, h) = zrun zpp E 189 (89, ls, .int 1 :: sk, h) := zg_iconst rfl ci_1
theorem zi189_89 {E : zE} {x y : Int32} {ls sk : List Value} {h : zH} : zrun zpp E 189 (89, ls, .int y :: .int x :: sk, h) = zrun zpp E 189 (90, ls, .int (x + y) :: sk, h) := zrun_at rfl
theorem zi189_90 {E : zE} {x : Nat} {v : Value} {ls sk : List Value} {h : zH} : zrun zpp E 189 (90, ls, v :: .ref x :: sk, h) = (zstf [11] 0 h x 8 v).bind (fun h' => zrun zpp E 189 (93, ls, sk, h')) := zg_putf rfl
theorem zi189_93 {E : zE} {ls sk : List Value} {h : zH} : zrun zpp E 189 (93, ls, [], h) = some (none, h) := zrun_at rfl
