-- 76 NineDown$Yard.turn
theorem zi76_0 {E : zE} {x : Nat} {ls sk : List Value} {h : zH} : zrun zpp E 76 (0, .ref x :: ls, sk, h) = zrun zpp E 76 (1, .ref x :: ls, .ref x :: sk, h) := zrun_at rfl
theorem zi76_0n {E : zE} {ls sk : List Value} {h : zH} : zrun zpp E 76 (0, .null :: ls, sk, h) = zrun zpp E 76 (1, .null :: ls, .null :: sk, h) := zrun_at rfl
theorem zi76_1 {E : zE} {x : Nat} {ls sk : List Value} {h : zH} : zrun zpp E 76 (1, ls, .ref x :: sk, h) = zrun zpp E 76 (2, ls, .ref x :: .ref x :: sk, h) := zrun_at rfl
theorem zi76_1i {E : zE} {x : Int32} {ls sk : List Value} {h : zH} : zrun zpp E 76 (1, ls, .int x :: sk, h) = zrun zpp E 76 (2, ls, .int x :: .int x :: sk, h) := zrun_at rfl
theorem zi76_2 {E : zE} {x : Nat} {ls sk : List Value} {h : zH} : zrun zpp E 76 (2, ls, .ref x :: sk, h) = (zfld [9] h x 14).bind (fun v => zrun zpp E 76 (5, ls, v :: sk, h)) := zg_getf rfl
theorem zi76_5 {E : zE} {ls sk : List Value} {h : zH} : zrun zpp E 76 (5, ls, sk, h) = zrun zpp E 76 (6, ls, .int 1 :: sk, h) := zg_iconst rfl ci_1
theorem zi76_6 {E : zE} {v0 : Value} {x : Int32} {ls sk : List Value} {h : zH} : zrun zpp E 76 (6, v0 :: .int x :: ls, sk, h) = zrun zpp E 76 (7, v0 :: .int x :: ls, .int x :: sk, h) := zrun_at rfl
theorem zi76_7 {E : zE} {x y : Int32} {ls sk : List Value} {h : zH} : zrun zpp E 76 (7, ls, .int y :: .int x :: sk, h) = zrun zpp E 76 (8, ls, .int (x <<< (y &&& 31)) :: sk, h) := zrun_at rfl
theorem zi76_8 {E : zE} {x y : Int32} {ls sk : List Value} {h : zH} : zrun zpp E 76 (8, ls, .int y :: .int x :: sk, h) = zrun zpp E 76 (9, ls, .int (x ^^^ y) :: sk, h) := zrun_at rfl
theorem zi76_9 {E : zE} {x : Nat} {v : Value} {ls sk : List Value} {h : zH} : zrun zpp E 76 (9, ls, v :: .ref x :: sk, h) = (zstf [9] 0 h x 14 v).bind (fun h' => zrun zpp E 76 (12, ls, sk, h')) := zg_putf rfl
theorem zi76_12 {E : zE} {x : Nat} {ls sk : List Value} {h : zH} : zrun zpp E 76 (12, .ref x :: ls, sk, h) = zrun zpp E 76 (13, .ref x :: ls, .ref x :: sk, h) := zrun_at rfl
theorem zi76_12n {E : zE} {ls sk : List Value} {h : zH} : zrun zpp E 76 (12, .null :: ls, sk, h) = zrun zpp E 76 (13, .null :: ls, .null :: sk, h) := zrun_at rfl
theorem zi76_13 {E : zE} {x : Nat} {ls sk : List Value} {h : zH} : zrun zpp E 76 (13, ls, .ref x :: sk, h) = (zfld [9] h x 9).bind (fun v => zrun zpp E 76 (16, ls, v :: sk, h)) := zg_getf rfl
theorem zi76_16 {E : zE} {x : Nat} {ls sk : List Value} {h : zH} : zrun zpp E 76 (16, .ref x :: ls, sk, h) = zrun zpp E 76 (17, .ref x :: ls, .ref x :: sk, h) := zrun_at rfl
theorem zi76_16n {E : zE} {ls sk : List Value} {h : zH} : zrun zpp E 76 (16, .null :: ls, sk, h) = zrun zpp E 76 (17, .null :: ls, .null :: sk, h) := zrun_at rfl
theorem zi76_17 {E : zE} {x : Nat} {ls sk : List Value} {h : zH} : zrun zpp E 76 (17, ls, .ref x :: sk, h) = (zfld [9] h x 11).bind (fun v => zrun zpp E 76 (20, ls, v :: sk, h)) := zg_getf rfl
theorem zi76_20 {E : zE} {v0 : Value} {x : Int32} {ls sk : List Value} {h : zH} : zrun zpp E 76 (20, v0 :: .int x :: ls, sk, h) = zrun zpp E 76 (21, v0 :: .int x :: ls, .int x :: sk, h) := zrun_at rfl
theorem zi76_21 {E : zE} {x : Nat} {i : Int32} {ls sk : List Value} {h : zH} : zrun zpp E 76 (21, ls, .int i :: .ref x :: sk, h) = (zarr 0 h x i).bind (fun v => zrun zpp E 76 (22, ls, .int v :: sk, h)) := zg_iald rfl
theorem zi76_22 {E : zE} {x : Int32} {y : Nat} {ls sk : List Value} {h : zH} : zrun zpp E 76 (22, ls, .int x :: .ref y :: sk, h) = zrun zpp E 76 (23, ls, .int x :: .ref y :: .int x :: .ref y :: sk, h) := zrun_at rfl
theorem zi76_23 {E : zE} {x : Nat} {i : Int32} {ls sk : List Value} {h : zH} : zrun zpp E 76 (23, ls, .int i :: .ref x :: sk, h) = (zarr 0 h x i).bind (fun v => zrun zpp E 76 (24, ls, .int v :: sk, h)) := zg_iald rfl
theorem zi76_24 {E : zE} {ls sk : List Value} {h : zH} : zrun zpp E 76 (24, ls, sk, h) = zrun zpp E 76 (25, ls, .int 1 :: sk, h) := zg_iconst rfl ci_1
theorem zi76_25 {E : zE} {x : Nat} {ls sk : List Value} {h : zH} : zrun zpp E 76 (25, .ref x :: ls, sk, h) = zrun zpp E 76 (26, .ref x :: ls, .ref x :: sk, h) := zrun_at rfl
theorem zi76_25n {E : zE} {ls sk : List Value} {h : zH} : zrun zpp E 76 (25, .null :: ls, sk, h) = zrun zpp E 76 (26, .null :: ls, .null :: sk, h) := zrun_at rfl
theorem zi76_26 {E : zE} {x : Nat} {ls sk : List Value} {h : zH} : zrun zpp E 76 (26, ls, .ref x :: sk, h) = (zfld [9] h x 12).bind (fun v => zrun zpp E 76 (29, ls, v :: sk, h)) := zg_getf rfl
theorem zi76_29 {E : zE} {v0 : Value} {x : Int32} {ls sk : List Value} {h : zH} : zrun zpp E 76 (29, v0 :: .int x :: ls, sk, h) = zrun zpp E 76 (30, v0 :: .int x :: ls, .int x :: sk, h) := zrun_at rfl
theorem zi76_30 {E : zE} {x : Nat} {i : Int32} {ls sk : List Value} {h : zH} : zrun zpp E 76 (30, ls, .int i :: .ref x :: sk, h) = (zarr 0 h x i).bind (fun v => zrun zpp E 76 (31, ls, .int v :: sk, h)) := zg_iald rfl
theorem zi76_31 {E : zE} {x y : Int32} {ls sk : List Value} {h : zH} : zrun zpp E 76 (31, ls, .int y :: .int x :: sk, h) = zrun zpp E 76 (32, ls, .int (x <<< (y &&& 31)) :: sk, h) := zrun_at rfl
theorem zi76_32 {E : zE} {x y : Int32} {ls sk : List Value} {h : zH} : zrun zpp E 76 (32, ls, .int y :: .int x :: sk, h) = zrun zpp E 76 (33, ls, .int (x ^^^ y) :: sk, h) := zrun_at rfl
theorem zi76_33 {E : zE} {x : Nat} {i v : Int32} {ls sk : List Value} {h : zH} : zrun zpp E 76 (33, ls, .int v :: .int i :: .ref x :: sk, h) = (zars 0 h x i v).bind (fun h' => zrun zpp E 76 (34, ls, sk, h')) := zg_iast rfl
theorem zi76_34 {E : zE} {x : Nat} {ls sk : List Value} {h : zH} : zrun zpp E 76 (34, .ref x :: ls, sk, h) = zrun zpp E 76 (35, .ref x :: ls, .ref x :: sk, h) := zrun_at rfl
theorem zi76_34n {E : zE} {ls sk : List Value} {h : zH} : zrun zpp E 76 (34, .null :: ls, sk, h) = zrun zpp E 76 (35, .null :: ls, .null :: sk, h) := zrun_at rfl
theorem zi76_35 {E : zE} {x : Nat} {ls sk : List Value} {h : zH} : zrun zpp E 76 (35, ls, .ref x :: sk, h) = (zfld [9] h x 9).bind (fun v => zrun zpp E 76 (38, ls, v :: sk, h)) := zg_getf rfl
theorem zi76_38 {E : zE} {x : Nat} {ls sk : List Value} {h : zH} : zrun zpp E 76 (38, .ref x :: ls, sk, h) = zrun zpp E 76 (39, .ref x :: ls, .ref x :: sk, h) := zrun_at rfl
theorem zi76_38n {E : zE} {ls sk : List Value} {h : zH} : zrun zpp E 76 (38, .null :: ls, sk, h) = zrun zpp E 76 (39, .null :: ls, .null :: sk, h) := zrun_at rfl
theorem zi76_39 {E : zE} {x : Nat} {ls sk : List Value} {h : zH} : zrun zpp E 76 (39, ls, .ref x :: sk, h) = (zfld [9] h x 12).bind (fun v => zrun zpp E 76 (42, ls, v :: sk, h)) := zg_getf rfl
theorem zi76_42 {E : zE} {v0 : Value} {x : Int32} {ls sk : List Value} {h : zH} : zrun zpp E 76 (42, v0 :: .int x :: ls, sk, h) = zrun zpp E 76 (43, v0 :: .int x :: ls, .int x :: sk, h) := zrun_at rfl
theorem zi76_43 {E : zE} {x : Nat} {i : Int32} {ls sk : List Value} {h : zH} : zrun zpp E 76 (43, ls, .int i :: .ref x :: sk, h) = (zarr 0 h x i).bind (fun v => zrun zpp E 76 (44, ls, .int v :: sk, h)) := zg_iald rfl
theorem zi76_44 {E : zE} {x : Int32} {y : Nat} {ls sk : List Value} {h : zH} : zrun zpp E 76 (44, ls, .int x :: .ref y :: sk, h) = zrun zpp E 76 (45, ls, .int x :: .ref y :: .int x :: .ref y :: sk, h) := zrun_at rfl
theorem zi76_45 {E : zE} {x : Nat} {i : Int32} {ls sk : List Value} {h : zH} : zrun zpp E 76 (45, ls, .int i :: .ref x :: sk, h) = (zarr 0 h x i).bind (fun v => zrun zpp E 76 (46, ls, .int v :: sk, h)) := zg_iald rfl
theorem zi76_46 {E : zE} {ls sk : List Value} {h : zH} : zrun zpp E 76 (46, ls, sk, h) = zrun zpp E 76 (47, ls, .int 1 :: sk, h) := zg_iconst rfl ci_1
theorem zi76_47 {E : zE} {x : Nat} {ls sk : List Value} {h : zH} : zrun zpp E 76 (47, .ref x :: ls, sk, h) = zrun zpp E 76 (48, .ref x :: ls, .ref x :: sk, h) := zrun_at rfl
theorem zi76_47n {E : zE} {ls sk : List Value} {h : zH} : zrun zpp E 76 (47, .null :: ls, sk, h) = zrun zpp E 76 (48, .null :: ls, .null :: sk, h) := zrun_at rfl
theorem zi76_48 {E : zE} {x : Nat} {ls sk : List Value} {h : zH} : zrun zpp E 76 (48, ls, .ref x :: sk, h) = (zfld [9] h x 11).bind (fun v => zrun zpp E 76 (51, ls, v :: sk, h)) := zg_getf rfl
theorem zi76_51 {E : zE} {v0 : Value} {x : Int32} {ls sk : List Value} {h : zH} : zrun zpp E 76 (51, v0 :: .int x :: ls, sk, h) = zrun zpp E 76 (52, v0 :: .int x :: ls, .int x :: sk, h) := zrun_at rfl
theorem zi76_52 {E : zE} {x : Nat} {i : Int32} {ls sk : List Value} {h : zH} : zrun zpp E 76 (52, ls, .int i :: .ref x :: sk, h) = (zarr 0 h x i).bind (fun v => zrun zpp E 76 (53, ls, .int v :: sk, h)) := zg_iald rfl
theorem zi76_53 {E : zE} {x y : Int32} {ls sk : List Value} {h : zH} : zrun zpp E 76 (53, ls, .int y :: .int x :: sk, h) = zrun zpp E 76 (54, ls, .int (x <<< (y &&& 31)) :: sk, h) := zrun_at rfl
theorem zi76_54 {E : zE} {x y : Int32} {ls sk : List Value} {h : zH} : zrun zpp E 76 (54, ls, .int y :: .int x :: sk, h) = zrun zpp E 76 (55, ls, .int (x ^^^ y) :: sk, h) := zrun_at rfl
theorem zi76_55 {E : zE} {x : Nat} {i v : Int32} {ls sk : List Value} {h : zH} : zrun zpp E 76 (55, ls, .int v :: .int i :: .ref x :: sk, h) = (zars 0 h x i v).bind (fun h' => zrun zpp E 76 (56, ls, sk, h')) := zg_iast rfl
theorem zi76_56 {E : zE} {ls sk : List Value} {h : zH} : zrun zpp E 76 (56, ls, [], h) = some (none, h) := zrun_at rfl
-- 77 NineDown$Yard.isFree
theorem zi77_0 {E : zE} {v0 v1 : Value} {x : Int32} {ls sk : List Value} {h : zH} : zrun zpp E 77 (0, v0 :: v1 :: .int x :: ls, sk, h) = zrun zpp E 77 (1, v0 :: v1 :: .int x :: ls, .int x :: sk, h) := zrun_at rfl
theorem zi77_1 {E : zE} {v0 : Value} {x : Int32} {ls sk : List Value} {h : zH} : zrun zpp E 77 (1, v0 :: .int x :: ls, sk, h) = zrun zpp E 77 (2, v0 :: .int x :: ls, .int x :: sk, h) := zrun_at rfl
theorem zi77_2 {E : zE} {a0 a1 : Value} {ls sk : List Value} {h : zH} : zrun zpp E 77 (2, ls, a1 :: a0 :: sk, h) = zcl1 E 77 5 127 ls sk [a0, a1] h := zg_inv (as := [a0, a1]) rfl rfl
theorem zi77_5 {E : zE} {x : Int32} {ls sk : List Value} {h : zH} : zrun zpp E 77 (5, ls, .int x :: sk, h) = if x = 0 then zrun zpp E 77 (23, ls, sk, h) else zrun zpp E 77 (8, ls, sk, h) := zrun_at rfl
theorem zi77_8 {E : zE} {x : Nat} {ls sk : List Value} {h : zH} : zrun zpp E 77 (8, .ref x :: ls, sk, h) = zrun zpp E 77 (9, .ref x :: ls, .ref x :: sk, h) := zrun_at rfl
theorem zi77_8n {E : zE} {ls sk : List Value} {h : zH} : zrun zpp E 77 (8, .null :: ls, sk, h) = zrun zpp E 77 (9, .null :: ls, .null :: sk, h) := zrun_at rfl
theorem zi77_9 {E : zE} {x : Nat} {ls sk : List Value} {h : zH} : zrun zpp E 77 (9, ls, .ref x :: sk, h) = (zfld [9] h x 8).bind (fun v => zrun zpp E 77 (12, ls, v :: sk, h)) := zg_getf rfl
theorem zi77_12 {E : zE} {v0 : Value} {x : Int32} {ls sk : List Value} {h : zH} : zrun zpp E 77 (12, v0 :: .int x :: ls, sk, h) = zrun zpp E 77 (13, v0 :: .int x :: ls, .int x :: sk, h) := zrun_at rfl
theorem zi77_13 {E : zE} {x : Nat} {i : Int32} {ls sk : List Value} {h : zH} : zrun zpp E 77 (13, ls, .int i :: .ref x :: sk, h) = (zarr 0 h x i).bind (fun v => zrun zpp E 77 (14, ls, .int v :: sk, h)) := zg_iald rfl
theorem zi77_14 {E : zE} {v0 v1 : Value} {x : Int32} {ls sk : List Value} {h : zH} : zrun zpp E 77 (14, v0 :: v1 :: .int x :: ls, sk, h) = zrun zpp E 77 (15, v0 :: v1 :: .int x :: ls, .int x :: sk, h) := zrun_at rfl
theorem zi77_15 {E : zE} {x y : Int32} {ls sk : List Value} {h : zH} : zrun zpp E 77 (15, ls, .int y :: .int x :: sk, h) = zrun zpp E 77 (16, ls, .int (x &&& y) :: sk, h) := zrun_at rfl
theorem zi77_16 {E : zE} {x : Int32} {ls sk : List Value} {h : zH} : zrun zpp E 77 (16, ls, .int x :: sk, h) = if x = 0 then zrun zpp E 77 (19, ls, sk, h) else zrun zpp E 77 (23, ls, sk, h) := zrun_at rfl
theorem zi77_19 {E : zE} {ls sk : List Value} {h : zH} : zrun zpp E 77 (19, ls, sk, h) = zrun zpp E 77 (20, ls, .int 1 :: sk, h) := zg_iconst rfl ci_1
theorem zi77_20 {E : zE} {ls sk : List Value} {h : zH} : zrun zpp E 77 (20, ls, sk, h) = zrun zpp E 77 (24, ls, sk, h) := zrun_at rfl
theorem zi77_23 {E : zE} {ls sk : List Value} {h : zH} : zrun zpp E 77 (23, ls, sk, h) = zrun zpp E 77 (24, ls, .int 0 :: sk, h) := zg_iconst rfl ci_0
theorem zi77_24 {E : zE} {x : Int32} {ls sk : List Value} {h : zH} : zrun zpp E 77 (24, ls, [.int x], h) = if x = 0 then some (some (.int 0), h) else if x = 1 then some (some (.int 1), h) else none := zrun_at rfl
-- 78 NineDown$Yard.freeOnes
theorem zi78_0 {E : zE} {ls sk : List Value} {h : zH} : zrun zpp E 78 (0, ls, sk, h) = zrun zpp E 78 (1, ls, .int 0 :: sk, h) := zg_iconst rfl ci_0
theorem zi78_1 {E : zE} {x : Int32} {ls sk : List Value} {h : zH} : zrun zpp E 78 (1, ls, .int x :: sk, h) = if zfree ls 1 = true then zrun zpp E 78 (2, ls.set 1 (.int x), sk, h) else none := zg_ist rfl (fun _ _ _ => rfl)
theorem zi78_2 {E : zE} {ls sk : List Value} {h : zH} : zrun zpp E 78 (2, ls, sk, h) = zrun zpp E 78 (3, ls, .int 0 :: sk, h) := zg_iconst rfl ci_0
theorem zi78_3 {E : zE} {x : Int32} {ls sk : List Value} {h : zH} : zrun zpp E 78 (3, ls, .int x :: sk, h) = if zfree ls 2 = true then zrun zpp E 78 (4, ls.set 2 (.int x), sk, h) else none := zg_ist rfl (fun _ _ _ => rfl)
theorem zi78_4 {E : zE} {v0 v1 : Value} {x : Int32} {ls sk : List Value} {h : zH} : zrun zpp E 78 (4, v0 :: v1 :: .int x :: ls, sk, h) = zrun zpp E 78 (5, v0 :: v1 :: .int x :: ls, .int x :: sk, h) := zrun_at rfl
theorem zi78_5 {E : zE} {x : Nat} {ls sk : List Value} {h : zH} : zrun zpp E 78 (5, .ref x :: ls, sk, h) = zrun zpp E 78 (6, .ref x :: ls, .ref x :: sk, h) := zrun_at rfl
theorem zi78_5n {E : zE} {ls sk : List Value} {h : zH} : zrun zpp E 78 (5, .null :: ls, sk, h) = zrun zpp E 78 (6, .null :: ls, .null :: sk, h) := zrun_at rfl
theorem zi78_6 {E : zE} {x : Nat} {ls sk : List Value} {h : zH} : zrun zpp E 78 (6, ls, .ref x :: sk, h) = (zfld [9] h x 3).bind (fun v => zrun zpp E 78 (9, ls, v :: sk, h)) := zg_getf rfl
theorem zi78_9 {E : zE} {x y : Int32} {ls sk : List Value} {h : zH} : zrun zpp E 78 (9, ls, .int y :: .int x :: sk, h) = if y ≤ x then zrun zpp E 78 (40, ls, sk, h) else zrun zpp E 78 (12, ls, sk, h) := zrun_at rfl
theorem zi78_12 {E : zE} {v0 : Value} {x : Int32} {ls sk : List Value} {h : zH} : zrun zpp E 78 (12, v0 :: .int x :: ls, sk, h) = zrun zpp E 78 (13, v0 :: .int x :: ls, .int x :: sk, h) := zrun_at rfl
theorem zi78_13 {E : zE} {x : Nat} {ls sk : List Value} {h : zH} : zrun zpp E 78 (13, .ref x :: ls, sk, h) = zrun zpp E 78 (14, .ref x :: ls, .ref x :: sk, h) := zrun_at rfl
theorem zi78_13n {E : zE} {ls sk : List Value} {h : zH} : zrun zpp E 78 (13, .null :: ls, sk, h) = zrun zpp E 78 (14, .null :: ls, .null :: sk, h) := zrun_at rfl
theorem zi78_14 {E : zE} {v0 v1 : Value} {x : Int32} {ls sk : List Value} {h : zH} : zrun zpp E 78 (14, v0 :: v1 :: .int x :: ls, sk, h) = zrun zpp E 78 (15, v0 :: v1 :: .int x :: ls, .int x :: sk, h) := zrun_at rfl
theorem zi78_15 {E : zE} {x : Nat} {ls sk : List Value} {h : zH} : zrun zpp E 78 (15, .ref x :: ls, sk, h) = zrun zpp E 78 (16, .ref x :: ls, .ref x :: sk, h) := zrun_at rfl
theorem zi78_15n {E : zE} {ls sk : List Value} {h : zH} : zrun zpp E 78 (15, .null :: ls, sk, h) = zrun zpp E 78 (16, .null :: ls, .null :: sk, h) := zrun_at rfl
theorem zi78_16 {E : zE} {x : Nat} {ls sk : List Value} {h : zH} : zrun zpp E 78 (16, ls, .ref x :: sk, h) = (zfld [9] h x 15).bind (fun v => zrun zpp E 78 (19, ls, v :: sk, h)) := zg_getf rfl
theorem zi78_19 {E : zE} {a0 a1 : Value} {x : Nat} {ls sk : List Value} {h : zH} : zrun zpp E 78 (19, ls, a1 :: a0 :: .ref x :: sk, h) = (zcls h x).bind (fun d => (zsel d [9, 77]).bind (fun M' => zcl1 E 78 22 M' ls sk [.ref x, a0, a1] h)) := zg_vir (as := [a0, a1]) rfl rfl
theorem zi78_22 {E : zE} {x : Int32} {ls sk : List Value} {h : zH} : zrun zpp E 78 (22, ls, .int x :: sk, h) = if x = 0 then zrun zpp E 78 (31, ls, sk, h) else zrun zpp E 78 (25, ls, sk, h) := zrun_at rfl
theorem zi78_25 {E : zE} {ls sk : List Value} {h : zH} : zrun zpp E 78 (25, ls, sk, h) = zrun zpp E 78 (26, ls, .int 1 :: sk, h) := zg_iconst rfl ci_1
theorem zi78_26 {E : zE} {v0 v1 : Value} {x : Int32} {ls sk : List Value} {h : zH} : zrun zpp E 78 (26, v0 :: v1 :: .int x :: ls, sk, h) = zrun zpp E 78 (27, v0 :: v1 :: .int x :: ls, .int x :: sk, h) := zrun_at rfl
theorem zi78_27 {E : zE} {x y : Int32} {ls sk : List Value} {h : zH} : zrun zpp E 78 (27, ls, .int y :: .int x :: sk, h) = zrun zpp E 78 (28, ls, .int (x <<< (y &&& 31)) :: sk, h) := zrun_at rfl
theorem zi78_28 {E : zE} {ls sk : List Value} {h : zH} : zrun zpp E 78 (28, ls, sk, h) = zrun zpp E 78 (32, ls, sk, h) := zrun_at rfl
theorem zi78_31 {E : zE} {ls sk : List Value} {h : zH} : zrun zpp E 78 (31, ls, sk, h) = zrun zpp E 78 (32, ls, .int 0 :: sk, h) := zg_iconst rfl ci_0
theorem zi78_32 {E : zE} {x y : Int32} {ls sk : List Value} {h : zH} : zrun zpp E 78 (32, ls, .int y :: .int x :: sk, h) = zrun zpp E 78 (33, ls, .int (x ||| y) :: sk, h) := zrun_at rfl
theorem zi78_33 {E : zE} {x : Int32} {ls sk : List Value} {h : zH} : zrun zpp E 78 (33, ls, .int x :: sk, h) = if zfree ls 1 = true then zrun zpp E 78 (34, ls.set 1 (.int x), sk, h) else none := zg_ist rfl (fun _ _ _ => rfl)
theorem zi78_34 {E : zE} {v0 v1 : Value} {x : Int32} {ls sk : List Value} {h : zH} : zrun zpp E 78 (34, v0 :: v1 :: .int x :: ls, sk, h) = if zfree (v0 :: v1 :: .int x :: ls) 2 = true then zrun zpp E 78 (37, v0 :: v1 :: .int (x + 1) :: ls, sk, h) else none := by rw [← ci_1]; exact zrun_at rfl
theorem zi78_37 {E : zE} {ls sk : List Value} {h : zH} : zrun zpp E 78 (37, ls, sk, h) = zrun zpp E 78 (4, ls, sk, h) := zrun_at rfl
theorem zi78_40 {E : zE} {v0 : Value} {x : Int32} {ls sk : List Value} {h : zH} : zrun zpp E 78 (40, v0 :: .int x :: ls, sk, h) = zrun zpp E 78 (41, v0 :: .int x :: ls, .int x :: sk, h) := zrun_at rfl
theorem zi78_41 {E : zE} {x : Int32} {ls sk : List Value} {h : zH} : zrun zpp E 78 (41, ls, [.int x], h) = some (some (.int x), h) := zrun_at rfl
-- 79 NineDown$Yard.catches
theorem zi79_0 {E : zE} {v0 v1 : Value} {x : Int32} {ls sk : List Value} {h : zH} : zrun zpp E 79 (0, v0 :: v1 :: .int x :: ls, sk, h) = zrun zpp E 79 (1, v0 :: v1 :: .int x :: ls, .int x :: sk, h) := zrun_at rfl
theorem zi79_1 {E : zE} {v0 : Value} {x : Int32} {ls sk : List Value} {h : zH} : zrun zpp E 79 (1, v0 :: .int x :: ls, sk, h) = zrun zpp E 79 (2, v0 :: .int x :: ls, .int x :: sk, h) := zrun_at rfl
theorem zi79_2 {E : zE} {a0 a1 : Value} {ls sk : List Value} {h : zH} : zrun zpp E 79 (2, ls, a1 :: a0 :: sk, h) = zcl1 E 79 5 127 ls sk [a0, a1] h := zg_inv (as := [a0, a1]) rfl rfl
theorem zi79_5 {E : zE} {x : Int32} {ls sk : List Value} {h : zH} : zrun zpp E 79 (5, ls, .int x :: sk, h) = if x = 0 then zrun zpp E 79 (22, ls, sk, h) else zrun zpp E 79 (8, ls, sk, h) := zrun_at rfl
theorem zi79_8 {E : zE} {x : Nat} {ls sk : List Value} {h : zH} : zrun zpp E 79 (8, .ref x :: ls, sk, h) = zrun zpp E 79 (9, .ref x :: ls, .ref x :: sk, h) := zrun_at rfl
theorem zi79_8n {E : zE} {ls sk : List Value} {h : zH} : zrun zpp E 79 (8, .null :: ls, sk, h) = zrun zpp E 79 (9, .null :: ls, .null :: sk, h) := zrun_at rfl
theorem zi79_9 {E : zE} {x : Nat} {ls sk : List Value} {h : zH} : zrun zpp E 79 (9, ls, .ref x :: sk, h) = (zfld [9] h x 9).bind (fun v => zrun zpp E 79 (12, ls, v :: sk, h)) := zg_getf rfl
theorem zi79_12 {E : zE} {v0 : Value} {x : Int32} {ls sk : List Value} {h : zH} : zrun zpp E 79 (12, v0 :: .int x :: ls, sk, h) = zrun zpp E 79 (13, v0 :: .int x :: ls, .int x :: sk, h) := zrun_at rfl
theorem zi79_13 {E : zE} {x : Nat} {i : Int32} {ls sk : List Value} {h : zH} : zrun zpp E 79 (13, ls, .int i :: .ref x :: sk, h) = (zarr 0 h x i).bind (fun v => zrun zpp E 79 (14, ls, .int v :: sk, h)) := zg_iald rfl
theorem zi79_14 {E : zE} {v0 v1 : Value} {x : Int32} {ls sk : List Value} {h : zH} : zrun zpp E 79 (14, v0 :: v1 :: .int x :: ls, sk, h) = zrun zpp E 79 (15, v0 :: v1 :: .int x :: ls, .int x :: sk, h) := zrun_at rfl
theorem zi79_15 {E : zE} {x y : Int32} {ls sk : List Value} {h : zH} : zrun zpp E 79 (15, ls, .int y :: .int x :: sk, h) = zrun zpp E 79 (16, ls, .int (x &&& y) :: sk, h) := zrun_at rfl
theorem zi79_16 {E : zE} {a0 : Value} {ls sk : List Value} {h : zH} : zrun zpp E 79 (16, ls, a0 :: sk, h) = zcl1 E 79 19 230 ls sk [a0] h := zg_inv (as := [a0]) rfl rfl
theorem zi79_19 {E : zE} {ls sk : List Value} {h : zH} : zrun zpp E 79 (19, ls, sk, h) = zrun zpp E 79 (23, ls, sk, h) := zrun_at rfl
theorem zi79_22 {E : zE} {ls sk : List Value} {h : zH} : zrun zpp E 79 (22, ls, sk, h) = zrun zpp E 79 (23, ls, .int 0 :: sk, h) := zg_iconst rfl ci_0
theorem zi79_23 {E : zE} {x : Int32} {ls sk : List Value} {h : zH} : zrun zpp E 79 (23, ls, [.int x], h) = some (some (.int x), h) := zrun_at rfl
-- 80 NineDown$Yard.canRaise
theorem zi80_0 {E : zE} {x : Nat} {ls sk : List Value} {h : zH} : zrun zpp E 80 (0, .ref x :: ls, sk, h) = zrun zpp E 80 (1, .ref x :: ls, .ref x :: sk, h) := zrun_at rfl
theorem zi80_0n {E : zE} {ls sk : List Value} {h : zH} : zrun zpp E 80 (0, .null :: ls, sk, h) = zrun zpp E 80 (1, .null :: ls, .null :: sk, h) := zrun_at rfl
theorem zi80_1 {E : zE} {v0 v1 : Value} {x : Int32} {ls sk : List Value} {h : zH} : zrun zpp E 80 (1, v0 :: v1 :: .int x :: ls, sk, h) = zrun zpp E 80 (2, v0 :: v1 :: .int x :: ls, .int x :: sk, h) := zrun_at rfl
theorem zi80_2 {E : zE} {x : Nat} {ls sk : List Value} {h : zH} : zrun zpp E 80 (2, .ref x :: ls, sk, h) = zrun zpp E 80 (3, .ref x :: ls, .ref x :: sk, h) := zrun_at rfl
theorem zi80_2n {E : zE} {ls sk : List Value} {h : zH} : zrun zpp E 80 (2, .null :: ls, sk, h) = zrun zpp E 80 (3, .null :: ls, .null :: sk, h) := zrun_at rfl
theorem zi80_3 {E : zE} {x : Nat} {ls sk : List Value} {h : zH} : zrun zpp E 80 (3, ls, .ref x :: sk, h) = (zfld [9] h x 15).bind (fun v => zrun zpp E 80 (6, ls, v :: sk, h)) := zg_getf rfl
theorem zi80_6 {E : zE} {a0 a1 : Value} {x : Nat} {ls sk : List Value} {h : zH} : zrun zpp E 80 (6, ls, a1 :: a0 :: .ref x :: sk, h) = (zcls h x).bind (fun d => (zsel d [9, 77]).bind (fun M' => zcl1 E 80 9 M' ls sk [.ref x, a0, a1] h)) := zg_vir (as := [a0, a1]) rfl rfl
theorem zi80_9 {E : zE} {x : Int32} {ls sk : List Value} {h : zH} : zrun zpp E 80 (9, ls, .int x :: sk, h) = if x = 0 then zrun zpp E 80 (38, ls, sk, h) else zrun zpp E 80 (12, ls, sk, h) := zrun_at rfl
theorem zi80_12 {E : zE} {v0 : Value} {x : Nat} {ls sk : List Value} {h : zH} : zrun zpp E 80 (12, v0 :: .ref x :: ls, sk, h) = zrun zpp E 80 (13, v0 :: .ref x :: ls, .ref x :: sk, h) := zrun_at rfl
theorem zi80_12n {E : zE} {v0 : Value} {ls sk : List Value} {h : zH} : zrun zpp E 80 (12, v0 :: .null :: ls, sk, h) = zrun zpp E 80 (13, v0 :: .null :: ls, .null :: sk, h) := zrun_at rfl
theorem zi80_13 {E : zE} {x : Nat} {ls sk : List Value} {h : zH} : zrun zpp E 80 (13, .ref x :: ls, sk, h) = zrun zpp E 80 (14, .ref x :: ls, .ref x :: sk, h) := zrun_at rfl
theorem zi80_13n {E : zE} {ls sk : List Value} {h : zH} : zrun zpp E 80 (13, .null :: ls, sk, h) = zrun zpp E 80 (14, .null :: ls, .null :: sk, h) := zrun_at rfl
theorem zi80_14 {E : zE} {x : Nat} {ls sk : List Value} {h : zH} : zrun zpp E 80 (14, ls, .ref x :: sk, h) = (zfld [9] h x 6).bind (fun v => zrun zpp E 80 (17, ls, v :: sk, h)) := zg_getf rfl
theorem zi80_17 {E : zE} {v0 v1 : Value} {x : Int32} {ls sk : List Value} {h : zH} : zrun zpp E 80 (17, v0 :: v1 :: .int x :: ls, sk, h) = zrun zpp E 80 (18, v0 :: v1 :: .int x :: ls, .int x :: sk, h) := zrun_at rfl
theorem zi80_18 {E : zE} {x : Nat} {i : Int32} {ls sk : List Value} {h : zH} : zrun zpp E 80 (18, ls, .int i :: .ref x :: sk, h) = (zarr 0 h x i).bind (fun v => zrun zpp E 80 (19, ls, .int v :: sk, h)) := zg_iald rfl
theorem zi80_19 {E : zE} {x : Nat} {ls sk : List Value} {h : zH} : zrun zpp E 80 (19, .ref x :: ls, sk, h) = zrun zpp E 80 (20, .ref x :: ls, .ref x :: sk, h) := zrun_at rfl
theorem zi80_19n {E : zE} {ls sk : List Value} {h : zH} : zrun zpp E 80 (19, .null :: ls, sk, h) = zrun zpp E 80 (20, .null :: ls, .null :: sk, h) := zrun_at rfl
theorem zi80_20 {E : zE} {v0 v1 : Value} {x : Int32} {ls sk : List Value} {h : zH} : zrun zpp E 80 (20, v0 :: v1 :: .int x :: ls, sk, h) = zrun zpp E 80 (21, v0 :: v1 :: .int x :: ls, .int x :: sk, h) := zrun_at rfl
theorem zi80_21 {E : zE} {x : Nat} {ls sk : List Value} {h : zH} : zrun zpp E 80 (21, .ref x :: ls, sk, h) = zrun zpp E 80 (22, .ref x :: ls, .ref x :: sk, h) := zrun_at rfl
theorem zi80_21n {E : zE} {ls sk : List Value} {h : zH} : zrun zpp E 80 (21, .null :: ls, sk, h) = zrun zpp E 80 (22, .null :: ls, .null :: sk, h) := zrun_at rfl
theorem zi80_22 {E : zE} {x : Nat} {ls sk : List Value} {h : zH} : zrun zpp E 80 (22, ls, .ref x :: sk, h) = (zfld [9] h x 15).bind (fun v => zrun zpp E 80 (25, ls, v :: sk, h)) := zg_getf rfl
theorem zi80_25 {E : zE} {a0 a1 : Value} {x : Nat} {ls sk : List Value} {h : zH} : zrun zpp E 80 (25, ls, a1 :: a0 :: .ref x :: sk, h) = (zcls h x).bind (fun d => (zsel d [9, 79]).bind (fun M' => zcl1 E 80 28 M' ls sk [.ref x, a0, a1] h)) := zg_vir (as := [a0, a1]) rfl rfl
theorem zi80_28 {E : zE} {a0 a1 : Value} {x : Nat} {ls sk : List Value} {h : zH} : zrun zpp E 80 (28, ls, a1 :: a0 :: .ref x :: sk, h) = (zcls h x).bind (fun d => (zsel d [1, 20, 2, 15, 3, 15, 4, 30, 7, 20]).bind (fun M' => zcl1 E 80 31 M' ls sk [.ref x, a0, a1] h)) := zg_vir (as := [a0, a1]) rfl rfl
theorem zi80_31 {E : zE} {x : Int32} {ls sk : List Value} {h : zH} : zrun zpp E 80 (31, ls, .int x :: sk, h) = if x = 0 then zrun zpp E 80 (38, ls, sk, h) else zrun zpp E 80 (34, ls, sk, h) := zrun_at rfl
theorem zi80_34 {E : zE} {ls sk : List Value} {h : zH} : zrun zpp E 80 (34, ls, sk, h) = zrun zpp E 80 (35, ls, .int 1 :: sk, h) := zg_iconst rfl ci_1
theorem zi80_35 {E : zE} {ls sk : List Value} {h : zH} : zrun zpp E 80 (35, ls, sk, h) = zrun zpp E 80 (39, ls, sk, h) := zrun_at rfl
theorem zi80_38 {E : zE} {ls sk : List Value} {h : zH} : zrun zpp E 80 (38, ls, sk, h) = zrun zpp E 80 (39, ls, .int 0 :: sk, h) := zg_iconst rfl ci_0
theorem zi80_39 {E : zE} {x : Int32} {ls sk : List Value} {h : zH} : zrun zpp E 80 (39, ls, [.int x], h) = if x = 0 then some (some (.int 0), h) else if x = 1 then some (some (.int 1), h) else none := zrun_at rfl
-- 81 NineDown$Yard.raise
theorem zi81_0 {E : zE} {x : Nat} {ls sk : List Value} {h : zH} : zrun zpp E 81 (0, .ref x :: ls, sk, h) = zrun zpp E 81 (1, .ref x :: ls, .ref x :: sk, h) := zrun_at rfl
theorem zi81_0n {E : zE} {ls sk : List Value} {h : zH} : zrun zpp E 81 (0, .null :: ls, sk, h) = zrun zpp E 81 (1, .null :: ls, .null :: sk, h) := zrun_at rfl
theorem zi81_1 {E : zE} {v0 : Value} {x : Nat} {ls sk : List Value} {h : zH} : zrun zpp E 81 (1, v0 :: .ref x :: ls, sk, h) = zrun zpp E 81 (2, v0 :: .ref x :: ls, .ref x :: sk, h) := zrun_at rfl
theorem zi81_1n {E : zE} {v0 : Value} {ls sk : List Value} {h : zH} : zrun zpp E 81 (1, v0 :: .null :: ls, sk, h) = zrun zpp E 81 (2, v0 :: .null :: ls, .null :: sk, h) := zrun_at rfl
theorem zi81_2 {E : zE} {v0 v1 : Value} {x : Int32} {ls sk : List Value} {h : zH} : zrun zpp E 81 (2, v0 :: v1 :: .int x :: ls, sk, h) = zrun zpp E 81 (3, v0 :: v1 :: .int x :: ls, .int x :: sk, h) := zrun_at rfl
theorem zi81_3 {E : zE} {a0 a1 : Value} {x : Nat} {ls sk : List Value} {h : zH} : zrun zpp E 81 (3, ls, a1 :: a0 :: .ref x :: sk, h) = (zcls h x).bind (fun d => (zsel d [9, 80]).bind (fun M' => zcl1 E 81 6 M' ls sk [.ref x, a0, a1] h)) := zg_vir (as := [a0, a1]) rfl rfl
theorem zi81_6 {E : zE} {x : Int32} {ls sk : List Value} {h : zH} : zrun zpp E 81 (6, ls, .int x :: sk, h) = if x = 0 then zrun zpp E 81 (9, ls, sk, h) else zrun zpp E 81 (12, ls, sk, h) := zrun_at rfl
theorem zi81_9 {E : zE} {ls sk : List Value} {h : zH} : zrun zpp E 81 (9, ls, sk, h) = zrun zpp E 81 (11, ls, .int (-1000000) :: sk, h) := zg_ldc rfl ci_m1000000
theorem zi81_11 {E : zE} {x : Int32} {ls sk : List Value} {h : zH} : zrun zpp E 81 (11, ls, [.int x], h) = some (some (.int x), h) := zrun_at rfl
theorem zi81_12 {E : zE} {x : Nat} {ls sk : List Value} {h : zH} : zrun zpp E 81 (12, .ref x :: ls, sk, h) = zrun zpp E 81 (13, .ref x :: ls, .ref x :: sk, h) := zrun_at rfl
theorem zi81_12n {E : zE} {ls sk : List Value} {h : zH} : zrun zpp E 81 (12, .null :: ls, sk, h) = zrun zpp E 81 (13, .null :: ls, .null :: sk, h) := zrun_at rfl
theorem zi81_13 {E : zE} {v0 v1 : Value} {x : Int32} {ls sk : List Value} {h : zH} : zrun zpp E 81 (13, v0 :: v1 :: .int x :: ls, sk, h) = zrun zpp E 81 (14, v0 :: v1 :: .int x :: ls, .int x :: sk, h) := zrun_at rfl
theorem zi81_14 {E : zE} {x : Nat} {ls sk : List Value} {h : zH} : zrun zpp E 81 (14, .ref x :: ls, sk, h) = zrun zpp E 81 (15, .ref x :: ls, .ref x :: sk, h) := zrun_at rfl
theorem zi81_14n {E : zE} {ls sk : List Value} {h : zH} : zrun zpp E 81 (14, .null :: ls, sk, h) = zrun zpp E 81 (15, .null :: ls, .null :: sk, h) := zrun_at rfl
theorem zi81_15 {E : zE} {x : Nat} {ls sk : List Value} {h : zH} : zrun zpp E 81 (15, ls, .ref x :: sk, h) = (zfld [9] h x 15).bind (fun v => zrun zpp E 81 (18, ls, v :: sk, h)) := zg_getf rfl
theorem zi81_18 {E : zE} {a0 a1 : Value} {x : Nat} {ls sk : List Value} {h : zH} : zrun zpp E 81 (18, ls, a1 :: a0 :: .ref x :: sk, h) = (zcls h x).bind (fun d => (zsel d [9, 79]).bind (fun M' => zcl1 E 81 21 M' ls sk [.ref x, a0, a1] h)) := zg_vir (as := [a0, a1]) rfl rfl
theorem zi81_21 {E : zE} {x : Int32} {ls sk : List Value} {h : zH} : zrun zpp E 81 (21, ls, .int x :: sk, h) = if zfree ls 3 = true then zrun zpp E 81 (22, ls.set 3 (.int x), sk, h) else none := zg_ist rfl (fun _ _ _ => rfl)
theorem zi81_22 {E : zE} {v0 : Value} {x : Nat} {ls sk : List Value} {h : zH} : zrun zpp E 81 (22, v0 :: .ref x :: ls, sk, h) = zrun zpp E 81 (23, v0 :: .ref x :: ls, .ref x :: sk, h) := zrun_at rfl
theorem zi81_22n {E : zE} {v0 : Value} {ls sk : List Value} {h : zH} : zrun zpp E 81 (22, v0 :: .null :: ls, sk, h) = zrun zpp E 81 (23, v0 :: .null :: ls, .null :: sk, h) := zrun_at rfl
theorem zi81_23 {E : zE} {x : Nat} {ls sk : List Value} {h : zH} : zrun zpp E 81 (23, .ref x :: ls, sk, h) = zrun zpp E 81 (24, .ref x :: ls, .ref x :: sk, h) := zrun_at rfl
theorem zi81_23n {E : zE} {ls sk : List Value} {h : zH} : zrun zpp E 81 (23, .null :: ls, sk, h) = zrun zpp E 81 (24, .null :: ls, .null :: sk, h) := zrun_at rfl
theorem zi81_24 {E : zE} {x : Nat} {ls sk : List Value} {h : zH} : zrun zpp E 81 (24, ls, .ref x :: sk, h) = (zfld [9] h x 6).bind (fun v => zrun zpp E 81 (27, ls, v :: sk, h)) := zg_getf rfl
theorem zi81_27 {E : zE} {v0 v1 : Value} {x : Int32} {ls sk : List Value} {h : zH} : zrun zpp E 81 (27, v0 :: v1 :: .int x :: ls, sk, h) = zrun zpp E 81 (28, v0 :: v1 :: .int x :: ls, .int x :: sk, h) := zrun_at rfl
theorem zi81_28 {E : zE} {x : Nat} {i : Int32} {ls sk : List Value} {h : zH} : zrun zpp E 81 (28, ls, .int i :: .ref x :: sk, h) = (zarr 0 h x i).bind (fun v => zrun zpp E 81 (29, ls, .int v :: sk, h)) := zg_iald rfl
theorem zi81_29 {E : zE} {v0 v1 v2 : Value} {x : Int32} {ls sk : List Value} {h : zH} : zrun zpp E 81 (29, v0 :: v1 :: v2 :: .int x :: ls, sk, h) = zrun zpp E 81 (30, v0 :: v1 :: v2 :: .int x :: ls, .int x :: sk, h) := zrun_at rfl
theorem zi81_30 {E : zE} {x : Nat} {ls sk : List Value} {h : zH} : zrun zpp E 81 (30, .ref x :: ls, sk, h) = zrun zpp E 81 (31, .ref x :: ls, .ref x :: sk, h) := zrun_at rfl
theorem zi81_30n {E : zE} {ls sk : List Value} {h : zH} : zrun zpp E 81 (30, .null :: ls, sk, h) = zrun zpp E 81 (31, .null :: ls, .null :: sk, h) := zrun_at rfl
theorem zi81_31 {E : zE} {a0 a1 a2 : Value} {x : Nat} {ls sk : List Value} {h : zH} : zrun zpp E 81 (31, ls, a2 :: a1 :: a0 :: .ref x :: sk, h) = (zcls h x).bind (fun d => (zsel d [1, 9, 2, 16, 3, 26, 4, 31, 7, 57]).bind (fun M' => zcl1 E 81 34 M' ls sk [.ref x, a0, a1, a2] h)) := zg_vir (as := [a0, a1, a2]) rfl rfl
theorem zi81_34 {E : zE} {x : Int32} {ls sk : List Value} {h : zH} : zrun zpp E 81 (34, ls, .int x :: sk, h) = if zfree ls 4 = true then zrun zpp E 81 (36, ls.set 4 (.int x), sk, h) else none := zg_ist rfl (fun _ _ _ => rfl)
theorem zi81_36 {E : zE} {x : Nat} {ls sk : List Value} {h : zH} : zrun zpp E 81 (36, .ref x :: ls, sk, h) = zrun zpp E 81 (37, .ref x :: ls, .ref x :: sk, h) := zrun_at rfl
theorem zi81_36n {E : zE} {ls sk : List Value} {h : zH} : zrun zpp E 81 (36, .null :: ls, sk, h) = zrun zpp E 81 (37, .null :: ls, .null :: sk, h) := zrun_at rfl
theorem zi81_37 {E : zE} {x : Nat} {ls sk : List Value} {h : zH} : zrun zpp E 81 (37, ls, .ref x :: sk, h) = zrun zpp E 81 (38, ls, .ref x :: .ref x :: sk, h) := zrun_at rfl
theorem zi81_37i {E : zE} {x : Int32} {ls sk : List Value} {h : zH} : zrun zpp E 81 (37, ls, .int x :: sk, h) = zrun zpp E 81 (38, ls, .int x :: .int x :: sk, h) := zrun_at rfl
theorem zi81_38 {E : zE} {x : Nat} {ls sk : List Value} {h : zH} : zrun zpp E 81 (38, ls, .ref x :: sk, h) = (zfld [9] h x 16).bind (fun v => zrun zpp E 81 (41, ls, v :: sk, h)) := zg_getf rfl
theorem zi81_41 {E : zE} {v0 v1 v2 v3 : Value} {x : Int32} {ls sk : List Value} {h : zH} : zrun zpp E 81 (41, v0 :: v1 :: v2 :: v3 :: .int x :: ls, sk, h) = zrun zpp E 81 (43, v0 :: v1 :: v2 :: v3 :: .int x :: ls, .int x :: sk, h) := zrun_at rfl
theorem zi81_43 {E : zE} {x y : Int32} {ls sk : List Value} {h : zH} : zrun zpp E 81 (43, ls, .int y :: .int x :: sk, h) = zrun zpp E 81 (44, ls, .int (x + y) :: sk, h) := zrun_at rfl
theorem zi81_44 {E : zE} {x : Nat} {v : Value} {ls sk : List Value} {h : zH} : zrun zpp E 81 (44, ls, v :: .ref x :: sk, h) = (zstf [9] 0 h x 16 v).bind (fun h' => zrun zpp E 81 (47, ls, sk, h')) := zg_putf rfl
theorem zi81_47 {E : zE} {x : Nat} {ls sk : List Value} {h : zH} : zrun zpp E 81 (47, .ref x :: ls, sk, h) = zrun zpp E 81 (48, .ref x :: ls, .ref x :: sk, h) := zrun_at rfl
theorem zi81_47n {E : zE} {ls sk : List Value} {h : zH} : zrun zpp E 81 (47, .null :: ls, sk, h) = zrun zpp E 81 (48, .null :: ls, .null :: sk, h) := zrun_at rfl
theorem zi81_48 {E : zE} {x : Nat} {ls sk : List Value} {h : zH} : zrun zpp E 81 (48, ls, .ref x :: sk, h) = zrun zpp E 81 (49, ls, .ref x :: .ref x :: sk, h) := zrun_at rfl
theorem zi81_48i {E : zE} {x : Int32} {ls sk : List Value} {h : zH} : zrun zpp E 81 (48, ls, .int x :: sk, h) = zrun zpp E 81 (49, ls, .int x :: .int x :: sk, h) := zrun_at rfl
theorem zi81_49 {E : zE} {x : Nat} {ls sk : List Value} {h : zH} : zrun zpp E 81 (49, ls, .ref x :: sk, h) = (zfld [9] h x 17).bind (fun v => zrun zpp E 81 (52, ls, v :: sk, h)) := zg_getf rfl
theorem zi81_52 {E : zE} {v0 : Value} {x : Nat} {ls sk : List Value} {h : zH} : zrun zpp E 81 (52, v0 :: .ref x :: ls, sk, h) = zrun zpp E 81 (53, v0 :: .ref x :: ls, .ref x :: sk, h) := zrun_at rfl
theorem zi81_52n {E : zE} {v0 : Value} {ls sk : List Value} {h : zH} : zrun zpp E 81 (52, v0 :: .null :: ls, sk, h) = zrun zpp E 81 (53, v0 :: .null :: ls, .null :: sk, h) := zrun_at rfl
theorem zi81_53 {E : zE} {v0 v1 v2 : Value} {x : Int32} {ls sk : List Value} {h : zH} : zrun zpp E 81 (53, v0 :: v1 :: v2 :: .int x :: ls, sk, h) = zrun zpp E 81 (54, v0 :: v1 :: v2 :: .int x :: ls, .int x :: sk, h) := zrun_at rfl
theorem zi81_54 {E : zE} {a0 : Value} {x : Nat} {ls sk : List Value} {h : zH} : zrun zpp E 81 (54, ls, a0 :: .ref x :: sk, h) = (zcls h x).bind (fun d => (zsel d [1, 10, 2, 21, 3, 21, 4, 58, 7, 58]).bind (fun M' => zcl1 E 81 57 M' ls sk [.ref x, a0] h)) := zg_vir (as := [a0]) rfl rfl
theorem zi81_57 {E : zE} {x y : Int32} {ls sk : List Value} {h : zH} : zrun zpp E 81 (57, ls, .int y :: .int x :: sk, h) = zrun zpp E 81 (58, ls, .int (x + y) :: sk, h) := zrun_at rfl
theorem zi81_58 {E : zE} {x : Nat} {v : Value} {ls sk : List Value} {h : zH} : zrun zpp E 81 (58, ls, v :: .ref x :: sk, h) = (zstf [9] 0 h x 17 v).bind (fun h' => zrun zpp E 81 (61, ls, sk, h')) := zg_putf rfl
theorem zi81_61 {E : zE} {x : Nat} {ls sk : List Value} {h : zH} : zrun zpp E 81 (61, .ref x :: ls, sk, h) = zrun zpp E 81 (62, .ref x :: ls, .ref x :: sk, h) := zrun_at rfl
theorem zi81_61n {E : zE} {ls sk : List Value} {h : zH} : zrun zpp E 81 (61, .null :: ls, sk, h) = zrun zpp E 81 (62, .null :: ls, .null :: sk, h) := zrun_at rfl
theorem zi81_62 {E : zE} {x : Nat} {ls sk : List Value} {h : zH} : zrun zpp E 81 (62, ls, .ref x :: sk, h) = zrun zpp E 81 (63, ls, .ref x :: .ref x :: sk, h) := zrun_at rfl
theorem zi81_62i {E : zE} {x : Int32} {ls sk : List Value} {h : zH} : zrun zpp E 81 (62, ls, .int x :: sk, h) = zrun zpp E 81 (63, ls, .int x :: .int x :: sk, h) := zrun_at rfl
theorem zi81_63 {E : zE} {x : Nat} {ls sk : List Value} {h : zH} : zrun zpp E 81 (63, ls, .ref x :: sk, h) = (zfld [9] h x 15).bind (fun v => zrun zpp E 81 (66, ls, v :: sk, h)) := zg_getf rfl
theorem zi81_66 {E : zE} {ls sk : List Value} {h : zH} : zrun zpp E 81 (66, ls, sk, h) = zrun zpp E 81 (67, ls, .int 1 :: sk, h) := zg_iconst rfl ci_1
theorem zi81_67 {E : zE} {v0 v1 : Value} {x : Int32} {ls sk : List Value} {h : zH} : zrun zpp E 81 (67, v0 :: v1 :: .int x :: ls, sk, h) = zrun zpp E 81 (68, v0 :: v1 :: .int x :: ls, .int x :: sk, h) := zrun_at rfl
theorem zi81_68 {E : zE} {x y : Int32} {ls sk : List Value} {h : zH} : zrun zpp E 81 (68, ls, .int y :: .int x :: sk, h) = zrun zpp E 81 (69, ls, .int (x <<< (y &&& 31)) :: sk, h) := zrun_at rfl
theorem zi81_69 {E : zE} {ls sk : List Value} {h : zH} : zrun zpp E 81 (69, ls, sk, h) = zrun zpp E 81 (70, ls, .int (-1) :: sk, h) := zg_iconst rfl ci_m1
theorem zi81_70 {E : zE} {x y : Int32} {ls sk : List Value} {h : zH} : zrun zpp E 81 (70, ls, .int y :: .int x :: sk, h) = zrun zpp E 81 (71, ls, .int (x ^^^ y) :: sk, h) := zrun_at rfl
theorem zi81_71 {E : zE} {x y : Int32} {ls sk : List Value} {h : zH} : zrun zpp E 81 (71, ls, .int y :: .int x :: sk, h) = zrun zpp E 81 (72, ls, .int (x &&& y) :: sk, h) := zrun_at rfl
theorem zi81_72 {E : zE} {x : Nat} {v : Value} {ls sk : List Value} {h : zH} : zrun zpp E 81 (72, ls, v :: .ref x :: sk, h) = (zstf [9] 0 h x 15 v).bind (fun h' => zrun zpp E 81 (75, ls, sk, h')) := zg_putf rfl
theorem zi81_75 {E : zE} {v0 v1 v2 v3 : Value} {x : Int32} {ls sk : List Value} {h : zH} : zrun zpp E 81 (75, v0 :: v1 :: v2 :: v3 :: .int x :: ls, sk, h) = zrun zpp E 81 (77, v0 :: v1 :: v2 :: v3 :: .int x :: ls, .int x :: sk, h) := zrun_at rfl
theorem zi81_77 {E : zE} {x : Int32} {ls sk : List Value} {h : zH} : zrun zpp E 81 (77, ls, [.int x], h) = some (some (.int x), h) := zrun_at rfl
-- 82 NineDown$Yard.fallsAnew
theorem zi82_0 {E : zE} {x : Nat} {ls sk : List Value} {h : zH} : zrun zpp E 82 (0, .ref x :: ls, sk, h) = zrun zpp E 82 (1, .ref x :: ls, .ref x :: sk, h) := zrun_at rfl
theorem zi82_0n {E : zE} {ls sk : List Value} {h : zH} : zrun zpp E 82 (0, .null :: ls, sk, h) = zrun zpp E 82 (1, .null :: ls, .null :: sk, h) := zrun_at rfl
theorem zi82_1 {E : zE} {x : Nat} {ls sk : List Value} {h : zH} : zrun zpp E 82 (1, ls, .ref x :: sk, h) = (zfld [9] h x 15).bind (fun v => zrun zpp E 82 (4, ls, v :: sk, h)) := zg_getf rfl
theorem zi82_4 {E : zE} {v0 : Value} {x : Int32} {ls sk : List Value} {h : zH} : zrun zpp E 82 (4, v0 :: .int x :: ls, sk, h) = zrun zpp E 82 (5, v0 :: .int x :: ls, .int x :: sk, h) := zrun_at rfl
theorem zi82_5 {E : zE} {a0 a1 : Value} {ls sk : List Value} {h : zH} : zrun zpp E 82 (5, ls, a1 :: a0 :: sk, h) = zcl1 E 82 8 127 ls sk [a0, a1] h := zg_inv (as := [a0, a1]) rfl rfl
theorem zi82_8 {E : zE} {x : Int32} {ls sk : List Value} {h : zH} : zrun zpp E 82 (8, ls, .int x :: sk, h) = if x = 0 then zrun zpp E 82 (13, ls, sk, h) else zrun zpp E 82 (11, ls, sk, h) := zrun_at rfl
theorem zi82_11 {E : zE} {ls sk : List Value} {h : zH} : zrun zpp E 82 (11, ls, sk, h) = zrun zpp E 82 (12, ls, .int 0 :: sk, h) := zg_iconst rfl ci_0
theorem zi82_12 {E : zE} {x : Int32} {ls sk : List Value} {h : zH} : zrun zpp E 82 (12, ls, [.int x], h) = if x = 0 then some (some (.int 0), h) else if x = 1 then some (some (.int 1), h) else none := zrun_at rfl
theorem zi82_13 {E : zE} {x : Nat} {ls sk : List Value} {h : zH} : zrun zpp E 82 (13, .ref x :: ls, sk, h) = zrun zpp E 82 (14, .ref x :: ls, .ref x :: sk, h) := zrun_at rfl
theorem zi82_13n {E : zE} {ls sk : List Value} {h : zH} : zrun zpp E 82 (13, .null :: ls, sk, h) = zrun zpp E 82 (14, .null :: ls, .null :: sk, h) := zrun_at rfl
theorem zi82_14 {E : zE} {x : Nat} {ls sk : List Value} {h : zH} : zrun zpp E 82 (14, ls, .ref x :: sk, h) = zrun zpp E 82 (15, ls, .ref x :: .ref x :: sk, h) := zrun_at rfl
theorem zi82_14i {E : zE} {x : Int32} {ls sk : List Value} {h : zH} : zrun zpp E 82 (14, ls, .int x :: sk, h) = zrun zpp E 82 (15, ls, .int x :: .int x :: sk, h) := zrun_at rfl
theorem zi82_15 {E : zE} {x : Nat} {ls sk : List Value} {h : zH} : zrun zpp E 82 (15, ls, .ref x :: sk, h) = (zfld [9] h x 15).bind (fun v => zrun zpp E 82 (18, ls, v :: sk, h)) := zg_getf rfl
theorem zi82_18 {E : zE} {ls sk : List Value} {h : zH} : zrun zpp E 82 (18, ls, sk, h) = zrun zpp E 82 (19, ls, .int 1 :: sk, h) := zg_iconst rfl ci_1
theorem zi82_19 {E : zE} {v0 : Value} {x : Int32} {ls sk : List Value} {h : zH} : zrun zpp E 82 (19, v0 :: .int x :: ls, sk, h) = zrun zpp E 82 (20, v0 :: .int x :: ls, .int x :: sk, h) := zrun_at rfl
theorem zi82_20 {E : zE} {x y : Int32} {ls sk : List Value} {h : zH} : zrun zpp E 82 (20, ls, .int y :: .int x :: sk, h) = zrun zpp E 82 (21, ls, .int (x <<< (y &&& 31)) :: sk, h) := zrun_at rfl
theorem zi82_21 {E : zE} {x y : Int32} {ls sk : List Value} {h : zH} : zrun zpp E 82 (21, ls, .int y :: .int x :: sk, h) = zrun zpp E 82 (22, ls, .int (x ||| y) :: sk, h) := zrun_at rfl
theorem zi82_22 {E : zE} {x : Nat} {v : Value} {ls sk : List Value} {h : zH} : zrun zpp E 82 (22, ls, v :: .ref x :: sk, h) = (zstf [9] 0 h x 15 v).bind (fun h' => zrun zpp E 82 (25, ls, sk, h')) := zg_putf rfl
theorem zi82_25 {E : zE} {x : Nat} {ls sk : List Value} {h : zH} : zrun zpp E 82 (25, .ref x :: ls, sk, h) = zrun zpp E 82 (26, .ref x :: ls, .ref x :: sk, h) := zrun_at rfl
theorem zi82_25n {E : zE} {ls sk : List Value} {h : zH} : zrun zpp E 82 (25, .null :: ls, sk, h) = zrun zpp E 82 (26, .null :: ls, .null :: sk, h) := zrun_at rfl
theorem zi82_26 {E : zE} {x : Nat} {ls sk : List Value} {h : zH} : zrun zpp E 82 (26, ls, .ref x :: sk, h) = zrun zpp E 82 (27, ls, .ref x :: .ref x :: sk, h) := zrun_at rfl
theorem zi82_26i {E : zE} {x : Int32} {ls sk : List Value} {h : zH} : zrun zpp E 82 (26, ls, .int x :: sk, h) = zrun zpp E 82 (27, ls, .int x :: .int x :: sk, h) := zrun_at rfl
theorem zi82_27 {E : zE} {x : Nat} {ls sk : List Value} {h : zH} : zrun zpp E 82 (27, ls, .ref x :: sk, h) = (zfld [9] h x 17).bind (fun v => zrun zpp E 82 (30, ls, v :: sk, h)) := zg_getf rfl
theorem zi82_30 {E : zE} {ls sk : List Value} {h : zH} : zrun zpp E 82 (30, ls, sk, h) = zrun zpp E 82 (31, ls, .int 1 :: sk, h) := zg_iconst rfl ci_1
theorem zi82_31 {E : zE} {x y : Int32} {ls sk : List Value} {h : zH} : zrun zpp E 82 (31, ls, .int y :: .int x :: sk, h) = zrun zpp E 82 (32, ls, .int (x + y) :: sk, h) := zrun_at rfl
theorem zi82_32 {E : zE} {x : Nat} {v : Value} {ls sk : List Value} {h : zH} : zrun zpp E 82 (32, ls, v :: .ref x :: sk, h) = (zstf [9] 0 h x 17 v).bind (fun h' => zrun zpp E 82 (35, ls, sk, h')) := zg_putf rfl
theorem zi82_35 {E : zE} {ls sk : List Value} {h : zH} : zrun zpp E 82 (35, ls, sk, h) = zrun zpp E 82 (36, ls, .int 1 :: sk, h) := zg_iconst rfl ci_1
theorem zi82_36 {E : zE} {x : Int32} {ls sk : List Value} {h : zH} : zrun zpp E 82 (36, ls, [.int x], h) = if x = 0 then some (some (.int 0), h) else if x = 1 then some (some (.int 1), h) else none := zrun_at rfl
-- 83 NineDown$Yard.leftBy
theorem zi83_0 {E : zE} {x : Nat} {ls sk : List Value} {h : zH} : zrun zpp E 83 (0, .ref x :: ls, sk, h) = zrun zpp E 83 (1, .ref x :: ls, .ref x :: sk, h) := zrun_at rfl
theorem zi83_0n {E : zE} {ls sk : List Value} {h : zH} : zrun zpp E 83 (0, .null :: ls, sk, h) = zrun zpp E 83 (1, .null :: ls, .null :: sk, h) := zrun_at rfl
theorem zi83_1 {E : zE} {x : Nat} {ls sk : List Value} {h : zH} : zrun zpp E 83 (1, ls, .ref x :: sk, h) = (zfld [9] h x 15).bind (fun v => zrun zpp E 83 (4, ls, v :: sk, h)) := zg_getf rfl
theorem zi83_4 {E : zE} {x : Int32} {ls sk : List Value} {h : zH} : zrun zpp E 83 (4, ls, .int x :: sk, h) = if zfree ls 2 = true then zrun zpp E 83 (5, ls.set 2 (.int x), sk, h) else none := zg_ist rfl (fun _ _ _ => rfl)
theorem zi83_5 {E : zE} {ls sk : List Value} {h : zH} : zrun zpp E 83 (5, ls, sk, h) = zrun zpp E 83 (6, ls, .int 0 :: sk, h) := zg_iconst rfl ci_0
theorem zi83_6 {E : zE} {x : Int32} {ls sk : List Value} {h : zH} : zrun zpp E 83 (6, ls, .int x :: sk, h) = if zfree ls 3 = true then zrun zpp E 83 (7, ls.set 3 (.int x), sk, h) else none := zg_ist rfl (fun _ _ _ => rfl)
theorem zi83_7 {E : zE} {v0 v1 v2 : Value} {x : Int32} {ls sk : List Value} {h : zH} : zrun zpp E 83 (7, v0 :: v1 :: v2 :: .int x :: ls, sk, h) = zrun zpp E 83 (8, v0 :: v1 :: v2 :: .int x :: ls, .int x :: sk, h) := zrun_at rfl
theorem zi83_8 {E : zE} {x : Nat} {ls sk : List Value} {h : zH} : zrun zpp E 83 (8, .ref x :: ls, sk, h) = zrun zpp E 83 (9, .ref x :: ls, .ref x :: sk, h) := zrun_at rfl
theorem zi83_8n {E : zE} {ls sk : List Value} {h : zH} : zrun zpp E 83 (8, .null :: ls, sk, h) = zrun zpp E 83 (9, .null :: ls, .null :: sk, h) := zrun_at rfl
theorem zi83_9 {E : zE} {x : Nat} {ls sk : List Value} {h : zH} : zrun zpp E 83 (9, ls, .ref x :: sk, h) = (zfld [9] h x 3).bind (fun v => zrun zpp E 83 (12, ls, v :: sk, h)) := zg_getf rfl
theorem zi83_12 {E : zE} {x y : Int32} {ls sk : List Value} {h : zH} : zrun zpp E 83 (12, ls, .int y :: .int x :: sk, h) = if y ≤ x then zrun zpp E 83 (75, ls, sk, h) else zrun zpp E 83 (15, ls, sk, h) := zrun_at rfl
theorem zi83_15 {E : zE} {ls sk : List Value} {h : zH} : zrun zpp E 83 (15, ls, sk, h) = zrun zpp E 83 (16, ls, .int 0 :: sk, h) := zg_iconst rfl ci_0
theorem zi83_16 {E : zE} {x : Int32} {ls sk : List Value} {h : zH} : zrun zpp E 83 (16, ls, .int x :: sk, h) = if zfree ls 4 = true then zrun zpp E 83 (18, ls.set 4 (.int x), sk, h) else none := zg_ist rfl (fun _ _ _ => rfl)
theorem zi83_18 {E : zE} {v0 v1 v2 v3 : Value} {x : Int32} {ls sk : List Value} {h : zH} : zrun zpp E 83 (18, v0 :: v1 :: v2 :: v3 :: .int x :: ls, sk, h) = zrun zpp E 83 (20, v0 :: v1 :: v2 :: v3 :: .int x :: ls, .int x :: sk, h) := zrun_at rfl
theorem zi83_20 {E : zE} {x : Nat} {ls sk : List Value} {h : zH} : zrun zpp E 83 (20, .ref x :: ls, sk, h) = zrun zpp E 83 (21, .ref x :: ls, .ref x :: sk, h) := zrun_at rfl
theorem zi83_20n {E : zE} {ls sk : List Value} {h : zH} : zrun zpp E 83 (20, .null :: ls, sk, h) = zrun zpp E 83 (21, .null :: ls, .null :: sk, h) := zrun_at rfl
theorem zi83_21 {E : zE} {x : Nat} {ls sk : List Value} {h : zH} : zrun zpp E 83 (21, ls, .ref x :: sk, h) = (zfld [9] h x 3).bind (fun v => zrun zpp E 83 (24, ls, v :: sk, h)) := zg_getf rfl
theorem zi83_24 {E : zE} {x y : Int32} {ls sk : List Value} {h : zH} : zrun zpp E 83 (24, ls, .int y :: .int x :: sk, h) = if y ≤ x then zrun zpp E 83 (69, ls, sk, h) else zrun zpp E 83 (27, ls, sk, h) := zrun_at rfl
theorem zi83_27 {E : zE} {x : Nat} {ls sk : List Value} {h : zH} : zrun zpp E 83 (27, .ref x :: ls, sk, h) = zrun zpp E 83 (28, .ref x :: ls, .ref x :: sk, h) := zrun_at rfl
theorem zi83_27n {E : zE} {ls sk : List Value} {h : zH} : zrun zpp E 83 (27, .null :: ls, sk, h) = zrun zpp E 83 (28, .null :: ls, .null :: sk, h) := zrun_at rfl
theorem zi83_28 {E : zE} {v0 v1 v2 v3 : Value} {x : Int32} {ls sk : List Value} {h : zH} : zrun zpp E 83 (28, v0 :: v1 :: v2 :: v3 :: .int x :: ls, sk, h) = zrun zpp E 83 (30, v0 :: v1 :: v2 :: v3 :: .int x :: ls, .int x :: sk, h) := zrun_at rfl
theorem zi83_30 {E : zE} {v0 v1 : Value} {x : Int32} {ls sk : List Value} {h : zH} : zrun zpp E 83 (30, v0 :: v1 :: .int x :: ls, sk, h) = zrun zpp E 83 (31, v0 :: v1 :: .int x :: ls, .int x :: sk, h) := zrun_at rfl
theorem zi83_31 {E : zE} {a0 a1 : Value} {x : Nat} {ls sk : List Value} {h : zH} : zrun zpp E 83 (31, ls, a1 :: a0 :: .ref x :: sk, h) = (zcls h x).bind (fun d => (zsel d [9, 77]).bind (fun M' => zcl1 E 83 34 M' ls sk [.ref x, a0, a1] h)) := zg_vir (as := [a0, a1]) rfl rfl
theorem zi83_34 {E : zE} {x : Int32} {ls sk : List Value} {h : zH} : zrun zpp E 83 (34, ls, .int x :: sk, h) = if x = 0 then zrun zpp E 83 (63, ls, sk, h) else zrun zpp E 83 (37, ls, sk, h) := zrun_at rfl
theorem zi83_37 {E : zE} {x : Nat} {ls sk : List Value} {h : zH} : zrun zpp E 83 (37, .ref x :: ls, sk, h) = zrun zpp E 83 (38, .ref x :: ls, .ref x :: sk, h) := zrun_at rfl
theorem zi83_37n {E : zE} {ls sk : List Value} {h : zH} : zrun zpp E 83 (37, .null :: ls, sk, h) = zrun zpp E 83 (38, .null :: ls, .null :: sk, h) := zrun_at rfl
theorem zi83_38 {E : zE} {v0 : Value} {x : Int32} {ls sk : List Value} {h : zH} : zrun zpp E 83 (38, v0 :: .int x :: ls, sk, h) = zrun zpp E 83 (39, v0 :: .int x :: ls, .int x :: sk, h) := zrun_at rfl
theorem zi83_39 {E : zE} {v0 v1 v2 v3 : Value} {x : Int32} {ls sk : List Value} {h : zH} : zrun zpp E 83 (39, v0 :: v1 :: v2 :: v3 :: .int x :: ls, sk, h) = zrun zpp E 83 (41, v0 :: v1 :: v2 :: v3 :: .int x :: ls, .int x :: sk, h) := zrun_at rfl
theorem zi83_41 {E : zE} {x : Nat} {ls sk : List Value} {h : zH} : zrun zpp E 83 (41, .ref x :: ls, sk, h) = zrun zpp E 83 (42, .ref x :: ls, .ref x :: sk, h) := zrun_at rfl
theorem zi83_41n {E : zE} {ls sk : List Value} {h : zH} : zrun zpp E 83 (41, .null :: ls, sk, h) = zrun zpp E 83 (42, .null :: ls, .null :: sk, h) := zrun_at rfl
theorem zi83_42 {E : zE} {v0 v1 v2 v3 : Value} {x : Int32} {ls sk : List Value} {h : zH} : zrun zpp E 83 (42, v0 :: v1 :: v2 :: v3 :: .int x :: ls, sk, h) = zrun zpp E 83 (44, v0 :: v1 :: v2 :: v3 :: .int x :: ls, .int x :: sk, h) := zrun_at rfl
theorem zi83_44 {E : zE} {v0 v1 : Value} {x : Int32} {ls sk : List Value} {h : zH} : zrun zpp E 83 (44, v0 :: v1 :: .int x :: ls, sk, h) = zrun zpp E 83 (45, v0 :: v1 :: .int x :: ls, .int x :: sk, h) := zrun_at rfl
theorem zi83_45 {E : zE} {a0 a1 : Value} {x : Nat} {ls sk : List Value} {h : zH} : zrun zpp E 83 (45, ls, a1 :: a0 :: .ref x :: sk, h) = (zcls h x).bind (fun d => (zsel d [9, 79]).bind (fun M' => zcl1 E 83 48 M' ls sk [.ref x, a0, a1] h)) := zg_vir (as := [a0, a1]) rfl rfl
theorem zi83_48 {E : zE} {a0 a1 a2 : Value} {x : Nat} {ls sk : List Value} {h : zH} : zrun zpp E 83 (48, ls, a2 :: a1 :: a0 :: .ref x :: sk, h) = (zcls h x).bind (fun d => (zsel d [9, 84]).bind (fun M' => zcl1 E 83 51 M' ls sk [.ref x, a0, a1, a2] h)) := zg_vir (as := [a0, a1, a2]) rfl rfl
theorem zi83_51 {E : zE} {x : Int32} {ls sk : List Value} {h : zH} : zrun zpp E 83 (51, ls, .int x :: sk, h) = if x = 0 then zrun zpp E 83 (63, ls, sk, h) else zrun zpp E 83 (54, ls, sk, h) := zrun_at rfl
theorem zi83_54 {E : zE} {v0 v1 : Value} {x : Int32} {ls sk : List Value} {h : zH} : zrun zpp E 83 (54, v0 :: v1 :: .int x :: ls, sk, h) = zrun zpp E 83 (55, v0 :: v1 :: .int x :: ls, .int x :: sk, h) := zrun_at rfl
theorem zi83_55 {E : zE} {ls sk : List Value} {h : zH} : zrun zpp E 83 (55, ls, sk, h) = zrun zpp E 83 (56, ls, .int 1 :: sk, h) := zg_iconst rfl ci_1
theorem zi83_56 {E : zE} {v0 v1 v2 v3 : Value} {x : Int32} {ls sk : List Value} {h : zH} : zrun zpp E 83 (56, v0 :: v1 :: v2 :: v3 :: .int x :: ls, sk, h) = zrun zpp E 83 (58, v0 :: v1 :: v2 :: v3 :: .int x :: ls, .int x :: sk, h) := zrun_at rfl
theorem zi83_58 {E : zE} {x y : Int32} {ls sk : List Value} {h : zH} : zrun zpp E 83 (58, ls, .int y :: .int x :: sk, h) = zrun zpp E 83 (59, ls, .int (x <<< (y &&& 31)) :: sk, h) := zrun_at rfl
theorem zi83_59 {E : zE} {ls sk : List Value} {h : zH} : zrun zpp E 83 (59, ls, sk, h) = zrun zpp E 83 (60, ls, .int (-1) :: sk, h) := zg_iconst rfl ci_m1
theorem zi83_60 {E : zE} {x y : Int32} {ls sk : List Value} {h : zH} : zrun zpp E 83 (60, ls, .int y :: .int x :: sk, h) = zrun zpp E 83 (61, ls, .int (x ^^^ y) :: sk, h) := zrun_at rfl
theorem zi83_61 {E : zE} {x y : Int32} {ls sk : List Value} {h : zH} : zrun zpp E 83 (61, ls, .int y :: .int x :: sk, h) = zrun zpp E 83 (62, ls, .int (x &&& y) :: sk, h) := zrun_at rfl
theorem zi83_62 {E : zE} {x : Int32} {ls sk : List Value} {h : zH} : zrun zpp E 83 (62, ls, .int x :: sk, h) = if zfree ls 2 = true then zrun zpp E 83 (63, ls.set 2 (.int x), sk, h) else none := zg_ist rfl (fun _ _ _ => rfl)
theorem zi83_63 {E : zE} {v0 v1 v2 v3 : Value} {x : Int32} {ls sk : List Value} {h : zH} : zrun zpp E 83 (63, v0 :: v1 :: v2 :: v3 :: .int x :: ls, sk, h) = if zfree (v0 :: v1 :: v2 :: v3 :: .int x :: ls) 4 = true then zrun zpp E 83 (66, v0 :: v1 :: v2 :: v3 :: .int (x + 1) :: ls, sk, h) else none := by rw [← ci_1]; exact zrun_at rfl
theorem zi83_66 {E : zE} {ls sk : List Value} {h : zH} : zrun zpp E 83 (66, ls, sk, h) = zrun zpp E 83 (18, ls, sk, h) := zrun_at rfl
theorem zi83_69 {E : zE} {v0 v1 v2 : Value} {x : Int32} {ls sk : List Value} {h : zH} : zrun zpp E 83 (69, v0 :: v1 :: v2 :: .int x :: ls, sk, h) = if zfree (v0 :: v1 :: v2 :: .int x :: ls) 3 = true then zrun zpp E 83 (72, v0 :: v1 :: v2 :: .int (x + 1) :: ls, sk, h) else none := by rw [← ci_1]; exact zrun_at rfl
theorem zi83_72 {E : zE} {ls sk : List Value} {h : zH} : zrun zpp E 83 (72, ls, sk, h) = zrun zpp E 83 (7, ls, sk, h) := zrun_at rfl
theorem zi83_75 {E : zE} {v0 v1 : Value} {x : Int32} {ls sk : List Value} {h : zH} : zrun zpp E 83 (75, v0 :: v1 :: .int x :: ls, sk, h) = zrun zpp E 83 (76, v0 :: v1 :: .int x :: ls, .int x :: sk, h) := zrun_at rfl
theorem zi83_76 {E : zE} {x : Int32} {ls sk : List Value} {h : zH} : zrun zpp E 83 (76, ls, [.int x], h) = some (some (.int x), h) := zrun_at rfl
-- 84 NineDown$Yard.someManages
theorem zi84_0 {E : zE} {ls sk : List Value} {h : zH} : zrun zpp E 84 (0, ls, sk, h) = zrun zpp E 84 (1, ls, .int 0 :: sk, h) := zg_iconst rfl ci_0
theorem zi84_1 {E : zE} {x : Int32} {ls sk : List Value} {h : zH} : zrun zpp E 84 (1, ls, .int x :: sk, h) = if zfree ls 4 = true then zrun zpp E 84 (3, ls.set 4 (.int x), sk, h) else none := zg_ist rfl (fun _ _ _ => rfl)
theorem zi84_3 {E : zE} {v0 v1 v2 v3 : Value} {x : Int32} {ls sk : List Value} {h : zH} : zrun zpp E 84 (3, v0 :: v1 :: v2 :: v3 :: .int x :: ls, sk, h) = zrun zpp E 84 (5, v0 :: v1 :: v2 :: v3 :: .int x :: ls, .int x :: sk, h) := zrun_at rfl
theorem zi84_5 {E : zE} {x : Nat} {ls sk : List Value} {h : zH} : zrun zpp E 84 (5, .ref x :: ls, sk, h) = zrun zpp E 84 (6, .ref x :: ls, .ref x :: sk, h) := zrun_at rfl
theorem zi84_5n {E : zE} {ls sk : List Value} {h : zH} : zrun zpp E 84 (5, .null :: ls, sk, h) = zrun zpp E 84 (6, .null :: ls, .null :: sk, h) := zrun_at rfl
theorem zi84_6 {E : zE} {x : Nat} {ls sk : List Value} {h : zH} : zrun zpp E 84 (6, ls, .ref x :: sk, h) = (zfld [9] h x 5).bind (fun v => zrun zpp E 84 (9, ls, v :: sk, h)) := zg_getf rfl
theorem zi84_9 {E : zE} {x y : Int32} {ls sk : List Value} {h : zH} : zrun zpp E 84 (9, ls, .int y :: .int x :: sk, h) = if y ≤ x then zrun zpp E 84 (58, ls, sk, h) else zrun zpp E 84 (12, ls, sk, h) := zrun_at rfl
theorem zi84_12 {E : zE} {x : Nat} {ls sk : List Value} {h : zH} : zrun zpp E 84 (12, .ref x :: ls, sk, h) = zrun zpp E 84 (13, .ref x :: ls, .ref x :: sk, h) := zrun_at rfl
theorem zi84_12n {E : zE} {ls sk : List Value} {h : zH} : zrun zpp E 84 (12, .null :: ls, sk, h) = zrun zpp E 84 (13, .null :: ls, .null :: sk, h) := zrun_at rfl
theorem zi84_13 {E : zE} {x : Nat} {ls sk : List Value} {h : zH} : zrun zpp E 84 (13, ls, .ref x :: sk, h) = (zfld [9] h x 13).bind (fun v => zrun zpp E 84 (16, ls, v :: sk, h)) := zg_getf rfl
theorem zi84_16 {E : zE} {v0 v1 v2 v3 : Value} {x : Int32} {ls sk : List Value} {h : zH} : zrun zpp E 84 (16, v0 :: v1 :: v2 :: v3 :: .int x :: ls, sk, h) = zrun zpp E 84 (18, v0 :: v1 :: v2 :: v3 :: .int x :: ls, .int x :: sk, h) := zrun_at rfl
theorem zi84_18 {E : zE} {x : Nat} {i : Int32} {ls sk : List Value} {h : zH} : zrun zpp E 84 (18, ls, .int i :: .ref x :: sk, h) = (zara h x i).bind (fun v => zrun zpp E 84 (19, ls, v :: sk, h)) := zg_aald rfl
theorem zi84_19 {E : zE} {x : Nat} {ls sk : List Value} {h : zH} : zrun zpp E 84 (19, ls, .ref x :: sk, h) = if zfree ls 5 = true then zrun zpp E 84 (21, ls.set 5 (.ref x), sk, h) else none := zg_astr rfl (fun _ _ _ => rfl)
theorem zi84_19n {E : zE} {ls sk : List Value} {h : zH} : zrun zpp E 84 (19, ls, .null :: sk, h) = if zfree ls 5 = true then zrun zpp E 84 (21, ls.set 5 .null, sk, h) else none := zg_astn rfl (fun _ _ _ => rfl)
theorem zi84_21 {E : zE} {v0 : Value} {x : Int32} {ls sk : List Value} {h : zH} : zrun zpp E 84 (21, v0 :: .int x :: ls, sk, h) = zrun zpp E 84 (22, v0 :: .int x :: ls, .int x :: sk, h) := zrun_at rfl
theorem zi84_22 {E : zE} {v0 v1 v2 v3 : Value} {x : Int32} {ls sk : List Value} {h : zH} : zrun zpp E 84 (22, v0 :: v1 :: v2 :: v3 :: .int x :: ls, sk, h) = zrun zpp E 84 (24, v0 :: v1 :: v2 :: v3 :: .int x :: ls, .int x :: sk, h) := zrun_at rfl
theorem zi84_24 {E : zE} {a0 a1 : Value} {ls sk : List Value} {h : zH} : zrun zpp E 84 (24, ls, a1 :: a0 :: sk, h) = zcl1 E 84 27 127 ls sk [a0, a1] h := zg_inv (as := [a0, a1]) rfl rfl
theorem zi84_27 {E : zE} {x : Int32} {ls sk : List Value} {h : zH} : zrun zpp E 84 (27, ls, .int x :: sk, h) = if x = 0 then zrun zpp E 84 (52, ls, sk, h) else zrun zpp E 84 (30, ls, sk, h) := zrun_at rfl
theorem zi84_30 {E : zE} {v0 v1 v2 v3 v4 : Value} {x : Nat} {ls sk : List Value} {h : zH} : zrun zpp E 84 (30, v0 :: v1 :: v2 :: v3 :: v4 :: .ref x :: ls, sk, h) = zrun zpp E 84 (32, v0 :: v1 :: v2 :: v3 :: v4 :: .ref x :: ls, .ref x :: sk, h) := zrun_at rfl
theorem zi84_30n {E : zE} {v0 v1 v2 v3 v4 : Value} {ls sk : List Value} {h : zH} : zrun zpp E 84 (30, v0 :: v1 :: v2 :: v3 :: v4 :: .null :: ls, sk, h) = zrun zpp E 84 (32, v0 :: v1 :: v2 :: v3 :: v4 :: .null :: ls, .null :: sk, h) := zrun_at rfl
theorem zi84_32 {E : zE} {x : Nat} {ls sk : List Value} {h : zH} : zrun zpp E 84 (32, ls, .ref x :: sk, h) = zrun zpp E 84 (35, ls, sk, h) := zrun_at rfl
theorem zi84_32n {E : zE} {ls sk : List Value} {h : zH} : zrun zpp E 84 (32, ls, .null :: sk, h) = zrun zpp E 84 (52, ls, sk, h) := zrun_at rfl
theorem zi84_35 {E : zE} {v0 v1 v2 v3 v4 : Value} {x : Nat} {ls sk : List Value} {h : zH} : zrun zpp E 84 (35, v0 :: v1 :: v2 :: v3 :: v4 :: .ref x :: ls, sk, h) = zrun zpp E 84 (37, v0 :: v1 :: v2 :: v3 :: v4 :: .ref x :: ls, .ref x :: sk, h) := zrun_at rfl
theorem zi84_35n {E : zE} {v0 v1 v2 v3 v4 : Value} {ls sk : List Value} {h : zH} : zrun zpp E 84 (35, v0 :: v1 :: v2 :: v3 :: v4 :: .null :: ls, sk, h) = zrun zpp E 84 (37, v0 :: v1 :: v2 :: v3 :: v4 :: .null :: ls, .null :: sk, h) := zrun_at rfl
theorem zi84_37 {E : zE} {x : Nat} {ls sk : List Value} {h : zH} : zrun zpp E 84 (37, .ref x :: ls, sk, h) = zrun zpp E 84 (38, .ref x :: ls, .ref x :: sk, h) := zrun_at rfl
theorem zi84_37n {E : zE} {ls sk : List Value} {h : zH} : zrun zpp E 84 (37, .null :: ls, sk, h) = zrun zpp E 84 (38, .null :: ls, .null :: sk, h) := zrun_at rfl
theorem zi84_38 {E : zE} {x : Nat} {ls sk : List Value} {h : zH} : zrun zpp E 84 (38, ls, .ref x :: sk, h) = (zfld [9] h x 6).bind (fun v => zrun zpp E 84 (41, ls, v :: sk, h)) := zg_getf rfl
theorem zi84_41 {E : zE} {v0 v1 : Value} {x : Int32} {ls sk : List Value} {h : zH} : zrun zpp E 84 (41, v0 :: v1 :: .int x :: ls, sk, h) = zrun zpp E 84 (42, v0 :: v1 :: .int x :: ls, .int x :: sk, h) := zrun_at rfl
theorem zi84_42 {E : zE} {x : Nat} {i : Int32} {ls sk : List Value} {h : zH} : zrun zpp E 84 (42, ls, .int i :: .ref x :: sk, h) = (zarr 0 h x i).bind (fun v => zrun zpp E 84 (43, ls, .int v :: sk, h)) := zg_iald rfl
theorem zi84_43 {E : zE} {v0 v1 v2 : Value} {x : Int32} {ls sk : List Value} {h : zH} : zrun zpp E 84 (43, v0 :: v1 :: v2 :: .int x :: ls, sk, h) = zrun zpp E 84 (44, v0 :: v1 :: v2 :: .int x :: ls, .int x :: sk, h) := zrun_at rfl
theorem zi84_44 {E : zE} {a0 a1 : Value} {x : Nat} {ls sk : List Value} {h : zH} : zrun zpp E 84 (44, ls, a1 :: a0 :: .ref x :: sk, h) = (zcls h x).bind (fun d => (zsel d [1, 20, 2, 15, 3, 15, 4, 30, 7, 20]).bind (fun M' => zcl1 E 84 47 M' ls sk [.ref x, a0, a1] h)) := zg_vir (as := [a0, a1]) rfl rfl
theorem zi84_47 {E : zE} {x : Int32} {ls sk : List Value} {h : zH} : zrun zpp E 84 (47, ls, .int x :: sk, h) = if x = 0 then zrun zpp E 84 (52, ls, sk, h) else zrun zpp E 84 (50, ls, sk, h) := zrun_at rfl
theorem zi84_50 {E : zE} {ls sk : List Value} {h : zH} : zrun zpp E 84 (50, ls, sk, h) = zrun zpp E 84 (51, ls, .int 1 :: sk, h) := zg_iconst rfl ci_1
theorem zi84_51 {E : zE} {x : Int32} {ls sk : List Value} {h : zH} : zrun zpp E 84 (51, ls, [.int x], h) = if x = 0 then some (some (.int 0), h) else if x = 1 then some (some (.int 1), h) else none := zrun_at rfl
theorem zi84_52 {E : zE} {v0 v1 v2 v3 : Value} {x : Int32} {ls sk : List Value} {h : zH} : zrun zpp E 84 (52, v0 :: v1 :: v2 :: v3 :: .int x :: ls, sk, h) = if zfree (v0 :: v1 :: v2 :: v3 :: .int x :: ls) 4 = true then zrun zpp E 84 (55, v0 :: v1 :: v2 :: v3 :: .int (x + 1) :: ls, sk, h) else none := by rw [← ci_1]; exact zrun_at rfl
theorem zi84_55 {E : zE} {ls sk : List Value} {h : zH} : zrun zpp E 84 (55, ls, sk, h) = zrun zpp E 84 (3, ls, sk, h) := zrun_at rfl
theorem zi84_58 {E : zE} {ls sk : List Value} {h : zH} : zrun zpp E 84 (58, ls, sk, h) = zrun zpp E 84 (59, ls, .int 0 :: sk, h) := zg_iconst rfl ci_0
theorem zi84_59 {E : zE} {x : Int32} {ls sk : List Value} {h : zH} : zrun zpp E 84 (59, ls, [.int x], h) = if x = 0 then some (some (.int 0), h) else if x = 1 then some (some (.int 1), h) else none := zrun_at rfl
-- 85 NineDown$Yard.layerOf
theorem zi85_0 {E : zE} {x : Nat} {ls sk : List Value} {h : zH} : zrun zpp E 85 (0, .ref x :: ls, sk, h) = zrun zpp E 85 (1, .ref x :: ls, .ref x :: sk, h) := zrun_at rfl
theorem zi85_0n {E : zE} {ls sk : List Value} {h : zH} : zrun zpp E 85 (0, .null :: ls, sk, h) = zrun zpp E 85 (1, .null :: ls, .null :: sk, h) := zrun_at rfl
theorem zi85_1 {E : zE} {x : Nat} {ls sk : List Value} {h : zH} : zrun zpp E 85 (1, ls, .ref x :: sk, h) = (zfld [9] h x 15).bind (fun v => zrun zpp E 85 (4, ls, v :: sk, h)) := zg_getf rfl
theorem zi85_4 {E : zE} {x : Int32} {ls sk : List Value} {h : zH} : zrun zpp E 85 (4, ls, .int x :: sk, h) = if zfree ls 2 = true then zrun zpp E 85 (5, ls.set 2 (.int x), sk, h) else none := zg_ist rfl (fun _ _ _ => rfl)
theorem zi85_5 {E : zE} {ls sk : List Value} {h : zH} : zrun zpp E 85 (5, ls, sk, h) = zrun zpp E 85 (6, ls, .int 0 :: sk, h) := zg_iconst rfl ci_0
theorem zi85_6 {E : zE} {x : Int32} {ls sk : List Value} {h : zH} : zrun zpp E 85 (6, ls, .int x :: sk, h) = if zfree ls 3 = true then zrun zpp E 85 (7, ls.set 3 (.int x), sk, h) else none := zg_ist rfl (fun _ _ _ => rfl)
theorem zi85_7 {E : zE} {v0 v1 v2 : Value} {x : Int32} {ls sk : List Value} {h : zH} : zrun zpp E 85 (7, v0 :: v1 :: v2 :: .int x :: ls, sk, h) = zrun zpp E 85 (8, v0 :: v1 :: v2 :: .int x :: ls, .int x :: sk, h) := zrun_at rfl
theorem zi85_8 {E : zE} {x : Nat} {ls sk : List Value} {h : zH} : zrun zpp E 85 (8, .ref x :: ls, sk, h) = zrun zpp E 85 (9, .ref x :: ls, .ref x :: sk, h) := zrun_at rfl
theorem zi85_8n {E : zE} {ls sk : List Value} {h : zH} : zrun zpp E 85 (8, .null :: ls, sk, h) = zrun zpp E 85 (9, .null :: ls, .null :: sk, h) := zrun_at rfl
theorem zi85_9 {E : zE} {x : Nat} {ls sk : List Value} {h : zH} : zrun zpp E 85 (9, ls, .ref x :: sk, h) = (zfld [9] h x 3).bind (fun v => zrun zpp E 85 (12, ls, v :: sk, h)) := zg_getf rfl
theorem zi85_12 {E : zE} {x y : Int32} {ls sk : List Value} {h : zH} : zrun zpp E 85 (12, ls, .int y :: .int x :: sk, h) = if y ≤ x then zrun zpp E 85 (46, ls, sk, h) else zrun zpp E 85 (15, ls, sk, h) := zrun_at rfl
theorem zi85_15 {E : zE} {v0 v1 : Value} {x : Int32} {ls sk : List Value} {h : zH} : zrun zpp E 85 (15, v0 :: v1 :: .int x :: ls, sk, h) = zrun zpp E 85 (16, v0 :: v1 :: .int x :: ls, .int x :: sk, h) := zrun_at rfl
theorem zi85_16 {E : zE} {v0 : Value} {x : Int32} {ls sk : List Value} {h : zH} : zrun zpp E 85 (16, v0 :: .int x :: ls, sk, h) = zrun zpp E 85 (17, v0 :: .int x :: ls, .int x :: sk, h) := zrun_at rfl
theorem zi85_17 {E : zE} {a0 a1 : Value} {ls sk : List Value} {h : zH} : zrun zpp E 85 (17, ls, a1 :: a0 :: sk, h) = zcl1 E 85 20 127 ls sk [a0, a1] h := zg_inv (as := [a0, a1]) rfl rfl
theorem zi85_20 {E : zE} {x : Int32} {ls sk : List Value} {h : zH} : zrun zpp E 85 (20, ls, .int x :: sk, h) = if x = 0 then zrun zpp E 85 (46, ls, sk, h) else zrun zpp E 85 (23, ls, sk, h) := zrun_at rfl
theorem zi85_23 {E : zE} {x : Nat} {ls sk : List Value} {h : zH} : zrun zpp E 85 (23, .ref x :: ls, sk, h) = zrun zpp E 85 (24, .ref x :: ls, .ref x :: sk, h) := zrun_at rfl
theorem zi85_23n {E : zE} {ls sk : List Value} {h : zH} : zrun zpp E 85 (23, .null :: ls, sk, h) = zrun zpp E 85 (24, .null :: ls, .null :: sk, h) := zrun_at rfl
theorem zi85_24 {E : zE} {v0 : Value} {x : Int32} {ls sk : List Value} {h : zH} : zrun zpp E 85 (24, v0 :: .int x :: ls, sk, h) = zrun zpp E 85 (25, v0 :: .int x :: ls, .int x :: sk, h) := zrun_at rfl
theorem zi85_25 {E : zE} {v0 v1 : Value} {x : Int32} {ls sk : List Value} {h : zH} : zrun zpp E 85 (25, v0 :: v1 :: .int x :: ls, sk, h) = zrun zpp E 85 (26, v0 :: v1 :: .int x :: ls, .int x :: sk, h) := zrun_at rfl
theorem zi85_26 {E : zE} {a0 a1 : Value} {x : Nat} {ls sk : List Value} {h : zH} : zrun zpp E 85 (26, ls, a1 :: a0 :: .ref x :: sk, h) = (zcls h x).bind (fun d => (zsel d [9, 77]).bind (fun M' => zcl1 E 85 29 M' ls sk [.ref x, a0, a1] h)) := zg_vir (as := [a0, a1]) rfl rfl
theorem zi85_29 {E : zE} {x : Int32} {ls sk : List Value} {h : zH} : zrun zpp E 85 (29, ls, .int x :: sk, h) = if x = 0 then zrun zpp E 85 (34, ls, sk, h) else zrun zpp E 85 (32, ls, sk, h) := zrun_at rfl
theorem zi85_32 {E : zE} {v0 v1 v2 : Value} {x : Int32} {ls sk : List Value} {h : zH} : zrun zpp E 85 (32, v0 :: v1 :: v2 :: .int x :: ls, sk, h) = zrun zpp E 85 (33, v0 :: v1 :: v2 :: .int x :: ls, .int x :: sk, h) := zrun_at rfl
theorem zi85_33 {E : zE} {x : Int32} {ls sk : List Value} {h : zH} : zrun zpp E 85 (33, ls, [.int x], h) = some (some (.int x), h) := zrun_at rfl
theorem zi85_34 {E : zE} {x : Nat} {ls sk : List Value} {h : zH} : zrun zpp E 85 (34, .ref x :: ls, sk, h) = zrun zpp E 85 (35, .ref x :: ls, .ref x :: sk, h) := zrun_at rfl
theorem zi85_34n {E : zE} {ls sk : List Value} {h : zH} : zrun zpp E 85 (34, .null :: ls, sk, h) = zrun zpp E 85 (35, .null :: ls, .null :: sk, h) := zrun_at rfl
theorem zi85_35 {E : zE} {v0 v1 : Value} {x : Int32} {ls sk : List Value} {h : zH} : zrun zpp E 85 (35, v0 :: v1 :: .int x :: ls, sk, h) = zrun zpp E 85 (36, v0 :: v1 :: .int x :: ls, .int x :: sk, h) := zrun_at rfl
theorem zi85_36 {E : zE} {a0 : Value} {x : Nat} {ls sk : List Value} {h : zH} : zrun zpp E 85 (36, ls, a0 :: .ref x :: sk, h) = (zcls h x).bind (fun d => (zsel d [9, 86]).bind (fun M' => zcl1 E 85 39 M' ls sk [.ref x, a0] h)) := zg_vir (as := [a0]) rfl rfl
theorem zi85_39 {E : zE} {x : Int32} {ls sk : List Value} {h : zH} : zrun zpp E 85 (39, ls, .int x :: sk, h) = if zfree ls 2 = true then zrun zpp E 85 (40, ls.set 2 (.int x), sk, h) else none := zg_ist rfl (fun _ _ _ => rfl)
theorem zi85_40 {E : zE} {v0 v1 v2 : Value} {x : Int32} {ls sk : List Value} {h : zH} : zrun zpp E 85 (40, v0 :: v1 :: v2 :: .int x :: ls, sk, h) = if zfree (v0 :: v1 :: v2 :: .int x :: ls) 3 = true then zrun zpp E 85 (43, v0 :: v1 :: v2 :: .int (x + 1) :: ls, sk, h) else none := by rw [← ci_1]; exact zrun_at rfl
theorem zi85_43 {E : zE} {ls sk : List Value} {h : zH} : zrun zpp E 85 (43, ls, sk, h) = zrun zpp E 85 (7, ls, sk, h) := zrun_at rfl
theorem zi85_46 {E : zE} {ls sk : List Value} {h : zH} : zrun zpp E 85 (46, ls, sk, h) = zrun zpp E 85 (48, ls, .int (-1000000) :: sk, h) := zg_ldc rfl ci_m1000000
theorem zi85_48 {E : zE} {x : Int32} {ls sk : List Value} {h : zH} : zrun zpp E 85 (48, ls, [.int x], h) = some (some (.int x), h) := zrun_at rfl
-- 86 NineDown$Yard.withoutFree
theorem zi86_0 {E : zE} {v0 : Value} {x : Int32} {ls sk : List Value} {h : zH} : zrun zpp E 86 (0, v0 :: .int x :: ls, sk, h) = zrun zpp E 86 (1, v0 :: .int x :: ls, .int x :: sk, h) := zrun_at rfl
theorem zi86_1 {E : zE} {x : Int32} {ls sk : List Value} {h : zH} : zrun zpp E 86 (1, ls, .int x :: sk, h) = if zfree ls 2 = true then zrun zpp E 86 (2, ls.set 2 (.int x), sk, h) else none := zg_ist rfl (fun _ _ _ => rfl)
theorem zi86_2 {E : zE} {ls sk : List Value} {h : zH} : zrun zpp E 86 (2, ls, sk, h) = zrun zpp E 86 (3, ls, .int 0 :: sk, h) := zg_iconst rfl ci_0
theorem zi86_3 {E : zE} {x : Int32} {ls sk : List Value} {h : zH} : zrun zpp E 86 (3, ls, .int x :: sk, h) = if zfree ls 3 = true then zrun zpp E 86 (4, ls.set 3 (.int x), sk, h) else none := zg_ist rfl (fun _ _ _ => rfl)
theorem zi86_4 {E : zE} {v0 v1 v2 : Value} {x : Int32} {ls sk : List Value} {h : zH} : zrun zpp E 86 (4, v0 :: v1 :: v2 :: .int x :: ls, sk, h) = zrun zpp E 86 (5, v0 :: v1 :: v2 :: .int x :: ls, .int x :: sk, h) := zrun_at rfl
theorem zi86_5 {E : zE} {x : Nat} {ls sk : List Value} {h : zH} : zrun zpp E 86 (5, .ref x :: ls, sk, h) = zrun zpp E 86 (6, .ref x :: ls, .ref x :: sk, h) := zrun_at rfl
theorem zi86_5n {E : zE} {ls sk : List Value} {h : zH} : zrun zpp E 86 (5, .null :: ls, sk, h) = zrun zpp E 86 (6, .null :: ls, .null :: sk, h) := zrun_at rfl
theorem zi86_6 {E : zE} {x : Nat} {ls sk : List Value} {h : zH} : zrun zpp E 86 (6, ls, .ref x :: sk, h) = (zfld [9] h x 3).bind (fun v => zrun zpp E 86 (9, ls, v :: sk, h)) := zg_getf rfl
theorem zi86_9 {E : zE} {x y : Int32} {ls sk : List Value} {h : zH} : zrun zpp E 86 (9, ls, .int y :: .int x :: sk, h) = if y ≤ x then zrun zpp E 86 (39, ls, sk, h) else zrun zpp E 86 (12, ls, sk, h) := zrun_at rfl
theorem zi86_12 {E : zE} {v0 v1 : Value} {x : Int32} {ls sk : List Value} {h : zH} : zrun zpp E 86 (12, v0 :: v1 :: .int x :: ls, sk, h) = zrun zpp E 86 (13, v0 :: v1 :: .int x :: ls, .int x :: sk, h) := zrun_at rfl
theorem zi86_13 {E : zE} {x : Nat} {ls sk : List Value} {h : zH} : zrun zpp E 86 (13, .ref x :: ls, sk, h) = zrun zpp E 86 (14, .ref x :: ls, .ref x :: sk, h) := zrun_at rfl
theorem zi86_13n {E : zE} {ls sk : List Value} {h : zH} : zrun zpp E 86 (13, .null :: ls, sk, h) = zrun zpp E 86 (14, .null :: ls, .null :: sk, h) := zrun_at rfl
theorem zi86_14 {E : zE} {v0 v1 v2 : Value} {x : Int32} {ls sk : List Value} {h : zH} : zrun zpp E 86 (14, v0 :: v1 :: v2 :: .int x :: ls, sk, h) = zrun zpp E 86 (15, v0 :: v1 :: v2 :: .int x :: ls, .int x :: sk, h) := zrun_at rfl
theorem zi86_15 {E : zE} {v0 : Value} {x : Int32} {ls sk : List Value} {h : zH} : zrun zpp E 86 (15, v0 :: .int x :: ls, sk, h) = zrun zpp E 86 (16, v0 :: .int x :: ls, .int x :: sk, h) := zrun_at rfl
theorem zi86_16 {E : zE} {a0 a1 : Value} {x : Nat} {ls sk : List Value} {h : zH} : zrun zpp E 86 (16, ls, a1 :: a0 :: .ref x :: sk, h) = (zcls h x).bind (fun d => (zsel d [9, 77]).bind (fun M' => zcl1 E 86 19 M' ls sk [.ref x, a0, a1] h)) := zg_vir (as := [a0, a1]) rfl rfl
theorem zi86_19 {E : zE} {x : Int32} {ls sk : List Value} {h : zH} : zrun zpp E 86 (19, ls, .int x :: sk, h) = if x = 0 then zrun zpp E 86 (30, ls, sk, h) else zrun zpp E 86 (22, ls, sk, h) := zrun_at rfl
theorem zi86_22 {E : zE} {ls sk : List Value} {h : zH} : zrun zpp E 86 (22, ls, sk, h) = zrun zpp E 86 (23, ls, .int 1 :: sk, h) := zg_iconst rfl ci_1
theorem zi86_23 {E : zE} {v0 v1 v2 : Value} {x : Int32} {ls sk : List Value} {h : zH} : zrun zpp E 86 (23, v0 :: v1 :: v2 :: .int x :: ls, sk, h) = zrun zpp E 86 (24, v0 :: v1 :: v2 :: .int x :: ls, .int x :: sk, h) := zrun_at rfl
theorem zi86_24 {E : zE} {x y : Int32} {ls sk : List Value} {h : zH} : zrun zpp E 86 (24, ls, .int y :: .int x :: sk, h) = zrun zpp E 86 (25, ls, .int (x <<< (y &&& 31)) :: sk, h) := zrun_at rfl
theorem zi86_25 {E : zE} {ls sk : List Value} {h : zH} : zrun zpp E 86 (25, ls, sk, h) = zrun zpp E 86 (26, ls, .int (-1) :: sk, h) := zg_iconst rfl ci_m1
theorem zi86_26 {E : zE} {x y : Int32} {ls sk : List Value} {h : zH} : zrun zpp E 86 (26, ls, .int y :: .int x :: sk, h) = zrun zpp E 86 (27, ls, .int (x ^^^ y) :: sk, h) := zrun_at rfl
theorem zi86_27 {E : zE} {ls sk : List Value} {h : zH} : zrun zpp E 86 (27, ls, sk, h) = zrun zpp E 86 (31, ls, sk, h) := zrun_at rfl
theorem zi86_30 {E : zE} {ls sk : List Value} {h : zH} : zrun zpp E 86 (30, ls, sk, h) = zrun zpp E 86 (31, ls, .int (-1) :: sk, h) := zg_iconst rfl ci_m1
theorem zi86_31 {E : zE} {x y : Int32} {ls sk : List Value} {h : zH} : zrun zpp E 86 (31, ls, .int y :: .int x :: sk, h) = zrun zpp E 86 (32, ls, .int (x &&& y) :: sk, h) := zrun_at rfl
theorem zi86_32 {E : zE} {x : Int32} {ls sk : List Value} {h : zH} : zrun zpp E 86 (32, ls, .int x :: sk, h) = if zfree ls 2 = true then zrun zpp E 86 (33, ls.set 2 (.int x), sk, h) else none := zg_ist rfl (fun _ _ _ => rfl)
theorem zi86_33 {E : zE} {v0 v1 v2 : Value} {x : Int32} {ls sk : List Value} {h : zH} : zrun zpp E 86 (33, v0 :: v1 :: v2 :: .int x :: ls, sk, h) = if zfree (v0 :: v1 :: v2 :: .int x :: ls) 3 = true then zrun zpp E 86 (36, v0 :: v1 :: v2 :: .int (x + 1) :: ls, sk, h) else none := by rw [← ci_1]; exact zrun_at rfl
theorem zi86_36 {E : zE} {ls sk : List Value} {h : zH} : zrun zpp E 86 (36, ls, sk, h) = zrun zpp E 86 (4, ls, sk, h) := zrun_at rfl
theorem zi86_39 {E : zE} {v0 v1 : Value} {x : Int32} {ls sk : List Value} {h : zH} : zrun zpp E 86 (39, v0 :: v1 :: .int x :: ls, sk, h) = zrun zpp E 86 (40, v0 :: v1 :: .int x :: ls, .int x :: sk, h) := zrun_at rfl
theorem zi86_40 {E : zE} {x : Int32} {ls sk : List Value} {h : zH} : zrun zpp E 86 (40, ls, [.int x], h) = some (some (.int x), h) := zrun_at rfl
-- 87 NineDown$Yard.goDown
theorem zi87_0 {E : zE} {ls sk : List Value} {h : zH} : zrun zpp E 87 (0, ls, sk, h) = zrun zpp E 87 (1, ls, .int 1 :: sk, h) := zg_iconst rfl ci_1
theorem zi87_1 {E : zE} {v0 : Value} {x : Int32} {ls sk : List Value} {h : zH} : zrun zpp E 87 (1, v0 :: .int x :: ls, sk, h) = zrun zpp E 87 (2, v0 :: .int x :: ls, .int x :: sk, h) := zrun_at rfl
theorem zi87_2 {E : zE} {x y : Int32} {ls sk : List Value} {h : zH} : zrun zpp E 87 (2, ls, .int y :: .int x :: sk, h) = zrun zpp E 87 (3, ls, .int (x <<< (y &&& 31)) :: sk, h) := zrun_at rfl
theorem zi87_3 {E : zE} {x : Int32} {ls sk : List Value} {h : zH} : zrun zpp E 87 (3, ls, .int x :: sk, h) = if zfree ls 3 = true then zrun zpp E 87 (4, ls.set 3 (.int x), sk, h) else none := zg_ist rfl (fun _ _ _ => rfl)
theorem zi87_4 {E : zE} {v0 v1 : Value} {x : Int32} {ls sk : List Value} {h : zH} : zrun zpp E 87 (4, v0 :: v1 :: .int x :: ls, sk, h) = zrun zpp E 87 (5, v0 :: v1 :: .int x :: ls, .int x :: sk, h) := zrun_at rfl
theorem zi87_5 {E : zE} {ls sk : List Value} {h : zH} : zrun zpp E 87 (5, ls, sk, h) = zrun zpp E 87 (6, ls, .int 1 :: sk, h) := zg_iconst rfl ci_1
theorem zi87_6 {E : zE} {x y : Int32} {ls sk : List Value} {h : zH} : zrun zpp E 87 (6, ls, .int y :: .int x :: sk, h) = if x = y then zrun zpp E 87 (9, ls, sk, h) else zrun zpp E 87 (55, ls, sk, h) := zrun_at rfl
theorem zi87_9 {E : zE} {v0 : Value} {x : Int32} {ls sk : List Value} {h : zH} : zrun zpp E 87 (9, v0 :: .int x :: ls, sk, h) = zrun zpp E 87 (10, v0 :: .int x :: ls, .int x :: sk, h) := zrun_at rfl
theorem zi87_10 {E : zE} {ls sk : List Value} {h : zH} : zrun zpp E 87 (10, ls, sk, h) = zrun zpp E 87 (11, ls, .int 1 :: sk, h) := zg_iconst rfl ci_1
theorem zi87_11 {E : zE} {x y : Int32} {ls sk : List Value} {h : zH} : zrun zpp E 87 (11, ls, .int y :: .int x :: sk, h) = zrun zpp E 87 (12, ls, .int (x + y) :: sk, h) := zrun_at rfl
theorem zi87_12 {E : zE} {x : Int32} {ls sk : List Value} {h : zH} : zrun zpp E 87 (12, ls, .int x :: sk, h) = if zfree ls 4 = true then zrun zpp E 87 (14, ls.set 4 (.int x), sk, h) else none := zg_ist rfl (fun _ _ _ => rfl)
theorem zi87_14 {E : zE} {v0 v1 v2 v3 : Value} {x : Int32} {ls sk : List Value} {h : zH} : zrun zpp E 87 (14, v0 :: v1 :: v2 :: v3 :: .int x :: ls, sk, h) = zrun zpp E 87 (16, v0 :: v1 :: v2 :: v3 :: .int x :: ls, .int x :: sk, h) := zrun_at rfl
theorem zi87_16 {E : zE} {x : Nat} {ls sk : List Value} {h : zH} : zrun zpp E 87 (16, .ref x :: ls, sk, h) = zrun zpp E 87 (17, .ref x :: ls, .ref x :: sk, h) := zrun_at rfl
theorem zi87_16n {E : zE} {ls sk : List Value} {h : zH} : zrun zpp E 87 (16, .null :: ls, sk, h) = zrun zpp E 87 (17, .null :: ls, .null :: sk, h) := zrun_at rfl
theorem zi87_17 {E : zE} {x : Nat} {ls sk : List Value} {h : zH} : zrun zpp E 87 (17, ls, .ref x :: sk, h) = (zfld [9] h x 3).bind (fun v => zrun zpp E 87 (20, ls, v :: sk, h)) := zg_getf rfl
theorem zi87_20 {E : zE} {x y : Int32} {ls sk : List Value} {h : zH} : zrun zpp E 87 (20, ls, .int y :: .int x :: sk, h) = if y ≤ x then zrun zpp E 87 (52, ls, sk, h) else zrun zpp E 87 (23, ls, sk, h) := zrun_at rfl
theorem zi87_23 {E : zE} {x : Nat} {ls sk : List Value} {h : zH} : zrun zpp E 87 (23, .ref x :: ls, sk, h) = zrun zpp E 87 (24, .ref x :: ls, .ref x :: sk, h) := zrun_at rfl
theorem zi87_23n {E : zE} {ls sk : List Value} {h : zH} : zrun zpp E 87 (23, .null :: ls, sk, h) = zrun zpp E 87 (24, .null :: ls, .null :: sk, h) := zrun_at rfl
theorem zi87_24 {E : zE} {x : Nat} {ls sk : List Value} {h : zH} : zrun zpp E 87 (24, ls, .ref x :: sk, h) = (zfld [9] h x 7).bind (fun v => zrun zpp E 87 (27, ls, v :: sk, h)) := zg_getf rfl
theorem zi87_27 {E : zE} {v0 v1 v2 v3 : Value} {x : Int32} {ls sk : List Value} {h : zH} : zrun zpp E 87 (27, v0 :: v1 :: v2 :: v3 :: .int x :: ls, sk, h) = zrun zpp E 87 (29, v0 :: v1 :: v2 :: v3 :: .int x :: ls, .int x :: sk, h) := zrun_at rfl
theorem zi87_29 {E : zE} {ls sk : List Value} {h : zH} : zrun zpp E 87 (29, ls, sk, h) = zrun zpp E 87 (30, ls, .int 1 :: sk, h) := zg_iconst rfl ci_1
theorem zi87_30 {E : zE} {x y : Int32} {ls sk : List Value} {h : zH} : zrun zpp E 87 (30, ls, .int y :: .int x :: sk, h) = zrun zpp E 87 (31, ls, .int (x - y) :: sk, h) := zrun_at rfl
theorem zi87_31 {E : zE} {x : Nat} {i : Int32} {ls sk : List Value} {h : zH} : zrun zpp E 87 (31, ls, .int i :: .ref x :: sk, h) = (zarr 0 h x i).bind (fun v => zrun zpp E 87 (32, ls, .int v :: sk, h)) := zg_iald rfl
theorem zi87_32 {E : zE} {x : Nat} {ls sk : List Value} {h : zH} : zrun zpp E 87 (32, .ref x :: ls, sk, h) = zrun zpp E 87 (33, .ref x :: ls, .ref x :: sk, h) := zrun_at rfl
theorem zi87_32n {E : zE} {ls sk : List Value} {h : zH} : zrun zpp E 87 (32, .null :: ls, sk, h) = zrun zpp E 87 (33, .null :: ls, .null :: sk, h) := zrun_at rfl
theorem zi87_33 {E : zE} {x : Nat} {ls sk : List Value} {h : zH} : zrun zpp E 87 (33, ls, .ref x :: sk, h) = (zfld [9] h x 0).bind (fun v => zrun zpp E 87 (36, ls, v :: sk, h)) := zg_getf rfl
theorem zi87_36 {E : zE} {x y : Int32} {ls sk : List Value} {h : zH} : zrun zpp E 87 (36, ls, .int y :: .int x :: sk, h) = if y < x then zrun zpp E 87 (52, ls, sk, h) else zrun zpp E 87 (39, ls, sk, h) := zrun_at rfl
theorem zi87_39 {E : zE} {v0 v1 v2 : Value} {x : Int32} {ls sk : List Value} {h : zH} : zrun zpp E 87 (39, v0 :: v1 :: v2 :: .int x :: ls, sk, h) = zrun zpp E 87 (40, v0 :: v1 :: v2 :: .int x :: ls, .int x :: sk, h) := zrun_at rfl
theorem zi87_40 {E : zE} {ls sk : List Value} {h : zH} : zrun zpp E 87 (40, ls, sk, h) = zrun zpp E 87 (41, ls, .int 1 :: sk, h) := zg_iconst rfl ci_1
theorem zi87_41 {E : zE} {v0 v1 v2 v3 : Value} {x : Int32} {ls sk : List Value} {h : zH} : zrun zpp E 87 (41, v0 :: v1 :: v2 :: v3 :: .int x :: ls, sk, h) = zrun zpp E 87 (43, v0 :: v1 :: v2 :: v3 :: .int x :: ls, .int x :: sk, h) := zrun_at rfl
theorem zi87_43 {E : zE} {x y : Int32} {ls sk : List Value} {h : zH} : zrun zpp E 87 (43, ls, .int y :: .int x :: sk, h) = zrun zpp E 87 (44, ls, .int (x <<< (y &&& 31)) :: sk, h) := zrun_at rfl
theorem zi87_44 {E : zE} {x y : Int32} {ls sk : List Value} {h : zH} : zrun zpp E 87 (44, ls, .int y :: .int x :: sk, h) = zrun zpp E 87 (45, ls, .int (x ||| y) :: sk, h) := zrun_at rfl
theorem zi87_45 {E : zE} {x : Int32} {ls sk : List Value} {h : zH} : zrun zpp E 87 (45, ls, .int x :: sk, h) = if zfree ls 3 = true then zrun zpp E 87 (46, ls.set 3 (.int x), sk, h) else none := zg_ist rfl (fun _ _ _ => rfl)
theorem zi87_46 {E : zE} {v0 v1 v2 v3 : Value} {x : Int32} {ls sk : List Value} {h : zH} : zrun zpp E 87 (46, v0 :: v1 :: v2 :: v3 :: .int x :: ls, sk, h) = if zfree (v0 :: v1 :: v2 :: v3 :: .int x :: ls) 4 = true then zrun zpp E 87 (49, v0 :: v1 :: v2 :: v3 :: .int (x + 1) :: ls, sk, h) else none := by rw [← ci_1]; exact zrun_at rfl
theorem zi87_49 {E : zE} {ls sk : List Value} {h : zH} : zrun zpp E 87 (49, ls, sk, h) = zrun zpp E 87 (14, ls, sk, h) := zrun_at rfl
theorem zi87_52 {E : zE} {ls sk : List Value} {h : zH} : zrun zpp E 87 (52, ls, sk, h) = zrun zpp E 87 (92, ls, sk, h) := zrun_at rfl
theorem zi87_55 {E : zE} {v0 : Value} {x : Int32} {ls sk : List Value} {h : zH} : zrun zpp E 87 (55, v0 :: .int x :: ls, sk, h) = zrun zpp E 87 (56, v0 :: .int x :: ls, .int x :: sk, h) := zrun_at rfl
theorem zi87_56 {E : zE} {ls sk : List Value} {h : zH} : zrun zpp E 87 (56, ls, sk, h) = zrun zpp E 87 (57, ls, .int 1 :: sk, h) := zg_iconst rfl ci_1
theorem zi87_57 {E : zE} {x y : Int32} {ls sk : List Value} {h : zH} : zrun zpp E 87 (57, ls, .int y :: .int x :: sk, h) = zrun zpp E 87 (58, ls, .int (x - y) :: sk, h) := zrun_at rfl
theorem zi87_58 {E : zE} {x : Int32} {ls sk : List Value} {h : zH} : zrun zpp E 87 (58, ls, .int x :: sk, h) = if zfree ls 4 = true then zrun zpp E 87 (60, ls.set 4 (.int x), sk, h) else none := zg_ist rfl (fun _ _ _ => rfl)
theorem zi87_60 {E : zE} {v0 v1 v2 v3 : Value} {x : Int32} {ls sk : List Value} {h : zH} : zrun zpp E 87 (60, v0 :: v1 :: v2 :: v3 :: .int x :: ls, sk, h) = zrun zpp E 87 (62, v0 :: v1 :: v2 :: v3 :: .int x :: ls, .int x :: sk, h) := zrun_at rfl
theorem zi87_62 {E : zE} {x : Int32} {ls sk : List Value} {h : zH} : zrun zpp E 87 (62, ls, .int x :: sk, h) = if x < 0 then zrun zpp E 87 (92, ls, sk, h) else zrun zpp E 87 (65, ls, sk, h) := zrun_at rfl
theorem zi87_65 {E : zE} {x : Nat} {ls sk : List Value} {h : zH} : zrun zpp E 87 (65, .ref x :: ls, sk, h) = zrun zpp E 87 (66, .ref x :: ls, .ref x :: sk, h) := zrun_at rfl
theorem zi87_65n {E : zE} {ls sk : List Value} {h : zH} : zrun zpp E 87 (65, .null :: ls, sk, h) = zrun zpp E 87 (66, .null :: ls, .null :: sk, h) := zrun_at rfl
theorem zi87_66 {E : zE} {x : Nat} {ls sk : List Value} {h : zH} : zrun zpp E 87 (66, ls, .ref x :: sk, h) = (zfld [9] h x 7).bind (fun v => zrun zpp E 87 (69, ls, v :: sk, h)) := zg_getf rfl
theorem zi87_69 {E : zE} {v0 v1 v2 v3 : Value} {x : Int32} {ls sk : List Value} {h : zH} : zrun zpp E 87 (69, v0 :: v1 :: v2 :: v3 :: .int x :: ls, sk, h) = zrun zpp E 87 (71, v0 :: v1 :: v2 :: v3 :: .int x :: ls, .int x :: sk, h) := zrun_at rfl
theorem zi87_71 {E : zE} {x : Nat} {i : Int32} {ls sk : List Value} {h : zH} : zrun zpp E 87 (71, ls, .int i :: .ref x :: sk, h) = (zarr 0 h x i).bind (fun v => zrun zpp E 87 (72, ls, .int v :: sk, h)) := zg_iald rfl
theorem zi87_72 {E : zE} {x : Nat} {ls sk : List Value} {h : zH} : zrun zpp E 87 (72, .ref x :: ls, sk, h) = zrun zpp E 87 (73, .ref x :: ls, .ref x :: sk, h) := zrun_at rfl
theorem zi87_72n {E : zE} {ls sk : List Value} {h : zH} : zrun zpp E 87 (72, .null :: ls, sk, h) = zrun zpp E 87 (73, .null :: ls, .null :: sk, h) := zrun_at rfl
theorem zi87_73 {E : zE} {x : Nat} {ls sk : List Value} {h : zH} : zrun zpp E 87 (73, ls, .ref x :: sk, h) = (zfld [9] h x 0).bind (fun v => zrun zpp E 87 (76, ls, v :: sk, h)) := zg_getf rfl
theorem zi87_76 {E : zE} {x y : Int32} {ls sk : List Value} {h : zH} : zrun zpp E 87 (76, ls, .int y :: .int x :: sk, h) = if y < x then zrun zpp E 87 (92, ls, sk, h) else zrun zpp E 87 (79, ls, sk, h) := zrun_at rfl
theorem zi87_79 {E : zE} {v0 v1 v2 : Value} {x : Int32} {ls sk : List Value} {h : zH} : zrun zpp E 87 (79, v0 :: v1 :: v2 :: .int x :: ls, sk, h) = zrun zpp E 87 (80, v0 :: v1 :: v2 :: .int x :: ls, .int x :: sk, h) := zrun_at rfl
theorem zi87_80 {E : zE} {ls sk : List Value} {h : zH} : zrun zpp E 87 (80, ls, sk, h) = zrun zpp E 87 (81, ls, .int 1 :: sk, h) := zg_iconst rfl ci_1
theorem zi87_81 {E : zE} {v0 v1 v2 v3 : Value} {x : Int32} {ls sk : List Value} {h : zH} : zrun zpp E 87 (81, v0 :: v1 :: v2 :: v3 :: .int x :: ls, sk, h) = zrun zpp E 87 (83, v0 :: v1 :: v2 :: v3 :: .int x :: ls, .int x :: sk, h) := zrun_at rfl
theorem zi87_83 {E : zE} {x y : Int32} {ls sk : List Value} {h : zH} : zrun zpp E 87 (83, ls, .int y :: .int x :: sk, h) = zrun zpp E 87 (84, ls, .int (x <<< (y &&& 31)) :: sk, h) := zrun_at rfl
theorem zi87_84 {E : zE} {x y : Int32} {ls sk : List Value} {h : zH} : zrun zpp E 87 (84, ls, .int y :: .int x :: sk, h) = zrun zpp E 87 (85, ls, .int (x ||| y) :: sk, h) := zrun_at rfl
theorem zi87_85 {E : zE} {x : Int32} {ls sk : List Value} {h : zH} : zrun zpp E 87 (85, ls, .int x :: sk, h) = if zfree ls 3 = true then zrun zpp E 87 (86, ls.set 3 (.int x), sk, h) else none := zg_ist rfl (fun _ _ _ => rfl)
theorem zi87_86 {E : zE} {v0 v1 v2 v3 : Value} {x : Int32} {ls sk : List Value} {h : zH} : zrun zpp E 87 (86, v0 :: v1 :: v2 :: v3 :: .int x :: ls, sk, h) = if zfree (v0 :: v1 :: v2 :: v3 :: .int x :: ls) 4 = true then zrun zpp E 87 (89, v0 :: v1 :: v2 :: v3 :: .int (x + (-1)) :: ls, sk, h) else none := by rw [← ci_m1]; exact zrun_at rfl
theorem zi87_89 {E : zE} {ls sk : List Value} {h : zH} : zrun zpp E 87 (89, ls, sk, h) = zrun zpp E 87 (60, ls, sk, h) := zrun_at rfl
theorem zi87_92 {E : zE} {v0 v1 v2 : Value} {x : Int32} {ls sk : List Value} {h : zH} : zrun zpp E 87 (92, v0 :: v1 :: v2 :: .int x :: ls, sk, h) = zrun zpp E 87 (93, v0 :: v1 :: v2 :: .int x :: ls, .int x :: sk, h) := zrun_at rfl
theorem zi87_93 {E : zE} {x : Int32} {ls sk : List Value} {h : zH} : zrun zpp E 87 (93, ls, [.int x], h) = some (some (.int x), h) := zrun_at rfl
-- 88 NineDown$Yard.longestRun
theorem zi88_0 {E : zE} {ls sk : List Value} {h : zH} : zrun zpp E 88 (0, ls, sk, h) = zrun zpp E 88 (1, ls, .int 1 :: sk, h) := zg_iconst rfl ci_1
theorem zi88_1 {E : zE} {x : Int32} {ls sk : List Value} {h : zH} : zrun zpp E 88 (1, ls, .int x :: sk, h) = if zfree ls 2 = true then zrun zpp E 88 (2, ls.set 2 (.int x), sk, h) else none := zg_ist rfl (fun _ _ _ => rfl)
theorem zi88_2 {E : zE} {ls sk : List Value} {h : zH} : zrun zpp E 88 (2, ls, sk, h) = zrun zpp E 88 (3, ls, .int 1 :: sk, h) := zg_iconst rfl ci_1
theorem zi88_3 {E : zE} {x : Int32} {ls sk : List Value} {h : zH} : zrun zpp E 88 (3, ls, .int x :: sk, h) = if zfree ls 3 = true then zrun zpp E 88 (4, ls.set 3 (.int x), sk, h) else none := zg_ist rfl (fun _ _ _ => rfl)
theorem zi88_4 {E : zE} {ls sk : List Value} {h : zH} : zrun zpp E 88 (4, ls, sk, h) = zrun zpp E 88 (5, ls, .int 1 :: sk, h) := zg_iconst rfl ci_1
theorem zi88_5 {E : zE} {x : Int32} {ls sk : List Value} {h : zH} : zrun zpp E 88 (5, ls, .int x :: sk, h) = if zfree ls 4 = true then zrun zpp E 88 (7, ls.set 4 (.int x), sk, h) else none := zg_ist rfl (fun _ _ _ => rfl)
theorem zi88_7 {E : zE} {v0 v1 v2 v3 : Value} {x : Int32} {ls sk : List Value} {h : zH} : zrun zpp E 88 (7, v0 :: v1 :: v2 :: v3 :: .int x :: ls, sk, h) = zrun zpp E 88 (9, v0 :: v1 :: v2 :: v3 :: .int x :: ls, .int x :: sk, h) := zrun_at rfl
theorem zi88_9 {E : zE} {x : Nat} {ls sk : List Value} {h : zH} : zrun zpp E 88 (9, .ref x :: ls, sk, h) = zrun zpp E 88 (10, .ref x :: ls, .ref x :: sk, h) := zrun_at rfl
theorem zi88_9n {E : zE} {ls sk : List Value} {h : zH} : zrun zpp E 88 (9, .null :: ls, sk, h) = zrun zpp E 88 (10, .null :: ls, .null :: sk, h) := zrun_at rfl
theorem zi88_10 {E : zE} {x : Nat} {ls sk : List Value} {h : zH} : zrun zpp E 88 (10, ls, .ref x :: sk, h) = (zfld [9] h x 3).bind (fun v => zrun zpp E 88 (13, ls, v :: sk, h)) := zg_getf rfl
theorem zi88_13 {E : zE} {x y : Int32} {ls sk : List Value} {h : zH} : zrun zpp E 88 (13, ls, .int y :: .int x :: sk, h) = if y ≤ x then zrun zpp E 88 (75, ls, sk, h) else zrun zpp E 88 (16, ls, sk, h) := zrun_at rfl
theorem zi88_16 {E : zE} {x : Nat} {ls sk : List Value} {h : zH} : zrun zpp E 88 (16, .ref x :: ls, sk, h) = zrun zpp E 88 (17, .ref x :: ls, .ref x :: sk, h) := zrun_at rfl
theorem zi88_16n {E : zE} {ls sk : List Value} {h : zH} : zrun zpp E 88 (16, .null :: ls, sk, h) = zrun zpp E 88 (17, .null :: ls, .null :: sk, h) := zrun_at rfl
theorem zi88_17 {E : zE} {x : Nat} {ls sk : List Value} {h : zH} : zrun zpp E 88 (17, ls, .ref x :: sk, h) = (zfld [9] h x 7).bind (fun v => zrun zpp E 88 (20, ls, v :: sk, h)) := zg_getf rfl
theorem zi88_20 {E : zE} {v0 v1 v2 v3 : Value} {x : Int32} {ls sk : List Value} {h : zH} : zrun zpp E 88 (20, v0 :: v1 :: v2 :: v3 :: .int x :: ls, sk, h) = zrun zpp E 88 (22, v0 :: v1 :: v2 :: v3 :: .int x :: ls, .int x :: sk, h) := zrun_at rfl
theorem zi88_22 {E : zE} {ls sk : List Value} {h : zH} : zrun zpp E 88 (22, ls, sk, h) = zrun zpp E 88 (23, ls, .int 1 :: sk, h) := zg_iconst rfl ci_1
theorem zi88_23 {E : zE} {x y : Int32} {ls sk : List Value} {h : zH} : zrun zpp E 88 (23, ls, .int y :: .int x :: sk, h) = zrun zpp E 88 (24, ls, .int (x - y) :: sk, h) := zrun_at rfl
theorem zi88_24 {E : zE} {x : Nat} {i : Int32} {ls sk : List Value} {h : zH} : zrun zpp E 88 (24, ls, .int i :: .ref x :: sk, h) = (zarr 0 h x i).bind (fun v => zrun zpp E 88 (25, ls, .int v :: sk, h)) := zg_iald rfl
theorem zi88_25 {E : zE} {x : Nat} {ls sk : List Value} {h : zH} : zrun zpp E 88 (25, .ref x :: ls, sk, h) = zrun zpp E 88 (26, .ref x :: ls, .ref x :: sk, h) := zrun_at rfl
theorem zi88_25n {E : zE} {ls sk : List Value} {h : zH} : zrun zpp E 88 (25, .null :: ls, sk, h) = zrun zpp E 88 (26, .null :: ls, .null :: sk, h) := zrun_at rfl
theorem zi88_26 {E : zE} {x : Nat} {ls sk : List Value} {h : zH} : zrun zpp E 88 (26, ls, .ref x :: sk, h) = (zfld [9] h x 0).bind (fun v => zrun zpp E 88 (29, ls, v :: sk, h)) := zg_getf rfl
theorem zi88_29 {E : zE} {x y : Int32} {ls sk : List Value} {h : zH} : zrun zpp E 88 (29, ls, .int y :: .int x :: sk, h) = if y < x then zrun zpp E 88 (47, ls, sk, h) else zrun zpp E 88 (32, ls, sk, h) := zrun_at rfl
theorem zi88_32 {E : zE} {v0 : Value} {x : Int32} {ls sk : List Value} {h : zH} : zrun zpp E 88 (32, v0 :: .int x :: ls, sk, h) = zrun zpp E 88 (33, v0 :: .int x :: ls, .int x :: sk, h) := zrun_at rfl
theorem zi88_33 {E : zE} {v0 v1 v2 v3 : Value} {x : Int32} {ls sk : List Value} {h : zH} : zrun zpp E 88 (33, v0 :: v1 :: v2 :: v3 :: .int x :: ls, sk, h) = zrun zpp E 88 (35, v0 :: v1 :: v2 :: v3 :: .int x :: ls, .int x :: sk, h) := zrun_at rfl
theorem zi88_35 {E : zE} {ls sk : List Value} {h : zH} : zrun zpp E 88 (35, ls, sk, h) = zrun zpp E 88 (36, ls, .int 1 :: sk, h) := zg_iconst rfl ci_1
theorem zi88_36 {E : zE} {x y : Int32} {ls sk : List Value} {h : zH} : zrun zpp E 88 (36, ls, .int y :: .int x :: sk, h) = zrun zpp E 88 (37, ls, .int (x - y) :: sk, h) := zrun_at rfl
theorem zi88_37 {E : zE} {a0 a1 : Value} {ls sk : List Value} {h : zH} : zrun zpp E 88 (37, ls, a1 :: a0 :: sk, h) = zcl1 E 88 40 127 ls sk [a0, a1] h := zg_inv (as := [a0, a1]) rfl rfl
theorem zi88_40 {E : zE} {x : Int32} {ls sk : List Value} {h : zH} : zrun zpp E 88 (40, ls, .int x :: sk, h) = if x = 0 then zrun zpp E 88 (43, ls, sk, h) else zrun zpp E 88 (47, ls, sk, h) := zrun_at rfl
theorem zi88_43 {E : zE} {ls sk : List Value} {h : zH} : zrun zpp E 88 (43, ls, sk, h) = zrun zpp E 88 (44, ls, .int 1 :: sk, h) := zg_iconst rfl ci_1
theorem zi88_44 {E : zE} {ls sk : List Value} {h : zH} : zrun zpp E 88 (44, ls, sk, h) = zrun zpp E 88 (48, ls, sk, h) := zrun_at rfl
theorem zi88_47 {E : zE} {ls sk : List Value} {h : zH} : zrun zpp E 88 (47, ls, sk, h) = zrun zpp E 88 (48, ls, .int 0 :: sk, h) := zg_iconst rfl ci_0
theorem zi88_48 {E : zE} {x : Int32} {ls sk : List Value} {h : zH} : zrun zpp E 88 (48, ls, .int x :: sk, h) = if zfree ls 5 = true then zrun zpp E 88 (50, ls.set 5 (.int x), sk, h) else none := zg_ist rfl (fun _ _ _ => rfl)
theorem zi88_50 {E : zE} {v0 v1 v2 v3 v4 : Value} {x : Int32} {ls sk : List Value} {h : zH} : zrun zpp E 88 (50, v0 :: v1 :: v2 :: v3 :: v4 :: .int x :: ls, sk, h) = zrun zpp E 88 (52, v0 :: v1 :: v2 :: v3 :: v4 :: .int x :: ls, .int x :: sk, h) := zrun_at rfl
theorem zi88_52 {E : zE} {x : Int32} {ls sk : List Value} {h : zH} : zrun zpp E 88 (52, ls, .int x :: sk, h) = if x = 0 then zrun zpp E 88 (61, ls, sk, h) else zrun zpp E 88 (55, ls, sk, h) := zrun_at rfl
theorem zi88_55 {E : zE} {v0 v1 v2 : Value} {x : Int32} {ls sk : List Value} {h : zH} : zrun zpp E 88 (55, v0 :: v1 :: v2 :: .int x :: ls, sk, h) = zrun zpp E 88 (56, v0 :: v1 :: v2 :: .int x :: ls, .int x :: sk, h) := zrun_at rfl
theorem zi88_56 {E : zE} {ls sk : List Value} {h : zH} : zrun zpp E 88 (56, ls, sk, h) = zrun zpp E 88 (57, ls, .int 1 :: sk, h) := zg_iconst rfl ci_1
theorem zi88_57 {E : zE} {x y : Int32} {ls sk : List Value} {h : zH} : zrun zpp E 88 (57, ls, .int y :: .int x :: sk, h) = zrun zpp E 88 (58, ls, .int (x + y) :: sk, h) := zrun_at rfl
theorem zi88_58 {E : zE} {ls sk : List Value} {h : zH} : zrun zpp E 88 (58, ls, sk, h) = zrun zpp E 88 (62, ls, sk, h) := zrun_at rfl
theorem zi88_61 {E : zE} {ls sk : List Value} {h : zH} : zrun zpp E 88 (61, ls, sk, h) = zrun zpp E 88 (62, ls, .int 1 :: sk, h) := zg_iconst rfl ci_1
theorem zi88_62 {E : zE} {x : Int32} {ls sk : List Value} {h : zH} : zrun zpp E 88 (62, ls, .int x :: sk, h) = if zfree ls 3 = true then zrun zpp E 88 (63, ls.set 3 (.int x), sk, h) else none := zg_ist rfl (fun _ _ _ => rfl)
theorem zi88_63 {E : zE} {v0 v1 : Value} {x : Int32} {ls sk : List Value} {h : zH} : zrun zpp E 88 (63, v0 :: v1 :: .int x :: ls, sk, h) = zrun zpp E 88 (64, v0 :: v1 :: .int x :: ls, .int x :: sk, h) := zrun_at rfl
theorem zi88_64 {E : zE} {v0 v1 v2 : Value} {x : Int32} {ls sk : List Value} {h : zH} : zrun zpp E 88 (64, v0 :: v1 :: v2 :: .int x :: ls, sk, h) = zrun zpp E 88 (65, v0 :: v1 :: v2 :: .int x :: ls, .int x :: sk, h) := zrun_at rfl
theorem zi88_65 {E : zE} {x y : Int32} {ls sk : List Value} {h : zH} : zrun zpp E 88 (65, ls, .int y :: .int x :: sk, h) = if zlow sk = true then zrun zpp E 88 (68, ls, .int (if x < y then y else x) :: sk, h) else none := zrun_at rfl
theorem zi88_68 {E : zE} {x : Int32} {ls sk : List Value} {h : zH} : zrun zpp E 88 (68, ls, .int x :: sk, h) = if zfree ls 2 = true then zrun zpp E 88 (69, ls.set 2 (.int x), sk, h) else none := zg_ist rfl (fun _ _ _ => rfl)
theorem zi88_69 {E : zE} {v0 v1 v2 v3 : Value} {x : Int32} {ls sk : List Value} {h : zH} : zrun zpp E 88 (69, v0 :: v1 :: v2 :: v3 :: .int x :: ls, sk, h) = if zfree (v0 :: v1 :: v2 :: v3 :: .int x :: ls) 4 = true then zrun zpp E 88 (72, v0 :: v1 :: v2 :: v3 :: .int (x + 1) :: ls, sk, h) else none := by rw [← ci_1]; exact zrun_at rfl
theorem zi88_72 {E : zE} {ls sk : List Value} {h : zH} : zrun zpp E 88 (72, ls, sk, h) = zrun zpp E 88 (7, ls, sk, h) := zrun_at rfl
theorem zi88_75 {E : zE} {v0 v1 : Value} {x : Int32} {ls sk : List Value} {h : zH} : zrun zpp E 88 (75, v0 :: v1 :: .int x :: ls, sk, h) = zrun zpp E 88 (76, v0 :: v1 :: .int x :: ls, .int x :: sk, h) := zrun_at rfl
theorem zi88_76 {E : zE} {x : Int32} {ls sk : List Value} {h : zH} : zrun zpp E 88 (76, ls, [.int x], h) = some (some (.int x), h) := zrun_at rfl
-- 89 NineDown.<init>
theorem zi89_0 {E : zE} {x : Nat} {ls sk : List Value} {h : zH} : zrun zpp E 89 (0, .ref x :: ls, sk, h) = zrun zpp E 89 (1, .ref x :: ls, .ref x :: sk, h) := zrun_at rfl
theorem zi89_0n {E : zE} {ls sk : List Value} {h : zH} : zrun zpp E 89 (0, .null :: ls, sk, h) = zrun zpp E 89 (1, .null :: ls, .null :: sk, h) := zrun_at rfl
theorem zi89_1 {E : zE} {x : Nat} {ls sk : List Value} {h : zH} : zrun zpp E 89 (1, ls, .ref x :: sk, h) = if zlow sk = true then zrun zpp E 89 (4, ls, sk, h) else none := zg_obj rfl
theorem zi89_4 {E : zE} {x : Nat} {ls sk : List Value} {h : zH} : zrun zpp E 89 (4, .ref x :: ls, sk, h) = zrun zpp E 89 (5, .ref x :: ls, .ref x :: sk, h) := zrun_at rfl
theorem zi89_4n {E : zE} {ls sk : List Value} {h : zH} : zrun zpp E 89 (4, .null :: ls, sk, h) = zrun zpp E 89 (5, .null :: ls, .null :: sk, h) := zrun_at rfl
theorem zi89_5 {E : zE} {ls sk : List Value} {h : zH} : zrun zpp E 89 (5, ls, sk, h) = zrun zpp E 89 (7, ls, .int 8 :: sk, h) := zg_bipush rfl ci_8
theorem zi89_7 {E : zE} {n : Int32} {ls sk : List Value} {h : zH} : zrun zpp E 89 (7, ls, .int n :: sk, h) = if zix n 65536 = true then zrun zpp E 89 (10, ls, .ref h.length :: sk, h ++ [.inr (.inr (2, n.toNatClampNeg, fun _ => none))]) else none := zg_newr rfl
theorem zi89_10 {E : zE} {x : Nat} {v : Value} {ls sk : List Value} {h : zH} : zrun zpp E 89 (10, ls, v :: .ref x :: sk, h) = (zstf [10] 2 h x 0 v).bind (fun h' => zrun zpp E 89 (13, ls, sk, h')) := zg_putf rfl
theorem zi89_13 {E : zE} {x : Nat} {ls sk : List Value} {h : zH} : zrun zpp E 89 (13, .ref x :: ls, sk, h) = zrun zpp E 89 (14, .ref x :: ls, .ref x :: sk, h) := zrun_at rfl
theorem zi89_13n {E : zE} {ls sk : List Value} {h : zH} : zrun zpp E 89 (13, .null :: ls, sk, h) = zrun zpp E 89 (14, .null :: ls, .null :: sk, h) := zrun_at rfl
theorem zi89_14 {E : zE} {ls sk : List Value} {h : zH} : zrun zpp E 89 (14, ls, sk, h) = zrun zpp E 89 (17, ls, .ref h.length :: sk, h ++ [.inl (5, zborn 5)]) := zg_new rfl
theorem zi89_17 {E : zE} {x : Nat} {ls sk : List Value} {h : zH} : zrun zpp E 89 (17, ls, .ref x :: sk, h) = zrun zpp E 89 (18, ls, .ref x :: .ref x :: sk, h) := zrun_at rfl
theorem zi89_17i {E : zE} {x : Int32} {ls sk : List Value} {h : zH} : zrun zpp E 89 (17, ls, .int x :: sk, h) = zrun zpp E 89 (18, ls, .int x :: .int x :: sk, h) := zrun_at rfl
theorem zi89_18 {E : zE} {x : Nat} {ls sk : List Value} {h : zH} : zrun zpp E 89 (18, ls, .ref x :: sk, h) = (zcls h x).bind (fun _ => zcl1 E 89 21 33 ls sk [.ref x] h) := zg_spc (as := []) rfl rfl
theorem zi89_21 {E : zE} {x : Nat} {v : Value} {ls sk : List Value} {h : zH} : zrun zpp E 89 (21, ls, v :: .ref x :: sk, h) = (zstf [10] 2 h x 1 v).bind (fun h' => zrun zpp E 89 (24, ls, sk, h')) := zg_putf rfl
theorem zi89_24 {E : zE} {x : Nat} {ls sk : List Value} {h : zH} : zrun zpp E 89 (24, .ref x :: ls, sk, h) = zrun zpp E 89 (25, .ref x :: ls, .ref x :: sk, h) := zrun_at rfl
theorem zi89_24n {E : zE} {ls sk : List Value} {h : zH} : zrun zpp E 89 (24, .null :: ls, sk, h) = zrun zpp E 89 (25, .null :: ls, .null :: sk, h) := zrun_at rfl
theorem zi89_25 {E : zE} {ls sk : List Value} {h : zH} : zrun zpp E 89 (25, ls, sk, h) = zrun zpp E 89 (26, ls, .int 2 :: sk, h) := zg_iconst rfl ci_2
theorem zi89_26 {E : zE} {n : Int32} {ls sk : List Value} {h : zH} : zrun zpp E 89 (26, ls, .int n :: sk, h) = if zix n 65536 = true then zrun zpp E 89 (29, ls, .ref h.length :: sk, h ++ [.inr (.inr (3, n.toNatClampNeg, fun _ => none))]) else none := zg_newr rfl
theorem zi89_29 {E : zE} {x : Nat} {v : Value} {ls sk : List Value} {h : zH} : zrun zpp E 89 (29, ls, v :: .ref x :: sk, h) = (zstf [10] 2 h x 2 v).bind (fun h' => zrun zpp E 89 (32, ls, sk, h')) := zg_putf rfl
theorem zi89_32 {E : zE} {x : Nat} {ls sk : List Value} {h : zH} : zrun zpp E 89 (32, .ref x :: ls, sk, h) = zrun zpp E 89 (33, .ref x :: ls, .ref x :: sk, h) := zrun_at rfl
theorem zi89_32n {E : zE} {ls sk : List Value} {h : zH} : zrun zpp E 89 (32, .null :: ls, sk, h) = zrun zpp E 89 (33, .null :: ls, .null :: sk, h) := zrun_at rfl
theorem zi89_33 {E : zE} {ls sk : List Value} {h : zH} : zrun zpp E 89 (33, ls, sk, h) = zrun zpp E 89 (36, ls, .ref h.length :: sk, h ++ [.inl (0, zborn 0)]) := zg_new rfl
theorem zi89_36 {E : zE} {x : Nat} {ls sk : List Value} {h : zH} : zrun zpp E 89 (36, ls, .ref x :: sk, h) = zrun zpp E 89 (37, ls, .ref x :: .ref x :: sk, h) := zrun_at rfl
theorem zi89_36i {E : zE} {x : Int32} {ls sk : List Value} {h : zH} : zrun zpp E 89 (36, ls, .int x :: sk, h) = zrun zpp E 89 (37, ls, .int x :: .int x :: sk, h) := zrun_at rfl
theorem zi89_37 {E : zE} {x : Nat} {ls sk : List Value} {h : zH} : zrun zpp E 89 (37, ls, .ref x :: sk, h) = (zcls h x).bind (fun _ => zcl1 E 89 40 1 ls sk [.ref x] h) := zg_spc (as := []) rfl rfl
theorem zi89_40 {E : zE} {x : Nat} {v : Value} {ls sk : List Value} {h : zH} : zrun zpp E 89 (40, ls, v :: .ref x :: sk, h) = (zstf [10] 2 h x 3 v).bind (fun h' => zrun zpp E 89 (43, ls, sk, h')) := zg_putf rfl
theorem zi89_43 {E : zE} {x : Nat} {ls sk : List Value} {h : zH} : zrun zpp E 89 (43, .ref x :: ls, sk, h) = zrun zpp E 89 (44, .ref x :: ls, .ref x :: sk, h) := zrun_at rfl
theorem zi89_43n {E : zE} {ls sk : List Value} {h : zH} : zrun zpp E 89 (43, .null :: ls, sk, h) = zrun zpp E 89 (44, .null :: ls, .null :: sk, h) := zrun_at rfl
theorem zi89_44 {E : zE} {ls sk : List Value} {h : zH} : zrun zpp E 89 (44, ls, sk, h) = zrun zpp E 89 (47, ls, .ref h.length :: sk, h ++ [.inl (8, zborn 8)]) := zg_new rfl
theorem zi89_47 {E : zE} {x : Nat} {ls sk : List Value} {h : zH} : zrun zpp E 89 (47, ls, .ref x :: sk, h) = zrun zpp E 89 (48, ls, .ref x :: .ref x :: sk, h) := zrun_at rfl
theorem zi89_47i {E : zE} {x : Int32} {ls sk : List Value} {h : zH} : zrun zpp E 89 (47, ls, .int x :: sk, h) = zrun zpp E 89 (48, ls, .int x :: .int x :: sk, h) := zrun_at rfl
theorem zi89_48 {E : zE} {x : Nat} {ls sk : List Value} {h : zH} : zrun zpp E 89 (48, ls, .ref x :: sk, h) = (zcls h x).bind (fun _ => zcl1 E 89 51 61 ls sk [.ref x] h) := zg_spc (as := []) rfl rfl
theorem zi89_51 {E : zE} {x : Nat} {v : Value} {ls sk : List Value} {h : zH} : zrun zpp E 89 (51, ls, v :: .ref x :: sk, h) = (zstf [10] 2 h x 4 v).bind (fun h' => zrun zpp E 89 (54, ls, sk, h')) := zg_putf rfl
theorem zi89_54 {E : zE} {x : Nat} {ls sk : List Value} {h : zH} : zrun zpp E 89 (54, .ref x :: ls, sk, h) = zrun zpp E 89 (55, .ref x :: ls, .ref x :: sk, h) := zrun_at rfl
theorem zi89_54n {E : zE} {ls sk : List Value} {h : zH} : zrun zpp E 89 (54, .null :: ls, sk, h) = zrun zpp E 89 (55, .null :: ls, .null :: sk, h) := zrun_at rfl
theorem zi89_55 {E : zE} {ls sk : List Value} {h : zH} : zrun zpp E 89 (55, ls, sk, h) = zrun zpp E 89 (57, ls, .int 64 :: sk, h) := zg_bipush rfl ci_64
theorem zi89_57 {E : zE} {n : Int32} {ls sk : List Value} {h : zH} : zrun zpp E 89 (57, ls, .int n :: sk, h) = if zix n 65536 = true then zrun zpp E 89 (59, ls, .ref h.length :: sk, h ++ [.inr (.inl (0, n.toNatClampNeg, fun _ => 0))]) else none := zg_newa rfl
theorem zi89_59 {E : zE} {x : Nat} {v : Value} {ls sk : List Value} {h : zH} : zrun zpp E 89 (59, ls, v :: .ref x :: sk, h) = (zstf [10] 2 h x 5 v).bind (fun h' => zrun zpp E 89 (62, ls, sk, h')) := zg_putf rfl
theorem zi89_62 {E : zE} {x : Nat} {ls sk : List Value} {h : zH} : zrun zpp E 89 (62, .ref x :: ls, sk, h) = zrun zpp E 89 (63, .ref x :: ls, .ref x :: sk, h) := zrun_at rfl
theorem zi89_62n {E : zE} {ls sk : List Value} {h : zH} : zrun zpp E 89 (62, .null :: ls, sk, h) = zrun zpp E 89 (63, .null :: ls, .null :: sk, h) := zrun_at rfl
theorem zi89_63 {E : zE} {ls sk : List Value} {h : zH} : zrun zpp E 89 (63, ls, sk, h) = zrun zpp E 89 (66, ls, .int 256 :: sk, h) := zg_sipush rfl ci_256
theorem zi89_66 {E : zE} {n : Int32} {ls sk : List Value} {h : zH} : zrun zpp E 89 (66, ls, .int n :: sk, h) = if zix n 65536 = true then zrun zpp E 89 (68, ls, .ref h.length :: sk, h ++ [.inr (.inl (0, n.toNatClampNeg, fun _ => 0))]) else none := zg_newa rfl
theorem zi89_68 {E : zE} {x : Nat} {v : Value} {ls sk : List Value} {h : zH} : zrun zpp E 89 (68, ls, v :: .ref x :: sk, h) = (zstf [10] 2 h x 6 v).bind (fun h' => zrun zpp E 89 (71, ls, sk, h')) := zg_putf rfl
theorem zi89_71 {E : zE} {x : Nat} {ls sk : List Value} {h : zH} : zrun zpp E 89 (71, .ref x :: ls, sk, h) = zrun zpp E 89 (72, .ref x :: ls, .ref x :: sk, h) := zrun_at rfl
theorem zi89_71n {E : zE} {ls sk : List Value} {h : zH} : zrun zpp E 89 (71, .null :: ls, sk, h) = zrun zpp E 89 (72, .null :: ls, .null :: sk, h) := zrun_at rfl
theorem zi89_72 {E : zE} {ls sk : List Value} {h : zH} : zrun zpp E 89 (72, ls, sk, h) = zrun zpp E 89 (75, ls, .ref h.length :: sk, h ++ [.inl (9, zborn 9)]) := zg_new rfl
theorem zi89_75 {E : zE} {x : Nat} {ls sk : List Value} {h : zH} : zrun zpp E 89 (75, ls, .ref x :: sk, h) = zrun zpp E 89 (76, ls, .ref x :: .ref x :: sk, h) := zrun_at rfl
theorem zi89_75i {E : zE} {x : Int32} {ls sk : List Value} {h : zH} : zrun zpp E 89 (75, ls, .int x :: sk, h) = zrun zpp E 89 (76, ls, .int x :: .int x :: sk, h) := zrun_at rfl
theorem zi89_76 {E : zE} {x : Nat} {ls sk : List Value} {h : zH} : zrun zpp E 89 (76, ls, .ref x :: sk, h) = (zcls h x).bind (fun _ => zcl1 E 89 79 64 ls sk [.ref x] h) := zg_spc (as := []) rfl rfl
theorem zi89_79 {E : zE} {x : Nat} {v : Value} {ls sk : List Value} {h : zH} : zrun zpp E 89 (79, ls, v :: .ref x :: sk, h) = (zstf [10] 2 h x 7 v).bind (fun h' => zrun zpp E 89 (82, ls, sk, h')) := zg_putf rfl
theorem zi89_82 {E : zE} {x : Nat} {ls sk : List Value} {h : zH} : zrun zpp E 89 (82, .ref x :: ls, sk, h) = zrun zpp E 89 (83, .ref x :: ls, .ref x :: sk, h) := zrun_at rfl
theorem zi89_82n {E : zE} {ls sk : List Value} {h : zH} : zrun zpp E 89 (82, .null :: ls, sk, h) = zrun zpp E 89 (83, .null :: ls, .null :: sk, h) := zrun_at rfl
theorem zi89_83 {E : zE} {ls sk : List Value} {h : zH} : zrun zpp E 89 (83, ls, sk, h) = zrun zpp E 89 (86, ls, .ref h.length :: sk, h ++ [.inl (9, zborn 9)]) := zg_new rfl
theorem zi89_86 {E : zE} {x : Nat} {ls sk : List Value} {h : zH} : zrun zpp E 89 (86, ls, .ref x :: sk, h) = zrun zpp E 89 (87, ls, .ref x :: .ref x :: sk, h) := zrun_at rfl
theorem zi89_86i {E : zE} {x : Int32} {ls sk : List Value} {h : zH} : zrun zpp E 89 (86, ls, .int x :: sk, h) = zrun zpp E 89 (87, ls, .int x :: .int x :: sk, h) := zrun_at rfl
theorem zi89_87 {E : zE} {x : Nat} {ls sk : List Value} {h : zH} : zrun zpp E 89 (87, ls, .ref x :: sk, h) = (zcls h x).bind (fun _ => zcl1 E 89 90 64 ls sk [.ref x] h) := zg_spc (as := []) rfl rfl
theorem zi89_90 {E : zE} {x : Nat} {v : Value} {ls sk : List Value} {h : zH} : zrun zpp E 89 (90, ls, v :: .ref x :: sk, h) = (zstf [10] 2 h x 8 v).bind (fun h' => zrun zpp E 89 (93, ls, sk, h')) := zg_putf rfl
theorem zi89_93 {E : zE} {ls sk : List Value} {h : zH} : zrun zpp E 89 (93, ls, sk, h) = zrun zpp E 89 (94, ls, .int 0 :: sk, h) := zg_iconst rfl ci_0
theorem zi89_94 {E : zE} {x : Int32} {ls sk : List Value} {h : zH} : zrun zpp E 89 (94, ls, .int x :: sk, h) = if zfree ls 1 = true then zrun zpp E 89 (95, ls.set 1 (.int x), sk, h) else none := zg_ist rfl (fun _ _ _ => rfl)
theorem zi89_95 {E : zE} {v0 : Value} {x : Int32} {ls sk : List Value} {h : zH} : zrun zpp E 89 (95, v0 :: .int x :: ls, sk, h) = zrun zpp E 89 (96, v0 :: .int x :: ls, .int x :: sk, h) := zrun_at rfl
theorem zi89_96 {E : zE} {ls sk : List Value} {h : zH} : zrun zpp E 89 (96, ls, sk, h) = zrun zpp E 89 (98, ls, .int 8 :: sk, h) := zg_bipush rfl ci_8
theorem zi89_98 {E : zE} {x y : Int32} {ls sk : List Value} {h : zH} : zrun zpp E 89 (98, ls, .int y :: .int x :: sk, h) = if y ≤ x then zrun zpp E 89 (120, ls, sk, h) else zrun zpp E 89 (101, ls, sk, h) := zrun_at rfl
theorem zi89_101 {E : zE} {x : Nat} {ls sk : List Value} {h : zH} : zrun zpp E 89 (101, .ref x :: ls, sk, h) = zrun zpp E 89 (102, .ref x :: ls, .ref x :: sk, h) := zrun_at rfl
theorem zi89_101n {E : zE} {ls sk : List Value} {h : zH} : zrun zpp E 89 (101, .null :: ls, sk, h) = zrun zpp E 89 (102, .null :: ls, .null :: sk, h) := zrun_at rfl
theorem zi89_102 {E : zE} {x : Nat} {ls sk : List Value} {h : zH} : zrun zpp E 89 (102, ls, .ref x :: sk, h) = (zfld [10] h x 0).bind (fun v => zrun zpp E 89 (105, ls, v :: sk, h)) := zg_getf rfl
theorem zi89_105 {E : zE} {v0 : Value} {x : Int32} {ls sk : List Value} {h : zH} : zrun zpp E 89 (105, v0 :: .int x :: ls, sk, h) = zrun zpp E 89 (106, v0 :: .int x :: ls, .int x :: sk, h) := zrun_at rfl
theorem zi89_106 {E : zE} {ls sk : List Value} {h : zH} : zrun zpp E 89 (106, ls, sk, h) = zrun zpp E 89 (109, ls, .ref h.length :: sk, h ++ [.inl (6, zborn 6)]) := zg_new rfl
theorem zi89_109 {E : zE} {x : Nat} {ls sk : List Value} {h : zH} : zrun zpp E 89 (109, ls, .ref x :: sk, h) = zrun zpp E 89 (110, ls, .ref x :: .ref x :: sk, h) := zrun_at rfl
theorem zi89_109i {E : zE} {x : Int32} {ls sk : List Value} {h : zH} : zrun zpp E 89 (109, ls, .int x :: sk, h) = zrun zpp E 89 (110, ls, .int x :: .int x :: sk, h) := zrun_at rfl
theorem zi89_110 {E : zE} {x : Nat} {ls sk : List Value} {h : zH} : zrun zpp E 89 (110, ls, .ref x :: sk, h) = (zcls h x).bind (fun _ => zcl1 E 89 113 51 ls sk [.ref x] h) := zg_spc (as := []) rfl rfl
theorem zi89_113 {E : zE} {x : Nat} {i : Int32} {v : Value} {ls sk : List Value} {h : zH} : zrun zpp E 89 (113, ls, v :: .int i :: .ref x :: sk, h) = (zaro h x i v).bind (fun h' => zrun zpp E 89 (114, ls, sk, h')) := zg_aast rfl
theorem zi89_114 {E : zE} {v0 : Value} {x : Int32} {ls sk : List Value} {h : zH} : zrun zpp E 89 (114, v0 :: .int x :: ls, sk, h) = if zfree (v0 :: .int x :: ls) 1 = true then zrun zpp E 89 (117, v0 :: .int (x + 1) :: ls, sk, h) else none := by rw [← ci_1]; exact zrun_at rfl
theorem zi89_117 {E : zE} {ls sk : List Value} {h : zH} : zrun zpp E 89 (117, ls, sk, h) = zrun zpp E 89 (95, ls, sk, h) := zrun_at rfl
theorem zi89_120 {E : zE} {ls sk : List Value} {h : zH} : zrun zpp E 89 (120, ls, sk, h) = zrun zpp E 89 (121, ls, .int 0 :: sk, h) := zg_iconst rfl ci_0
theorem zi89_121 {E : zE} {x : Int32} {ls sk : List Value} {h : zH} : zrun zpp E 89 (121, ls, .int x :: sk, h) = if zfree ls 1 = true then zrun zpp E 89 (122, ls.set 1 (.int x), sk, h) else none := zg_ist rfl (fun _ _ _ => rfl)
theorem zi89_122 {E : zE} {v0 : Value} {x : Int32} {ls sk : List Value} {h : zH} : zrun zpp E 89 (122, v0 :: .int x :: ls, sk, h) = zrun zpp E 89 (123, v0 :: .int x :: ls, .int x :: sk, h) := zrun_at rfl
theorem zi89_123 {E : zE} {ls sk : List Value} {h : zH} : zrun zpp E 89 (123, ls, sk, h) = zrun zpp E 89 (124, ls, .int 2 :: sk, h) := zg_iconst rfl ci_2
theorem zi89_124 {E : zE} {x y : Int32} {ls sk : List Value} {h : zH} : zrun zpp E 89 (124, ls, .int y :: .int x :: sk, h) = if y ≤ x then zrun zpp E 89 (146, ls, sk, h) else zrun zpp E 89 (127, ls, sk, h) := zrun_at rfl
theorem zi89_127 {E : zE} {x : Nat} {ls sk : List Value} {h : zH} : zrun zpp E 89 (127, .ref x :: ls, sk, h) = zrun zpp E 89 (128, .ref x :: ls, .ref x :: sk, h) := zrun_at rfl
theorem zi89_127n {E : zE} {ls sk : List Value} {h : zH} : zrun zpp E 89 (127, .null :: ls, sk, h) = zrun zpp E 89 (128, .null :: ls, .null :: sk, h) := zrun_at rfl
theorem zi89_128 {E : zE} {x : Nat} {ls sk : List Value} {h : zH} : zrun zpp E 89 (128, ls, .ref x :: sk, h) = (zfld [10] h x 2).bind (fun v => zrun zpp E 89 (131, ls, v :: sk, h)) := zg_getf rfl
theorem zi89_131 {E : zE} {v0 : Value} {x : Int32} {ls sk : List Value} {h : zH} : zrun zpp E 89 (131, v0 :: .int x :: ls, sk, h) = zrun zpp E 89 (132, v0 :: .int x :: ls, .int x :: sk, h) := zrun_at rfl
theorem zi89_132 {E : zE} {ls sk : List Value} {h : zH} : zrun zpp E 89 (132, ls, sk, h) = zrun zpp E 89 (135, ls, .ref h.length :: sk, h ++ [.inl (9, zborn 9)]) := zg_new rfl
theorem zi89_135 {E : zE} {x : Nat} {ls sk : List Value} {h : zH} : zrun zpp E 89 (135, ls, .ref x :: sk, h) = zrun zpp E 89 (136, ls, .ref x :: .ref x :: sk, h) := zrun_at rfl
theorem zi89_135i {E : zE} {x : Int32} {ls sk : List Value} {h : zH} : zrun zpp E 89 (135, ls, .int x :: sk, h) = zrun zpp E 89 (136, ls, .int x :: .int x :: sk, h) := zrun_at rfl
theorem zi89_136 {E : zE} {x : Nat} {ls sk : List Value} {h : zH} : zrun zpp E 89 (136, ls, .ref x :: sk, h) = (zcls h x).bind (fun _ => zcl1 E 89 139 64 ls sk [.ref x] h) := zg_spc (as := []) rfl rfl
theorem zi89_139 {E : zE} {x : Nat} {i : Int32} {v : Value} {ls sk : List Value} {h : zH} : zrun zpp E 89 (139, ls, v :: .int i :: .ref x :: sk, h) = (zaro h x i v).bind (fun h' => zrun zpp E 89 (140, ls, sk, h')) := zg_aast rfl
theorem zi89_140 {E : zE} {v0 : Value} {x : Int32} {ls sk : List Value} {h : zH} : zrun zpp E 89 (140, v0 :: .int x :: ls, sk, h) = if zfree (v0 :: .int x :: ls) 1 = true then zrun zpp E 89 (143, v0 :: .int (x + 1) :: ls, sk, h) else none := by rw [← ci_1]; exact zrun_at rfl
theorem zi89_143 {E : zE} {ls sk : List Value} {h : zH} : zrun zpp E 89 (143, ls, sk, h) = zrun zpp E 89 (122, ls, sk, h) := zrun_at rfl
theorem zi89_146 {E : zE} {ls sk : List Value} {h : zH} : zrun zpp E 89 (146, ls, [], h) = some (none, h) := zrun_at rfl
-- 90 NineDown.row
theorem zi90_0 {E : zE} {x : Nat} {ls sk : List Value} {h : zH} : zrun zpp E 90 (0, .ref x :: ls, sk, h) = zrun zpp E 90 (1, .ref x :: ls, .ref x :: sk, h) := zrun_at rfl
theorem zi90_0n {E : zE} {ls sk : List Value} {h : zH} : zrun zpp E 90 (0, .null :: ls, sk, h) = zrun zpp E 90 (1, .null :: ls, .null :: sk, h) := zrun_at rfl
theorem zi90_1 {E : zE} {v0 : Value} {x : Int32} {ls sk : List Value} {h : zH} : zrun zpp E 90 (1, v0 :: .int x :: ls, sk, h) = zrun zpp E 90 (2, v0 :: .int x :: ls, .int x :: sk, h) := zrun_at rfl
theorem zi90_2 {E : zE} {a0 : Value} {x : Nat} {ls sk : List Value} {h : zH} : zrun zpp E 90 (2, ls, a0 :: .ref x :: sk, h) = (zcls h x).bind (fun d => (zsel d [10, 128]).bind (fun M' => zcl1 E 90 5 M' ls sk [.ref x, a0] h)) := zg_vir (as := [a0]) rfl rfl
theorem zi90_5 {E : zE} {x : Nat} {ls sk : List Value} {h : zH} : zrun zpp E 90 (5, ls, .ref x :: sk, h) = if zfree ls 4 = true then zrun zpp E 90 (7, ls.set 4 (.ref x), sk, h) else none := zg_astr rfl (fun _ _ _ => rfl)
theorem zi90_5n {E : zE} {ls sk : List Value} {h : zH} : zrun zpp E 90 (5, ls, .null :: sk, h) = if zfree ls 4 = true then zrun zpp E 90 (7, ls.set 4 .null, sk, h) else none := zg_astn rfl (fun _ _ _ => rfl)
theorem zi90_7 {E : zE} {v0 v1 v2 v3 : Value} {x : Nat} {ls sk : List Value} {h : zH} : zrun zpp E 90 (7, v0 :: v1 :: v2 :: v3 :: .ref x :: ls, sk, h) = zrun zpp E 90 (9, v0 :: v1 :: v2 :: v3 :: .ref x :: ls, .ref x :: sk, h) := zrun_at rfl
theorem zi90_7n {E : zE} {v0 v1 v2 v3 : Value} {ls sk : List Value} {h : zH} : zrun zpp E 90 (7, v0 :: v1 :: v2 :: v3 :: .null :: ls, sk, h) = zrun zpp E 90 (9, v0 :: v1 :: v2 :: v3 :: .null :: ls, .null :: sk, h) := zrun_at rfl
theorem zi90_9 {E : zE} {x : Nat} {ls sk : List Value} {h : zH} : zrun zpp E 90 (9, ls, .ref x :: sk, h) = zrun zpp E 90 (12, ls, sk, h) := zrun_at rfl
theorem zi90_9n {E : zE} {ls sk : List Value} {h : zH} : zrun zpp E 90 (9, ls, .null :: sk, h) = zrun zpp E 90 (27, ls, sk, h) := zrun_at rfl
theorem zi90_12 {E : zE} {v0 v1 : Value} {x : Int32} {ls sk : List Value} {h : zH} : zrun zpp E 90 (12, v0 :: v1 :: .int x :: ls, sk, h) = zrun zpp E 90 (13, v0 :: v1 :: .int x :: ls, .int x :: sk, h) := zrun_at rfl
theorem zi90_13 {E : zE} {ls sk : List Value} {h : zH} : zrun zpp E 90 (13, ls, sk, h) = zrun zpp E 90 (14, ls, .int 0 :: sk, h) := zg_iconst rfl ci_0
theorem zi90_14 {E : zE} {ls sk : List Value} {h : zH} : zrun zpp E 90 (14, ls, sk, h) = zrun zpp E 90 (15, ls, .int 2 :: sk, h) := zg_iconst rfl ci_2
theorem zi90_15 {E : zE} {a0 a1 a2 : Value} {ls sk : List Value} {h : zH} : zrun zpp E 90 (15, ls, a2 :: a1 :: a0 :: sk, h) = zcl1 E 90 18 126 ls sk [a0, a1, a2] h := zg_inv (as := [a0, a1, a2]) rfl rfl
theorem zi90_18 {E : zE} {x : Int32} {ls sk : List Value} {h : zH} : zrun zpp E 90 (18, ls, .int x :: sk, h) = if x = 0 then zrun zpp E 90 (27, ls, sk, h) else zrun zpp E 90 (21, ls, sk, h) := zrun_at rfl
theorem zi90_21 {E : zE} {v0 v1 v2 : Value} {x : Int32} {ls sk : List Value} {h : zH} : zrun zpp E 90 (21, v0 :: v1 :: v2 :: .int x :: ls, sk, h) = zrun zpp E 90 (22, v0 :: v1 :: v2 :: .int x :: ls, .int x :: sk, h) := zrun_at rfl
theorem zi90_22 {E : zE} {ls sk : List Value} {h : zH} : zrun zpp E 90 (22, ls, sk, h) = zrun zpp E 90 (24, ls, .int 40 :: sk, h) := zg_bipush rfl ci_40
theorem zi90_24 {E : zE} {x y : Int32} {ls sk : List Value} {h : zH} : zrun zpp E 90 (24, ls, .int y :: .int x :: sk, h) = if x ≤ y then zrun zpp E 90 (30, ls, sk, h) else zrun zpp E 90 (27, ls, sk, h) := zrun_at rfl
theorem zi90_27 {E : zE} {ls sk : List Value} {h : zH} : zrun zpp E 90 (27, ls, sk, h) = zrun zpp E 90 (29, ls, .int (-1000001) :: sk, h) := zg_ldc rfl ci_m1000001
theorem zi90_29 {E : zE} {x : Int32} {ls sk : List Value} {h : zH} : zrun zpp E 90 (29, ls, [.int x], h) = some (some (.int x), h) := zrun_at rfl
theorem zi90_30 {E : zE} {v0 v1 v2 : Value} {x : Int32} {ls sk : List Value} {h : zH} : zrun zpp E 90 (30, v0 :: v1 :: v2 :: .int x :: ls, sk, h) = zrun zpp E 90 (31, v0 :: v1 :: v2 :: .int x :: ls, .int x :: sk, h) := zrun_at rfl
theorem zi90_31 {E : zE} {x : Int32} {ls sk : List Value} {h : zH} : zrun zpp E 90 (31, ls, .int x :: sk, h) = if 0 ≤ x then zrun zpp E 90 (40, ls, sk, h) else zrun zpp E 90 (34, ls, sk, h) := zrun_at rfl
theorem zi90_34 {E : zE} {x : Nat} {ls sk : List Value} {h : zH} : zrun zpp E 90 (34, .ref x :: ls, sk, h) = zrun zpp E 90 (35, .ref x :: ls, .ref x :: sk, h) := zrun_at rfl
theorem zi90_34n {E : zE} {ls sk : List Value} {h : zH} : zrun zpp E 90 (34, .null :: ls, sk, h) = zrun zpp E 90 (35, .null :: ls, .null :: sk, h) := zrun_at rfl
theorem zi90_35 {E : zE} {ls sk : List Value} {h : zH} : zrun zpp E 90 (35, ls, sk, h) = zrun zpp E 90 (36, ls, .int 4 :: sk, h) := zg_iconst rfl ci_4
theorem zi90_36 {E : zE} {a0 : Value} {x : Nat} {ls sk : List Value} {h : zH} : zrun zpp E 90 (36, ls, a0 :: .ref x :: sk, h) = (zcls h x).bind (fun d => (zsel d [10, 130]).bind (fun M' => zcl1 E 90 39 M' ls sk [.ref x, a0] h)) := zg_vir (as := [a0]) rfl rfl
theorem zi90_39 {E : zE} {x : Int32} {ls sk : List Value} {h : zH} : zrun zpp E 90 (39, ls, [.int x], h) = some (some (.int x), h) := zrun_at rfl
theorem zi90_40 {E : zE} {v0 v1 v2 v3 : Value} {x : Nat} {ls sk : List Value} {h : zH} : zrun zpp E 90 (40, v0 :: v1 :: v2 :: v3 :: .ref x :: ls, sk, h) = zrun zpp E 90 (42, v0 :: v1 :: v2 :: v3 :: .ref x :: ls, .ref x :: sk, h) := zrun_at rfl
theorem zi90_40n {E : zE} {v0 v1 v2 v3 : Value} {ls sk : List Value} {h : zH} : zrun zpp E 90 (40, v0 :: v1 :: v2 :: v3 :: .null :: ls, sk, h) = zrun zpp E 90 (42, v0 :: v1 :: v2 :: v3 :: .null :: ls, .null :: sk, h) := zrun_at rfl
theorem zi90_42 {E : zE} {v0 v1 : Value} {x : Int32} {ls sk : List Value} {h : zH} : zrun zpp E 90 (42, v0 :: v1 :: .int x :: ls, sk, h) = zrun zpp E 90 (43, v0 :: v1 :: .int x :: ls, .int x :: sk, h) := zrun_at rfl
theorem zi90_43 {E : zE} {v0 v1 v2 : Value} {x : Int32} {ls sk : List Value} {h : zH} : zrun zpp E 90 (43, v0 :: v1 :: v2 :: .int x :: ls, sk, h) = zrun zpp E 90 (44, v0 :: v1 :: v2 :: .int x :: ls, .int x :: sk, h) := zrun_at rfl
theorem zi90_44 {E : zE} {a0 a1 : Value} {x : Nat} {ls sk : List Value} {h : zH} : zrun zpp E 90 (44, ls, a1 :: a0 :: .ref x :: sk, h) = (zcls h x).bind (fun d => (zsel d [6, 52]).bind (fun M' => zcl1 E 90 47 M' ls sk [.ref x, a0, a1] h)) := zg_vir (as := [a0, a1]) rfl rfl
theorem zi90_47 {E : zE} {x : Nat} {ls sk : List Value} {h : zH} : zrun zpp E 90 (47, .ref x :: ls, sk, h) = zrun zpp E 90 (48, .ref x :: ls, .ref x :: sk, h) := zrun_at rfl
theorem zi90_47n {E : zE} {ls sk : List Value} {h : zH} : zrun zpp E 90 (47, .null :: ls, sk, h) = zrun zpp E 90 (48, .null :: ls, .null :: sk, h) := zrun_at rfl
theorem zi90_48 {E : zE} {v0 v1 v2 : Value} {x : Int32} {ls sk : List Value} {h : zH} : zrun zpp E 90 (48, v0 :: v1 :: v2 :: .int x :: ls, sk, h) = zrun zpp E 90 (49, v0 :: v1 :: v2 :: .int x :: ls, .int x :: sk, h) := zrun_at rfl
theorem zi90_49 {E : zE} {a0 : Value} {x : Nat} {ls sk : List Value} {h : zH} : zrun zpp E 90 (49, ls, a0 :: .ref x :: sk, h) = (zcls h x).bind (fun d => (zsel d [10, 131]).bind (fun M' => zcl1 E 90 52 M' ls sk [.ref x, a0] h)) := zg_vir (as := [a0]) rfl rfl
theorem zi90_52 {E : zE} {x : Int32} {ls sk : List Value} {h : zH} : zrun zpp E 90 (52, ls, [.int x], h) = some (some (.int x), h) := zrun_at rfl
-- 91 NineDown.set
theorem zi91_0 {E : zE} {x : Nat} {ls sk : List Value} {h : zH} : zrun zpp E 91 (0, .ref x :: ls, sk, h) = zrun zpp E 91 (1, .ref x :: ls, .ref x :: sk, h) := zrun_at rfl
theorem zi91_0n {E : zE} {ls sk : List Value} {h : zH} : zrun zpp E 91 (0, .null :: ls, sk, h) = zrun zpp E 91 (1, .null :: ls, .null :: sk, h) := zrun_at rfl
theorem zi91_1 {E : zE} {v0 : Value} {x : Int32} {ls sk : List Value} {h : zH} : zrun zpp E 91 (1, v0 :: .int x :: ls, sk, h) = zrun zpp E 91 (2, v0 :: .int x :: ls, .int x :: sk, h) := zrun_at rfl
theorem zi91_2 {E : zE} {a0 : Value} {x : Nat} {ls sk : List Value} {h : zH} : zrun zpp E 91 (2, ls, a0 :: .ref x :: sk, h) = (zcls h x).bind (fun d => (zsel d [10, 128]).bind (fun M' => zcl1 E 91 5 M' ls sk [.ref x, a0] h)) := zg_vir (as := [a0]) rfl rfl
theorem zi91_5 {E : zE} {x : Nat} {ls sk : List Value} {h : zH} : zrun zpp E 91 (5, ls, .ref x :: sk, h) = if zfree ls 4 = true then zrun zpp E 91 (7, ls.set 4 (.ref x), sk, h) else none := zg_astr rfl (fun _ _ _ => rfl)
theorem zi91_5n {E : zE} {ls sk : List Value} {h : zH} : zrun zpp E 91 (5, ls, .null :: sk, h) = if zfree ls 4 = true then zrun zpp E 91 (7, ls.set 4 .null, sk, h) else none := zg_astn rfl (fun _ _ _ => rfl)
theorem zi91_7 {E : zE} {v0 v1 v2 v3 : Value} {x : Nat} {ls sk : List Value} {h : zH} : zrun zpp E 91 (7, v0 :: v1 :: v2 :: v3 :: .ref x :: ls, sk, h) = zrun zpp E 91 (9, v0 :: v1 :: v2 :: v3 :: .ref x :: ls, .ref x :: sk, h) := zrun_at rfl
theorem zi91_7n {E : zE} {v0 v1 v2 v3 : Value} {ls sk : List Value} {h : zH} : zrun zpp E 91 (7, v0 :: v1 :: v2 :: v3 :: .null :: ls, sk, h) = zrun zpp E 91 (9, v0 :: v1 :: v2 :: v3 :: .null :: ls, .null :: sk, h) := zrun_at rfl
theorem zi91_9 {E : zE} {x : Nat} {ls sk : List Value} {h : zH} : zrun zpp E 91 (9, ls, .ref x :: sk, h) = zrun zpp E 91 (15, ls, sk, h) := zrun_at rfl
theorem zi91_9n {E : zE} {ls sk : List Value} {h : zH} : zrun zpp E 91 (9, ls, .null :: sk, h) = zrun zpp E 91 (12, ls, sk, h) := zrun_at rfl
theorem zi91_12 {E : zE} {ls sk : List Value} {h : zH} : zrun zpp E 91 (12, ls, sk, h) = zrun zpp E 91 (14, ls, .int (-1000001) :: sk, h) := zg_ldc rfl ci_m1000001
theorem zi91_14 {E : zE} {x : Int32} {ls sk : List Value} {h : zH} : zrun zpp E 91 (14, ls, [.int x], h) = some (some (.int x), h) := zrun_at rfl
theorem zi91_15 {E : zE} {v0 v1 v2 v3 : Value} {x : Nat} {ls sk : List Value} {h : zH} : zrun zpp E 91 (15, v0 :: v1 :: v2 :: v3 :: .ref x :: ls, sk, h) = zrun zpp E 91 (17, v0 :: v1 :: v2 :: v3 :: .ref x :: ls, .ref x :: sk, h) := zrun_at rfl
theorem zi91_15n {E : zE} {v0 v1 v2 v3 : Value} {ls sk : List Value} {h : zH} : zrun zpp E 91 (15, v0 :: v1 :: v2 :: v3 :: .null :: ls, sk, h) = zrun zpp E 91 (17, v0 :: v1 :: v2 :: v3 :: .null :: ls, .null :: sk, h) := zrun_at rfl
theorem zi91_17 {E : zE} {x : Nat} {ls sk : List Value} {h : zH} : zrun zpp E 91 (17, ls, .ref x :: sk, h) = (zfld [6] h x 1).bind (fun v => zrun zpp E 91 (20, ls, v :: sk, h)) := zg_getf rfl
theorem zi91_20 {E : zE} {x : Int32} {ls sk : List Value} {h : zH} : zrun zpp E 91 (20, ls, .int x :: sk, h) = if x = 0 then zrun zpp E 91 (23, ls, sk, h) else zrun zpp E 91 (29, ls, sk, h) := zrun_at rfl
theorem zi91_23 {E : zE} {x : Nat} {ls sk : List Value} {h : zH} : zrun zpp E 91 (23, .ref x :: ls, sk, h) = zrun zpp E 91 (24, .ref x :: ls, .ref x :: sk, h) := zrun_at rfl
theorem zi91_23n {E : zE} {ls sk : List Value} {h : zH} : zrun zpp E 91 (23, .null :: ls, sk, h) = zrun zpp E 91 (24, .null :: ls, .null :: sk, h) := zrun_at rfl
theorem zi91_24 {E : zE} {ls sk : List Value} {h : zH} : zrun zpp E 91 (24, ls, sk, h) = zrun zpp E 91 (25, ls, .int 1 :: sk, h) := zg_iconst rfl ci_1
theorem zi91_25 {E : zE} {a0 : Value} {x : Nat} {ls sk : List Value} {h : zH} : zrun zpp E 91 (25, ls, a0 :: .ref x :: sk, h) = (zcls h x).bind (fun d => (zsel d [10, 130]).bind (fun M' => zcl1 E 91 28 M' ls sk [.ref x, a0] h)) := zg_vir (as := [a0]) rfl rfl
theorem zi91_28 {E : zE} {x : Int32} {ls sk : List Value} {h : zH} : zrun zpp E 91 (28, ls, [.int x], h) = some (some (.int x), h) := zrun_at rfl
theorem zi91_29 {E : zE} {v0 v1 v2 v3 : Value} {x : Nat} {ls sk : List Value} {h : zH} : zrun zpp E 91 (29, v0 :: v1 :: v2 :: v3 :: .ref x :: ls, sk, h) = zrun zpp E 91 (31, v0 :: v1 :: v2 :: v3 :: .ref x :: ls, .ref x :: sk, h) := zrun_at rfl
theorem zi91_29n {E : zE} {v0 v1 v2 v3 : Value} {ls sk : List Value} {h : zH} : zrun zpp E 91 (29, v0 :: v1 :: v2 :: v3 :: .null :: ls, sk, h) = zrun zpp E 91 (31, v0 :: v1 :: v2 :: v3 :: .null :: ls, .null :: sk, h) := zrun_at rfl
theorem zi91_31 {E : zE} {v0 v1 : Value} {x : Int32} {ls sk : List Value} {h : zH} : zrun zpp E 91 (31, v0 :: v1 :: .int x :: ls, sk, h) = zrun zpp E 91 (32, v0 :: v1 :: .int x :: ls, .int x :: sk, h) := zrun_at rfl
theorem zi91_32 {E : zE} {ls sk : List Value} {h : zH} : zrun zpp E 91 (32, ls, sk, h) = zrun zpp E 91 (33, ls, .int 1 :: sk, h) := zg_iconst rfl ci_1
theorem zi91_33 {E : zE} {a0 a1 : Value} {x : Nat} {ls sk : List Value} {h : zH} : zrun zpp E 91 (33, ls, a1 :: a0 :: .ref x :: sk, h) = (zcls h x).bind (fun d => (zsel d [6, 53]).bind (fun M' => zcl1 E 91 36 M' ls sk [.ref x, a0, a1] h)) := zg_vir (as := [a0, a1]) rfl rfl
theorem zi91_36 {E : zE} {x : Int32} {ls sk : List Value} {h : zH} : zrun zpp E 91 (36, ls, .int x :: sk, h) = if x = 0 then zrun zpp E 91 (39, ls, sk, h) else zrun zpp E 91 (45, ls, sk, h) := zrun_at rfl
theorem zi91_39 {E : zE} {x : Nat} {ls sk : List Value} {h : zH} : zrun zpp E 91 (39, .ref x :: ls, sk, h) = zrun zpp E 91 (40, .ref x :: ls, .ref x :: sk, h) := zrun_at rfl
theorem zi91_39n {E : zE} {ls sk : List Value} {h : zH} : zrun zpp E 91 (39, .null :: ls, sk, h) = zrun zpp E 91 (40, .null :: ls, .null :: sk, h) := zrun_at rfl
theorem zi91_40 {E : zE} {ls sk : List Value} {h : zH} : zrun zpp E 91 (40, ls, sk, h) = zrun zpp E 91 (41, ls, .int 2 :: sk, h) := zg_iconst rfl ci_2
theorem zi91_41 {E : zE} {a0 : Value} {x : Nat} {ls sk : List Value} {h : zH} : zrun zpp E 91 (41, ls, a0 :: .ref x :: sk, h) = (zcls h x).bind (fun d => (zsel d [10, 130]).bind (fun M' => zcl1 E 91 44 M' ls sk [.ref x, a0] h)) := zg_vir (as := [a0]) rfl rfl
theorem zi91_44 {E : zE} {x : Int32} {ls sk : List Value} {h : zH} : zrun zpp E 91 (44, ls, [.int x], h) = some (some (.int x), h) := zrun_at rfl
theorem zi91_45 {E : zE} {v0 v1 v2 v3 : Value} {x : Nat} {ls sk : List Value} {h : zH} : zrun zpp E 91 (45, v0 :: v1 :: v2 :: v3 :: .ref x :: ls, sk, h) = zrun zpp E 91 (47, v0 :: v1 :: v2 :: v3 :: .ref x :: ls, .ref x :: sk, h) := zrun_at rfl
theorem zi91_45n {E : zE} {v0 v1 v2 v3 : Value} {ls sk : List Value} {h : zH} : zrun zpp E 91 (45, v0 :: v1 :: v2 :: v3 :: .null :: ls, sk, h) = zrun zpp E 91 (47, v0 :: v1 :: v2 :: v3 :: .null :: ls, .null :: sk, h) := zrun_at rfl
theorem zi91_47 {E : zE} {x : Nat} {ls sk : List Value} {h : zH} : zrun zpp E 91 (47, ls, .ref x :: sk, h) = (zfld [6] h x 0).bind (fun v => zrun zpp E 91 (50, ls, v :: sk, h)) := zg_getf rfl
theorem zi91_50 {E : zE} {v0 v1 : Value} {x : Int32} {ls sk : List Value} {h : zH} : zrun zpp E 91 (50, v0 :: v1 :: .int x :: ls, sk, h) = zrun zpp E 91 (51, v0 :: v1 :: .int x :: ls, .int x :: sk, h) := zrun_at rfl
theorem zi91_51 {E : zE} {v0 v1 v2 v3 : Value} {x : Nat} {ls sk : List Value} {h : zH} : zrun zpp E 91 (51, v0 :: v1 :: v2 :: v3 :: .ref x :: ls, sk, h) = zrun zpp E 91 (53, v0 :: v1 :: v2 :: v3 :: .ref x :: ls, .ref x :: sk, h) := zrun_at rfl
theorem zi91_51n {E : zE} {v0 v1 v2 v3 : Value} {ls sk : List Value} {h : zH} : zrun zpp E 91 (51, v0 :: v1 :: v2 :: v3 :: .null :: ls, sk, h) = zrun zpp E 91 (53, v0 :: v1 :: v2 :: v3 :: .null :: ls, .null :: sk, h) := zrun_at rfl
theorem zi91_53 {E : zE} {v0 v1 v2 : Value} {x : Int32} {ls sk : List Value} {h : zH} : zrun zpp E 91 (53, v0 :: v1 :: v2 :: .int x :: ls, sk, h) = zrun zpp E 91 (54, v0 :: v1 :: v2 :: .int x :: ls, .int x :: sk, h) := zrun_at rfl
theorem zi91_54 {E : zE} {a0 : Value} {x : Nat} {ls sk : List Value} {h : zH} : zrun zpp E 91 (54, ls, a0 :: .ref x :: sk, h) = (zcls h x).bind (fun d => (zsel d [6, 54]).bind (fun M' => zcl1 E 91 57 M' ls sk [.ref x, a0] h)) := zg_vir (as := [a0]) rfl rfl
theorem zi91_57 {E : zE} {x : Nat} {i v : Int32} {ls sk : List Value} {h : zH} : zrun zpp E 91 (57, ls, .int v :: .int i :: .ref x :: sk, h) = (zars 0 h x i v).bind (fun h' => zrun zpp E 91 (58, ls, sk, h')) := zg_iast rfl
theorem zi91_58 {E : zE} {x : Nat} {ls sk : List Value} {h : zH} : zrun zpp E 91 (58, .ref x :: ls, sk, h) = zrun zpp E 91 (59, .ref x :: ls, .ref x :: sk, h) := zrun_at rfl
theorem zi91_58n {E : zE} {ls sk : List Value} {h : zH} : zrun zpp E 91 (58, .null :: ls, sk, h) = zrun zpp E 91 (59, .null :: ls, .null :: sk, h) := zrun_at rfl
theorem zi91_59 {E : zE} {v0 v1 v2 v3 : Value} {x : Nat} {ls sk : List Value} {h : zH} : zrun zpp E 91 (59, v0 :: v1 :: v2 :: v3 :: .ref x :: ls, sk, h) = zrun zpp E 91 (61, v0 :: v1 :: v2 :: v3 :: .ref x :: ls, .ref x :: sk, h) := zrun_at rfl
theorem zi91_59n {E : zE} {v0 v1 v2 v3 : Value} {ls sk : List Value} {h : zH} : zrun zpp E 91 (59, v0 :: v1 :: v2 :: v3 :: .null :: ls, sk, h) = zrun zpp E 91 (61, v0 :: v1 :: v2 :: v3 :: .null :: ls, .null :: sk, h) := zrun_at rfl
theorem zi91_61 {E : zE} {x : Nat} {ls sk : List Value} {h : zH} : zrun zpp E 91 (61, ls, .ref x :: sk, h) = (zfld [6] h x 0).bind (fun v => zrun zpp E 91 (64, ls, v :: sk, h)) := zg_getf rfl
theorem zi91_64 {E : zE} {v0 v1 : Value} {x : Int32} {ls sk : List Value} {h : zH} : zrun zpp E 91 (64, v0 :: v1 :: .int x :: ls, sk, h) = zrun zpp E 91 (65, v0 :: v1 :: .int x :: ls, .int x :: sk, h) := zrun_at rfl
theorem zi91_65 {E : zE} {x : Nat} {i : Int32} {ls sk : List Value} {h : zH} : zrun zpp E 91 (65, ls, .int i :: .ref x :: sk, h) = (zarr 0 h x i).bind (fun v => zrun zpp E 91 (66, ls, .int v :: sk, h)) := zg_iald rfl
theorem zi91_66 {E : zE} {a0 : Value} {x : Nat} {ls sk : List Value} {h : zH} : zrun zpp E 91 (66, ls, a0 :: .ref x :: sk, h) = (zcls h x).bind (fun d => (zsel d [10, 131]).bind (fun M' => zcl1 E 91 69 M' ls sk [.ref x, a0] h)) := zg_vir (as := [a0]) rfl rfl
theorem zi91_69 {E : zE} {x : Int32} {ls sk : List Value} {h : zH} : zrun zpp E 91 (69, ls, [.int x], h) = some (some (.int x), h) := zrun_at rfl
-- 92 NineDown.copy
theorem zi92_0 {E : zE} {x : Nat} {ls sk : List Value} {h : zH} : zrun zpp E 92 (0, .ref x :: ls, sk, h) = zrun zpp E 92 (1, .ref x :: ls, .ref x :: sk, h) := zrun_at rfl
theorem zi92_0n {E : zE} {ls sk : List Value} {h : zH} : zrun zpp E 92 (0, .null :: ls, sk, h) = zrun zpp E 92 (1, .null :: ls, .null :: sk, h) := zrun_at rfl
theorem zi92_1 {E : zE} {v0 : Value} {x : Int32} {ls sk : List Value} {h : zH} : zrun zpp E 92 (1, v0 :: .int x :: ls, sk, h) = zrun zpp E 92 (2, v0 :: .int x :: ls, .int x :: sk, h) := zrun_at rfl
theorem zi92_2 {E : zE} {a0 : Value} {x : Nat} {ls sk : List Value} {h : zH} : zrun zpp E 92 (2, ls, a0 :: .ref x :: sk, h) = (zcls h x).bind (fun d => (zsel d [10, 128]).bind (fun M' => zcl1 E 92 5 M' ls sk [.ref x, a0] h)) := zg_vir (as := [a0]) rfl rfl
theorem zi92_5 {E : zE} {x : Nat} {ls sk : List Value} {h : zH} : zrun zpp E 92 (5, ls, .ref x :: sk, h) = if zfree ls 6 = true then zrun zpp E 92 (7, ls.set 6 (.ref x), sk, h) else none := zg_astr rfl (fun _ _ _ => rfl)
theorem zi92_5n {E : zE} {ls sk : List Value} {h : zH} : zrun zpp E 92 (5, ls, .null :: sk, h) = if zfree ls 6 = true then zrun zpp E 92 (7, ls.set 6 .null, sk, h) else none := zg_astn rfl (fun _ _ _ => rfl)
theorem zi92_7 {E : zE} {x : Nat} {ls sk : List Value} {h : zH} : zrun zpp E 92 (7, .ref x :: ls, sk, h) = zrun zpp E 92 (8, .ref x :: ls, .ref x :: sk, h) := zrun_at rfl
theorem zi92_7n {E : zE} {ls sk : List Value} {h : zH} : zrun zpp E 92 (7, .null :: ls, sk, h) = zrun zpp E 92 (8, .null :: ls, .null :: sk, h) := zrun_at rfl
theorem zi92_8 {E : zE} {v0 v1 v2 : Value} {x : Int32} {ls sk : List Value} {h : zH} : zrun zpp E 92 (8, v0 :: v1 :: v2 :: .int x :: ls, sk, h) = zrun zpp E 92 (9, v0 :: v1 :: v2 :: .int x :: ls, .int x :: sk, h) := zrun_at rfl
theorem zi92_9 {E : zE} {a0 : Value} {x : Nat} {ls sk : List Value} {h : zH} : zrun zpp E 92 (9, ls, a0 :: .ref x :: sk, h) = (zcls h x).bind (fun d => (zsel d [10, 128]).bind (fun M' => zcl1 E 92 12 M' ls sk [.ref x, a0] h)) := zg_vir (as := [a0]) rfl rfl
theorem zi92_12 {E : zE} {x : Nat} {ls sk : List Value} {h : zH} : zrun zpp E 92 (12, ls, .ref x :: sk, h) = if zfree ls 7 = true then zrun zpp E 92 (14, ls.set 7 (.ref x), sk, h) else none := zg_astr rfl (fun _ _ _ => rfl)
theorem zi92_12n {E : zE} {ls sk : List Value} {h : zH} : zrun zpp E 92 (12, ls, .null :: sk, h) = if zfree ls 7 = true then zrun zpp E 92 (14, ls.set 7 .null, sk, h) else none := zg_astn rfl (fun _ _ _ => rfl)
theorem zi92_14 {E : zE} {v0 v1 v2 v3 v4 v5 : Value} {x : Nat} {ls sk : List Value} {h : zH} : zrun zpp E 92 (14, v0 :: v1 :: v2 :: v3 :: v4 :: v5 :: .ref x :: ls, sk, h) = zrun zpp E 92 (16, v0 :: v1 :: v2 :: v3 :: v4 :: v5 :: .ref x :: ls, .ref x :: sk, h) := zrun_at rfl
theorem zi92_14n {E : zE} {v0 v1 v2 v3 v4 v5 : Value} {ls sk : List Value} {h : zH} : zrun zpp E 92 (14, v0 :: v1 :: v2 :: v3 :: v4 :: v5 :: .null :: ls, sk, h) = zrun zpp E 92 (16, v0 :: v1 :: v2 :: v3 :: v4 :: v5 :: .null :: ls, .null :: sk, h) := zrun_at rfl
theorem zi92_16 {E : zE} {x : Nat} {ls sk : List Value} {h : zH} : zrun zpp E 92 (16, ls, .ref x :: sk, h) = zrun zpp E 92 (19, ls, sk, h) := zrun_at rfl
theorem zi92_16n {E : zE} {ls sk : List Value} {h : zH} : zrun zpp E 92 (16, ls, .null :: sk, h) = zrun zpp E 92 (24, ls, sk, h) := zrun_at rfl
theorem zi92_19 {E : zE} {v0 v1 v2 v3 v4 v5 v6 : Value} {x : Nat} {ls sk : List Value} {h : zH} : zrun zpp E 92 (19, v0 :: v1 :: v2 :: v3 :: v4 :: v5 :: v6 :: .ref x :: ls, sk, h) = zrun zpp E 92 (21, v0 :: v1 :: v2 :: v3 :: v4 :: v5 :: v6 :: .ref x :: ls, .ref x :: sk, h) := zrun_at rfl
theorem zi92_19n {E : zE} {v0 v1 v2 v3 v4 v5 v6 : Value} {ls sk : List Value} {h : zH} : zrun zpp E 92 (19, v0 :: v1 :: v2 :: v3 :: v4 :: v5 :: v6 :: .null :: ls, sk, h) = zrun zpp E 92 (21, v0 :: v1 :: v2 :: v3 :: v4 :: v5 :: v6 :: .null :: ls, .null :: sk, h) := zrun_at rfl
theorem zi92_21 {E : zE} {x : Nat} {ls sk : List Value} {h : zH} : zrun zpp E 92 (21, ls, .ref x :: sk, h) = zrun zpp E 92 (27, ls, sk, h) := zrun_at rfl
theorem zi92_21n {E : zE} {ls sk : List Value} {h : zH} : zrun zpp E 92 (21, ls, .null :: sk, h) = zrun zpp E 92 (24, ls, sk, h) := zrun_at rfl
theorem zi92_24 {E : zE} {ls sk : List Value} {h : zH} : zrun zpp E 92 (24, ls, sk, h) = zrun zpp E 92 (26, ls, .int (-1000001) :: sk, h) := zg_ldc rfl ci_m1000001
theorem zi92_26 {E : zE} {x : Int32} {ls sk : List Value} {h : zH} : zrun zpp E 92 (26, ls, [.int x], h) = some (some (.int x), h) := zrun_at rfl
theorem zi92_27 {E : zE} {v0 v1 v2 v3 v4 v5 : Value} {x : Nat} {ls sk : List Value} {h : zH} : zrun zpp E 92 (27, v0 :: v1 :: v2 :: v3 :: v4 :: v5 :: .ref x :: ls, sk, h) = zrun zpp E 92 (29, v0 :: v1 :: v2 :: v3 :: v4 :: v5 :: .ref x :: ls, .ref x :: sk, h) := zrun_at rfl
theorem zi92_27n {E : zE} {v0 v1 v2 v3 v4 v5 : Value} {ls sk : List Value} {h : zH} : zrun zpp E 92 (27, v0 :: v1 :: v2 :: v3 :: v4 :: v5 :: .null :: ls, sk, h) = zrun zpp E 92 (29, v0 :: v1 :: v2 :: v3 :: v4 :: v5 :: .null :: ls, .null :: sk, h) := zrun_at rfl
theorem zi92_29 {E : zE} {x : Nat} {ls sk : List Value} {h : zH} : zrun zpp E 92 (29, ls, .ref x :: sk, h) = (zfld [6] h x 1).bind (fun v => zrun zpp E 92 (32, ls, v :: sk, h)) := zg_getf rfl
theorem zi92_32 {E : zE} {x : Int32} {ls sk : List Value} {h : zH} : zrun zpp E 92 (32, ls, .int x :: sk, h) = if x = 0 then zrun zpp E 92 (43, ls, sk, h) else zrun zpp E 92 (35, ls, sk, h) := zrun_at rfl
theorem zi92_35 {E : zE} {v0 v1 v2 v3 v4 v5 v6 : Value} {x : Nat} {ls sk : List Value} {h : zH} : zrun zpp E 92 (35, v0 :: v1 :: v2 :: v3 :: v4 :: v5 :: v6 :: .ref x :: ls, sk, h) = zrun zpp E 92 (37, v0 :: v1 :: v2 :: v3 :: v4 :: v5 :: v6 :: .ref x :: ls, .ref x :: sk, h) := zrun_at rfl
theorem zi92_35n {E : zE} {v0 v1 v2 v3 v4 v5 v6 : Value} {ls sk : List Value} {h : zH} : zrun zpp E 92 (35, v0 :: v1 :: v2 :: v3 :: v4 :: v5 :: v6 :: .null :: ls, sk, h) = zrun zpp E 92 (37, v0 :: v1 :: v2 :: v3 :: v4 :: v5 :: v6 :: .null :: ls, .null :: sk, h) := zrun_at rfl
theorem zi92_37 {E : zE} {x : Nat} {ls sk : List Value} {h : zH} : zrun zpp E 92 (37, ls, .ref x :: sk, h) = (zfld [6] h x 1).bind (fun v => zrun zpp E 92 (40, ls, v :: sk, h)) := zg_getf rfl
theorem zi92_40 {E : zE} {x : Int32} {ls sk : List Value} {h : zH} : zrun zpp E 92 (40, ls, .int x :: sk, h) = if x = 0 then zrun zpp E 92 (43, ls, sk, h) else zrun zpp E 92 (49, ls, sk, h) := zrun_at rfl
theorem zi92_43 {E : zE} {x : Nat} {ls sk : List Value} {h : zH} : zrun zpp E 92 (43, .ref x :: ls, sk, h) = zrun zpp E 92 (44, .ref x :: ls, .ref x :: sk, h) := zrun_at rfl
theorem zi92_43n {E : zE} {ls sk : List Value} {h : zH} : zrun zpp E 92 (43, .null :: ls, sk, h) = zrun zpp E 92 (44, .null :: ls, .null :: sk, h) := zrun_at rfl
theorem zi92_44 {E : zE} {ls sk : List Value} {h : zH} : zrun zpp E 92 (44, ls, sk, h) = zrun zpp E 92 (45, ls, .int 1 :: sk, h) := zg_iconst rfl ci_1
theorem zi92_45 {E : zE} {a0 : Value} {x : Nat} {ls sk : List Value} {h : zH} : zrun zpp E 92 (45, ls, a0 :: .ref x :: sk, h) = (zcls h x).bind (fun d => (zsel d [10, 130]).bind (fun M' => zcl1 E 92 48 M' ls sk [.ref x, a0] h)) := zg_vir (as := [a0]) rfl rfl
theorem zi92_48 {E : zE} {x : Int32} {ls sk : List Value} {h : zH} : zrun zpp E 92 (48, ls, [.int x], h) = some (some (.int x), h) := zrun_at rfl
theorem zi92_49 {E : zE} {v0 v1 v2 v3 v4 v5 : Value} {x : Nat} {ls sk : List Value} {h : zH} : zrun zpp E 92 (49, v0 :: v1 :: v2 :: v3 :: v4 :: v5 :: .ref x :: ls, sk, h) = zrun zpp E 92 (51, v0 :: v1 :: v2 :: v3 :: v4 :: v5 :: .ref x :: ls, .ref x :: sk, h) := zrun_at rfl
theorem zi92_49n {E : zE} {v0 v1 v2 v3 v4 v5 : Value} {ls sk : List Value} {h : zH} : zrun zpp E 92 (49, v0 :: v1 :: v2 :: v3 :: v4 :: v5 :: .null :: ls, sk, h) = zrun zpp E 92 (51, v0 :: v1 :: v2 :: v3 :: v4 :: v5 :: .null :: ls, .null :: sk, h) := zrun_at rfl
theorem zi92_51 {E : zE} {x : Nat} {ls sk : List Value} {h : zH} : zrun zpp E 92 (51, ls, .ref x :: sk, h) = (zfld [6] h x 2).bind (fun v => zrun zpp E 92 (54, ls, v :: sk, h)) := zg_getf rfl
theorem zi92_54 {E : zE} {v0 v1 v2 v3 v4 v5 v6 : Value} {x : Nat} {ls sk : List Value} {h : zH} : zrun zpp E 92 (54, v0 :: v1 :: v2 :: v3 :: v4 :: v5 :: v6 :: .ref x :: ls, sk, h) = zrun zpp E 92 (56, v0 :: v1 :: v2 :: v3 :: v4 :: v5 :: v6 :: .ref x :: ls, .ref x :: sk, h) := zrun_at rfl
theorem zi92_54n {E : zE} {v0 v1 v2 v3 v4 v5 v6 : Value} {ls sk : List Value} {h : zH} : zrun zpp E 92 (54, v0 :: v1 :: v2 :: v3 :: v4 :: v5 :: v6 :: .null :: ls, sk, h) = zrun zpp E 92 (56, v0 :: v1 :: v2 :: v3 :: v4 :: v5 :: v6 :: .null :: ls, .null :: sk, h) := zrun_at rfl
theorem zi92_56 {E : zE} {x : Nat} {ls sk : List Value} {h : zH} : zrun zpp E 92 (56, ls, .ref x :: sk, h) = (zfld [6] h x 2).bind (fun v => zrun zpp E 92 (59, ls, v :: sk, h)) := zg_getf rfl
theorem zi92_59 {E : zE} {x y : Int32} {ls sk : List Value} {h : zH} : zrun zpp E 92 (59, ls, .int y :: .int x :: sk, h) = if x = y then zrun zpp E 92 (68, ls, sk, h) else zrun zpp E 92 (62, ls, sk, h) := zrun_at rfl
theorem zi92_62 {E : zE} {x : Nat} {ls sk : List Value} {h : zH} : zrun zpp E 92 (62, .ref x :: ls, sk, h) = zrun zpp E 92 (63, .ref x :: ls, .ref x :: sk, h) := zrun_at rfl
theorem zi92_62n {E : zE} {ls sk : List Value} {h : zH} : zrun zpp E 92 (62, .null :: ls, sk, h) = zrun zpp E 92 (63, .null :: ls, .null :: sk, h) := zrun_at rfl
theorem zi92_63 {E : zE} {ls sk : List Value} {h : zH} : zrun zpp E 92 (63, ls, sk, h) = zrun zpp E 92 (64, ls, .int 5 :: sk, h) := zg_iconst rfl ci_5
theorem zi92_64 {E : zE} {a0 : Value} {x : Nat} {ls sk : List Value} {h : zH} : zrun zpp E 92 (64, ls, a0 :: .ref x :: sk, h) = (zcls h x).bind (fun d => (zsel d [10, 130]).bind (fun M' => zcl1 E 92 67 M' ls sk [.ref x, a0] h)) := zg_vir (as := [a0]) rfl rfl
theorem zi92_67 {E : zE} {x : Int32} {ls sk : List Value} {h : zH} : zrun zpp E 92 (67, ls, [.int x], h) = some (some (.int x), h) := zrun_at rfl
theorem zi92_68 {E : zE} {v0 v1 v2 v3 v4 v5 : Value} {x : Nat} {ls sk : List Value} {h : zH} : zrun zpp E 92 (68, v0 :: v1 :: v2 :: v3 :: v4 :: v5 :: .ref x :: ls, sk, h) = zrun zpp E 92 (70, v0 :: v1 :: v2 :: v3 :: v4 :: v5 :: .ref x :: ls, .ref x :: sk, h) := zrun_at rfl
theorem zi92_68n {E : zE} {v0 v1 v2 v3 v4 v5 : Value} {ls sk : List Value} {h : zH} : zrun zpp E 92 (68, v0 :: v1 :: v2 :: v3 :: v4 :: v5 :: .null :: ls, sk, h) = zrun zpp E 92 (70, v0 :: v1 :: v2 :: v3 :: v4 :: v5 :: .null :: ls, .null :: sk, h) := zrun_at rfl
theorem zi92_70 {E : zE} {v0 v1 : Value} {x : Int32} {ls sk : List Value} {h : zH} : zrun zpp E 92 (70, v0 :: v1 :: .int x :: ls, sk, h) = zrun zpp E 92 (71, v0 :: v1 :: .int x :: ls, .int x :: sk, h) := zrun_at rfl
theorem zi92_71 {E : zE} {v0 v1 v2 v3 v4 : Value} {x : Int32} {ls sk : List Value} {h : zH} : zrun zpp E 92 (71, v0 :: v1 :: v2 :: v3 :: v4 :: .int x :: ls, sk, h) = zrun zpp E 92 (73, v0 :: v1 :: v2 :: v3 :: v4 :: .int x :: ls, .int x :: sk, h) := zrun_at rfl
theorem zi92_73 {E : zE} {a0 a1 : Value} {x : Nat} {ls sk : List Value} {h : zH} : zrun zpp E 92 (73, ls, a1 :: a0 :: .ref x :: sk, h) = (zcls h x).bind (fun d => (zsel d [6, 53]).bind (fun M' => zcl1 E 92 76 M' ls sk [.ref x, a0, a1] h)) := zg_vir (as := [a0, a1]) rfl rfl
theorem zi92_76 {E : zE} {x : Int32} {ls sk : List Value} {h : zH} : zrun zpp E 92 (76, ls, .int x :: sk, h) = if x = 0 then zrun zpp E 92 (91, ls, sk, h) else zrun zpp E 92 (79, ls, sk, h) := zrun_at rfl
theorem zi92_79 {E : zE} {v0 v1 v2 v3 v4 v5 v6 : Value} {x : Nat} {ls sk : List Value} {h : zH} : zrun zpp E 92 (79, v0 :: v1 :: v2 :: v3 :: v4 :: v5 :: v6 :: .ref x :: ls, sk, h) = zrun zpp E 92 (81, v0 :: v1 :: v2 :: v3 :: v4 :: v5 :: v6 :: .ref x :: ls, .ref x :: sk, h) := zrun_at rfl
theorem zi92_79n {E : zE} {v0 v1 v2 v3 v4 v5 v6 : Value} {ls sk : List Value} {h : zH} : zrun zpp E 92 (79, v0 :: v1 :: v2 :: v3 :: v4 :: v5 :: v6 :: .null :: ls, sk, h) = zrun zpp E 92 (81, v0 :: v1 :: v2 :: v3 :: v4 :: v5 :: v6 :: .null :: ls, .null :: sk, h) := zrun_at rfl
theorem zi92_81 {E : zE} {v0 v1 v2 v3 : Value} {x : Int32} {ls sk : List Value} {h : zH} : zrun zpp E 92 (81, v0 :: v1 :: v2 :: v3 :: .int x :: ls, sk, h) = zrun zpp E 92 (83, v0 :: v1 :: v2 :: v3 :: .int x :: ls, .int x :: sk, h) := zrun_at rfl
theorem zi92_83 {E : zE} {v0 v1 v2 v3 v4 : Value} {x : Int32} {ls sk : List Value} {h : zH} : zrun zpp E 92 (83, v0 :: v1 :: v2 :: v3 :: v4 :: .int x :: ls, sk, h) = zrun zpp E 92 (85, v0 :: v1 :: v2 :: v3 :: v4 :: .int x :: ls, .int x :: sk, h) := zrun_at rfl
theorem zi92_85 {E : zE} {a0 a1 : Value} {x : Nat} {ls sk : List Value} {h : zH} : zrun zpp E 92 (85, ls, a1 :: a0 :: .ref x :: sk, h) = (zcls h x).bind (fun d => (zsel d [6, 53]).bind (fun M' => zcl1 E 92 88 M' ls sk [.ref x, a0, a1] h)) := zg_vir (as := [a0, a1]) rfl rfl
theorem zi92_88 {E : zE} {x : Int32} {ls sk : List Value} {h : zH} : zrun zpp E 92 (88, ls, .int x :: sk, h) = if x = 0 then zrun zpp E 92 (91, ls, sk, h) else zrun zpp E 92 (97, ls, sk, h) := zrun_at rfl
theorem zi92_91 {E : zE} {x : Nat} {ls sk : List Value} {h : zH} : zrun zpp E 92 (91, .ref x :: ls, sk, h) = zrun zpp E 92 (92, .ref x :: ls, .ref x :: sk, h) := zrun_at rfl
theorem zi92_91n {E : zE} {ls sk : List Value} {h : zH} : zrun zpp E 92 (91, .null :: ls, sk, h) = zrun zpp E 92 (92, .null :: ls, .null :: sk, h) := zrun_at rfl
theorem zi92_92 {E : zE} {ls sk : List Value} {h : zH} : zrun zpp E 92 (92, ls, sk, h) = zrun zpp E 92 (93, ls, .int 2 :: sk, h) := zg_iconst rfl ci_2
theorem zi92_93 {E : zE} {a0 : Value} {x : Nat} {ls sk : List Value} {h : zH} : zrun zpp E 92 (93, ls, a0 :: .ref x :: sk, h) = (zcls h x).bind (fun d => (zsel d [10, 130]).bind (fun M' => zcl1 E 92 96 M' ls sk [.ref x, a0] h)) := zg_vir (as := [a0]) rfl rfl
theorem zi92_96 {E : zE} {x : Int32} {ls sk : List Value} {h : zH} : zrun zpp E 92 (96, ls, [.int x], h) = some (some (.int x), h) := zrun_at rfl
theorem zi92_97 {E : zE} {v0 v1 v2 v3 v4 v5 : Value} {x : Nat} {ls sk : List Value} {h : zH} : zrun zpp E 92 (97, v0 :: v1 :: v2 :: v3 :: v4 :: v5 :: .ref x :: ls, sk, h) = zrun zpp E 92 (99, v0 :: v1 :: v2 :: v3 :: v4 :: v5 :: .ref x :: ls, .ref x :: sk, h) := zrun_at rfl
theorem zi92_97n {E : zE} {v0 v1 v2 v3 v4 v5 : Value} {ls sk : List Value} {h : zH} : zrun zpp E 92 (97, v0 :: v1 :: v2 :: v3 :: v4 :: v5 :: .null :: ls, sk, h) = zrun zpp E 92 (99, v0 :: v1 :: v2 :: v3 :: v4 :: v5 :: .null :: ls, .null :: sk, h) := zrun_at rfl
theorem zi92_99 {E : zE} {x : Nat} {ls sk : List Value} {h : zH} : zrun zpp E 92 (99, ls, .ref x :: sk, h) = (zfld [6] h x 0).bind (fun v => zrun zpp E 92 (102, ls, v :: sk, h)) := zg_getf rfl
theorem zi92_102 {E : zE} {v0 v1 : Value} {x : Int32} {ls sk : List Value} {h : zH} : zrun zpp E 92 (102, v0 :: v1 :: .int x :: ls, sk, h) = zrun zpp E 92 (103, v0 :: v1 :: .int x :: ls, .int x :: sk, h) := zrun_at rfl
theorem zi92_103 {E : zE} {v0 v1 v2 v3 v4 v5 v6 : Value} {x : Nat} {ls sk : List Value} {h : zH} : zrun zpp E 92 (103, v0 :: v1 :: v2 :: v3 :: v4 :: v5 :: v6 :: .ref x :: ls, sk, h) = zrun zpp E 92 (105, v0 :: v1 :: v2 :: v3 :: v4 :: v5 :: v6 :: .ref x :: ls, .ref x :: sk, h) := zrun_at rfl
theorem zi92_103n {E : zE} {v0 v1 v2 v3 v4 v5 v6 : Value} {ls sk : List Value} {h : zH} : zrun zpp E 92 (103, v0 :: v1 :: v2 :: v3 :: v4 :: v5 :: v6 :: .null :: ls, sk, h) = zrun zpp E 92 (105, v0 :: v1 :: v2 :: v3 :: v4 :: v5 :: v6 :: .null :: ls, .null :: sk, h) := zrun_at rfl
theorem zi92_105 {E : zE} {x : Nat} {ls sk : List Value} {h : zH} : zrun zpp E 92 (105, ls, .ref x :: sk, h) = (zfld [6] h x 0).bind (fun v => zrun zpp E 92 (108, ls, v :: sk, h)) := zg_getf rfl
theorem zi92_108 {E : zE} {v0 v1 v2 v3 : Value} {x : Int32} {ls sk : List Value} {h : zH} : zrun zpp E 92 (108, v0 :: v1 :: v2 :: v3 :: .int x :: ls, sk, h) = zrun zpp E 92 (110, v0 :: v1 :: v2 :: v3 :: .int x :: ls, .int x :: sk, h) := zrun_at rfl
theorem zi92_110 {E : zE} {v0 v1 v2 v3 v4 : Value} {x : Int32} {ls sk : List Value} {h : zH} : zrun zpp E 92 (110, v0 :: v1 :: v2 :: v3 :: v4 :: .int x :: ls, sk, h) = zrun zpp E 92 (112, v0 :: v1 :: v2 :: v3 :: v4 :: .int x :: ls, .int x :: sk, h) := zrun_at rfl
theorem zi92_112 {E : zE} {a b : Nat} {n dp sp : Int32} {ls sk : List Value} {h : zH} : zrun zpp E 92 (112, ls, .int n :: .int dp :: .ref b :: .int sp :: .ref a :: [], h) = (zcpa h a b sp dp n).bind (fun h' => zrun zpp E 92 (115, ls, [], h')) := zg_copy rfl rfl
theorem zi92_115 {E : zE} {x : Nat} {ls sk : List Value} {h : zH} : zrun zpp E 92 (115, .ref x :: ls, sk, h) = zrun zpp E 92 (116, .ref x :: ls, .ref x :: sk, h) := zrun_at rfl
theorem zi92_115n {E : zE} {ls sk : List Value} {h : zH} : zrun zpp E 92 (115, .null :: ls, sk, h) = zrun zpp E 92 (116, .null :: ls, .null :: sk, h) := zrun_at rfl
theorem zi92_116 {E : zE} {v0 v1 v2 v3 v4 : Value} {x : Int32} {ls sk : List Value} {h : zH} : zrun zpp E 92 (116, v0 :: v1 :: v2 :: v3 :: v4 :: .int x :: ls, sk, h) = zrun zpp E 92 (118, v0 :: v1 :: v2 :: v3 :: v4 :: .int x :: ls, .int x :: sk, h) := zrun_at rfl
theorem zi92_118 {E : zE} {a0 : Value} {x : Nat} {ls sk : List Value} {h : zH} : zrun zpp E 92 (118, ls, a0 :: .ref x :: sk, h) = (zcls h x).bind (fun d => (zsel d [10, 131]).bind (fun M' => zcl1 E 92 121 M' ls sk [.ref x, a0] h)) := zg_vir (as := [a0]) rfl rfl
theorem zi92_121 {E : zE} {x : Int32} {ls sk : List Value} {h : zH} : zrun zpp E 92 (121, ls, [.int x], h) = some (some (.int x), h) := zrun_at rfl
-- 93 NineDown.drop
theorem zi93_0 {E : zE} {x : Nat} {ls sk : List Value} {h : zH} : zrun zpp E 93 (0, .ref x :: ls, sk, h) = zrun zpp E 93 (1, .ref x :: ls, .ref x :: sk, h) := zrun_at rfl
theorem zi93_0n {E : zE} {ls sk : List Value} {h : zH} : zrun zpp E 93 (0, .null :: ls, sk, h) = zrun zpp E 93 (1, .null :: ls, .null :: sk, h) := zrun_at rfl
theorem zi93_1 {E : zE} {v0 : Value} {x : Int32} {ls sk : List Value} {h : zH} : zrun zpp E 93 (1, v0 :: .int x :: ls, sk, h) = zrun zpp E 93 (2, v0 :: .int x :: ls, .int x :: sk, h) := zrun_at rfl
theorem zi93_2 {E : zE} {a0 : Value} {x : Nat} {ls sk : List Value} {h : zH} : zrun zpp E 93 (2, ls, a0 :: .ref x :: sk, h) = (zcls h x).bind (fun d => (zsel d [10, 128]).bind (fun M' => zcl1 E 93 5 M' ls sk [.ref x, a0] h)) := zg_vir (as := [a0]) rfl rfl
theorem zi93_5 {E : zE} {x : Nat} {ls sk : List Value} {h : zH} : zrun zpp E 93 (5, ls, .ref x :: sk, h) = if zfree ls 2 = true then zrun zpp E 93 (6, ls.set 2 (.ref x), sk, h) else none := zg_astr rfl (fun _ _ _ => rfl)
theorem zi93_5n {E : zE} {ls sk : List Value} {h : zH} : zrun zpp E 93 (5, ls, .null :: sk, h) = if zfree ls 2 = true then zrun zpp E 93 (6, ls.set 2 .null, sk, h) else none := zg_astn rfl (fun _ _ _ => rfl)
theorem zi93_6 {E : zE} {v0 v1 : Value} {x : Nat} {ls sk : List Value} {h : zH} : zrun zpp E 93 (6, v0 :: v1 :: .ref x :: ls, sk, h) = zrun zpp E 93 (7, v0 :: v1 :: .ref x :: ls, .ref x :: sk, h) := zrun_at rfl
theorem zi93_6n {E : zE} {v0 v1 : Value} {ls sk : List Value} {h : zH} : zrun zpp E 93 (6, v0 :: v1 :: .null :: ls, sk, h) = zrun zpp E 93 (7, v0 :: v1 :: .null :: ls, .null :: sk, h) := zrun_at rfl
theorem zi93_7 {E : zE} {x : Nat} {ls sk : List Value} {h : zH} : zrun zpp E 93 (7, ls, .ref x :: sk, h) = zrun zpp E 93 (13, ls, sk, h) := zrun_at rfl
theorem zi93_7n {E : zE} {ls sk : List Value} {h : zH} : zrun zpp E 93 (7, ls, .null :: sk, h) = zrun zpp E 93 (10, ls, sk, h) := zrun_at rfl
theorem zi93_10 {E : zE} {ls sk : List Value} {h : zH} : zrun zpp E 93 (10, ls, sk, h) = zrun zpp E 93 (12, ls, .int (-1000001) :: sk, h) := zg_ldc rfl ci_m1000001
theorem zi93_12 {E : zE} {x : Int32} {ls sk : List Value} {h : zH} : zrun zpp E 93 (12, ls, [.int x], h) = some (some (.int x), h) := zrun_at rfl
theorem zi93_13 {E : zE} {v0 v1 : Value} {x : Nat} {ls sk : List Value} {h : zH} : zrun zpp E 93 (13, v0 :: v1 :: .ref x :: ls, sk, h) = zrun zpp E 93 (14, v0 :: v1 :: .ref x :: ls, .ref x :: sk, h) := zrun_at rfl
theorem zi93_13n {E : zE} {v0 v1 : Value} {ls sk : List Value} {h : zH} : zrun zpp E 93 (13, v0 :: v1 :: .null :: ls, sk, h) = zrun zpp E 93 (14, v0 :: v1 :: .null :: ls, .null :: sk, h) := zrun_at rfl
theorem zi93_14 {E : zE} {x : Nat} {ls sk : List Value} {h : zH} : zrun zpp E 93 (14, ls, .ref x :: sk, h) = (zfld [6] h x 1).bind (fun v => zrun zpp E 93 (17, ls, v :: sk, h)) := zg_getf rfl
theorem zi93_17 {E : zE} {x : Int32} {ls sk : List Value} {h : zH} : zrun zpp E 93 (17, ls, .int x :: sk, h) = if x = 0 then zrun zpp E 93 (20, ls, sk, h) else zrun zpp E 93 (26, ls, sk, h) := zrun_at rfl
theorem zi93_20 {E : zE} {x : Nat} {ls sk : List Value} {h : zH} : zrun zpp E 93 (20, .ref x :: ls, sk, h) = zrun zpp E 93 (21, .ref x :: ls, .ref x :: sk, h) := zrun_at rfl
theorem zi93_20n {E : zE} {ls sk : List Value} {h : zH} : zrun zpp E 93 (20, .null :: ls, sk, h) = zrun zpp E 93 (21, .null :: ls, .null :: sk, h) := zrun_at rfl
theorem zi93_21 {E : zE} {ls sk : List Value} {h : zH} : zrun zpp E 93 (21, ls, sk, h) = zrun zpp E 93 (22, ls, .int 1 :: sk, h) := zg_iconst rfl ci_1
theorem zi93_22 {E : zE} {a0 : Value} {x : Nat} {ls sk : List Value} {h : zH} : zrun zpp E 93 (22, ls, a0 :: .ref x :: sk, h) = (zcls h x).bind (fun d => (zsel d [10, 130]).bind (fun M' => zcl1 E 93 25 M' ls sk [.ref x, a0] h)) := zg_vir (as := [a0]) rfl rfl
theorem zi93_25 {E : zE} {x : Int32} {ls sk : List Value} {h : zH} : zrun zpp E 93 (25, ls, [.int x], h) = some (some (.int x), h) := zrun_at rfl
theorem zi93_26 {E : zE} {v0 v1 : Value} {x : Nat} {ls sk : List Value} {h : zH} : zrun zpp E 93 (26, v0 :: v1 :: .ref x :: ls, sk, h) = zrun zpp E 93 (27, v0 :: v1 :: .ref x :: ls, .ref x :: sk, h) := zrun_at rfl
theorem zi93_26n {E : zE} {v0 v1 : Value} {ls sk : List Value} {h : zH} : zrun zpp E 93 (26, v0 :: v1 :: .null :: ls, sk, h) = zrun zpp E 93 (27, v0 :: v1 :: .null :: ls, .null :: sk, h) := zrun_at rfl
theorem zi93_27 {E : zE} {ls sk : List Value} {h : zH} : zrun zpp E 93 (27, ls, sk, h) = zrun zpp E 93 (28, ls, .int 0 :: sk, h) := zg_iconst rfl ci_0
theorem zi93_28 {E : zE} {x : Nat} {v : Value} {ls sk : List Value} {h : zH} : zrun zpp E 93 (28, ls, v :: .ref x :: sk, h) = (zstf [6] 1 h x 1 v).bind (fun h' => zrun zpp E 93 (31, ls, sk, h')) := zg_putf rfl
theorem zi93_31 {E : zE} {x : Nat} {ls sk : List Value} {h : zH} : zrun zpp E 93 (31, .ref x :: ls, sk, h) = zrun zpp E 93 (32, .ref x :: ls, .ref x :: sk, h) := zrun_at rfl
theorem zi93_31n {E : zE} {ls sk : List Value} {h : zH} : zrun zpp E 93 (31, .null :: ls, sk, h) = zrun zpp E 93 (32, .null :: ls, .null :: sk, h) := zrun_at rfl
theorem zi93_32 {E : zE} {v0 v1 : Value} {x : Nat} {ls sk : List Value} {h : zH} : zrun zpp E 93 (32, v0 :: v1 :: .ref x :: ls, sk, h) = zrun zpp E 93 (33, v0 :: v1 :: .ref x :: ls, .ref x :: sk, h) := zrun_at rfl
theorem zi93_32n {E : zE} {v0 v1 : Value} {ls sk : List Value} {h : zH} : zrun zpp E 93 (32, v0 :: v1 :: .null :: ls, sk, h) = zrun zpp E 93 (33, v0 :: v1 :: .null :: ls, .null :: sk, h) := zrun_at rfl
theorem zi93_33 {E : zE} {x : Nat} {ls sk : List Value} {h : zH} : zrun zpp E 93 (33, ls, .ref x :: sk, h) = (zfld [6] h x 3).bind (fun v => zrun zpp E 93 (36, ls, v :: sk, h)) := zg_getf rfl
theorem zi93_36 {E : zE} {a0 : Value} {x : Nat} {ls sk : List Value} {h : zH} : zrun zpp E 93 (36, ls, a0 :: .ref x :: sk, h) = (zcls h x).bind (fun d => (zsel d [10, 131]).bind (fun M' => zcl1 E 93 39 M' ls sk [.ref x, a0] h)) := zg_vir (as := [a0]) rfl rfl
theorem zi93_39 {E : zE} {x : Int32} {ls sk : List Value} {h : zH} : zrun zpp E 93 (39, ls, [.int x], h) = some (some (.int x), h) := zrun_at rfl
-- 94 NineDown.feed
theorem zi94_0 {E : zE} {v0 : Value} {x : Int32} {ls sk : List Value} {h : zH} : zrun zpp E 94 (0, v0 :: .int x :: ls, sk, h) = zrun zpp E 94 (1, v0 :: .int x :: ls, .int x :: sk, h) := zrun_at rfl
theorem zi94_1 {E : zE} {ls sk : List Value} {h : zH} : zrun zpp E 94 (1, ls, sk, h) = zrun zpp E 94 (2, ls, .int 0 :: sk, h) := zg_iconst rfl ci_0
theorem zi94_2 {E : zE} {ls sk : List Value} {h : zH} : zrun zpp E 94 (2, ls, sk, h) = zrun zpp E 94 (5, ls, .int 255 :: sk, h) := zg_sipush rfl ci_255
theorem zi94_5 {E : zE} {a0 a1 a2 : Value} {ls sk : List Value} {h : zH} : zrun zpp E 94 (5, ls, a2 :: a1 :: a0 :: sk, h) = zcl1 E 94 8 126 ls sk [a0, a1, a2] h := zg_inv (as := [a0, a1, a2]) rfl rfl
theorem zi94_8 {E : zE} {x : Int32} {ls sk : List Value} {h : zH} : zrun zpp E 94 (8, ls, .int x :: sk, h) = if x = 0 then zrun zpp E 94 (11, ls, sk, h) else zrun zpp E 94 (14, ls, sk, h) := zrun_at rfl
theorem zi94_11 {E : zE} {ls sk : List Value} {h : zH} : zrun zpp E 94 (11, ls, sk, h) = zrun zpp E 94 (13, ls, .int (-1000001) :: sk, h) := zg_ldc rfl ci_m1000001
theorem zi94_13 {E : zE} {x : Int32} {ls sk : List Value} {h : zH} : zrun zpp E 94 (13, ls, [.int x], h) = some (some (.int x), h) := zrun_at rfl
theorem zi94_14 {E : zE} {x : Nat} {ls sk : List Value} {h : zH} : zrun zpp E 94 (14, .ref x :: ls, sk, h) = zrun zpp E 94 (15, .ref x :: ls, .ref x :: sk, h) := zrun_at rfl
theorem zi94_14n {E : zE} {ls sk : List Value} {h : zH} : zrun zpp E 94 (14, .null :: ls, sk, h) = zrun zpp E 94 (15, .null :: ls, .null :: sk, h) := zrun_at rfl
theorem zi94_15 {E : zE} {x : Nat} {ls sk : List Value} {h : zH} : zrun zpp E 94 (15, ls, .ref x :: sk, h) = (zfld [10] h x 1).bind (fun v => zrun zpp E 94 (18, ls, v :: sk, h)) := zg_getf rfl
theorem zi94_18 {E : zE} {v0 : Value} {x : Int32} {ls sk : List Value} {h : zH} : zrun zpp E 94 (18, v0 :: .int x :: ls, sk, h) = zrun zpp E 94 (19, v0 :: .int x :: ls, .int x :: sk, h) := zrun_at rfl
theorem zi94_19 {E : zE} {a0 : Value} {x : Nat} {ls sk : List Value} {h : zH} : zrun zpp E 94 (19, ls, a0 :: .ref x :: sk, h) = (zcls h x).bind (fun d => (zsel d [5, 34]).bind (fun M' => zcl1 E 94 22 M' ls sk [.ref x, a0] h)) := zg_vir (as := [a0]) rfl rfl
theorem zi94_22 {E : zE} {x : Int32} {ls sk : List Value} {h : zH} : zrun zpp E 94 (22, ls, .int x :: sk, h) = if x = 0 then zrun zpp E 94 (35, ls, sk, h) else zrun zpp E 94 (25, ls, sk, h) := zrun_at rfl
theorem zi94_25 {E : zE} {x : Nat} {ls sk : List Value} {h : zH} : zrun zpp E 94 (25, .ref x :: ls, sk, h) = zrun zpp E 94 (26, .ref x :: ls, .ref x :: sk, h) := zrun_at rfl
theorem zi94_25n {E : zE} {ls sk : List Value} {h : zH} : zrun zpp E 94 (25, .null :: ls, sk, h) = zrun zpp E 94 (26, .null :: ls, .null :: sk, h) := zrun_at rfl
theorem zi94_26 {E : zE} {x : Nat} {ls sk : List Value} {h : zH} : zrun zpp E 94 (26, ls, .ref x :: sk, h) = (zfld [10] h x 1).bind (fun v => zrun zpp E 94 (29, ls, v :: sk, h)) := zg_getf rfl
theorem zi94_29 {E : zE} {x : Nat} {ls sk : List Value} {h : zH} : zrun zpp E 94 (29, ls, .ref x :: sk, h) = (zfld [5] h x 1).bind (fun v => zrun zpp E 94 (32, ls, v :: sk, h)) := zg_getf rfl
theorem zi94_32 {E : zE} {ls sk : List Value} {h : zH} : zrun zpp E 94 (32, ls, sk, h) = zrun zpp E 94 (37, ls, sk, h) := zrun_at rfl
theorem zi94_35 {E : zE} {ls sk : List Value} {h : zH} : zrun zpp E 94 (35, ls, sk, h) = zrun zpp E 94 (37, ls, .int (-1000003) :: sk, h) := zg_ldc rfl ci_m1000003
theorem zi94_37 {E : zE} {x : Int32} {ls sk : List Value} {h : zH} : zrun zpp E 94 (37, ls, [.int x], h) = some (some (.int x), h) := zrun_at rfl
-- 95 NineDown.yard
theorem zi95_0 {E : zE} {x : Nat} {ls sk : List Value} {h : zH} : zrun zpp E 95 (0, .ref x :: ls, sk, h) = zrun zpp E 95 (1, .ref x :: ls, .ref x :: sk, h) := zrun_at rfl
theorem zi95_0n {E : zE} {ls sk : List Value} {h : zH} : zrun zpp E 95 (0, .null :: ls, sk, h) = zrun zpp E 95 (1, .null :: ls, .null :: sk, h) := zrun_at rfl
theorem zi95_1 {E : zE} {x : Nat} {ls sk : List Value} {h : zH} : zrun zpp E 95 (1, ls, .ref x :: sk, h) = (zfld [10] h x 1).bind (fun v => zrun zpp E 95 (4, ls, v :: sk, h)) := zg_getf rfl
theorem zi95_4 {E : zE} {x : Nat} {ls sk : List Value} {h : zH} : zrun zpp E 95 (4, .ref x :: ls, sk, h) = zrun zpp E 95 (5, .ref x :: ls, .ref x :: sk, h) := zrun_at rfl
theorem zi95_4n {E : zE} {ls sk : List Value} {h : zH} : zrun zpp E 95 (4, .null :: ls, sk, h) = zrun zpp E 95 (5, .null :: ls, .null :: sk, h) := zrun_at rfl
theorem zi95_5 {E : zE} {x : Nat} {ls sk : List Value} {h : zH} : zrun zpp E 95 (5, ls, .ref x :: sk, h) = (zfld [10] h x 8).bind (fun v => zrun zpp E 95 (8, ls, v :: sk, h)) := zg_getf rfl
theorem zi95_8 {E : zE} {a0 : Value} {x : Nat} {ls sk : List Value} {h : zH} : zrun zpp E 95 (8, ls, a0 :: .ref x :: sk, h) = (zcls h x).bind (fun d => (zsel d [5, 35]).bind (fun M' => zcl1 E 95 11 M' ls sk [.ref x, a0] h)) := zg_vir (as := [a0]) rfl rfl
theorem zi95_11 {E : zE} {x : Int32} {ls sk : List Value} {h : zH} : zrun zpp E 95 (11, ls, .int x :: sk, h) = if zfree ls 1 = true then zrun zpp E 95 (12, ls.set 1 (.int x), sk, h) else none := zg_ist rfl (fun _ _ _ => rfl)
theorem zi95_12 {E : zE} {v0 : Value} {x : Int32} {ls sk : List Value} {h : zH} : zrun zpp E 95 (12, v0 :: .int x :: ls, sk, h) = zrun zpp E 95 (13, v0 :: .int x :: ls, .int x :: sk, h) := zrun_at rfl
theorem zi95_13 {E : zE} {x : Int32} {ls sk : List Value} {h : zH} : zrun zpp E 95 (13, ls, .int x :: sk, h) = if x = 0 then zrun zpp E 95 (16, ls, sk, h) else zrun zpp E 95 (27, ls, sk, h) := zrun_at rfl
theorem zi95_16 {E : zE} {ls sk : List Value} {h : zH} : zrun zpp E 95 (16, ls, sk, h) = zrun zpp E 95 (18, ls, .int (-1000100) :: sk, h) := zg_ldc rfl ci_m1000100
theorem zi95_18 {E : zE} {x : Nat} {ls sk : List Value} {h : zH} : zrun zpp E 95 (18, .ref x :: ls, sk, h) = zrun zpp E 95 (19, .ref x :: ls, .ref x :: sk, h) := zrun_at rfl
theorem zi95_18n {E : zE} {ls sk : List Value} {h : zH} : zrun zpp E 95 (18, .null :: ls, sk, h) = zrun zpp E 95 (19, .null :: ls, .null :: sk, h) := zrun_at rfl
theorem zi95_19 {E : zE} {x : Nat} {ls sk : List Value} {h : zH} : zrun zpp E 95 (19, ls, .ref x :: sk, h) = (zfld [10] h x 1).bind (fun v => zrun zpp E 95 (22, ls, v :: sk, h)) := zg_getf rfl
theorem zi95_22 {E : zE} {x : Nat} {ls sk : List Value} {h : zH} : zrun zpp E 95 (22, ls, .ref x :: sk, h) = (zfld [5] h x 4).bind (fun v => zrun zpp E 95 (25, ls, v :: sk, h)) := zg_getf rfl
theorem zi95_25 {E : zE} {x y : Int32} {ls sk : List Value} {h : zH} : zrun zpp E 95 (25, ls, .int y :: .int x :: sk, h) = zrun zpp E 95 (26, ls, .int (x - y) :: sk, h) := zrun_at rfl
theorem zi95_26 {E : zE} {x : Int32} {ls sk : List Value} {h : zH} : zrun zpp E 95 (26, ls, [.int x], h) = some (some (.int x), h) := zrun_at rfl
theorem zi95_27 {E : zE} {x : Nat} {ls sk : List Value} {h : zH} : zrun zpp E 95 (27, .ref x :: ls, sk, h) = zrun zpp E 95 (28, .ref x :: ls, .ref x :: sk, h) := zrun_at rfl
theorem zi95_27n {E : zE} {ls sk : List Value} {h : zH} : zrun zpp E 95 (27, .null :: ls, sk, h) = zrun zpp E 95 (28, .null :: ls, .null :: sk, h) := zrun_at rfl
theorem zi95_28 {E : zE} {x : Nat} {ls sk : List Value} {h : zH} : zrun zpp E 95 (28, ls, .ref x :: sk, h) = (zfld [10] h x 7).bind (fun v => zrun zpp E 95 (31, ls, v :: sk, h)) := zg_getf rfl
theorem zi95_31 {E : zE} {x : Nat} {ls sk : List Value} {h : zH} : zrun zpp E 95 (31, ls, .ref x :: sk, h) = if zfree ls 2 = true then zrun zpp E 95 (32, ls.set 2 (.ref x), sk, h) else none := zg_astr rfl (fun _ _ _ => rfl)
theorem zi95_31n {E : zE} {ls sk : List Value} {h : zH} : zrun zpp E 95 (31, ls, .null :: sk, h) = if zfree ls 2 = true then zrun zpp E 95 (32, ls.set 2 .null, sk, h) else none := zg_astn rfl (fun _ _ _ => rfl)
theorem zi95_32 {E : zE} {x : Nat} {ls sk : List Value} {h : zH} : zrun zpp E 95 (32, .ref x :: ls, sk, h) = zrun zpp E 95 (33, .ref x :: ls, .ref x :: sk, h) := zrun_at rfl
theorem zi95_32n {E : zE} {ls sk : List Value} {h : zH} : zrun zpp E 95 (32, .null :: ls, sk, h) = zrun zpp E 95 (33, .null :: ls, .null :: sk, h) := zrun_at rfl
theorem zi95_33 {E : zE} {x : Nat} {ls sk : List Value} {h : zH} : zrun zpp E 95 (33, .ref x :: ls, sk, h) = zrun zpp E 95 (34, .ref x :: ls, .ref x :: sk, h) := zrun_at rfl
theorem zi95_33n {E : zE} {ls sk : List Value} {h : zH} : zrun zpp E 95 (33, .null :: ls, sk, h) = zrun zpp E 95 (34, .null :: ls, .null :: sk, h) := zrun_at rfl
theorem zi95_34 {E : zE} {x : Nat} {ls sk : List Value} {h : zH} : zrun zpp E 95 (34, ls, .ref x :: sk, h) = (zfld [10] h x 8).bind (fun v => zrun zpp E 95 (37, ls, v :: sk, h)) := zg_getf rfl
theorem zi95_37 {E : zE} {x : Nat} {v : Value} {ls sk : List Value} {h : zH} : zrun zpp E 95 (37, ls, v :: .ref x :: sk, h) = (zstf [10] 2 h x 7 v).bind (fun h' => zrun zpp E 95 (40, ls, sk, h')) := zg_putf rfl
theorem zi95_40 {E : zE} {x : Nat} {ls sk : List Value} {h : zH} : zrun zpp E 95 (40, .ref x :: ls, sk, h) = zrun zpp E 95 (41, .ref x :: ls, .ref x :: sk, h) := zrun_at rfl
theorem zi95_40n {E : zE} {ls sk : List Value} {h : zH} : zrun zpp E 95 (40, .null :: ls, sk, h) = zrun zpp E 95 (41, .null :: ls, .null :: sk, h) := zrun_at rfl
theorem zi95_41 {E : zE} {v0 v1 : Value} {x : Nat} {ls sk : List Value} {h : zH} : zrun zpp E 95 (41, v0 :: v1 :: .ref x :: ls, sk, h) = zrun zpp E 95 (42, v0 :: v1 :: .ref x :: ls, .ref x :: sk, h) := zrun_at rfl
theorem zi95_41n {E : zE} {v0 v1 : Value} {ls sk : List Value} {h : zH} : zrun zpp E 95 (41, v0 :: v1 :: .null :: ls, sk, h) = zrun zpp E 95 (42, v0 :: v1 :: .null :: ls, .null :: sk, h) := zrun_at rfl
theorem zi95_42 {E : zE} {x : Nat} {v : Value} {ls sk : List Value} {h : zH} : zrun zpp E 95 (42, ls, v :: .ref x :: sk, h) = (zstf [10] 2 h x 8 v).bind (fun h' => zrun zpp E 95 (45, ls, sk, h')) := zg_putf rfl
theorem zi95_45 {E : zE} {x : Nat} {ls sk : List Value} {h : zH} : zrun zpp E 95 (45, .ref x :: ls, sk, h) = zrun zpp E 95 (46, .ref x :: ls, .ref x :: sk, h) := zrun_at rfl
theorem zi95_45n {E : zE} {ls sk : List Value} {h : zH} : zrun zpp E 95 (45, .null :: ls, sk, h) = zrun zpp E 95 (46, .null :: ls, .null :: sk, h) := zrun_at rfl
theorem zi95_46 {E : zE} {x : Nat} {ls sk : List Value} {h : zH} : zrun zpp E 95 (46, ls, .ref x :: sk, h) = (zfld [10] h x 3).bind (fun v => zrun zpp E 95 (49, ls, v :: sk, h)) := zg_getf rfl
theorem zi95_49 {E : zE} {x : Nat} {ls sk : List Value} {h : zH} : zrun zpp E 95 (49, ls, .ref x :: sk, h) = (zcls h x).bind (fun d => (zsel d [0, 2]).bind (fun M' => zcl1 E 95 52 M' ls sk [.ref x] h)) := zg_vir (as := []) rfl rfl
theorem zi95_52 {E : zE} {x : Nat} {ls sk : List Value} {h : zH} : zrun zpp E 95 (52, .ref x :: ls, sk, h) = zrun zpp E 95 (53, .ref x :: ls, .ref x :: sk, h) := zrun_at rfl
theorem zi95_52n {E : zE} {ls sk : List Value} {h : zH} : zrun zpp E 95 (52, .null :: ls, sk, h) = zrun zpp E 95 (53, .null :: ls, .null :: sk, h) := zrun_at rfl
theorem zi95_53 {E : zE} {x : Nat} {ls sk : List Value} {h : zH} : zrun zpp E 95 (53, ls, .ref x :: sk, h) = (zfld [10] h x 7).bind (fun v => zrun zpp E 95 (56, ls, v :: sk, h)) := zg_getf rfl
theorem zi95_56 {E : zE} {x : Nat} {ls sk : List Value} {h : zH} : zrun zpp E 95 (56, ls, .ref x :: sk, h) = (zfld [9] h x 3).bind (fun v => zrun zpp E 95 (59, ls, v :: sk, h)) := zg_getf rfl
theorem zi95_59 {E : zE} {x : Int32} {ls sk : List Value} {h : zH} : zrun zpp E 95 (59, ls, [.int x], h) = some (some (.int x), h) := zrun_at rfl
-- 96 NineDown.fault
theorem zi96_0 {E : zE} {x : Nat} {ls sk : List Value} {h : zH} : zrun zpp E 96 (0, .ref x :: ls, sk, h) = zrun zpp E 96 (1, .ref x :: ls, .ref x :: sk, h) := zrun_at rfl
theorem zi96_0n {E : zE} {ls sk : List Value} {h : zH} : zrun zpp E 96 (0, .null :: ls, sk, h) = zrun zpp E 96 (1, .null :: ls, .null :: sk, h) := zrun_at rfl
theorem zi96_1 {E : zE} {x : Nat} {ls sk : List Value} {h : zH} : zrun zpp E 96 (1, ls, .ref x :: sk, h) = (zfld [10] h x 1).bind (fun v => zrun zpp E 96 (4, ls, v :: sk, h)) := zg_getf rfl
theorem zi96_4 {E : zE} {x : Nat} {ls sk : List Value} {h : zH} : zrun zpp E 96 (4, ls, .ref x :: sk, h) = (zfld [5] h x 2).bind (fun v => zrun zpp E 96 (7, ls, v :: sk, h)) := zg_getf rfl
theorem zi96_7 {E : zE} {x : Int32} {ls sk : List Value} {h : zH} : zrun zpp E 96 (7, ls, [.int x], h) = some (some (.int x), h) := zrun_at rfl
-- 97 NineDown.undo
theorem zi97_0 {E : zE} {x : Nat} {ls sk : List Value} {h : zH} : zrun zpp E 97 (0, .ref x :: ls, sk, h) = zrun zpp E 97 (1, .ref x :: ls, .ref x :: sk, h) := zrun_at rfl
theorem zi97_0n {E : zE} {ls sk : List Value} {h : zH} : zrun zpp E 97 (0, .null :: ls, sk, h) = zrun zpp E 97 (1, .null :: ls, .null :: sk, h) := zrun_at rfl
theorem zi97_1 {E : zE} {x : Nat} {ls sk : List Value} {h : zH} : zrun zpp E 97 (1, ls, .ref x :: sk, h) = (zfld [10] h x 3).bind (fun v => zrun zpp E 97 (4, ls, v :: sk, h)) := zg_getf rfl
theorem zi97_4 {E : zE} {x : Nat} {ls sk : List Value} {h : zH} : zrun zpp E 97 (4, .ref x :: ls, sk, h) = zrun zpp E 97 (5, .ref x :: ls, .ref x :: sk, h) := zrun_at rfl
theorem zi97_4n {E : zE} {ls sk : List Value} {h : zH} : zrun zpp E 97 (4, .null :: ls, sk, h) = zrun zpp E 97 (5, .null :: ls, .null :: sk, h) := zrun_at rfl
theorem zi97_5 {E : zE} {x : Nat} {ls sk : List Value} {h : zH} : zrun zpp E 97 (5, ls, .ref x :: sk, h) = (zfld [10] h x 7).bind (fun v => zrun zpp E 97 (8, ls, v :: sk, h)) := zg_getf rfl
theorem zi97_8 {E : zE} {a0 : Value} {x : Nat} {ls sk : List Value} {h : zH} : zrun zpp E 97 (8, ls, a0 :: .ref x :: sk, h) = (zcls h x).bind (fun d => (zsel d [0, 6]).bind (fun M' => zcl1 E 97 11 M' ls sk [.ref x, a0] h)) := zg_vir (as := [a0]) rfl rfl
theorem zi97_11 {E : zE} {x : Int32} {ls sk : List Value} {h : zH} : zrun zpp E 97 (11, ls, .int x :: sk, h) = if x = 0 then zrun zpp E 97 (24, ls, sk, h) else zrun zpp E 97 (14, ls, sk, h) := zrun_at rfl
theorem zi97_14 {E : zE} {x : Nat} {ls sk : List Value} {h : zH} : zrun zpp E 97 (14, .ref x :: ls, sk, h) = zrun zpp E 97 (15, .ref x :: ls, .ref x :: sk, h) := zrun_at rfl
theorem zi97_14n {E : zE} {ls sk : List Value} {h : zH} : zrun zpp E 97 (14, .null :: ls, sk, h) = zrun zpp E 97 (15, .null :: ls, .null :: sk, h) := zrun_at rfl
theorem zi97_15 {E : zE} {x : Nat} {ls sk : List Value} {h : zH} : zrun zpp E 97 (15, ls, .ref x :: sk, h) = (zfld [10] h x 3).bind (fun v => zrun zpp E 97 (18, ls, v :: sk, h)) := zg_getf rfl
theorem zi97_18 {E : zE} {x : Nat} {ls sk : List Value} {h : zH} : zrun zpp E 97 (18, ls, .ref x :: sk, h) = (zfld [0] h x 5).bind (fun v => zrun zpp E 97 (21, ls, v :: sk, h)) := zg_getf rfl
theorem zi97_21 {E : zE} {ls sk : List Value} {h : zH} : zrun zpp E 97 (21, ls, sk, h) = zrun zpp E 97 (26, ls, sk, h) := zrun_at rfl
theorem zi97_24 {E : zE} {ls sk : List Value} {h : zH} : zrun zpp E 97 (24, ls, sk, h) = zrun zpp E 97 (26, ls, .int (-1000002) :: sk, h) := zg_ldc rfl ci_m1000002
theorem zi97_26 {E : zE} {x : Int32} {ls sk : List Value} {h : zH} : zrun zpp E 97 (26, ls, [.int x], h) = some (some (.int x), h) := zrun_at rfl
-- 98 NineDown.lift
theorem zi98_0 {E : zE} {x : Nat} {ls sk : List Value} {h : zH} : zrun zpp E 98 (0, .ref x :: ls, sk, h) = zrun zpp E 98 (1, .ref x :: ls, .ref x :: sk, h) := zrun_at rfl
theorem zi98_0n {E : zE} {ls sk : List Value} {h : zH} : zrun zpp E 98 (0, .null :: ls, sk, h) = zrun zpp E 98 (1, .null :: ls, .null :: sk, h) := zrun_at rfl
theorem zi98_1 {E : zE} {x : Nat} {ls sk : List Value} {h : zH} : zrun zpp E 98 (1, ls, .ref x :: sk, h) = (zfld [10] h x 7).bind (fun v => zrun zpp E 98 (4, ls, v :: sk, h)) := zg_getf rfl
theorem zi98_4 {E : zE} {v0 : Value} {x : Int32} {ls sk : List Value} {h : zH} : zrun zpp E 98 (4, v0 :: .int x :: ls, sk, h) = zrun zpp E 98 (5, v0 :: .int x :: ls, .int x :: sk, h) := zrun_at rfl
theorem zi98_5 {E : zE} {a0 : Value} {x : Nat} {ls sk : List Value} {h : zH} : zrun zpp E 98 (5, ls, a0 :: .ref x :: sk, h) = (zcls h x).bind (fun d => (zsel d [9, 73]).bind (fun M' => zcl1 E 98 8 M' ls sk [.ref x, a0] h)) := zg_vir (as := [a0]) rfl rfl
theorem zi98_8 {E : zE} {x : Nat} {ls sk : List Value} {h : zH} : zrun zpp E 98 (8, ls, .ref x :: sk, h) = if zfree ls 3 = true then zrun zpp E 98 (9, ls.set 3 (.ref x), sk, h) else none := zg_astr rfl (fun _ _ _ => rfl)
theorem zi98_8n {E : zE} {ls sk : List Value} {h : zH} : zrun zpp E 98 (8, ls, .null :: sk, h) = if zfree ls 3 = true then zrun zpp E 98 (9, ls.set 3 .null, sk, h) else none := zg_astn rfl (fun _ _ _ => rfl)
theorem zi98_9 {E : zE} {v0 v1 v2 : Value} {x : Nat} {ls sk : List Value} {h : zH} : zrun zpp E 98 (9, v0 :: v1 :: v2 :: .ref x :: ls, sk, h) = zrun zpp E 98 (10, v0 :: v1 :: v2 :: .ref x :: ls, .ref x :: sk, h) := zrun_at rfl
theorem zi98_9n {E : zE} {v0 v1 v2 : Value} {ls sk : List Value} {h : zH} : zrun zpp E 98 (9, v0 :: v1 :: v2 :: .null :: ls, sk, h) = zrun zpp E 98 (10, v0 :: v1 :: v2 :: .null :: ls, .null :: sk, h) := zrun_at rfl
theorem zi98_10 {E : zE} {x : Nat} {ls sk : List Value} {h : zH} : zrun zpp E 98 (10, ls, .ref x :: sk, h) = zrun zpp E 98 (13, ls, sk, h) := zrun_at rfl
theorem zi98_10n {E : zE} {ls sk : List Value} {h : zH} : zrun zpp E 98 (10, ls, .null :: sk, h) = zrun zpp E 98 (24, ls, sk, h) := zrun_at rfl
theorem zi98_13 {E : zE} {x : Nat} {ls sk : List Value} {h : zH} : zrun zpp E 98 (13, .ref x :: ls, sk, h) = zrun zpp E 98 (14, .ref x :: ls, .ref x :: sk, h) := zrun_at rfl
theorem zi98_13n {E : zE} {ls sk : List Value} {h : zH} : zrun zpp E 98 (13, .null :: ls, sk, h) = zrun zpp E 98 (14, .null :: ls, .null :: sk, h) := zrun_at rfl
theorem zi98_14 {E : zE} {x : Nat} {ls sk : List Value} {h : zH} : zrun zpp E 98 (14, ls, .ref x :: sk, h) = (zfld [10] h x 7).bind (fun v => zrun zpp E 98 (17, ls, v :: sk, h)) := zg_getf rfl
theorem zi98_17 {E : zE} {v0 v1 : Value} {x : Int32} {ls sk : List Value} {h : zH} : zrun zpp E 98 (17, v0 :: v1 :: .int x :: ls, sk, h) = zrun zpp E 98 (18, v0 :: v1 :: .int x :: ls, .int x :: sk, h) := zrun_at rfl
theorem zi98_18 {E : zE} {a0 : Value} {x : Nat} {ls sk : List Value} {h : zH} : zrun zpp E 98 (18, ls, a0 :: .ref x :: sk, h) = (zcls h x).bind (fun d => (zsel d [9, 71]).bind (fun M' => zcl1 E 98 21 M' ls sk [.ref x, a0] h)) := zg_vir (as := [a0]) rfl rfl
theorem zi98_21 {E : zE} {x : Int32} {ls sk : List Value} {h : zH} : zrun zpp E 98 (21, ls, .int x :: sk, h) = if x = 0 then zrun zpp E 98 (24, ls, sk, h) else zrun zpp E 98 (27, ls, sk, h) := zrun_at rfl
theorem zi98_24 {E : zE} {ls sk : List Value} {h : zH} : zrun zpp E 98 (24, ls, sk, h) = zrun zpp E 98 (26, ls, .int (-1000001) :: sk, h) := zg_ldc rfl ci_m1000001
theorem zi98_26 {E : zE} {x : Int32} {ls sk : List Value} {h : zH} : zrun zpp E 98 (26, ls, [.int x], h) = some (some (.int x), h) := zrun_at rfl
theorem zi98_27 {E : zE} {x : Nat} {ls sk : List Value} {h : zH} : zrun zpp E 98 (27, .ref x :: ls, sk, h) = zrun zpp E 98 (28, .ref x :: ls, .ref x :: sk, h) := zrun_at rfl
theorem zi98_27n {E : zE} {ls sk : List Value} {h : zH} : zrun zpp E 98 (27, .null :: ls, sk, h) = zrun zpp E 98 (28, .null :: ls, .null :: sk, h) := zrun_at rfl
theorem zi98_28 {E : zE} {x : Nat} {ls sk : List Value} {h : zH} : zrun zpp E 98 (28, ls, .ref x :: sk, h) = (zfld [10] h x 7).bind (fun v => zrun zpp E 98 (31, ls, v :: sk, h)) := zg_getf rfl
theorem zi98_31 {E : zE} {x : Nat} {ls sk : List Value} {h : zH} : zrun zpp E 98 (31, ls, .ref x :: sk, h) = (zfld [9] h x 17).bind (fun v => zrun zpp E 98 (34, ls, v :: sk, h)) := zg_getf rfl
theorem zi98_34 {E : zE} {x : Int32} {ls sk : List Value} {h : zH} : zrun zpp E 98 (34, ls, .int x :: sk, h) = if zfree ls 4 = true then zrun zpp E 98 (36, ls.set 4 (.int x), sk, h) else none := zg_ist rfl (fun _ _ _ => rfl)
theorem zi98_36 {E : zE} {x : Nat} {ls sk : List Value} {h : zH} : zrun zpp E 98 (36, .ref x :: ls, sk, h) = zrun zpp E 98 (37, .ref x :: ls, .ref x :: sk, h) := zrun_at rfl
theorem zi98_36n {E : zE} {ls sk : List Value} {h : zH} : zrun zpp E 98 (36, .null :: ls, sk, h) = zrun zpp E 98 (37, .null :: ls, .null :: sk, h) := zrun_at rfl
theorem zi98_37 {E : zE} {x : Nat} {ls sk : List Value} {h : zH} : zrun zpp E 98 (37, ls, .ref x :: sk, h) = (zfld [10] h x 7).bind (fun v => zrun zpp E 98 (40, ls, v :: sk, h)) := zg_getf rfl
theorem zi98_40 {E : zE} {v0 v1 v2 : Value} {x : Nat} {ls sk : List Value} {h : zH} : zrun zpp E 98 (40, v0 :: v1 :: v2 :: .ref x :: ls, sk, h) = zrun zpp E 98 (41, v0 :: v1 :: v2 :: .ref x :: ls, .ref x :: sk, h) := zrun_at rfl
theorem zi98_40n {E : zE} {v0 v1 v2 : Value} {ls sk : List Value} {h : zH} : zrun zpp E 98 (40, v0 :: v1 :: v2 :: .null :: ls, sk, h) = zrun zpp E 98 (41, v0 :: v1 :: v2 :: .null :: ls, .null :: sk, h) := zrun_at rfl
theorem zi98_41 {E : zE} {v0 v1 : Value} {x : Int32} {ls sk : List Value} {h : zH} : zrun zpp E 98 (41, v0 :: v1 :: .int x :: ls, sk, h) = zrun zpp E 98 (42, v0 :: v1 :: .int x :: ls, .int x :: sk, h) := zrun_at rfl
theorem zi98_42 {E : zE} {a0 a1 : Value} {x : Nat} {ls sk : List Value} {h : zH} : zrun zpp E 98 (42, ls, a1 :: a0 :: .ref x :: sk, h) = (zcls h x).bind (fun d => (zsel d [9, 81]).bind (fun M' => zcl1 E 98 45 M' ls sk [.ref x, a0, a1] h)) := zg_vir (as := [a0, a1]) rfl rfl
theorem zi98_45 {E : zE} {x : Int32} {ls sk : List Value} {h : zH} : zrun zpp E 98 (45, ls, .int x :: sk, h) = if zfree ls 5 = true then zrun zpp E 98 (47, ls.set 5 (.int x), sk, h) else none := zg_ist rfl (fun _ _ _ => rfl)
theorem zi98_47 {E : zE} {v0 v1 v2 v3 v4 : Value} {x : Int32} {ls sk : List Value} {h : zH} : zrun zpp E 98 (47, v0 :: v1 :: v2 :: v3 :: v4 :: .int x :: ls, sk, h) = zrun zpp E 98 (49, v0 :: v1 :: v2 :: v3 :: v4 :: .int x :: ls, .int x :: sk, h) := zrun_at rfl
theorem zi98_49 {E : zE} {ls sk : List Value} {h : zH} : zrun zpp E 98 (49, ls, sk, h) = zrun zpp E 98 (51, ls, .int (-1000000) :: sk, h) := zg_ldc rfl ci_m1000000
theorem zi98_51 {E : zE} {x y : Int32} {ls sk : List Value} {h : zH} : zrun zpp E 98 (51, ls, .int y :: .int x :: sk, h) = if x = y then zrun zpp E 98 (54, ls, sk, h) else zrun zpp E 98 (57, ls, sk, h) := zrun_at rfl
theorem zi98_54 {E : zE} {ls sk : List Value} {h : zH} : zrun zpp E 98 (54, ls, sk, h) = zrun zpp E 98 (56, ls, .int (-1000002) :: sk, h) := zg_ldc rfl ci_m1000002
theorem zi98_56 {E : zE} {x : Int32} {ls sk : List Value} {h : zH} : zrun zpp E 98 (56, ls, [.int x], h) = some (some (.int x), h) := zrun_at rfl
theorem zi98_57 {E : zE} {x : Nat} {ls sk : List Value} {h : zH} : zrun zpp E 98 (57, .ref x :: ls, sk, h) = zrun zpp E 98 (58, .ref x :: ls, .ref x :: sk, h) := zrun_at rfl
theorem zi98_57n {E : zE} {ls sk : List Value} {h : zH} : zrun zpp E 98 (57, .null :: ls, sk, h) = zrun zpp E 98 (58, .null :: ls, .null :: sk, h) := zrun_at rfl
theorem zi98_58 {E : zE} {x : Nat} {ls sk : List Value} {h : zH} : zrun zpp E 98 (58, ls, .ref x :: sk, h) = (zfld [10] h x 3).bind (fun v => zrun zpp E 98 (61, ls, v :: sk, h)) := zg_getf rfl
theorem zi98_61 {E : zE} {ls sk : List Value} {h : zH} : zrun zpp E 98 (61, ls, sk, h) = zrun zpp E 98 (62, ls, .int 0 :: sk, h) := zg_iconst rfl ci_0
theorem zi98_62 {E : zE} {v0 v1 : Value} {x : Int32} {ls sk : List Value} {h : zH} : zrun zpp E 98 (62, v0 :: v1 :: .int x :: ls, sk, h) = zrun zpp E 98 (63, v0 :: v1 :: .int x :: ls, .int x :: sk, h) := zrun_at rfl
theorem zi98_63 {E : zE} {v0 v1 v2 v3 v4 : Value} {x : Int32} {ls sk : List Value} {h : zH} : zrun zpp E 98 (63, v0 :: v1 :: v2 :: v3 :: v4 :: .int x :: ls, sk, h) = zrun zpp E 98 (65, v0 :: v1 :: v2 :: v3 :: v4 :: .int x :: ls, .int x :: sk, h) := zrun_at rfl
theorem zi98_65 {E : zE} {x : Nat} {ls sk : List Value} {h : zH} : zrun zpp E 98 (65, .ref x :: ls, sk, h) = zrun zpp E 98 (66, .ref x :: ls, .ref x :: sk, h) := zrun_at rfl
theorem zi98_65n {E : zE} {ls sk : List Value} {h : zH} : zrun zpp E 98 (65, .null :: ls, sk, h) = zrun zpp E 98 (66, .null :: ls, .null :: sk, h) := zrun_at rfl
theorem zi98_66 {E : zE} {x : Nat} {ls sk : List Value} {h : zH} : zrun zpp E 98 (66, ls, .ref x :: sk, h) = (zfld [10] h x 7).bind (fun v => zrun zpp E 98 (69, ls, v :: sk, h)) := zg_getf rfl
theorem zi98_69 {E : zE} {x : Nat} {ls sk : List Value} {h : zH} : zrun zpp E 98 (69, ls, .ref x :: sk, h) = (zfld [9] h x 17).bind (fun v => zrun zpp E 98 (72, ls, v :: sk, h)) := zg_getf rfl
theorem zi98_72 {E : zE} {v0 v1 v2 v3 : Value} {x : Int32} {ls sk : List Value} {h : zH} : zrun zpp E 98 (72, v0 :: v1 :: v2 :: v3 :: .int x :: ls, sk, h) = zrun zpp E 98 (74, v0 :: v1 :: v2 :: v3 :: .int x :: ls, .int x :: sk, h) := zrun_at rfl
theorem zi98_74 {E : zE} {x y : Int32} {ls sk : List Value} {h : zH} : zrun zpp E 98 (74, ls, .int y :: .int x :: sk, h) = zrun zpp E 98 (75, ls, .int (x - y) :: sk, h) := zrun_at rfl
theorem zi98_75 {E : zE} {a0 a1 a2 a3 : Value} {x : Nat} {ls sk : List Value} {h : zH} : zrun zpp E 98 (75, ls, a3 :: a2 :: a1 :: a0 :: .ref x :: sk, h) = (zcls h x).bind (fun d => (zsel d [0, 3]).bind (fun M' => zcl1 E 98 78 M' ls sk [.ref x, a0, a1, a2, a3] h)) := zg_vir (as := [a0, a1, a2, a3]) rfl rfl
theorem zi98_78 {E : zE} {v0 v1 v2 v3 v4 : Value} {x : Int32} {ls sk : List Value} {h : zH} : zrun zpp E 98 (78, v0 :: v1 :: v2 :: v3 :: v4 :: .int x :: ls, sk, h) = zrun zpp E 98 (80, v0 :: v1 :: v2 :: v3 :: v4 :: .int x :: ls, .int x :: sk, h) := zrun_at rfl
theorem zi98_80 {E : zE} {x : Int32} {ls sk : List Value} {h : zH} : zrun zpp E 98 (80, ls, [.int x], h) = some (some (.int x), h) := zrun_at rfl
-- 99 NineDown.loosen
theorem zi99_0 {E : zE} {x : Nat} {ls sk : List Value} {h : zH} : zrun zpp E 99 (0, .ref x :: ls, sk, h) = zrun zpp E 99 (1, .ref x :: ls, .ref x :: sk, h) := zrun_at rfl
theorem zi99_0n {E : zE} {ls sk : List Value} {h : zH} : zrun zpp E 99 (0, .null :: ls, sk, h) = zrun zpp E 99 (1, .null :: ls, .null :: sk, h) := zrun_at rfl
theorem zi99_1 {E : zE} {x : Nat} {ls sk : List Value} {h : zH} : zrun zpp E 99 (1, ls, .ref x :: sk, h) = (zfld [10] h x 7).bind (fun v => zrun zpp E 99 (4, ls, v :: sk, h)) := zg_getf rfl
theorem zi99_4 {E : zE} {v0 : Value} {x : Int32} {ls sk : List Value} {h : zH} : zrun zpp E 99 (4, v0 :: .int x :: ls, sk, h) = zrun zpp E 99 (5, v0 :: .int x :: ls, .int x :: sk, h) := zrun_at rfl
theorem zi99_5 {E : zE} {a0 : Value} {x : Nat} {ls sk : List Value} {h : zH} : zrun zpp E 99 (5, ls, a0 :: .ref x :: sk, h) = (zcls h x).bind (fun d => (zsel d [9, 72]).bind (fun M' => zcl1 E 99 8 M' ls sk [.ref x, a0] h)) := zg_vir (as := [a0]) rfl rfl
theorem zi99_8 {E : zE} {x : Int32} {ls sk : List Value} {h : zH} : zrun zpp E 99 (8, ls, .int x :: sk, h) = if x = 0 then zrun zpp E 99 (11, ls, sk, h) else zrun zpp E 99 (14, ls, sk, h) := zrun_at rfl
theorem zi99_11 {E : zE} {ls sk : List Value} {h : zH} : zrun zpp E 99 (11, ls, sk, h) = zrun zpp E 99 (13, ls, .int (-1000001) :: sk, h) := zg_ldc rfl ci_m1000001
theorem zi99_13 {E : zE} {x : Int32} {ls sk : List Value} {h : zH} : zrun zpp E 99 (13, ls, [.int x], h) = some (some (.int x), h) := zrun_at rfl
theorem zi99_14 {E : zE} {x : Nat} {ls sk : List Value} {h : zH} : zrun zpp E 99 (14, .ref x :: ls, sk, h) = zrun zpp E 99 (15, .ref x :: ls, .ref x :: sk, h) := zrun_at rfl
theorem zi99_14n {E : zE} {ls sk : List Value} {h : zH} : zrun zpp E 99 (14, .null :: ls, sk, h) = zrun zpp E 99 (15, .null :: ls, .null :: sk, h) := zrun_at rfl
theorem zi99_15 {E : zE} {x : Nat} {ls sk : List Value} {h : zH} : zrun zpp E 99 (15, ls, .ref x :: sk, h) = (zfld [10] h x 7).bind (fun v => zrun zpp E 99 (18, ls, v :: sk, h)) := zg_getf rfl
theorem zi99_18 {E : zE} {x : Nat} {ls sk : List Value} {h : zH} : zrun zpp E 99 (18, ls, .ref x :: sk, h) = (zfld [9] h x 10).bind (fun v => zrun zpp E 99 (21, ls, v :: sk, h)) := zg_getf rfl
theorem zi99_21 {E : zE} {v0 : Value} {x : Int32} {ls sk : List Value} {h : zH} : zrun zpp E 99 (21, v0 :: .int x :: ls, sk, h) = zrun zpp E 99 (22, v0 :: .int x :: ls, .int x :: sk, h) := zrun_at rfl
theorem zi99_22 {E : zE} {x : Nat} {i : Int32} {ls sk : List Value} {h : zH} : zrun zpp E 99 (22, ls, .int i :: .ref x :: sk, h) = (zarr 0 h x i).bind (fun v => zrun zpp E 99 (23, ls, .int v :: sk, h)) := zg_iald rfl
theorem zi99_23 {E : zE} {ls sk : List Value} {h : zH} : zrun zpp E 99 (23, ls, sk, h) = zrun zpp E 99 (24, ls, .int 1 :: sk, h) := zg_iconst rfl ci_1
theorem zi99_24 {E : zE} {x y : Int32} {ls sk : List Value} {h : zH} : zrun zpp E 99 (24, ls, .int y :: .int x :: sk, h) = if x = y then zrun zpp E 99 (27, ls, sk, h) else zrun zpp E 99 (38, ls, sk, h) := zrun_at rfl
theorem zi99_27 {E : zE} {x : Nat} {ls sk : List Value} {h : zH} : zrun zpp E 99 (27, .ref x :: ls, sk, h) = zrun zpp E 99 (28, .ref x :: ls, .ref x :: sk, h) := zrun_at rfl
theorem zi99_27n {E : zE} {ls sk : List Value} {h : zH} : zrun zpp E 99 (27, .null :: ls, sk, h) = zrun zpp E 99 (28, .null :: ls, .null :: sk, h) := zrun_at rfl
theorem zi99_28 {E : zE} {x : Nat} {ls sk : List Value} {h : zH} : zrun zpp E 99 (28, ls, .ref x :: sk, h) = (zfld [10] h x 7).bind (fun v => zrun zpp E 99 (31, ls, v :: sk, h)) := zg_getf rfl
theorem zi99_31 {E : zE} {v0 : Value} {x : Int32} {ls sk : List Value} {h : zH} : zrun zpp E 99 (31, v0 :: .int x :: ls, sk, h) = zrun zpp E 99 (32, v0 :: .int x :: ls, .int x :: sk, h) := zrun_at rfl
theorem zi99_32 {E : zE} {a0 : Value} {x : Nat} {ls sk : List Value} {h : zH} : zrun zpp E 99 (32, ls, a0 :: .ref x :: sk, h) = (zcls h x).bind (fun d => (zsel d [9, 75]).bind (fun M' => zcl1 E 99 35 M' ls sk [.ref x, a0] h)) := zg_vir (as := [a0]) rfl rfl
theorem zi99_35 {E : zE} {x : Int32} {ls sk : List Value} {h : zH} : zrun zpp E 99 (35, ls, .int x :: sk, h) = if x = 0 then zrun zpp E 99 (41, ls, sk, h) else zrun zpp E 99 (38, ls, sk, h) := zrun_at rfl
theorem zi99_38 {E : zE} {ls sk : List Value} {h : zH} : zrun zpp E 99 (38, ls, sk, h) = zrun zpp E 99 (40, ls, .int (-1000002) :: sk, h) := zg_ldc rfl ci_m1000002
theorem zi99_40 {E : zE} {x : Int32} {ls sk : List Value} {h : zH} : zrun zpp E 99 (40, ls, [.int x], h) = some (some (.int x), h) := zrun_at rfl
theorem zi99_41 {E : zE} {x : Nat} {ls sk : List Value} {h : zH} : zrun zpp E 99 (41, .ref x :: ls, sk, h) = zrun zpp E 99 (42, .ref x :: ls, .ref x :: sk, h) := zrun_at rfl
theorem zi99_41n {E : zE} {ls sk : List Value} {h : zH} : zrun zpp E 99 (41, .null :: ls, sk, h) = zrun zpp E 99 (42, .null :: ls, .null :: sk, h) := zrun_at rfl
theorem zi99_42 {E : zE} {x : Nat} {ls sk : List Value} {h : zH} : zrun zpp E 99 (42, ls, .ref x :: sk, h) = (zfld [10] h x 7).bind (fun v => zrun zpp E 99 (45, ls, v :: sk, h)) := zg_getf rfl
theorem zi99_45 {E : zE} {v0 : Value} {x : Int32} {ls sk : List Value} {h : zH} : zrun zpp E 99 (45, v0 :: .int x :: ls, sk, h) = zrun zpp E 99 (46, v0 :: .int x :: ls, .int x :: sk, h) := zrun_at rfl
theorem zi99_46 {E : zE} {a0 : Value} {x : Nat} {ls sk : List Value} {h : zH} : zrun zpp E 99 (46, ls, a0 :: .ref x :: sk, h) = (zcls h x).bind (fun d => (zsel d [9, 76]).bind (fun M' => zcl1 E 99 49 M' ls sk [.ref x, a0] h)) := zg_vir (as := [a0]) rfl rfl
theorem zi99_49 {E : zE} {x : Nat} {ls sk : List Value} {h : zH} : zrun zpp E 99 (49, .ref x :: ls, sk, h) = zrun zpp E 99 (50, .ref x :: ls, .ref x :: sk, h) := zrun_at rfl
theorem zi99_49n {E : zE} {ls sk : List Value} {h : zH} : zrun zpp E 99 (49, .null :: ls, sk, h) = zrun zpp E 99 (50, .null :: ls, .null :: sk, h) := zrun_at rfl
theorem zi99_50 {E : zE} {x : Nat} {ls sk : List Value} {h : zH} : zrun zpp E 99 (50, ls, .ref x :: sk, h) = (zfld [10] h x 7).bind (fun v => zrun zpp E 99 (53, ls, v :: sk, h)) := zg_getf rfl
theorem zi99_53 {E : zE} {x : Nat} {ls sk : List Value} {h : zH} : zrun zpp E 99 (53, ls, .ref x :: sk, h) = zrun zpp E 99 (54, ls, .ref x :: .ref x :: sk, h) := zrun_at rfl
theorem zi99_53i {E : zE} {x : Int32} {ls sk : List Value} {h : zH} : zrun zpp E 99 (53, ls, .int x :: sk, h) = zrun zpp E 99 (54, ls, .int x :: .int x :: sk, h) := zrun_at rfl
theorem zi99_54 {E : zE} {x : Nat} {ls sk : List Value} {h : zH} : zrun zpp E 99 (54, ls, .ref x :: sk, h) = (zfld [9] h x 16).bind (fun v => zrun zpp E 99 (57, ls, v :: sk, h)) := zg_getf rfl
theorem zi99_57 {E : zE} {x : Nat} {ls sk : List Value} {h : zH} : zrun zpp E 99 (57, .ref x :: ls, sk, h) = zrun zpp E 99 (58, .ref x :: ls, .ref x :: sk, h) := zrun_at rfl
theorem zi99_57n {E : zE} {ls sk : List Value} {h : zH} : zrun zpp E 99 (57, .null :: ls, sk, h) = zrun zpp E 99 (58, .null :: ls, .null :: sk, h) := zrun_at rfl
theorem zi99_58 {E : zE} {x : Nat} {ls sk : List Value} {h : zH} : zrun zpp E 99 (58, ls, .ref x :: sk, h) = (zfld [10] h x 7).bind (fun v => zrun zpp E 99 (61, ls, v :: sk, h)) := zg_getf rfl
theorem zi99_61 {E : zE} {x : Nat} {ls sk : List Value} {h : zH} : zrun zpp E 99 (61, ls, .ref x :: sk, h) = (zfld [9] h x 1).bind (fun v => zrun zpp E 99 (64, ls, v :: sk, h)) := zg_getf rfl
theorem zi99_64 {E : zE} {x y : Int32} {ls sk : List Value} {h : zH} : zrun zpp E 99 (64, ls, .int y :: .int x :: sk, h) = zrun zpp E 99 (65, ls, .int (x + y) :: sk, h) := zrun_at rfl
theorem zi99_65 {E : zE} {x : Nat} {v : Value} {ls sk : List Value} {h : zH} : zrun zpp E 99 (65, ls, v :: .ref x :: sk, h) = (zstf [9] 0 h x 16 v).bind (fun h' => zrun zpp E 99 (68, ls, sk, h')) := zg_putf rfl
theorem zi99_68 {E : zE} {x : Nat} {ls sk : List Value} {h : zH} : zrun zpp E 99 (68, .ref x :: ls, sk, h) = zrun zpp E 99 (69, .ref x :: ls, .ref x :: sk, h) := zrun_at rfl
theorem zi99_68n {E : zE} {ls sk : List Value} {h : zH} : zrun zpp E 99 (68, .null :: ls, sk, h) = zrun zpp E 99 (69, .null :: ls, .null :: sk, h) := zrun_at rfl
theorem zi99_69 {E : zE} {x : Nat} {ls sk : List Value} {h : zH} : zrun zpp E 99 (69, ls, .ref x :: sk, h) = (zfld [10] h x 3).bind (fun v => zrun zpp E 99 (72, ls, v :: sk, h)) := zg_getf rfl
theorem zi99_72 {E : zE} {ls sk : List Value} {h : zH} : zrun zpp E 99 (72, ls, sk, h) = zrun zpp E 99 (73, ls, .int 1 :: sk, h) := zg_iconst rfl ci_1
theorem zi99_73 {E : zE} {v0 : Value} {x : Int32} {ls sk : List Value} {h : zH} : zrun zpp E 99 (73, v0 :: .int x :: ls, sk, h) = zrun zpp E 99 (74, v0 :: .int x :: ls, .int x :: sk, h) := zrun_at rfl
theorem zi99_74 {E : zE} {x : Nat} {ls sk : List Value} {h : zH} : zrun zpp E 99 (74, .ref x :: ls, sk, h) = zrun zpp E 99 (75, .ref x :: ls, .ref x :: sk, h) := zrun_at rfl
theorem zi99_74n {E : zE} {ls sk : List Value} {h : zH} : zrun zpp E 99 (74, .null :: ls, sk, h) = zrun zpp E 99 (75, .null :: ls, .null :: sk, h) := zrun_at rfl
theorem zi99_75 {E : zE} {x : Nat} {ls sk : List Value} {h : zH} : zrun zpp E 99 (75, ls, .ref x :: sk, h) = (zfld [10] h x 7).bind (fun v => zrun zpp E 99 (78, ls, v :: sk, h)) := zg_getf rfl
theorem zi99_78 {E : zE} {x : Nat} {ls sk : List Value} {h : zH} : zrun zpp E 99 (78, ls, .ref x :: sk, h) = (zfld [9] h x 1).bind (fun v => zrun zpp E 99 (81, ls, v :: sk, h)) := zg_getf rfl
theorem zi99_81 {E : zE} {ls sk : List Value} {h : zH} : zrun zpp E 99 (81, ls, sk, h) = zrun zpp E 99 (82, ls, .int 0 :: sk, h) := zg_iconst rfl ci_0
theorem zi99_82 {E : zE} {a0 a1 a2 a3 : Value} {x : Nat} {ls sk : List Value} {h : zH} : zrun zpp E 99 (82, ls, a3 :: a2 :: a1 :: a0 :: .ref x :: sk, h) = (zcls h x).bind (fun d => (zsel d [0, 3]).bind (fun M' => zcl1 E 99 85 M' ls sk [.ref x, a0, a1, a2, a3] h)) := zg_vir (as := [a0, a1, a2, a3]) rfl rfl
theorem zi99_85 {E : zE} {x : Nat} {ls sk : List Value} {h : zH} : zrun zpp E 99 (85, .ref x :: ls, sk, h) = zrun zpp E 99 (86, .ref x :: ls, .ref x :: sk, h) := zrun_at rfl
theorem zi99_85n {E : zE} {ls sk : List Value} {h : zH} : zrun zpp E 99 (85, .null :: ls, sk, h) = zrun zpp E 99 (86, .null :: ls, .null :: sk, h) := zrun_at rfl
theorem zi99_86 {E : zE} {x : Nat} {ls sk : List Value} {h : zH} : zrun zpp E 99 (86, ls, .ref x :: sk, h) = (zfld [10] h x 7).bind (fun v => zrun zpp E 99 (89, ls, v :: sk, h)) := zg_getf rfl
theorem zi99_89 {E : zE} {x : Nat} {ls sk : List Value} {h : zH} : zrun zpp E 99 (89, ls, .ref x :: sk, h) = (zfld [9] h x 16).bind (fun v => zrun zpp E 99 (92, ls, v :: sk, h)) := zg_getf rfl
theorem zi99_92 {E : zE} {x : Int32} {ls sk : List Value} {h : zH} : zrun zpp E 99 (92, ls, [.int x], h) = some (some (.int x), h) := zrun_at rfl
-- 100 NineDown.fall
theorem zi100_0 {E : zE} {x : Nat} {ls sk : List Value} {h : zH} : zrun zpp E 100 (0, .ref x :: ls, sk, h) = zrun zpp E 100 (1, .ref x :: ls, .ref x :: sk, h) := zrun_at rfl
theorem zi100_0n {E : zE} {ls sk : List Value} {h : zH} : zrun zpp E 100 (0, .null :: ls, sk, h) = zrun zpp E 100 (1, .null :: ls, .null :: sk, h) := zrun_at rfl
theorem zi100_1 {E : zE} {x : Nat} {ls sk : List Value} {h : zH} : zrun zpp E 100 (1, ls, .ref x :: sk, h) = (zfld [10] h x 7).bind (fun v => zrun zpp E 100 (4, ls, v :: sk, h)) := zg_getf rfl
theorem zi100_4 {E : zE} {v0 : Value} {x : Int32} {ls sk : List Value} {h : zH} : zrun zpp E 100 (4, v0 :: .int x :: ls, sk, h) = zrun zpp E 100 (5, v0 :: .int x :: ls, .int x :: sk, h) := zrun_at rfl
theorem zi100_5 {E : zE} {a0 : Value} {x : Nat} {ls sk : List Value} {h : zH} : zrun zpp E 100 (5, ls, a0 :: .ref x :: sk, h) = (zcls h x).bind (fun d => (zsel d [9, 71]).bind (fun M' => zcl1 E 100 8 M' ls sk [.ref x, a0] h)) := zg_vir (as := [a0]) rfl rfl
theorem zi100_8 {E : zE} {x : Int32} {ls sk : List Value} {h : zH} : zrun zpp E 100 (8, ls, .int x :: sk, h) = if x = 0 then zrun zpp E 100 (11, ls, sk, h) else zrun zpp E 100 (14, ls, sk, h) := zrun_at rfl
theorem zi100_11 {E : zE} {ls sk : List Value} {h : zH} : zrun zpp E 100 (11, ls, sk, h) = zrun zpp E 100 (13, ls, .int (-1000001) :: sk, h) := zg_ldc rfl ci_m1000001
theorem zi100_13 {E : zE} {x : Int32} {ls sk : List Value} {h : zH} : zrun zpp E 100 (13, ls, [.int x], h) = some (some (.int x), h) := zrun_at rfl
theorem zi100_14 {E : zE} {x : Nat} {ls sk : List Value} {h : zH} : zrun zpp E 100 (14, .ref x :: ls, sk, h) = zrun zpp E 100 (15, .ref x :: ls, .ref x :: sk, h) := zrun_at rfl
theorem zi100_14n {E : zE} {ls sk : List Value} {h : zH} : zrun zpp E 100 (14, .null :: ls, sk, h) = zrun zpp E 100 (15, .null :: ls, .null :: sk, h) := zrun_at rfl
theorem zi100_15 {E : zE} {x : Nat} {ls sk : List Value} {h : zH} : zrun zpp E 100 (15, ls, .ref x :: sk, h) = (zfld [10] h x 7).bind (fun v => zrun zpp E 100 (18, ls, v :: sk, h)) := zg_getf rfl
theorem zi100_18 {E : zE} {v0 : Value} {x : Int32} {ls sk : List Value} {h : zH} : zrun zpp E 100 (18, v0 :: .int x :: ls, sk, h) = zrun zpp E 100 (19, v0 :: .int x :: ls, .int x :: sk, h) := zrun_at rfl
theorem zi100_19 {E : zE} {a0 : Value} {x : Nat} {ls sk : List Value} {h : zH} : zrun zpp E 100 (19, ls, a0 :: .ref x :: sk, h) = (zcls h x).bind (fun d => (zsel d [9, 82]).bind (fun M' => zcl1 E 100 22 M' ls sk [.ref x, a0] h)) := zg_vir (as := [a0]) rfl rfl
theorem zi100_22 {E : zE} {x : Int32} {ls sk : List Value} {h : zH} : zrun zpp E 100 (22, ls, .int x :: sk, h) = if x = 0 then zrun zpp E 100 (25, ls, sk, h) else zrun zpp E 100 (28, ls, sk, h) := zrun_at rfl
theorem zi100_25 {E : zE} {ls sk : List Value} {h : zH} : zrun zpp E 100 (25, ls, sk, h) = zrun zpp E 100 (27, ls, .int (-1000002) :: sk, h) := zg_ldc rfl ci_m1000002
theorem zi100_27 {E : zE} {x : Int32} {ls sk : List Value} {h : zH} : zrun zpp E 100 (27, ls, [.int x], h) = some (some (.int x), h) := zrun_at rfl
theorem zi100_28 {E : zE} {x : Nat} {ls sk : List Value} {h : zH} : zrun zpp E 100 (28, .ref x :: ls, sk, h) = zrun zpp E 100 (29, .ref x :: ls, .ref x :: sk, h) := zrun_at rfl
theorem zi100_28n {E : zE} {ls sk : List Value} {h : zH} : zrun zpp E 100 (28, .null :: ls, sk, h) = zrun zpp E 100 (29, .null :: ls, .null :: sk, h) := zrun_at rfl
theorem zi100_29 {E : zE} {x : Nat} {ls sk : List Value} {h : zH} : zrun zpp E 100 (29, ls, .ref x :: sk, h) = (zfld [10] h x 3).bind (fun v => zrun zpp E 100 (32, ls, v :: sk, h)) := zg_getf rfl
theorem zi100_32 {E : zE} {ls sk : List Value} {h : zH} : zrun zpp E 100 (32, ls, sk, h) = zrun zpp E 100 (33, ls, .int 2 :: sk, h) := zg_iconst rfl ci_2
theorem zi100_33 {E : zE} {v0 : Value} {x : Int32} {ls sk : List Value} {h : zH} : zrun zpp E 100 (33, v0 :: .int x :: ls, sk, h) = zrun zpp E 100 (34, v0 :: .int x :: ls, .int x :: sk, h) := zrun_at rfl
theorem zi100_34 {E : zE} {ls sk : List Value} {h : zH} : zrun zpp E 100 (34, ls, sk, h) = zrun zpp E 100 (35, ls, .int 0 :: sk, h) := zg_iconst rfl ci_0
theorem zi100_35 {E : zE} {ls sk : List Value} {h : zH} : zrun zpp E 100 (35, ls, sk, h) = zrun zpp E 100 (36, ls, .int 1 :: sk, h) := zg_iconst rfl ci_1
theorem zi100_36 {E : zE} {a0 a1 a2 a3 : Value} {x : Nat} {ls sk : List Value} {h : zH} : zrun zpp E 100 (36, ls, a3 :: a2 :: a1 :: a0 :: .ref x :: sk, h) = (zcls h x).bind (fun d => (zsel d [0, 3]).bind (fun M' => zcl1 E 100 39 M' ls sk [.ref x, a0, a1, a2, a3] h)) := zg_vir (as := [a0, a1, a2, a3]) rfl rfl
theorem zi100_39 {E : zE} {x : Nat} {ls sk : List Value} {h : zH} : zrun zpp E 100 (39, .ref x :: ls, sk, h) = zrun zpp E 100 (40, .ref x :: ls, .ref x :: sk, h) := zrun_at rfl
theorem zi100_39n {E : zE} {ls sk : List Value} {h : zH} : zrun zpp E 100 (39, .null :: ls, sk, h) = zrun zpp E 100 (40, .null :: ls, .null :: sk, h) := zrun_at rfl
theorem zi100_40 {E : zE} {x : Nat} {ls sk : List Value} {h : zH} : zrun zpp E 100 (40, ls, .ref x :: sk, h) = (zfld [10] h x 7).bind (fun v => zrun zpp E 100 (43, ls, v :: sk, h)) := zg_getf rfl
theorem zi100_43 {E : zE} {x : Nat} {ls sk : List Value} {h : zH} : zrun zpp E 100 (43, ls, .ref x :: sk, h) = (zfld [9] h x 17).bind (fun v => zrun zpp E 100 (46, ls, v :: sk, h)) := zg_getf rfl
theorem zi100_46 {E : zE} {x : Int32} {ls sk : List Value} {h : zH} : zrun zpp E 100 (46, ls, [.int x], h) = some (some (.int x), h) := zrun_at rfl
-- 101 NineDown.space
theorem zi101_0 {E : zE} {x : Nat} {ls sk : List Value} {h : zH} : zrun zpp E 101 (0, .ref x :: ls, sk, h) = zrun zpp E 101 (1, .ref x :: ls, .ref x :: sk, h) := zrun_at rfl
theorem zi101_0n {E : zE} {ls sk : List Value} {h : zH} : zrun zpp E 101 (0, .null :: ls, sk, h) = zrun zpp E 101 (1, .null :: ls, .null :: sk, h) := zrun_at rfl
theorem zi101_1 {E : zE} {x : Nat} {ls sk : List Value} {h : zH} : zrun zpp E 101 (1, ls, .ref x :: sk, h) = (zfld [10] h x 7).bind (fun v => zrun zpp E 101 (4, ls, v :: sk, h)) := zg_getf rfl
theorem zi101_4 {E : zE} {v0 : Value} {x : Int32} {ls sk : List Value} {h : zH} : zrun zpp E 101 (4, v0 :: .int x :: ls, sk, h) = zrun zpp E 101 (5, v0 :: .int x :: ls, .int x :: sk, h) := zrun_at rfl
theorem zi101_5 {E : zE} {a0 : Value} {x : Nat} {ls sk : List Value} {h : zH} : zrun zpp E 101 (5, ls, a0 :: .ref x :: sk, h) = (zcls h x).bind (fun d => (zsel d [9, 71]).bind (fun M' => zcl1 E 101 8 M' ls sk [.ref x, a0] h)) := zg_vir (as := [a0]) rfl rfl
theorem zi101_8 {E : zE} {x : Int32} {ls sk : List Value} {h : zH} : zrun zpp E 101 (8, ls, .int x :: sk, h) = if x = 0 then zrun zpp E 101 (21, ls, sk, h) else zrun zpp E 101 (11, ls, sk, h) := zrun_at rfl
theorem zi101_11 {E : zE} {v0 v1 : Value} {x : Int32} {ls sk : List Value} {h : zH} : zrun zpp E 101 (11, v0 :: v1 :: .int x :: ls, sk, h) = zrun zpp E 101 (12, v0 :: v1 :: .int x :: ls, .int x :: sk, h) := zrun_at rfl
theorem zi101_12 {E : zE} {ls sk : List Value} {h : zH} : zrun zpp E 101 (12, ls, sk, h) = zrun zpp E 101 (13, ls, .int 1 :: sk, h) := zg_iconst rfl ci_1
theorem zi101_13 {E : zE} {ls sk : List Value} {h : zH} : zrun zpp E 101 (13, ls, sk, h) = zrun zpp E 101 (15, ls, .int 20 :: sk, h) := zg_bipush rfl ci_20
theorem zi101_15 {E : zE} {a0 a1 a2 : Value} {ls sk : List Value} {h : zH} : zrun zpp E 101 (15, ls, a2 :: a1 :: a0 :: sk, h) = zcl1 E 101 18 126 ls sk [a0, a1, a2] h := zg_inv (as := [a0, a1, a2]) rfl rfl
theorem zi101_18 {E : zE} {x : Int32} {ls sk : List Value} {h : zH} : zrun zpp E 101 (18, ls, .int x :: sk, h) = if x = 0 then zrun zpp E 101 (21, ls, sk, h) else zrun zpp E 101 (24, ls, sk, h) := zrun_at rfl
theorem zi101_21 {E : zE} {ls sk : List Value} {h : zH} : zrun zpp E 101 (21, ls, sk, h) = zrun zpp E 101 (23, ls, .int (-1000001) :: sk, h) := zg_ldc rfl ci_m1000001
theorem zi101_23 {E : zE} {x : Int32} {ls sk : List Value} {h : zH} : zrun zpp E 101 (23, ls, [.int x], h) = some (some (.int x), h) := zrun_at rfl
theorem zi101_24 {E : zE} {x : Nat} {ls sk : List Value} {h : zH} : zrun zpp E 101 (24, .ref x :: ls, sk, h) = zrun zpp E 101 (25, .ref x :: ls, .ref x :: sk, h) := zrun_at rfl
theorem zi101_24n {E : zE} {ls sk : List Value} {h : zH} : zrun zpp E 101 (24, .null :: ls, sk, h) = zrun zpp E 101 (25, .null :: ls, .null :: sk, h) := zrun_at rfl
theorem zi101_25 {E : zE} {x : Nat} {ls sk : List Value} {h : zH} : zrun zpp E 101 (25, ls, .ref x :: sk, h) = (zfld [10] h x 7).bind (fun v => zrun zpp E 101 (28, ls, v :: sk, h)) := zg_getf rfl
theorem zi101_28 {E : zE} {x : Nat} {ls sk : List Value} {h : zH} : zrun zpp E 101 (28, ls, .ref x :: sk, h) = (zfld [9] h x 7).bind (fun v => zrun zpp E 101 (31, ls, v :: sk, h)) := zg_getf rfl
theorem zi101_31 {E : zE} {v0 : Value} {x : Int32} {ls sk : List Value} {h : zH} : zrun zpp E 101 (31, v0 :: .int x :: ls, sk, h) = zrun zpp E 101 (32, v0 :: .int x :: ls, .int x :: sk, h) := zrun_at rfl
theorem zi101_32 {E : zE} {x : Nat} {i : Int32} {ls sk : List Value} {h : zH} : zrun zpp E 101 (32, ls, .int i :: .ref x :: sk, h) = (zarr 0 h x i).bind (fun v => zrun zpp E 101 (33, ls, .int v :: sk, h)) := zg_iald rfl
theorem zi101_33 {E : zE} {x : Int32} {ls sk : List Value} {h : zH} : zrun zpp E 101 (33, ls, .int x :: sk, h) = if zfree ls 3 = true then zrun zpp E 101 (34, ls.set 3 (.int x), sk, h) else none := zg_ist rfl (fun _ _ _ => rfl)
theorem zi101_34 {E : zE} {x : Nat} {ls sk : List Value} {h : zH} : zrun zpp E 101 (34, .ref x :: ls, sk, h) = zrun zpp E 101 (35, .ref x :: ls, .ref x :: sk, h) := zrun_at rfl
theorem zi101_34n {E : zE} {ls sk : List Value} {h : zH} : zrun zpp E 101 (34, .null :: ls, sk, h) = zrun zpp E 101 (35, .null :: ls, .null :: sk, h) := zrun_at rfl
theorem zi101_35 {E : zE} {x : Nat} {ls sk : List Value} {h : zH} : zrun zpp E 101 (35, ls, .ref x :: sk, h) = (zfld [10] h x 7).bind (fun v => zrun zpp E 101 (38, ls, v :: sk, h)) := zg_getf rfl
theorem zi101_38 {E : zE} {x : Nat} {ls sk : List Value} {h : zH} : zrun zpp E 101 (38, ls, .ref x :: sk, h) = (zfld [9] h x 7).bind (fun v => zrun zpp E 101 (41, ls, v :: sk, h)) := zg_getf rfl
theorem zi101_41 {E : zE} {v0 : Value} {x : Int32} {ls sk : List Value} {h : zH} : zrun zpp E 101 (41, v0 :: .int x :: ls, sk, h) = zrun zpp E 101 (42, v0 :: .int x :: ls, .int x :: sk, h) := zrun_at rfl
theorem zi101_42 {E : zE} {v0 v1 : Value} {x : Int32} {ls sk : List Value} {h : zH} : zrun zpp E 101 (42, v0 :: v1 :: .int x :: ls, sk, h) = zrun zpp E 101 (43, v0 :: v1 :: .int x :: ls, .int x :: sk, h) := zrun_at rfl
theorem zi101_43 {E : zE} {x : Nat} {i v : Int32} {ls sk : List Value} {h : zH} : zrun zpp E 101 (43, ls, .int v :: .int i :: .ref x :: sk, h) = (zars 0 h x i v).bind (fun h' => zrun zpp E 101 (44, ls, sk, h')) := zg_iast rfl
theorem zi101_44 {E : zE} {x : Nat} {ls sk : List Value} {h : zH} : zrun zpp E 101 (44, .ref x :: ls, sk, h) = zrun zpp E 101 (45, .ref x :: ls, .ref x :: sk, h) := zrun_at rfl
theorem zi101_44n {E : zE} {ls sk : List Value} {h : zH} : zrun zpp E 101 (44, .null :: ls, sk, h) = zrun zpp E 101 (45, .null :: ls, .null :: sk, h) := zrun_at rfl
theorem zi101_45 {E : zE} {x : Nat} {ls sk : List Value} {h : zH} : zrun zpp E 101 (45, ls, .ref x :: sk, h) = (zfld [10] h x 3).bind (fun v => zrun zpp E 101 (48, ls, v :: sk, h)) := zg_getf rfl
theorem zi101_48 {E : zE} {v0 : Value} {x : Int32} {ls sk : List Value} {h : zH} : zrun zpp E 101 (48, v0 :: .int x :: ls, sk, h) = zrun zpp E 101 (49, v0 :: .int x :: ls, .int x :: sk, h) := zrun_at rfl
theorem zi101_49 {E : zE} {v0 v1 v2 : Value} {x : Int32} {ls sk : List Value} {h : zH} : zrun zpp E 101 (49, v0 :: v1 :: v2 :: .int x :: ls, sk, h) = zrun zpp E 101 (50, v0 :: v1 :: v2 :: .int x :: ls, .int x :: sk, h) := zrun_at rfl
theorem zi101_50 {E : zE} {a0 a1 : Value} {x : Nat} {ls sk : List Value} {h : zH} : zrun zpp E 101 (50, ls, a1 :: a0 :: .ref x :: sk, h) = (zcls h x).bind (fun d => (zsel d [0, 4]).bind (fun M' => zcl1 E 101 53 M' ls sk [.ref x, a0, a1] h)) := zg_vir (as := [a0, a1]) rfl rfl
theorem zi101_53 {E : zE} {v0 v1 v2 : Value} {x : Int32} {ls sk : List Value} {h : zH} : zrun zpp E 101 (53, v0 :: v1 :: v2 :: .int x :: ls, sk, h) = zrun zpp E 101 (54, v0 :: v1 :: v2 :: .int x :: ls, .int x :: sk, h) := zrun_at rfl
theorem zi101_54 {E : zE} {x : Int32} {ls sk : List Value} {h : zH} : zrun zpp E 101 (54, ls, [.int x], h) = some (some (.int x), h) := zrun_at rfl
-- 102 NineDown.bike
theorem zi102_0 {E : zE} {x : Nat} {ls sk : List Value} {h : zH} : zrun zpp E 102 (0, .ref x :: ls, sk, h) = zrun zpp E 102 (1, .ref x :: ls, .ref x :: sk, h) := zrun_at rfl
theorem zi102_0n {E : zE} {ls sk : List Value} {h : zH} : zrun zpp E 102 (0, .null :: ls, sk, h) = zrun zpp E 102 (1, .null :: ls, .null :: sk, h) := zrun_at rfl
theorem zi102_1 {E : zE} {x : Nat} {ls sk : List Value} {h : zH} : zrun zpp E 102 (1, ls, .ref x :: sk, h) = (zfld [10] h x 7).bind (fun v => zrun zpp E 102 (4, ls, v :: sk, h)) := zg_getf rfl
theorem zi102_4 {E : zE} {v0 : Value} {x : Int32} {ls sk : List Value} {h : zH} : zrun zpp E 102 (4, v0 :: .int x :: ls, sk, h) = zrun zpp E 102 (5, v0 :: .int x :: ls, .int x :: sk, h) := zrun_at rfl
theorem zi102_5 {E : zE} {a0 : Value} {x : Nat} {ls sk : List Value} {h : zH} : zrun zpp E 102 (5, ls, a0 :: .ref x :: sk, h) = (zcls h x).bind (fun d => (zsel d [9, 71]).bind (fun M' => zcl1 E 102 8 M' ls sk [.ref x, a0] h)) := zg_vir (as := [a0]) rfl rfl
theorem zi102_8 {E : zE} {x : Int32} {ls sk : List Value} {h : zH} : zrun zpp E 102 (8, ls, .int x :: sk, h) = if x = 0 then zrun zpp E 102 (11, ls, sk, h) else zrun zpp E 102 (14, ls, sk, h) := zrun_at rfl
theorem zi102_11 {E : zE} {ls sk : List Value} {h : zH} : zrun zpp E 102 (11, ls, sk, h) = zrun zpp E 102 (13, ls, .int (-1000001) :: sk, h) := zg_ldc rfl ci_m1000001
theorem zi102_13 {E : zE} {x : Int32} {ls sk : List Value} {h : zH} : zrun zpp E 102 (13, ls, [.int x], h) = some (some (.int x), h) := zrun_at rfl
theorem zi102_14 {E : zE} {v0 v1 : Value} {x : Int32} {ls sk : List Value} {h : zH} : zrun zpp E 102 (14, v0 :: v1 :: .int x :: ls, sk, h) = zrun zpp E 102 (15, v0 :: v1 :: .int x :: ls, .int x :: sk, h) := zrun_at rfl
theorem zi102_15 {E : zE} {x : Int32} {ls sk : List Value} {h : zH} : zrun zpp E 102 (15, ls, .int x :: sk, h) = if x = 0 then zrun zpp E 102 (48, ls, sk, h) else if x = 1 then zrun zpp E 102 (58, ls, sk, h) else if x = 2 then zrun zpp E 102 (68, ls, sk, h) else if x = 3 then zrun zpp E 102 (88, ls, sk, h) else if x = 4 then zrun zpp E 102 (112, ls, sk, h) else zrun zpp E 102 (128, ls, sk, h) := zrun_at rfl
theorem zi102_48 {E : zE} {x : Nat} {ls sk : List Value} {h : zH} : zrun zpp E 102 (48, .ref x :: ls, sk, h) = zrun zpp E 102 (49, .ref x :: ls, .ref x :: sk, h) := zrun_at rfl
theorem zi102_48n {E : zE} {ls sk : List Value} {h : zH} : zrun zpp E 102 (48, .null :: ls, sk, h) = zrun zpp E 102 (49, .null :: ls, .null :: sk, h) := zrun_at rfl
theorem zi102_49 {E : zE} {x : Nat} {ls sk : List Value} {h : zH} : zrun zpp E 102 (49, ls, .ref x :: sk, h) = (zfld [10] h x 7).bind (fun v => zrun zpp E 102 (52, ls, v :: sk, h)) := zg_getf rfl
theorem zi102_52 {E : zE} {x : Nat} {ls sk : List Value} {h : zH} : zrun zpp E 102 (52, ls, .ref x :: sk, h) = (zfld [9] h x 6).bind (fun v => zrun zpp E 102 (55, ls, v :: sk, h)) := zg_getf rfl
theorem zi102_55 {E : zE} {v0 : Value} {x : Int32} {ls sk : List Value} {h : zH} : zrun zpp E 102 (55, v0 :: .int x :: ls, sk, h) = zrun zpp E 102 (56, v0 :: .int x :: ls, .int x :: sk, h) := zrun_at rfl
theorem zi102_56 {E : zE} {x : Nat} {i : Int32} {ls sk : List Value} {h : zH} : zrun zpp E 102 (56, ls, .int i :: .ref x :: sk, h) = (zarr 0 h x i).bind (fun v => zrun zpp E 102 (57, ls, .int v :: sk, h)) := zg_iald rfl
theorem zi102_57 {E : zE} {x : Int32} {ls sk : List Value} {h : zH} : zrun zpp E 102 (57, ls, [.int x], h) = some (some (.int x), h) := zrun_at rfl
theorem zi102_58 {E : zE} {x : Nat} {ls sk : List Value} {h : zH} : zrun zpp E 102 (58, .ref x :: ls, sk, h) = zrun zpp E 102 (59, .ref x :: ls, .ref x :: sk, h) := zrun_at rfl
theorem zi102_58n {E : zE} {ls sk : List Value} {h : zH} : zrun zpp E 102 (58, .null :: ls, sk, h) = zrun zpp E 102 (59, .null :: ls, .null :: sk, h) := zrun_at rfl
theorem zi102_59 {E : zE} {x : Nat} {ls sk : List Value} {h : zH} : zrun zpp E 102 (59, ls, .ref x :: sk, h) = (zfld [10] h x 7).bind (fun v => zrun zpp E 102 (62, ls, v :: sk, h)) := zg_getf rfl
theorem zi102_62 {E : zE} {x : Nat} {ls sk : List Value} {h : zH} : zrun zpp E 102 (62, ls, .ref x :: sk, h) = (zfld [9] h x 7).bind (fun v => zrun zpp E 102 (65, ls, v :: sk, h)) := zg_getf rfl
theorem zi102_65 {E : zE} {v0 : Value} {x : Int32} {ls sk : List Value} {h : zH} : zrun zpp E 102 (65, v0 :: .int x :: ls, sk, h) = zrun zpp E 102 (66, v0 :: .int x :: ls, .int x :: sk, h) := zrun_at rfl
theorem zi102_66 {E : zE} {x : Nat} {i : Int32} {ls sk : List Value} {h : zH} : zrun zpp E 102 (66, ls, .int i :: .ref x :: sk, h) = (zarr 0 h x i).bind (fun v => zrun zpp E 102 (67, ls, .int v :: sk, h)) := zg_iald rfl
theorem zi102_67 {E : zE} {x : Int32} {ls sk : List Value} {h : zH} : zrun zpp E 102 (67, ls, [.int x], h) = some (some (.int x), h) := zrun_at rfl
theorem zi102_68 {E : zE} {x : Nat} {ls sk : List Value} {h : zH} : zrun zpp E 102 (68, .ref x :: ls, sk, h) = zrun zpp E 102 (69, .ref x :: ls, .ref x :: sk, h) := zrun_at rfl
theorem zi102_68n {E : zE} {ls sk : List Value} {h : zH} : zrun zpp E 102 (68, .null :: ls, sk, h) = zrun zpp E 102 (69, .null :: ls, .null :: sk, h) := zrun_at rfl
theorem zi102_69 {E : zE} {x : Nat} {ls sk : List Value} {h : zH} : zrun zpp E 102 (69, ls, .ref x :: sk, h) = (zfld [10] h x 7).bind (fun v => zrun zpp E 102 (72, ls, v :: sk, h)) := zg_getf rfl
theorem zi102_72 {E : zE} {x : Nat} {ls sk : List Value} {h : zH} : zrun zpp E 102 (72, ls, .ref x :: sk, h) = (zfld [9] h x 15).bind (fun v => zrun zpp E 102 (75, ls, v :: sk, h)) := zg_getf rfl
theorem zi102_75 {E : zE} {v0 : Value} {x : Int32} {ls sk : List Value} {h : zH} : zrun zpp E 102 (75, v0 :: .int x :: ls, sk, h) = zrun zpp E 102 (76, v0 :: .int x :: ls, .int x :: sk, h) := zrun_at rfl
theorem zi102_76 {E : zE} {a0 a1 : Value} {ls sk : List Value} {h : zH} : zrun zpp E 102 (76, ls, a1 :: a0 :: sk, h) = zcl1 E 102 79 127 ls sk [a0, a1] h := zg_inv (as := [a0, a1]) rfl rfl
theorem zi102_79 {E : zE} {x : Int32} {ls sk : List Value} {h : zH} : zrun zpp E 102 (79, ls, .int x :: sk, h) = if x = 0 then zrun zpp E 102 (86, ls, sk, h) else zrun zpp E 102 (82, ls, sk, h) := zrun_at rfl
theorem zi102_82 {E : zE} {ls sk : List Value} {h : zH} : zrun zpp E 102 (82, ls, sk, h) = zrun zpp E 102 (83, ls, .int 1 :: sk, h) := zg_iconst rfl ci_1
theorem zi102_83 {E : zE} {ls sk : List Value} {h : zH} : zrun zpp E 102 (83, ls, sk, h) = zrun zpp E 102 (87, ls, sk, h) := zrun_at rfl
theorem zi102_86 {E : zE} {ls sk : List Value} {h : zH} : zrun zpp E 102 (86, ls, sk, h) = zrun zpp E 102 (87, ls, .int 0 :: sk, h) := zg_iconst rfl ci_0
theorem zi102_87 {E : zE} {x : Int32} {ls sk : List Value} {h : zH} : zrun zpp E 102 (87, ls, [.int x], h) = some (some (.int x), h) := zrun_at rfl
theorem zi102_88 {E : zE} {x : Nat} {ls sk : List Value} {h : zH} : zrun zpp E 102 (88, .ref x :: ls, sk, h) = zrun zpp E 102 (89, .ref x :: ls, .ref x :: sk, h) := zrun_at rfl
theorem zi102_88n {E : zE} {ls sk : List Value} {h : zH} : zrun zpp E 102 (88, .null :: ls, sk, h) = zrun zpp E 102 (89, .null :: ls, .null :: sk, h) := zrun_at rfl
theorem zi102_89 {E : zE} {x : Nat} {ls sk : List Value} {h : zH} : zrun zpp E 102 (89, ls, .ref x :: sk, h) = (zfld [10] h x 7).bind (fun v => zrun zpp E 102 (92, ls, v :: sk, h)) := zg_getf rfl
theorem zi102_92 {E : zE} {v0 : Value} {x : Int32} {ls sk : List Value} {h : zH} : zrun zpp E 102 (92, v0 :: .int x :: ls, sk, h) = zrun zpp E 102 (93, v0 :: .int x :: ls, .int x :: sk, h) := zrun_at rfl
theorem zi102_93 {E : zE} {x : Nat} {ls sk : List Value} {h : zH} : zrun zpp E 102 (93, .ref x :: ls, sk, h) = zrun zpp E 102 (94, .ref x :: ls, .ref x :: sk, h) := zrun_at rfl
theorem zi102_93n {E : zE} {ls sk : List Value} {h : zH} : zrun zpp E 102 (93, .null :: ls, sk, h) = zrun zpp E 102 (94, .null :: ls, .null :: sk, h) := zrun_at rfl
theorem zi102_94 {E : zE} {x : Nat} {ls sk : List Value} {h : zH} : zrun zpp E 102 (94, ls, .ref x :: sk, h) = (zfld [10] h x 7).bind (fun v => zrun zpp E 102 (97, ls, v :: sk, h)) := zg_getf rfl
theorem zi102_97 {E : zE} {x : Nat} {ls sk : List Value} {h : zH} : zrun zpp E 102 (97, ls, .ref x :: sk, h) = (zfld [9] h x 15).bind (fun v => zrun zpp E 102 (100, ls, v :: sk, h)) := zg_getf rfl
theorem zi102_100 {E : zE} {a0 a1 : Value} {x : Nat} {ls sk : List Value} {h : zH} : zrun zpp E 102 (100, ls, a1 :: a0 :: .ref x :: sk, h) = (zcls h x).bind (fun d => (zsel d [9, 77]).bind (fun M' => zcl1 E 102 103 M' ls sk [.ref x, a0, a1] h)) := zg_vir (as := [a0, a1]) rfl rfl
theorem zi102_103 {E : zE} {x : Int32} {ls sk : List Value} {h : zH} : zrun zpp E 102 (103, ls, .int x :: sk, h) = if x = 0 then zrun zpp E 102 (110, ls, sk, h) else zrun zpp E 102 (106, ls, sk, h) := zrun_at rfl
theorem zi102_106 {E : zE} {ls sk : List Value} {h : zH} : zrun zpp E 102 (106, ls, sk, h) = zrun zpp E 102 (107, ls, .int 1 :: sk, h) := zg_iconst rfl ci_1
theorem zi102_107 {E : zE} {ls sk : List Value} {h : zH} : zrun zpp E 102 (107, ls, sk, h) = zrun zpp E 102 (111, ls, sk, h) := zrun_at rfl
theorem zi102_110 {E : zE} {ls sk : List Value} {h : zH} : zrun zpp E 102 (110, ls, sk, h) = zrun zpp E 102 (111, ls, .int 0 :: sk, h) := zg_iconst rfl ci_0
theorem zi102_111 {E : zE} {x : Int32} {ls sk : List Value} {h : zH} : zrun zpp E 102 (111, ls, [.int x], h) = some (some (.int x), h) := zrun_at rfl
theorem zi102_112 {E : zE} {x : Nat} {ls sk : List Value} {h : zH} : zrun zpp E 102 (112, .ref x :: ls, sk, h) = zrun zpp E 102 (113, .ref x :: ls, .ref x :: sk, h) := zrun_at rfl
theorem zi102_112n {E : zE} {ls sk : List Value} {h : zH} : zrun zpp E 102 (112, .null :: ls, sk, h) = zrun zpp E 102 (113, .null :: ls, .null :: sk, h) := zrun_at rfl
theorem zi102_113 {E : zE} {x : Nat} {ls sk : List Value} {h : zH} : zrun zpp E 102 (113, ls, .ref x :: sk, h) = (zfld [10] h x 7).bind (fun v => zrun zpp E 102 (116, ls, v :: sk, h)) := zg_getf rfl
theorem zi102_116 {E : zE} {v0 : Value} {x : Int32} {ls sk : List Value} {h : zH} : zrun zpp E 102 (116, v0 :: .int x :: ls, sk, h) = zrun zpp E 102 (117, v0 :: .int x :: ls, .int x :: sk, h) := zrun_at rfl
theorem zi102_117 {E : zE} {x : Nat} {ls sk : List Value} {h : zH} : zrun zpp E 102 (117, .ref x :: ls, sk, h) = zrun zpp E 102 (118, .ref x :: ls, .ref x :: sk, h) := zrun_at rfl
theorem zi102_117n {E : zE} {ls sk : List Value} {h : zH} : zrun zpp E 102 (117, .null :: ls, sk, h) = zrun zpp E 102 (118, .null :: ls, .null :: sk, h) := zrun_at rfl
theorem zi102_118 {E : zE} {x : Nat} {ls sk : List Value} {h : zH} : zrun zpp E 102 (118, ls, .ref x :: sk, h) = (zfld [10] h x 7).bind (fun v => zrun zpp E 102 (121, ls, v :: sk, h)) := zg_getf rfl
theorem zi102_121 {E : zE} {x : Nat} {ls sk : List Value} {h : zH} : zrun zpp E 102 (121, ls, .ref x :: sk, h) = (zfld [9] h x 15).bind (fun v => zrun zpp E 102 (124, ls, v :: sk, h)) := zg_getf rfl
theorem zi102_124 {E : zE} {a0 a1 : Value} {x : Nat} {ls sk : List Value} {h : zH} : zrun zpp E 102 (124, ls, a1 :: a0 :: .ref x :: sk, h) = (zcls h x).bind (fun d => (zsel d [9, 79]).bind (fun M' => zcl1 E 102 127 M' ls sk [.ref x, a0, a1] h)) := zg_vir (as := [a0, a1]) rfl rfl
theorem zi102_127 {E : zE} {x : Int32} {ls sk : List Value} {h : zH} : zrun zpp E 102 (127, ls, [.int x], h) = some (some (.int x), h) := zrun_at rfl
theorem zi102_128 {E : zE} {ls sk : List Value} {h : zH} : zrun zpp E 102 (128, ls, sk, h) = zrun zpp E 102 (130, ls, .int (-1000001) :: sk, h) := zg_ldc rfl ci_m1000001
theorem zi102_130 {E : zE} {x : Int32} {ls sk : List Value} {h : zH} : zrun zpp E 102 (130, ls, [.int x], h) = some (some (.int x), h) := zrun_at rfl
-- 103 NineDown.hold
theorem zi103_0 {E : zE} {x : Nat} {ls sk : List Value} {h : zH} : zrun zpp E 103 (0, .ref x :: ls, sk, h) = zrun zpp E 103 (1, .ref x :: ls, .ref x :: sk, h) := zrun_at rfl
theorem zi103_0n {E : zE} {ls sk : List Value} {h : zH} : zrun zpp E 103 (0, .null :: ls, sk, h) = zrun zpp E 103 (1, .null :: ls, .null :: sk, h) := zrun_at rfl
theorem zi103_1 {E : zE} {x : Nat} {ls sk : List Value} {h : zH} : zrun zpp E 103 (1, ls, .ref x :: sk, h) = (zfld [10] h x 7).bind (fun v => zrun zpp E 103 (4, ls, v :: sk, h)) := zg_getf rfl
theorem zi103_4 {E : zE} {v0 : Value} {x : Int32} {ls sk : List Value} {h : zH} : zrun zpp E 103 (4, v0 :: .int x :: ls, sk, h) = zrun zpp E 103 (5, v0 :: .int x :: ls, .int x :: sk, h) := zrun_at rfl
theorem zi103_5 {E : zE} {a0 : Value} {x : Nat} {ls sk : List Value} {h : zH} : zrun zpp E 103 (5, ls, a0 :: .ref x :: sk, h) = (zcls h x).bind (fun d => (zsel d [9, 72]).bind (fun M' => zcl1 E 103 8 M' ls sk [.ref x, a0] h)) := zg_vir (as := [a0]) rfl rfl
theorem zi103_8 {E : zE} {x : Int32} {ls sk : List Value} {h : zH} : zrun zpp E 103 (8, ls, .int x :: sk, h) = if x = 0 then zrun zpp E 103 (11, ls, sk, h) else zrun zpp E 103 (14, ls, sk, h) := zrun_at rfl
theorem zi103_11 {E : zE} {ls sk : List Value} {h : zH} : zrun zpp E 103 (11, ls, sk, h) = zrun zpp E 103 (13, ls, .int (-1000001) :: sk, h) := zg_ldc rfl ci_m1000001
theorem zi103_13 {E : zE} {x : Int32} {ls sk : List Value} {h : zH} : zrun zpp E 103 (13, ls, [.int x], h) = some (some (.int x), h) := zrun_at rfl
theorem zi103_14 {E : zE} {v0 v1 : Value} {x : Int32} {ls sk : List Value} {h : zH} : zrun zpp E 103 (14, v0 :: v1 :: .int x :: ls, sk, h) = zrun zpp E 103 (15, v0 :: v1 :: .int x :: ls, .int x :: sk, h) := zrun_at rfl
theorem zi103_15 {E : zE} {x : Int32} {ls sk : List Value} {h : zH} : zrun zpp E 103 (15, ls, .int x :: sk, h) = if x = 0 then zrun zpp E 103 (44, ls, sk, h) else if x = 1 then zrun zpp E 103 (54, ls, sk, h) else if x = 2 then zrun zpp E 103 (64, ls, sk, h) else if x = 3 then zrun zpp E 103 (74, ls, sk, h) else zrun zpp E 103 (91, ls, sk, h) := zrun_at rfl
theorem zi103_44 {E : zE} {x : Nat} {ls sk : List Value} {h : zH} : zrun zpp E 103 (44, .ref x :: ls, sk, h) = zrun zpp E 103 (45, .ref x :: ls, .ref x :: sk, h) := zrun_at rfl
theorem zi103_44n {E : zE} {ls sk : List Value} {h : zH} : zrun zpp E 103 (44, .null :: ls, sk, h) = zrun zpp E 103 (45, .null :: ls, .null :: sk, h) := zrun_at rfl
theorem zi103_45 {E : zE} {x : Nat} {ls sk : List Value} {h : zH} : zrun zpp E 103 (45, ls, .ref x :: sk, h) = (zfld [10] h x 7).bind (fun v => zrun zpp E 103 (48, ls, v :: sk, h)) := zg_getf rfl
theorem zi103_48 {E : zE} {x : Nat} {ls sk : List Value} {h : zH} : zrun zpp E 103 (48, ls, .ref x :: sk, h) = (zfld [9] h x 10).bind (fun v => zrun zpp E 103 (51, ls, v :: sk, h)) := zg_getf rfl
theorem zi103_51 {E : zE} {v0 : Value} {x : Int32} {ls sk : List Value} {h : zH} : zrun zpp E 103 (51, v0 :: .int x :: ls, sk, h) = zrun zpp E 103 (52, v0 :: .int x :: ls, .int x :: sk, h) := zrun_at rfl
theorem zi103_52 {E : zE} {x : Nat} {i : Int32} {ls sk : List Value} {h : zH} : zrun zpp E 103 (52, ls, .int i :: .ref x :: sk, h) = (zarr 0 h x i).bind (fun v => zrun zpp E 103 (53, ls, .int v :: sk, h)) := zg_iald rfl
theorem zi103_53 {E : zE} {x : Int32} {ls sk : List Value} {h : zH} : zrun zpp E 103 (53, ls, [.int x], h) = some (some (.int x), h) := zrun_at rfl
theorem zi103_54 {E : zE} {x : Nat} {ls sk : List Value} {h : zH} : zrun zpp E 103 (54, .ref x :: ls, sk, h) = zrun zpp E 103 (55, .ref x :: ls, .ref x :: sk, h) := zrun_at rfl
theorem zi103_54n {E : zE} {ls sk : List Value} {h : zH} : zrun zpp E 103 (54, .null :: ls, sk, h) = zrun zpp E 103 (55, .null :: ls, .null :: sk, h) := zrun_at rfl
theorem zi103_55 {E : zE} {x : Nat} {ls sk : List Value} {h : zH} : zrun zpp E 103 (55, ls, .ref x :: sk, h) = (zfld [10] h x 7).bind (fun v => zrun zpp E 103 (58, ls, v :: sk, h)) := zg_getf rfl
theorem zi103_58 {E : zE} {x : Nat} {ls sk : List Value} {h : zH} : zrun zpp E 103 (58, ls, .ref x :: sk, h) = (zfld [9] h x 11).bind (fun v => zrun zpp E 103 (61, ls, v :: sk, h)) := zg_getf rfl
theorem zi103_61 {E : zE} {v0 : Value} {x : Int32} {ls sk : List Value} {h : zH} : zrun zpp E 103 (61, v0 :: .int x :: ls, sk, h) = zrun zpp E 103 (62, v0 :: .int x :: ls, .int x :: sk, h) := zrun_at rfl
theorem zi103_62 {E : zE} {x : Nat} {i : Int32} {ls sk : List Value} {h : zH} : zrun zpp E 103 (62, ls, .int i :: .ref x :: sk, h) = (zarr 0 h x i).bind (fun v => zrun zpp E 103 (63, ls, .int v :: sk, h)) := zg_iald rfl
theorem zi103_63 {E : zE} {x : Int32} {ls sk : List Value} {h : zH} : zrun zpp E 103 (63, ls, [.int x], h) = some (some (.int x), h) := zrun_at rfl
theorem zi103_64 {E : zE} {x : Nat} {ls sk : List Value} {h : zH} : zrun zpp E 103 (64, .ref x :: ls, sk, h) = zrun zpp E 103 (65, .ref x :: ls, .ref x :: sk, h) := zrun_at rfl
theorem zi103_64n {E : zE} {ls sk : List Value} {h : zH} : zrun zpp E 103 (64, .null :: ls, sk, h) = zrun zpp E 103 (65, .null :: ls, .null :: sk, h) := zrun_at rfl
theorem zi103_65 {E : zE} {x : Nat} {ls sk : List Value} {h : zH} : zrun zpp E 103 (65, ls, .ref x :: sk, h) = (zfld [10] h x 7).bind (fun v => zrun zpp E 103 (68, ls, v :: sk, h)) := zg_getf rfl
theorem zi103_68 {E : zE} {x : Nat} {ls sk : List Value} {h : zH} : zrun zpp E 103 (68, ls, .ref x :: sk, h) = (zfld [9] h x 12).bind (fun v => zrun zpp E 103 (71, ls, v :: sk, h)) := zg_getf rfl
theorem zi103_71 {E : zE} {v0 : Value} {x : Int32} {ls sk : List Value} {h : zH} : zrun zpp E 103 (71, v0 :: .int x :: ls, sk, h) = zrun zpp E 103 (72, v0 :: .int x :: ls, .int x :: sk, h) := zrun_at rfl
theorem zi103_72 {E : zE} {x : Nat} {i : Int32} {ls sk : List Value} {h : zH} : zrun zpp E 103 (72, ls, .int i :: .ref x :: sk, h) = (zarr 0 h x i).bind (fun v => zrun zpp E 103 (73, ls, .int v :: sk, h)) := zg_iald rfl
theorem zi103_73 {E : zE} {x : Int32} {ls sk : List Value} {h : zH} : zrun zpp E 103 (73, ls, [.int x], h) = some (some (.int x), h) := zrun_at rfl
theorem zi103_74 {E : zE} {x : Nat} {ls sk : List Value} {h : zH} : zrun zpp E 103 (74, .ref x :: ls, sk, h) = zrun zpp E 103 (75, .ref x :: ls, .ref x :: sk, h) := zrun_at rfl
theorem zi103_74n {E : zE} {ls sk : List Value} {h : zH} : zrun zpp E 103 (74, .null :: ls, sk, h) = zrun zpp E 103 (75, .null :: ls, .null :: sk, h) := zrun_at rfl
theorem zi103_75 {E : zE} {x : Nat} {ls sk : List Value} {h : zH} : zrun zpp E 103 (75, ls, .ref x :: sk, h) = (zfld [10] h x 7).bind (fun v => zrun zpp E 103 (78, ls, v :: sk, h)) := zg_getf rfl
theorem zi103_78 {E : zE} {v0 : Value} {x : Int32} {ls sk : List Value} {h : zH} : zrun zpp E 103 (78, v0 :: .int x :: ls, sk, h) = zrun zpp E 103 (79, v0 :: .int x :: ls, .int x :: sk, h) := zrun_at rfl
theorem zi103_79 {E : zE} {a0 : Value} {x : Nat} {ls sk : List Value} {h : zH} : zrun zpp E 103 (79, ls, a0 :: .ref x :: sk, h) = (zcls h x).bind (fun d => (zsel d [9, 75]).bind (fun M' => zcl1 E 103 82 M' ls sk [.ref x, a0] h)) := zg_vir (as := [a0]) rfl rfl
theorem zi103_82 {E : zE} {x : Int32} {ls sk : List Value} {h : zH} : zrun zpp E 103 (82, ls, .int x :: sk, h) = if x = 0 then zrun zpp E 103 (89, ls, sk, h) else zrun zpp E 103 (85, ls, sk, h) := zrun_at rfl
theorem zi103_85 {E : zE} {ls sk : List Value} {h : zH} : zrun zpp E 103 (85, ls, sk, h) = zrun zpp E 103 (86, ls, .int 1 :: sk, h) := zg_iconst rfl ci_1
theorem zi103_86 {E : zE} {ls sk : List Value} {h : zH} : zrun zpp E 103 (86, ls, sk, h) = zrun zpp E 103 (90, ls, sk, h) := zrun_at rfl
theorem zi103_89 {E : zE} {ls sk : List Value} {h : zH} : zrun zpp E 103 (89, ls, sk, h) = zrun zpp E 103 (90, ls, .int 0 :: sk, h) := zg_iconst rfl ci_0
theorem zi103_90 {E : zE} {x : Int32} {ls sk : List Value} {h : zH} : zrun zpp E 103 (90, ls, [.int x], h) = some (some (.int x), h) := zrun_at rfl
theorem zi103_91 {E : zE} {ls sk : List Value} {h : zH} : zrun zpp E 103 (91, ls, sk, h) = zrun zpp E 103 (93, ls, .int (-1000001) :: sk, h) := zg_ldc rfl ci_m1000001
theorem zi103_93 {E : zE} {x : Int32} {ls sk : List Value} {h : zH} : zrun zpp E 103 (93, ls, [.int x], h) = some (some (.int x), h) := zrun_at rfl
-- 104 NineDown.takes
theorem zi104_0 {E : zE} {x : Nat} {ls sk : List Value} {h : zH} : zrun zpp E 104 (0, .ref x :: ls, sk, h) = zrun zpp E 104 (1, .ref x :: ls, .ref x :: sk, h) := zrun_at rfl
theorem zi104_0n {E : zE} {ls sk : List Value} {h : zH} : zrun zpp E 104 (0, .null :: ls, sk, h) = zrun zpp E 104 (1, .null :: ls, .null :: sk, h) := zrun_at rfl
theorem zi104_1 {E : zE} {x : Nat} {ls sk : List Value} {h : zH} : zrun zpp E 104 (1, ls, .ref x :: sk, h) = (zfld [10] h x 7).bind (fun v => zrun zpp E 104 (4, ls, v :: sk, h)) := zg_getf rfl
theorem zi104_4 {E : zE} {v0 : Value} {x : Int32} {ls sk : List Value} {h : zH} : zrun zpp E 104 (4, v0 :: .int x :: ls, sk, h) = zrun zpp E 104 (5, v0 :: .int x :: ls, .int x :: sk, h) := zrun_at rfl
theorem zi104_5 {E : zE} {a0 : Value} {x : Nat} {ls sk : List Value} {h : zH} : zrun zpp E 104 (5, ls, a0 :: .ref x :: sk, h) = (zcls h x).bind (fun d => (zsel d [9, 73]).bind (fun M' => zcl1 E 104 8 M' ls sk [.ref x, a0] h)) := zg_vir (as := [a0]) rfl rfl
theorem zi104_8 {E : zE} {x : Nat} {ls sk : List Value} {h : zH} : zrun zpp E 104 (8, ls, .ref x :: sk, h) = if zfree ls 4 = true then zrun zpp E 104 (10, ls.set 4 (.ref x), sk, h) else none := zg_astr rfl (fun _ _ _ => rfl)
theorem zi104_8n {E : zE} {ls sk : List Value} {h : zH} : zrun zpp E 104 (8, ls, .null :: sk, h) = if zfree ls 4 = true then zrun zpp E 104 (10, ls.set 4 .null, sk, h) else none := zg_astn rfl (fun _ _ _ => rfl)
theorem zi104_10 {E : zE} {v0 v1 v2 v3 : Value} {x : Nat} {ls sk : List Value} {h : zH} : zrun zpp E 104 (10, v0 :: v1 :: v2 :: v3 :: .ref x :: ls, sk, h) = zrun zpp E 104 (12, v0 :: v1 :: v2 :: v3 :: .ref x :: ls, .ref x :: sk, h) := zrun_at rfl
theorem zi104_10n {E : zE} {v0 v1 v2 v3 : Value} {ls sk : List Value} {h : zH} : zrun zpp E 104 (10, v0 :: v1 :: v2 :: v3 :: .null :: ls, sk, h) = zrun zpp E 104 (12, v0 :: v1 :: v2 :: v3 :: .null :: ls, .null :: sk, h) := zrun_at rfl
theorem zi104_12 {E : zE} {x : Nat} {ls sk : List Value} {h : zH} : zrun zpp E 104 (12, ls, .ref x :: sk, h) = zrun zpp E 104 (15, ls, sk, h) := zrun_at rfl
theorem zi104_12n {E : zE} {ls sk : List Value} {h : zH} : zrun zpp E 104 (12, ls, .null :: sk, h) = zrun zpp E 104 (35, ls, sk, h) := zrun_at rfl
theorem zi104_15 {E : zE} {x : Nat} {ls sk : List Value} {h : zH} : zrun zpp E 104 (15, .ref x :: ls, sk, h) = zrun zpp E 104 (16, .ref x :: ls, .ref x :: sk, h) := zrun_at rfl
theorem zi104_15n {E : zE} {ls sk : List Value} {h : zH} : zrun zpp E 104 (15, .null :: ls, sk, h) = zrun zpp E 104 (16, .null :: ls, .null :: sk, h) := zrun_at rfl
theorem zi104_16 {E : zE} {x : Nat} {ls sk : List Value} {h : zH} : zrun zpp E 104 (16, ls, .ref x :: sk, h) = (zfld [10] h x 7).bind (fun v => zrun zpp E 104 (19, ls, v :: sk, h)) := zg_getf rfl
theorem zi104_19 {E : zE} {v0 v1 : Value} {x : Int32} {ls sk : List Value} {h : zH} : zrun zpp E 104 (19, v0 :: v1 :: .int x :: ls, sk, h) = zrun zpp E 104 (20, v0 :: v1 :: .int x :: ls, .int x :: sk, h) := zrun_at rfl
theorem zi104_20 {E : zE} {a0 : Value} {x : Nat} {ls sk : List Value} {h : zH} : zrun zpp E 104 (20, ls, a0 :: .ref x :: sk, h) = (zcls h x).bind (fun d => (zsel d [9, 71]).bind (fun M' => zcl1 E 104 23 M' ls sk [.ref x, a0] h)) := zg_vir (as := [a0]) rfl rfl
theorem zi104_23 {E : zE} {x : Int32} {ls sk : List Value} {h : zH} : zrun zpp E 104 (23, ls, .int x :: sk, h) = if x = 0 then zrun zpp E 104 (35, ls, sk, h) else zrun zpp E 104 (26, ls, sk, h) := zrun_at rfl
theorem zi104_26 {E : zE} {v0 v1 v2 : Value} {x : Int32} {ls sk : List Value} {h : zH} : zrun zpp E 104 (26, v0 :: v1 :: v2 :: .int x :: ls, sk, h) = zrun zpp E 104 (27, v0 :: v1 :: v2 :: .int x :: ls, .int x :: sk, h) := zrun_at rfl
theorem zi104_27 {E : zE} {ls sk : List Value} {h : zH} : zrun zpp E 104 (27, ls, sk, h) = zrun zpp E 104 (28, ls, .int 0 :: sk, h) := zg_iconst rfl ci_0
theorem zi104_28 {E : zE} {ls sk : List Value} {h : zH} : zrun zpp E 104 (28, ls, sk, h) = zrun zpp E 104 (29, ls, .int 1 :: sk, h) := zg_iconst rfl ci_1
theorem zi104_29 {E : zE} {a0 a1 a2 : Value} {ls sk : List Value} {h : zH} : zrun zpp E 104 (29, ls, a2 :: a1 :: a0 :: sk, h) = zcl1 E 104 32 126 ls sk [a0, a1, a2] h := zg_inv (as := [a0, a1, a2]) rfl rfl
theorem zi104_32 {E : zE} {x : Int32} {ls sk : List Value} {h : zH} : zrun zpp E 104 (32, ls, .int x :: sk, h) = if x = 0 then zrun zpp E 104 (35, ls, sk, h) else zrun zpp E 104 (38, ls, sk, h) := zrun_at rfl
theorem zi104_35 {E : zE} {ls sk : List Value} {h : zH} : zrun zpp E 104 (35, ls, sk, h) = zrun zpp E 104 (37, ls, .int (-1000001) :: sk, h) := zg_ldc rfl ci_m1000001
theorem zi104_37 {E : zE} {x : Int32} {ls sk : List Value} {h : zH} : zrun zpp E 104 (37, ls, [.int x], h) = some (some (.int x), h) := zrun_at rfl
theorem zi104_38 {E : zE} {x : Nat} {ls sk : List Value} {h : zH} : zrun zpp E 104 (38, .ref x :: ls, sk, h) = zrun zpp E 104 (39, .ref x :: ls, .ref x :: sk, h) := zrun_at rfl
theorem zi104_38n {E : zE} {ls sk : List Value} {h : zH} : zrun zpp E 104 (38, .null :: ls, sk, h) = zrun zpp E 104 (39, .null :: ls, .null :: sk, h) := zrun_at rfl
theorem zi104_39 {E : zE} {x : Nat} {ls sk : List Value} {h : zH} : zrun zpp E 104 (39, ls, .ref x :: sk, h) = (zfld [10] h x 7).bind (fun v => zrun zpp E 104 (42, ls, v :: sk, h)) := zg_getf rfl
theorem zi104_42 {E : zE} {v0 v1 v2 v3 : Value} {x : Nat} {ls sk : List Value} {h : zH} : zrun zpp E 104 (42, v0 :: v1 :: v2 :: v3 :: .ref x :: ls, sk, h) = zrun zpp E 104 (44, v0 :: v1 :: v2 :: v3 :: .ref x :: ls, .ref x :: sk, h) := zrun_at rfl
theorem zi104_42n {E : zE} {v0 v1 v2 v3 : Value} {ls sk : List Value} {h : zH} : zrun zpp E 104 (42, v0 :: v1 :: v2 :: v3 :: .null :: ls, sk, h) = zrun zpp E 104 (44, v0 :: v1 :: v2 :: v3 :: .null :: ls, .null :: sk, h) := zrun_at rfl
theorem zi104_44 {E : zE} {v0 v1 : Value} {x : Int32} {ls sk : List Value} {h : zH} : zrun zpp E 104 (44, v0 :: v1 :: .int x :: ls, sk, h) = zrun zpp E 104 (45, v0 :: v1 :: .int x :: ls, .int x :: sk, h) := zrun_at rfl
theorem zi104_45 {E : zE} {a0 a1 : Value} {x : Nat} {ls sk : List Value} {h : zH} : zrun zpp E 104 (45, ls, a1 :: a0 :: .ref x :: sk, h) = (zcls h x).bind (fun d => (zsel d [9, 80]).bind (fun M' => zcl1 E 104 48 M' ls sk [.ref x, a0, a1] h)) := zg_vir (as := [a0, a1]) rfl rfl
theorem zi104_48 {E : zE} {x : Int32} {ls sk : List Value} {h : zH} : zrun zpp E 104 (48, ls, .int x :: sk, h) = if x = 0 then zrun zpp E 104 (51, ls, sk, h) else zrun zpp E 104 (54, ls, sk, h) := zrun_at rfl
theorem zi104_51 {E : zE} {ls sk : List Value} {h : zH} : zrun zpp E 104 (51, ls, sk, h) = zrun zpp E 104 (53, ls, .int (-1000000) :: sk, h) := zg_ldc rfl ci_m1000000
theorem zi104_53 {E : zE} {x : Int32} {ls sk : List Value} {h : zH} : zrun zpp E 104 (53, ls, [.int x], h) = some (some (.int x), h) := zrun_at rfl
theorem zi104_54 {E : zE} {x : Nat} {ls sk : List Value} {h : zH} : zrun zpp E 104 (54, .ref x :: ls, sk, h) = zrun zpp E 104 (55, .ref x :: ls, .ref x :: sk, h) := zrun_at rfl
theorem zi104_54n {E : zE} {ls sk : List Value} {h : zH} : zrun zpp E 104 (54, .null :: ls, sk, h) = zrun zpp E 104 (55, .null :: ls, .null :: sk, h) := zrun_at rfl
theorem zi104_55 {E : zE} {x : Nat} {ls sk : List Value} {h : zH} : zrun zpp E 104 (55, ls, .ref x :: sk, h) = (zfld [10] h x 7).bind (fun v => zrun zpp E 104 (58, ls, v :: sk, h)) := zg_getf rfl
theorem zi104_58 {E : zE} {v0 v1 : Value} {x : Int32} {ls sk : List Value} {h : zH} : zrun zpp E 104 (58, v0 :: v1 :: .int x :: ls, sk, h) = zrun zpp E 104 (59, v0 :: v1 :: .int x :: ls, .int x :: sk, h) := zrun_at rfl
theorem zi104_59 {E : zE} {x : Nat} {ls sk : List Value} {h : zH} : zrun zpp E 104 (59, .ref x :: ls, sk, h) = zrun zpp E 104 (60, .ref x :: ls, .ref x :: sk, h) := zrun_at rfl
theorem zi104_59n {E : zE} {ls sk : List Value} {h : zH} : zrun zpp E 104 (59, .null :: ls, sk, h) = zrun zpp E 104 (60, .null :: ls, .null :: sk, h) := zrun_at rfl
theorem zi104_60 {E : zE} {x : Nat} {ls sk : List Value} {h : zH} : zrun zpp E 104 (60, ls, .ref x :: sk, h) = (zfld [10] h x 7).bind (fun v => zrun zpp E 104 (63, ls, v :: sk, h)) := zg_getf rfl
theorem zi104_63 {E : zE} {x : Nat} {ls sk : List Value} {h : zH} : zrun zpp E 104 (63, ls, .ref x :: sk, h) = (zfld [9] h x 15).bind (fun v => zrun zpp E 104 (66, ls, v :: sk, h)) := zg_getf rfl
theorem zi104_66 {E : zE} {a0 a1 : Value} {x : Nat} {ls sk : List Value} {h : zH} : zrun zpp E 104 (66, ls, a1 :: a0 :: .ref x :: sk, h) = (zcls h x).bind (fun d => (zsel d [9, 79]).bind (fun M' => zcl1 E 104 69 M' ls sk [.ref x, a0, a1] h)) := zg_vir (as := [a0, a1]) rfl rfl
theorem zi104_69 {E : zE} {x : Int32} {ls sk : List Value} {h : zH} : zrun zpp E 104 (69, ls, .int x :: sk, h) = if zfree ls 5 = true then zrun zpp E 104 (71, ls.set 5 (.int x), sk, h) else none := zg_ist rfl (fun _ _ _ => rfl)
theorem zi104_71 {E : zE} {v0 v1 v2 : Value} {x : Int32} {ls sk : List Value} {h : zH} : zrun zpp E 104 (71, v0 :: v1 :: v2 :: .int x :: ls, sk, h) = zrun zpp E 104 (72, v0 :: v1 :: v2 :: .int x :: ls, .int x :: sk, h) := zrun_at rfl
theorem zi104_72 {E : zE} {x : Int32} {ls sk : List Value} {h : zH} : zrun zpp E 104 (72, ls, .int x :: sk, h) = if x = 0 then zrun zpp E 104 (75, ls, sk, h) else zrun zpp E 104 (98, ls, sk, h) := zrun_at rfl
theorem zi104_75 {E : zE} {v0 v1 v2 v3 : Value} {x : Nat} {ls sk : List Value} {h : zH} : zrun zpp E 104 (75, v0 :: v1 :: v2 :: v3 :: .ref x :: ls, sk, h) = zrun zpp E 104 (77, v0 :: v1 :: v2 :: v3 :: .ref x :: ls, .ref x :: sk, h) := zrun_at rfl
theorem zi104_75n {E : zE} {v0 v1 v2 v3 : Value} {ls sk : List Value} {h : zH} : zrun zpp E 104 (75, v0 :: v1 :: v2 :: v3 :: .null :: ls, sk, h) = zrun zpp E 104 (77, v0 :: v1 :: v2 :: v3 :: .null :: ls, .null :: sk, h) := zrun_at rfl
theorem zi104_77 {E : zE} {x : Nat} {ls sk : List Value} {h : zH} : zrun zpp E 104 (77, .ref x :: ls, sk, h) = zrun zpp E 104 (78, .ref x :: ls, .ref x :: sk, h) := zrun_at rfl
theorem zi104_77n {E : zE} {ls sk : List Value} {h : zH} : zrun zpp E 104 (77, .null :: ls, sk, h) = zrun zpp E 104 (78, .null :: ls, .null :: sk, h) := zrun_at rfl
theorem zi104_78 {E : zE} {x : Nat} {ls sk : List Value} {h : zH} : zrun zpp E 104 (78, ls, .ref x :: sk, h) = (zfld [10] h x 7).bind (fun v => zrun zpp E 104 (81, ls, v :: sk, h)) := zg_getf rfl
theorem zi104_81 {E : zE} {x : Nat} {ls sk : List Value} {h : zH} : zrun zpp E 104 (81, ls, .ref x :: sk, h) = (zfld [9] h x 6).bind (fun v => zrun zpp E 104 (84, ls, v :: sk, h)) := zg_getf rfl
theorem zi104_84 {E : zE} {v0 v1 : Value} {x : Int32} {ls sk : List Value} {h : zH} : zrun zpp E 104 (84, v0 :: v1 :: .int x :: ls, sk, h) = zrun zpp E 104 (85, v0 :: v1 :: .int x :: ls, .int x :: sk, h) := zrun_at rfl
theorem zi104_85 {E : zE} {x : Nat} {i : Int32} {ls sk : List Value} {h : zH} : zrun zpp E 104 (85, ls, .int i :: .ref x :: sk, h) = (zarr 0 h x i).bind (fun v => zrun zpp E 104 (86, ls, .int v :: sk, h)) := zg_iald rfl
theorem zi104_86 {E : zE} {v0 v1 v2 v3 v4 : Value} {x : Int32} {ls sk : List Value} {h : zH} : zrun zpp E 104 (86, v0 :: v1 :: v2 :: v3 :: v4 :: .int x :: ls, sk, h) = zrun zpp E 104 (88, v0 :: v1 :: v2 :: v3 :: v4 :: .int x :: ls, .int x :: sk, h) := zrun_at rfl
theorem zi104_88 {E : zE} {x : Nat} {ls sk : List Value} {h : zH} : zrun zpp E 104 (88, .ref x :: ls, sk, h) = zrun zpp E 104 (89, .ref x :: ls, .ref x :: sk, h) := zrun_at rfl
theorem zi104_88n {E : zE} {ls sk : List Value} {h : zH} : zrun zpp E 104 (88, .null :: ls, sk, h) = zrun zpp E 104 (89, .null :: ls, .null :: sk, h) := zrun_at rfl
theorem zi104_89 {E : zE} {x : Nat} {ls sk : List Value} {h : zH} : zrun zpp E 104 (89, ls, .ref x :: sk, h) = (zfld [10] h x 7).bind (fun v => zrun zpp E 104 (92, ls, v :: sk, h)) := zg_getf rfl
theorem zi104_92 {E : zE} {a0 a1 a2 : Value} {x : Nat} {ls sk : List Value} {h : zH} : zrun zpp E 104 (92, ls, a2 :: a1 :: a0 :: .ref x :: sk, h) = (zcls h x).bind (fun d => (zsel d [1, 9, 2, 16, 3, 26, 4, 31, 7, 57]).bind (fun M' => zcl1 E 104 95 M' ls sk [.ref x, a0, a1, a2] h)) := zg_vir (as := [a0, a1, a2]) rfl rfl
theorem zi104_95 {E : zE} {ls sk : List Value} {h : zH} : zrun zpp E 104 (95, ls, sk, h) = zrun zpp E 104 (105, ls, sk, h) := zrun_at rfl
theorem zi104_98 {E : zE} {v0 v1 v2 v3 : Value} {x : Nat} {ls sk : List Value} {h : zH} : zrun zpp E 104 (98, v0 :: v1 :: v2 :: v3 :: .ref x :: ls, sk, h) = zrun zpp E 104 (100, v0 :: v1 :: v2 :: v3 :: .ref x :: ls, .ref x :: sk, h) := zrun_at rfl
theorem zi104_98n {E : zE} {v0 v1 v2 v3 : Value} {ls sk : List Value} {h : zH} : zrun zpp E 104 (98, v0 :: v1 :: v2 :: v3 :: .null :: ls, sk, h) = zrun zpp E 104 (100, v0 :: v1 :: v2 :: v3 :: .null :: ls, .null :: sk, h) := zrun_at rfl
theorem zi104_100 {E : zE} {v0 v1 v2 v3 v4 : Value} {x : Int32} {ls sk : List Value} {h : zH} : zrun zpp E 104 (100, v0 :: v1 :: v2 :: v3 :: v4 :: .int x :: ls, sk, h) = zrun zpp E 104 (102, v0 :: v1 :: v2 :: v3 :: v4 :: .int x :: ls, .int x :: sk, h) := zrun_at rfl
theorem zi104_102 {E : zE} {a0 : Value} {x : Nat} {ls sk : List Value} {h : zH} : zrun zpp E 104 (102, ls, a0 :: .ref x :: sk, h) = (zcls h x).bind (fun d => (zsel d [1, 10, 2, 21, 3, 21, 4, 58, 7, 58]).bind (fun M' => zcl1 E 104 105 M' ls sk [.ref x, a0] h)) := zg_vir (as := [a0]) rfl rfl
theorem zi104_105 {E : zE} {x : Int32} {ls sk : List Value} {h : zH} : zrun zpp E 104 (105, ls, [.int x], h) = some (some (.int x), h) := zrun_at rfl
-- 105 NineDown.stand
theorem zi105_0 {E : zE} {x : Nat} {ls sk : List Value} {h : zH} : zrun zpp E 105 (0, .ref x :: ls, sk, h) = zrun zpp E 105 (1, .ref x :: ls, .ref x :: sk, h) := zrun_at rfl
theorem zi105_0n {E : zE} {ls sk : List Value} {h : zH} : zrun zpp E 105 (0, .null :: ls, sk, h) = zrun zpp E 105 (1, .null :: ls, .null :: sk, h) := zrun_at rfl
theorem zi105_1 {E : zE} {x : Nat} {ls sk : List Value} {h : zH} : zrun zpp E 105 (1, ls, .ref x :: sk, h) = (zfld [10] h x 7).bind (fun v => zrun zpp E 105 (4, ls, v :: sk, h)) := zg_getf rfl
theorem zi105_4 {E : zE} {x : Nat} {ls sk : List Value} {h : zH} : zrun zpp E 105 (4, ls, .ref x :: sk, h) = (zcls h x).bind (fun d => (zsel d [9, 70]).bind (fun M' => zcl1 E 105 7 M' ls sk [.ref x] h)) := zg_vir (as := []) rfl rfl
theorem zi105_7 {E : zE} {x : Int32} {ls sk : List Value} {h : zH} : zrun zpp E 105 (7, ls, .int x :: sk, h) = if x = 0 then zrun zpp E 105 (10, ls, sk, h) else zrun zpp E 105 (13, ls, sk, h) := zrun_at rfl
theorem zi105_10 {E : zE} {ls sk : List Value} {h : zH} : zrun zpp E 105 (10, ls, sk, h) = zrun zpp E 105 (12, ls, .int (-1000002) :: sk, h) := zg_ldc rfl ci_m1000002
theorem zi105_12 {E : zE} {x : Int32} {ls sk : List Value} {h : zH} : zrun zpp E 105 (12, ls, [.int x], h) = some (some (.int x), h) := zrun_at rfl
theorem zi105_13 {E : zE} {v0 : Value} {x : Int32} {ls sk : List Value} {h : zH} : zrun zpp E 105 (13, v0 :: .int x :: ls, sk, h) = zrun zpp E 105 (14, v0 :: .int x :: ls, .int x :: sk, h) := zrun_at rfl
theorem zi105_14 {E : zE} {x : Int32} {ls sk : List Value} {h : zH} : zrun zpp E 105 (14, ls, .int x :: sk, h) = if x = 0 then zrun zpp E 105 (44, ls, sk, h) else if x = 1 then zrun zpp E 105 (52, ls, sk, h) else if x = 2 then zrun zpp E 105 (60, ls, sk, h) else if x = 3 then zrun zpp E 105 (68, ls, sk, h) else zrun zpp E 105 (76, ls, sk, h) := zrun_at rfl
theorem zi105_44 {E : zE} {x : Nat} {ls sk : List Value} {h : zH} : zrun zpp E 105 (44, .ref x :: ls, sk, h) = zrun zpp E 105 (45, .ref x :: ls, .ref x :: sk, h) := zrun_at rfl
theorem zi105_44n {E : zE} {ls sk : List Value} {h : zH} : zrun zpp E 105 (44, .null :: ls, sk, h) = zrun zpp E 105 (45, .null :: ls, .null :: sk, h) := zrun_at rfl
theorem zi105_45 {E : zE} {x : Nat} {ls sk : List Value} {h : zH} : zrun zpp E 105 (45, ls, .ref x :: sk, h) = (zfld [10] h x 7).bind (fun v => zrun zpp E 105 (48, ls, v :: sk, h)) := zg_getf rfl
theorem zi105_48 {E : zE} {x : Nat} {ls sk : List Value} {h : zH} : zrun zpp E 105 (48, ls, .ref x :: sk, h) = (zfld [9] h x 16).bind (fun v => zrun zpp E 105 (51, ls, v :: sk, h)) := zg_getf rfl
theorem zi105_51 {E : zE} {x : Int32} {ls sk : List Value} {h : zH} : zrun zpp E 105 (51, ls, [.int x], h) = some (some (.int x), h) := zrun_at rfl
theorem zi105_52 {E : zE} {x : Nat} {ls sk : List Value} {h : zH} : zrun zpp E 105 (52, .ref x :: ls, sk, h) = zrun zpp E 105 (53, .ref x :: ls, .ref x :: sk, h) := zrun_at rfl
theorem zi105_52n {E : zE} {ls sk : List Value} {h : zH} : zrun zpp E 105 (52, .null :: ls, sk, h) = zrun zpp E 105 (53, .null :: ls, .null :: sk, h) := zrun_at rfl
theorem zi105_53 {E : zE} {x : Nat} {ls sk : List Value} {h : zH} : zrun zpp E 105 (53, ls, .ref x :: sk, h) = (zfld [10] h x 7).bind (fun v => zrun zpp E 105 (56, ls, v :: sk, h)) := zg_getf rfl
theorem zi105_56 {E : zE} {x : Nat} {ls sk : List Value} {h : zH} : zrun zpp E 105 (56, ls, .ref x :: sk, h) = (zfld [9] h x 17).bind (fun v => zrun zpp E 105 (59, ls, v :: sk, h)) := zg_getf rfl
theorem zi105_59 {E : zE} {x : Int32} {ls sk : List Value} {h : zH} : zrun zpp E 105 (59, ls, [.int x], h) = some (some (.int x), h) := zrun_at rfl
theorem zi105_60 {E : zE} {x : Nat} {ls sk : List Value} {h : zH} : zrun zpp E 105 (60, .ref x :: ls, sk, h) = zrun zpp E 105 (61, .ref x :: ls, .ref x :: sk, h) := zrun_at rfl
theorem zi105_60n {E : zE} {ls sk : List Value} {h : zH} : zrun zpp E 105 (60, .null :: ls, sk, h) = zrun zpp E 105 (61, .null :: ls, .null :: sk, h) := zrun_at rfl
theorem zi105_61 {E : zE} {x : Nat} {ls sk : List Value} {h : zH} : zrun zpp E 105 (61, ls, .ref x :: sk, h) = (zfld [10] h x 7).bind (fun v => zrun zpp E 105 (64, ls, v :: sk, h)) := zg_getf rfl
theorem zi105_64 {E : zE} {x : Nat} {ls sk : List Value} {h : zH} : zrun zpp E 105 (64, ls, .ref x :: sk, h) = (zfld [9] h x 15).bind (fun v => zrun zpp E 105 (67, ls, v :: sk, h)) := zg_getf rfl
theorem zi105_67 {E : zE} {x : Int32} {ls sk : List Value} {h : zH} : zrun zpp E 105 (67, ls, [.int x], h) = some (some (.int x), h) := zrun_at rfl
theorem zi105_68 {E : zE} {x : Nat} {ls sk : List Value} {h : zH} : zrun zpp E 105 (68, .ref x :: ls, sk, h) = zrun zpp E 105 (69, .ref x :: ls, .ref x :: sk, h) := zrun_at rfl
theorem zi105_68n {E : zE} {ls sk : List Value} {h : zH} : zrun zpp E 105 (68, .null :: ls, sk, h) = zrun zpp E 105 (69, .null :: ls, .null :: sk, h) := zrun_at rfl
theorem zi105_69 {E : zE} {x : Nat} {ls sk : List Value} {h : zH} : zrun zpp E 105 (69, ls, .ref x :: sk, h) = (zfld [10] h x 7).bind (fun v => zrun zpp E 105 (72, ls, v :: sk, h)) := zg_getf rfl
theorem zi105_72 {E : zE} {x : Nat} {ls sk : List Value} {h : zH} : zrun zpp E 105 (72, ls, .ref x :: sk, h) = (zcls h x).bind (fun d => (zsel d [9, 78]).bind (fun M' => zcl1 E 105 75 M' ls sk [.ref x] h)) := zg_vir (as := []) rfl rfl
theorem zi105_75 {E : zE} {x : Int32} {ls sk : List Value} {h : zH} : zrun zpp E 105 (75, ls, [.int x], h) = some (some (.int x), h) := zrun_at rfl
theorem zi105_76 {E : zE} {ls sk : List Value} {h : zH} : zrun zpp E 105 (76, ls, sk, h) = zrun zpp E 105 (78, ls, .int (-1000001) :: sk, h) := zg_ldc rfl ci_m1000001
theorem zi105_78 {E : zE} {x : Int32} {ls sk : List Value} {h : zH} : zrun zpp E 105 (78, ls, [.int x], h) = some (some (.int x), h) := zrun_at rfl
-- 106 NineDown.soonest
theorem zi106_0 {E : zE} {x : Nat} {ls sk : List Value} {h : zH} : zrun zpp E 106 (0, .ref x :: ls, sk, h) = zrun zpp E 106 (1, .ref x :: ls, .ref x :: sk, h) := zrun_at rfl
theorem zi106_0n {E : zE} {ls sk : List Value} {h : zH} : zrun zpp E 106 (0, .null :: ls, sk, h) = zrun zpp E 106 (1, .null :: ls, .null :: sk, h) := zrun_at rfl
theorem zi106_1 {E : zE} {x : Nat} {ls sk : List Value} {h : zH} : zrun zpp E 106 (1, ls, .ref x :: sk, h) = (zfld [10] h x 7).bind (fun v => zrun zpp E 106 (4, ls, v :: sk, h)) := zg_getf rfl
theorem zi106_4 {E : zE} {x : Nat} {ls sk : List Value} {h : zH} : zrun zpp E 106 (4, ls, .ref x :: sk, h) = (zcls h x).bind (fun d => (zsel d [9, 70]).bind (fun M' => zcl1 E 106 7 M' ls sk [.ref x] h)) := zg_vir (as := []) rfl rfl
theorem zi106_7 {E : zE} {x : Int32} {ls sk : List Value} {h : zH} : zrun zpp E 106 (7, ls, .int x :: sk, h) = if x = 0 then zrun zpp E 106 (10, ls, sk, h) else zrun zpp E 106 (13, ls, sk, h) := zrun_at rfl
theorem zi106_10 {E : zE} {ls sk : List Value} {h : zH} : zrun zpp E 106 (10, ls, sk, h) = zrun zpp E 106 (12, ls, .int (-1000002) :: sk, h) := zg_ldc rfl ci_m1000002
theorem zi106_12 {E : zE} {x : Int32} {ls sk : List Value} {h : zH} : zrun zpp E 106 (12, ls, [.int x], h) = some (some (.int x), h) := zrun_at rfl
theorem zi106_13 {E : zE} {x : Nat} {ls sk : List Value} {h : zH} : zrun zpp E 106 (13, .ref x :: ls, sk, h) = zrun zpp E 106 (14, .ref x :: ls, .ref x :: sk, h) := zrun_at rfl
theorem zi106_13n {E : zE} {ls sk : List Value} {h : zH} : zrun zpp E 106 (13, .null :: ls, sk, h) = zrun zpp E 106 (14, .null :: ls, .null :: sk, h) := zrun_at rfl
theorem zi106_14 {E : zE} {v0 : Value} {x : Int32} {ls sk : List Value} {h : zH} : zrun zpp E 106 (14, v0 :: .int x :: ls, sk, h) = zrun zpp E 106 (15, v0 :: .int x :: ls, .int x :: sk, h) := zrun_at rfl
theorem zi106_15 {E : zE} {a0 : Value} {x : Nat} {ls sk : List Value} {h : zH} : zrun zpp E 106 (15, ls, a0 :: .ref x :: sk, h) = (zcls h x).bind (fun d => (zsel d [10, 132]).bind (fun M' => zcl1 E 106 18 M' ls sk [.ref x, a0] h)) := zg_vir (as := [a0]) rfl rfl
theorem zi106_18 {E : zE} {x : Int32} {ls sk : List Value} {h : zH} : zrun zpp E 106 (18, ls, .int x :: sk, h) = if x = 0 then zrun zpp E 106 (30, ls, sk, h) else zrun zpp E 106 (21, ls, sk, h) := zrun_at rfl
theorem zi106_21 {E : zE} {v0 v1 : Value} {x : Int32} {ls sk : List Value} {h : zH} : zrun zpp E 106 (21, v0 :: v1 :: .int x :: ls, sk, h) = zrun zpp E 106 (22, v0 :: v1 :: .int x :: ls, .int x :: sk, h) := zrun_at rfl
theorem zi106_22 {E : zE} {ls sk : List Value} {h : zH} : zrun zpp E 106 (22, ls, sk, h) = zrun zpp E 106 (23, ls, .int 0 :: sk, h) := zg_iconst rfl ci_0
theorem zi106_23 {E : zE} {ls sk : List Value} {h : zH} : zrun zpp E 106 (23, ls, sk, h) = zrun zpp E 106 (24, ls, .int 1 :: sk, h) := zg_iconst rfl ci_1
theorem zi106_24 {E : zE} {a0 a1 a2 : Value} {ls sk : List Value} {h : zH} : zrun zpp E 106 (24, ls, a2 :: a1 :: a0 :: sk, h) = zcl1 E 106 27 126 ls sk [a0, a1, a2] h := zg_inv (as := [a0, a1, a2]) rfl rfl
theorem zi106_27 {E : zE} {x : Int32} {ls sk : List Value} {h : zH} : zrun zpp E 106 (27, ls, .int x :: sk, h) = if x = 0 then zrun zpp E 106 (30, ls, sk, h) else zrun zpp E 106 (33, ls, sk, h) := zrun_at rfl
theorem zi106_30 {E : zE} {ls sk : List Value} {h : zH} : zrun zpp E 106 (30, ls, sk, h) = zrun zpp E 106 (32, ls, .int (-1000001) :: sk, h) := zg_ldc rfl ci_m1000001
theorem zi106_32 {E : zE} {x : Int32} {ls sk : List Value} {h : zH} : zrun zpp E 106 (32, ls, [.int x], h) = some (some (.int x), h) := zrun_at rfl
theorem zi106_33 {E : zE} {x : Nat} {ls sk : List Value} {h : zH} : zrun zpp E 106 (33, .ref x :: ls, sk, h) = zrun zpp E 106 (34, .ref x :: ls, .ref x :: sk, h) := zrun_at rfl
theorem zi106_33n {E : zE} {ls sk : List Value} {h : zH} : zrun zpp E 106 (33, .null :: ls, sk, h) = zrun zpp E 106 (34, .null :: ls, .null :: sk, h) := zrun_at rfl
theorem zi106_34 {E : zE} {v0 : Value} {x : Int32} {ls sk : List Value} {h : zH} : zrun zpp E 106 (34, v0 :: .int x :: ls, sk, h) = zrun zpp E 106 (35, v0 :: .int x :: ls, .int x :: sk, h) := zrun_at rfl
theorem zi106_35 {E : zE} {ls sk : List Value} {h : zH} : zrun zpp E 106 (35, ls, sk, h) = zrun zpp E 106 (36, ls, .int 0 :: sk, h) := zg_iconst rfl ci_0
theorem zi106_36 {E : zE} {a0 a1 : Value} {x : Nat} {ls sk : List Value} {h : zH} : zrun zpp E 106 (36, ls, a1 :: a0 :: .ref x :: sk, h) = (zcls h x).bind (fun d => (zsel d [10, 138]).bind (fun M' => zcl1 E 106 39 M' ls sk [.ref x, a0, a1] h)) := zg_vir (as := [a0, a1]) rfl rfl
theorem zi106_39 {E : zE} {x : Int32} {ls sk : List Value} {h : zH} : zrun zpp E 106 (39, ls, .int x :: sk, h) = if zfree ls 3 = true then zrun zpp E 106 (40, ls.set 3 (.int x), sk, h) else none := zg_ist rfl (fun _ _ _ => rfl)
theorem zi106_40 {E : zE} {v0 v1 v2 : Value} {x : Int32} {ls sk : List Value} {h : zH} : zrun zpp E 106 (40, v0 :: v1 :: v2 :: .int x :: ls, sk, h) = zrun zpp E 106 (41, v0 :: v1 :: v2 :: .int x :: ls, .int x :: sk, h) := zrun_at rfl
theorem zi106_41 {E : zE} {ls sk : List Value} {h : zH} : zrun zpp E 106 (41, ls, sk, h) = zrun zpp E 106 (43, ls, .int 268435456 :: sk, h) := zg_ldc rfl ci_268435456
theorem zi106_43 {E : zE} {x y : Int32} {ls sk : List Value} {h : zH} : zrun zpp E 106 (43, ls, .int y :: .int x :: sk, h) = if x < y then zrun zpp E 106 (49, ls, sk, h) else zrun zpp E 106 (46, ls, sk, h) := zrun_at rfl
theorem zi106_46 {E : zE} {ls sk : List Value} {h : zH} : zrun zpp E 106 (46, ls, sk, h) = zrun zpp E 106 (48, ls, .int (-1000000) :: sk, h) := zg_ldc rfl ci_m1000000
theorem zi106_48 {E : zE} {x : Int32} {ls sk : List Value} {h : zH} : zrun zpp E 106 (48, ls, [.int x], h) = some (some (.int x), h) := zrun_at rfl
theorem zi106_49 {E : zE} {v0 v1 : Value} {x : Int32} {ls sk : List Value} {h : zH} : zrun zpp E 106 (49, v0 :: v1 :: .int x :: ls, sk, h) = zrun zpp E 106 (50, v0 :: v1 :: .int x :: ls, .int x :: sk, h) := zrun_at rfl
theorem zi106_50 {E : zE} {x : Int32} {ls sk : List Value} {h : zH} : zrun zpp E 106 (50, ls, .int x :: sk, h) = if x = 0 then zrun zpp E 106 (53, ls, sk, h) else zrun zpp E 106 (57, ls, sk, h) := zrun_at rfl
theorem zi106_53 {E : zE} {v0 v1 v2 : Value} {x : Int32} {ls sk : List Value} {h : zH} : zrun zpp E 106 (53, v0 :: v1 :: v2 :: .int x :: ls, sk, h) = zrun zpp E 106 (54, v0 :: v1 :: v2 :: .int x :: ls, .int x :: sk, h) := zrun_at rfl
theorem zi106_54 {E : zE} {ls sk : List Value} {h : zH} : zrun zpp E 106 (54, ls, sk, h) = zrun zpp E 106 (63, ls, sk, h) := zrun_at rfl
theorem zi106_57 {E : zE} {x : Nat} {ls sk : List Value} {h : zH} : zrun zpp E 106 (57, .ref x :: ls, sk, h) = zrun zpp E 106 (58, .ref x :: ls, .ref x :: sk, h) := zrun_at rfl
theorem zi106_57n {E : zE} {ls sk : List Value} {h : zH} : zrun zpp E 106 (57, .null :: ls, sk, h) = zrun zpp E 106 (58, .null :: ls, .null :: sk, h) := zrun_at rfl
theorem zi106_58 {E : zE} {v0 : Value} {x : Int32} {ls sk : List Value} {h : zH} : zrun zpp E 106 (58, v0 :: .int x :: ls, sk, h) = zrun zpp E 106 (59, v0 :: .int x :: ls, .int x :: sk, h) := zrun_at rfl
theorem zi106_59 {E : zE} {ls sk : List Value} {h : zH} : zrun zpp E 106 (59, ls, sk, h) = zrun zpp E 106 (60, ls, .int 0 :: sk, h) := zg_iconst rfl ci_0
theorem zi106_60 {E : zE} {a0 a1 : Value} {x : Nat} {ls sk : List Value} {h : zH} : zrun zpp E 106 (60, ls, a1 :: a0 :: .ref x :: sk, h) = (zcls h x).bind (fun d => (zsel d [10, 142]).bind (fun M' => zcl1 E 106 63 M' ls sk [.ref x, a0, a1] h)) := zg_vir (as := [a0, a1]) rfl rfl
theorem zi106_63 {E : zE} {x : Int32} {ls sk : List Value} {h : zH} : zrun zpp E 106 (63, ls, [.int x], h) = some (some (.int x), h) := zrun_at rfl
-- 107 NineDown.gentlest
theorem zi107_0 {E : zE} {x : Nat} {ls sk : List Value} {h : zH} : zrun zpp E 107 (0, .ref x :: ls, sk, h) = zrun zpp E 107 (1, .ref x :: ls, .ref x :: sk, h) := zrun_at rfl
theorem zi107_0n {E : zE} {ls sk : List Value} {h : zH} : zrun zpp E 107 (0, .null :: ls, sk, h) = zrun zpp E 107 (1, .null :: ls, .null :: sk, h) := zrun_at rfl
theorem zi107_1 {E : zE} {x : Nat} {ls sk : List Value} {h : zH} : zrun zpp E 107 (1, ls, .ref x :: sk, h) = (zfld [10] h x 7).bind (fun v => zrun zpp E 107 (4, ls, v :: sk, h)) := zg_getf rfl
theorem zi107_4 {E : zE} {x : Nat} {ls sk : List Value} {h : zH} : zrun zpp E 107 (4, ls, .ref x :: sk, h) = (zcls h x).bind (fun d => (zsel d [9, 70]).bind (fun M' => zcl1 E 107 7 M' ls sk [.ref x] h)) := zg_vir (as := []) rfl rfl
theorem zi107_7 {E : zE} {x : Int32} {ls sk : List Value} {h : zH} : zrun zpp E 107 (7, ls, .int x :: sk, h) = if x = 0 then zrun zpp E 107 (10, ls, sk, h) else zrun zpp E 107 (13, ls, sk, h) := zrun_at rfl
theorem zi107_10 {E : zE} {ls sk : List Value} {h : zH} : zrun zpp E 107 (10, ls, sk, h) = zrun zpp E 107 (12, ls, .int (-1000002) :: sk, h) := zg_ldc rfl ci_m1000002
theorem zi107_12 {E : zE} {x : Int32} {ls sk : List Value} {h : zH} : zrun zpp E 107 (12, ls, [.int x], h) = some (some (.int x), h) := zrun_at rfl
theorem zi107_13 {E : zE} {x : Nat} {ls sk : List Value} {h : zH} : zrun zpp E 107 (13, .ref x :: ls, sk, h) = zrun zpp E 107 (14, .ref x :: ls, .ref x :: sk, h) := zrun_at rfl
theorem zi107_13n {E : zE} {ls sk : List Value} {h : zH} : zrun zpp E 107 (13, .null :: ls, sk, h) = zrun zpp E 107 (14, .null :: ls, .null :: sk, h) := zrun_at rfl
theorem zi107_14 {E : zE} {v0 : Value} {x : Int32} {ls sk : List Value} {h : zH} : zrun zpp E 107 (14, v0 :: .int x :: ls, sk, h) = zrun zpp E 107 (15, v0 :: .int x :: ls, .int x :: sk, h) := zrun_at rfl
theorem zi107_15 {E : zE} {a0 : Value} {x : Nat} {ls sk : List Value} {h : zH} : zrun zpp E 107 (15, ls, a0 :: .ref x :: sk, h) = (zcls h x).bind (fun d => (zsel d [10, 132]).bind (fun M' => zcl1 E 107 18 M' ls sk [.ref x, a0] h)) := zg_vir (as := [a0]) rfl rfl
theorem zi107_18 {E : zE} {x : Int32} {ls sk : List Value} {h : zH} : zrun zpp E 107 (18, ls, .int x :: sk, h) = if x = 0 then zrun zpp E 107 (30, ls, sk, h) else zrun zpp E 107 (21, ls, sk, h) := zrun_at rfl
theorem zi107_21 {E : zE} {v0 v1 : Value} {x : Int32} {ls sk : List Value} {h : zH} : zrun zpp E 107 (21, v0 :: v1 :: .int x :: ls, sk, h) = zrun zpp E 107 (22, v0 :: v1 :: .int x :: ls, .int x :: sk, h) := zrun_at rfl
theorem zi107_22 {E : zE} {ls sk : List Value} {h : zH} : zrun zpp E 107 (22, ls, sk, h) = zrun zpp E 107 (23, ls, .int 0 :: sk, h) := zg_iconst rfl ci_0
theorem zi107_23 {E : zE} {ls sk : List Value} {h : zH} : zrun zpp E 107 (23, ls, sk, h) = zrun zpp E 107 (24, ls, .int 2 :: sk, h) := zg_iconst rfl ci_2
theorem zi107_24 {E : zE} {a0 a1 a2 : Value} {ls sk : List Value} {h : zH} : zrun zpp E 107 (24, ls, a2 :: a1 :: a0 :: sk, h) = zcl1 E 107 27 126 ls sk [a0, a1, a2] h := zg_inv (as := [a0, a1, a2]) rfl rfl
theorem zi107_27 {E : zE} {x : Int32} {ls sk : List Value} {h : zH} : zrun zpp E 107 (27, ls, .int x :: sk, h) = if x = 0 then zrun zpp E 107 (30, ls, sk, h) else zrun zpp E 107 (33, ls, sk, h) := zrun_at rfl
theorem zi107_30 {E : zE} {ls sk : List Value} {h : zH} : zrun zpp E 107 (30, ls, sk, h) = zrun zpp E 107 (32, ls, .int (-1000001) :: sk, h) := zg_ldc rfl ci_m1000001
theorem zi107_32 {E : zE} {x : Int32} {ls sk : List Value} {h : zH} : zrun zpp E 107 (32, ls, [.int x], h) = some (some (.int x), h) := zrun_at rfl
theorem zi107_33 {E : zE} {x : Nat} {ls sk : List Value} {h : zH} : zrun zpp E 107 (33, .ref x :: ls, sk, h) = zrun zpp E 107 (34, .ref x :: ls, .ref x :: sk, h) := zrun_at rfl
theorem zi107_33n {E : zE} {ls sk : List Value} {h : zH} : zrun zpp E 107 (33, .null :: ls, sk, h) = zrun zpp E 107 (34, .null :: ls, .null :: sk, h) := zrun_at rfl
theorem zi107_34 {E : zE} {v0 : Value} {x : Int32} {ls sk : List Value} {h : zH} : zrun zpp E 107 (34, v0 :: .int x :: ls, sk, h) = zrun zpp E 107 (35, v0 :: .int x :: ls, .int x :: sk, h) := zrun_at rfl
theorem zi107_35 {E : zE} {ls sk : List Value} {h : zH} : zrun zpp E 107 (35, ls, sk, h) = zrun zpp E 107 (36, ls, .int 1 :: sk, h) := zg_iconst rfl ci_1
theorem zi107_36 {E : zE} {a0 a1 : Value} {x : Nat} {ls sk : List Value} {h : zH} : zrun zpp E 107 (36, ls, a1 :: a0 :: .ref x :: sk, h) = (zcls h x).bind (fun d => (zsel d [10, 138]).bind (fun M' => zcl1 E 107 39 M' ls sk [.ref x, a0, a1] h)) := zg_vir (as := [a0, a1]) rfl rfl
theorem zi107_39 {E : zE} {x : Int32} {ls sk : List Value} {h : zH} : zrun zpp E 107 (39, ls, .int x :: sk, h) = if zfree ls 3 = true then zrun zpp E 107 (40, ls.set 3 (.int x), sk, h) else none := zg_ist rfl (fun _ _ _ => rfl)
theorem zi107_40 {E : zE} {v0 v1 v2 : Value} {x : Int32} {ls sk : List Value} {h : zH} : zrun zpp E 107 (40, v0 :: v1 :: v2 :: .int x :: ls, sk, h) = zrun zpp E 107 (41, v0 :: v1 :: v2 :: .int x :: ls, .int x :: sk, h) := zrun_at rfl
theorem zi107_41 {E : zE} {ls sk : List Value} {h : zH} : zrun zpp E 107 (41, ls, sk, h) = zrun zpp E 107 (43, ls, .int 268435456 :: sk, h) := zg_ldc rfl ci_268435456
theorem zi107_43 {E : zE} {x y : Int32} {ls sk : List Value} {h : zH} : zrun zpp E 107 (43, ls, .int y :: .int x :: sk, h) = if x < y then zrun zpp E 107 (49, ls, sk, h) else zrun zpp E 107 (46, ls, sk, h) := zrun_at rfl
theorem zi107_46 {E : zE} {ls sk : List Value} {h : zH} : zrun zpp E 107 (46, ls, sk, h) = zrun zpp E 107 (48, ls, .int (-1000000) :: sk, h) := zg_ldc rfl ci_m1000000
theorem zi107_48 {E : zE} {x : Int32} {ls sk : List Value} {h : zH} : zrun zpp E 107 (48, ls, [.int x], h) = some (some (.int x), h) := zrun_at rfl
theorem zi107_49 {E : zE} {v0 v1 : Value} {x : Int32} {ls sk : List Value} {h : zH} : zrun zpp E 107 (49, v0 :: v1 :: .int x :: ls, sk, h) = zrun zpp E 107 (50, v0 :: v1 :: .int x :: ls, .int x :: sk, h) := zrun_at rfl
theorem zi107_50 {E : zE} {ls sk : List Value} {h : zH} : zrun zpp E 107 (50, ls, sk, h) = zrun zpp E 107 (51, ls, .int 2 :: sk, h) := zg_iconst rfl ci_2
theorem zi107_51 {E : zE} {x y : Int32} {ls sk : List Value} {h : zH} : zrun zpp E 107 (51, ls, .int y :: .int x :: sk, h) = if x = y then zrun zpp E 107 (54, ls, sk, h) else zrun zpp E 107 (61, ls, sk, h) := zrun_at rfl
theorem zi107_54 {E : zE} {x : Nat} {ls sk : List Value} {h : zH} : zrun zpp E 107 (54, .ref x :: ls, sk, h) = zrun zpp E 107 (55, .ref x :: ls, .ref x :: sk, h) := zrun_at rfl
theorem zi107_54n {E : zE} {ls sk : List Value} {h : zH} : zrun zpp E 107 (54, .null :: ls, sk, h) = zrun zpp E 107 (55, .null :: ls, .null :: sk, h) := zrun_at rfl
theorem zi107_55 {E : zE} {v0 : Value} {x : Int32} {ls sk : List Value} {h : zH} : zrun zpp E 107 (55, v0 :: .int x :: ls, sk, h) = zrun zpp E 107 (56, v0 :: .int x :: ls, .int x :: sk, h) := zrun_at rfl
theorem zi107_56 {E : zE} {ls sk : List Value} {h : zH} : zrun zpp E 107 (56, ls, sk, h) = zrun zpp E 107 (57, ls, .int 1 :: sk, h) := zg_iconst rfl ci_1
theorem zi107_57 {E : zE} {a0 a1 : Value} {x : Nat} {ls sk : List Value} {h : zH} : zrun zpp E 107 (57, ls, a1 :: a0 :: .ref x :: sk, h) = (zcls h x).bind (fun d => (zsel d [10, 142]).bind (fun M' => zcl1 E 107 60 M' ls sk [.ref x, a0, a1] h)) := zg_vir (as := [a0, a1]) rfl rfl
theorem zi107_60 {E : zE} {x : Int32} {ls sk : List Value} {h : zH} : zrun zpp E 107 (60, ls, [.int x], h) = some (some (.int x), h) := zrun_at rfl
theorem zi107_61 {E : zE} {v0 v1 : Value} {x : Int32} {ls sk : List Value} {h : zH} : zrun zpp E 107 (61, v0 :: v1 :: .int x :: ls, sk, h) = zrun zpp E 107 (62, v0 :: v1 :: .int x :: ls, .int x :: sk, h) := zrun_at rfl
theorem zi107_62 {E : zE} {x : Int32} {ls sk : List Value} {h : zH} : zrun zpp E 107 (62, ls, .int x :: sk, h) = if x = 0 then zrun zpp E 107 (65, ls, sk, h) else zrun zpp E 107 (73, ls, sk, h) := zrun_at rfl
theorem zi107_65 {E : zE} {v0 v1 v2 : Value} {x : Int32} {ls sk : List Value} {h : zH} : zrun zpp E 107 (65, v0 :: v1 :: v2 :: .int x :: ls, sk, h) = zrun zpp E 107 (66, v0 :: v1 :: v2 :: .int x :: ls, .int x :: sk, h) := zrun_at rfl
theorem zi107_66 {E : zE} {ls sk : List Value} {h : zH} : zrun zpp E 107 (66, ls, sk, h) = zrun zpp E 107 (69, ls, .int 4096 :: sk, h) := zg_sipush rfl ci_4096
theorem zi107_69 {E : zE} {x y : Int32} {ls sk : List Value} {h : zH} : zrun zpp E 107 (69, ls, .int y :: .int x :: sk, h) = if y = 0 then none else zrun zpp E 107 (70, ls, .int (x / y) :: sk, h) := zrun_at rfl
theorem zi107_70 {E : zE} {ls sk : List Value} {h : zH} : zrun zpp E 107 (70, ls, sk, h) = zrun zpp E 107 (78, ls, sk, h) := zrun_at rfl
theorem zi107_73 {E : zE} {v0 v1 v2 : Value} {x : Int32} {ls sk : List Value} {h : zH} : zrun zpp E 107 (73, v0 :: v1 :: v2 :: .int x :: ls, sk, h) = zrun zpp E 107 (74, v0 :: v1 :: v2 :: .int x :: ls, .int x :: sk, h) := zrun_at rfl
theorem zi107_74 {E : zE} {ls sk : List Value} {h : zH} : zrun zpp E 107 (74, ls, sk, h) = zrun zpp E 107 (77, ls, .int 4096 :: sk, h) := zg_sipush rfl ci_4096
theorem zi107_77 {E : zE} {x y : Int32} {ls sk : List Value} {h : zH} : zrun zpp E 107 (77, ls, .int y :: .int x :: sk, h) = if y = 0 then none else zrun zpp E 107 (78, ls, .int (x - x / y * y) :: sk, h) := zrun_at rfl
theorem zi107_78 {E : zE} {x : Int32} {ls sk : List Value} {h : zH} : zrun zpp E 107 (78, ls, [.int x], h) = some (some (.int x), h) := zrun_at rfl
-- 108 NineDown.never
theorem zi108_0 {E : zE} {x : Nat} {ls sk : List Value} {h : zH} : zrun zpp E 108 (0, .ref x :: ls, sk, h) = zrun zpp E 108 (1, .ref x :: ls, .ref x :: sk, h) := zrun_at rfl
theorem zi108_0n {E : zE} {ls sk : List Value} {h : zH} : zrun zpp E 108 (0, .null :: ls, sk, h) = zrun zpp E 108 (1, .null :: ls, .null :: sk, h) := zrun_at rfl
theorem zi108_1 {E : zE} {x : Nat} {ls sk : List Value} {h : zH} : zrun zpp E 108 (1, ls, .ref x :: sk, h) = (zfld [10] h x 7).bind (fun v => zrun zpp E 108 (4, ls, v :: sk, h)) := zg_getf rfl
theorem zi108_4 {E : zE} {x : Nat} {ls sk : List Value} {h : zH} : zrun zpp E 108 (4, ls, .ref x :: sk, h) = (zcls h x).bind (fun d => (zsel d [9, 70]).bind (fun M' => zcl1 E 108 7 M' ls sk [.ref x] h)) := zg_vir (as := []) rfl rfl
theorem zi108_7 {E : zE} {x : Int32} {ls sk : List Value} {h : zH} : zrun zpp E 108 (7, ls, .int x :: sk, h) = if x = 0 then zrun zpp E 108 (10, ls, sk, h) else zrun zpp E 108 (13, ls, sk, h) := zrun_at rfl
theorem zi108_10 {E : zE} {ls sk : List Value} {h : zH} : zrun zpp E 108 (10, ls, sk, h) = zrun zpp E 108 (12, ls, .int (-1000002) :: sk, h) := zg_ldc rfl ci_m1000002
theorem zi108_12 {E : zE} {x : Int32} {ls sk : List Value} {h : zH} : zrun zpp E 108 (12, ls, [.int x], h) = some (some (.int x), h) := zrun_at rfl
theorem zi108_13 {E : zE} {x : Nat} {ls sk : List Value} {h : zH} : zrun zpp E 108 (13, .ref x :: ls, sk, h) = zrun zpp E 108 (14, .ref x :: ls, .ref x :: sk, h) := zrun_at rfl
theorem zi108_13n {E : zE} {ls sk : List Value} {h : zH} : zrun zpp E 108 (13, .null :: ls, sk, h) = zrun zpp E 108 (14, .null :: ls, .null :: sk, h) := zrun_at rfl
theorem zi108_14 {E : zE} {v0 : Value} {x : Int32} {ls sk : List Value} {h : zH} : zrun zpp E 108 (14, v0 :: .int x :: ls, sk, h) = zrun zpp E 108 (15, v0 :: .int x :: ls, .int x :: sk, h) := zrun_at rfl
theorem zi108_15 {E : zE} {a0 : Value} {x : Nat} {ls sk : List Value} {h : zH} : zrun zpp E 108 (15, ls, a0 :: .ref x :: sk, h) = (zcls h x).bind (fun d => (zsel d [10, 132]).bind (fun M' => zcl1 E 108 18 M' ls sk [.ref x, a0] h)) := zg_vir (as := [a0]) rfl rfl
theorem zi108_18 {E : zE} {x : Int32} {ls sk : List Value} {h : zH} : zrun zpp E 108 (18, ls, .int x :: sk, h) = if x = 0 then zrun zpp E 108 (32, ls, sk, h) else zrun zpp E 108 (21, ls, sk, h) := zrun_at rfl
theorem zi108_21 {E : zE} {x : Nat} {ls sk : List Value} {h : zH} : zrun zpp E 108 (21, .ref x :: ls, sk, h) = zrun zpp E 108 (22, .ref x :: ls, .ref x :: sk, h) := zrun_at rfl
theorem zi108_21n {E : zE} {ls sk : List Value} {h : zH} : zrun zpp E 108 (21, .null :: ls, sk, h) = zrun zpp E 108 (22, .null :: ls, .null :: sk, h) := zrun_at rfl
theorem zi108_22 {E : zE} {x : Nat} {ls sk : List Value} {h : zH} : zrun zpp E 108 (22, ls, .ref x :: sk, h) = (zfld [10] h x 7).bind (fun v => zrun zpp E 108 (25, ls, v :: sk, h)) := zg_getf rfl
theorem zi108_25 {E : zE} {v0 : Value} {x : Int32} {ls sk : List Value} {h : zH} : zrun zpp E 108 (25, v0 :: .int x :: ls, sk, h) = zrun zpp E 108 (26, v0 :: .int x :: ls, .int x :: sk, h) := zrun_at rfl
theorem zi108_26 {E : zE} {a0 : Value} {x : Nat} {ls sk : List Value} {h : zH} : zrun zpp E 108 (26, ls, a0 :: .ref x :: sk, h) = (zcls h x).bind (fun d => (zsel d [9, 83]).bind (fun M' => zcl1 E 108 29 M' ls sk [.ref x, a0] h)) := zg_vir (as := [a0]) rfl rfl
theorem zi108_29 {E : zE} {ls sk : List Value} {h : zH} : zrun zpp E 108 (29, ls, sk, h) = zrun zpp E 108 (34, ls, sk, h) := zrun_at rfl
theorem zi108_32 {E : zE} {ls sk : List Value} {h : zH} : zrun zpp E 108 (32, ls, sk, h) = zrun zpp E 108 (34, ls, .int (-1000001) :: sk, h) := zg_ldc rfl ci_m1000001
theorem zi108_34 {E : zE} {x : Int32} {ls sk : List Value} {h : zH} : zrun zpp E 108 (34, ls, [.int x], h) = some (some (.int x), h) := zrun_at rfl
-- 109 NineDown.fetch
theorem zi109_0 {E : zE} {x : Nat} {ls sk : List Value} {h : zH} : zrun zpp E 109 (0, .ref x :: ls, sk, h) = zrun zpp E 109 (1, .ref x :: ls, .ref x :: sk, h) := zrun_at rfl
theorem zi109_0n {E : zE} {ls sk : List Value} {h : zH} : zrun zpp E 109 (0, .null :: ls, sk, h) = zrun zpp E 109 (1, .null :: ls, .null :: sk, h) := zrun_at rfl
theorem zi109_1 {E : zE} {x : Nat} {ls sk : List Value} {h : zH} : zrun zpp E 109 (1, ls, .ref x :: sk, h) = (zfld [10] h x 7).bind (fun v => zrun zpp E 109 (4, ls, v :: sk, h)) := zg_getf rfl
theorem zi109_4 {E : zE} {x : Nat} {ls sk : List Value} {h : zH} : zrun zpp E 109 (4, ls, .ref x :: sk, h) = (zcls h x).bind (fun d => (zsel d [9, 70]).bind (fun M' => zcl1 E 109 7 M' ls sk [.ref x] h)) := zg_vir (as := []) rfl rfl
theorem zi109_7 {E : zE} {x : Int32} {ls sk : List Value} {h : zH} : zrun zpp E 109 (7, ls, .int x :: sk, h) = if x = 0 then zrun zpp E 109 (10, ls, sk, h) else zrun zpp E 109 (13, ls, sk, h) := zrun_at rfl
theorem zi109_10 {E : zE} {ls sk : List Value} {h : zH} : zrun zpp E 109 (10, ls, sk, h) = zrun zpp E 109 (12, ls, .int (-1000002) :: sk, h) := zg_ldc rfl ci_m1000002
theorem zi109_12 {E : zE} {x : Int32} {ls sk : List Value} {h : zH} : zrun zpp E 109 (12, ls, [.int x], h) = some (some (.int x), h) := zrun_at rfl
theorem zi109_13 {E : zE} {v0 : Value} {x : Int32} {ls sk : List Value} {h : zH} : zrun zpp E 109 (13, v0 :: .int x :: ls, sk, h) = zrun zpp E 109 (14, v0 :: .int x :: ls, .int x :: sk, h) := zrun_at rfl
theorem zi109_14 {E : zE} {ls sk : List Value} {h : zH} : zrun zpp E 109 (14, ls, sk, h) = zrun zpp E 109 (15, ls, .int 0 :: sk, h) := zg_iconst rfl ci_0
theorem zi109_15 {E : zE} {ls sk : List Value} {h : zH} : zrun zpp E 109 (15, ls, sk, h) = zrun zpp E 109 (16, ls, .int 1 :: sk, h) := zg_iconst rfl ci_1
theorem zi109_16 {E : zE} {a0 a1 a2 : Value} {ls sk : List Value} {h : zH} : zrun zpp E 109 (16, ls, a2 :: a1 :: a0 :: sk, h) = zcl1 E 109 19 126 ls sk [a0, a1, a2] h := zg_inv (as := [a0, a1, a2]) rfl rfl
theorem zi109_19 {E : zE} {x : Int32} {ls sk : List Value} {h : zH} : zrun zpp E 109 (19, ls, .int x :: sk, h) = if x = 0 then zrun zpp E 109 (22, ls, sk, h) else zrun zpp E 109 (25, ls, sk, h) := zrun_at rfl
theorem zi109_22 {E : zE} {ls sk : List Value} {h : zH} : zrun zpp E 109 (22, ls, sk, h) = zrun zpp E 109 (24, ls, .int (-1000001) :: sk, h) := zg_ldc rfl ci_m1000001
theorem zi109_24 {E : zE} {x : Int32} {ls sk : List Value} {h : zH} : zrun zpp E 109 (24, ls, [.int x], h) = some (some (.int x), h) := zrun_at rfl
theorem zi109_25 {E : zE} {ls sk : List Value} {h : zH} : zrun zpp E 109 (25, ls, sk, h) = zrun zpp E 109 (27, ls, .int (-1000000) :: sk, h) := zg_ldc rfl ci_m1000000
theorem zi109_27 {E : zE} {x : Int32} {ls sk : List Value} {h : zH} : zrun zpp E 109 (27, ls, .int x :: sk, h) = if zfree ls 2 = true then zrun zpp E 109 (28, ls.set 2 (.int x), sk, h) else none := zg_ist rfl (fun _ _ _ => rfl)
theorem zi109_28 {E : zE} {ls sk : List Value} {h : zH} : zrun zpp E 109 (28, ls, sk, h) = zrun zpp E 109 (29, ls, .int 0 :: sk, h) := zg_iconst rfl ci_0
theorem zi109_29 {E : zE} {x : Int32} {ls sk : List Value} {h : zH} : zrun zpp E 109 (29, ls, .int x :: sk, h) = if zfree ls 3 = true then zrun zpp E 109 (30, ls.set 3 (.int x), sk, h) else none := zg_ist rfl (fun _ _ _ => rfl)
theorem zi109_30 {E : zE} {v0 v1 v2 : Value} {x : Int32} {ls sk : List Value} {h : zH} : zrun zpp E 109 (30, v0 :: v1 :: v2 :: .int x :: ls, sk, h) = zrun zpp E 109 (31, v0 :: v1 :: v2 :: .int x :: ls, .int x :: sk, h) := zrun_at rfl
theorem zi109_31 {E : zE} {ls sk : List Value} {h : zH} : zrun zpp E 109 (31, ls, sk, h) = zrun zpp E 109 (32, ls, .int 1 :: sk, h) := zg_iconst rfl ci_1
theorem zi109_32 {E : zE} {x : Nat} {ls sk : List Value} {h : zH} : zrun zpp E 109 (32, .ref x :: ls, sk, h) = zrun zpp E 109 (33, .ref x :: ls, .ref x :: sk, h) := zrun_at rfl
theorem zi109_32n {E : zE} {ls sk : List Value} {h : zH} : zrun zpp E 109 (32, .null :: ls, sk, h) = zrun zpp E 109 (33, .null :: ls, .null :: sk, h) := zrun_at rfl
theorem zi109_33 {E : zE} {x : Nat} {ls sk : List Value} {h : zH} : zrun zpp E 109 (33, ls, .ref x :: sk, h) = (zfld [10] h x 7).bind (fun v => zrun zpp E 109 (36, ls, v :: sk, h)) := zg_getf rfl
theorem zi109_36 {E : zE} {x : Nat} {ls sk : List Value} {h : zH} : zrun zpp E 109 (36, ls, .ref x :: sk, h) = (zfld [9] h x 5).bind (fun v => zrun zpp E 109 (39, ls, v :: sk, h)) := zg_getf rfl
theorem zi109_39 {E : zE} {x y : Int32} {ls sk : List Value} {h : zH} : zrun zpp E 109 (39, ls, .int y :: .int x :: sk, h) = zrun zpp E 109 (40, ls, .int (x <<< (y &&& 31)) :: sk, h) := zrun_at rfl
theorem zi109_40 {E : zE} {x y : Int32} {ls sk : List Value} {h : zH} : zrun zpp E 109 (40, ls, .int y :: .int x :: sk, h) = if y ≤ x then zrun zpp E 109 (91, ls, sk, h) else zrun zpp E 109 (43, ls, sk, h) := zrun_at rfl
theorem zi109_43 {E : zE} {v0 v1 : Value} {x : Int32} {ls sk : List Value} {h : zH} : zrun zpp E 109 (43, v0 :: v1 :: .int x :: ls, sk, h) = zrun zpp E 109 (44, v0 :: v1 :: .int x :: ls, .int x :: sk, h) := zrun_at rfl
theorem zi109_44 {E : zE} {ls sk : List Value} {h : zH} : zrun zpp E 109 (44, ls, sk, h) = zrun zpp E 109 (46, ls, .int (-1000000) :: sk, h) := zg_ldc rfl ci_m1000000
theorem zi109_46 {E : zE} {x y : Int32} {ls sk : List Value} {h : zH} : zrun zpp E 109 (46, ls, .int y :: .int x :: sk, h) = if x = y then zrun zpp E 109 (60, ls, sk, h) else zrun zpp E 109 (49, ls, sk, h) := zrun_at rfl
theorem zi109_49 {E : zE} {v0 v1 v2 : Value} {x : Int32} {ls sk : List Value} {h : zH} : zrun zpp E 109 (49, v0 :: v1 :: v2 :: .int x :: ls, sk, h) = zrun zpp E 109 (50, v0 :: v1 :: v2 :: .int x :: ls, .int x :: sk, h) := zrun_at rfl
theorem zi109_50 {E : zE} {a0 : Value} {ls sk : List Value} {h : zH} : zrun zpp E 109 (50, ls, a0 :: sk, h) = zcl1 E 109 53 230 ls sk [a0] h := zg_inv (as := [a0]) rfl rfl
theorem zi109_53 {E : zE} {v0 v1 : Value} {x : Int32} {ls sk : List Value} {h : zH} : zrun zpp E 109 (53, v0 :: v1 :: .int x :: ls, sk, h) = zrun zpp E 109 (54, v0 :: v1 :: .int x :: ls, .int x :: sk, h) := zrun_at rfl
theorem zi109_54 {E : zE} {a0 : Value} {ls sk : List Value} {h : zH} : zrun zpp E 109 (54, ls, a0 :: sk, h) = zcl1 E 109 57 230 ls sk [a0] h := zg_inv (as := [a0]) rfl rfl
theorem zi109_57 {E : zE} {x y : Int32} {ls sk : List Value} {h : zH} : zrun zpp E 109 (57, ls, .int y :: .int x :: sk, h) = if y ≤ x then zrun zpp E 109 (64, ls, sk, h) else zrun zpp E 109 (60, ls, sk, h) := zrun_at rfl
theorem zi109_60 {E : zE} {ls sk : List Value} {h : zH} : zrun zpp E 109 (60, ls, sk, h) = zrun zpp E 109 (61, ls, .int 1 :: sk, h) := zg_iconst rfl ci_1
theorem zi109_61 {E : zE} {ls sk : List Value} {h : zH} : zrun zpp E 109 (61, ls, sk, h) = zrun zpp E 109 (65, ls, sk, h) := zrun_at rfl
theorem zi109_64 {E : zE} {ls sk : List Value} {h : zH} : zrun zpp E 109 (64, ls, sk, h) = zrun zpp E 109 (65, ls, .int 0 :: sk, h) := zg_iconst rfl ci_0
theorem zi109_65 {E : zE} {x : Int32} {ls sk : List Value} {h : zH} : zrun zpp E 109 (65, ls, .int x :: sk, h) = if zfree ls 4 = true then zrun zpp E 109 (67, ls.set 4 (.int x), sk, h) else none := zg_ist rfl (fun _ _ _ => rfl)
theorem zi109_67 {E : zE} {v0 v1 v2 v3 : Value} {x : Int32} {ls sk : List Value} {h : zH} : zrun zpp E 109 (67, v0 :: v1 :: v2 :: v3 :: .int x :: ls, sk, h) = zrun zpp E 109 (69, v0 :: v1 :: v2 :: v3 :: .int x :: ls, .int x :: sk, h) := zrun_at rfl
theorem zi109_69 {E : zE} {x : Int32} {ls sk : List Value} {h : zH} : zrun zpp E 109 (69, ls, .int x :: sk, h) = if x = 0 then zrun zpp E 109 (85, ls, sk, h) else zrun zpp E 109 (72, ls, sk, h) := zrun_at rfl
theorem zi109_72 {E : zE} {x : Nat} {ls sk : List Value} {h : zH} : zrun zpp E 109 (72, .ref x :: ls, sk, h) = zrun zpp E 109 (73, .ref x :: ls, .ref x :: sk, h) := zrun_at rfl
theorem zi109_72n {E : zE} {ls sk : List Value} {h : zH} : zrun zpp E 109 (72, .null :: ls, sk, h) = zrun zpp E 109 (73, .null :: ls, .null :: sk, h) := zrun_at rfl
theorem zi109_73 {E : zE} {x : Nat} {ls sk : List Value} {h : zH} : zrun zpp E 109 (73, ls, .ref x :: sk, h) = (zfld [10] h x 7).bind (fun v => zrun zpp E 109 (76, ls, v :: sk, h)) := zg_getf rfl
theorem zi109_76 {E : zE} {v0 v1 v2 : Value} {x : Int32} {ls sk : List Value} {h : zH} : zrun zpp E 109 (76, v0 :: v1 :: v2 :: .int x :: ls, sk, h) = zrun zpp E 109 (77, v0 :: v1 :: v2 :: .int x :: ls, .int x :: sk, h) := zrun_at rfl
theorem zi109_77 {E : zE} {a0 : Value} {x : Nat} {ls sk : List Value} {h : zH} : zrun zpp E 109 (77, ls, a0 :: .ref x :: sk, h) = (zcls h x).bind (fun d => (zsel d [9, 83]).bind (fun M' => zcl1 E 109 80 M' ls sk [.ref x, a0] h)) := zg_vir (as := [a0]) rfl rfl
theorem zi109_80 {E : zE} {x : Int32} {ls sk : List Value} {h : zH} : zrun zpp E 109 (80, ls, .int x :: sk, h) = if x = 0 then zrun zpp E 109 (83, ls, sk, h) else zrun zpp E 109 (85, ls, sk, h) := zrun_at rfl
theorem zi109_83 {E : zE} {v0 v1 v2 : Value} {x : Int32} {ls sk : List Value} {h : zH} : zrun zpp E 109 (83, v0 :: v1 :: v2 :: .int x :: ls, sk, h) = zrun zpp E 109 (84, v0 :: v1 :: v2 :: .int x :: ls, .int x :: sk, h) := zrun_at rfl
theorem zi109_84 {E : zE} {x : Int32} {ls sk : List Value} {h : zH} : zrun zpp E 109 (84, ls, .int x :: sk, h) = if zfree ls 2 = true then zrun zpp E 109 (85, ls.set 2 (.int x), sk, h) else none := zg_ist rfl (fun _ _ _ => rfl)
theorem zi109_85 {E : zE} {v0 v1 v2 : Value} {x : Int32} {ls sk : List Value} {h : zH} : zrun zpp E 109 (85, v0 :: v1 :: v2 :: .int x :: ls, sk, h) = if zfree (v0 :: v1 :: v2 :: .int x :: ls) 3 = true then zrun zpp E 109 (88, v0 :: v1 :: v2 :: .int (x + 1) :: ls, sk, h) else none := by rw [← ci_1]; exact zrun_at rfl
theorem zi109_88 {E : zE} {ls sk : List Value} {h : zH} : zrun zpp E 109 (88, ls, sk, h) = zrun zpp E 109 (30, ls, sk, h) := zrun_at rfl
theorem zi109_91 {E : zE} {v0 : Value} {x : Int32} {ls sk : List Value} {h : zH} : zrun zpp E 109 (91, v0 :: .int x :: ls, sk, h) = zrun zpp E 109 (92, v0 :: .int x :: ls, .int x :: sk, h) := zrun_at rfl
theorem zi109_92 {E : zE} {x : Int32} {ls sk : List Value} {h : zH} : zrun zpp E 109 (92, ls, .int x :: sk, h) = if x = 0 then zrun zpp E 109 (95, ls, sk, h) else zrun zpp E 109 (108, ls, sk, h) := zrun_at rfl
theorem zi109_95 {E : zE} {v0 v1 : Value} {x : Int32} {ls sk : List Value} {h : zH} : zrun zpp E 109 (95, v0 :: v1 :: .int x :: ls, sk, h) = zrun zpp E 109 (96, v0 :: v1 :: .int x :: ls, .int x :: sk, h) := zrun_at rfl
theorem zi109_96 {E : zE} {ls sk : List Value} {h : zH} : zrun zpp E 109 (96, ls, sk, h) = zrun zpp E 109 (98, ls, .int (-1000000) :: sk, h) := zg_ldc rfl ci_m1000000
theorem zi109_98 {E : zE} {x y : Int32} {ls sk : List Value} {h : zH} : zrun zpp E 109 (98, ls, .int y :: .int x :: sk, h) = if x = y then zrun zpp E 109 (108, ls, sk, h) else zrun zpp E 109 (101, ls, sk, h) := zrun_at rfl
theorem zi109_101 {E : zE} {v0 v1 : Value} {x : Int32} {ls sk : List Value} {h : zH} : zrun zpp E 109 (101, v0 :: v1 :: .int x :: ls, sk, h) = zrun zpp E 109 (102, v0 :: v1 :: .int x :: ls, .int x :: sk, h) := zrun_at rfl
theorem zi109_102 {E : zE} {a0 : Value} {ls sk : List Value} {h : zH} : zrun zpp E 109 (102, ls, a0 :: sk, h) = zcl1 E 109 105 230 ls sk [a0] h := zg_inv (as := [a0]) rfl rfl
theorem zi109_105 {E : zE} {ls sk : List Value} {h : zH} : zrun zpp E 109 (105, ls, sk, h) = zrun zpp E 109 (109, ls, sk, h) := zrun_at rfl
theorem zi109_108 {E : zE} {v0 v1 : Value} {x : Int32} {ls sk : List Value} {h : zH} : zrun zpp E 109 (108, v0 :: v1 :: .int x :: ls, sk, h) = zrun zpp E 109 (109, v0 :: v1 :: .int x :: ls, .int x :: sk, h) := zrun_at rfl
theorem zi109_109 {E : zE} {x : Int32} {ls sk : List Value} {h : zH} : zrun zpp E 109 (109, ls, [.int x], h) = some (some (.int x), h) := zrun_at rfl
-- 110 NineDown.layer
theorem zi110_0 {E : zE} {x : Nat} {ls sk : List Value} {h : zH} : zrun zpp E 110 (0, .ref x :: ls, sk, h) = zrun zpp E 110 (1, .ref x :: ls, .ref x :: sk, h) := zrun_at rfl
theorem zi110_0n {E : zE} {ls sk : List Value} {h : zH} : zrun zpp E 110 (0, .null :: ls, sk, h) = zrun zpp E 110 (1, .null :: ls, .null :: sk, h) := zrun_at rfl
theorem zi110_1 {E : zE} {x : Nat} {ls sk : List Value} {h : zH} : zrun zpp E 110 (1, ls, .ref x :: sk, h) = (zfld [10] h x 7).bind (fun v => zrun zpp E 110 (4, ls, v :: sk, h)) := zg_getf rfl
theorem zi110_4 {E : zE} {v0 : Value} {x : Int32} {ls sk : List Value} {h : zH} : zrun zpp E 110 (4, v0 :: .int x :: ls, sk, h) = zrun zpp E 110 (5, v0 :: .int x :: ls, .int x :: sk, h) := zrun_at rfl
theorem zi110_5 {E : zE} {a0 : Value} {x : Nat} {ls sk : List Value} {h : zH} : zrun zpp E 110 (5, ls, a0 :: .ref x :: sk, h) = (zcls h x).bind (fun d => (zsel d [9, 71]).bind (fun M' => zcl1 E 110 8 M' ls sk [.ref x, a0] h)) := zg_vir (as := [a0]) rfl rfl
theorem zi110_8 {E : zE} {x : Int32} {ls sk : List Value} {h : zH} : zrun zpp E 110 (8, ls, .int x :: sk, h) = if x = 0 then zrun zpp E 110 (22, ls, sk, h) else zrun zpp E 110 (11, ls, sk, h) := zrun_at rfl
theorem zi110_11 {E : zE} {x : Nat} {ls sk : List Value} {h : zH} : zrun zpp E 110 (11, .ref x :: ls, sk, h) = zrun zpp E 110 (12, .ref x :: ls, .ref x :: sk, h) := zrun_at rfl
theorem zi110_11n {E : zE} {ls sk : List Value} {h : zH} : zrun zpp E 110 (11, .null :: ls, sk, h) = zrun zpp E 110 (12, .null :: ls, .null :: sk, h) := zrun_at rfl
theorem zi110_12 {E : zE} {x : Nat} {ls sk : List Value} {h : zH} : zrun zpp E 110 (12, ls, .ref x :: sk, h) = (zfld [10] h x 7).bind (fun v => zrun zpp E 110 (15, ls, v :: sk, h)) := zg_getf rfl
theorem zi110_15 {E : zE} {v0 : Value} {x : Int32} {ls sk : List Value} {h : zH} : zrun zpp E 110 (15, v0 :: .int x :: ls, sk, h) = zrun zpp E 110 (16, v0 :: .int x :: ls, .int x :: sk, h) := zrun_at rfl
theorem zi110_16 {E : zE} {a0 : Value} {x : Nat} {ls sk : List Value} {h : zH} : zrun zpp E 110 (16, ls, a0 :: .ref x :: sk, h) = (zcls h x).bind (fun d => (zsel d [9, 85]).bind (fun M' => zcl1 E 110 19 M' ls sk [.ref x, a0] h)) := zg_vir (as := [a0]) rfl rfl
theorem zi110_19 {E : zE} {ls sk : List Value} {h : zH} : zrun zpp E 110 (19, ls, sk, h) = zrun zpp E 110 (24, ls, sk, h) := zrun_at rfl
theorem zi110_22 {E : zE} {ls sk : List Value} {h : zH} : zrun zpp E 110 (22, ls, sk, h) = zrun zpp E 110 (24, ls, .int (-1000001) :: sk, h) := zg_ldc rfl ci_m1000001
theorem zi110_24 {E : zE} {x : Int32} {ls sk : List Value} {h : zH} : zrun zpp E 110 (24, ls, [.int x], h) = some (some (.int x), h) := zrun_at rfl
-- 111 NineDown.fell
theorem zi111_0 {E : zE} {x : Nat} {ls sk : List Value} {h : zH} : zrun zpp E 111 (0, .ref x :: ls, sk, h) = zrun zpp E 111 (1, .ref x :: ls, .ref x :: sk, h) := zrun_at rfl
theorem zi111_0n {E : zE} {ls sk : List Value} {h : zH} : zrun zpp E 111 (0, .null :: ls, sk, h) = zrun zpp E 111 (1, .null :: ls, .null :: sk, h) := zrun_at rfl
theorem zi111_1 {E : zE} {x : Nat} {ls sk : List Value} {h : zH} : zrun zpp E 111 (1, ls, .ref x :: sk, h) = (zfld [10] h x 7).bind (fun v => zrun zpp E 111 (4, ls, v :: sk, h)) := zg_getf rfl
theorem zi111_4 {E : zE} {v0 : Value} {x : Int32} {ls sk : List Value} {h : zH} : zrun zpp E 111 (4, v0 :: .int x :: ls, sk, h) = zrun zpp E 111 (5, v0 :: .int x :: ls, .int x :: sk, h) := zrun_at rfl
theorem zi111_5 {E : zE} {a0 : Value} {x : Nat} {ls sk : List Value} {h : zH} : zrun zpp E 111 (5, ls, a0 :: .ref x :: sk, h) = (zcls h x).bind (fun d => (zsel d [9, 71]).bind (fun M' => zcl1 E 111 8 M' ls sk [.ref x, a0] h)) := zg_vir (as := [a0]) rfl rfl
theorem zi111_8 {E : zE} {x : Int32} {ls sk : List Value} {h : zH} : zrun zpp E 111 (8, ls, .int x :: sk, h) = if x = 0 then zrun zpp E 111 (32, ls, sk, h) else zrun zpp E 111 (11, ls, sk, h) := zrun_at rfl
theorem zi111_11 {E : zE} {v0 v1 : Value} {x : Int32} {ls sk : List Value} {h : zH} : zrun zpp E 111 (11, v0 :: v1 :: .int x :: ls, sk, h) = zrun zpp E 111 (12, v0 :: v1 :: .int x :: ls, .int x :: sk, h) := zrun_at rfl
theorem zi111_12 {E : zE} {ls sk : List Value} {h : zH} : zrun zpp E 111 (12, ls, sk, h) = zrun zpp E 111 (13, ls, .int 0 :: sk, h) := zg_iconst rfl ci_0
theorem zi111_13 {E : zE} {ls sk : List Value} {h : zH} : zrun zpp E 111 (13, ls, sk, h) = zrun zpp E 111 (14, ls, .int 1 :: sk, h) := zg_iconst rfl ci_1
theorem zi111_14 {E : zE} {a0 a1 a2 : Value} {ls sk : List Value} {h : zH} : zrun zpp E 111 (14, ls, a2 :: a1 :: a0 :: sk, h) = zcl1 E 111 17 126 ls sk [a0, a1, a2] h := zg_inv (as := [a0, a1, a2]) rfl rfl
theorem zi111_17 {E : zE} {x : Int32} {ls sk : List Value} {h : zH} : zrun zpp E 111 (17, ls, .int x :: sk, h) = if x = 0 then zrun zpp E 111 (32, ls, sk, h) else zrun zpp E 111 (20, ls, sk, h) := zrun_at rfl
theorem zi111_20 {E : zE} {x : Nat} {ls sk : List Value} {h : zH} : zrun zpp E 111 (20, .ref x :: ls, sk, h) = zrun zpp E 111 (21, .ref x :: ls, .ref x :: sk, h) := zrun_at rfl
theorem zi111_20n {E : zE} {ls sk : List Value} {h : zH} : zrun zpp E 111 (20, .null :: ls, sk, h) = zrun zpp E 111 (21, .null :: ls, .null :: sk, h) := zrun_at rfl
theorem zi111_21 {E : zE} {x : Nat} {ls sk : List Value} {h : zH} : zrun zpp E 111 (21, ls, .ref x :: sk, h) = (zfld [10] h x 7).bind (fun v => zrun zpp E 111 (24, ls, v :: sk, h)) := zg_getf rfl
theorem zi111_24 {E : zE} {v0 : Value} {x : Int32} {ls sk : List Value} {h : zH} : zrun zpp E 111 (24, v0 :: .int x :: ls, sk, h) = zrun zpp E 111 (25, v0 :: .int x :: ls, .int x :: sk, h) := zrun_at rfl
theorem zi111_25 {E : zE} {v0 v1 : Value} {x : Int32} {ls sk : List Value} {h : zH} : zrun zpp E 111 (25, v0 :: v1 :: .int x :: ls, sk, h) = zrun zpp E 111 (26, v0 :: v1 :: .int x :: ls, .int x :: sk, h) := zrun_at rfl
theorem zi111_26 {E : zE} {a0 a1 : Value} {x : Nat} {ls sk : List Value} {h : zH} : zrun zpp E 111 (26, ls, a1 :: a0 :: .ref x :: sk, h) = (zcls h x).bind (fun d => (zsel d [9, 87]).bind (fun M' => zcl1 E 111 29 M' ls sk [.ref x, a0, a1] h)) := zg_vir (as := [a0, a1]) rfl rfl
theorem zi111_29 {E : zE} {ls sk : List Value} {h : zH} : zrun zpp E 111 (29, ls, sk, h) = zrun zpp E 111 (34, ls, sk, h) := zrun_at rfl
theorem zi111_32 {E : zE} {ls sk : List Value} {h : zH} : zrun zpp E 111 (32, ls, sk, h) = zrun zpp E 111 (34, ls, .int (-1000001) :: sk, h) := zg_ldc rfl ci_m1000001
theorem zi111_34 {E : zE} {x : Int32} {ls sk : List Value} {h : zH} : zrun zpp E 111 (34, ls, [.int x], h) = some (some (.int x), h) := zrun_at rfl
-- 112 NineDown.first
theorem zi112_0 {E : zE} {x : Nat} {ls sk : List Value} {h : zH} : zrun zpp E 112 (0, .ref x :: ls, sk, h) = zrun zpp E 112 (1, .ref x :: ls, .ref x :: sk, h) := zrun_at rfl
theorem zi112_0n {E : zE} {ls sk : List Value} {h : zH} : zrun zpp E 112 (0, .null :: ls, sk, h) = zrun zpp E 112 (1, .null :: ls, .null :: sk, h) := zrun_at rfl
theorem zi112_1 {E : zE} {x : Nat} {ls sk : List Value} {h : zH} : zrun zpp E 112 (1, ls, .ref x :: sk, h) = (zfld [10] h x 7).bind (fun v => zrun zpp E 112 (4, ls, v :: sk, h)) := zg_getf rfl
theorem zi112_4 {E : zE} {x : Nat} {ls sk : List Value} {h : zH} : zrun zpp E 112 (4, ls, .ref x :: sk, h) = (zcls h x).bind (fun d => (zsel d [9, 70]).bind (fun M' => zcl1 E 112 7 M' ls sk [.ref x] h)) := zg_vir (as := []) rfl rfl
theorem zi112_7 {E : zE} {x : Int32} {ls sk : List Value} {h : zH} : zrun zpp E 112 (7, ls, .int x :: sk, h) = if x = 0 then zrun zpp E 112 (10, ls, sk, h) else zrun zpp E 112 (13, ls, sk, h) := zrun_at rfl
theorem zi112_10 {E : zE} {ls sk : List Value} {h : zH} : zrun zpp E 112 (10, ls, sk, h) = zrun zpp E 112 (12, ls, .int (-1000002) :: sk, h) := zg_ldc rfl ci_m1000002
theorem zi112_12 {E : zE} {x : Int32} {ls sk : List Value} {h : zH} : zrun zpp E 112 (12, ls, [.int x], h) = some (some (.int x), h) := zrun_at rfl
theorem zi112_13 {E : zE} {x : Nat} {ls sk : List Value} {h : zH} : zrun zpp E 112 (13, .ref x :: ls, sk, h) = zrun zpp E 112 (14, .ref x :: ls, .ref x :: sk, h) := zrun_at rfl
theorem zi112_13n {E : zE} {ls sk : List Value} {h : zH} : zrun zpp E 112 (13, .null :: ls, sk, h) = zrun zpp E 112 (14, .null :: ls, .null :: sk, h) := zrun_at rfl
theorem zi112_14 {E : zE} {v0 : Value} {x : Int32} {ls sk : List Value} {h : zH} : zrun zpp E 112 (14, v0 :: .int x :: ls, sk, h) = zrun zpp E 112 (15, v0 :: .int x :: ls, .int x :: sk, h) := zrun_at rfl
theorem zi112_15 {E : zE} {a0 : Value} {x : Nat} {ls sk : List Value} {h : zH} : zrun zpp E 112 (15, ls, a0 :: .ref x :: sk, h) = (zcls h x).bind (fun d => (zsel d [10, 128]).bind (fun M' => zcl1 E 112 18 M' ls sk [.ref x, a0] h)) := zg_vir (as := [a0]) rfl rfl
theorem zi112_18 {E : zE} {x : Nat} {ls sk : List Value} {h : zH} : zrun zpp E 112 (18, ls, .ref x :: sk, h) = if zfree ls 3 = true then zrun zpp E 112 (19, ls.set 3 (.ref x), sk, h) else none := zg_astr rfl (fun _ _ _ => rfl)
theorem zi112_18n {E : zE} {ls sk : List Value} {h : zH} : zrun zpp E 112 (18, ls, .null :: sk, h) = if zfree ls 3 = true then zrun zpp E 112 (19, ls.set 3 .null, sk, h) else none := zg_astn rfl (fun _ _ _ => rfl)
theorem zi112_19 {E : zE} {v0 v1 v2 : Value} {x : Nat} {ls sk : List Value} {h : zH} : zrun zpp E 112 (19, v0 :: v1 :: v2 :: .ref x :: ls, sk, h) = zrun zpp E 112 (20, v0 :: v1 :: v2 :: .ref x :: ls, .ref x :: sk, h) := zrun_at rfl
theorem zi112_19n {E : zE} {v0 v1 v2 : Value} {ls sk : List Value} {h : zH} : zrun zpp E 112 (19, v0 :: v1 :: v2 :: .null :: ls, sk, h) = zrun zpp E 112 (20, v0 :: v1 :: v2 :: .null :: ls, .null :: sk, h) := zrun_at rfl
theorem zi112_20 {E : zE} {x : Nat} {ls sk : List Value} {h : zH} : zrun zpp E 112 (20, ls, .ref x :: sk, h) = zrun zpp E 112 (26, ls, sk, h) := zrun_at rfl
theorem zi112_20n {E : zE} {ls sk : List Value} {h : zH} : zrun zpp E 112 (20, ls, .null :: sk, h) = zrun zpp E 112 (23, ls, sk, h) := zrun_at rfl
theorem zi112_23 {E : zE} {ls sk : List Value} {h : zH} : zrun zpp E 112 (23, ls, sk, h) = zrun zpp E 112 (25, ls, .int (-1000001) :: sk, h) := zg_ldc rfl ci_m1000001
theorem zi112_25 {E : zE} {x : Int32} {ls sk : List Value} {h : zH} : zrun zpp E 112 (25, ls, [.int x], h) = some (some (.int x), h) := zrun_at rfl
theorem zi112_26 {E : zE} {v0 v1 v2 : Value} {x : Nat} {ls sk : List Value} {h : zH} : zrun zpp E 112 (26, v0 :: v1 :: v2 :: .ref x :: ls, sk, h) = zrun zpp E 112 (27, v0 :: v1 :: v2 :: .ref x :: ls, .ref x :: sk, h) := zrun_at rfl
theorem zi112_26n {E : zE} {v0 v1 v2 : Value} {ls sk : List Value} {h : zH} : zrun zpp E 112 (26, v0 :: v1 :: v2 :: .null :: ls, sk, h) = zrun zpp E 112 (27, v0 :: v1 :: v2 :: .null :: ls, .null :: sk, h) := zrun_at rfl
theorem zi112_27 {E : zE} {x : Nat} {ls sk : List Value} {h : zH} : zrun zpp E 112 (27, ls, .ref x :: sk, h) = (zfld [6] h x 1).bind (fun v => zrun zpp E 112 (30, ls, v :: sk, h)) := zg_getf rfl
theorem zi112_30 {E : zE} {x : Int32} {ls sk : List Value} {h : zH} : zrun zpp E 112 (30, ls, .int x :: sk, h) = if x = 0 then zrun zpp E 112 (33, ls, sk, h) else zrun zpp E 112 (39, ls, sk, h) := zrun_at rfl
theorem zi112_33 {E : zE} {x : Nat} {ls sk : List Value} {h : zH} : zrun zpp E 112 (33, .ref x :: ls, sk, h) = zrun zpp E 112 (34, .ref x :: ls, .ref x :: sk, h) := zrun_at rfl
theorem zi112_33n {E : zE} {ls sk : List Value} {h : zH} : zrun zpp E 112 (33, .null :: ls, sk, h) = zrun zpp E 112 (34, .null :: ls, .null :: sk, h) := zrun_at rfl
theorem zi112_34 {E : zE} {ls sk : List Value} {h : zH} : zrun zpp E 112 (34, ls, sk, h) = zrun zpp E 112 (35, ls, .int 1 :: sk, h) := zg_iconst rfl ci_1
theorem zi112_35 {E : zE} {a0 : Value} {x : Nat} {ls sk : List Value} {h : zH} : zrun zpp E 112 (35, ls, a0 :: .ref x :: sk, h) = (zcls h x).bind (fun d => (zsel d [10, 130]).bind (fun M' => zcl1 E 112 38 M' ls sk [.ref x, a0] h)) := zg_vir (as := [a0]) rfl rfl
theorem zi112_38 {E : zE} {x : Int32} {ls sk : List Value} {h : zH} : zrun zpp E 112 (38, ls, [.int x], h) = some (some (.int x), h) := zrun_at rfl
theorem zi112_39 {E : zE} {v0 v1 v2 : Value} {x : Nat} {ls sk : List Value} {h : zH} : zrun zpp E 112 (39, v0 :: v1 :: v2 :: .ref x :: ls, sk, h) = zrun zpp E 112 (40, v0 :: v1 :: v2 :: .ref x :: ls, .ref x :: sk, h) := zrun_at rfl
theorem zi112_39n {E : zE} {v0 v1 v2 : Value} {ls sk : List Value} {h : zH} : zrun zpp E 112 (39, v0 :: v1 :: v2 :: .null :: ls, sk, h) = zrun zpp E 112 (40, v0 :: v1 :: v2 :: .null :: ls, .null :: sk, h) := zrun_at rfl
theorem zi112_40 {E : zE} {v0 v1 : Value} {x : Int32} {ls sk : List Value} {h : zH} : zrun zpp E 112 (40, v0 :: v1 :: .int x :: ls, sk, h) = zrun zpp E 112 (41, v0 :: v1 :: .int x :: ls, .int x :: sk, h) := zrun_at rfl
theorem zi112_41 {E : zE} {x : Nat} {ls sk : List Value} {h : zH} : zrun zpp E 112 (41, .ref x :: ls, sk, h) = zrun zpp E 112 (42, .ref x :: ls, .ref x :: sk, h) := zrun_at rfl
theorem zi112_41n {E : zE} {ls sk : List Value} {h : zH} : zrun zpp E 112 (41, .null :: ls, sk, h) = zrun zpp E 112 (42, .null :: ls, .null :: sk, h) := zrun_at rfl
theorem zi112_42 {E : zE} {x : Nat} {ls sk : List Value} {h : zH} : zrun zpp E 112 (42, ls, .ref x :: sk, h) = (zfld [10] h x 7).bind (fun v => zrun zpp E 112 (45, ls, v :: sk, h)) := zg_getf rfl
theorem zi112_45 {E : zE} {x : Nat} {ls sk : List Value} {h : zH} : zrun zpp E 112 (45, ls, .ref x :: sk, h) = (zfld [9] h x 3).bind (fun v => zrun zpp E 112 (48, ls, v :: sk, h)) := zg_getf rfl
theorem zi112_48 {E : zE} {a0 a1 : Value} {x : Nat} {ls sk : List Value} {h : zH} : zrun zpp E 112 (48, ls, a1 :: a0 :: .ref x :: sk, h) = (zcls h x).bind (fun d => (zsel d [6, 53]).bind (fun M' => zcl1 E 112 51 M' ls sk [.ref x, a0, a1] h)) := zg_vir (as := [a0, a1]) rfl rfl
theorem zi112_51 {E : zE} {x : Int32} {ls sk : List Value} {h : zH} : zrun zpp E 112 (51, ls, .int x :: sk, h) = if x = 0 then zrun zpp E 112 (54, ls, sk, h) else zrun zpp E 112 (60, ls, sk, h) := zrun_at rfl
theorem zi112_54 {E : zE} {x : Nat} {ls sk : List Value} {h : zH} : zrun zpp E 112 (54, .ref x :: ls, sk, h) = zrun zpp E 112 (55, .ref x :: ls, .ref x :: sk, h) := zrun_at rfl
theorem zi112_54n {E : zE} {ls sk : List Value} {h : zH} : zrun zpp E 112 (54, .null :: ls, sk, h) = zrun zpp E 112 (55, .null :: ls, .null :: sk, h) := zrun_at rfl
theorem zi112_55 {E : zE} {ls sk : List Value} {h : zH} : zrun zpp E 112 (55, ls, sk, h) = zrun zpp E 112 (56, ls, .int 2 :: sk, h) := zg_iconst rfl ci_2
theorem zi112_56 {E : zE} {a0 : Value} {x : Nat} {ls sk : List Value} {h : zH} : zrun zpp E 112 (56, ls, a0 :: .ref x :: sk, h) = (zcls h x).bind (fun d => (zsel d [10, 130]).bind (fun M' => zcl1 E 112 59 M' ls sk [.ref x, a0] h)) := zg_vir (as := [a0]) rfl rfl
theorem zi112_59 {E : zE} {x : Int32} {ls sk : List Value} {h : zH} : zrun zpp E 112 (59, ls, [.int x], h) = some (some (.int x), h) := zrun_at rfl
theorem zi112_60 {E : zE} {ls sk : List Value} {h : zH} : zrun zpp E 112 (60, ls, sk, h) = zrun zpp E 112 (61, ls, .int 0 :: sk, h) := zg_iconst rfl ci_0
theorem zi112_61 {E : zE} {x : Int32} {ls sk : List Value} {h : zH} : zrun zpp E 112 (61, ls, .int x :: sk, h) = if zfree ls 4 = true then zrun zpp E 112 (63, ls.set 4 (.int x), sk, h) else none := zg_ist rfl (fun _ _ _ => rfl)
theorem zi112_63 {E : zE} {ls sk : List Value} {h : zH} : zrun zpp E 112 (63, ls, sk, h) = zrun zpp E 112 (64, ls, .int 0 :: sk, h) := zg_iconst rfl ci_0
theorem zi112_64 {E : zE} {x : Int32} {ls sk : List Value} {h : zH} : zrun zpp E 112 (64, ls, .int x :: sk, h) = if zfree ls 5 = true then zrun zpp E 112 (66, ls.set 5 (.int x), sk, h) else none := zg_ist rfl (fun _ _ _ => rfl)
theorem zi112_66 {E : zE} {ls sk : List Value} {h : zH} : zrun zpp E 112 (66, ls, sk, h) = zrun zpp E 112 (67, ls, .int 0 :: sk, h) := zg_iconst rfl ci_0
theorem zi112_67 {E : zE} {x : Int32} {ls sk : List Value} {h : zH} : zrun zpp E 112 (67, ls, .int x :: sk, h) = if zfree ls 6 = true then zrun zpp E 112 (69, ls.set 6 (.int x), sk, h) else none := zg_ist rfl (fun _ _ _ => rfl)
theorem zi112_69 {E : zE} {v0 v1 v2 v3 v4 v5 : Value} {x : Int32} {ls sk : List Value} {h : zH} : zrun zpp E 112 (69, v0 :: v1 :: v2 :: v3 :: v4 :: v5 :: .int x :: ls, sk, h) = zrun zpp E 112 (71, v0 :: v1 :: v2 :: v3 :: v4 :: v5 :: .int x :: ls, .int x :: sk, h) := zrun_at rfl
theorem zi112_71 {E : zE} {x : Nat} {ls sk : List Value} {h : zH} : zrun zpp E 112 (71, .ref x :: ls, sk, h) = zrun zpp E 112 (72, .ref x :: ls, .ref x :: sk, h) := zrun_at rfl
theorem zi112_71n {E : zE} {ls sk : List Value} {h : zH} : zrun zpp E 112 (71, .null :: ls, sk, h) = zrun zpp E 112 (72, .null :: ls, .null :: sk, h) := zrun_at rfl
theorem zi112_72 {E : zE} {x : Nat} {ls sk : List Value} {h : zH} : zrun zpp E 112 (72, ls, .ref x :: sk, h) = (zfld [10] h x 7).bind (fun v => zrun zpp E 112 (75, ls, v :: sk, h)) := zg_getf rfl
theorem zi112_75 {E : zE} {x : Nat} {ls sk : List Value} {h : zH} : zrun zpp E 112 (75, ls, .ref x :: sk, h) = (zfld [9] h x 3).bind (fun v => zrun zpp E 112 (78, ls, v :: sk, h)) := zg_getf rfl
theorem zi112_78 {E : zE} {x y : Int32} {ls sk : List Value} {h : zH} : zrun zpp E 112 (78, ls, .int y :: .int x :: sk, h) = if y ≤ x then zrun zpp E 112 (151, ls, sk, h) else zrun zpp E 112 (81, ls, sk, h) := zrun_at rfl
theorem zi112_81 {E : zE} {v0 v1 v2 v3 : Value} {x : Int32} {ls sk : List Value} {h : zH} : zrun zpp E 112 (81, v0 :: v1 :: v2 :: v3 :: .int x :: ls, sk, h) = zrun zpp E 112 (83, v0 :: v1 :: v2 :: v3 :: .int x :: ls, .int x :: sk, h) := zrun_at rfl
theorem zi112_83 {E : zE} {x : Nat} {ls sk : List Value} {h : zH} : zrun zpp E 112 (83, .ref x :: ls, sk, h) = zrun zpp E 112 (84, .ref x :: ls, .ref x :: sk, h) := zrun_at rfl
theorem zi112_83n {E : zE} {ls sk : List Value} {h : zH} : zrun zpp E 112 (83, .null :: ls, sk, h) = zrun zpp E 112 (84, .null :: ls, .null :: sk, h) := zrun_at rfl
theorem zi112_84 {E : zE} {v0 v1 v2 : Value} {x : Nat} {ls sk : List Value} {h : zH} : zrun zpp E 112 (84, v0 :: v1 :: v2 :: .ref x :: ls, sk, h) = zrun zpp E 112 (85, v0 :: v1 :: v2 :: .ref x :: ls, .ref x :: sk, h) := zrun_at rfl
theorem zi112_84n {E : zE} {v0 v1 v2 : Value} {ls sk : List Value} {h : zH} : zrun zpp E 112 (84, v0 :: v1 :: v2 :: .null :: ls, sk, h) = zrun zpp E 112 (85, v0 :: v1 :: v2 :: .null :: ls, .null :: sk, h) := zrun_at rfl
theorem zi112_85 {E : zE} {v0 v1 : Value} {x : Int32} {ls sk : List Value} {h : zH} : zrun zpp E 112 (85, v0 :: v1 :: .int x :: ls, sk, h) = zrun zpp E 112 (86, v0 :: v1 :: .int x :: ls, .int x :: sk, h) := zrun_at rfl
theorem zi112_86 {E : zE} {x : Nat} {ls sk : List Value} {h : zH} : zrun zpp E 112 (86, .ref x :: ls, sk, h) = zrun zpp E 112 (87, .ref x :: ls, .ref x :: sk, h) := zrun_at rfl
theorem zi112_86n {E : zE} {ls sk : List Value} {h : zH} : zrun zpp E 112 (86, .null :: ls, sk, h) = zrun zpp E 112 (87, .null :: ls, .null :: sk, h) := zrun_at rfl
theorem zi112_87 {E : zE} {x : Nat} {ls sk : List Value} {h : zH} : zrun zpp E 112 (87, ls, .ref x :: sk, h) = (zfld [10] h x 7).bind (fun v => zrun zpp E 112 (90, ls, v :: sk, h)) := zg_getf rfl
theorem zi112_90 {E : zE} {v0 v1 v2 v3 v4 v5 : Value} {x : Int32} {ls sk : List Value} {h : zH} : zrun zpp E 112 (90, v0 :: v1 :: v2 :: v3 :: v4 :: v5 :: .int x :: ls, sk, h) = zrun zpp E 112 (92, v0 :: v1 :: v2 :: v3 :: v4 :: v5 :: .int x :: ls, .int x :: sk, h) := zrun_at rfl
theorem zi112_92 {E : zE} {ls sk : List Value} {h : zH} : zrun zpp E 112 (92, ls, sk, h) = zrun zpp E 112 (93, ls, .int 1 :: sk, h) := zg_iconst rfl ci_1
theorem zi112_93 {E : zE} {a0 a1 : Value} {x : Nat} {ls sk : List Value} {h : zH} : zrun zpp E 112 (93, ls, a1 :: a0 :: .ref x :: sk, h) = (zcls h x).bind (fun d => (zsel d [9, 87]).bind (fun M' => zcl1 E 112 96 M' ls sk [.ref x, a0, a1] h)) := zg_vir (as := [a0, a1]) rfl rfl
theorem zi112_96 {E : zE} {a0 a1 a2 : Value} {x : Nat} {ls sk : List Value} {h : zH} : zrun zpp E 112 (96, ls, a2 :: a1 :: a0 :: .ref x :: sk, h) = (zcls h x).bind (fun d => (zsel d [10, 134]).bind (fun M' => zcl1 E 112 99 M' ls sk [.ref x, a0, a1, a2] h)) := zg_vir (as := [a0, a1, a2]) rfl rfl
theorem zi112_99 {E : zE} {x : Int32} {ls sk : List Value} {h : zH} : zrun zpp E 112 (99, ls, .int x :: sk, h) = if x = 0 then zrun zpp E 112 (109, ls, sk, h) else zrun zpp E 112 (102, ls, sk, h) := zrun_at rfl
theorem zi112_102 {E : zE} {ls sk : List Value} {h : zH} : zrun zpp E 112 (102, ls, sk, h) = zrun zpp E 112 (103, ls, .int 1 :: sk, h) := zg_iconst rfl ci_1
theorem zi112_103 {E : zE} {v0 v1 v2 v3 v4 v5 : Value} {x : Int32} {ls sk : List Value} {h : zH} : zrun zpp E 112 (103, v0 :: v1 :: v2 :: v3 :: v4 :: v5 :: .int x :: ls, sk, h) = zrun zpp E 112 (105, v0 :: v1 :: v2 :: v3 :: v4 :: v5 :: .int x :: ls, .int x :: sk, h) := zrun_at rfl
theorem zi112_105 {E : zE} {x y : Int32} {ls sk : List Value} {h : zH} : zrun zpp E 112 (105, ls, .int y :: .int x :: sk, h) = zrun zpp E 112 (106, ls, .int (x <<< (y &&& 31)) :: sk, h) := zrun_at rfl
theorem zi112_106 {E : zE} {ls sk : List Value} {h : zH} : zrun zpp E 112 (106, ls, sk, h) = zrun zpp E 112 (110, ls, sk, h) := zrun_at rfl
theorem zi112_109 {E : zE} {ls sk : List Value} {h : zH} : zrun zpp E 112 (109, ls, sk, h) = zrun zpp E 112 (110, ls, .int 0 :: sk, h) := zg_iconst rfl ci_0
theorem zi112_110 {E : zE} {x y : Int32} {ls sk : List Value} {h : zH} : zrun zpp E 112 (110, ls, .int y :: .int x :: sk, h) = zrun zpp E 112 (111, ls, .int (x ||| y) :: sk, h) := zrun_at rfl
theorem zi112_111 {E : zE} {x : Int32} {ls sk : List Value} {h : zH} : zrun zpp E 112 (111, ls, .int x :: sk, h) = if zfree ls 4 = true then zrun zpp E 112 (113, ls.set 4 (.int x), sk, h) else none := zg_ist rfl (fun _ _ _ => rfl)
theorem zi112_113 {E : zE} {v0 v1 v2 v3 v4 : Value} {x : Int32} {ls sk : List Value} {h : zH} : zrun zpp E 112 (113, v0 :: v1 :: v2 :: v3 :: v4 :: .int x :: ls, sk, h) = zrun zpp E 112 (115, v0 :: v1 :: v2 :: v3 :: v4 :: .int x :: ls, .int x :: sk, h) := zrun_at rfl
theorem zi112_115 {E : zE} {x : Nat} {ls sk : List Value} {h : zH} : zrun zpp E 112 (115, .ref x :: ls, sk, h) = zrun zpp E 112 (116, .ref x :: ls, .ref x :: sk, h) := zrun_at rfl
theorem zi112_115n {E : zE} {ls sk : List Value} {h : zH} : zrun zpp E 112 (115, .null :: ls, sk, h) = zrun zpp E 112 (116, .null :: ls, .null :: sk, h) := zrun_at rfl
theorem zi112_116 {E : zE} {v0 v1 v2 : Value} {x : Nat} {ls sk : List Value} {h : zH} : zrun zpp E 112 (116, v0 :: v1 :: v2 :: .ref x :: ls, sk, h) = zrun zpp E 112 (117, v0 :: v1 :: v2 :: .ref x :: ls, .ref x :: sk, h) := zrun_at rfl
theorem zi112_116n {E : zE} {v0 v1 v2 : Value} {ls sk : List Value} {h : zH} : zrun zpp E 112 (116, v0 :: v1 :: v2 :: .null :: ls, sk, h) = zrun zpp E 112 (117, v0 :: v1 :: v2 :: .null :: ls, .null :: sk, h) := zrun_at rfl
theorem zi112_117 {E : zE} {v0 v1 : Value} {x : Int32} {ls sk : List Value} {h : zH} : zrun zpp E 112 (117, v0 :: v1 :: .int x :: ls, sk, h) = zrun zpp E 112 (118, v0 :: v1 :: .int x :: ls, .int x :: sk, h) := zrun_at rfl
theorem zi112_118 {E : zE} {x : Nat} {ls sk : List Value} {h : zH} : zrun zpp E 112 (118, .ref x :: ls, sk, h) = zrun zpp E 112 (119, .ref x :: ls, .ref x :: sk, h) := zrun_at rfl
theorem zi112_118n {E : zE} {ls sk : List Value} {h : zH} : zrun zpp E 112 (118, .null :: ls, sk, h) = zrun zpp E 112 (119, .null :: ls, .null :: sk, h) := zrun_at rfl
theorem zi112_119 {E : zE} {x : Nat} {ls sk : List Value} {h : zH} : zrun zpp E 112 (119, ls, .ref x :: sk, h) = (zfld [10] h x 7).bind (fun v => zrun zpp E 112 (122, ls, v :: sk, h)) := zg_getf rfl
theorem zi112_122 {E : zE} {v0 v1 v2 v3 v4 v5 : Value} {x : Int32} {ls sk : List Value} {h : zH} : zrun zpp E 112 (122, v0 :: v1 :: v2 :: v3 :: v4 :: v5 :: .int x :: ls, sk, h) = zrun zpp E 112 (124, v0 :: v1 :: v2 :: v3 :: v4 :: v5 :: .int x :: ls, .int x :: sk, h) := zrun_at rfl
theorem zi112_124 {E : zE} {ls sk : List Value} {h : zH} : zrun zpp E 112 (124, ls, sk, h) = zrun zpp E 112 (125, ls, .int 0 :: sk, h) := zg_iconst rfl ci_0
theorem zi112_125 {E : zE} {a0 a1 : Value} {x : Nat} {ls sk : List Value} {h : zH} : zrun zpp E 112 (125, ls, a1 :: a0 :: .ref x :: sk, h) = (zcls h x).bind (fun d => (zsel d [9, 87]).bind (fun M' => zcl1 E 112 128 M' ls sk [.ref x, a0, a1] h)) := zg_vir (as := [a0, a1]) rfl rfl
theorem zi112_128 {E : zE} {a0 a1 a2 : Value} {x : Nat} {ls sk : List Value} {h : zH} : zrun zpp E 112 (128, ls, a2 :: a1 :: a0 :: .ref x :: sk, h) = (zcls h x).bind (fun d => (zsel d [10, 134]).bind (fun M' => zcl1 E 112 131 M' ls sk [.ref x, a0, a1, a2] h)) := zg_vir (as := [a0, a1, a2]) rfl rfl
theorem zi112_131 {E : zE} {x : Int32} {ls sk : List Value} {h : zH} : zrun zpp E 112 (131, ls, .int x :: sk, h) = if x = 0 then zrun zpp E 112 (141, ls, sk, h) else zrun zpp E 112 (134, ls, sk, h) := zrun_at rfl
theorem zi112_134 {E : zE} {ls sk : List Value} {h : zH} : zrun zpp E 112 (134, ls, sk, h) = zrun zpp E 112 (135, ls, .int 1 :: sk, h) := zg_iconst rfl ci_1
theorem zi112_135 {E : zE} {v0 v1 v2 v3 v4 v5 : Value} {x : Int32} {ls sk : List Value} {h : zH} : zrun zpp E 112 (135, v0 :: v1 :: v2 :: v3 :: v4 :: v5 :: .int x :: ls, sk, h) = zrun zpp E 112 (137, v0 :: v1 :: v2 :: v3 :: v4 :: v5 :: .int x :: ls, .int x :: sk, h) := zrun_at rfl
theorem zi112_137 {E : zE} {x y : Int32} {ls sk : List Value} {h : zH} : zrun zpp E 112 (137, ls, .int y :: .int x :: sk, h) = zrun zpp E 112 (138, ls, .int (x <<< (y &&& 31)) :: sk, h) := zrun_at rfl
theorem zi112_138 {E : zE} {ls sk : List Value} {h : zH} : zrun zpp E 112 (138, ls, sk, h) = zrun zpp E 112 (142, ls, sk, h) := zrun_at rfl
theorem zi112_141 {E : zE} {ls sk : List Value} {h : zH} : zrun zpp E 112 (141, ls, sk, h) = zrun zpp E 112 (142, ls, .int 0 :: sk, h) := zg_iconst rfl ci_0
theorem zi112_142 {E : zE} {x y : Int32} {ls sk : List Value} {h : zH} : zrun zpp E 112 (142, ls, .int y :: .int x :: sk, h) = zrun zpp E 112 (143, ls, .int (x ||| y) :: sk, h) := zrun_at rfl
theorem zi112_143 {E : zE} {x : Int32} {ls sk : List Value} {h : zH} : zrun zpp E 112 (143, ls, .int x :: sk, h) = if zfree ls 5 = true then zrun zpp E 112 (145, ls.set 5 (.int x), sk, h) else none := zg_ist rfl (fun _ _ _ => rfl)
theorem zi112_145 {E : zE} {v0 v1 v2 v3 v4 v5 : Value} {x : Int32} {ls sk : List Value} {h : zH} : zrun zpp E 112 (145, v0 :: v1 :: v2 :: v3 :: v4 :: v5 :: .int x :: ls, sk, h) = if zfree (v0 :: v1 :: v2 :: v3 :: v4 :: v5 :: .int x :: ls) 6 = true then zrun zpp E 112 (148, v0 :: v1 :: v2 :: v3 :: v4 :: v5 :: .int (x + 1) :: ls, sk, h) else none := by rw [← ci_1]; exact zrun_at rfl
theorem zi112_148 {E : zE} {ls sk : List Value} {h : zH} : zrun zpp E 112 (148, ls, sk, h) = zrun zpp E 112 (69, ls, sk, h) := zrun_at rfl
theorem zi112_151 {E : zE} {x : Nat} {ls sk : List Value} {h : zH} : zrun zpp E 112 (151, .ref x :: ls, sk, h) = zrun zpp E 112 (152, .ref x :: ls, .ref x :: sk, h) := zrun_at rfl
theorem zi112_151n {E : zE} {ls sk : List Value} {h : zH} : zrun zpp E 112 (151, .null :: ls, sk, h) = zrun zpp E 112 (152, .null :: ls, .null :: sk, h) := zrun_at rfl
theorem zi112_152 {E : zE} {v0 v1 v2 v3 : Value} {x : Int32} {ls sk : List Value} {h : zH} : zrun zpp E 112 (152, v0 :: v1 :: v2 :: v3 :: .int x :: ls, sk, h) = zrun zpp E 112 (154, v0 :: v1 :: v2 :: v3 :: .int x :: ls, .int x :: sk, h) := zrun_at rfl
theorem zi112_154 {E : zE} {ls sk : List Value} {h : zH} : zrun zpp E 112 (154, ls, sk, h) = zrun zpp E 112 (157, ls, .int 256 :: sk, h) := zg_sipush rfl ci_256
theorem zi112_157 {E : zE} {v0 v1 v2 v3 v4 : Value} {x : Int32} {ls sk : List Value} {h : zH} : zrun zpp E 112 (157, v0 :: v1 :: v2 :: v3 :: v4 :: .int x :: ls, sk, h) = zrun zpp E 112 (159, v0 :: v1 :: v2 :: v3 :: v4 :: .int x :: ls, .int x :: sk, h) := zrun_at rfl
theorem zi112_159 {E : zE} {x y : Int32} {ls sk : List Value} {h : zH} : zrun zpp E 112 (159, ls, .int y :: .int x :: sk, h) = zrun zpp E 112 (160, ls, .int (x * y) :: sk, h) := zrun_at rfl
theorem zi112_160 {E : zE} {x y : Int32} {ls sk : List Value} {h : zH} : zrun zpp E 112 (160, ls, .int y :: .int x :: sk, h) = zrun zpp E 112 (161, ls, .int (x + y) :: sk, h) := zrun_at rfl
theorem zi112_161 {E : zE} {a0 : Value} {x : Nat} {ls sk : List Value} {h : zH} : zrun zpp E 112 (161, ls, a0 :: .ref x :: sk, h) = (zcls h x).bind (fun d => (zsel d [10, 131]).bind (fun M' => zcl1 E 112 164 M' ls sk [.ref x, a0] h)) := zg_vir (as := [a0]) rfl rfl
theorem zi112_164 {E : zE} {x : Int32} {ls sk : List Value} {h : zH} : zrun zpp E 112 (164, ls, [.int x], h) = some (some (.int x), h) := zrun_at rfl
-- 113 NineDown.widen
theorem zi113_0 {E : zE} {x : Nat} {ls sk : List Value} {h : zH} : zrun zpp E 113 (0, .ref x :: ls, sk, h) = zrun zpp E 113 (1, .ref x :: ls, .ref x :: sk, h) := zrun_at rfl
theorem zi113_0n {E : zE} {ls sk : List Value} {h : zH} : zrun zpp E 113 (0, .null :: ls, sk, h) = zrun zpp E 113 (1, .null :: ls, .null :: sk, h) := zrun_at rfl
theorem zi113_1 {E : zE} {x : Nat} {ls sk : List Value} {h : zH} : zrun zpp E 113 (1, ls, .ref x :: sk, h) = (zfld [10] h x 7).bind (fun v => zrun zpp E 113 (4, ls, v :: sk, h)) := zg_getf rfl
theorem zi113_4 {E : zE} {x : Nat} {ls sk : List Value} {h : zH} : zrun zpp E 113 (4, ls, .ref x :: sk, h) = (zcls h x).bind (fun d => (zsel d [9, 70]).bind (fun M' => zcl1 E 113 7 M' ls sk [.ref x] h)) := zg_vir (as := []) rfl rfl
theorem zi113_7 {E : zE} {x : Int32} {ls sk : List Value} {h : zH} : zrun zpp E 113 (7, ls, .int x :: sk, h) = if x = 0 then zrun zpp E 113 (10, ls, sk, h) else zrun zpp E 113 (13, ls, sk, h) := zrun_at rfl
theorem zi113_10 {E : zE} {ls sk : List Value} {h : zH} : zrun zpp E 113 (10, ls, sk, h) = zrun zpp E 113 (12, ls, .int (-1000002) :: sk, h) := zg_ldc rfl ci_m1000002
theorem zi113_12 {E : zE} {x : Int32} {ls sk : List Value} {h : zH} : zrun zpp E 113 (12, ls, [.int x], h) = some (some (.int x), h) := zrun_at rfl
theorem zi113_13 {E : zE} {v0 : Value} {x : Int32} {ls sk : List Value} {h : zH} : zrun zpp E 113 (13, v0 :: .int x :: ls, sk, h) = zrun zpp E 113 (14, v0 :: .int x :: ls, .int x :: sk, h) := zrun_at rfl
theorem zi113_14 {E : zE} {ls sk : List Value} {h : zH} : zrun zpp E 113 (14, ls, sk, h) = zrun zpp E 113 (15, ls, .int 1 :: sk, h) := zg_iconst rfl ci_1
theorem zi113_15 {E : zE} {ls sk : List Value} {h : zH} : zrun zpp E 113 (15, ls, sk, h) = zrun zpp E 113 (17, ls, .int 8 :: sk, h) := zg_bipush rfl ci_8
theorem zi113_17 {E : zE} {a0 a1 a2 : Value} {ls sk : List Value} {h : zH} : zrun zpp E 113 (17, ls, a2 :: a1 :: a0 :: sk, h) = zcl1 E 113 20 126 ls sk [a0, a1, a2] h := zg_inv (as := [a0, a1, a2]) rfl rfl
theorem zi113_20 {E : zE} {x : Int32} {ls sk : List Value} {h : zH} : zrun zpp E 113 (20, ls, .int x :: sk, h) = if x = 0 then zrun zpp E 113 (32, ls, sk, h) else zrun zpp E 113 (23, ls, sk, h) := zrun_at rfl
theorem zi113_23 {E : zE} {v0 v1 : Value} {x : Int32} {ls sk : List Value} {h : zH} : zrun zpp E 113 (23, v0 :: v1 :: .int x :: ls, sk, h) = zrun zpp E 113 (24, v0 :: v1 :: .int x :: ls, .int x :: sk, h) := zrun_at rfl
theorem zi113_24 {E : zE} {ls sk : List Value} {h : zH} : zrun zpp E 113 (24, ls, sk, h) = zrun zpp E 113 (25, ls, .int 0 :: sk, h) := zg_iconst rfl ci_0
theorem zi113_25 {E : zE} {ls sk : List Value} {h : zH} : zrun zpp E 113 (25, ls, sk, h) = zrun zpp E 113 (26, ls, .int 1 :: sk, h) := zg_iconst rfl ci_1
theorem zi113_26 {E : zE} {a0 a1 a2 : Value} {ls sk : List Value} {h : zH} : zrun zpp E 113 (26, ls, a2 :: a1 :: a0 :: sk, h) = zcl1 E 113 29 126 ls sk [a0, a1, a2] h := zg_inv (as := [a0, a1, a2]) rfl rfl
theorem zi113_29 {E : zE} {x : Int32} {ls sk : List Value} {h : zH} : zrun zpp E 113 (29, ls, .int x :: sk, h) = if x = 0 then zrun zpp E 113 (32, ls, sk, h) else zrun zpp E 113 (35, ls, sk, h) := zrun_at rfl
theorem zi113_32 {E : zE} {ls sk : List Value} {h : zH} : zrun zpp E 113 (32, ls, sk, h) = zrun zpp E 113 (34, ls, .int (-1000001) :: sk, h) := zg_ldc rfl ci_m1000001
theorem zi113_34 {E : zE} {x : Int32} {ls sk : List Value} {h : zH} : zrun zpp E 113 (34, ls, [.int x], h) = some (some (.int x), h) := zrun_at rfl
theorem zi113_35 {E : zE} {ls sk : List Value} {h : zH} : zrun zpp E 113 (35, ls, sk, h) = zrun zpp E 113 (36, ls, .int 1 :: sk, h) := zg_iconst rfl ci_1
theorem zi113_36 {E : zE} {x : Nat} {ls sk : List Value} {h : zH} : zrun zpp E 113 (36, .ref x :: ls, sk, h) = zrun zpp E 113 (37, .ref x :: ls, .ref x :: sk, h) := zrun_at rfl
theorem zi113_36n {E : zE} {ls sk : List Value} {h : zH} : zrun zpp E 113 (36, .null :: ls, sk, h) = zrun zpp E 113 (37, .null :: ls, .null :: sk, h) := zrun_at rfl
theorem zi113_37 {E : zE} {x : Nat} {ls sk : List Value} {h : zH} : zrun zpp E 113 (37, ls, .ref x :: sk, h) = (zfld [10] h x 7).bind (fun v => zrun zpp E 113 (40, ls, v :: sk, h)) := zg_getf rfl
theorem zi113_40 {E : zE} {x : Nat} {ls sk : List Value} {h : zH} : zrun zpp E 113 (40, ls, .ref x :: sk, h) = (zfld [9] h x 3).bind (fun v => zrun zpp E 113 (43, ls, v :: sk, h)) := zg_getf rfl
theorem zi113_43 {E : zE} {ls sk : List Value} {h : zH} : zrun zpp E 113 (43, ls, sk, h) = zrun zpp E 113 (44, ls, .int 1 :: sk, h) := zg_iconst rfl ci_1
theorem zi113_44 {E : zE} {x y : Int32} {ls sk : List Value} {h : zH} : zrun zpp E 113 (44, ls, .int y :: .int x :: sk, h) = zrun zpp E 113 (45, ls, .int (x - y) :: sk, h) := zrun_at rfl
theorem zi113_45 {E : zE} {x y : Int32} {ls sk : List Value} {h : zH} : zrun zpp E 113 (45, ls, .int y :: .int x :: sk, h) = zrun zpp E 113 (46, ls, .int (x <<< (y &&& 31)) :: sk, h) := zrun_at rfl
theorem zi113_46 {E : zE} {ls sk : List Value} {h : zH} : zrun zpp E 113 (46, ls, sk, h) = zrun zpp E 113 (47, ls, .int 1 :: sk, h) := zg_iconst rfl ci_1
theorem zi113_47 {E : zE} {x y : Int32} {ls sk : List Value} {h : zH} : zrun zpp E 113 (47, ls, .int y :: .int x :: sk, h) = zrun zpp E 113 (48, ls, .int (x - y) :: sk, h) := zrun_at rfl
theorem zi113_48 {E : zE} {x : Int32} {ls sk : List Value} {h : zH} : zrun zpp E 113 (48, ls, .int x :: sk, h) = if zfree ls 3 = true then zrun zpp E 113 (49, ls.set 3 (.int x), sk, h) else none := zg_ist rfl (fun _ _ _ => rfl)
theorem zi113_49 {E : zE} {v0 v1 v2 : Value} {x : Int32} {ls sk : List Value} {h : zH} : zrun zpp E 113 (49, v0 :: v1 :: v2 :: .int x :: ls, sk, h) = zrun zpp E 113 (50, v0 :: v1 :: v2 :: .int x :: ls, .int x :: sk, h) := zrun_at rfl
theorem zi113_50 {E : zE} {ls sk : List Value} {h : zH} : zrun zpp E 113 (50, ls, sk, h) = zrun zpp E 113 (51, ls, .int 1 :: sk, h) := zg_iconst rfl ci_1
theorem zi113_51 {E : zE} {x y : Int32} {ls sk : List Value} {h : zH} : zrun zpp E 113 (51, ls, .int y :: .int x :: sk, h) = zrun zpp E 113 (52, ls, .int (x - y) :: sk, h) := zrun_at rfl
theorem zi113_52 {E : zE} {x : Int32} {ls sk : List Value} {h : zH} : zrun zpp E 113 (52, ls, .int x :: sk, h) = if zfree ls 4 = true then zrun zpp E 113 (54, ls.set 4 (.int x), sk, h) else none := zg_ist rfl (fun _ _ _ => rfl)
theorem zi113_54 {E : zE} {v0 v1 v2 v3 : Value} {x : Int32} {ls sk : List Value} {h : zH} : zrun zpp E 113 (54, v0 :: v1 :: v2 :: v3 :: .int x :: ls, sk, h) = zrun zpp E 113 (56, v0 :: v1 :: v2 :: v3 :: .int x :: ls, .int x :: sk, h) := zrun_at rfl
theorem zi113_56 {E : zE} {x : Int32} {ls sk : List Value} {h : zH} : zrun zpp E 113 (56, ls, .int x :: sk, h) = if x < 0 then zrun zpp E 113 (105, ls, sk, h) else zrun zpp E 113 (59, ls, sk, h) := zrun_at rfl
theorem zi113_59 {E : zE} {v0 v1 v2 v3 : Value} {x : Int32} {ls sk : List Value} {h : zH} : zrun zpp E 113 (59, v0 :: v1 :: v2 :: v3 :: .int x :: ls, sk, h) = zrun zpp E 113 (61, v0 :: v1 :: v2 :: v3 :: .int x :: ls, .int x :: sk, h) := zrun_at rfl
theorem zi113_61 {E : zE} {a0 : Value} {ls sk : List Value} {h : zH} : zrun zpp E 113 (61, ls, a0 :: sk, h) = zcl1 E 113 64 230 ls sk [a0] h := zg_inv (as := [a0]) rfl rfl
theorem zi113_64 {E : zE} {v0 v1 v2 : Value} {x : Int32} {ls sk : List Value} {h : zH} : zrun zpp E 113 (64, v0 :: v1 :: v2 :: .int x :: ls, sk, h) = zrun zpp E 113 (65, v0 :: v1 :: v2 :: .int x :: ls, .int x :: sk, h) := zrun_at rfl
theorem zi113_65 {E : zE} {a0 : Value} {ls sk : List Value} {h : zH} : zrun zpp E 113 (65, ls, a0 :: sk, h) = zcl1 E 113 68 230 ls sk [a0] h := zg_inv (as := [a0]) rfl rfl
theorem zi113_68 {E : zE} {x y : Int32} {ls sk : List Value} {h : zH} : zrun zpp E 113 (68, ls, .int y :: .int x :: sk, h) = if y < x then zrun zpp E 113 (75, ls, sk, h) else zrun zpp E 113 (71, ls, sk, h) := zrun_at rfl
theorem zi113_71 {E : zE} {ls sk : List Value} {h : zH} : zrun zpp E 113 (71, ls, sk, h) = zrun zpp E 113 (72, ls, .int 1 :: sk, h) := zg_iconst rfl ci_1
theorem zi113_72 {E : zE} {ls sk : List Value} {h : zH} : zrun zpp E 113 (72, ls, sk, h) = zrun zpp E 113 (76, ls, sk, h) := zrun_at rfl
theorem zi113_75 {E : zE} {ls sk : List Value} {h : zH} : zrun zpp E 113 (75, ls, sk, h) = zrun zpp E 113 (76, ls, .int 0 :: sk, h) := zg_iconst rfl ci_0
theorem zi113_76 {E : zE} {x : Int32} {ls sk : List Value} {h : zH} : zrun zpp E 113 (76, ls, .int x :: sk, h) = if zfree ls 5 = true then zrun zpp E 113 (78, ls.set 5 (.int x), sk, h) else none := zg_ist rfl (fun _ _ _ => rfl)
theorem zi113_78 {E : zE} {v0 v1 v2 v3 v4 : Value} {x : Int32} {ls sk : List Value} {h : zH} : zrun zpp E 113 (78, v0 :: v1 :: v2 :: v3 :: v4 :: .int x :: ls, sk, h) = zrun zpp E 113 (80, v0 :: v1 :: v2 :: v3 :: v4 :: .int x :: ls, .int x :: sk, h) := zrun_at rfl
theorem zi113_80 {E : zE} {x : Int32} {ls sk : List Value} {h : zH} : zrun zpp E 113 (80, ls, .int x :: sk, h) = if x = 0 then zrun zpp E 113 (99, ls, sk, h) else zrun zpp E 113 (83, ls, sk, h) := zrun_at rfl
theorem zi113_83 {E : zE} {x : Nat} {ls sk : List Value} {h : zH} : zrun zpp E 113 (83, .ref x :: ls, sk, h) = zrun zpp E 113 (84, .ref x :: ls, .ref x :: sk, h) := zrun_at rfl
theorem zi113_83n {E : zE} {ls sk : List Value} {h : zH} : zrun zpp E 113 (83, .null :: ls, sk, h) = zrun zpp E 113 (84, .null :: ls, .null :: sk, h) := zrun_at rfl
theorem zi113_84 {E : zE} {x : Nat} {ls sk : List Value} {h : zH} : zrun zpp E 113 (84, ls, .ref x :: sk, h) = (zfld [10] h x 7).bind (fun v => zrun zpp E 113 (87, ls, v :: sk, h)) := zg_getf rfl
theorem zi113_87 {E : zE} {v0 v1 v2 v3 : Value} {x : Int32} {ls sk : List Value} {h : zH} : zrun zpp E 113 (87, v0 :: v1 :: v2 :: v3 :: .int x :: ls, sk, h) = zrun zpp E 113 (89, v0 :: v1 :: v2 :: v3 :: .int x :: ls, .int x :: sk, h) := zrun_at rfl
theorem zi113_89 {E : zE} {a0 : Value} {x : Nat} {ls sk : List Value} {h : zH} : zrun zpp E 113 (89, ls, a0 :: .ref x :: sk, h) = (zcls h x).bind (fun d => (zsel d [9, 88]).bind (fun M' => zcl1 E 113 92 M' ls sk [.ref x, a0] h)) := zg_vir (as := [a0]) rfl rfl
theorem zi113_92 {E : zE} {v0 : Value} {x : Int32} {ls sk : List Value} {h : zH} : zrun zpp E 113 (92, v0 :: .int x :: ls, sk, h) = zrun zpp E 113 (93, v0 :: .int x :: ls, .int x :: sk, h) := zrun_at rfl
theorem zi113_93 {E : zE} {x y : Int32} {ls sk : List Value} {h : zH} : zrun zpp E 113 (93, ls, .int y :: .int x :: sk, h) = if y < x then zrun zpp E 113 (99, ls, sk, h) else zrun zpp E 113 (96, ls, sk, h) := zrun_at rfl
theorem zi113_96 {E : zE} {v0 v1 v2 v3 : Value} {x : Int32} {ls sk : List Value} {h : zH} : zrun zpp E 113 (96, v0 :: v1 :: v2 :: v3 :: .int x :: ls, sk, h) = zrun zpp E 113 (98, v0 :: v1 :: v2 :: v3 :: .int x :: ls, .int x :: sk, h) := zrun_at rfl
theorem zi113_98 {E : zE} {x : Int32} {ls sk : List Value} {h : zH} : zrun zpp E 113 (98, ls, .int x :: sk, h) = if zfree ls 3 = true then zrun zpp E 113 (99, ls.set 3 (.int x), sk, h) else none := zg_ist rfl (fun _ _ _ => rfl)
theorem zi113_99 {E : zE} {v0 v1 v2 v3 : Value} {x : Int32} {ls sk : List Value} {h : zH} : zrun zpp E 113 (99, v0 :: v1 :: v2 :: v3 :: .int x :: ls, sk, h) = if zfree (v0 :: v1 :: v2 :: v3 :: .int x :: ls) 4 = true then zrun zpp E 113 (102, v0 :: v1 :: v2 :: v3 :: .int (x + (-1)) :: ls, sk, h) else none := by rw [← ci_m1]; exact zrun_at rfl
theorem zi113_102 {E : zE} {ls sk : List Value} {h : zH} : zrun zpp E 113 (102, ls, sk, h) = zrun zpp E 113 (54, ls, sk, h) := zrun_at rfl
theorem zi113_105 {E : zE} {v0 v1 : Value} {x : Int32} {ls sk : List Value} {h : zH} : zrun zpp E 113 (105, v0 :: v1 :: .int x :: ls, sk, h) = zrun zpp E 113 (106, v0 :: v1 :: .int x :: ls, .int x :: sk, h) := zrun_at rfl
theorem zi113_106 {E : zE} {x : Int32} {ls sk : List Value} {h : zH} : zrun zpp E 113 (106, ls, .int x :: sk, h) = if x = 0 then zrun zpp E 113 (109, ls, sk, h) else zrun zpp E 113 (116, ls, sk, h) := zrun_at rfl
theorem zi113_109 {E : zE} {v0 v1 v2 : Value} {x : Int32} {ls sk : List Value} {h : zH} : zrun zpp E 113 (109, v0 :: v1 :: v2 :: .int x :: ls, sk, h) = zrun zpp E 113 (110, v0 :: v1 :: v2 :: .int x :: ls, .int x :: sk, h) := zrun_at rfl
theorem zi113_110 {E : zE} {a0 : Value} {ls sk : List Value} {h : zH} : zrun zpp E 113 (110, ls, a0 :: sk, h) = zcl1 E 113 113 230 ls sk [a0] h := zg_inv (as := [a0]) rfl rfl
theorem zi113_113 {E : zE} {ls sk : List Value} {h : zH} : zrun zpp E 113 (113, ls, sk, h) = zrun zpp E 113 (117, ls, sk, h) := zrun_at rfl
theorem zi113_116 {E : zE} {v0 v1 v2 : Value} {x : Int32} {ls sk : List Value} {h : zH} : zrun zpp E 113 (116, v0 :: v1 :: v2 :: .int x :: ls, sk, h) = zrun zpp E 113 (117, v0 :: v1 :: v2 :: .int x :: ls, .int x :: sk, h) := zrun_at rfl
theorem zi113_117 {E : zE} {x : Int32} {ls sk : List Value} {h : zH} : zrun zpp E 113 (117, ls, [.int x], h) = some (some (.int x), h) := zrun_at rfl
-- 114 NineDown.plan
theorem zi114_0 {E : zE} {x : Nat} {ls sk : List Value} {h : zH} : zrun zpp E 114 (0, .ref x :: ls, sk, h) = zrun zpp E 114 (1, .ref x :: ls, .ref x :: sk, h) := zrun_at rfl
theorem zi114_0n {E : zE} {ls sk : List Value} {h : zH} : zrun zpp E 114 (0, .null :: ls, sk, h) = zrun zpp E 114 (1, .null :: ls, .null :: sk, h) := zrun_at rfl
theorem zi114_1 {E : zE} {x : Nat} {ls sk : List Value} {h : zH} : zrun zpp E 114 (1, ls, .ref x :: sk, h) = (zfld [10] h x 7).bind (fun v => zrun zpp E 114 (4, ls, v :: sk, h)) := zg_getf rfl
theorem zi114_4 {E : zE} {x : Nat} {ls sk : List Value} {h : zH} : zrun zpp E 114 (4, ls, .ref x :: sk, h) = (zcls h x).bind (fun d => (zsel d [9, 70]).bind (fun M' => zcl1 E 114 7 M' ls sk [.ref x] h)) := zg_vir (as := []) rfl rfl
theorem zi114_7 {E : zE} {x : Int32} {ls sk : List Value} {h : zH} : zrun zpp E 114 (7, ls, .int x :: sk, h) = if x = 0 then zrun zpp E 114 (10, ls, sk, h) else zrun zpp E 114 (13, ls, sk, h) := zrun_at rfl
theorem zi114_10 {E : zE} {ls sk : List Value} {h : zH} : zrun zpp E 114 (10, ls, sk, h) = zrun zpp E 114 (12, ls, .int (-1000002) :: sk, h) := zg_ldc rfl ci_m1000002
theorem zi114_12 {E : zE} {x : Int32} {ls sk : List Value} {h : zH} : zrun zpp E 114 (12, ls, [.int x], h) = some (some (.int x), h) := zrun_at rfl
theorem zi114_13 {E : zE} {x : Nat} {ls sk : List Value} {h : zH} : zrun zpp E 114 (13, .ref x :: ls, sk, h) = zrun zpp E 114 (14, .ref x :: ls, .ref x :: sk, h) := zrun_at rfl
theorem zi114_13n {E : zE} {ls sk : List Value} {h : zH} : zrun zpp E 114 (13, .null :: ls, sk, h) = zrun zpp E 114 (14, .null :: ls, .null :: sk, h) := zrun_at rfl
theorem zi114_14 {E : zE} {v0 : Value} {x : Int32} {ls sk : List Value} {h : zH} : zrun zpp E 114 (14, v0 :: .int x :: ls, sk, h) = zrun zpp E 114 (15, v0 :: .int x :: ls, .int x :: sk, h) := zrun_at rfl
theorem zi114_15 {E : zE} {a0 : Value} {x : Nat} {ls sk : List Value} {h : zH} : zrun zpp E 114 (15, ls, a0 :: .ref x :: sk, h) = (zcls h x).bind (fun d => (zsel d [10, 128]).bind (fun M' => zcl1 E 114 18 M' ls sk [.ref x, a0] h)) := zg_vir (as := [a0]) rfl rfl
theorem zi114_18 {E : zE} {x : Nat} {ls sk : List Value} {h : zH} : zrun zpp E 114 (18, ls, .ref x :: sk, h) = if zfree ls 5 = true then zrun zpp E 114 (20, ls.set 5 (.ref x), sk, h) else none := zg_astr rfl (fun _ _ _ => rfl)
theorem zi114_18n {E : zE} {ls sk : List Value} {h : zH} : zrun zpp E 114 (18, ls, .null :: sk, h) = if zfree ls 5 = true then zrun zpp E 114 (20, ls.set 5 .null, sk, h) else none := zg_astn rfl (fun _ _ _ => rfl)
theorem zi114_20 {E : zE} {v0 v1 v2 v3 v4 : Value} {x : Nat} {ls sk : List Value} {h : zH} : zrun zpp E 114 (20, v0 :: v1 :: v2 :: v3 :: v4 :: .ref x :: ls, sk, h) = zrun zpp E 114 (22, v0 :: v1 :: v2 :: v3 :: v4 :: .ref x :: ls, .ref x :: sk, h) := zrun_at rfl
theorem zi114_20n {E : zE} {v0 v1 v2 v3 v4 : Value} {ls sk : List Value} {h : zH} : zrun zpp E 114 (20, v0 :: v1 :: v2 :: v3 :: v4 :: .null :: ls, sk, h) = zrun zpp E 114 (22, v0 :: v1 :: v2 :: v3 :: v4 :: .null :: ls, .null :: sk, h) := zrun_at rfl
theorem zi114_22 {E : zE} {x : Nat} {ls sk : List Value} {h : zH} : zrun zpp E 114 (22, ls, .ref x :: sk, h) = zrun zpp E 114 (25, ls, sk, h) := zrun_at rfl
theorem zi114_22n {E : zE} {ls sk : List Value} {h : zH} : zrun zpp E 114 (22, ls, .null :: sk, h) = zrun zpp E 114 (45, ls, sk, h) := zrun_at rfl
theorem zi114_25 {E : zE} {v0 v1 v2 : Value} {x : Int32} {ls sk : List Value} {h : zH} : zrun zpp E 114 (25, v0 :: v1 :: v2 :: .int x :: ls, sk, h) = zrun zpp E 114 (26, v0 :: v1 :: v2 :: .int x :: ls, .int x :: sk, h) := zrun_at rfl
theorem zi114_26 {E : zE} {ls sk : List Value} {h : zH} : zrun zpp E 114 (26, ls, sk, h) = zrun zpp E 114 (27, ls, .int 0 :: sk, h) := zg_iconst rfl ci_0
theorem zi114_27 {E : zE} {ls sk : List Value} {h : zH} : zrun zpp E 114 (27, ls, sk, h) = zrun zpp E 114 (29, ls, .int 40 :: sk, h) := zg_bipush rfl ci_40
theorem zi114_29 {E : zE} {a0 a1 a2 : Value} {ls sk : List Value} {h : zH} : zrun zpp E 114 (29, ls, a2 :: a1 :: a0 :: sk, h) = zcl1 E 114 32 126 ls sk [a0, a1, a2] h := zg_inv (as := [a0, a1, a2]) rfl rfl
theorem zi114_32 {E : zE} {x : Int32} {ls sk : List Value} {h : zH} : zrun zpp E 114 (32, ls, .int x :: sk, h) = if x = 0 then zrun zpp E 114 (45, ls, sk, h) else zrun zpp E 114 (35, ls, sk, h) := zrun_at rfl
theorem zi114_35 {E : zE} {v0 v1 v2 v3 : Value} {x : Int32} {ls sk : List Value} {h : zH} : zrun zpp E 114 (35, v0 :: v1 :: v2 :: v3 :: .int x :: ls, sk, h) = zrun zpp E 114 (37, v0 :: v1 :: v2 :: v3 :: .int x :: ls, .int x :: sk, h) := zrun_at rfl
theorem zi114_37 {E : zE} {ls sk : List Value} {h : zH} : zrun zpp E 114 (37, ls, sk, h) = zrun zpp E 114 (38, ls, .int 0 :: sk, h) := zg_iconst rfl ci_0
theorem zi114_38 {E : zE} {ls sk : List Value} {h : zH} : zrun zpp E 114 (38, ls, sk, h) = zrun zpp E 114 (39, ls, .int 2 :: sk, h) := zg_iconst rfl ci_2
theorem zi114_39 {E : zE} {a0 a1 a2 : Value} {ls sk : List Value} {h : zH} : zrun zpp E 114 (39, ls, a2 :: a1 :: a0 :: sk, h) = zcl1 E 114 42 126 ls sk [a0, a1, a2] h := zg_inv (as := [a0, a1, a2]) rfl rfl
theorem zi114_42 {E : zE} {x : Int32} {ls sk : List Value} {h : zH} : zrun zpp E 114 (42, ls, .int x :: sk, h) = if x = 0 then zrun zpp E 114 (45, ls, sk, h) else zrun zpp E 114 (48, ls, sk, h) := zrun_at rfl
theorem zi114_45 {E : zE} {ls sk : List Value} {h : zH} : zrun zpp E 114 (45, ls, sk, h) = zrun zpp E 114 (47, ls, .int (-1000001) :: sk, h) := zg_ldc rfl ci_m1000001
theorem zi114_47 {E : zE} {x : Int32} {ls sk : List Value} {h : zH} : zrun zpp E 114 (47, ls, [.int x], h) = some (some (.int x), h) := zrun_at rfl
theorem zi114_48 {E : zE} {v0 v1 v2 v3 v4 : Value} {x : Nat} {ls sk : List Value} {h : zH} : zrun zpp E 114 (48, v0 :: v1 :: v2 :: v3 :: v4 :: .ref x :: ls, sk, h) = zrun zpp E 114 (50, v0 :: v1 :: v2 :: v3 :: v4 :: .ref x :: ls, .ref x :: sk, h) := zrun_at rfl
theorem zi114_48n {E : zE} {v0 v1 v2 v3 v4 : Value} {ls sk : List Value} {h : zH} : zrun zpp E 114 (48, v0 :: v1 :: v2 :: v3 :: v4 :: .null :: ls, sk, h) = zrun zpp E 114 (50, v0 :: v1 :: v2 :: v3 :: v4 :: .null :: ls, .null :: sk, h) := zrun_at rfl
theorem zi114_50 {E : zE} {x : Nat} {ls sk : List Value} {h : zH} : zrun zpp E 114 (50, ls, .ref x :: sk, h) = (zfld [6] h x 1).bind (fun v => zrun zpp E 114 (53, ls, v :: sk, h)) := zg_getf rfl
theorem zi114_53 {E : zE} {x : Int32} {ls sk : List Value} {h : zH} : zrun zpp E 114 (53, ls, .int x :: sk, h) = if x = 0 then zrun zpp E 114 (56, ls, sk, h) else zrun zpp E 114 (62, ls, sk, h) := zrun_at rfl
theorem zi114_56 {E : zE} {x : Nat} {ls sk : List Value} {h : zH} : zrun zpp E 114 (56, .ref x :: ls, sk, h) = zrun zpp E 114 (57, .ref x :: ls, .ref x :: sk, h) := zrun_at rfl
theorem zi114_56n {E : zE} {ls sk : List Value} {h : zH} : zrun zpp E 114 (56, .null :: ls, sk, h) = zrun zpp E 114 (57, .null :: ls, .null :: sk, h) := zrun_at rfl
theorem zi114_57 {E : zE} {ls sk : List Value} {h : zH} : zrun zpp E 114 (57, ls, sk, h) = zrun zpp E 114 (58, ls, .int 1 :: sk, h) := zg_iconst rfl ci_1
theorem zi114_58 {E : zE} {a0 : Value} {x : Nat} {ls sk : List Value} {h : zH} : zrun zpp E 114 (58, ls, a0 :: .ref x :: sk, h) = (zcls h x).bind (fun d => (zsel d [10, 130]).bind (fun M' => zcl1 E 114 61 M' ls sk [.ref x, a0] h)) := zg_vir (as := [a0]) rfl rfl
theorem zi114_61 {E : zE} {x : Int32} {ls sk : List Value} {h : zH} : zrun zpp E 114 (61, ls, [.int x], h) = some (some (.int x), h) := zrun_at rfl
theorem zi114_62 {E : zE} {v0 v1 v2 v3 v4 : Value} {x : Nat} {ls sk : List Value} {h : zH} : zrun zpp E 114 (62, v0 :: v1 :: v2 :: v3 :: v4 :: .ref x :: ls, sk, h) = zrun zpp E 114 (64, v0 :: v1 :: v2 :: v3 :: v4 :: .ref x :: ls, .ref x :: sk, h) := zrun_at rfl
theorem zi114_62n {E : zE} {v0 v1 v2 v3 v4 : Value} {ls sk : List Value} {h : zH} : zrun zpp E 114 (62, v0 :: v1 :: v2 :: v3 :: v4 :: .null :: ls, sk, h) = zrun zpp E 114 (64, v0 :: v1 :: v2 :: v3 :: v4 :: .null :: ls, .null :: sk, h) := zrun_at rfl
theorem zi114_64 {E : zE} {v0 v1 : Value} {x : Int32} {ls sk : List Value} {h : zH} : zrun zpp E 114 (64, v0 :: v1 :: .int x :: ls, sk, h) = zrun zpp E 114 (65, v0 :: v1 :: .int x :: ls, .int x :: sk, h) := zrun_at rfl
theorem zi114_65 {E : zE} {v0 v1 v2 : Value} {x : Int32} {ls sk : List Value} {h : zH} : zrun zpp E 114 (65, v0 :: v1 :: v2 :: .int x :: ls, sk, h) = zrun zpp E 114 (66, v0 :: v1 :: v2 :: .int x :: ls, .int x :: sk, h) := zrun_at rfl
theorem zi114_66 {E : zE} {a0 a1 : Value} {x : Nat} {ls sk : List Value} {h : zH} : zrun zpp E 114 (66, ls, a1 :: a0 :: .ref x :: sk, h) = (zcls h x).bind (fun d => (zsel d [6, 53]).bind (fun M' => zcl1 E 114 69 M' ls sk [.ref x, a0, a1] h)) := zg_vir (as := [a0, a1]) rfl rfl
theorem zi114_69 {E : zE} {x : Int32} {ls sk : List Value} {h : zH} : zrun zpp E 114 (69, ls, .int x :: sk, h) = if x = 0 then zrun zpp E 114 (72, ls, sk, h) else zrun zpp E 114 (78, ls, sk, h) := zrun_at rfl
theorem zi114_72 {E : zE} {x : Nat} {ls sk : List Value} {h : zH} : zrun zpp E 114 (72, .ref x :: ls, sk, h) = zrun zpp E 114 (73, .ref x :: ls, .ref x :: sk, h) := zrun_at rfl
theorem zi114_72n {E : zE} {ls sk : List Value} {h : zH} : zrun zpp E 114 (72, .null :: ls, sk, h) = zrun zpp E 114 (73, .null :: ls, .null :: sk, h) := zrun_at rfl
theorem zi114_73 {E : zE} {ls sk : List Value} {h : zH} : zrun zpp E 114 (73, ls, sk, h) = zrun zpp E 114 (74, ls, .int 2 :: sk, h) := zg_iconst rfl ci_2
theorem zi114_74 {E : zE} {a0 : Value} {x : Nat} {ls sk : List Value} {h : zH} : zrun zpp E 114 (74, ls, a0 :: .ref x :: sk, h) = (zcls h x).bind (fun d => (zsel d [10, 130]).bind (fun M' => zcl1 E 114 77 M' ls sk [.ref x, a0] h)) := zg_vir (as := [a0]) rfl rfl
theorem zi114_77 {E : zE} {x : Int32} {ls sk : List Value} {h : zH} : zrun zpp E 114 (77, ls, [.int x], h) = some (some (.int x), h) := zrun_at rfl
theorem zi114_78 {E : zE} {x : Nat} {ls sk : List Value} {h : zH} : zrun zpp E 114 (78, .ref x :: ls, sk, h) = zrun zpp E 114 (79, .ref x :: ls, .ref x :: sk, h) := zrun_at rfl
theorem zi114_78n {E : zE} {ls sk : List Value} {h : zH} : zrun zpp E 114 (78, .null :: ls, sk, h) = zrun zpp E 114 (79, .null :: ls, .null :: sk, h) := zrun_at rfl
theorem zi114_79 {E : zE} {x : Nat} {ls sk : List Value} {h : zH} : zrun zpp E 114 (79, ls, .ref x :: sk, h) = (zfld [10] h x 8).bind (fun v => zrun zpp E 114 (82, ls, v :: sk, h)) := zg_getf rfl
theorem zi114_82 {E : zE} {x : Nat} {ls sk : List Value} {h : zH} : zrun zpp E 114 (82, .ref x :: ls, sk, h) = zrun zpp E 114 (83, .ref x :: ls, .ref x :: sk, h) := zrun_at rfl
theorem zi114_82n {E : zE} {ls sk : List Value} {h : zH} : zrun zpp E 114 (82, .null :: ls, sk, h) = zrun zpp E 114 (83, .null :: ls, .null :: sk, h) := zrun_at rfl
theorem zi114_83 {E : zE} {x : Nat} {ls sk : List Value} {h : zH} : zrun zpp E 114 (83, ls, .ref x :: sk, h) = (zfld [10] h x 7).bind (fun v => zrun zpp E 114 (86, ls, v :: sk, h)) := zg_getf rfl
theorem zi114_86 {E : zE} {a0 : Value} {x : Nat} {ls sk : List Value} {h : zH} : zrun zpp E 114 (86, ls, a0 :: .ref x :: sk, h) = (zcls h x).bind (fun d => (zsel d [9, 69]).bind (fun M' => zcl1 E 114 89 M' ls sk [.ref x, a0] h)) := zg_vir (as := [a0]) rfl rfl
theorem zi114_89 {E : zE} {ls sk : List Value} {h : zH} : zrun zpp E 114 (89, ls, sk, h) = zrun zpp E 114 (90, ls, .int 0 :: sk, h) := zg_iconst rfl ci_0
theorem zi114_90 {E : zE} {x : Int32} {ls sk : List Value} {h : zH} : zrun zpp E 114 (90, ls, .int x :: sk, h) = if zfree ls 6 = true then zrun zpp E 114 (92, ls.set 6 (.int x), sk, h) else none := zg_ist rfl (fun _ _ _ => rfl)
theorem zi114_92 {E : zE} {v0 v1 v2 v3 v4 v5 : Value} {x : Int32} {ls sk : List Value} {h : zH} : zrun zpp E 114 (92, v0 :: v1 :: v2 :: v3 :: v4 :: v5 :: .int x :: ls, sk, h) = zrun zpp E 114 (94, v0 :: v1 :: v2 :: v3 :: v4 :: v5 :: .int x :: ls, .int x :: sk, h) := zrun_at rfl
theorem zi114_94 {E : zE} {v0 v1 v2 : Value} {x : Int32} {ls sk : List Value} {h : zH} : zrun zpp E 114 (94, v0 :: v1 :: v2 :: .int x :: ls, sk, h) = zrun zpp E 114 (95, v0 :: v1 :: v2 :: .int x :: ls, .int x :: sk, h) := zrun_at rfl
theorem zi114_95 {E : zE} {x y : Int32} {ls sk : List Value} {h : zH} : zrun zpp E 114 (95, ls, .int y :: .int x :: sk, h) = if y ≤ x then zrun zpp E 114 (121, ls, sk, h) else zrun zpp E 114 (98, ls, sk, h) := zrun_at rfl
theorem zi114_98 {E : zE} {x : Nat} {ls sk : List Value} {h : zH} : zrun zpp E 114 (98, .ref x :: ls, sk, h) = zrun zpp E 114 (99, .ref x :: ls, .ref x :: sk, h) := zrun_at rfl
theorem zi114_98n {E : zE} {ls sk : List Value} {h : zH} : zrun zpp E 114 (98, .null :: ls, sk, h) = zrun zpp E 114 (99, .null :: ls, .null :: sk, h) := zrun_at rfl
theorem zi114_99 {E : zE} {v0 v1 v2 v3 v4 : Value} {x : Nat} {ls sk : List Value} {h : zH} : zrun zpp E 114 (99, v0 :: v1 :: v2 :: v3 :: v4 :: .ref x :: ls, sk, h) = zrun zpp E 114 (101, v0 :: v1 :: v2 :: v3 :: v4 :: .ref x :: ls, .ref x :: sk, h) := zrun_at rfl
theorem zi114_99n {E : zE} {v0 v1 v2 v3 v4 : Value} {ls sk : List Value} {h : zH} : zrun zpp E 114 (99, v0 :: v1 :: v2 :: v3 :: v4 :: .null :: ls, sk, h) = zrun zpp E 114 (101, v0 :: v1 :: v2 :: v3 :: v4 :: .null :: ls, .null :: sk, h) := zrun_at rfl
theorem zi114_101 {E : zE} {x : Nat} {ls sk : List Value} {h : zH} : zrun zpp E 114 (101, ls, .ref x :: sk, h) = (zfld [6] h x 0).bind (fun v => zrun zpp E 114 (104, ls, v :: sk, h)) := zg_getf rfl
theorem zi114_104 {E : zE} {v0 v1 : Value} {x : Int32} {ls sk : List Value} {h : zH} : zrun zpp E 114 (104, v0 :: v1 :: .int x :: ls, sk, h) = zrun zpp E 114 (105, v0 :: v1 :: .int x :: ls, .int x :: sk, h) := zrun_at rfl
theorem zi114_105 {E : zE} {v0 v1 v2 v3 v4 v5 : Value} {x : Int32} {ls sk : List Value} {h : zH} : zrun zpp E 114 (105, v0 :: v1 :: v2 :: v3 :: v4 :: v5 :: .int x :: ls, sk, h) = zrun zpp E 114 (107, v0 :: v1 :: v2 :: v3 :: v4 :: v5 :: .int x :: ls, .int x :: sk, h) := zrun_at rfl
theorem zi114_107 {E : zE} {x y : Int32} {ls sk : List Value} {h : zH} : zrun zpp E 114 (107, ls, .int y :: .int x :: sk, h) = zrun zpp E 114 (108, ls, .int (x + y) :: sk, h) := zrun_at rfl
theorem zi114_108 {E : zE} {x : Nat} {i : Int32} {ls sk : List Value} {h : zH} : zrun zpp E 114 (108, ls, .int i :: .ref x :: sk, h) = (zarr 0 h x i).bind (fun v => zrun zpp E 114 (109, ls, .int v :: sk, h)) := zg_iald rfl
theorem zi114_109 {E : zE} {a0 : Value} {x : Nat} {ls sk : List Value} {h : zH} : zrun zpp E 114 (109, ls, a0 :: .ref x :: sk, h) = (zcls h x).bind (fun d => (zsel d [10, 135]).bind (fun M' => zcl1 E 114 112 M' ls sk [.ref x, a0] h)) := zg_vir (as := [a0]) rfl rfl
theorem zi114_112 {E : zE} {x : Int32} {ls sk : List Value} {h : zH} : zrun zpp E 114 (112, ls, .int x :: sk, h) = if x = 0 then zrun zpp E 114 (121, ls, sk, h) else zrun zpp E 114 (115, ls, sk, h) := zrun_at rfl
theorem zi114_115 {E : zE} {v0 v1 v2 v3 v4 v5 : Value} {x : Int32} {ls sk : List Value} {h : zH} : zrun zpp E 114 (115, v0 :: v1 :: v2 :: v3 :: v4 :: v5 :: .int x :: ls, sk, h) = if zfree (v0 :: v1 :: v2 :: v3 :: v4 :: v5 :: .int x :: ls) 6 = true then zrun zpp E 114 (118, v0 :: v1 :: v2 :: v3 :: v4 :: v5 :: .int (x + 1) :: ls, sk, h) else none := by rw [← ci_1]; exact zrun_at rfl
theorem zi114_118 {E : zE} {ls sk : List Value} {h : zH} : zrun zpp E 114 (118, ls, sk, h) = zrun zpp E 114 (92, ls, sk, h) := zrun_at rfl
theorem zi114_121 {E : zE} {x : Nat} {ls sk : List Value} {h : zH} : zrun zpp E 114 (121, .ref x :: ls, sk, h) = zrun zpp E 114 (122, .ref x :: ls, .ref x :: sk, h) := zrun_at rfl
theorem zi114_121n {E : zE} {ls sk : List Value} {h : zH} : zrun zpp E 114 (121, .null :: ls, sk, h) = zrun zpp E 114 (122, .null :: ls, .null :: sk, h) := zrun_at rfl
theorem zi114_122 {E : zE} {v0 v1 v2 v3 : Value} {x : Int32} {ls sk : List Value} {h : zH} : zrun zpp E 114 (122, v0 :: v1 :: v2 :: v3 :: .int x :: ls, sk, h) = zrun zpp E 114 (124, v0 :: v1 :: v2 :: v3 :: .int x :: ls, .int x :: sk, h) := zrun_at rfl
theorem zi114_124 {E : zE} {x : Int32} {ls sk : List Value} {h : zH} : zrun zpp E 114 (124, ls, .int x :: sk, h) = if x = 0 then zrun zpp E 114 (127, ls, sk, h) else zrun zpp E 114 (132, ls, sk, h) := zrun_at rfl
theorem zi114_127 {E : zE} {v0 v1 v2 v3 v4 v5 : Value} {x : Int32} {ls sk : List Value} {h : zH} : zrun zpp E 114 (127, v0 :: v1 :: v2 :: v3 :: v4 :: v5 :: .int x :: ls, sk, h) = zrun zpp E 114 (129, v0 :: v1 :: v2 :: v3 :: v4 :: v5 :: .int x :: ls, .int x :: sk, h) := zrun_at rfl
theorem zi114_129 {E : zE} {ls sk : List Value} {h : zH} : zrun zpp E 114 (129, ls, sk, h) = zrun zpp E 114 (140, ls, sk, h) := zrun_at rfl
theorem zi114_132 {E : zE} {x : Nat} {ls sk : List Value} {h : zH} : zrun zpp E 114 (132, .ref x :: ls, sk, h) = zrun zpp E 114 (133, .ref x :: ls, .ref x :: sk, h) := zrun_at rfl
theorem zi114_132n {E : zE} {ls sk : List Value} {h : zH} : zrun zpp E 114 (132, .null :: ls, sk, h) = zrun zpp E 114 (133, .null :: ls, .null :: sk, h) := zrun_at rfl
theorem zi114_133 {E : zE} {v0 v1 v2 v3 : Value} {x : Int32} {ls sk : List Value} {h : zH} : zrun zpp E 114 (133, v0 :: v1 :: v2 :: v3 :: .int x :: ls, sk, h) = zrun zpp E 114 (135, v0 :: v1 :: v2 :: v3 :: .int x :: ls, .int x :: sk, h) := zrun_at rfl
theorem zi114_135 {E : zE} {ls sk : List Value} {h : zH} : zrun zpp E 114 (135, ls, sk, h) = zrun zpp E 114 (136, ls, .int 1 :: sk, h) := zg_iconst rfl ci_1
theorem zi114_136 {E : zE} {x y : Int32} {ls sk : List Value} {h : zH} : zrun zpp E 114 (136, ls, .int y :: .int x :: sk, h) = zrun zpp E 114 (137, ls, .int (x - y) :: sk, h) := zrun_at rfl
theorem zi114_137 {E : zE} {a0 : Value} {x : Nat} {ls sk : List Value} {h : zH} : zrun zpp E 114 (137, ls, a0 :: .ref x :: sk, h) = (zcls h x).bind (fun d => (zsel d [10, 133]).bind (fun M' => zcl1 E 114 140 M' ls sk [.ref x, a0] h)) := zg_vir (as := [a0]) rfl rfl
theorem zi114_140 {E : zE} {a0 : Value} {x : Nat} {ls sk : List Value} {h : zH} : zrun zpp E 114 (140, ls, a0 :: .ref x :: sk, h) = (zcls h x).bind (fun d => (zsel d [10, 131]).bind (fun M' => zcl1 E 114 143 M' ls sk [.ref x, a0] h)) := zg_vir (as := [a0]) rfl rfl
theorem zi114_143 {E : zE} {x : Int32} {ls sk : List Value} {h : zH} : zrun zpp E 114 (143, ls, [.int x], h) = some (some (.int x), h) := zrun_at rfl
-- 115 NineDown.who
theorem zi115_0 {E : zE} {x : Nat} {ls sk : List Value} {h : zH} : zrun zpp E 115 (0, .ref x :: ls, sk, h) = zrun zpp E 115 (1, .ref x :: ls, .ref x :: sk, h) := zrun_at rfl
theorem zi115_0n {E : zE} {ls sk : List Value} {h : zH} : zrun zpp E 115 (0, .null :: ls, sk, h) = zrun zpp E 115 (1, .null :: ls, .null :: sk, h) := zrun_at rfl
theorem zi115_1 {E : zE} {x : Nat} {ls sk : List Value} {h : zH} : zrun zpp E 115 (1, ls, .ref x :: sk, h) = (zfld [10] h x 7).bind (fun v => zrun zpp E 115 (4, ls, v :: sk, h)) := zg_getf rfl
theorem zi115_4 {E : zE} {v0 : Value} {x : Int32} {ls sk : List Value} {h : zH} : zrun zpp E 115 (4, v0 :: .int x :: ls, sk, h) = zrun zpp E 115 (5, v0 :: .int x :: ls, .int x :: sk, h) := zrun_at rfl
theorem zi115_5 {E : zE} {a0 : Value} {x : Nat} {ls sk : List Value} {h : zH} : zrun zpp E 115 (5, ls, a0 :: .ref x :: sk, h) = (zcls h x).bind (fun d => (zsel d [9, 73]).bind (fun M' => zcl1 E 115 8 M' ls sk [.ref x, a0] h)) := zg_vir (as := [a0]) rfl rfl
theorem zi115_8 {E : zE} {x : Nat} {ls sk : List Value} {h : zH} : zrun zpp E 115 (8, ls, .ref x :: sk, h) = if zfree ls 5 = true then zrun zpp E 115 (10, ls.set 5 (.ref x), sk, h) else none := zg_astr rfl (fun _ _ _ => rfl)
theorem zi115_8n {E : zE} {ls sk : List Value} {h : zH} : zrun zpp E 115 (8, ls, .null :: sk, h) = if zfree ls 5 = true then zrun zpp E 115 (10, ls.set 5 .null, sk, h) else none := zg_astn rfl (fun _ _ _ => rfl)
theorem zi115_10 {E : zE} {x : Nat} {ls sk : List Value} {h : zH} : zrun zpp E 115 (10, .ref x :: ls, sk, h) = zrun zpp E 115 (11, .ref x :: ls, .ref x :: sk, h) := zrun_at rfl
theorem zi115_10n {E : zE} {ls sk : List Value} {h : zH} : zrun zpp E 115 (10, .null :: ls, sk, h) = zrun zpp E 115 (11, .null :: ls, .null :: sk, h) := zrun_at rfl
theorem zi115_11 {E : zE} {v0 v1 : Value} {x : Int32} {ls sk : List Value} {h : zH} : zrun zpp E 115 (11, v0 :: v1 :: .int x :: ls, sk, h) = zrun zpp E 115 (12, v0 :: v1 :: .int x :: ls, .int x :: sk, h) := zrun_at rfl
theorem zi115_12 {E : zE} {a0 : Value} {x : Nat} {ls sk : List Value} {h : zH} : zrun zpp E 115 (12, ls, a0 :: .ref x :: sk, h) = (zcls h x).bind (fun d => (zsel d [10, 128]).bind (fun M' => zcl1 E 115 15 M' ls sk [.ref x, a0] h)) := zg_vir (as := [a0]) rfl rfl
theorem zi115_15 {E : zE} {x : Nat} {ls sk : List Value} {h : zH} : zrun zpp E 115 (15, ls, .ref x :: sk, h) = if zfree ls 6 = true then zrun zpp E 115 (17, ls.set 6 (.ref x), sk, h) else none := zg_astr rfl (fun _ _ _ => rfl)
theorem zi115_15n {E : zE} {ls sk : List Value} {h : zH} : zrun zpp E 115 (15, ls, .null :: sk, h) = if zfree ls 6 = true then zrun zpp E 115 (17, ls.set 6 .null, sk, h) else none := zg_astn rfl (fun _ _ _ => rfl)
theorem zi115_17 {E : zE} {v0 v1 v2 v3 v4 : Value} {x : Nat} {ls sk : List Value} {h : zH} : zrun zpp E 115 (17, v0 :: v1 :: v2 :: v3 :: v4 :: .ref x :: ls, sk, h) = zrun zpp E 115 (19, v0 :: v1 :: v2 :: v3 :: v4 :: .ref x :: ls, .ref x :: sk, h) := zrun_at rfl
theorem zi115_17n {E : zE} {v0 v1 v2 v3 v4 : Value} {ls sk : List Value} {h : zH} : zrun zpp E 115 (17, v0 :: v1 :: v2 :: v3 :: v4 :: .null :: ls, sk, h) = zrun zpp E 115 (19, v0 :: v1 :: v2 :: v3 :: v4 :: .null :: ls, .null :: sk, h) := zrun_at rfl
theorem zi115_19 {E : zE} {x : Nat} {ls sk : List Value} {h : zH} : zrun zpp E 115 (19, ls, .ref x :: sk, h) = zrun zpp E 115 (22, ls, sk, h) := zrun_at rfl
theorem zi115_19n {E : zE} {ls sk : List Value} {h : zH} : zrun zpp E 115 (19, ls, .null :: sk, h) = zrun zpp E 115 (38, ls, sk, h) := zrun_at rfl
theorem zi115_22 {E : zE} {v0 v1 v2 v3 v4 v5 : Value} {x : Nat} {ls sk : List Value} {h : zH} : zrun zpp E 115 (22, v0 :: v1 :: v2 :: v3 :: v4 :: v5 :: .ref x :: ls, sk, h) = zrun zpp E 115 (24, v0 :: v1 :: v2 :: v3 :: v4 :: v5 :: .ref x :: ls, .ref x :: sk, h) := zrun_at rfl
theorem zi115_22n {E : zE} {v0 v1 v2 v3 v4 v5 : Value} {ls sk : List Value} {h : zH} : zrun zpp E 115 (22, v0 :: v1 :: v2 :: v3 :: v4 :: v5 :: .null :: ls, sk, h) = zrun zpp E 115 (24, v0 :: v1 :: v2 :: v3 :: v4 :: v5 :: .null :: ls, .null :: sk, h) := zrun_at rfl
theorem zi115_24 {E : zE} {x : Nat} {ls sk : List Value} {h : zH} : zrun zpp E 115 (24, ls, .ref x :: sk, h) = zrun zpp E 115 (27, ls, sk, h) := zrun_at rfl
theorem zi115_24n {E : zE} {ls sk : List Value} {h : zH} : zrun zpp E 115 (24, ls, .null :: sk, h) = zrun zpp E 115 (38, ls, sk, h) := zrun_at rfl
theorem zi115_27 {E : zE} {v0 v1 v2 v3 : Value} {x : Int32} {ls sk : List Value} {h : zH} : zrun zpp E 115 (27, v0 :: v1 :: v2 :: v3 :: .int x :: ls, sk, h) = zrun zpp E 115 (29, v0 :: v1 :: v2 :: v3 :: .int x :: ls, .int x :: sk, h) := zrun_at rfl
theorem zi115_29 {E : zE} {ls sk : List Value} {h : zH} : zrun zpp E 115 (29, ls, sk, h) = zrun zpp E 115 (30, ls, .int 1 :: sk, h) := zg_iconst rfl ci_1
theorem zi115_30 {E : zE} {ls sk : List Value} {h : zH} : zrun zpp E 115 (30, ls, sk, h) = zrun zpp E 115 (32, ls, .int 8 :: sk, h) := zg_bipush rfl ci_8
theorem zi115_32 {E : zE} {a0 a1 a2 : Value} {ls sk : List Value} {h : zH} : zrun zpp E 115 (32, ls, a2 :: a1 :: a0 :: sk, h) = zcl1 E 115 35 126 ls sk [a0, a1, a2] h := zg_inv (as := [a0, a1, a2]) rfl rfl
theorem zi115_35 {E : zE} {x : Int32} {ls sk : List Value} {h : zH} : zrun zpp E 115 (35, ls, .int x :: sk, h) = if x = 0 then zrun zpp E 115 (38, ls, sk, h) else zrun zpp E 115 (41, ls, sk, h) := zrun_at rfl
theorem zi115_38 {E : zE} {ls sk : List Value} {h : zH} : zrun zpp E 115 (38, ls, sk, h) = zrun zpp E 115 (40, ls, .int (-1000001) :: sk, h) := zg_ldc rfl ci_m1000001
theorem zi115_40 {E : zE} {x : Int32} {ls sk : List Value} {h : zH} : zrun zpp E 115 (40, ls, [.int x], h) = some (some (.int x), h) := zrun_at rfl
theorem zi115_41 {E : zE} {v0 v1 v2 v3 v4 v5 : Value} {x : Nat} {ls sk : List Value} {h : zH} : zrun zpp E 115 (41, v0 :: v1 :: v2 :: v3 :: v4 :: v5 :: .ref x :: ls, sk, h) = zrun zpp E 115 (43, v0 :: v1 :: v2 :: v3 :: v4 :: v5 :: .ref x :: ls, .ref x :: sk, h) := zrun_at rfl
theorem zi115_41n {E : zE} {v0 v1 v2 v3 v4 v5 : Value} {ls sk : List Value} {h : zH} : zrun zpp E 115 (41, v0 :: v1 :: v2 :: v3 :: v4 :: v5 :: .null :: ls, sk, h) = zrun zpp E 115 (43, v0 :: v1 :: v2 :: v3 :: v4 :: v5 :: .null :: ls, .null :: sk, h) := zrun_at rfl
theorem zi115_43 {E : zE} {x : Nat} {ls sk : List Value} {h : zH} : zrun zpp E 115 (43, ls, .ref x :: sk, h) = (zfld [6] h x 1).bind (fun v => zrun zpp E 115 (46, ls, v :: sk, h)) := zg_getf rfl
theorem zi115_46 {E : zE} {x : Int32} {ls sk : List Value} {h : zH} : zrun zpp E 115 (46, ls, .int x :: sk, h) = if x = 0 then zrun zpp E 115 (49, ls, sk, h) else zrun zpp E 115 (55, ls, sk, h) := zrun_at rfl
theorem zi115_49 {E : zE} {x : Nat} {ls sk : List Value} {h : zH} : zrun zpp E 115 (49, .ref x :: ls, sk, h) = zrun zpp E 115 (50, .ref x :: ls, .ref x :: sk, h) := zrun_at rfl
theorem zi115_49n {E : zE} {ls sk : List Value} {h : zH} : zrun zpp E 115 (49, .null :: ls, sk, h) = zrun zpp E 115 (50, .null :: ls, .null :: sk, h) := zrun_at rfl
theorem zi115_50 {E : zE} {ls sk : List Value} {h : zH} : zrun zpp E 115 (50, ls, sk, h) = zrun zpp E 115 (51, ls, .int 1 :: sk, h) := zg_iconst rfl ci_1
theorem zi115_51 {E : zE} {a0 : Value} {x : Nat} {ls sk : List Value} {h : zH} : zrun zpp E 115 (51, ls, a0 :: .ref x :: sk, h) = (zcls h x).bind (fun d => (zsel d [10, 130]).bind (fun M' => zcl1 E 115 54 M' ls sk [.ref x, a0] h)) := zg_vir (as := [a0]) rfl rfl
theorem zi115_54 {E : zE} {x : Int32} {ls sk : List Value} {h : zH} : zrun zpp E 115 (54, ls, [.int x], h) = some (some (.int x), h) := zrun_at rfl
theorem zi115_55 {E : zE} {v0 v1 v2 v3 v4 v5 : Value} {x : Nat} {ls sk : List Value} {h : zH} : zrun zpp E 115 (55, v0 :: v1 :: v2 :: v3 :: v4 :: v5 :: .ref x :: ls, sk, h) = zrun zpp E 115 (57, v0 :: v1 :: v2 :: v3 :: v4 :: v5 :: .ref x :: ls, .ref x :: sk, h) := zrun_at rfl
theorem zi115_55n {E : zE} {v0 v1 v2 v3 v4 v5 : Value} {ls sk : List Value} {h : zH} : zrun zpp E 115 (55, v0 :: v1 :: v2 :: v3 :: v4 :: v5 :: .null :: ls, sk, h) = zrun zpp E 115 (57, v0 :: v1 :: v2 :: v3 :: v4 :: v5 :: .null :: ls, .null :: sk, h) := zrun_at rfl
theorem zi115_57 {E : zE} {v0 v1 v2 : Value} {x : Int32} {ls sk : List Value} {h : zH} : zrun zpp E 115 (57, v0 :: v1 :: v2 :: .int x :: ls, sk, h) = zrun zpp E 115 (58, v0 :: v1 :: v2 :: .int x :: ls, .int x :: sk, h) := zrun_at rfl
theorem zi115_58 {E : zE} {ls sk : List Value} {h : zH} : zrun zpp E 115 (58, ls, sk, h) = zrun zpp E 115 (59, ls, .int 2 :: sk, h) := zg_iconst rfl ci_2
theorem zi115_59 {E : zE} {v0 v1 v2 v3 : Value} {x : Int32} {ls sk : List Value} {h : zH} : zrun zpp E 115 (59, v0 :: v1 :: v2 :: v3 :: .int x :: ls, sk, h) = zrun zpp E 115 (61, v0 :: v1 :: v2 :: v3 :: .int x :: ls, .int x :: sk, h) := zrun_at rfl
theorem zi115_61 {E : zE} {x y : Int32} {ls sk : List Value} {h : zH} : zrun zpp E 115 (61, ls, .int y :: .int x :: sk, h) = zrun zpp E 115 (62, ls, .int (x * y) :: sk, h) := zrun_at rfl
theorem zi115_62 {E : zE} {a0 a1 : Value} {x : Nat} {ls sk : List Value} {h : zH} : zrun zpp E 115 (62, ls, a1 :: a0 :: .ref x :: sk, h) = (zcls h x).bind (fun d => (zsel d [6, 53]).bind (fun M' => zcl1 E 115 65 M' ls sk [.ref x, a0, a1] h)) := zg_vir (as := [a0, a1]) rfl rfl
theorem zi115_65 {E : zE} {x : Int32} {ls sk : List Value} {h : zH} : zrun zpp E 115 (65, ls, .int x :: sk, h) = if x = 0 then zrun zpp E 115 (68, ls, sk, h) else zrun zpp E 115 (74, ls, sk, h) := zrun_at rfl
theorem zi115_68 {E : zE} {x : Nat} {ls sk : List Value} {h : zH} : zrun zpp E 115 (68, .ref x :: ls, sk, h) = zrun zpp E 115 (69, .ref x :: ls, .ref x :: sk, h) := zrun_at rfl
theorem zi115_68n {E : zE} {ls sk : List Value} {h : zH} : zrun zpp E 115 (68, .null :: ls, sk, h) = zrun zpp E 115 (69, .null :: ls, .null :: sk, h) := zrun_at rfl
theorem zi115_69 {E : zE} {ls sk : List Value} {h : zH} : zrun zpp E 115 (69, ls, sk, h) = zrun zpp E 115 (70, ls, .int 2 :: sk, h) := zg_iconst rfl ci_2
theorem zi115_70 {E : zE} {a0 : Value} {x : Nat} {ls sk : List Value} {h : zH} : zrun zpp E 115 (70, ls, a0 :: .ref x :: sk, h) = (zcls h x).bind (fun d => (zsel d [10, 130]).bind (fun M' => zcl1 E 115 73 M' ls sk [.ref x, a0] h)) := zg_vir (as := [a0]) rfl rfl
theorem zi115_73 {E : zE} {x : Int32} {ls sk : List Value} {h : zH} : zrun zpp E 115 (73, ls, [.int x], h) = some (some (.int x), h) := zrun_at rfl
theorem zi115_74 {E : zE} {ls sk : List Value} {h : zH} : zrun zpp E 115 (74, ls, sk, h) = zrun zpp E 115 (75, ls, .int 0 :: sk, h) := zg_iconst rfl ci_0
theorem zi115_75 {E : zE} {x : Int32} {ls sk : List Value} {h : zH} : zrun zpp E 115 (75, ls, .int x :: sk, h) = if zfree ls 7 = true then zrun zpp E 115 (77, ls.set 7 (.int x), sk, h) else none := zg_ist rfl (fun _ _ _ => rfl)
theorem zi115_77 {E : zE} {v0 v1 v2 v3 v4 v5 v6 : Value} {x : Int32} {ls sk : List Value} {h : zH} : zrun zpp E 115 (77, v0 :: v1 :: v2 :: v3 :: v4 :: v5 :: v6 :: .int x :: ls, sk, h) = zrun zpp E 115 (79, v0 :: v1 :: v2 :: v3 :: v4 :: v5 :: v6 :: .int x :: ls, .int x :: sk, h) := zrun_at rfl
theorem zi115_79 {E : zE} {v0 v1 v2 v3 : Value} {x : Int32} {ls sk : List Value} {h : zH} : zrun zpp E 115 (79, v0 :: v1 :: v2 :: v3 :: .int x :: ls, sk, h) = zrun zpp E 115 (81, v0 :: v1 :: v2 :: v3 :: .int x :: ls, .int x :: sk, h) := zrun_at rfl
theorem zi115_81 {E : zE} {x y : Int32} {ls sk : List Value} {h : zH} : zrun zpp E 115 (81, ls, .int y :: .int x :: sk, h) = if y ≤ x then zrun zpp E 115 (115, ls, sk, h) else zrun zpp E 115 (84, ls, sk, h) := zrun_at rfl
theorem zi115_84 {E : zE} {x : Nat} {ls sk : List Value} {h : zH} : zrun zpp E 115 (84, .ref x :: ls, sk, h) = zrun zpp E 115 (85, .ref x :: ls, .ref x :: sk, h) := zrun_at rfl
theorem zi115_84n {E : zE} {ls sk : List Value} {h : zH} : zrun zpp E 115 (84, .null :: ls, sk, h) = zrun zpp E 115 (85, .null :: ls, .null :: sk, h) := zrun_at rfl
theorem zi115_85 {E : zE} {x : Nat} {ls sk : List Value} {h : zH} : zrun zpp E 115 (85, ls, .ref x :: sk, h) = (zfld [10] h x 7).bind (fun v => zrun zpp E 115 (88, ls, v :: sk, h)) := zg_getf rfl
theorem zi115_88 {E : zE} {v0 v1 v2 v3 v4 v5 : Value} {x : Nat} {ls sk : List Value} {h : zH} : zrun zpp E 115 (88, v0 :: v1 :: v2 :: v3 :: v4 :: v5 :: .ref x :: ls, sk, h) = zrun zpp E 115 (90, v0 :: v1 :: v2 :: v3 :: v4 :: v5 :: .ref x :: ls, .ref x :: sk, h) := zrun_at rfl
theorem zi115_88n {E : zE} {v0 v1 v2 v3 v4 v5 : Value} {ls sk : List Value} {h : zH} : zrun zpp E 115 (88, v0 :: v1 :: v2 :: v3 :: v4 :: v5 :: .null :: ls, sk, h) = zrun zpp E 115 (90, v0 :: v1 :: v2 :: v3 :: v4 :: v5 :: .null :: ls, .null :: sk, h) := zrun_at rfl
theorem zi115_90 {E : zE} {x : Nat} {ls sk : List Value} {h : zH} : zrun zpp E 115 (90, ls, .ref x :: sk, h) = (zfld [6] h x 0).bind (fun v => zrun zpp E 115 (93, ls, v :: sk, h)) := zg_getf rfl
theorem zi115_93 {E : zE} {v0 v1 v2 : Value} {x : Int32} {ls sk : List Value} {h : zH} : zrun zpp E 115 (93, v0 :: v1 :: v2 :: .int x :: ls, sk, h) = zrun zpp E 115 (94, v0 :: v1 :: v2 :: .int x :: ls, .int x :: sk, h) := zrun_at rfl
theorem zi115_94 {E : zE} {ls sk : List Value} {h : zH} : zrun zpp E 115 (94, ls, sk, h) = zrun zpp E 115 (95, ls, .int 2 :: sk, h) := zg_iconst rfl ci_2
theorem zi115_95 {E : zE} {v0 v1 v2 v3 v4 v5 v6 : Value} {x : Int32} {ls sk : List Value} {h : zH} : zrun zpp E 115 (95, v0 :: v1 :: v2 :: v3 :: v4 :: v5 :: v6 :: .int x :: ls, sk, h) = zrun zpp E 115 (97, v0 :: v1 :: v2 :: v3 :: v4 :: v5 :: v6 :: .int x :: ls, .int x :: sk, h) := zrun_at rfl
theorem zi115_97 {E : zE} {x y : Int32} {ls sk : List Value} {h : zH} : zrun zpp E 115 (97, ls, .int y :: .int x :: sk, h) = zrun zpp E 115 (98, ls, .int (x * y) :: sk, h) := zrun_at rfl
theorem zi115_98 {E : zE} {x y : Int32} {ls sk : List Value} {h : zH} : zrun zpp E 115 (98, ls, .int y :: .int x :: sk, h) = zrun zpp E 115 (99, ls, .int (x + y) :: sk, h) := zrun_at rfl
theorem zi115_99 {E : zE} {x : Nat} {i : Int32} {ls sk : List Value} {h : zH} : zrun zpp E 115 (99, ls, .int i :: .ref x :: sk, h) = (zarr 0 h x i).bind (fun v => zrun zpp E 115 (100, ls, .int v :: sk, h)) := zg_iald rfl
theorem zi115_100 {E : zE} {a0 : Value} {x : Nat} {ls sk : List Value} {h : zH} : zrun zpp E 115 (100, ls, a0 :: .ref x :: sk, h) = (zcls h x).bind (fun d => (zsel d [9, 71]).bind (fun M' => zcl1 E 115 103 M' ls sk [.ref x, a0] h)) := zg_vir (as := [a0]) rfl rfl
theorem zi115_103 {E : zE} {x : Int32} {ls sk : List Value} {h : zH} : zrun zpp E 115 (103, ls, .int x :: sk, h) = if x = 0 then zrun zpp E 115 (106, ls, sk, h) else zrun zpp E 115 (109, ls, sk, h) := zrun_at rfl
theorem zi115_106 {E : zE} {ls sk : List Value} {h : zH} : zrun zpp E 115 (106, ls, sk, h) = zrun zpp E 115 (108, ls, .int (-1000001) :: sk, h) := zg_ldc rfl ci_m1000001
theorem zi115_108 {E : zE} {x : Int32} {ls sk : List Value} {h : zH} : zrun zpp E 115 (108, ls, [.int x], h) = some (some (.int x), h) := zrun_at rfl
theorem zi115_109 {E : zE} {v0 v1 v2 v3 v4 v5 v6 : Value} {x : Int32} {ls sk : List Value} {h : zH} : zrun zpp E 115 (109, v0 :: v1 :: v2 :: v3 :: v4 :: v5 :: v6 :: .int x :: ls, sk, h) = if zfree (v0 :: v1 :: v2 :: v3 :: v4 :: v5 :: v6 :: .int x :: ls) 7 = true then zrun zpp E 115 (112, v0 :: v1 :: v2 :: v3 :: v4 :: v5 :: v6 :: .int (x + 1) :: ls, sk, h) else none := by rw [← ci_1]; exact zrun_at rfl
theorem zi115_112 {E : zE} {ls sk : List Value} {h : zH} : zrun zpp E 115 (112, ls, sk, h) = zrun zpp E 115 (77, ls, sk, h) := zrun_at rfl
theorem zi115_115 {E : zE} {ls sk : List Value} {h : zH} : zrun zpp E 115 (115, ls, sk, h) = zrun zpp E 115 (116, ls, .int 0 :: sk, h) := zg_iconst rfl ci_0
theorem zi115_116 {E : zE} {x : Int32} {ls sk : List Value} {h : zH} : zrun zpp E 115 (116, ls, .int x :: sk, h) = if zfree ls 7 = true then zrun zpp E 115 (118, ls.set 7 (.int x), sk, h) else none := zg_ist rfl (fun _ _ _ => rfl)
theorem zi115_118 {E : zE} {ls sk : List Value} {h : zH} : zrun zpp E 115 (118, ls, sk, h) = zrun zpp E 115 (119, ls, .int 1 :: sk, h) := zg_iconst rfl ci_1
theorem zi115_119 {E : zE} {x : Int32} {ls sk : List Value} {h : zH} : zrun zpp E 115 (119, ls, .int x :: sk, h) = if zfree ls 8 = true then zrun zpp E 115 (121, ls.set 8 (.int x), sk, h) else none := zg_ist rfl (fun _ _ _ => rfl)
theorem zi115_121 {E : zE} {v0 v1 v2 v3 v4 v5 v6 v7 : Value} {x : Int32} {ls sk : List Value} {h : zH} : zrun zpp E 115 (121, v0 :: v1 :: v2 :: v3 :: v4 :: v5 :: v6 :: v7 :: .int x :: ls, sk, h) = zrun zpp E 115 (123, v0 :: v1 :: v2 :: v3 :: v4 :: v5 :: v6 :: v7 :: .int x :: ls, .int x :: sk, h) := zrun_at rfl
theorem zi115_123 {E : zE} {ls sk : List Value} {h : zH} : zrun zpp E 115 (123, ls, sk, h) = zrun zpp E 115 (124, ls, .int 5 :: sk, h) := zg_iconst rfl ci_5
theorem zi115_124 {E : zE} {x y : Int32} {ls sk : List Value} {h : zH} : zrun zpp E 115 (124, ls, .int y :: .int x :: sk, h) = if y < x then zrun zpp E 115 (173, ls, sk, h) else zrun zpp E 115 (127, ls, sk, h) := zrun_at rfl
theorem zi115_127 {E : zE} {v0 v1 v2 v3 v4 v5 v6 : Value} {x : Int32} {ls sk : List Value} {h : zH} : zrun zpp E 115 (127, v0 :: v1 :: v2 :: v3 :: v4 :: v5 :: v6 :: .int x :: ls, sk, h) = zrun zpp E 115 (129, v0 :: v1 :: v2 :: v3 :: v4 :: v5 :: v6 :: .int x :: ls, .int x :: sk, h) := zrun_at rfl
theorem zi115_129 {E : zE} {x : Nat} {ls sk : List Value} {h : zH} : zrun zpp E 115 (129, .ref x :: ls, sk, h) = zrun zpp E 115 (130, .ref x :: ls, .ref x :: sk, h) := zrun_at rfl
theorem zi115_129n {E : zE} {ls sk : List Value} {h : zH} : zrun zpp E 115 (129, .null :: ls, sk, h) = zrun zpp E 115 (130, .null :: ls, .null :: sk, h) := zrun_at rfl
theorem zi115_130 {E : zE} {v0 v1 v2 v3 v4 v5 v6 v7 : Value} {x : Int32} {ls sk : List Value} {h : zH} : zrun zpp E 115 (130, v0 :: v1 :: v2 :: v3 :: v4 :: v5 :: v6 :: v7 :: .int x :: ls, sk, h) = zrun zpp E 115 (132, v0 :: v1 :: v2 :: v3 :: v4 :: v5 :: v6 :: v7 :: .int x :: ls, .int x :: sk, h) := zrun_at rfl
theorem zi115_132 {E : zE} {v0 v1 v2 v3 v4 : Value} {x : Nat} {ls sk : List Value} {h : zH} : zrun zpp E 115 (132, v0 :: v1 :: v2 :: v3 :: v4 :: .ref x :: ls, sk, h) = zrun zpp E 115 (134, v0 :: v1 :: v2 :: v3 :: v4 :: .ref x :: ls, .ref x :: sk, h) := zrun_at rfl
theorem zi115_132n {E : zE} {v0 v1 v2 v3 v4 : Value} {ls sk : List Value} {h : zH} : zrun zpp E 115 (132, v0 :: v1 :: v2 :: v3 :: v4 :: .null :: ls, sk, h) = zrun zpp E 115 (134, v0 :: v1 :: v2 :: v3 :: v4 :: .null :: ls, .null :: sk, h) := zrun_at rfl
theorem zi115_134 {E : zE} {x : Nat} {ls sk : List Value} {h : zH} : zrun zpp E 115 (134, ls, .ref x :: sk, h) = (zfld [1, 2, 3, 4, 7] h x 0).bind (fun v => zrun zpp E 115 (137, ls, v :: sk, h)) := zg_getf rfl
theorem zi115_137 {E : zE} {v0 v1 v2 v3 v4 : Value} {x : Nat} {ls sk : List Value} {h : zH} : zrun zpp E 115 (137, v0 :: v1 :: v2 :: v3 :: v4 :: .ref x :: ls, sk, h) = zrun zpp E 115 (139, v0 :: v1 :: v2 :: v3 :: v4 :: .ref x :: ls, .ref x :: sk, h) := zrun_at rfl
theorem zi115_137n {E : zE} {v0 v1 v2 v3 v4 : Value} {ls sk : List Value} {h : zH} : zrun zpp E 115 (137, v0 :: v1 :: v2 :: v3 :: v4 :: .null :: ls, sk, h) = zrun zpp E 115 (139, v0 :: v1 :: v2 :: v3 :: v4 :: .null :: ls, .null :: sk, h) := zrun_at rfl
theorem zi115_139 {E : zE} {x : Nat} {ls sk : List Value} {h : zH} : zrun zpp E 115 (139, ls, .ref x :: sk, h) = (zfld [1, 2, 3, 4, 7] h x 1).bind (fun v => zrun zpp E 115 (142, ls, v :: sk, h)) := zg_getf rfl
theorem zi115_142 {E : zE} {a0 a1 a2 : Value} {ls sk : List Value} {h : zH} : zrun zpp E 115 (142, ls, a2 :: a1 :: a0 :: sk, h) = zcl1 E 115 145 146 ls sk [a0, a1, a2] h := zg_inv (as := [a0, a1, a2]) rfl rfl
theorem zi115_145 {E : zE} {v0 v1 v2 v3 v4 v5 : Value} {x : Nat} {ls sk : List Value} {h : zH} : zrun zpp E 115 (145, v0 :: v1 :: v2 :: v3 :: v4 :: v5 :: .ref x :: ls, sk, h) = zrun zpp E 115 (147, v0 :: v1 :: v2 :: v3 :: v4 :: v5 :: .ref x :: ls, .ref x :: sk, h) := zrun_at rfl
theorem zi115_145n {E : zE} {v0 v1 v2 v3 v4 v5 : Value} {ls sk : List Value} {h : zH} : zrun zpp E 115 (145, v0 :: v1 :: v2 :: v3 :: v4 :: v5 :: .null :: ls, sk, h) = zrun zpp E 115 (147, v0 :: v1 :: v2 :: v3 :: v4 :: v5 :: .null :: ls, .null :: sk, h) := zrun_at rfl
theorem zi115_147 {E : zE} {v0 v1 v2 : Value} {x : Int32} {ls sk : List Value} {h : zH} : zrun zpp E 115 (147, v0 :: v1 :: v2 :: .int x :: ls, sk, h) = zrun zpp E 115 (148, v0 :: v1 :: v2 :: .int x :: ls, .int x :: sk, h) := zrun_at rfl
theorem zi115_148 {E : zE} {v0 v1 v2 v3 : Value} {x : Int32} {ls sk : List Value} {h : zH} : zrun zpp E 115 (148, v0 :: v1 :: v2 :: v3 :: .int x :: ls, sk, h) = zrun zpp E 115 (150, v0 :: v1 :: v2 :: v3 :: .int x :: ls, .int x :: sk, h) := zrun_at rfl
theorem zi115_150 {E : zE} {a0 a1 a2 a3 : Value} {x : Nat} {ls sk : List Value} {h : zH} : zrun zpp E 115 (150, ls, a3 :: a2 :: a1 :: a0 :: .ref x :: sk, h) = (zcls h x).bind (fun d => (zsel d [10, 136]).bind (fun M' => zcl1 E 115 153 M' ls sk [.ref x, a0, a1, a2, a3] h)) := zg_vir (as := [a0, a1, a2, a3]) rfl rfl
theorem zi115_153 {E : zE} {x : Int32} {ls sk : List Value} {h : zH} : zrun zpp E 115 (153, ls, .int x :: sk, h) = if x = 0 then zrun zpp E 115 (163, ls, sk, h) else zrun zpp E 115 (156, ls, sk, h) := zrun_at rfl
theorem zi115_156 {E : zE} {ls sk : List Value} {h : zH} : zrun zpp E 115 (156, ls, sk, h) = zrun zpp E 115 (157, ls, .int 1 :: sk, h) := zg_iconst rfl ci_1
theorem zi115_157 {E : zE} {v0 v1 v2 v3 v4 v5 v6 v7 : Value} {x : Int32} {ls sk : List Value} {h : zH} : zrun zpp E 115 (157, v0 :: v1 :: v2 :: v3 :: v4 :: v5 :: v6 :: v7 :: .int x :: ls, sk, h) = zrun zpp E 115 (159, v0 :: v1 :: v2 :: v3 :: v4 :: v5 :: v6 :: v7 :: .int x :: ls, .int x :: sk, h) := zrun_at rfl
theorem zi115_159 {E : zE} {x y : Int32} {ls sk : List Value} {h : zH} : zrun zpp E 115 (159, ls, .int y :: .int x :: sk, h) = zrun zpp E 115 (160, ls, .int (x <<< (y &&& 31)) :: sk, h) := zrun_at rfl
theorem zi115_160 {E : zE} {ls sk : List Value} {h : zH} : zrun zpp E 115 (160, ls, sk, h) = zrun zpp E 115 (164, ls, sk, h) := zrun_at rfl
theorem zi115_163 {E : zE} {ls sk : List Value} {h : zH} : zrun zpp E 115 (163, ls, sk, h) = zrun zpp E 115 (164, ls, .int 0 :: sk, h) := zg_iconst rfl ci_0
theorem zi115_164 {E : zE} {x y : Int32} {ls sk : List Value} {h : zH} : zrun zpp E 115 (164, ls, .int y :: .int x :: sk, h) = zrun zpp E 115 (165, ls, .int (x ||| y) :: sk, h) := zrun_at rfl
theorem zi115_165 {E : zE} {x : Int32} {ls sk : List Value} {h : zH} : zrun zpp E 115 (165, ls, .int x :: sk, h) = if zfree ls 7 = true then zrun zpp E 115 (167, ls.set 7 (.int x), sk, h) else none := zg_ist rfl (fun _ _ _ => rfl)
theorem zi115_167 {E : zE} {v0 v1 v2 v3 v4 v5 v6 v7 : Value} {x : Int32} {ls sk : List Value} {h : zH} : zrun zpp E 115 (167, v0 :: v1 :: v2 :: v3 :: v4 :: v5 :: v6 :: v7 :: .int x :: ls, sk, h) = if zfree (v0 :: v1 :: v2 :: v3 :: v4 :: v5 :: v6 :: v7 :: .int x :: ls) 8 = true then zrun zpp E 115 (170, v0 :: v1 :: v2 :: v3 :: v4 :: v5 :: v6 :: v7 :: .int (x + 1) :: ls, sk, h) else none := by rw [← ci_1]; exact zrun_at rfl
theorem zi115_170 {E : zE} {ls sk : List Value} {h : zH} : zrun zpp E 115 (170, ls, sk, h) = zrun zpp E 115 (121, ls, sk, h) := zrun_at rfl
theorem zi115_173 {E : zE} {x : Nat} {ls sk : List Value} {h : zH} : zrun zpp E 115 (173, .ref x :: ls, sk, h) = zrun zpp E 115 (174, .ref x :: ls, .ref x :: sk, h) := zrun_at rfl
theorem zi115_173n {E : zE} {ls sk : List Value} {h : zH} : zrun zpp E 115 (173, .null :: ls, sk, h) = zrun zpp E 115 (174, .null :: ls, .null :: sk, h) := zrun_at rfl
theorem zi115_174 {E : zE} {v0 v1 v2 v3 v4 v5 v6 : Value} {x : Int32} {ls sk : List Value} {h : zH} : zrun zpp E 115 (174, v0 :: v1 :: v2 :: v3 :: v4 :: v5 :: v6 :: .int x :: ls, sk, h) = zrun zpp E 115 (176, v0 :: v1 :: v2 :: v3 :: v4 :: v5 :: v6 :: .int x :: ls, .int x :: sk, h) := zrun_at rfl
theorem zi115_176 {E : zE} {a0 : Value} {x : Nat} {ls sk : List Value} {h : zH} : zrun zpp E 115 (176, ls, a0 :: .ref x :: sk, h) = (zcls h x).bind (fun d => (zsel d [10, 131]).bind (fun M' => zcl1 E 115 179 M' ls sk [.ref x, a0] h)) := zg_vir (as := [a0]) rfl rfl
theorem zi115_179 {E : zE} {x : Int32} {ls sk : List Value} {h : zH} : zrun zpp E 115 (179, ls, [.int x], h) = some (some (.int x), h) := zrun_at rfl
-- 116 NineDown.seen
theorem zi116_0 {E : zE} {v0 : Value} {x : Int32} {ls sk : List Value} {h : zH} : zrun zpp E 116 (0, v0 :: .int x :: ls, sk, h) = zrun zpp E 116 (1, v0 :: .int x :: ls, .int x :: sk, h) := zrun_at rfl
theorem zi116_1 {E : zE} {ls sk : List Value} {h : zH} : zrun zpp E 116 (1, ls, sk, h) = zrun zpp E 116 (2, ls, .int 0 :: sk, h) := zg_iconst rfl ci_0
theorem zi116_2 {E : zE} {ls sk : List Value} {h : zH} : zrun zpp E 116 (2, ls, sk, h) = zrun zpp E 116 (4, ls, .int 10 :: sk, h) := zg_bipush rfl ci_10
theorem zi116_4 {E : zE} {a0 a1 a2 : Value} {ls sk : List Value} {h : zH} : zrun zpp E 116 (4, ls, a2 :: a1 :: a0 :: sk, h) = zcl1 E 116 7 126 ls sk [a0, a1, a2] h := zg_inv (as := [a0, a1, a2]) rfl rfl
theorem zi116_7 {E : zE} {x : Int32} {ls sk : List Value} {h : zH} : zrun zpp E 116 (7, ls, .int x :: sk, h) = if x = 0 then zrun zpp E 116 (39, ls, sk, h) else zrun zpp E 116 (10, ls, sk, h) := zrun_at rfl
theorem zi116_10 {E : zE} {v0 v1 : Value} {x : Int32} {ls sk : List Value} {h : zH} : zrun zpp E 116 (10, v0 :: v1 :: .int x :: ls, sk, h) = zrun zpp E 116 (11, v0 :: v1 :: .int x :: ls, .int x :: sk, h) := zrun_at rfl
theorem zi116_11 {E : zE} {ls sk : List Value} {h : zH} : zrun zpp E 116 (11, ls, sk, h) = zrun zpp E 116 (12, ls, .int 0 :: sk, h) := zg_iconst rfl ci_0
theorem zi116_12 {E : zE} {ls sk : List Value} {h : zH} : zrun zpp E 116 (12, ls, sk, h) = zrun zpp E 116 (14, ls, .int 9 :: sk, h) := zg_bipush rfl ci_9
theorem zi116_14 {E : zE} {a0 a1 a2 : Value} {ls sk : List Value} {h : zH} : zrun zpp E 116 (14, ls, a2 :: a1 :: a0 :: sk, h) = zcl1 E 116 17 126 ls sk [a0, a1, a2] h := zg_inv (as := [a0, a1, a2]) rfl rfl
theorem zi116_17 {E : zE} {x : Int32} {ls sk : List Value} {h : zH} : zrun zpp E 116 (17, ls, .int x :: sk, h) = if x = 0 then zrun zpp E 116 (39, ls, sk, h) else zrun zpp E 116 (20, ls, sk, h) := zrun_at rfl
theorem zi116_20 {E : zE} {v0 v1 v2 : Value} {x : Int32} {ls sk : List Value} {h : zH} : zrun zpp E 116 (20, v0 :: v1 :: v2 :: .int x :: ls, sk, h) = zrun zpp E 116 (21, v0 :: v1 :: v2 :: .int x :: ls, .int x :: sk, h) := zrun_at rfl
theorem zi116_21 {E : zE} {ls sk : List Value} {h : zH} : zrun zpp E 116 (21, ls, sk, h) = zrun zpp E 116 (22, ls, .int 0 :: sk, h) := zg_iconst rfl ci_0
theorem zi116_22 {E : zE} {v0 v1 : Value} {x : Int32} {ls sk : List Value} {h : zH} : zrun zpp E 116 (22, v0 :: v1 :: .int x :: ls, sk, h) = zrun zpp E 116 (23, v0 :: v1 :: .int x :: ls, .int x :: sk, h) := zrun_at rfl
theorem zi116_23 {E : zE} {a0 a1 a2 : Value} {ls sk : List Value} {h : zH} : zrun zpp E 116 (23, ls, a2 :: a1 :: a0 :: sk, h) = zcl1 E 116 26 126 ls sk [a0, a1, a2] h := zg_inv (as := [a0, a1, a2]) rfl rfl
theorem zi116_26 {E : zE} {x : Int32} {ls sk : List Value} {h : zH} : zrun zpp E 116 (26, ls, .int x :: sk, h) = if x = 0 then zrun zpp E 116 (39, ls, sk, h) else zrun zpp E 116 (29, ls, sk, h) := zrun_at rfl
theorem zi116_29 {E : zE} {v0 v1 v2 v3 : Value} {x : Int32} {ls sk : List Value} {h : zH} : zrun zpp E 116 (29, v0 :: v1 :: v2 :: v3 :: .int x :: ls, sk, h) = zrun zpp E 116 (31, v0 :: v1 :: v2 :: v3 :: .int x :: ls, .int x :: sk, h) := zrun_at rfl
theorem zi116_31 {E : zE} {ls sk : List Value} {h : zH} : zrun zpp E 116 (31, ls, sk, h) = zrun zpp E 116 (32, ls, .int 0 :: sk, h) := zg_iconst rfl ci_0
theorem zi116_32 {E : zE} {ls sk : List Value} {h : zH} : zrun zpp E 116 (32, ls, sk, h) = zrun zpp E 116 (33, ls, .int 1 :: sk, h) := zg_iconst rfl ci_1
theorem zi116_33 {E : zE} {a0 a1 a2 : Value} {ls sk : List Value} {h : zH} : zrun zpp E 116 (33, ls, a2 :: a1 :: a0 :: sk, h) = zcl1 E 116 36 126 ls sk [a0, a1, a2] h := zg_inv (as := [a0, a1, a2]) rfl rfl
theorem zi116_36 {E : zE} {x : Int32} {ls sk : List Value} {h : zH} : zrun zpp E 116 (36, ls, .int x :: sk, h) = if x = 0 then zrun zpp E 116 (39, ls, sk, h) else zrun zpp E 116 (43, ls, sk, h) := zrun_at rfl
theorem zi116_39 {E : zE} {ls sk : List Value} {h : zH} : zrun zpp E 116 (39, ls, sk, h) = zrun zpp E 116 (42, ls, .long (-1000001) :: sk, h) := zg_ldc2_w rfl cj_m1000001
theorem zi116_42 {E : zE} {x : Int64} {ls sk : List Value} {h : zH} : zrun zpp E 116 (42, ls, [.long x], h) = some (some (.long x), h) := zrun_at rfl
theorem zi116_43 {E : zE} {ls sk : List Value} {h : zH} : zrun zpp E 116 (43, ls, sk, h) = zrun zpp E 116 (44, ls, .long 1 :: sk, h) := zg_lconst rfl rfl
theorem zi116_44 {E : zE} {x : Int64} {ls sk : List Value} {h : zH} : zrun zpp E 116 (44, ls, .long x :: sk, h) = if (zfree ls 5 && decide (5 + 1 < ls.length)) = true then zrun zpp E 116 (46, (ls.set 5 (.long x)).set (5 + 1) (.retAddr 0), sk, h) else none := zg_lst rfl (fun _ _ _ => rfl)
theorem zi116_46 {E : zE} {ls sk : List Value} {h : zH} : zrun zpp E 116 (46, ls, sk, h) = zrun zpp E 116 (47, ls, .long 0 :: sk, h) := zg_lconst rfl rfl
theorem zi116_47 {E : zE} {x : Int64} {ls sk : List Value} {h : zH} : zrun zpp E 116 (47, ls, .long x :: sk, h) = if (zfree ls 7 && decide (7 + 1 < ls.length)) = true then zrun zpp E 116 (49, (ls.set 7 (.long x)).set (7 + 1) (.retAddr 0), sk, h) else none := zg_lst rfl (fun _ _ _ => rfl)
theorem zi116_49 {E : zE} {ls sk : List Value} {h : zH} : zrun zpp E 116 (49, ls, sk, h) = zrun zpp E 116 (50, ls, .int 0 :: sk, h) := zg_iconst rfl ci_0
theorem zi116_50 {E : zE} {x : Int32} {ls sk : List Value} {h : zH} : zrun zpp E 116 (50, ls, .int x :: sk, h) = if zfree ls 9 = true then zrun zpp E 116 (52, ls.set 9 (.int x), sk, h) else none := zg_ist rfl (fun _ _ _ => rfl)
theorem zi116_52 {E : zE} {v0 v1 v2 v3 v4 v5 v6 v7 v8 : Value} {x : Int32} {ls sk : List Value} {h : zH} : zrun zpp E 116 (52, v0 :: v1 :: v2 :: v3 :: v4 :: v5 :: v6 :: v7 :: v8 :: .int x :: ls, sk, h) = zrun zpp E 116 (54, v0 :: v1 :: v2 :: v3 :: v4 :: v5 :: v6 :: v7 :: v8 :: .int x :: ls, .int x :: sk, h) := zrun_at rfl
theorem zi116_54 {E : zE} {v0 v1 : Value} {x : Int32} {ls sk : List Value} {h : zH} : zrun zpp E 116 (54, v0 :: v1 :: .int x :: ls, sk, h) = zrun zpp E 116 (55, v0 :: v1 :: .int x :: ls, .int x :: sk, h) := zrun_at rfl
theorem zi116_55 {E : zE} {x y : Int32} {ls sk : List Value} {h : zH} : zrun zpp E 116 (55, ls, .int y :: .int x :: sk, h) = if y < x then zrun zpp E 116 (114, ls, sk, h) else zrun zpp E 116 (58, ls, sk, h) := zrun_at rfl
theorem zi116_58 {E : zE} {v0 v1 v2 v3 v4 v5 v6 v7 v8 : Value} {x : Int32} {ls sk : List Value} {h : zH} : zrun zpp E 116 (58, v0 :: v1 :: v2 :: v3 :: v4 :: v5 :: v6 :: v7 :: v8 :: .int x :: ls, sk, h) = zrun zpp E 116 (60, v0 :: v1 :: v2 :: v3 :: v4 :: v5 :: v6 :: v7 :: v8 :: .int x :: ls, .int x :: sk, h) := zrun_at rfl
theorem zi116_60 {E : zE} {v0 v1 v2 : Value} {x : Int32} {ls sk : List Value} {h : zH} : zrun zpp E 116 (60, v0 :: v1 :: v2 :: .int x :: ls, sk, h) = zrun zpp E 116 (61, v0 :: v1 :: v2 :: .int x :: ls, .int x :: sk, h) := zrun_at rfl
theorem zi116_61 {E : zE} {x y : Int32} {ls sk : List Value} {h : zH} : zrun zpp E 116 (61, ls, .int y :: .int x :: sk, h) = if x < y then zrun zpp E 116 (92, ls, sk, h) else zrun zpp E 116 (64, ls, sk, h) := zrun_at rfl
theorem zi116_64 {E : zE} {v0 v1 v2 v3 v4 v5 v6 : Value} {x : Int64} {ls sk : List Value} {h : zH} : zrun zpp E 116 (64, v0 :: v1 :: v2 :: v3 :: v4 :: v5 :: v6 :: .long x :: ls, sk, h) = zrun zpp E 116 (66, v0 :: v1 :: v2 :: v3 :: v4 :: v5 :: v6 :: .long x :: ls, .long x :: sk, h) := zrun_at rfl
theorem zi116_66 {E : zE} {v0 v1 v2 v3 v4 : Value} {x : Int64} {ls sk : List Value} {h : zH} : zrun zpp E 116 (66, v0 :: v1 :: v2 :: v3 :: v4 :: .long x :: ls, sk, h) = zrun zpp E 116 (68, v0 :: v1 :: v2 :: v3 :: v4 :: .long x :: ls, .long x :: sk, h) := zrun_at rfl
theorem zi116_68 {E : zE} {v0 : Value} {x : Int32} {ls sk : List Value} {h : zH} : zrun zpp E 116 (68, v0 :: .int x :: ls, sk, h) = zrun zpp E 116 (69, v0 :: .int x :: ls, .int x :: sk, h) := zrun_at rfl
theorem zi116_69 {E : zE} {x : Int32} {ls sk : List Value} {h : zH} : zrun zpp E 116 (69, ls, .int x :: sk, h) = zrun zpp E 116 (70, ls, .long x.toInt64 :: sk, h) := zrun_at rfl
theorem zi116_70 {E : zE} {v0 v1 v2 v3 v4 v5 v6 v7 v8 : Value} {x : Int32} {ls sk : List Value} {h : zH} : zrun zpp E 116 (70, v0 :: v1 :: v2 :: v3 :: v4 :: v5 :: v6 :: v7 :: v8 :: .int x :: ls, sk, h) = zrun zpp E 116 (72, v0 :: v1 :: v2 :: v3 :: v4 :: v5 :: v6 :: v7 :: v8 :: .int x :: ls, .int x :: sk, h) := zrun_at rfl
theorem zi116_72 {E : zE} {a0 a1 : Value} {ls sk : List Value} {h : zH} : zrun zpp E 116 (72, ls, a1 :: a0 :: sk, h) = zcl1 E 116 75 144 ls sk [a0, a1] h := zg_inv (as := [a0, a1]) rfl rfl
theorem zi116_75 {E : zE} {x y : Int64} {ls sk : List Value} {h : zH} : zrun zpp E 116 (75, ls, .long y :: .long x :: sk, h) = zrun zpp E 116 (76, ls, .long (x * y) :: sk, h) := zrun_at rfl
theorem zi116_76 {E : zE} {ls sk : List Value} {h : zH} : zrun zpp E 116 (76, ls, sk, h) = zrun zpp E 116 (78, ls, .int 10 :: sk, h) := zg_bipush rfl ci_10
theorem zi116_78 {E : zE} {v0 : Value} {x : Int32} {ls sk : List Value} {h : zH} : zrun zpp E 116 (78, v0 :: .int x :: ls, sk, h) = zrun zpp E 116 (79, v0 :: .int x :: ls, .int x :: sk, h) := zrun_at rfl
theorem zi116_79 {E : zE} {x y : Int32} {ls sk : List Value} {h : zH} : zrun zpp E 116 (79, ls, .int y :: .int x :: sk, h) = zrun zpp E 116 (80, ls, .int (x - y) :: sk, h) := zrun_at rfl
theorem zi116_80 {E : zE} {x : Int32} {ls sk : List Value} {h : zH} : zrun zpp E 116 (80, ls, .int x :: sk, h) = zrun zpp E 116 (81, ls, .long x.toInt64 :: sk, h) := zrun_at rfl
theorem zi116_81 {E : zE} {v0 v1 : Value} {x : Int32} {ls sk : List Value} {h : zH} : zrun zpp E 116 (81, v0 :: v1 :: .int x :: ls, sk, h) = zrun zpp E 116 (82, v0 :: v1 :: .int x :: ls, .int x :: sk, h) := zrun_at rfl
theorem zi116_82 {E : zE} {v0 v1 v2 v3 v4 v5 v6 v7 v8 : Value} {x : Int32} {ls sk : List Value} {h : zH} : zrun zpp E 116 (82, v0 :: v1 :: v2 :: v3 :: v4 :: v5 :: v6 :: v7 :: v8 :: .int x :: ls, sk, h) = zrun zpp E 116 (84, v0 :: v1 :: v2 :: v3 :: v4 :: v5 :: v6 :: v7 :: v8 :: .int x :: ls, .int x :: sk, h) := zrun_at rfl
theorem zi116_84 {E : zE} {x y : Int32} {ls sk : List Value} {h : zH} : zrun zpp E 116 (84, ls, .int y :: .int x :: sk, h) = zrun zpp E 116 (85, ls, .int (x - y) :: sk, h) := zrun_at rfl
theorem zi116_85 {E : zE} {a0 a1 : Value} {ls sk : List Value} {h : zH} : zrun zpp E 116 (85, ls, a1 :: a0 :: sk, h) = zcl1 E 116 88 144 ls sk [a0, a1] h := zg_inv (as := [a0, a1]) rfl rfl
theorem zi116_88 {E : zE} {x y : Int64} {ls sk : List Value} {h : zH} : zrun zpp E 116 (88, ls, .long y :: .long x :: sk, h) = zrun zpp E 116 (89, ls, .long (x * y) :: sk, h) := zrun_at rfl
theorem zi116_89 {E : zE} {x y : Int64} {ls sk : List Value} {h : zH} : zrun zpp E 116 (89, ls, .long y :: .long x :: sk, h) = zrun zpp E 116 (90, ls, .long (x + y) :: sk, h) := zrun_at rfl
theorem zi116_90 {E : zE} {x : Int64} {ls sk : List Value} {h : zH} : zrun zpp E 116 (90, ls, .long x :: sk, h) = if (zfree ls 7 && decide (7 + 1 < ls.length)) = true then zrun zpp E 116 (92, (ls.set 7 (.long x)).set (7 + 1) (.retAddr 0), sk, h) else none := zg_lst rfl (fun _ _ _ => rfl)
theorem zi116_92 {E : zE} {v0 v1 v2 v3 v4 : Value} {x : Int64} {ls sk : List Value} {h : zH} : zrun zpp E 116 (92, v0 :: v1 :: v2 :: v3 :: v4 :: .long x :: ls, sk, h) = zrun zpp E 116 (94, v0 :: v1 :: v2 :: v3 :: v4 :: .long x :: ls, .long x :: sk, h) := zrun_at rfl
theorem zi116_94 {E : zE} {v0 v1 : Value} {x : Int32} {ls sk : List Value} {h : zH} : zrun zpp E 116 (94, v0 :: v1 :: .int x :: ls, sk, h) = zrun zpp E 116 (95, v0 :: v1 :: .int x :: ls, .int x :: sk, h) := zrun_at rfl
theorem zi116_95 {E : zE} {v0 v1 v2 v3 v4 v5 v6 v7 v8 : Value} {x : Int32} {ls sk : List Value} {h : zH} : zrun zpp E 116 (95, v0 :: v1 :: v2 :: v3 :: v4 :: v5 :: v6 :: v7 :: v8 :: .int x :: ls, sk, h) = zrun zpp E 116 (97, v0 :: v1 :: v2 :: v3 :: v4 :: v5 :: v6 :: v7 :: v8 :: .int x :: ls, .int x :: sk, h) := zrun_at rfl
theorem zi116_97 {E : zE} {x y : Int32} {ls sk : List Value} {h : zH} : zrun zpp E 116 (97, ls, .int y :: .int x :: sk, h) = zrun zpp E 116 (98, ls, .int (x - y) :: sk, h) := zrun_at rfl
theorem zi116_98 {E : zE} {x : Int32} {ls sk : List Value} {h : zH} : zrun zpp E 116 (98, ls, .int x :: sk, h) = zrun zpp E 116 (99, ls, .long x.toInt64 :: sk, h) := zrun_at rfl
theorem zi116_99 {E : zE} {x y : Int64} {ls sk : List Value} {h : zH} : zrun zpp E 116 (99, ls, .long y :: .long x :: sk, h) = zrun zpp E 116 (100, ls, .long (x * y) :: sk, h) := zrun_at rfl
theorem zi116_100 {E : zE} {v0 v1 v2 v3 v4 v5 v6 v7 v8 : Value} {x : Int32} {ls sk : List Value} {h : zH} : zrun zpp E 116 (100, v0 :: v1 :: v2 :: v3 :: v4 :: v5 :: v6 :: v7 :: v8 :: .int x :: ls, sk, h) = zrun zpp E 116 (102, v0 :: v1 :: v2 :: v3 :: v4 :: v5 :: v6 :: v7 :: v8 :: .int x :: ls, .int x :: sk, h) := zrun_at rfl
theorem zi116_102 {E : zE} {ls sk : List Value} {h : zH} : zrun zpp E 116 (102, ls, sk, h) = zrun zpp E 116 (103, ls, .int 1 :: sk, h) := zg_iconst rfl ci_1
theorem zi116_103 {E : zE} {x y : Int32} {ls sk : List Value} {h : zH} : zrun zpp E 116 (103, ls, .int y :: .int x :: sk, h) = zrun zpp E 116 (104, ls, .int (x + y) :: sk, h) := zrun_at rfl
theorem zi116_104 {E : zE} {x : Int32} {ls sk : List Value} {h : zH} : zrun zpp E 116 (104, ls, .int x :: sk, h) = zrun zpp E 116 (105, ls, .long x.toInt64 :: sk, h) := zrun_at rfl
theorem zi116_105 {E : zE} {x y : Int64} {ls sk : List Value} {h : zH} : zrun zpp E 116 (105, ls, .long y :: .long x :: sk, h) = if y = 0 then none else zrun zpp E 116 (106, ls, .long (x / y) :: sk, h) := zrun_at rfl
theorem zi116_106 {E : zE} {x : Int64} {ls sk : List Value} {h : zH} : zrun zpp E 116 (106, ls, .long x :: sk, h) = if (zfree ls 5 && decide (5 + 1 < ls.length)) = true then zrun zpp E 116 (108, (ls.set 5 (.long x)).set (5 + 1) (.retAddr 0), sk, h) else none := zg_lst rfl (fun _ _ _ => rfl)
theorem zi116_108 {E : zE} {v0 v1 v2 v3 v4 v5 v6 v7 v8 : Value} {x : Int32} {ls sk : List Value} {h : zH} : zrun zpp E 116 (108, v0 :: v1 :: v2 :: v3 :: v4 :: v5 :: v6 :: v7 :: v8 :: .int x :: ls, sk, h) = if zfree (v0 :: v1 :: v2 :: v3 :: v4 :: v5 :: v6 :: v7 :: v8 :: .int x :: ls) 9 = true then zrun zpp E 116 (111, v0 :: v1 :: v2 :: v3 :: v4 :: v5 :: v6 :: v7 :: v8 :: .int (x + 1) :: ls, sk, h) else none := by rw [← ci_1]; exact zrun_at rfl
theorem zi116_111 {E : zE} {ls sk : List Value} {h : zH} : zrun zpp E 116 (111, ls, sk, h) = zrun zpp E 116 (52, ls, sk, h) := zrun_at rfl
theorem zi116_114 {E : zE} {ls sk : List Value} {h : zH} : zrun zpp E 116 (114, ls, sk, h) = zrun zpp E 116 (117, ls, .long 10 :: sk, h) := zg_ldc2_w rfl cj_10
theorem zi116_117 {E : zE} {v0 v1 : Value} {x : Int32} {ls sk : List Value} {h : zH} : zrun zpp E 116 (117, v0 :: v1 :: .int x :: ls, sk, h) = zrun zpp E 116 (118, v0 :: v1 :: .int x :: ls, .int x :: sk, h) := zrun_at rfl
theorem zi116_118 {E : zE} {a0 a1 : Value} {ls sk : List Value} {h : zH} : zrun zpp E 116 (118, ls, a1 :: a0 :: sk, h) = zcl1 E 116 121 144 ls sk [a0, a1] h := zg_inv (as := [a0, a1]) rfl rfl
theorem zi116_121 {E : zE} {x : Int64} {ls sk : List Value} {h : zH} : zrun zpp E 116 (121, ls, .long x :: sk, h) = if (zfree ls 9 && decide (9 + 1 < ls.length)) = true then zrun zpp E 116 (123, (ls.set 9 (.long x)).set (9 + 1) (.retAddr 0), sk, h) else none := zg_lst rfl (fun _ _ _ => rfl)
theorem zi116_123 {E : zE} {v0 v1 v2 v3 v4 v5 v6 v7 v8 : Value} {x : Int64} {ls sk : List Value} {h : zH} : zrun zpp E 116 (123, v0 :: v1 :: v2 :: v3 :: v4 :: v5 :: v6 :: v7 :: v8 :: .long x :: ls, sk, h) = zrun zpp E 116 (125, v0 :: v1 :: v2 :: v3 :: v4 :: v5 :: v6 :: v7 :: v8 :: .long x :: ls, .long x :: sk, h) := zrun_at rfl
theorem zi116_125 {E : zE} {v0 v1 v2 v3 v4 v5 v6 : Value} {x : Int64} {ls sk : List Value} {h : zH} : zrun zpp E 116 (125, v0 :: v1 :: v2 :: v3 :: v4 :: v5 :: v6 :: .long x :: ls, sk, h) = zrun zpp E 116 (127, v0 :: v1 :: v2 :: v3 :: v4 :: v5 :: v6 :: .long x :: ls, .long x :: sk, h) := zrun_at rfl
theorem zi116_127 {E : zE} {a0 a1 : Value} {ls sk : List Value} {h : zH} : zrun zpp E 116 (127, ls, a1 :: a0 :: sk, h) = zcl1 E 116 130 145 ls sk [a0, a1] h := zg_inv (as := [a0, a1]) rfl rfl
theorem zi116_130 {E : zE} {x : Int64} {ls sk : List Value} {h : zH} : zrun zpp E 116 (130, ls, .long x :: sk, h) = if (zfree ls 11 && decide (11 + 1 < ls.length)) = true then zrun zpp E 116 (132, (ls.set 11 (.long x)).set (11 + 1) (.retAddr 0), sk, h) else none := zg_lst rfl (fun _ _ _ => rfl)
theorem zi116_132 {E : zE} {v0 v1 v2 v3 v4 v5 v6 v7 v8 v9 v10 : Value} {x : Int64} {ls sk : List Value} {h : zH} : zrun zpp E 116 (132, v0 :: v1 :: v2 :: v3 :: v4 :: v5 :: v6 :: v7 :: v8 :: v9 :: v10 :: .long x :: ls, sk, h) = zrun zpp E 116 (134, v0 :: v1 :: v2 :: v3 :: v4 :: v5 :: v6 :: v7 :: v8 :: v9 :: v10 :: .long x :: ls, .long x :: sk, h) := zrun_at rfl
theorem zi116_134 {E : zE} {ls sk : List Value} {h : zH} : zrun zpp E 116 (134, ls, sk, h) = zrun zpp E 116 (135, ls, .long 0 :: sk, h) := zg_lconst rfl rfl
theorem zi116_135 {E : zE} {x y : Int64} {ls sk : List Value} {h : zH} : zrun zpp E 116 (135, ls, .long y :: .long x :: sk, h) = zrun zpp E 116 (136, ls, .int (lg_cmp x y) :: sk, h) := zrun_at rfl
theorem zi116_136 {E : zE} {x : Int32} {ls sk : List Value} {h : zH} : zrun zpp E 116 (136, ls, .int x :: sk, h) = if x = 0 then zrun zpp E 116 (139, ls, sk, h) else zrun zpp E 116 (143, ls, sk, h) := zrun_at rfl
theorem zi116_139 {E : zE} {ls sk : List Value} {h : zH} : zrun zpp E 116 (139, ls, sk, h) = zrun zpp E 116 (142, ls, .long (-1000001) :: sk, h) := zg_ldc2_w rfl cj_m1000001
theorem zi116_142 {E : zE} {x : Int64} {ls sk : List Value} {h : zH} : zrun zpp E 116 (142, ls, [.long x], h) = some (some (.long x), h) := zrun_at rfl
theorem zi116_143 {E : zE} {v0 v1 v2 v3 : Value} {x : Int32} {ls sk : List Value} {h : zH} : zrun zpp E 116 (143, v0 :: v1 :: v2 :: v3 :: .int x :: ls, sk, h) = zrun zpp E 116 (145, v0 :: v1 :: v2 :: v3 :: .int x :: ls, .int x :: sk, h) := zrun_at rfl
theorem zi116_145 {E : zE} {x : Int32} {ls sk : List Value} {h : zH} : zrun zpp E 116 (145, ls, .int x :: sk, h) = if x = 0 then zrun zpp E 116 (148, ls, sk, h) else zrun zpp E 116 (156, ls, sk, h) := zrun_at rfl
theorem zi116_148 {E : zE} {v0 v1 v2 v3 v4 v5 v6 : Value} {x : Int64} {ls sk : List Value} {h : zH} : zrun zpp E 116 (148, v0 :: v1 :: v2 :: v3 :: v4 :: v5 :: v6 :: .long x :: ls, sk, h) = zrun zpp E 116 (150, v0 :: v1 :: v2 :: v3 :: v4 :: v5 :: v6 :: .long x :: ls, .long x :: sk, h) := zrun_at rfl
theorem zi116_150 {E : zE} {v0 v1 v2 v3 v4 v5 v6 v7 v8 v9 v10 : Value} {x : Int64} {ls sk : List Value} {h : zH} : zrun zpp E 116 (150, v0 :: v1 :: v2 :: v3 :: v4 :: v5 :: v6 :: v7 :: v8 :: v9 :: v10 :: .long x :: ls, sk, h) = zrun zpp E 116 (152, v0 :: v1 :: v2 :: v3 :: v4 :: v5 :: v6 :: v7 :: v8 :: v9 :: v10 :: .long x :: ls, .long x :: sk, h) := zrun_at rfl
theorem zi116_152 {E : zE} {x y : Int64} {ls sk : List Value} {h : zH} : zrun zpp E 116 (152, ls, .long y :: .long x :: sk, h) = if y = 0 then none else zrun zpp E 116 (153, ls, .long (x / y) :: sk, h) := zrun_at rfl
theorem zi116_153 {E : zE} {ls sk : List Value} {h : zH} : zrun zpp E 116 (153, ls, sk, h) = zrun zpp E 116 (161, ls, sk, h) := zrun_at rfl
theorem zi116_156 {E : zE} {v0 v1 v2 v3 v4 v5 v6 v7 v8 : Value} {x : Int64} {ls sk : List Value} {h : zH} : zrun zpp E 116 (156, v0 :: v1 :: v2 :: v3 :: v4 :: v5 :: v6 :: v7 :: v8 :: .long x :: ls, sk, h) = zrun zpp E 116 (158, v0 :: v1 :: v2 :: v3 :: v4 :: v5 :: v6 :: v7 :: v8 :: .long x :: ls, .long x :: sk, h) := zrun_at rfl
theorem zi116_158 {E : zE} {v0 v1 v2 v3 v4 v5 v6 v7 v8 v9 v10 : Value} {x : Int64} {ls sk : List Value} {h : zH} : zrun zpp E 116 (158, v0 :: v1 :: v2 :: v3 :: v4 :: v5 :: v6 :: v7 :: v8 :: v9 :: v10 :: .long x :: ls, sk, h) = zrun zpp E 116 (160, v0 :: v1 :: v2 :: v3 :: v4 :: v5 :: v6 :: v7 :: v8 :: v9 :: v10 :: .long x :: ls, .long x :: sk, h) := zrun_at rfl
theorem zi116_160 {E : zE} {x y : Int64} {ls sk : List Value} {h : zH} : zrun zpp E 116 (160, ls, .long y :: .long x :: sk, h) = if y = 0 then none else zrun zpp E 116 (161, ls, .long (x / y) :: sk, h) := zrun_at rfl
theorem zi116_161 {E : zE} {x : Int64} {ls sk : List Value} {h : zH} : zrun zpp E 116 (161, ls, [.long x], h) = some (some (.long x), h) := zrun_at rfl
-- 117 NineDown.drawn
theorem zi117_0 {E : zE} {x : Nat} {ls sk : List Value} {h : zH} : zrun zpp E 117 (0, .ref x :: ls, sk, h) = zrun zpp E 117 (1, .ref x :: ls, .ref x :: sk, h) := zrun_at rfl
theorem zi117_0n {E : zE} {ls sk : List Value} {h : zH} : zrun zpp E 117 (0, .null :: ls, sk, h) = zrun zpp E 117 (1, .null :: ls, .null :: sk, h) := zrun_at rfl
theorem zi117_1 {E : zE} {x : Nat} {ls sk : List Value} {h : zH} : zrun zpp E 117 (1, ls, .ref x :: sk, h) = (zfld [10] h x 7).bind (fun v => zrun zpp E 117 (4, ls, v :: sk, h)) := zg_getf rfl
theorem zi117_4 {E : zE} {x : Nat} {ls sk : List Value} {h : zH} : zrun zpp E 117 (4, ls, .ref x :: sk, h) = (zcls h x).bind (fun d => (zsel d [9, 70]).bind (fun M' => zcl1 E 117 7 M' ls sk [.ref x] h)) := zg_vir (as := []) rfl rfl
theorem zi117_7 {E : zE} {x : Int32} {ls sk : List Value} {h : zH} : zrun zpp E 117 (7, ls, .int x :: sk, h) = if x = 0 then zrun zpp E 117 (10, ls, sk, h) else zrun zpp E 117 (13, ls, sk, h) := zrun_at rfl
theorem zi117_10 {E : zE} {ls sk : List Value} {h : zH} : zrun zpp E 117 (10, ls, sk, h) = zrun zpp E 117 (12, ls, .int (-1000002) :: sk, h) := zg_ldc rfl ci_m1000002
theorem zi117_12 {E : zE} {x : Int32} {ls sk : List Value} {h : zH} : zrun zpp E 117 (12, ls, [.int x], h) = some (some (.int x), h) := zrun_at rfl
theorem zi117_13 {E : zE} {v0 : Value} {x : Int32} {ls sk : List Value} {h : zH} : zrun zpp E 117 (13, v0 :: .int x :: ls, sk, h) = zrun zpp E 117 (14, v0 :: .int x :: ls, .int x :: sk, h) := zrun_at rfl
theorem zi117_14 {E : zE} {ls sk : List Value} {h : zH} : zrun zpp E 117 (14, ls, sk, h) = zrun zpp E 117 (15, ls, .int 0 :: sk, h) := zg_iconst rfl ci_0
theorem zi117_15 {E : zE} {ls sk : List Value} {h : zH} : zrun zpp E 117 (15, ls, sk, h) = zrun zpp E 117 (17, ls, .int 60 :: sk, h) := zg_bipush rfl ci_60
theorem zi117_17 {E : zE} {a0 a1 a2 : Value} {ls sk : List Value} {h : zH} : zrun zpp E 117 (17, ls, a2 :: a1 :: a0 :: sk, h) = zcl1 E 117 20 126 ls sk [a0, a1, a2] h := zg_inv (as := [a0, a1, a2]) rfl rfl
theorem zi117_20 {E : zE} {x : Int32} {ls sk : List Value} {h : zH} : zrun zpp E 117 (20, ls, .int x :: sk, h) = if x = 0 then zrun zpp E 117 (43, ls, sk, h) else zrun zpp E 117 (23, ls, sk, h) := zrun_at rfl
theorem zi117_23 {E : zE} {v0 v1 : Value} {x : Int32} {ls sk : List Value} {h : zH} : zrun zpp E 117 (23, v0 :: v1 :: .int x :: ls, sk, h) = zrun zpp E 117 (24, v0 :: v1 :: .int x :: ls, .int x :: sk, h) := zrun_at rfl
theorem zi117_24 {E : zE} {ls sk : List Value} {h : zH} : zrun zpp E 117 (24, ls, sk, h) = zrun zpp E 117 (25, ls, .int 1 :: sk, h) := zg_iconst rfl ci_1
theorem zi117_25 {E : zE} {ls sk : List Value} {h : zH} : zrun zpp E 117 (25, ls, sk, h) = zrun zpp E 117 (28, ls, .int 999999 :: sk, h) := zg_ldc_w rfl ci_999999
theorem zi117_28 {E : zE} {a0 a1 a2 : Value} {ls sk : List Value} {h : zH} : zrun zpp E 117 (28, ls, a2 :: a1 :: a0 :: sk, h) = zcl1 E 117 31 126 ls sk [a0, a1, a2] h := zg_inv (as := [a0, a1, a2]) rfl rfl
theorem zi117_31 {E : zE} {x : Int32} {ls sk : List Value} {h : zH} : zrun zpp E 117 (31, ls, .int x :: sk, h) = if x = 0 then zrun zpp E 117 (43, ls, sk, h) else zrun zpp E 117 (34, ls, sk, h) := zrun_at rfl
theorem zi117_34 {E : zE} {v0 v1 v2 : Value} {x : Int32} {ls sk : List Value} {h : zH} : zrun zpp E 117 (34, v0 :: v1 :: v2 :: .int x :: ls, sk, h) = zrun zpp E 117 (35, v0 :: v1 :: v2 :: .int x :: ls, .int x :: sk, h) := zrun_at rfl
theorem zi117_35 {E : zE} {ls sk : List Value} {h : zH} : zrun zpp E 117 (35, ls, sk, h) = zrun zpp E 117 (36, ls, .int 0 :: sk, h) := zg_iconst rfl ci_0
theorem zi117_36 {E : zE} {ls sk : List Value} {h : zH} : zrun zpp E 117 (36, ls, sk, h) = zrun zpp E 117 (37, ls, .int 1 :: sk, h) := zg_iconst rfl ci_1
theorem zi117_37 {E : zE} {a0 a1 a2 : Value} {ls sk : List Value} {h : zH} : zrun zpp E 117 (37, ls, a2 :: a1 :: a0 :: sk, h) = zcl1 E 117 40 126 ls sk [a0, a1, a2] h := zg_inv (as := [a0, a1, a2]) rfl rfl
theorem zi117_40 {E : zE} {x : Int32} {ls sk : List Value} {h : zH} : zrun zpp E 117 (40, ls, .int x :: sk, h) = if x = 0 then zrun zpp E 117 (43, ls, sk, h) else zrun zpp E 117 (46, ls, sk, h) := zrun_at rfl
theorem zi117_43 {E : zE} {ls sk : List Value} {h : zH} : zrun zpp E 117 (43, ls, sk, h) = zrun zpp E 117 (45, ls, .int (-1000001) :: sk, h) := zg_ldc rfl ci_m1000001
theorem zi117_45 {E : zE} {x : Int32} {ls sk : List Value} {h : zH} : zrun zpp E 117 (45, ls, [.int x], h) = some (some (.int x), h) := zrun_at rfl
theorem zi117_46 {E : zE} {x : Nat} {ls sk : List Value} {h : zH} : zrun zpp E 117 (46, .ref x :: ls, sk, h) = zrun zpp E 117 (47, .ref x :: ls, .ref x :: sk, h) := zrun_at rfl
theorem zi117_46n {E : zE} {ls sk : List Value} {h : zH} : zrun zpp E 117 (46, .null :: ls, sk, h) = zrun zpp E 117 (47, .null :: ls, .null :: sk, h) := zrun_at rfl
theorem zi117_47 {E : zE} {x : Nat} {ls sk : List Value} {h : zH} : zrun zpp E 117 (47, ls, .ref x :: sk, h) = (zfld [10] h x 8).bind (fun v => zrun zpp E 117 (50, ls, v :: sk, h)) := zg_getf rfl
theorem zi117_50 {E : zE} {x : Nat} {ls sk : List Value} {h : zH} : zrun zpp E 117 (50, .ref x :: ls, sk, h) = zrun zpp E 117 (51, .ref x :: ls, .ref x :: sk, h) := zrun_at rfl
theorem zi117_50n {E : zE} {ls sk : List Value} {h : zH} : zrun zpp E 117 (50, .null :: ls, sk, h) = zrun zpp E 117 (51, .null :: ls, .null :: sk, h) := zrun_at rfl
theorem zi117_51 {E : zE} {x : Nat} {ls sk : List Value} {h : zH} : zrun zpp E 117 (51, ls, .ref x :: sk, h) = (zfld [10] h x 7).bind (fun v => zrun zpp E 117 (54, ls, v :: sk, h)) := zg_getf rfl
theorem zi117_54 {E : zE} {a0 : Value} {x : Nat} {ls sk : List Value} {h : zH} : zrun zpp E 117 (54, ls, a0 :: .ref x :: sk, h) = (zcls h x).bind (fun d => (zsel d [9, 69]).bind (fun M' => zcl1 E 117 57 M' ls sk [.ref x, a0] h)) := zg_vir (as := [a0]) rfl rfl
theorem zi117_57 {E : zE} {v0 v1 : Value} {x : Int32} {ls sk : List Value} {h : zH} : zrun zpp E 117 (57, v0 :: v1 :: .int x :: ls, sk, h) = zrun zpp E 117 (58, v0 :: v1 :: .int x :: ls, .int x :: sk, h) := zrun_at rfl
theorem zi117_58 {E : zE} {x : Int32} {ls sk : List Value} {h : zH} : zrun zpp E 117 (58, ls, .int x :: sk, h) = zrun zpp E 117 (59, ls, .long x.toInt64 :: sk, h) := zrun_at rfl
theorem zi117_59 {E : zE} {x : Int64} {ls sk : List Value} {h : zH} : zrun zpp E 117 (59, ls, .long x :: sk, h) = if (zfree ls 4 && decide (4 + 1 < ls.length)) = true then zrun zpp E 117 (61, (ls.set 4 (.long x)).set (4 + 1) (.retAddr 0), sk, h) else none := zg_lst rfl (fun _ _ _ => rfl)
theorem zi117_61 {E : zE} {ls sk : List Value} {h : zH} : zrun zpp E 117 (61, ls, sk, h) = zrun zpp E 117 (62, ls, .int 0 :: sk, h) := zg_iconst rfl ci_0
theorem zi117_62 {E : zE} {x : Int32} {ls sk : List Value} {h : zH} : zrun zpp E 117 (62, ls, .int x :: sk, h) = if zfree ls 6 = true then zrun zpp E 117 (64, ls.set 6 (.int x), sk, h) else none := zg_ist rfl (fun _ _ _ => rfl)
theorem zi117_64 {E : zE} {v0 v1 v2 v3 v4 v5 : Value} {x : Int32} {ls sk : List Value} {h : zH} : zrun zpp E 117 (64, v0 :: v1 :: v2 :: v3 :: v4 :: v5 :: .int x :: ls, sk, h) = zrun zpp E 117 (66, v0 :: v1 :: v2 :: v3 :: v4 :: v5 :: .int x :: ls, .int x :: sk, h) := zrun_at rfl
theorem zi117_66 {E : zE} {v0 : Value} {x : Int32} {ls sk : List Value} {h : zH} : zrun zpp E 117 (66, v0 :: .int x :: ls, sk, h) = zrun zpp E 117 (67, v0 :: .int x :: ls, .int x :: sk, h) := zrun_at rfl
theorem zi117_67 {E : zE} {x y : Int32} {ls sk : List Value} {h : zH} : zrun zpp E 117 (67, ls, .int y :: .int x :: sk, h) = if y ≤ x then zrun zpp E 117 (94, ls, sk, h) else zrun zpp E 117 (70, ls, sk, h) := zrun_at rfl
theorem zi117_70 {E : zE} {v0 v1 v2 v3 : Value} {x : Int64} {ls sk : List Value} {h : zH} : zrun zpp E 117 (70, v0 :: v1 :: v2 :: v3 :: .long x :: ls, sk, h) = zrun zpp E 117 (72, v0 :: v1 :: v2 :: v3 :: .long x :: ls, .long x :: sk, h) := zrun_at rfl
theorem zi117_72 {E : zE} {ls sk : List Value} {h : zH} : zrun zpp E 117 (72, ls, sk, h) = zrun zpp E 117 (75, ls, .long 16807 :: sk, h) := zg_ldc2_w rfl cj_16807
theorem zi117_75 {E : zE} {x y : Int64} {ls sk : List Value} {h : zH} : zrun zpp E 117 (75, ls, .long y :: .long x :: sk, h) = zrun zpp E 117 (76, ls, .long (x * y) :: sk, h) := zrun_at rfl
theorem zi117_76 {E : zE} {ls sk : List Value} {h : zH} : zrun zpp E 117 (76, ls, sk, h) = zrun zpp E 117 (79, ls, .long 2147483647 :: sk, h) := zg_ldc2_w rfl cj_2147483647
theorem zi117_79 {E : zE} {x y : Int64} {ls sk : List Value} {h : zH} : zrun zpp E 117 (79, ls, .long y :: .long x :: sk, h) = if y = 0 then none else zrun zpp E 117 (80, ls, .long (x - x / y * y) :: sk, h) := zrun_at rfl
theorem zi117_80 {E : zE} {x : Int64} {ls sk : List Value} {h : zH} : zrun zpp E 117 (80, ls, .long x :: sk, h) = if (zfree ls 4 && decide (4 + 1 < ls.length)) = true then zrun zpp E 117 (82, (ls.set 4 (.long x)).set (4 + 1) (.retAddr 0), sk, h) else none := zg_lst rfl (fun _ _ _ => rfl)
theorem zi117_82 {E : zE} {x : Nat} {ls sk : List Value} {h : zH} : zrun zpp E 117 (82, .ref x :: ls, sk, h) = zrun zpp E 117 (83, .ref x :: ls, .ref x :: sk, h) := zrun_at rfl
theorem zi117_82n {E : zE} {ls sk : List Value} {h : zH} : zrun zpp E 117 (82, .null :: ls, sk, h) = zrun zpp E 117 (83, .null :: ls, .null :: sk, h) := zrun_at rfl
theorem zi117_83 {E : zE} {v0 v1 v2 v3 : Value} {x : Int64} {ls sk : List Value} {h : zH} : zrun zpp E 117 (83, v0 :: v1 :: v2 :: v3 :: .long x :: ls, sk, h) = zrun zpp E 117 (85, v0 :: v1 :: v2 :: v3 :: .long x :: ls, .long x :: sk, h) := zrun_at rfl
theorem zi117_85 {E : zE} {a0 : Value} {x : Nat} {ls sk : List Value} {h : zH} : zrun zpp E 117 (85, ls, a0 :: .ref x :: sk, h) = (zcls h x).bind (fun d => (zsel d [10, 137]).bind (fun M' => zcl1 E 117 88 M' ls sk [.ref x, a0] h)) := zg_vir (as := [a0]) rfl rfl
theorem zi117_88 {E : zE} {v0 v1 v2 v3 v4 v5 : Value} {x : Int32} {ls sk : List Value} {h : zH} : zrun zpp E 117 (88, v0 :: v1 :: v2 :: v3 :: v4 :: v5 :: .int x :: ls, sk, h) = if zfree (v0 :: v1 :: v2 :: v3 :: v4 :: v5 :: .int x :: ls) 6 = true then zrun zpp E 117 (91, v0 :: v1 :: v2 :: v3 :: v4 :: v5 :: .int (x + 1) :: ls, sk, h) else none := by rw [← ci_1]; exact zrun_at rfl
theorem zi117_91 {E : zE} {ls sk : List Value} {h : zH} : zrun zpp E 117 (91, ls, sk, h) = zrun zpp E 117 (64, ls, sk, h) := zrun_at rfl
theorem zi117_94 {E : zE} {x : Nat} {ls sk : List Value} {h : zH} : zrun zpp E 117 (94, .ref x :: ls, sk, h) = zrun zpp E 117 (95, .ref x :: ls, .ref x :: sk, h) := zrun_at rfl
theorem zi117_94n {E : zE} {ls sk : List Value} {h : zH} : zrun zpp E 117 (94, .null :: ls, sk, h) = zrun zpp E 117 (95, .null :: ls, .null :: sk, h) := zrun_at rfl
theorem zi117_95 {E : zE} {v0 v1 v2 : Value} {x : Int32} {ls sk : List Value} {h : zH} : zrun zpp E 117 (95, v0 :: v1 :: v2 :: .int x :: ls, sk, h) = zrun zpp E 117 (96, v0 :: v1 :: v2 :: .int x :: ls, .int x :: sk, h) := zrun_at rfl
theorem zi117_96 {E : zE} {a0 : Value} {x : Nat} {ls sk : List Value} {h : zH} : zrun zpp E 117 (96, ls, a0 :: .ref x :: sk, h) = (zcls h x).bind (fun d => (zsel d [10, 133]).bind (fun M' => zcl1 E 117 99 M' ls sk [.ref x, a0] h)) := zg_vir (as := [a0]) rfl rfl
theorem zi117_99 {E : zE} {x : Int32} {ls sk : List Value} {h : zH} : zrun zpp E 117 (99, ls, [.int x], h) = some (some (.int x), h) := zrun_at rfl
-- 118 NineDown.image
theorem zi118_0 {E : zE} {v0 : Value} {x : Int32} {ls sk : List Value} {h : zH} : zrun zpp E 118 (0, v0 :: .int x :: ls, sk, h) = zrun zpp E 118 (1, v0 :: .int x :: ls, .int x :: sk, h) := zrun_at rfl
theorem zi118_1 {E : zE} {ls sk : List Value} {h : zH} : zrun zpp E 118 (1, ls, sk, h) = zrun zpp E 118 (2, ls, .int 0 :: sk, h) := zg_iconst rfl ci_0
theorem zi118_2 {E : zE} {ls sk : List Value} {h : zH} : zrun zpp E 118 (2, ls, sk, h) = zrun zpp E 118 (3, ls, .int 1 :: sk, h) := zg_iconst rfl ci_1
theorem zi118_3 {E : zE} {a0 a1 a2 : Value} {ls sk : List Value} {h : zH} : zrun zpp E 118 (3, ls, a2 :: a1 :: a0 :: sk, h) = zcl1 E 118 6 126 ls sk [a0, a1, a2] h := zg_inv (as := [a0, a1, a2]) rfl rfl
theorem zi118_6 {E : zE} {x : Int32} {ls sk : List Value} {h : zH} : zrun zpp E 118 (6, ls, .int x :: sk, h) = if x = 0 then zrun zpp E 118 (9, ls, sk, h) else zrun zpp E 118 (12, ls, sk, h) := zrun_at rfl
theorem zi118_9 {E : zE} {ls sk : List Value} {h : zH} : zrun zpp E 118 (9, ls, sk, h) = zrun zpp E 118 (11, ls, .int (-1000001) :: sk, h) := zg_ldc rfl ci_m1000001
theorem zi118_11 {E : zE} {x : Int32} {ls sk : List Value} {h : zH} : zrun zpp E 118 (11, ls, [.int x], h) = some (some (.int x), h) := zrun_at rfl
theorem zi118_12 {E : zE} {x : Nat} {ls sk : List Value} {h : zH} : zrun zpp E 118 (12, .ref x :: ls, sk, h) = zrun zpp E 118 (13, .ref x :: ls, .ref x :: sk, h) := zrun_at rfl
theorem zi118_12n {E : zE} {ls sk : List Value} {h : zH} : zrun zpp E 118 (12, .null :: ls, sk, h) = zrun zpp E 118 (13, .null :: ls, .null :: sk, h) := zrun_at rfl
theorem zi118_13 {E : zE} {x : Nat} {ls sk : List Value} {h : zH} : zrun zpp E 118 (13, ls, .ref x :: sk, h) = (zfld [10] h x 7).bind (fun v => zrun zpp E 118 (16, ls, v :: sk, h)) := zg_getf rfl
theorem zi118_16 {E : zE} {x : Nat} {ls sk : List Value} {h : zH} : zrun zpp E 118 (16, ls, .ref x :: sk, h) = (zcls h x).bind (fun d => (zsel d [9, 70]).bind (fun M' => zcl1 E 118 19 M' ls sk [.ref x] h)) := zg_vir (as := []) rfl rfl
theorem zi118_19 {E : zE} {x : Int32} {ls sk : List Value} {h : zH} : zrun zpp E 118 (19, ls, .int x :: sk, h) = if x = 0 then zrun zpp E 118 (22, ls, sk, h) else zrun zpp E 118 (25, ls, sk, h) := zrun_at rfl
theorem zi118_22 {E : zE} {ls sk : List Value} {h : zH} : zrun zpp E 118 (22, ls, sk, h) = zrun zpp E 118 (24, ls, .int (-1000002) :: sk, h) := zg_ldc rfl ci_m1000002
theorem zi118_24 {E : zE} {x : Int32} {ls sk : List Value} {h : zH} : zrun zpp E 118 (24, ls, [.int x], h) = some (some (.int x), h) := zrun_at rfl
theorem zi118_25 {E : zE} {x : Nat} {ls sk : List Value} {h : zH} : zrun zpp E 118 (25, .ref x :: ls, sk, h) = zrun zpp E 118 (26, .ref x :: ls, .ref x :: sk, h) := zrun_at rfl
theorem zi118_25n {E : zE} {ls sk : List Value} {h : zH} : zrun zpp E 118 (25, .null :: ls, sk, h) = zrun zpp E 118 (26, .null :: ls, .null :: sk, h) := zrun_at rfl
theorem zi118_26 {E : zE} {x : Nat} {ls sk : List Value} {h : zH} : zrun zpp E 118 (26, ls, .ref x :: sk, h) = (zfld [10] h x 2).bind (fun v => zrun zpp E 118 (29, ls, v :: sk, h)) := zg_getf rfl
theorem zi118_29 {E : zE} {v0 : Value} {x : Int32} {ls sk : List Value} {h : zH} : zrun zpp E 118 (29, v0 :: .int x :: ls, sk, h) = zrun zpp E 118 (30, v0 :: .int x :: ls, .int x :: sk, h) := zrun_at rfl
theorem zi118_30 {E : zE} {x : Nat} {i : Int32} {ls sk : List Value} {h : zH} : zrun zpp E 118 (30, ls, .int i :: .ref x :: sk, h) = (zara h x i).bind (fun v => zrun zpp E 118 (31, ls, v :: sk, h)) := zg_aald rfl
theorem zi118_31 {E : zE} {x : Nat} {ls sk : List Value} {h : zH} : zrun zpp E 118 (31, .ref x :: ls, sk, h) = zrun zpp E 118 (32, .ref x :: ls, .ref x :: sk, h) := zrun_at rfl
theorem zi118_31n {E : zE} {ls sk : List Value} {h : zH} : zrun zpp E 118 (31, .null :: ls, sk, h) = zrun zpp E 118 (32, .null :: ls, .null :: sk, h) := zrun_at rfl
theorem zi118_32 {E : zE} {x : Nat} {ls sk : List Value} {h : zH} : zrun zpp E 118 (32, ls, .ref x :: sk, h) = (zfld [10] h x 7).bind (fun v => zrun zpp E 118 (35, ls, v :: sk, h)) := zg_getf rfl
theorem zi118_35 {E : zE} {a0 : Value} {x : Nat} {ls sk : List Value} {h : zH} : zrun zpp E 118 (35, ls, a0 :: .ref x :: sk, h) = (zcls h x).bind (fun d => (zsel d [9, 69]).bind (fun M' => zcl1 E 118 38 M' ls sk [.ref x, a0] h)) := zg_vir (as := [a0]) rfl rfl
theorem zi118_38 {E : zE} {ls sk : List Value} {h : zH} : zrun zpp E 118 (38, ls, sk, h) = zrun zpp E 118 (39, ls, .int 1 :: sk, h) := zg_iconst rfl ci_1
theorem zi118_39 {E : zE} {x : Int32} {ls sk : List Value} {h : zH} : zrun zpp E 118 (39, ls, [.int x], h) = some (some (.int x), h) := zrun_at rfl
-- 119 NineDown.restore
theorem zi119_0 {E : zE} {v0 : Value} {x : Int32} {ls sk : List Value} {h : zH} : zrun zpp E 119 (0, v0 :: .int x :: ls, sk, h) = zrun zpp E 119 (1, v0 :: .int x :: ls, .int x :: sk, h) := zrun_at rfl
theorem zi119_1 {E : zE} {ls sk : List Value} {h : zH} : zrun zpp E 119 (1, ls, sk, h) = zrun zpp E 119 (2, ls, .int 0 :: sk, h) := zg_iconst rfl ci_0
theorem zi119_2 {E : zE} {ls sk : List Value} {h : zH} : zrun zpp E 119 (2, ls, sk, h) = zrun zpp E 119 (3, ls, .int 1 :: sk, h) := zg_iconst rfl ci_1
theorem zi119_3 {E : zE} {a0 a1 a2 : Value} {ls sk : List Value} {h : zH} : zrun zpp E 119 (3, ls, a2 :: a1 :: a0 :: sk, h) = zcl1 E 119 6 126 ls sk [a0, a1, a2] h := zg_inv (as := [a0, a1, a2]) rfl rfl
theorem zi119_6 {E : zE} {x : Int32} {ls sk : List Value} {h : zH} : zrun zpp E 119 (6, ls, .int x :: sk, h) = if x = 0 then zrun zpp E 119 (9, ls, sk, h) else zrun zpp E 119 (12, ls, sk, h) := zrun_at rfl
theorem zi119_9 {E : zE} {ls sk : List Value} {h : zH} : zrun zpp E 119 (9, ls, sk, h) = zrun zpp E 119 (11, ls, .int (-1000001) :: sk, h) := zg_ldc rfl ci_m1000001
theorem zi119_11 {E : zE} {x : Int32} {ls sk : List Value} {h : zH} : zrun zpp E 119 (11, ls, [.int x], h) = some (some (.int x), h) := zrun_at rfl
theorem zi119_12 {E : zE} {x : Nat} {ls sk : List Value} {h : zH} : zrun zpp E 119 (12, .ref x :: ls, sk, h) = zrun zpp E 119 (13, .ref x :: ls, .ref x :: sk, h) := zrun_at rfl
theorem zi119_12n {E : zE} {ls sk : List Value} {h : zH} : zrun zpp E 119 (12, .null :: ls, sk, h) = zrun zpp E 119 (13, .null :: ls, .null :: sk, h) := zrun_at rfl
theorem zi119_13 {E : zE} {x : Nat} {ls sk : List Value} {h : zH} : zrun zpp E 119 (13, ls, .ref x :: sk, h) = (zfld [10] h x 2).bind (fun v => zrun zpp E 119 (16, ls, v :: sk, h)) := zg_getf rfl
theorem zi119_16 {E : zE} {v0 : Value} {x : Int32} {ls sk : List Value} {h : zH} : zrun zpp E 119 (16, v0 :: .int x :: ls, sk, h) = zrun zpp E 119 (17, v0 :: .int x :: ls, .int x :: sk, h) := zrun_at rfl
theorem zi119_17 {E : zE} {x : Nat} {i : Int32} {ls sk : List Value} {h : zH} : zrun zpp E 119 (17, ls, .int i :: .ref x :: sk, h) = (zara h x i).bind (fun v => zrun zpp E 119 (18, ls, v :: sk, h)) := zg_aald rfl
theorem zi119_18 {E : zE} {x : Nat} {ls sk : List Value} {h : zH} : zrun zpp E 119 (18, ls, .ref x :: sk, h) = (zcls h x).bind (fun d => (zsel d [9, 70]).bind (fun M' => zcl1 E 119 21 M' ls sk [.ref x] h)) := zg_vir (as := []) rfl rfl
theorem zi119_21 {E : zE} {x : Int32} {ls sk : List Value} {h : zH} : zrun zpp E 119 (21, ls, .int x :: sk, h) = if x = 0 then zrun zpp E 119 (24, ls, sk, h) else zrun zpp E 119 (27, ls, sk, h) := zrun_at rfl
theorem zi119_24 {E : zE} {ls sk : List Value} {h : zH} : zrun zpp E 119 (24, ls, sk, h) = zrun zpp E 119 (26, ls, .int (-1000002) :: sk, h) := zg_ldc rfl ci_m1000002
theorem zi119_26 {E : zE} {x : Int32} {ls sk : List Value} {h : zH} : zrun zpp E 119 (26, ls, [.int x], h) = some (some (.int x), h) := zrun_at rfl
theorem zi119_27 {E : zE} {x : Nat} {ls sk : List Value} {h : zH} : zrun zpp E 119 (27, .ref x :: ls, sk, h) = zrun zpp E 119 (28, .ref x :: ls, .ref x :: sk, h) := zrun_at rfl
theorem zi119_27n {E : zE} {ls sk : List Value} {h : zH} : zrun zpp E 119 (27, .null :: ls, sk, h) = zrun zpp E 119 (28, .null :: ls, .null :: sk, h) := zrun_at rfl
theorem zi119_28 {E : zE} {x : Nat} {ls sk : List Value} {h : zH} : zrun zpp E 119 (28, ls, .ref x :: sk, h) = (zfld [10] h x 7).bind (fun v => zrun zpp E 119 (31, ls, v :: sk, h)) := zg_getf rfl
theorem zi119_31 {E : zE} {x : Nat} {ls sk : List Value} {h : zH} : zrun zpp E 119 (31, .ref x :: ls, sk, h) = zrun zpp E 119 (32, .ref x :: ls, .ref x :: sk, h) := zrun_at rfl
theorem zi119_31n {E : zE} {ls sk : List Value} {h : zH} : zrun zpp E 119 (31, .null :: ls, sk, h) = zrun zpp E 119 (32, .null :: ls, .null :: sk, h) := zrun_at rfl
theorem zi119_32 {E : zE} {x : Nat} {ls sk : List Value} {h : zH} : zrun zpp E 119 (32, ls, .ref x :: sk, h) = (zfld [10] h x 2).bind (fun v => zrun zpp E 119 (35, ls, v :: sk, h)) := zg_getf rfl
theorem zi119_35 {E : zE} {v0 : Value} {x : Int32} {ls sk : List Value} {h : zH} : zrun zpp E 119 (35, v0 :: .int x :: ls, sk, h) = zrun zpp E 119 (36, v0 :: .int x :: ls, .int x :: sk, h) := zrun_at rfl
theorem zi119_36 {E : zE} {x : Nat} {i : Int32} {ls sk : List Value} {h : zH} : zrun zpp E 119 (36, ls, .int i :: .ref x :: sk, h) = (zara h x i).bind (fun v => zrun zpp E 119 (37, ls, v :: sk, h)) := zg_aald rfl
theorem zi119_37 {E : zE} {a0 : Value} {x : Nat} {ls sk : List Value} {h : zH} : zrun zpp E 119 (37, ls, a0 :: .ref x :: sk, h) = (zcls h x).bind (fun d => (zsel d [9, 69]).bind (fun M' => zcl1 E 119 40 M' ls sk [.ref x, a0] h)) := zg_vir (as := [a0]) rfl rfl
theorem zi119_40 {E : zE} {x : Nat} {ls sk : List Value} {h : zH} : zrun zpp E 119 (40, .ref x :: ls, sk, h) = zrun zpp E 119 (41, .ref x :: ls, .ref x :: sk, h) := zrun_at rfl
theorem zi119_40n {E : zE} {ls sk : List Value} {h : zH} : zrun zpp E 119 (40, .null :: ls, sk, h) = zrun zpp E 119 (41, .null :: ls, .null :: sk, h) := zrun_at rfl
theorem zi119_41 {E : zE} {x : Nat} {ls sk : List Value} {h : zH} : zrun zpp E 119 (41, ls, .ref x :: sk, h) = (zfld [10] h x 3).bind (fun v => zrun zpp E 119 (44, ls, v :: sk, h)) := zg_getf rfl
theorem zi119_44 {E : zE} {x : Nat} {ls sk : List Value} {h : zH} : zrun zpp E 119 (44, ls, .ref x :: sk, h) = (zcls h x).bind (fun d => (zsel d [0, 2]).bind (fun M' => zcl1 E 119 47 M' ls sk [.ref x] h)) := zg_vir (as := []) rfl rfl
theorem zi119_47 {E : zE} {ls sk : List Value} {h : zH} : zrun zpp E 119 (47, ls, sk, h) = zrun zpp E 119 (48, ls, .int 1 :: sk, h) := zg_iconst rfl ci_1
theorem zi119_48 {E : zE} {x : Int32} {ls sk : List Value} {h : zH} : zrun zpp E 119 (48, ls, [.int x], h) = some (some (.int x), h) := zrun_at rfl
-- 120 NineDown.kind
theorem zi120_0 {E : zE} {x : Nat} {ls sk : List Value} {h : zH} : zrun zpp E 120 (0, .ref x :: ls, sk, h) = zrun zpp E 120 (1, .ref x :: ls, .ref x :: sk, h) := zrun_at rfl
theorem zi120_0n {E : zE} {ls sk : List Value} {h : zH} : zrun zpp E 120 (0, .null :: ls, sk, h) = zrun zpp E 120 (1, .null :: ls, .null :: sk, h) := zrun_at rfl
theorem zi120_1 {E : zE} {x : Nat} {ls sk : List Value} {h : zH} : zrun zpp E 120 (1, ls, .ref x :: sk, h) = (zfld [10] h x 7).bind (fun v => zrun zpp E 120 (4, ls, v :: sk, h)) := zg_getf rfl
theorem zi120_4 {E : zE} {v0 : Value} {x : Int32} {ls sk : List Value} {h : zH} : zrun zpp E 120 (4, v0 :: .int x :: ls, sk, h) = zrun zpp E 120 (5, v0 :: .int x :: ls, .int x :: sk, h) := zrun_at rfl
theorem zi120_5 {E : zE} {a0 : Value} {x : Nat} {ls sk : List Value} {h : zH} : zrun zpp E 120 (5, ls, a0 :: .ref x :: sk, h) = (zcls h x).bind (fun d => (zsel d [9, 73]).bind (fun M' => zcl1 E 120 8 M' ls sk [.ref x, a0] h)) := zg_vir (as := [a0]) rfl rfl
theorem zi120_8 {E : zE} {x : Nat} {ls sk : List Value} {h : zH} : zrun zpp E 120 (8, ls, .ref x :: sk, h) = if zfree ls 2 = true then zrun zpp E 120 (9, ls.set 2 (.ref x), sk, h) else none := zg_astr rfl (fun _ _ _ => rfl)
theorem zi120_8n {E : zE} {ls sk : List Value} {h : zH} : zrun zpp E 120 (8, ls, .null :: sk, h) = if zfree ls 2 = true then zrun zpp E 120 (9, ls.set 2 .null, sk, h) else none := zg_astn rfl (fun _ _ _ => rfl)
theorem zi120_9 {E : zE} {v0 v1 : Value} {x : Nat} {ls sk : List Value} {h : zH} : zrun zpp E 120 (9, v0 :: v1 :: .ref x :: ls, sk, h) = zrun zpp E 120 (10, v0 :: v1 :: .ref x :: ls, .ref x :: sk, h) := zrun_at rfl
theorem zi120_9n {E : zE} {v0 v1 : Value} {ls sk : List Value} {h : zH} : zrun zpp E 120 (9, v0 :: v1 :: .null :: ls, sk, h) = zrun zpp E 120 (10, v0 :: v1 :: .null :: ls, .null :: sk, h) := zrun_at rfl
theorem zi120_10 {E : zE} {x : Nat} {ls sk : List Value} {h : zH} : zrun zpp E 120 (10, ls, .ref x :: sk, h) = zrun zpp E 120 (18, ls, sk, h) := zrun_at rfl
theorem zi120_10n {E : zE} {ls sk : List Value} {h : zH} : zrun zpp E 120 (10, ls, .null :: sk, h) = zrun zpp E 120 (13, ls, sk, h) := zrun_at rfl
theorem zi120_13 {E : zE} {ls sk : List Value} {h : zH} : zrun zpp E 120 (13, ls, sk, h) = zrun zpp E 120 (15, ls, .int (-1000001) :: sk, h) := zg_ldc rfl ci_m1000001
theorem zi120_15 {E : zE} {ls sk : List Value} {h : zH} : zrun zpp E 120 (15, ls, sk, h) = zrun zpp E 120 (22, ls, sk, h) := zrun_at rfl
theorem zi120_18 {E : zE} {v0 v1 : Value} {x : Nat} {ls sk : List Value} {h : zH} : zrun zpp E 120 (18, v0 :: v1 :: .ref x :: ls, sk, h) = zrun zpp E 120 (19, v0 :: v1 :: .ref x :: ls, .ref x :: sk, h) := zrun_at rfl
theorem zi120_18n {E : zE} {v0 v1 : Value} {ls sk : List Value} {h : zH} : zrun zpp E 120 (18, v0 :: v1 :: .null :: ls, sk, h) = zrun zpp E 120 (19, v0 :: v1 :: .null :: ls, .null :: sk, h) := zrun_at rfl
theorem zi120_19 {E : zE} {x : Nat} {ls sk : List Value} {h : zH} : zrun zpp E 120 (19, ls, .ref x :: sk, h) = (zcls h x).bind (fun d => (zsel d [1, 8, 2, 14, 3, 25, 4, 29, 7, 56]).bind (fun M' => zcl1 E 120 22 M' ls sk [.ref x] h)) := zg_vir (as := []) rfl rfl
theorem zi120_22 {E : zE} {x : Int32} {ls sk : List Value} {h : zH} : zrun zpp E 120 (22, ls, [.int x], h) = some (some (.int x), h) := zrun_at rfl
-- 121 NineDown.as
theorem zi121_0 {E : zE} {x : Nat} {ls sk : List Value} {h : zH} : zrun zpp E 121 (0, .ref x :: ls, sk, h) = zrun zpp E 121 (1, .ref x :: ls, .ref x :: sk, h) := zrun_at rfl
theorem zi121_0n {E : zE} {ls sk : List Value} {h : zH} : zrun zpp E 121 (0, .null :: ls, sk, h) = zrun zpp E 121 (1, .null :: ls, .null :: sk, h) := zrun_at rfl
theorem zi121_1 {E : zE} {x : Nat} {ls sk : List Value} {h : zH} : zrun zpp E 121 (1, ls, .ref x :: sk, h) = (zfld [10] h x 7).bind (fun v => zrun zpp E 121 (4, ls, v :: sk, h)) := zg_getf rfl
theorem zi121_4 {E : zE} {v0 : Value} {x : Int32} {ls sk : List Value} {h : zH} : zrun zpp E 121 (4, v0 :: .int x :: ls, sk, h) = zrun zpp E 121 (5, v0 :: .int x :: ls, .int x :: sk, h) := zrun_at rfl
theorem zi121_5 {E : zE} {a0 : Value} {x : Nat} {ls sk : List Value} {h : zH} : zrun zpp E 121 (5, ls, a0 :: .ref x :: sk, h) = (zcls h x).bind (fun d => (zsel d [9, 73]).bind (fun M' => zcl1 E 121 8 M' ls sk [.ref x, a0] h)) := zg_vir (as := [a0]) rfl rfl
theorem zi121_8 {E : zE} {x : Nat} {ls sk : List Value} {h : zH} : zrun zpp E 121 (8, ls, .ref x :: sk, h) = if zfree ls 3 = true then zrun zpp E 121 (9, ls.set 3 (.ref x), sk, h) else none := zg_astr rfl (fun _ _ _ => rfl)
theorem zi121_8n {E : zE} {ls sk : List Value} {h : zH} : zrun zpp E 121 (8, ls, .null :: sk, h) = if zfree ls 3 = true then zrun zpp E 121 (9, ls.set 3 .null, sk, h) else none := zg_astn rfl (fun _ _ _ => rfl)
theorem zi121_9 {E : zE} {v0 v1 v2 : Value} {x : Nat} {ls sk : List Value} {h : zH} : zrun zpp E 121 (9, v0 :: v1 :: v2 :: .ref x :: ls, sk, h) = zrun zpp E 121 (10, v0 :: v1 :: v2 :: .ref x :: ls, .ref x :: sk, h) := zrun_at rfl
theorem zi121_9n {E : zE} {v0 v1 v2 : Value} {ls sk : List Value} {h : zH} : zrun zpp E 121 (9, v0 :: v1 :: v2 :: .null :: ls, sk, h) = zrun zpp E 121 (10, v0 :: v1 :: v2 :: .null :: ls, .null :: sk, h) := zrun_at rfl
theorem zi121_10 {E : zE} {x : Nat} {ls sk : List Value} {h : zH} : zrun zpp E 121 (10, ls, .ref x :: sk, h) = zrun zpp E 121 (13, ls, sk, h) := zrun_at rfl
theorem zi121_10n {E : zE} {ls sk : List Value} {h : zH} : zrun zpp E 121 (10, ls, .null :: sk, h) = zrun zpp E 121 (22, ls, sk, h) := zrun_at rfl
theorem zi121_13 {E : zE} {v0 v1 : Value} {x : Int32} {ls sk : List Value} {h : zH} : zrun zpp E 121 (13, v0 :: v1 :: .int x :: ls, sk, h) = zrun zpp E 121 (14, v0 :: v1 :: .int x :: ls, .int x :: sk, h) := zrun_at rfl
theorem zi121_14 {E : zE} {ls sk : List Value} {h : zH} : zrun zpp E 121 (14, ls, sk, h) = zrun zpp E 121 (15, ls, .int 0 :: sk, h) := zg_iconst rfl ci_0
theorem zi121_15 {E : zE} {ls sk : List Value} {h : zH} : zrun zpp E 121 (15, ls, sk, h) = zrun zpp E 121 (16, ls, .int 5 :: sk, h) := zg_iconst rfl ci_5
theorem zi121_16 {E : zE} {a0 a1 a2 : Value} {ls sk : List Value} {h : zH} : zrun zpp E 121 (16, ls, a2 :: a1 :: a0 :: sk, h) = zcl1 E 121 19 126 ls sk [a0, a1, a2] h := zg_inv (as := [a0, a1, a2]) rfl rfl
theorem zi121_19 {E : zE} {x : Int32} {ls sk : List Value} {h : zH} : zrun zpp E 121 (19, ls, .int x :: sk, h) = if x = 0 then zrun zpp E 121 (22, ls, sk, h) else zrun zpp E 121 (25, ls, sk, h) := zrun_at rfl
theorem zi121_22 {E : zE} {ls sk : List Value} {h : zH} : zrun zpp E 121 (22, ls, sk, h) = zrun zpp E 121 (24, ls, .int (-1000001) :: sk, h) := zg_ldc rfl ci_m1000001
theorem zi121_24 {E : zE} {x : Int32} {ls sk : List Value} {h : zH} : zrun zpp E 121 (24, ls, [.int x], h) = some (some (.int x), h) := zrun_at rfl
theorem zi121_25 {E : zE} {v0 v1 v2 : Value} {x : Nat} {ls sk : List Value} {h : zH} : zrun zpp E 121 (25, v0 :: v1 :: v2 :: .ref x :: ls, sk, h) = zrun zpp E 121 (26, v0 :: v1 :: v2 :: .ref x :: ls, .ref x :: sk, h) := zrun_at rfl
theorem zi121_25n {E : zE} {v0 v1 v2 : Value} {ls sk : List Value} {h : zH} : zrun zpp E 121 (25, v0 :: v1 :: v2 :: .null :: ls, sk, h) = zrun zpp E 121 (26, v0 :: v1 :: v2 :: .null :: ls, .null :: sk, h) := zrun_at rfl
theorem zi121_26 {E : zE} {v0 v1 : Value} {x : Int32} {ls sk : List Value} {h : zH} : zrun zpp E 121 (26, v0 :: v1 :: .int x :: ls, sk, h) = zrun zpp E 121 (27, v0 :: v1 :: .int x :: ls, .int x :: sk, h) := zrun_at rfl
theorem zi121_27 {E : zE} {a0 a1 : Value} {ls sk : List Value} {h : zH} : zrun zpp E 121 (27, ls, a1 :: a0 :: sk, h) = zcl1 E 121 30 147 ls sk [a0, a1] h := zg_inv (as := [a0, a1]) rfl rfl
theorem zi121_30 {E : zE} {x : Int32} {ls sk : List Value} {h : zH} : zrun zpp E 121 (30, ls, .int x :: sk, h) = if x = 0 then zrun zpp E 121 (41, ls, sk, h) else zrun zpp E 121 (33, ls, sk, h) := zrun_at rfl
theorem zi121_33 {E : zE} {x : Nat} {ls sk : List Value} {h : zH} : zrun zpp E 121 (33, .ref x :: ls, sk, h) = zrun zpp E 121 (34, .ref x :: ls, .ref x :: sk, h) := zrun_at rfl
theorem zi121_33n {E : zE} {ls sk : List Value} {h : zH} : zrun zpp E 121 (33, .null :: ls, sk, h) = zrun zpp E 121 (34, .null :: ls, .null :: sk, h) := zrun_at rfl
theorem zi121_34 {E : zE} {v0 : Value} {x : Int32} {ls sk : List Value} {h : zH} : zrun zpp E 121 (34, v0 :: .int x :: ls, sk, h) = zrun zpp E 121 (35, v0 :: .int x :: ls, .int x :: sk, h) := zrun_at rfl
theorem zi121_35 {E : zE} {a0 : Value} {x : Nat} {ls sk : List Value} {h : zH} : zrun zpp E 121 (35, ls, a0 :: .ref x :: sk, h) = (zcls h x).bind (fun d => (zsel d [10, 131]).bind (fun M' => zcl1 E 121 38 M' ls sk [.ref x, a0] h)) := zg_vir (as := [a0]) rfl rfl
theorem zi121_38 {E : zE} {ls sk : List Value} {h : zH} : zrun zpp E 121 (38, ls, sk, h) = zrun zpp E 121 (46, ls, sk, h) := zrun_at rfl
theorem zi121_41 {E : zE} {x : Nat} {ls sk : List Value} {h : zH} : zrun zpp E 121 (41, .ref x :: ls, sk, h) = zrun zpp E 121 (42, .ref x :: ls, .ref x :: sk, h) := zrun_at rfl
theorem zi121_41n {E : zE} {ls sk : List Value} {h : zH} : zrun zpp E 121 (41, .null :: ls, sk, h) = zrun zpp E 121 (42, .null :: ls, .null :: sk, h) := zrun_at rfl
theorem zi121_42 {E : zE} {ls sk : List Value} {h : zH} : zrun zpp E 121 (42, ls, sk, h) = zrun zpp E 121 (43, ls, .int 3 :: sk, h) := zg_iconst rfl ci_3
theorem zi121_43 {E : zE} {a0 : Value} {x : Nat} {ls sk : List Value} {h : zH} : zrun zpp E 121 (43, ls, a0 :: .ref x :: sk, h) = (zcls h x).bind (fun d => (zsel d [10, 130]).bind (fun M' => zcl1 E 121 46 M' ls sk [.ref x, a0] h)) := zg_vir (as := [a0]) rfl rfl
theorem zi121_46 {E : zE} {x : Int32} {ls sk : List Value} {h : zH} : zrun zpp E 121 (46, ls, [.int x], h) = some (some (.int x), h) := zrun_at rfl
-- 122 NineDown.ask
theorem zi122_0 {E : zE} {x : Nat} {ls sk : List Value} {h : zH} : zrun zpp E 122 (0, .ref x :: ls, sk, h) = zrun zpp E 122 (1, .ref x :: ls, .ref x :: sk, h) := zrun_at rfl
theorem zi122_0n {E : zE} {ls sk : List Value} {h : zH} : zrun zpp E 122 (0, .null :: ls, sk, h) = zrun zpp E 122 (1, .null :: ls, .null :: sk, h) := zrun_at rfl
theorem zi122_1 {E : zE} {x : Nat} {ls sk : List Value} {h : zH} : zrun zpp E 122 (1, ls, .ref x :: sk, h) = (zfld [10] h x 7).bind (fun v => zrun zpp E 122 (4, ls, v :: sk, h)) := zg_getf rfl
theorem zi122_4 {E : zE} {v0 : Value} {x : Int32} {ls sk : List Value} {h : zH} : zrun zpp E 122 (4, v0 :: .int x :: ls, sk, h) = zrun zpp E 122 (5, v0 :: .int x :: ls, .int x :: sk, h) := zrun_at rfl
theorem zi122_5 {E : zE} {a0 : Value} {x : Nat} {ls sk : List Value} {h : zH} : zrun zpp E 122 (5, ls, a0 :: .ref x :: sk, h) = (zcls h x).bind (fun d => (zsel d [9, 73]).bind (fun M' => zcl1 E 122 8 M' ls sk [.ref x, a0] h)) := zg_vir (as := [a0]) rfl rfl
theorem zi122_8 {E : zE} {x : Nat} {ls sk : List Value} {h : zH} : zrun zpp E 122 (8, ls, .ref x :: sk, h) = if zfree ls 3 = true then zrun zpp E 122 (9, ls.set 3 (.ref x), sk, h) else none := zg_astr rfl (fun _ _ _ => rfl)
theorem zi122_8n {E : zE} {ls sk : List Value} {h : zH} : zrun zpp E 122 (8, ls, .null :: sk, h) = if zfree ls 3 = true then zrun zpp E 122 (9, ls.set 3 .null, sk, h) else none := zg_astn rfl (fun _ _ _ => rfl)
theorem zi122_9 {E : zE} {v0 v1 v2 : Value} {x : Nat} {ls sk : List Value} {h : zH} : zrun zpp E 122 (9, v0 :: v1 :: v2 :: .ref x :: ls, sk, h) = zrun zpp E 122 (10, v0 :: v1 :: v2 :: .ref x :: ls, .ref x :: sk, h) := zrun_at rfl
theorem zi122_9n {E : zE} {v0 v1 v2 : Value} {ls sk : List Value} {h : zH} : zrun zpp E 122 (9, v0 :: v1 :: v2 :: .null :: ls, sk, h) = zrun zpp E 122 (10, v0 :: v1 :: v2 :: .null :: ls, .null :: sk, h) := zrun_at rfl
theorem zi122_10 {E : zE} {x : Nat} {ls sk : List Value} {h : zH} : zrun zpp E 122 (10, ls, .ref x :: sk, h) = zrun zpp E 122 (13, ls, sk, h) := zrun_at rfl
theorem zi122_10n {E : zE} {ls sk : List Value} {h : zH} : zrun zpp E 122 (10, ls, .null :: sk, h) = zrun zpp E 122 (22, ls, sk, h) := zrun_at rfl
theorem zi122_13 {E : zE} {v0 v1 : Value} {x : Int32} {ls sk : List Value} {h : zH} : zrun zpp E 122 (13, v0 :: v1 :: .int x :: ls, sk, h) = zrun zpp E 122 (14, v0 :: v1 :: .int x :: ls, .int x :: sk, h) := zrun_at rfl
theorem zi122_14 {E : zE} {ls sk : List Value} {h : zH} : zrun zpp E 122 (14, ls, sk, h) = zrun zpp E 122 (15, ls, .int 0 :: sk, h) := zg_iconst rfl ci_0
theorem zi122_15 {E : zE} {ls sk : List Value} {h : zH} : zrun zpp E 122 (15, ls, sk, h) = zrun zpp E 122 (16, ls, .int 1 :: sk, h) := zg_iconst rfl ci_1
theorem zi122_16 {E : zE} {a0 a1 a2 : Value} {ls sk : List Value} {h : zH} : zrun zpp E 122 (16, ls, a2 :: a1 :: a0 :: sk, h) = zcl1 E 122 19 126 ls sk [a0, a1, a2] h := zg_inv (as := [a0, a1, a2]) rfl rfl
theorem zi122_19 {E : zE} {x : Int32} {ls sk : List Value} {h : zH} : zrun zpp E 122 (19, ls, .int x :: sk, h) = if x = 0 then zrun zpp E 122 (22, ls, sk, h) else zrun zpp E 122 (25, ls, sk, h) := zrun_at rfl
theorem zi122_22 {E : zE} {ls sk : List Value} {h : zH} : zrun zpp E 122 (22, ls, sk, h) = zrun zpp E 122 (24, ls, .int (-1000001) :: sk, h) := zg_ldc rfl ci_m1000001
theorem zi122_24 {E : zE} {x : Int32} {ls sk : List Value} {h : zH} : zrun zpp E 122 (24, ls, [.int x], h) = some (some (.int x), h) := zrun_at rfl
theorem zi122_25 {E : zE} {x : Nat} {ls sk : List Value} {h : zH} : zrun zpp E 122 (25, .ref x :: ls, sk, h) = zrun zpp E 122 (26, .ref x :: ls, .ref x :: sk, h) := zrun_at rfl
theorem zi122_25n {E : zE} {ls sk : List Value} {h : zH} : zrun zpp E 122 (25, .null :: ls, sk, h) = zrun zpp E 122 (26, .null :: ls, .null :: sk, h) := zrun_at rfl
theorem zi122_26 {E : zE} {x : Nat} {ls sk : List Value} {h : zH} : zrun zpp E 122 (26, ls, .ref x :: sk, h) = (zfld [10] h x 4).bind (fun v => zrun zpp E 122 (29, ls, v :: sk, h)) := zg_getf rfl
theorem zi122_29 {E : zE} {x : Nat} {ls sk : List Value} {h : zH} : zrun zpp E 122 (29, .ref x :: ls, sk, h) = zrun zpp E 122 (30, .ref x :: ls, .ref x :: sk, h) := zrun_at rfl
theorem zi122_29n {E : zE} {ls sk : List Value} {h : zH} : zrun zpp E 122 (29, .null :: ls, sk, h) = zrun zpp E 122 (30, .null :: ls, .null :: sk, h) := zrun_at rfl
theorem zi122_30 {E : zE} {x : Nat} {ls sk : List Value} {h : zH} : zrun zpp E 122 (30, ls, .ref x :: sk, h) = (zfld [10] h x 7).bind (fun v => zrun zpp E 122 (33, ls, v :: sk, h)) := zg_getf rfl
theorem zi122_33 {E : zE} {x : Nat} {ls sk : List Value} {h : zH} : zrun zpp E 122 (33, ls, .ref x :: sk, h) = (zfld [9] h x 15).bind (fun v => zrun zpp E 122 (36, ls, v :: sk, h)) := zg_getf rfl
theorem zi122_36 {E : zE} {a0 : Value} {ls sk : List Value} {h : zH} : zrun zpp E 122 (36, ls, a0 :: sk, h) = zcl1 E 122 39 230 ls sk [a0] h := zg_inv (as := [a0]) rfl rfl
theorem zi122_39 {E : zE} {a0 : Value} {x : Nat} {ls sk : List Value} {h : zH} : zrun zpp E 122 (39, ls, a0 :: .ref x :: sk, h) = (zcls h x).bind (fun d => (zsel d [8, 62]).bind (fun M' => zcl1 E 122 42 M' ls sk [.ref x, a0] h)) := zg_vir (as := [a0]) rfl rfl
theorem zi122_42 {E : zE} {v0 v1 : Value} {x : Int32} {ls sk : List Value} {h : zH} : zrun zpp E 122 (42, v0 :: v1 :: .int x :: ls, sk, h) = zrun zpp E 122 (43, v0 :: v1 :: .int x :: ls, .int x :: sk, h) := zrun_at rfl
theorem zi122_43 {E : zE} {x : Int32} {ls sk : List Value} {h : zH} : zrun zpp E 122 (43, ls, .int x :: sk, h) = if x = 0 then zrun zpp E 122 (46, ls, sk, h) else zrun zpp E 122 (57, ls, sk, h) := zrun_at rfl
theorem zi122_46 {E : zE} {v0 v1 v2 : Value} {x : Nat} {ls sk : List Value} {h : zH} : zrun zpp E 122 (46, v0 :: v1 :: v2 :: .ref x :: ls, sk, h) = zrun zpp E 122 (47, v0 :: v1 :: v2 :: .ref x :: ls, .ref x :: sk, h) := zrun_at rfl
theorem zi122_46n {E : zE} {v0 v1 v2 : Value} {ls sk : List Value} {h : zH} : zrun zpp E 122 (46, v0 :: v1 :: v2 :: .null :: ls, sk, h) = zrun zpp E 122 (47, v0 :: v1 :: v2 :: .null :: ls, .null :: sk, h) := zrun_at rfl
theorem zi122_47 {E : zE} {x : Nat} {ls sk : List Value} {h : zH} : zrun zpp E 122 (47, .ref x :: ls, sk, h) = zrun zpp E 122 (48, .ref x :: ls, .ref x :: sk, h) := zrun_at rfl
theorem zi122_47n {E : zE} {ls sk : List Value} {h : zH} : zrun zpp E 122 (47, .null :: ls, sk, h) = zrun zpp E 122 (48, .null :: ls, .null :: sk, h) := zrun_at rfl
theorem zi122_48 {E : zE} {x : Nat} {ls sk : List Value} {h : zH} : zrun zpp E 122 (48, ls, .ref x :: sk, h) = (zfld [10] h x 4).bind (fun v => zrun zpp E 122 (51, ls, v :: sk, h)) := zg_getf rfl
theorem zi122_51 {E : zE} {a0 : Value} {x : Nat} {ls sk : List Value} {h : zH} : zrun zpp E 122 (51, ls, a0 :: .ref x :: sk, h) = (zcls h x).bind (fun d => (zsel d [1, 11, 2, 17, 3, 27, 4, 59, 7, 59]).bind (fun M' => zcl1 E 122 54 M' ls sk [.ref x, a0] h)) := zg_vir (as := [a0]) rfl rfl
theorem zi122_54 {E : zE} {ls sk : List Value} {h : zH} : zrun zpp E 122 (54, ls, sk, h) = zrun zpp E 122 (65, ls, sk, h) := zrun_at rfl
theorem zi122_57 {E : zE} {v0 v1 v2 : Value} {x : Nat} {ls sk : List Value} {h : zH} : zrun zpp E 122 (57, v0 :: v1 :: v2 :: .ref x :: ls, sk, h) = zrun zpp E 122 (58, v0 :: v1 :: v2 :: .ref x :: ls, .ref x :: sk, h) := zrun_at rfl
theorem zi122_57n {E : zE} {v0 v1 v2 : Value} {ls sk : List Value} {h : zH} : zrun zpp E 122 (57, v0 :: v1 :: v2 :: .null :: ls, sk, h) = zrun zpp E 122 (58, v0 :: v1 :: v2 :: .null :: ls, .null :: sk, h) := zrun_at rfl
theorem zi122_58 {E : zE} {x : Nat} {ls sk : List Value} {h : zH} : zrun zpp E 122 (58, .ref x :: ls, sk, h) = zrun zpp E 122 (59, .ref x :: ls, .ref x :: sk, h) := zrun_at rfl
theorem zi122_58n {E : zE} {ls sk : List Value} {h : zH} : zrun zpp E 122 (58, .null :: ls, sk, h) = zrun zpp E 122 (59, .null :: ls, .null :: sk, h) := zrun_at rfl
theorem zi122_59 {E : zE} {x : Nat} {ls sk : List Value} {h : zH} : zrun zpp E 122 (59, ls, .ref x :: sk, h) = (zfld [10] h x 4).bind (fun v => zrun zpp E 122 (62, ls, v :: sk, h)) := zg_getf rfl
theorem zi122_62 {E : zE} {a0 : Value} {x : Nat} {ls sk : List Value} {h : zH} : zrun zpp E 122 (62, ls, a0 :: .ref x :: sk, h) = (zcls h x).bind (fun d => (zsel d [1, 12, 2, 18, 3, 18, 4, 32, 7, 60]).bind (fun M' => zcl1 E 122 65 M' ls sk [.ref x, a0] h)) := zg_vir (as := [a0]) rfl rfl
theorem zi122_65 {E : zE} {x : Int32} {ls sk : List Value} {h : zH} : zrun zpp E 122 (65, ls, [.int x], h) = some (some (.int x), h) := zrun_at rfl
-- 123 NineDown.trace
theorem zi123_0 {E : zE} {v0 : Value} {x : Int32} {ls sk : List Value} {h : zH} : zrun zpp E 123 (0, v0 :: .int x :: ls, sk, h) = zrun zpp E 123 (1, v0 :: .int x :: ls, .int x :: sk, h) := zrun_at rfl
theorem zi123_1 {E : zE} {ls sk : List Value} {h : zH} : zrun zpp E 123 (1, ls, sk, h) = zrun zpp E 123 (2, ls, .int 0 :: sk, h) := zg_iconst rfl ci_0
theorem zi123_2 {E : zE} {x : Nat} {ls sk : List Value} {h : zH} : zrun zpp E 123 (2, .ref x :: ls, sk, h) = zrun zpp E 123 (3, .ref x :: ls, .ref x :: sk, h) := zrun_at rfl
theorem zi123_2n {E : zE} {ls sk : List Value} {h : zH} : zrun zpp E 123 (2, .null :: ls, sk, h) = zrun zpp E 123 (3, .null :: ls, .null :: sk, h) := zrun_at rfl
theorem zi123_3 {E : zE} {x : Nat} {ls sk : List Value} {h : zH} : zrun zpp E 123 (3, ls, .ref x :: sk, h) = (zfld [10] h x 4).bind (fun v => zrun zpp E 123 (6, ls, v :: sk, h)) := zg_getf rfl
theorem zi123_6 {E : zE} {x : Nat} {ls sk : List Value} {h : zH} : zrun zpp E 123 (6, ls, .ref x :: sk, h) = (zfld [8] h x 1).bind (fun v => zrun zpp E 123 (9, ls, v :: sk, h)) := zg_getf rfl
theorem zi123_9 {E : zE} {ls sk : List Value} {h : zH} : zrun zpp E 123 (9, ls, sk, h) = zrun zpp E 123 (10, ls, .int 1 :: sk, h) := zg_iconst rfl ci_1
theorem zi123_10 {E : zE} {x y : Int32} {ls sk : List Value} {h : zH} : zrun zpp E 123 (10, ls, .int y :: .int x :: sk, h) = zrun zpp E 123 (11, ls, .int (x - y) :: sk, h) := zrun_at rfl
theorem zi123_11 {E : zE} {a0 a1 a2 : Value} {ls sk : List Value} {h : zH} : zrun zpp E 123 (11, ls, a2 :: a1 :: a0 :: sk, h) = zcl1 E 123 14 126 ls sk [a0, a1, a2] h := zg_inv (as := [a0, a1, a2]) rfl rfl
theorem zi123_14 {E : zE} {x : Int32} {ls sk : List Value} {h : zH} : zrun zpp E 123 (14, ls, .int x :: sk, h) = if x = 0 then zrun zpp E 123 (29, ls, sk, h) else zrun zpp E 123 (17, ls, sk, h) := zrun_at rfl
theorem zi123_17 {E : zE} {x : Nat} {ls sk : List Value} {h : zH} : zrun zpp E 123 (17, .ref x :: ls, sk, h) = zrun zpp E 123 (18, .ref x :: ls, .ref x :: sk, h) := zrun_at rfl
theorem zi123_17n {E : zE} {ls sk : List Value} {h : zH} : zrun zpp E 123 (17, .null :: ls, sk, h) = zrun zpp E 123 (18, .null :: ls, .null :: sk, h) := zrun_at rfl
theorem zi123_18 {E : zE} {x : Nat} {ls sk : List Value} {h : zH} : zrun zpp E 123 (18, ls, .ref x :: sk, h) = (zfld [10] h x 4).bind (fun v => zrun zpp E 123 (21, ls, v :: sk, h)) := zg_getf rfl
theorem zi123_21 {E : zE} {x : Nat} {ls sk : List Value} {h : zH} : zrun zpp E 123 (21, ls, .ref x :: sk, h) = (zfld [8] h x 0).bind (fun v => zrun zpp E 123 (24, ls, v :: sk, h)) := zg_getf rfl
theorem zi123_24 {E : zE} {v0 : Value} {x : Int32} {ls sk : List Value} {h : zH} : zrun zpp E 123 (24, v0 :: .int x :: ls, sk, h) = zrun zpp E 123 (25, v0 :: .int x :: ls, .int x :: sk, h) := zrun_at rfl
theorem zi123_25 {E : zE} {x : Nat} {i : Int32} {ls sk : List Value} {h : zH} : zrun zpp E 123 (25, ls, .int i :: .ref x :: sk, h) = (zarr 0 h x i).bind (fun v => zrun zpp E 123 (26, ls, .int v :: sk, h)) := zg_iald rfl
theorem zi123_26 {E : zE} {ls sk : List Value} {h : zH} : zrun zpp E 123 (26, ls, sk, h) = zrun zpp E 123 (31, ls, sk, h) := zrun_at rfl
theorem zi123_29 {E : zE} {ls sk : List Value} {h : zH} : zrun zpp E 123 (29, ls, sk, h) = zrun zpp E 123 (31, ls, .int (-1000000) :: sk, h) := zg_ldc rfl ci_m1000000
theorem zi123_31 {E : zE} {x : Int32} {ls sk : List Value} {h : zH} : zrun zpp E 123 (31, ls, [.int x], h) = some (some (.int x), h) := zrun_at rfl
-- 124 NineDown.count
theorem zi124_0 {E : zE} {v0 : Value} {x : Int32} {ls sk : List Value} {h : zH} : zrun zpp E 124 (0, v0 :: .int x :: ls, sk, h) = zrun zpp E 124 (1, v0 :: .int x :: ls, .int x :: sk, h) := zrun_at rfl
theorem zi124_1 {E : zE} {x : Int32} {ls sk : List Value} {h : zH} : zrun zpp E 124 (1, ls, .int x :: sk, h) = if x = 0 then zrun zpp E 124 (48, ls, sk, h) else if x = 1 then zrun zpp E 124 (53, ls, sk, h) else if x = 2 then zrun zpp E 124 (61, ls, sk, h) else if x = 3 then zrun zpp E 124 (69, ls, sk, h) else if x = 4 then zrun zpp E 124 (77, ls, sk, h) else if x = 5 then zrun zpp E 124 (85, ls, sk, h) else if x = 6 then zrun zpp E 124 (93, ls, sk, h) else if x = 7 then zrun zpp E 124 (101, ls, sk, h) else zrun zpp E 124 (109, ls, sk, h) := zrun_at rfl
theorem zi124_48 {E : zE} {x : Nat} {ls sk : List Value} {h : zH} : zrun zpp E 124 (48, .ref x :: ls, sk, h) = zrun zpp E 124 (49, .ref x :: ls, .ref x :: sk, h) := zrun_at rfl
theorem zi124_48n {E : zE} {ls sk : List Value} {h : zH} : zrun zpp E 124 (48, .null :: ls, sk, h) = zrun zpp E 124 (49, .null :: ls, .null :: sk, h) := zrun_at rfl
theorem zi124_49 {E : zE} {x : Nat} {ls sk : List Value} {h : zH} : zrun zpp E 124 (49, ls, .ref x :: sk, h) = (zcls h x).bind (fun d => (zsel d [10, 129]).bind (fun M' => zcl1 E 124 52 M' ls sk [.ref x] h)) := zg_vir (as := []) rfl rfl
theorem zi124_52 {E : zE} {x : Int32} {ls sk : List Value} {h : zH} : zrun zpp E 124 (52, ls, [.int x], h) = some (some (.int x), h) := zrun_at rfl
theorem zi124_53 {E : zE} {x : Nat} {ls sk : List Value} {h : zH} : zrun zpp E 124 (53, .ref x :: ls, sk, h) = zrun zpp E 124 (54, .ref x :: ls, .ref x :: sk, h) := zrun_at rfl
theorem zi124_53n {E : zE} {ls sk : List Value} {h : zH} : zrun zpp E 124 (53, .null :: ls, sk, h) = zrun zpp E 124 (54, .null :: ls, .null :: sk, h) := zrun_at rfl
theorem zi124_54 {E : zE} {x : Nat} {ls sk : List Value} {h : zH} : zrun zpp E 124 (54, ls, .ref x :: sk, h) = (zfld [10] h x 7).bind (fun v => zrun zpp E 124 (57, ls, v :: sk, h)) := zg_getf rfl
theorem zi124_57 {E : zE} {x : Nat} {ls sk : List Value} {h : zH} : zrun zpp E 124 (57, ls, .ref x :: sk, h) = (zfld [9] h x 3).bind (fun v => zrun zpp E 124 (60, ls, v :: sk, h)) := zg_getf rfl
theorem zi124_60 {E : zE} {x : Int32} {ls sk : List Value} {h : zH} : zrun zpp E 124 (60, ls, [.int x], h) = some (some (.int x), h) := zrun_at rfl
theorem zi124_61 {E : zE} {x : Nat} {ls sk : List Value} {h : zH} : zrun zpp E 124 (61, .ref x :: ls, sk, h) = zrun zpp E 124 (62, .ref x :: ls, .ref x :: sk, h) := zrun_at rfl
theorem zi124_61n {E : zE} {ls sk : List Value} {h : zH} : zrun zpp E 124 (61, .null :: ls, sk, h) = zrun zpp E 124 (62, .null :: ls, .null :: sk, h) := zrun_at rfl
theorem zi124_62 {E : zE} {x : Nat} {ls sk : List Value} {h : zH} : zrun zpp E 124 (62, ls, .ref x :: sk, h) = (zfld [10] h x 7).bind (fun v => zrun zpp E 124 (65, ls, v :: sk, h)) := zg_getf rfl
theorem zi124_65 {E : zE} {x : Nat} {ls sk : List Value} {h : zH} : zrun zpp E 124 (65, ls, .ref x :: sk, h) = (zfld [9] h x 4).bind (fun v => zrun zpp E 124 (68, ls, v :: sk, h)) := zg_getf rfl
theorem zi124_68 {E : zE} {x : Int32} {ls sk : List Value} {h : zH} : zrun zpp E 124 (68, ls, [.int x], h) = some (some (.int x), h) := zrun_at rfl
theorem zi124_69 {E : zE} {x : Nat} {ls sk : List Value} {h : zH} : zrun zpp E 124 (69, .ref x :: ls, sk, h) = zrun zpp E 124 (70, .ref x :: ls, .ref x :: sk, h) := zrun_at rfl
theorem zi124_69n {E : zE} {ls sk : List Value} {h : zH} : zrun zpp E 124 (69, .null :: ls, sk, h) = zrun zpp E 124 (70, .null :: ls, .null :: sk, h) := zrun_at rfl
theorem zi124_70 {E : zE} {x : Nat} {ls sk : List Value} {h : zH} : zrun zpp E 124 (70, ls, .ref x :: sk, h) = (zfld [10] h x 7).bind (fun v => zrun zpp E 124 (73, ls, v :: sk, h)) := zg_getf rfl
theorem zi124_73 {E : zE} {x : Nat} {ls sk : List Value} {h : zH} : zrun zpp E 124 (73, ls, .ref x :: sk, h) = (zfld [9] h x 5).bind (fun v => zrun zpp E 124 (76, ls, v :: sk, h)) := zg_getf rfl
theorem zi124_76 {E : zE} {x : Int32} {ls sk : List Value} {h : zH} : zrun zpp E 124 (76, ls, [.int x], h) = some (some (.int x), h) := zrun_at rfl
theorem zi124_77 {E : zE} {x : Nat} {ls sk : List Value} {h : zH} : zrun zpp E 124 (77, .ref x :: ls, sk, h) = zrun zpp E 124 (78, .ref x :: ls, .ref x :: sk, h) := zrun_at rfl
theorem zi124_77n {E : zE} {ls sk : List Value} {h : zH} : zrun zpp E 124 (77, .null :: ls, sk, h) = zrun zpp E 124 (78, .null :: ls, .null :: sk, h) := zrun_at rfl
theorem zi124_78 {E : zE} {x : Nat} {ls sk : List Value} {h : zH} : zrun zpp E 124 (78, ls, .ref x :: sk, h) = (zfld [10] h x 7).bind (fun v => zrun zpp E 124 (81, ls, v :: sk, h)) := zg_getf rfl
theorem zi124_81 {E : zE} {x : Nat} {ls sk : List Value} {h : zH} : zrun zpp E 124 (81, ls, .ref x :: sk, h) = (zfld [9] h x 16).bind (fun v => zrun zpp E 124 (84, ls, v :: sk, h)) := zg_getf rfl
theorem zi124_84 {E : zE} {x : Int32} {ls sk : List Value} {h : zH} : zrun zpp E 124 (84, ls, [.int x], h) = some (some (.int x), h) := zrun_at rfl
theorem zi124_85 {E : zE} {x : Nat} {ls sk : List Value} {h : zH} : zrun zpp E 124 (85, .ref x :: ls, sk, h) = zrun zpp E 124 (86, .ref x :: ls, .ref x :: sk, h) := zrun_at rfl
theorem zi124_85n {E : zE} {ls sk : List Value} {h : zH} : zrun zpp E 124 (85, .null :: ls, sk, h) = zrun zpp E 124 (86, .null :: ls, .null :: sk, h) := zrun_at rfl
theorem zi124_86 {E : zE} {x : Nat} {ls sk : List Value} {h : zH} : zrun zpp E 124 (86, ls, .ref x :: sk, h) = (zfld [10] h x 7).bind (fun v => zrun zpp E 124 (89, ls, v :: sk, h)) := zg_getf rfl
theorem zi124_89 {E : zE} {x : Nat} {ls sk : List Value} {h : zH} : zrun zpp E 124 (89, ls, .ref x :: sk, h) = (zfld [9] h x 17).bind (fun v => zrun zpp E 124 (92, ls, v :: sk, h)) := zg_getf rfl
theorem zi124_92 {E : zE} {x : Int32} {ls sk : List Value} {h : zH} : zrun zpp E 124 (92, ls, [.int x], h) = some (some (.int x), h) := zrun_at rfl
theorem zi124_93 {E : zE} {x : Nat} {ls sk : List Value} {h : zH} : zrun zpp E 124 (93, .ref x :: ls, sk, h) = zrun zpp E 124 (94, .ref x :: ls, .ref x :: sk, h) := zrun_at rfl
theorem zi124_93n {E : zE} {ls sk : List Value} {h : zH} : zrun zpp E 124 (93, .null :: ls, sk, h) = zrun zpp E 124 (94, .null :: ls, .null :: sk, h) := zrun_at rfl
theorem zi124_94 {E : zE} {x : Nat} {ls sk : List Value} {h : zH} : zrun zpp E 124 (94, ls, .ref x :: sk, h) = (zfld [10] h x 3).bind (fun v => zrun zpp E 124 (97, ls, v :: sk, h)) := zg_getf rfl
theorem zi124_97 {E : zE} {x : Nat} {ls sk : List Value} {h : zH} : zrun zpp E 124 (97, ls, .ref x :: sk, h) = (zfld [0] h x 5).bind (fun v => zrun zpp E 124 (100, ls, v :: sk, h)) := zg_getf rfl
theorem zi124_100 {E : zE} {x : Int32} {ls sk : List Value} {h : zH} : zrun zpp E 124 (100, ls, [.int x], h) = some (some (.int x), h) := zrun_at rfl
theorem zi124_101 {E : zE} {x : Nat} {ls sk : List Value} {h : zH} : zrun zpp E 124 (101, .ref x :: ls, sk, h) = zrun zpp E 124 (102, .ref x :: ls, .ref x :: sk, h) := zrun_at rfl
theorem zi124_101n {E : zE} {ls sk : List Value} {h : zH} : zrun zpp E 124 (101, .null :: ls, sk, h) = zrun zpp E 124 (102, .null :: ls, .null :: sk, h) := zrun_at rfl
theorem zi124_102 {E : zE} {x : Nat} {ls sk : List Value} {h : zH} : zrun zpp E 124 (102, ls, .ref x :: sk, h) = (zfld [10] h x 1).bind (fun v => zrun zpp E 124 (105, ls, v :: sk, h)) := zg_getf rfl
theorem zi124_105 {E : zE} {x : Nat} {ls sk : List Value} {h : zH} : zrun zpp E 124 (105, ls, .ref x :: sk, h) = (zfld [5] h x 1).bind (fun v => zrun zpp E 124 (108, ls, v :: sk, h)) := zg_getf rfl
theorem zi124_108 {E : zE} {x : Int32} {ls sk : List Value} {h : zH} : zrun zpp E 124 (108, ls, [.int x], h) = some (some (.int x), h) := zrun_at rfl
theorem zi124_109 {E : zE} {ls sk : List Value} {h : zH} : zrun zpp E 124 (109, ls, sk, h) = zrun zpp E 124 (111, ls, .int (-1000001) :: sk, h) := zg_ldc rfl ci_m1000001
theorem zi124_111 {E : zE} {x : Int32} {ls sk : List Value} {h : zH} : zrun zpp E 124 (111, ls, [.int x], h) = some (some (.int x), h) := zrun_at rfl
-- 125 NineDown.status
theorem zi125_0 {E : zE} {x : Nat} {ls sk : List Value} {h : zH} : zrun zpp E 125 (0, .ref x :: ls, sk, h) = zrun zpp E 125 (1, .ref x :: ls, .ref x :: sk, h) := zrun_at rfl
theorem zi125_0n {E : zE} {ls sk : List Value} {h : zH} : zrun zpp E 125 (0, .null :: ls, sk, h) = zrun zpp E 125 (1, .null :: ls, .null :: sk, h) := zrun_at rfl
theorem zi125_1 {E : zE} {x : Nat} {ls sk : List Value} {h : zH} : zrun zpp E 125 (1, ls, .ref x :: sk, h) = (zfld [10] h x 9).bind (fun v => zrun zpp E 125 (4, ls, v :: sk, h)) := zg_getf rfl
theorem zi125_4 {E : zE} {x : Int32} {ls sk : List Value} {h : zH} : zrun zpp E 125 (4, ls, [.int x], h) = some (some (.int x), h) := zrun_at rfl
-- 126 NineDown.within
theorem zi126_0 {E : zE} {x : Int32} {ls sk : List Value} {h : zH} : zrun zpp E 126 (0, .int x :: ls, sk, h) = zrun zpp E 126 (1, .int x :: ls, .int x :: sk, h) := zrun_at rfl
theorem zi126_1 {E : zE} {v0 : Value} {x : Int32} {ls sk : List Value} {h : zH} : zrun zpp E 126 (1, v0 :: .int x :: ls, sk, h) = zrun zpp E 126 (2, v0 :: .int x :: ls, .int x :: sk, h) := zrun_at rfl
theorem zi126_2 {E : zE} {x y : Int32} {ls sk : List Value} {h : zH} : zrun zpp E 126 (2, ls, .int y :: .int x :: sk, h) = if x < y then zrun zpp E 126 (14, ls, sk, h) else zrun zpp E 126 (5, ls, sk, h) := zrun_at rfl
theorem zi126_5 {E : zE} {x : Int32} {ls sk : List Value} {h : zH} : zrun zpp E 126 (5, .int x :: ls, sk, h) = zrun zpp E 126 (6, .int x :: ls, .int x :: sk, h) := zrun_at rfl
theorem zi126_6 {E : zE} {v0 v1 : Value} {x : Int32} {ls sk : List Value} {h : zH} : zrun zpp E 126 (6, v0 :: v1 :: .int x :: ls, sk, h) = zrun zpp E 126 (7, v0 :: v1 :: .int x :: ls, .int x :: sk, h) := zrun_at rfl
theorem zi126_7 {E : zE} {x y : Int32} {ls sk : List Value} {h : zH} : zrun zpp E 126 (7, ls, .int y :: .int x :: sk, h) = if y < x then zrun zpp E 126 (14, ls, sk, h) else zrun zpp E 126 (10, ls, sk, h) := zrun_at rfl
theorem zi126_10 {E : zE} {ls sk : List Value} {h : zH} : zrun zpp E 126 (10, ls, sk, h) = zrun zpp E 126 (11, ls, .int 1 :: sk, h) := zg_iconst rfl ci_1
theorem zi126_11 {E : zE} {ls sk : List Value} {h : zH} : zrun zpp E 126 (11, ls, sk, h) = zrun zpp E 126 (15, ls, sk, h) := zrun_at rfl
theorem zi126_14 {E : zE} {ls sk : List Value} {h : zH} : zrun zpp E 126 (14, ls, sk, h) = zrun zpp E 126 (15, ls, .int 0 :: sk, h) := zg_iconst rfl ci_0
theorem zi126_15 {E : zE} {x : Int32} {ls sk : List Value} {h : zH} : zrun zpp E 126 (15, ls, [.int x], h) = if x = 0 then some (some (.int 0), h) else if x = 1 then some (some (.int 1), h) else none := zrun_at rfl
-- 127 NineDown.has
theorem zi127_0 {E : zE} {x : Int32} {ls sk : List Value} {h : zH} : zrun zpp E 127 (0, .int x :: ls, sk, h) = zrun zpp E 127 (1, .int x :: ls, .int x :: sk, h) := zrun_at rfl
theorem zi127_1 {E : zE} {v0 : Value} {x : Int32} {ls sk : List Value} {h : zH} : zrun zpp E 127 (1, v0 :: .int x :: ls, sk, h) = zrun zpp E 127 (2, v0 :: .int x :: ls, .int x :: sk, h) := zrun_at rfl
theorem zi127_2 {E : zE} {x y : Int32} {ls sk : List Value} {h : zH} : zrun zpp E 127 (2, ls, .int y :: .int x :: sk, h) = zrun zpp E 127 (3, ls, .int (x >>> (y &&& 31)) :: sk, h) := zrun_at rfl
theorem zi127_3 {E : zE} {ls sk : List Value} {h : zH} : zrun zpp E 127 (3, ls, sk, h) = zrun zpp E 127 (4, ls, .int 1 :: sk, h) := zg_iconst rfl ci_1
theorem zi127_4 {E : zE} {x y : Int32} {ls sk : List Value} {h : zH} : zrun zpp E 127 (4, ls, .int y :: .int x :: sk, h) = zrun zpp E 127 (5, ls, .int (x &&& y) :: sk, h) := zrun_at rfl
theorem zi127_5 {E : zE} {x : Int32} {ls sk : List Value} {h : zH} : zrun zpp E 127 (5, ls, .int x :: sk, h) = if x = 0 then zrun zpp E 127 (12, ls, sk, h) else zrun zpp E 127 (8, ls, sk, h) := zrun_at rfl
theorem zi127_8 {E : zE} {ls sk : List Value} {h : zH} : zrun zpp E 127 (8, ls, sk, h) = zrun zpp E 127 (9, ls, .int 1 :: sk, h) := zg_iconst rfl ci_1
theorem zi127_9 {E : zE} {ls sk : List Value} {h : zH} : zrun zpp E 127 (9, ls, sk, h) = zrun zpp E 127 (13, ls, sk, h) := zrun_at rfl
theorem zi127_12 {E : zE} {ls sk : List Value} {h : zH} : zrun zpp E 127 (12, ls, sk, h) = zrun zpp E 127 (13, ls, .int 0 :: sk, h) := zg_iconst rfl ci_0
theorem zi127_13 {E : zE} {x : Int32} {ls sk : List Value} {h : zH} : zrun zpp E 127 (13, ls, [.int x], h) = if x = 0 then some (some (.int 0), h) else if x = 1 then some (some (.int 1), h) else none := zrun_at rfl
-- 128 NineDown.rowAt
theorem zi128_0 {E : zE} {v0 : Value} {x : Int32} {ls sk : List Value} {h : zH} : zrun zpp E 128 (0, v0 :: .int x :: ls, sk, h) = zrun zpp E 128 (1, v0 :: .int x :: ls, .int x :: sk, h) := zrun_at rfl
theorem zi128_1 {E : zE} {ls sk : List Value} {h : zH} : zrun zpp E 128 (1, ls, sk, h) = zrun zpp E 128 (2, ls, .int 0 :: sk, h) := zg_iconst rfl ci_0
theorem zi128_2 {E : zE} {ls sk : List Value} {h : zH} : zrun zpp E 128 (2, ls, sk, h) = zrun zpp E 128 (4, ls, .int 7 :: sk, h) := zg_bipush rfl ci_7
theorem zi128_4 {E : zE} {a0 a1 a2 : Value} {ls sk : List Value} {h : zH} : zrun zpp E 128 (4, ls, a2 :: a1 :: a0 :: sk, h) = zcl1 E 128 7 126 ls sk [a0, a1, a2] h := zg_inv (as := [a0, a1, a2]) rfl rfl
theorem zi128_7 {E : zE} {x : Int32} {ls sk : List Value} {h : zH} : zrun zpp E 128 (7, ls, .int x :: sk, h) = if x = 0 then zrun zpp E 128 (19, ls, sk, h) else zrun zpp E 128 (10, ls, sk, h) := zrun_at rfl
theorem zi128_10 {E : zE} {x : Nat} {ls sk : List Value} {h : zH} : zrun zpp E 128 (10, .ref x :: ls, sk, h) = zrun zpp E 128 (11, .ref x :: ls, .ref x :: sk, h) := zrun_at rfl
theorem zi128_10n {E : zE} {ls sk : List Value} {h : zH} : zrun zpp E 128 (10, .null :: ls, sk, h) = zrun zpp E 128 (11, .null :: ls, .null :: sk, h) := zrun_at rfl
theorem zi128_11 {E : zE} {x : Nat} {ls sk : List Value} {h : zH} : zrun zpp E 128 (11, ls, .ref x :: sk, h) = (zfld [10] h x 0).bind (fun v => zrun zpp E 128 (14, ls, v :: sk, h)) := zg_getf rfl
theorem zi128_14 {E : zE} {v0 : Value} {x : Int32} {ls sk : List Value} {h : zH} : zrun zpp E 128 (14, v0 :: .int x :: ls, sk, h) = zrun zpp E 128 (15, v0 :: .int x :: ls, .int x :: sk, h) := zrun_at rfl
theorem zi128_15 {E : zE} {x : Nat} {i : Int32} {ls sk : List Value} {h : zH} : zrun zpp E 128 (15, ls, .int i :: .ref x :: sk, h) = (zara h x i).bind (fun v => zrun zpp E 128 (16, ls, v :: sk, h)) := zg_aald rfl
theorem zi128_16 {E : zE} {ls sk : List Value} {h : zH} : zrun zpp E 128 (16, ls, sk, h) = zrun zpp E 128 (20, ls, sk, h) := zrun_at rfl
theorem zi128_19 {E : zE} {ls sk : List Value} {h : zH} : zrun zpp E 128 (19, ls, sk, h) = zrun zpp E 128 (20, ls, .null :: sk, h) := zg_null rfl
theorem zi128_20 {E : zE} {x : Nat} {ls sk : List Value} {h : zH} : zrun zpp E 128 (20, ls, [.ref x], h) = some (some (.ref x), h) := zrun_at rfl
theorem zi128_20n {E : zE} {ls sk : List Value} {h : zH} : zrun zpp E 128 (20, ls, [.null], h) = some (some .null, h) := zrun_at rfl
-- 129 NineDown.rowsThere
theorem zi129_0 {E : zE} {ls sk : List Value} {h : zH} : zrun zpp E 129 (0, ls, sk, h) = zrun zpp E 129 (1, ls, .int 0 :: sk, h) := zg_iconst rfl ci_0
theorem zi129_1 {E : zE} {x : Int32} {ls sk : List Value} {h : zH} : zrun zpp E 129 (1, ls, .int x :: sk, h) = if zfree ls 1 = true then zrun zpp E 129 (2, ls.set 1 (.int x), sk, h) else none := zg_ist rfl (fun _ _ _ => rfl)
theorem zi129_2 {E : zE} {ls sk : List Value} {h : zH} : zrun zpp E 129 (2, ls, sk, h) = zrun zpp E 129 (3, ls, .int 0 :: sk, h) := zg_iconst rfl ci_0
theorem zi129_3 {E : zE} {x : Int32} {ls sk : List Value} {h : zH} : zrun zpp E 129 (3, ls, .int x :: sk, h) = if zfree ls 2 = true then zrun zpp E 129 (4, ls.set 2 (.int x), sk, h) else none := zg_ist rfl (fun _ _ _ => rfl)
theorem zi129_4 {E : zE} {v0 v1 : Value} {x : Int32} {ls sk : List Value} {h : zH} : zrun zpp E 129 (4, v0 :: v1 :: .int x :: ls, sk, h) = zrun zpp E 129 (5, v0 :: v1 :: .int x :: ls, .int x :: sk, h) := zrun_at rfl
theorem zi129_5 {E : zE} {ls sk : List Value} {h : zH} : zrun zpp E 129 (5, ls, sk, h) = zrun zpp E 129 (7, ls, .int 8 :: sk, h) := zg_bipush rfl ci_8
theorem zi129_7 {E : zE} {x y : Int32} {ls sk : List Value} {h : zH} : zrun zpp E 129 (7, ls, .int y :: .int x :: sk, h) = if y ≤ x then zrun zpp E 129 (36, ls, sk, h) else zrun zpp E 129 (10, ls, sk, h) := zrun_at rfl
theorem zi129_10 {E : zE} {v0 : Value} {x : Int32} {ls sk : List Value} {h : zH} : zrun zpp E 129 (10, v0 :: .int x :: ls, sk, h) = zrun zpp E 129 (11, v0 :: .int x :: ls, .int x :: sk, h) := zrun_at rfl
theorem zi129_11 {E : zE} {x : Nat} {ls sk : List Value} {h : zH} : zrun zpp E 129 (11, .ref x :: ls, sk, h) = zrun zpp E 129 (12, .ref x :: ls, .ref x :: sk, h) := zrun_at rfl
theorem zi129_11n {E : zE} {ls sk : List Value} {h : zH} : zrun zpp E 129 (11, .null :: ls, sk, h) = zrun zpp E 129 (12, .null :: ls, .null :: sk, h) := zrun_at rfl
theorem zi129_12 {E : zE} {x : Nat} {ls sk : List Value} {h : zH} : zrun zpp E 129 (12, ls, .ref x :: sk, h) = (zfld [10] h x 0).bind (fun v => zrun zpp E 129 (15, ls, v :: sk, h)) := zg_getf rfl
theorem zi129_15 {E : zE} {v0 v1 : Value} {x : Int32} {ls sk : List Value} {h : zH} : zrun zpp E 129 (15, v0 :: v1 :: .int x :: ls, sk, h) = zrun zpp E 129 (16, v0 :: v1 :: .int x :: ls, .int x :: sk, h) := zrun_at rfl
theorem zi129_16 {E : zE} {x : Nat} {i : Int32} {ls sk : List Value} {h : zH} : zrun zpp E 129 (16, ls, .int i :: .ref x :: sk, h) = (zara h x i).bind (fun v => zrun zpp E 129 (17, ls, v :: sk, h)) := zg_aald rfl
theorem zi129_17 {E : zE} {x : Nat} {ls sk : List Value} {h : zH} : zrun zpp E 129 (17, ls, .ref x :: sk, h) = (zfld [6] h x 1).bind (fun v => zrun zpp E 129 (20, ls, v :: sk, h)) := zg_getf rfl
theorem zi129_20 {E : zE} {x : Int32} {ls sk : List Value} {h : zH} : zrun zpp E 129 (20, ls, .int x :: sk, h) = if x = 0 then zrun zpp E 129 (27, ls, sk, h) else zrun zpp E 129 (23, ls, sk, h) := zrun_at rfl
theorem zi129_23 {E : zE} {ls sk : List Value} {h : zH} : zrun zpp E 129 (23, ls, sk, h) = zrun zpp E 129 (24, ls, .int 1 :: sk, h) := zg_iconst rfl ci_1
theorem zi129_24 {E : zE} {ls sk : List Value} {h : zH} : zrun zpp E 129 (24, ls, sk, h) = zrun zpp E 129 (28, ls, sk, h) := zrun_at rfl
theorem zi129_27 {E : zE} {ls sk : List Value} {h : zH} : zrun zpp E 129 (27, ls, sk, h) = zrun zpp E 129 (28, ls, .int 0 :: sk, h) := zg_iconst rfl ci_0
theorem zi129_28 {E : zE} {x y : Int32} {ls sk : List Value} {h : zH} : zrun zpp E 129 (28, ls, .int y :: .int x :: sk, h) = zrun zpp E 129 (29, ls, .int (x + y) :: sk, h) := zrun_at rfl
theorem zi129_29 {E : zE} {x : Int32} {ls sk : List Value} {h : zH} : zrun zpp E 129 (29, ls, .int x :: sk, h) = if zfree ls 1 = true then zrun zpp E 129 (30, ls.set 1 (.int x), sk, h) else none := zg_ist rfl (fun _ _ _ => rfl)
theorem zi129_30 {E : zE} {v0 v1 : Value} {x : Int32} {ls sk : List Value} {h : zH} : zrun zpp E 129 (30, v0 :: v1 :: .int x :: ls, sk, h) = if zfree (v0 :: v1 :: .int x :: ls) 2 = true then zrun zpp E 129 (33, v0 :: v1 :: .int (x + 1) :: ls, sk, h) else none := by rw [← ci_1]; exact zrun_at rfl
theorem zi129_33 {E : zE} {ls sk : List Value} {h : zH} : zrun zpp E 129 (33, ls, sk, h) = zrun zpp E 129 (4, ls, sk, h) := zrun_at rfl
theorem zi129_36 {E : zE} {v0 : Value} {x : Int32} {ls sk : List Value} {h : zH} : zrun zpp E 129 (36, v0 :: .int x :: ls, sk, h) = zrun zpp E 129 (37, v0 :: .int x :: ls, .int x :: sk, h) := zrun_at rfl
theorem zi129_37 {E : zE} {x : Int32} {ls sk : List Value} {h : zH} : zrun zpp E 129 (37, ls, [.int x], h) = some (some (.int x), h) := zrun_at rfl
-- 130 NineDown.found
theorem zi130_0 {E : zE} {x : Nat} {ls sk : List Value} {h : zH} : zrun zpp E 130 (0, .ref x :: ls, sk, h) = zrun zpp E 130 (1, .ref x :: ls, .ref x :: sk, h) := zrun_at rfl
theorem zi130_0n {E : zE} {ls sk : List Value} {h : zH} : zrun zpp E 130 (0, .null :: ls, sk, h) = zrun zpp E 130 (1, .null :: ls, .null :: sk, h) := zrun_at rfl
theorem zi130_1 {E : zE} {v0 : Value} {x : Int32} {ls sk : List Value} {h : zH} : zrun zpp E 130 (1, v0 :: .int x :: ls, sk, h) = zrun zpp E 130 (2, v0 :: .int x :: ls, .int x :: sk, h) := zrun_at rfl
theorem zi130_2 {E : zE} {x : Nat} {v : Value} {ls sk : List Value} {h : zH} : zrun zpp E 130 (2, ls, v :: .ref x :: sk, h) = (zstf [10] 0 h x 9 v).bind (fun h' => zrun zpp E 130 (5, ls, sk, h')) := zg_putf rfl
theorem zi130_5 {E : zE} {ls sk : List Value} {h : zH} : zrun zpp E 130 (5, ls, sk, h) = zrun zpp E 130 (8, ls, .int (-1000010) :: sk, h) := zg_ldc_w rfl ci_m1000010
theorem zi130_8 {E : zE} {v0 : Value} {x : Int32} {ls sk : List Value} {h : zH} : zrun zpp E 130 (8, v0 :: .int x :: ls, sk, h) = zrun zpp E 130 (9, v0 :: .int x :: ls, .int x :: sk, h) := zrun_at rfl
theorem zi130_9 {E : zE} {x y : Int32} {ls sk : List Value} {h : zH} : zrun zpp E 130 (9, ls, .int y :: .int x :: sk, h) = zrun zpp E 130 (10, ls, .int (x - y) :: sk, h) := zrun_at rfl
theorem zi130_10 {E : zE} {x : Int32} {ls sk : List Value} {h : zH} : zrun zpp E 130 (10, ls, [.int x], h) = some (some (.int x), h) := zrun_at rfl
-- 131 NineDown.clean
theorem zi131_0 {E : zE} {x : Nat} {ls sk : List Value} {h : zH} : zrun zpp E 131 (0, .ref x :: ls, sk, h) = zrun zpp E 131 (1, .ref x :: ls, .ref x :: sk, h) := zrun_at rfl
theorem zi131_0n {E : zE} {ls sk : List Value} {h : zH} : zrun zpp E 131 (0, .null :: ls, sk, h) = zrun zpp E 131 (1, .null :: ls, .null :: sk, h) := zrun_at rfl
theorem zi131_1 {E : zE} {ls sk : List Value} {h : zH} : zrun zpp E 131 (1, ls, sk, h) = zrun zpp E 131 (2, ls, .int 0 :: sk, h) := zg_iconst rfl ci_0
theorem zi131_2 {E : zE} {x : Nat} {v : Value} {ls sk : List Value} {h : zH} : zrun zpp E 131 (2, ls, v :: .ref x :: sk, h) = (zstf [10] 0 h x 9 v).bind (fun h' => zrun zpp E 131 (5, ls, sk, h')) := zg_putf rfl
theorem zi131_5 {E : zE} {v0 : Value} {x : Int32} {ls sk : List Value} {h : zH} : zrun zpp E 131 (5, v0 :: .int x :: ls, sk, h) = zrun zpp E 131 (6, v0 :: .int x :: ls, .int x :: sk, h) := zrun_at rfl
theorem zi131_6 {E : zE} {x : Int32} {ls sk : List Value} {h : zH} : zrun zpp E 131 (6, ls, [.int x], h) = some (some (.int x), h) := zrun_at rfl
-- 132 NineDown.areLifters
theorem zi132_0 {E : zE} {v0 : Value} {x : Int32} {ls sk : List Value} {h : zH} : zrun zpp E 132 (0, v0 :: .int x :: ls, sk, h) = zrun zpp E 132 (1, v0 :: .int x :: ls, .int x :: sk, h) := zrun_at rfl
theorem zi132_1 {E : zE} {ls sk : List Value} {h : zH} : zrun zpp E 132 (1, ls, sk, h) = zrun zpp E 132 (2, ls, .int 0 :: sk, h) := zg_iconst rfl ci_0
theorem zi132_2 {E : zE} {ls sk : List Value} {h : zH} : zrun zpp E 132 (2, ls, sk, h) = zrun zpp E 132 (3, ls, .int 1 :: sk, h) := zg_iconst rfl ci_1
theorem zi132_3 {E : zE} {x : Nat} {ls sk : List Value} {h : zH} : zrun zpp E 132 (3, .ref x :: ls, sk, h) = zrun zpp E 132 (4, .ref x :: ls, .ref x :: sk, h) := zrun_at rfl
theorem zi132_3n {E : zE} {ls sk : List Value} {h : zH} : zrun zpp E 132 (3, .null :: ls, sk, h) = zrun zpp E 132 (4, .null :: ls, .null :: sk, h) := zrun_at rfl
theorem zi132_4 {E : zE} {x : Nat} {ls sk : List Value} {h : zH} : zrun zpp E 132 (4, ls, .ref x :: sk, h) = (zfld [10] h x 7).bind (fun v => zrun zpp E 132 (7, ls, v :: sk, h)) := zg_getf rfl
theorem zi132_7 {E : zE} {x : Nat} {ls sk : List Value} {h : zH} : zrun zpp E 132 (7, ls, .ref x :: sk, h) = (zfld [9] h x 5).bind (fun v => zrun zpp E 132 (10, ls, v :: sk, h)) := zg_getf rfl
theorem zi132_10 {E : zE} {x y : Int32} {ls sk : List Value} {h : zH} : zrun zpp E 132 (10, ls, .int y :: .int x :: sk, h) = zrun zpp E 132 (11, ls, .int (x <<< (y &&& 31)) :: sk, h) := zrun_at rfl
theorem zi132_11 {E : zE} {ls sk : List Value} {h : zH} : zrun zpp E 132 (11, ls, sk, h) = zrun zpp E 132 (12, ls, .int 1 :: sk, h) := zg_iconst rfl ci_1
theorem zi132_12 {E : zE} {x y : Int32} {ls sk : List Value} {h : zH} : zrun zpp E 132 (12, ls, .int y :: .int x :: sk, h) = zrun zpp E 132 (13, ls, .int (x - y) :: sk, h) := zrun_at rfl
theorem zi132_13 {E : zE} {a0 a1 a2 : Value} {ls sk : List Value} {h : zH} : zrun zpp E 132 (13, ls, a2 :: a1 :: a0 :: sk, h) = zcl1 E 132 16 126 ls sk [a0, a1, a2] h := zg_inv (as := [a0, a1, a2]) rfl rfl
theorem zi132_16 {E : zE} {x : Int32} {ls sk : List Value} {h : zH} : zrun zpp E 132 (16, ls, [.int x], h) = if x = 0 then some (some (.int 0), h) else if x = 1 then some (some (.int 1), h) else none := zrun_at rfl
-- 133 NineDown.spent
theorem zi133_0 {E : zE} {v0 : Value} {x : Int32} {ls sk : List Value} {h : zH} : zrun zpp E 133 (0, v0 :: .int x :: ls, sk, h) = zrun zpp E 133 (1, v0 :: .int x :: ls, .int x :: sk, h) := zrun_at rfl
theorem zi133_1 {E : zE} {x : Int32} {ls sk : List Value} {h : zH} : zrun zpp E 133 (1, ls, .int x :: sk, h) = if x = 0 then zrun zpp E 133 (4, ls, sk, h) else zrun zpp E 133 (22, ls, sk, h) := zrun_at rfl
theorem zi133_4 {E : zE} {x : Nat} {ls sk : List Value} {h : zH} : zrun zpp E 133 (4, .ref x :: ls, sk, h) = zrun zpp E 133 (5, .ref x :: ls, .ref x :: sk, h) := zrun_at rfl
theorem zi133_4n {E : zE} {ls sk : List Value} {h : zH} : zrun zpp E 133 (4, .null :: ls, sk, h) = zrun zpp E 133 (5, .null :: ls, .null :: sk, h) := zrun_at rfl
theorem zi133_5 {E : zE} {x : Nat} {ls sk : List Value} {h : zH} : zrun zpp E 133 (5, ls, .ref x :: sk, h) = (zfld [10] h x 8).bind (fun v => zrun zpp E 133 (8, ls, v :: sk, h)) := zg_getf rfl
theorem zi133_8 {E : zE} {x : Nat} {ls sk : List Value} {h : zH} : zrun zpp E 133 (8, ls, .ref x :: sk, h) = (zfld [9] h x 16).bind (fun v => zrun zpp E 133 (11, ls, v :: sk, h)) := zg_getf rfl
theorem zi133_11 {E : zE} {x : Nat} {ls sk : List Value} {h : zH} : zrun zpp E 133 (11, .ref x :: ls, sk, h) = zrun zpp E 133 (12, .ref x :: ls, .ref x :: sk, h) := zrun_at rfl
theorem zi133_11n {E : zE} {ls sk : List Value} {h : zH} : zrun zpp E 133 (11, .null :: ls, sk, h) = zrun zpp E 133 (12, .null :: ls, .null :: sk, h) := zrun_at rfl
theorem zi133_12 {E : zE} {x : Nat} {ls sk : List Value} {h : zH} : zrun zpp E 133 (12, ls, .ref x :: sk, h) = (zfld [10] h x 7).bind (fun v => zrun zpp E 133 (15, ls, v :: sk, h)) := zg_getf rfl
theorem zi133_15 {E : zE} {x : Nat} {ls sk : List Value} {h : zH} : zrun zpp E 133 (15, ls, .ref x :: sk, h) = (zfld [9] h x 16).bind (fun v => zrun zpp E 133 (18, ls, v :: sk, h)) := zg_getf rfl
theorem zi133_18 {E : zE} {x y : Int32} {ls sk : List Value} {h : zH} : zrun zpp E 133 (18, ls, .int y :: .int x :: sk, h) = zrun zpp E 133 (19, ls, .int (x - y) :: sk, h) := zrun_at rfl
theorem zi133_19 {E : zE} {ls sk : List Value} {h : zH} : zrun zpp E 133 (19, ls, sk, h) = zrun zpp E 133 (37, ls, sk, h) := zrun_at rfl
theorem zi133_22 {E : zE} {x : Nat} {ls sk : List Value} {h : zH} : zrun zpp E 133 (22, .ref x :: ls, sk, h) = zrun zpp E 133 (23, .ref x :: ls, .ref x :: sk, h) := zrun_at rfl
theorem zi133_22n {E : zE} {ls sk : List Value} {h : zH} : zrun zpp E 133 (22, .null :: ls, sk, h) = zrun zpp E 133 (23, .null :: ls, .null :: sk, h) := zrun_at rfl
theorem zi133_23 {E : zE} {x : Nat} {ls sk : List Value} {h : zH} : zrun zpp E 133 (23, ls, .ref x :: sk, h) = (zfld [10] h x 8).bind (fun v => zrun zpp E 133 (26, ls, v :: sk, h)) := zg_getf rfl
theorem zi133_26 {E : zE} {x : Nat} {ls sk : List Value} {h : zH} : zrun zpp E 133 (26, ls, .ref x :: sk, h) = (zfld [9] h x 17).bind (fun v => zrun zpp E 133 (29, ls, v :: sk, h)) := zg_getf rfl
theorem zi133_29 {E : zE} {x : Nat} {ls sk : List Value} {h : zH} : zrun zpp E 133 (29, .ref x :: ls, sk, h) = zrun zpp E 133 (30, .ref x :: ls, .ref x :: sk, h) := zrun_at rfl
theorem zi133_29n {E : zE} {ls sk : List Value} {h : zH} : zrun zpp E 133 (29, .null :: ls, sk, h) = zrun zpp E 133 (30, .null :: ls, .null :: sk, h) := zrun_at rfl
theorem zi133_30 {E : zE} {x : Nat} {ls sk : List Value} {h : zH} : zrun zpp E 133 (30, ls, .ref x :: sk, h) = (zfld [10] h x 7).bind (fun v => zrun zpp E 133 (33, ls, v :: sk, h)) := zg_getf rfl
theorem zi133_33 {E : zE} {x : Nat} {ls sk : List Value} {h : zH} : zrun zpp E 133 (33, ls, .ref x :: sk, h) = (zfld [9] h x 17).bind (fun v => zrun zpp E 133 (36, ls, v :: sk, h)) := zg_getf rfl
theorem zi133_36 {E : zE} {x y : Int32} {ls sk : List Value} {h : zH} : zrun zpp E 133 (36, ls, .int y :: .int x :: sk, h) = zrun zpp E 133 (37, ls, .int (x - y) :: sk, h) := zrun_at rfl
theorem zi133_37 {E : zE} {x : Int32} {ls sk : List Value} {h : zH} : zrun zpp E 133 (37, ls, [.int x], h) = some (some (.int x), h) := zrun_at rfl
-- 134 NineDown.tells
theorem zi134_0 {E : zE} {ls sk : List Value} {h : zH} : zrun zpp E 134 (0, ls, sk, h) = zrun zpp E 134 (1, ls, .int 0 :: sk, h) := zg_iconst rfl ci_0
theorem zi134_1 {E : zE} {x : Int32} {ls sk : List Value} {h : zH} : zrun zpp E 134 (1, ls, .int x :: sk, h) = if zfree ls 4 = true then zrun zpp E 134 (3, ls.set 4 (.int x), sk, h) else none := zg_ist rfl (fun _ _ _ => rfl)
theorem zi134_3 {E : zE} {v0 v1 v2 v3 : Value} {x : Int32} {ls sk : List Value} {h : zH} : zrun zpp E 134 (3, v0 :: v1 :: v2 :: v3 :: .int x :: ls, sk, h) = zrun zpp E 134 (5, v0 :: v1 :: v2 :: v3 :: .int x :: ls, .int x :: sk, h) := zrun_at rfl
theorem zi134_5 {E : zE} {x : Nat} {ls sk : List Value} {h : zH} : zrun zpp E 134 (5, .ref x :: ls, sk, h) = zrun zpp E 134 (6, .ref x :: ls, .ref x :: sk, h) := zrun_at rfl
theorem zi134_5n {E : zE} {ls sk : List Value} {h : zH} : zrun zpp E 134 (5, .null :: ls, sk, h) = zrun zpp E 134 (6, .null :: ls, .null :: sk, h) := zrun_at rfl
theorem zi134_6 {E : zE} {x : Nat} {ls sk : List Value} {h : zH} : zrun zpp E 134 (6, ls, .ref x :: sk, h) = (zfld [10] h x 7).bind (fun v => zrun zpp E 134 (9, ls, v :: sk, h)) := zg_getf rfl
theorem zi134_9 {E : zE} {x : Nat} {ls sk : List Value} {h : zH} : zrun zpp E 134 (9, ls, .ref x :: sk, h) = (zfld [9] h x 3).bind (fun v => zrun zpp E 134 (12, ls, v :: sk, h)) := zg_getf rfl
theorem zi134_12 {E : zE} {x y : Int32} {ls sk : List Value} {h : zH} : zrun zpp E 134 (12, ls, .int y :: .int x :: sk, h) = if y ≤ x then zrun zpp E 134 (49, ls, sk, h) else zrun zpp E 134 (15, ls, sk, h) := zrun_at rfl
theorem zi134_15 {E : zE} {v0 : Value} {x : Nat} {ls sk : List Value} {h : zH} : zrun zpp E 134 (15, v0 :: .ref x :: ls, sk, h) = zrun zpp E 134 (16, v0 :: .ref x :: ls, .ref x :: sk, h) := zrun_at rfl
theorem zi134_15n {E : zE} {v0 : Value} {ls sk : List Value} {h : zH} : zrun zpp E 134 (15, v0 :: .null :: ls, sk, h) = zrun zpp E 134 (16, v0 :: .null :: ls, .null :: sk, h) := zrun_at rfl
theorem zi134_16 {E : zE} {x : Nat} {ls sk : List Value} {h : zH} : zrun zpp E 134 (16, ls, .ref x :: sk, h) = (zfld [6] h x 0).bind (fun v => zrun zpp E 134 (19, ls, v :: sk, h)) := zg_getf rfl
theorem zi134_19 {E : zE} {v0 v1 : Value} {x : Int32} {ls sk : List Value} {h : zH} : zrun zpp E 134 (19, v0 :: v1 :: .int x :: ls, sk, h) = zrun zpp E 134 (20, v0 :: v1 :: .int x :: ls, .int x :: sk, h) := zrun_at rfl
theorem zi134_20 {E : zE} {v0 v1 v2 v3 : Value} {x : Int32} {ls sk : List Value} {h : zH} : zrun zpp E 134 (20, v0 :: v1 :: v2 :: v3 :: .int x :: ls, sk, h) = zrun zpp E 134 (22, v0 :: v1 :: v2 :: v3 :: .int x :: ls, .int x :: sk, h) := zrun_at rfl
theorem zi134_22 {E : zE} {x y : Int32} {ls sk : List Value} {h : zH} : zrun zpp E 134 (22, ls, .int y :: .int x :: sk, h) = zrun zpp E 134 (23, ls, .int (x + y) :: sk, h) := zrun_at rfl
theorem zi134_23 {E : zE} {x : Nat} {i : Int32} {ls sk : List Value} {h : zH} : zrun zpp E 134 (23, ls, .int i :: .ref x :: sk, h) = (zarr 0 h x i).bind (fun v => zrun zpp E 134 (24, ls, .int v :: sk, h)) := zg_iald rfl
theorem zi134_24 {E : zE} {v0 v1 v2 : Value} {x : Int32} {ls sk : List Value} {h : zH} : zrun zpp E 134 (24, v0 :: v1 :: v2 :: .int x :: ls, sk, h) = zrun zpp E 134 (25, v0 :: v1 :: v2 :: .int x :: ls, .int x :: sk, h) := zrun_at rfl
theorem zi134_25 {E : zE} {v0 v1 v2 v3 : Value} {x : Int32} {ls sk : List Value} {h : zH} : zrun zpp E 134 (25, v0 :: v1 :: v2 :: v3 :: .int x :: ls, sk, h) = zrun zpp E 134 (27, v0 :: v1 :: v2 :: v3 :: .int x :: ls, .int x :: sk, h) := zrun_at rfl
theorem zi134_27 {E : zE} {a0 a1 : Value} {ls sk : List Value} {h : zH} : zrun zpp E 134 (27, ls, a1 :: a0 :: sk, h) = zcl1 E 134 30 127 ls sk [a0, a1] h := zg_inv (as := [a0, a1]) rfl rfl
theorem zi134_30 {E : zE} {x : Int32} {ls sk : List Value} {h : zH} : zrun zpp E 134 (30, ls, .int x :: sk, h) = if x = 0 then zrun zpp E 134 (37, ls, sk, h) else zrun zpp E 134 (33, ls, sk, h) := zrun_at rfl
theorem zi134_33 {E : zE} {ls sk : List Value} {h : zH} : zrun zpp E 134 (33, ls, sk, h) = zrun zpp E 134 (34, ls, .int 1 :: sk, h) := zg_iconst rfl ci_1
theorem zi134_34 {E : zE} {ls sk : List Value} {h : zH} : zrun zpp E 134 (34, ls, sk, h) = zrun zpp E 134 (38, ls, sk, h) := zrun_at rfl
theorem zi134_37 {E : zE} {ls sk : List Value} {h : zH} : zrun zpp E 134 (37, ls, sk, h) = zrun zpp E 134 (38, ls, .int 0 :: sk, h) := zg_iconst rfl ci_0
theorem zi134_38 {E : zE} {x y : Int32} {ls sk : List Value} {h : zH} : zrun zpp E 134 (38, ls, .int y :: .int x :: sk, h) = if x = y then zrun zpp E 134 (43, ls, sk, h) else zrun zpp E 134 (41, ls, sk, h) := zrun_at rfl
theorem zi134_41 {E : zE} {ls sk : List Value} {h : zH} : zrun zpp E 134 (41, ls, sk, h) = zrun zpp E 134 (42, ls, .int 0 :: sk, h) := zg_iconst rfl ci_0
theorem zi134_42 {E : zE} {x : Int32} {ls sk : List Value} {h : zH} : zrun zpp E 134 (42, ls, [.int x], h) = if x = 0 then some (some (.int 0), h) else if x = 1 then some (some (.int 1), h) else none := zrun_at rfl
theorem zi134_43 {E : zE} {v0 v1 v2 v3 : Value} {x : Int32} {ls sk : List Value} {h : zH} : zrun zpp E 134 (43, v0 :: v1 :: v2 :: v3 :: .int x :: ls, sk, h) = if zfree (v0 :: v1 :: v2 :: v3 :: .int x :: ls) 4 = true then zrun zpp E 134 (46, v0 :: v1 :: v2 :: v3 :: .int (x + 1) :: ls, sk, h) else none := by rw [← ci_1]; exact zrun_at rfl
theorem zi134_46 {E : zE} {ls sk : List Value} {h : zH} : zrun zpp E 134 (46, ls, sk, h) = zrun zpp E 134 (3, ls, sk, h) := zrun_at rfl
theorem zi134_49 {E : zE} {ls sk : List Value} {h : zH} : zrun zpp E 134 (49, ls, sk, h) = zrun zpp E 134 (50, ls, .int 1 :: sk, h) := zg_iconst rfl ci_1
theorem zi134_50 {E : zE} {x : Int32} {ls sk : List Value} {h : zH} : zrun zpp E 134 (50, ls, [.int x], h) = if x = 0 then some (some (.int 0), h) else if x = 1 then some (some (.int 1), h) else none := zrun_at rfl
-- 135 NineDown.follows
theorem zi135_0 {E : zE} {v0 : Value} {x : Int32} {ls sk : List Value} {h : zH} : zrun zpp E 135 (0, v0 :: .int x :: ls, sk, h) = zrun zpp E 135 (1, v0 :: .int x :: ls, .int x :: sk, h) := zrun_at rfl
theorem zi135_1 {E : zE} {x : Int32} {ls sk : List Value} {h : zH} : zrun zpp E 135 (1, ls, .int x :: sk, h) = if 0 ≤ x then zrun zpp E 135 (6, ls, sk, h) else zrun zpp E 135 (4, ls, sk, h) := zrun_at rfl
theorem zi135_4 {E : zE} {ls sk : List Value} {h : zH} : zrun zpp E 135 (4, ls, sk, h) = zrun zpp E 135 (5, ls, .int 0 :: sk, h) := zg_iconst rfl ci_0
theorem zi135_5 {E : zE} {x : Int32} {ls sk : List Value} {h : zH} : zrun zpp E 135 (5, ls, [.int x], h) = if x = 0 then some (some (.int 0), h) else if x = 1 then some (some (.int 1), h) else none := zrun_at rfl
theorem zi135_6 {E : zE} {x : Nat} {ls sk : List Value} {h : zH} : zrun zpp E 135 (6, .ref x :: ls, sk, h) = zrun zpp E 135 (7, .ref x :: ls, .ref x :: sk, h) := zrun_at rfl
theorem zi135_6n {E : zE} {ls sk : List Value} {h : zH} : zrun zpp E 135 (6, .null :: ls, sk, h) = zrun zpp E 135 (7, .null :: ls, .null :: sk, h) := zrun_at rfl
theorem zi135_7 {E : zE} {x : Nat} {ls sk : List Value} {h : zH} : zrun zpp E 135 (7, ls, .ref x :: sk, h) = (zfld [10] h x 8).bind (fun v => zrun zpp E 135 (10, ls, v :: sk, h)) := zg_getf rfl
theorem zi135_10 {E : zE} {v0 : Value} {x : Int32} {ls sk : List Value} {h : zH} : zrun zpp E 135 (10, v0 :: .int x :: ls, sk, h) = zrun zpp E 135 (11, v0 :: .int x :: ls, .int x :: sk, h) := zrun_at rfl
theorem zi135_11 {E : zE} {ls sk : List Value} {h : zH} : zrun zpp E 135 (11, ls, sk, h) = zrun zpp E 135 (13, ls, .int 10 :: sk, h) := zg_bipush rfl ci_10
theorem zi135_13 {E : zE} {x y : Int32} {ls sk : List Value} {h : zH} : zrun zpp E 135 (13, ls, .int y :: .int x :: sk, h) = if y = 0 then none else zrun zpp E 135 (14, ls, .int (x / y) :: sk, h) := zrun_at rfl
theorem zi135_14 {E : zE} {a0 : Value} {x : Nat} {ls sk : List Value} {h : zH} : zrun zpp E 135 (14, ls, a0 :: .ref x :: sk, h) = (zcls h x).bind (fun d => (zsel d [9, 73]).bind (fun M' => zcl1 E 135 17 M' ls sk [.ref x, a0] h)) := zg_vir (as := [a0]) rfl rfl
theorem zi135_17 {E : zE} {x : Nat} {ls sk : List Value} {h : zH} : zrun zpp E 135 (17, ls, .ref x :: sk, h) = if zfree ls 2 = true then zrun zpp E 135 (18, ls.set 2 (.ref x), sk, h) else none := zg_astr rfl (fun _ _ _ => rfl)
theorem zi135_17n {E : zE} {ls sk : List Value} {h : zH} : zrun zpp E 135 (17, ls, .null :: sk, h) = if zfree ls 2 = true then zrun zpp E 135 (18, ls.set 2 .null, sk, h) else none := zg_astn rfl (fun _ _ _ => rfl)
theorem zi135_18 {E : zE} {v0 v1 : Value} {x : Nat} {ls sk : List Value} {h : zH} : zrun zpp E 135 (18, v0 :: v1 :: .ref x :: ls, sk, h) = zrun zpp E 135 (19, v0 :: v1 :: .ref x :: ls, .ref x :: sk, h) := zrun_at rfl
theorem zi135_18n {E : zE} {v0 v1 : Value} {ls sk : List Value} {h : zH} : zrun zpp E 135 (18, v0 :: v1 :: .null :: ls, sk, h) = zrun zpp E 135 (19, v0 :: v1 :: .null :: ls, .null :: sk, h) := zrun_at rfl
theorem zi135_19 {E : zE} {x : Nat} {ls sk : List Value} {h : zH} : zrun zpp E 135 (19, ls, .ref x :: sk, h) = zrun zpp E 135 (22, ls, sk, h) := zrun_at rfl
theorem zi135_19n {E : zE} {ls sk : List Value} {h : zH} : zrun zpp E 135 (19, ls, .null :: sk, h) = zrun zpp E 135 (57, ls, sk, h) := zrun_at rfl
theorem zi135_22 {E : zE} {x : Nat} {ls sk : List Value} {h : zH} : zrun zpp E 135 (22, .ref x :: ls, sk, h) = zrun zpp E 135 (23, .ref x :: ls, .ref x :: sk, h) := zrun_at rfl
theorem zi135_22n {E : zE} {ls sk : List Value} {h : zH} : zrun zpp E 135 (22, .null :: ls, sk, h) = zrun zpp E 135 (23, .null :: ls, .null :: sk, h) := zrun_at rfl
theorem zi135_23 {E : zE} {x : Nat} {ls sk : List Value} {h : zH} : zrun zpp E 135 (23, ls, .ref x :: sk, h) = (zfld [10] h x 8).bind (fun v => zrun zpp E 135 (26, ls, v :: sk, h)) := zg_getf rfl
theorem zi135_26 {E : zE} {v0 : Value} {x : Int32} {ls sk : List Value} {h : zH} : zrun zpp E 135 (26, v0 :: .int x :: ls, sk, h) = zrun zpp E 135 (27, v0 :: .int x :: ls, .int x :: sk, h) := zrun_at rfl
theorem zi135_27 {E : zE} {ls sk : List Value} {h : zH} : zrun zpp E 135 (27, ls, sk, h) = zrun zpp E 135 (29, ls, .int 10 :: sk, h) := zg_bipush rfl ci_10
theorem zi135_29 {E : zE} {x y : Int32} {ls sk : List Value} {h : zH} : zrun zpp E 135 (29, ls, .int y :: .int x :: sk, h) = if y = 0 then none else zrun zpp E 135 (30, ls, .int (x - x / y * y) :: sk, h) := zrun_at rfl
theorem zi135_30 {E : zE} {a0 : Value} {x : Nat} {ls sk : List Value} {h : zH} : zrun zpp E 135 (30, ls, a0 :: .ref x :: sk, h) = (zcls h x).bind (fun d => (zsel d [9, 71]).bind (fun M' => zcl1 E 135 33 M' ls sk [.ref x, a0] h)) := zg_vir (as := [a0]) rfl rfl
theorem zi135_33 {E : zE} {x : Int32} {ls sk : List Value} {h : zH} : zrun zpp E 135 (33, ls, .int x :: sk, h) = if x = 0 then zrun zpp E 135 (57, ls, sk, h) else zrun zpp E 135 (36, ls, sk, h) := zrun_at rfl
theorem zi135_36 {E : zE} {x : Nat} {ls sk : List Value} {h : zH} : zrun zpp E 135 (36, .ref x :: ls, sk, h) = zrun zpp E 135 (37, .ref x :: ls, .ref x :: sk, h) := zrun_at rfl
theorem zi135_36n {E : zE} {ls sk : List Value} {h : zH} : zrun zpp E 135 (36, .null :: ls, sk, h) = zrun zpp E 135 (37, .null :: ls, .null :: sk, h) := zrun_at rfl
theorem zi135_37 {E : zE} {x : Nat} {ls sk : List Value} {h : zH} : zrun zpp E 135 (37, ls, .ref x :: sk, h) = (zfld [10] h x 8).bind (fun v => zrun zpp E 135 (40, ls, v :: sk, h)) := zg_getf rfl
theorem zi135_40 {E : zE} {v0 v1 : Value} {x : Nat} {ls sk : List Value} {h : zH} : zrun zpp E 135 (40, v0 :: v1 :: .ref x :: ls, sk, h) = zrun zpp E 135 (41, v0 :: v1 :: .ref x :: ls, .ref x :: sk, h) := zrun_at rfl
theorem zi135_40n {E : zE} {v0 v1 : Value} {ls sk : List Value} {h : zH} : zrun zpp E 135 (40, v0 :: v1 :: .null :: ls, sk, h) = zrun zpp E 135 (41, v0 :: v1 :: .null :: ls, .null :: sk, h) := zrun_at rfl
theorem zi135_41 {E : zE} {v0 : Value} {x : Int32} {ls sk : List Value} {h : zH} : zrun zpp E 135 (41, v0 :: .int x :: ls, sk, h) = zrun zpp E 135 (42, v0 :: .int x :: ls, .int x :: sk, h) := zrun_at rfl
theorem zi135_42 {E : zE} {ls sk : List Value} {h : zH} : zrun zpp E 135 (42, ls, sk, h) = zrun zpp E 135 (44, ls, .int 10 :: sk, h) := zg_bipush rfl ci_10
theorem zi135_44 {E : zE} {x y : Int32} {ls sk : List Value} {h : zH} : zrun zpp E 135 (44, ls, .int y :: .int x :: sk, h) = if y = 0 then none else zrun zpp E 135 (45, ls, .int (x - x / y * y) :: sk, h) := zrun_at rfl
theorem zi135_45 {E : zE} {a0 a1 : Value} {x : Nat} {ls sk : List Value} {h : zH} : zrun zpp E 135 (45, ls, a1 :: a0 :: .ref x :: sk, h) = (zcls h x).bind (fun d => (zsel d [9, 81]).bind (fun M' => zcl1 E 135 48 M' ls sk [.ref x, a0, a1] h)) := zg_vir (as := [a0, a1]) rfl rfl
theorem zi135_48 {E : zE} {ls sk : List Value} {h : zH} : zrun zpp E 135 (48, ls, sk, h) = zrun zpp E 135 (50, ls, .int (-1000000) :: sk, h) := zg_ldc rfl ci_m1000000
theorem zi135_50 {E : zE} {x y : Int32} {ls sk : List Value} {h : zH} : zrun zpp E 135 (50, ls, .int y :: .int x :: sk, h) = if x = y then zrun zpp E 135 (57, ls, sk, h) else zrun zpp E 135 (53, ls, sk, h) := zrun_at rfl
theorem zi135_53 {E : zE} {ls sk : List Value} {h : zH} : zrun zpp E 135 (53, ls, sk, h) = zrun zpp E 135 (54, ls, .int 1 :: sk, h) := zg_iconst rfl ci_1
theorem zi135_54 {E : zE} {ls sk : List Value} {h : zH} : zrun zpp E 135 (54, ls, sk, h) = zrun zpp E 135 (58, ls, sk, h) := zrun_at rfl
theorem zi135_57 {E : zE} {ls sk : List Value} {h : zH} : zrun zpp E 135 (57, ls, sk, h) = zrun zpp E 135 (58, ls, .int 0 :: sk, h) := zg_iconst rfl ci_0
theorem zi135_58 {E : zE} {x : Int32} {ls sk : List Value} {h : zH} : zrun zpp E 135 (58, ls, [.int x], h) = if x = 0 then some (some (.int 0), h) else if x = 1 then some (some (.int 1), h) else none := zrun_at rfl
-- 136 NineDown.liftsAs
theorem zi136_0 {E : zE} {x : Nat} {ls sk : List Value} {h : zH} : zrun zpp E 136 (0, .ref x :: ls, sk, h) = zrun zpp E 136 (1, .ref x :: ls, .ref x :: sk, h) := zrun_at rfl
theorem zi136_0n {E : zE} {ls sk : List Value} {h : zH} : zrun zpp E 136 (0, .null :: ls, sk, h) = zrun zpp E 136 (1, .null :: ls, .null :: sk, h) := zrun_at rfl
theorem zi136_1 {E : zE} {x : Nat} {ls sk : List Value} {h : zH} : zrun zpp E 136 (1, ls, .ref x :: sk, h) = (zfld [10] h x 8).bind (fun v => zrun zpp E 136 (4, ls, v :: sk, h)) := zg_getf rfl
theorem zi136_4 {E : zE} {x : Nat} {ls sk : List Value} {h : zH} : zrun zpp E 136 (4, .ref x :: ls, sk, h) = zrun zpp E 136 (5, .ref x :: ls, .ref x :: sk, h) := zrun_at rfl
theorem zi136_4n {E : zE} {ls sk : List Value} {h : zH} : zrun zpp E 136 (4, .null :: ls, sk, h) = zrun zpp E 136 (5, .null :: ls, .null :: sk, h) := zrun_at rfl
theorem zi136_5 {E : zE} {x : Nat} {ls sk : List Value} {h : zH} : zrun zpp E 136 (5, ls, .ref x :: sk, h) = (zfld [10] h x 7).bind (fun v => zrun zpp E 136 (8, ls, v :: sk, h)) := zg_getf rfl
theorem zi136_8 {E : zE} {a0 : Value} {x : Nat} {ls sk : List Value} {h : zH} : zrun zpp E 136 (8, ls, a0 :: .ref x :: sk, h) = (zcls h x).bind (fun d => (zsel d [9, 69]).bind (fun M' => zcl1 E 136 11 M' ls sk [.ref x, a0] h)) := zg_vir (as := [a0]) rfl rfl
theorem zi136_11 {E : zE} {ls sk : List Value} {h : zH} : zrun zpp E 136 (11, ls, sk, h) = zrun zpp E 136 (12, ls, .int 0 :: sk, h) := zg_iconst rfl ci_0
theorem zi136_12 {E : zE} {x : Int32} {ls sk : List Value} {h : zH} : zrun zpp E 136 (12, ls, .int x :: sk, h) = if zfree ls 5 = true then zrun zpp E 136 (14, ls.set 5 (.int x), sk, h) else none := zg_ist rfl (fun _ _ _ => rfl)
theorem zi136_14 {E : zE} {v0 v1 v2 v3 v4 : Value} {x : Int32} {ls sk : List Value} {h : zH} : zrun zpp E 136 (14, v0 :: v1 :: v2 :: v3 :: v4 :: .int x :: ls, sk, h) = zrun zpp E 136 (16, v0 :: v1 :: v2 :: v3 :: v4 :: .int x :: ls, .int x :: sk, h) := zrun_at rfl
theorem zi136_16 {E : zE} {v0 v1 v2 v3 : Value} {x : Int32} {ls sk : List Value} {h : zH} : zrun zpp E 136 (16, v0 :: v1 :: v2 :: v3 :: .int x :: ls, sk, h) = zrun zpp E 136 (18, v0 :: v1 :: v2 :: v3 :: .int x :: ls, .int x :: sk, h) := zrun_at rfl
theorem zi136_18 {E : zE} {x y : Int32} {ls sk : List Value} {h : zH} : zrun zpp E 136 (18, ls, .int y :: .int x :: sk, h) = if y ≤ x then zrun zpp E 136 (75, ls, sk, h) else zrun zpp E 136 (21, ls, sk, h) := zrun_at rfl
theorem zi136_21 {E : zE} {x : Nat} {ls sk : List Value} {h : zH} : zrun zpp E 136 (21, .ref x :: ls, sk, h) = zrun zpp E 136 (22, .ref x :: ls, .ref x :: sk, h) := zrun_at rfl
theorem zi136_21n {E : zE} {ls sk : List Value} {h : zH} : zrun zpp E 136 (21, .null :: ls, sk, h) = zrun zpp E 136 (22, .null :: ls, .null :: sk, h) := zrun_at rfl
theorem zi136_22 {E : zE} {x : Nat} {ls sk : List Value} {h : zH} : zrun zpp E 136 (22, ls, .ref x :: sk, h) = (zfld [10] h x 8).bind (fun v => zrun zpp E 136 (25, ls, v :: sk, h)) := zg_getf rfl
theorem zi136_25 {E : zE} {v0 : Value} {x : Nat} {ls sk : List Value} {h : zH} : zrun zpp E 136 (25, v0 :: .ref x :: ls, sk, h) = zrun zpp E 136 (26, v0 :: .ref x :: ls, .ref x :: sk, h) := zrun_at rfl
theorem zi136_25n {E : zE} {v0 : Value} {ls sk : List Value} {h : zH} : zrun zpp E 136 (25, v0 :: .null :: ls, sk, h) = zrun zpp E 136 (26, v0 :: .null :: ls, .null :: sk, h) := zrun_at rfl
theorem zi136_26 {E : zE} {v0 v1 : Value} {x : Nat} {ls sk : List Value} {h : zH} : zrun zpp E 136 (26, v0 :: v1 :: .ref x :: ls, sk, h) = zrun zpp E 136 (27, v0 :: v1 :: .ref x :: ls, .ref x :: sk, h) := zrun_at rfl
theorem zi136_26n {E : zE} {v0 v1 : Value} {ls sk : List Value} {h : zH} : zrun zpp E 136 (26, v0 :: v1 :: .null :: ls, sk, h) = zrun zpp E 136 (27, v0 :: v1 :: .null :: ls, .null :: sk, h) := zrun_at rfl
theorem zi136_27 {E : zE} {x : Nat} {ls sk : List Value} {h : zH} : zrun zpp E 136 (27, ls, .ref x :: sk, h) = (zfld [6] h x 0).bind (fun v => zrun zpp E 136 (30, ls, v :: sk, h)) := zg_getf rfl
theorem zi136_30 {E : zE} {v0 v1 v2 : Value} {x : Int32} {ls sk : List Value} {h : zH} : zrun zpp E 136 (30, v0 :: v1 :: v2 :: .int x :: ls, sk, h) = zrun zpp E 136 (31, v0 :: v1 :: v2 :: .int x :: ls, .int x :: sk, h) := zrun_at rfl
theorem zi136_31 {E : zE} {ls sk : List Value} {h : zH} : zrun zpp E 136 (31, ls, sk, h) = zrun zpp E 136 (32, ls, .int 2 :: sk, h) := zg_iconst rfl ci_2
theorem zi136_32 {E : zE} {v0 v1 v2 v3 v4 : Value} {x : Int32} {ls sk : List Value} {h : zH} : zrun zpp E 136 (32, v0 :: v1 :: v2 :: v3 :: v4 :: .int x :: ls, sk, h) = zrun zpp E 136 (34, v0 :: v1 :: v2 :: v3 :: v4 :: .int x :: ls, .int x :: sk, h) := zrun_at rfl
theorem zi136_34 {E : zE} {x y : Int32} {ls sk : List Value} {h : zH} : zrun zpp E 136 (34, ls, .int y :: .int x :: sk, h) = zrun zpp E 136 (35, ls, .int (x * y) :: sk, h) := zrun_at rfl
theorem zi136_35 {E : zE} {x y : Int32} {ls sk : List Value} {h : zH} : zrun zpp E 136 (35, ls, .int y :: .int x :: sk, h) = zrun zpp E 136 (36, ls, .int (x + y) :: sk, h) := zrun_at rfl
theorem zi136_36 {E : zE} {x : Nat} {i : Int32} {ls sk : List Value} {h : zH} : zrun zpp E 136 (36, ls, .int i :: .ref x :: sk, h) = (zarr 0 h x i).bind (fun v => zrun zpp E 136 (37, ls, .int v :: sk, h)) := zg_iald rfl
theorem zi136_37 {E : zE} {a0 a1 : Value} {x : Nat} {ls sk : List Value} {h : zH} : zrun zpp E 136 (37, ls, a1 :: a0 :: .ref x :: sk, h) = (zcls h x).bind (fun d => (zsel d [9, 81]).bind (fun M' => zcl1 E 136 40 M' ls sk [.ref x, a0, a1] h)) := zg_vir (as := [a0, a1]) rfl rfl
theorem zi136_40 {E : zE} {x : Int32} {ls sk : List Value} {h : zH} : zrun zpp E 136 (40, ls, .int x :: sk, h) = if zfree ls 6 = true then zrun zpp E 136 (42, ls.set 6 (.int x), sk, h) else none := zg_ist rfl (fun _ _ _ => rfl)
theorem zi136_42 {E : zE} {v0 v1 v2 v3 v4 v5 : Value} {x : Int32} {ls sk : List Value} {h : zH} : zrun zpp E 136 (42, v0 :: v1 :: v2 :: v3 :: v4 :: v5 :: .int x :: ls, sk, h) = zrun zpp E 136 (44, v0 :: v1 :: v2 :: v3 :: v4 :: v5 :: .int x :: ls, .int x :: sk, h) := zrun_at rfl
theorem zi136_44 {E : zE} {ls sk : List Value} {h : zH} : zrun zpp E 136 (44, ls, sk, h) = zrun zpp E 136 (46, ls, .int (-1000000) :: sk, h) := zg_ldc rfl ci_m1000000
theorem zi136_46 {E : zE} {x y : Int32} {ls sk : List Value} {h : zH} : zrun zpp E 136 (46, ls, .int y :: .int x :: sk, h) = if x = y then zrun zpp E 136 (67, ls, sk, h) else zrun zpp E 136 (49, ls, sk, h) := zrun_at rfl
theorem zi136_49 {E : zE} {v0 v1 v2 v3 v4 v5 : Value} {x : Int32} {ls sk : List Value} {h : zH} : zrun zpp E 136 (49, v0 :: v1 :: v2 :: v3 :: v4 :: v5 :: .int x :: ls, sk, h) = zrun zpp E 136 (51, v0 :: v1 :: v2 :: v3 :: v4 :: v5 :: .int x :: ls, .int x :: sk, h) := zrun_at rfl
theorem zi136_51 {E : zE} {v0 v1 : Value} {x : Nat} {ls sk : List Value} {h : zH} : zrun zpp E 136 (51, v0 :: v1 :: .ref x :: ls, sk, h) = zrun zpp E 136 (52, v0 :: v1 :: .ref x :: ls, .ref x :: sk, h) := zrun_at rfl
theorem zi136_51n {E : zE} {v0 v1 : Value} {ls sk : List Value} {h : zH} : zrun zpp E 136 (51, v0 :: v1 :: .null :: ls, sk, h) = zrun zpp E 136 (52, v0 :: v1 :: .null :: ls, .null :: sk, h) := zrun_at rfl
theorem zi136_52 {E : zE} {x : Nat} {ls sk : List Value} {h : zH} : zrun zpp E 136 (52, ls, .ref x :: sk, h) = (zfld [6] h x 0).bind (fun v => zrun zpp E 136 (55, ls, v :: sk, h)) := zg_getf rfl
theorem zi136_55 {E : zE} {v0 v1 v2 : Value} {x : Int32} {ls sk : List Value} {h : zH} : zrun zpp E 136 (55, v0 :: v1 :: v2 :: .int x :: ls, sk, h) = zrun zpp E 136 (56, v0 :: v1 :: v2 :: .int x :: ls, .int x :: sk, h) := zrun_at rfl
theorem zi136_56 {E : zE} {ls sk : List Value} {h : zH} : zrun zpp E 136 (56, ls, sk, h) = zrun zpp E 136 (57, ls, .int 2 :: sk, h) := zg_iconst rfl ci_2
theorem zi136_57 {E : zE} {v0 v1 v2 v3 v4 : Value} {x : Int32} {ls sk : List Value} {h : zH} : zrun zpp E 136 (57, v0 :: v1 :: v2 :: v3 :: v4 :: .int x :: ls, sk, h) = zrun zpp E 136 (59, v0 :: v1 :: v2 :: v3 :: v4 :: .int x :: ls, .int x :: sk, h) := zrun_at rfl
theorem zi136_59 {E : zE} {x y : Int32} {ls sk : List Value} {h : zH} : zrun zpp E 136 (59, ls, .int y :: .int x :: sk, h) = zrun zpp E 136 (60, ls, .int (x * y) :: sk, h) := zrun_at rfl
theorem zi136_60 {E : zE} {x y : Int32} {ls sk : List Value} {h : zH} : zrun zpp E 136 (60, ls, .int y :: .int x :: sk, h) = zrun zpp E 136 (61, ls, .int (x + y) :: sk, h) := zrun_at rfl
theorem zi136_61 {E : zE} {ls sk : List Value} {h : zH} : zrun zpp E 136 (61, ls, sk, h) = zrun zpp E 136 (62, ls, .int 1 :: sk, h) := zg_iconst rfl ci_1
theorem zi136_62 {E : zE} {x y : Int32} {ls sk : List Value} {h : zH} : zrun zpp E 136 (62, ls, .int y :: .int x :: sk, h) = zrun zpp E 136 (63, ls, .int (x + y) :: sk, h) := zrun_at rfl
theorem zi136_63 {E : zE} {x : Nat} {i : Int32} {ls sk : List Value} {h : zH} : zrun zpp E 136 (63, ls, .int i :: .ref x :: sk, h) = (zarr 0 h x i).bind (fun v => zrun zpp E 136 (64, ls, .int v :: sk, h)) := zg_iald rfl
theorem zi136_64 {E : zE} {x y : Int32} {ls sk : List Value} {h : zH} : zrun zpp E 136 (64, ls, .int y :: .int x :: sk, h) = if x = y then zrun zpp E 136 (69, ls, sk, h) else zrun zpp E 136 (67, ls, sk, h) := zrun_at rfl
theorem zi136_67 {E : zE} {ls sk : List Value} {h : zH} : zrun zpp E 136 (67, ls, sk, h) = zrun zpp E 136 (68, ls, .int 0 :: sk, h) := zg_iconst rfl ci_0
theorem zi136_68 {E : zE} {x : Int32} {ls sk : List Value} {h : zH} : zrun zpp E 136 (68, ls, [.int x], h) = if x = 0 then some (some (.int 0), h) else if x = 1 then some (some (.int 1), h) else none := zrun_at rfl
theorem zi136_69 {E : zE} {v0 v1 v2 v3 v4 : Value} {x : Int32} {ls sk : List Value} {h : zH} : zrun zpp E 136 (69, v0 :: v1 :: v2 :: v3 :: v4 :: .int x :: ls, sk, h) = if zfree (v0 :: v1 :: v2 :: v3 :: v4 :: .int x :: ls) 5 = true then zrun zpp E 136 (72, v0 :: v1 :: v2 :: v3 :: v4 :: .int (x + 1) :: ls, sk, h) else none := by rw [← ci_1]; exact zrun_at rfl
theorem zi136_72 {E : zE} {ls sk : List Value} {h : zH} : zrun zpp E 136 (72, ls, sk, h) = zrun zpp E 136 (14, ls, sk, h) := zrun_at rfl
theorem zi136_75 {E : zE} {ls sk : List Value} {h : zH} : zrun zpp E 136 (75, ls, sk, h) = zrun zpp E 136 (76, ls, .int 1 :: sk, h) := zg_iconst rfl ci_1
theorem zi136_76 {E : zE} {x : Int32} {ls sk : List Value} {h : zH} : zrun zpp E 136 (76, ls, [.int x], h) = if x = 0 then some (some (.int 0), h) else if x = 1 then some (some (.int 1), h) else none := zrun_at rfl
-- 137 NineDown.passDay
theorem zi137_0 {E : zE} {x : Nat} {ls sk : List Value} {h : zH} : zrun zpp E 137 (0, .ref x :: ls, sk, h) = zrun zpp E 137 (1, .ref x :: ls, .ref x :: sk, h) := zrun_at rfl
theorem zi137_0n {E : zE} {ls sk : List Value} {h : zH} : zrun zpp E 137 (0, .null :: ls, sk, h) = zrun zpp E 137 (1, .null :: ls, .null :: sk, h) := zrun_at rfl
theorem zi137_1 {E : zE} {x : Nat} {ls sk : List Value} {h : zH} : zrun zpp E 137 (1, ls, .ref x :: sk, h) = (zfld [10] h x 8).bind (fun v => zrun zpp E 137 (4, ls, v :: sk, h)) := zg_getf rfl
theorem zi137_4 {E : zE} {x : Nat} {ls sk : List Value} {h : zH} : zrun zpp E 137 (4, ls, .ref x :: sk, h) = (zfld [9] h x 5).bind (fun v => zrun zpp E 137 (7, ls, v :: sk, h)) := zg_getf rfl
theorem zi137_7 {E : zE} {x : Int32} {ls sk : List Value} {h : zH} : zrun zpp E 137 (7, ls, .int x :: sk, h) = if x = 0 then zrun zpp E 137 (20, ls, sk, h) else zrun zpp E 137 (10, ls, sk, h) := zrun_at rfl
theorem zi137_10 {E : zE} {x : Nat} {ls sk : List Value} {h : zH} : zrun zpp E 137 (10, .ref x :: ls, sk, h) = zrun zpp E 137 (11, .ref x :: ls, .ref x :: sk, h) := zrun_at rfl
theorem zi137_10n {E : zE} {ls sk : List Value} {h : zH} : zrun zpp E 137 (10, .null :: ls, sk, h) = zrun zpp E 137 (11, .null :: ls, .null :: sk, h) := zrun_at rfl
theorem zi137_11 {E : zE} {x : Nat} {ls sk : List Value} {h : zH} : zrun zpp E 137 (11, ls, .ref x :: sk, h) = (zfld [10] h x 8).bind (fun v => zrun zpp E 137 (14, ls, v :: sk, h)) := zg_getf rfl
theorem zi137_14 {E : zE} {x : Nat} {ls sk : List Value} {h : zH} : zrun zpp E 137 (14, ls, .ref x :: sk, h) = (zfld [9] h x 3).bind (fun v => zrun zpp E 137 (17, ls, v :: sk, h)) := zg_getf rfl
theorem zi137_17 {E : zE} {x : Int32} {ls sk : List Value} {h : zH} : zrun zpp E 137 (17, ls, .int x :: sk, h) = if x = 0 then zrun zpp E 137 (20, ls, sk, h) else zrun zpp E 137 (21, ls, sk, h) := zrun_at rfl
theorem zi137_20 {E : zE} {ls sk : List Value} {h : zH} : zrun zpp E 137 (20, ls, [], h) = some (none, h) := zrun_at rfl
theorem zi137_21 {E : zE} {v0 : Value} {x : Int64} {ls sk : List Value} {h : zH} : zrun zpp E 137 (21, v0 :: .long x :: ls, sk, h) = zrun zpp E 137 (22, v0 :: .long x :: ls, .long x :: sk, h) := zrun_at rfl
theorem zi137_22 {E : zE} {x : Nat} {ls sk : List Value} {h : zH} : zrun zpp E 137 (22, .ref x :: ls, sk, h) = zrun zpp E 137 (23, .ref x :: ls, .ref x :: sk, h) := zrun_at rfl
theorem zi137_22n {E : zE} {ls sk : List Value} {h : zH} : zrun zpp E 137 (22, .null :: ls, sk, h) = zrun zpp E 137 (23, .null :: ls, .null :: sk, h) := zrun_at rfl
theorem zi137_23 {E : zE} {x : Nat} {ls sk : List Value} {h : zH} : zrun zpp E 137 (23, ls, .ref x :: sk, h) = (zfld [10] h x 8).bind (fun v => zrun zpp E 137 (26, ls, v :: sk, h)) := zg_getf rfl
theorem zi137_26 {E : zE} {x : Nat} {ls sk : List Value} {h : zH} : zrun zpp E 137 (26, ls, .ref x :: sk, h) = (zfld [9] h x 3).bind (fun v => zrun zpp E 137 (29, ls, v :: sk, h)) := zg_getf rfl
theorem zi137_29 {E : zE} {x : Int32} {ls sk : List Value} {h : zH} : zrun zpp E 137 (29, ls, .int x :: sk, h) = zrun zpp E 137 (30, ls, .long x.toInt64 :: sk, h) := zrun_at rfl
theorem zi137_30 {E : zE} {x y : Int64} {ls sk : List Value} {h : zH} : zrun zpp E 137 (30, ls, .long y :: .long x :: sk, h) = if y = 0 then none else zrun zpp E 137 (31, ls, .long (x - x / y * y) :: sk, h) := zrun_at rfl
theorem zi137_31 {E : zE} {x : Int64} {ls sk : List Value} {h : zH} : zrun zpp E 137 (31, ls, .long x :: sk, h) = zrun zpp E 137 (32, ls, .int x.toInt32 :: sk, h) := zrun_at rfl
theorem zi137_32 {E : zE} {x : Int32} {ls sk : List Value} {h : zH} : zrun zpp E 137 (32, ls, .int x :: sk, h) = if zfree ls 3 = true then zrun zpp E 137 (33, ls.set 3 (.int x), sk, h) else none := zg_ist rfl (fun _ _ _ => rfl)
theorem zi137_33 {E : zE} {x : Nat} {ls sk : List Value} {h : zH} : zrun zpp E 137 (33, .ref x :: ls, sk, h) = zrun zpp E 137 (34, .ref x :: ls, .ref x :: sk, h) := zrun_at rfl
theorem zi137_33n {E : zE} {ls sk : List Value} {h : zH} : zrun zpp E 137 (33, .null :: ls, sk, h) = zrun zpp E 137 (34, .null :: ls, .null :: sk, h) := zrun_at rfl
theorem zi137_34 {E : zE} {x : Nat} {ls sk : List Value} {h : zH} : zrun zpp E 137 (34, ls, .ref x :: sk, h) = (zfld [10] h x 8).bind (fun v => zrun zpp E 137 (37, ls, v :: sk, h)) := zg_getf rfl
theorem zi137_37 {E : zE} {v0 : Value} {x : Int64} {ls sk : List Value} {h : zH} : zrun zpp E 137 (37, v0 :: .long x :: ls, sk, h) = zrun zpp E 137 (38, v0 :: .long x :: ls, .long x :: sk, h) := zrun_at rfl
theorem zi137_38 {E : zE} {x : Nat} {ls sk : List Value} {h : zH} : zrun zpp E 137 (38, .ref x :: ls, sk, h) = zrun zpp E 137 (39, .ref x :: ls, .ref x :: sk, h) := zrun_at rfl
theorem zi137_38n {E : zE} {ls sk : List Value} {h : zH} : zrun zpp E 137 (38, .null :: ls, sk, h) = zrun zpp E 137 (39, .null :: ls, .null :: sk, h) := zrun_at rfl
theorem zi137_39 {E : zE} {x : Nat} {ls sk : List Value} {h : zH} : zrun zpp E 137 (39, ls, .ref x :: sk, h) = (zfld [10] h x 8).bind (fun v => zrun zpp E 137 (42, ls, v :: sk, h)) := zg_getf rfl
theorem zi137_42 {E : zE} {x : Nat} {ls sk : List Value} {h : zH} : zrun zpp E 137 (42, ls, .ref x :: sk, h) = (zfld [9] h x 5).bind (fun v => zrun zpp E 137 (45, ls, v :: sk, h)) := zg_getf rfl
theorem zi137_45 {E : zE} {x : Int32} {ls sk : List Value} {h : zH} : zrun zpp E 137 (45, ls, .int x :: sk, h) = zrun zpp E 137 (46, ls, .long x.toInt64 :: sk, h) := zrun_at rfl
theorem zi137_46 {E : zE} {x y : Int64} {ls sk : List Value} {h : zH} : zrun zpp E 137 (46, ls, .long y :: .long x :: sk, h) = if y = 0 then none else zrun zpp E 137 (47, ls, .long (x - x / y * y) :: sk, h) := zrun_at rfl
theorem zi137_47 {E : zE} {x : Int64} {ls sk : List Value} {h : zH} : zrun zpp E 137 (47, ls, .long x :: sk, h) = zrun zpp E 137 (48, ls, .int x.toInt32 :: sk, h) := zrun_at rfl
theorem zi137_48 {E : zE} {a0 : Value} {x : Nat} {ls sk : List Value} {h : zH} : zrun zpp E 137 (48, ls, a0 :: .ref x :: sk, h) = (zcls h x).bind (fun d => (zsel d [9, 73]).bind (fun M' => zcl1 E 137 51 M' ls sk [.ref x, a0] h)) := zg_vir (as := [a0]) rfl rfl
theorem zi137_51 {E : zE} {x : Nat} {ls sk : List Value} {h : zH} : zrun zpp E 137 (51, ls, .ref x :: sk, h) = if zfree ls 4 = true then zrun zpp E 137 (53, ls.set 4 (.ref x), sk, h) else none := zg_astr rfl (fun _ _ _ => rfl)
theorem zi137_51n {E : zE} {ls sk : List Value} {h : zH} : zrun zpp E 137 (51, ls, .null :: sk, h) = if zfree ls 4 = true then zrun zpp E 137 (53, ls.set 4 .null, sk, h) else none := zg_astn rfl (fun _ _ _ => rfl)
theorem zi137_53 {E : zE} {v0 v1 v2 v3 : Value} {x : Nat} {ls sk : List Value} {h : zH} : zrun zpp E 137 (53, v0 :: v1 :: v2 :: v3 :: .ref x :: ls, sk, h) = zrun zpp E 137 (55, v0 :: v1 :: v2 :: v3 :: .ref x :: ls, .ref x :: sk, h) := zrun_at rfl
theorem zi137_53n {E : zE} {v0 v1 v2 v3 : Value} {ls sk : List Value} {h : zH} : zrun zpp E 137 (53, v0 :: v1 :: v2 :: v3 :: .null :: ls, sk, h) = zrun zpp E 137 (55, v0 :: v1 :: v2 :: v3 :: .null :: ls, .null :: sk, h) := zrun_at rfl
theorem zi137_55 {E : zE} {x : Nat} {ls sk : List Value} {h : zH} : zrun zpp E 137 (55, ls, .ref x :: sk, h) = zrun zpp E 137 (58, ls, sk, h) := zrun_at rfl
theorem zi137_55n {E : zE} {ls sk : List Value} {h : zH} : zrun zpp E 137 (55, ls, .null :: sk, h) = zrun zpp E 137 (69, ls, sk, h) := zrun_at rfl
theorem zi137_58 {E : zE} {x : Nat} {ls sk : List Value} {h : zH} : zrun zpp E 137 (58, .ref x :: ls, sk, h) = zrun zpp E 137 (59, .ref x :: ls, .ref x :: sk, h) := zrun_at rfl
theorem zi137_58n {E : zE} {ls sk : List Value} {h : zH} : zrun zpp E 137 (58, .null :: ls, sk, h) = zrun zpp E 137 (59, .null :: ls, .null :: sk, h) := zrun_at rfl
theorem zi137_59 {E : zE} {x : Nat} {ls sk : List Value} {h : zH} : zrun zpp E 137 (59, ls, .ref x :: sk, h) = (zfld [10] h x 8).bind (fun v => zrun zpp E 137 (62, ls, v :: sk, h)) := zg_getf rfl
theorem zi137_62 {E : zE} {v0 v1 v2 v3 : Value} {x : Nat} {ls sk : List Value} {h : zH} : zrun zpp E 137 (62, v0 :: v1 :: v2 :: v3 :: .ref x :: ls, sk, h) = zrun zpp E 137 (64, v0 :: v1 :: v2 :: v3 :: .ref x :: ls, .ref x :: sk, h) := zrun_at rfl
theorem zi137_62n {E : zE} {v0 v1 v2 v3 : Value} {ls sk : List Value} {h : zH} : zrun zpp E 137 (62, v0 :: v1 :: v2 :: v3 :: .null :: ls, sk, h) = zrun zpp E 137 (64, v0 :: v1 :: v2 :: v3 :: .null :: ls, .null :: sk, h) := zrun_at rfl
theorem zi137_64 {E : zE} {v0 v1 v2 : Value} {x : Int32} {ls sk : List Value} {h : zH} : zrun zpp E 137 (64, v0 :: v1 :: v2 :: .int x :: ls, sk, h) = zrun zpp E 137 (65, v0 :: v1 :: v2 :: .int x :: ls, .int x :: sk, h) := zrun_at rfl
theorem zi137_65 {E : zE} {a0 a1 : Value} {x : Nat} {ls sk : List Value} {h : zH} : zrun zpp E 137 (65, ls, a1 :: a0 :: .ref x :: sk, h) = (zcls h x).bind (fun d => (zsel d [9, 81]).bind (fun M' => zcl1 E 137 68 M' ls sk [.ref x, a0, a1] h)) := zg_vir (as := [a0, a1]) rfl rfl
theorem zi137_68 {E : zE} {x : Int32} {ls sk : List Value} {h : zH} : zrun zpp E 137 (68, ls, .int x :: sk, h) = zrun zpp E 137 (69, ls, sk, h) := zrun_at rfl
theorem zi137_69 {E : zE} {v0 : Value} {x : Int64} {ls sk : List Value} {h : zH} : zrun zpp E 137 (69, v0 :: .long x :: ls, sk, h) = zrun zpp E 137 (70, v0 :: .long x :: ls, .long x :: sk, h) := zrun_at rfl
theorem zi137_70 {E : zE} {ls sk : List Value} {h : zH} : zrun zpp E 137 (70, ls, sk, h) = zrun zpp E 137 (73, ls, .long 7 :: sk, h) := zg_ldc2_w rfl cj_7
theorem zi137_73 {E : zE} {x y : Int64} {ls sk : List Value} {h : zH} : zrun zpp E 137 (73, ls, .long y :: .long x :: sk, h) = if y = 0 then none else zrun zpp E 137 (74, ls, .long (x - x / y * y) :: sk, h) := zrun_at rfl
theorem zi137_74 {E : zE} {ls sk : List Value} {h : zH} : zrun zpp E 137 (74, ls, sk, h) = zrun zpp E 137 (75, ls, .long 0 :: sk, h) := zg_lconst rfl rfl
theorem zi137_75 {E : zE} {x y : Int64} {ls sk : List Value} {h : zH} : zrun zpp E 137 (75, ls, .long y :: .long x :: sk, h) = zrun zpp E 137 (76, ls, .int (lg_cmp x y) :: sk, h) := zrun_at rfl
theorem zi137_76 {E : zE} {x : Int32} {ls sk : List Value} {h : zH} : zrun zpp E 137 (76, ls, .int x :: sk, h) = if x = 0 then zrun zpp E 137 (79, ls, sk, h) else zrun zpp E 137 (88, ls, sk, h) := zrun_at rfl
theorem zi137_79 {E : zE} {x : Nat} {ls sk : List Value} {h : zH} : zrun zpp E 137 (79, .ref x :: ls, sk, h) = zrun zpp E 137 (80, .ref x :: ls, .ref x :: sk, h) := zrun_at rfl
theorem zi137_79n {E : zE} {ls sk : List Value} {h : zH} : zrun zpp E 137 (79, .null :: ls, sk, h) = zrun zpp E 137 (80, .null :: ls, .null :: sk, h) := zrun_at rfl
theorem zi137_80 {E : zE} {x : Nat} {ls sk : List Value} {h : zH} : zrun zpp E 137 (80, ls, .ref x :: sk, h) = (zfld [10] h x 8).bind (fun v => zrun zpp E 137 (83, ls, v :: sk, h)) := zg_getf rfl
theorem zi137_83 {E : zE} {v0 v1 v2 : Value} {x : Int32} {ls sk : List Value} {h : zH} : zrun zpp E 137 (83, v0 :: v1 :: v2 :: .int x :: ls, sk, h) = zrun zpp E 137 (84, v0 :: v1 :: v2 :: .int x :: ls, .int x :: sk, h) := zrun_at rfl
theorem zi137_84 {E : zE} {a0 : Value} {x : Nat} {ls sk : List Value} {h : zH} : zrun zpp E 137 (84, ls, a0 :: .ref x :: sk, h) = (zcls h x).bind (fun d => (zsel d [9, 82]).bind (fun M' => zcl1 E 137 87 M' ls sk [.ref x, a0] h)) := zg_vir (as := [a0]) rfl rfl
theorem zi137_87 {E : zE} {x : Int32} {ls sk : List Value} {h : zH} : zrun zpp E 137 (87, ls, .int x :: sk, h) = zrun zpp E 137 (88, ls, sk, h) := zrun_at rfl
theorem zi137_88 {E : zE} {ls sk : List Value} {h : zH} : zrun zpp E 137 (88, ls, [], h) = some (none, h) := zrun_at rfl
-- 138 NineDown.leastCost
theorem zi138_0 {E : zE} {ls sk : List Value} {h : zH} : zrun zpp E 138 (0, ls, sk, h) = zrun zpp E 138 (1, ls, .int 0 :: sk, h) := zg_iconst rfl ci_0
theorem zi138_1 {E : zE} {x : Int32} {ls sk : List Value} {h : zH} : zrun zpp E 138 (1, ls, .int x :: sk, h) = if zfree ls 3 = true then zrun zpp E 138 (2, ls.set 3 (.int x), sk, h) else none := zg_ist rfl (fun _ _ _ => rfl)
theorem zi138_2 {E : zE} {v0 v1 v2 : Value} {x : Int32} {ls sk : List Value} {h : zH} : zrun zpp E 138 (2, v0 :: v1 :: v2 :: .int x :: ls, sk, h) = zrun zpp E 138 (3, v0 :: v1 :: v2 :: .int x :: ls, .int x :: sk, h) := zrun_at rfl
theorem zi138_3 {E : zE} {x : Nat} {ls sk : List Value} {h : zH} : zrun zpp E 138 (3, .ref x :: ls, sk, h) = zrun zpp E 138 (4, .ref x :: ls, .ref x :: sk, h) := zrun_at rfl
theorem zi138_3n {E : zE} {ls sk : List Value} {h : zH} : zrun zpp E 138 (3, .null :: ls, sk, h) = zrun zpp E 138 (4, .null :: ls, .null :: sk, h) := zrun_at rfl
theorem zi138_4 {E : zE} {x : Nat} {ls sk : List Value} {h : zH} : zrun zpp E 138 (4, ls, .ref x :: sk, h) = (zfld [10] h x 7).bind (fun v => zrun zpp E 138 (7, ls, v :: sk, h)) := zg_getf rfl
theorem zi138_7 {E : zE} {x : Nat} {ls sk : List Value} {h : zH} : zrun zpp E 138 (7, ls, .ref x :: sk, h) = (zfld [9] h x 3).bind (fun v => zrun zpp E 138 (10, ls, v :: sk, h)) := zg_getf rfl
theorem zi138_10 {E : zE} {x y : Int32} {ls sk : List Value} {h : zH} : zrun zpp E 138 (10, ls, .int y :: .int x :: sk, h) = if y ≤ x then zrun zpp E 138 (77, ls, sk, h) else zrun zpp E 138 (13, ls, sk, h) := zrun_at rfl
theorem zi138_13 {E : zE} {x : Nat} {ls sk : List Value} {h : zH} : zrun zpp E 138 (13, .ref x :: ls, sk, h) = zrun zpp E 138 (14, .ref x :: ls, .ref x :: sk, h) := zrun_at rfl
theorem zi138_13n {E : zE} {ls sk : List Value} {h : zH} : zrun zpp E 138 (13, .null :: ls, sk, h) = zrun zpp E 138 (14, .null :: ls, .null :: sk, h) := zrun_at rfl
theorem zi138_14 {E : zE} {x : Nat} {ls sk : List Value} {h : zH} : zrun zpp E 138 (14, ls, .ref x :: sk, h) = (zfld [10] h x 7).bind (fun v => zrun zpp E 138 (17, ls, v :: sk, h)) := zg_getf rfl
theorem zi138_17 {E : zE} {x : Nat} {ls sk : List Value} {h : zH} : zrun zpp E 138 (17, ls, .ref x :: sk, h) = (zfld [9] h x 9).bind (fun v => zrun zpp E 138 (20, ls, v :: sk, h)) := zg_getf rfl
theorem zi138_20 {E : zE} {v0 v1 v2 : Value} {x : Int32} {ls sk : List Value} {h : zH} : zrun zpp E 138 (20, v0 :: v1 :: v2 :: .int x :: ls, sk, h) = zrun zpp E 138 (21, v0 :: v1 :: v2 :: .int x :: ls, .int x :: sk, h) := zrun_at rfl
theorem zi138_21 {E : zE} {x : Nat} {i : Int32} {ls sk : List Value} {h : zH} : zrun zpp E 138 (21, ls, .int i :: .ref x :: sk, h) = (zarr 0 h x i).bind (fun v => zrun zpp E 138 (22, ls, .int v :: sk, h)) := zg_iald rfl
theorem zi138_22 {E : zE} {a0 : Value} {ls sk : List Value} {h : zH} : zrun zpp E 138 (22, ls, a0 :: sk, h) = zcl1 E 138 25 230 ls sk [a0] h := zg_inv (as := [a0]) rfl rfl
theorem zi138_25 {E : zE} {x : Int32} {ls sk : List Value} {h : zH} : zrun zpp E 138 (25, ls, .int x :: sk, h) = if zfree ls 4 = true then zrun zpp E 138 (27, ls.set 4 (.int x), sk, h) else none := zg_ist rfl (fun _ _ _ => rfl)
theorem zi138_27 {E : zE} {ls sk : List Value} {h : zH} : zrun zpp E 138 (27, ls, sk, h) = zrun zpp E 138 (28, ls, .int 0 :: sk, h) := zg_iconst rfl ci_0
theorem zi138_28 {E : zE} {x : Int32} {ls sk : List Value} {h : zH} : zrun zpp E 138 (28, ls, .int x :: sk, h) = if zfree ls 5 = true then zrun zpp E 138 (30, ls.set 5 (.int x), sk, h) else none := zg_ist rfl (fun _ _ _ => rfl)
theorem zi138_30 {E : zE} {v0 v1 v2 v3 v4 : Value} {x : Int32} {ls sk : List Value} {h : zH} : zrun zpp E 138 (30, v0 :: v1 :: v2 :: v3 :: v4 :: .int x :: ls, sk, h) = zrun zpp E 138 (32, v0 :: v1 :: v2 :: v3 :: v4 :: .int x :: ls, .int x :: sk, h) := zrun_at rfl
theorem zi138_32 {E : zE} {v0 v1 v2 v3 : Value} {x : Int32} {ls sk : List Value} {h : zH} : zrun zpp E 138 (32, v0 :: v1 :: v2 :: v3 :: .int x :: ls, sk, h) = zrun zpp E 138 (34, v0 :: v1 :: v2 :: v3 :: .int x :: ls, .int x :: sk, h) := zrun_at rfl
theorem zi138_34 {E : zE} {x y : Int32} {ls sk : List Value} {h : zH} : zrun zpp E 138 (34, ls, .int y :: .int x :: sk, h) = if y < x then zrun zpp E 138 (71, ls, sk, h) else zrun zpp E 138 (37, ls, sk, h) := zrun_at rfl
theorem zi138_37 {E : zE} {v0 v1 v2 v3 v4 : Value} {x : Int32} {ls sk : List Value} {h : zH} : zrun zpp E 138 (37, v0 :: v1 :: v2 :: v3 :: v4 :: .int x :: ls, sk, h) = zrun zpp E 138 (39, v0 :: v1 :: v2 :: v3 :: v4 :: .int x :: ls, .int x :: sk, h) := zrun_at rfl
theorem zi138_39 {E : zE} {ls sk : List Value} {h : zH} : zrun zpp E 138 (39, ls, sk, h) = zrun zpp E 138 (41, ls, .int 8 :: sk, h) := zg_bipush rfl ci_8
theorem zi138_41 {E : zE} {x y : Int32} {ls sk : List Value} {h : zH} : zrun zpp E 138 (41, ls, .int y :: .int x :: sk, h) = if y ≤ x then zrun zpp E 138 (71, ls, sk, h) else zrun zpp E 138 (44, ls, sk, h) := zrun_at rfl
theorem zi138_44 {E : zE} {x : Nat} {ls sk : List Value} {h : zH} : zrun zpp E 138 (44, .ref x :: ls, sk, h) = zrun zpp E 138 (45, .ref x :: ls, .ref x :: sk, h) := zrun_at rfl
theorem zi138_44n {E : zE} {ls sk : List Value} {h : zH} : zrun zpp E 138 (44, .null :: ls, sk, h) = zrun zpp E 138 (45, .null :: ls, .null :: sk, h) := zrun_at rfl
theorem zi138_45 {E : zE} {x : Nat} {ls sk : List Value} {h : zH} : zrun zpp E 138 (45, ls, .ref x :: sk, h) = (zfld [10] h x 5).bind (fun v => zrun zpp E 138 (48, ls, v :: sk, h)) := zg_getf rfl
theorem zi138_48 {E : zE} {v0 v1 v2 : Value} {x : Int32} {ls sk : List Value} {h : zH} : zrun zpp E 138 (48, v0 :: v1 :: v2 :: .int x :: ls, sk, h) = zrun zpp E 138 (49, v0 :: v1 :: v2 :: .int x :: ls, .int x :: sk, h) := zrun_at rfl
theorem zi138_49 {E : zE} {ls sk : List Value} {h : zH} : zrun zpp E 138 (49, ls, sk, h) = zrun zpp E 138 (51, ls, .int 8 :: sk, h) := zg_bipush rfl ci_8
theorem zi138_51 {E : zE} {x y : Int32} {ls sk : List Value} {h : zH} : zrun zpp E 138 (51, ls, .int y :: .int x :: sk, h) = zrun zpp E 138 (52, ls, .int (x * y) :: sk, h) := zrun_at rfl
theorem zi138_52 {E : zE} {v0 v1 v2 v3 v4 : Value} {x : Int32} {ls sk : List Value} {h : zH} : zrun zpp E 138 (52, v0 :: v1 :: v2 :: v3 :: v4 :: .int x :: ls, sk, h) = zrun zpp E 138 (54, v0 :: v1 :: v2 :: v3 :: v4 :: .int x :: ls, .int x :: sk, h) := zrun_at rfl
theorem zi138_54 {E : zE} {x y : Int32} {ls sk : List Value} {h : zH} : zrun zpp E 138 (54, ls, .int y :: .int x :: sk, h) = zrun zpp E 138 (55, ls, .int (x + y) :: sk, h) := zrun_at rfl
theorem zi138_55 {E : zE} {x : Nat} {ls sk : List Value} {h : zH} : zrun zpp E 138 (55, .ref x :: ls, sk, h) = zrun zpp E 138 (56, .ref x :: ls, .ref x :: sk, h) := zrun_at rfl
theorem zi138_55n {E : zE} {ls sk : List Value} {h : zH} : zrun zpp E 138 (55, .null :: ls, sk, h) = zrun zpp E 138 (56, .null :: ls, .null :: sk, h) := zrun_at rfl
theorem zi138_56 {E : zE} {v0 : Value} {x : Int32} {ls sk : List Value} {h : zH} : zrun zpp E 138 (56, v0 :: .int x :: ls, sk, h) = zrun zpp E 138 (57, v0 :: .int x :: ls, .int x :: sk, h) := zrun_at rfl
theorem zi138_57 {E : zE} {v0 v1 v2 : Value} {x : Int32} {ls sk : List Value} {h : zH} : zrun zpp E 138 (57, v0 :: v1 :: v2 :: .int x :: ls, sk, h) = zrun zpp E 138 (58, v0 :: v1 :: v2 :: .int x :: ls, .int x :: sk, h) := zrun_at rfl
theorem zi138_58 {E : zE} {v0 v1 v2 v3 v4 : Value} {x : Int32} {ls sk : List Value} {h : zH} : zrun zpp E 138 (58, v0 :: v1 :: v2 :: v3 :: v4 :: .int x :: ls, sk, h) = zrun zpp E 138 (60, v0 :: v1 :: v2 :: v3 :: v4 :: .int x :: ls, .int x :: sk, h) := zrun_at rfl
theorem zi138_60 {E : zE} {v0 v1 : Value} {x : Int32} {ls sk : List Value} {h : zH} : zrun zpp E 138 (60, v0 :: v1 :: .int x :: ls, sk, h) = zrun zpp E 138 (61, v0 :: v1 :: .int x :: ls, .int x :: sk, h) := zrun_at rfl
theorem zi138_61 {E : zE} {a0 a1 a2 a3 : Value} {x : Nat} {ls sk : List Value} {h : zH} : zrun zpp E 138 (61, ls, a3 :: a2 :: a1 :: a0 :: .ref x :: sk, h) = (zcls h x).bind (fun d => (zsel d [10, 139]).bind (fun M' => zcl1 E 138 64 M' ls sk [.ref x, a0, a1, a2, a3] h)) := zg_vir (as := [a0, a1, a2, a3]) rfl rfl
theorem zi138_64 {E : zE} {x : Nat} {i v : Int32} {ls sk : List Value} {h : zH} : zrun zpp E 138 (64, ls, .int v :: .int i :: .ref x :: sk, h) = (zars 0 h x i v).bind (fun h' => zrun zpp E 138 (65, ls, sk, h')) := zg_iast rfl
theorem zi138_65 {E : zE} {v0 v1 v2 v3 v4 : Value} {x : Int32} {ls sk : List Value} {h : zH} : zrun zpp E 138 (65, v0 :: v1 :: v2 :: v3 :: v4 :: .int x :: ls, sk, h) = if zfree (v0 :: v1 :: v2 :: v3 :: v4 :: .int x :: ls) 5 = true then zrun zpp E 138 (68, v0 :: v1 :: v2 :: v3 :: v4 :: .int (x + 1) :: ls, sk, h) else none := by rw [← ci_1]; exact zrun_at rfl
theorem zi138_68 {E : zE} {ls sk : List Value} {h : zH} : zrun zpp E 138 (68, ls, sk, h) = zrun zpp E 138 (30, ls, sk, h) := zrun_at rfl
theorem zi138_71 {E : zE} {v0 v1 v2 : Value} {x : Int32} {ls sk : List Value} {h : zH} : zrun zpp E 138 (71, v0 :: v1 :: v2 :: .int x :: ls, sk, h) = if zfree (v0 :: v1 :: v2 :: .int x :: ls) 3 = true then zrun zpp E 138 (74, v0 :: v1 :: v2 :: .int (x + 1) :: ls, sk, h) else none := by rw [← ci_1]; exact zrun_at rfl
theorem zi138_74 {E : zE} {ls sk : List Value} {h : zH} : zrun zpp E 138 (74, ls, sk, h) = zrun zpp E 138 (2, ls, sk, h) := zrun_at rfl
theorem zi138_77 {E : zE} {x : Nat} {ls sk : List Value} {h : zH} : zrun zpp E 138 (77, .ref x :: ls, sk, h) = zrun zpp E 138 (78, .ref x :: ls, .ref x :: sk, h) := zrun_at rfl
theorem zi138_77n {E : zE} {ls sk : List Value} {h : zH} : zrun zpp E 138 (77, .null :: ls, sk, h) = zrun zpp E 138 (78, .null :: ls, .null :: sk, h) := zrun_at rfl
theorem zi138_78 {E : zE} {x : Nat} {ls sk : List Value} {h : zH} : zrun zpp E 138 (78, ls, .ref x :: sk, h) = (zfld [10] h x 6).bind (fun v => zrun zpp E 138 (81, ls, v :: sk, h)) := zg_getf rfl
theorem zi138_81 {E : zE} {ls sk : List Value} {h : zH} : zrun zpp E 138 (81, ls, sk, h) = zrun zpp E 138 (82, ls, .int 0 :: sk, h) := zg_iconst rfl ci_0
theorem zi138_82 {E : zE} {ls sk : List Value} {h : zH} : zrun zpp E 138 (82, ls, sk, h) = zrun zpp E 138 (83, ls, .int 0 :: sk, h) := zg_iconst rfl ci_0
theorem zi138_83 {E : zE} {x : Nat} {i v : Int32} {ls sk : List Value} {h : zH} : zrun zpp E 138 (83, ls, .int v :: .int i :: .ref x :: sk, h) = (zars 0 h x i v).bind (fun h' => zrun zpp E 138 (84, ls, sk, h')) := zg_iast rfl
theorem zi138_84 {E : zE} {ls sk : List Value} {h : zH} : zrun zpp E 138 (84, ls, sk, h) = zrun zpp E 138 (85, ls, .int 1 :: sk, h) := zg_iconst rfl ci_1
theorem zi138_85 {E : zE} {x : Int32} {ls sk : List Value} {h : zH} : zrun zpp E 138 (85, ls, .int x :: sk, h) = if zfree ls 3 = true then zrun zpp E 138 (86, ls.set 3 (.int x), sk, h) else none := zg_ist rfl (fun _ _ _ => rfl)
theorem zi138_86 {E : zE} {v0 v1 v2 : Value} {x : Int32} {ls sk : List Value} {h : zH} : zrun zpp E 138 (86, v0 :: v1 :: v2 :: .int x :: ls, sk, h) = zrun zpp E 138 (87, v0 :: v1 :: v2 :: .int x :: ls, .int x :: sk, h) := zrun_at rfl
theorem zi138_87 {E : zE} {x : Nat} {ls sk : List Value} {h : zH} : zrun zpp E 138 (87, .ref x :: ls, sk, h) = zrun zpp E 138 (88, .ref x :: ls, .ref x :: sk, h) := zrun_at rfl
theorem zi138_87n {E : zE} {ls sk : List Value} {h : zH} : zrun zpp E 138 (87, .null :: ls, sk, h) = zrun zpp E 138 (88, .null :: ls, .null :: sk, h) := zrun_at rfl
theorem zi138_88 {E : zE} {x : Nat} {ls sk : List Value} {h : zH} : zrun zpp E 138 (88, ls, .ref x :: sk, h) = (zfld [10] h x 7).bind (fun v => zrun zpp E 138 (91, ls, v :: sk, h)) := zg_getf rfl
theorem zi138_91 {E : zE} {x : Nat} {ls sk : List Value} {h : zH} : zrun zpp E 138 (91, ls, .ref x :: sk, h) = (zfld [9] h x 15).bind (fun v => zrun zpp E 138 (94, ls, v :: sk, h)) := zg_getf rfl
theorem zi138_94 {E : zE} {x y : Int32} {ls sk : List Value} {h : zH} : zrun zpp E 138 (94, ls, .int y :: .int x :: sk, h) = if y < x then zrun zpp E 138 (128, ls, sk, h) else zrun zpp E 138 (97, ls, sk, h) := zrun_at rfl
theorem zi138_97 {E : zE} {v0 v1 v2 : Value} {x : Int32} {ls sk : List Value} {h : zH} : zrun zpp E 138 (97, v0 :: v1 :: v2 :: .int x :: ls, sk, h) = zrun zpp E 138 (98, v0 :: v1 :: v2 :: .int x :: ls, .int x :: sk, h) := zrun_at rfl
theorem zi138_98 {E : zE} {x : Nat} {ls sk : List Value} {h : zH} : zrun zpp E 138 (98, .ref x :: ls, sk, h) = zrun zpp E 138 (99, .ref x :: ls, .ref x :: sk, h) := zrun_at rfl
theorem zi138_98n {E : zE} {ls sk : List Value} {h : zH} : zrun zpp E 138 (98, .null :: ls, sk, h) = zrun zpp E 138 (99, .null :: ls, .null :: sk, h) := zrun_at rfl
theorem zi138_99 {E : zE} {x : Nat} {ls sk : List Value} {h : zH} : zrun zpp E 138 (99, ls, .ref x :: sk, h) = (zfld [10] h x 7).bind (fun v => zrun zpp E 138 (102, ls, v :: sk, h)) := zg_getf rfl
theorem zi138_102 {E : zE} {x : Nat} {ls sk : List Value} {h : zH} : zrun zpp E 138 (102, ls, .ref x :: sk, h) = (zfld [9] h x 15).bind (fun v => zrun zpp E 138 (105, ls, v :: sk, h)) := zg_getf rfl
theorem zi138_105 {E : zE} {ls sk : List Value} {h : zH} : zrun zpp E 138 (105, ls, sk, h) = zrun zpp E 138 (106, ls, .int (-1) :: sk, h) := zg_iconst rfl ci_m1
theorem zi138_106 {E : zE} {x y : Int32} {ls sk : List Value} {h : zH} : zrun zpp E 138 (106, ls, .int y :: .int x :: sk, h) = zrun zpp E 138 (107, ls, .int (x ^^^ y) :: sk, h) := zrun_at rfl
theorem zi138_107 {E : zE} {x y : Int32} {ls sk : List Value} {h : zH} : zrun zpp E 138 (107, ls, .int y :: .int x :: sk, h) = zrun zpp E 138 (108, ls, .int (x &&& y) :: sk, h) := zrun_at rfl
theorem zi138_108 {E : zE} {x : Int32} {ls sk : List Value} {h : zH} : zrun zpp E 138 (108, ls, .int x :: sk, h) = if x = 0 then zrun zpp E 138 (111, ls, sk, h) else zrun zpp E 138 (122, ls, sk, h) := zrun_at rfl
theorem zi138_111 {E : zE} {x : Nat} {ls sk : List Value} {h : zH} : zrun zpp E 138 (111, .ref x :: ls, sk, h) = zrun zpp E 138 (112, .ref x :: ls, .ref x :: sk, h) := zrun_at rfl
theorem zi138_111n {E : zE} {ls sk : List Value} {h : zH} : zrun zpp E 138 (111, .null :: ls, sk, h) = zrun zpp E 138 (112, .null :: ls, .null :: sk, h) := zrun_at rfl
theorem zi138_112 {E : zE} {x : Nat} {ls sk : List Value} {h : zH} : zrun zpp E 138 (112, ls, .ref x :: sk, h) = (zfld [10] h x 6).bind (fun v => zrun zpp E 138 (115, ls, v :: sk, h)) := zg_getf rfl
theorem zi138_115 {E : zE} {v0 v1 v2 : Value} {x : Int32} {ls sk : List Value} {h : zH} : zrun zpp E 138 (115, v0 :: v1 :: v2 :: .int x :: ls, sk, h) = zrun zpp E 138 (116, v0 :: v1 :: v2 :: .int x :: ls, .int x :: sk, h) := zrun_at rfl
theorem zi138_116 {E : zE} {x : Nat} {ls sk : List Value} {h : zH} : zrun zpp E 138 (116, .ref x :: ls, sk, h) = zrun zpp E 138 (117, .ref x :: ls, .ref x :: sk, h) := zrun_at rfl
theorem zi138_116n {E : zE} {ls sk : List Value} {h : zH} : zrun zpp E 138 (116, .null :: ls, sk, h) = zrun zpp E 138 (117, .null :: ls, .null :: sk, h) := zrun_at rfl
theorem zi138_117 {E : zE} {v0 v1 v2 : Value} {x : Int32} {ls sk : List Value} {h : zH} : zrun zpp E 138 (117, v0 :: v1 :: v2 :: .int x :: ls, sk, h) = zrun zpp E 138 (118, v0 :: v1 :: v2 :: .int x :: ls, .int x :: sk, h) := zrun_at rfl
theorem zi138_118 {E : zE} {a0 : Value} {x : Nat} {ls sk : List Value} {h : zH} : zrun zpp E 138 (118, ls, a0 :: .ref x :: sk, h) = (zcls h x).bind (fun d => (zsel d [10, 141]).bind (fun M' => zcl1 E 138 121 M' ls sk [.ref x, a0] h)) := zg_vir (as := [a0]) rfl rfl
theorem zi138_121 {E : zE} {x : Nat} {i v : Int32} {ls sk : List Value} {h : zH} : zrun zpp E 138 (121, ls, .int v :: .int i :: .ref x :: sk, h) = (zars 0 h x i v).bind (fun h' => zrun zpp E 138 (122, ls, sk, h')) := zg_iast rfl
theorem zi138_122 {E : zE} {v0 v1 v2 : Value} {x : Int32} {ls sk : List Value} {h : zH} : zrun zpp E 138 (122, v0 :: v1 :: v2 :: .int x :: ls, sk, h) = if zfree (v0 :: v1 :: v2 :: .int x :: ls) 3 = true then zrun zpp E 138 (125, v0 :: v1 :: v2 :: .int (x + 1) :: ls, sk, h) else none := by rw [← ci_1]; exact zrun_at rfl
theorem zi138_125 {E : zE} {ls sk : List Value} {h : zH} : zrun zpp E 138 (125, ls, sk, h) = zrun zpp E 138 (86, ls, sk, h) := zrun_at rfl
theorem zi138_128 {E : zE} {x : Nat} {ls sk : List Value} {h : zH} : zrun zpp E 138 (128, .ref x :: ls, sk, h) = zrun zpp E 138 (129, .ref x :: ls, .ref x :: sk, h) := zrun_at rfl
theorem zi138_128n {E : zE} {ls sk : List Value} {h : zH} : zrun zpp E 138 (128, .null :: ls, sk, h) = zrun zpp E 138 (129, .null :: ls, .null :: sk, h) := zrun_at rfl
theorem zi138_129 {E : zE} {x : Nat} {ls sk : List Value} {h : zH} : zrun zpp E 138 (129, ls, .ref x :: sk, h) = (zfld [10] h x 6).bind (fun v => zrun zpp E 138 (132, ls, v :: sk, h)) := zg_getf rfl
theorem zi138_132 {E : zE} {x : Nat} {ls sk : List Value} {h : zH} : zrun zpp E 138 (132, .ref x :: ls, sk, h) = zrun zpp E 138 (133, .ref x :: ls, .ref x :: sk, h) := zrun_at rfl
theorem zi138_132n {E : zE} {ls sk : List Value} {h : zH} : zrun zpp E 138 (132, .null :: ls, sk, h) = zrun zpp E 138 (133, .null :: ls, .null :: sk, h) := zrun_at rfl
theorem zi138_133 {E : zE} {x : Nat} {ls sk : List Value} {h : zH} : zrun zpp E 138 (133, ls, .ref x :: sk, h) = (zfld [10] h x 7).bind (fun v => zrun zpp E 138 (136, ls, v :: sk, h)) := zg_getf rfl
theorem zi138_136 {E : zE} {x : Nat} {ls sk : List Value} {h : zH} : zrun zpp E 138 (136, ls, .ref x :: sk, h) = (zfld [9] h x 15).bind (fun v => zrun zpp E 138 (139, ls, v :: sk, h)) := zg_getf rfl
theorem zi138_139 {E : zE} {x : Nat} {i : Int32} {ls sk : List Value} {h : zH} : zrun zpp E 138 (139, ls, .int i :: .ref x :: sk, h) = (zarr 0 h x i).bind (fun v => zrun zpp E 138 (140, ls, .int v :: sk, h)) := zg_iald rfl
theorem zi138_140 {E : zE} {x : Int32} {ls sk : List Value} {h : zH} : zrun zpp E 138 (140, ls, [.int x], h) = some (some (.int x), h) := zrun_at rfl
-- 139 NineDown.leastLiftCost
theorem zi139_0 {E : zE} {ls sk : List Value} {h : zH} : zrun zpp E 139 (0, ls, sk, h) = zrun zpp E 139 (2, ls, .int 268435456 :: sk, h) := zg_ldc rfl ci_268435456
theorem zi139_2 {E : zE} {x : Int32} {ls sk : List Value} {h : zH} : zrun zpp E 139 (2, ls, .int x :: sk, h) = if zfree ls 5 = true then zrun zpp E 139 (4, ls.set 5 (.int x), sk, h) else none := zg_ist rfl (fun _ _ _ => rfl)
theorem zi139_4 {E : zE} {ls sk : List Value} {h : zH} : zrun zpp E 139 (4, ls, sk, h) = zrun zpp E 139 (5, ls, .int 0 :: sk, h) := zg_iconst rfl ci_0
theorem zi139_5 {E : zE} {x : Int32} {ls sk : List Value} {h : zH} : zrun zpp E 139 (5, ls, .int x :: sk, h) = if zfree ls 6 = true then zrun zpp E 139 (7, ls.set 6 (.int x), sk, h) else none := zg_ist rfl (fun _ _ _ => rfl)
theorem zi139_7 {E : zE} {v0 v1 v2 v3 v4 v5 : Value} {x : Int32} {ls sk : List Value} {h : zH} : zrun zpp E 139 (7, v0 :: v1 :: v2 :: v3 :: v4 :: v5 :: .int x :: ls, sk, h) = zrun zpp E 139 (9, v0 :: v1 :: v2 :: v3 :: v4 :: v5 :: .int x :: ls, .int x :: sk, h) := zrun_at rfl
theorem zi139_9 {E : zE} {x : Nat} {ls sk : List Value} {h : zH} : zrun zpp E 139 (9, .ref x :: ls, sk, h) = zrun zpp E 139 (10, .ref x :: ls, .ref x :: sk, h) := zrun_at rfl
theorem zi139_9n {E : zE} {ls sk : List Value} {h : zH} : zrun zpp E 139 (9, .null :: ls, sk, h) = zrun zpp E 139 (10, .null :: ls, .null :: sk, h) := zrun_at rfl
theorem zi139_10 {E : zE} {x : Nat} {ls sk : List Value} {h : zH} : zrun zpp E 139 (10, ls, .ref x :: sk, h) = (zfld [10] h x 7).bind (fun v => zrun zpp E 139 (13, ls, v :: sk, h)) := zg_getf rfl
theorem zi139_13 {E : zE} {x : Nat} {ls sk : List Value} {h : zH} : zrun zpp E 139 (13, ls, .ref x :: sk, h) = (zfld [9] h x 5).bind (fun v => zrun zpp E 139 (16, ls, v :: sk, h)) := zg_getf rfl
theorem zi139_16 {E : zE} {x y : Int32} {ls sk : List Value} {h : zH} : zrun zpp E 139 (16, ls, .int y :: .int x :: sk, h) = if y ≤ x then zrun zpp E 139 (51, ls, sk, h) else zrun zpp E 139 (19, ls, sk, h) := zrun_at rfl
theorem zi139_19 {E : zE} {v0 : Value} {x : Int32} {ls sk : List Value} {h : zH} : zrun zpp E 139 (19, v0 :: .int x :: ls, sk, h) = zrun zpp E 139 (20, v0 :: .int x :: ls, .int x :: sk, h) := zrun_at rfl
theorem zi139_20 {E : zE} {v0 v1 v2 v3 v4 v5 : Value} {x : Int32} {ls sk : List Value} {h : zH} : zrun zpp E 139 (20, v0 :: v1 :: v2 :: v3 :: v4 :: v5 :: .int x :: ls, sk, h) = zrun zpp E 139 (22, v0 :: v1 :: v2 :: v3 :: v4 :: v5 :: .int x :: ls, .int x :: sk, h) := zrun_at rfl
theorem zi139_22 {E : zE} {a0 a1 : Value} {ls sk : List Value} {h : zH} : zrun zpp E 139 (22, ls, a1 :: a0 :: sk, h) = zcl1 E 139 25 127 ls sk [a0, a1] h := zg_inv (as := [a0, a1]) rfl rfl
theorem zi139_25 {E : zE} {x : Int32} {ls sk : List Value} {h : zH} : zrun zpp E 139 (25, ls, .int x :: sk, h) = if x = 0 then zrun zpp E 139 (45, ls, sk, h) else zrun zpp E 139 (28, ls, sk, h) := zrun_at rfl
theorem zi139_28 {E : zE} {v0 v1 v2 v3 v4 : Value} {x : Int32} {ls sk : List Value} {h : zH} : zrun zpp E 139 (28, v0 :: v1 :: v2 :: v3 :: v4 :: .int x :: ls, sk, h) = zrun zpp E 139 (30, v0 :: v1 :: v2 :: v3 :: v4 :: .int x :: ls, .int x :: sk, h) := zrun_at rfl
theorem zi139_30 {E : zE} {x : Nat} {ls sk : List Value} {h : zH} : zrun zpp E 139 (30, .ref x :: ls, sk, h) = zrun zpp E 139 (31, .ref x :: ls, .ref x :: sk, h) := zrun_at rfl
theorem zi139_30n {E : zE} {ls sk : List Value} {h : zH} : zrun zpp E 139 (30, .null :: ls, sk, h) = zrun zpp E 139 (31, .null :: ls, .null :: sk, h) := zrun_at rfl
theorem zi139_31 {E : zE} {v0 v1 v2 v3 v4 v5 : Value} {x : Int32} {ls sk : List Value} {h : zH} : zrun zpp E 139 (31, v0 :: v1 :: v2 :: v3 :: v4 :: v5 :: .int x :: ls, sk, h) = zrun zpp E 139 (33, v0 :: v1 :: v2 :: v3 :: v4 :: v5 :: .int x :: ls, .int x :: sk, h) := zrun_at rfl
theorem zi139_33 {E : zE} {v0 v1 : Value} {x : Int32} {ls sk : List Value} {h : zH} : zrun zpp E 139 (33, v0 :: v1 :: .int x :: ls, sk, h) = zrun zpp E 139 (34, v0 :: v1 :: .int x :: ls, .int x :: sk, h) := zrun_at rfl
theorem zi139_34 {E : zE} {v0 v1 v2 : Value} {x : Int32} {ls sk : List Value} {h : zH} : zrun zpp E 139 (34, v0 :: v1 :: v2 :: .int x :: ls, sk, h) = zrun zpp E 139 (35, v0 :: v1 :: v2 :: .int x :: ls, .int x :: sk, h) := zrun_at rfl
theorem zi139_35 {E : zE} {v0 v1 v2 v3 : Value} {x : Int32} {ls sk : List Value} {h : zH} : zrun zpp E 139 (35, v0 :: v1 :: v2 :: v3 :: .int x :: ls, sk, h) = zrun zpp E 139 (37, v0 :: v1 :: v2 :: v3 :: .int x :: ls, .int x :: sk, h) := zrun_at rfl
theorem zi139_37 {E : zE} {a0 a1 a2 a3 : Value} {x : Nat} {ls sk : List Value} {h : zH} : zrun zpp E 139 (37, ls, a3 :: a2 :: a1 :: a0 :: .ref x :: sk, h) = (zcls h x).bind (fun d => (zsel d [10, 140]).bind (fun M' => zcl1 E 139 40 M' ls sk [.ref x, a0, a1, a2, a3] h)) := zg_vir (as := [a0, a1, a2, a3]) rfl rfl
theorem zi139_40 {E : zE} {x y : Int32} {ls sk : List Value} {h : zH} : zrun zpp E 139 (40, ls, .int y :: .int x :: sk, h) = if zlow sk = true then zrun zpp E 139 (43, ls, .int (if y < x then y else x) :: sk, h) else none := zrun_at rfl
theorem zi139_43 {E : zE} {x : Int32} {ls sk : List Value} {h : zH} : zrun zpp E 139 (43, ls, .int x :: sk, h) = if zfree ls 5 = true then zrun zpp E 139 (45, ls.set 5 (.int x), sk, h) else none := zg_ist rfl (fun _ _ _ => rfl)
theorem zi139_45 {E : zE} {v0 v1 v2 v3 v4 v5 : Value} {x : Int32} {ls sk : List Value} {h : zH} : zrun zpp E 139 (45, v0 :: v1 :: v2 :: v3 :: v4 :: v5 :: .int x :: ls, sk, h) = if zfree (v0 :: v1 :: v2 :: v3 :: v4 :: v5 :: .int x :: ls) 6 = true then zrun zpp E 139 (48, v0 :: v1 :: v2 :: v3 :: v4 :: v5 :: .int (x + 1) :: ls, sk, h) else none := by rw [← ci_1]; exact zrun_at rfl
theorem zi139_48 {E : zE} {ls sk : List Value} {h : zH} : zrun zpp E 139 (48, ls, sk, h) = zrun zpp E 139 (7, ls, sk, h) := zrun_at rfl
theorem zi139_51 {E : zE} {v0 v1 v2 v3 v4 : Value} {x : Int32} {ls sk : List Value} {h : zH} : zrun zpp E 139 (51, v0 :: v1 :: v2 :: v3 :: v4 :: .int x :: ls, sk, h) = zrun zpp E 139 (53, v0 :: v1 :: v2 :: v3 :: v4 :: .int x :: ls, .int x :: sk, h) := zrun_at rfl
theorem zi139_53 {E : zE} {x : Int32} {ls sk : List Value} {h : zH} : zrun zpp E 139 (53, ls, [.int x], h) = some (some (.int x), h) := zrun_at rfl
-- 140 NineDown.costOf
theorem zi140_0 {E : zE} {x : Nat} {ls sk : List Value} {h : zH} : zrun zpp E 140 (0, .ref x :: ls, sk, h) = zrun zpp E 140 (1, .ref x :: ls, .ref x :: sk, h) := zrun_at rfl
theorem zi140_0n {E : zE} {ls sk : List Value} {h : zH} : zrun zpp E 140 (0, .null :: ls, sk, h) = zrun zpp E 140 (1, .null :: ls, .null :: sk, h) := zrun_at rfl
theorem zi140_1 {E : zE} {x : Nat} {ls sk : List Value} {h : zH} : zrun zpp E 140 (1, ls, .ref x :: sk, h) = (zfld [10] h x 7).bind (fun v => zrun zpp E 140 (4, ls, v :: sk, h)) := zg_getf rfl
theorem zi140_4 {E : zE} {v0 : Value} {x : Int32} {ls sk : List Value} {h : zH} : zrun zpp E 140 (4, v0 :: .int x :: ls, sk, h) = zrun zpp E 140 (5, v0 :: .int x :: ls, .int x :: sk, h) := zrun_at rfl
theorem zi140_5 {E : zE} {a0 : Value} {x : Nat} {ls sk : List Value} {h : zH} : zrun zpp E 140 (5, ls, a0 :: .ref x :: sk, h) = (zcls h x).bind (fun d => (zsel d [9, 73]).bind (fun M' => zcl1 E 140 8 M' ls sk [.ref x, a0] h)) := zg_vir (as := [a0]) rfl rfl
theorem zi140_8 {E : zE} {x : Nat} {ls sk : List Value} {h : zH} : zrun zpp E 140 (8, ls, .ref x :: sk, h) = if zfree ls 5 = true then zrun zpp E 140 (10, ls.set 5 (.ref x), sk, h) else none := zg_astr rfl (fun _ _ _ => rfl)
theorem zi140_8n {E : zE} {ls sk : List Value} {h : zH} : zrun zpp E 140 (8, ls, .null :: sk, h) = if zfree ls 5 = true then zrun zpp E 140 (10, ls.set 5 .null, sk, h) else none := zg_astn rfl (fun _ _ _ => rfl)
theorem zi140_10 {E : zE} {v0 v1 v2 v3 v4 : Value} {x : Nat} {ls sk : List Value} {h : zH} : zrun zpp E 140 (10, v0 :: v1 :: v2 :: v3 :: v4 :: .ref x :: ls, sk, h) = zrun zpp E 140 (12, v0 :: v1 :: v2 :: v3 :: v4 :: .ref x :: ls, .ref x :: sk, h) := zrun_at rfl
theorem zi140_10n {E : zE} {v0 v1 v2 v3 v4 : Value} {ls sk : List Value} {h : zH} : zrun zpp E 140 (10, v0 :: v1 :: v2 :: v3 :: v4 :: .null :: ls, sk, h) = zrun zpp E 140 (12, v0 :: v1 :: v2 :: v3 :: v4 :: .null :: ls, .null :: sk, h) := zrun_at rfl
theorem zi140_12 {E : zE} {x : Nat} {ls sk : List Value} {h : zH} : zrun zpp E 140 (12, ls, .ref x :: sk, h) = zrun zpp E 140 (15, ls, sk, h) := zrun_at rfl
theorem zi140_12n {E : zE} {ls sk : List Value} {h : zH} : zrun zpp E 140 (12, ls, .null :: sk, h) = zrun zpp E 140 (33, ls, sk, h) := zrun_at rfl
theorem zi140_15 {E : zE} {v0 v1 v2 v3 v4 : Value} {x : Nat} {ls sk : List Value} {h : zH} : zrun zpp E 140 (15, v0 :: v1 :: v2 :: v3 :: v4 :: .ref x :: ls, sk, h) = zrun zpp E 140 (17, v0 :: v1 :: v2 :: v3 :: v4 :: .ref x :: ls, .ref x :: sk, h) := zrun_at rfl
theorem zi140_15n {E : zE} {v0 v1 v2 v3 v4 : Value} {ls sk : List Value} {h : zH} : zrun zpp E 140 (15, v0 :: v1 :: v2 :: v3 :: v4 :: .null :: ls, sk, h) = zrun zpp E 140 (17, v0 :: v1 :: v2 :: v3 :: v4 :: .null :: ls, .null :: sk, h) := zrun_at rfl
theorem zi140_17 {E : zE} {x : Nat} {ls sk : List Value} {h : zH} : zrun zpp E 140 (17, .ref x :: ls, sk, h) = zrun zpp E 140 (18, .ref x :: ls, .ref x :: sk, h) := zrun_at rfl
theorem zi140_17n {E : zE} {ls sk : List Value} {h : zH} : zrun zpp E 140 (17, .null :: ls, sk, h) = zrun zpp E 140 (18, .null :: ls, .null :: sk, h) := zrun_at rfl
theorem zi140_18 {E : zE} {x : Nat} {ls sk : List Value} {h : zH} : zrun zpp E 140 (18, ls, .ref x :: sk, h) = (zfld [10] h x 7).bind (fun v => zrun zpp E 140 (21, ls, v :: sk, h)) := zg_getf rfl
theorem zi140_21 {E : zE} {x : Nat} {ls sk : List Value} {h : zH} : zrun zpp E 140 (21, ls, .ref x :: sk, h) = (zfld [9] h x 6).bind (fun v => zrun zpp E 140 (24, ls, v :: sk, h)) := zg_getf rfl
theorem zi140_24 {E : zE} {v0 v1 : Value} {x : Int32} {ls sk : List Value} {h : zH} : zrun zpp E 140 (24, v0 :: v1 :: .int x :: ls, sk, h) = zrun zpp E 140 (25, v0 :: v1 :: .int x :: ls, .int x :: sk, h) := zrun_at rfl
theorem zi140_25 {E : zE} {x : Nat} {i : Int32} {ls sk : List Value} {h : zH} : zrun zpp E 140 (25, ls, .int i :: .ref x :: sk, h) = (zarr 0 h x i).bind (fun v => zrun zpp E 140 (26, ls, .int v :: sk, h)) := zg_iald rfl
theorem zi140_26 {E : zE} {v0 v1 v2 : Value} {x : Int32} {ls sk : List Value} {h : zH} : zrun zpp E 140 (26, v0 :: v1 :: v2 :: .int x :: ls, sk, h) = zrun zpp E 140 (27, v0 :: v1 :: v2 :: .int x :: ls, .int x :: sk, h) := zrun_at rfl
theorem zi140_27 {E : zE} {a0 a1 : Value} {x : Nat} {ls sk : List Value} {h : zH} : zrun zpp E 140 (27, ls, a1 :: a0 :: .ref x :: sk, h) = (zcls h x).bind (fun d => (zsel d [1, 20, 2, 15, 3, 15, 4, 30, 7, 20]).bind (fun M' => zcl1 E 140 30 M' ls sk [.ref x, a0, a1] h)) := zg_vir (as := [a0, a1]) rfl rfl
theorem zi140_30 {E : zE} {x : Int32} {ls sk : List Value} {h : zH} : zrun zpp E 140 (30, ls, .int x :: sk, h) = if x = 0 then zrun zpp E 140 (33, ls, sk, h) else zrun zpp E 140 (36, ls, sk, h) := zrun_at rfl
theorem zi140_33 {E : zE} {ls sk : List Value} {h : zH} : zrun zpp E 140 (33, ls, sk, h) = zrun zpp E 140 (35, ls, .int 268435456 :: sk, h) := zg_ldc rfl ci_268435456
theorem zi140_35 {E : zE} {x : Int32} {ls sk : List Value} {h : zH} : zrun zpp E 140 (35, ls, [.int x], h) = some (some (.int x), h) := zrun_at rfl
theorem zi140_36 {E : zE} {v0 v1 v2 v3 v4 : Value} {x : Nat} {ls sk : List Value} {h : zH} : zrun zpp E 140 (36, v0 :: v1 :: v2 :: v3 :: v4 :: .ref x :: ls, sk, h) = zrun zpp E 140 (38, v0 :: v1 :: v2 :: v3 :: v4 :: .ref x :: ls, .ref x :: sk, h) := zrun_at rfl
theorem zi140_36n {E : zE} {v0 v1 v2 v3 v4 : Value} {ls sk : List Value} {h : zH} : zrun zpp E 140 (36, v0 :: v1 :: v2 :: v3 :: v4 :: .null :: ls, sk, h) = zrun zpp E 140 (38, v0 :: v1 :: v2 :: v3 :: v4 :: .null :: ls, .null :: sk, h) := zrun_at rfl
theorem zi140_38 {E : zE} {x : Nat} {ls sk : List Value} {h : zH} : zrun zpp E 140 (38, .ref x :: ls, sk, h) = zrun zpp E 140 (39, .ref x :: ls, .ref x :: sk, h) := zrun_at rfl
theorem zi140_38n {E : zE} {ls sk : List Value} {h : zH} : zrun zpp E 140 (38, .null :: ls, sk, h) = zrun zpp E 140 (39, .null :: ls, .null :: sk, h) := zrun_at rfl
theorem zi140_39 {E : zE} {x : Nat} {ls sk : List Value} {h : zH} : zrun zpp E 140 (39, ls, .ref x :: sk, h) = (zfld [10] h x 7).bind (fun v => zrun zpp E 140 (42, ls, v :: sk, h)) := zg_getf rfl
theorem zi140_42 {E : zE} {x : Nat} {ls sk : List Value} {h : zH} : zrun zpp E 140 (42, ls, .ref x :: sk, h) = (zfld [9] h x 6).bind (fun v => zrun zpp E 140 (45, ls, v :: sk, h)) := zg_getf rfl
theorem zi140_45 {E : zE} {v0 v1 : Value} {x : Int32} {ls sk : List Value} {h : zH} : zrun zpp E 140 (45, v0 :: v1 :: .int x :: ls, sk, h) = zrun zpp E 140 (46, v0 :: v1 :: .int x :: ls, .int x :: sk, h) := zrun_at rfl
theorem zi140_46 {E : zE} {x : Nat} {i : Int32} {ls sk : List Value} {h : zH} : zrun zpp E 140 (46, ls, .int i :: .ref x :: sk, h) = (zarr 0 h x i).bind (fun v => zrun zpp E 140 (47, ls, .int v :: sk, h)) := zg_iald rfl
theorem zi140_47 {E : zE} {v0 v1 v2 : Value} {x : Int32} {ls sk : List Value} {h : zH} : zrun zpp E 140 (47, v0 :: v1 :: v2 :: .int x :: ls, sk, h) = zrun zpp E 140 (48, v0 :: v1 :: v2 :: .int x :: ls, .int x :: sk, h) := zrun_at rfl
theorem zi140_48 {E : zE} {x : Nat} {ls sk : List Value} {h : zH} : zrun zpp E 140 (48, .ref x :: ls, sk, h) = zrun zpp E 140 (49, .ref x :: ls, .ref x :: sk, h) := zrun_at rfl
theorem zi140_48n {E : zE} {ls sk : List Value} {h : zH} : zrun zpp E 140 (48, .null :: ls, sk, h) = zrun zpp E 140 (49, .null :: ls, .null :: sk, h) := zrun_at rfl
theorem zi140_49 {E : zE} {x : Nat} {ls sk : List Value} {h : zH} : zrun zpp E 140 (49, ls, .ref x :: sk, h) = (zfld [10] h x 7).bind (fun v => zrun zpp E 140 (52, ls, v :: sk, h)) := zg_getf rfl
theorem zi140_52 {E : zE} {a0 a1 a2 : Value} {x : Nat} {ls sk : List Value} {h : zH} : zrun zpp E 140 (52, ls, a2 :: a1 :: a0 :: .ref x :: sk, h) = (zcls h x).bind (fun d => (zsel d [1, 9, 2, 16, 3, 26, 4, 31, 7, 57]).bind (fun M' => zcl1 E 140 55 M' ls sk [.ref x, a0, a1, a2] h)) := zg_vir (as := [a0, a1, a2]) rfl rfl
theorem zi140_55 {E : zE} {x : Int32} {ls sk : List Value} {h : zH} : zrun zpp E 140 (55, ls, .int x :: sk, h) = if zfree ls 6 = true then zrun zpp E 140 (57, ls.set 6 (.int x), sk, h) else none := zg_ist rfl (fun _ _ _ => rfl)
theorem zi140_57 {E : zE} {v0 v1 v2 v3 : Value} {x : Int32} {ls sk : List Value} {h : zH} : zrun zpp E 140 (57, v0 :: v1 :: v2 :: v3 :: .int x :: ls, sk, h) = zrun zpp E 140 (59, v0 :: v1 :: v2 :: v3 :: .int x :: ls, .int x :: sk, h) := zrun_at rfl
theorem zi140_59 {E : zE} {x : Int32} {ls sk : List Value} {h : zH} : zrun zpp E 140 (59, ls, .int x :: sk, h) = if x = 0 then zrun zpp E 140 (78, ls, sk, h) else zrun zpp E 140 (62, ls, sk, h) := zrun_at rfl
theorem zi140_62 {E : zE} {v0 v1 v2 v3 v4 : Value} {x : Nat} {ls sk : List Value} {h : zH} : zrun zpp E 140 (62, v0 :: v1 :: v2 :: v3 :: v4 :: .ref x :: ls, sk, h) = zrun zpp E 140 (64, v0 :: v1 :: v2 :: v3 :: v4 :: .ref x :: ls, .ref x :: sk, h) := zrun_at rfl
theorem zi140_62n {E : zE} {v0 v1 v2 v3 v4 : Value} {ls sk : List Value} {h : zH} : zrun zpp E 140 (62, v0 :: v1 :: v2 :: v3 :: v4 :: .null :: ls, sk, h) = zrun zpp E 140 (64, v0 :: v1 :: v2 :: v3 :: v4 :: .null :: ls, .null :: sk, h) := zrun_at rfl
theorem zi140_64 {E : zE} {v0 v1 v2 : Value} {x : Int32} {ls sk : List Value} {h : zH} : zrun zpp E 140 (64, v0 :: v1 :: v2 :: .int x :: ls, sk, h) = zrun zpp E 140 (65, v0 :: v1 :: v2 :: .int x :: ls, .int x :: sk, h) := zrun_at rfl
theorem zi140_65 {E : zE} {a0 : Value} {x : Nat} {ls sk : List Value} {h : zH} : zrun zpp E 140 (65, ls, a0 :: .ref x :: sk, h) = (zcls h x).bind (fun d => (zsel d [1, 10, 2, 21, 3, 21, 4, 58, 7, 58]).bind (fun M' => zcl1 E 140 68 M' ls sk [.ref x, a0] h)) := zg_vir (as := [a0]) rfl rfl
theorem zi140_68 {E : zE} {ls sk : List Value} {h : zH} : zrun zpp E 140 (68, ls, sk, h) = zrun zpp E 140 (71, ls, .int 4096 :: sk, h) := zg_sipush rfl ci_4096
theorem zi140_71 {E : zE} {x y : Int32} {ls sk : List Value} {h : zH} : zrun zpp E 140 (71, ls, .int y :: .int x :: sk, h) = zrun zpp E 140 (72, ls, .int (x * y) :: sk, h) := zrun_at rfl
theorem zi140_72 {E : zE} {v0 v1 v2 v3 v4 v5 : Value} {x : Int32} {ls sk : List Value} {h : zH} : zrun zpp E 140 (72, v0 :: v1 :: v2 :: v3 :: v4 :: v5 :: .int x :: ls, sk, h) = zrun zpp E 140 (74, v0 :: v1 :: v2 :: v3 :: v4 :: v5 :: .int x :: ls, .int x :: sk, h) := zrun_at rfl
theorem zi140_74 {E : zE} {x y : Int32} {ls sk : List Value} {h : zH} : zrun zpp E 140 (74, ls, .int y :: .int x :: sk, h) = zrun zpp E 140 (75, ls, .int (x + y) :: sk, h) := zrun_at rfl
theorem zi140_75 {E : zE} {ls sk : List Value} {h : zH} : zrun zpp E 140 (75, ls, sk, h) = zrun zpp E 140 (80, ls, sk, h) := zrun_at rfl
theorem zi140_78 {E : zE} {v0 v1 v2 v3 v4 v5 : Value} {x : Int32} {ls sk : List Value} {h : zH} : zrun zpp E 140 (78, v0 :: v1 :: v2 :: v3 :: v4 :: v5 :: .int x :: ls, sk, h) = zrun zpp E 140 (80, v0 :: v1 :: v2 :: v3 :: v4 :: v5 :: .int x :: ls, .int x :: sk, h) := zrun_at rfl
theorem zi140_80 {E : zE} {x : Int32} {ls sk : List Value} {h : zH} : zrun zpp E 140 (80, ls, [.int x], h) = some (some (.int x), h) := zrun_at rfl
-- 141 NineDown.leastRestCost
theorem zi141_0 {E : zE} {ls sk : List Value} {h : zH} : zrun zpp E 141 (0, ls, sk, h) = zrun zpp E 141 (2, ls, .int 268435456 :: sk, h) := zg_ldc rfl ci_268435456
theorem zi141_2 {E : zE} {x : Int32} {ls sk : List Value} {h : zH} : zrun zpp E 141 (2, ls, .int x :: sk, h) = if zfree ls 2 = true then zrun zpp E 141 (3, ls.set 2 (.int x), sk, h) else none := zg_ist rfl (fun _ _ _ => rfl)
theorem zi141_3 {E : zE} {ls sk : List Value} {h : zH} : zrun zpp E 141 (3, ls, sk, h) = zrun zpp E 141 (4, ls, .int 0 :: sk, h) := zg_iconst rfl ci_0
theorem zi141_4 {E : zE} {x : Int32} {ls sk : List Value} {h : zH} : zrun zpp E 141 (4, ls, .int x :: sk, h) = if zfree ls 3 = true then zrun zpp E 141 (5, ls.set 3 (.int x), sk, h) else none := zg_ist rfl (fun _ _ _ => rfl)
theorem zi141_5 {E : zE} {v0 v1 v2 : Value} {x : Int32} {ls sk : List Value} {h : zH} : zrun zpp E 141 (5, v0 :: v1 :: v2 :: .int x :: ls, sk, h) = zrun zpp E 141 (6, v0 :: v1 :: v2 :: .int x :: ls, .int x :: sk, h) := zrun_at rfl
theorem zi141_6 {E : zE} {x : Nat} {ls sk : List Value} {h : zH} : zrun zpp E 141 (6, .ref x :: ls, sk, h) = zrun zpp E 141 (7, .ref x :: ls, .ref x :: sk, h) := zrun_at rfl
theorem zi141_6n {E : zE} {ls sk : List Value} {h : zH} : zrun zpp E 141 (6, .null :: ls, sk, h) = zrun zpp E 141 (7, .null :: ls, .null :: sk, h) := zrun_at rfl
theorem zi141_7 {E : zE} {x : Nat} {ls sk : List Value} {h : zH} : zrun zpp E 141 (7, ls, .ref x :: sk, h) = (zfld [10] h x 7).bind (fun v => zrun zpp E 141 (10, ls, v :: sk, h)) := zg_getf rfl
theorem zi141_10 {E : zE} {x : Nat} {ls sk : List Value} {h : zH} : zrun zpp E 141 (10, ls, .ref x :: sk, h) = (zfld [9] h x 3).bind (fun v => zrun zpp E 141 (13, ls, v :: sk, h)) := zg_getf rfl
theorem zi141_13 {E : zE} {x y : Int32} {ls sk : List Value} {h : zH} : zrun zpp E 141 (13, ls, .int y :: .int x :: sk, h) = if y ≤ x then zrun zpp E 141 (75, ls, sk, h) else zrun zpp E 141 (16, ls, sk, h) := zrun_at rfl
theorem zi141_16 {E : zE} {x : Nat} {ls sk : List Value} {h : zH} : zrun zpp E 141 (16, .ref x :: ls, sk, h) = zrun zpp E 141 (17, .ref x :: ls, .ref x :: sk, h) := zrun_at rfl
theorem zi141_16n {E : zE} {ls sk : List Value} {h : zH} : zrun zpp E 141 (16, .null :: ls, sk, h) = zrun zpp E 141 (17, .null :: ls, .null :: sk, h) := zrun_at rfl
theorem zi141_17 {E : zE} {x : Nat} {ls sk : List Value} {h : zH} : zrun zpp E 141 (17, ls, .ref x :: sk, h) = (zfld [10] h x 7).bind (fun v => zrun zpp E 141 (20, ls, v :: sk, h)) := zg_getf rfl
theorem zi141_20 {E : zE} {v0 v1 v2 : Value} {x : Int32} {ls sk : List Value} {h : zH} : zrun zpp E 141 (20, v0 :: v1 :: v2 :: .int x :: ls, sk, h) = zrun zpp E 141 (21, v0 :: v1 :: v2 :: .int x :: ls, .int x :: sk, h) := zrun_at rfl
theorem zi141_21 {E : zE} {v0 : Value} {x : Int32} {ls sk : List Value} {h : zH} : zrun zpp E 141 (21, v0 :: .int x :: ls, sk, h) = zrun zpp E 141 (22, v0 :: .int x :: ls, .int x :: sk, h) := zrun_at rfl
theorem zi141_22 {E : zE} {a0 a1 : Value} {x : Nat} {ls sk : List Value} {h : zH} : zrun zpp E 141 (22, ls, a1 :: a0 :: .ref x :: sk, h) = (zcls h x).bind (fun d => (zsel d [9, 77]).bind (fun M' => zcl1 E 141 25 M' ls sk [.ref x, a0, a1] h)) := zg_vir (as := [a0, a1]) rfl rfl
theorem zi141_25 {E : zE} {x : Int32} {ls sk : List Value} {h : zH} : zrun zpp E 141 (25, ls, .int x :: sk, h) = if x = 0 then zrun zpp E 141 (69, ls, sk, h) else zrun zpp E 141 (28, ls, sk, h) := zrun_at rfl
theorem zi141_28 {E : zE} {x : Nat} {ls sk : List Value} {h : zH} : zrun zpp E 141 (28, .ref x :: ls, sk, h) = zrun zpp E 141 (29, .ref x :: ls, .ref x :: sk, h) := zrun_at rfl
theorem zi141_28n {E : zE} {ls sk : List Value} {h : zH} : zrun zpp E 141 (28, .null :: ls, sk, h) = zrun zpp E 141 (29, .null :: ls, .null :: sk, h) := zrun_at rfl
theorem zi141_29 {E : zE} {x : Nat} {ls sk : List Value} {h : zH} : zrun zpp E 141 (29, ls, .ref x :: sk, h) = (zfld [10] h x 5).bind (fun v => zrun zpp E 141 (32, ls, v :: sk, h)) := zg_getf rfl
theorem zi141_32 {E : zE} {v0 v1 v2 : Value} {x : Int32} {ls sk : List Value} {h : zH} : zrun zpp E 141 (32, v0 :: v1 :: v2 :: .int x :: ls, sk, h) = zrun zpp E 141 (33, v0 :: v1 :: v2 :: .int x :: ls, .int x :: sk, h) := zrun_at rfl
theorem zi141_33 {E : zE} {ls sk : List Value} {h : zH} : zrun zpp E 141 (33, ls, sk, h) = zrun zpp E 141 (35, ls, .int 8 :: sk, h) := zg_bipush rfl ci_8
theorem zi141_35 {E : zE} {x y : Int32} {ls sk : List Value} {h : zH} : zrun zpp E 141 (35, ls, .int y :: .int x :: sk, h) = zrun zpp E 141 (36, ls, .int (x * y) :: sk, h) := zrun_at rfl
theorem zi141_36 {E : zE} {x : Nat} {ls sk : List Value} {h : zH} : zrun zpp E 141 (36, .ref x :: ls, sk, h) = zrun zpp E 141 (37, .ref x :: ls, .ref x :: sk, h) := zrun_at rfl
theorem zi141_36n {E : zE} {ls sk : List Value} {h : zH} : zrun zpp E 141 (36, .null :: ls, sk, h) = zrun zpp E 141 (37, .null :: ls, .null :: sk, h) := zrun_at rfl
theorem zi141_37 {E : zE} {x : Nat} {ls sk : List Value} {h : zH} : zrun zpp E 141 (37, ls, .ref x :: sk, h) = (zfld [10] h x 7).bind (fun v => zrun zpp E 141 (40, ls, v :: sk, h)) := zg_getf rfl
theorem zi141_40 {E : zE} {v0 v1 v2 : Value} {x : Int32} {ls sk : List Value} {h : zH} : zrun zpp E 141 (40, v0 :: v1 :: v2 :: .int x :: ls, sk, h) = zrun zpp E 141 (41, v0 :: v1 :: v2 :: .int x :: ls, .int x :: sk, h) := zrun_at rfl
theorem zi141_41 {E : zE} {v0 : Value} {x : Int32} {ls sk : List Value} {h : zH} : zrun zpp E 141 (41, v0 :: .int x :: ls, sk, h) = zrun zpp E 141 (42, v0 :: .int x :: ls, .int x :: sk, h) := zrun_at rfl
theorem zi141_42 {E : zE} {a0 a1 : Value} {x : Nat} {ls sk : List Value} {h : zH} : zrun zpp E 141 (42, ls, a1 :: a0 :: .ref x :: sk, h) = (zcls h x).bind (fun d => (zsel d [9, 79]).bind (fun M' => zcl1 E 141 45 M' ls sk [.ref x, a0, a1] h)) := zg_vir (as := [a0, a1]) rfl rfl
theorem zi141_45 {E : zE} {x y : Int32} {ls sk : List Value} {h : zH} : zrun zpp E 141 (45, ls, .int y :: .int x :: sk, h) = zrun zpp E 141 (46, ls, .int (x + y) :: sk, h) := zrun_at rfl
theorem zi141_46 {E : zE} {x : Nat} {i : Int32} {ls sk : List Value} {h : zH} : zrun zpp E 141 (46, ls, .int i :: .ref x :: sk, h) = (zarr 0 h x i).bind (fun v => zrun zpp E 141 (47, ls, .int v :: sk, h)) := zg_iald rfl
theorem zi141_47 {E : zE} {x : Int32} {ls sk : List Value} {h : zH} : zrun zpp E 141 (47, ls, .int x :: sk, h) = if zfree ls 4 = true then zrun zpp E 141 (49, ls.set 4 (.int x), sk, h) else none := zg_ist rfl (fun _ _ _ => rfl)
theorem zi141_49 {E : zE} {v0 v1 : Value} {x : Int32} {ls sk : List Value} {h : zH} : zrun zpp E 141 (49, v0 :: v1 :: .int x :: ls, sk, h) = zrun zpp E 141 (50, v0 :: v1 :: .int x :: ls, .int x :: sk, h) := zrun_at rfl
theorem zi141_50 {E : zE} {v0 v1 v2 v3 : Value} {x : Int32} {ls sk : List Value} {h : zH} : zrun zpp E 141 (50, v0 :: v1 :: v2 :: v3 :: .int x :: ls, sk, h) = zrun zpp E 141 (52, v0 :: v1 :: v2 :: v3 :: .int x :: ls, .int x :: sk, h) := zrun_at rfl
theorem zi141_52 {E : zE} {x : Nat} {ls sk : List Value} {h : zH} : zrun zpp E 141 (52, .ref x :: ls, sk, h) = zrun zpp E 141 (53, .ref x :: ls, .ref x :: sk, h) := zrun_at rfl
theorem zi141_52n {E : zE} {ls sk : List Value} {h : zH} : zrun zpp E 141 (52, .null :: ls, sk, h) = zrun zpp E 141 (53, .null :: ls, .null :: sk, h) := zrun_at rfl
theorem zi141_53 {E : zE} {x : Nat} {ls sk : List Value} {h : zH} : zrun zpp E 141 (53, ls, .ref x :: sk, h) = (zfld [10] h x 6).bind (fun v => zrun zpp E 141 (56, ls, v :: sk, h)) := zg_getf rfl
theorem zi141_56 {E : zE} {v0 : Value} {x : Int32} {ls sk : List Value} {h : zH} : zrun zpp E 141 (56, v0 :: .int x :: ls, sk, h) = zrun zpp E 141 (57, v0 :: .int x :: ls, .int x :: sk, h) := zrun_at rfl
theorem zi141_57 {E : zE} {ls sk : List Value} {h : zH} : zrun zpp E 141 (57, ls, sk, h) = zrun zpp E 141 (58, ls, .int 1 :: sk, h) := zg_iconst rfl ci_1
theorem zi141_58 {E : zE} {v0 v1 v2 : Value} {x : Int32} {ls sk : List Value} {h : zH} : zrun zpp E 141 (58, v0 :: v1 :: v2 :: .int x :: ls, sk, h) = zrun zpp E 141 (59, v0 :: v1 :: v2 :: .int x :: ls, .int x :: sk, h) := zrun_at rfl
theorem zi141_59 {E : zE} {x y : Int32} {ls sk : List Value} {h : zH} : zrun zpp E 141 (59, ls, .int y :: .int x :: sk, h) = zrun zpp E 141 (60, ls, .int (x <<< (y &&& 31)) :: sk, h) := zrun_at rfl
theorem zi141_60 {E : zE} {ls sk : List Value} {h : zH} : zrun zpp E 141 (60, ls, sk, h) = zrun zpp E 141 (61, ls, .int (-1) :: sk, h) := zg_iconst rfl ci_m1
theorem zi141_61 {E : zE} {x y : Int32} {ls sk : List Value} {h : zH} : zrun zpp E 141 (61, ls, .int y :: .int x :: sk, h) = zrun zpp E 141 (62, ls, .int (x ^^^ y) :: sk, h) := zrun_at rfl
theorem zi141_62 {E : zE} {x y : Int32} {ls sk : List Value} {h : zH} : zrun zpp E 141 (62, ls, .int y :: .int x :: sk, h) = zrun zpp E 141 (63, ls, .int (x &&& y) :: sk, h) := zrun_at rfl
theorem zi141_63 {E : zE} {x : Nat} {i : Int32} {ls sk : List Value} {h : zH} : zrun zpp E 141 (63, ls, .int i :: .ref x :: sk, h) = (zarr 0 h x i).bind (fun v => zrun zpp E 141 (64, ls, .int v :: sk, h)) := zg_iald rfl
theorem zi141_64 {E : zE} {x y : Int32} {ls sk : List Value} {h : zH} : zrun zpp E 141 (64, ls, .int y :: .int x :: sk, h) = zrun zpp E 141 (65, ls, .int (x + y) :: sk, h) := zrun_at rfl
theorem zi141_65 {E : zE} {x y : Int32} {ls sk : List Value} {h : zH} : zrun zpp E 141 (65, ls, .int y :: .int x :: sk, h) = if zlow sk = true then zrun zpp E 141 (68, ls, .int (if y < x then y else x) :: sk, h) else none := zrun_at rfl
theorem zi141_68 {E : zE} {x : Int32} {ls sk : List Value} {h : zH} : zrun zpp E 141 (68, ls, .int x :: sk, h) = if zfree ls 2 = true then zrun zpp E 141 (69, ls.set 2 (.int x), sk, h) else none := zg_ist rfl (fun _ _ _ => rfl)
theorem zi141_69 {E : zE} {v0 v1 v2 : Value} {x : Int32} {ls sk : List Value} {h : zH} : zrun zpp E 141 (69, v0 :: v1 :: v2 :: .int x :: ls, sk, h) = if zfree (v0 :: v1 :: v2 :: .int x :: ls) 3 = true then zrun zpp E 141 (72, v0 :: v1 :: v2 :: .int (x + 1) :: ls, sk, h) else none := by rw [← ci_1]; exact zrun_at rfl
theorem zi141_72 {E : zE} {ls sk : List Value} {h : zH} : zrun zpp E 141 (72, ls, sk, h) = zrun zpp E 141 (5, ls, sk, h) := zrun_at rfl
theorem zi141_75 {E : zE} {v0 v1 : Value} {x : Int32} {ls sk : List Value} {h : zH} : zrun zpp E 141 (75, v0 :: v1 :: .int x :: ls, sk, h) = zrun zpp E 141 (76, v0 :: v1 :: .int x :: ls, .int x :: sk, h) := zrun_at rfl
theorem zi141_76 {E : zE} {x : Int32} {ls sk : List Value} {h : zH} : zrun zpp E 141 (76, ls, [.int x], h) = some (some (.int x), h) := zrun_at rfl
-- 142 NineDown.firstLift
theorem zi142_0 {E : zE} {ls sk : List Value} {h : zH} : zrun zpp E 142 (0, ls, sk, h) = zrun zpp E 142 (1, ls, .int 0 :: sk, h) := zg_iconst rfl ci_0
theorem zi142_1 {E : zE} {x : Int32} {ls sk : List Value} {h : zH} : zrun zpp E 142 (1, ls, .int x :: sk, h) = if zfree ls 3 = true then zrun zpp E 142 (2, ls.set 3 (.int x), sk, h) else none := zg_ist rfl (fun _ _ _ => rfl)
theorem zi142_2 {E : zE} {v0 v1 v2 : Value} {x : Int32} {ls sk : List Value} {h : zH} : zrun zpp E 142 (2, v0 :: v1 :: v2 :: .int x :: ls, sk, h) = zrun zpp E 142 (3, v0 :: v1 :: v2 :: .int x :: ls, .int x :: sk, h) := zrun_at rfl
theorem zi142_3 {E : zE} {x : Nat} {ls sk : List Value} {h : zH} : zrun zpp E 142 (3, .ref x :: ls, sk, h) = zrun zpp E 142 (4, .ref x :: ls, .ref x :: sk, h) := zrun_at rfl
theorem zi142_3n {E : zE} {ls sk : List Value} {h : zH} : zrun zpp E 142 (3, .null :: ls, sk, h) = zrun zpp E 142 (4, .null :: ls, .null :: sk, h) := zrun_at rfl
theorem zi142_4 {E : zE} {x : Nat} {ls sk : List Value} {h : zH} : zrun zpp E 142 (4, ls, .ref x :: sk, h) = (zfld [10] h x 7).bind (fun v => zrun zpp E 142 (7, ls, v :: sk, h)) := zg_getf rfl
theorem zi142_7 {E : zE} {x : Nat} {ls sk : List Value} {h : zH} : zrun zpp E 142 (7, ls, .ref x :: sk, h) = (zfld [9] h x 5).bind (fun v => zrun zpp E 142 (10, ls, v :: sk, h)) := zg_getf rfl
theorem zi142_10 {E : zE} {x y : Int32} {ls sk : List Value} {h : zH} : zrun zpp E 142 (10, ls, .int y :: .int x :: sk, h) = if y ≤ x then zrun zpp E 142 (67, ls, sk, h) else zrun zpp E 142 (13, ls, sk, h) := zrun_at rfl
theorem zi142_13 {E : zE} {ls sk : List Value} {h : zH} : zrun zpp E 142 (13, ls, sk, h) = zrun zpp E 142 (14, ls, .int 0 :: sk, h) := zg_iconst rfl ci_0
theorem zi142_14 {E : zE} {x : Int32} {ls sk : List Value} {h : zH} : zrun zpp E 142 (14, ls, .int x :: sk, h) = if zfree ls 4 = true then zrun zpp E 142 (16, ls.set 4 (.int x), sk, h) else none := zg_ist rfl (fun _ _ _ => rfl)
theorem zi142_16 {E : zE} {v0 : Value} {x : Int32} {ls sk : List Value} {h : zH} : zrun zpp E 142 (16, v0 :: .int x :: ls, sk, h) = zrun zpp E 142 (17, v0 :: .int x :: ls, .int x :: sk, h) := zrun_at rfl
theorem zi142_17 {E : zE} {v0 v1 v2 : Value} {x : Int32} {ls sk : List Value} {h : zH} : zrun zpp E 142 (17, v0 :: v1 :: v2 :: .int x :: ls, sk, h) = zrun zpp E 142 (18, v0 :: v1 :: v2 :: .int x :: ls, .int x :: sk, h) := zrun_at rfl
theorem zi142_18 {E : zE} {a0 a1 : Value} {ls sk : List Value} {h : zH} : zrun zpp E 142 (18, ls, a1 :: a0 :: sk, h) = zcl1 E 142 21 127 ls sk [a0, a1] h := zg_inv (as := [a0, a1]) rfl rfl
theorem zi142_21 {E : zE} {x : Int32} {ls sk : List Value} {h : zH} : zrun zpp E 142 (21, ls, .int x :: sk, h) = if x = 0 then zrun zpp E 142 (61, ls, sk, h) else zrun zpp E 142 (24, ls, sk, h) := zrun_at rfl
theorem zi142_24 {E : zE} {v0 v1 v2 v3 : Value} {x : Int32} {ls sk : List Value} {h : zH} : zrun zpp E 142 (24, v0 :: v1 :: v2 :: v3 :: .int x :: ls, sk, h) = zrun zpp E 142 (26, v0 :: v1 :: v2 :: v3 :: .int x :: ls, .int x :: sk, h) := zrun_at rfl
theorem zi142_26 {E : zE} {x : Nat} {ls sk : List Value} {h : zH} : zrun zpp E 142 (26, .ref x :: ls, sk, h) = zrun zpp E 142 (27, .ref x :: ls, .ref x :: sk, h) := zrun_at rfl
theorem zi142_26n {E : zE} {ls sk : List Value} {h : zH} : zrun zpp E 142 (26, .null :: ls, sk, h) = zrun zpp E 142 (27, .null :: ls, .null :: sk, h) := zrun_at rfl
theorem zi142_27 {E : zE} {x : Nat} {ls sk : List Value} {h : zH} : zrun zpp E 142 (27, ls, .ref x :: sk, h) = (zfld [10] h x 7).bind (fun v => zrun zpp E 142 (30, ls, v :: sk, h)) := zg_getf rfl
theorem zi142_30 {E : zE} {x : Nat} {ls sk : List Value} {h : zH} : zrun zpp E 142 (30, ls, .ref x :: sk, h) = (zfld [9] h x 3).bind (fun v => zrun zpp E 142 (33, ls, v :: sk, h)) := zg_getf rfl
theorem zi142_33 {E : zE} {x y : Int32} {ls sk : List Value} {h : zH} : zrun zpp E 142 (33, ls, .int y :: .int x :: sk, h) = if y ≤ x then zrun zpp E 142 (61, ls, sk, h) else zrun zpp E 142 (36, ls, sk, h) := zrun_at rfl
theorem zi142_36 {E : zE} {x : Nat} {ls sk : List Value} {h : zH} : zrun zpp E 142 (36, .ref x :: ls, sk, h) = zrun zpp E 142 (37, .ref x :: ls, .ref x :: sk, h) := zrun_at rfl
theorem zi142_36n {E : zE} {ls sk : List Value} {h : zH} : zrun zpp E 142 (36, .null :: ls, sk, h) = zrun zpp E 142 (37, .null :: ls, .null :: sk, h) := zrun_at rfl
theorem zi142_37 {E : zE} {v0 v1 v2 : Value} {x : Int32} {ls sk : List Value} {h : zH} : zrun zpp E 142 (37, v0 :: v1 :: v2 :: .int x :: ls, sk, h) = zrun zpp E 142 (38, v0 :: v1 :: v2 :: .int x :: ls, .int x :: sk, h) := zrun_at rfl
theorem zi142_38 {E : zE} {v0 v1 v2 v3 : Value} {x : Int32} {ls sk : List Value} {h : zH} : zrun zpp E 142 (38, v0 :: v1 :: v2 :: v3 :: .int x :: ls, sk, h) = zrun zpp E 142 (40, v0 :: v1 :: v2 :: v3 :: .int x :: ls, .int x :: sk, h) := zrun_at rfl
theorem zi142_40 {E : zE} {v0 v1 : Value} {x : Int32} {ls sk : List Value} {h : zH} : zrun zpp E 142 (40, v0 :: v1 :: .int x :: ls, sk, h) = zrun zpp E 142 (41, v0 :: v1 :: .int x :: ls, .int x :: sk, h) := zrun_at rfl
theorem zi142_41 {E : zE} {a0 a1 a2 : Value} {x : Nat} {ls sk : List Value} {h : zH} : zrun zpp E 142 (41, ls, a2 :: a1 :: a0 :: .ref x :: sk, h) = (zcls h x).bind (fun d => (zsel d [10, 143]).bind (fun M' => zcl1 E 142 44 M' ls sk [.ref x, a0, a1, a2] h)) := zg_vir (as := [a0, a1, a2]) rfl rfl
theorem zi142_44 {E : zE} {x : Int32} {ls sk : List Value} {h : zH} : zrun zpp E 142 (44, ls, .int x :: sk, h) = if x = 0 then zrun zpp E 142 (55, ls, sk, h) else zrun zpp E 142 (47, ls, sk, h) := zrun_at rfl
theorem zi142_47 {E : zE} {ls sk : List Value} {h : zH} : zrun zpp E 142 (47, ls, sk, h) = zrun zpp E 142 (49, ls, .int 10 :: sk, h) := zg_bipush rfl ci_10
theorem zi142_49 {E : zE} {v0 v1 v2 : Value} {x : Int32} {ls sk : List Value} {h : zH} : zrun zpp E 142 (49, v0 :: v1 :: v2 :: .int x :: ls, sk, h) = zrun zpp E 142 (50, v0 :: v1 :: v2 :: .int x :: ls, .int x :: sk, h) := zrun_at rfl
theorem zi142_50 {E : zE} {x y : Int32} {ls sk : List Value} {h : zH} : zrun zpp E 142 (50, ls, .int y :: .int x :: sk, h) = zrun zpp E 142 (51, ls, .int (x * y) :: sk, h) := zrun_at rfl
theorem zi142_51 {E : zE} {v0 v1 v2 v3 : Value} {x : Int32} {ls sk : List Value} {h : zH} : zrun zpp E 142 (51, v0 :: v1 :: v2 :: v3 :: .int x :: ls, sk, h) = zrun zpp E 142 (53, v0 :: v1 :: v2 :: v3 :: .int x :: ls, .int x :: sk, h) := zrun_at rfl
theorem zi142_53 {E : zE} {x y : Int32} {ls sk : List Value} {h : zH} : zrun zpp E 142 (53, ls, .int y :: .int x :: sk, h) = zrun zpp E 142 (54, ls, .int (x + y) :: sk, h) := zrun_at rfl
theorem zi142_54 {E : zE} {x : Int32} {ls sk : List Value} {h : zH} : zrun zpp E 142 (54, ls, [.int x], h) = some (some (.int x), h) := zrun_at rfl
theorem zi142_55 {E : zE} {v0 v1 v2 v3 : Value} {x : Int32} {ls sk : List Value} {h : zH} : zrun zpp E 142 (55, v0 :: v1 :: v2 :: v3 :: .int x :: ls, sk, h) = if zfree (v0 :: v1 :: v2 :: v3 :: .int x :: ls) 4 = true then zrun zpp E 142 (58, v0 :: v1 :: v2 :: v3 :: .int (x + 1) :: ls, sk, h) else none := by rw [← ci_1]; exact zrun_at rfl
theorem zi142_58 {E : zE} {ls sk : List Value} {h : zH} : zrun zpp E 142 (58, ls, sk, h) = zrun zpp E 142 (16, ls, sk, h) := zrun_at rfl
theorem zi142_61 {E : zE} {v0 v1 v2 : Value} {x : Int32} {ls sk : List Value} {h : zH} : zrun zpp E 142 (61, v0 :: v1 :: v2 :: .int x :: ls, sk, h) = if zfree (v0 :: v1 :: v2 :: .int x :: ls) 3 = true then zrun zpp E 142 (64, v0 :: v1 :: v2 :: .int (x + 1) :: ls, sk, h) else none := by rw [← ci_1]; exact zrun_at rfl
theorem zi142_64 {E : zE} {ls sk : List Value} {h : zH} : zrun zpp E 142 (64, ls, sk, h) = zrun zpp E 142 (2, ls, sk, h) := zrun_at rfl
theorem zi142_67 {E : zE} {ls sk : List Value} {h : zH} : zrun zpp E 142 (67, ls, sk, h) = zrun zpp E 142 (69, ls, .int (-1000000) :: sk, h) := zg_ldc rfl ci_m1000000
theorem zi142_69 {E : zE} {x : Int32} {ls sk : List Value} {h : zH} : zrun zpp E 142 (69, ls, [.int x], h) = some (some (.int x), h) := zrun_at rfl
-- 143 NineDown.beginsBest
theorem zi143_0 {E : zE} {x : Nat} {ls sk : List Value} {h : zH} : zrun zpp E 143 (0, .ref x :: ls, sk, h) = zrun zpp E 143 (1, .ref x :: ls, .ref x :: sk, h) := zrun_at rfl
theorem zi143_0n {E : zE} {ls sk : List Value} {h : zH} : zrun zpp E 143 (0, .null :: ls, sk, h) = zrun zpp E 143 (1, .null :: ls, .null :: sk, h) := zrun_at rfl
theorem zi143_1 {E : zE} {x : Nat} {ls sk : List Value} {h : zH} : zrun zpp E 143 (1, ls, .ref x :: sk, h) = (zfld [10] h x 7).bind (fun v => zrun zpp E 143 (4, ls, v :: sk, h)) := zg_getf rfl
theorem zi143_4 {E : zE} {v0 v1 : Value} {x : Int32} {ls sk : List Value} {h : zH} : zrun zpp E 143 (4, v0 :: v1 :: .int x :: ls, sk, h) = zrun zpp E 143 (5, v0 :: v1 :: .int x :: ls, .int x :: sk, h) := zrun_at rfl
theorem zi143_5 {E : zE} {x : Nat} {ls sk : List Value} {h : zH} : zrun zpp E 143 (5, .ref x :: ls, sk, h) = zrun zpp E 143 (6, .ref x :: ls, .ref x :: sk, h) := zrun_at rfl
theorem zi143_5n {E : zE} {ls sk : List Value} {h : zH} : zrun zpp E 143 (5, .null :: ls, sk, h) = zrun zpp E 143 (6, .null :: ls, .null :: sk, h) := zrun_at rfl
theorem zi143_6 {E : zE} {x : Nat} {ls sk : List Value} {h : zH} : zrun zpp E 143 (6, ls, .ref x :: sk, h) = (zfld [10] h x 7).bind (fun v => zrun zpp E 143 (9, ls, v :: sk, h)) := zg_getf rfl
theorem zi143_9 {E : zE} {x : Nat} {ls sk : List Value} {h : zH} : zrun zpp E 143 (9, ls, .ref x :: sk, h) = (zfld [9] h x 15).bind (fun v => zrun zpp E 143 (12, ls, v :: sk, h)) := zg_getf rfl
theorem zi143_12 {E : zE} {a0 a1 : Value} {x : Nat} {ls sk : List Value} {h : zH} : zrun zpp E 143 (12, ls, a1 :: a0 :: .ref x :: sk, h) = (zcls h x).bind (fun d => (zsel d [9, 77]).bind (fun M' => zcl1 E 143 15 M' ls sk [.ref x, a0, a1] h)) := zg_vir (as := [a0, a1]) rfl rfl
theorem zi143_15 {E : zE} {x : Int32} {ls sk : List Value} {h : zH} : zrun zpp E 143 (15, ls, .int x :: sk, h) = if x = 0 then zrun zpp E 143 (18, ls, sk, h) else zrun zpp E 143 (20, ls, sk, h) := zrun_at rfl
theorem zi143_18 {E : zE} {ls sk : List Value} {h : zH} : zrun zpp E 143 (18, ls, sk, h) = zrun zpp E 143 (19, ls, .int 0 :: sk, h) := zg_iconst rfl ci_0
theorem zi143_19 {E : zE} {x : Int32} {ls sk : List Value} {h : zH} : zrun zpp E 143 (19, ls, [.int x], h) = if x = 0 then some (some (.int 0), h) else if x = 1 then some (some (.int 1), h) else none := zrun_at rfl
theorem zi143_20 {E : zE} {x : Nat} {ls sk : List Value} {h : zH} : zrun zpp E 143 (20, .ref x :: ls, sk, h) = zrun zpp E 143 (21, .ref x :: ls, .ref x :: sk, h) := zrun_at rfl
theorem zi143_20n {E : zE} {ls sk : List Value} {h : zH} : zrun zpp E 143 (20, .null :: ls, sk, h) = zrun zpp E 143 (21, .null :: ls, .null :: sk, h) := zrun_at rfl
theorem zi143_21 {E : zE} {v0 : Value} {x : Int32} {ls sk : List Value} {h : zH} : zrun zpp E 143 (21, v0 :: .int x :: ls, sk, h) = zrun zpp E 143 (22, v0 :: .int x :: ls, .int x :: sk, h) := zrun_at rfl
theorem zi143_22 {E : zE} {v0 v1 : Value} {x : Int32} {ls sk : List Value} {h : zH} : zrun zpp E 143 (22, v0 :: v1 :: .int x :: ls, sk, h) = zrun zpp E 143 (23, v0 :: v1 :: .int x :: ls, .int x :: sk, h) := zrun_at rfl
theorem zi143_23 {E : zE} {x : Nat} {ls sk : List Value} {h : zH} : zrun zpp E 143 (23, .ref x :: ls, sk, h) = zrun zpp E 143 (24, .ref x :: ls, .ref x :: sk, h) := zrun_at rfl
theorem zi143_23n {E : zE} {ls sk : List Value} {h : zH} : zrun zpp E 143 (23, .null :: ls, sk, h) = zrun zpp E 143 (24, .null :: ls, .null :: sk, h) := zrun_at rfl
theorem zi143_24 {E : zE} {x : Nat} {ls sk : List Value} {h : zH} : zrun zpp E 143 (24, ls, .ref x :: sk, h) = (zfld [10] h x 7).bind (fun v => zrun zpp E 143 (27, ls, v :: sk, h)) := zg_getf rfl
theorem zi143_27 {E : zE} {v0 v1 : Value} {x : Int32} {ls sk : List Value} {h : zH} : zrun zpp E 143 (27, v0 :: v1 :: .int x :: ls, sk, h) = zrun zpp E 143 (28, v0 :: v1 :: .int x :: ls, .int x :: sk, h) := zrun_at rfl
theorem zi143_28 {E : zE} {x : Nat} {ls sk : List Value} {h : zH} : zrun zpp E 143 (28, .ref x :: ls, sk, h) = zrun zpp E 143 (29, .ref x :: ls, .ref x :: sk, h) := zrun_at rfl
theorem zi143_28n {E : zE} {ls sk : List Value} {h : zH} : zrun zpp E 143 (28, .null :: ls, sk, h) = zrun zpp E 143 (29, .null :: ls, .null :: sk, h) := zrun_at rfl
theorem zi143_29 {E : zE} {x : Nat} {ls sk : List Value} {h : zH} : zrun zpp E 143 (29, ls, .ref x :: sk, h) = (zfld [10] h x 7).bind (fun v => zrun zpp E 143 (32, ls, v :: sk, h)) := zg_getf rfl
theorem zi143_32 {E : zE} {x : Nat} {ls sk : List Value} {h : zH} : zrun zpp E 143 (32, ls, .ref x :: sk, h) = (zfld [9] h x 15).bind (fun v => zrun zpp E 143 (35, ls, v :: sk, h)) := zg_getf rfl
theorem zi143_35 {E : zE} {a0 a1 : Value} {x : Nat} {ls sk : List Value} {h : zH} : zrun zpp E 143 (35, ls, a1 :: a0 :: .ref x :: sk, h) = (zcls h x).bind (fun d => (zsel d [9, 79]).bind (fun M' => zcl1 E 143 38 M' ls sk [.ref x, a0, a1] h)) := zg_vir (as := [a0, a1]) rfl rfl
theorem zi143_38 {E : zE} {v0 v1 v2 : Value} {x : Int32} {ls sk : List Value} {h : zH} : zrun zpp E 143 (38, v0 :: v1 :: v2 :: .int x :: ls, sk, h) = zrun zpp E 143 (39, v0 :: v1 :: v2 :: .int x :: ls, .int x :: sk, h) := zrun_at rfl
theorem zi143_39 {E : zE} {a0 a1 a2 a3 : Value} {x : Nat} {ls sk : List Value} {h : zH} : zrun zpp E 143 (39, ls, a3 :: a2 :: a1 :: a0 :: .ref x :: sk, h) = (zcls h x).bind (fun d => (zsel d [10, 140]).bind (fun M' => zcl1 E 143 42 M' ls sk [.ref x, a0, a1, a2, a3] h)) := zg_vir (as := [a0, a1, a2, a3]) rfl rfl
theorem zi143_42 {E : zE} {x : Int32} {ls sk : List Value} {h : zH} : zrun zpp E 143 (42, ls, .int x :: sk, h) = if zfree ls 4 = true then zrun zpp E 143 (44, ls.set 4 (.int x), sk, h) else none := zg_ist rfl (fun _ _ _ => rfl)
theorem zi143_44 {E : zE} {v0 v1 v2 v3 : Value} {x : Int32} {ls sk : List Value} {h : zH} : zrun zpp E 143 (44, v0 :: v1 :: v2 :: v3 :: .int x :: ls, sk, h) = zrun zpp E 143 (46, v0 :: v1 :: v2 :: v3 :: .int x :: ls, .int x :: sk, h) := zrun_at rfl
theorem zi143_46 {E : zE} {x : Nat} {ls sk : List Value} {h : zH} : zrun zpp E 143 (46, .ref x :: ls, sk, h) = zrun zpp E 143 (47, .ref x :: ls, .ref x :: sk, h) := zrun_at rfl
theorem zi143_46n {E : zE} {ls sk : List Value} {h : zH} : zrun zpp E 143 (46, .null :: ls, sk, h) = zrun zpp E 143 (47, .null :: ls, .null :: sk, h) := zrun_at rfl
theorem zi143_47 {E : zE} {x : Nat} {ls sk : List Value} {h : zH} : zrun zpp E 143 (47, ls, .ref x :: sk, h) = (zfld [10] h x 6).bind (fun v => zrun zpp E 143 (50, ls, v :: sk, h)) := zg_getf rfl
theorem zi143_50 {E : zE} {x : Nat} {ls sk : List Value} {h : zH} : zrun zpp E 143 (50, .ref x :: ls, sk, h) = zrun zpp E 143 (51, .ref x :: ls, .ref x :: sk, h) := zrun_at rfl
theorem zi143_50n {E : zE} {ls sk : List Value} {h : zH} : zrun zpp E 143 (50, .null :: ls, sk, h) = zrun zpp E 143 (51, .null :: ls, .null :: sk, h) := zrun_at rfl
theorem zi143_51 {E : zE} {x : Nat} {ls sk : List Value} {h : zH} : zrun zpp E 143 (51, ls, .ref x :: sk, h) = (zfld [10] h x 7).bind (fun v => zrun zpp E 143 (54, ls, v :: sk, h)) := zg_getf rfl
theorem zi143_54 {E : zE} {x : Nat} {ls sk : List Value} {h : zH} : zrun zpp E 143 (54, ls, .ref x :: sk, h) = (zfld [9] h x 15).bind (fun v => zrun zpp E 143 (57, ls, v :: sk, h)) := zg_getf rfl
theorem zi143_57 {E : zE} {ls sk : List Value} {h : zH} : zrun zpp E 143 (57, ls, sk, h) = zrun zpp E 143 (58, ls, .int 1 :: sk, h) := zg_iconst rfl ci_1
theorem zi143_58 {E : zE} {v0 v1 : Value} {x : Int32} {ls sk : List Value} {h : zH} : zrun zpp E 143 (58, v0 :: v1 :: .int x :: ls, sk, h) = zrun zpp E 143 (59, v0 :: v1 :: .int x :: ls, .int x :: sk, h) := zrun_at rfl
theorem zi143_59 {E : zE} {x y : Int32} {ls sk : List Value} {h : zH} : zrun zpp E 143 (59, ls, .int y :: .int x :: sk, h) = zrun zpp E 143 (60, ls, .int (x <<< (y &&& 31)) :: sk, h) := zrun_at rfl
theorem zi143_60 {E : zE} {ls sk : List Value} {h : zH} : zrun zpp E 143 (60, ls, sk, h) = zrun zpp E 143 (61, ls, .int (-1) :: sk, h) := zg_iconst rfl ci_m1
theorem zi143_61 {E : zE} {x y : Int32} {ls sk : List Value} {h : zH} : zrun zpp E 143 (61, ls, .int y :: .int x :: sk, h) = zrun zpp E 143 (62, ls, .int (x ^^^ y) :: sk, h) := zrun_at rfl
theorem zi143_62 {E : zE} {x y : Int32} {ls sk : List Value} {h : zH} : zrun zpp E 143 (62, ls, .int y :: .int x :: sk, h) = zrun zpp E 143 (63, ls, .int (x &&& y) :: sk, h) := zrun_at rfl
theorem zi143_63 {E : zE} {x : Nat} {i : Int32} {ls sk : List Value} {h : zH} : zrun zpp E 143 (63, ls, .int i :: .ref x :: sk, h) = (zarr 0 h x i).bind (fun v => zrun zpp E 143 (64, ls, .int v :: sk, h)) := zg_iald rfl
theorem zi143_64 {E : zE} {x y : Int32} {ls sk : List Value} {h : zH} : zrun zpp E 143 (64, ls, .int y :: .int x :: sk, h) = zrun zpp E 143 (65, ls, .int (x + y) :: sk, h) := zrun_at rfl
theorem zi143_65 {E : zE} {x : Nat} {ls sk : List Value} {h : zH} : zrun zpp E 143 (65, .ref x :: ls, sk, h) = zrun zpp E 143 (66, .ref x :: ls, .ref x :: sk, h) := zrun_at rfl
theorem zi143_65n {E : zE} {ls sk : List Value} {h : zH} : zrun zpp E 143 (65, .null :: ls, sk, h) = zrun zpp E 143 (66, .null :: ls, .null :: sk, h) := zrun_at rfl
theorem zi143_66 {E : zE} {x : Nat} {ls sk : List Value} {h : zH} : zrun zpp E 143 (66, ls, .ref x :: sk, h) = (zfld [10] h x 6).bind (fun v => zrun zpp E 143 (69, ls, v :: sk, h)) := zg_getf rfl
theorem zi143_69 {E : zE} {x : Nat} {ls sk : List Value} {h : zH} : zrun zpp E 143 (69, .ref x :: ls, sk, h) = zrun zpp E 143 (70, .ref x :: ls, .ref x :: sk, h) := zrun_at rfl
theorem zi143_69n {E : zE} {ls sk : List Value} {h : zH} : zrun zpp E 143 (69, .null :: ls, sk, h) = zrun zpp E 143 (70, .null :: ls, .null :: sk, h) := zrun_at rfl
theorem zi143_70 {E : zE} {x : Nat} {ls sk : List Value} {h : zH} : zrun zpp E 143 (70, ls, .ref x :: sk, h) = (zfld [10] h x 7).bind (fun v => zrun zpp E 143 (73, ls, v :: sk, h)) := zg_getf rfl
theorem zi143_73 {E : zE} {x : Nat} {ls sk : List Value} {h : zH} : zrun zpp E 143 (73, ls, .ref x :: sk, h) = (zfld [9] h x 15).bind (fun v => zrun zpp E 143 (76, ls, v :: sk, h)) := zg_getf rfl
theorem zi143_76 {E : zE} {x : Nat} {i : Int32} {ls sk : List Value} {h : zH} : zrun zpp E 143 (76, ls, .int i :: .ref x :: sk, h) = (zarr 0 h x i).bind (fun v => zrun zpp E 143 (77, ls, .int v :: sk, h)) := zg_iald rfl
theorem zi143_77 {E : zE} {x y : Int32} {ls sk : List Value} {h : zH} : zrun zpp E 143 (77, ls, .int y :: .int x :: sk, h) = if x = y then zrun zpp E 143 (80, ls, sk, h) else zrun zpp E 143 (84, ls, sk, h) := zrun_at rfl
theorem zi143_80 {E : zE} {ls sk : List Value} {h : zH} : zrun zpp E 143 (80, ls, sk, h) = zrun zpp E 143 (81, ls, .int 1 :: sk, h) := zg_iconst rfl ci_1
theorem zi143_81 {E : zE} {ls sk : List Value} {h : zH} : zrun zpp E 143 (81, ls, sk, h) = zrun zpp E 143 (85, ls, sk, h) := zrun_at rfl
theorem zi143_84 {E : zE} {ls sk : List Value} {h : zH} : zrun zpp E 143 (84, ls, sk, h) = zrun zpp E 143 (85, ls, .int 0 :: sk, h) := zg_iconst rfl ci_0
theorem zi143_85 {E : zE} {x : Int32} {ls sk : List Value} {h : zH} : zrun zpp E 143 (85, ls, [.int x], h) = if x = 0 then some (some (.int 0), h) else if x = 1 then some (some (.int 1), h) else none := zrun_at rfl
-- 144 NineDown.power
theorem zi144_0 {E : zE} {ls sk : List Value} {h : zH} : zrun zpp E 144 (0, ls, sk, h) = zrun zpp E 144 (1, ls, .long 1 :: sk, h) := zg_lconst rfl rfl
theorem zi144_1 {E : zE} {x : Int64} {ls sk : List Value} {h : zH} : zrun zpp E 144 (1, ls, .long x :: sk, h) = if (zfree ls 3 && decide (3 + 1 < ls.length)) = true then zrun zpp E 144 (2, (ls.set 3 (.long x)).set (3 + 1) (.retAddr 0), sk, h) else none := zg_lst rfl (fun _ _ _ => rfl)
theorem zi144_2 {E : zE} {ls sk : List Value} {h : zH} : zrun zpp E 144 (2, ls, sk, h) = zrun zpp E 144 (3, ls, .int 0 :: sk, h) := zg_iconst rfl ci_0
theorem zi144_3 {E : zE} {x : Int32} {ls sk : List Value} {h : zH} : zrun zpp E 144 (3, ls, .int x :: sk, h) = if zfree ls 5 = true then zrun zpp E 144 (5, ls.set 5 (.int x), sk, h) else none := zg_ist rfl (fun _ _ _ => rfl)
theorem zi144_5 {E : zE} {v0 v1 v2 v3 v4 : Value} {x : Int32} {ls sk : List Value} {h : zH} : zrun zpp E 144 (5, v0 :: v1 :: v2 :: v3 :: v4 :: .int x :: ls, sk, h) = zrun zpp E 144 (7, v0 :: v1 :: v2 :: v3 :: v4 :: .int x :: ls, .int x :: sk, h) := zrun_at rfl
theorem zi144_7 {E : zE} {v0 v1 : Value} {x : Int32} {ls sk : List Value} {h : zH} : zrun zpp E 144 (7, v0 :: v1 :: .int x :: ls, sk, h) = zrun zpp E 144 (8, v0 :: v1 :: .int x :: ls, .int x :: sk, h) := zrun_at rfl
theorem zi144_8 {E : zE} {x y : Int32} {ls sk : List Value} {h : zH} : zrun zpp E 144 (8, ls, .int y :: .int x :: sk, h) = if y ≤ x then zrun zpp E 144 (21, ls, sk, h) else zrun zpp E 144 (11, ls, sk, h) := zrun_at rfl
theorem zi144_11 {E : zE} {v0 v1 v2 : Value} {x : Int64} {ls sk : List Value} {h : zH} : zrun zpp E 144 (11, v0 :: v1 :: v2 :: .long x :: ls, sk, h) = zrun zpp E 144 (12, v0 :: v1 :: v2 :: .long x :: ls, .long x :: sk, h) := zrun_at rfl
theorem zi144_12 {E : zE} {x : Int64} {ls sk : List Value} {h : zH} : zrun zpp E 144 (12, .long x :: ls, sk, h) = zrun zpp E 144 (13, .long x :: ls, .long x :: sk, h) := zrun_at rfl
theorem zi144_13 {E : zE} {x y : Int64} {ls sk : List Value} {h : zH} : zrun zpp E 144 (13, ls, .long y :: .long x :: sk, h) = zrun zpp E 144 (14, ls, .long (x * y) :: sk, h) := zrun_at rfl
theorem zi144_14 {E : zE} {x : Int64} {ls sk : List Value} {h : zH} : zrun zpp E 144 (14, ls, .long x :: sk, h) = if (zfree ls 3 && decide (3 + 1 < ls.length)) = true then zrun zpp E 144 (15, (ls.set 3 (.long x)).set (3 + 1) (.retAddr 0), sk, h) else none := zg_lst rfl (fun _ _ _ => rfl)
theorem zi144_15 {E : zE} {v0 v1 v2 v3 v4 : Value} {x : Int32} {ls sk : List Value} {h : zH} : zrun zpp E 144 (15, v0 :: v1 :: v2 :: v3 :: v4 :: .int x :: ls, sk, h) = if zfree (v0 :: v1 :: v2 :: v3 :: v4 :: .int x :: ls) 5 = true then zrun zpp E 144 (18, v0 :: v1 :: v2 :: v3 :: v4 :: .int (x + 1) :: ls, sk, h) else none := by rw [← ci_1]; exact zrun_at rfl
theorem zi144_18 {E : zE} {ls sk : List Value} {h : zH} : zrun zpp E 144 (18, ls, sk, h) = zrun zpp E 144 (5, ls, sk, h) := zrun_at rfl
theorem zi144_21 {E : zE} {v0 v1 v2 : Value} {x : Int64} {ls sk : List Value} {h : zH} : zrun zpp E 144 (21, v0 :: v1 :: v2 :: .long x :: ls, sk, h) = zrun zpp E 144 (22, v0 :: v1 :: v2 :: .long x :: ls, .long x :: sk, h) := zrun_at rfl
theorem zi144_22 {E : zE} {x : Int64} {ls sk : List Value} {h : zH} : zrun zpp E 144 (22, ls, [.long x], h) = some (some (.long x), h) := zrun_at rfl
-- 145 NineDown.commonDivisor
theorem zi145_0 {E : zE} {x : Int64} {ls sk : List Value} {h : zH} : zrun zpp E 145 (0, .long x :: ls, sk, h) = zrun zpp E 145 (1, .long x :: ls, .long x :: sk, h) := zrun_at rfl
theorem zi145_1 {E : zE} {x : Int64} {ls sk : List Value} {h : zH} : zrun zpp E 145 (1, ls, .long x :: sk, h) = if (zfree ls 4 && decide (4 + 1 < ls.length)) = true then zrun zpp E 145 (3, (ls.set 4 (.long x)).set (4 + 1) (.retAddr 0), sk, h) else none := zg_lst rfl (fun _ _ _ => rfl)
theorem zi145_3 {E : zE} {v0 v1 : Value} {x : Int64} {ls sk : List Value} {h : zH} : zrun zpp E 145 (3, v0 :: v1 :: .long x :: ls, sk, h) = zrun zpp E 145 (4, v0 :: v1 :: .long x :: ls, .long x :: sk, h) := zrun_at rfl
theorem zi145_4 {E : zE} {x : Int64} {ls sk : List Value} {h : zH} : zrun zpp E 145 (4, ls, .long x :: sk, h) = if (zfree ls 6 && decide (6 + 1 < ls.length)) = true then zrun zpp E 145 (6, (ls.set 6 (.long x)).set (6 + 1) (.retAddr 0), sk, h) else none := zg_lst rfl (fun _ _ _ => rfl)
theorem zi145_6 {E : zE} {ls sk : List Value} {h : zH} : zrun zpp E 145 (6, ls, sk, h) = zrun zpp E 145 (7, ls, .int 0 :: sk, h) := zg_iconst rfl ci_0
theorem zi145_7 {E : zE} {x : Int32} {ls sk : List Value} {h : zH} : zrun zpp E 145 (7, ls, .int x :: sk, h) = if zfree ls 8 = true then zrun zpp E 145 (9, ls.set 8 (.int x), sk, h) else none := zg_ist rfl (fun _ _ _ => rfl)
theorem zi145_9 {E : zE} {v0 v1 v2 v3 v4 v5 v6 v7 : Value} {x : Int32} {ls sk : List Value} {h : zH} : zrun zpp E 145 (9, v0 :: v1 :: v2 :: v3 :: v4 :: v5 :: v6 :: v7 :: .int x :: ls, sk, h) = zrun zpp E 145 (11, v0 :: v1 :: v2 :: v3 :: v4 :: v5 :: v6 :: v7 :: .int x :: ls, .int x :: sk, h) := zrun_at rfl
theorem zi145_11 {E : zE} {ls sk : List Value} {h : zH} : zrun zpp E 145 (11, ls, sk, h) = zrun zpp E 145 (14, ls, .int 128 :: sk, h) := zg_sipush rfl ci_128
theorem zi145_14 {E : zE} {x y : Int32} {ls sk : List Value} {h : zH} : zrun zpp E 145 (14, ls, .int y :: .int x :: sk, h) = if y ≤ x then zrun zpp E 145 (45, ls, sk, h) else zrun zpp E 145 (17, ls, sk, h) := zrun_at rfl
theorem zi145_17 {E : zE} {v0 v1 v2 v3 v4 v5 : Value} {x : Int64} {ls sk : List Value} {h : zH} : zrun zpp E 145 (17, v0 :: v1 :: v2 :: v3 :: v4 :: v5 :: .long x :: ls, sk, h) = zrun zpp E 145 (19, v0 :: v1 :: v2 :: v3 :: v4 :: v5 :: .long x :: ls, .long x :: sk, h) := zrun_at rfl
theorem zi145_19 {E : zE} {ls sk : List Value} {h : zH} : zrun zpp E 145 (19, ls, sk, h) = zrun zpp E 145 (20, ls, .long 0 :: sk, h) := zg_lconst rfl rfl
theorem zi145_20 {E : zE} {x y : Int64} {ls sk : List Value} {h : zH} : zrun zpp E 145 (20, ls, .long y :: .long x :: sk, h) = zrun zpp E 145 (21, ls, .int (lg_cmp x y) :: sk, h) := zrun_at rfl
theorem zi145_21 {E : zE} {x : Int32} {ls sk : List Value} {h : zH} : zrun zpp E 145 (21, ls, .int x :: sk, h) = if x = 0 then zrun zpp E 145 (45, ls, sk, h) else zrun zpp E 145 (24, ls, sk, h) := zrun_at rfl
theorem zi145_24 {E : zE} {v0 v1 v2 v3 : Value} {x : Int64} {ls sk : List Value} {h : zH} : zrun zpp E 145 (24, v0 :: v1 :: v2 :: v3 :: .long x :: ls, sk, h) = zrun zpp E 145 (26, v0 :: v1 :: v2 :: v3 :: .long x :: ls, .long x :: sk, h) := zrun_at rfl
theorem zi145_26 {E : zE} {v0 v1 v2 v3 v4 v5 : Value} {x : Int64} {ls sk : List Value} {h : zH} : zrun zpp E 145 (26, v0 :: v1 :: v2 :: v3 :: v4 :: v5 :: .long x :: ls, sk, h) = zrun zpp E 145 (28, v0 :: v1 :: v2 :: v3 :: v4 :: v5 :: .long x :: ls, .long x :: sk, h) := zrun_at rfl
theorem zi145_28 {E : zE} {x y : Int64} {ls sk : List Value} {h : zH} : zrun zpp E 145 (28, ls, .long y :: .long x :: sk, h) = if y = 0 then none else zrun zpp E 145 (29, ls, .long (x - x / y * y) :: sk, h) := zrun_at rfl
theorem zi145_29 {E : zE} {x : Int64} {ls sk : List Value} {h : zH} : zrun zpp E 145 (29, ls, .long x :: sk, h) = if (zfree ls 9 && decide (9 + 1 < ls.length)) = true then zrun zpp E 145 (31, (ls.set 9 (.long x)).set (9 + 1) (.retAddr 0), sk, h) else none := zg_lst rfl (fun _ _ _ => rfl)
theorem zi145_31 {E : zE} {v0 v1 v2 v3 v4 v5 : Value} {x : Int64} {ls sk : List Value} {h : zH} : zrun zpp E 145 (31, v0 :: v1 :: v2 :: v3 :: v4 :: v5 :: .long x :: ls, sk, h) = zrun zpp E 145 (33, v0 :: v1 :: v2 :: v3 :: v4 :: v5 :: .long x :: ls, .long x :: sk, h) := zrun_at rfl
theorem zi145_33 {E : zE} {x : Int64} {ls sk : List Value} {h : zH} : zrun zpp E 145 (33, ls, .long x :: sk, h) = if (zfree ls 4 && decide (4 + 1 < ls.length)) = true then zrun zpp E 145 (35, (ls.set 4 (.long x)).set (4 + 1) (.retAddr 0), sk, h) else none := zg_lst rfl (fun _ _ _ => rfl)
theorem zi145_35 {E : zE} {v0 v1 v2 v3 v4 v5 v6 v7 v8 : Value} {x : Int64} {ls sk : List Value} {h : zH} : zrun zpp E 145 (35, v0 :: v1 :: v2 :: v3 :: v4 :: v5 :: v6 :: v7 :: v8 :: .long x :: ls, sk, h) = zrun zpp E 145 (37, v0 :: v1 :: v2 :: v3 :: v4 :: v5 :: v6 :: v7 :: v8 :: .long x :: ls, .long x :: sk, h) := zrun_at rfl
theorem zi145_37 {E : zE} {x : Int64} {ls sk : List Value} {h : zH} : zrun zpp E 145 (37, ls, .long x :: sk, h) = if (zfree ls 6 && decide (6 + 1 < ls.length)) = true then zrun zpp E 145 (39, (ls.set 6 (.long x)).set (6 + 1) (.retAddr 0), sk, h) else none := zg_lst rfl (fun _ _ _ => rfl)
theorem zi145_39 {E : zE} {v0 v1 v2 v3 v4 v5 v6 v7 : Value} {x : Int32} {ls sk : List Value} {h : zH} : zrun zpp E 145 (39, v0 :: v1 :: v2 :: v3 :: v4 :: v5 :: v6 :: v7 :: .int x :: ls, sk, h) = if zfree (v0 :: v1 :: v2 :: v3 :: v4 :: v5 :: v6 :: v7 :: .int x :: ls) 8 = true then zrun zpp E 145 (42, v0 :: v1 :: v2 :: v3 :: v4 :: v5 :: v6 :: v7 :: .int (x + 1) :: ls, sk, h) else none := by rw [← ci_1]; exact zrun_at rfl
theorem zi145_42 {E : zE} {ls sk : List Value} {h : zH} : zrun zpp E 145 (42, ls, sk, h) = zrun zpp E 145 (9, ls, sk, h) := zrun_at rfl
theorem zi145_45 {E : zE} {v0 v1 v2 v3 : Value} {x : Int64} {ls sk : List Value} {h : zH} : zrun zpp E 145 (45, v0 :: v1 :: v2 :: v3 :: .long x :: ls, sk, h) = zrun zpp E 145 (47, v0 :: v1 :: v2 :: v3 :: .long x :: ls, .long x :: sk, h) := zrun_at rfl
theorem zi145_47 {E : zE} {x : Int64} {ls sk : List Value} {h : zH} : zrun zpp E 145 (47, ls, [.long x], h) = some (some (.long x), h) := zrun_at rfl
-- 146 NineDown.lifterOf
theorem zi146_0 {E : zE} {x : Int32} {ls sk : List Value} {h : zH} : zrun zpp E 146 (0, .int x :: ls, sk, h) = zrun zpp E 146 (1, .int x :: ls, .int x :: sk, h) := zrun_at rfl
theorem zi146_1 {E : zE} {x : Int32} {ls sk : List Value} {h : zH} : zrun zpp E 146 (1, ls, .int x :: sk, h) = if x = 1 then zrun zpp E 146 (32, ls, sk, h) else if x = 2 then zrun zpp E 146 (42, ls, sk, h) else if x = 3 then zrun zpp E 146 (52, ls, sk, h) else if x = 4 then zrun zpp E 146 (62, ls, sk, h) else zrun zpp E 146 (72, ls, sk, h) := zrun_at rfl
theorem zi146_32 {E : zE} {ls sk : List Value} {h : zH} : zrun zpp E 146 (32, ls, sk, h) = zrun zpp E 146 (35, ls, .ref h.length :: sk, h ++ [.inl (7, zborn 7)]) := zg_new rfl
theorem zi146_35 {E : zE} {x : Nat} {ls sk : List Value} {h : zH} : zrun zpp E 146 (35, ls, .ref x :: sk, h) = zrun zpp E 146 (36, ls, .ref x :: .ref x :: sk, h) := zrun_at rfl
theorem zi146_35i {E : zE} {x : Int32} {ls sk : List Value} {h : zH} : zrun zpp E 146 (35, ls, .int x :: sk, h) = zrun zpp E 146 (36, ls, .int x :: .int x :: sk, h) := zrun_at rfl
theorem zi146_36 {E : zE} {v0 : Value} {x : Int32} {ls sk : List Value} {h : zH} : zrun zpp E 146 (36, v0 :: .int x :: ls, sk, h) = zrun zpp E 146 (37, v0 :: .int x :: ls, .int x :: sk, h) := zrun_at rfl
theorem zi146_37 {E : zE} {v0 v1 : Value} {x : Int32} {ls sk : List Value} {h : zH} : zrun zpp E 146 (37, v0 :: v1 :: .int x :: ls, sk, h) = zrun zpp E 146 (38, v0 :: v1 :: .int x :: ls, .int x :: sk, h) := zrun_at rfl
theorem zi146_38 {E : zE} {a0 a1 : Value} {x : Nat} {ls sk : List Value} {h : zH} : zrun zpp E 146 (38, ls, a1 :: a0 :: .ref x :: sk, h) = (zcls h x).bind (fun _ => zcl1 E 146 41 55 ls sk [.ref x, a0, a1] h) := zg_spc (as := [a0, a1]) rfl rfl
theorem zi146_41 {E : zE} {x : Nat} {ls sk : List Value} {h : zH} : zrun zpp E 146 (41, ls, [.ref x], h) = some (some (.ref x), h) := zrun_at rfl
theorem zi146_41n {E : zE} {ls sk : List Value} {h : zH} : zrun zpp E 146 (41, ls, [.null], h) = some (some .null, h) := zrun_at rfl
theorem zi146_42 {E : zE} {ls sk : List Value} {h : zH} : zrun zpp E 146 (42, ls, sk, h) = zrun zpp E 146 (45, ls, .ref h.length :: sk, h ++ [.inl (1, zborn 1)]) := zg_new rfl
theorem zi146_45 {E : zE} {x : Nat} {ls sk : List Value} {h : zH} : zrun zpp E 146 (45, ls, .ref x :: sk, h) = zrun zpp E 146 (46, ls, .ref x :: .ref x :: sk, h) := zrun_at rfl
theorem zi146_45i {E : zE} {x : Int32} {ls sk : List Value} {h : zH} : zrun zpp E 146 (45, ls, .int x :: sk, h) = zrun zpp E 146 (46, ls, .int x :: .int x :: sk, h) := zrun_at rfl
theorem zi146_46 {E : zE} {v0 : Value} {x : Int32} {ls sk : List Value} {h : zH} : zrun zpp E 146 (46, v0 :: .int x :: ls, sk, h) = zrun zpp E 146 (47, v0 :: .int x :: ls, .int x :: sk, h) := zrun_at rfl
theorem zi146_47 {E : zE} {v0 v1 : Value} {x : Int32} {ls sk : List Value} {h : zH} : zrun zpp E 146 (47, v0 :: v1 :: .int x :: ls, sk, h) = zrun zpp E 146 (48, v0 :: v1 :: .int x :: ls, .int x :: sk, h) := zrun_at rfl
theorem zi146_48 {E : zE} {a0 a1 : Value} {x : Nat} {ls sk : List Value} {h : zH} : zrun zpp E 146 (48, ls, a1 :: a0 :: .ref x :: sk, h) = (zcls h x).bind (fun _ => zcl1 E 146 51 7 ls sk [.ref x, a0, a1] h) := zg_spc (as := [a0, a1]) rfl rfl
theorem zi146_51 {E : zE} {x : Nat} {ls sk : List Value} {h : zH} : zrun zpp E 146 (51, ls, [.ref x], h) = some (some (.ref x), h) := zrun_at rfl
theorem zi146_51n {E : zE} {ls sk : List Value} {h : zH} : zrun zpp E 146 (51, ls, [.null], h) = some (some .null, h) := zrun_at rfl
theorem zi146_52 {E : zE} {ls sk : List Value} {h : zH} : zrun zpp E 146 (52, ls, sk, h) = zrun zpp E 146 (55, ls, .ref h.length :: sk, h ++ [.inl (4, zborn 4)]) := zg_new rfl
theorem zi146_55 {E : zE} {x : Nat} {ls sk : List Value} {h : zH} : zrun zpp E 146 (55, ls, .ref x :: sk, h) = zrun zpp E 146 (56, ls, .ref x :: .ref x :: sk, h) := zrun_at rfl
theorem zi146_55i {E : zE} {x : Int32} {ls sk : List Value} {h : zH} : zrun zpp E 146 (55, ls, .int x :: sk, h) = zrun zpp E 146 (56, ls, .int x :: .int x :: sk, h) := zrun_at rfl
theorem zi146_56 {E : zE} {v0 : Value} {x : Int32} {ls sk : List Value} {h : zH} : zrun zpp E 146 (56, v0 :: .int x :: ls, sk, h) = zrun zpp E 146 (57, v0 :: .int x :: ls, .int x :: sk, h) := zrun_at rfl
theorem zi146_57 {E : zE} {v0 v1 : Value} {x : Int32} {ls sk : List Value} {h : zH} : zrun zpp E 146 (57, v0 :: v1 :: .int x :: ls, sk, h) = zrun zpp E 146 (58, v0 :: v1 :: .int x :: ls, .int x :: sk, h) := zrun_at rfl
theorem zi146_58 {E : zE} {a0 a1 : Value} {x : Nat} {ls sk : List Value} {h : zH} : zrun zpp E 146 (58, ls, a1 :: a0 :: .ref x :: sk, h) = (zcls h x).bind (fun _ => zcl1 E 146 61 28 ls sk [.ref x, a0, a1] h) := zg_spc (as := [a0, a1]) rfl rfl
theorem zi146_61 {E : zE} {x : Nat} {ls sk : List Value} {h : zH} : zrun zpp E 146 (61, ls, [.ref x], h) = some (some (.ref x), h) := zrun_at rfl
theorem zi146_61n {E : zE} {ls sk : List Value} {h : zH} : zrun zpp E 146 (61, ls, [.null], h) = some (some .null, h) := zrun_at rfl
theorem zi146_62 {E : zE} {ls sk : List Value} {h : zH} : zrun zpp E 146 (62, ls, sk, h) = zrun zpp E 146 (65, ls, .ref h.length :: sk, h ++ [.inl (2, zborn 2)]) := zg_new rfl
theorem zi146_65 {E : zE} {x : Nat} {ls sk : List Value} {h : zH} : zrun zpp E 146 (65, ls, .ref x :: sk, h) = zrun zpp E 146 (66, ls, .ref x :: .ref x :: sk, h) := zrun_at rfl
theorem zi146_65i {E : zE} {x : Int32} {ls sk : List Value} {h : zH} : zrun zpp E 146 (65, ls, .int x :: sk, h) = zrun zpp E 146 (66, ls, .int x :: .int x :: sk, h) := zrun_at rfl
theorem zi146_66 {E : zE} {v0 : Value} {x : Int32} {ls sk : List Value} {h : zH} : zrun zpp E 146 (66, v0 :: .int x :: ls, sk, h) = zrun zpp E 146 (67, v0 :: .int x :: ls, .int x :: sk, h) := zrun_at rfl
theorem zi146_67 {E : zE} {v0 v1 : Value} {x : Int32} {ls sk : List Value} {h : zH} : zrun zpp E 146 (67, v0 :: v1 :: .int x :: ls, sk, h) = zrun zpp E 146 (68, v0 :: v1 :: .int x :: ls, .int x :: sk, h) := zrun_at rfl
theorem zi146_68 {E : zE} {a0 a1 : Value} {x : Nat} {ls sk : List Value} {h : zH} : zrun zpp E 146 (68, ls, a1 :: a0 :: .ref x :: sk, h) = (zcls h x).bind (fun _ => zcl1 E 146 71 13 ls sk [.ref x, a0, a1] h) := zg_spc (as := [a0, a1]) rfl rfl
theorem zi146_71 {E : zE} {x : Nat} {ls sk : List Value} {h : zH} : zrun zpp E 146 (71, ls, [.ref x], h) = some (some (.ref x), h) := zrun_at rfl
theorem zi146_71n {E : zE} {ls sk : List Value} {h : zH} : zrun zpp E 146 (71, ls, [.null], h) = some (some .null, h) := zrun_at rfl
theorem zi146_72 {E : zE} {ls sk : List Value} {h : zH} : zrun zpp E 146 (72, ls, sk, h) = zrun zpp E 146 (75, ls, .ref h.length :: sk, h ++ [.inl (3, zborn 3)]) := zg_new rfl
theorem zi146_75 {E : zE} {x : Nat} {ls sk : List Value} {h : zH} : zrun zpp E 146 (75, ls, .ref x :: sk, h) = zrun zpp E 146 (76, ls, .ref x :: .ref x :: sk, h) := zrun_at rfl
theorem zi146_75i {E : zE} {x : Int32} {ls sk : List Value} {h : zH} : zrun zpp E 146 (75, ls, .int x :: sk, h) = zrun zpp E 146 (76, ls, .int x :: .int x :: sk, h) := zrun_at rfl
theorem zi146_76 {E : zE} {v0 : Value} {x : Int32} {ls sk : List Value} {h : zH} : zrun zpp E 146 (76, v0 :: .int x :: ls, sk, h) = zrun zpp E 146 (77, v0 :: .int x :: ls, .int x :: sk, h) := zrun_at rfl
theorem zi146_77 {E : zE} {v0 v1 : Value} {x : Int32} {ls sk : List Value} {h : zH} : zrun zpp E 146 (77, v0 :: v1 :: .int x :: ls, sk, h) = zrun zpp E 146 (78, v0 :: v1 :: .int x :: ls, .int x :: sk, h) := zrun_at rfl
theorem zi146_78 {E : zE} {a0 a1 : Value} {x : Nat} {ls sk : List Value} {h : zH} : zrun zpp E 146 (78, ls, a1 :: a0 :: .ref x :: sk, h) = (zcls h x).bind (fun _ => zcl1 E 146 81 24 ls sk [.ref x, a0, a1] h) := zg_spc (as := [a0, a1]) rfl rfl
theorem zi146_81 {E : zE} {x : Nat} {ls sk : List Value} {h : zH} : zrun zpp E 146 (81, ls, [.ref x], h) = some (some (.ref x), h) := zrun_at rfl
theorem zi146_81n {E : zE} {ls sk : List Value} {h : zH} : zrun zpp E 146 (81, ls, [.null], h) = some (some .null, h) := zrun_at rfl
-- 147 NineDown.isOf
theorem zi147_0 {E : zE} {v0 : Value} {x : Int32} {ls sk : List Value} {h : zH} : zrun zpp E 147 (0, v0 :: .int x :: ls, sk, h) = zrun zpp E 147 (1, v0 :: .int x :: ls, .int x :: sk, h) := zrun_at rfl
theorem zi147_1 {E : zE} {x : Int32} {ls sk : List Value} {h : zH} : zrun zpp E 147 (1, ls, .int x :: sk, h) = if x = 0 then zrun zpp E 147 (36, ls, sk, h) else if x = 1 then zrun zpp E 147 (38, ls, sk, h) else if x = 2 then zrun zpp E 147 (43, ls, sk, h) else if x = 3 then zrun zpp E 147 (48, ls, sk, h) else if x = 4 then zrun zpp E 147 (53, ls, sk, h) else zrun zpp E 147 (58, ls, sk, h) := zrun_at rfl
theorem zi147_36 {E : zE} {ls sk : List Value} {h : zH} : zrun zpp E 147 (36, ls, sk, h) = zrun zpp E 147 (37, ls, .int 1 :: sk, h) := zg_iconst rfl ci_1
theorem zi147_37 {E : zE} {x : Int32} {ls sk : List Value} {h : zH} : zrun zpp E 147 (37, ls, [.int x], h) = if x = 0 then some (some (.int 0), h) else if x = 1 then some (some (.int 1), h) else none := zrun_at rfl
theorem zi147_38 {E : zE} {x : Nat} {ls sk : List Value} {h : zH} : zrun zpp E 147 (38, .ref x :: ls, sk, h) = zrun zpp E 147 (39, .ref x :: ls, .ref x :: sk, h) := zrun_at rfl
theorem zi147_38n {E : zE} {ls sk : List Value} {h : zH} : zrun zpp E 147 (38, .null :: ls, sk, h) = zrun zpp E 147 (39, .null :: ls, .null :: sk, h) := zrun_at rfl
theorem zi147_39 {E : zE} {x : Nat} {ls sk : List Value} {h : zH} : zrun zpp E 147 (39, ls, .ref x :: sk, h) = (zcls h x).bind (fun c => if ([7, 1, 4] : List Nat).contains c = true then zrun zpp E 147 (42, ls, .int 1 :: sk, h) else if ([2, 3] : List Nat).contains c = true then zrun zpp E 147 (42, ls, .int 0 :: sk, h) else none) := zg_inst rfl
theorem zi147_42 {E : zE} {x : Int32} {ls sk : List Value} {h : zH} : zrun zpp E 147 (42, ls, [.int x], h) = if x = 0 then some (some (.int 0), h) else if x = 1 then some (some (.int 1), h) else none := zrun_at rfl
theorem zi147_43 {E : zE} {x : Nat} {ls sk : List Value} {h : zH} : zrun zpp E 147 (43, .ref x :: ls, sk, h) = zrun zpp E 147 (44, .ref x :: ls, .ref x :: sk, h) := zrun_at rfl
theorem zi147_43n {E : zE} {ls sk : List Value} {h : zH} : zrun zpp E 147 (43, .null :: ls, sk, h) = zrun zpp E 147 (44, .null :: ls, .null :: sk, h) := zrun_at rfl
theorem zi147_44 {E : zE} {x : Nat} {ls sk : List Value} {h : zH} : zrun zpp E 147 (44, ls, .ref x :: sk, h) = (zcls h x).bind (fun c => if ([1] : List Nat).contains c = true then zrun zpp E 147 (47, ls, .int 1 :: sk, h) else if ([2, 3, 4, 7] : List Nat).contains c = true then zrun zpp E 147 (47, ls, .int 0 :: sk, h) else none) := zg_inst rfl
theorem zi147_47 {E : zE} {x : Int32} {ls sk : List Value} {h : zH} : zrun zpp E 147 (47, ls, [.int x], h) = if x = 0 then some (some (.int 0), h) else if x = 1 then some (some (.int 1), h) else none := zrun_at rfl
theorem zi147_48 {E : zE} {x : Nat} {ls sk : List Value} {h : zH} : zrun zpp E 147 (48, .ref x :: ls, sk, h) = zrun zpp E 147 (49, .ref x :: ls, .ref x :: sk, h) := zrun_at rfl
theorem zi147_48n {E : zE} {ls sk : List Value} {h : zH} : zrun zpp E 147 (48, .null :: ls, sk, h) = zrun zpp E 147 (49, .null :: ls, .null :: sk, h) := zrun_at rfl
theorem zi147_49 {E : zE} {x : Nat} {ls sk : List Value} {h : zH} : zrun zpp E 147 (49, ls, .ref x :: sk, h) = (zcls h x).bind (fun c => if ([4] : List Nat).contains c = true then zrun zpp E 147 (52, ls, .int 1 :: sk, h) else if ([1, 2, 3, 7] : List Nat).contains c = true then zrun zpp E 147 (52, ls, .int 0 :: sk, h) else none) := zg_inst rfl
theorem zi147_52 {E : zE} {x : Int32} {ls sk : List Value} {h : zH} : zrun zpp E 147 (52, ls, [.int x], h) = if x = 0 then some (some (.int 0), h) else if x = 1 then some (some (.int 1), h) else none := zrun_at rfl
theorem zi147_53 {E : zE} {x : Nat} {ls sk : List Value} {h : zH} : zrun zpp E 147 (53, .ref x :: ls, sk, h) = zrun zpp E 147 (54, .ref x :: ls, .ref x :: sk, h) := zrun_at rfl
theorem zi147_53n {E : zE} {ls sk : List Value} {h : zH} : zrun zpp E 147 (53, .null :: ls, sk, h) = zrun zpp E 147 (54, .null :: ls, .null :: sk, h) := zrun_at rfl
theorem zi147_54 {E : zE} {x : Nat} {ls sk : List Value} {h : zH} : zrun zpp E 147 (54, ls, .ref x :: sk, h) = (zcls h x).bind (fun c => if ([2, 3] : List Nat).contains c = true then zrun zpp E 147 (57, ls, .int 1 :: sk, h) else if ([1, 4, 7] : List Nat).contains c = true then zrun zpp E 147 (57, ls, .int 0 :: sk, h) else none) := zg_inst rfl
theorem zi147_57 {E : zE} {x : Int32} {ls sk : List Value} {h : zH} : zrun zpp E 147 (57, ls, [.int x], h) = if x = 0 then some (some (.int 0), h) else if x = 1 then some (some (.int 1), h) else none := zrun_at rfl
theorem zi147_58 {E : zE} {x : Nat} {ls sk : List Value} {h : zH} : zrun zpp E 147 (58, .ref x :: ls, sk, h) = zrun zpp E 147 (59, .ref x :: ls, .ref x :: sk, h) := zrun_at rfl
theorem zi147_58n {E : zE} {ls sk : List Value} {h : zH} : zrun zpp E 147 (58, .null :: ls, sk, h) = zrun zpp E 147 (59, .null :: ls, .null :: sk, h) := zrun_at rfl
theorem zi147_59 {E : zE} {x : Nat} {ls sk : List Value} {h : zH} : zrun zpp E 147 (59, ls, .ref x :: sk, h) = (zcls h x).bind (fun c => if ([3] : List Nat).contains c = true then zrun zpp E 147 (62, ls, .int 1 :: sk, h) else if ([1, 2, 4, 7] : List Nat).contains c = true then zrun zpp E 147 (62, ls, .int 0 :: sk, h) else none) := zg_inst rfl
theorem zi147_62 {E : zE} {x : Int32} {ls sk : List Value} {h : zH} : zrun zpp E 147 (62, ls, [.int x], h) = if x = 0 then some (some (.int 0), h) else if x = 1 then some (some (.int 1), h) else none := zrun_at rfl
-- 148 NineDownModel.<init>
theorem zi148_0 {E : zE} {x : Nat} {ls sk : List Value} {h : zH} : zrun zpp E 148 (0, .ref x :: ls, sk, h) = zrun zpp E 148 (1, .ref x :: ls, .ref x :: sk, h) := zrun_at rfl
theorem zi148_0n {E : zE} {ls sk : List Value} {h : zH} : zrun zpp E 148 (0, .null :: ls, sk, h) = zrun zpp E 148 (1, .null :: ls, .null :: sk, h) := zrun_at rfl
theorem zi148_1 {E : zE} {x : Nat} {ls sk : List Value} {h : zH} : zrun zpp E 148 (1, ls, .ref x :: sk, h) = if zlow sk = true then zrun zpp E 148 (4, ls, sk, h) else none := zg_obj rfl
theorem zi148_4 {E : zE} {x : Nat} {ls sk : List Value} {h : zH} : zrun zpp E 148 (4, .ref x :: ls, sk, h) = zrun zpp E 148 (5, .ref x :: ls, .ref x :: sk, h) := zrun_at rfl
theorem zi148_4n {E : zE} {ls sk : List Value} {h : zH} : zrun zpp E 148 (4, .null :: ls, sk, h) = zrun zpp E 148 (5, .null :: ls, .null :: sk, h) := zrun_at rfl
theorem zi148_5 {E : zE} {ls sk : List Value} {h : zH} : zrun zpp E 148 (5, ls, sk, h) = zrun zpp E 148 (7, ls, .int 8 :: sk, h) := zg_bipush rfl ci_8
theorem zi148_7 {E : zE} {n : Int32} {ls sk : List Value} {h : zH} : zrun zpp E 148 (7, ls, .int n :: sk, h) = if zix n 65536 = true then zrun zpp E 148 (9, ls, .ref h.length :: sk, h ++ [.inr (.inl (0, n.toNatClampNeg, fun _ => 0))]) else none := zg_newa rfl
theorem zi148_9 {E : zE} {x : Nat} {ls sk : List Value} {h : zH} : zrun zpp E 148 (9, ls, .ref x :: sk, h) = zrun zpp E 148 (10, ls, .ref x :: .ref x :: sk, h) := zrun_at rfl
theorem zi148_9i {E : zE} {x : Int32} {ls sk : List Value} {h : zH} : zrun zpp E 148 (9, ls, .int x :: sk, h) = zrun zpp E 148 (10, ls, .int x :: .int x :: sk, h) := zrun_at rfl
theorem zi148_10 {E : zE} {ls sk : List Value} {h : zH} : zrun zpp E 148 (10, ls, sk, h) = zrun zpp E 148 (11, ls, .int 0 :: sk, h) := zg_iconst rfl ci_0
theorem zi148_11 {E : zE} {ls sk : List Value} {h : zH} : zrun zpp E 148 (11, ls, sk, h) = zrun zpp E 148 (12, ls, .int (-1) :: sk, h) := zg_iconst rfl ci_m1
theorem zi148_12 {E : zE} {x : Nat} {i v : Int32} {ls sk : List Value} {h : zH} : zrun zpp E 148 (12, ls, .int v :: .int i :: .ref x :: sk, h) = (zars 0 h x i v).bind (fun h' => zrun zpp E 148 (13, ls, sk, h')) := zg_iast rfl
theorem zi148_13 {E : zE} {x : Nat} {ls sk : List Value} {h : zH} : zrun zpp E 148 (13, ls, .ref x :: sk, h) = zrun zpp E 148 (14, ls, .ref x :: .ref x :: sk, h) := zrun_at rfl
theorem zi148_13i {E : zE} {x : Int32} {ls sk : List Value} {h : zH} : zrun zpp E 148 (13, ls, .int x :: sk, h) = zrun zpp E 148 (14, ls, .int x :: .int x :: sk, h) := zrun_at rfl
theorem zi148_14 {E : zE} {ls sk : List Value} {h : zH} : zrun zpp E 148 (14, ls, sk, h) = zrun zpp E 148 (15, ls, .int 1 :: sk, h) := zg_iconst rfl ci_1
theorem zi148_15 {E : zE} {ls sk : List Value} {h : zH} : zrun zpp E 148 (15, ls, sk, h) = zrun zpp E 148 (16, ls, .int (-1) :: sk, h) := zg_iconst rfl ci_m1
theorem zi148_16 {E : zE} {x : Nat} {i v : Int32} {ls sk : List Value} {h : zH} : zrun zpp E 148 (16, ls, .int v :: .int i :: .ref x :: sk, h) = (zars 0 h x i v).bind (fun h' => zrun zpp E 148 (17, ls, sk, h')) := zg_iast rfl
theorem zi148_17 {E : zE} {x : Nat} {ls sk : List Value} {h : zH} : zrun zpp E 148 (17, ls, .ref x :: sk, h) = zrun zpp E 148 (18, ls, .ref x :: .ref x :: sk, h) := zrun_at rfl
theorem zi148_17i {E : zE} {x : Int32} {ls sk : List Value} {h : zH} : zrun zpp E 148 (17, ls, .int x :: sk, h) = zrun zpp E 148 (18, ls, .int x :: .int x :: sk, h) := zrun_at rfl
theorem zi148_18 {E : zE} {ls sk : List Value} {h : zH} : zrun zpp E 148 (18, ls, sk, h) = zrun zpp E 148 (19, ls, .int 2 :: sk, h) := zg_iconst rfl ci_2
theorem zi148_19 {E : zE} {ls sk : List Value} {h : zH} : zrun zpp E 148 (19, ls, sk, h) = zrun zpp E 148 (20, ls, .int (-1) :: sk, h) := zg_iconst rfl ci_m1
theorem zi148_20 {E : zE} {x : Nat} {i v : Int32} {ls sk : List Value} {h : zH} : zrun zpp E 148 (20, ls, .int v :: .int i :: .ref x :: sk, h) = (zars 0 h x i v).bind (fun h' => zrun zpp E 148 (21, ls, sk, h')) := zg_iast rfl
theorem zi148_21 {E : zE} {x : Nat} {ls sk : List Value} {h : zH} : zrun zpp E 148 (21, ls, .ref x :: sk, h) = zrun zpp E 148 (22, ls, .ref x :: .ref x :: sk, h) := zrun_at rfl
theorem zi148_21i {E : zE} {x : Int32} {ls sk : List Value} {h : zH} : zrun zpp E 148 (21, ls, .int x :: sk, h) = zrun zpp E 148 (22, ls, .int x :: .int x :: sk, h) := zrun_at rfl
theorem zi148_22 {E : zE} {ls sk : List Value} {h : zH} : zrun zpp E 148 (22, ls, sk, h) = zrun zpp E 148 (23, ls, .int 3 :: sk, h) := zg_iconst rfl ci_3
theorem zi148_23 {E : zE} {ls sk : List Value} {h : zH} : zrun zpp E 148 (23, ls, sk, h) = zrun zpp E 148 (24, ls, .int (-1) :: sk, h) := zg_iconst rfl ci_m1
theorem zi148_24 {E : zE} {x : Nat} {i v : Int32} {ls sk : List Value} {h : zH} : zrun zpp E 148 (24, ls, .int v :: .int i :: .ref x :: sk, h) = (zars 0 h x i v).bind (fun h' => zrun zpp E 148 (25, ls, sk, h')) := zg_iast rfl
theorem zi148_25 {E : zE} {x : Nat} {ls sk : List Value} {h : zH} : zrun zpp E 148 (25, ls, .ref x :: sk, h) = zrun zpp E 148 (26, ls, .ref x :: .ref x :: sk, h) := zrun_at rfl
theorem zi148_25i {E : zE} {x : Int32} {ls sk : List Value} {h : zH} : zrun zpp E 148 (25, ls, .int x :: sk, h) = zrun zpp E 148 (26, ls, .int x :: .int x :: sk, h) := zrun_at rfl
theorem zi148_26 {E : zE} {ls sk : List Value} {h : zH} : zrun zpp E 148 (26, ls, sk, h) = zrun zpp E 148 (27, ls, .int 4 :: sk, h) := zg_iconst rfl ci_4
theorem zi148_27 {E : zE} {ls sk : List Value} {h : zH} : zrun zpp E 148 (27, ls, sk, h) = zrun zpp E 148 (28, ls, .int (-1) :: sk, h) := zg_iconst rfl ci_m1
theorem zi148_28 {E : zE} {x : Nat} {i v : Int32} {ls sk : List Value} {h : zH} : zrun zpp E 148 (28, ls, .int v :: .int i :: .ref x :: sk, h) = (zars 0 h x i v).bind (fun h' => zrun zpp E 148 (29, ls, sk, h')) := zg_iast rfl
theorem zi148_29 {E : zE} {x : Nat} {ls sk : List Value} {h : zH} : zrun zpp E 148 (29, ls, .ref x :: sk, h) = zrun zpp E 148 (30, ls, .ref x :: .ref x :: sk, h) := zrun_at rfl
theorem zi148_29i {E : zE} {x : Int32} {ls sk : List Value} {h : zH} : zrun zpp E 148 (29, ls, .int x :: sk, h) = zrun zpp E 148 (30, ls, .int x :: .int x :: sk, h) := zrun_at rfl
theorem zi148_30 {E : zE} {ls sk : List Value} {h : zH} : zrun zpp E 148 (30, ls, sk, h) = zrun zpp E 148 (31, ls, .int 5 :: sk, h) := zg_iconst rfl ci_5
theorem zi148_31 {E : zE} {ls sk : List Value} {h : zH} : zrun zpp E 148 (31, ls, sk, h) = zrun zpp E 148 (32, ls, .int (-1) :: sk, h) := zg_iconst rfl ci_m1
theorem zi148_32 {E : zE} {x : Nat} {i v : Int32} {ls sk : List Value} {h : zH} : zrun zpp E 148 (32, ls, .int v :: .int i :: .ref x :: sk, h) = (zars 0 h x i v).bind (fun h' => zrun zpp E 148 (33, ls, sk, h')) := zg_iast rfl
theorem zi148_33 {E : zE} {x : Nat} {ls sk : List Value} {h : zH} : zrun zpp E 148 (33, ls, .ref x :: sk, h) = zrun zpp E 148 (34, ls, .ref x :: .ref x :: sk, h) := zrun_at rfl
theorem zi148_33i {E : zE} {x : Int32} {ls sk : List Value} {h : zH} : zrun zpp E 148 (33, ls, .int x :: sk, h) = zrun zpp E 148 (34, ls, .int x :: .int x :: sk, h) := zrun_at rfl
theorem zi148_34 {E : zE} {ls sk : List Value} {h : zH} : zrun zpp E 148 (34, ls, sk, h) = zrun zpp E 148 (36, ls, .int 6 :: sk, h) := zg_bipush rfl ci_6
theorem zi148_36 {E : zE} {ls sk : List Value} {h : zH} : zrun zpp E 148 (36, ls, sk, h) = zrun zpp E 148 (37, ls, .int (-1) :: sk, h) := zg_iconst rfl ci_m1
theorem zi148_37 {E : zE} {x : Nat} {i v : Int32} {ls sk : List Value} {h : zH} : zrun zpp E 148 (37, ls, .int v :: .int i :: .ref x :: sk, h) = (zars 0 h x i v).bind (fun h' => zrun zpp E 148 (38, ls, sk, h')) := zg_iast rfl
theorem zi148_38 {E : zE} {x : Nat} {ls sk : List Value} {h : zH} : zrun zpp E 148 (38, ls, .ref x :: sk, h) = zrun zpp E 148 (39, ls, .ref x :: .ref x :: sk, h) := zrun_at rfl
theorem zi148_38i {E : zE} {x : Int32} {ls sk : List Value} {h : zH} : zrun zpp E 148 (38, ls, .int x :: sk, h) = zrun zpp E 148 (39, ls, .int x :: .int x :: sk, h) := zrun_at rfl
theorem zi148_39 {E : zE} {ls sk : List Value} {h : zH} : zrun zpp E 148 (39, ls, sk, h) = zrun zpp E 148 (41, ls, .int 7 :: sk, h) := zg_bipush rfl ci_7
theorem zi148_41 {E : zE} {ls sk : List Value} {h : zH} : zrun zpp E 148 (41, ls, sk, h) = zrun zpp E 148 (42, ls, .int (-1) :: sk, h) := zg_iconst rfl ci_m1
theorem zi148_42 {E : zE} {x : Nat} {i v : Int32} {ls sk : List Value} {h : zH} : zrun zpp E 148 (42, ls, .int v :: .int i :: .ref x :: sk, h) = (zars 0 h x i v).bind (fun h' => zrun zpp E 148 (43, ls, sk, h')) := zg_iast rfl
theorem zi148_43 {E : zE} {x : Nat} {v : Value} {ls sk : List Value} {h : zH} : zrun zpp E 148 (43, ls, v :: .ref x :: sk, h) = (zstf [11] 2 h x 2 v).bind (fun h' => zrun zpp E 148 (46, ls, sk, h')) := zg_putf rfl
theorem zi148_46 {E : zE} {x : Nat} {ls sk : List Value} {h : zH} : zrun zpp E 148 (46, .ref x :: ls, sk, h) = zrun zpp E 148 (47, .ref x :: ls, .ref x :: sk, h) := zrun_at rfl
theorem zi148_46n {E : zE} {ls sk : List Value} {h : zH} : zrun zpp E 148 (46, .null :: ls, sk, h) = zrun zpp E 148 (47, .null :: ls, .null :: sk, h) := zrun_at rfl
theorem zi148_47 {E : zE} {ls sk : List Value} {h : zH} : zrun zpp E 148 (47, ls, sk, h) = zrun zpp E 148 (49, ls, .int 8 :: sk, h) := zg_bipush rfl ci_8
theorem zi148_49 {E : zE} {n : Int32} {ls sk : List Value} {h : zH} : zrun zpp E 148 (49, ls, .int n :: sk, h) = if zix n 65536 = true then zrun zpp E 148 (51, ls, .ref h.length :: sk, h ++ [.inr (.inl (0, n.toNatClampNeg, fun _ => 0))]) else none := zg_newa rfl
theorem zi148_51 {E : zE} {x : Nat} {v : Value} {ls sk : List Value} {h : zH} : zrun zpp E 148 (51, ls, v :: .ref x :: sk, h) = (zstf [11] 2 h x 3 v).bind (fun h' => zrun zpp E 148 (54, ls, sk, h')) := zg_putf rfl
theorem zi148_54 {E : zE} {x : Nat} {ls sk : List Value} {h : zH} : zrun zpp E 148 (54, .ref x :: ls, sk, h) = zrun zpp E 148 (55, .ref x :: ls, .ref x :: sk, h) := zrun_at rfl
theorem zi148_54n {E : zE} {ls sk : List Value} {h : zH} : zrun zpp E 148 (54, .null :: ls, sk, h) = zrun zpp E 148 (55, .null :: ls, .null :: sk, h) := zrun_at rfl
theorem zi148_55 {E : zE} {ls sk : List Value} {h : zH} : zrun zpp E 148 (55, ls, sk, h) = zrun zpp E 148 (58, ls, .int 320 :: sk, h) := zg_sipush rfl ci_320
theorem zi148_58 {E : zE} {n : Int32} {ls sk : List Value} {h : zH} : zrun zpp E 148 (58, ls, .int n :: sk, h) = if zix n 65536 = true then zrun zpp E 148 (60, ls, .ref h.length :: sk, h ++ [.inr (.inl (0, n.toNatClampNeg, fun _ => 0))]) else none := zg_newa rfl
theorem zi148_60 {E : zE} {x : Nat} {v : Value} {ls sk : List Value} {h : zH} : zrun zpp E 148 (60, ls, v :: .ref x :: sk, h) = (zstf [11] 2 h x 4 v).bind (fun h' => zrun zpp E 148 (63, ls, sk, h')) := zg_putf rfl
theorem zi148_63 {E : zE} {x : Nat} {ls sk : List Value} {h : zH} : zrun zpp E 148 (63, .ref x :: ls, sk, h) = zrun zpp E 148 (64, .ref x :: ls, .ref x :: sk, h) := zrun_at rfl
theorem zi148_63n {E : zE} {ls sk : List Value} {h : zH} : zrun zpp E 148 (63, .null :: ls, sk, h) = zrun zpp E 148 (64, .null :: ls, .null :: sk, h) := zrun_at rfl
theorem zi148_64 {E : zE} {ls sk : List Value} {h : zH} : zrun zpp E 148 (64, ls, sk, h) = zrun zpp E 148 (66, ls, .int 73 :: sk, h) := zg_bipush rfl ci_73
theorem zi148_66 {E : zE} {n : Int32} {ls sk : List Value} {h : zH} : zrun zpp E 148 (66, ls, .int n :: sk, h) = if zix n 65536 = true then zrun zpp E 148 (68, ls, .ref h.length :: sk, h ++ [.inr (.inl (0, n.toNatClampNeg, fun _ => 0))]) else none := zg_newa rfl
theorem zi148_68 {E : zE} {x : Nat} {v : Value} {ls sk : List Value} {h : zH} : zrun zpp E 148 (68, ls, v :: .ref x :: sk, h) = (zstf [11] 2 h x 5 v).bind (fun h' => zrun zpp E 148 (71, ls, sk, h')) := zg_putf rfl
theorem zi148_71 {E : zE} {x : Nat} {ls sk : List Value} {h : zH} : zrun zpp E 148 (71, .ref x :: ls, sk, h) = zrun zpp E 148 (72, .ref x :: ls, .ref x :: sk, h) := zrun_at rfl
theorem zi148_71n {E : zE} {ls sk : List Value} {h : zH} : zrun zpp E 148 (71, .null :: ls, sk, h) = zrun zpp E 148 (72, .null :: ls, .null :: sk, h) := zrun_at rfl
theorem zi148_72 {E : zE} {ls sk : List Value} {h : zH} : zrun zpp E 148 (72, ls, sk, h) = zrun zpp E 148 (74, ls, .int 73 :: sk, h) := zg_bipush rfl ci_73
theorem zi148_74 {E : zE} {n : Int32} {ls sk : List Value} {h : zH} : zrun zpp E 148 (74, ls, .int n :: sk, h) = if zix n 65536 = true then zrun zpp E 148 (76, ls, .ref h.length :: sk, h ++ [.inr (.inl (0, n.toNatClampNeg, fun _ => 0))]) else none := zg_newa rfl
theorem zi148_76 {E : zE} {x : Nat} {v : Value} {ls sk : List Value} {h : zH} : zrun zpp E 148 (76, ls, v :: .ref x :: sk, h) = (zstf [11] 2 h x 6 v).bind (fun h' => zrun zpp E 148 (79, ls, sk, h')) := zg_putf rfl
theorem zi148_79 {E : zE} {x : Nat} {ls sk : List Value} {h : zH} : zrun zpp E 148 (79, .ref x :: ls, sk, h) = zrun zpp E 148 (80, .ref x :: ls, .ref x :: sk, h) := zrun_at rfl
theorem zi148_79n {E : zE} {ls sk : List Value} {h : zH} : zrun zpp E 148 (79, .null :: ls, sk, h) = zrun zpp E 148 (80, .null :: ls, .null :: sk, h) := zrun_at rfl
theorem zi148_80 {E : zE} {ls sk : List Value} {h : zH} : zrun zpp E 148 (80, ls, sk, h) = zrun zpp E 148 (83, ls, .int 1752 :: sk, h) := zg_sipush rfl ci_1752
theorem zi148_83 {E : zE} {n : Int32} {ls sk : List Value} {h : zH} : zrun zpp E 148 (83, ls, .int n :: sk, h) = if zix n 65536 = true then zrun zpp E 148 (85, ls, .ref h.length :: sk, h ++ [.inr (.inl (0, n.toNatClampNeg, fun _ => 0))]) else none := zg_newa rfl
theorem zi148_85 {E : zE} {x : Nat} {v : Value} {ls sk : List Value} {h : zH} : zrun zpp E 148 (85, ls, v :: .ref x :: sk, h) = (zstf [11] 2 h x 7 v).bind (fun h' => zrun zpp E 148 (88, ls, sk, h')) := zg_putf rfl
theorem zi148_88 {E : zE} {x : Nat} {ls sk : List Value} {h : zH} : zrun zpp E 148 (88, .ref x :: ls, sk, h) = zrun zpp E 148 (89, .ref x :: ls, .ref x :: sk, h) := zrun_at rfl
theorem zi148_88n {E : zE} {ls sk : List Value} {h : zH} : zrun zpp E 148 (88, .null :: ls, sk, h) = zrun zpp E 148 (89, .null :: ls, .null :: sk, h) := zrun_at rfl
theorem zi148_89 {E : zE} {ls sk : List Value} {h : zH} : zrun zpp E 148 (89, ls, sk, h) = zrun zpp E 148 (91, ls, .int 120 :: sk, h) := zg_bipush rfl ci_120
theorem zi148_91 {E : zE} {n : Int32} {ls sk : List Value} {h : zH} : zrun zpp E 148 (91, ls, .int n :: sk, h) = if zix n 65536 = true then zrun zpp E 148 (93, ls, .ref h.length :: sk, h ++ [.inr (.inl (0, n.toNatClampNeg, fun _ => 0))]) else none := zg_newa rfl
theorem zi148_93 {E : zE} {x : Nat} {v : Value} {ls sk : List Value} {h : zH} : zrun zpp E 148 (93, ls, v :: .ref x :: sk, h) = (zstf [11] 2 h x 9 v).bind (fun h' => zrun zpp E 148 (96, ls, sk, h')) := zg_putf rfl
theorem zi148_96 {E : zE} {x : Nat} {ls sk : List Value} {h : zH} : zrun zpp E 148 (96, .ref x :: ls, sk, h) = zrun zpp E 148 (97, .ref x :: ls, .ref x :: sk, h) := zrun_at rfl
theorem zi148_96n {E : zE} {ls sk : List Value} {h : zH} : zrun zpp E 148 (96, .null :: ls, sk, h) = zrun zpp E 148 (97, .null :: ls, .null :: sk, h) := zrun_at rfl
theorem zi148_97 {E : zE} {ls sk : List Value} {h : zH} : zrun zpp E 148 (97, ls, sk, h) = zrun zpp E 148 (100, ls, .int 256 :: sk, h) := zg_sipush rfl ci_256
theorem zi148_100 {E : zE} {n : Int32} {ls sk : List Value} {h : zH} : zrun zpp E 148 (100, ls, .int n :: sk, h) = if zix n 65536 = true then zrun zpp E 148 (102, ls, .ref h.length :: sk, h ++ [.inr (.inl (0, n.toNatClampNeg, fun _ => 0))]) else none := zg_newa rfl
theorem zi148_102 {E : zE} {x : Nat} {v : Value} {ls sk : List Value} {h : zH} : zrun zpp E 148 (102, ls, v :: .ref x :: sk, h) = (zstf [11] 2 h x 18 v).bind (fun h' => zrun zpp E 148 (105, ls, sk, h')) := zg_putf rfl
theorem zi148_105 {E : zE} {x : Nat} {ls sk : List Value} {h : zH} : zrun zpp E 148 (105, .ref x :: ls, sk, h) = zrun zpp E 148 (106, .ref x :: ls, .ref x :: sk, h) := zrun_at rfl
theorem zi148_105n {E : zE} {ls sk : List Value} {h : zH} : zrun zpp E 148 (105, .null :: ls, sk, h) = zrun zpp E 148 (106, .null :: ls, .null :: sk, h) := zrun_at rfl
theorem zi148_106 {E : zE} {ls sk : List Value} {h : zH} : zrun zpp E 148 (106, ls, sk, h) = zrun zpp E 148 (109, ls, .int 256 :: sk, h) := zg_sipush rfl ci_256
theorem zi148_109 {E : zE} {n : Int32} {ls sk : List Value} {h : zH} : zrun zpp E 148 (109, ls, .int n :: sk, h) = if zix n 65536 = true then zrun zpp E 148 (111, ls, .ref h.length :: sk, h ++ [.inr (.inl (0, n.toNatClampNeg, fun _ => 0))]) else none := zg_newa rfl
theorem zi148_111 {E : zE} {x : Nat} {v : Value} {ls sk : List Value} {h : zH} : zrun zpp E 148 (111, ls, v :: .ref x :: sk, h) = (zstf [11] 2 h x 19 v).bind (fun h' => zrun zpp E 148 (114, ls, sk, h')) := zg_putf rfl
theorem zi148_114 {E : zE} {x : Nat} {ls sk : List Value} {h : zH} : zrun zpp E 148 (114, .ref x :: ls, sk, h) = zrun zpp E 148 (115, .ref x :: ls, .ref x :: sk, h) := zrun_at rfl
theorem zi148_114n {E : zE} {ls sk : List Value} {h : zH} : zrun zpp E 148 (114, .null :: ls, sk, h) = zrun zpp E 148 (115, .null :: ls, .null :: sk, h) := zrun_at rfl
theorem zi148_115 {E : zE} {ls sk : List Value} {h : zH} : zrun zpp E 148 (115, ls, sk, h) = zrun zpp E 148 (117, ls, .int 8 :: sk, h) := zg_bipush rfl ci_8
theorem zi148_117 {E : zE} {n : Int32} {ls sk : List Value} {h : zH} : zrun zpp E 148 (117, ls, .int n :: sk, h) = if zix n 65536 = true then zrun zpp E 148 (119, ls, .ref h.length :: sk, h ++ [.inr (.inl (0, n.toNatClampNeg, fun _ => 0))]) else none := zg_newa rfl
theorem zi148_119 {E : zE} {x : Nat} {v : Value} {ls sk : List Value} {h : zH} : zrun zpp E 148 (119, ls, v :: .ref x :: sk, h) = (zstf [11] 2 h x 20 v).bind (fun h' => zrun zpp E 148 (122, ls, sk, h')) := zg_putf rfl
theorem zi148_122 {E : zE} {x : Nat} {ls sk : List Value} {h : zH} : zrun zpp E 148 (122, .ref x :: ls, sk, h) = zrun zpp E 148 (123, .ref x :: ls, .ref x :: sk, h) := zrun_at rfl
theorem zi148_122n {E : zE} {ls sk : List Value} {h : zH} : zrun zpp E 148 (122, .null :: ls, sk, h) = zrun zpp E 148 (123, .null :: ls, .null :: sk, h) := zrun_at rfl
theorem zi148_123 {E : zE} {ls sk : List Value} {h : zH} : zrun zpp E 148 (123, ls, sk, h) = zrun zpp E 148 (124, ls, .int 2 :: sk, h) := zg_iconst rfl ci_2
theorem zi148_124 {E : zE} {n : Int32} {ls sk : List Value} {h : zH} : zrun zpp E 148 (124, ls, .int n :: sk, h) = if zix n 65536 = true then zrun zpp E 148 (126, ls, .ref h.length :: sk, h ++ [.inr (.inl (1, n.toNatClampNeg, fun _ => 0))]) else none := zg_newb rfl
theorem zi148_126 {E : zE} {x : Nat} {v : Value} {ls sk : List Value} {h : zH} : zrun zpp E 148 (126, ls, v :: .ref x :: sk, h) = (zstf [11] 2 h x 21 v).bind (fun h' => zrun zpp E 148 (129, ls, sk, h')) := zg_putf rfl
theorem zi148_129 {E : zE} {x : Nat} {ls sk : List Value} {h : zH} : zrun zpp E 148 (129, .ref x :: ls, sk, h) = zrun zpp E 148 (130, .ref x :: ls, .ref x :: sk, h) := zrun_at rfl
theorem zi148_129n {E : zE} {ls sk : List Value} {h : zH} : zrun zpp E 148 (129, .null :: ls, sk, h) = zrun zpp E 148 (130, .null :: ls, .null :: sk, h) := zrun_at rfl
theorem zi148_130 {E : zE} {ls sk : List Value} {h : zH} : zrun zpp E 148 (130, ls, sk, h) = zrun zpp E 148 (133, ls, .int 146 :: sk, h) := zg_sipush rfl ci_146
theorem zi148_133 {E : zE} {n : Int32} {ls sk : List Value} {h : zH} : zrun zpp E 148 (133, ls, .int n :: sk, h) = if zix n 65536 = true then zrun zpp E 148 (135, ls, .ref h.length :: sk, h ++ [.inr (.inl (0, n.toNatClampNeg, fun _ => 0))]) else none := zg_newa rfl
theorem zi148_135 {E : zE} {x : Nat} {v : Value} {ls sk : List Value} {h : zH} : zrun zpp E 148 (135, ls, v :: .ref x :: sk, h) = (zstf [11] 2 h x 22 v).bind (fun h' => zrun zpp E 148 (138, ls, sk, h')) := zg_putf rfl
theorem zi148_138 {E : zE} {x : Nat} {ls sk : List Value} {h : zH} : zrun zpp E 148 (138, .ref x :: ls, sk, h) = zrun zpp E 148 (139, .ref x :: ls, .ref x :: sk, h) := zrun_at rfl
theorem zi148_138n {E : zE} {ls sk : List Value} {h : zH} : zrun zpp E 148 (138, .null :: ls, sk, h) = zrun zpp E 148 (139, .null :: ls, .null :: sk, h) := zrun_at rfl
theorem zi148_139 {E : zE} {ls sk : List Value} {h : zH} : zrun zpp E 148 (139, ls, sk, h) = zrun zpp E 148 (141, ls, .int 16 :: sk, h) := zg_bipush rfl ci_16
theorem zi148_141 {E : zE} {n : Int32} {ls sk : List Value} {h : zH} : zrun zpp E 148 (141, ls, .int n :: sk, h) = if zix n 65536 = true then zrun zpp E 148 (143, ls, .ref h.length :: sk, h ++ [.inr (.inl (0, n.toNatClampNeg, fun _ => 0))]) else none := zg_newa rfl
theorem zi148_143 {E : zE} {x : Nat} {v : Value} {ls sk : List Value} {h : zH} : zrun zpp E 148 (143, ls, v :: .ref x :: sk, h) = (zstf [11] 2 h x 23 v).bind (fun h' => zrun zpp E 148 (146, ls, sk, h')) := zg_putf rfl
theorem zi148_146 {E : zE} {ls sk : List Value} {h : zH} : zrun zpp E 148 (146, ls, [], h) = some (none, h) := zrun_at rfl
-- 149 NineDownModel.in
theorem zi149_0 {E : zE} {x : Int64} {ls sk : List Value} {h : zH} : zrun zpp E 149 (0, .long x :: ls, sk, h) = zrun zpp E 149 (1, .long x :: ls, .long x :: sk, h) := zrun_at rfl
theorem zi149_1 {E : zE} {v0 v1 : Value} {x : Int64} {ls sk : List Value} {h : zH} : zrun zpp E 149 (1, v0 :: v1 :: .long x :: ls, sk, h) = zrun zpp E 149 (2, v0 :: v1 :: .long x :: ls, .long x :: sk, h) := zrun_at rfl
theorem zi149_2 {E : zE} {x y : Int64} {ls sk : List Value} {h : zH} : zrun zpp E 149 (2, ls, .long y :: .long x :: sk, h) = zrun zpp E 149 (3, ls, .int (lg_cmp x y) :: sk, h) := zrun_at rfl
theorem zi149_3 {E : zE} {x : Int32} {ls sk : List Value} {h : zH} : zrun zpp E 149 (3, ls, .int x :: sk, h) = if x < 0 then zrun zpp E 149 (17, ls, sk, h) else zrun zpp E 149 (6, ls, sk, h) := zrun_at rfl
theorem zi149_6 {E : zE} {x : Int64} {ls sk : List Value} {h : zH} : zrun zpp E 149 (6, .long x :: ls, sk, h) = zrun zpp E 149 (7, .long x :: ls, .long x :: sk, h) := zrun_at rfl
theorem zi149_7 {E : zE} {v0 v1 v2 v3 : Value} {x : Int64} {ls sk : List Value} {h : zH} : zrun zpp E 149 (7, v0 :: v1 :: v2 :: v3 :: .long x :: ls, sk, h) = zrun zpp E 149 (9, v0 :: v1 :: v2 :: v3 :: .long x :: ls, .long x :: sk, h) := zrun_at rfl
theorem zi149_9 {E : zE} {x y : Int64} {ls sk : List Value} {h : zH} : zrun zpp E 149 (9, ls, .long y :: .long x :: sk, h) = zrun zpp E 149 (10, ls, .int (lg_cmp x y) :: sk, h) := zrun_at rfl
theorem zi149_10 {E : zE} {x : Int32} {ls sk : List Value} {h : zH} : zrun zpp E 149 (10, ls, .int x :: sk, h) = if 0 < x then zrun zpp E 149 (17, ls, sk, h) else zrun zpp E 149 (13, ls, sk, h) := zrun_at rfl
theorem zi149_13 {E : zE} {ls sk : List Value} {h : zH} : zrun zpp E 149 (13, ls, sk, h) = zrun zpp E 149 (14, ls, .int 1 :: sk, h) := zg_iconst rfl ci_1
theorem zi149_14 {E : zE} {ls sk : List Value} {h : zH} : zrun zpp E 149 (14, ls, sk, h) = zrun zpp E 149 (18, ls, sk, h) := zrun_at rfl
theorem zi149_17 {E : zE} {ls sk : List Value} {h : zH} : zrun zpp E 149 (17, ls, sk, h) = zrun zpp E 149 (18, ls, .int 0 :: sk, h) := zg_iconst rfl ci_0
theorem zi149_18 {E : zE} {x : Int32} {ls sk : List Value} {h : zH} : zrun zpp E 149 (18, ls, [.int x], h) = if x = 0 then some (some (.int 0), h) else if x = 1 then some (some (.int 1), h) else none := zrun_at rfl
