-- 0 NineDownLaw.law
set_option maxRecDepth 20000 in
theorem zi0_0 {E : zE} {ls sk : List Value} {h : zH} : zrun zpp E 0 (0, ls, sk, h) = zrun zpp E 0 (3, ls, .ref h.length :: sk, h ++ [.inl (10, zborn 10)]) := zg_new rfl
set_option maxRecDepth 20000 in
theorem zi0_3 {E : zE} {x : Nat} {ls sk : List Value} {h : zH} : zrun zpp E 0 (3, ls, .ref x :: sk, h) = zrun zpp E 0 (4, ls, .ref x :: .ref x :: sk, h) := zrun_at (i := (.dup, 4, 0, [])) rfl
set_option maxRecDepth 20000 in
theorem zi0_3i {E : zE} {x : Int32} {ls sk : List Value} {h : zH} : zrun zpp E 0 (3, ls, .int x :: sk, h) = zrun zpp E 0 (4, ls, .int x :: .int x :: sk, h) := zrun_at (i := (.dup, 4, 0, [])) rfl
set_option maxRecDepth 20000 in
theorem zi0_4 {E : zE} {x : Nat} {ls sk : List Value} {h : zH} : zrun zpp E 0 (4, ls, .ref x :: sk, h) = (zcls h x).bind (fun _ => zcl1 E 0 7 89 ls sk [.ref x] h) := zg_spc (as := []) rfl rfl
set_option maxRecDepth 20000 in
theorem zi0_7 {E : zE} {x : Nat} {ls sk : List Value} {h : zH} : zrun zpp E 0 (7, ls, .ref x :: sk, h) = if zfree ls 1 = true then zrun zpp E 0 (8, ls.set 1 (.ref x), sk, h) else none := zg_astr rfl (fun _ _ _ => rfl)
set_option maxRecDepth 20000 in
theorem zi0_7n {E : zE} {ls sk : List Value} {h : zH} : zrun zpp E 0 (7, ls, .null :: sk, h) = if zfree ls 1 = true then zrun zpp E 0 (8, ls.set 1 .null, sk, h) else none := zg_astn rfl (fun _ _ _ => rfl)
set_option maxRecDepth 20000 in
theorem zi0_8 {E : zE} {ls sk : List Value} {h : zH} : zrun zpp E 0 (8, ls, sk, h) = zrun zpp E 0 (11, ls, .ref h.length :: sk, h ++ [.inl (11, zborn 11)]) := zg_new rfl
set_option maxRecDepth 20000 in
theorem zi0_11 {E : zE} {x : Nat} {ls sk : List Value} {h : zH} : zrun zpp E 0 (11, ls, .ref x :: sk, h) = zrun zpp E 0 (12, ls, .ref x :: .ref x :: sk, h) := zrun_at (i := (.dup, 12, 0, [])) rfl
set_option maxRecDepth 20000 in
theorem zi0_11i {E : zE} {x : Int32} {ls sk : List Value} {h : zH} : zrun zpp E 0 (11, ls, .int x :: sk, h) = zrun zpp E 0 (12, ls, .int x :: .int x :: sk, h) := zrun_at (i := (.dup, 12, 0, [])) rfl
set_option maxRecDepth 20000 in
theorem zi0_12 {E : zE} {x : Nat} {ls sk : List Value} {h : zH} : zrun zpp E 0 (12, ls, .ref x :: sk, h) = (zcls h x).bind (fun _ => zcl1 E 0 15 148 ls sk [.ref x] h) := zg_spc (as := []) rfl rfl
set_option maxRecDepth 20000 in
theorem zi0_15 {E : zE} {x : Nat} {ls sk : List Value} {h : zH} : zrun zpp E 0 (15, ls, .ref x :: sk, h) = if zfree ls 2 = true then zrun zpp E 0 (16, ls.set 2 (.ref x), sk, h) else none := zg_astr rfl (fun _ _ _ => rfl)
set_option maxRecDepth 20000 in
theorem zi0_15n {E : zE} {ls sk : List Value} {h : zH} : zrun zpp E 0 (15, ls, .null :: sk, h) = if zfree ls 2 = true then zrun zpp E 0 (16, ls.set 2 .null, sk, h) else none := zg_astn rfl (fun _ _ _ => rfl)
set_option maxRecDepth 20000 in
theorem zi0_16 {E : zE} {ls sk : List Value} {h : zH} : zrun zpp E 0 (16, ls, sk, h) = zrun zpp E 0 (17, ls, .int 0 :: sk, h) := zg_iconst rfl ci_0
set_option maxRecDepth 20000 in
theorem zi0_17 {E : zE} {x : Int32} {ls sk : List Value} {h : zH} : zrun zpp E 0 (17, ls, .int x :: sk, h) = if zfree ls 3 = true then zrun zpp E 0 (18, ls.set 3 (.int x), sk, h) else none := zg_ist rfl (fun _ _ _ => rfl)
set_option maxRecDepth 20000 in
theorem zi0_18 {E : zE} {v0 v1 v2 : Value} {x : Int32} {ls sk : List Value} {h : zH} : zrun zpp E 0 (18, v0 :: v1 :: v2 :: .int x :: ls, sk, h) = zrun zpp E 0 (19, v0 :: v1 :: v2 :: .int x :: ls, .int x :: sk, h) := zrun_at (i := (.iload_n 3, 19, 0, [])) rfl
set_option maxRecDepth 20000 in
theorem zi0_19 {E : zE} {x : Nat} {ls sk : List Value} {h : zH} : zrun zpp E 0 (19, .ref x :: ls, sk, h) = zrun zpp E 0 (20, .ref x :: ls, .ref x :: sk, h) := zrun_at (i := (.aload_n 0, 20, 0, [])) rfl
set_option maxRecDepth 20000 in
theorem zi0_19n {E : zE} {ls sk : List Value} {h : zH} : zrun zpp E 0 (19, .null :: ls, sk, h) = zrun zpp E 0 (20, .null :: ls, .null :: sk, h) := zrun_at (i := (.aload_n 0, 20, 0, [])) rfl
set_option maxRecDepth 20000 in
theorem zi0_19f {E : zE} {x : UInt32} {ls sk : List Value} {h : zH} : zrun zpp E 0 (19, .float x :: ls, sk, h) = zrun zpp E 0 (20, .float x :: ls, .float x :: sk, h) := zrun_at (i := (.aload_n 0, 20, 0, [])) rfl
set_option maxRecDepth 20000 in
theorem zi0_20 {E : zE} {x : UInt32} {ls sk : List Value} {h : zH} : zrun zpp E 0 (20, ls, .float x :: sk, h) = zrun zpp E 0 (21, ls, .int (Int32.ofNat E.1) :: sk, h) := zg_slen rfl
set_option maxRecDepth 20000 in
theorem zi0_21 {E : zE} {ls sk : List Value} {h : zH} : zrun zpp E 0 (21, ls, sk, h) = zrun zpp E 0 (23, ls, .int 6 :: sk, h) := zg_bipush rfl ci_6
set_option maxRecDepth 20000 in
theorem zi0_23 {E : zE} {x y : Int32} {ls sk : List Value} {h : zH} : zrun zpp E 0 (23, ls, .int y :: .int x :: sk, h) = zrun zpp E 0 (24, ls, .int (x - y) :: sk, h) := zrun_at (i := (.isub, 24, 0, [])) rfl
set_option maxRecDepth 20000 in
theorem zi0_24 {E : zE} {x y : Int32} {ls sk : List Value} {h : zH} : zrun zpp E 0 (24, ls, .int y :: .int x :: sk, h) = if y < x then zrun zpp E 0 (1307, ls, sk, h) else zrun zpp E 0 (27, ls, sk, h) := zrun_at (i := (.if_icmp .gt 1283, 27, 0, [1307])) rfl
set_option maxRecDepth 20000 in
theorem zi0_27 {E : zE} {x : Nat} {ls sk : List Value} {h : zH} : zrun zpp E 0 (27, .ref x :: ls, sk, h) = zrun zpp E 0 (28, .ref x :: ls, .ref x :: sk, h) := zrun_at (i := (.aload_n 0, 28, 0, [])) rfl
set_option maxRecDepth 20000 in
theorem zi0_27n {E : zE} {ls sk : List Value} {h : zH} : zrun zpp E 0 (27, .null :: ls, sk, h) = zrun zpp E 0 (28, .null :: ls, .null :: sk, h) := zrun_at (i := (.aload_n 0, 28, 0, [])) rfl
set_option maxRecDepth 20000 in
theorem zi0_27f {E : zE} {x : UInt32} {ls sk : List Value} {h : zH} : zrun zpp E 0 (27, .float x :: ls, sk, h) = zrun zpp E 0 (28, .float x :: ls, .float x :: sk, h) := zrun_at (i := (.aload_n 0, 28, 0, [])) rfl
set_option maxRecDepth 20000 in
theorem zi0_28 {E : zE} {v0 v1 v2 : Value} {x : Int32} {ls sk : List Value} {h : zH} : zrun zpp E 0 (28, v0 :: v1 :: v2 :: .int x :: ls, sk, h) = zrun zpp E 0 (29, v0 :: v1 :: v2 :: .int x :: ls, .int x :: sk, h) := zrun_at (i := (.iload_n 3, 29, 0, [])) rfl
set_option maxRecDepth 20000 in
theorem zi0_29 {E : zE} {x : UInt32} {i : Int32} {ls sk : List Value} {h : zH} : zrun zpp E 0 (29, ls, .int i :: .float x :: sk, h) = if zix i E.1 = true then zrun zpp E 0 (30, ls, .int (E.2 i.toNatClampNeg) :: sk, h) else none := zg_sald rfl
set_option maxRecDepth 20000 in
theorem zi0_30 {E : zE} {ls sk : List Value} {h : zH} : zrun zpp E 0 (30, ls, sk, h) = zrun zpp E 0 (32, ls, .int 63 :: sk, h) := zg_bipush rfl ci_63
set_option maxRecDepth 20000 in
theorem zi0_32 {E : zE} {x y : Int32} {ls sk : List Value} {h : zH} : zrun zpp E 0 (32, ls, .int y :: .int x :: sk, h) = zrun zpp E 0 (33, ls, .int (x &&& y) :: sk, h) := zrun_at (i := (.iand, 33, 0, [])) rfl
set_option maxRecDepth 20000 in
theorem zi0_33 {E : zE} {x : Int32} {ls sk : List Value} {h : zH} : zrun zpp E 0 (33, ls, .int x :: sk, h) = zsw x 1301 (fun t => zrun zpp E 0 (t, ls, sk, h)) [(0, 192), (1, 235), (2, 278), (3, 341), (4, 364), (5, 387), (6, 400), (7, 413), (8, 426), (9, 459), (10, 482), (11, 505), (12, 538), (13, 571), (14, 604), (15, 647), (16, 670), (17, 703), (18, 736), (19, 759), (20, 782), (21, 805), (22, 838), (23, 871), (24, 904), (25, 957), (26, 1010), (27, 1064), (28, 1107), (29, 1130), (30, 1153), (31, 1176), (32, 1209), (33, 1242), (34, 1265), (35, 1288)] := (zg_tsw rfl).trans (congrArg (zsw x 1301 _) (by decide +kernel))
set_option maxRecDepth 20000 in
theorem zi0_192 {E : zE} {v0 : Value} {x : Nat} {ls sk : List Value} {h : zH} : zrun zpp E 0 (192, v0 :: .ref x :: ls, sk, h) = zrun zpp E 0 (193, v0 :: .ref x :: ls, .ref x :: sk, h) := zrun_at (i := (.aload_n 1, 193, 0, [])) rfl
set_option maxRecDepth 20000 in
theorem zi0_192n {E : zE} {v0 : Value} {ls sk : List Value} {h : zH} : zrun zpp E 0 (192, v0 :: .null :: ls, sk, h) = zrun zpp E 0 (193, v0 :: .null :: ls, .null :: sk, h) := zrun_at (i := (.aload_n 1, 193, 0, [])) rfl
set_option maxRecDepth 20000 in
theorem zi0_192f {E : zE} {v0 : Value} {x : UInt32} {ls sk : List Value} {h : zH} : zrun zpp E 0 (192, v0 :: .float x :: ls, sk, h) = zrun zpp E 0 (193, v0 :: .float x :: ls, .float x :: sk, h) := zrun_at (i := (.aload_n 1, 193, 0, [])) rfl
set_option maxRecDepth 20000 in
theorem zi0_193 {E : zE} {x : Nat} {ls sk : List Value} {h : zH} : zrun zpp E 0 (193, .ref x :: ls, sk, h) = zrun zpp E 0 (194, .ref x :: ls, .ref x :: sk, h) := zrun_at (i := (.aload_n 0, 194, 0, [])) rfl
set_option maxRecDepth 20000 in
theorem zi0_193n {E : zE} {ls sk : List Value} {h : zH} : zrun zpp E 0 (193, .null :: ls, sk, h) = zrun zpp E 0 (194, .null :: ls, .null :: sk, h) := zrun_at (i := (.aload_n 0, 194, 0, [])) rfl
set_option maxRecDepth 20000 in
theorem zi0_193f {E : zE} {x : UInt32} {ls sk : List Value} {h : zH} : zrun zpp E 0 (193, .float x :: ls, sk, h) = zrun zpp E 0 (194, .float x :: ls, .float x :: sk, h) := zrun_at (i := (.aload_n 0, 194, 0, [])) rfl
set_option maxRecDepth 20000 in
theorem zi0_194 {E : zE} {v0 v1 v2 : Value} {x : Int32} {ls sk : List Value} {h : zH} : zrun zpp E 0 (194, v0 :: v1 :: v2 :: .int x :: ls, sk, h) = zrun zpp E 0 (195, v0 :: v1 :: v2 :: .int x :: ls, .int x :: sk, h) := zrun_at (i := (.iload_n 3, 195, 0, [])) rfl
set_option maxRecDepth 20000 in
theorem zi0_195 {E : zE} {ls sk : List Value} {h : zH} : zrun zpp E 0 (195, ls, sk, h) = zrun zpp E 0 (196, ls, .int 1 :: sk, h) := zg_iconst rfl ci_1
set_option maxRecDepth 20000 in
theorem zi0_196 {E : zE} {x y : Int32} {ls sk : List Value} {h : zH} : zrun zpp E 0 (196, ls, .int y :: .int x :: sk, h) = zrun zpp E 0 (197, ls, .int (x + y) :: sk, h) := zrun_at (i := (.iadd, 197, 0, [])) rfl
set_option maxRecDepth 20000 in
theorem zi0_197 {E : zE} {x : UInt32} {i : Int32} {ls sk : List Value} {h : zH} : zrun zpp E 0 (197, ls, .int i :: .float x :: sk, h) = if zix i E.1 = true then zrun zpp E 0 (198, ls, .int (E.2 i.toNatClampNeg) :: sk, h) else none := zg_sald rfl
set_option maxRecDepth 20000 in
theorem zi0_198 {E : zE} {x : Nat} {ls sk : List Value} {h : zH} : zrun zpp E 0 (198, .ref x :: ls, sk, h) = zrun zpp E 0 (199, .ref x :: ls, .ref x :: sk, h) := zrun_at (i := (.aload_n 0, 199, 0, [])) rfl
set_option maxRecDepth 20000 in
theorem zi0_198n {E : zE} {ls sk : List Value} {h : zH} : zrun zpp E 0 (198, .null :: ls, sk, h) = zrun zpp E 0 (199, .null :: ls, .null :: sk, h) := zrun_at (i := (.aload_n 0, 199, 0, [])) rfl
set_option maxRecDepth 20000 in
theorem zi0_198f {E : zE} {x : UInt32} {ls sk : List Value} {h : zH} : zrun zpp E 0 (198, .float x :: ls, sk, h) = zrun zpp E 0 (199, .float x :: ls, .float x :: sk, h) := zrun_at (i := (.aload_n 0, 199, 0, [])) rfl
set_option maxRecDepth 20000 in
theorem zi0_199 {E : zE} {v0 v1 v2 : Value} {x : Int32} {ls sk : List Value} {h : zH} : zrun zpp E 0 (199, v0 :: v1 :: v2 :: .int x :: ls, sk, h) = zrun zpp E 0 (200, v0 :: v1 :: v2 :: .int x :: ls, .int x :: sk, h) := zrun_at (i := (.iload_n 3, 200, 0, [])) rfl
set_option maxRecDepth 20000 in
theorem zi0_200 {E : zE} {ls sk : List Value} {h : zH} : zrun zpp E 0 (200, ls, sk, h) = zrun zpp E 0 (201, ls, .int 2 :: sk, h) := zg_iconst rfl ci_2
set_option maxRecDepth 20000 in
theorem zi0_201 {E : zE} {x y : Int32} {ls sk : List Value} {h : zH} : zrun zpp E 0 (201, ls, .int y :: .int x :: sk, h) = zrun zpp E 0 (202, ls, .int (x + y) :: sk, h) := zrun_at (i := (.iadd, 202, 0, [])) rfl
set_option maxRecDepth 20000 in
theorem zi0_202 {E : zE} {x : UInt32} {i : Int32} {ls sk : List Value} {h : zH} : zrun zpp E 0 (202, ls, .int i :: .float x :: sk, h) = if zix i E.1 = true then zrun zpp E 0 (203, ls, .int (E.2 i.toNatClampNeg) :: sk, h) else none := zg_sald rfl
set_option maxRecDepth 20000 in
theorem zi0_203 {E : zE} {x : Nat} {ls sk : List Value} {h : zH} : zrun zpp E 0 (203, .ref x :: ls, sk, h) = zrun zpp E 0 (204, .ref x :: ls, .ref x :: sk, h) := zrun_at (i := (.aload_n 0, 204, 0, [])) rfl
set_option maxRecDepth 20000 in
theorem zi0_203n {E : zE} {ls sk : List Value} {h : zH} : zrun zpp E 0 (203, .null :: ls, sk, h) = zrun zpp E 0 (204, .null :: ls, .null :: sk, h) := zrun_at (i := (.aload_n 0, 204, 0, [])) rfl
set_option maxRecDepth 20000 in
theorem zi0_203f {E : zE} {x : UInt32} {ls sk : List Value} {h : zH} : zrun zpp E 0 (203, .float x :: ls, sk, h) = zrun zpp E 0 (204, .float x :: ls, .float x :: sk, h) := zrun_at (i := (.aload_n 0, 204, 0, [])) rfl
set_option maxRecDepth 20000 in
theorem zi0_204 {E : zE} {v0 v1 v2 : Value} {x : Int32} {ls sk : List Value} {h : zH} : zrun zpp E 0 (204, v0 :: v1 :: v2 :: .int x :: ls, sk, h) = zrun zpp E 0 (205, v0 :: v1 :: v2 :: .int x :: ls, .int x :: sk, h) := zrun_at (i := (.iload_n 3, 205, 0, [])) rfl
set_option maxRecDepth 20000 in
theorem zi0_205 {E : zE} {ls sk : List Value} {h : zH} : zrun zpp E 0 (205, ls, sk, h) = zrun zpp E 0 (206, ls, .int 3 :: sk, h) := zg_iconst rfl ci_3
set_option maxRecDepth 20000 in
theorem zi0_206 {E : zE} {x y : Int32} {ls sk : List Value} {h : zH} : zrun zpp E 0 (206, ls, .int y :: .int x :: sk, h) = zrun zpp E 0 (207, ls, .int (x + y) :: sk, h) := zrun_at (i := (.iadd, 207, 0, [])) rfl
set_option maxRecDepth 20000 in
theorem zi0_207 {E : zE} {x : UInt32} {i : Int32} {ls sk : List Value} {h : zH} : zrun zpp E 0 (207, ls, .int i :: .float x :: sk, h) = if zix i E.1 = true then zrun zpp E 0 (208, ls, .int (E.2 i.toNatClampNeg) :: sk, h) else none := zg_sald rfl
set_option maxRecDepth 20000 in
theorem zi0_208 {E : zE} {a0 a1 a2 : Value} {x : Nat} {ls sk : List Value} {h : zH} : zrun zpp E 0 (208, ls, a2 :: a1 :: a0 :: .ref x :: sk, h) = (zcls h x).bind (fun d => (zsel d [10, 90]).bind (fun M' => zcl1 E 0 211 M' ls sk [.ref x, a0, a1, a2] h)) := zg_vir (as := [a0, a1, a2]) rfl rfl
set_option maxRecDepth 20000 in
theorem zi0_211 {E : zE} {v0 v1 : Value} {x : Nat} {ls sk : List Value} {h : zH} : zrun zpp E 0 (211, v0 :: v1 :: .ref x :: ls, sk, h) = zrun zpp E 0 (212, v0 :: v1 :: .ref x :: ls, .ref x :: sk, h) := zrun_at (i := (.aload_n 2, 212, 0, [])) rfl
set_option maxRecDepth 20000 in
theorem zi0_211n {E : zE} {v0 v1 : Value} {ls sk : List Value} {h : zH} : zrun zpp E 0 (211, v0 :: v1 :: .null :: ls, sk, h) = zrun zpp E 0 (212, v0 :: v1 :: .null :: ls, .null :: sk, h) := zrun_at (i := (.aload_n 2, 212, 0, [])) rfl
set_option maxRecDepth 20000 in
theorem zi0_211f {E : zE} {v0 v1 : Value} {x : UInt32} {ls sk : List Value} {h : zH} : zrun zpp E 0 (211, v0 :: v1 :: .float x :: ls, sk, h) = zrun zpp E 0 (212, v0 :: v1 :: .float x :: ls, .float x :: sk, h) := zrun_at (i := (.aload_n 2, 212, 0, [])) rfl
set_option maxRecDepth 20000 in
theorem zi0_212 {E : zE} {x : Nat} {ls sk : List Value} {h : zH} : zrun zpp E 0 (212, .ref x :: ls, sk, h) = zrun zpp E 0 (213, .ref x :: ls, .ref x :: sk, h) := zrun_at (i := (.aload_n 0, 213, 0, [])) rfl
set_option maxRecDepth 20000 in
theorem zi0_212n {E : zE} {ls sk : List Value} {h : zH} : zrun zpp E 0 (212, .null :: ls, sk, h) = zrun zpp E 0 (213, .null :: ls, .null :: sk, h) := zrun_at (i := (.aload_n 0, 213, 0, [])) rfl
set_option maxRecDepth 20000 in
theorem zi0_212f {E : zE} {x : UInt32} {ls sk : List Value} {h : zH} : zrun zpp E 0 (212, .float x :: ls, sk, h) = zrun zpp E 0 (213, .float x :: ls, .float x :: sk, h) := zrun_at (i := (.aload_n 0, 213, 0, [])) rfl
set_option maxRecDepth 20000 in
theorem zi0_213 {E : zE} {v0 v1 v2 : Value} {x : Int32} {ls sk : List Value} {h : zH} : zrun zpp E 0 (213, v0 :: v1 :: v2 :: .int x :: ls, sk, h) = zrun zpp E 0 (214, v0 :: v1 :: v2 :: .int x :: ls, .int x :: sk, h) := zrun_at (i := (.iload_n 3, 214, 0, [])) rfl
set_option maxRecDepth 20000 in
theorem zi0_214 {E : zE} {ls sk : List Value} {h : zH} : zrun zpp E 0 (214, ls, sk, h) = zrun zpp E 0 (215, ls, .int 1 :: sk, h) := zg_iconst rfl ci_1
set_option maxRecDepth 20000 in
theorem zi0_215 {E : zE} {x y : Int32} {ls sk : List Value} {h : zH} : zrun zpp E 0 (215, ls, .int y :: .int x :: sk, h) = zrun zpp E 0 (216, ls, .int (x + y) :: sk, h) := zrun_at (i := (.iadd, 216, 0, [])) rfl
set_option maxRecDepth 20000 in
theorem zi0_216 {E : zE} {x : UInt32} {i : Int32} {ls sk : List Value} {h : zH} : zrun zpp E 0 (216, ls, .int i :: .float x :: sk, h) = if zix i E.1 = true then zrun zpp E 0 (217, ls, .int (E.2 i.toNatClampNeg) :: sk, h) else none := zg_sald rfl
set_option maxRecDepth 20000 in
theorem zi0_217 {E : zE} {x : Nat} {ls sk : List Value} {h : zH} : zrun zpp E 0 (217, .ref x :: ls, sk, h) = zrun zpp E 0 (218, .ref x :: ls, .ref x :: sk, h) := zrun_at (i := (.aload_n 0, 218, 0, [])) rfl
set_option maxRecDepth 20000 in
theorem zi0_217n {E : zE} {ls sk : List Value} {h : zH} : zrun zpp E 0 (217, .null :: ls, sk, h) = zrun zpp E 0 (218, .null :: ls, .null :: sk, h) := zrun_at (i := (.aload_n 0, 218, 0, [])) rfl
set_option maxRecDepth 20000 in
theorem zi0_217f {E : zE} {x : UInt32} {ls sk : List Value} {h : zH} : zrun zpp E 0 (217, .float x :: ls, sk, h) = zrun zpp E 0 (218, .float x :: ls, .float x :: sk, h) := zrun_at (i := (.aload_n 0, 218, 0, [])) rfl
set_option maxRecDepth 20000 in
theorem zi0_218 {E : zE} {v0 v1 v2 : Value} {x : Int32} {ls sk : List Value} {h : zH} : zrun zpp E 0 (218, v0 :: v1 :: v2 :: .int x :: ls, sk, h) = zrun zpp E 0 (219, v0 :: v1 :: v2 :: .int x :: ls, .int x :: sk, h) := zrun_at (i := (.iload_n 3, 219, 0, [])) rfl
set_option maxRecDepth 20000 in
theorem zi0_219 {E : zE} {ls sk : List Value} {h : zH} : zrun zpp E 0 (219, ls, sk, h) = zrun zpp E 0 (220, ls, .int 2 :: sk, h) := zg_iconst rfl ci_2
set_option maxRecDepth 20000 in
theorem zi0_220 {E : zE} {x y : Int32} {ls sk : List Value} {h : zH} : zrun zpp E 0 (220, ls, .int y :: .int x :: sk, h) = zrun zpp E 0 (221, ls, .int (x + y) :: sk, h) := zrun_at (i := (.iadd, 221, 0, [])) rfl
set_option maxRecDepth 20000 in
theorem zi0_221 {E : zE} {x : UInt32} {i : Int32} {ls sk : List Value} {h : zH} : zrun zpp E 0 (221, ls, .int i :: .float x :: sk, h) = if zix i E.1 = true then zrun zpp E 0 (222, ls, .int (E.2 i.toNatClampNeg) :: sk, h) else none := zg_sald rfl
set_option maxRecDepth 20000 in
theorem zi0_222 {E : zE} {x : Nat} {ls sk : List Value} {h : zH} : zrun zpp E 0 (222, .ref x :: ls, sk, h) = zrun zpp E 0 (223, .ref x :: ls, .ref x :: sk, h) := zrun_at (i := (.aload_n 0, 223, 0, [])) rfl
set_option maxRecDepth 20000 in
theorem zi0_222n {E : zE} {ls sk : List Value} {h : zH} : zrun zpp E 0 (222, .null :: ls, sk, h) = zrun zpp E 0 (223, .null :: ls, .null :: sk, h) := zrun_at (i := (.aload_n 0, 223, 0, [])) rfl
set_option maxRecDepth 20000 in
theorem zi0_222f {E : zE} {x : UInt32} {ls sk : List Value} {h : zH} : zrun zpp E 0 (222, .float x :: ls, sk, h) = zrun zpp E 0 (223, .float x :: ls, .float x :: sk, h) := zrun_at (i := (.aload_n 0, 223, 0, [])) rfl
set_option maxRecDepth 20000 in
theorem zi0_223 {E : zE} {v0 v1 v2 : Value} {x : Int32} {ls sk : List Value} {h : zH} : zrun zpp E 0 (223, v0 :: v1 :: v2 :: .int x :: ls, sk, h) = zrun zpp E 0 (224, v0 :: v1 :: v2 :: .int x :: ls, .int x :: sk, h) := zrun_at (i := (.iload_n 3, 224, 0, [])) rfl
set_option maxRecDepth 20000 in
theorem zi0_224 {E : zE} {ls sk : List Value} {h : zH} : zrun zpp E 0 (224, ls, sk, h) = zrun zpp E 0 (225, ls, .int 3 :: sk, h) := zg_iconst rfl ci_3
set_option maxRecDepth 20000 in
theorem zi0_225 {E : zE} {x y : Int32} {ls sk : List Value} {h : zH} : zrun zpp E 0 (225, ls, .int y :: .int x :: sk, h) = zrun zpp E 0 (226, ls, .int (x + y) :: sk, h) := zrun_at (i := (.iadd, 226, 0, [])) rfl
set_option maxRecDepth 20000 in
theorem zi0_226 {E : zE} {x : UInt32} {i : Int32} {ls sk : List Value} {h : zH} : zrun zpp E 0 (226, ls, .int i :: .float x :: sk, h) = if zix i E.1 = true then zrun zpp E 0 (227, ls, .int (E.2 i.toNatClampNeg) :: sk, h) else none := zg_sald rfl
set_option maxRecDepth 20000 in
theorem zi0_227 {E : zE} {a0 a1 a2 : Value} {x : Nat} {ls sk : List Value} {h : zH} : zrun zpp E 0 (227, ls, a2 :: a1 :: a0 :: .ref x :: sk, h) = (zcls h x).bind (fun d => (zsel d [11, 152]).bind (fun M' => zcl1 E 0 230 M' ls sk [.ref x, a0, a1, a2] h)) := zg_vir (as := [a0, a1, a2]) rfl rfl
set_option maxRecDepth 20000 in
theorem zi0_230 {E : zE} {x y : Int32} {ls sk : List Value} {h : zH} : zrun zpp E 0 (230, ls, .int y :: .int x :: sk, h) = if x = y then zrun zpp E 0 (1301, ls, sk, h) else zrun zpp E 0 (233, ls, sk, h) := zrun_at (i := (.if_icmp .eq 1071, 233, 0, [1301])) rfl
set_option maxRecDepth 20000 in
theorem zi0_233 {E : zE} {ls sk : List Value} {h : zH} : zrun zpp E 0 (233, ls, sk, h) = zrun zpp E 0 (234, ls, .int 0 :: sk, h) := zg_iconst rfl ci_0
set_option maxRecDepth 20000 in
theorem zi0_234 {E : zE} {x : Int32} {ls sk : List Value} {h : zH} : zrun zpp E 0 (234, ls, [.int x], h) = if x = 0 then some (some (.int 0), h) else if x = 1 then some (some (.int 1), h) else none := zrun_at (i := (.ireturn, 235, 1, [])) rfl
set_option maxRecDepth 20000 in
theorem zi0_235 {E : zE} {v0 : Value} {x : Nat} {ls sk : List Value} {h : zH} : zrun zpp E 0 (235, v0 :: .ref x :: ls, sk, h) = zrun zpp E 0 (236, v0 :: .ref x :: ls, .ref x :: sk, h) := zrun_at (i := (.aload_n 1, 236, 0, [])) rfl
set_option maxRecDepth 20000 in
theorem zi0_235n {E : zE} {v0 : Value} {ls sk : List Value} {h : zH} : zrun zpp E 0 (235, v0 :: .null :: ls, sk, h) = zrun zpp E 0 (236, v0 :: .null :: ls, .null :: sk, h) := zrun_at (i := (.aload_n 1, 236, 0, [])) rfl
set_option maxRecDepth 20000 in
theorem zi0_235f {E : zE} {v0 : Value} {x : UInt32} {ls sk : List Value} {h : zH} : zrun zpp E 0 (235, v0 :: .float x :: ls, sk, h) = zrun zpp E 0 (236, v0 :: .float x :: ls, .float x :: sk, h) := zrun_at (i := (.aload_n 1, 236, 0, [])) rfl
set_option maxRecDepth 20000 in
theorem zi0_236 {E : zE} {x : Nat} {ls sk : List Value} {h : zH} : zrun zpp E 0 (236, .ref x :: ls, sk, h) = zrun zpp E 0 (237, .ref x :: ls, .ref x :: sk, h) := zrun_at (i := (.aload_n 0, 237, 0, [])) rfl
set_option maxRecDepth 20000 in
theorem zi0_236n {E : zE} {ls sk : List Value} {h : zH} : zrun zpp E 0 (236, .null :: ls, sk, h) = zrun zpp E 0 (237, .null :: ls, .null :: sk, h) := zrun_at (i := (.aload_n 0, 237, 0, [])) rfl
set_option maxRecDepth 20000 in
theorem zi0_236f {E : zE} {x : UInt32} {ls sk : List Value} {h : zH} : zrun zpp E 0 (236, .float x :: ls, sk, h) = zrun zpp E 0 (237, .float x :: ls, .float x :: sk, h) := zrun_at (i := (.aload_n 0, 237, 0, [])) rfl
set_option maxRecDepth 20000 in
theorem zi0_237 {E : zE} {v0 v1 v2 : Value} {x : Int32} {ls sk : List Value} {h : zH} : zrun zpp E 0 (237, v0 :: v1 :: v2 :: .int x :: ls, sk, h) = zrun zpp E 0 (238, v0 :: v1 :: v2 :: .int x :: ls, .int x :: sk, h) := zrun_at (i := (.iload_n 3, 238, 0, [])) rfl
set_option maxRecDepth 20000 in
theorem zi0_238 {E : zE} {ls sk : List Value} {h : zH} : zrun zpp E 0 (238, ls, sk, h) = zrun zpp E 0 (239, ls, .int 1 :: sk, h) := zg_iconst rfl ci_1
set_option maxRecDepth 20000 in
theorem zi0_239 {E : zE} {x y : Int32} {ls sk : List Value} {h : zH} : zrun zpp E 0 (239, ls, .int y :: .int x :: sk, h) = zrun zpp E 0 (240, ls, .int (x + y) :: sk, h) := zrun_at (i := (.iadd, 240, 0, [])) rfl
set_option maxRecDepth 20000 in
theorem zi0_240 {E : zE} {x : UInt32} {i : Int32} {ls sk : List Value} {h : zH} : zrun zpp E 0 (240, ls, .int i :: .float x :: sk, h) = if zix i E.1 = true then zrun zpp E 0 (241, ls, .int (E.2 i.toNatClampNeg) :: sk, h) else none := zg_sald rfl
set_option maxRecDepth 20000 in
theorem zi0_241 {E : zE} {x : Nat} {ls sk : List Value} {h : zH} : zrun zpp E 0 (241, .ref x :: ls, sk, h) = zrun zpp E 0 (242, .ref x :: ls, .ref x :: sk, h) := zrun_at (i := (.aload_n 0, 242, 0, [])) rfl
set_option maxRecDepth 20000 in
theorem zi0_241n {E : zE} {ls sk : List Value} {h : zH} : zrun zpp E 0 (241, .null :: ls, sk, h) = zrun zpp E 0 (242, .null :: ls, .null :: sk, h) := zrun_at (i := (.aload_n 0, 242, 0, [])) rfl
set_option maxRecDepth 20000 in
theorem zi0_241f {E : zE} {x : UInt32} {ls sk : List Value} {h : zH} : zrun zpp E 0 (241, .float x :: ls, sk, h) = zrun zpp E 0 (242, .float x :: ls, .float x :: sk, h) := zrun_at (i := (.aload_n 0, 242, 0, [])) rfl
set_option maxRecDepth 20000 in
theorem zi0_242 {E : zE} {v0 v1 v2 : Value} {x : Int32} {ls sk : List Value} {h : zH} : zrun zpp E 0 (242, v0 :: v1 :: v2 :: .int x :: ls, sk, h) = zrun zpp E 0 (243, v0 :: v1 :: v2 :: .int x :: ls, .int x :: sk, h) := zrun_at (i := (.iload_n 3, 243, 0, [])) rfl
set_option maxRecDepth 20000 in
theorem zi0_243 {E : zE} {ls sk : List Value} {h : zH} : zrun zpp E 0 (243, ls, sk, h) = zrun zpp E 0 (244, ls, .int 2 :: sk, h) := zg_iconst rfl ci_2
set_option maxRecDepth 20000 in
theorem zi0_244 {E : zE} {x y : Int32} {ls sk : List Value} {h : zH} : zrun zpp E 0 (244, ls, .int y :: .int x :: sk, h) = zrun zpp E 0 (245, ls, .int (x + y) :: sk, h) := zrun_at (i := (.iadd, 245, 0, [])) rfl
set_option maxRecDepth 20000 in
theorem zi0_245 {E : zE} {x : UInt32} {i : Int32} {ls sk : List Value} {h : zH} : zrun zpp E 0 (245, ls, .int i :: .float x :: sk, h) = if zix i E.1 = true then zrun zpp E 0 (246, ls, .int (E.2 i.toNatClampNeg) :: sk, h) else none := zg_sald rfl
set_option maxRecDepth 20000 in
theorem zi0_246 {E : zE} {x : Nat} {ls sk : List Value} {h : zH} : zrun zpp E 0 (246, .ref x :: ls, sk, h) = zrun zpp E 0 (247, .ref x :: ls, .ref x :: sk, h) := zrun_at (i := (.aload_n 0, 247, 0, [])) rfl
set_option maxRecDepth 20000 in
theorem zi0_246n {E : zE} {ls sk : List Value} {h : zH} : zrun zpp E 0 (246, .null :: ls, sk, h) = zrun zpp E 0 (247, .null :: ls, .null :: sk, h) := zrun_at (i := (.aload_n 0, 247, 0, [])) rfl
set_option maxRecDepth 20000 in
theorem zi0_246f {E : zE} {x : UInt32} {ls sk : List Value} {h : zH} : zrun zpp E 0 (246, .float x :: ls, sk, h) = zrun zpp E 0 (247, .float x :: ls, .float x :: sk, h) := zrun_at (i := (.aload_n 0, 247, 0, [])) rfl
set_option maxRecDepth 20000 in
theorem zi0_247 {E : zE} {v0 v1 v2 : Value} {x : Int32} {ls sk : List Value} {h : zH} : zrun zpp E 0 (247, v0 :: v1 :: v2 :: .int x :: ls, sk, h) = zrun zpp E 0 (248, v0 :: v1 :: v2 :: .int x :: ls, .int x :: sk, h) := zrun_at (i := (.iload_n 3, 248, 0, [])) rfl
set_option maxRecDepth 20000 in
theorem zi0_248 {E : zE} {ls sk : List Value} {h : zH} : zrun zpp E 0 (248, ls, sk, h) = zrun zpp E 0 (249, ls, .int 3 :: sk, h) := zg_iconst rfl ci_3
set_option maxRecDepth 20000 in
theorem zi0_249 {E : zE} {x y : Int32} {ls sk : List Value} {h : zH} : zrun zpp E 0 (249, ls, .int y :: .int x :: sk, h) = zrun zpp E 0 (250, ls, .int (x + y) :: sk, h) := zrun_at (i := (.iadd, 250, 0, [])) rfl
set_option maxRecDepth 20000 in
theorem zi0_250 {E : zE} {x : UInt32} {i : Int32} {ls sk : List Value} {h : zH} : zrun zpp E 0 (250, ls, .int i :: .float x :: sk, h) = if zix i E.1 = true then zrun zpp E 0 (251, ls, .int (E.2 i.toNatClampNeg) :: sk, h) else none := zg_sald rfl
set_option maxRecDepth 20000 in
theorem zi0_251 {E : zE} {a0 a1 a2 : Value} {x : Nat} {ls sk : List Value} {h : zH} : zrun zpp E 0 (251, ls, a2 :: a1 :: a0 :: .ref x :: sk, h) = (zcls h x).bind (fun d => (zsel d [10, 91]).bind (fun M' => zcl1 E 0 254 M' ls sk [.ref x, a0, a1, a2] h)) := zg_vir (as := [a0, a1, a2]) rfl rfl
set_option maxRecDepth 20000 in
theorem zi0_254 {E : zE} {v0 v1 : Value} {x : Nat} {ls sk : List Value} {h : zH} : zrun zpp E 0 (254, v0 :: v1 :: .ref x :: ls, sk, h) = zrun zpp E 0 (255, v0 :: v1 :: .ref x :: ls, .ref x :: sk, h) := zrun_at (i := (.aload_n 2, 255, 0, [])) rfl
set_option maxRecDepth 20000 in
theorem zi0_254n {E : zE} {v0 v1 : Value} {ls sk : List Value} {h : zH} : zrun zpp E 0 (254, v0 :: v1 :: .null :: ls, sk, h) = zrun zpp E 0 (255, v0 :: v1 :: .null :: ls, .null :: sk, h) := zrun_at (i := (.aload_n 2, 255, 0, [])) rfl
set_option maxRecDepth 20000 in
theorem zi0_254f {E : zE} {v0 v1 : Value} {x : UInt32} {ls sk : List Value} {h : zH} : zrun zpp E 0 (254, v0 :: v1 :: .float x :: ls, sk, h) = zrun zpp E 0 (255, v0 :: v1 :: .float x :: ls, .float x :: sk, h) := zrun_at (i := (.aload_n 2, 255, 0, [])) rfl
set_option maxRecDepth 20000 in
theorem zi0_255 {E : zE} {x : Nat} {ls sk : List Value} {h : zH} : zrun zpp E 0 (255, .ref x :: ls, sk, h) = zrun zpp E 0 (256, .ref x :: ls, .ref x :: sk, h) := zrun_at (i := (.aload_n 0, 256, 0, [])) rfl
set_option maxRecDepth 20000 in
theorem zi0_255n {E : zE} {ls sk : List Value} {h : zH} : zrun zpp E 0 (255, .null :: ls, sk, h) = zrun zpp E 0 (256, .null :: ls, .null :: sk, h) := zrun_at (i := (.aload_n 0, 256, 0, [])) rfl
set_option maxRecDepth 20000 in
theorem zi0_255f {E : zE} {x : UInt32} {ls sk : List Value} {h : zH} : zrun zpp E 0 (255, .float x :: ls, sk, h) = zrun zpp E 0 (256, .float x :: ls, .float x :: sk, h) := zrun_at (i := (.aload_n 0, 256, 0, [])) rfl
set_option maxRecDepth 20000 in
theorem zi0_256 {E : zE} {v0 v1 v2 : Value} {x : Int32} {ls sk : List Value} {h : zH} : zrun zpp E 0 (256, v0 :: v1 :: v2 :: .int x :: ls, sk, h) = zrun zpp E 0 (257, v0 :: v1 :: v2 :: .int x :: ls, .int x :: sk, h) := zrun_at (i := (.iload_n 3, 257, 0, [])) rfl
set_option maxRecDepth 20000 in
theorem zi0_257 {E : zE} {ls sk : List Value} {h : zH} : zrun zpp E 0 (257, ls, sk, h) = zrun zpp E 0 (258, ls, .int 1 :: sk, h) := zg_iconst rfl ci_1
set_option maxRecDepth 20000 in
theorem zi0_258 {E : zE} {x y : Int32} {ls sk : List Value} {h : zH} : zrun zpp E 0 (258, ls, .int y :: .int x :: sk, h) = zrun zpp E 0 (259, ls, .int (x + y) :: sk, h) := zrun_at (i := (.iadd, 259, 0, [])) rfl
set_option maxRecDepth 20000 in
theorem zi0_259 {E : zE} {x : UInt32} {i : Int32} {ls sk : List Value} {h : zH} : zrun zpp E 0 (259, ls, .int i :: .float x :: sk, h) = if zix i E.1 = true then zrun zpp E 0 (260, ls, .int (E.2 i.toNatClampNeg) :: sk, h) else none := zg_sald rfl
set_option maxRecDepth 20000 in
theorem zi0_260 {E : zE} {x : Nat} {ls sk : List Value} {h : zH} : zrun zpp E 0 (260, .ref x :: ls, sk, h) = zrun zpp E 0 (261, .ref x :: ls, .ref x :: sk, h) := zrun_at (i := (.aload_n 0, 261, 0, [])) rfl
set_option maxRecDepth 20000 in
theorem zi0_260n {E : zE} {ls sk : List Value} {h : zH} : zrun zpp E 0 (260, .null :: ls, sk, h) = zrun zpp E 0 (261, .null :: ls, .null :: sk, h) := zrun_at (i := (.aload_n 0, 261, 0, [])) rfl
set_option maxRecDepth 20000 in
theorem zi0_260f {E : zE} {x : UInt32} {ls sk : List Value} {h : zH} : zrun zpp E 0 (260, .float x :: ls, sk, h) = zrun zpp E 0 (261, .float x :: ls, .float x :: sk, h) := zrun_at (i := (.aload_n 0, 261, 0, [])) rfl
set_option maxRecDepth 20000 in
theorem zi0_261 {E : zE} {v0 v1 v2 : Value} {x : Int32} {ls sk : List Value} {h : zH} : zrun zpp E 0 (261, v0 :: v1 :: v2 :: .int x :: ls, sk, h) = zrun zpp E 0 (262, v0 :: v1 :: v2 :: .int x :: ls, .int x :: sk, h) := zrun_at (i := (.iload_n 3, 262, 0, [])) rfl
set_option maxRecDepth 20000 in
theorem zi0_262 {E : zE} {ls sk : List Value} {h : zH} : zrun zpp E 0 (262, ls, sk, h) = zrun zpp E 0 (263, ls, .int 2 :: sk, h) := zg_iconst rfl ci_2
set_option maxRecDepth 20000 in
theorem zi0_263 {E : zE} {x y : Int32} {ls sk : List Value} {h : zH} : zrun zpp E 0 (263, ls, .int y :: .int x :: sk, h) = zrun zpp E 0 (264, ls, .int (x + y) :: sk, h) := zrun_at (i := (.iadd, 264, 0, [])) rfl
set_option maxRecDepth 20000 in
theorem zi0_264 {E : zE} {x : UInt32} {i : Int32} {ls sk : List Value} {h : zH} : zrun zpp E 0 (264, ls, .int i :: .float x :: sk, h) = if zix i E.1 = true then zrun zpp E 0 (265, ls, .int (E.2 i.toNatClampNeg) :: sk, h) else none := zg_sald rfl
set_option maxRecDepth 20000 in
theorem zi0_265 {E : zE} {x : Nat} {ls sk : List Value} {h : zH} : zrun zpp E 0 (265, .ref x :: ls, sk, h) = zrun zpp E 0 (266, .ref x :: ls, .ref x :: sk, h) := zrun_at (i := (.aload_n 0, 266, 0, [])) rfl
set_option maxRecDepth 20000 in
theorem zi0_265n {E : zE} {ls sk : List Value} {h : zH} : zrun zpp E 0 (265, .null :: ls, sk, h) = zrun zpp E 0 (266, .null :: ls, .null :: sk, h) := zrun_at (i := (.aload_n 0, 266, 0, [])) rfl
set_option maxRecDepth 20000 in
theorem zi0_265f {E : zE} {x : UInt32} {ls sk : List Value} {h : zH} : zrun zpp E 0 (265, .float x :: ls, sk, h) = zrun zpp E 0 (266, .float x :: ls, .float x :: sk, h) := zrun_at (i := (.aload_n 0, 266, 0, [])) rfl
set_option maxRecDepth 20000 in
theorem zi0_266 {E : zE} {v0 v1 v2 : Value} {x : Int32} {ls sk : List Value} {h : zH} : zrun zpp E 0 (266, v0 :: v1 :: v2 :: .int x :: ls, sk, h) = zrun zpp E 0 (267, v0 :: v1 :: v2 :: .int x :: ls, .int x :: sk, h) := zrun_at (i := (.iload_n 3, 267, 0, [])) rfl
set_option maxRecDepth 20000 in
theorem zi0_267 {E : zE} {ls sk : List Value} {h : zH} : zrun zpp E 0 (267, ls, sk, h) = zrun zpp E 0 (268, ls, .int 3 :: sk, h) := zg_iconst rfl ci_3
set_option maxRecDepth 20000 in
theorem zi0_268 {E : zE} {x y : Int32} {ls sk : List Value} {h : zH} : zrun zpp E 0 (268, ls, .int y :: .int x :: sk, h) = zrun zpp E 0 (269, ls, .int (x + y) :: sk, h) := zrun_at (i := (.iadd, 269, 0, [])) rfl
set_option maxRecDepth 20000 in
theorem zi0_269 {E : zE} {x : UInt32} {i : Int32} {ls sk : List Value} {h : zH} : zrun zpp E 0 (269, ls, .int i :: .float x :: sk, h) = if zix i E.1 = true then zrun zpp E 0 (270, ls, .int (E.2 i.toNatClampNeg) :: sk, h) else none := zg_sald rfl
set_option maxRecDepth 20000 in
theorem zi0_270 {E : zE} {a0 a1 a2 : Value} {x : Nat} {ls sk : List Value} {h : zH} : zrun zpp E 0 (270, ls, a2 :: a1 :: a0 :: .ref x :: sk, h) = (zcls h x).bind (fun d => (zsel d [11, 153]).bind (fun M' => zcl1 E 0 273 M' ls sk [.ref x, a0, a1, a2] h)) := zg_vir (as := [a0, a1, a2]) rfl rfl
set_option maxRecDepth 20000 in
theorem zi0_273 {E : zE} {x y : Int32} {ls sk : List Value} {h : zH} : zrun zpp E 0 (273, ls, .int y :: .int x :: sk, h) = if x = y then zrun zpp E 0 (1301, ls, sk, h) else zrun zpp E 0 (276, ls, sk, h) := zrun_at (i := (.if_icmp .eq 1028, 276, 0, [1301])) rfl
set_option maxRecDepth 20000 in
theorem zi0_276 {E : zE} {ls sk : List Value} {h : zH} : zrun zpp E 0 (276, ls, sk, h) = zrun zpp E 0 (277, ls, .int 0 :: sk, h) := zg_iconst rfl ci_0
set_option maxRecDepth 20000 in
theorem zi0_277 {E : zE} {x : Int32} {ls sk : List Value} {h : zH} : zrun zpp E 0 (277, ls, [.int x], h) = if x = 0 then some (some (.int 0), h) else if x = 1 then some (some (.int 1), h) else none := zrun_at (i := (.ireturn, 278, 1, [])) rfl
set_option maxRecDepth 20000 in
theorem zi0_278 {E : zE} {v0 : Value} {x : Nat} {ls sk : List Value} {h : zH} : zrun zpp E 0 (278, v0 :: .ref x :: ls, sk, h) = zrun zpp E 0 (279, v0 :: .ref x :: ls, .ref x :: sk, h) := zrun_at (i := (.aload_n 1, 279, 0, [])) rfl
set_option maxRecDepth 20000 in
theorem zi0_278n {E : zE} {v0 : Value} {ls sk : List Value} {h : zH} : zrun zpp E 0 (278, v0 :: .null :: ls, sk, h) = zrun zpp E 0 (279, v0 :: .null :: ls, .null :: sk, h) := zrun_at (i := (.aload_n 1, 279, 0, [])) rfl
set_option maxRecDepth 20000 in
theorem zi0_278f {E : zE} {v0 : Value} {x : UInt32} {ls sk : List Value} {h : zH} : zrun zpp E 0 (278, v0 :: .float x :: ls, sk, h) = zrun zpp E 0 (279, v0 :: .float x :: ls, .float x :: sk, h) := zrun_at (i := (.aload_n 1, 279, 0, [])) rfl
set_option maxRecDepth 20000 in
theorem zi0_279 {E : zE} {x : Nat} {ls sk : List Value} {h : zH} : zrun zpp E 0 (279, .ref x :: ls, sk, h) = zrun zpp E 0 (280, .ref x :: ls, .ref x :: sk, h) := zrun_at (i := (.aload_n 0, 280, 0, [])) rfl
set_option maxRecDepth 20000 in
theorem zi0_279n {E : zE} {ls sk : List Value} {h : zH} : zrun zpp E 0 (279, .null :: ls, sk, h) = zrun zpp E 0 (280, .null :: ls, .null :: sk, h) := zrun_at (i := (.aload_n 0, 280, 0, [])) rfl
set_option maxRecDepth 20000 in
theorem zi0_279f {E : zE} {x : UInt32} {ls sk : List Value} {h : zH} : zrun zpp E 0 (279, .float x :: ls, sk, h) = zrun zpp E 0 (280, .float x :: ls, .float x :: sk, h) := zrun_at (i := (.aload_n 0, 280, 0, [])) rfl
set_option maxRecDepth 20000 in
theorem zi0_280 {E : zE} {v0 v1 v2 : Value} {x : Int32} {ls sk : List Value} {h : zH} : zrun zpp E 0 (280, v0 :: v1 :: v2 :: .int x :: ls, sk, h) = zrun zpp E 0 (281, v0 :: v1 :: v2 :: .int x :: ls, .int x :: sk, h) := zrun_at (i := (.iload_n 3, 281, 0, [])) rfl
set_option maxRecDepth 20000 in
theorem zi0_281 {E : zE} {ls sk : List Value} {h : zH} : zrun zpp E 0 (281, ls, sk, h) = zrun zpp E 0 (282, ls, .int 1 :: sk, h) := zg_iconst rfl ci_1
set_option maxRecDepth 20000 in
theorem zi0_282 {E : zE} {x y : Int32} {ls sk : List Value} {h : zH} : zrun zpp E 0 (282, ls, .int y :: .int x :: sk, h) = zrun zpp E 0 (283, ls, .int (x + y) :: sk, h) := zrun_at (i := (.iadd, 283, 0, [])) rfl
set_option maxRecDepth 20000 in
theorem zi0_283 {E : zE} {x : UInt32} {i : Int32} {ls sk : List Value} {h : zH} : zrun zpp E 0 (283, ls, .int i :: .float x :: sk, h) = if zix i E.1 = true then zrun zpp E 0 (284, ls, .int (E.2 i.toNatClampNeg) :: sk, h) else none := zg_sald rfl
set_option maxRecDepth 20000 in
theorem zi0_284 {E : zE} {x : Nat} {ls sk : List Value} {h : zH} : zrun zpp E 0 (284, .ref x :: ls, sk, h) = zrun zpp E 0 (285, .ref x :: ls, .ref x :: sk, h) := zrun_at (i := (.aload_n 0, 285, 0, [])) rfl
set_option maxRecDepth 20000 in
theorem zi0_284n {E : zE} {ls sk : List Value} {h : zH} : zrun zpp E 0 (284, .null :: ls, sk, h) = zrun zpp E 0 (285, .null :: ls, .null :: sk, h) := zrun_at (i := (.aload_n 0, 285, 0, [])) rfl
set_option maxRecDepth 20000 in
theorem zi0_284f {E : zE} {x : UInt32} {ls sk : List Value} {h : zH} : zrun zpp E 0 (284, .float x :: ls, sk, h) = zrun zpp E 0 (285, .float x :: ls, .float x :: sk, h) := zrun_at (i := (.aload_n 0, 285, 0, [])) rfl
set_option maxRecDepth 20000 in
theorem zi0_285 {E : zE} {v0 v1 v2 : Value} {x : Int32} {ls sk : List Value} {h : zH} : zrun zpp E 0 (285, v0 :: v1 :: v2 :: .int x :: ls, sk, h) = zrun zpp E 0 (286, v0 :: v1 :: v2 :: .int x :: ls, .int x :: sk, h) := zrun_at (i := (.iload_n 3, 286, 0, [])) rfl
set_option maxRecDepth 20000 in
theorem zi0_286 {E : zE} {ls sk : List Value} {h : zH} : zrun zpp E 0 (286, ls, sk, h) = zrun zpp E 0 (287, ls, .int 2 :: sk, h) := zg_iconst rfl ci_2
set_option maxRecDepth 20000 in
theorem zi0_287 {E : zE} {x y : Int32} {ls sk : List Value} {h : zH} : zrun zpp E 0 (287, ls, .int y :: .int x :: sk, h) = zrun zpp E 0 (288, ls, .int (x + y) :: sk, h) := zrun_at (i := (.iadd, 288, 0, [])) rfl
set_option maxRecDepth 20000 in
theorem zi0_288 {E : zE} {x : UInt32} {i : Int32} {ls sk : List Value} {h : zH} : zrun zpp E 0 (288, ls, .int i :: .float x :: sk, h) = if zix i E.1 = true then zrun zpp E 0 (289, ls, .int (E.2 i.toNatClampNeg) :: sk, h) else none := zg_sald rfl
set_option maxRecDepth 20000 in
theorem zi0_289 {E : zE} {x : Nat} {ls sk : List Value} {h : zH} : zrun zpp E 0 (289, .ref x :: ls, sk, h) = zrun zpp E 0 (290, .ref x :: ls, .ref x :: sk, h) := zrun_at (i := (.aload_n 0, 290, 0, [])) rfl
set_option maxRecDepth 20000 in
theorem zi0_289n {E : zE} {ls sk : List Value} {h : zH} : zrun zpp E 0 (289, .null :: ls, sk, h) = zrun zpp E 0 (290, .null :: ls, .null :: sk, h) := zrun_at (i := (.aload_n 0, 290, 0, [])) rfl
set_option maxRecDepth 20000 in
theorem zi0_289f {E : zE} {x : UInt32} {ls sk : List Value} {h : zH} : zrun zpp E 0 (289, .float x :: ls, sk, h) = zrun zpp E 0 (290, .float x :: ls, .float x :: sk, h) := zrun_at (i := (.aload_n 0, 290, 0, [])) rfl
set_option maxRecDepth 20000 in
theorem zi0_290 {E : zE} {v0 v1 v2 : Value} {x : Int32} {ls sk : List Value} {h : zH} : zrun zpp E 0 (290, v0 :: v1 :: v2 :: .int x :: ls, sk, h) = zrun zpp E 0 (291, v0 :: v1 :: v2 :: .int x :: ls, .int x :: sk, h) := zrun_at (i := (.iload_n 3, 291, 0, [])) rfl
set_option maxRecDepth 20000 in
theorem zi0_291 {E : zE} {ls sk : List Value} {h : zH} : zrun zpp E 0 (291, ls, sk, h) = zrun zpp E 0 (292, ls, .int 3 :: sk, h) := zg_iconst rfl ci_3
set_option maxRecDepth 20000 in
theorem zi0_292 {E : zE} {x y : Int32} {ls sk : List Value} {h : zH} : zrun zpp E 0 (292, ls, .int y :: .int x :: sk, h) = zrun zpp E 0 (293, ls, .int (x + y) :: sk, h) := zrun_at (i := (.iadd, 293, 0, [])) rfl
set_option maxRecDepth 20000 in
theorem zi0_293 {E : zE} {x : UInt32} {i : Int32} {ls sk : List Value} {h : zH} : zrun zpp E 0 (293, ls, .int i :: .float x :: sk, h) = if zix i E.1 = true then zrun zpp E 0 (294, ls, .int (E.2 i.toNatClampNeg) :: sk, h) else none := zg_sald rfl
set_option maxRecDepth 20000 in
theorem zi0_294 {E : zE} {x : Nat} {ls sk : List Value} {h : zH} : zrun zpp E 0 (294, .ref x :: ls, sk, h) = zrun zpp E 0 (295, .ref x :: ls, .ref x :: sk, h) := zrun_at (i := (.aload_n 0, 295, 0, [])) rfl
set_option maxRecDepth 20000 in
theorem zi0_294n {E : zE} {ls sk : List Value} {h : zH} : zrun zpp E 0 (294, .null :: ls, sk, h) = zrun zpp E 0 (295, .null :: ls, .null :: sk, h) := zrun_at (i := (.aload_n 0, 295, 0, [])) rfl
set_option maxRecDepth 20000 in
theorem zi0_294f {E : zE} {x : UInt32} {ls sk : List Value} {h : zH} : zrun zpp E 0 (294, .float x :: ls, sk, h) = zrun zpp E 0 (295, .float x :: ls, .float x :: sk, h) := zrun_at (i := (.aload_n 0, 295, 0, [])) rfl
set_option maxRecDepth 20000 in
theorem zi0_295 {E : zE} {v0 v1 v2 : Value} {x : Int32} {ls sk : List Value} {h : zH} : zrun zpp E 0 (295, v0 :: v1 :: v2 :: .int x :: ls, sk, h) = zrun zpp E 0 (296, v0 :: v1 :: v2 :: .int x :: ls, .int x :: sk, h) := zrun_at (i := (.iload_n 3, 296, 0, [])) rfl
set_option maxRecDepth 20000 in
theorem zi0_296 {E : zE} {ls sk : List Value} {h : zH} : zrun zpp E 0 (296, ls, sk, h) = zrun zpp E 0 (297, ls, .int 4 :: sk, h) := zg_iconst rfl ci_4
set_option maxRecDepth 20000 in
theorem zi0_297 {E : zE} {x y : Int32} {ls sk : List Value} {h : zH} : zrun zpp E 0 (297, ls, .int y :: .int x :: sk, h) = zrun zpp E 0 (298, ls, .int (x + y) :: sk, h) := zrun_at (i := (.iadd, 298, 0, [])) rfl
set_option maxRecDepth 20000 in
theorem zi0_298 {E : zE} {x : UInt32} {i : Int32} {ls sk : List Value} {h : zH} : zrun zpp E 0 (298, ls, .int i :: .float x :: sk, h) = if zix i E.1 = true then zrun zpp E 0 (299, ls, .int (E.2 i.toNatClampNeg) :: sk, h) else none := zg_sald rfl
set_option maxRecDepth 20000 in
theorem zi0_299 {E : zE} {x : Nat} {ls sk : List Value} {h : zH} : zrun zpp E 0 (299, .ref x :: ls, sk, h) = zrun zpp E 0 (300, .ref x :: ls, .ref x :: sk, h) := zrun_at (i := (.aload_n 0, 300, 0, [])) rfl
set_option maxRecDepth 20000 in
theorem zi0_299n {E : zE} {ls sk : List Value} {h : zH} : zrun zpp E 0 (299, .null :: ls, sk, h) = zrun zpp E 0 (300, .null :: ls, .null :: sk, h) := zrun_at (i := (.aload_n 0, 300, 0, [])) rfl
set_option maxRecDepth 20000 in
theorem zi0_299f {E : zE} {x : UInt32} {ls sk : List Value} {h : zH} : zrun zpp E 0 (299, .float x :: ls, sk, h) = zrun zpp E 0 (300, .float x :: ls, .float x :: sk, h) := zrun_at (i := (.aload_n 0, 300, 0, [])) rfl
set_option maxRecDepth 20000 in
theorem zi0_300 {E : zE} {v0 v1 v2 : Value} {x : Int32} {ls sk : List Value} {h : zH} : zrun zpp E 0 (300, v0 :: v1 :: v2 :: .int x :: ls, sk, h) = zrun zpp E 0 (301, v0 :: v1 :: v2 :: .int x :: ls, .int x :: sk, h) := zrun_at (i := (.iload_n 3, 301, 0, [])) rfl
set_option maxRecDepth 20000 in
theorem zi0_301 {E : zE} {ls sk : List Value} {h : zH} : zrun zpp E 0 (301, ls, sk, h) = zrun zpp E 0 (302, ls, .int 5 :: sk, h) := zg_iconst rfl ci_5
set_option maxRecDepth 20000 in
theorem zi0_302 {E : zE} {x y : Int32} {ls sk : List Value} {h : zH} : zrun zpp E 0 (302, ls, .int y :: .int x :: sk, h) = zrun zpp E 0 (303, ls, .int (x + y) :: sk, h) := zrun_at (i := (.iadd, 303, 0, [])) rfl
set_option maxRecDepth 20000 in
theorem zi0_303 {E : zE} {x : UInt32} {i : Int32} {ls sk : List Value} {h : zH} : zrun zpp E 0 (303, ls, .int i :: .float x :: sk, h) = if zix i E.1 = true then zrun zpp E 0 (304, ls, .int (E.2 i.toNatClampNeg) :: sk, h) else none := zg_sald rfl
set_option maxRecDepth 20000 in
theorem zi0_304 {E : zE} {a0 a1 a2 a3 a4 : Value} {x : Nat} {ls sk : List Value} {h : zH} : zrun zpp E 0 (304, ls, a4 :: a3 :: a2 :: a1 :: a0 :: .ref x :: sk, h) = (zcls h x).bind (fun d => (zsel d [10, 92]).bind (fun M' => zcl1 E 0 307 M' ls sk [.ref x, a0, a1, a2, a3, a4] h)) := zg_vir (as := [a0, a1, a2, a3, a4]) rfl rfl
set_option maxRecDepth 20000 in
theorem zi0_307 {E : zE} {v0 v1 : Value} {x : Nat} {ls sk : List Value} {h : zH} : zrun zpp E 0 (307, v0 :: v1 :: .ref x :: ls, sk, h) = zrun zpp E 0 (308, v0 :: v1 :: .ref x :: ls, .ref x :: sk, h) := zrun_at (i := (.aload_n 2, 308, 0, [])) rfl
set_option maxRecDepth 20000 in
theorem zi0_307n {E : zE} {v0 v1 : Value} {ls sk : List Value} {h : zH} : zrun zpp E 0 (307, v0 :: v1 :: .null :: ls, sk, h) = zrun zpp E 0 (308, v0 :: v1 :: .null :: ls, .null :: sk, h) := zrun_at (i := (.aload_n 2, 308, 0, [])) rfl
set_option maxRecDepth 20000 in
theorem zi0_307f {E : zE} {v0 v1 : Value} {x : UInt32} {ls sk : List Value} {h : zH} : zrun zpp E 0 (307, v0 :: v1 :: .float x :: ls, sk, h) = zrun zpp E 0 (308, v0 :: v1 :: .float x :: ls, .float x :: sk, h) := zrun_at (i := (.aload_n 2, 308, 0, [])) rfl
set_option maxRecDepth 20000 in
theorem zi0_308 {E : zE} {x : Nat} {ls sk : List Value} {h : zH} : zrun zpp E 0 (308, .ref x :: ls, sk, h) = zrun zpp E 0 (309, .ref x :: ls, .ref x :: sk, h) := zrun_at (i := (.aload_n 0, 309, 0, [])) rfl
set_option maxRecDepth 20000 in
theorem zi0_308n {E : zE} {ls sk : List Value} {h : zH} : zrun zpp E 0 (308, .null :: ls, sk, h) = zrun zpp E 0 (309, .null :: ls, .null :: sk, h) := zrun_at (i := (.aload_n 0, 309, 0, [])) rfl
set_option maxRecDepth 20000 in
theorem zi0_308f {E : zE} {x : UInt32} {ls sk : List Value} {h : zH} : zrun zpp E 0 (308, .float x :: ls, sk, h) = zrun zpp E 0 (309, .float x :: ls, .float x :: sk, h) := zrun_at (i := (.aload_n 0, 309, 0, [])) rfl
set_option maxRecDepth 20000 in
theorem zi0_309 {E : zE} {v0 v1 v2 : Value} {x : Int32} {ls sk : List Value} {h : zH} : zrun zpp E 0 (309, v0 :: v1 :: v2 :: .int x :: ls, sk, h) = zrun zpp E 0 (310, v0 :: v1 :: v2 :: .int x :: ls, .int x :: sk, h) := zrun_at (i := (.iload_n 3, 310, 0, [])) rfl
set_option maxRecDepth 20000 in
theorem zi0_310 {E : zE} {ls sk : List Value} {h : zH} : zrun zpp E 0 (310, ls, sk, h) = zrun zpp E 0 (311, ls, .int 1 :: sk, h) := zg_iconst rfl ci_1
set_option maxRecDepth 20000 in
theorem zi0_311 {E : zE} {x y : Int32} {ls sk : List Value} {h : zH} : zrun zpp E 0 (311, ls, .int y :: .int x :: sk, h) = zrun zpp E 0 (312, ls, .int (x + y) :: sk, h) := zrun_at (i := (.iadd, 312, 0, [])) rfl
set_option maxRecDepth 20000 in
theorem zi0_312 {E : zE} {x : UInt32} {i : Int32} {ls sk : List Value} {h : zH} : zrun zpp E 0 (312, ls, .int i :: .float x :: sk, h) = if zix i E.1 = true then zrun zpp E 0 (313, ls, .int (E.2 i.toNatClampNeg) :: sk, h) else none := zg_sald rfl
set_option maxRecDepth 20000 in
theorem zi0_313 {E : zE} {x : Nat} {ls sk : List Value} {h : zH} : zrun zpp E 0 (313, .ref x :: ls, sk, h) = zrun zpp E 0 (314, .ref x :: ls, .ref x :: sk, h) := zrun_at (i := (.aload_n 0, 314, 0, [])) rfl
set_option maxRecDepth 20000 in
theorem zi0_313n {E : zE} {ls sk : List Value} {h : zH} : zrun zpp E 0 (313, .null :: ls, sk, h) = zrun zpp E 0 (314, .null :: ls, .null :: sk, h) := zrun_at (i := (.aload_n 0, 314, 0, [])) rfl
set_option maxRecDepth 20000 in
theorem zi0_313f {E : zE} {x : UInt32} {ls sk : List Value} {h : zH} : zrun zpp E 0 (313, .float x :: ls, sk, h) = zrun zpp E 0 (314, .float x :: ls, .float x :: sk, h) := zrun_at (i := (.aload_n 0, 314, 0, [])) rfl
set_option maxRecDepth 20000 in
theorem zi0_314 {E : zE} {v0 v1 v2 : Value} {x : Int32} {ls sk : List Value} {h : zH} : zrun zpp E 0 (314, v0 :: v1 :: v2 :: .int x :: ls, sk, h) = zrun zpp E 0 (315, v0 :: v1 :: v2 :: .int x :: ls, .int x :: sk, h) := zrun_at (i := (.iload_n 3, 315, 0, [])) rfl
set_option maxRecDepth 20000 in
theorem zi0_315 {E : zE} {ls sk : List Value} {h : zH} : zrun zpp E 0 (315, ls, sk, h) = zrun zpp E 0 (316, ls, .int 2 :: sk, h) := zg_iconst rfl ci_2
set_option maxRecDepth 20000 in
theorem zi0_316 {E : zE} {x y : Int32} {ls sk : List Value} {h : zH} : zrun zpp E 0 (316, ls, .int y :: .int x :: sk, h) = zrun zpp E 0 (317, ls, .int (x + y) :: sk, h) := zrun_at (i := (.iadd, 317, 0, [])) rfl
set_option maxRecDepth 20000 in
theorem zi0_317 {E : zE} {x : UInt32} {i : Int32} {ls sk : List Value} {h : zH} : zrun zpp E 0 (317, ls, .int i :: .float x :: sk, h) = if zix i E.1 = true then zrun zpp E 0 (318, ls, .int (E.2 i.toNatClampNeg) :: sk, h) else none := zg_sald rfl
set_option maxRecDepth 20000 in
theorem zi0_318 {E : zE} {x : Nat} {ls sk : List Value} {h : zH} : zrun zpp E 0 (318, .ref x :: ls, sk, h) = zrun zpp E 0 (319, .ref x :: ls, .ref x :: sk, h) := zrun_at (i := (.aload_n 0, 319, 0, [])) rfl
set_option maxRecDepth 20000 in
theorem zi0_318n {E : zE} {ls sk : List Value} {h : zH} : zrun zpp E 0 (318, .null :: ls, sk, h) = zrun zpp E 0 (319, .null :: ls, .null :: sk, h) := zrun_at (i := (.aload_n 0, 319, 0, [])) rfl
set_option maxRecDepth 20000 in
theorem zi0_318f {E : zE} {x : UInt32} {ls sk : List Value} {h : zH} : zrun zpp E 0 (318, .float x :: ls, sk, h) = zrun zpp E 0 (319, .float x :: ls, .float x :: sk, h) := zrun_at (i := (.aload_n 0, 319, 0, [])) rfl
set_option maxRecDepth 20000 in
theorem zi0_319 {E : zE} {v0 v1 v2 : Value} {x : Int32} {ls sk : List Value} {h : zH} : zrun zpp E 0 (319, v0 :: v1 :: v2 :: .int x :: ls, sk, h) = zrun zpp E 0 (320, v0 :: v1 :: v2 :: .int x :: ls, .int x :: sk, h) := zrun_at (i := (.iload_n 3, 320, 0, [])) rfl
set_option maxRecDepth 20000 in
theorem zi0_320 {E : zE} {ls sk : List Value} {h : zH} : zrun zpp E 0 (320, ls, sk, h) = zrun zpp E 0 (321, ls, .int 3 :: sk, h) := zg_iconst rfl ci_3
set_option maxRecDepth 20000 in
theorem zi0_321 {E : zE} {x y : Int32} {ls sk : List Value} {h : zH} : zrun zpp E 0 (321, ls, .int y :: .int x :: sk, h) = zrun zpp E 0 (322, ls, .int (x + y) :: sk, h) := zrun_at (i := (.iadd, 322, 0, [])) rfl
set_option maxRecDepth 20000 in
theorem zi0_322 {E : zE} {x : UInt32} {i : Int32} {ls sk : List Value} {h : zH} : zrun zpp E 0 (322, ls, .int i :: .float x :: sk, h) = if zix i E.1 = true then zrun zpp E 0 (323, ls, .int (E.2 i.toNatClampNeg) :: sk, h) else none := zg_sald rfl
set_option maxRecDepth 20000 in
theorem zi0_323 {E : zE} {x : Nat} {ls sk : List Value} {h : zH} : zrun zpp E 0 (323, .ref x :: ls, sk, h) = zrun zpp E 0 (324, .ref x :: ls, .ref x :: sk, h) := zrun_at (i := (.aload_n 0, 324, 0, [])) rfl
set_option maxRecDepth 20000 in
theorem zi0_323n {E : zE} {ls sk : List Value} {h : zH} : zrun zpp E 0 (323, .null :: ls, sk, h) = zrun zpp E 0 (324, .null :: ls, .null :: sk, h) := zrun_at (i := (.aload_n 0, 324, 0, [])) rfl
set_option maxRecDepth 20000 in
theorem zi0_323f {E : zE} {x : UInt32} {ls sk : List Value} {h : zH} : zrun zpp E 0 (323, .float x :: ls, sk, h) = zrun zpp E 0 (324, .float x :: ls, .float x :: sk, h) := zrun_at (i := (.aload_n 0, 324, 0, [])) rfl
set_option maxRecDepth 20000 in
theorem zi0_324 {E : zE} {v0 v1 v2 : Value} {x : Int32} {ls sk : List Value} {h : zH} : zrun zpp E 0 (324, v0 :: v1 :: v2 :: .int x :: ls, sk, h) = zrun zpp E 0 (325, v0 :: v1 :: v2 :: .int x :: ls, .int x :: sk, h) := zrun_at (i := (.iload_n 3, 325, 0, [])) rfl
set_option maxRecDepth 20000 in
theorem zi0_325 {E : zE} {ls sk : List Value} {h : zH} : zrun zpp E 0 (325, ls, sk, h) = zrun zpp E 0 (326, ls, .int 4 :: sk, h) := zg_iconst rfl ci_4
set_option maxRecDepth 20000 in
theorem zi0_326 {E : zE} {x y : Int32} {ls sk : List Value} {h : zH} : zrun zpp E 0 (326, ls, .int y :: .int x :: sk, h) = zrun zpp E 0 (327, ls, .int (x + y) :: sk, h) := zrun_at (i := (.iadd, 327, 0, [])) rfl
set_option maxRecDepth 20000 in
theorem zi0_327 {E : zE} {x : UInt32} {i : Int32} {ls sk : List Value} {h : zH} : zrun zpp E 0 (327, ls, .int i :: .float x :: sk, h) = if zix i E.1 = true then zrun zpp E 0 (328, ls, .int (E.2 i.toNatClampNeg) :: sk, h) else none := zg_sald rfl
set_option maxRecDepth 20000 in
theorem zi0_328 {E : zE} {x : Nat} {ls sk : List Value} {h : zH} : zrun zpp E 0 (328, .ref x :: ls, sk, h) = zrun zpp E 0 (329, .ref x :: ls, .ref x :: sk, h) := zrun_at (i := (.aload_n 0, 329, 0, [])) rfl
set_option maxRecDepth 20000 in
theorem zi0_328n {E : zE} {ls sk : List Value} {h : zH} : zrun zpp E 0 (328, .null :: ls, sk, h) = zrun zpp E 0 (329, .null :: ls, .null :: sk, h) := zrun_at (i := (.aload_n 0, 329, 0, [])) rfl
set_option maxRecDepth 20000 in
theorem zi0_328f {E : zE} {x : UInt32} {ls sk : List Value} {h : zH} : zrun zpp E 0 (328, .float x :: ls, sk, h) = zrun zpp E 0 (329, .float x :: ls, .float x :: sk, h) := zrun_at (i := (.aload_n 0, 329, 0, [])) rfl
set_option maxRecDepth 20000 in
theorem zi0_329 {E : zE} {v0 v1 v2 : Value} {x : Int32} {ls sk : List Value} {h : zH} : zrun zpp E 0 (329, v0 :: v1 :: v2 :: .int x :: ls, sk, h) = zrun zpp E 0 (330, v0 :: v1 :: v2 :: .int x :: ls, .int x :: sk, h) := zrun_at (i := (.iload_n 3, 330, 0, [])) rfl
set_option maxRecDepth 20000 in
theorem zi0_330 {E : zE} {ls sk : List Value} {h : zH} : zrun zpp E 0 (330, ls, sk, h) = zrun zpp E 0 (331, ls, .int 5 :: sk, h) := zg_iconst rfl ci_5
set_option maxRecDepth 20000 in
theorem zi0_331 {E : zE} {x y : Int32} {ls sk : List Value} {h : zH} : zrun zpp E 0 (331, ls, .int y :: .int x :: sk, h) = zrun zpp E 0 (332, ls, .int (x + y) :: sk, h) := zrun_at (i := (.iadd, 332, 0, [])) rfl
set_option maxRecDepth 20000 in
theorem zi0_332 {E : zE} {x : UInt32} {i : Int32} {ls sk : List Value} {h : zH} : zrun zpp E 0 (332, ls, .int i :: .float x :: sk, h) = if zix i E.1 = true then zrun zpp E 0 (333, ls, .int (E.2 i.toNatClampNeg) :: sk, h) else none := zg_sald rfl
set_option maxRecDepth 20000 in
theorem zi0_333 {E : zE} {a0 a1 a2 a3 a4 : Value} {x : Nat} {ls sk : List Value} {h : zH} : zrun zpp E 0 (333, ls, a4 :: a3 :: a2 :: a1 :: a0 :: .ref x :: sk, h) = (zcls h x).bind (fun d => (zsel d [11, 154]).bind (fun M' => zcl1 E 0 336 M' ls sk [.ref x, a0, a1, a2, a3, a4] h)) := zg_vir (as := [a0, a1, a2, a3, a4]) rfl rfl
set_option maxRecDepth 20000 in
theorem zi0_336 {E : zE} {x y : Int32} {ls sk : List Value} {h : zH} : zrun zpp E 0 (336, ls, .int y :: .int x :: sk, h) = if x = y then zrun zpp E 0 (1301, ls, sk, h) else zrun zpp E 0 (339, ls, sk, h) := zrun_at (i := (.if_icmp .eq 965, 339, 0, [1301])) rfl
set_option maxRecDepth 20000 in
theorem zi0_339 {E : zE} {ls sk : List Value} {h : zH} : zrun zpp E 0 (339, ls, sk, h) = zrun zpp E 0 (340, ls, .int 0 :: sk, h) := zg_iconst rfl ci_0
set_option maxRecDepth 20000 in
theorem zi0_340 {E : zE} {x : Int32} {ls sk : List Value} {h : zH} : zrun zpp E 0 (340, ls, [.int x], h) = if x = 0 then some (some (.int 0), h) else if x = 1 then some (some (.int 1), h) else none := zrun_at (i := (.ireturn, 341, 1, [])) rfl
set_option maxRecDepth 20000 in
theorem zi0_341 {E : zE} {v0 : Value} {x : Nat} {ls sk : List Value} {h : zH} : zrun zpp E 0 (341, v0 :: .ref x :: ls, sk, h) = zrun zpp E 0 (342, v0 :: .ref x :: ls, .ref x :: sk, h) := zrun_at (i := (.aload_n 1, 342, 0, [])) rfl
set_option maxRecDepth 20000 in
theorem zi0_341n {E : zE} {v0 : Value} {ls sk : List Value} {h : zH} : zrun zpp E 0 (341, v0 :: .null :: ls, sk, h) = zrun zpp E 0 (342, v0 :: .null :: ls, .null :: sk, h) := zrun_at (i := (.aload_n 1, 342, 0, [])) rfl
set_option maxRecDepth 20000 in
theorem zi0_341f {E : zE} {v0 : Value} {x : UInt32} {ls sk : List Value} {h : zH} : zrun zpp E 0 (341, v0 :: .float x :: ls, sk, h) = zrun zpp E 0 (342, v0 :: .float x :: ls, .float x :: sk, h) := zrun_at (i := (.aload_n 1, 342, 0, [])) rfl
set_option maxRecDepth 20000 in
theorem zi0_342 {E : zE} {x : Nat} {ls sk : List Value} {h : zH} : zrun zpp E 0 (342, .ref x :: ls, sk, h) = zrun zpp E 0 (343, .ref x :: ls, .ref x :: sk, h) := zrun_at (i := (.aload_n 0, 343, 0, [])) rfl
set_option maxRecDepth 20000 in
theorem zi0_342n {E : zE} {ls sk : List Value} {h : zH} : zrun zpp E 0 (342, .null :: ls, sk, h) = zrun zpp E 0 (343, .null :: ls, .null :: sk, h) := zrun_at (i := (.aload_n 0, 343, 0, [])) rfl
set_option maxRecDepth 20000 in
theorem zi0_342f {E : zE} {x : UInt32} {ls sk : List Value} {h : zH} : zrun zpp E 0 (342, .float x :: ls, sk, h) = zrun zpp E 0 (343, .float x :: ls, .float x :: sk, h) := zrun_at (i := (.aload_n 0, 343, 0, [])) rfl
set_option maxRecDepth 20000 in
theorem zi0_343 {E : zE} {v0 v1 v2 : Value} {x : Int32} {ls sk : List Value} {h : zH} : zrun zpp E 0 (343, v0 :: v1 :: v2 :: .int x :: ls, sk, h) = zrun zpp E 0 (344, v0 :: v1 :: v2 :: .int x :: ls, .int x :: sk, h) := zrun_at (i := (.iload_n 3, 344, 0, [])) rfl
set_option maxRecDepth 20000 in
theorem zi0_344 {E : zE} {ls sk : List Value} {h : zH} : zrun zpp E 0 (344, ls, sk, h) = zrun zpp E 0 (345, ls, .int 1 :: sk, h) := zg_iconst rfl ci_1
set_option maxRecDepth 20000 in
theorem zi0_345 {E : zE} {x y : Int32} {ls sk : List Value} {h : zH} : zrun zpp E 0 (345, ls, .int y :: .int x :: sk, h) = zrun zpp E 0 (346, ls, .int (x + y) :: sk, h) := zrun_at (i := (.iadd, 346, 0, [])) rfl
set_option maxRecDepth 20000 in
theorem zi0_346 {E : zE} {x : UInt32} {i : Int32} {ls sk : List Value} {h : zH} : zrun zpp E 0 (346, ls, .int i :: .float x :: sk, h) = if zix i E.1 = true then zrun zpp E 0 (347, ls, .int (E.2 i.toNatClampNeg) :: sk, h) else none := zg_sald rfl
set_option maxRecDepth 20000 in
theorem zi0_347 {E : zE} {a0 : Value} {x : Nat} {ls sk : List Value} {h : zH} : zrun zpp E 0 (347, ls, a0 :: .ref x :: sk, h) = (zcls h x).bind (fun d => (zsel d [10, 93]).bind (fun M' => zcl1 E 0 350 M' ls sk [.ref x, a0] h)) := zg_vir (as := [a0]) rfl rfl
set_option maxRecDepth 20000 in
theorem zi0_350 {E : zE} {v0 v1 : Value} {x : Nat} {ls sk : List Value} {h : zH} : zrun zpp E 0 (350, v0 :: v1 :: .ref x :: ls, sk, h) = zrun zpp E 0 (351, v0 :: v1 :: .ref x :: ls, .ref x :: sk, h) := zrun_at (i := (.aload_n 2, 351, 0, [])) rfl
set_option maxRecDepth 20000 in
theorem zi0_350n {E : zE} {v0 v1 : Value} {ls sk : List Value} {h : zH} : zrun zpp E 0 (350, v0 :: v1 :: .null :: ls, sk, h) = zrun zpp E 0 (351, v0 :: v1 :: .null :: ls, .null :: sk, h) := zrun_at (i := (.aload_n 2, 351, 0, [])) rfl
set_option maxRecDepth 20000 in
theorem zi0_350f {E : zE} {v0 v1 : Value} {x : UInt32} {ls sk : List Value} {h : zH} : zrun zpp E 0 (350, v0 :: v1 :: .float x :: ls, sk, h) = zrun zpp E 0 (351, v0 :: v1 :: .float x :: ls, .float x :: sk, h) := zrun_at (i := (.aload_n 2, 351, 0, [])) rfl
set_option maxRecDepth 20000 in
theorem zi0_351 {E : zE} {x : Nat} {ls sk : List Value} {h : zH} : zrun zpp E 0 (351, .ref x :: ls, sk, h) = zrun zpp E 0 (352, .ref x :: ls, .ref x :: sk, h) := zrun_at (i := (.aload_n 0, 352, 0, [])) rfl
set_option maxRecDepth 20000 in
theorem zi0_351n {E : zE} {ls sk : List Value} {h : zH} : zrun zpp E 0 (351, .null :: ls, sk, h) = zrun zpp E 0 (352, .null :: ls, .null :: sk, h) := zrun_at (i := (.aload_n 0, 352, 0, [])) rfl
set_option maxRecDepth 20000 in
theorem zi0_351f {E : zE} {x : UInt32} {ls sk : List Value} {h : zH} : zrun zpp E 0 (351, .float x :: ls, sk, h) = zrun zpp E 0 (352, .float x :: ls, .float x :: sk, h) := zrun_at (i := (.aload_n 0, 352, 0, [])) rfl
set_option maxRecDepth 20000 in
theorem zi0_352 {E : zE} {v0 v1 v2 : Value} {x : Int32} {ls sk : List Value} {h : zH} : zrun zpp E 0 (352, v0 :: v1 :: v2 :: .int x :: ls, sk, h) = zrun zpp E 0 (353, v0 :: v1 :: v2 :: .int x :: ls, .int x :: sk, h) := zrun_at (i := (.iload_n 3, 353, 0, [])) rfl
set_option maxRecDepth 20000 in
theorem zi0_353 {E : zE} {ls sk : List Value} {h : zH} : zrun zpp E 0 (353, ls, sk, h) = zrun zpp E 0 (354, ls, .int 1 :: sk, h) := zg_iconst rfl ci_1
set_option maxRecDepth 20000 in
theorem zi0_354 {E : zE} {x y : Int32} {ls sk : List Value} {h : zH} : zrun zpp E 0 (354, ls, .int y :: .int x :: sk, h) = zrun zpp E 0 (355, ls, .int (x + y) :: sk, h) := zrun_at (i := (.iadd, 355, 0, [])) rfl
set_option maxRecDepth 20000 in
theorem zi0_355 {E : zE} {x : UInt32} {i : Int32} {ls sk : List Value} {h : zH} : zrun zpp E 0 (355, ls, .int i :: .float x :: sk, h) = if zix i E.1 = true then zrun zpp E 0 (356, ls, .int (E.2 i.toNatClampNeg) :: sk, h) else none := zg_sald rfl
set_option maxRecDepth 20000 in
theorem zi0_356 {E : zE} {a0 : Value} {x : Nat} {ls sk : List Value} {h : zH} : zrun zpp E 0 (356, ls, a0 :: .ref x :: sk, h) = (zcls h x).bind (fun d => (zsel d [11, 155]).bind (fun M' => zcl1 E 0 359 M' ls sk [.ref x, a0] h)) := zg_vir (as := [a0]) rfl rfl
set_option maxRecDepth 20000 in
theorem zi0_359 {E : zE} {x y : Int32} {ls sk : List Value} {h : zH} : zrun zpp E 0 (359, ls, .int y :: .int x :: sk, h) = if x = y then zrun zpp E 0 (1301, ls, sk, h) else zrun zpp E 0 (362, ls, sk, h) := zrun_at (i := (.if_icmp .eq 942, 362, 0, [1301])) rfl
set_option maxRecDepth 20000 in
theorem zi0_362 {E : zE} {ls sk : List Value} {h : zH} : zrun zpp E 0 (362, ls, sk, h) = zrun zpp E 0 (363, ls, .int 0 :: sk, h) := zg_iconst rfl ci_0
set_option maxRecDepth 20000 in
theorem zi0_363 {E : zE} {x : Int32} {ls sk : List Value} {h : zH} : zrun zpp E 0 (363, ls, [.int x], h) = if x = 0 then some (some (.int 0), h) else if x = 1 then some (some (.int 1), h) else none := zrun_at (i := (.ireturn, 364, 1, [])) rfl
set_option maxRecDepth 20000 in
theorem zi0_364 {E : zE} {v0 : Value} {x : Nat} {ls sk : List Value} {h : zH} : zrun zpp E 0 (364, v0 :: .ref x :: ls, sk, h) = zrun zpp E 0 (365, v0 :: .ref x :: ls, .ref x :: sk, h) := zrun_at (i := (.aload_n 1, 365, 0, [])) rfl
set_option maxRecDepth 20000 in
theorem zi0_364n {E : zE} {v0 : Value} {ls sk : List Value} {h : zH} : zrun zpp E 0 (364, v0 :: .null :: ls, sk, h) = zrun zpp E 0 (365, v0 :: .null :: ls, .null :: sk, h) := zrun_at (i := (.aload_n 1, 365, 0, [])) rfl
set_option maxRecDepth 20000 in
theorem zi0_364f {E : zE} {v0 : Value} {x : UInt32} {ls sk : List Value} {h : zH} : zrun zpp E 0 (364, v0 :: .float x :: ls, sk, h) = zrun zpp E 0 (365, v0 :: .float x :: ls, .float x :: sk, h) := zrun_at (i := (.aload_n 1, 365, 0, [])) rfl
set_option maxRecDepth 20000 in
theorem zi0_365 {E : zE} {x : Nat} {ls sk : List Value} {h : zH} : zrun zpp E 0 (365, .ref x :: ls, sk, h) = zrun zpp E 0 (366, .ref x :: ls, .ref x :: sk, h) := zrun_at (i := (.aload_n 0, 366, 0, [])) rfl
set_option maxRecDepth 20000 in
theorem zi0_365n {E : zE} {ls sk : List Value} {h : zH} : zrun zpp E 0 (365, .null :: ls, sk, h) = zrun zpp E 0 (366, .null :: ls, .null :: sk, h) := zrun_at (i := (.aload_n 0, 366, 0, [])) rfl
set_option maxRecDepth 20000 in
theorem zi0_365f {E : zE} {x : UInt32} {ls sk : List Value} {h : zH} : zrun zpp E 0 (365, .float x :: ls, sk, h) = zrun zpp E 0 (366, .float x :: ls, .float x :: sk, h) := zrun_at (i := (.aload_n 0, 366, 0, [])) rfl
set_option maxRecDepth 20000 in
theorem zi0_366 {E : zE} {v0 v1 v2 : Value} {x : Int32} {ls sk : List Value} {h : zH} : zrun zpp E 0 (366, v0 :: v1 :: v2 :: .int x :: ls, sk, h) = zrun zpp E 0 (367, v0 :: v1 :: v2 :: .int x :: ls, .int x :: sk, h) := zrun_at (i := (.iload_n 3, 367, 0, [])) rfl
set_option maxRecDepth 20000 in
theorem zi0_367 {E : zE} {ls sk : List Value} {h : zH} : zrun zpp E 0 (367, ls, sk, h) = zrun zpp E 0 (368, ls, .int 1 :: sk, h) := zg_iconst rfl ci_1
set_option maxRecDepth 20000 in
theorem zi0_368 {E : zE} {x y : Int32} {ls sk : List Value} {h : zH} : zrun zpp E 0 (368, ls, .int y :: .int x :: sk, h) = zrun zpp E 0 (369, ls, .int (x + y) :: sk, h) := zrun_at (i := (.iadd, 369, 0, [])) rfl
set_option maxRecDepth 20000 in
theorem zi0_369 {E : zE} {x : UInt32} {i : Int32} {ls sk : List Value} {h : zH} : zrun zpp E 0 (369, ls, .int i :: .float x :: sk, h) = if zix i E.1 = true then zrun zpp E 0 (370, ls, .int (E.2 i.toNatClampNeg) :: sk, h) else none := zg_sald rfl
set_option maxRecDepth 20000 in
theorem zi0_370 {E : zE} {a0 : Value} {x : Nat} {ls sk : List Value} {h : zH} : zrun zpp E 0 (370, ls, a0 :: .ref x :: sk, h) = (zcls h x).bind (fun d => (zsel d [10, 94]).bind (fun M' => zcl1 E 0 373 M' ls sk [.ref x, a0] h)) := zg_vir (as := [a0]) rfl rfl
set_option maxRecDepth 20000 in
theorem zi0_373 {E : zE} {v0 v1 : Value} {x : Nat} {ls sk : List Value} {h : zH} : zrun zpp E 0 (373, v0 :: v1 :: .ref x :: ls, sk, h) = zrun zpp E 0 (374, v0 :: v1 :: .ref x :: ls, .ref x :: sk, h) := zrun_at (i := (.aload_n 2, 374, 0, [])) rfl
set_option maxRecDepth 20000 in
theorem zi0_373n {E : zE} {v0 v1 : Value} {ls sk : List Value} {h : zH} : zrun zpp E 0 (373, v0 :: v1 :: .null :: ls, sk, h) = zrun zpp E 0 (374, v0 :: v1 :: .null :: ls, .null :: sk, h) := zrun_at (i := (.aload_n 2, 374, 0, [])) rfl
set_option maxRecDepth 20000 in
theorem zi0_373f {E : zE} {v0 v1 : Value} {x : UInt32} {ls sk : List Value} {h : zH} : zrun zpp E 0 (373, v0 :: v1 :: .float x :: ls, sk, h) = zrun zpp E 0 (374, v0 :: v1 :: .float x :: ls, .float x :: sk, h) := zrun_at (i := (.aload_n 2, 374, 0, [])) rfl
set_option maxRecDepth 20000 in
theorem zi0_374 {E : zE} {x : Nat} {ls sk : List Value} {h : zH} : zrun zpp E 0 (374, .ref x :: ls, sk, h) = zrun zpp E 0 (375, .ref x :: ls, .ref x :: sk, h) := zrun_at (i := (.aload_n 0, 375, 0, [])) rfl
set_option maxRecDepth 20000 in
theorem zi0_374n {E : zE} {ls sk : List Value} {h : zH} : zrun zpp E 0 (374, .null :: ls, sk, h) = zrun zpp E 0 (375, .null :: ls, .null :: sk, h) := zrun_at (i := (.aload_n 0, 375, 0, [])) rfl
set_option maxRecDepth 20000 in
theorem zi0_374f {E : zE} {x : UInt32} {ls sk : List Value} {h : zH} : zrun zpp E 0 (374, .float x :: ls, sk, h) = zrun zpp E 0 (375, .float x :: ls, .float x :: sk, h) := zrun_at (i := (.aload_n 0, 375, 0, [])) rfl
set_option maxRecDepth 20000 in
theorem zi0_375 {E : zE} {v0 v1 v2 : Value} {x : Int32} {ls sk : List Value} {h : zH} : zrun zpp E 0 (375, v0 :: v1 :: v2 :: .int x :: ls, sk, h) = zrun zpp E 0 (376, v0 :: v1 :: v2 :: .int x :: ls, .int x :: sk, h) := zrun_at (i := (.iload_n 3, 376, 0, [])) rfl
set_option maxRecDepth 20000 in
theorem zi0_376 {E : zE} {ls sk : List Value} {h : zH} : zrun zpp E 0 (376, ls, sk, h) = zrun zpp E 0 (377, ls, .int 1 :: sk, h) := zg_iconst rfl ci_1
set_option maxRecDepth 20000 in
theorem zi0_377 {E : zE} {x y : Int32} {ls sk : List Value} {h : zH} : zrun zpp E 0 (377, ls, .int y :: .int x :: sk, h) = zrun zpp E 0 (378, ls, .int (x + y) :: sk, h) := zrun_at (i := (.iadd, 378, 0, [])) rfl
set_option maxRecDepth 20000 in
theorem zi0_378 {E : zE} {x : UInt32} {i : Int32} {ls sk : List Value} {h : zH} : zrun zpp E 0 (378, ls, .int i :: .float x :: sk, h) = if zix i E.1 = true then zrun zpp E 0 (379, ls, .int (E.2 i.toNatClampNeg) :: sk, h) else none := zg_sald rfl
set_option maxRecDepth 20000 in
theorem zi0_379 {E : zE} {a0 : Value} {x : Nat} {ls sk : List Value} {h : zH} : zrun zpp E 0 (379, ls, a0 :: .ref x :: sk, h) = (zcls h x).bind (fun d => (zsel d [11, 156]).bind (fun M' => zcl1 E 0 382 M' ls sk [.ref x, a0] h)) := zg_vir (as := [a0]) rfl rfl
set_option maxRecDepth 20000 in
theorem zi0_382 {E : zE} {x y : Int32} {ls sk : List Value} {h : zH} : zrun zpp E 0 (382, ls, .int y :: .int x :: sk, h) = if x = y then zrun zpp E 0 (1301, ls, sk, h) else zrun zpp E 0 (385, ls, sk, h) := zrun_at (i := (.if_icmp .eq 919, 385, 0, [1301])) rfl
set_option maxRecDepth 20000 in
theorem zi0_385 {E : zE} {ls sk : List Value} {h : zH} : zrun zpp E 0 (385, ls, sk, h) = zrun zpp E 0 (386, ls, .int 0 :: sk, h) := zg_iconst rfl ci_0
set_option maxRecDepth 20000 in
theorem zi0_386 {E : zE} {x : Int32} {ls sk : List Value} {h : zH} : zrun zpp E 0 (386, ls, [.int x], h) = if x = 0 then some (some (.int 0), h) else if x = 1 then some (some (.int 1), h) else none := zrun_at (i := (.ireturn, 387, 1, [])) rfl
set_option maxRecDepth 20000 in
theorem zi0_387 {E : zE} {v0 : Value} {x : Nat} {ls sk : List Value} {h : zH} : zrun zpp E 0 (387, v0 :: .ref x :: ls, sk, h) = zrun zpp E 0 (388, v0 :: .ref x :: ls, .ref x :: sk, h) := zrun_at (i := (.aload_n 1, 388, 0, [])) rfl
set_option maxRecDepth 20000 in
theorem zi0_387n {E : zE} {v0 : Value} {ls sk : List Value} {h : zH} : zrun zpp E 0 (387, v0 :: .null :: ls, sk, h) = zrun zpp E 0 (388, v0 :: .null :: ls, .null :: sk, h) := zrun_at (i := (.aload_n 1, 388, 0, [])) rfl
set_option maxRecDepth 20000 in
theorem zi0_387f {E : zE} {v0 : Value} {x : UInt32} {ls sk : List Value} {h : zH} : zrun zpp E 0 (387, v0 :: .float x :: ls, sk, h) = zrun zpp E 0 (388, v0 :: .float x :: ls, .float x :: sk, h) := zrun_at (i := (.aload_n 1, 388, 0, [])) rfl
set_option maxRecDepth 20000 in
theorem zi0_388 {E : zE} {x : Nat} {ls sk : List Value} {h : zH} : zrun zpp E 0 (388, ls, .ref x :: sk, h) = (zcls h x).bind (fun d => (zsel d [10, 95]).bind (fun M' => zcl1 E 0 391 M' ls sk [.ref x] h)) := zg_vir (as := []) rfl rfl
set_option maxRecDepth 20000 in
theorem zi0_391 {E : zE} {v0 v1 : Value} {x : Nat} {ls sk : List Value} {h : zH} : zrun zpp E 0 (391, v0 :: v1 :: .ref x :: ls, sk, h) = zrun zpp E 0 (392, v0 :: v1 :: .ref x :: ls, .ref x :: sk, h) := zrun_at (i := (.aload_n 2, 392, 0, [])) rfl
set_option maxRecDepth 20000 in
theorem zi0_391n {E : zE} {v0 v1 : Value} {ls sk : List Value} {h : zH} : zrun zpp E 0 (391, v0 :: v1 :: .null :: ls, sk, h) = zrun zpp E 0 (392, v0 :: v1 :: .null :: ls, .null :: sk, h) := zrun_at (i := (.aload_n 2, 392, 0, [])) rfl
set_option maxRecDepth 20000 in
theorem zi0_391f {E : zE} {v0 v1 : Value} {x : UInt32} {ls sk : List Value} {h : zH} : zrun zpp E 0 (391, v0 :: v1 :: .float x :: ls, sk, h) = zrun zpp E 0 (392, v0 :: v1 :: .float x :: ls, .float x :: sk, h) := zrun_at (i := (.aload_n 2, 392, 0, [])) rfl
set_option maxRecDepth 20000 in
theorem zi0_392 {E : zE} {x : Nat} {ls sk : List Value} {h : zH} : zrun zpp E 0 (392, ls, .ref x :: sk, h) = (zcls h x).bind (fun d => (zsel d [11, 171]).bind (fun M' => zcl1 E 0 395 M' ls sk [.ref x] h)) := zg_vir (as := []) rfl rfl
set_option maxRecDepth 20000 in
theorem zi0_395 {E : zE} {x y : Int32} {ls sk : List Value} {h : zH} : zrun zpp E 0 (395, ls, .int y :: .int x :: sk, h) = if x = y then zrun zpp E 0 (1301, ls, sk, h) else zrun zpp E 0 (398, ls, sk, h) := zrun_at (i := (.if_icmp .eq 906, 398, 0, [1301])) rfl
set_option maxRecDepth 20000 in
theorem zi0_398 {E : zE} {ls sk : List Value} {h : zH} : zrun zpp E 0 (398, ls, sk, h) = zrun zpp E 0 (399, ls, .int 0 :: sk, h) := zg_iconst rfl ci_0
set_option maxRecDepth 20000 in
theorem zi0_399 {E : zE} {x : Int32} {ls sk : List Value} {h : zH} : zrun zpp E 0 (399, ls, [.int x], h) = if x = 0 then some (some (.int 0), h) else if x = 1 then some (some (.int 1), h) else none := zrun_at (i := (.ireturn, 400, 1, [])) rfl
set_option maxRecDepth 20000 in
theorem zi0_400 {E : zE} {v0 : Value} {x : Nat} {ls sk : List Value} {h : zH} : zrun zpp E 0 (400, v0 :: .ref x :: ls, sk, h) = zrun zpp E 0 (401, v0 :: .ref x :: ls, .ref x :: sk, h) := zrun_at (i := (.aload_n 1, 401, 0, [])) rfl
set_option maxRecDepth 20000 in
theorem zi0_400n {E : zE} {v0 : Value} {ls sk : List Value} {h : zH} : zrun zpp E 0 (400, v0 :: .null :: ls, sk, h) = zrun zpp E 0 (401, v0 :: .null :: ls, .null :: sk, h) := zrun_at (i := (.aload_n 1, 401, 0, [])) rfl
set_option maxRecDepth 20000 in
theorem zi0_400f {E : zE} {v0 : Value} {x : UInt32} {ls sk : List Value} {h : zH} : zrun zpp E 0 (400, v0 :: .float x :: ls, sk, h) = zrun zpp E 0 (401, v0 :: .float x :: ls, .float x :: sk, h) := zrun_at (i := (.aload_n 1, 401, 0, [])) rfl
set_option maxRecDepth 20000 in
theorem zi0_401 {E : zE} {x : Nat} {ls sk : List Value} {h : zH} : zrun zpp E 0 (401, ls, .ref x :: sk, h) = (zcls h x).bind (fun d => (zsel d [10, 96]).bind (fun M' => zcl1 E 0 404 M' ls sk [.ref x] h)) := zg_vir (as := []) rfl rfl
set_option maxRecDepth 20000 in
theorem zi0_404 {E : zE} {v0 v1 : Value} {x : Nat} {ls sk : List Value} {h : zH} : zrun zpp E 0 (404, v0 :: v1 :: .ref x :: ls, sk, h) = zrun zpp E 0 (405, v0 :: v1 :: .ref x :: ls, .ref x :: sk, h) := zrun_at (i := (.aload_n 2, 405, 0, [])) rfl
set_option maxRecDepth 20000 in
theorem zi0_404n {E : zE} {v0 v1 : Value} {ls sk : List Value} {h : zH} : zrun zpp E 0 (404, v0 :: v1 :: .null :: ls, sk, h) = zrun zpp E 0 (405, v0 :: v1 :: .null :: ls, .null :: sk, h) := zrun_at (i := (.aload_n 2, 405, 0, [])) rfl
set_option maxRecDepth 20000 in
theorem zi0_404f {E : zE} {v0 v1 : Value} {x : UInt32} {ls sk : List Value} {h : zH} : zrun zpp E 0 (404, v0 :: v1 :: .float x :: ls, sk, h) = zrun zpp E 0 (405, v0 :: v1 :: .float x :: ls, .float x :: sk, h) := zrun_at (i := (.aload_n 2, 405, 0, [])) rfl
set_option maxRecDepth 20000 in
theorem zi0_405 {E : zE} {x : Nat} {ls sk : List Value} {h : zH} : zrun zpp E 0 (405, ls, .ref x :: sk, h) = (zcls h x).bind (fun d => (zsel d [11, 165]).bind (fun M' => zcl1 E 0 408 M' ls sk [.ref x] h)) := zg_vir (as := []) rfl rfl
set_option maxRecDepth 20000 in
theorem zi0_408 {E : zE} {x y : Int32} {ls sk : List Value} {h : zH} : zrun zpp E 0 (408, ls, .int y :: .int x :: sk, h) = if x = y then zrun zpp E 0 (1301, ls, sk, h) else zrun zpp E 0 (411, ls, sk, h) := zrun_at (i := (.if_icmp .eq 893, 411, 0, [1301])) rfl
set_option maxRecDepth 20000 in
theorem zi0_411 {E : zE} {ls sk : List Value} {h : zH} : zrun zpp E 0 (411, ls, sk, h) = zrun zpp E 0 (412, ls, .int 0 :: sk, h) := zg_iconst rfl ci_0
set_option maxRecDepth 20000 in
theorem zi0_412 {E : zE} {x : Int32} {ls sk : List Value} {h : zH} : zrun zpp E 0 (412, ls, [.int x], h) = if x = 0 then some (some (.int 0), h) else if x = 1 then some (some (.int 1), h) else none := zrun_at (i := (.ireturn, 413, 1, [])) rfl
set_option maxRecDepth 20000 in
theorem zi0_413 {E : zE} {v0 : Value} {x : Nat} {ls sk : List Value} {h : zH} : zrun zpp E 0 (413, v0 :: .ref x :: ls, sk, h) = zrun zpp E 0 (414, v0 :: .ref x :: ls, .ref x :: sk, h) := zrun_at (i := (.aload_n 1, 414, 0, [])) rfl
set_option maxRecDepth 20000 in
theorem zi0_413n {E : zE} {v0 : Value} {ls sk : List Value} {h : zH} : zrun zpp E 0 (413, v0 :: .null :: ls, sk, h) = zrun zpp E 0 (414, v0 :: .null :: ls, .null :: sk, h) := zrun_at (i := (.aload_n 1, 414, 0, [])) rfl
set_option maxRecDepth 20000 in
theorem zi0_413f {E : zE} {v0 : Value} {x : UInt32} {ls sk : List Value} {h : zH} : zrun zpp E 0 (413, v0 :: .float x :: ls, sk, h) = zrun zpp E 0 (414, v0 :: .float x :: ls, .float x :: sk, h) := zrun_at (i := (.aload_n 1, 414, 0, [])) rfl
set_option maxRecDepth 20000 in
theorem zi0_414 {E : zE} {x : Nat} {ls sk : List Value} {h : zH} : zrun zpp E 0 (414, ls, .ref x :: sk, h) = (zcls h x).bind (fun d => (zsel d [10, 97]).bind (fun M' => zcl1 E 0 417 M' ls sk [.ref x] h)) := zg_vir (as := []) rfl rfl
set_option maxRecDepth 20000 in
theorem zi0_417 {E : zE} {v0 v1 : Value} {x : Nat} {ls sk : List Value} {h : zH} : zrun zpp E 0 (417, v0 :: v1 :: .ref x :: ls, sk, h) = zrun zpp E 0 (418, v0 :: v1 :: .ref x :: ls, .ref x :: sk, h) := zrun_at (i := (.aload_n 2, 418, 0, [])) rfl
set_option maxRecDepth 20000 in
theorem zi0_417n {E : zE} {v0 v1 : Value} {ls sk : List Value} {h : zH} : zrun zpp E 0 (417, v0 :: v1 :: .null :: ls, sk, h) = zrun zpp E 0 (418, v0 :: v1 :: .null :: ls, .null :: sk, h) := zrun_at (i := (.aload_n 2, 418, 0, [])) rfl
set_option maxRecDepth 20000 in
theorem zi0_417f {E : zE} {v0 v1 : Value} {x : UInt32} {ls sk : List Value} {h : zH} : zrun zpp E 0 (417, v0 :: v1 :: .float x :: ls, sk, h) = zrun zpp E 0 (418, v0 :: v1 :: .float x :: ls, .float x :: sk, h) := zrun_at (i := (.aload_n 2, 418, 0, [])) rfl
set_option maxRecDepth 20000 in
theorem zi0_418 {E : zE} {x : Nat} {ls sk : List Value} {h : zH} : zrun zpp E 0 (418, ls, .ref x :: sk, h) = (zcls h x).bind (fun d => (zsel d [11, 194]).bind (fun M' => zcl1 E 0 421 M' ls sk [.ref x] h)) := zg_vir (as := []) rfl rfl
set_option maxRecDepth 20000 in
theorem zi0_421 {E : zE} {x y : Int32} {ls sk : List Value} {h : zH} : zrun zpp E 0 (421, ls, .int y :: .int x :: sk, h) = if x = y then zrun zpp E 0 (1301, ls, sk, h) else zrun zpp E 0 (424, ls, sk, h) := zrun_at (i := (.if_icmp .eq 880, 424, 0, [1301])) rfl
set_option maxRecDepth 20000 in
theorem zi0_424 {E : zE} {ls sk : List Value} {h : zH} : zrun zpp E 0 (424, ls, sk, h) = zrun zpp E 0 (425, ls, .int 0 :: sk, h) := zg_iconst rfl ci_0
set_option maxRecDepth 20000 in
theorem zi0_425 {E : zE} {x : Int32} {ls sk : List Value} {h : zH} : zrun zpp E 0 (425, ls, [.int x], h) = if x = 0 then some (some (.int 0), h) else if x = 1 then some (some (.int 1), h) else none := zrun_at (i := (.ireturn, 426, 1, [])) rfl
set_option maxRecDepth 20000 in
theorem zi0_426 {E : zE} {v0 : Value} {x : Nat} {ls sk : List Value} {h : zH} : zrun zpp E 0 (426, v0 :: .ref x :: ls, sk, h) = zrun zpp E 0 (427, v0 :: .ref x :: ls, .ref x :: sk, h) := zrun_at (i := (.aload_n 1, 427, 0, [])) rfl
set_option maxRecDepth 20000 in
theorem zi0_426n {E : zE} {v0 : Value} {ls sk : List Value} {h : zH} : zrun zpp E 0 (426, v0 :: .null :: ls, sk, h) = zrun zpp E 0 (427, v0 :: .null :: ls, .null :: sk, h) := zrun_at (i := (.aload_n 1, 427, 0, [])) rfl
set_option maxRecDepth 20000 in
theorem zi0_426f {E : zE} {v0 : Value} {x : UInt32} {ls sk : List Value} {h : zH} : zrun zpp E 0 (426, v0 :: .float x :: ls, sk, h) = zrun zpp E 0 (427, v0 :: .float x :: ls, .float x :: sk, h) := zrun_at (i := (.aload_n 1, 427, 0, [])) rfl
set_option maxRecDepth 20000 in
theorem zi0_427 {E : zE} {x : Nat} {ls sk : List Value} {h : zH} : zrun zpp E 0 (427, .ref x :: ls, sk, h) = zrun zpp E 0 (428, .ref x :: ls, .ref x :: sk, h) := zrun_at (i := (.aload_n 0, 428, 0, [])) rfl
set_option maxRecDepth 20000 in
theorem zi0_427n {E : zE} {ls sk : List Value} {h : zH} : zrun zpp E 0 (427, .null :: ls, sk, h) = zrun zpp E 0 (428, .null :: ls, .null :: sk, h) := zrun_at (i := (.aload_n 0, 428, 0, [])) rfl
set_option maxRecDepth 20000 in
theorem zi0_427f {E : zE} {x : UInt32} {ls sk : List Value} {h : zH} : zrun zpp E 0 (427, .float x :: ls, sk, h) = zrun zpp E 0 (428, .float x :: ls, .float x :: sk, h) := zrun_at (i := (.aload_n 0, 428, 0, [])) rfl
set_option maxRecDepth 20000 in
theorem zi0_428 {E : zE} {v0 v1 v2 : Value} {x : Int32} {ls sk : List Value} {h : zH} : zrun zpp E 0 (428, v0 :: v1 :: v2 :: .int x :: ls, sk, h) = zrun zpp E 0 (429, v0 :: v1 :: v2 :: .int x :: ls, .int x :: sk, h) := zrun_at (i := (.iload_n 3, 429, 0, [])) rfl
set_option maxRecDepth 20000 in
theorem zi0_429 {E : zE} {ls sk : List Value} {h : zH} : zrun zpp E 0 (429, ls, sk, h) = zrun zpp E 0 (430, ls, .int 1 :: sk, h) := zg_iconst rfl ci_1
set_option maxRecDepth 20000 in
theorem zi0_430 {E : zE} {x y : Int32} {ls sk : List Value} {h : zH} : zrun zpp E 0 (430, ls, .int y :: .int x :: sk, h) = zrun zpp E 0 (431, ls, .int (x + y) :: sk, h) := zrun_at (i := (.iadd, 431, 0, [])) rfl
set_option maxRecDepth 20000 in
theorem zi0_431 {E : zE} {x : UInt32} {i : Int32} {ls sk : List Value} {h : zH} : zrun zpp E 0 (431, ls, .int i :: .float x :: sk, h) = if zix i E.1 = true then zrun zpp E 0 (432, ls, .int (E.2 i.toNatClampNeg) :: sk, h) else none := zg_sald rfl
set_option maxRecDepth 20000 in
theorem zi0_432 {E : zE} {x : Nat} {ls sk : List Value} {h : zH} : zrun zpp E 0 (432, .ref x :: ls, sk, h) = zrun zpp E 0 (433, .ref x :: ls, .ref x :: sk, h) := zrun_at (i := (.aload_n 0, 433, 0, [])) rfl
set_option maxRecDepth 20000 in
theorem zi0_432n {E : zE} {ls sk : List Value} {h : zH} : zrun zpp E 0 (432, .null :: ls, sk, h) = zrun zpp E 0 (433, .null :: ls, .null :: sk, h) := zrun_at (i := (.aload_n 0, 433, 0, [])) rfl
set_option maxRecDepth 20000 in
theorem zi0_432f {E : zE} {x : UInt32} {ls sk : List Value} {h : zH} : zrun zpp E 0 (432, .float x :: ls, sk, h) = zrun zpp E 0 (433, .float x :: ls, .float x :: sk, h) := zrun_at (i := (.aload_n 0, 433, 0, [])) rfl
set_option maxRecDepth 20000 in
theorem zi0_433 {E : zE} {v0 v1 v2 : Value} {x : Int32} {ls sk : List Value} {h : zH} : zrun zpp E 0 (433, v0 :: v1 :: v2 :: .int x :: ls, sk, h) = zrun zpp E 0 (434, v0 :: v1 :: v2 :: .int x :: ls, .int x :: sk, h) := zrun_at (i := (.iload_n 3, 434, 0, [])) rfl
set_option maxRecDepth 20000 in
theorem zi0_434 {E : zE} {ls sk : List Value} {h : zH} : zrun zpp E 0 (434, ls, sk, h) = zrun zpp E 0 (435, ls, .int 2 :: sk, h) := zg_iconst rfl ci_2
set_option maxRecDepth 20000 in
theorem zi0_435 {E : zE} {x y : Int32} {ls sk : List Value} {h : zH} : zrun zpp E 0 (435, ls, .int y :: .int x :: sk, h) = zrun zpp E 0 (436, ls, .int (x + y) :: sk, h) := zrun_at (i := (.iadd, 436, 0, [])) rfl
set_option maxRecDepth 20000 in
theorem zi0_436 {E : zE} {x : UInt32} {i : Int32} {ls sk : List Value} {h : zH} : zrun zpp E 0 (436, ls, .int i :: .float x :: sk, h) = if zix i E.1 = true then zrun zpp E 0 (437, ls, .int (E.2 i.toNatClampNeg) :: sk, h) else none := zg_sald rfl
set_option maxRecDepth 20000 in
theorem zi0_437 {E : zE} {a0 a1 : Value} {x : Nat} {ls sk : List Value} {h : zH} : zrun zpp E 0 (437, ls, a1 :: a0 :: .ref x :: sk, h) = (zcls h x).bind (fun d => (zsel d [10, 98]).bind (fun M' => zcl1 E 0 440 M' ls sk [.ref x, a0, a1] h)) := zg_vir (as := [a0, a1]) rfl rfl
set_option maxRecDepth 20000 in
theorem zi0_440 {E : zE} {v0 v1 : Value} {x : Nat} {ls sk : List Value} {h : zH} : zrun zpp E 0 (440, v0 :: v1 :: .ref x :: ls, sk, h) = zrun zpp E 0 (441, v0 :: v1 :: .ref x :: ls, .ref x :: sk, h) := zrun_at (i := (.aload_n 2, 441, 0, [])) rfl
set_option maxRecDepth 20000 in
theorem zi0_440n {E : zE} {v0 v1 : Value} {ls sk : List Value} {h : zH} : zrun zpp E 0 (440, v0 :: v1 :: .null :: ls, sk, h) = zrun zpp E 0 (441, v0 :: v1 :: .null :: ls, .null :: sk, h) := zrun_at (i := (.aload_n 2, 441, 0, [])) rfl
set_option maxRecDepth 20000 in
theorem zi0_440f {E : zE} {v0 v1 : Value} {x : UInt32} {ls sk : List Value} {h : zH} : zrun zpp E 0 (440, v0 :: v1 :: .float x :: ls, sk, h) = zrun zpp E 0 (441, v0 :: v1 :: .float x :: ls, .float x :: sk, h) := zrun_at (i := (.aload_n 2, 441, 0, [])) rfl
set_option maxRecDepth 20000 in
theorem zi0_441 {E : zE} {x : Nat} {ls sk : List Value} {h : zH} : zrun zpp E 0 (441, .ref x :: ls, sk, h) = zrun zpp E 0 (442, .ref x :: ls, .ref x :: sk, h) := zrun_at (i := (.aload_n 0, 442, 0, [])) rfl
set_option maxRecDepth 20000 in
theorem zi0_441n {E : zE} {ls sk : List Value} {h : zH} : zrun zpp E 0 (441, .null :: ls, sk, h) = zrun zpp E 0 (442, .null :: ls, .null :: sk, h) := zrun_at (i := (.aload_n 0, 442, 0, [])) rfl
set_option maxRecDepth 20000 in
theorem zi0_441f {E : zE} {x : UInt32} {ls sk : List Value} {h : zH} : zrun zpp E 0 (441, .float x :: ls, sk, h) = zrun zpp E 0 (442, .float x :: ls, .float x :: sk, h) := zrun_at (i := (.aload_n 0, 442, 0, [])) rfl
set_option maxRecDepth 20000 in
theorem zi0_442 {E : zE} {v0 v1 v2 : Value} {x : Int32} {ls sk : List Value} {h : zH} : zrun zpp E 0 (442, v0 :: v1 :: v2 :: .int x :: ls, sk, h) = zrun zpp E 0 (443, v0 :: v1 :: v2 :: .int x :: ls, .int x :: sk, h) := zrun_at (i := (.iload_n 3, 443, 0, [])) rfl
set_option maxRecDepth 20000 in
theorem zi0_443 {E : zE} {ls sk : List Value} {h : zH} : zrun zpp E 0 (443, ls, sk, h) = zrun zpp E 0 (444, ls, .int 1 :: sk, h) := zg_iconst rfl ci_1
set_option maxRecDepth 20000 in
theorem zi0_444 {E : zE} {x y : Int32} {ls sk : List Value} {h : zH} : zrun zpp E 0 (444, ls, .int y :: .int x :: sk, h) = zrun zpp E 0 (445, ls, .int (x + y) :: sk, h) := zrun_at (i := (.iadd, 445, 0, [])) rfl
set_option maxRecDepth 20000 in
theorem zi0_445 {E : zE} {x : UInt32} {i : Int32} {ls sk : List Value} {h : zH} : zrun zpp E 0 (445, ls, .int i :: .float x :: sk, h) = if zix i E.1 = true then zrun zpp E 0 (446, ls, .int (E.2 i.toNatClampNeg) :: sk, h) else none := zg_sald rfl
set_option maxRecDepth 20000 in
theorem zi0_446 {E : zE} {x : Nat} {ls sk : List Value} {h : zH} : zrun zpp E 0 (446, .ref x :: ls, sk, h) = zrun zpp E 0 (447, .ref x :: ls, .ref x :: sk, h) := zrun_at (i := (.aload_n 0, 447, 0, [])) rfl
set_option maxRecDepth 20000 in
theorem zi0_446n {E : zE} {ls sk : List Value} {h : zH} : zrun zpp E 0 (446, .null :: ls, sk, h) = zrun zpp E 0 (447, .null :: ls, .null :: sk, h) := zrun_at (i := (.aload_n 0, 447, 0, [])) rfl
set_option maxRecDepth 20000 in
theorem zi0_446f {E : zE} {x : UInt32} {ls sk : List Value} {h : zH} : zrun zpp E 0 (446, .float x :: ls, sk, h) = zrun zpp E 0 (447, .float x :: ls, .float x :: sk, h) := zrun_at (i := (.aload_n 0, 447, 0, [])) rfl
set_option maxRecDepth 20000 in
theorem zi0_447 {E : zE} {v0 v1 v2 : Value} {x : Int32} {ls sk : List Value} {h : zH} : zrun zpp E 0 (447, v0 :: v1 :: v2 :: .int x :: ls, sk, h) = zrun zpp E 0 (448, v0 :: v1 :: v2 :: .int x :: ls, .int x :: sk, h) := zrun_at (i := (.iload_n 3, 448, 0, [])) rfl
set_option maxRecDepth 20000 in
theorem zi0_448 {E : zE} {ls sk : List Value} {h : zH} : zrun zpp E 0 (448, ls, sk, h) = zrun zpp E 0 (449, ls, .int 2 :: sk, h) := zg_iconst rfl ci_2
set_option maxRecDepth 20000 in
theorem zi0_449 {E : zE} {x y : Int32} {ls sk : List Value} {h : zH} : zrun zpp E 0 (449, ls, .int y :: .int x :: sk, h) = zrun zpp E 0 (450, ls, .int (x + y) :: sk, h) := zrun_at (i := (.iadd, 450, 0, [])) rfl
set_option maxRecDepth 20000 in
theorem zi0_450 {E : zE} {x : UInt32} {i : Int32} {ls sk : List Value} {h : zH} : zrun zpp E 0 (450, ls, .int i :: .float x :: sk, h) = if zix i E.1 = true then zrun zpp E 0 (451, ls, .int (E.2 i.toNatClampNeg) :: sk, h) else none := zg_sald rfl
set_option maxRecDepth 20000 in
theorem zi0_451 {E : zE} {a0 a1 : Value} {x : Nat} {ls sk : List Value} {h : zH} : zrun zpp E 0 (451, ls, a1 :: a0 :: .ref x :: sk, h) = (zcls h x).bind (fun d => (zsel d [11, 190]).bind (fun M' => zcl1 E 0 454 M' ls sk [.ref x, a0, a1] h)) := zg_vir (as := [a0, a1]) rfl rfl
set_option maxRecDepth 20000 in
theorem zi0_454 {E : zE} {x y : Int32} {ls sk : List Value} {h : zH} : zrun zpp E 0 (454, ls, .int y :: .int x :: sk, h) = if x = y then zrun zpp E 0 (1301, ls, sk, h) else zrun zpp E 0 (457, ls, sk, h) := zrun_at (i := (.if_icmp .eq 847, 457, 0, [1301])) rfl
set_option maxRecDepth 20000 in
theorem zi0_457 {E : zE} {ls sk : List Value} {h : zH} : zrun zpp E 0 (457, ls, sk, h) = zrun zpp E 0 (458, ls, .int 0 :: sk, h) := zg_iconst rfl ci_0
set_option maxRecDepth 20000 in
theorem zi0_458 {E : zE} {x : Int32} {ls sk : List Value} {h : zH} : zrun zpp E 0 (458, ls, [.int x], h) = if x = 0 then some (some (.int 0), h) else if x = 1 then some (some (.int 1), h) else none := zrun_at (i := (.ireturn, 459, 1, [])) rfl
set_option maxRecDepth 20000 in
theorem zi0_459 {E : zE} {v0 : Value} {x : Nat} {ls sk : List Value} {h : zH} : zrun zpp E 0 (459, v0 :: .ref x :: ls, sk, h) = zrun zpp E 0 (460, v0 :: .ref x :: ls, .ref x :: sk, h) := zrun_at (i := (.aload_n 1, 460, 0, [])) rfl
set_option maxRecDepth 20000 in
theorem zi0_459n {E : zE} {v0 : Value} {ls sk : List Value} {h : zH} : zrun zpp E 0 (459, v0 :: .null :: ls, sk, h) = zrun zpp E 0 (460, v0 :: .null :: ls, .null :: sk, h) := zrun_at (i := (.aload_n 1, 460, 0, [])) rfl
set_option maxRecDepth 20000 in
theorem zi0_459f {E : zE} {v0 : Value} {x : UInt32} {ls sk : List Value} {h : zH} : zrun zpp E 0 (459, v0 :: .float x :: ls, sk, h) = zrun zpp E 0 (460, v0 :: .float x :: ls, .float x :: sk, h) := zrun_at (i := (.aload_n 1, 460, 0, [])) rfl
set_option maxRecDepth 20000 in
theorem zi0_460 {E : zE} {x : Nat} {ls sk : List Value} {h : zH} : zrun zpp E 0 (460, .ref x :: ls, sk, h) = zrun zpp E 0 (461, .ref x :: ls, .ref x :: sk, h) := zrun_at (i := (.aload_n 0, 461, 0, [])) rfl
set_option maxRecDepth 20000 in
theorem zi0_460n {E : zE} {ls sk : List Value} {h : zH} : zrun zpp E 0 (460, .null :: ls, sk, h) = zrun zpp E 0 (461, .null :: ls, .null :: sk, h) := zrun_at (i := (.aload_n 0, 461, 0, [])) rfl
set_option maxRecDepth 20000 in
theorem zi0_460f {E : zE} {x : UInt32} {ls sk : List Value} {h : zH} : zrun zpp E 0 (460, .float x :: ls, sk, h) = zrun zpp E 0 (461, .float x :: ls, .float x :: sk, h) := zrun_at (i := (.aload_n 0, 461, 0, [])) rfl
set_option maxRecDepth 20000 in
theorem zi0_461 {E : zE} {v0 v1 v2 : Value} {x : Int32} {ls sk : List Value} {h : zH} : zrun zpp E 0 (461, v0 :: v1 :: v2 :: .int x :: ls, sk, h) = zrun zpp E 0 (462, v0 :: v1 :: v2 :: .int x :: ls, .int x :: sk, h) := zrun_at (i := (.iload_n 3, 462, 0, [])) rfl
set_option maxRecDepth 20000 in
theorem zi0_462 {E : zE} {ls sk : List Value} {h : zH} : zrun zpp E 0 (462, ls, sk, h) = zrun zpp E 0 (463, ls, .int 1 :: sk, h) := zg_iconst rfl ci_1
set_option maxRecDepth 20000 in
theorem zi0_463 {E : zE} {x y : Int32} {ls sk : List Value} {h : zH} : zrun zpp E 0 (463, ls, .int y :: .int x :: sk, h) = zrun zpp E 0 (464, ls, .int (x + y) :: sk, h) := zrun_at (i := (.iadd, 464, 0, [])) rfl
set_option maxRecDepth 20000 in
theorem zi0_464 {E : zE} {x : UInt32} {i : Int32} {ls sk : List Value} {h : zH} : zrun zpp E 0 (464, ls, .int i :: .float x :: sk, h) = if zix i E.1 = true then zrun zpp E 0 (465, ls, .int (E.2 i.toNatClampNeg) :: sk, h) else none := zg_sald rfl
set_option maxRecDepth 20000 in
theorem zi0_465 {E : zE} {a0 : Value} {x : Nat} {ls sk : List Value} {h : zH} : zrun zpp E 0 (465, ls, a0 :: .ref x :: sk, h) = (zcls h x).bind (fun d => (zsel d [10, 99]).bind (fun M' => zcl1 E 0 468 M' ls sk [.ref x, a0] h)) := zg_vir (as := [a0]) rfl rfl
set_option maxRecDepth 20000 in
theorem zi0_468 {E : zE} {v0 v1 : Value} {x : Nat} {ls sk : List Value} {h : zH} : zrun zpp E 0 (468, v0 :: v1 :: .ref x :: ls, sk, h) = zrun zpp E 0 (469, v0 :: v1 :: .ref x :: ls, .ref x :: sk, h) := zrun_at (i := (.aload_n 2, 469, 0, [])) rfl
set_option maxRecDepth 20000 in
theorem zi0_468n {E : zE} {v0 v1 : Value} {ls sk : List Value} {h : zH} : zrun zpp E 0 (468, v0 :: v1 :: .null :: ls, sk, h) = zrun zpp E 0 (469, v0 :: v1 :: .null :: ls, .null :: sk, h) := zrun_at (i := (.aload_n 2, 469, 0, [])) rfl
set_option maxRecDepth 20000 in
theorem zi0_468f {E : zE} {v0 v1 : Value} {x : UInt32} {ls sk : List Value} {h : zH} : zrun zpp E 0 (468, v0 :: v1 :: .float x :: ls, sk, h) = zrun zpp E 0 (469, v0 :: v1 :: .float x :: ls, .float x :: sk, h) := zrun_at (i := (.aload_n 2, 469, 0, [])) rfl
set_option maxRecDepth 20000 in
theorem zi0_469 {E : zE} {x : Nat} {ls sk : List Value} {h : zH} : zrun zpp E 0 (469, .ref x :: ls, sk, h) = zrun zpp E 0 (470, .ref x :: ls, .ref x :: sk, h) := zrun_at (i := (.aload_n 0, 470, 0, [])) rfl
set_option maxRecDepth 20000 in
theorem zi0_469n {E : zE} {ls sk : List Value} {h : zH} : zrun zpp E 0 (469, .null :: ls, sk, h) = zrun zpp E 0 (470, .null :: ls, .null :: sk, h) := zrun_at (i := (.aload_n 0, 470, 0, [])) rfl
set_option maxRecDepth 20000 in
theorem zi0_469f {E : zE} {x : UInt32} {ls sk : List Value} {h : zH} : zrun zpp E 0 (469, .float x :: ls, sk, h) = zrun zpp E 0 (470, .float x :: ls, .float x :: sk, h) := zrun_at (i := (.aload_n 0, 470, 0, [])) rfl
set_option maxRecDepth 20000 in
theorem zi0_470 {E : zE} {v0 v1 v2 : Value} {x : Int32} {ls sk : List Value} {h : zH} : zrun zpp E 0 (470, v0 :: v1 :: v2 :: .int x :: ls, sk, h) = zrun zpp E 0 (471, v0 :: v1 :: v2 :: .int x :: ls, .int x :: sk, h) := zrun_at (i := (.iload_n 3, 471, 0, [])) rfl
set_option maxRecDepth 20000 in
theorem zi0_471 {E : zE} {ls sk : List Value} {h : zH} : zrun zpp E 0 (471, ls, sk, h) = zrun zpp E 0 (472, ls, .int 1 :: sk, h) := zg_iconst rfl ci_1
set_option maxRecDepth 20000 in
theorem zi0_472 {E : zE} {x y : Int32} {ls sk : List Value} {h : zH} : zrun zpp E 0 (472, ls, .int y :: .int x :: sk, h) = zrun zpp E 0 (473, ls, .int (x + y) :: sk, h) := zrun_at (i := (.iadd, 473, 0, [])) rfl
set_option maxRecDepth 20000 in
theorem zi0_473 {E : zE} {x : UInt32} {i : Int32} {ls sk : List Value} {h : zH} : zrun zpp E 0 (473, ls, .int i :: .float x :: sk, h) = if zix i E.1 = true then zrun zpp E 0 (474, ls, .int (E.2 i.toNatClampNeg) :: sk, h) else none := zg_sald rfl
set_option maxRecDepth 20000 in
theorem zi0_474 {E : zE} {a0 : Value} {x : Nat} {ls sk : List Value} {h : zH} : zrun zpp E 0 (474, ls, a0 :: .ref x :: sk, h) = (zcls h x).bind (fun d => (zsel d [11, 191]).bind (fun M' => zcl1 E 0 477 M' ls sk [.ref x, a0] h)) := zg_vir (as := [a0]) rfl rfl
set_option maxRecDepth 20000 in
theorem zi0_477 {E : zE} {x y : Int32} {ls sk : List Value} {h : zH} : zrun zpp E 0 (477, ls, .int y :: .int x :: sk, h) = if x = y then zrun zpp E 0 (1301, ls, sk, h) else zrun zpp E 0 (480, ls, sk, h) := zrun_at (i := (.if_icmp .eq 824, 480, 0, [1301])) rfl
set_option maxRecDepth 20000 in
theorem zi0_480 {E : zE} {ls sk : List Value} {h : zH} : zrun zpp E 0 (480, ls, sk, h) = zrun zpp E 0 (481, ls, .int 0 :: sk, h) := zg_iconst rfl ci_0
set_option maxRecDepth 20000 in
theorem zi0_481 {E : zE} {x : Int32} {ls sk : List Value} {h : zH} : zrun zpp E 0 (481, ls, [.int x], h) = if x = 0 then some (some (.int 0), h) else if x = 1 then some (some (.int 1), h) else none := zrun_at (i := (.ireturn, 482, 1, [])) rfl
set_option maxRecDepth 20000 in
theorem zi0_482 {E : zE} {v0 : Value} {x : Nat} {ls sk : List Value} {h : zH} : zrun zpp E 0 (482, v0 :: .ref x :: ls, sk, h) = zrun zpp E 0 (483, v0 :: .ref x :: ls, .ref x :: sk, h) := zrun_at (i := (.aload_n 1, 483, 0, [])) rfl
set_option maxRecDepth 20000 in
theorem zi0_482n {E : zE} {v0 : Value} {ls sk : List Value} {h : zH} : zrun zpp E 0 (482, v0 :: .null :: ls, sk, h) = zrun zpp E 0 (483, v0 :: .null :: ls, .null :: sk, h) := zrun_at (i := (.aload_n 1, 483, 0, [])) rfl
set_option maxRecDepth 20000 in
theorem zi0_482f {E : zE} {v0 : Value} {x : UInt32} {ls sk : List Value} {h : zH} : zrun zpp E 0 (482, v0 :: .float x :: ls, sk, h) = zrun zpp E 0 (483, v0 :: .float x :: ls, .float x :: sk, h) := zrun_at (i := (.aload_n 1, 483, 0, [])) rfl
set_option maxRecDepth 20000 in
theorem zi0_483 {E : zE} {x : Nat} {ls sk : List Value} {h : zH} : zrun zpp E 0 (483, .ref x :: ls, sk, h) = zrun zpp E 0 (484, .ref x :: ls, .ref x :: sk, h) := zrun_at (i := (.aload_n 0, 484, 0, [])) rfl
set_option maxRecDepth 20000 in
theorem zi0_483n {E : zE} {ls sk : List Value} {h : zH} : zrun zpp E 0 (483, .null :: ls, sk, h) = zrun zpp E 0 (484, .null :: ls, .null :: sk, h) := zrun_at (i := (.aload_n 0, 484, 0, [])) rfl
set_option maxRecDepth 20000 in
theorem zi0_483f {E : zE} {x : UInt32} {ls sk : List Value} {h : zH} : zrun zpp E 0 (483, .float x :: ls, sk, h) = zrun zpp E 0 (484, .float x :: ls, .float x :: sk, h) := zrun_at (i := (.aload_n 0, 484, 0, [])) rfl
set_option maxRecDepth 20000 in
theorem zi0_484 {E : zE} {v0 v1 v2 : Value} {x : Int32} {ls sk : List Value} {h : zH} : zrun zpp E 0 (484, v0 :: v1 :: v2 :: .int x :: ls, sk, h) = zrun zpp E 0 (485, v0 :: v1 :: v2 :: .int x :: ls, .int x :: sk, h) := zrun_at (i := (.iload_n 3, 485, 0, [])) rfl
set_option maxRecDepth 20000 in
theorem zi0_485 {E : zE} {ls sk : List Value} {h : zH} : zrun zpp E 0 (485, ls, sk, h) = zrun zpp E 0 (486, ls, .int 1 :: sk, h) := zg_iconst rfl ci_1
set_option maxRecDepth 20000 in
theorem zi0_486 {E : zE} {x y : Int32} {ls sk : List Value} {h : zH} : zrun zpp E 0 (486, ls, .int y :: .int x :: sk, h) = zrun zpp E 0 (487, ls, .int (x + y) :: sk, h) := zrun_at (i := (.iadd, 487, 0, [])) rfl
set_option maxRecDepth 20000 in
theorem zi0_487 {E : zE} {x : UInt32} {i : Int32} {ls sk : List Value} {h : zH} : zrun zpp E 0 (487, ls, .int i :: .float x :: sk, h) = if zix i E.1 = true then zrun zpp E 0 (488, ls, .int (E.2 i.toNatClampNeg) :: sk, h) else none := zg_sald rfl
set_option maxRecDepth 20000 in
theorem zi0_488 {E : zE} {a0 : Value} {x : Nat} {ls sk : List Value} {h : zH} : zrun zpp E 0 (488, ls, a0 :: .ref x :: sk, h) = (zcls h x).bind (fun d => (zsel d [10, 100]).bind (fun M' => zcl1 E 0 491 M' ls sk [.ref x, a0] h)) := zg_vir (as := [a0]) rfl rfl
set_option maxRecDepth 20000 in
theorem zi0_491 {E : zE} {v0 v1 : Value} {x : Nat} {ls sk : List Value} {h : zH} : zrun zpp E 0 (491, v0 :: v1 :: .ref x :: ls, sk, h) = zrun zpp E 0 (492, v0 :: v1 :: .ref x :: ls, .ref x :: sk, h) := zrun_at (i := (.aload_n 2, 492, 0, [])) rfl
set_option maxRecDepth 20000 in
theorem zi0_491n {E : zE} {v0 v1 : Value} {ls sk : List Value} {h : zH} : zrun zpp E 0 (491, v0 :: v1 :: .null :: ls, sk, h) = zrun zpp E 0 (492, v0 :: v1 :: .null :: ls, .null :: sk, h) := zrun_at (i := (.aload_n 2, 492, 0, [])) rfl
set_option maxRecDepth 20000 in
theorem zi0_491f {E : zE} {v0 v1 : Value} {x : UInt32} {ls sk : List Value} {h : zH} : zrun zpp E 0 (491, v0 :: v1 :: .float x :: ls, sk, h) = zrun zpp E 0 (492, v0 :: v1 :: .float x :: ls, .float x :: sk, h) := zrun_at (i := (.aload_n 2, 492, 0, [])) rfl
set_option maxRecDepth 20000 in
theorem zi0_492 {E : zE} {x : Nat} {ls sk : List Value} {h : zH} : zrun zpp E 0 (492, .ref x :: ls, sk, h) = zrun zpp E 0 (493, .ref x :: ls, .ref x :: sk, h) := zrun_at (i := (.aload_n 0, 493, 0, [])) rfl
set_option maxRecDepth 20000 in
theorem zi0_492n {E : zE} {ls sk : List Value} {h : zH} : zrun zpp E 0 (492, .null :: ls, sk, h) = zrun zpp E 0 (493, .null :: ls, .null :: sk, h) := zrun_at (i := (.aload_n 0, 493, 0, [])) rfl
set_option maxRecDepth 20000 in
theorem zi0_492f {E : zE} {x : UInt32} {ls sk : List Value} {h : zH} : zrun zpp E 0 (492, .float x :: ls, sk, h) = zrun zpp E 0 (493, .float x :: ls, .float x :: sk, h) := zrun_at (i := (.aload_n 0, 493, 0, [])) rfl
set_option maxRecDepth 20000 in
theorem zi0_493 {E : zE} {v0 v1 v2 : Value} {x : Int32} {ls sk : List Value} {h : zH} : zrun zpp E 0 (493, v0 :: v1 :: v2 :: .int x :: ls, sk, h) = zrun zpp E 0 (494, v0 :: v1 :: v2 :: .int x :: ls, .int x :: sk, h) := zrun_at (i := (.iload_n 3, 494, 0, [])) rfl
set_option maxRecDepth 20000 in
theorem zi0_494 {E : zE} {ls sk : List Value} {h : zH} : zrun zpp E 0 (494, ls, sk, h) = zrun zpp E 0 (495, ls, .int 1 :: sk, h) := zg_iconst rfl ci_1
set_option maxRecDepth 20000 in
theorem zi0_495 {E : zE} {x y : Int32} {ls sk : List Value} {h : zH} : zrun zpp E 0 (495, ls, .int y :: .int x :: sk, h) = zrun zpp E 0 (496, ls, .int (x + y) :: sk, h) := zrun_at (i := (.iadd, 496, 0, [])) rfl
set_option maxRecDepth 20000 in
theorem zi0_496 {E : zE} {x : UInt32} {i : Int32} {ls sk : List Value} {h : zH} : zrun zpp E 0 (496, ls, .int i :: .float x :: sk, h) = if zix i E.1 = true then zrun zpp E 0 (497, ls, .int (E.2 i.toNatClampNeg) :: sk, h) else none := zg_sald rfl
set_option maxRecDepth 20000 in
theorem zi0_497 {E : zE} {a0 : Value} {x : Nat} {ls sk : List Value} {h : zH} : zrun zpp E 0 (497, ls, a0 :: .ref x :: sk, h) = (zcls h x).bind (fun d => (zsel d [11, 192]).bind (fun M' => zcl1 E 0 500 M' ls sk [.ref x, a0] h)) := zg_vir (as := [a0]) rfl rfl
set_option maxRecDepth 20000 in
theorem zi0_500 {E : zE} {x y : Int32} {ls sk : List Value} {h : zH} : zrun zpp E 0 (500, ls, .int y :: .int x :: sk, h) = if x = y then zrun zpp E 0 (1301, ls, sk, h) else zrun zpp E 0 (503, ls, sk, h) := zrun_at (i := (.if_icmp .eq 801, 503, 0, [1301])) rfl
set_option maxRecDepth 20000 in
theorem zi0_503 {E : zE} {ls sk : List Value} {h : zH} : zrun zpp E 0 (503, ls, sk, h) = zrun zpp E 0 (504, ls, .int 0 :: sk, h) := zg_iconst rfl ci_0
set_option maxRecDepth 20000 in
theorem zi0_504 {E : zE} {x : Int32} {ls sk : List Value} {h : zH} : zrun zpp E 0 (504, ls, [.int x], h) = if x = 0 then some (some (.int 0), h) else if x = 1 then some (some (.int 1), h) else none := zrun_at (i := (.ireturn, 505, 1, [])) rfl
set_option maxRecDepth 20000 in
theorem zi0_505 {E : zE} {v0 : Value} {x : Nat} {ls sk : List Value} {h : zH} : zrun zpp E 0 (505, v0 :: .ref x :: ls, sk, h) = zrun zpp E 0 (506, v0 :: .ref x :: ls, .ref x :: sk, h) := zrun_at (i := (.aload_n 1, 506, 0, [])) rfl
set_option maxRecDepth 20000 in
theorem zi0_505n {E : zE} {v0 : Value} {ls sk : List Value} {h : zH} : zrun zpp E 0 (505, v0 :: .null :: ls, sk, h) = zrun zpp E 0 (506, v0 :: .null :: ls, .null :: sk, h) := zrun_at (i := (.aload_n 1, 506, 0, [])) rfl
set_option maxRecDepth 20000 in
theorem zi0_505f {E : zE} {v0 : Value} {x : UInt32} {ls sk : List Value} {h : zH} : zrun zpp E 0 (505, v0 :: .float x :: ls, sk, h) = zrun zpp E 0 (506, v0 :: .float x :: ls, .float x :: sk, h) := zrun_at (i := (.aload_n 1, 506, 0, [])) rfl
set_option maxRecDepth 20000 in
theorem zi0_506 {E : zE} {x : Nat} {ls sk : List Value} {h : zH} : zrun zpp E 0 (506, .ref x :: ls, sk, h) = zrun zpp E 0 (507, .ref x :: ls, .ref x :: sk, h) := zrun_at (i := (.aload_n 0, 507, 0, [])) rfl
set_option maxRecDepth 20000 in
theorem zi0_506n {E : zE} {ls sk : List Value} {h : zH} : zrun zpp E 0 (506, .null :: ls, sk, h) = zrun zpp E 0 (507, .null :: ls, .null :: sk, h) := zrun_at (i := (.aload_n 0, 507, 0, [])) rfl
set_option maxRecDepth 20000 in
theorem zi0_506f {E : zE} {x : UInt32} {ls sk : List Value} {h : zH} : zrun zpp E 0 (506, .float x :: ls, sk, h) = zrun zpp E 0 (507, .float x :: ls, .float x :: sk, h) := zrun_at (i := (.aload_n 0, 507, 0, [])) rfl
set_option maxRecDepth 20000 in
theorem zi0_507 {E : zE} {v0 v1 v2 : Value} {x : Int32} {ls sk : List Value} {h : zH} : zrun zpp E 0 (507, v0 :: v1 :: v2 :: .int x :: ls, sk, h) = zrun zpp E 0 (508, v0 :: v1 :: v2 :: .int x :: ls, .int x :: sk, h) := zrun_at (i := (.iload_n 3, 508, 0, [])) rfl
set_option maxRecDepth 20000 in
theorem zi0_508 {E : zE} {ls sk : List Value} {h : zH} : zrun zpp E 0 (508, ls, sk, h) = zrun zpp E 0 (509, ls, .int 1 :: sk, h) := zg_iconst rfl ci_1
set_option maxRecDepth 20000 in
theorem zi0_509 {E : zE} {x y : Int32} {ls sk : List Value} {h : zH} : zrun zpp E 0 (509, ls, .int y :: .int x :: sk, h) = zrun zpp E 0 (510, ls, .int (x + y) :: sk, h) := zrun_at (i := (.iadd, 510, 0, [])) rfl
set_option maxRecDepth 20000 in
theorem zi0_510 {E : zE} {x : UInt32} {i : Int32} {ls sk : List Value} {h : zH} : zrun zpp E 0 (510, ls, .int i :: .float x :: sk, h) = if zix i E.1 = true then zrun zpp E 0 (511, ls, .int (E.2 i.toNatClampNeg) :: sk, h) else none := zg_sald rfl
set_option maxRecDepth 20000 in
theorem zi0_511 {E : zE} {x : Nat} {ls sk : List Value} {h : zH} : zrun zpp E 0 (511, .ref x :: ls, sk, h) = zrun zpp E 0 (512, .ref x :: ls, .ref x :: sk, h) := zrun_at (i := (.aload_n 0, 512, 0, [])) rfl
set_option maxRecDepth 20000 in
theorem zi0_511n {E : zE} {ls sk : List Value} {h : zH} : zrun zpp E 0 (511, .null :: ls, sk, h) = zrun zpp E 0 (512, .null :: ls, .null :: sk, h) := zrun_at (i := (.aload_n 0, 512, 0, [])) rfl
set_option maxRecDepth 20000 in
theorem zi0_511f {E : zE} {x : UInt32} {ls sk : List Value} {h : zH} : zrun zpp E 0 (511, .float x :: ls, sk, h) = zrun zpp E 0 (512, .float x :: ls, .float x :: sk, h) := zrun_at (i := (.aload_n 0, 512, 0, [])) rfl
set_option maxRecDepth 20000 in
theorem zi0_512 {E : zE} {v0 v1 v2 : Value} {x : Int32} {ls sk : List Value} {h : zH} : zrun zpp E 0 (512, v0 :: v1 :: v2 :: .int x :: ls, sk, h) = zrun zpp E 0 (513, v0 :: v1 :: v2 :: .int x :: ls, .int x :: sk, h) := zrun_at (i := (.iload_n 3, 513, 0, [])) rfl
set_option maxRecDepth 20000 in
theorem zi0_513 {E : zE} {ls sk : List Value} {h : zH} : zrun zpp E 0 (513, ls, sk, h) = zrun zpp E 0 (514, ls, .int 2 :: sk, h) := zg_iconst rfl ci_2
set_option maxRecDepth 20000 in
theorem zi0_514 {E : zE} {x y : Int32} {ls sk : List Value} {h : zH} : zrun zpp E 0 (514, ls, .int y :: .int x :: sk, h) = zrun zpp E 0 (515, ls, .int (x + y) :: sk, h) := zrun_at (i := (.iadd, 515, 0, [])) rfl
set_option maxRecDepth 20000 in
theorem zi0_515 {E : zE} {x : UInt32} {i : Int32} {ls sk : List Value} {h : zH} : zrun zpp E 0 (515, ls, .int i :: .float x :: sk, h) = if zix i E.1 = true then zrun zpp E 0 (516, ls, .int (E.2 i.toNatClampNeg) :: sk, h) else none := zg_sald rfl
set_option maxRecDepth 20000 in
theorem zi0_516 {E : zE} {a0 a1 : Value} {x : Nat} {ls sk : List Value} {h : zH} : zrun zpp E 0 (516, ls, a1 :: a0 :: .ref x :: sk, h) = (zcls h x).bind (fun d => (zsel d [10, 101]).bind (fun M' => zcl1 E 0 519 M' ls sk [.ref x, a0, a1] h)) := zg_vir (as := [a0, a1]) rfl rfl
set_option maxRecDepth 20000 in
theorem zi0_519 {E : zE} {v0 v1 : Value} {x : Nat} {ls sk : List Value} {h : zH} : zrun zpp E 0 (519, v0 :: v1 :: .ref x :: ls, sk, h) = zrun zpp E 0 (520, v0 :: v1 :: .ref x :: ls, .ref x :: sk, h) := zrun_at (i := (.aload_n 2, 520, 0, [])) rfl
set_option maxRecDepth 20000 in
theorem zi0_519n {E : zE} {v0 v1 : Value} {ls sk : List Value} {h : zH} : zrun zpp E 0 (519, v0 :: v1 :: .null :: ls, sk, h) = zrun zpp E 0 (520, v0 :: v1 :: .null :: ls, .null :: sk, h) := zrun_at (i := (.aload_n 2, 520, 0, [])) rfl
set_option maxRecDepth 20000 in
theorem zi0_519f {E : zE} {v0 v1 : Value} {x : UInt32} {ls sk : List Value} {h : zH} : zrun zpp E 0 (519, v0 :: v1 :: .float x :: ls, sk, h) = zrun zpp E 0 (520, v0 :: v1 :: .float x :: ls, .float x :: sk, h) := zrun_at (i := (.aload_n 2, 520, 0, [])) rfl
set_option maxRecDepth 20000 in
theorem zi0_520 {E : zE} {x : Nat} {ls sk : List Value} {h : zH} : zrun zpp E 0 (520, .ref x :: ls, sk, h) = zrun zpp E 0 (521, .ref x :: ls, .ref x :: sk, h) := zrun_at (i := (.aload_n 0, 521, 0, [])) rfl
set_option maxRecDepth 20000 in
theorem zi0_520n {E : zE} {ls sk : List Value} {h : zH} : zrun zpp E 0 (520, .null :: ls, sk, h) = zrun zpp E 0 (521, .null :: ls, .null :: sk, h) := zrun_at (i := (.aload_n 0, 521, 0, [])) rfl
set_option maxRecDepth 20000 in
theorem zi0_520f {E : zE} {x : UInt32} {ls sk : List Value} {h : zH} : zrun zpp E 0 (520, .float x :: ls, sk, h) = zrun zpp E 0 (521, .float x :: ls, .float x :: sk, h) := zrun_at (i := (.aload_n 0, 521, 0, [])) rfl
set_option maxRecDepth 20000 in
theorem zi0_521 {E : zE} {v0 v1 v2 : Value} {x : Int32} {ls sk : List Value} {h : zH} : zrun zpp E 0 (521, v0 :: v1 :: v2 :: .int x :: ls, sk, h) = zrun zpp E 0 (522, v0 :: v1 :: v2 :: .int x :: ls, .int x :: sk, h) := zrun_at (i := (.iload_n 3, 522, 0, [])) rfl
set_option maxRecDepth 20000 in
theorem zi0_522 {E : zE} {ls sk : List Value} {h : zH} : zrun zpp E 0 (522, ls, sk, h) = zrun zpp E 0 (523, ls, .int 1 :: sk, h) := zg_iconst rfl ci_1
set_option maxRecDepth 20000 in
theorem zi0_523 {E : zE} {x y : Int32} {ls sk : List Value} {h : zH} : zrun zpp E 0 (523, ls, .int y :: .int x :: sk, h) = zrun zpp E 0 (524, ls, .int (x + y) :: sk, h) := zrun_at (i := (.iadd, 524, 0, [])) rfl
set_option maxRecDepth 20000 in
theorem zi0_524 {E : zE} {x : UInt32} {i : Int32} {ls sk : List Value} {h : zH} : zrun zpp E 0 (524, ls, .int i :: .float x :: sk, h) = if zix i E.1 = true then zrun zpp E 0 (525, ls, .int (E.2 i.toNatClampNeg) :: sk, h) else none := zg_sald rfl
set_option maxRecDepth 20000 in
theorem zi0_525 {E : zE} {x : Nat} {ls sk : List Value} {h : zH} : zrun zpp E 0 (525, .ref x :: ls, sk, h) = zrun zpp E 0 (526, .ref x :: ls, .ref x :: sk, h) := zrun_at (i := (.aload_n 0, 526, 0, [])) rfl
set_option maxRecDepth 20000 in
theorem zi0_525n {E : zE} {ls sk : List Value} {h : zH} : zrun zpp E 0 (525, .null :: ls, sk, h) = zrun zpp E 0 (526, .null :: ls, .null :: sk, h) := zrun_at (i := (.aload_n 0, 526, 0, [])) rfl
set_option maxRecDepth 20000 in
theorem zi0_525f {E : zE} {x : UInt32} {ls sk : List Value} {h : zH} : zrun zpp E 0 (525, .float x :: ls, sk, h) = zrun zpp E 0 (526, .float x :: ls, .float x :: sk, h) := zrun_at (i := (.aload_n 0, 526, 0, [])) rfl
set_option maxRecDepth 20000 in
theorem zi0_526 {E : zE} {v0 v1 v2 : Value} {x : Int32} {ls sk : List Value} {h : zH} : zrun zpp E 0 (526, v0 :: v1 :: v2 :: .int x :: ls, sk, h) = zrun zpp E 0 (527, v0 :: v1 :: v2 :: .int x :: ls, .int x :: sk, h) := zrun_at (i := (.iload_n 3, 527, 0, [])) rfl
set_option maxRecDepth 20000 in
theorem zi0_527 {E : zE} {ls sk : List Value} {h : zH} : zrun zpp E 0 (527, ls, sk, h) = zrun zpp E 0 (528, ls, .int 2 :: sk, h) := zg_iconst rfl ci_2
set_option maxRecDepth 20000 in
theorem zi0_528 {E : zE} {x y : Int32} {ls sk : List Value} {h : zH} : zrun zpp E 0 (528, ls, .int y :: .int x :: sk, h) = zrun zpp E 0 (529, ls, .int (x + y) :: sk, h) := zrun_at (i := (.iadd, 529, 0, [])) rfl
set_option maxRecDepth 20000 in
theorem zi0_529 {E : zE} {x : UInt32} {i : Int32} {ls sk : List Value} {h : zH} : zrun zpp E 0 (529, ls, .int i :: .float x :: sk, h) = if zix i E.1 = true then zrun zpp E 0 (530, ls, .int (E.2 i.toNatClampNeg) :: sk, h) else none := zg_sald rfl
set_option maxRecDepth 20000 in
theorem zi0_530 {E : zE} {a0 a1 : Value} {x : Nat} {ls sk : List Value} {h : zH} : zrun zpp E 0 (530, ls, a1 :: a0 :: .ref x :: sk, h) = (zcls h x).bind (fun d => (zsel d [11, 193]).bind (fun M' => zcl1 E 0 533 M' ls sk [.ref x, a0, a1] h)) := zg_vir (as := [a0, a1]) rfl rfl
set_option maxRecDepth 20000 in
theorem zi0_533 {E : zE} {x y : Int32} {ls sk : List Value} {h : zH} : zrun zpp E 0 (533, ls, .int y :: .int x :: sk, h) = if x = y then zrun zpp E 0 (1301, ls, sk, h) else zrun zpp E 0 (536, ls, sk, h) := zrun_at (i := (.if_icmp .eq 768, 536, 0, [1301])) rfl
set_option maxRecDepth 20000 in
theorem zi0_536 {E : zE} {ls sk : List Value} {h : zH} : zrun zpp E 0 (536, ls, sk, h) = zrun zpp E 0 (537, ls, .int 0 :: sk, h) := zg_iconst rfl ci_0
set_option maxRecDepth 20000 in
theorem zi0_537 {E : zE} {x : Int32} {ls sk : List Value} {h : zH} : zrun zpp E 0 (537, ls, [.int x], h) = if x = 0 then some (some (.int 0), h) else if x = 1 then some (some (.int 1), h) else none := zrun_at (i := (.ireturn, 538, 1, [])) rfl
set_option maxRecDepth 20000 in
theorem zi0_538 {E : zE} {v0 : Value} {x : Nat} {ls sk : List Value} {h : zH} : zrun zpp E 0 (538, v0 :: .ref x :: ls, sk, h) = zrun zpp E 0 (539, v0 :: .ref x :: ls, .ref x :: sk, h) := zrun_at (i := (.aload_n 1, 539, 0, [])) rfl
set_option maxRecDepth 20000 in
theorem zi0_538n {E : zE} {v0 : Value} {ls sk : List Value} {h : zH} : zrun zpp E 0 (538, v0 :: .null :: ls, sk, h) = zrun zpp E 0 (539, v0 :: .null :: ls, .null :: sk, h) := zrun_at (i := (.aload_n 1, 539, 0, [])) rfl
set_option maxRecDepth 20000 in
theorem zi0_538f {E : zE} {v0 : Value} {x : UInt32} {ls sk : List Value} {h : zH} : zrun zpp E 0 (538, v0 :: .float x :: ls, sk, h) = zrun zpp E 0 (539, v0 :: .float x :: ls, .float x :: sk, h) := zrun_at (i := (.aload_n 1, 539, 0, [])) rfl
set_option maxRecDepth 20000 in
theorem zi0_539 {E : zE} {x : Nat} {ls sk : List Value} {h : zH} : zrun zpp E 0 (539, .ref x :: ls, sk, h) = zrun zpp E 0 (540, .ref x :: ls, .ref x :: sk, h) := zrun_at (i := (.aload_n 0, 540, 0, [])) rfl
set_option maxRecDepth 20000 in
theorem zi0_539n {E : zE} {ls sk : List Value} {h : zH} : zrun zpp E 0 (539, .null :: ls, sk, h) = zrun zpp E 0 (540, .null :: ls, .null :: sk, h) := zrun_at (i := (.aload_n 0, 540, 0, [])) rfl
set_option maxRecDepth 20000 in
theorem zi0_539f {E : zE} {x : UInt32} {ls sk : List Value} {h : zH} : zrun zpp E 0 (539, .float x :: ls, sk, h) = zrun zpp E 0 (540, .float x :: ls, .float x :: sk, h) := zrun_at (i := (.aload_n 0, 540, 0, [])) rfl
set_option maxRecDepth 20000 in
theorem zi0_540 {E : zE} {v0 v1 v2 : Value} {x : Int32} {ls sk : List Value} {h : zH} : zrun zpp E 0 (540, v0 :: v1 :: v2 :: .int x :: ls, sk, h) = zrun zpp E 0 (541, v0 :: v1 :: v2 :: .int x :: ls, .int x :: sk, h) := zrun_at (i := (.iload_n 3, 541, 0, [])) rfl
set_option maxRecDepth 20000 in
theorem zi0_541 {E : zE} {ls sk : List Value} {h : zH} : zrun zpp E 0 (541, ls, sk, h) = zrun zpp E 0 (542, ls, .int 1 :: sk, h) := zg_iconst rfl ci_1
set_option maxRecDepth 20000 in
theorem zi0_542 {E : zE} {x y : Int32} {ls sk : List Value} {h : zH} : zrun zpp E 0 (542, ls, .int y :: .int x :: sk, h) = zrun zpp E 0 (543, ls, .int (x + y) :: sk, h) := zrun_at (i := (.iadd, 543, 0, [])) rfl
set_option maxRecDepth 20000 in
theorem zi0_543 {E : zE} {x : UInt32} {i : Int32} {ls sk : List Value} {h : zH} : zrun zpp E 0 (543, ls, .int i :: .float x :: sk, h) = if zix i E.1 = true then zrun zpp E 0 (544, ls, .int (E.2 i.toNatClampNeg) :: sk, h) else none := zg_sald rfl
set_option maxRecDepth 20000 in
theorem zi0_544 {E : zE} {x : Nat} {ls sk : List Value} {h : zH} : zrun zpp E 0 (544, .ref x :: ls, sk, h) = zrun zpp E 0 (545, .ref x :: ls, .ref x :: sk, h) := zrun_at (i := (.aload_n 0, 545, 0, [])) rfl
set_option maxRecDepth 20000 in
theorem zi0_544n {E : zE} {ls sk : List Value} {h : zH} : zrun zpp E 0 (544, .null :: ls, sk, h) = zrun zpp E 0 (545, .null :: ls, .null :: sk, h) := zrun_at (i := (.aload_n 0, 545, 0, [])) rfl
set_option maxRecDepth 20000 in
theorem zi0_544f {E : zE} {x : UInt32} {ls sk : List Value} {h : zH} : zrun zpp E 0 (544, .float x :: ls, sk, h) = zrun zpp E 0 (545, .float x :: ls, .float x :: sk, h) := zrun_at (i := (.aload_n 0, 545, 0, [])) rfl
set_option maxRecDepth 20000 in
theorem zi0_545 {E : zE} {v0 v1 v2 : Value} {x : Int32} {ls sk : List Value} {h : zH} : zrun zpp E 0 (545, v0 :: v1 :: v2 :: .int x :: ls, sk, h) = zrun zpp E 0 (546, v0 :: v1 :: v2 :: .int x :: ls, .int x :: sk, h) := zrun_at (i := (.iload_n 3, 546, 0, [])) rfl
set_option maxRecDepth 20000 in
theorem zi0_546 {E : zE} {ls sk : List Value} {h : zH} : zrun zpp E 0 (546, ls, sk, h) = zrun zpp E 0 (547, ls, .int 2 :: sk, h) := zg_iconst rfl ci_2
set_option maxRecDepth 20000 in
theorem zi0_547 {E : zE} {x y : Int32} {ls sk : List Value} {h : zH} : zrun zpp E 0 (547, ls, .int y :: .int x :: sk, h) = zrun zpp E 0 (548, ls, .int (x + y) :: sk, h) := zrun_at (i := (.iadd, 548, 0, [])) rfl
set_option maxRecDepth 20000 in
theorem zi0_548 {E : zE} {x : UInt32} {i : Int32} {ls sk : List Value} {h : zH} : zrun zpp E 0 (548, ls, .int i :: .float x :: sk, h) = if zix i E.1 = true then zrun zpp E 0 (549, ls, .int (E.2 i.toNatClampNeg) :: sk, h) else none := zg_sald rfl
set_option maxRecDepth 20000 in
theorem zi0_549 {E : zE} {a0 a1 : Value} {x : Nat} {ls sk : List Value} {h : zH} : zrun zpp E 0 (549, ls, a1 :: a0 :: .ref x :: sk, h) = (zcls h x).bind (fun d => (zsel d [10, 102]).bind (fun M' => zcl1 E 0 552 M' ls sk [.ref x, a0, a1] h)) := zg_vir (as := [a0, a1]) rfl rfl
set_option maxRecDepth 20000 in
theorem zi0_552 {E : zE} {v0 v1 : Value} {x : Nat} {ls sk : List Value} {h : zH} : zrun zpp E 0 (552, v0 :: v1 :: .ref x :: ls, sk, h) = zrun zpp E 0 (553, v0 :: v1 :: .ref x :: ls, .ref x :: sk, h) := zrun_at (i := (.aload_n 2, 553, 0, [])) rfl
set_option maxRecDepth 20000 in
theorem zi0_552n {E : zE} {v0 v1 : Value} {ls sk : List Value} {h : zH} : zrun zpp E 0 (552, v0 :: v1 :: .null :: ls, sk, h) = zrun zpp E 0 (553, v0 :: v1 :: .null :: ls, .null :: sk, h) := zrun_at (i := (.aload_n 2, 553, 0, [])) rfl
set_option maxRecDepth 20000 in
theorem zi0_552f {E : zE} {v0 v1 : Value} {x : UInt32} {ls sk : List Value} {h : zH} : zrun zpp E 0 (552, v0 :: v1 :: .float x :: ls, sk, h) = zrun zpp E 0 (553, v0 :: v1 :: .float x :: ls, .float x :: sk, h) := zrun_at (i := (.aload_n 2, 553, 0, [])) rfl
set_option maxRecDepth 20000 in
theorem zi0_553 {E : zE} {x : Nat} {ls sk : List Value} {h : zH} : zrun zpp E 0 (553, .ref x :: ls, sk, h) = zrun zpp E 0 (554, .ref x :: ls, .ref x :: sk, h) := zrun_at (i := (.aload_n 0, 554, 0, [])) rfl
set_option maxRecDepth 20000 in
theorem zi0_553n {E : zE} {ls sk : List Value} {h : zH} : zrun zpp E 0 (553, .null :: ls, sk, h) = zrun zpp E 0 (554, .null :: ls, .null :: sk, h) := zrun_at (i := (.aload_n 0, 554, 0, [])) rfl
set_option maxRecDepth 20000 in
theorem zi0_553f {E : zE} {x : UInt32} {ls sk : List Value} {h : zH} : zrun zpp E 0 (553, .float x :: ls, sk, h) = zrun zpp E 0 (554, .float x :: ls, .float x :: sk, h) := zrun_at (i := (.aload_n 0, 554, 0, [])) rfl
set_option maxRecDepth 20000 in
theorem zi0_554 {E : zE} {v0 v1 v2 : Value} {x : Int32} {ls sk : List Value} {h : zH} : zrun zpp E 0 (554, v0 :: v1 :: v2 :: .int x :: ls, sk, h) = zrun zpp E 0 (555, v0 :: v1 :: v2 :: .int x :: ls, .int x :: sk, h) := zrun_at (i := (.iload_n 3, 555, 0, [])) rfl
set_option maxRecDepth 20000 in
theorem zi0_555 {E : zE} {ls sk : List Value} {h : zH} : zrun zpp E 0 (555, ls, sk, h) = zrun zpp E 0 (556, ls, .int 1 :: sk, h) := zg_iconst rfl ci_1
set_option maxRecDepth 20000 in
theorem zi0_556 {E : zE} {x y : Int32} {ls sk : List Value} {h : zH} : zrun zpp E 0 (556, ls, .int y :: .int x :: sk, h) = zrun zpp E 0 (557, ls, .int (x + y) :: sk, h) := zrun_at (i := (.iadd, 557, 0, [])) rfl
set_option maxRecDepth 20000 in
theorem zi0_557 {E : zE} {x : UInt32} {i : Int32} {ls sk : List Value} {h : zH} : zrun zpp E 0 (557, ls, .int i :: .float x :: sk, h) = if zix i E.1 = true then zrun zpp E 0 (558, ls, .int (E.2 i.toNatClampNeg) :: sk, h) else none := zg_sald rfl
set_option maxRecDepth 20000 in
theorem zi0_558 {E : zE} {x : Nat} {ls sk : List Value} {h : zH} : zrun zpp E 0 (558, .ref x :: ls, sk, h) = zrun zpp E 0 (559, .ref x :: ls, .ref x :: sk, h) := zrun_at (i := (.aload_n 0, 559, 0, [])) rfl
set_option maxRecDepth 20000 in
theorem zi0_558n {E : zE} {ls sk : List Value} {h : zH} : zrun zpp E 0 (558, .null :: ls, sk, h) = zrun zpp E 0 (559, .null :: ls, .null :: sk, h) := zrun_at (i := (.aload_n 0, 559, 0, [])) rfl
set_option maxRecDepth 20000 in
theorem zi0_558f {E : zE} {x : UInt32} {ls sk : List Value} {h : zH} : zrun zpp E 0 (558, .float x :: ls, sk, h) = zrun zpp E 0 (559, .float x :: ls, .float x :: sk, h) := zrun_at (i := (.aload_n 0, 559, 0, [])) rfl
set_option maxRecDepth 20000 in
theorem zi0_559 {E : zE} {v0 v1 v2 : Value} {x : Int32} {ls sk : List Value} {h : zH} : zrun zpp E 0 (559, v0 :: v1 :: v2 :: .int x :: ls, sk, h) = zrun zpp E 0 (560, v0 :: v1 :: v2 :: .int x :: ls, .int x :: sk, h) := zrun_at (i := (.iload_n 3, 560, 0, [])) rfl
set_option maxRecDepth 20000 in
theorem zi0_560 {E : zE} {ls sk : List Value} {h : zH} : zrun zpp E 0 (560, ls, sk, h) = zrun zpp E 0 (561, ls, .int 2 :: sk, h) := zg_iconst rfl ci_2
set_option maxRecDepth 20000 in
theorem zi0_561 {E : zE} {x y : Int32} {ls sk : List Value} {h : zH} : zrun zpp E 0 (561, ls, .int y :: .int x :: sk, h) = zrun zpp E 0 (562, ls, .int (x + y) :: sk, h) := zrun_at (i := (.iadd, 562, 0, [])) rfl
set_option maxRecDepth 20000 in
theorem zi0_562 {E : zE} {x : UInt32} {i : Int32} {ls sk : List Value} {h : zH} : zrun zpp E 0 (562, ls, .int i :: .float x :: sk, h) = if zix i E.1 = true then zrun zpp E 0 (563, ls, .int (E.2 i.toNatClampNeg) :: sk, h) else none := zg_sald rfl
set_option maxRecDepth 20000 in
theorem zi0_563 {E : zE} {a0 a1 : Value} {x : Nat} {ls sk : List Value} {h : zH} : zrun zpp E 0 (563, ls, a1 :: a0 :: .ref x :: sk, h) = (zcls h x).bind (fun d => (zsel d [11, 195]).bind (fun M' => zcl1 E 0 566 M' ls sk [.ref x, a0, a1] h)) := zg_vir (as := [a0, a1]) rfl rfl
set_option maxRecDepth 20000 in
theorem zi0_566 {E : zE} {x y : Int32} {ls sk : List Value} {h : zH} : zrun zpp E 0 (566, ls, .int y :: .int x :: sk, h) = if x = y then zrun zpp E 0 (1301, ls, sk, h) else zrun zpp E 0 (569, ls, sk, h) := zrun_at (i := (.if_icmp .eq 735, 569, 0, [1301])) rfl
set_option maxRecDepth 20000 in
theorem zi0_569 {E : zE} {ls sk : List Value} {h : zH} : zrun zpp E 0 (569, ls, sk, h) = zrun zpp E 0 (570, ls, .int 0 :: sk, h) := zg_iconst rfl ci_0
set_option maxRecDepth 20000 in
theorem zi0_570 {E : zE} {x : Int32} {ls sk : List Value} {h : zH} : zrun zpp E 0 (570, ls, [.int x], h) = if x = 0 then some (some (.int 0), h) else if x = 1 then some (some (.int 1), h) else none := zrun_at (i := (.ireturn, 571, 1, [])) rfl
set_option maxRecDepth 20000 in
theorem zi0_571 {E : zE} {v0 : Value} {x : Nat} {ls sk : List Value} {h : zH} : zrun zpp E 0 (571, v0 :: .ref x :: ls, sk, h) = zrun zpp E 0 (572, v0 :: .ref x :: ls, .ref x :: sk, h) := zrun_at (i := (.aload_n 1, 572, 0, [])) rfl
set_option maxRecDepth 20000 in
theorem zi0_571n {E : zE} {v0 : Value} {ls sk : List Value} {h : zH} : zrun zpp E 0 (571, v0 :: .null :: ls, sk, h) = zrun zpp E 0 (572, v0 :: .null :: ls, .null :: sk, h) := zrun_at (i := (.aload_n 1, 572, 0, [])) rfl
set_option maxRecDepth 20000 in
theorem zi0_571f {E : zE} {v0 : Value} {x : UInt32} {ls sk : List Value} {h : zH} : zrun zpp E 0 (571, v0 :: .float x :: ls, sk, h) = zrun zpp E 0 (572, v0 :: .float x :: ls, .float x :: sk, h) := zrun_at (i := (.aload_n 1, 572, 0, [])) rfl
set_option maxRecDepth 20000 in
theorem zi0_572 {E : zE} {x : Nat} {ls sk : List Value} {h : zH} : zrun zpp E 0 (572, .ref x :: ls, sk, h) = zrun zpp E 0 (573, .ref x :: ls, .ref x :: sk, h) := zrun_at (i := (.aload_n 0, 573, 0, [])) rfl
set_option maxRecDepth 20000 in
theorem zi0_572n {E : zE} {ls sk : List Value} {h : zH} : zrun zpp E 0 (572, .null :: ls, sk, h) = zrun zpp E 0 (573, .null :: ls, .null :: sk, h) := zrun_at (i := (.aload_n 0, 573, 0, [])) rfl
set_option maxRecDepth 20000 in
theorem zi0_572f {E : zE} {x : UInt32} {ls sk : List Value} {h : zH} : zrun zpp E 0 (572, .float x :: ls, sk, h) = zrun zpp E 0 (573, .float x :: ls, .float x :: sk, h) := zrun_at (i := (.aload_n 0, 573, 0, [])) rfl
set_option maxRecDepth 20000 in
theorem zi0_573 {E : zE} {v0 v1 v2 : Value} {x : Int32} {ls sk : List Value} {h : zH} : zrun zpp E 0 (573, v0 :: v1 :: v2 :: .int x :: ls, sk, h) = zrun zpp E 0 (574, v0 :: v1 :: v2 :: .int x :: ls, .int x :: sk, h) := zrun_at (i := (.iload_n 3, 574, 0, [])) rfl
set_option maxRecDepth 20000 in
theorem zi0_574 {E : zE} {ls sk : List Value} {h : zH} : zrun zpp E 0 (574, ls, sk, h) = zrun zpp E 0 (575, ls, .int 1 :: sk, h) := zg_iconst rfl ci_1
set_option maxRecDepth 20000 in
theorem zi0_575 {E : zE} {x y : Int32} {ls sk : List Value} {h : zH} : zrun zpp E 0 (575, ls, .int y :: .int x :: sk, h) = zrun zpp E 0 (576, ls, .int (x + y) :: sk, h) := zrun_at (i := (.iadd, 576, 0, [])) rfl
set_option maxRecDepth 20000 in
theorem zi0_576 {E : zE} {x : UInt32} {i : Int32} {ls sk : List Value} {h : zH} : zrun zpp E 0 (576, ls, .int i :: .float x :: sk, h) = if zix i E.1 = true then zrun zpp E 0 (577, ls, .int (E.2 i.toNatClampNeg) :: sk, h) else none := zg_sald rfl
set_option maxRecDepth 20000 in
theorem zi0_577 {E : zE} {x : Nat} {ls sk : List Value} {h : zH} : zrun zpp E 0 (577, .ref x :: ls, sk, h) = zrun zpp E 0 (578, .ref x :: ls, .ref x :: sk, h) := zrun_at (i := (.aload_n 0, 578, 0, [])) rfl
set_option maxRecDepth 20000 in
theorem zi0_577n {E : zE} {ls sk : List Value} {h : zH} : zrun zpp E 0 (577, .null :: ls, sk, h) = zrun zpp E 0 (578, .null :: ls, .null :: sk, h) := zrun_at (i := (.aload_n 0, 578, 0, [])) rfl
set_option maxRecDepth 20000 in
theorem zi0_577f {E : zE} {x : UInt32} {ls sk : List Value} {h : zH} : zrun zpp E 0 (577, .float x :: ls, sk, h) = zrun zpp E 0 (578, .float x :: ls, .float x :: sk, h) := zrun_at (i := (.aload_n 0, 578, 0, [])) rfl
set_option maxRecDepth 20000 in
theorem zi0_578 {E : zE} {v0 v1 v2 : Value} {x : Int32} {ls sk : List Value} {h : zH} : zrun zpp E 0 (578, v0 :: v1 :: v2 :: .int x :: ls, sk, h) = zrun zpp E 0 (579, v0 :: v1 :: v2 :: .int x :: ls, .int x :: sk, h) := zrun_at (i := (.iload_n 3, 579, 0, [])) rfl
set_option maxRecDepth 20000 in
theorem zi0_579 {E : zE} {ls sk : List Value} {h : zH} : zrun zpp E 0 (579, ls, sk, h) = zrun zpp E 0 (580, ls, .int 2 :: sk, h) := zg_iconst rfl ci_2
set_option maxRecDepth 20000 in
theorem zi0_580 {E : zE} {x y : Int32} {ls sk : List Value} {h : zH} : zrun zpp E 0 (580, ls, .int y :: .int x :: sk, h) = zrun zpp E 0 (581, ls, .int (x + y) :: sk, h) := zrun_at (i := (.iadd, 581, 0, [])) rfl
set_option maxRecDepth 20000 in
theorem zi0_581 {E : zE} {x : UInt32} {i : Int32} {ls sk : List Value} {h : zH} : zrun zpp E 0 (581, ls, .int i :: .float x :: sk, h) = if zix i E.1 = true then zrun zpp E 0 (582, ls, .int (E.2 i.toNatClampNeg) :: sk, h) else none := zg_sald rfl
set_option maxRecDepth 20000 in
theorem zi0_582 {E : zE} {a0 a1 : Value} {x : Nat} {ls sk : List Value} {h : zH} : zrun zpp E 0 (582, ls, a1 :: a0 :: .ref x :: sk, h) = (zcls h x).bind (fun d => (zsel d [10, 103]).bind (fun M' => zcl1 E 0 585 M' ls sk [.ref x, a0, a1] h)) := zg_vir (as := [a0, a1]) rfl rfl
set_option maxRecDepth 20000 in
theorem zi0_585 {E : zE} {v0 v1 : Value} {x : Nat} {ls sk : List Value} {h : zH} : zrun zpp E 0 (585, v0 :: v1 :: .ref x :: ls, sk, h) = zrun zpp E 0 (586, v0 :: v1 :: .ref x :: ls, .ref x :: sk, h) := zrun_at (i := (.aload_n 2, 586, 0, [])) rfl
set_option maxRecDepth 20000 in
theorem zi0_585n {E : zE} {v0 v1 : Value} {ls sk : List Value} {h : zH} : zrun zpp E 0 (585, v0 :: v1 :: .null :: ls, sk, h) = zrun zpp E 0 (586, v0 :: v1 :: .null :: ls, .null :: sk, h) := zrun_at (i := (.aload_n 2, 586, 0, [])) rfl
set_option maxRecDepth 20000 in
theorem zi0_585f {E : zE} {v0 v1 : Value} {x : UInt32} {ls sk : List Value} {h : zH} : zrun zpp E 0 (585, v0 :: v1 :: .float x :: ls, sk, h) = zrun zpp E 0 (586, v0 :: v1 :: .float x :: ls, .float x :: sk, h) := zrun_at (i := (.aload_n 2, 586, 0, [])) rfl
set_option maxRecDepth 20000 in
theorem zi0_586 {E : zE} {x : Nat} {ls sk : List Value} {h : zH} : zrun zpp E 0 (586, .ref x :: ls, sk, h) = zrun zpp E 0 (587, .ref x :: ls, .ref x :: sk, h) := zrun_at (i := (.aload_n 0, 587, 0, [])) rfl
set_option maxRecDepth 20000 in
theorem zi0_586n {E : zE} {ls sk : List Value} {h : zH} : zrun zpp E 0 (586, .null :: ls, sk, h) = zrun zpp E 0 (587, .null :: ls, .null :: sk, h) := zrun_at (i := (.aload_n 0, 587, 0, [])) rfl
set_option maxRecDepth 20000 in
theorem zi0_586f {E : zE} {x : UInt32} {ls sk : List Value} {h : zH} : zrun zpp E 0 (586, .float x :: ls, sk, h) = zrun zpp E 0 (587, .float x :: ls, .float x :: sk, h) := zrun_at (i := (.aload_n 0, 587, 0, [])) rfl
set_option maxRecDepth 20000 in
theorem zi0_587 {E : zE} {v0 v1 v2 : Value} {x : Int32} {ls sk : List Value} {h : zH} : zrun zpp E 0 (587, v0 :: v1 :: v2 :: .int x :: ls, sk, h) = zrun zpp E 0 (588, v0 :: v1 :: v2 :: .int x :: ls, .int x :: sk, h) := zrun_at (i := (.iload_n 3, 588, 0, [])) rfl
set_option maxRecDepth 20000 in
theorem zi0_588 {E : zE} {ls sk : List Value} {h : zH} : zrun zpp E 0 (588, ls, sk, h) = zrun zpp E 0 (589, ls, .int 1 :: sk, h) := zg_iconst rfl ci_1
set_option maxRecDepth 20000 in
theorem zi0_589 {E : zE} {x y : Int32} {ls sk : List Value} {h : zH} : zrun zpp E 0 (589, ls, .int y :: .int x :: sk, h) = zrun zpp E 0 (590, ls, .int (x + y) :: sk, h) := zrun_at (i := (.iadd, 590, 0, [])) rfl
set_option maxRecDepth 20000 in
theorem zi0_590 {E : zE} {x : UInt32} {i : Int32} {ls sk : List Value} {h : zH} : zrun zpp E 0 (590, ls, .int i :: .float x :: sk, h) = if zix i E.1 = true then zrun zpp E 0 (591, ls, .int (E.2 i.toNatClampNeg) :: sk, h) else none := zg_sald rfl
set_option maxRecDepth 20000 in
theorem zi0_591 {E : zE} {x : Nat} {ls sk : List Value} {h : zH} : zrun zpp E 0 (591, .ref x :: ls, sk, h) = zrun zpp E 0 (592, .ref x :: ls, .ref x :: sk, h) := zrun_at (i := (.aload_n 0, 592, 0, [])) rfl
set_option maxRecDepth 20000 in
theorem zi0_591n {E : zE} {ls sk : List Value} {h : zH} : zrun zpp E 0 (591, .null :: ls, sk, h) = zrun zpp E 0 (592, .null :: ls, .null :: sk, h) := zrun_at (i := (.aload_n 0, 592, 0, [])) rfl
set_option maxRecDepth 20000 in
theorem zi0_591f {E : zE} {x : UInt32} {ls sk : List Value} {h : zH} : zrun zpp E 0 (591, .float x :: ls, sk, h) = zrun zpp E 0 (592, .float x :: ls, .float x :: sk, h) := zrun_at (i := (.aload_n 0, 592, 0, [])) rfl
set_option maxRecDepth 20000 in
theorem zi0_592 {E : zE} {v0 v1 v2 : Value} {x : Int32} {ls sk : List Value} {h : zH} : zrun zpp E 0 (592, v0 :: v1 :: v2 :: .int x :: ls, sk, h) = zrun zpp E 0 (593, v0 :: v1 :: v2 :: .int x :: ls, .int x :: sk, h) := zrun_at (i := (.iload_n 3, 593, 0, [])) rfl
set_option maxRecDepth 20000 in
theorem zi0_593 {E : zE} {ls sk : List Value} {h : zH} : zrun zpp E 0 (593, ls, sk, h) = zrun zpp E 0 (594, ls, .int 2 :: sk, h) := zg_iconst rfl ci_2
set_option maxRecDepth 20000 in
theorem zi0_594 {E : zE} {x y : Int32} {ls sk : List Value} {h : zH} : zrun zpp E 0 (594, ls, .int y :: .int x :: sk, h) = zrun zpp E 0 (595, ls, .int (x + y) :: sk, h) := zrun_at (i := (.iadd, 595, 0, [])) rfl
set_option maxRecDepth 20000 in
theorem zi0_595 {E : zE} {x : UInt32} {i : Int32} {ls sk : List Value} {h : zH} : zrun zpp E 0 (595, ls, .int i :: .float x :: sk, h) = if zix i E.1 = true then zrun zpp E 0 (596, ls, .int (E.2 i.toNatClampNeg) :: sk, h) else none := zg_sald rfl
set_option maxRecDepth 20000 in
theorem zi0_596 {E : zE} {a0 a1 : Value} {x : Nat} {ls sk : List Value} {h : zH} : zrun zpp E 0 (596, ls, a1 :: a0 :: .ref x :: sk, h) = (zcls h x).bind (fun d => (zsel d [11, 196]).bind (fun M' => zcl1 E 0 599 M' ls sk [.ref x, a0, a1] h)) := zg_vir (as := [a0, a1]) rfl rfl
set_option maxRecDepth 20000 in
theorem zi0_599 {E : zE} {x y : Int32} {ls sk : List Value} {h : zH} : zrun zpp E 0 (599, ls, .int y :: .int x :: sk, h) = if x = y then zrun zpp E 0 (1301, ls, sk, h) else zrun zpp E 0 (602, ls, sk, h) := zrun_at (i := (.if_icmp .eq 702, 602, 0, [1301])) rfl
set_option maxRecDepth 20000 in
theorem zi0_602 {E : zE} {ls sk : List Value} {h : zH} : zrun zpp E 0 (602, ls, sk, h) = zrun zpp E 0 (603, ls, .int 0 :: sk, h) := zg_iconst rfl ci_0
set_option maxRecDepth 20000 in
theorem zi0_603 {E : zE} {x : Int32} {ls sk : List Value} {h : zH} : zrun zpp E 0 (603, ls, [.int x], h) = if x = 0 then some (some (.int 0), h) else if x = 1 then some (some (.int 1), h) else none := zrun_at (i := (.ireturn, 604, 1, [])) rfl
set_option maxRecDepth 20000 in
theorem zi0_604 {E : zE} {v0 : Value} {x : Nat} {ls sk : List Value} {h : zH} : zrun zpp E 0 (604, v0 :: .ref x :: ls, sk, h) = zrun zpp E 0 (605, v0 :: .ref x :: ls, .ref x :: sk, h) := zrun_at (i := (.aload_n 1, 605, 0, [])) rfl
set_option maxRecDepth 20000 in
theorem zi0_604n {E : zE} {v0 : Value} {ls sk : List Value} {h : zH} : zrun zpp E 0 (604, v0 :: .null :: ls, sk, h) = zrun zpp E 0 (605, v0 :: .null :: ls, .null :: sk, h) := zrun_at (i := (.aload_n 1, 605, 0, [])) rfl
set_option maxRecDepth 20000 in
theorem zi0_604f {E : zE} {v0 : Value} {x : UInt32} {ls sk : List Value} {h : zH} : zrun zpp E 0 (604, v0 :: .float x :: ls, sk, h) = zrun zpp E 0 (605, v0 :: .float x :: ls, .float x :: sk, h) := zrun_at (i := (.aload_n 1, 605, 0, [])) rfl
set_option maxRecDepth 20000 in
theorem zi0_605 {E : zE} {x : Nat} {ls sk : List Value} {h : zH} : zrun zpp E 0 (605, .ref x :: ls, sk, h) = zrun zpp E 0 (606, .ref x :: ls, .ref x :: sk, h) := zrun_at (i := (.aload_n 0, 606, 0, [])) rfl
set_option maxRecDepth 20000 in
theorem zi0_605n {E : zE} {ls sk : List Value} {h : zH} : zrun zpp E 0 (605, .null :: ls, sk, h) = zrun zpp E 0 (606, .null :: ls, .null :: sk, h) := zrun_at (i := (.aload_n 0, 606, 0, [])) rfl
set_option maxRecDepth 20000 in
theorem zi0_605f {E : zE} {x : UInt32} {ls sk : List Value} {h : zH} : zrun zpp E 0 (605, .float x :: ls, sk, h) = zrun zpp E 0 (606, .float x :: ls, .float x :: sk, h) := zrun_at (i := (.aload_n 0, 606, 0, [])) rfl
set_option maxRecDepth 20000 in
theorem zi0_606 {E : zE} {v0 v1 v2 : Value} {x : Int32} {ls sk : List Value} {h : zH} : zrun zpp E 0 (606, v0 :: v1 :: v2 :: .int x :: ls, sk, h) = zrun zpp E 0 (607, v0 :: v1 :: v2 :: .int x :: ls, .int x :: sk, h) := zrun_at (i := (.iload_n 3, 607, 0, [])) rfl
set_option maxRecDepth 20000 in
theorem zi0_607 {E : zE} {ls sk : List Value} {h : zH} : zrun zpp E 0 (607, ls, sk, h) = zrun zpp E 0 (608, ls, .int 1 :: sk, h) := zg_iconst rfl ci_1
set_option maxRecDepth 20000 in
theorem zi0_608 {E : zE} {x y : Int32} {ls sk : List Value} {h : zH} : zrun zpp E 0 (608, ls, .int y :: .int x :: sk, h) = zrun zpp E 0 (609, ls, .int (x + y) :: sk, h) := zrun_at (i := (.iadd, 609, 0, [])) rfl
set_option maxRecDepth 20000 in
theorem zi0_609 {E : zE} {x : UInt32} {i : Int32} {ls sk : List Value} {h : zH} : zrun zpp E 0 (609, ls, .int i :: .float x :: sk, h) = if zix i E.1 = true then zrun zpp E 0 (610, ls, .int (E.2 i.toNatClampNeg) :: sk, h) else none := zg_sald rfl
set_option maxRecDepth 20000 in
theorem zi0_610 {E : zE} {x : Nat} {ls sk : List Value} {h : zH} : zrun zpp E 0 (610, .ref x :: ls, sk, h) = zrun zpp E 0 (611, .ref x :: ls, .ref x :: sk, h) := zrun_at (i := (.aload_n 0, 611, 0, [])) rfl
set_option maxRecDepth 20000 in
theorem zi0_610n {E : zE} {ls sk : List Value} {h : zH} : zrun zpp E 0 (610, .null :: ls, sk, h) = zrun zpp E 0 (611, .null :: ls, .null :: sk, h) := zrun_at (i := (.aload_n 0, 611, 0, [])) rfl
set_option maxRecDepth 20000 in
theorem zi0_610f {E : zE} {x : UInt32} {ls sk : List Value} {h : zH} : zrun zpp E 0 (610, .float x :: ls, sk, h) = zrun zpp E 0 (611, .float x :: ls, .float x :: sk, h) := zrun_at (i := (.aload_n 0, 611, 0, [])) rfl
set_option maxRecDepth 20000 in
theorem zi0_611 {E : zE} {v0 v1 v2 : Value} {x : Int32} {ls sk : List Value} {h : zH} : zrun zpp E 0 (611, v0 :: v1 :: v2 :: .int x :: ls, sk, h) = zrun zpp E 0 (612, v0 :: v1 :: v2 :: .int x :: ls, .int x :: sk, h) := zrun_at (i := (.iload_n 3, 612, 0, [])) rfl
set_option maxRecDepth 20000 in
theorem zi0_612 {E : zE} {ls sk : List Value} {h : zH} : zrun zpp E 0 (612, ls, sk, h) = zrun zpp E 0 (613, ls, .int 2 :: sk, h) := zg_iconst rfl ci_2
set_option maxRecDepth 20000 in
theorem zi0_613 {E : zE} {x y : Int32} {ls sk : List Value} {h : zH} : zrun zpp E 0 (613, ls, .int y :: .int x :: sk, h) = zrun zpp E 0 (614, ls, .int (x + y) :: sk, h) := zrun_at (i := (.iadd, 614, 0, [])) rfl
set_option maxRecDepth 20000 in
theorem zi0_614 {E : zE} {x : UInt32} {i : Int32} {ls sk : List Value} {h : zH} : zrun zpp E 0 (614, ls, .int i :: .float x :: sk, h) = if zix i E.1 = true then zrun zpp E 0 (615, ls, .int (E.2 i.toNatClampNeg) :: sk, h) else none := zg_sald rfl
set_option maxRecDepth 20000 in
theorem zi0_615 {E : zE} {x : Nat} {ls sk : List Value} {h : zH} : zrun zpp E 0 (615, .ref x :: ls, sk, h) = zrun zpp E 0 (616, .ref x :: ls, .ref x :: sk, h) := zrun_at (i := (.aload_n 0, 616, 0, [])) rfl
set_option maxRecDepth 20000 in
theorem zi0_615n {E : zE} {ls sk : List Value} {h : zH} : zrun zpp E 0 (615, .null :: ls, sk, h) = zrun zpp E 0 (616, .null :: ls, .null :: sk, h) := zrun_at (i := (.aload_n 0, 616, 0, [])) rfl
set_option maxRecDepth 20000 in
theorem zi0_615f {E : zE} {x : UInt32} {ls sk : List Value} {h : zH} : zrun zpp E 0 (615, .float x :: ls, sk, h) = zrun zpp E 0 (616, .float x :: ls, .float x :: sk, h) := zrun_at (i := (.aload_n 0, 616, 0, [])) rfl
set_option maxRecDepth 20000 in
theorem zi0_616 {E : zE} {v0 v1 v2 : Value} {x : Int32} {ls sk : List Value} {h : zH} : zrun zpp E 0 (616, v0 :: v1 :: v2 :: .int x :: ls, sk, h) = zrun zpp E 0 (617, v0 :: v1 :: v2 :: .int x :: ls, .int x :: sk, h) := zrun_at (i := (.iload_n 3, 617, 0, [])) rfl
set_option maxRecDepth 20000 in
theorem zi0_617 {E : zE} {ls sk : List Value} {h : zH} : zrun zpp E 0 (617, ls, sk, h) = zrun zpp E 0 (618, ls, .int 3 :: sk, h) := zg_iconst rfl ci_3
set_option maxRecDepth 20000 in
theorem zi0_618 {E : zE} {x y : Int32} {ls sk : List Value} {h : zH} : zrun zpp E 0 (618, ls, .int y :: .int x :: sk, h) = zrun zpp E 0 (619, ls, .int (x + y) :: sk, h) := zrun_at (i := (.iadd, 619, 0, [])) rfl
set_option maxRecDepth 20000 in
theorem zi0_619 {E : zE} {x : UInt32} {i : Int32} {ls sk : List Value} {h : zH} : zrun zpp E 0 (619, ls, .int i :: .float x :: sk, h) = if zix i E.1 = true then zrun zpp E 0 (620, ls, .int (E.2 i.toNatClampNeg) :: sk, h) else none := zg_sald rfl
set_option maxRecDepth 20000 in
theorem zi0_620 {E : zE} {a0 a1 a2 : Value} {x : Nat} {ls sk : List Value} {h : zH} : zrun zpp E 0 (620, ls, a2 :: a1 :: a0 :: .ref x :: sk, h) = (zcls h x).bind (fun d => (zsel d [10, 104]).bind (fun M' => zcl1 E 0 623 M' ls sk [.ref x, a0, a1, a2] h)) := zg_vir (as := [a0, a1, a2]) rfl rfl
set_option maxRecDepth 20000 in
theorem zi0_623 {E : zE} {v0 v1 : Value} {x : Nat} {ls sk : List Value} {h : zH} : zrun zpp E 0 (623, v0 :: v1 :: .ref x :: ls, sk, h) = zrun zpp E 0 (624, v0 :: v1 :: .ref x :: ls, .ref x :: sk, h) := zrun_at (i := (.aload_n 2, 624, 0, [])) rfl
set_option maxRecDepth 20000 in
theorem zi0_623n {E : zE} {v0 v1 : Value} {ls sk : List Value} {h : zH} : zrun zpp E 0 (623, v0 :: v1 :: .null :: ls, sk, h) = zrun zpp E 0 (624, v0 :: v1 :: .null :: ls, .null :: sk, h) := zrun_at (i := (.aload_n 2, 624, 0, [])) rfl
set_option maxRecDepth 20000 in
theorem zi0_623f {E : zE} {v0 v1 : Value} {x : UInt32} {ls sk : List Value} {h : zH} : zrun zpp E 0 (623, v0 :: v1 :: .float x :: ls, sk, h) = zrun zpp E 0 (624, v0 :: v1 :: .float x :: ls, .float x :: sk, h) := zrun_at (i := (.aload_n 2, 624, 0, [])) rfl
set_option maxRecDepth 20000 in
theorem zi0_624 {E : zE} {x : Nat} {ls sk : List Value} {h : zH} : zrun zpp E 0 (624, .ref x :: ls, sk, h) = zrun zpp E 0 (625, .ref x :: ls, .ref x :: sk, h) := zrun_at (i := (.aload_n 0, 625, 0, [])) rfl
set_option maxRecDepth 20000 in
theorem zi0_624n {E : zE} {ls sk : List Value} {h : zH} : zrun zpp E 0 (624, .null :: ls, sk, h) = zrun zpp E 0 (625, .null :: ls, .null :: sk, h) := zrun_at (i := (.aload_n 0, 625, 0, [])) rfl
set_option maxRecDepth 20000 in
theorem zi0_624f {E : zE} {x : UInt32} {ls sk : List Value} {h : zH} : zrun zpp E 0 (624, .float x :: ls, sk, h) = zrun zpp E 0 (625, .float x :: ls, .float x :: sk, h) := zrun_at (i := (.aload_n 0, 625, 0, [])) rfl
set_option maxRecDepth 20000 in
theorem zi0_625 {E : zE} {v0 v1 v2 : Value} {x : Int32} {ls sk : List Value} {h : zH} : zrun zpp E 0 (625, v0 :: v1 :: v2 :: .int x :: ls, sk, h) = zrun zpp E 0 (626, v0 :: v1 :: v2 :: .int x :: ls, .int x :: sk, h) := zrun_at (i := (.iload_n 3, 626, 0, [])) rfl
set_option maxRecDepth 20000 in
theorem zi0_626 {E : zE} {ls sk : List Value} {h : zH} : zrun zpp E 0 (626, ls, sk, h) = zrun zpp E 0 (627, ls, .int 1 :: sk, h) := zg_iconst rfl ci_1
set_option maxRecDepth 20000 in
theorem zi0_627 {E : zE} {x y : Int32} {ls sk : List Value} {h : zH} : zrun zpp E 0 (627, ls, .int y :: .int x :: sk, h) = zrun zpp E 0 (628, ls, .int (x + y) :: sk, h) := zrun_at (i := (.iadd, 628, 0, [])) rfl
set_option maxRecDepth 20000 in
theorem zi0_628 {E : zE} {x : UInt32} {i : Int32} {ls sk : List Value} {h : zH} : zrun zpp E 0 (628, ls, .int i :: .float x :: sk, h) = if zix i E.1 = true then zrun zpp E 0 (629, ls, .int (E.2 i.toNatClampNeg) :: sk, h) else none := zg_sald rfl
set_option maxRecDepth 20000 in
theorem zi0_629 {E : zE} {x : Nat} {ls sk : List Value} {h : zH} : zrun zpp E 0 (629, .ref x :: ls, sk, h) = zrun zpp E 0 (630, .ref x :: ls, .ref x :: sk, h) := zrun_at (i := (.aload_n 0, 630, 0, [])) rfl
set_option maxRecDepth 20000 in
theorem zi0_629n {E : zE} {ls sk : List Value} {h : zH} : zrun zpp E 0 (629, .null :: ls, sk, h) = zrun zpp E 0 (630, .null :: ls, .null :: sk, h) := zrun_at (i := (.aload_n 0, 630, 0, [])) rfl
set_option maxRecDepth 20000 in
theorem zi0_629f {E : zE} {x : UInt32} {ls sk : List Value} {h : zH} : zrun zpp E 0 (629, .float x :: ls, sk, h) = zrun zpp E 0 (630, .float x :: ls, .float x :: sk, h) := zrun_at (i := (.aload_n 0, 630, 0, [])) rfl
set_option maxRecDepth 20000 in
theorem zi0_630 {E : zE} {v0 v1 v2 : Value} {x : Int32} {ls sk : List Value} {h : zH} : zrun zpp E 0 (630, v0 :: v1 :: v2 :: .int x :: ls, sk, h) = zrun zpp E 0 (631, v0 :: v1 :: v2 :: .int x :: ls, .int x :: sk, h) := zrun_at (i := (.iload_n 3, 631, 0, [])) rfl
set_option maxRecDepth 20000 in
theorem zi0_631 {E : zE} {ls sk : List Value} {h : zH} : zrun zpp E 0 (631, ls, sk, h) = zrun zpp E 0 (632, ls, .int 2 :: sk, h) := zg_iconst rfl ci_2
set_option maxRecDepth 20000 in
theorem zi0_632 {E : zE} {x y : Int32} {ls sk : List Value} {h : zH} : zrun zpp E 0 (632, ls, .int y :: .int x :: sk, h) = zrun zpp E 0 (633, ls, .int (x + y) :: sk, h) := zrun_at (i := (.iadd, 633, 0, [])) rfl
set_option maxRecDepth 20000 in
theorem zi0_633 {E : zE} {x : UInt32} {i : Int32} {ls sk : List Value} {h : zH} : zrun zpp E 0 (633, ls, .int i :: .float x :: sk, h) = if zix i E.1 = true then zrun zpp E 0 (634, ls, .int (E.2 i.toNatClampNeg) :: sk, h) else none := zg_sald rfl
set_option maxRecDepth 20000 in
theorem zi0_634 {E : zE} {x : Nat} {ls sk : List Value} {h : zH} : zrun zpp E 0 (634, .ref x :: ls, sk, h) = zrun zpp E 0 (635, .ref x :: ls, .ref x :: sk, h) := zrun_at (i := (.aload_n 0, 635, 0, [])) rfl
set_option maxRecDepth 20000 in
theorem zi0_634n {E : zE} {ls sk : List Value} {h : zH} : zrun zpp E 0 (634, .null :: ls, sk, h) = zrun zpp E 0 (635, .null :: ls, .null :: sk, h) := zrun_at (i := (.aload_n 0, 635, 0, [])) rfl
set_option maxRecDepth 20000 in
theorem zi0_634f {E : zE} {x : UInt32} {ls sk : List Value} {h : zH} : zrun zpp E 0 (634, .float x :: ls, sk, h) = zrun zpp E 0 (635, .float x :: ls, .float x :: sk, h) := zrun_at (i := (.aload_n 0, 635, 0, [])) rfl
set_option maxRecDepth 20000 in
theorem zi0_635 {E : zE} {v0 v1 v2 : Value} {x : Int32} {ls sk : List Value} {h : zH} : zrun zpp E 0 (635, v0 :: v1 :: v2 :: .int x :: ls, sk, h) = zrun zpp E 0 (636, v0 :: v1 :: v2 :: .int x :: ls, .int x :: sk, h) := zrun_at (i := (.iload_n 3, 636, 0, [])) rfl
set_option maxRecDepth 20000 in
theorem zi0_636 {E : zE} {ls sk : List Value} {h : zH} : zrun zpp E 0 (636, ls, sk, h) = zrun zpp E 0 (637, ls, .int 3 :: sk, h) := zg_iconst rfl ci_3
set_option maxRecDepth 20000 in
theorem zi0_637 {E : zE} {x y : Int32} {ls sk : List Value} {h : zH} : zrun zpp E 0 (637, ls, .int y :: .int x :: sk, h) = zrun zpp E 0 (638, ls, .int (x + y) :: sk, h) := zrun_at (i := (.iadd, 638, 0, [])) rfl
set_option maxRecDepth 20000 in
theorem zi0_638 {E : zE} {x : UInt32} {i : Int32} {ls sk : List Value} {h : zH} : zrun zpp E 0 (638, ls, .int i :: .float x :: sk, h) = if zix i E.1 = true then zrun zpp E 0 (639, ls, .int (E.2 i.toNatClampNeg) :: sk, h) else none := zg_sald rfl
set_option maxRecDepth 20000 in
theorem zi0_639 {E : zE} {a0 a1 a2 : Value} {x : Nat} {ls sk : List Value} {h : zH} : zrun zpp E 0 (639, ls, a2 :: a1 :: a0 :: .ref x :: sk, h) = (zcls h x).bind (fun d => (zsel d [11, 197]).bind (fun M' => zcl1 E 0 642 M' ls sk [.ref x, a0, a1, a2] h)) := zg_vir (as := [a0, a1, a2]) rfl rfl
set_option maxRecDepth 20000 in
theorem zi0_642 {E : zE} {x y : Int32} {ls sk : List Value} {h : zH} : zrun zpp E 0 (642, ls, .int y :: .int x :: sk, h) = if x = y then zrun zpp E 0 (1301, ls, sk, h) else zrun zpp E 0 (645, ls, sk, h) := zrun_at (i := (.if_icmp .eq 659, 645, 0, [1301])) rfl
set_option maxRecDepth 20000 in
theorem zi0_645 {E : zE} {ls sk : List Value} {h : zH} : zrun zpp E 0 (645, ls, sk, h) = zrun zpp E 0 (646, ls, .int 0 :: sk, h) := zg_iconst rfl ci_0
set_option maxRecDepth 20000 in
theorem zi0_646 {E : zE} {x : Int32} {ls sk : List Value} {h : zH} : zrun zpp E 0 (646, ls, [.int x], h) = if x = 0 then some (some (.int 0), h) else if x = 1 then some (some (.int 1), h) else none := zrun_at (i := (.ireturn, 647, 1, [])) rfl
set_option maxRecDepth 20000 in
theorem zi0_647 {E : zE} {v0 : Value} {x : Nat} {ls sk : List Value} {h : zH} : zrun zpp E 0 (647, v0 :: .ref x :: ls, sk, h) = zrun zpp E 0 (648, v0 :: .ref x :: ls, .ref x :: sk, h) := zrun_at (i := (.aload_n 1, 648, 0, [])) rfl
set_option maxRecDepth 20000 in
theorem zi0_647n {E : zE} {v0 : Value} {ls sk : List Value} {h : zH} : zrun zpp E 0 (647, v0 :: .null :: ls, sk, h) = zrun zpp E 0 (648, v0 :: .null :: ls, .null :: sk, h) := zrun_at (i := (.aload_n 1, 648, 0, [])) rfl
set_option maxRecDepth 20000 in
theorem zi0_647f {E : zE} {v0 : Value} {x : UInt32} {ls sk : List Value} {h : zH} : zrun zpp E 0 (647, v0 :: .float x :: ls, sk, h) = zrun zpp E 0 (648, v0 :: .float x :: ls, .float x :: sk, h) := zrun_at (i := (.aload_n 1, 648, 0, [])) rfl
set_option maxRecDepth 20000 in
theorem zi0_648 {E : zE} {x : Nat} {ls sk : List Value} {h : zH} : zrun zpp E 0 (648, .ref x :: ls, sk, h) = zrun zpp E 0 (649, .ref x :: ls, .ref x :: sk, h) := zrun_at (i := (.aload_n 0, 649, 0, [])) rfl
set_option maxRecDepth 20000 in
theorem zi0_648n {E : zE} {ls sk : List Value} {h : zH} : zrun zpp E 0 (648, .null :: ls, sk, h) = zrun zpp E 0 (649, .null :: ls, .null :: sk, h) := zrun_at (i := (.aload_n 0, 649, 0, [])) rfl
set_option maxRecDepth 20000 in
theorem zi0_648f {E : zE} {x : UInt32} {ls sk : List Value} {h : zH} : zrun zpp E 0 (648, .float x :: ls, sk, h) = zrun zpp E 0 (649, .float x :: ls, .float x :: sk, h) := zrun_at (i := (.aload_n 0, 649, 0, [])) rfl
set_option maxRecDepth 20000 in
theorem zi0_649 {E : zE} {v0 v1 v2 : Value} {x : Int32} {ls sk : List Value} {h : zH} : zrun zpp E 0 (649, v0 :: v1 :: v2 :: .int x :: ls, sk, h) = zrun zpp E 0 (650, v0 :: v1 :: v2 :: .int x :: ls, .int x :: sk, h) := zrun_at (i := (.iload_n 3, 650, 0, [])) rfl
set_option maxRecDepth 20000 in
theorem zi0_650 {E : zE} {ls sk : List Value} {h : zH} : zrun zpp E 0 (650, ls, sk, h) = zrun zpp E 0 (651, ls, .int 1 :: sk, h) := zg_iconst rfl ci_1
set_option maxRecDepth 20000 in
theorem zi0_651 {E : zE} {x y : Int32} {ls sk : List Value} {h : zH} : zrun zpp E 0 (651, ls, .int y :: .int x :: sk, h) = zrun zpp E 0 (652, ls, .int (x + y) :: sk, h) := zrun_at (i := (.iadd, 652, 0, [])) rfl
set_option maxRecDepth 20000 in
theorem zi0_652 {E : zE} {x : UInt32} {i : Int32} {ls sk : List Value} {h : zH} : zrun zpp E 0 (652, ls, .int i :: .float x :: sk, h) = if zix i E.1 = true then zrun zpp E 0 (653, ls, .int (E.2 i.toNatClampNeg) :: sk, h) else none := zg_sald rfl
set_option maxRecDepth 20000 in
theorem zi0_653 {E : zE} {a0 : Value} {x : Nat} {ls sk : List Value} {h : zH} : zrun zpp E 0 (653, ls, a0 :: .ref x :: sk, h) = (zcls h x).bind (fun d => (zsel d [10, 105]).bind (fun M' => zcl1 E 0 656 M' ls sk [.ref x, a0] h)) := zg_vir (as := [a0]) rfl rfl
set_option maxRecDepth 20000 in
theorem zi0_656 {E : zE} {v0 v1 : Value} {x : Nat} {ls sk : List Value} {h : zH} : zrun zpp E 0 (656, v0 :: v1 :: .ref x :: ls, sk, h) = zrun zpp E 0 (657, v0 :: v1 :: .ref x :: ls, .ref x :: sk, h) := zrun_at (i := (.aload_n 2, 657, 0, [])) rfl
set_option maxRecDepth 20000 in
theorem zi0_656n {E : zE} {v0 v1 : Value} {ls sk : List Value} {h : zH} : zrun zpp E 0 (656, v0 :: v1 :: .null :: ls, sk, h) = zrun zpp E 0 (657, v0 :: v1 :: .null :: ls, .null :: sk, h) := zrun_at (i := (.aload_n 2, 657, 0, [])) rfl
set_option maxRecDepth 20000 in
theorem zi0_656f {E : zE} {v0 v1 : Value} {x : UInt32} {ls sk : List Value} {h : zH} : zrun zpp E 0 (656, v0 :: v1 :: .float x :: ls, sk, h) = zrun zpp E 0 (657, v0 :: v1 :: .float x :: ls, .float x :: sk, h) := zrun_at (i := (.aload_n 2, 657, 0, [])) rfl
set_option maxRecDepth 20000 in
theorem zi0_657 {E : zE} {x : Nat} {ls sk : List Value} {h : zH} : zrun zpp E 0 (657, .ref x :: ls, sk, h) = zrun zpp E 0 (658, .ref x :: ls, .ref x :: sk, h) := zrun_at (i := (.aload_n 0, 658, 0, [])) rfl
set_option maxRecDepth 20000 in
theorem zi0_657n {E : zE} {ls sk : List Value} {h : zH} : zrun zpp E 0 (657, .null :: ls, sk, h) = zrun zpp E 0 (658, .null :: ls, .null :: sk, h) := zrun_at (i := (.aload_n 0, 658, 0, [])) rfl
set_option maxRecDepth 20000 in
theorem zi0_657f {E : zE} {x : UInt32} {ls sk : List Value} {h : zH} : zrun zpp E 0 (657, .float x :: ls, sk, h) = zrun zpp E 0 (658, .float x :: ls, .float x :: sk, h) := zrun_at (i := (.aload_n 0, 658, 0, [])) rfl
set_option maxRecDepth 20000 in
theorem zi0_658 {E : zE} {v0 v1 v2 : Value} {x : Int32} {ls sk : List Value} {h : zH} : zrun zpp E 0 (658, v0 :: v1 :: v2 :: .int x :: ls, sk, h) = zrun zpp E 0 (659, v0 :: v1 :: v2 :: .int x :: ls, .int x :: sk, h) := zrun_at (i := (.iload_n 3, 659, 0, [])) rfl
set_option maxRecDepth 20000 in
theorem zi0_659 {E : zE} {ls sk : List Value} {h : zH} : zrun zpp E 0 (659, ls, sk, h) = zrun zpp E 0 (660, ls, .int 1 :: sk, h) := zg_iconst rfl ci_1
set_option maxRecDepth 20000 in
theorem zi0_660 {E : zE} {x y : Int32} {ls sk : List Value} {h : zH} : zrun zpp E 0 (660, ls, .int y :: .int x :: sk, h) = zrun zpp E 0 (661, ls, .int (x + y) :: sk, h) := zrun_at (i := (.iadd, 661, 0, [])) rfl
set_option maxRecDepth 20000 in
theorem zi0_661 {E : zE} {x : UInt32} {i : Int32} {ls sk : List Value} {h : zH} : zrun zpp E 0 (661, ls, .int i :: .float x :: sk, h) = if zix i E.1 = true then zrun zpp E 0 (662, ls, .int (E.2 i.toNatClampNeg) :: sk, h) else none := zg_sald rfl
set_option maxRecDepth 20000 in
theorem zi0_662 {E : zE} {a0 : Value} {x : Nat} {ls sk : List Value} {h : zH} : zrun zpp E 0 (662, ls, a0 :: .ref x :: sk, h) = (zcls h x).bind (fun d => (zsel d [11, 199]).bind (fun M' => zcl1 E 0 665 M' ls sk [.ref x, a0] h)) := zg_vir (as := [a0]) rfl rfl
set_option maxRecDepth 20000 in
theorem zi0_665 {E : zE} {x y : Int32} {ls sk : List Value} {h : zH} : zrun zpp E 0 (665, ls, .int y :: .int x :: sk, h) = if x = y then zrun zpp E 0 (1301, ls, sk, h) else zrun zpp E 0 (668, ls, sk, h) := zrun_at (i := (.if_icmp .eq 636, 668, 0, [1301])) rfl
set_option maxRecDepth 20000 in
theorem zi0_668 {E : zE} {ls sk : List Value} {h : zH} : zrun zpp E 0 (668, ls, sk, h) = zrun zpp E 0 (669, ls, .int 0 :: sk, h) := zg_iconst rfl ci_0
set_option maxRecDepth 20000 in
theorem zi0_669 {E : zE} {x : Int32} {ls sk : List Value} {h : zH} : zrun zpp E 0 (669, ls, [.int x], h) = if x = 0 then some (some (.int 0), h) else if x = 1 then some (some (.int 1), h) else none := zrun_at (i := (.ireturn, 670, 1, [])) rfl
set_option maxRecDepth 20000 in
theorem zi0_670 {E : zE} {v0 : Value} {x : Nat} {ls sk : List Value} {h : zH} : zrun zpp E 0 (670, v0 :: .ref x :: ls, sk, h) = zrun zpp E 0 (671, v0 :: .ref x :: ls, .ref x :: sk, h) := zrun_at (i := (.aload_n 1, 671, 0, [])) rfl
set_option maxRecDepth 20000 in
theorem zi0_670n {E : zE} {v0 : Value} {ls sk : List Value} {h : zH} : zrun zpp E 0 (670, v0 :: .null :: ls, sk, h) = zrun zpp E 0 (671, v0 :: .null :: ls, .null :: sk, h) := zrun_at (i := (.aload_n 1, 671, 0, [])) rfl
set_option maxRecDepth 20000 in
theorem zi0_670f {E : zE} {v0 : Value} {x : UInt32} {ls sk : List Value} {h : zH} : zrun zpp E 0 (670, v0 :: .float x :: ls, sk, h) = zrun zpp E 0 (671, v0 :: .float x :: ls, .float x :: sk, h) := zrun_at (i := (.aload_n 1, 671, 0, [])) rfl
set_option maxRecDepth 20000 in
theorem zi0_671 {E : zE} {x : Nat} {ls sk : List Value} {h : zH} : zrun zpp E 0 (671, .ref x :: ls, sk, h) = zrun zpp E 0 (672, .ref x :: ls, .ref x :: sk, h) := zrun_at (i := (.aload_n 0, 672, 0, [])) rfl
set_option maxRecDepth 20000 in
theorem zi0_671n {E : zE} {ls sk : List Value} {h : zH} : zrun zpp E 0 (671, .null :: ls, sk, h) = zrun zpp E 0 (672, .null :: ls, .null :: sk, h) := zrun_at (i := (.aload_n 0, 672, 0, [])) rfl
set_option maxRecDepth 20000 in
theorem zi0_671f {E : zE} {x : UInt32} {ls sk : List Value} {h : zH} : zrun zpp E 0 (671, .float x :: ls, sk, h) = zrun zpp E 0 (672, .float x :: ls, .float x :: sk, h) := zrun_at (i := (.aload_n 0, 672, 0, [])) rfl
set_option maxRecDepth 20000 in
theorem zi0_672 {E : zE} {v0 v1 v2 : Value} {x : Int32} {ls sk : List Value} {h : zH} : zrun zpp E 0 (672, v0 :: v1 :: v2 :: .int x :: ls, sk, h) = zrun zpp E 0 (673, v0 :: v1 :: v2 :: .int x :: ls, .int x :: sk, h) := zrun_at (i := (.iload_n 3, 673, 0, [])) rfl
set_option maxRecDepth 20000 in
theorem zi0_673 {E : zE} {ls sk : List Value} {h : zH} : zrun zpp E 0 (673, ls, sk, h) = zrun zpp E 0 (674, ls, .int 1 :: sk, h) := zg_iconst rfl ci_1
set_option maxRecDepth 20000 in
theorem zi0_674 {E : zE} {x y : Int32} {ls sk : List Value} {h : zH} : zrun zpp E 0 (674, ls, .int y :: .int x :: sk, h) = zrun zpp E 0 (675, ls, .int (x + y) :: sk, h) := zrun_at (i := (.iadd, 675, 0, [])) rfl
set_option maxRecDepth 20000 in
theorem zi0_675 {E : zE} {x : UInt32} {i : Int32} {ls sk : List Value} {h : zH} : zrun zpp E 0 (675, ls, .int i :: .float x :: sk, h) = if zix i E.1 = true then zrun zpp E 0 (676, ls, .int (E.2 i.toNatClampNeg) :: sk, h) else none := zg_sald rfl
set_option maxRecDepth 20000 in
theorem zi0_676 {E : zE} {x : Nat} {ls sk : List Value} {h : zH} : zrun zpp E 0 (676, .ref x :: ls, sk, h) = zrun zpp E 0 (677, .ref x :: ls, .ref x :: sk, h) := zrun_at (i := (.aload_n 0, 677, 0, [])) rfl
set_option maxRecDepth 20000 in
theorem zi0_676n {E : zE} {ls sk : List Value} {h : zH} : zrun zpp E 0 (676, .null :: ls, sk, h) = zrun zpp E 0 (677, .null :: ls, .null :: sk, h) := zrun_at (i := (.aload_n 0, 677, 0, [])) rfl
set_option maxRecDepth 20000 in
theorem zi0_676f {E : zE} {x : UInt32} {ls sk : List Value} {h : zH} : zrun zpp E 0 (676, .float x :: ls, sk, h) = zrun zpp E 0 (677, .float x :: ls, .float x :: sk, h) := zrun_at (i := (.aload_n 0, 677, 0, [])) rfl
set_option maxRecDepth 20000 in
theorem zi0_677 {E : zE} {v0 v1 v2 : Value} {x : Int32} {ls sk : List Value} {h : zH} : zrun zpp E 0 (677, v0 :: v1 :: v2 :: .int x :: ls, sk, h) = zrun zpp E 0 (678, v0 :: v1 :: v2 :: .int x :: ls, .int x :: sk, h) := zrun_at (i := (.iload_n 3, 678, 0, [])) rfl
set_option maxRecDepth 20000 in
theorem zi0_678 {E : zE} {ls sk : List Value} {h : zH} : zrun zpp E 0 (678, ls, sk, h) = zrun zpp E 0 (679, ls, .int 2 :: sk, h) := zg_iconst rfl ci_2
set_option maxRecDepth 20000 in
theorem zi0_679 {E : zE} {x y : Int32} {ls sk : List Value} {h : zH} : zrun zpp E 0 (679, ls, .int y :: .int x :: sk, h) = zrun zpp E 0 (680, ls, .int (x + y) :: sk, h) := zrun_at (i := (.iadd, 680, 0, [])) rfl
set_option maxRecDepth 20000 in
theorem zi0_680 {E : zE} {x : UInt32} {i : Int32} {ls sk : List Value} {h : zH} : zrun zpp E 0 (680, ls, .int i :: .float x :: sk, h) = if zix i E.1 = true then zrun zpp E 0 (681, ls, .int (E.2 i.toNatClampNeg) :: sk, h) else none := zg_sald rfl
set_option maxRecDepth 20000 in
theorem zi0_681 {E : zE} {a0 a1 : Value} {x : Nat} {ls sk : List Value} {h : zH} : zrun zpp E 0 (681, ls, a1 :: a0 :: .ref x :: sk, h) = (zcls h x).bind (fun d => (zsel d [10, 106]).bind (fun M' => zcl1 E 0 684 M' ls sk [.ref x, a0, a1] h)) := zg_vir (as := [a0, a1]) rfl rfl
set_option maxRecDepth 20000 in
theorem zi0_684 {E : zE} {v0 v1 : Value} {x : Nat} {ls sk : List Value} {h : zH} : zrun zpp E 0 (684, v0 :: v1 :: .ref x :: ls, sk, h) = zrun zpp E 0 (685, v0 :: v1 :: .ref x :: ls, .ref x :: sk, h) := zrun_at (i := (.aload_n 2, 685, 0, [])) rfl
set_option maxRecDepth 20000 in
theorem zi0_684n {E : zE} {v0 v1 : Value} {ls sk : List Value} {h : zH} : zrun zpp E 0 (684, v0 :: v1 :: .null :: ls, sk, h) = zrun zpp E 0 (685, v0 :: v1 :: .null :: ls, .null :: sk, h) := zrun_at (i := (.aload_n 2, 685, 0, [])) rfl
set_option maxRecDepth 20000 in
theorem zi0_684f {E : zE} {v0 v1 : Value} {x : UInt32} {ls sk : List Value} {h : zH} : zrun zpp E 0 (684, v0 :: v1 :: .float x :: ls, sk, h) = zrun zpp E 0 (685, v0 :: v1 :: .float x :: ls, .float x :: sk, h) := zrun_at (i := (.aload_n 2, 685, 0, [])) rfl
set_option maxRecDepth 20000 in
theorem zi0_685 {E : zE} {x : Nat} {ls sk : List Value} {h : zH} : zrun zpp E 0 (685, .ref x :: ls, sk, h) = zrun zpp E 0 (686, .ref x :: ls, .ref x :: sk, h) := zrun_at (i := (.aload_n 0, 686, 0, [])) rfl
set_option maxRecDepth 20000 in
theorem zi0_685n {E : zE} {ls sk : List Value} {h : zH} : zrun zpp E 0 (685, .null :: ls, sk, h) = zrun zpp E 0 (686, .null :: ls, .null :: sk, h) := zrun_at (i := (.aload_n 0, 686, 0, [])) rfl
set_option maxRecDepth 20000 in
theorem zi0_685f {E : zE} {x : UInt32} {ls sk : List Value} {h : zH} : zrun zpp E 0 (685, .float x :: ls, sk, h) = zrun zpp E 0 (686, .float x :: ls, .float x :: sk, h) := zrun_at (i := (.aload_n 0, 686, 0, [])) rfl
set_option maxRecDepth 20000 in
theorem zi0_686 {E : zE} {v0 v1 v2 : Value} {x : Int32} {ls sk : List Value} {h : zH} : zrun zpp E 0 (686, v0 :: v1 :: v2 :: .int x :: ls, sk, h) = zrun zpp E 0 (687, v0 :: v1 :: v2 :: .int x :: ls, .int x :: sk, h) := zrun_at (i := (.iload_n 3, 687, 0, [])) rfl
set_option maxRecDepth 20000 in
theorem zi0_687 {E : zE} {ls sk : List Value} {h : zH} : zrun zpp E 0 (687, ls, sk, h) = zrun zpp E 0 (688, ls, .int 1 :: sk, h) := zg_iconst rfl ci_1
set_option maxRecDepth 20000 in
theorem zi0_688 {E : zE} {x y : Int32} {ls sk : List Value} {h : zH} : zrun zpp E 0 (688, ls, .int y :: .int x :: sk, h) = zrun zpp E 0 (689, ls, .int (x + y) :: sk, h) := zrun_at (i := (.iadd, 689, 0, [])) rfl
set_option maxRecDepth 20000 in
theorem zi0_689 {E : zE} {x : UInt32} {i : Int32} {ls sk : List Value} {h : zH} : zrun zpp E 0 (689, ls, .int i :: .float x :: sk, h) = if zix i E.1 = true then zrun zpp E 0 (690, ls, .int (E.2 i.toNatClampNeg) :: sk, h) else none := zg_sald rfl
set_option maxRecDepth 20000 in
theorem zi0_690 {E : zE} {x : Nat} {ls sk : List Value} {h : zH} : zrun zpp E 0 (690, .ref x :: ls, sk, h) = zrun zpp E 0 (691, .ref x :: ls, .ref x :: sk, h) := zrun_at (i := (.aload_n 0, 691, 0, [])) rfl
set_option maxRecDepth 20000 in
theorem zi0_690n {E : zE} {ls sk : List Value} {h : zH} : zrun zpp E 0 (690, .null :: ls, sk, h) = zrun zpp E 0 (691, .null :: ls, .null :: sk, h) := zrun_at (i := (.aload_n 0, 691, 0, [])) rfl
set_option maxRecDepth 20000 in
theorem zi0_690f {E : zE} {x : UInt32} {ls sk : List Value} {h : zH} : zrun zpp E 0 (690, .float x :: ls, sk, h) = zrun zpp E 0 (691, .float x :: ls, .float x :: sk, h) := zrun_at (i := (.aload_n 0, 691, 0, [])) rfl
set_option maxRecDepth 20000 in
theorem zi0_691 {E : zE} {v0 v1 v2 : Value} {x : Int32} {ls sk : List Value} {h : zH} : zrun zpp E 0 (691, v0 :: v1 :: v2 :: .int x :: ls, sk, h) = zrun zpp E 0 (692, v0 :: v1 :: v2 :: .int x :: ls, .int x :: sk, h) := zrun_at (i := (.iload_n 3, 692, 0, [])) rfl
set_option maxRecDepth 20000 in
theorem zi0_692 {E : zE} {ls sk : List Value} {h : zH} : zrun zpp E 0 (692, ls, sk, h) = zrun zpp E 0 (693, ls, .int 2 :: sk, h) := zg_iconst rfl ci_2
set_option maxRecDepth 20000 in
theorem zi0_693 {E : zE} {x y : Int32} {ls sk : List Value} {h : zH} : zrun zpp E 0 (693, ls, .int y :: .int x :: sk, h) = zrun zpp E 0 (694, ls, .int (x + y) :: sk, h) := zrun_at (i := (.iadd, 694, 0, [])) rfl
set_option maxRecDepth 20000 in
theorem zi0_694 {E : zE} {x : UInt32} {i : Int32} {ls sk : List Value} {h : zH} : zrun zpp E 0 (694, ls, .int i :: .float x :: sk, h) = if zix i E.1 = true then zrun zpp E 0 (695, ls, .int (E.2 i.toNatClampNeg) :: sk, h) else none := zg_sald rfl
set_option maxRecDepth 20000 in
theorem zi0_695 {E : zE} {a0 a1 : Value} {x : Nat} {ls sk : List Value} {h : zH} : zrun zpp E 0 (695, ls, a1 :: a0 :: .ref x :: sk, h) = (zcls h x).bind (fun d => (zsel d [11, 201]).bind (fun M' => zcl1 E 0 698 M' ls sk [.ref x, a0, a1] h)) := zg_vir (as := [a0, a1]) rfl rfl
set_option maxRecDepth 20000 in
theorem zi0_698 {E : zE} {x y : Int32} {ls sk : List Value} {h : zH} : zrun zpp E 0 (698, ls, .int y :: .int x :: sk, h) = if x = y then zrun zpp E 0 (1301, ls, sk, h) else zrun zpp E 0 (701, ls, sk, h) := zrun_at (i := (.if_icmp .eq 603, 701, 0, [1301])) rfl
set_option maxRecDepth 20000 in
theorem zi0_701 {E : zE} {ls sk : List Value} {h : zH} : zrun zpp E 0 (701, ls, sk, h) = zrun zpp E 0 (702, ls, .int 0 :: sk, h) := zg_iconst rfl ci_0
set_option maxRecDepth 20000 in
theorem zi0_702 {E : zE} {x : Int32} {ls sk : List Value} {h : zH} : zrun zpp E 0 (702, ls, [.int x], h) = if x = 0 then some (some (.int 0), h) else if x = 1 then some (some (.int 1), h) else none := zrun_at (i := (.ireturn, 703, 1, [])) rfl
set_option maxRecDepth 20000 in
theorem zi0_703 {E : zE} {v0 : Value} {x : Nat} {ls sk : List Value} {h : zH} : zrun zpp E 0 (703, v0 :: .ref x :: ls, sk, h) = zrun zpp E 0 (704, v0 :: .ref x :: ls, .ref x :: sk, h) := zrun_at (i := (.aload_n 1, 704, 0, [])) rfl
set_option maxRecDepth 20000 in
theorem zi0_703n {E : zE} {v0 : Value} {ls sk : List Value} {h : zH} : zrun zpp E 0 (703, v0 :: .null :: ls, sk, h) = zrun zpp E 0 (704, v0 :: .null :: ls, .null :: sk, h) := zrun_at (i := (.aload_n 1, 704, 0, [])) rfl
set_option maxRecDepth 20000 in
theorem zi0_703f {E : zE} {v0 : Value} {x : UInt32} {ls sk : List Value} {h : zH} : zrun zpp E 0 (703, v0 :: .float x :: ls, sk, h) = zrun zpp E 0 (704, v0 :: .float x :: ls, .float x :: sk, h) := zrun_at (i := (.aload_n 1, 704, 0, [])) rfl
set_option maxRecDepth 20000 in
theorem zi0_704 {E : zE} {x : Nat} {ls sk : List Value} {h : zH} : zrun zpp E 0 (704, .ref x :: ls, sk, h) = zrun zpp E 0 (705, .ref x :: ls, .ref x :: sk, h) := zrun_at (i := (.aload_n 0, 705, 0, [])) rfl
set_option maxRecDepth 20000 in
theorem zi0_704n {E : zE} {ls sk : List Value} {h : zH} : zrun zpp E 0 (704, .null :: ls, sk, h) = zrun zpp E 0 (705, .null :: ls, .null :: sk, h) := zrun_at (i := (.aload_n 0, 705, 0, [])) rfl
set_option maxRecDepth 20000 in
theorem zi0_704f {E : zE} {x : UInt32} {ls sk : List Value} {h : zH} : zrun zpp E 0 (704, .float x :: ls, sk, h) = zrun zpp E 0 (705, .float x :: ls, .float x :: sk, h) := zrun_at (i := (.aload_n 0, 705, 0, [])) rfl
set_option maxRecDepth 20000 in
theorem zi0_705 {E : zE} {v0 v1 v2 : Value} {x : Int32} {ls sk : List Value} {h : zH} : zrun zpp E 0 (705, v0 :: v1 :: v2 :: .int x :: ls, sk, h) = zrun zpp E 0 (706, v0 :: v1 :: v2 :: .int x :: ls, .int x :: sk, h) := zrun_at (i := (.iload_n 3, 706, 0, [])) rfl
set_option maxRecDepth 20000 in
theorem zi0_706 {E : zE} {ls sk : List Value} {h : zH} : zrun zpp E 0 (706, ls, sk, h) = zrun zpp E 0 (707, ls, .int 1 :: sk, h) := zg_iconst rfl ci_1
set_option maxRecDepth 20000 in
theorem zi0_707 {E : zE} {x y : Int32} {ls sk : List Value} {h : zH} : zrun zpp E 0 (707, ls, .int y :: .int x :: sk, h) = zrun zpp E 0 (708, ls, .int (x + y) :: sk, h) := zrun_at (i := (.iadd, 708, 0, [])) rfl
set_option maxRecDepth 20000 in
theorem zi0_708 {E : zE} {x : UInt32} {i : Int32} {ls sk : List Value} {h : zH} : zrun zpp E 0 (708, ls, .int i :: .float x :: sk, h) = if zix i E.1 = true then zrun zpp E 0 (709, ls, .int (E.2 i.toNatClampNeg) :: sk, h) else none := zg_sald rfl
set_option maxRecDepth 20000 in
theorem zi0_709 {E : zE} {x : Nat} {ls sk : List Value} {h : zH} : zrun zpp E 0 (709, .ref x :: ls, sk, h) = zrun zpp E 0 (710, .ref x :: ls, .ref x :: sk, h) := zrun_at (i := (.aload_n 0, 710, 0, [])) rfl
set_option maxRecDepth 20000 in
theorem zi0_709n {E : zE} {ls sk : List Value} {h : zH} : zrun zpp E 0 (709, .null :: ls, sk, h) = zrun zpp E 0 (710, .null :: ls, .null :: sk, h) := zrun_at (i := (.aload_n 0, 710, 0, [])) rfl
set_option maxRecDepth 20000 in
theorem zi0_709f {E : zE} {x : UInt32} {ls sk : List Value} {h : zH} : zrun zpp E 0 (709, .float x :: ls, sk, h) = zrun zpp E 0 (710, .float x :: ls, .float x :: sk, h) := zrun_at (i := (.aload_n 0, 710, 0, [])) rfl
set_option maxRecDepth 20000 in
theorem zi0_710 {E : zE} {v0 v1 v2 : Value} {x : Int32} {ls sk : List Value} {h : zH} : zrun zpp E 0 (710, v0 :: v1 :: v2 :: .int x :: ls, sk, h) = zrun zpp E 0 (711, v0 :: v1 :: v2 :: .int x :: ls, .int x :: sk, h) := zrun_at (i := (.iload_n 3, 711, 0, [])) rfl
set_option maxRecDepth 20000 in
theorem zi0_711 {E : zE} {ls sk : List Value} {h : zH} : zrun zpp E 0 (711, ls, sk, h) = zrun zpp E 0 (712, ls, .int 2 :: sk, h) := zg_iconst rfl ci_2
set_option maxRecDepth 20000 in
theorem zi0_712 {E : zE} {x y : Int32} {ls sk : List Value} {h : zH} : zrun zpp E 0 (712, ls, .int y :: .int x :: sk, h) = zrun zpp E 0 (713, ls, .int (x + y) :: sk, h) := zrun_at (i := (.iadd, 713, 0, [])) rfl
set_option maxRecDepth 20000 in
theorem zi0_713 {E : zE} {x : UInt32} {i : Int32} {ls sk : List Value} {h : zH} : zrun zpp E 0 (713, ls, .int i :: .float x :: sk, h) = if zix i E.1 = true then zrun zpp E 0 (714, ls, .int (E.2 i.toNatClampNeg) :: sk, h) else none := zg_sald rfl
set_option maxRecDepth 20000 in
theorem zi0_714 {E : zE} {a0 a1 : Value} {x : Nat} {ls sk : List Value} {h : zH} : zrun zpp E 0 (714, ls, a1 :: a0 :: .ref x :: sk, h) = (zcls h x).bind (fun d => (zsel d [10, 107]).bind (fun M' => zcl1 E 0 717 M' ls sk [.ref x, a0, a1] h)) := zg_vir (as := [a0, a1]) rfl rfl
set_option maxRecDepth 20000 in
theorem zi0_717 {E : zE} {v0 v1 : Value} {x : Nat} {ls sk : List Value} {h : zH} : zrun zpp E 0 (717, v0 :: v1 :: .ref x :: ls, sk, h) = zrun zpp E 0 (718, v0 :: v1 :: .ref x :: ls, .ref x :: sk, h) := zrun_at (i := (.aload_n 2, 718, 0, [])) rfl
set_option maxRecDepth 20000 in
theorem zi0_717n {E : zE} {v0 v1 : Value} {ls sk : List Value} {h : zH} : zrun zpp E 0 (717, v0 :: v1 :: .null :: ls, sk, h) = zrun zpp E 0 (718, v0 :: v1 :: .null :: ls, .null :: sk, h) := zrun_at (i := (.aload_n 2, 718, 0, [])) rfl
set_option maxRecDepth 20000 in
theorem zi0_717f {E : zE} {v0 v1 : Value} {x : UInt32} {ls sk : List Value} {h : zH} : zrun zpp E 0 (717, v0 :: v1 :: .float x :: ls, sk, h) = zrun zpp E 0 (718, v0 :: v1 :: .float x :: ls, .float x :: sk, h) := zrun_at (i := (.aload_n 2, 718, 0, [])) rfl
set_option maxRecDepth 20000 in
theorem zi0_718 {E : zE} {x : Nat} {ls sk : List Value} {h : zH} : zrun zpp E 0 (718, .ref x :: ls, sk, h) = zrun zpp E 0 (719, .ref x :: ls, .ref x :: sk, h) := zrun_at (i := (.aload_n 0, 719, 0, [])) rfl
set_option maxRecDepth 20000 in
theorem zi0_718n {E : zE} {ls sk : List Value} {h : zH} : zrun zpp E 0 (718, .null :: ls, sk, h) = zrun zpp E 0 (719, .null :: ls, .null :: sk, h) := zrun_at (i := (.aload_n 0, 719, 0, [])) rfl
set_option maxRecDepth 20000 in
theorem zi0_718f {E : zE} {x : UInt32} {ls sk : List Value} {h : zH} : zrun zpp E 0 (718, .float x :: ls, sk, h) = zrun zpp E 0 (719, .float x :: ls, .float x :: sk, h) := zrun_at (i := (.aload_n 0, 719, 0, [])) rfl
set_option maxRecDepth 20000 in
theorem zi0_719 {E : zE} {v0 v1 v2 : Value} {x : Int32} {ls sk : List Value} {h : zH} : zrun zpp E 0 (719, v0 :: v1 :: v2 :: .int x :: ls, sk, h) = zrun zpp E 0 (720, v0 :: v1 :: v2 :: .int x :: ls, .int x :: sk, h) := zrun_at (i := (.iload_n 3, 720, 0, [])) rfl
set_option maxRecDepth 20000 in
theorem zi0_720 {E : zE} {ls sk : List Value} {h : zH} : zrun zpp E 0 (720, ls, sk, h) = zrun zpp E 0 (721, ls, .int 1 :: sk, h) := zg_iconst rfl ci_1
set_option maxRecDepth 20000 in
theorem zi0_721 {E : zE} {x y : Int32} {ls sk : List Value} {h : zH} : zrun zpp E 0 (721, ls, .int y :: .int x :: sk, h) = zrun zpp E 0 (722, ls, .int (x + y) :: sk, h) := zrun_at (i := (.iadd, 722, 0, [])) rfl
set_option maxRecDepth 20000 in
theorem zi0_722 {E : zE} {x : UInt32} {i : Int32} {ls sk : List Value} {h : zH} : zrun zpp E 0 (722, ls, .int i :: .float x :: sk, h) = if zix i E.1 = true then zrun zpp E 0 (723, ls, .int (E.2 i.toNatClampNeg) :: sk, h) else none := zg_sald rfl
set_option maxRecDepth 20000 in
theorem zi0_723 {E : zE} {x : Nat} {ls sk : List Value} {h : zH} : zrun zpp E 0 (723, .ref x :: ls, sk, h) = zrun zpp E 0 (724, .ref x :: ls, .ref x :: sk, h) := zrun_at (i := (.aload_n 0, 724, 0, [])) rfl
set_option maxRecDepth 20000 in
theorem zi0_723n {E : zE} {ls sk : List Value} {h : zH} : zrun zpp E 0 (723, .null :: ls, sk, h) = zrun zpp E 0 (724, .null :: ls, .null :: sk, h) := zrun_at (i := (.aload_n 0, 724, 0, [])) rfl
set_option maxRecDepth 20000 in
theorem zi0_723f {E : zE} {x : UInt32} {ls sk : List Value} {h : zH} : zrun zpp E 0 (723, .float x :: ls, sk, h) = zrun zpp E 0 (724, .float x :: ls, .float x :: sk, h) := zrun_at (i := (.aload_n 0, 724, 0, [])) rfl
set_option maxRecDepth 20000 in
theorem zi0_724 {E : zE} {v0 v1 v2 : Value} {x : Int32} {ls sk : List Value} {h : zH} : zrun zpp E 0 (724, v0 :: v1 :: v2 :: .int x :: ls, sk, h) = zrun zpp E 0 (725, v0 :: v1 :: v2 :: .int x :: ls, .int x :: sk, h) := zrun_at (i := (.iload_n 3, 725, 0, [])) rfl
set_option maxRecDepth 20000 in
theorem zi0_725 {E : zE} {ls sk : List Value} {h : zH} : zrun zpp E 0 (725, ls, sk, h) = zrun zpp E 0 (726, ls, .int 2 :: sk, h) := zg_iconst rfl ci_2
set_option maxRecDepth 20000 in
theorem zi0_726 {E : zE} {x y : Int32} {ls sk : List Value} {h : zH} : zrun zpp E 0 (726, ls, .int y :: .int x :: sk, h) = zrun zpp E 0 (727, ls, .int (x + y) :: sk, h) := zrun_at (i := (.iadd, 727, 0, [])) rfl
set_option maxRecDepth 20000 in
theorem zi0_727 {E : zE} {x : UInt32} {i : Int32} {ls sk : List Value} {h : zH} : zrun zpp E 0 (727, ls, .int i :: .float x :: sk, h) = if zix i E.1 = true then zrun zpp E 0 (728, ls, .int (E.2 i.toNatClampNeg) :: sk, h) else none := zg_sald rfl
set_option maxRecDepth 20000 in
theorem zi0_728 {E : zE} {a0 a1 : Value} {x : Nat} {ls sk : List Value} {h : zH} : zrun zpp E 0 (728, ls, a1 :: a0 :: .ref x :: sk, h) = (zcls h x).bind (fun d => (zsel d [11, 202]).bind (fun M' => zcl1 E 0 731 M' ls sk [.ref x, a0, a1] h)) := zg_vir (as := [a0, a1]) rfl rfl
set_option maxRecDepth 20000 in
theorem zi0_731 {E : zE} {x y : Int32} {ls sk : List Value} {h : zH} : zrun zpp E 0 (731, ls, .int y :: .int x :: sk, h) = if x = y then zrun zpp E 0 (1301, ls, sk, h) else zrun zpp E 0 (734, ls, sk, h) := zrun_at (i := (.if_icmp .eq 570, 734, 0, [1301])) rfl
set_option maxRecDepth 20000 in
theorem zi0_734 {E : zE} {ls sk : List Value} {h : zH} : zrun zpp E 0 (734, ls, sk, h) = zrun zpp E 0 (735, ls, .int 0 :: sk, h) := zg_iconst rfl ci_0
set_option maxRecDepth 20000 in
theorem zi0_735 {E : zE} {x : Int32} {ls sk : List Value} {h : zH} : zrun zpp E 0 (735, ls, [.int x], h) = if x = 0 then some (some (.int 0), h) else if x = 1 then some (some (.int 1), h) else none := zrun_at (i := (.ireturn, 736, 1, [])) rfl
set_option maxRecDepth 20000 in
theorem zi0_736 {E : zE} {v0 : Value} {x : Nat} {ls sk : List Value} {h : zH} : zrun zpp E 0 (736, v0 :: .ref x :: ls, sk, h) = zrun zpp E 0 (737, v0 :: .ref x :: ls, .ref x :: sk, h) := zrun_at (i := (.aload_n 1, 737, 0, [])) rfl
set_option maxRecDepth 20000 in
theorem zi0_736n {E : zE} {v0 : Value} {ls sk : List Value} {h : zH} : zrun zpp E 0 (736, v0 :: .null :: ls, sk, h) = zrun zpp E 0 (737, v0 :: .null :: ls, .null :: sk, h) := zrun_at (i := (.aload_n 1, 737, 0, [])) rfl
set_option maxRecDepth 20000 in
theorem zi0_736f {E : zE} {v0 : Value} {x : UInt32} {ls sk : List Value} {h : zH} : zrun zpp E 0 (736, v0 :: .float x :: ls, sk, h) = zrun zpp E 0 (737, v0 :: .float x :: ls, .float x :: sk, h) := zrun_at (i := (.aload_n 1, 737, 0, [])) rfl
set_option maxRecDepth 20000 in
theorem zi0_737 {E : zE} {x : Nat} {ls sk : List Value} {h : zH} : zrun zpp E 0 (737, .ref x :: ls, sk, h) = zrun zpp E 0 (738, .ref x :: ls, .ref x :: sk, h) := zrun_at (i := (.aload_n 0, 738, 0, [])) rfl
set_option maxRecDepth 20000 in
theorem zi0_737n {E : zE} {ls sk : List Value} {h : zH} : zrun zpp E 0 (737, .null :: ls, sk, h) = zrun zpp E 0 (738, .null :: ls, .null :: sk, h) := zrun_at (i := (.aload_n 0, 738, 0, [])) rfl
set_option maxRecDepth 20000 in
theorem zi0_737f {E : zE} {x : UInt32} {ls sk : List Value} {h : zH} : zrun zpp E 0 (737, .float x :: ls, sk, h) = zrun zpp E 0 (738, .float x :: ls, .float x :: sk, h) := zrun_at (i := (.aload_n 0, 738, 0, [])) rfl
set_option maxRecDepth 20000 in
theorem zi0_738 {E : zE} {v0 v1 v2 : Value} {x : Int32} {ls sk : List Value} {h : zH} : zrun zpp E 0 (738, v0 :: v1 :: v2 :: .int x :: ls, sk, h) = zrun zpp E 0 (739, v0 :: v1 :: v2 :: .int x :: ls, .int x :: sk, h) := zrun_at (i := (.iload_n 3, 739, 0, [])) rfl
set_option maxRecDepth 20000 in
theorem zi0_739 {E : zE} {ls sk : List Value} {h : zH} : zrun zpp E 0 (739, ls, sk, h) = zrun zpp E 0 (740, ls, .int 1 :: sk, h) := zg_iconst rfl ci_1
set_option maxRecDepth 20000 in
theorem zi0_740 {E : zE} {x y : Int32} {ls sk : List Value} {h : zH} : zrun zpp E 0 (740, ls, .int y :: .int x :: sk, h) = zrun zpp E 0 (741, ls, .int (x + y) :: sk, h) := zrun_at (i := (.iadd, 741, 0, [])) rfl
set_option maxRecDepth 20000 in
theorem zi0_741 {E : zE} {x : UInt32} {i : Int32} {ls sk : List Value} {h : zH} : zrun zpp E 0 (741, ls, .int i :: .float x :: sk, h) = if zix i E.1 = true then zrun zpp E 0 (742, ls, .int (E.2 i.toNatClampNeg) :: sk, h) else none := zg_sald rfl
set_option maxRecDepth 20000 in
theorem zi0_742 {E : zE} {a0 : Value} {x : Nat} {ls sk : List Value} {h : zH} : zrun zpp E 0 (742, ls, a0 :: .ref x :: sk, h) = (zcls h x).bind (fun d => (zsel d [10, 108]).bind (fun M' => zcl1 E 0 745 M' ls sk [.ref x, a0] h)) := zg_vir (as := [a0]) rfl rfl
set_option maxRecDepth 20000 in
theorem zi0_745 {E : zE} {v0 v1 : Value} {x : Nat} {ls sk : List Value} {h : zH} : zrun zpp E 0 (745, v0 :: v1 :: .ref x :: ls, sk, h) = zrun zpp E 0 (746, v0 :: v1 :: .ref x :: ls, .ref x :: sk, h) := zrun_at (i := (.aload_n 2, 746, 0, [])) rfl
set_option maxRecDepth 20000 in
theorem zi0_745n {E : zE} {v0 v1 : Value} {ls sk : List Value} {h : zH} : zrun zpp E 0 (745, v0 :: v1 :: .null :: ls, sk, h) = zrun zpp E 0 (746, v0 :: v1 :: .null :: ls, .null :: sk, h) := zrun_at (i := (.aload_n 2, 746, 0, [])) rfl
set_option maxRecDepth 20000 in
theorem zi0_745f {E : zE} {v0 v1 : Value} {x : UInt32} {ls sk : List Value} {h : zH} : zrun zpp E 0 (745, v0 :: v1 :: .float x :: ls, sk, h) = zrun zpp E 0 (746, v0 :: v1 :: .float x :: ls, .float x :: sk, h) := zrun_at (i := (.aload_n 2, 746, 0, [])) rfl
set_option maxRecDepth 20000 in
theorem zi0_746 {E : zE} {x : Nat} {ls sk : List Value} {h : zH} : zrun zpp E 0 (746, .ref x :: ls, sk, h) = zrun zpp E 0 (747, .ref x :: ls, .ref x :: sk, h) := zrun_at (i := (.aload_n 0, 747, 0, [])) rfl
set_option maxRecDepth 20000 in
theorem zi0_746n {E : zE} {ls sk : List Value} {h : zH} : zrun zpp E 0 (746, .null :: ls, sk, h) = zrun zpp E 0 (747, .null :: ls, .null :: sk, h) := zrun_at (i := (.aload_n 0, 747, 0, [])) rfl
set_option maxRecDepth 20000 in
theorem zi0_746f {E : zE} {x : UInt32} {ls sk : List Value} {h : zH} : zrun zpp E 0 (746, .float x :: ls, sk, h) = zrun zpp E 0 (747, .float x :: ls, .float x :: sk, h) := zrun_at (i := (.aload_n 0, 747, 0, [])) rfl
set_option maxRecDepth 20000 in
theorem zi0_747 {E : zE} {v0 v1 v2 : Value} {x : Int32} {ls sk : List Value} {h : zH} : zrun zpp E 0 (747, v0 :: v1 :: v2 :: .int x :: ls, sk, h) = zrun zpp E 0 (748, v0 :: v1 :: v2 :: .int x :: ls, .int x :: sk, h) := zrun_at (i := (.iload_n 3, 748, 0, [])) rfl
set_option maxRecDepth 20000 in
theorem zi0_748 {E : zE} {ls sk : List Value} {h : zH} : zrun zpp E 0 (748, ls, sk, h) = zrun zpp E 0 (749, ls, .int 1 :: sk, h) := zg_iconst rfl ci_1
set_option maxRecDepth 20000 in
theorem zi0_749 {E : zE} {x y : Int32} {ls sk : List Value} {h : zH} : zrun zpp E 0 (749, ls, .int y :: .int x :: sk, h) = zrun zpp E 0 (750, ls, .int (x + y) :: sk, h) := zrun_at (i := (.iadd, 750, 0, [])) rfl
set_option maxRecDepth 20000 in
theorem zi0_750 {E : zE} {x : UInt32} {i : Int32} {ls sk : List Value} {h : zH} : zrun zpp E 0 (750, ls, .int i :: .float x :: sk, h) = if zix i E.1 = true then zrun zpp E 0 (751, ls, .int (E.2 i.toNatClampNeg) :: sk, h) else none := zg_sald rfl
set_option maxRecDepth 20000 in
theorem zi0_751 {E : zE} {a0 : Value} {x : Nat} {ls sk : List Value} {h : zH} : zrun zpp E 0 (751, ls, a0 :: .ref x :: sk, h) = (zcls h x).bind (fun d => (zsel d [11, 204]).bind (fun M' => zcl1 E 0 754 M' ls sk [.ref x, a0] h)) := zg_vir (as := [a0]) rfl rfl
set_option maxRecDepth 20000 in
theorem zi0_754 {E : zE} {x y : Int32} {ls sk : List Value} {h : zH} : zrun zpp E 0 (754, ls, .int y :: .int x :: sk, h) = if x = y then zrun zpp E 0 (1301, ls, sk, h) else zrun zpp E 0 (757, ls, sk, h) := zrun_at (i := (.if_icmp .eq 547, 757, 0, [1301])) rfl
set_option maxRecDepth 20000 in
theorem zi0_757 {E : zE} {ls sk : List Value} {h : zH} : zrun zpp E 0 (757, ls, sk, h) = zrun zpp E 0 (758, ls, .int 0 :: sk, h) := zg_iconst rfl ci_0
set_option maxRecDepth 20000 in
theorem zi0_758 {E : zE} {x : Int32} {ls sk : List Value} {h : zH} : zrun zpp E 0 (758, ls, [.int x], h) = if x = 0 then some (some (.int 0), h) else if x = 1 then some (some (.int 1), h) else none := zrun_at (i := (.ireturn, 759, 1, [])) rfl
set_option maxRecDepth 20000 in
theorem zi0_759 {E : zE} {v0 : Value} {x : Nat} {ls sk : List Value} {h : zH} : zrun zpp E 0 (759, v0 :: .ref x :: ls, sk, h) = zrun zpp E 0 (760, v0 :: .ref x :: ls, .ref x :: sk, h) := zrun_at (i := (.aload_n 1, 760, 0, [])) rfl
set_option maxRecDepth 20000 in
theorem zi0_759n {E : zE} {v0 : Value} {ls sk : List Value} {h : zH} : zrun zpp E 0 (759, v0 :: .null :: ls, sk, h) = zrun zpp E 0 (760, v0 :: .null :: ls, .null :: sk, h) := zrun_at (i := (.aload_n 1, 760, 0, [])) rfl
set_option maxRecDepth 20000 in
theorem zi0_759f {E : zE} {v0 : Value} {x : UInt32} {ls sk : List Value} {h : zH} : zrun zpp E 0 (759, v0 :: .float x :: ls, sk, h) = zrun zpp E 0 (760, v0 :: .float x :: ls, .float x :: sk, h) := zrun_at (i := (.aload_n 1, 760, 0, [])) rfl
set_option maxRecDepth 20000 in
theorem zi0_760 {E : zE} {x : Nat} {ls sk : List Value} {h : zH} : zrun zpp E 0 (760, .ref x :: ls, sk, h) = zrun zpp E 0 (761, .ref x :: ls, .ref x :: sk, h) := zrun_at (i := (.aload_n 0, 761, 0, [])) rfl
set_option maxRecDepth 20000 in
theorem zi0_760n {E : zE} {ls sk : List Value} {h : zH} : zrun zpp E 0 (760, .null :: ls, sk, h) = zrun zpp E 0 (761, .null :: ls, .null :: sk, h) := zrun_at (i := (.aload_n 0, 761, 0, [])) rfl
set_option maxRecDepth 20000 in
theorem zi0_760f {E : zE} {x : UInt32} {ls sk : List Value} {h : zH} : zrun zpp E 0 (760, .float x :: ls, sk, h) = zrun zpp E 0 (761, .float x :: ls, .float x :: sk, h) := zrun_at (i := (.aload_n 0, 761, 0, [])) rfl
set_option maxRecDepth 20000 in
theorem zi0_761 {E : zE} {v0 v1 v2 : Value} {x : Int32} {ls sk : List Value} {h : zH} : zrun zpp E 0 (761, v0 :: v1 :: v2 :: .int x :: ls, sk, h) = zrun zpp E 0 (762, v0 :: v1 :: v2 :: .int x :: ls, .int x :: sk, h) := zrun_at (i := (.iload_n 3, 762, 0, [])) rfl
set_option maxRecDepth 20000 in
theorem zi0_762 {E : zE} {ls sk : List Value} {h : zH} : zrun zpp E 0 (762, ls, sk, h) = zrun zpp E 0 (763, ls, .int 1 :: sk, h) := zg_iconst rfl ci_1
set_option maxRecDepth 20000 in
theorem zi0_763 {E : zE} {x y : Int32} {ls sk : List Value} {h : zH} : zrun zpp E 0 (763, ls, .int y :: .int x :: sk, h) = zrun zpp E 0 (764, ls, .int (x + y) :: sk, h) := zrun_at (i := (.iadd, 764, 0, [])) rfl
set_option maxRecDepth 20000 in
theorem zi0_764 {E : zE} {x : UInt32} {i : Int32} {ls sk : List Value} {h : zH} : zrun zpp E 0 (764, ls, .int i :: .float x :: sk, h) = if zix i E.1 = true then zrun zpp E 0 (765, ls, .int (E.2 i.toNatClampNeg) :: sk, h) else none := zg_sald rfl
set_option maxRecDepth 20000 in
theorem zi0_765 {E : zE} {a0 : Value} {x : Nat} {ls sk : List Value} {h : zH} : zrun zpp E 0 (765, ls, a0 :: .ref x :: sk, h) = (zcls h x).bind (fun d => (zsel d [10, 109]).bind (fun M' => zcl1 E 0 768 M' ls sk [.ref x, a0] h)) := zg_vir (as := [a0]) rfl rfl
set_option maxRecDepth 20000 in
theorem zi0_768 {E : zE} {v0 v1 : Value} {x : Nat} {ls sk : List Value} {h : zH} : zrun zpp E 0 (768, v0 :: v1 :: .ref x :: ls, sk, h) = zrun zpp E 0 (769, v0 :: v1 :: .ref x :: ls, .ref x :: sk, h) := zrun_at (i := (.aload_n 2, 769, 0, [])) rfl
set_option maxRecDepth 20000 in
theorem zi0_768n {E : zE} {v0 v1 : Value} {ls sk : List Value} {h : zH} : zrun zpp E 0 (768, v0 :: v1 :: .null :: ls, sk, h) = zrun zpp E 0 (769, v0 :: v1 :: .null :: ls, .null :: sk, h) := zrun_at (i := (.aload_n 2, 769, 0, [])) rfl
set_option maxRecDepth 20000 in
theorem zi0_768f {E : zE} {v0 v1 : Value} {x : UInt32} {ls sk : List Value} {h : zH} : zrun zpp E 0 (768, v0 :: v1 :: .float x :: ls, sk, h) = zrun zpp E 0 (769, v0 :: v1 :: .float x :: ls, .float x :: sk, h) := zrun_at (i := (.aload_n 2, 769, 0, [])) rfl
set_option maxRecDepth 20000 in
theorem zi0_769 {E : zE} {x : Nat} {ls sk : List Value} {h : zH} : zrun zpp E 0 (769, .ref x :: ls, sk, h) = zrun zpp E 0 (770, .ref x :: ls, .ref x :: sk, h) := zrun_at (i := (.aload_n 0, 770, 0, [])) rfl
set_option maxRecDepth 20000 in
theorem zi0_769n {E : zE} {ls sk : List Value} {h : zH} : zrun zpp E 0 (769, .null :: ls, sk, h) = zrun zpp E 0 (770, .null :: ls, .null :: sk, h) := zrun_at (i := (.aload_n 0, 770, 0, [])) rfl
set_option maxRecDepth 20000 in
theorem zi0_769f {E : zE} {x : UInt32} {ls sk : List Value} {h : zH} : zrun zpp E 0 (769, .float x :: ls, sk, h) = zrun zpp E 0 (770, .float x :: ls, .float x :: sk, h) := zrun_at (i := (.aload_n 0, 770, 0, [])) rfl
set_option maxRecDepth 20000 in
theorem zi0_770 {E : zE} {v0 v1 v2 : Value} {x : Int32} {ls sk : List Value} {h : zH} : zrun zpp E 0 (770, v0 :: v1 :: v2 :: .int x :: ls, sk, h) = zrun zpp E 0 (771, v0 :: v1 :: v2 :: .int x :: ls, .int x :: sk, h) := zrun_at (i := (.iload_n 3, 771, 0, [])) rfl
set_option maxRecDepth 20000 in
theorem zi0_771 {E : zE} {ls sk : List Value} {h : zH} : zrun zpp E 0 (771, ls, sk, h) = zrun zpp E 0 (772, ls, .int 1 :: sk, h) := zg_iconst rfl ci_1
set_option maxRecDepth 20000 in
theorem zi0_772 {E : zE} {x y : Int32} {ls sk : List Value} {h : zH} : zrun zpp E 0 (772, ls, .int y :: .int x :: sk, h) = zrun zpp E 0 (773, ls, .int (x + y) :: sk, h) := zrun_at (i := (.iadd, 773, 0, [])) rfl
set_option maxRecDepth 20000 in
theorem zi0_773 {E : zE} {x : UInt32} {i : Int32} {ls sk : List Value} {h : zH} : zrun zpp E 0 (773, ls, .int i :: .float x :: sk, h) = if zix i E.1 = true then zrun zpp E 0 (774, ls, .int (E.2 i.toNatClampNeg) :: sk, h) else none := zg_sald rfl
set_option maxRecDepth 20000 in
theorem zi0_774 {E : zE} {a0 : Value} {x : Nat} {ls sk : List Value} {h : zH} : zrun zpp E 0 (774, ls, a0 :: .ref x :: sk, h) = (zcls h x).bind (fun d => (zsel d [11, 205]).bind (fun M' => zcl1 E 0 777 M' ls sk [.ref x, a0] h)) := zg_vir (as := [a0]) rfl rfl
set_option maxRecDepth 20000 in
theorem zi0_777 {E : zE} {x y : Int32} {ls sk : List Value} {h : zH} : zrun zpp E 0 (777, ls, .int y :: .int x :: sk, h) = if x = y then zrun zpp E 0 (1301, ls, sk, h) else zrun zpp E 0 (780, ls, sk, h) := zrun_at (i := (.if_icmp .eq 524, 780, 0, [1301])) rfl
set_option maxRecDepth 20000 in
theorem zi0_780 {E : zE} {ls sk : List Value} {h : zH} : zrun zpp E 0 (780, ls, sk, h) = zrun zpp E 0 (781, ls, .int 0 :: sk, h) := zg_iconst rfl ci_0
set_option maxRecDepth 20000 in
theorem zi0_781 {E : zE} {x : Int32} {ls sk : List Value} {h : zH} : zrun zpp E 0 (781, ls, [.int x], h) = if x = 0 then some (some (.int 0), h) else if x = 1 then some (some (.int 1), h) else none := zrun_at (i := (.ireturn, 782, 1, [])) rfl
set_option maxRecDepth 20000 in
theorem zi0_782 {E : zE} {v0 : Value} {x : Nat} {ls sk : List Value} {h : zH} : zrun zpp E 0 (782, v0 :: .ref x :: ls, sk, h) = zrun zpp E 0 (783, v0 :: .ref x :: ls, .ref x :: sk, h) := zrun_at (i := (.aload_n 1, 783, 0, [])) rfl
set_option maxRecDepth 20000 in
theorem zi0_782n {E : zE} {v0 : Value} {ls sk : List Value} {h : zH} : zrun zpp E 0 (782, v0 :: .null :: ls, sk, h) = zrun zpp E 0 (783, v0 :: .null :: ls, .null :: sk, h) := zrun_at (i := (.aload_n 1, 783, 0, [])) rfl
set_option maxRecDepth 20000 in
theorem zi0_782f {E : zE} {v0 : Value} {x : UInt32} {ls sk : List Value} {h : zH} : zrun zpp E 0 (782, v0 :: .float x :: ls, sk, h) = zrun zpp E 0 (783, v0 :: .float x :: ls, .float x :: sk, h) := zrun_at (i := (.aload_n 1, 783, 0, [])) rfl
set_option maxRecDepth 20000 in
theorem zi0_783 {E : zE} {x : Nat} {ls sk : List Value} {h : zH} : zrun zpp E 0 (783, .ref x :: ls, sk, h) = zrun zpp E 0 (784, .ref x :: ls, .ref x :: sk, h) := zrun_at (i := (.aload_n 0, 784, 0, [])) rfl
set_option maxRecDepth 20000 in
theorem zi0_783n {E : zE} {ls sk : List Value} {h : zH} : zrun zpp E 0 (783, .null :: ls, sk, h) = zrun zpp E 0 (784, .null :: ls, .null :: sk, h) := zrun_at (i := (.aload_n 0, 784, 0, [])) rfl
set_option maxRecDepth 20000 in
theorem zi0_783f {E : zE} {x : UInt32} {ls sk : List Value} {h : zH} : zrun zpp E 0 (783, .float x :: ls, sk, h) = zrun zpp E 0 (784, .float x :: ls, .float x :: sk, h) := zrun_at (i := (.aload_n 0, 784, 0, [])) rfl
set_option maxRecDepth 20000 in
theorem zi0_784 {E : zE} {v0 v1 v2 : Value} {x : Int32} {ls sk : List Value} {h : zH} : zrun zpp E 0 (784, v0 :: v1 :: v2 :: .int x :: ls, sk, h) = zrun zpp E 0 (785, v0 :: v1 :: v2 :: .int x :: ls, .int x :: sk, h) := zrun_at (i := (.iload_n 3, 785, 0, [])) rfl
set_option maxRecDepth 20000 in
theorem zi0_785 {E : zE} {ls sk : List Value} {h : zH} : zrun zpp E 0 (785, ls, sk, h) = zrun zpp E 0 (786, ls, .int 1 :: sk, h) := zg_iconst rfl ci_1
set_option maxRecDepth 20000 in
theorem zi0_786 {E : zE} {x y : Int32} {ls sk : List Value} {h : zH} : zrun zpp E 0 (786, ls, .int y :: .int x :: sk, h) = zrun zpp E 0 (787, ls, .int (x + y) :: sk, h) := zrun_at (i := (.iadd, 787, 0, [])) rfl
set_option maxRecDepth 20000 in
theorem zi0_787 {E : zE} {x : UInt32} {i : Int32} {ls sk : List Value} {h : zH} : zrun zpp E 0 (787, ls, .int i :: .float x :: sk, h) = if zix i E.1 = true then zrun zpp E 0 (788, ls, .int (E.2 i.toNatClampNeg) :: sk, h) else none := zg_sald rfl
set_option maxRecDepth 20000 in
theorem zi0_788 {E : zE} {a0 : Value} {x : Nat} {ls sk : List Value} {h : zH} : zrun zpp E 0 (788, ls, a0 :: .ref x :: sk, h) = (zcls h x).bind (fun d => (zsel d [10, 110]).bind (fun M' => zcl1 E 0 791 M' ls sk [.ref x, a0] h)) := zg_vir (as := [a0]) rfl rfl
set_option maxRecDepth 20000 in
theorem zi0_791 {E : zE} {v0 v1 : Value} {x : Nat} {ls sk : List Value} {h : zH} : zrun zpp E 0 (791, v0 :: v1 :: .ref x :: ls, sk, h) = zrun zpp E 0 (792, v0 :: v1 :: .ref x :: ls, .ref x :: sk, h) := zrun_at (i := (.aload_n 2, 792, 0, [])) rfl
set_option maxRecDepth 20000 in
theorem zi0_791n {E : zE} {v0 v1 : Value} {ls sk : List Value} {h : zH} : zrun zpp E 0 (791, v0 :: v1 :: .null :: ls, sk, h) = zrun zpp E 0 (792, v0 :: v1 :: .null :: ls, .null :: sk, h) := zrun_at (i := (.aload_n 2, 792, 0, [])) rfl
set_option maxRecDepth 20000 in
theorem zi0_791f {E : zE} {v0 v1 : Value} {x : UInt32} {ls sk : List Value} {h : zH} : zrun zpp E 0 (791, v0 :: v1 :: .float x :: ls, sk, h) = zrun zpp E 0 (792, v0 :: v1 :: .float x :: ls, .float x :: sk, h) := zrun_at (i := (.aload_n 2, 792, 0, [])) rfl
set_option maxRecDepth 20000 in
theorem zi0_792 {E : zE} {x : Nat} {ls sk : List Value} {h : zH} : zrun zpp E 0 (792, .ref x :: ls, sk, h) = zrun zpp E 0 (793, .ref x :: ls, .ref x :: sk, h) := zrun_at (i := (.aload_n 0, 793, 0, [])) rfl
set_option maxRecDepth 20000 in
theorem zi0_792n {E : zE} {ls sk : List Value} {h : zH} : zrun zpp E 0 (792, .null :: ls, sk, h) = zrun zpp E 0 (793, .null :: ls, .null :: sk, h) := zrun_at (i := (.aload_n 0, 793, 0, [])) rfl
set_option maxRecDepth 20000 in
theorem zi0_792f {E : zE} {x : UInt32} {ls sk : List Value} {h : zH} : zrun zpp E 0 (792, .float x :: ls, sk, h) = zrun zpp E 0 (793, .float x :: ls, .float x :: sk, h) := zrun_at (i := (.aload_n 0, 793, 0, [])) rfl
set_option maxRecDepth 20000 in
theorem zi0_793 {E : zE} {v0 v1 v2 : Value} {x : Int32} {ls sk : List Value} {h : zH} : zrun zpp E 0 (793, v0 :: v1 :: v2 :: .int x :: ls, sk, h) = zrun zpp E 0 (794, v0 :: v1 :: v2 :: .int x :: ls, .int x :: sk, h) := zrun_at (i := (.iload_n 3, 794, 0, [])) rfl
set_option maxRecDepth 20000 in
theorem zi0_794 {E : zE} {ls sk : List Value} {h : zH} : zrun zpp E 0 (794, ls, sk, h) = zrun zpp E 0 (795, ls, .int 1 :: sk, h) := zg_iconst rfl ci_1
set_option maxRecDepth 20000 in
theorem zi0_795 {E : zE} {x y : Int32} {ls sk : List Value} {h : zH} : zrun zpp E 0 (795, ls, .int y :: .int x :: sk, h) = zrun zpp E 0 (796, ls, .int (x + y) :: sk, h) := zrun_at (i := (.iadd, 796, 0, [])) rfl
set_option maxRecDepth 20000 in
theorem zi0_796 {E : zE} {x : UInt32} {i : Int32} {ls sk : List Value} {h : zH} : zrun zpp E 0 (796, ls, .int i :: .float x :: sk, h) = if zix i E.1 = true then zrun zpp E 0 (797, ls, .int (E.2 i.toNatClampNeg) :: sk, h) else none := zg_sald rfl
set_option maxRecDepth 20000 in
theorem zi0_797 {E : zE} {a0 : Value} {x : Nat} {ls sk : List Value} {h : zH} : zrun zpp E 0 (797, ls, a0 :: .ref x :: sk, h) = (zcls h x).bind (fun d => (zsel d [11, 206]).bind (fun M' => zcl1 E 0 800 M' ls sk [.ref x, a0] h)) := zg_vir (as := [a0]) rfl rfl
set_option maxRecDepth 20000 in
theorem zi0_800 {E : zE} {x y : Int32} {ls sk : List Value} {h : zH} : zrun zpp E 0 (800, ls, .int y :: .int x :: sk, h) = if x = y then zrun zpp E 0 (1301, ls, sk, h) else zrun zpp E 0 (803, ls, sk, h) := zrun_at (i := (.if_icmp .eq 501, 803, 0, [1301])) rfl
set_option maxRecDepth 20000 in
theorem zi0_803 {E : zE} {ls sk : List Value} {h : zH} : zrun zpp E 0 (803, ls, sk, h) = zrun zpp E 0 (804, ls, .int 0 :: sk, h) := zg_iconst rfl ci_0
set_option maxRecDepth 20000 in
theorem zi0_804 {E : zE} {x : Int32} {ls sk : List Value} {h : zH} : zrun zpp E 0 (804, ls, [.int x], h) = if x = 0 then some (some (.int 0), h) else if x = 1 then some (some (.int 1), h) else none := zrun_at (i := (.ireturn, 805, 1, [])) rfl
set_option maxRecDepth 20000 in
theorem zi0_805 {E : zE} {v0 : Value} {x : Nat} {ls sk : List Value} {h : zH} : zrun zpp E 0 (805, v0 :: .ref x :: ls, sk, h) = zrun zpp E 0 (806, v0 :: .ref x :: ls, .ref x :: sk, h) := zrun_at (i := (.aload_n 1, 806, 0, [])) rfl
set_option maxRecDepth 20000 in
theorem zi0_805n {E : zE} {v0 : Value} {ls sk : List Value} {h : zH} : zrun zpp E 0 (805, v0 :: .null :: ls, sk, h) = zrun zpp E 0 (806, v0 :: .null :: ls, .null :: sk, h) := zrun_at (i := (.aload_n 1, 806, 0, [])) rfl
set_option maxRecDepth 20000 in
theorem zi0_805f {E : zE} {v0 : Value} {x : UInt32} {ls sk : List Value} {h : zH} : zrun zpp E 0 (805, v0 :: .float x :: ls, sk, h) = zrun zpp E 0 (806, v0 :: .float x :: ls, .float x :: sk, h) := zrun_at (i := (.aload_n 1, 806, 0, [])) rfl
set_option maxRecDepth 20000 in
theorem zi0_806 {E : zE} {x : Nat} {ls sk : List Value} {h : zH} : zrun zpp E 0 (806, .ref x :: ls, sk, h) = zrun zpp E 0 (807, .ref x :: ls, .ref x :: sk, h) := zrun_at (i := (.aload_n 0, 807, 0, [])) rfl
set_option maxRecDepth 20000 in
theorem zi0_806n {E : zE} {ls sk : List Value} {h : zH} : zrun zpp E 0 (806, .null :: ls, sk, h) = zrun zpp E 0 (807, .null :: ls, .null :: sk, h) := zrun_at (i := (.aload_n 0, 807, 0, [])) rfl
set_option maxRecDepth 20000 in
theorem zi0_806f {E : zE} {x : UInt32} {ls sk : List Value} {h : zH} : zrun zpp E 0 (806, .float x :: ls, sk, h) = zrun zpp E 0 (807, .float x :: ls, .float x :: sk, h) := zrun_at (i := (.aload_n 0, 807, 0, [])) rfl
set_option maxRecDepth 20000 in
theorem zi0_807 {E : zE} {v0 v1 v2 : Value} {x : Int32} {ls sk : List Value} {h : zH} : zrun zpp E 0 (807, v0 :: v1 :: v2 :: .int x :: ls, sk, h) = zrun zpp E 0 (808, v0 :: v1 :: v2 :: .int x :: ls, .int x :: sk, h) := zrun_at (i := (.iload_n 3, 808, 0, [])) rfl
set_option maxRecDepth 20000 in
theorem zi0_808 {E : zE} {ls sk : List Value} {h : zH} : zrun zpp E 0 (808, ls, sk, h) = zrun zpp E 0 (809, ls, .int 1 :: sk, h) := zg_iconst rfl ci_1
set_option maxRecDepth 20000 in
theorem zi0_809 {E : zE} {x y : Int32} {ls sk : List Value} {h : zH} : zrun zpp E 0 (809, ls, .int y :: .int x :: sk, h) = zrun zpp E 0 (810, ls, .int (x + y) :: sk, h) := zrun_at (i := (.iadd, 810, 0, [])) rfl
set_option maxRecDepth 20000 in
theorem zi0_810 {E : zE} {x : UInt32} {i : Int32} {ls sk : List Value} {h : zH} : zrun zpp E 0 (810, ls, .int i :: .float x :: sk, h) = if zix i E.1 = true then zrun zpp E 0 (811, ls, .int (E.2 i.toNatClampNeg) :: sk, h) else none := zg_sald rfl
set_option maxRecDepth 20000 in
theorem zi0_811 {E : zE} {x : Nat} {ls sk : List Value} {h : zH} : zrun zpp E 0 (811, .ref x :: ls, sk, h) = zrun zpp E 0 (812, .ref x :: ls, .ref x :: sk, h) := zrun_at (i := (.aload_n 0, 812, 0, [])) rfl
set_option maxRecDepth 20000 in
theorem zi0_811n {E : zE} {ls sk : List Value} {h : zH} : zrun zpp E 0 (811, .null :: ls, sk, h) = zrun zpp E 0 (812, .null :: ls, .null :: sk, h) := zrun_at (i := (.aload_n 0, 812, 0, [])) rfl
set_option maxRecDepth 20000 in
theorem zi0_811f {E : zE} {x : UInt32} {ls sk : List Value} {h : zH} : zrun zpp E 0 (811, .float x :: ls, sk, h) = zrun zpp E 0 (812, .float x :: ls, .float x :: sk, h) := zrun_at (i := (.aload_n 0, 812, 0, [])) rfl
set_option maxRecDepth 20000 in
theorem zi0_812 {E : zE} {v0 v1 v2 : Value} {x : Int32} {ls sk : List Value} {h : zH} : zrun zpp E 0 (812, v0 :: v1 :: v2 :: .int x :: ls, sk, h) = zrun zpp E 0 (813, v0 :: v1 :: v2 :: .int x :: ls, .int x :: sk, h) := zrun_at (i := (.iload_n 3, 813, 0, [])) rfl
set_option maxRecDepth 20000 in
theorem zi0_813 {E : zE} {ls sk : List Value} {h : zH} : zrun zpp E 0 (813, ls, sk, h) = zrun zpp E 0 (814, ls, .int 2 :: sk, h) := zg_iconst rfl ci_2
set_option maxRecDepth 20000 in
theorem zi0_814 {E : zE} {x y : Int32} {ls sk : List Value} {h : zH} : zrun zpp E 0 (814, ls, .int y :: .int x :: sk, h) = zrun zpp E 0 (815, ls, .int (x + y) :: sk, h) := zrun_at (i := (.iadd, 815, 0, [])) rfl
set_option maxRecDepth 20000 in
theorem zi0_815 {E : zE} {x : UInt32} {i : Int32} {ls sk : List Value} {h : zH} : zrun zpp E 0 (815, ls, .int i :: .float x :: sk, h) = if zix i E.1 = true then zrun zpp E 0 (816, ls, .int (E.2 i.toNatClampNeg) :: sk, h) else none := zg_sald rfl
set_option maxRecDepth 20000 in
theorem zi0_816 {E : zE} {a0 a1 : Value} {x : Nat} {ls sk : List Value} {h : zH} : zrun zpp E 0 (816, ls, a1 :: a0 :: .ref x :: sk, h) = (zcls h x).bind (fun d => (zsel d [10, 111]).bind (fun M' => zcl1 E 0 819 M' ls sk [.ref x, a0, a1] h)) := zg_vir (as := [a0, a1]) rfl rfl
set_option maxRecDepth 20000 in
theorem zi0_819 {E : zE} {v0 v1 : Value} {x : Nat} {ls sk : List Value} {h : zH} : zrun zpp E 0 (819, v0 :: v1 :: .ref x :: ls, sk, h) = zrun zpp E 0 (820, v0 :: v1 :: .ref x :: ls, .ref x :: sk, h) := zrun_at (i := (.aload_n 2, 820, 0, [])) rfl
set_option maxRecDepth 20000 in
theorem zi0_819n {E : zE} {v0 v1 : Value} {ls sk : List Value} {h : zH} : zrun zpp E 0 (819, v0 :: v1 :: .null :: ls, sk, h) = zrun zpp E 0 (820, v0 :: v1 :: .null :: ls, .null :: sk, h) := zrun_at (i := (.aload_n 2, 820, 0, [])) rfl
set_option maxRecDepth 20000 in
theorem zi0_819f {E : zE} {v0 v1 : Value} {x : UInt32} {ls sk : List Value} {h : zH} : zrun zpp E 0 (819, v0 :: v1 :: .float x :: ls, sk, h) = zrun zpp E 0 (820, v0 :: v1 :: .float x :: ls, .float x :: sk, h) := zrun_at (i := (.aload_n 2, 820, 0, [])) rfl
set_option maxRecDepth 20000 in
theorem zi0_820 {E : zE} {x : Nat} {ls sk : List Value} {h : zH} : zrun zpp E 0 (820, .ref x :: ls, sk, h) = zrun zpp E 0 (821, .ref x :: ls, .ref x :: sk, h) := zrun_at (i := (.aload_n 0, 821, 0, [])) rfl
set_option maxRecDepth 20000 in
theorem zi0_820n {E : zE} {ls sk : List Value} {h : zH} : zrun zpp E 0 (820, .null :: ls, sk, h) = zrun zpp E 0 (821, .null :: ls, .null :: sk, h) := zrun_at (i := (.aload_n 0, 821, 0, [])) rfl
set_option maxRecDepth 20000 in
theorem zi0_820f {E : zE} {x : UInt32} {ls sk : List Value} {h : zH} : zrun zpp E 0 (820, .float x :: ls, sk, h) = zrun zpp E 0 (821, .float x :: ls, .float x :: sk, h) := zrun_at (i := (.aload_n 0, 821, 0, [])) rfl
set_option maxRecDepth 20000 in
theorem zi0_821 {E : zE} {v0 v1 v2 : Value} {x : Int32} {ls sk : List Value} {h : zH} : zrun zpp E 0 (821, v0 :: v1 :: v2 :: .int x :: ls, sk, h) = zrun zpp E 0 (822, v0 :: v1 :: v2 :: .int x :: ls, .int x :: sk, h) := zrun_at (i := (.iload_n 3, 822, 0, [])) rfl
set_option maxRecDepth 20000 in
theorem zi0_822 {E : zE} {ls sk : List Value} {h : zH} : zrun zpp E 0 (822, ls, sk, h) = zrun zpp E 0 (823, ls, .int 1 :: sk, h) := zg_iconst rfl ci_1
set_option maxRecDepth 20000 in
theorem zi0_823 {E : zE} {x y : Int32} {ls sk : List Value} {h : zH} : zrun zpp E 0 (823, ls, .int y :: .int x :: sk, h) = zrun zpp E 0 (824, ls, .int (x + y) :: sk, h) := zrun_at (i := (.iadd, 824, 0, [])) rfl
set_option maxRecDepth 20000 in
theorem zi0_824 {E : zE} {x : UInt32} {i : Int32} {ls sk : List Value} {h : zH} : zrun zpp E 0 (824, ls, .int i :: .float x :: sk, h) = if zix i E.1 = true then zrun zpp E 0 (825, ls, .int (E.2 i.toNatClampNeg) :: sk, h) else none := zg_sald rfl
set_option maxRecDepth 20000 in
theorem zi0_825 {E : zE} {x : Nat} {ls sk : List Value} {h : zH} : zrun zpp E 0 (825, .ref x :: ls, sk, h) = zrun zpp E 0 (826, .ref x :: ls, .ref x :: sk, h) := zrun_at (i := (.aload_n 0, 826, 0, [])) rfl
set_option maxRecDepth 20000 in
theorem zi0_825n {E : zE} {ls sk : List Value} {h : zH} : zrun zpp E 0 (825, .null :: ls, sk, h) = zrun zpp E 0 (826, .null :: ls, .null :: sk, h) := zrun_at (i := (.aload_n 0, 826, 0, [])) rfl
set_option maxRecDepth 20000 in
theorem zi0_825f {E : zE} {x : UInt32} {ls sk : List Value} {h : zH} : zrun zpp E 0 (825, .float x :: ls, sk, h) = zrun zpp E 0 (826, .float x :: ls, .float x :: sk, h) := zrun_at (i := (.aload_n 0, 826, 0, [])) rfl
set_option maxRecDepth 20000 in
theorem zi0_826 {E : zE} {v0 v1 v2 : Value} {x : Int32} {ls sk : List Value} {h : zH} : zrun zpp E 0 (826, v0 :: v1 :: v2 :: .int x :: ls, sk, h) = zrun zpp E 0 (827, v0 :: v1 :: v2 :: .int x :: ls, .int x :: sk, h) := zrun_at (i := (.iload_n 3, 827, 0, [])) rfl
set_option maxRecDepth 20000 in
theorem zi0_827 {E : zE} {ls sk : List Value} {h : zH} : zrun zpp E 0 (827, ls, sk, h) = zrun zpp E 0 (828, ls, .int 2 :: sk, h) := zg_iconst rfl ci_2
set_option maxRecDepth 20000 in
theorem zi0_828 {E : zE} {x y : Int32} {ls sk : List Value} {h : zH} : zrun zpp E 0 (828, ls, .int y :: .int x :: sk, h) = zrun zpp E 0 (829, ls, .int (x + y) :: sk, h) := zrun_at (i := (.iadd, 829, 0, [])) rfl
set_option maxRecDepth 20000 in
theorem zi0_829 {E : zE} {x : UInt32} {i : Int32} {ls sk : List Value} {h : zH} : zrun zpp E 0 (829, ls, .int i :: .float x :: sk, h) = if zix i E.1 = true then zrun zpp E 0 (830, ls, .int (E.2 i.toNatClampNeg) :: sk, h) else none := zg_sald rfl
set_option maxRecDepth 20000 in
theorem zi0_830 {E : zE} {a0 a1 : Value} {x : Nat} {ls sk : List Value} {h : zH} : zrun zpp E 0 (830, ls, a1 :: a0 :: .ref x :: sk, h) = (zcls h x).bind (fun d => (zsel d [11, 208]).bind (fun M' => zcl1 E 0 833 M' ls sk [.ref x, a0, a1] h)) := zg_vir (as := [a0, a1]) rfl rfl
set_option maxRecDepth 20000 in
theorem zi0_833 {E : zE} {x y : Int32} {ls sk : List Value} {h : zH} : zrun zpp E 0 (833, ls, .int y :: .int x :: sk, h) = if x = y then zrun zpp E 0 (1301, ls, sk, h) else zrun zpp E 0 (836, ls, sk, h) := zrun_at (i := (.if_icmp .eq 468, 836, 0, [1301])) rfl
set_option maxRecDepth 20000 in
theorem zi0_836 {E : zE} {ls sk : List Value} {h : zH} : zrun zpp E 0 (836, ls, sk, h) = zrun zpp E 0 (837, ls, .int 0 :: sk, h) := zg_iconst rfl ci_0
set_option maxRecDepth 20000 in
theorem zi0_837 {E : zE} {x : Int32} {ls sk : List Value} {h : zH} : zrun zpp E 0 (837, ls, [.int x], h) = if x = 0 then some (some (.int 0), h) else if x = 1 then some (some (.int 1), h) else none := zrun_at (i := (.ireturn, 838, 1, [])) rfl
set_option maxRecDepth 20000 in
theorem zi0_838 {E : zE} {v0 : Value} {x : Nat} {ls sk : List Value} {h : zH} : zrun zpp E 0 (838, v0 :: .ref x :: ls, sk, h) = zrun zpp E 0 (839, v0 :: .ref x :: ls, .ref x :: sk, h) := zrun_at (i := (.aload_n 1, 839, 0, [])) rfl
set_option maxRecDepth 20000 in
theorem zi0_838n {E : zE} {v0 : Value} {ls sk : List Value} {h : zH} : zrun zpp E 0 (838, v0 :: .null :: ls, sk, h) = zrun zpp E 0 (839, v0 :: .null :: ls, .null :: sk, h) := zrun_at (i := (.aload_n 1, 839, 0, [])) rfl
set_option maxRecDepth 20000 in
theorem zi0_838f {E : zE} {v0 : Value} {x : UInt32} {ls sk : List Value} {h : zH} : zrun zpp E 0 (838, v0 :: .float x :: ls, sk, h) = zrun zpp E 0 (839, v0 :: .float x :: ls, .float x :: sk, h) := zrun_at (i := (.aload_n 1, 839, 0, [])) rfl
set_option maxRecDepth 20000 in
theorem zi0_839 {E : zE} {x : Nat} {ls sk : List Value} {h : zH} : zrun zpp E 0 (839, .ref x :: ls, sk, h) = zrun zpp E 0 (840, .ref x :: ls, .ref x :: sk, h) := zrun_at (i := (.aload_n 0, 840, 0, [])) rfl
set_option maxRecDepth 20000 in
theorem zi0_839n {E : zE} {ls sk : List Value} {h : zH} : zrun zpp E 0 (839, .null :: ls, sk, h) = zrun zpp E 0 (840, .null :: ls, .null :: sk, h) := zrun_at (i := (.aload_n 0, 840, 0, [])) rfl
set_option maxRecDepth 20000 in
theorem zi0_839f {E : zE} {x : UInt32} {ls sk : List Value} {h : zH} : zrun zpp E 0 (839, .float x :: ls, sk, h) = zrun zpp E 0 (840, .float x :: ls, .float x :: sk, h) := zrun_at (i := (.aload_n 0, 840, 0, [])) rfl
set_option maxRecDepth 20000 in
theorem zi0_840 {E : zE} {v0 v1 v2 : Value} {x : Int32} {ls sk : List Value} {h : zH} : zrun zpp E 0 (840, v0 :: v1 :: v2 :: .int x :: ls, sk, h) = zrun zpp E 0 (841, v0 :: v1 :: v2 :: .int x :: ls, .int x :: sk, h) := zrun_at (i := (.iload_n 3, 841, 0, [])) rfl
set_option maxRecDepth 20000 in
theorem zi0_841 {E : zE} {ls sk : List Value} {h : zH} : zrun zpp E 0 (841, ls, sk, h) = zrun zpp E 0 (842, ls, .int 1 :: sk, h) := zg_iconst rfl ci_1
set_option maxRecDepth 20000 in
theorem zi0_842 {E : zE} {x y : Int32} {ls sk : List Value} {h : zH} : zrun zpp E 0 (842, ls, .int y :: .int x :: sk, h) = zrun zpp E 0 (843, ls, .int (x + y) :: sk, h) := zrun_at (i := (.iadd, 843, 0, [])) rfl
set_option maxRecDepth 20000 in
theorem zi0_843 {E : zE} {x : UInt32} {i : Int32} {ls sk : List Value} {h : zH} : zrun zpp E 0 (843, ls, .int i :: .float x :: sk, h) = if zix i E.1 = true then zrun zpp E 0 (844, ls, .int (E.2 i.toNatClampNeg) :: sk, h) else none := zg_sald rfl
set_option maxRecDepth 20000 in
theorem zi0_844 {E : zE} {x : Nat} {ls sk : List Value} {h : zH} : zrun zpp E 0 (844, .ref x :: ls, sk, h) = zrun zpp E 0 (845, .ref x :: ls, .ref x :: sk, h) := zrun_at (i := (.aload_n 0, 845, 0, [])) rfl
set_option maxRecDepth 20000 in
theorem zi0_844n {E : zE} {ls sk : List Value} {h : zH} : zrun zpp E 0 (844, .null :: ls, sk, h) = zrun zpp E 0 (845, .null :: ls, .null :: sk, h) := zrun_at (i := (.aload_n 0, 845, 0, [])) rfl
set_option maxRecDepth 20000 in
theorem zi0_844f {E : zE} {x : UInt32} {ls sk : List Value} {h : zH} : zrun zpp E 0 (844, .float x :: ls, sk, h) = zrun zpp E 0 (845, .float x :: ls, .float x :: sk, h) := zrun_at (i := (.aload_n 0, 845, 0, [])) rfl
set_option maxRecDepth 20000 in
theorem zi0_845 {E : zE} {v0 v1 v2 : Value} {x : Int32} {ls sk : List Value} {h : zH} : zrun zpp E 0 (845, v0 :: v1 :: v2 :: .int x :: ls, sk, h) = zrun zpp E 0 (846, v0 :: v1 :: v2 :: .int x :: ls, .int x :: sk, h) := zrun_at (i := (.iload_n 3, 846, 0, [])) rfl
set_option maxRecDepth 20000 in
theorem zi0_846 {E : zE} {ls sk : List Value} {h : zH} : zrun zpp E 0 (846, ls, sk, h) = zrun zpp E 0 (847, ls, .int 2 :: sk, h) := zg_iconst rfl ci_2
set_option maxRecDepth 20000 in
theorem zi0_847 {E : zE} {x y : Int32} {ls sk : List Value} {h : zH} : zrun zpp E 0 (847, ls, .int y :: .int x :: sk, h) = zrun zpp E 0 (848, ls, .int (x + y) :: sk, h) := zrun_at (i := (.iadd, 848, 0, [])) rfl
set_option maxRecDepth 20000 in
theorem zi0_848 {E : zE} {x : UInt32} {i : Int32} {ls sk : List Value} {h : zH} : zrun zpp E 0 (848, ls, .int i :: .float x :: sk, h) = if zix i E.1 = true then zrun zpp E 0 (849, ls, .int (E.2 i.toNatClampNeg) :: sk, h) else none := zg_sald rfl
set_option maxRecDepth 20000 in
theorem zi0_849 {E : zE} {a0 a1 : Value} {x : Nat} {ls sk : List Value} {h : zH} : zrun zpp E 0 (849, ls, a1 :: a0 :: .ref x :: sk, h) = (zcls h x).bind (fun d => (zsel d [10, 112]).bind (fun M' => zcl1 E 0 852 M' ls sk [.ref x, a0, a1] h)) := zg_vir (as := [a0, a1]) rfl rfl
set_option maxRecDepth 20000 in
theorem zi0_852 {E : zE} {v0 v1 : Value} {x : Nat} {ls sk : List Value} {h : zH} : zrun zpp E 0 (852, v0 :: v1 :: .ref x :: ls, sk, h) = zrun zpp E 0 (853, v0 :: v1 :: .ref x :: ls, .ref x :: sk, h) := zrun_at (i := (.aload_n 2, 853, 0, [])) rfl
set_option maxRecDepth 20000 in
theorem zi0_852n {E : zE} {v0 v1 : Value} {ls sk : List Value} {h : zH} : zrun zpp E 0 (852, v0 :: v1 :: .null :: ls, sk, h) = zrun zpp E 0 (853, v0 :: v1 :: .null :: ls, .null :: sk, h) := zrun_at (i := (.aload_n 2, 853, 0, [])) rfl
set_option maxRecDepth 20000 in
theorem zi0_852f {E : zE} {v0 v1 : Value} {x : UInt32} {ls sk : List Value} {h : zH} : zrun zpp E 0 (852, v0 :: v1 :: .float x :: ls, sk, h) = zrun zpp E 0 (853, v0 :: v1 :: .float x :: ls, .float x :: sk, h) := zrun_at (i := (.aload_n 2, 853, 0, [])) rfl
set_option maxRecDepth 20000 in
theorem zi0_853 {E : zE} {x : Nat} {ls sk : List Value} {h : zH} : zrun zpp E 0 (853, .ref x :: ls, sk, h) = zrun zpp E 0 (854, .ref x :: ls, .ref x :: sk, h) := zrun_at (i := (.aload_n 0, 854, 0, [])) rfl
set_option maxRecDepth 20000 in
theorem zi0_853n {E : zE} {ls sk : List Value} {h : zH} : zrun zpp E 0 (853, .null :: ls, sk, h) = zrun zpp E 0 (854, .null :: ls, .null :: sk, h) := zrun_at (i := (.aload_n 0, 854, 0, [])) rfl
set_option maxRecDepth 20000 in
theorem zi0_853f {E : zE} {x : UInt32} {ls sk : List Value} {h : zH} : zrun zpp E 0 (853, .float x :: ls, sk, h) = zrun zpp E 0 (854, .float x :: ls, .float x :: sk, h) := zrun_at (i := (.aload_n 0, 854, 0, [])) rfl
set_option maxRecDepth 20000 in
theorem zi0_854 {E : zE} {v0 v1 v2 : Value} {x : Int32} {ls sk : List Value} {h : zH} : zrun zpp E 0 (854, v0 :: v1 :: v2 :: .int x :: ls, sk, h) = zrun zpp E 0 (855, v0 :: v1 :: v2 :: .int x :: ls, .int x :: sk, h) := zrun_at (i := (.iload_n 3, 855, 0, [])) rfl
set_option maxRecDepth 20000 in
theorem zi0_855 {E : zE} {ls sk : List Value} {h : zH} : zrun zpp E 0 (855, ls, sk, h) = zrun zpp E 0 (856, ls, .int 1 :: sk, h) := zg_iconst rfl ci_1
set_option maxRecDepth 20000 in
theorem zi0_856 {E : zE} {x y : Int32} {ls sk : List Value} {h : zH} : zrun zpp E 0 (856, ls, .int y :: .int x :: sk, h) = zrun zpp E 0 (857, ls, .int (x + y) :: sk, h) := zrun_at (i := (.iadd, 857, 0, [])) rfl
set_option maxRecDepth 20000 in
theorem zi0_857 {E : zE} {x : UInt32} {i : Int32} {ls sk : List Value} {h : zH} : zrun zpp E 0 (857, ls, .int i :: .float x :: sk, h) = if zix i E.1 = true then zrun zpp E 0 (858, ls, .int (E.2 i.toNatClampNeg) :: sk, h) else none := zg_sald rfl
set_option maxRecDepth 20000 in
theorem zi0_858 {E : zE} {x : Nat} {ls sk : List Value} {h : zH} : zrun zpp E 0 (858, .ref x :: ls, sk, h) = zrun zpp E 0 (859, .ref x :: ls, .ref x :: sk, h) := zrun_at (i := (.aload_n 0, 859, 0, [])) rfl
set_option maxRecDepth 20000 in
theorem zi0_858n {E : zE} {ls sk : List Value} {h : zH} : zrun zpp E 0 (858, .null :: ls, sk, h) = zrun zpp E 0 (859, .null :: ls, .null :: sk, h) := zrun_at (i := (.aload_n 0, 859, 0, [])) rfl
set_option maxRecDepth 20000 in
theorem zi0_858f {E : zE} {x : UInt32} {ls sk : List Value} {h : zH} : zrun zpp E 0 (858, .float x :: ls, sk, h) = zrun zpp E 0 (859, .float x :: ls, .float x :: sk, h) := zrun_at (i := (.aload_n 0, 859, 0, [])) rfl
set_option maxRecDepth 20000 in
theorem zi0_859 {E : zE} {v0 v1 v2 : Value} {x : Int32} {ls sk : List Value} {h : zH} : zrun zpp E 0 (859, v0 :: v1 :: v2 :: .int x :: ls, sk, h) = zrun zpp E 0 (860, v0 :: v1 :: v2 :: .int x :: ls, .int x :: sk, h) := zrun_at (i := (.iload_n 3, 860, 0, [])) rfl
set_option maxRecDepth 20000 in
theorem zi0_860 {E : zE} {ls sk : List Value} {h : zH} : zrun zpp E 0 (860, ls, sk, h) = zrun zpp E 0 (861, ls, .int 2 :: sk, h) := zg_iconst rfl ci_2
set_option maxRecDepth 20000 in
theorem zi0_861 {E : zE} {x y : Int32} {ls sk : List Value} {h : zH} : zrun zpp E 0 (861, ls, .int y :: .int x :: sk, h) = zrun zpp E 0 (862, ls, .int (x + y) :: sk, h) := zrun_at (i := (.iadd, 862, 0, [])) rfl
set_option maxRecDepth 20000 in
theorem zi0_862 {E : zE} {x : UInt32} {i : Int32} {ls sk : List Value} {h : zH} : zrun zpp E 0 (862, ls, .int i :: .float x :: sk, h) = if zix i E.1 = true then zrun zpp E 0 (863, ls, .int (E.2 i.toNatClampNeg) :: sk, h) else none := zg_sald rfl
set_option maxRecDepth 20000 in
theorem zi0_863 {E : zE} {a0 a1 : Value} {x : Nat} {ls sk : List Value} {h : zH} : zrun zpp E 0 (863, ls, a1 :: a0 :: .ref x :: sk, h) = (zcls h x).bind (fun d => (zsel d [11, 209]).bind (fun M' => zcl1 E 0 866 M' ls sk [.ref x, a0, a1] h)) := zg_vir (as := [a0, a1]) rfl rfl
set_option maxRecDepth 20000 in
theorem zi0_866 {E : zE} {x y : Int32} {ls sk : List Value} {h : zH} : zrun zpp E 0 (866, ls, .int y :: .int x :: sk, h) = if x = y then zrun zpp E 0 (1301, ls, sk, h) else zrun zpp E 0 (869, ls, sk, h) := zrun_at (i := (.if_icmp .eq 435, 869, 0, [1301])) rfl
set_option maxRecDepth 20000 in
theorem zi0_869 {E : zE} {ls sk : List Value} {h : zH} : zrun zpp E 0 (869, ls, sk, h) = zrun zpp E 0 (870, ls, .int 0 :: sk, h) := zg_iconst rfl ci_0
set_option maxRecDepth 20000 in
theorem zi0_870 {E : zE} {x : Int32} {ls sk : List Value} {h : zH} : zrun zpp E 0 (870, ls, [.int x], h) = if x = 0 then some (some (.int 0), h) else if x = 1 then some (some (.int 1), h) else none := zrun_at (i := (.ireturn, 871, 1, [])) rfl
set_option maxRecDepth 20000 in
theorem zi0_871 {E : zE} {v0 : Value} {x : Nat} {ls sk : List Value} {h : zH} : zrun zpp E 0 (871, v0 :: .ref x :: ls, sk, h) = zrun zpp E 0 (872, v0 :: .ref x :: ls, .ref x :: sk, h) := zrun_at (i := (.aload_n 1, 872, 0, [])) rfl
set_option maxRecDepth 20000 in
theorem zi0_871n {E : zE} {v0 : Value} {ls sk : List Value} {h : zH} : zrun zpp E 0 (871, v0 :: .null :: ls, sk, h) = zrun zpp E 0 (872, v0 :: .null :: ls, .null :: sk, h) := zrun_at (i := (.aload_n 1, 872, 0, [])) rfl
set_option maxRecDepth 20000 in
theorem zi0_871f {E : zE} {v0 : Value} {x : UInt32} {ls sk : List Value} {h : zH} : zrun zpp E 0 (871, v0 :: .float x :: ls, sk, h) = zrun zpp E 0 (872, v0 :: .float x :: ls, .float x :: sk, h) := zrun_at (i := (.aload_n 1, 872, 0, [])) rfl
set_option maxRecDepth 20000 in
theorem zi0_872 {E : zE} {x : Nat} {ls sk : List Value} {h : zH} : zrun zpp E 0 (872, .ref x :: ls, sk, h) = zrun zpp E 0 (873, .ref x :: ls, .ref x :: sk, h) := zrun_at (i := (.aload_n 0, 873, 0, [])) rfl
set_option maxRecDepth 20000 in
theorem zi0_872n {E : zE} {ls sk : List Value} {h : zH} : zrun zpp E 0 (872, .null :: ls, sk, h) = zrun zpp E 0 (873, .null :: ls, .null :: sk, h) := zrun_at (i := (.aload_n 0, 873, 0, [])) rfl
set_option maxRecDepth 20000 in
theorem zi0_872f {E : zE} {x : UInt32} {ls sk : List Value} {h : zH} : zrun zpp E 0 (872, .float x :: ls, sk, h) = zrun zpp E 0 (873, .float x :: ls, .float x :: sk, h) := zrun_at (i := (.aload_n 0, 873, 0, [])) rfl
set_option maxRecDepth 20000 in
theorem zi0_873 {E : zE} {v0 v1 v2 : Value} {x : Int32} {ls sk : List Value} {h : zH} : zrun zpp E 0 (873, v0 :: v1 :: v2 :: .int x :: ls, sk, h) = zrun zpp E 0 (874, v0 :: v1 :: v2 :: .int x :: ls, .int x :: sk, h) := zrun_at (i := (.iload_n 3, 874, 0, [])) rfl
set_option maxRecDepth 20000 in
theorem zi0_874 {E : zE} {ls sk : List Value} {h : zH} : zrun zpp E 0 (874, ls, sk, h) = zrun zpp E 0 (875, ls, .int 1 :: sk, h) := zg_iconst rfl ci_1
set_option maxRecDepth 20000 in
theorem zi0_875 {E : zE} {x y : Int32} {ls sk : List Value} {h : zH} : zrun zpp E 0 (875, ls, .int y :: .int x :: sk, h) = zrun zpp E 0 (876, ls, .int (x + y) :: sk, h) := zrun_at (i := (.iadd, 876, 0, [])) rfl
set_option maxRecDepth 20000 in
theorem zi0_876 {E : zE} {x : UInt32} {i : Int32} {ls sk : List Value} {h : zH} : zrun zpp E 0 (876, ls, .int i :: .float x :: sk, h) = if zix i E.1 = true then zrun zpp E 0 (877, ls, .int (E.2 i.toNatClampNeg) :: sk, h) else none := zg_sald rfl
set_option maxRecDepth 20000 in
theorem zi0_877 {E : zE} {x : Nat} {ls sk : List Value} {h : zH} : zrun zpp E 0 (877, .ref x :: ls, sk, h) = zrun zpp E 0 (878, .ref x :: ls, .ref x :: sk, h) := zrun_at (i := (.aload_n 0, 878, 0, [])) rfl
set_option maxRecDepth 20000 in
theorem zi0_877n {E : zE} {ls sk : List Value} {h : zH} : zrun zpp E 0 (877, .null :: ls, sk, h) = zrun zpp E 0 (878, .null :: ls, .null :: sk, h) := zrun_at (i := (.aload_n 0, 878, 0, [])) rfl
set_option maxRecDepth 20000 in
theorem zi0_877f {E : zE} {x : UInt32} {ls sk : List Value} {h : zH} : zrun zpp E 0 (877, .float x :: ls, sk, h) = zrun zpp E 0 (878, .float x :: ls, .float x :: sk, h) := zrun_at (i := (.aload_n 0, 878, 0, [])) rfl
set_option maxRecDepth 20000 in
theorem zi0_878 {E : zE} {v0 v1 v2 : Value} {x : Int32} {ls sk : List Value} {h : zH} : zrun zpp E 0 (878, v0 :: v1 :: v2 :: .int x :: ls, sk, h) = zrun zpp E 0 (879, v0 :: v1 :: v2 :: .int x :: ls, .int x :: sk, h) := zrun_at (i := (.iload_n 3, 879, 0, [])) rfl
set_option maxRecDepth 20000 in
theorem zi0_879 {E : zE} {ls sk : List Value} {h : zH} : zrun zpp E 0 (879, ls, sk, h) = zrun zpp E 0 (880, ls, .int 2 :: sk, h) := zg_iconst rfl ci_2
set_option maxRecDepth 20000 in
theorem zi0_880 {E : zE} {x y : Int32} {ls sk : List Value} {h : zH} : zrun zpp E 0 (880, ls, .int y :: .int x :: sk, h) = zrun zpp E 0 (881, ls, .int (x + y) :: sk, h) := zrun_at (i := (.iadd, 881, 0, [])) rfl
set_option maxRecDepth 20000 in
theorem zi0_881 {E : zE} {x : UInt32} {i : Int32} {ls sk : List Value} {h : zH} : zrun zpp E 0 (881, ls, .int i :: .float x :: sk, h) = if zix i E.1 = true then zrun zpp E 0 (882, ls, .int (E.2 i.toNatClampNeg) :: sk, h) else none := zg_sald rfl
set_option maxRecDepth 20000 in
theorem zi0_882 {E : zE} {a0 a1 : Value} {x : Nat} {ls sk : List Value} {h : zH} : zrun zpp E 0 (882, ls, a1 :: a0 :: .ref x :: sk, h) = (zcls h x).bind (fun d => (zsel d [10, 113]).bind (fun M' => zcl1 E 0 885 M' ls sk [.ref x, a0, a1] h)) := zg_vir (as := [a0, a1]) rfl rfl
set_option maxRecDepth 20000 in
theorem zi0_885 {E : zE} {v0 v1 : Value} {x : Nat} {ls sk : List Value} {h : zH} : zrun zpp E 0 (885, v0 :: v1 :: .ref x :: ls, sk, h) = zrun zpp E 0 (886, v0 :: v1 :: .ref x :: ls, .ref x :: sk, h) := zrun_at (i := (.aload_n 2, 886, 0, [])) rfl
set_option maxRecDepth 20000 in
theorem zi0_885n {E : zE} {v0 v1 : Value} {ls sk : List Value} {h : zH} : zrun zpp E 0 (885, v0 :: v1 :: .null :: ls, sk, h) = zrun zpp E 0 (886, v0 :: v1 :: .null :: ls, .null :: sk, h) := zrun_at (i := (.aload_n 2, 886, 0, [])) rfl
set_option maxRecDepth 20000 in
theorem zi0_885f {E : zE} {v0 v1 : Value} {x : UInt32} {ls sk : List Value} {h : zH} : zrun zpp E 0 (885, v0 :: v1 :: .float x :: ls, sk, h) = zrun zpp E 0 (886, v0 :: v1 :: .float x :: ls, .float x :: sk, h) := zrun_at (i := (.aload_n 2, 886, 0, [])) rfl
set_option maxRecDepth 20000 in
theorem zi0_886 {E : zE} {x : Nat} {ls sk : List Value} {h : zH} : zrun zpp E 0 (886, .ref x :: ls, sk, h) = zrun zpp E 0 (887, .ref x :: ls, .ref x :: sk, h) := zrun_at (i := (.aload_n 0, 887, 0, [])) rfl
set_option maxRecDepth 20000 in
theorem zi0_886n {E : zE} {ls sk : List Value} {h : zH} : zrun zpp E 0 (886, .null :: ls, sk, h) = zrun zpp E 0 (887, .null :: ls, .null :: sk, h) := zrun_at (i := (.aload_n 0, 887, 0, [])) rfl
set_option maxRecDepth 20000 in
theorem zi0_886f {E : zE} {x : UInt32} {ls sk : List Value} {h : zH} : zrun zpp E 0 (886, .float x :: ls, sk, h) = zrun zpp E 0 (887, .float x :: ls, .float x :: sk, h) := zrun_at (i := (.aload_n 0, 887, 0, [])) rfl
set_option maxRecDepth 20000 in
theorem zi0_887 {E : zE} {v0 v1 v2 : Value} {x : Int32} {ls sk : List Value} {h : zH} : zrun zpp E 0 (887, v0 :: v1 :: v2 :: .int x :: ls, sk, h) = zrun zpp E 0 (888, v0 :: v1 :: v2 :: .int x :: ls, .int x :: sk, h) := zrun_at (i := (.iload_n 3, 888, 0, [])) rfl
set_option maxRecDepth 20000 in
theorem zi0_888 {E : zE} {ls sk : List Value} {h : zH} : zrun zpp E 0 (888, ls, sk, h) = zrun zpp E 0 (889, ls, .int 1 :: sk, h) := zg_iconst rfl ci_1
set_option maxRecDepth 20000 in
theorem zi0_889 {E : zE} {x y : Int32} {ls sk : List Value} {h : zH} : zrun zpp E 0 (889, ls, .int y :: .int x :: sk, h) = zrun zpp E 0 (890, ls, .int (x + y) :: sk, h) := zrun_at (i := (.iadd, 890, 0, [])) rfl
set_option maxRecDepth 20000 in
theorem zi0_890 {E : zE} {x : UInt32} {i : Int32} {ls sk : List Value} {h : zH} : zrun zpp E 0 (890, ls, .int i :: .float x :: sk, h) = if zix i E.1 = true then zrun zpp E 0 (891, ls, .int (E.2 i.toNatClampNeg) :: sk, h) else none := zg_sald rfl
set_option maxRecDepth 20000 in
theorem zi0_891 {E : zE} {x : Nat} {ls sk : List Value} {h : zH} : zrun zpp E 0 (891, .ref x :: ls, sk, h) = zrun zpp E 0 (892, .ref x :: ls, .ref x :: sk, h) := zrun_at (i := (.aload_n 0, 892, 0, [])) rfl
set_option maxRecDepth 20000 in
theorem zi0_891n {E : zE} {ls sk : List Value} {h : zH} : zrun zpp E 0 (891, .null :: ls, sk, h) = zrun zpp E 0 (892, .null :: ls, .null :: sk, h) := zrun_at (i := (.aload_n 0, 892, 0, [])) rfl
set_option maxRecDepth 20000 in
theorem zi0_891f {E : zE} {x : UInt32} {ls sk : List Value} {h : zH} : zrun zpp E 0 (891, .float x :: ls, sk, h) = zrun zpp E 0 (892, .float x :: ls, .float x :: sk, h) := zrun_at (i := (.aload_n 0, 892, 0, [])) rfl
set_option maxRecDepth 20000 in
theorem zi0_892 {E : zE} {v0 v1 v2 : Value} {x : Int32} {ls sk : List Value} {h : zH} : zrun zpp E 0 (892, v0 :: v1 :: v2 :: .int x :: ls, sk, h) = zrun zpp E 0 (893, v0 :: v1 :: v2 :: .int x :: ls, .int x :: sk, h) := zrun_at (i := (.iload_n 3, 893, 0, [])) rfl
set_option maxRecDepth 20000 in
theorem zi0_893 {E : zE} {ls sk : List Value} {h : zH} : zrun zpp E 0 (893, ls, sk, h) = zrun zpp E 0 (894, ls, .int 2 :: sk, h) := zg_iconst rfl ci_2
set_option maxRecDepth 20000 in
theorem zi0_894 {E : zE} {x y : Int32} {ls sk : List Value} {h : zH} : zrun zpp E 0 (894, ls, .int y :: .int x :: sk, h) = zrun zpp E 0 (895, ls, .int (x + y) :: sk, h) := zrun_at (i := (.iadd, 895, 0, [])) rfl
set_option maxRecDepth 20000 in
theorem zi0_895 {E : zE} {x : UInt32} {i : Int32} {ls sk : List Value} {h : zH} : zrun zpp E 0 (895, ls, .int i :: .float x :: sk, h) = if zix i E.1 = true then zrun zpp E 0 (896, ls, .int (E.2 i.toNatClampNeg) :: sk, h) else none := zg_sald rfl
set_option maxRecDepth 20000 in
theorem zi0_896 {E : zE} {a0 a1 : Value} {x : Nat} {ls sk : List Value} {h : zH} : zrun zpp E 0 (896, ls, a1 :: a0 :: .ref x :: sk, h) = (zcls h x).bind (fun d => (zsel d [11, 211]).bind (fun M' => zcl1 E 0 899 M' ls sk [.ref x, a0, a1] h)) := zg_vir (as := [a0, a1]) rfl rfl
set_option maxRecDepth 20000 in
theorem zi0_899 {E : zE} {x y : Int32} {ls sk : List Value} {h : zH} : zrun zpp E 0 (899, ls, .int y :: .int x :: sk, h) = if x = y then zrun zpp E 0 (1301, ls, sk, h) else zrun zpp E 0 (902, ls, sk, h) := zrun_at (i := (.if_icmp .eq 402, 902, 0, [1301])) rfl
set_option maxRecDepth 20000 in
theorem zi0_902 {E : zE} {ls sk : List Value} {h : zH} : zrun zpp E 0 (902, ls, sk, h) = zrun zpp E 0 (903, ls, .int 0 :: sk, h) := zg_iconst rfl ci_0
set_option maxRecDepth 20000 in
theorem zi0_903 {E : zE} {x : Int32} {ls sk : List Value} {h : zH} : zrun zpp E 0 (903, ls, [.int x], h) = if x = 0 then some (some (.int 0), h) else if x = 1 then some (some (.int 1), h) else none := zrun_at (i := (.ireturn, 904, 1, [])) rfl
set_option maxRecDepth 20000 in
theorem zi0_904 {E : zE} {v0 : Value} {x : Nat} {ls sk : List Value} {h : zH} : zrun zpp E 0 (904, v0 :: .ref x :: ls, sk, h) = zrun zpp E 0 (905, v0 :: .ref x :: ls, .ref x :: sk, h) := zrun_at (i := (.aload_n 1, 905, 0, [])) rfl
set_option maxRecDepth 20000 in
theorem zi0_904n {E : zE} {v0 : Value} {ls sk : List Value} {h : zH} : zrun zpp E 0 (904, v0 :: .null :: ls, sk, h) = zrun zpp E 0 (905, v0 :: .null :: ls, .null :: sk, h) := zrun_at (i := (.aload_n 1, 905, 0, [])) rfl
set_option maxRecDepth 20000 in
theorem zi0_904f {E : zE} {v0 : Value} {x : UInt32} {ls sk : List Value} {h : zH} : zrun zpp E 0 (904, v0 :: .float x :: ls, sk, h) = zrun zpp E 0 (905, v0 :: .float x :: ls, .float x :: sk, h) := zrun_at (i := (.aload_n 1, 905, 0, [])) rfl
set_option maxRecDepth 20000 in
theorem zi0_905 {E : zE} {x : Nat} {ls sk : List Value} {h : zH} : zrun zpp E 0 (905, .ref x :: ls, sk, h) = zrun zpp E 0 (906, .ref x :: ls, .ref x :: sk, h) := zrun_at (i := (.aload_n 0, 906, 0, [])) rfl
set_option maxRecDepth 20000 in
theorem zi0_905n {E : zE} {ls sk : List Value} {h : zH} : zrun zpp E 0 (905, .null :: ls, sk, h) = zrun zpp E 0 (906, .null :: ls, .null :: sk, h) := zrun_at (i := (.aload_n 0, 906, 0, [])) rfl
set_option maxRecDepth 20000 in
theorem zi0_905f {E : zE} {x : UInt32} {ls sk : List Value} {h : zH} : zrun zpp E 0 (905, .float x :: ls, sk, h) = zrun zpp E 0 (906, .float x :: ls, .float x :: sk, h) := zrun_at (i := (.aload_n 0, 906, 0, [])) rfl
set_option maxRecDepth 20000 in
theorem zi0_906 {E : zE} {v0 v1 v2 : Value} {x : Int32} {ls sk : List Value} {h : zH} : zrun zpp E 0 (906, v0 :: v1 :: v2 :: .int x :: ls, sk, h) = zrun zpp E 0 (907, v0 :: v1 :: v2 :: .int x :: ls, .int x :: sk, h) := zrun_at (i := (.iload_n 3, 907, 0, [])) rfl
set_option maxRecDepth 20000 in
theorem zi0_907 {E : zE} {ls sk : List Value} {h : zH} : zrun zpp E 0 (907, ls, sk, h) = zrun zpp E 0 (908, ls, .int 1 :: sk, h) := zg_iconst rfl ci_1
set_option maxRecDepth 20000 in
theorem zi0_908 {E : zE} {x y : Int32} {ls sk : List Value} {h : zH} : zrun zpp E 0 (908, ls, .int y :: .int x :: sk, h) = zrun zpp E 0 (909, ls, .int (x + y) :: sk, h) := zrun_at (i := (.iadd, 909, 0, [])) rfl
set_option maxRecDepth 20000 in
theorem zi0_909 {E : zE} {x : UInt32} {i : Int32} {ls sk : List Value} {h : zH} : zrun zpp E 0 (909, ls, .int i :: .float x :: sk, h) = if zix i E.1 = true then zrun zpp E 0 (910, ls, .int (E.2 i.toNatClampNeg) :: sk, h) else none := zg_sald rfl
set_option maxRecDepth 20000 in
theorem zi0_910 {E : zE} {x : Nat} {ls sk : List Value} {h : zH} : zrun zpp E 0 (910, .ref x :: ls, sk, h) = zrun zpp E 0 (911, .ref x :: ls, .ref x :: sk, h) := zrun_at (i := (.aload_n 0, 911, 0, [])) rfl
set_option maxRecDepth 20000 in
theorem zi0_910n {E : zE} {ls sk : List Value} {h : zH} : zrun zpp E 0 (910, .null :: ls, sk, h) = zrun zpp E 0 (911, .null :: ls, .null :: sk, h) := zrun_at (i := (.aload_n 0, 911, 0, [])) rfl
set_option maxRecDepth 20000 in
theorem zi0_910f {E : zE} {x : UInt32} {ls sk : List Value} {h : zH} : zrun zpp E 0 (910, .float x :: ls, sk, h) = zrun zpp E 0 (911, .float x :: ls, .float x :: sk, h) := zrun_at (i := (.aload_n 0, 911, 0, [])) rfl
set_option maxRecDepth 20000 in
theorem zi0_911 {E : zE} {v0 v1 v2 : Value} {x : Int32} {ls sk : List Value} {h : zH} : zrun zpp E 0 (911, v0 :: v1 :: v2 :: .int x :: ls, sk, h) = zrun zpp E 0 (912, v0 :: v1 :: v2 :: .int x :: ls, .int x :: sk, h) := zrun_at (i := (.iload_n 3, 912, 0, [])) rfl
set_option maxRecDepth 20000 in
theorem zi0_912 {E : zE} {ls sk : List Value} {h : zH} : zrun zpp E 0 (912, ls, sk, h) = zrun zpp E 0 (913, ls, .int 2 :: sk, h) := zg_iconst rfl ci_2
set_option maxRecDepth 20000 in
theorem zi0_913 {E : zE} {x y : Int32} {ls sk : List Value} {h : zH} : zrun zpp E 0 (913, ls, .int y :: .int x :: sk, h) = zrun zpp E 0 (914, ls, .int (x + y) :: sk, h) := zrun_at (i := (.iadd, 914, 0, [])) rfl
set_option maxRecDepth 20000 in
theorem zi0_914 {E : zE} {x : UInt32} {i : Int32} {ls sk : List Value} {h : zH} : zrun zpp E 0 (914, ls, .int i :: .float x :: sk, h) = if zix i E.1 = true then zrun zpp E 0 (915, ls, .int (E.2 i.toNatClampNeg) :: sk, h) else none := zg_sald rfl
set_option maxRecDepth 20000 in
theorem zi0_915 {E : zE} {x : Nat} {ls sk : List Value} {h : zH} : zrun zpp E 0 (915, .ref x :: ls, sk, h) = zrun zpp E 0 (916, .ref x :: ls, .ref x :: sk, h) := zrun_at (i := (.aload_n 0, 916, 0, [])) rfl
set_option maxRecDepth 20000 in
theorem zi0_915n {E : zE} {ls sk : List Value} {h : zH} : zrun zpp E 0 (915, .null :: ls, sk, h) = zrun zpp E 0 (916, .null :: ls, .null :: sk, h) := zrun_at (i := (.aload_n 0, 916, 0, [])) rfl
set_option maxRecDepth 20000 in
theorem zi0_915f {E : zE} {x : UInt32} {ls sk : List Value} {h : zH} : zrun zpp E 0 (915, .float x :: ls, sk, h) = zrun zpp E 0 (916, .float x :: ls, .float x :: sk, h) := zrun_at (i := (.aload_n 0, 916, 0, [])) rfl
set_option maxRecDepth 20000 in
theorem zi0_916 {E : zE} {v0 v1 v2 : Value} {x : Int32} {ls sk : List Value} {h : zH} : zrun zpp E 0 (916, v0 :: v1 :: v2 :: .int x :: ls, sk, h) = zrun zpp E 0 (917, v0 :: v1 :: v2 :: .int x :: ls, .int x :: sk, h) := zrun_at (i := (.iload_n 3, 917, 0, [])) rfl
set_option maxRecDepth 20000 in
theorem zi0_917 {E : zE} {ls sk : List Value} {h : zH} : zrun zpp E 0 (917, ls, sk, h) = zrun zpp E 0 (918, ls, .int 3 :: sk, h) := zg_iconst rfl ci_3
set_option maxRecDepth 20000 in
theorem zi0_918 {E : zE} {x y : Int32} {ls sk : List Value} {h : zH} : zrun zpp E 0 (918, ls, .int y :: .int x :: sk, h) = zrun zpp E 0 (919, ls, .int (x + y) :: sk, h) := zrun_at (i := (.iadd, 919, 0, [])) rfl
set_option maxRecDepth 20000 in
theorem zi0_919 {E : zE} {x : UInt32} {i : Int32} {ls sk : List Value} {h : zH} : zrun zpp E 0 (919, ls, .int i :: .float x :: sk, h) = if zix i E.1 = true then zrun zpp E 0 (920, ls, .int (E.2 i.toNatClampNeg) :: sk, h) else none := zg_sald rfl
set_option maxRecDepth 20000 in
theorem zi0_920 {E : zE} {x : Nat} {ls sk : List Value} {h : zH} : zrun zpp E 0 (920, .ref x :: ls, sk, h) = zrun zpp E 0 (921, .ref x :: ls, .ref x :: sk, h) := zrun_at (i := (.aload_n 0, 921, 0, [])) rfl
set_option maxRecDepth 20000 in
theorem zi0_920n {E : zE} {ls sk : List Value} {h : zH} : zrun zpp E 0 (920, .null :: ls, sk, h) = zrun zpp E 0 (921, .null :: ls, .null :: sk, h) := zrun_at (i := (.aload_n 0, 921, 0, [])) rfl
set_option maxRecDepth 20000 in
theorem zi0_920f {E : zE} {x : UInt32} {ls sk : List Value} {h : zH} : zrun zpp E 0 (920, .float x :: ls, sk, h) = zrun zpp E 0 (921, .float x :: ls, .float x :: sk, h) := zrun_at (i := (.aload_n 0, 921, 0, [])) rfl
set_option maxRecDepth 20000 in
theorem zi0_921 {E : zE} {v0 v1 v2 : Value} {x : Int32} {ls sk : List Value} {h : zH} : zrun zpp E 0 (921, v0 :: v1 :: v2 :: .int x :: ls, sk, h) = zrun zpp E 0 (922, v0 :: v1 :: v2 :: .int x :: ls, .int x :: sk, h) := zrun_at (i := (.iload_n 3, 922, 0, [])) rfl
set_option maxRecDepth 20000 in
theorem zi0_922 {E : zE} {ls sk : List Value} {h : zH} : zrun zpp E 0 (922, ls, sk, h) = zrun zpp E 0 (923, ls, .int 4 :: sk, h) := zg_iconst rfl ci_4
set_option maxRecDepth 20000 in
theorem zi0_923 {E : zE} {x y : Int32} {ls sk : List Value} {h : zH} : zrun zpp E 0 (923, ls, .int y :: .int x :: sk, h) = zrun zpp E 0 (924, ls, .int (x + y) :: sk, h) := zrun_at (i := (.iadd, 924, 0, [])) rfl
set_option maxRecDepth 20000 in
theorem zi0_924 {E : zE} {x : UInt32} {i : Int32} {ls sk : List Value} {h : zH} : zrun zpp E 0 (924, ls, .int i :: .float x :: sk, h) = if zix i E.1 = true then zrun zpp E 0 (925, ls, .int (E.2 i.toNatClampNeg) :: sk, h) else none := zg_sald rfl
set_option maxRecDepth 20000 in
theorem zi0_925 {E : zE} {a0 a1 a2 a3 : Value} {x : Nat} {ls sk : List Value} {h : zH} : zrun zpp E 0 (925, ls, a3 :: a2 :: a1 :: a0 :: .ref x :: sk, h) = (zcls h x).bind (fun d => (zsel d [10, 114]).bind (fun M' => zcl1 E 0 928 M' ls sk [.ref x, a0, a1, a2, a3] h)) := zg_vir (as := [a0, a1, a2, a3]) rfl rfl
set_option maxRecDepth 20000 in
theorem zi0_928 {E : zE} {v0 v1 : Value} {x : Nat} {ls sk : List Value} {h : zH} : zrun zpp E 0 (928, v0 :: v1 :: .ref x :: ls, sk, h) = zrun zpp E 0 (929, v0 :: v1 :: .ref x :: ls, .ref x :: sk, h) := zrun_at (i := (.aload_n 2, 929, 0, [])) rfl
set_option maxRecDepth 20000 in
theorem zi0_928n {E : zE} {v0 v1 : Value} {ls sk : List Value} {h : zH} : zrun zpp E 0 (928, v0 :: v1 :: .null :: ls, sk, h) = zrun zpp E 0 (929, v0 :: v1 :: .null :: ls, .null :: sk, h) := zrun_at (i := (.aload_n 2, 929, 0, [])) rfl
set_option maxRecDepth 20000 in
theorem zi0_928f {E : zE} {v0 v1 : Value} {x : UInt32} {ls sk : List Value} {h : zH} : zrun zpp E 0 (928, v0 :: v1 :: .float x :: ls, sk, h) = zrun zpp E 0 (929, v0 :: v1 :: .float x :: ls, .float x :: sk, h) := zrun_at (i := (.aload_n 2, 929, 0, [])) rfl
set_option maxRecDepth 20000 in
theorem zi0_929 {E : zE} {x : Nat} {ls sk : List Value} {h : zH} : zrun zpp E 0 (929, .ref x :: ls, sk, h) = zrun zpp E 0 (930, .ref x :: ls, .ref x :: sk, h) := zrun_at (i := (.aload_n 0, 930, 0, [])) rfl
set_option maxRecDepth 20000 in
theorem zi0_929n {E : zE} {ls sk : List Value} {h : zH} : zrun zpp E 0 (929, .null :: ls, sk, h) = zrun zpp E 0 (930, .null :: ls, .null :: sk, h) := zrun_at (i := (.aload_n 0, 930, 0, [])) rfl
set_option maxRecDepth 20000 in
theorem zi0_929f {E : zE} {x : UInt32} {ls sk : List Value} {h : zH} : zrun zpp E 0 (929, .float x :: ls, sk, h) = zrun zpp E 0 (930, .float x :: ls, .float x :: sk, h) := zrun_at (i := (.aload_n 0, 930, 0, [])) rfl
set_option maxRecDepth 20000 in
theorem zi0_930 {E : zE} {v0 v1 v2 : Value} {x : Int32} {ls sk : List Value} {h : zH} : zrun zpp E 0 (930, v0 :: v1 :: v2 :: .int x :: ls, sk, h) = zrun zpp E 0 (931, v0 :: v1 :: v2 :: .int x :: ls, .int x :: sk, h) := zrun_at (i := (.iload_n 3, 931, 0, [])) rfl
set_option maxRecDepth 20000 in
theorem zi0_931 {E : zE} {ls sk : List Value} {h : zH} : zrun zpp E 0 (931, ls, sk, h) = zrun zpp E 0 (932, ls, .int 1 :: sk, h) := zg_iconst rfl ci_1
set_option maxRecDepth 20000 in
theorem zi0_932 {E : zE} {x y : Int32} {ls sk : List Value} {h : zH} : zrun zpp E 0 (932, ls, .int y :: .int x :: sk, h) = zrun zpp E 0 (933, ls, .int (x + y) :: sk, h) := zrun_at (i := (.iadd, 933, 0, [])) rfl
set_option maxRecDepth 20000 in
theorem zi0_933 {E : zE} {x : UInt32} {i : Int32} {ls sk : List Value} {h : zH} : zrun zpp E 0 (933, ls, .int i :: .float x :: sk, h) = if zix i E.1 = true then zrun zpp E 0 (934, ls, .int (E.2 i.toNatClampNeg) :: sk, h) else none := zg_sald rfl
set_option maxRecDepth 20000 in
theorem zi0_934 {E : zE} {x : Nat} {ls sk : List Value} {h : zH} : zrun zpp E 0 (934, .ref x :: ls, sk, h) = zrun zpp E 0 (935, .ref x :: ls, .ref x :: sk, h) := zrun_at (i := (.aload_n 0, 935, 0, [])) rfl
set_option maxRecDepth 20000 in
theorem zi0_934n {E : zE} {ls sk : List Value} {h : zH} : zrun zpp E 0 (934, .null :: ls, sk, h) = zrun zpp E 0 (935, .null :: ls, .null :: sk, h) := zrun_at (i := (.aload_n 0, 935, 0, [])) rfl
set_option maxRecDepth 20000 in
theorem zi0_934f {E : zE} {x : UInt32} {ls sk : List Value} {h : zH} : zrun zpp E 0 (934, .float x :: ls, sk, h) = zrun zpp E 0 (935, .float x :: ls, .float x :: sk, h) := zrun_at (i := (.aload_n 0, 935, 0, [])) rfl
set_option maxRecDepth 20000 in
theorem zi0_935 {E : zE} {v0 v1 v2 : Value} {x : Int32} {ls sk : List Value} {h : zH} : zrun zpp E 0 (935, v0 :: v1 :: v2 :: .int x :: ls, sk, h) = zrun zpp E 0 (936, v0 :: v1 :: v2 :: .int x :: ls, .int x :: sk, h) := zrun_at (i := (.iload_n 3, 936, 0, [])) rfl
set_option maxRecDepth 20000 in
theorem zi0_936 {E : zE} {ls sk : List Value} {h : zH} : zrun zpp E 0 (936, ls, sk, h) = zrun zpp E 0 (937, ls, .int 2 :: sk, h) := zg_iconst rfl ci_2
set_option maxRecDepth 20000 in
theorem zi0_937 {E : zE} {x y : Int32} {ls sk : List Value} {h : zH} : zrun zpp E 0 (937, ls, .int y :: .int x :: sk, h) = zrun zpp E 0 (938, ls, .int (x + y) :: sk, h) := zrun_at (i := (.iadd, 938, 0, [])) rfl
set_option maxRecDepth 20000 in
theorem zi0_938 {E : zE} {x : UInt32} {i : Int32} {ls sk : List Value} {h : zH} : zrun zpp E 0 (938, ls, .int i :: .float x :: sk, h) = if zix i E.1 = true then zrun zpp E 0 (939, ls, .int (E.2 i.toNatClampNeg) :: sk, h) else none := zg_sald rfl
set_option maxRecDepth 20000 in
theorem zi0_939 {E : zE} {x : Nat} {ls sk : List Value} {h : zH} : zrun zpp E 0 (939, .ref x :: ls, sk, h) = zrun zpp E 0 (940, .ref x :: ls, .ref x :: sk, h) := zrun_at (i := (.aload_n 0, 940, 0, [])) rfl
set_option maxRecDepth 20000 in
theorem zi0_939n {E : zE} {ls sk : List Value} {h : zH} : zrun zpp E 0 (939, .null :: ls, sk, h) = zrun zpp E 0 (940, .null :: ls, .null :: sk, h) := zrun_at (i := (.aload_n 0, 940, 0, [])) rfl
set_option maxRecDepth 20000 in
theorem zi0_939f {E : zE} {x : UInt32} {ls sk : List Value} {h : zH} : zrun zpp E 0 (939, .float x :: ls, sk, h) = zrun zpp E 0 (940, .float x :: ls, .float x :: sk, h) := zrun_at (i := (.aload_n 0, 940, 0, [])) rfl
set_option maxRecDepth 20000 in
theorem zi0_940 {E : zE} {v0 v1 v2 : Value} {x : Int32} {ls sk : List Value} {h : zH} : zrun zpp E 0 (940, v0 :: v1 :: v2 :: .int x :: ls, sk, h) = zrun zpp E 0 (941, v0 :: v1 :: v2 :: .int x :: ls, .int x :: sk, h) := zrun_at (i := (.iload_n 3, 941, 0, [])) rfl
set_option maxRecDepth 20000 in
theorem zi0_941 {E : zE} {ls sk : List Value} {h : zH} : zrun zpp E 0 (941, ls, sk, h) = zrun zpp E 0 (942, ls, .int 3 :: sk, h) := zg_iconst rfl ci_3
set_option maxRecDepth 20000 in
theorem zi0_942 {E : zE} {x y : Int32} {ls sk : List Value} {h : zH} : zrun zpp E 0 (942, ls, .int y :: .int x :: sk, h) = zrun zpp E 0 (943, ls, .int (x + y) :: sk, h) := zrun_at (i := (.iadd, 943, 0, [])) rfl
set_option maxRecDepth 20000 in
theorem zi0_943 {E : zE} {x : UInt32} {i : Int32} {ls sk : List Value} {h : zH} : zrun zpp E 0 (943, ls, .int i :: .float x :: sk, h) = if zix i E.1 = true then zrun zpp E 0 (944, ls, .int (E.2 i.toNatClampNeg) :: sk, h) else none := zg_sald rfl
set_option maxRecDepth 20000 in
theorem zi0_944 {E : zE} {x : Nat} {ls sk : List Value} {h : zH} : zrun zpp E 0 (944, .ref x :: ls, sk, h) = zrun zpp E 0 (945, .ref x :: ls, .ref x :: sk, h) := zrun_at (i := (.aload_n 0, 945, 0, [])) rfl
set_option maxRecDepth 20000 in
theorem zi0_944n {E : zE} {ls sk : List Value} {h : zH} : zrun zpp E 0 (944, .null :: ls, sk, h) = zrun zpp E 0 (945, .null :: ls, .null :: sk, h) := zrun_at (i := (.aload_n 0, 945, 0, [])) rfl
set_option maxRecDepth 20000 in
theorem zi0_944f {E : zE} {x : UInt32} {ls sk : List Value} {h : zH} : zrun zpp E 0 (944, .float x :: ls, sk, h) = zrun zpp E 0 (945, .float x :: ls, .float x :: sk, h) := zrun_at (i := (.aload_n 0, 945, 0, [])) rfl
set_option maxRecDepth 20000 in
theorem zi0_945 {E : zE} {v0 v1 v2 : Value} {x : Int32} {ls sk : List Value} {h : zH} : zrun zpp E 0 (945, v0 :: v1 :: v2 :: .int x :: ls, sk, h) = zrun zpp E 0 (946, v0 :: v1 :: v2 :: .int x :: ls, .int x :: sk, h) := zrun_at (i := (.iload_n 3, 946, 0, [])) rfl
set_option maxRecDepth 20000 in
theorem zi0_946 {E : zE} {ls sk : List Value} {h : zH} : zrun zpp E 0 (946, ls, sk, h) = zrun zpp E 0 (947, ls, .int 4 :: sk, h) := zg_iconst rfl ci_4
set_option maxRecDepth 20000 in
theorem zi0_947 {E : zE} {x y : Int32} {ls sk : List Value} {h : zH} : zrun zpp E 0 (947, ls, .int y :: .int x :: sk, h) = zrun zpp E 0 (948, ls, .int (x + y) :: sk, h) := zrun_at (i := (.iadd, 948, 0, [])) rfl
set_option maxRecDepth 20000 in
theorem zi0_948 {E : zE} {x : UInt32} {i : Int32} {ls sk : List Value} {h : zH} : zrun zpp E 0 (948, ls, .int i :: .float x :: sk, h) = if zix i E.1 = true then zrun zpp E 0 (949, ls, .int (E.2 i.toNatClampNeg) :: sk, h) else none := zg_sald rfl
set_option maxRecDepth 20000 in
theorem zi0_949 {E : zE} {a0 a1 a2 a3 : Value} {x : Nat} {ls sk : List Value} {h : zH} : zrun zpp E 0 (949, ls, a3 :: a2 :: a1 :: a0 :: .ref x :: sk, h) = (zcls h x).bind (fun d => (zsel d [11, 212]).bind (fun M' => zcl1 E 0 952 M' ls sk [.ref x, a0, a1, a2, a3] h)) := zg_vir (as := [a0, a1, a2, a3]) rfl rfl
set_option maxRecDepth 20000 in
theorem zi0_952 {E : zE} {x y : Int32} {ls sk : List Value} {h : zH} : zrun zpp E 0 (952, ls, .int y :: .int x :: sk, h) = if x = y then zrun zpp E 0 (1301, ls, sk, h) else zrun zpp E 0 (955, ls, sk, h) := zrun_at (i := (.if_icmp .eq 349, 955, 0, [1301])) rfl
set_option maxRecDepth 20000 in
theorem zi0_955 {E : zE} {ls sk : List Value} {h : zH} : zrun zpp E 0 (955, ls, sk, h) = zrun zpp E 0 (956, ls, .int 0 :: sk, h) := zg_iconst rfl ci_0
set_option maxRecDepth 20000 in
theorem zi0_956 {E : zE} {x : Int32} {ls sk : List Value} {h : zH} : zrun zpp E 0 (956, ls, [.int x], h) = if x = 0 then some (some (.int 0), h) else if x = 1 then some (some (.int 1), h) else none := zrun_at (i := (.ireturn, 957, 1, [])) rfl
set_option maxRecDepth 20000 in
theorem zi0_957 {E : zE} {v0 : Value} {x : Nat} {ls sk : List Value} {h : zH} : zrun zpp E 0 (957, v0 :: .ref x :: ls, sk, h) = zrun zpp E 0 (958, v0 :: .ref x :: ls, .ref x :: sk, h) := zrun_at (i := (.aload_n 1, 958, 0, [])) rfl
set_option maxRecDepth 20000 in
theorem zi0_957n {E : zE} {v0 : Value} {ls sk : List Value} {h : zH} : zrun zpp E 0 (957, v0 :: .null :: ls, sk, h) = zrun zpp E 0 (958, v0 :: .null :: ls, .null :: sk, h) := zrun_at (i := (.aload_n 1, 958, 0, [])) rfl
set_option maxRecDepth 20000 in
theorem zi0_957f {E : zE} {v0 : Value} {x : UInt32} {ls sk : List Value} {h : zH} : zrun zpp E 0 (957, v0 :: .float x :: ls, sk, h) = zrun zpp E 0 (958, v0 :: .float x :: ls, .float x :: sk, h) := zrun_at (i := (.aload_n 1, 958, 0, [])) rfl
set_option maxRecDepth 20000 in
theorem zi0_958 {E : zE} {x : Nat} {ls sk : List Value} {h : zH} : zrun zpp E 0 (958, .ref x :: ls, sk, h) = zrun zpp E 0 (959, .ref x :: ls, .ref x :: sk, h) := zrun_at (i := (.aload_n 0, 959, 0, [])) rfl
set_option maxRecDepth 20000 in
theorem zi0_958n {E : zE} {ls sk : List Value} {h : zH} : zrun zpp E 0 (958, .null :: ls, sk, h) = zrun zpp E 0 (959, .null :: ls, .null :: sk, h) := zrun_at (i := (.aload_n 0, 959, 0, [])) rfl
set_option maxRecDepth 20000 in
theorem zi0_958f {E : zE} {x : UInt32} {ls sk : List Value} {h : zH} : zrun zpp E 0 (958, .float x :: ls, sk, h) = zrun zpp E 0 (959, .float x :: ls, .float x :: sk, h) := zrun_at (i := (.aload_n 0, 959, 0, [])) rfl
set_option maxRecDepth 20000 in
theorem zi0_959 {E : zE} {v0 v1 v2 : Value} {x : Int32} {ls sk : List Value} {h : zH} : zrun zpp E 0 (959, v0 :: v1 :: v2 :: .int x :: ls, sk, h) = zrun zpp E 0 (960, v0 :: v1 :: v2 :: .int x :: ls, .int x :: sk, h) := zrun_at (i := (.iload_n 3, 960, 0, [])) rfl
set_option maxRecDepth 20000 in
theorem zi0_960 {E : zE} {ls sk : List Value} {h : zH} : zrun zpp E 0 (960, ls, sk, h) = zrun zpp E 0 (961, ls, .int 1 :: sk, h) := zg_iconst rfl ci_1
set_option maxRecDepth 20000 in
theorem zi0_961 {E : zE} {x y : Int32} {ls sk : List Value} {h : zH} : zrun zpp E 0 (961, ls, .int y :: .int x :: sk, h) = zrun zpp E 0 (962, ls, .int (x + y) :: sk, h) := zrun_at (i := (.iadd, 962, 0, [])) rfl
set_option maxRecDepth 20000 in
theorem zi0_962 {E : zE} {x : UInt32} {i : Int32} {ls sk : List Value} {h : zH} : zrun zpp E 0 (962, ls, .int i :: .float x :: sk, h) = if zix i E.1 = true then zrun zpp E 0 (963, ls, .int (E.2 i.toNatClampNeg) :: sk, h) else none := zg_sald rfl
set_option maxRecDepth 20000 in
theorem zi0_963 {E : zE} {x : Nat} {ls sk : List Value} {h : zH} : zrun zpp E 0 (963, .ref x :: ls, sk, h) = zrun zpp E 0 (964, .ref x :: ls, .ref x :: sk, h) := zrun_at (i := (.aload_n 0, 964, 0, [])) rfl
set_option maxRecDepth 20000 in
theorem zi0_963n {E : zE} {ls sk : List Value} {h : zH} : zrun zpp E 0 (963, .null :: ls, sk, h) = zrun zpp E 0 (964, .null :: ls, .null :: sk, h) := zrun_at (i := (.aload_n 0, 964, 0, [])) rfl
set_option maxRecDepth 20000 in
theorem zi0_963f {E : zE} {x : UInt32} {ls sk : List Value} {h : zH} : zrun zpp E 0 (963, .float x :: ls, sk, h) = zrun zpp E 0 (964, .float x :: ls, .float x :: sk, h) := zrun_at (i := (.aload_n 0, 964, 0, [])) rfl
set_option maxRecDepth 20000 in
theorem zi0_964 {E : zE} {v0 v1 v2 : Value} {x : Int32} {ls sk : List Value} {h : zH} : zrun zpp E 0 (964, v0 :: v1 :: v2 :: .int x :: ls, sk, h) = zrun zpp E 0 (965, v0 :: v1 :: v2 :: .int x :: ls, .int x :: sk, h) := zrun_at (i := (.iload_n 3, 965, 0, [])) rfl
set_option maxRecDepth 20000 in
theorem zi0_965 {E : zE} {ls sk : List Value} {h : zH} : zrun zpp E 0 (965, ls, sk, h) = zrun zpp E 0 (966, ls, .int 2 :: sk, h) := zg_iconst rfl ci_2
set_option maxRecDepth 20000 in
theorem zi0_966 {E : zE} {x y : Int32} {ls sk : List Value} {h : zH} : zrun zpp E 0 (966, ls, .int y :: .int x :: sk, h) = zrun zpp E 0 (967, ls, .int (x + y) :: sk, h) := zrun_at (i := (.iadd, 967, 0, [])) rfl
set_option maxRecDepth 20000 in
theorem zi0_967 {E : zE} {x : UInt32} {i : Int32} {ls sk : List Value} {h : zH} : zrun zpp E 0 (967, ls, .int i :: .float x :: sk, h) = if zix i E.1 = true then zrun zpp E 0 (968, ls, .int (E.2 i.toNatClampNeg) :: sk, h) else none := zg_sald rfl
set_option maxRecDepth 20000 in
theorem zi0_968 {E : zE} {x : Nat} {ls sk : List Value} {h : zH} : zrun zpp E 0 (968, .ref x :: ls, sk, h) = zrun zpp E 0 (969, .ref x :: ls, .ref x :: sk, h) := zrun_at (i := (.aload_n 0, 969, 0, [])) rfl
set_option maxRecDepth 20000 in
theorem zi0_968n {E : zE} {ls sk : List Value} {h : zH} : zrun zpp E 0 (968, .null :: ls, sk, h) = zrun zpp E 0 (969, .null :: ls, .null :: sk, h) := zrun_at (i := (.aload_n 0, 969, 0, [])) rfl
set_option maxRecDepth 20000 in
theorem zi0_968f {E : zE} {x : UInt32} {ls sk : List Value} {h : zH} : zrun zpp E 0 (968, .float x :: ls, sk, h) = zrun zpp E 0 (969, .float x :: ls, .float x :: sk, h) := zrun_at (i := (.aload_n 0, 969, 0, [])) rfl
set_option maxRecDepth 20000 in
theorem zi0_969 {E : zE} {v0 v1 v2 : Value} {x : Int32} {ls sk : List Value} {h : zH} : zrun zpp E 0 (969, v0 :: v1 :: v2 :: .int x :: ls, sk, h) = zrun zpp E 0 (970, v0 :: v1 :: v2 :: .int x :: ls, .int x :: sk, h) := zrun_at (i := (.iload_n 3, 970, 0, [])) rfl
set_option maxRecDepth 20000 in
theorem zi0_970 {E : zE} {ls sk : List Value} {h : zH} : zrun zpp E 0 (970, ls, sk, h) = zrun zpp E 0 (971, ls, .int 3 :: sk, h) := zg_iconst rfl ci_3
set_option maxRecDepth 20000 in
theorem zi0_971 {E : zE} {x y : Int32} {ls sk : List Value} {h : zH} : zrun zpp E 0 (971, ls, .int y :: .int x :: sk, h) = zrun zpp E 0 (972, ls, .int (x + y) :: sk, h) := zrun_at (i := (.iadd, 972, 0, [])) rfl
set_option maxRecDepth 20000 in
theorem zi0_972 {E : zE} {x : UInt32} {i : Int32} {ls sk : List Value} {h : zH} : zrun zpp E 0 (972, ls, .int i :: .float x :: sk, h) = if zix i E.1 = true then zrun zpp E 0 (973, ls, .int (E.2 i.toNatClampNeg) :: sk, h) else none := zg_sald rfl
set_option maxRecDepth 20000 in
theorem zi0_973 {E : zE} {x : Nat} {ls sk : List Value} {h : zH} : zrun zpp E 0 (973, .ref x :: ls, sk, h) = zrun zpp E 0 (974, .ref x :: ls, .ref x :: sk, h) := zrun_at (i := (.aload_n 0, 974, 0, [])) rfl
set_option maxRecDepth 20000 in
theorem zi0_973n {E : zE} {ls sk : List Value} {h : zH} : zrun zpp E 0 (973, .null :: ls, sk, h) = zrun zpp E 0 (974, .null :: ls, .null :: sk, h) := zrun_at (i := (.aload_n 0, 974, 0, [])) rfl
set_option maxRecDepth 20000 in
theorem zi0_973f {E : zE} {x : UInt32} {ls sk : List Value} {h : zH} : zrun zpp E 0 (973, .float x :: ls, sk, h) = zrun zpp E 0 (974, .float x :: ls, .float x :: sk, h) := zrun_at (i := (.aload_n 0, 974, 0, [])) rfl
set_option maxRecDepth 20000 in
theorem zi0_974 {E : zE} {v0 v1 v2 : Value} {x : Int32} {ls sk : List Value} {h : zH} : zrun zpp E 0 (974, v0 :: v1 :: v2 :: .int x :: ls, sk, h) = zrun zpp E 0 (975, v0 :: v1 :: v2 :: .int x :: ls, .int x :: sk, h) := zrun_at (i := (.iload_n 3, 975, 0, [])) rfl
set_option maxRecDepth 20000 in
theorem zi0_975 {E : zE} {ls sk : List Value} {h : zH} : zrun zpp E 0 (975, ls, sk, h) = zrun zpp E 0 (976, ls, .int 4 :: sk, h) := zg_iconst rfl ci_4
set_option maxRecDepth 20000 in
theorem zi0_976 {E : zE} {x y : Int32} {ls sk : List Value} {h : zH} : zrun zpp E 0 (976, ls, .int y :: .int x :: sk, h) = zrun zpp E 0 (977, ls, .int (x + y) :: sk, h) := zrun_at (i := (.iadd, 977, 0, [])) rfl
set_option maxRecDepth 20000 in
theorem zi0_977 {E : zE} {x : UInt32} {i : Int32} {ls sk : List Value} {h : zH} : zrun zpp E 0 (977, ls, .int i :: .float x :: sk, h) = if zix i E.1 = true then zrun zpp E 0 (978, ls, .int (E.2 i.toNatClampNeg) :: sk, h) else none := zg_sald rfl
set_option maxRecDepth 20000 in
theorem zi0_978 {E : zE} {a0 a1 a2 a3 : Value} {x : Nat} {ls sk : List Value} {h : zH} : zrun zpp E 0 (978, ls, a3 :: a2 :: a1 :: a0 :: .ref x :: sk, h) = (zcls h x).bind (fun d => (zsel d [10, 115]).bind (fun M' => zcl1 E 0 981 M' ls sk [.ref x, a0, a1, a2, a3] h)) := zg_vir (as := [a0, a1, a2, a3]) rfl rfl
set_option maxRecDepth 20000 in
theorem zi0_981 {E : zE} {v0 v1 : Value} {x : Nat} {ls sk : List Value} {h : zH} : zrun zpp E 0 (981, v0 :: v1 :: .ref x :: ls, sk, h) = zrun zpp E 0 (982, v0 :: v1 :: .ref x :: ls, .ref x :: sk, h) := zrun_at (i := (.aload_n 2, 982, 0, [])) rfl
set_option maxRecDepth 20000 in
theorem zi0_981n {E : zE} {v0 v1 : Value} {ls sk : List Value} {h : zH} : zrun zpp E 0 (981, v0 :: v1 :: .null :: ls, sk, h) = zrun zpp E 0 (982, v0 :: v1 :: .null :: ls, .null :: sk, h) := zrun_at (i := (.aload_n 2, 982, 0, [])) rfl
set_option maxRecDepth 20000 in
theorem zi0_981f {E : zE} {v0 v1 : Value} {x : UInt32} {ls sk : List Value} {h : zH} : zrun zpp E 0 (981, v0 :: v1 :: .float x :: ls, sk, h) = zrun zpp E 0 (982, v0 :: v1 :: .float x :: ls, .float x :: sk, h) := zrun_at (i := (.aload_n 2, 982, 0, [])) rfl
set_option maxRecDepth 20000 in
theorem zi0_982 {E : zE} {x : Nat} {ls sk : List Value} {h : zH} : zrun zpp E 0 (982, .ref x :: ls, sk, h) = zrun zpp E 0 (983, .ref x :: ls, .ref x :: sk, h) := zrun_at (i := (.aload_n 0, 983, 0, [])) rfl
set_option maxRecDepth 20000 in
theorem zi0_982n {E : zE} {ls sk : List Value} {h : zH} : zrun zpp E 0 (982, .null :: ls, sk, h) = zrun zpp E 0 (983, .null :: ls, .null :: sk, h) := zrun_at (i := (.aload_n 0, 983, 0, [])) rfl
set_option maxRecDepth 20000 in
theorem zi0_982f {E : zE} {x : UInt32} {ls sk : List Value} {h : zH} : zrun zpp E 0 (982, .float x :: ls, sk, h) = zrun zpp E 0 (983, .float x :: ls, .float x :: sk, h) := zrun_at (i := (.aload_n 0, 983, 0, [])) rfl
set_option maxRecDepth 20000 in
theorem zi0_983 {E : zE} {v0 v1 v2 : Value} {x : Int32} {ls sk : List Value} {h : zH} : zrun zpp E 0 (983, v0 :: v1 :: v2 :: .int x :: ls, sk, h) = zrun zpp E 0 (984, v0 :: v1 :: v2 :: .int x :: ls, .int x :: sk, h) := zrun_at (i := (.iload_n 3, 984, 0, [])) rfl
set_option maxRecDepth 20000 in
theorem zi0_984 {E : zE} {ls sk : List Value} {h : zH} : zrun zpp E 0 (984, ls, sk, h) = zrun zpp E 0 (985, ls, .int 1 :: sk, h) := zg_iconst rfl ci_1
set_option maxRecDepth 20000 in
theorem zi0_985 {E : zE} {x y : Int32} {ls sk : List Value} {h : zH} : zrun zpp E 0 (985, ls, .int y :: .int x :: sk, h) = zrun zpp E 0 (986, ls, .int (x + y) :: sk, h) := zrun_at (i := (.iadd, 986, 0, [])) rfl
set_option maxRecDepth 20000 in
theorem zi0_986 {E : zE} {x : UInt32} {i : Int32} {ls sk : List Value} {h : zH} : zrun zpp E 0 (986, ls, .int i :: .float x :: sk, h) = if zix i E.1 = true then zrun zpp E 0 (987, ls, .int (E.2 i.toNatClampNeg) :: sk, h) else none := zg_sald rfl
set_option maxRecDepth 20000 in
theorem zi0_987 {E : zE} {x : Nat} {ls sk : List Value} {h : zH} : zrun zpp E 0 (987, .ref x :: ls, sk, h) = zrun zpp E 0 (988, .ref x :: ls, .ref x :: sk, h) := zrun_at (i := (.aload_n 0, 988, 0, [])) rfl
set_option maxRecDepth 20000 in
theorem zi0_987n {E : zE} {ls sk : List Value} {h : zH} : zrun zpp E 0 (987, .null :: ls, sk, h) = zrun zpp E 0 (988, .null :: ls, .null :: sk, h) := zrun_at (i := (.aload_n 0, 988, 0, [])) rfl
set_option maxRecDepth 20000 in
theorem zi0_987f {E : zE} {x : UInt32} {ls sk : List Value} {h : zH} : zrun zpp E 0 (987, .float x :: ls, sk, h) = zrun zpp E 0 (988, .float x :: ls, .float x :: sk, h) := zrun_at (i := (.aload_n 0, 988, 0, [])) rfl
set_option maxRecDepth 20000 in
theorem zi0_988 {E : zE} {v0 v1 v2 : Value} {x : Int32} {ls sk : List Value} {h : zH} : zrun zpp E 0 (988, v0 :: v1 :: v2 :: .int x :: ls, sk, h) = zrun zpp E 0 (989, v0 :: v1 :: v2 :: .int x :: ls, .int x :: sk, h) := zrun_at (i := (.iload_n 3, 989, 0, [])) rfl
set_option maxRecDepth 20000 in
theorem zi0_989 {E : zE} {ls sk : List Value} {h : zH} : zrun zpp E 0 (989, ls, sk, h) = zrun zpp E 0 (990, ls, .int 2 :: sk, h) := zg_iconst rfl ci_2
set_option maxRecDepth 20000 in
theorem zi0_990 {E : zE} {x y : Int32} {ls sk : List Value} {h : zH} : zrun zpp E 0 (990, ls, .int y :: .int x :: sk, h) = zrun zpp E 0 (991, ls, .int (x + y) :: sk, h) := zrun_at (i := (.iadd, 991, 0, [])) rfl
set_option maxRecDepth 20000 in
theorem zi0_991 {E : zE} {x : UInt32} {i : Int32} {ls sk : List Value} {h : zH} : zrun zpp E 0 (991, ls, .int i :: .float x :: sk, h) = if zix i E.1 = true then zrun zpp E 0 (992, ls, .int (E.2 i.toNatClampNeg) :: sk, h) else none := zg_sald rfl
set_option maxRecDepth 20000 in
theorem zi0_992 {E : zE} {x : Nat} {ls sk : List Value} {h : zH} : zrun zpp E 0 (992, .ref x :: ls, sk, h) = zrun zpp E 0 (993, .ref x :: ls, .ref x :: sk, h) := zrun_at (i := (.aload_n 0, 993, 0, [])) rfl
set_option maxRecDepth 20000 in
theorem zi0_992n {E : zE} {ls sk : List Value} {h : zH} : zrun zpp E 0 (992, .null :: ls, sk, h) = zrun zpp E 0 (993, .null :: ls, .null :: sk, h) := zrun_at (i := (.aload_n 0, 993, 0, [])) rfl
set_option maxRecDepth 20000 in
theorem zi0_992f {E : zE} {x : UInt32} {ls sk : List Value} {h : zH} : zrun zpp E 0 (992, .float x :: ls, sk, h) = zrun zpp E 0 (993, .float x :: ls, .float x :: sk, h) := zrun_at (i := (.aload_n 0, 993, 0, [])) rfl
set_option maxRecDepth 20000 in
theorem zi0_993 {E : zE} {v0 v1 v2 : Value} {x : Int32} {ls sk : List Value} {h : zH} : zrun zpp E 0 (993, v0 :: v1 :: v2 :: .int x :: ls, sk, h) = zrun zpp E 0 (994, v0 :: v1 :: v2 :: .int x :: ls, .int x :: sk, h) := zrun_at (i := (.iload_n 3, 994, 0, [])) rfl
set_option maxRecDepth 20000 in
theorem zi0_994 {E : zE} {ls sk : List Value} {h : zH} : zrun zpp E 0 (994, ls, sk, h) = zrun zpp E 0 (995, ls, .int 3 :: sk, h) := zg_iconst rfl ci_3
set_option maxRecDepth 20000 in
theorem zi0_995 {E : zE} {x y : Int32} {ls sk : List Value} {h : zH} : zrun zpp E 0 (995, ls, .int y :: .int x :: sk, h) = zrun zpp E 0 (996, ls, .int (x + y) :: sk, h) := zrun_at (i := (.iadd, 996, 0, [])) rfl
set_option maxRecDepth 20000 in
theorem zi0_996 {E : zE} {x : UInt32} {i : Int32} {ls sk : List Value} {h : zH} : zrun zpp E 0 (996, ls, .int i :: .float x :: sk, h) = if zix i E.1 = true then zrun zpp E 0 (997, ls, .int (E.2 i.toNatClampNeg) :: sk, h) else none := zg_sald rfl
set_option maxRecDepth 20000 in
theorem zi0_997 {E : zE} {x : Nat} {ls sk : List Value} {h : zH} : zrun zpp E 0 (997, .ref x :: ls, sk, h) = zrun zpp E 0 (998, .ref x :: ls, .ref x :: sk, h) := zrun_at (i := (.aload_n 0, 998, 0, [])) rfl
set_option maxRecDepth 20000 in
theorem zi0_997n {E : zE} {ls sk : List Value} {h : zH} : zrun zpp E 0 (997, .null :: ls, sk, h) = zrun zpp E 0 (998, .null :: ls, .null :: sk, h) := zrun_at (i := (.aload_n 0, 998, 0, [])) rfl
set_option maxRecDepth 20000 in
theorem zi0_997f {E : zE} {x : UInt32} {ls sk : List Value} {h : zH} : zrun zpp E 0 (997, .float x :: ls, sk, h) = zrun zpp E 0 (998, .float x :: ls, .float x :: sk, h) := zrun_at (i := (.aload_n 0, 998, 0, [])) rfl
set_option maxRecDepth 20000 in
theorem zi0_998 {E : zE} {v0 v1 v2 : Value} {x : Int32} {ls sk : List Value} {h : zH} : zrun zpp E 0 (998, v0 :: v1 :: v2 :: .int x :: ls, sk, h) = zrun zpp E 0 (999, v0 :: v1 :: v2 :: .int x :: ls, .int x :: sk, h) := zrun_at (i := (.iload_n 3, 999, 0, [])) rfl
set_option maxRecDepth 20000 in
theorem zi0_999 {E : zE} {ls sk : List Value} {h : zH} : zrun zpp E 0 (999, ls, sk, h) = zrun zpp E 0 (1000, ls, .int 4 :: sk, h) := zg_iconst rfl ci_4
set_option maxRecDepth 20000 in
theorem zi0_1000 {E : zE} {x y : Int32} {ls sk : List Value} {h : zH} : zrun zpp E 0 (1000, ls, .int y :: .int x :: sk, h) = zrun zpp E 0 (1001, ls, .int (x + y) :: sk, h) := zrun_at (i := (.iadd, 1001, 0, [])) rfl
set_option maxRecDepth 20000 in
theorem zi0_1001 {E : zE} {x : UInt32} {i : Int32} {ls sk : List Value} {h : zH} : zrun zpp E 0 (1001, ls, .int i :: .float x :: sk, h) = if zix i E.1 = true then zrun zpp E 0 (1002, ls, .int (E.2 i.toNatClampNeg) :: sk, h) else none := zg_sald rfl
set_option maxRecDepth 20000 in
theorem zi0_1002 {E : zE} {a0 a1 a2 a3 : Value} {x : Nat} {ls sk : List Value} {h : zH} : zrun zpp E 0 (1002, ls, a3 :: a2 :: a1 :: a0 :: .ref x :: sk, h) = (zcls h x).bind (fun d => (zsel d [11, 213]).bind (fun M' => zcl1 E 0 1005 M' ls sk [.ref x, a0, a1, a2, a3] h)) := zg_vir (as := [a0, a1, a2, a3]) rfl rfl
set_option maxRecDepth 20000 in
theorem zi0_1005 {E : zE} {x y : Int32} {ls sk : List Value} {h : zH} : zrun zpp E 0 (1005, ls, .int y :: .int x :: sk, h) = if x = y then zrun zpp E 0 (1301, ls, sk, h) else zrun zpp E 0 (1008, ls, sk, h) := zrun_at (i := (.if_icmp .eq 296, 1008, 0, [1301])) rfl
set_option maxRecDepth 20000 in
theorem zi0_1008 {E : zE} {ls sk : List Value} {h : zH} : zrun zpp E 0 (1008, ls, sk, h) = zrun zpp E 0 (1009, ls, .int 0 :: sk, h) := zg_iconst rfl ci_0
set_option maxRecDepth 20000 in
theorem zi0_1009 {E : zE} {x : Int32} {ls sk : List Value} {h : zH} : zrun zpp E 0 (1009, ls, [.int x], h) = if x = 0 then some (some (.int 0), h) else if x = 1 then some (some (.int 1), h) else none := zrun_at (i := (.ireturn, 1010, 1, [])) rfl
set_option maxRecDepth 20000 in
theorem zi0_1010 {E : zE} {v0 : Value} {x : Nat} {ls sk : List Value} {h : zH} : zrun zpp E 0 (1010, v0 :: .ref x :: ls, sk, h) = zrun zpp E 0 (1011, v0 :: .ref x :: ls, .ref x :: sk, h) := zrun_at (i := (.aload_n 1, 1011, 0, [])) rfl
set_option maxRecDepth 20000 in
theorem zi0_1010n {E : zE} {v0 : Value} {ls sk : List Value} {h : zH} : zrun zpp E 0 (1010, v0 :: .null :: ls, sk, h) = zrun zpp E 0 (1011, v0 :: .null :: ls, .null :: sk, h) := zrun_at (i := (.aload_n 1, 1011, 0, [])) rfl
set_option maxRecDepth 20000 in
theorem zi0_1010f {E : zE} {v0 : Value} {x : UInt32} {ls sk : List Value} {h : zH} : zrun zpp E 0 (1010, v0 :: .float x :: ls, sk, h) = zrun zpp E 0 (1011, v0 :: .float x :: ls, .float x :: sk, h) := zrun_at (i := (.aload_n 1, 1011, 0, [])) rfl
set_option maxRecDepth 20000 in
theorem zi0_1011 {E : zE} {x : Nat} {ls sk : List Value} {h : zH} : zrun zpp E 0 (1011, .ref x :: ls, sk, h) = zrun zpp E 0 (1012, .ref x :: ls, .ref x :: sk, h) := zrun_at (i := (.aload_n 0, 1012, 0, [])) rfl
set_option maxRecDepth 20000 in
theorem zi0_1011n {E : zE} {ls sk : List Value} {h : zH} : zrun zpp E 0 (1011, .null :: ls, sk, h) = zrun zpp E 0 (1012, .null :: ls, .null :: sk, h) := zrun_at (i := (.aload_n 0, 1012, 0, [])) rfl
set_option maxRecDepth 20000 in
theorem zi0_1011f {E : zE} {x : UInt32} {ls sk : List Value} {h : zH} : zrun zpp E 0 (1011, .float x :: ls, sk, h) = zrun zpp E 0 (1012, .float x :: ls, .float x :: sk, h) := zrun_at (i := (.aload_n 0, 1012, 0, [])) rfl
set_option maxRecDepth 20000 in
theorem zi0_1012 {E : zE} {v0 v1 v2 : Value} {x : Int32} {ls sk : List Value} {h : zH} : zrun zpp E 0 (1012, v0 :: v1 :: v2 :: .int x :: ls, sk, h) = zrun zpp E 0 (1013, v0 :: v1 :: v2 :: .int x :: ls, .int x :: sk, h) := zrun_at (i := (.iload_n 3, 1013, 0, [])) rfl
set_option maxRecDepth 20000 in
theorem zi0_1013 {E : zE} {ls sk : List Value} {h : zH} : zrun zpp E 0 (1013, ls, sk, h) = zrun zpp E 0 (1014, ls, .int 1 :: sk, h) := zg_iconst rfl ci_1
set_option maxRecDepth 20000 in
theorem zi0_1014 {E : zE} {x y : Int32} {ls sk : List Value} {h : zH} : zrun zpp E 0 (1014, ls, .int y :: .int x :: sk, h) = zrun zpp E 0 (1015, ls, .int (x + y) :: sk, h) := zrun_at (i := (.iadd, 1015, 0, [])) rfl
set_option maxRecDepth 20000 in
theorem zi0_1015 {E : zE} {x : UInt32} {i : Int32} {ls sk : List Value} {h : zH} : zrun zpp E 0 (1015, ls, .int i :: .float x :: sk, h) = if zix i E.1 = true then zrun zpp E 0 (1016, ls, .int (E.2 i.toNatClampNeg) :: sk, h) else none := zg_sald rfl
set_option maxRecDepth 20000 in
theorem zi0_1016 {E : zE} {x : Nat} {ls sk : List Value} {h : zH} : zrun zpp E 0 (1016, .ref x :: ls, sk, h) = zrun zpp E 0 (1017, .ref x :: ls, .ref x :: sk, h) := zrun_at (i := (.aload_n 0, 1017, 0, [])) rfl
set_option maxRecDepth 20000 in
theorem zi0_1016n {E : zE} {ls sk : List Value} {h : zH} : zrun zpp E 0 (1016, .null :: ls, sk, h) = zrun zpp E 0 (1017, .null :: ls, .null :: sk, h) := zrun_at (i := (.aload_n 0, 1017, 0, [])) rfl
set_option maxRecDepth 20000 in
theorem zi0_1016f {E : zE} {x : UInt32} {ls sk : List Value} {h : zH} : zrun zpp E 0 (1016, .float x :: ls, sk, h) = zrun zpp E 0 (1017, .float x :: ls, .float x :: sk, h) := zrun_at (i := (.aload_n 0, 1017, 0, [])) rfl
set_option maxRecDepth 20000 in
theorem zi0_1017 {E : zE} {v0 v1 v2 : Value} {x : Int32} {ls sk : List Value} {h : zH} : zrun zpp E 0 (1017, v0 :: v1 :: v2 :: .int x :: ls, sk, h) = zrun zpp E 0 (1018, v0 :: v1 :: v2 :: .int x :: ls, .int x :: sk, h) := zrun_at (i := (.iload_n 3, 1018, 0, [])) rfl
set_option maxRecDepth 20000 in
theorem zi0_1018 {E : zE} {ls sk : List Value} {h : zH} : zrun zpp E 0 (1018, ls, sk, h) = zrun zpp E 0 (1019, ls, .int 2 :: sk, h) := zg_iconst rfl ci_2
set_option maxRecDepth 20000 in
theorem zi0_1019 {E : zE} {x y : Int32} {ls sk : List Value} {h : zH} : zrun zpp E 0 (1019, ls, .int y :: .int x :: sk, h) = zrun zpp E 0 (1020, ls, .int (x + y) :: sk, h) := zrun_at (i := (.iadd, 1020, 0, [])) rfl
set_option maxRecDepth 20000 in
theorem zi0_1020 {E : zE} {x : UInt32} {i : Int32} {ls sk : List Value} {h : zH} : zrun zpp E 0 (1020, ls, .int i :: .float x :: sk, h) = if zix i E.1 = true then zrun zpp E 0 (1021, ls, .int (E.2 i.toNatClampNeg) :: sk, h) else none := zg_sald rfl
set_option maxRecDepth 20000 in
theorem zi0_1021 {E : zE} {x : Nat} {ls sk : List Value} {h : zH} : zrun zpp E 0 (1021, .ref x :: ls, sk, h) = zrun zpp E 0 (1022, .ref x :: ls, .ref x :: sk, h) := zrun_at (i := (.aload_n 0, 1022, 0, [])) rfl
set_option maxRecDepth 20000 in
theorem zi0_1021n {E : zE} {ls sk : List Value} {h : zH} : zrun zpp E 0 (1021, .null :: ls, sk, h) = zrun zpp E 0 (1022, .null :: ls, .null :: sk, h) := zrun_at (i := (.aload_n 0, 1022, 0, [])) rfl
set_option maxRecDepth 20000 in
theorem zi0_1021f {E : zE} {x : UInt32} {ls sk : List Value} {h : zH} : zrun zpp E 0 (1021, .float x :: ls, sk, h) = zrun zpp E 0 (1022, .float x :: ls, .float x :: sk, h) := zrun_at (i := (.aload_n 0, 1022, 0, [])) rfl
set_option maxRecDepth 20000 in
theorem zi0_1022 {E : zE} {v0 v1 v2 : Value} {x : Int32} {ls sk : List Value} {h : zH} : zrun zpp E 0 (1022, v0 :: v1 :: v2 :: .int x :: ls, sk, h) = zrun zpp E 0 (1023, v0 :: v1 :: v2 :: .int x :: ls, .int x :: sk, h) := zrun_at (i := (.iload_n 3, 1023, 0, [])) rfl
set_option maxRecDepth 20000 in
theorem zi0_1023 {E : zE} {ls sk : List Value} {h : zH} : zrun zpp E 0 (1023, ls, sk, h) = zrun zpp E 0 (1024, ls, .int 3 :: sk, h) := zg_iconst rfl ci_3
set_option maxRecDepth 20000 in
theorem zi0_1024 {E : zE} {x y : Int32} {ls sk : List Value} {h : zH} : zrun zpp E 0 (1024, ls, .int y :: .int x :: sk, h) = zrun zpp E 0 (1025, ls, .int (x + y) :: sk, h) := zrun_at (i := (.iadd, 1025, 0, [])) rfl
set_option maxRecDepth 20000 in
theorem zi0_1025 {E : zE} {x : UInt32} {i : Int32} {ls sk : List Value} {h : zH} : zrun zpp E 0 (1025, ls, .int i :: .float x :: sk, h) = if zix i E.1 = true then zrun zpp E 0 (1026, ls, .int (E.2 i.toNatClampNeg) :: sk, h) else none := zg_sald rfl
set_option maxRecDepth 20000 in
theorem zi0_1026 {E : zE} {x : Nat} {ls sk : List Value} {h : zH} : zrun zpp E 0 (1026, .ref x :: ls, sk, h) = zrun zpp E 0 (1027, .ref x :: ls, .ref x :: sk, h) := zrun_at (i := (.aload_n 0, 1027, 0, [])) rfl
set_option maxRecDepth 20000 in
theorem zi0_1026n {E : zE} {ls sk : List Value} {h : zH} : zrun zpp E 0 (1026, .null :: ls, sk, h) = zrun zpp E 0 (1027, .null :: ls, .null :: sk, h) := zrun_at (i := (.aload_n 0, 1027, 0, [])) rfl
set_option maxRecDepth 20000 in
theorem zi0_1026f {E : zE} {x : UInt32} {ls sk : List Value} {h : zH} : zrun zpp E 0 (1026, .float x :: ls, sk, h) = zrun zpp E 0 (1027, .float x :: ls, .float x :: sk, h) := zrun_at (i := (.aload_n 0, 1027, 0, [])) rfl
set_option maxRecDepth 20000 in
theorem zi0_1027 {E : zE} {v0 v1 v2 : Value} {x : Int32} {ls sk : List Value} {h : zH} : zrun zpp E 0 (1027, v0 :: v1 :: v2 :: .int x :: ls, sk, h) = zrun zpp E 0 (1028, v0 :: v1 :: v2 :: .int x :: ls, .int x :: sk, h) := zrun_at (i := (.iload_n 3, 1028, 0, [])) rfl
set_option maxRecDepth 20000 in
theorem zi0_1028 {E : zE} {ls sk : List Value} {h : zH} : zrun zpp E 0 (1028, ls, sk, h) = zrun zpp E 0 (1029, ls, .int 4 :: sk, h) := zg_iconst rfl ci_4
set_option maxRecDepth 20000 in
theorem zi0_1029 {E : zE} {x y : Int32} {ls sk : List Value} {h : zH} : zrun zpp E 0 (1029, ls, .int y :: .int x :: sk, h) = zrun zpp E 0 (1030, ls, .int (x + y) :: sk, h) := zrun_at (i := (.iadd, 1030, 0, [])) rfl
set_option maxRecDepth 20000 in
theorem zi0_1030 {E : zE} {x : UInt32} {i : Int32} {ls sk : List Value} {h : zH} : zrun zpp E 0 (1030, ls, .int i :: .float x :: sk, h) = if zix i E.1 = true then zrun zpp E 0 (1031, ls, .int (E.2 i.toNatClampNeg) :: sk, h) else none := zg_sald rfl
set_option maxRecDepth 20000 in
theorem zi0_1031 {E : zE} {a0 a1 a2 a3 : Value} {x : Nat} {ls sk : List Value} {h : zH} : zrun zpp E 0 (1031, ls, a3 :: a2 :: a1 :: a0 :: .ref x :: sk, h) = (zcls h x).bind (fun d => (zsel d [10, 116]).bind (fun M' => zcl1 E 0 1034 M' ls sk [.ref x, a0, a1, a2, a3] h)) := zg_vir (as := [a0, a1, a2, a3]) rfl rfl
set_option maxRecDepth 20000 in
theorem zi0_1034 {E : zE} {v0 v1 : Value} {x : Nat} {ls sk : List Value} {h : zH} : zrun zpp E 0 (1034, v0 :: v1 :: .ref x :: ls, sk, h) = zrun zpp E 0 (1035, v0 :: v1 :: .ref x :: ls, .ref x :: sk, h) := zrun_at (i := (.aload_n 2, 1035, 0, [])) rfl
set_option maxRecDepth 20000 in
theorem zi0_1034n {E : zE} {v0 v1 : Value} {ls sk : List Value} {h : zH} : zrun zpp E 0 (1034, v0 :: v1 :: .null :: ls, sk, h) = zrun zpp E 0 (1035, v0 :: v1 :: .null :: ls, .null :: sk, h) := zrun_at (i := (.aload_n 2, 1035, 0, [])) rfl
set_option maxRecDepth 20000 in
theorem zi0_1034f {E : zE} {v0 v1 : Value} {x : UInt32} {ls sk : List Value} {h : zH} : zrun zpp E 0 (1034, v0 :: v1 :: .float x :: ls, sk, h) = zrun zpp E 0 (1035, v0 :: v1 :: .float x :: ls, .float x :: sk, h) := zrun_at (i := (.aload_n 2, 1035, 0, [])) rfl
set_option maxRecDepth 20000 in
theorem zi0_1035 {E : zE} {x : Nat} {ls sk : List Value} {h : zH} : zrun zpp E 0 (1035, .ref x :: ls, sk, h) = zrun zpp E 0 (1036, .ref x :: ls, .ref x :: sk, h) := zrun_at (i := (.aload_n 0, 1036, 0, [])) rfl
set_option maxRecDepth 20000 in
theorem zi0_1035n {E : zE} {ls sk : List Value} {h : zH} : zrun zpp E 0 (1035, .null :: ls, sk, h) = zrun zpp E 0 (1036, .null :: ls, .null :: sk, h) := zrun_at (i := (.aload_n 0, 1036, 0, [])) rfl
set_option maxRecDepth 20000 in
theorem zi0_1035f {E : zE} {x : UInt32} {ls sk : List Value} {h : zH} : zrun zpp E 0 (1035, .float x :: ls, sk, h) = zrun zpp E 0 (1036, .float x :: ls, .float x :: sk, h) := zrun_at (i := (.aload_n 0, 1036, 0, [])) rfl
set_option maxRecDepth 20000 in
theorem zi0_1036 {E : zE} {v0 v1 v2 : Value} {x : Int32} {ls sk : List Value} {h : zH} : zrun zpp E 0 (1036, v0 :: v1 :: v2 :: .int x :: ls, sk, h) = zrun zpp E 0 (1037, v0 :: v1 :: v2 :: .int x :: ls, .int x :: sk, h) := zrun_at (i := (.iload_n 3, 1037, 0, [])) rfl
set_option maxRecDepth 20000 in
theorem zi0_1037 {E : zE} {ls sk : List Value} {h : zH} : zrun zpp E 0 (1037, ls, sk, h) = zrun zpp E 0 (1038, ls, .int 1 :: sk, h) := zg_iconst rfl ci_1
set_option maxRecDepth 20000 in
theorem zi0_1038 {E : zE} {x y : Int32} {ls sk : List Value} {h : zH} : zrun zpp E 0 (1038, ls, .int y :: .int x :: sk, h) = zrun zpp E 0 (1039, ls, .int (x + y) :: sk, h) := zrun_at (i := (.iadd, 1039, 0, [])) rfl
set_option maxRecDepth 20000 in
theorem zi0_1039 {E : zE} {x : UInt32} {i : Int32} {ls sk : List Value} {h : zH} : zrun zpp E 0 (1039, ls, .int i :: .float x :: sk, h) = if zix i E.1 = true then zrun zpp E 0 (1040, ls, .int (E.2 i.toNatClampNeg) :: sk, h) else none := zg_sald rfl
set_option maxRecDepth 20000 in
theorem zi0_1040 {E : zE} {x : Nat} {ls sk : List Value} {h : zH} : zrun zpp E 0 (1040, .ref x :: ls, sk, h) = zrun zpp E 0 (1041, .ref x :: ls, .ref x :: sk, h) := zrun_at (i := (.aload_n 0, 1041, 0, [])) rfl
set_option maxRecDepth 20000 in
theorem zi0_1040n {E : zE} {ls sk : List Value} {h : zH} : zrun zpp E 0 (1040, .null :: ls, sk, h) = zrun zpp E 0 (1041, .null :: ls, .null :: sk, h) := zrun_at (i := (.aload_n 0, 1041, 0, [])) rfl
set_option maxRecDepth 20000 in
theorem zi0_1040f {E : zE} {x : UInt32} {ls sk : List Value} {h : zH} : zrun zpp E 0 (1040, .float x :: ls, sk, h) = zrun zpp E 0 (1041, .float x :: ls, .float x :: sk, h) := zrun_at (i := (.aload_n 0, 1041, 0, [])) rfl
set_option maxRecDepth 20000 in
theorem zi0_1041 {E : zE} {v0 v1 v2 : Value} {x : Int32} {ls sk : List Value} {h : zH} : zrun zpp E 0 (1041, v0 :: v1 :: v2 :: .int x :: ls, sk, h) = zrun zpp E 0 (1042, v0 :: v1 :: v2 :: .int x :: ls, .int x :: sk, h) := zrun_at (i := (.iload_n 3, 1042, 0, [])) rfl
set_option maxRecDepth 20000 in
theorem zi0_1042 {E : zE} {ls sk : List Value} {h : zH} : zrun zpp E 0 (1042, ls, sk, h) = zrun zpp E 0 (1043, ls, .int 2 :: sk, h) := zg_iconst rfl ci_2
set_option maxRecDepth 20000 in
theorem zi0_1043 {E : zE} {x y : Int32} {ls sk : List Value} {h : zH} : zrun zpp E 0 (1043, ls, .int y :: .int x :: sk, h) = zrun zpp E 0 (1044, ls, .int (x + y) :: sk, h) := zrun_at (i := (.iadd, 1044, 0, [])) rfl
set_option maxRecDepth 20000 in
theorem zi0_1044 {E : zE} {x : UInt32} {i : Int32} {ls sk : List Value} {h : zH} : zrun zpp E 0 (1044, ls, .int i :: .float x :: sk, h) = if zix i E.1 = true then zrun zpp E 0 (1045, ls, .int (E.2 i.toNatClampNeg) :: sk, h) else none := zg_sald rfl
set_option maxRecDepth 20000 in
theorem zi0_1045 {E : zE} {x : Nat} {ls sk : List Value} {h : zH} : zrun zpp E 0 (1045, .ref x :: ls, sk, h) = zrun zpp E 0 (1046, .ref x :: ls, .ref x :: sk, h) := zrun_at (i := (.aload_n 0, 1046, 0, [])) rfl
set_option maxRecDepth 20000 in
theorem zi0_1045n {E : zE} {ls sk : List Value} {h : zH} : zrun zpp E 0 (1045, .null :: ls, sk, h) = zrun zpp E 0 (1046, .null :: ls, .null :: sk, h) := zrun_at (i := (.aload_n 0, 1046, 0, [])) rfl
set_option maxRecDepth 20000 in
theorem zi0_1045f {E : zE} {x : UInt32} {ls sk : List Value} {h : zH} : zrun zpp E 0 (1045, .float x :: ls, sk, h) = zrun zpp E 0 (1046, .float x :: ls, .float x :: sk, h) := zrun_at (i := (.aload_n 0, 1046, 0, [])) rfl
set_option maxRecDepth 20000 in
theorem zi0_1046 {E : zE} {v0 v1 v2 : Value} {x : Int32} {ls sk : List Value} {h : zH} : zrun zpp E 0 (1046, v0 :: v1 :: v2 :: .int x :: ls, sk, h) = zrun zpp E 0 (1047, v0 :: v1 :: v2 :: .int x :: ls, .int x :: sk, h) := zrun_at (i := (.iload_n 3, 1047, 0, [])) rfl
set_option maxRecDepth 20000 in
theorem zi0_1047 {E : zE} {ls sk : List Value} {h : zH} : zrun zpp E 0 (1047, ls, sk, h) = zrun zpp E 0 (1048, ls, .int 3 :: sk, h) := zg_iconst rfl ci_3
set_option maxRecDepth 20000 in
theorem zi0_1048 {E : zE} {x y : Int32} {ls sk : List Value} {h : zH} : zrun zpp E 0 (1048, ls, .int y :: .int x :: sk, h) = zrun zpp E 0 (1049, ls, .int (x + y) :: sk, h) := zrun_at (i := (.iadd, 1049, 0, [])) rfl
set_option maxRecDepth 20000 in
theorem zi0_1049 {E : zE} {x : UInt32} {i : Int32} {ls sk : List Value} {h : zH} : zrun zpp E 0 (1049, ls, .int i :: .float x :: sk, h) = if zix i E.1 = true then zrun zpp E 0 (1050, ls, .int (E.2 i.toNatClampNeg) :: sk, h) else none := zg_sald rfl
set_option maxRecDepth 20000 in
theorem zi0_1050 {E : zE} {x : Nat} {ls sk : List Value} {h : zH} : zrun zpp E 0 (1050, .ref x :: ls, sk, h) = zrun zpp E 0 (1051, .ref x :: ls, .ref x :: sk, h) := zrun_at (i := (.aload_n 0, 1051, 0, [])) rfl
set_option maxRecDepth 20000 in
theorem zi0_1050n {E : zE} {ls sk : List Value} {h : zH} : zrun zpp E 0 (1050, .null :: ls, sk, h) = zrun zpp E 0 (1051, .null :: ls, .null :: sk, h) := zrun_at (i := (.aload_n 0, 1051, 0, [])) rfl
set_option maxRecDepth 20000 in
theorem zi0_1050f {E : zE} {x : UInt32} {ls sk : List Value} {h : zH} : zrun zpp E 0 (1050, .float x :: ls, sk, h) = zrun zpp E 0 (1051, .float x :: ls, .float x :: sk, h) := zrun_at (i := (.aload_n 0, 1051, 0, [])) rfl
set_option maxRecDepth 20000 in
theorem zi0_1051 {E : zE} {v0 v1 v2 : Value} {x : Int32} {ls sk : List Value} {h : zH} : zrun zpp E 0 (1051, v0 :: v1 :: v2 :: .int x :: ls, sk, h) = zrun zpp E 0 (1052, v0 :: v1 :: v2 :: .int x :: ls, .int x :: sk, h) := zrun_at (i := (.iload_n 3, 1052, 0, [])) rfl
set_option maxRecDepth 20000 in
theorem zi0_1052 {E : zE} {ls sk : List Value} {h : zH} : zrun zpp E 0 (1052, ls, sk, h) = zrun zpp E 0 (1053, ls, .int 4 :: sk, h) := zg_iconst rfl ci_4
set_option maxRecDepth 20000 in
theorem zi0_1053 {E : zE} {x y : Int32} {ls sk : List Value} {h : zH} : zrun zpp E 0 (1053, ls, .int y :: .int x :: sk, h) = zrun zpp E 0 (1054, ls, .int (x + y) :: sk, h) := zrun_at (i := (.iadd, 1054, 0, [])) rfl
set_option maxRecDepth 20000 in
theorem zi0_1054 {E : zE} {x : UInt32} {i : Int32} {ls sk : List Value} {h : zH} : zrun zpp E 0 (1054, ls, .int i :: .float x :: sk, h) = if zix i E.1 = true then zrun zpp E 0 (1055, ls, .int (E.2 i.toNatClampNeg) :: sk, h) else none := zg_sald rfl
set_option maxRecDepth 20000 in
theorem zi0_1055 {E : zE} {a0 a1 a2 a3 : Value} {x : Nat} {ls sk : List Value} {h : zH} : zrun zpp E 0 (1055, ls, a3 :: a2 :: a1 :: a0 :: .ref x :: sk, h) = (zcls h x).bind (fun d => (zsel d [11, 214]).bind (fun M' => zcl1 E 0 1058 M' ls sk [.ref x, a0, a1, a2, a3] h)) := zg_vir (as := [a0, a1, a2, a3]) rfl rfl
set_option maxRecDepth 20000 in
theorem zi0_1058 {E : zE} {x y : Int64} {ls sk : List Value} {h : zH} : zrun zpp E 0 (1058, ls, .long y :: .long x :: sk, h) = zrun zpp E 0 (1059, ls, .int (lg_cmp x y) :: sk, h) := zrun_at (i := (.lcmp, 1059, 0, [])) rfl
set_option maxRecDepth 20000 in
theorem zi0_1059 {E : zE} {x : Int32} {ls sk : List Value} {h : zH} : zrun zpp E 0 (1059, ls, .int x :: sk, h) = if x = 0 then zrun zpp E 0 (1301, ls, sk, h) else zrun zpp E 0 (1062, ls, sk, h) := zrun_at (i := (.ifCond .eq 242, 1062, 0, [1301])) rfl
set_option maxRecDepth 20000 in
theorem zi0_1062 {E : zE} {ls sk : List Value} {h : zH} : zrun zpp E 0 (1062, ls, sk, h) = zrun zpp E 0 (1063, ls, .int 0 :: sk, h) := zg_iconst rfl ci_0
set_option maxRecDepth 20000 in
theorem zi0_1063 {E : zE} {x : Int32} {ls sk : List Value} {h : zH} : zrun zpp E 0 (1063, ls, [.int x], h) = if x = 0 then some (some (.int 0), h) else if x = 1 then some (some (.int 1), h) else none := zrun_at (i := (.ireturn, 1064, 1, [])) rfl
set_option maxRecDepth 20000 in
theorem zi0_1064 {E : zE} {v0 : Value} {x : Nat} {ls sk : List Value} {h : zH} : zrun zpp E 0 (1064, v0 :: .ref x :: ls, sk, h) = zrun zpp E 0 (1065, v0 :: .ref x :: ls, .ref x :: sk, h) := zrun_at (i := (.aload_n 1, 1065, 0, [])) rfl
set_option maxRecDepth 20000 in
theorem zi0_1064n {E : zE} {v0 : Value} {ls sk : List Value} {h : zH} : zrun zpp E 0 (1064, v0 :: .null :: ls, sk, h) = zrun zpp E 0 (1065, v0 :: .null :: ls, .null :: sk, h) := zrun_at (i := (.aload_n 1, 1065, 0, [])) rfl
set_option maxRecDepth 20000 in
theorem zi0_1064f {E : zE} {v0 : Value} {x : UInt32} {ls sk : List Value} {h : zH} : zrun zpp E 0 (1064, v0 :: .float x :: ls, sk, h) = zrun zpp E 0 (1065, v0 :: .float x :: ls, .float x :: sk, h) := zrun_at (i := (.aload_n 1, 1065, 0, [])) rfl
set_option maxRecDepth 20000 in
theorem zi0_1065 {E : zE} {x : Nat} {ls sk : List Value} {h : zH} : zrun zpp E 0 (1065, .ref x :: ls, sk, h) = zrun zpp E 0 (1066, .ref x :: ls, .ref x :: sk, h) := zrun_at (i := (.aload_n 0, 1066, 0, [])) rfl
set_option maxRecDepth 20000 in
theorem zi0_1065n {E : zE} {ls sk : List Value} {h : zH} : zrun zpp E 0 (1065, .null :: ls, sk, h) = zrun zpp E 0 (1066, .null :: ls, .null :: sk, h) := zrun_at (i := (.aload_n 0, 1066, 0, [])) rfl
set_option maxRecDepth 20000 in
theorem zi0_1065f {E : zE} {x : UInt32} {ls sk : List Value} {h : zH} : zrun zpp E 0 (1065, .float x :: ls, sk, h) = zrun zpp E 0 (1066, .float x :: ls, .float x :: sk, h) := zrun_at (i := (.aload_n 0, 1066, 0, [])) rfl
set_option maxRecDepth 20000 in
theorem zi0_1066 {E : zE} {v0 v1 v2 : Value} {x : Int32} {ls sk : List Value} {h : zH} : zrun zpp E 0 (1066, v0 :: v1 :: v2 :: .int x :: ls, sk, h) = zrun zpp E 0 (1067, v0 :: v1 :: v2 :: .int x :: ls, .int x :: sk, h) := zrun_at (i := (.iload_n 3, 1067, 0, [])) rfl
set_option maxRecDepth 20000 in
theorem zi0_1067 {E : zE} {ls sk : List Value} {h : zH} : zrun zpp E 0 (1067, ls, sk, h) = zrun zpp E 0 (1068, ls, .int 1 :: sk, h) := zg_iconst rfl ci_1
set_option maxRecDepth 20000 in
theorem zi0_1068 {E : zE} {x y : Int32} {ls sk : List Value} {h : zH} : zrun zpp E 0 (1068, ls, .int y :: .int x :: sk, h) = zrun zpp E 0 (1069, ls, .int (x + y) :: sk, h) := zrun_at (i := (.iadd, 1069, 0, [])) rfl
set_option maxRecDepth 20000 in
theorem zi0_1069 {E : zE} {x : UInt32} {i : Int32} {ls sk : List Value} {h : zH} : zrun zpp E 0 (1069, ls, .int i :: .float x :: sk, h) = if zix i E.1 = true then zrun zpp E 0 (1070, ls, .int (E.2 i.toNatClampNeg) :: sk, h) else none := zg_sald rfl
set_option maxRecDepth 20000 in
theorem zi0_1070 {E : zE} {x : Nat} {ls sk : List Value} {h : zH} : zrun zpp E 0 (1070, .ref x :: ls, sk, h) = zrun zpp E 0 (1071, .ref x :: ls, .ref x :: sk, h) := zrun_at (i := (.aload_n 0, 1071, 0, [])) rfl
set_option maxRecDepth 20000 in
theorem zi0_1070n {E : zE} {ls sk : List Value} {h : zH} : zrun zpp E 0 (1070, .null :: ls, sk, h) = zrun zpp E 0 (1071, .null :: ls, .null :: sk, h) := zrun_at (i := (.aload_n 0, 1071, 0, [])) rfl
set_option maxRecDepth 20000 in
theorem zi0_1070f {E : zE} {x : UInt32} {ls sk : List Value} {h : zH} : zrun zpp E 0 (1070, .float x :: ls, sk, h) = zrun zpp E 0 (1071, .float x :: ls, .float x :: sk, h) := zrun_at (i := (.aload_n 0, 1071, 0, [])) rfl
set_option maxRecDepth 20000 in
theorem zi0_1071 {E : zE} {v0 v1 v2 : Value} {x : Int32} {ls sk : List Value} {h : zH} : zrun zpp E 0 (1071, v0 :: v1 :: v2 :: .int x :: ls, sk, h) = zrun zpp E 0 (1072, v0 :: v1 :: v2 :: .int x :: ls, .int x :: sk, h) := zrun_at (i := (.iload_n 3, 1072, 0, [])) rfl
set_option maxRecDepth 20000 in
theorem zi0_1072 {E : zE} {ls sk : List Value} {h : zH} : zrun zpp E 0 (1072, ls, sk, h) = zrun zpp E 0 (1073, ls, .int 2 :: sk, h) := zg_iconst rfl ci_2
set_option maxRecDepth 20000 in
theorem zi0_1073 {E : zE} {x y : Int32} {ls sk : List Value} {h : zH} : zrun zpp E 0 (1073, ls, .int y :: .int x :: sk, h) = zrun zpp E 0 (1074, ls, .int (x + y) :: sk, h) := zrun_at (i := (.iadd, 1074, 0, [])) rfl
set_option maxRecDepth 20000 in
theorem zi0_1074 {E : zE} {x : UInt32} {i : Int32} {ls sk : List Value} {h : zH} : zrun zpp E 0 (1074, ls, .int i :: .float x :: sk, h) = if zix i E.1 = true then zrun zpp E 0 (1075, ls, .int (E.2 i.toNatClampNeg) :: sk, h) else none := zg_sald rfl
set_option maxRecDepth 20000 in
theorem zi0_1075 {E : zE} {x : Nat} {ls sk : List Value} {h : zH} : zrun zpp E 0 (1075, .ref x :: ls, sk, h) = zrun zpp E 0 (1076, .ref x :: ls, .ref x :: sk, h) := zrun_at (i := (.aload_n 0, 1076, 0, [])) rfl
set_option maxRecDepth 20000 in
theorem zi0_1075n {E : zE} {ls sk : List Value} {h : zH} : zrun zpp E 0 (1075, .null :: ls, sk, h) = zrun zpp E 0 (1076, .null :: ls, .null :: sk, h) := zrun_at (i := (.aload_n 0, 1076, 0, [])) rfl
set_option maxRecDepth 20000 in
theorem zi0_1075f {E : zE} {x : UInt32} {ls sk : List Value} {h : zH} : zrun zpp E 0 (1075, .float x :: ls, sk, h) = zrun zpp E 0 (1076, .float x :: ls, .float x :: sk, h) := zrun_at (i := (.aload_n 0, 1076, 0, [])) rfl
set_option maxRecDepth 20000 in
theorem zi0_1076 {E : zE} {v0 v1 v2 : Value} {x : Int32} {ls sk : List Value} {h : zH} : zrun zpp E 0 (1076, v0 :: v1 :: v2 :: .int x :: ls, sk, h) = zrun zpp E 0 (1077, v0 :: v1 :: v2 :: .int x :: ls, .int x :: sk, h) := zrun_at (i := (.iload_n 3, 1077, 0, [])) rfl
set_option maxRecDepth 20000 in
theorem zi0_1077 {E : zE} {ls sk : List Value} {h : zH} : zrun zpp E 0 (1077, ls, sk, h) = zrun zpp E 0 (1078, ls, .int 3 :: sk, h) := zg_iconst rfl ci_3
set_option maxRecDepth 20000 in
theorem zi0_1078 {E : zE} {x y : Int32} {ls sk : List Value} {h : zH} : zrun zpp E 0 (1078, ls, .int y :: .int x :: sk, h) = zrun zpp E 0 (1079, ls, .int (x + y) :: sk, h) := zrun_at (i := (.iadd, 1079, 0, [])) rfl
set_option maxRecDepth 20000 in
theorem zi0_1079 {E : zE} {x : UInt32} {i : Int32} {ls sk : List Value} {h : zH} : zrun zpp E 0 (1079, ls, .int i :: .float x :: sk, h) = if zix i E.1 = true then zrun zpp E 0 (1080, ls, .int (E.2 i.toNatClampNeg) :: sk, h) else none := zg_sald rfl
set_option maxRecDepth 20000 in
theorem zi0_1080 {E : zE} {a0 a1 a2 : Value} {x : Nat} {ls sk : List Value} {h : zH} : zrun zpp E 0 (1080, ls, a2 :: a1 :: a0 :: .ref x :: sk, h) = (zcls h x).bind (fun d => (zsel d [10, 117]).bind (fun M' => zcl1 E 0 1083 M' ls sk [.ref x, a0, a1, a2] h)) := zg_vir (as := [a0, a1, a2]) rfl rfl
set_option maxRecDepth 20000 in
theorem zi0_1083 {E : zE} {v0 v1 : Value} {x : Nat} {ls sk : List Value} {h : zH} : zrun zpp E 0 (1083, v0 :: v1 :: .ref x :: ls, sk, h) = zrun zpp E 0 (1084, v0 :: v1 :: .ref x :: ls, .ref x :: sk, h) := zrun_at (i := (.aload_n 2, 1084, 0, [])) rfl
set_option maxRecDepth 20000 in
theorem zi0_1083n {E : zE} {v0 v1 : Value} {ls sk : List Value} {h : zH} : zrun zpp E 0 (1083, v0 :: v1 :: .null :: ls, sk, h) = zrun zpp E 0 (1084, v0 :: v1 :: .null :: ls, .null :: sk, h) := zrun_at (i := (.aload_n 2, 1084, 0, [])) rfl
set_option maxRecDepth 20000 in
theorem zi0_1083f {E : zE} {v0 v1 : Value} {x : UInt32} {ls sk : List Value} {h : zH} : zrun zpp E 0 (1083, v0 :: v1 :: .float x :: ls, sk, h) = zrun zpp E 0 (1084, v0 :: v1 :: .float x :: ls, .float x :: sk, h) := zrun_at (i := (.aload_n 2, 1084, 0, [])) rfl
set_option maxRecDepth 20000 in
theorem zi0_1084 {E : zE} {x : Nat} {ls sk : List Value} {h : zH} : zrun zpp E 0 (1084, .ref x :: ls, sk, h) = zrun zpp E 0 (1085, .ref x :: ls, .ref x :: sk, h) := zrun_at (i := (.aload_n 0, 1085, 0, [])) rfl
set_option maxRecDepth 20000 in
theorem zi0_1084n {E : zE} {ls sk : List Value} {h : zH} : zrun zpp E 0 (1084, .null :: ls, sk, h) = zrun zpp E 0 (1085, .null :: ls, .null :: sk, h) := zrun_at (i := (.aload_n 0, 1085, 0, [])) rfl
set_option maxRecDepth 20000 in
theorem zi0_1084f {E : zE} {x : UInt32} {ls sk : List Value} {h : zH} : zrun zpp E 0 (1084, .float x :: ls, sk, h) = zrun zpp E 0 (1085, .float x :: ls, .float x :: sk, h) := zrun_at (i := (.aload_n 0, 1085, 0, [])) rfl
set_option maxRecDepth 20000 in
theorem zi0_1085 {E : zE} {v0 v1 v2 : Value} {x : Int32} {ls sk : List Value} {h : zH} : zrun zpp E 0 (1085, v0 :: v1 :: v2 :: .int x :: ls, sk, h) = zrun zpp E 0 (1086, v0 :: v1 :: v2 :: .int x :: ls, .int x :: sk, h) := zrun_at (i := (.iload_n 3, 1086, 0, [])) rfl
set_option maxRecDepth 20000 in
theorem zi0_1086 {E : zE} {ls sk : List Value} {h : zH} : zrun zpp E 0 (1086, ls, sk, h) = zrun zpp E 0 (1087, ls, .int 1 :: sk, h) := zg_iconst rfl ci_1
set_option maxRecDepth 20000 in
theorem zi0_1087 {E : zE} {x y : Int32} {ls sk : List Value} {h : zH} : zrun zpp E 0 (1087, ls, .int y :: .int x :: sk, h) = zrun zpp E 0 (1088, ls, .int (x + y) :: sk, h) := zrun_at (i := (.iadd, 1088, 0, [])) rfl
set_option maxRecDepth 20000 in
theorem zi0_1088 {E : zE} {x : UInt32} {i : Int32} {ls sk : List Value} {h : zH} : zrun zpp E 0 (1088, ls, .int i :: .float x :: sk, h) = if zix i E.1 = true then zrun zpp E 0 (1089, ls, .int (E.2 i.toNatClampNeg) :: sk, h) else none := zg_sald rfl
set_option maxRecDepth 20000 in
theorem zi0_1089 {E : zE} {x : Nat} {ls sk : List Value} {h : zH} : zrun zpp E 0 (1089, .ref x :: ls, sk, h) = zrun zpp E 0 (1090, .ref x :: ls, .ref x :: sk, h) := zrun_at (i := (.aload_n 0, 1090, 0, [])) rfl
set_option maxRecDepth 20000 in
theorem zi0_1089n {E : zE} {ls sk : List Value} {h : zH} : zrun zpp E 0 (1089, .null :: ls, sk, h) = zrun zpp E 0 (1090, .null :: ls, .null :: sk, h) := zrun_at (i := (.aload_n 0, 1090, 0, [])) rfl
set_option maxRecDepth 20000 in
theorem zi0_1089f {E : zE} {x : UInt32} {ls sk : List Value} {h : zH} : zrun zpp E 0 (1089, .float x :: ls, sk, h) = zrun zpp E 0 (1090, .float x :: ls, .float x :: sk, h) := zrun_at (i := (.aload_n 0, 1090, 0, [])) rfl
set_option maxRecDepth 20000 in
theorem zi0_1090 {E : zE} {v0 v1 v2 : Value} {x : Int32} {ls sk : List Value} {h : zH} : zrun zpp E 0 (1090, v0 :: v1 :: v2 :: .int x :: ls, sk, h) = zrun zpp E 0 (1091, v0 :: v1 :: v2 :: .int x :: ls, .int x :: sk, h) := zrun_at (i := (.iload_n 3, 1091, 0, [])) rfl
set_option maxRecDepth 20000 in
theorem zi0_1091 {E : zE} {ls sk : List Value} {h : zH} : zrun zpp E 0 (1091, ls, sk, h) = zrun zpp E 0 (1092, ls, .int 2 :: sk, h) := zg_iconst rfl ci_2
set_option maxRecDepth 20000 in
theorem zi0_1092 {E : zE} {x y : Int32} {ls sk : List Value} {h : zH} : zrun zpp E 0 (1092, ls, .int y :: .int x :: sk, h) = zrun zpp E 0 (1093, ls, .int (x + y) :: sk, h) := zrun_at (i := (.iadd, 1093, 0, [])) rfl
set_option maxRecDepth 20000 in
theorem zi0_1093 {E : zE} {x : UInt32} {i : Int32} {ls sk : List Value} {h : zH} : zrun zpp E 0 (1093, ls, .int i :: .float x :: sk, h) = if zix i E.1 = true then zrun zpp E 0 (1094, ls, .int (E.2 i.toNatClampNeg) :: sk, h) else none := zg_sald rfl
set_option maxRecDepth 20000 in
theorem zi0_1094 {E : zE} {x : Nat} {ls sk : List Value} {h : zH} : zrun zpp E 0 (1094, .ref x :: ls, sk, h) = zrun zpp E 0 (1095, .ref x :: ls, .ref x :: sk, h) := zrun_at (i := (.aload_n 0, 1095, 0, [])) rfl
set_option maxRecDepth 20000 in
theorem zi0_1094n {E : zE} {ls sk : List Value} {h : zH} : zrun zpp E 0 (1094, .null :: ls, sk, h) = zrun zpp E 0 (1095, .null :: ls, .null :: sk, h) := zrun_at (i := (.aload_n 0, 1095, 0, [])) rfl
set_option maxRecDepth 20000 in
theorem zi0_1094f {E : zE} {x : UInt32} {ls sk : List Value} {h : zH} : zrun zpp E 0 (1094, .float x :: ls, sk, h) = zrun zpp E 0 (1095, .float x :: ls, .float x :: sk, h) := zrun_at (i := (.aload_n 0, 1095, 0, [])) rfl
set_option maxRecDepth 20000 in
theorem zi0_1095 {E : zE} {v0 v1 v2 : Value} {x : Int32} {ls sk : List Value} {h : zH} : zrun zpp E 0 (1095, v0 :: v1 :: v2 :: .int x :: ls, sk, h) = zrun zpp E 0 (1096, v0 :: v1 :: v2 :: .int x :: ls, .int x :: sk, h) := zrun_at (i := (.iload_n 3, 1096, 0, [])) rfl
set_option maxRecDepth 20000 in
theorem zi0_1096 {E : zE} {ls sk : List Value} {h : zH} : zrun zpp E 0 (1096, ls, sk, h) = zrun zpp E 0 (1097, ls, .int 3 :: sk, h) := zg_iconst rfl ci_3
set_option maxRecDepth 20000 in
theorem zi0_1097 {E : zE} {x y : Int32} {ls sk : List Value} {h : zH} : zrun zpp E 0 (1097, ls, .int y :: .int x :: sk, h) = zrun zpp E 0 (1098, ls, .int (x + y) :: sk, h) := zrun_at (i := (.iadd, 1098, 0, [])) rfl
set_option maxRecDepth 20000 in
theorem zi0_1098 {E : zE} {x : UInt32} {i : Int32} {ls sk : List Value} {h : zH} : zrun zpp E 0 (1098, ls, .int i :: .float x :: sk, h) = if zix i E.1 = true then zrun zpp E 0 (1099, ls, .int (E.2 i.toNatClampNeg) :: sk, h) else none := zg_sald rfl
set_option maxRecDepth 20000 in
theorem zi0_1099 {E : zE} {a0 a1 a2 : Value} {x : Nat} {ls sk : List Value} {h : zH} : zrun zpp E 0 (1099, ls, a2 :: a1 :: a0 :: .ref x :: sk, h) = (zcls h x).bind (fun d => (zsel d [11, 215]).bind (fun M' => zcl1 E 0 1102 M' ls sk [.ref x, a0, a1, a2] h)) := zg_vir (as := [a0, a1, a2]) rfl rfl
set_option maxRecDepth 20000 in
theorem zi0_1102 {E : zE} {x y : Int32} {ls sk : List Value} {h : zH} : zrun zpp E 0 (1102, ls, .int y :: .int x :: sk, h) = if x = y then zrun zpp E 0 (1301, ls, sk, h) else zrun zpp E 0 (1105, ls, sk, h) := zrun_at (i := (.if_icmp .eq 199, 1105, 0, [1301])) rfl
set_option maxRecDepth 20000 in
theorem zi0_1105 {E : zE} {ls sk : List Value} {h : zH} : zrun zpp E 0 (1105, ls, sk, h) = zrun zpp E 0 (1106, ls, .int 0 :: sk, h) := zg_iconst rfl ci_0
set_option maxRecDepth 20000 in
theorem zi0_1106 {E : zE} {x : Int32} {ls sk : List Value} {h : zH} : zrun zpp E 0 (1106, ls, [.int x], h) = if x = 0 then some (some (.int 0), h) else if x = 1 then some (some (.int 1), h) else none := zrun_at (i := (.ireturn, 1107, 1, [])) rfl
set_option maxRecDepth 20000 in
theorem zi0_1107 {E : zE} {v0 : Value} {x : Nat} {ls sk : List Value} {h : zH} : zrun zpp E 0 (1107, v0 :: .ref x :: ls, sk, h) = zrun zpp E 0 (1108, v0 :: .ref x :: ls, .ref x :: sk, h) := zrun_at (i := (.aload_n 1, 1108, 0, [])) rfl
set_option maxRecDepth 20000 in
theorem zi0_1107n {E : zE} {v0 : Value} {ls sk : List Value} {h : zH} : zrun zpp E 0 (1107, v0 :: .null :: ls, sk, h) = zrun zpp E 0 (1108, v0 :: .null :: ls, .null :: sk, h) := zrun_at (i := (.aload_n 1, 1108, 0, [])) rfl
set_option maxRecDepth 20000 in
theorem zi0_1107f {E : zE} {v0 : Value} {x : UInt32} {ls sk : List Value} {h : zH} : zrun zpp E 0 (1107, v0 :: .float x :: ls, sk, h) = zrun zpp E 0 (1108, v0 :: .float x :: ls, .float x :: sk, h) := zrun_at (i := (.aload_n 1, 1108, 0, [])) rfl
set_option maxRecDepth 20000 in
theorem zi0_1108 {E : zE} {x : Nat} {ls sk : List Value} {h : zH} : zrun zpp E 0 (1108, .ref x :: ls, sk, h) = zrun zpp E 0 (1109, .ref x :: ls, .ref x :: sk, h) := zrun_at (i := (.aload_n 0, 1109, 0, [])) rfl
set_option maxRecDepth 20000 in
theorem zi0_1108n {E : zE} {ls sk : List Value} {h : zH} : zrun zpp E 0 (1108, .null :: ls, sk, h) = zrun zpp E 0 (1109, .null :: ls, .null :: sk, h) := zrun_at (i := (.aload_n 0, 1109, 0, [])) rfl
set_option maxRecDepth 20000 in
theorem zi0_1108f {E : zE} {x : UInt32} {ls sk : List Value} {h : zH} : zrun zpp E 0 (1108, .float x :: ls, sk, h) = zrun zpp E 0 (1109, .float x :: ls, .float x :: sk, h) := zrun_at (i := (.aload_n 0, 1109, 0, [])) rfl
set_option maxRecDepth 20000 in
theorem zi0_1109 {E : zE} {v0 v1 v2 : Value} {x : Int32} {ls sk : List Value} {h : zH} : zrun zpp E 0 (1109, v0 :: v1 :: v2 :: .int x :: ls, sk, h) = zrun zpp E 0 (1110, v0 :: v1 :: v2 :: .int x :: ls, .int x :: sk, h) := zrun_at (i := (.iload_n 3, 1110, 0, [])) rfl
set_option maxRecDepth 20000 in
theorem zi0_1110 {E : zE} {ls sk : List Value} {h : zH} : zrun zpp E 0 (1110, ls, sk, h) = zrun zpp E 0 (1111, ls, .int 1 :: sk, h) := zg_iconst rfl ci_1
set_option maxRecDepth 20000 in
theorem zi0_1111 {E : zE} {x y : Int32} {ls sk : List Value} {h : zH} : zrun zpp E 0 (1111, ls, .int y :: .int x :: sk, h) = zrun zpp E 0 (1112, ls, .int (x + y) :: sk, h) := zrun_at (i := (.iadd, 1112, 0, [])) rfl
set_option maxRecDepth 20000 in
theorem zi0_1112 {E : zE} {x : UInt32} {i : Int32} {ls sk : List Value} {h : zH} : zrun zpp E 0 (1112, ls, .int i :: .float x :: sk, h) = if zix i E.1 = true then zrun zpp E 0 (1113, ls, .int (E.2 i.toNatClampNeg) :: sk, h) else none := zg_sald rfl
set_option maxRecDepth 20000 in
theorem zi0_1113 {E : zE} {a0 : Value} {x : Nat} {ls sk : List Value} {h : zH} : zrun zpp E 0 (1113, ls, a0 :: .ref x :: sk, h) = (zcls h x).bind (fun d => (zsel d [10, 118]).bind (fun M' => zcl1 E 0 1116 M' ls sk [.ref x, a0] h)) := zg_vir (as := [a0]) rfl rfl
set_option maxRecDepth 20000 in
theorem zi0_1116 {E : zE} {v0 v1 : Value} {x : Nat} {ls sk : List Value} {h : zH} : zrun zpp E 0 (1116, v0 :: v1 :: .ref x :: ls, sk, h) = zrun zpp E 0 (1117, v0 :: v1 :: .ref x :: ls, .ref x :: sk, h) := zrun_at (i := (.aload_n 2, 1117, 0, [])) rfl
set_option maxRecDepth 20000 in
theorem zi0_1116n {E : zE} {v0 v1 : Value} {ls sk : List Value} {h : zH} : zrun zpp E 0 (1116, v0 :: v1 :: .null :: ls, sk, h) = zrun zpp E 0 (1117, v0 :: v1 :: .null :: ls, .null :: sk, h) := zrun_at (i := (.aload_n 2, 1117, 0, [])) rfl
set_option maxRecDepth 20000 in
theorem zi0_1116f {E : zE} {v0 v1 : Value} {x : UInt32} {ls sk : List Value} {h : zH} : zrun zpp E 0 (1116, v0 :: v1 :: .float x :: ls, sk, h) = zrun zpp E 0 (1117, v0 :: v1 :: .float x :: ls, .float x :: sk, h) := zrun_at (i := (.aload_n 2, 1117, 0, [])) rfl
set_option maxRecDepth 20000 in
theorem zi0_1117 {E : zE} {x : Nat} {ls sk : List Value} {h : zH} : zrun zpp E 0 (1117, .ref x :: ls, sk, h) = zrun zpp E 0 (1118, .ref x :: ls, .ref x :: sk, h) := zrun_at (i := (.aload_n 0, 1118, 0, [])) rfl
set_option maxRecDepth 20000 in
theorem zi0_1117n {E : zE} {ls sk : List Value} {h : zH} : zrun zpp E 0 (1117, .null :: ls, sk, h) = zrun zpp E 0 (1118, .null :: ls, .null :: sk, h) := zrun_at (i := (.aload_n 0, 1118, 0, [])) rfl
set_option maxRecDepth 20000 in
theorem zi0_1117f {E : zE} {x : UInt32} {ls sk : List Value} {h : zH} : zrun zpp E 0 (1117, .float x :: ls, sk, h) = zrun zpp E 0 (1118, .float x :: ls, .float x :: sk, h) := zrun_at (i := (.aload_n 0, 1118, 0, [])) rfl
set_option maxRecDepth 20000 in
theorem zi0_1118 {E : zE} {v0 v1 v2 : Value} {x : Int32} {ls sk : List Value} {h : zH} : zrun zpp E 0 (1118, v0 :: v1 :: v2 :: .int x :: ls, sk, h) = zrun zpp E 0 (1119, v0 :: v1 :: v2 :: .int x :: ls, .int x :: sk, h) := zrun_at (i := (.iload_n 3, 1119, 0, [])) rfl
set_option maxRecDepth 20000 in
theorem zi0_1119 {E : zE} {ls sk : List Value} {h : zH} : zrun zpp E 0 (1119, ls, sk, h) = zrun zpp E 0 (1120, ls, .int 1 :: sk, h) := zg_iconst rfl ci_1
set_option maxRecDepth 20000 in
theorem zi0_1120 {E : zE} {x y : Int32} {ls sk : List Value} {h : zH} : zrun zpp E 0 (1120, ls, .int y :: .int x :: sk, h) = zrun zpp E 0 (1121, ls, .int (x + y) :: sk, h) := zrun_at (i := (.iadd, 1121, 0, [])) rfl
set_option maxRecDepth 20000 in
theorem zi0_1121 {E : zE} {x : UInt32} {i : Int32} {ls sk : List Value} {h : zH} : zrun zpp E 0 (1121, ls, .int i :: .float x :: sk, h) = if zix i E.1 = true then zrun zpp E 0 (1122, ls, .int (E.2 i.toNatClampNeg) :: sk, h) else none := zg_sald rfl
set_option maxRecDepth 20000 in
theorem zi0_1122 {E : zE} {a0 : Value} {x : Nat} {ls sk : List Value} {h : zH} : zrun zpp E 0 (1122, ls, a0 :: .ref x :: sk, h) = (zcls h x).bind (fun d => (zsel d [11, 216]).bind (fun M' => zcl1 E 0 1125 M' ls sk [.ref x, a0] h)) := zg_vir (as := [a0]) rfl rfl
set_option maxRecDepth 20000 in
theorem zi0_1125 {E : zE} {x y : Int32} {ls sk : List Value} {h : zH} : zrun zpp E 0 (1125, ls, .int y :: .int x :: sk, h) = if x = y then zrun zpp E 0 (1301, ls, sk, h) else zrun zpp E 0 (1128, ls, sk, h) := zrun_at (i := (.if_icmp .eq 176, 1128, 0, [1301])) rfl
set_option maxRecDepth 20000 in
theorem zi0_1128 {E : zE} {ls sk : List Value} {h : zH} : zrun zpp E 0 (1128, ls, sk, h) = zrun zpp E 0 (1129, ls, .int 0 :: sk, h) := zg_iconst rfl ci_0
set_option maxRecDepth 20000 in
theorem zi0_1129 {E : zE} {x : Int32} {ls sk : List Value} {h : zH} : zrun zpp E 0 (1129, ls, [.int x], h) = if x = 0 then some (some (.int 0), h) else if x = 1 then some (some (.int 1), h) else none := zrun_at (i := (.ireturn, 1130, 1, [])) rfl
set_option maxRecDepth 20000 in
theorem zi0_1130 {E : zE} {v0 : Value} {x : Nat} {ls sk : List Value} {h : zH} : zrun zpp E 0 (1130, v0 :: .ref x :: ls, sk, h) = zrun zpp E 0 (1131, v0 :: .ref x :: ls, .ref x :: sk, h) := zrun_at (i := (.aload_n 1, 1131, 0, [])) rfl
set_option maxRecDepth 20000 in
theorem zi0_1130n {E : zE} {v0 : Value} {ls sk : List Value} {h : zH} : zrun zpp E 0 (1130, v0 :: .null :: ls, sk, h) = zrun zpp E 0 (1131, v0 :: .null :: ls, .null :: sk, h) := zrun_at (i := (.aload_n 1, 1131, 0, [])) rfl
set_option maxRecDepth 20000 in
theorem zi0_1130f {E : zE} {v0 : Value} {x : UInt32} {ls sk : List Value} {h : zH} : zrun zpp E 0 (1130, v0 :: .float x :: ls, sk, h) = zrun zpp E 0 (1131, v0 :: .float x :: ls, .float x :: sk, h) := zrun_at (i := (.aload_n 1, 1131, 0, [])) rfl
set_option maxRecDepth 20000 in
theorem zi0_1131 {E : zE} {x : Nat} {ls sk : List Value} {h : zH} : zrun zpp E 0 (1131, .ref x :: ls, sk, h) = zrun zpp E 0 (1132, .ref x :: ls, .ref x :: sk, h) := zrun_at (i := (.aload_n 0, 1132, 0, [])) rfl
set_option maxRecDepth 20000 in
theorem zi0_1131n {E : zE} {ls sk : List Value} {h : zH} : zrun zpp E 0 (1131, .null :: ls, sk, h) = zrun zpp E 0 (1132, .null :: ls, .null :: sk, h) := zrun_at (i := (.aload_n 0, 1132, 0, [])) rfl
set_option maxRecDepth 20000 in
theorem zi0_1131f {E : zE} {x : UInt32} {ls sk : List Value} {h : zH} : zrun zpp E 0 (1131, .float x :: ls, sk, h) = zrun zpp E 0 (1132, .float x :: ls, .float x :: sk, h) := zrun_at (i := (.aload_n 0, 1132, 0, [])) rfl
set_option maxRecDepth 20000 in
theorem zi0_1132 {E : zE} {v0 v1 v2 : Value} {x : Int32} {ls sk : List Value} {h : zH} : zrun zpp E 0 (1132, v0 :: v1 :: v2 :: .int x :: ls, sk, h) = zrun zpp E 0 (1133, v0 :: v1 :: v2 :: .int x :: ls, .int x :: sk, h) := zrun_at (i := (.iload_n 3, 1133, 0, [])) rfl
set_option maxRecDepth 20000 in
theorem zi0_1133 {E : zE} {ls sk : List Value} {h : zH} : zrun zpp E 0 (1133, ls, sk, h) = zrun zpp E 0 (1134, ls, .int 1 :: sk, h) := zg_iconst rfl ci_1
set_option maxRecDepth 20000 in
theorem zi0_1134 {E : zE} {x y : Int32} {ls sk : List Value} {h : zH} : zrun zpp E 0 (1134, ls, .int y :: .int x :: sk, h) = zrun zpp E 0 (1135, ls, .int (x + y) :: sk, h) := zrun_at (i := (.iadd, 1135, 0, [])) rfl
set_option maxRecDepth 20000 in
theorem zi0_1135 {E : zE} {x : UInt32} {i : Int32} {ls sk : List Value} {h : zH} : zrun zpp E 0 (1135, ls, .int i :: .float x :: sk, h) = if zix i E.1 = true then zrun zpp E 0 (1136, ls, .int (E.2 i.toNatClampNeg) :: sk, h) else none := zg_sald rfl
set_option maxRecDepth 20000 in
theorem zi0_1136 {E : zE} {a0 : Value} {x : Nat} {ls sk : List Value} {h : zH} : zrun zpp E 0 (1136, ls, a0 :: .ref x :: sk, h) = (zcls h x).bind (fun d => (zsel d [10, 119]).bind (fun M' => zcl1 E 0 1139 M' ls sk [.ref x, a0] h)) := zg_vir (as := [a0]) rfl rfl
set_option maxRecDepth 20000 in
theorem zi0_1139 {E : zE} {v0 v1 : Value} {x : Nat} {ls sk : List Value} {h : zH} : zrun zpp E 0 (1139, v0 :: v1 :: .ref x :: ls, sk, h) = zrun zpp E 0 (1140, v0 :: v1 :: .ref x :: ls, .ref x :: sk, h) := zrun_at (i := (.aload_n 2, 1140, 0, [])) rfl
set_option maxRecDepth 20000 in
theorem zi0_1139n {E : zE} {v0 v1 : Value} {ls sk : List Value} {h : zH} : zrun zpp E 0 (1139, v0 :: v1 :: .null :: ls, sk, h) = zrun zpp E 0 (1140, v0 :: v1 :: .null :: ls, .null :: sk, h) := zrun_at (i := (.aload_n 2, 1140, 0, [])) rfl
set_option maxRecDepth 20000 in
theorem zi0_1139f {E : zE} {v0 v1 : Value} {x : UInt32} {ls sk : List Value} {h : zH} : zrun zpp E 0 (1139, v0 :: v1 :: .float x :: ls, sk, h) = zrun zpp E 0 (1140, v0 :: v1 :: .float x :: ls, .float x :: sk, h) := zrun_at (i := (.aload_n 2, 1140, 0, [])) rfl
set_option maxRecDepth 20000 in
theorem zi0_1140 {E : zE} {x : Nat} {ls sk : List Value} {h : zH} : zrun zpp E 0 (1140, .ref x :: ls, sk, h) = zrun zpp E 0 (1141, .ref x :: ls, .ref x :: sk, h) := zrun_at (i := (.aload_n 0, 1141, 0, [])) rfl
set_option maxRecDepth 20000 in
theorem zi0_1140n {E : zE} {ls sk : List Value} {h : zH} : zrun zpp E 0 (1140, .null :: ls, sk, h) = zrun zpp E 0 (1141, .null :: ls, .null :: sk, h) := zrun_at (i := (.aload_n 0, 1141, 0, [])) rfl
set_option maxRecDepth 20000 in
theorem zi0_1140f {E : zE} {x : UInt32} {ls sk : List Value} {h : zH} : zrun zpp E 0 (1140, .float x :: ls, sk, h) = zrun zpp E 0 (1141, .float x :: ls, .float x :: sk, h) := zrun_at (i := (.aload_n 0, 1141, 0, [])) rfl
set_option maxRecDepth 20000 in
theorem zi0_1141 {E : zE} {v0 v1 v2 : Value} {x : Int32} {ls sk : List Value} {h : zH} : zrun zpp E 0 (1141, v0 :: v1 :: v2 :: .int x :: ls, sk, h) = zrun zpp E 0 (1142, v0 :: v1 :: v2 :: .int x :: ls, .int x :: sk, h) := zrun_at (i := (.iload_n 3, 1142, 0, [])) rfl
set_option maxRecDepth 20000 in
theorem zi0_1142 {E : zE} {ls sk : List Value} {h : zH} : zrun zpp E 0 (1142, ls, sk, h) = zrun zpp E 0 (1143, ls, .int 1 :: sk, h) := zg_iconst rfl ci_1
set_option maxRecDepth 20000 in
theorem zi0_1143 {E : zE} {x y : Int32} {ls sk : List Value} {h : zH} : zrun zpp E 0 (1143, ls, .int y :: .int x :: sk, h) = zrun zpp E 0 (1144, ls, .int (x + y) :: sk, h) := zrun_at (i := (.iadd, 1144, 0, [])) rfl
set_option maxRecDepth 20000 in
theorem zi0_1144 {E : zE} {x : UInt32} {i : Int32} {ls sk : List Value} {h : zH} : zrun zpp E 0 (1144, ls, .int i :: .float x :: sk, h) = if zix i E.1 = true then zrun zpp E 0 (1145, ls, .int (E.2 i.toNatClampNeg) :: sk, h) else none := zg_sald rfl
set_option maxRecDepth 20000 in
theorem zi0_1145 {E : zE} {a0 : Value} {x : Nat} {ls sk : List Value} {h : zH} : zrun zpp E 0 (1145, ls, a0 :: .ref x :: sk, h) = (zcls h x).bind (fun d => (zsel d [11, 217]).bind (fun M' => zcl1 E 0 1148 M' ls sk [.ref x, a0] h)) := zg_vir (as := [a0]) rfl rfl
set_option maxRecDepth 20000 in
theorem zi0_1148 {E : zE} {x y : Int32} {ls sk : List Value} {h : zH} : zrun zpp E 0 (1148, ls, .int y :: .int x :: sk, h) = if x = y then zrun zpp E 0 (1301, ls, sk, h) else zrun zpp E 0 (1151, ls, sk, h) := zrun_at (i := (.if_icmp .eq 153, 1151, 0, [1301])) rfl
set_option maxRecDepth 20000 in
theorem zi0_1151 {E : zE} {ls sk : List Value} {h : zH} : zrun zpp E 0 (1151, ls, sk, h) = zrun zpp E 0 (1152, ls, .int 0 :: sk, h) := zg_iconst rfl ci_0
set_option maxRecDepth 20000 in
theorem zi0_1152 {E : zE} {x : Int32} {ls sk : List Value} {h : zH} : zrun zpp E 0 (1152, ls, [.int x], h) = if x = 0 then some (some (.int 0), h) else if x = 1 then some (some (.int 1), h) else none := zrun_at (i := (.ireturn, 1153, 1, [])) rfl
set_option maxRecDepth 20000 in
theorem zi0_1153 {E : zE} {v0 : Value} {x : Nat} {ls sk : List Value} {h : zH} : zrun zpp E 0 (1153, v0 :: .ref x :: ls, sk, h) = zrun zpp E 0 (1154, v0 :: .ref x :: ls, .ref x :: sk, h) := zrun_at (i := (.aload_n 1, 1154, 0, [])) rfl
set_option maxRecDepth 20000 in
theorem zi0_1153n {E : zE} {v0 : Value} {ls sk : List Value} {h : zH} : zrun zpp E 0 (1153, v0 :: .null :: ls, sk, h) = zrun zpp E 0 (1154, v0 :: .null :: ls, .null :: sk, h) := zrun_at (i := (.aload_n 1, 1154, 0, [])) rfl
set_option maxRecDepth 20000 in
theorem zi0_1153f {E : zE} {v0 : Value} {x : UInt32} {ls sk : List Value} {h : zH} : zrun zpp E 0 (1153, v0 :: .float x :: ls, sk, h) = zrun zpp E 0 (1154, v0 :: .float x :: ls, .float x :: sk, h) := zrun_at (i := (.aload_n 1, 1154, 0, [])) rfl
set_option maxRecDepth 20000 in
theorem zi0_1154 {E : zE} {x : Nat} {ls sk : List Value} {h : zH} : zrun zpp E 0 (1154, .ref x :: ls, sk, h) = zrun zpp E 0 (1155, .ref x :: ls, .ref x :: sk, h) := zrun_at (i := (.aload_n 0, 1155, 0, [])) rfl
set_option maxRecDepth 20000 in
theorem zi0_1154n {E : zE} {ls sk : List Value} {h : zH} : zrun zpp E 0 (1154, .null :: ls, sk, h) = zrun zpp E 0 (1155, .null :: ls, .null :: sk, h) := zrun_at (i := (.aload_n 0, 1155, 0, [])) rfl
set_option maxRecDepth 20000 in
theorem zi0_1154f {E : zE} {x : UInt32} {ls sk : List Value} {h : zH} : zrun zpp E 0 (1154, .float x :: ls, sk, h) = zrun zpp E 0 (1155, .float x :: ls, .float x :: sk, h) := zrun_at (i := (.aload_n 0, 1155, 0, [])) rfl
set_option maxRecDepth 20000 in
theorem zi0_1155 {E : zE} {v0 v1 v2 : Value} {x : Int32} {ls sk : List Value} {h : zH} : zrun zpp E 0 (1155, v0 :: v1 :: v2 :: .int x :: ls, sk, h) = zrun zpp E 0 (1156, v0 :: v1 :: v2 :: .int x :: ls, .int x :: sk, h) := zrun_at (i := (.iload_n 3, 1156, 0, [])) rfl
set_option maxRecDepth 20000 in
theorem zi0_1156 {E : zE} {ls sk : List Value} {h : zH} : zrun zpp E 0 (1156, ls, sk, h) = zrun zpp E 0 (1157, ls, .int 1 :: sk, h) := zg_iconst rfl ci_1
set_option maxRecDepth 20000 in
theorem zi0_1157 {E : zE} {x y : Int32} {ls sk : List Value} {h : zH} : zrun zpp E 0 (1157, ls, .int y :: .int x :: sk, h) = zrun zpp E 0 (1158, ls, .int (x + y) :: sk, h) := zrun_at (i := (.iadd, 1158, 0, [])) rfl
set_option maxRecDepth 20000 in
theorem zi0_1158 {E : zE} {x : UInt32} {i : Int32} {ls sk : List Value} {h : zH} : zrun zpp E 0 (1158, ls, .int i :: .float x :: sk, h) = if zix i E.1 = true then zrun zpp E 0 (1159, ls, .int (E.2 i.toNatClampNeg) :: sk, h) else none := zg_sald rfl
set_option maxRecDepth 20000 in
theorem zi0_1159 {E : zE} {a0 : Value} {x : Nat} {ls sk : List Value} {h : zH} : zrun zpp E 0 (1159, ls, a0 :: .ref x :: sk, h) = (zcls h x).bind (fun d => (zsel d [10, 120]).bind (fun M' => zcl1 E 0 1162 M' ls sk [.ref x, a0] h)) := zg_vir (as := [a0]) rfl rfl
set_option maxRecDepth 20000 in
theorem zi0_1162 {E : zE} {v0 v1 : Value} {x : Nat} {ls sk : List Value} {h : zH} : zrun zpp E 0 (1162, v0 :: v1 :: .ref x :: ls, sk, h) = zrun zpp E 0 (1163, v0 :: v1 :: .ref x :: ls, .ref x :: sk, h) := zrun_at (i := (.aload_n 2, 1163, 0, [])) rfl
set_option maxRecDepth 20000 in
theorem zi0_1162n {E : zE} {v0 v1 : Value} {ls sk : List Value} {h : zH} : zrun zpp E 0 (1162, v0 :: v1 :: .null :: ls, sk, h) = zrun zpp E 0 (1163, v0 :: v1 :: .null :: ls, .null :: sk, h) := zrun_at (i := (.aload_n 2, 1163, 0, [])) rfl
set_option maxRecDepth 20000 in
theorem zi0_1162f {E : zE} {v0 v1 : Value} {x : UInt32} {ls sk : List Value} {h : zH} : zrun zpp E 0 (1162, v0 :: v1 :: .float x :: ls, sk, h) = zrun zpp E 0 (1163, v0 :: v1 :: .float x :: ls, .float x :: sk, h) := zrun_at (i := (.aload_n 2, 1163, 0, [])) rfl
set_option maxRecDepth 20000 in
theorem zi0_1163 {E : zE} {x : Nat} {ls sk : List Value} {h : zH} : zrun zpp E 0 (1163, .ref x :: ls, sk, h) = zrun zpp E 0 (1164, .ref x :: ls, .ref x :: sk, h) := zrun_at (i := (.aload_n 0, 1164, 0, [])) rfl
set_option maxRecDepth 20000 in
theorem zi0_1163n {E : zE} {ls sk : List Value} {h : zH} : zrun zpp E 0 (1163, .null :: ls, sk, h) = zrun zpp E 0 (1164, .null :: ls, .null :: sk, h) := zrun_at (i := (.aload_n 0, 1164, 0, [])) rfl
set_option maxRecDepth 20000 in
theorem zi0_1163f {E : zE} {x : UInt32} {ls sk : List Value} {h : zH} : zrun zpp E 0 (1163, .float x :: ls, sk, h) = zrun zpp E 0 (1164, .float x :: ls, .float x :: sk, h) := zrun_at (i := (.aload_n 0, 1164, 0, [])) rfl
set_option maxRecDepth 20000 in
theorem zi0_1164 {E : zE} {v0 v1 v2 : Value} {x : Int32} {ls sk : List Value} {h : zH} : zrun zpp E 0 (1164, v0 :: v1 :: v2 :: .int x :: ls, sk, h) = zrun zpp E 0 (1165, v0 :: v1 :: v2 :: .int x :: ls, .int x :: sk, h) := zrun_at (i := (.iload_n 3, 1165, 0, [])) rfl
set_option maxRecDepth 20000 in
theorem zi0_1165 {E : zE} {ls sk : List Value} {h : zH} : zrun zpp E 0 (1165, ls, sk, h) = zrun zpp E 0 (1166, ls, .int 1 :: sk, h) := zg_iconst rfl ci_1
set_option maxRecDepth 20000 in
theorem zi0_1166 {E : zE} {x y : Int32} {ls sk : List Value} {h : zH} : zrun zpp E 0 (1166, ls, .int y :: .int x :: sk, h) = zrun zpp E 0 (1167, ls, .int (x + y) :: sk, h) := zrun_at (i := (.iadd, 1167, 0, [])) rfl
set_option maxRecDepth 20000 in
theorem zi0_1167 {E : zE} {x : UInt32} {i : Int32} {ls sk : List Value} {h : zH} : zrun zpp E 0 (1167, ls, .int i :: .float x :: sk, h) = if zix i E.1 = true then zrun zpp E 0 (1168, ls, .int (E.2 i.toNatClampNeg) :: sk, h) else none := zg_sald rfl
set_option maxRecDepth 20000 in
theorem zi0_1168 {E : zE} {a0 : Value} {x : Nat} {ls sk : List Value} {h : zH} : zrun zpp E 0 (1168, ls, a0 :: .ref x :: sk, h) = (zcls h x).bind (fun d => (zsel d [11, 219]).bind (fun M' => zcl1 E 0 1171 M' ls sk [.ref x, a0] h)) := zg_vir (as := [a0]) rfl rfl
set_option maxRecDepth 20000 in
theorem zi0_1171 {E : zE} {x y : Int32} {ls sk : List Value} {h : zH} : zrun zpp E 0 (1171, ls, .int y :: .int x :: sk, h) = if x = y then zrun zpp E 0 (1301, ls, sk, h) else zrun zpp E 0 (1174, ls, sk, h) := zrun_at (i := (.if_icmp .eq 130, 1174, 0, [1301])) rfl
set_option maxRecDepth 20000 in
theorem zi0_1174 {E : zE} {ls sk : List Value} {h : zH} : zrun zpp E 0 (1174, ls, sk, h) = zrun zpp E 0 (1175, ls, .int 0 :: sk, h) := zg_iconst rfl ci_0
set_option maxRecDepth 20000 in
theorem zi0_1175 {E : zE} {x : Int32} {ls sk : List Value} {h : zH} : zrun zpp E 0 (1175, ls, [.int x], h) = if x = 0 then some (some (.int 0), h) else if x = 1 then some (some (.int 1), h) else none := zrun_at (i := (.ireturn, 1176, 1, [])) rfl
set_option maxRecDepth 20000 in
theorem zi0_1176 {E : zE} {v0 : Value} {x : Nat} {ls sk : List Value} {h : zH} : zrun zpp E 0 (1176, v0 :: .ref x :: ls, sk, h) = zrun zpp E 0 (1177, v0 :: .ref x :: ls, .ref x :: sk, h) := zrun_at (i := (.aload_n 1, 1177, 0, [])) rfl
set_option maxRecDepth 20000 in
theorem zi0_1176n {E : zE} {v0 : Value} {ls sk : List Value} {h : zH} : zrun zpp E 0 (1176, v0 :: .null :: ls, sk, h) = zrun zpp E 0 (1177, v0 :: .null :: ls, .null :: sk, h) := zrun_at (i := (.aload_n 1, 1177, 0, [])) rfl
set_option maxRecDepth 20000 in
theorem zi0_1176f {E : zE} {v0 : Value} {x : UInt32} {ls sk : List Value} {h : zH} : zrun zpp E 0 (1176, v0 :: .float x :: ls, sk, h) = zrun zpp E 0 (1177, v0 :: .float x :: ls, .float x :: sk, h) := zrun_at (i := (.aload_n 1, 1177, 0, [])) rfl
set_option maxRecDepth 20000 in
theorem zi0_1177 {E : zE} {x : Nat} {ls sk : List Value} {h : zH} : zrun zpp E 0 (1177, .ref x :: ls, sk, h) = zrun zpp E 0 (1178, .ref x :: ls, .ref x :: sk, h) := zrun_at (i := (.aload_n 0, 1178, 0, [])) rfl
set_option maxRecDepth 20000 in
theorem zi0_1177n {E : zE} {ls sk : List Value} {h : zH} : zrun zpp E 0 (1177, .null :: ls, sk, h) = zrun zpp E 0 (1178, .null :: ls, .null :: sk, h) := zrun_at (i := (.aload_n 0, 1178, 0, [])) rfl
set_option maxRecDepth 20000 in
theorem zi0_1177f {E : zE} {x : UInt32} {ls sk : List Value} {h : zH} : zrun zpp E 0 (1177, .float x :: ls, sk, h) = zrun zpp E 0 (1178, .float x :: ls, .float x :: sk, h) := zrun_at (i := (.aload_n 0, 1178, 0, [])) rfl
set_option maxRecDepth 20000 in
theorem zi0_1178 {E : zE} {v0 v1 v2 : Value} {x : Int32} {ls sk : List Value} {h : zH} : zrun zpp E 0 (1178, v0 :: v1 :: v2 :: .int x :: ls, sk, h) = zrun zpp E 0 (1179, v0 :: v1 :: v2 :: .int x :: ls, .int x :: sk, h) := zrun_at (i := (.iload_n 3, 1179, 0, [])) rfl
set_option maxRecDepth 20000 in
theorem zi0_1179 {E : zE} {ls sk : List Value} {h : zH} : zrun zpp E 0 (1179, ls, sk, h) = zrun zpp E 0 (1180, ls, .int 1 :: sk, h) := zg_iconst rfl ci_1
set_option maxRecDepth 20000 in
theorem zi0_1180 {E : zE} {x y : Int32} {ls sk : List Value} {h : zH} : zrun zpp E 0 (1180, ls, .int y :: .int x :: sk, h) = zrun zpp E 0 (1181, ls, .int (x + y) :: sk, h) := zrun_at (i := (.iadd, 1181, 0, [])) rfl
set_option maxRecDepth 20000 in
theorem zi0_1181 {E : zE} {x : UInt32} {i : Int32} {ls sk : List Value} {h : zH} : zrun zpp E 0 (1181, ls, .int i :: .float x :: sk, h) = if zix i E.1 = true then zrun zpp E 0 (1182, ls, .int (E.2 i.toNatClampNeg) :: sk, h) else none := zg_sald rfl
set_option maxRecDepth 20000 in
theorem zi0_1182 {E : zE} {x : Nat} {ls sk : List Value} {h : zH} : zrun zpp E 0 (1182, .ref x :: ls, sk, h) = zrun zpp E 0 (1183, .ref x :: ls, .ref x :: sk, h) := zrun_at (i := (.aload_n 0, 1183, 0, [])) rfl
set_option maxRecDepth 20000 in
theorem zi0_1182n {E : zE} {ls sk : List Value} {h : zH} : zrun zpp E 0 (1182, .null :: ls, sk, h) = zrun zpp E 0 (1183, .null :: ls, .null :: sk, h) := zrun_at (i := (.aload_n 0, 1183, 0, [])) rfl
set_option maxRecDepth 20000 in
theorem zi0_1182f {E : zE} {x : UInt32} {ls sk : List Value} {h : zH} : zrun zpp E 0 (1182, .float x :: ls, sk, h) = zrun zpp E 0 (1183, .float x :: ls, .float x :: sk, h) := zrun_at (i := (.aload_n 0, 1183, 0, [])) rfl
set_option maxRecDepth 20000 in
theorem zi0_1183 {E : zE} {v0 v1 v2 : Value} {x : Int32} {ls sk : List Value} {h : zH} : zrun zpp E 0 (1183, v0 :: v1 :: v2 :: .int x :: ls, sk, h) = zrun zpp E 0 (1184, v0 :: v1 :: v2 :: .int x :: ls, .int x :: sk, h) := zrun_at (i := (.iload_n 3, 1184, 0, [])) rfl
set_option maxRecDepth 20000 in
theorem zi0_1184 {E : zE} {ls sk : List Value} {h : zH} : zrun zpp E 0 (1184, ls, sk, h) = zrun zpp E 0 (1185, ls, .int 2 :: sk, h) := zg_iconst rfl ci_2
set_option maxRecDepth 20000 in
theorem zi0_1185 {E : zE} {x y : Int32} {ls sk : List Value} {h : zH} : zrun zpp E 0 (1185, ls, .int y :: .int x :: sk, h) = zrun zpp E 0 (1186, ls, .int (x + y) :: sk, h) := zrun_at (i := (.iadd, 1186, 0, [])) rfl
set_option maxRecDepth 20000 in
theorem zi0_1186 {E : zE} {x : UInt32} {i : Int32} {ls sk : List Value} {h : zH} : zrun zpp E 0 (1186, ls, .int i :: .float x :: sk, h) = if zix i E.1 = true then zrun zpp E 0 (1187, ls, .int (E.2 i.toNatClampNeg) :: sk, h) else none := zg_sald rfl
set_option maxRecDepth 20000 in
theorem zi0_1187 {E : zE} {a0 a1 : Value} {x : Nat} {ls sk : List Value} {h : zH} : zrun zpp E 0 (1187, ls, a1 :: a0 :: .ref x :: sk, h) = (zcls h x).bind (fun d => (zsel d [10, 121]).bind (fun M' => zcl1 E 0 1190 M' ls sk [.ref x, a0, a1] h)) := zg_vir (as := [a0, a1]) rfl rfl
set_option maxRecDepth 20000 in
theorem zi0_1190 {E : zE} {v0 v1 : Value} {x : Nat} {ls sk : List Value} {h : zH} : zrun zpp E 0 (1190, v0 :: v1 :: .ref x :: ls, sk, h) = zrun zpp E 0 (1191, v0 :: v1 :: .ref x :: ls, .ref x :: sk, h) := zrun_at (i := (.aload_n 2, 1191, 0, [])) rfl
set_option maxRecDepth 20000 in
theorem zi0_1190n {E : zE} {v0 v1 : Value} {ls sk : List Value} {h : zH} : zrun zpp E 0 (1190, v0 :: v1 :: .null :: ls, sk, h) = zrun zpp E 0 (1191, v0 :: v1 :: .null :: ls, .null :: sk, h) := zrun_at (i := (.aload_n 2, 1191, 0, [])) rfl
set_option maxRecDepth 20000 in
theorem zi0_1190f {E : zE} {v0 v1 : Value} {x : UInt32} {ls sk : List Value} {h : zH} : zrun zpp E 0 (1190, v0 :: v1 :: .float x :: ls, sk, h) = zrun zpp E 0 (1191, v0 :: v1 :: .float x :: ls, .float x :: sk, h) := zrun_at (i := (.aload_n 2, 1191, 0, [])) rfl
set_option maxRecDepth 20000 in
theorem zi0_1191 {E : zE} {x : Nat} {ls sk : List Value} {h : zH} : zrun zpp E 0 (1191, .ref x :: ls, sk, h) = zrun zpp E 0 (1192, .ref x :: ls, .ref x :: sk, h) := zrun_at (i := (.aload_n 0, 1192, 0, [])) rfl
set_option maxRecDepth 20000 in
theorem zi0_1191n {E : zE} {ls sk : List Value} {h : zH} : zrun zpp E 0 (1191, .null :: ls, sk, h) = zrun zpp E 0 (1192, .null :: ls, .null :: sk, h) := zrun_at (i := (.aload_n 0, 1192, 0, [])) rfl
set_option maxRecDepth 20000 in
theorem zi0_1191f {E : zE} {x : UInt32} {ls sk : List Value} {h : zH} : zrun zpp E 0 (1191, .float x :: ls, sk, h) = zrun zpp E 0 (1192, .float x :: ls, .float x :: sk, h) := zrun_at (i := (.aload_n 0, 1192, 0, [])) rfl
set_option maxRecDepth 20000 in
theorem zi0_1192 {E : zE} {v0 v1 v2 : Value} {x : Int32} {ls sk : List Value} {h : zH} : zrun zpp E 0 (1192, v0 :: v1 :: v2 :: .int x :: ls, sk, h) = zrun zpp E 0 (1193, v0 :: v1 :: v2 :: .int x :: ls, .int x :: sk, h) := zrun_at (i := (.iload_n 3, 1193, 0, [])) rfl
set_option maxRecDepth 20000 in
theorem zi0_1193 {E : zE} {ls sk : List Value} {h : zH} : zrun zpp E 0 (1193, ls, sk, h) = zrun zpp E 0 (1194, ls, .int 1 :: sk, h) := zg_iconst rfl ci_1
set_option maxRecDepth 20000 in
theorem zi0_1194 {E : zE} {x y : Int32} {ls sk : List Value} {h : zH} : zrun zpp E 0 (1194, ls, .int y :: .int x :: sk, h) = zrun zpp E 0 (1195, ls, .int (x + y) :: sk, h) := zrun_at (i := (.iadd, 1195, 0, [])) rfl
set_option maxRecDepth 20000 in
theorem zi0_1195 {E : zE} {x : UInt32} {i : Int32} {ls sk : List Value} {h : zH} : zrun zpp E 0 (1195, ls, .int i :: .float x :: sk, h) = if zix i E.1 = true then zrun zpp E 0 (1196, ls, .int (E.2 i.toNatClampNeg) :: sk, h) else none := zg_sald rfl
set_option maxRecDepth 20000 in
theorem zi0_1196 {E : zE} {x : Nat} {ls sk : List Value} {h : zH} : zrun zpp E 0 (1196, .ref x :: ls, sk, h) = zrun zpp E 0 (1197, .ref x :: ls, .ref x :: sk, h) := zrun_at (i := (.aload_n 0, 1197, 0, [])) rfl
set_option maxRecDepth 20000 in
theorem zi0_1196n {E : zE} {ls sk : List Value} {h : zH} : zrun zpp E 0 (1196, .null :: ls, sk, h) = zrun zpp E 0 (1197, .null :: ls, .null :: sk, h) := zrun_at (i := (.aload_n 0, 1197, 0, [])) rfl
set_option maxRecDepth 20000 in
theorem zi0_1196f {E : zE} {x : UInt32} {ls sk : List Value} {h : zH} : zrun zpp E 0 (1196, .float x :: ls, sk, h) = zrun zpp E 0 (1197, .float x :: ls, .float x :: sk, h) := zrun_at (i := (.aload_n 0, 1197, 0, [])) rfl
set_option maxRecDepth 20000 in
theorem zi0_1197 {E : zE} {v0 v1 v2 : Value} {x : Int32} {ls sk : List Value} {h : zH} : zrun zpp E 0 (1197, v0 :: v1 :: v2 :: .int x :: ls, sk, h) = zrun zpp E 0 (1198, v0 :: v1 :: v2 :: .int x :: ls, .int x :: sk, h) := zrun_at (i := (.iload_n 3, 1198, 0, [])) rfl
set_option maxRecDepth 20000 in
theorem zi0_1198 {E : zE} {ls sk : List Value} {h : zH} : zrun zpp E 0 (1198, ls, sk, h) = zrun zpp E 0 (1199, ls, .int 2 :: sk, h) := zg_iconst rfl ci_2
set_option maxRecDepth 20000 in
theorem zi0_1199 {E : zE} {x y : Int32} {ls sk : List Value} {h : zH} : zrun zpp E 0 (1199, ls, .int y :: .int x :: sk, h) = zrun zpp E 0 (1200, ls, .int (x + y) :: sk, h) := zrun_at (i := (.iadd, 1200, 0, [])) rfl
set_option maxRecDepth 20000 in
theorem zi0_1200 {E : zE} {x : UInt32} {i : Int32} {ls sk : List Value} {h : zH} : zrun zpp E 0 (1200, ls, .int i :: .float x :: sk, h) = if zix i E.1 = true then zrun zpp E 0 (1201, ls, .int (E.2 i.toNatClampNeg) :: sk, h) else none := zg_sald rfl
set_option maxRecDepth 20000 in
theorem zi0_1201 {E : zE} {a0 a1 : Value} {x : Nat} {ls sk : List Value} {h : zH} : zrun zpp E 0 (1201, ls, a1 :: a0 :: .ref x :: sk, h) = (zcls h x).bind (fun d => (zsel d [11, 220]).bind (fun M' => zcl1 E 0 1204 M' ls sk [.ref x, a0, a1] h)) := zg_vir (as := [a0, a1]) rfl rfl
set_option maxRecDepth 20000 in
theorem zi0_1204 {E : zE} {x y : Int32} {ls sk : List Value} {h : zH} : zrun zpp E 0 (1204, ls, .int y :: .int x :: sk, h) = if x = y then zrun zpp E 0 (1301, ls, sk, h) else zrun zpp E 0 (1207, ls, sk, h) := zrun_at (i := (.if_icmp .eq 97, 1207, 0, [1301])) rfl
set_option maxRecDepth 20000 in
theorem zi0_1207 {E : zE} {ls sk : List Value} {h : zH} : zrun zpp E 0 (1207, ls, sk, h) = zrun zpp E 0 (1208, ls, .int 0 :: sk, h) := zg_iconst rfl ci_0
set_option maxRecDepth 20000 in
theorem zi0_1208 {E : zE} {x : Int32} {ls sk : List Value} {h : zH} : zrun zpp E 0 (1208, ls, [.int x], h) = if x = 0 then some (some (.int 0), h) else if x = 1 then some (some (.int 1), h) else none := zrun_at (i := (.ireturn, 1209, 1, [])) rfl
set_option maxRecDepth 20000 in
theorem zi0_1209 {E : zE} {v0 : Value} {x : Nat} {ls sk : List Value} {h : zH} : zrun zpp E 0 (1209, v0 :: .ref x :: ls, sk, h) = zrun zpp E 0 (1210, v0 :: .ref x :: ls, .ref x :: sk, h) := zrun_at (i := (.aload_n 1, 1210, 0, [])) rfl
set_option maxRecDepth 20000 in
theorem zi0_1209n {E : zE} {v0 : Value} {ls sk : List Value} {h : zH} : zrun zpp E 0 (1209, v0 :: .null :: ls, sk, h) = zrun zpp E 0 (1210, v0 :: .null :: ls, .null :: sk, h) := zrun_at (i := (.aload_n 1, 1210, 0, [])) rfl
set_option maxRecDepth 20000 in
theorem zi0_1209f {E : zE} {v0 : Value} {x : UInt32} {ls sk : List Value} {h : zH} : zrun zpp E 0 (1209, v0 :: .float x :: ls, sk, h) = zrun zpp E 0 (1210, v0 :: .float x :: ls, .float x :: sk, h) := zrun_at (i := (.aload_n 1, 1210, 0, [])) rfl
set_option maxRecDepth 20000 in
theorem zi0_1210 {E : zE} {x : Nat} {ls sk : List Value} {h : zH} : zrun zpp E 0 (1210, .ref x :: ls, sk, h) = zrun zpp E 0 (1211, .ref x :: ls, .ref x :: sk, h) := zrun_at (i := (.aload_n 0, 1211, 0, [])) rfl
set_option maxRecDepth 20000 in
theorem zi0_1210n {E : zE} {ls sk : List Value} {h : zH} : zrun zpp E 0 (1210, .null :: ls, sk, h) = zrun zpp E 0 (1211, .null :: ls, .null :: sk, h) := zrun_at (i := (.aload_n 0, 1211, 0, [])) rfl
set_option maxRecDepth 20000 in
theorem zi0_1210f {E : zE} {x : UInt32} {ls sk : List Value} {h : zH} : zrun zpp E 0 (1210, .float x :: ls, sk, h) = zrun zpp E 0 (1211, .float x :: ls, .float x :: sk, h) := zrun_at (i := (.aload_n 0, 1211, 0, [])) rfl
set_option maxRecDepth 20000 in
theorem zi0_1211 {E : zE} {v0 v1 v2 : Value} {x : Int32} {ls sk : List Value} {h : zH} : zrun zpp E 0 (1211, v0 :: v1 :: v2 :: .int x :: ls, sk, h) = zrun zpp E 0 (1212, v0 :: v1 :: v2 :: .int x :: ls, .int x :: sk, h) := zrun_at (i := (.iload_n 3, 1212, 0, [])) rfl
set_option maxRecDepth 20000 in
theorem zi0_1212 {E : zE} {ls sk : List Value} {h : zH} : zrun zpp E 0 (1212, ls, sk, h) = zrun zpp E 0 (1213, ls, .int 1 :: sk, h) := zg_iconst rfl ci_1
set_option maxRecDepth 20000 in
theorem zi0_1213 {E : zE} {x y : Int32} {ls sk : List Value} {h : zH} : zrun zpp E 0 (1213, ls, .int y :: .int x :: sk, h) = zrun zpp E 0 (1214, ls, .int (x + y) :: sk, h) := zrun_at (i := (.iadd, 1214, 0, [])) rfl
set_option maxRecDepth 20000 in
theorem zi0_1214 {E : zE} {x : UInt32} {i : Int32} {ls sk : List Value} {h : zH} : zrun zpp E 0 (1214, ls, .int i :: .float x :: sk, h) = if zix i E.1 = true then zrun zpp E 0 (1215, ls, .int (E.2 i.toNatClampNeg) :: sk, h) else none := zg_sald rfl
set_option maxRecDepth 20000 in
theorem zi0_1215 {E : zE} {x : Nat} {ls sk : List Value} {h : zH} : zrun zpp E 0 (1215, .ref x :: ls, sk, h) = zrun zpp E 0 (1216, .ref x :: ls, .ref x :: sk, h) := zrun_at (i := (.aload_n 0, 1216, 0, [])) rfl
set_option maxRecDepth 20000 in
theorem zi0_1215n {E : zE} {ls sk : List Value} {h : zH} : zrun zpp E 0 (1215, .null :: ls, sk, h) = zrun zpp E 0 (1216, .null :: ls, .null :: sk, h) := zrun_at (i := (.aload_n 0, 1216, 0, [])) rfl
set_option maxRecDepth 20000 in
theorem zi0_1215f {E : zE} {x : UInt32} {ls sk : List Value} {h : zH} : zrun zpp E 0 (1215, .float x :: ls, sk, h) = zrun zpp E 0 (1216, .float x :: ls, .float x :: sk, h) := zrun_at (i := (.aload_n 0, 1216, 0, [])) rfl
set_option maxRecDepth 20000 in
theorem zi0_1216 {E : zE} {v0 v1 v2 : Value} {x : Int32} {ls sk : List Value} {h : zH} : zrun zpp E 0 (1216, v0 :: v1 :: v2 :: .int x :: ls, sk, h) = zrun zpp E 0 (1217, v0 :: v1 :: v2 :: .int x :: ls, .int x :: sk, h) := zrun_at (i := (.iload_n 3, 1217, 0, [])) rfl
set_option maxRecDepth 20000 in
theorem zi0_1217 {E : zE} {ls sk : List Value} {h : zH} : zrun zpp E 0 (1217, ls, sk, h) = zrun zpp E 0 (1218, ls, .int 2 :: sk, h) := zg_iconst rfl ci_2
set_option maxRecDepth 20000 in
theorem zi0_1218 {E : zE} {x y : Int32} {ls sk : List Value} {h : zH} : zrun zpp E 0 (1218, ls, .int y :: .int x :: sk, h) = zrun zpp E 0 (1219, ls, .int (x + y) :: sk, h) := zrun_at (i := (.iadd, 1219, 0, [])) rfl
set_option maxRecDepth 20000 in
theorem zi0_1219 {E : zE} {x : UInt32} {i : Int32} {ls sk : List Value} {h : zH} : zrun zpp E 0 (1219, ls, .int i :: .float x :: sk, h) = if zix i E.1 = true then zrun zpp E 0 (1220, ls, .int (E.2 i.toNatClampNeg) :: sk, h) else none := zg_sald rfl
set_option maxRecDepth 20000 in
theorem zi0_1220 {E : zE} {a0 a1 : Value} {x : Nat} {ls sk : List Value} {h : zH} : zrun zpp E 0 (1220, ls, a1 :: a0 :: .ref x :: sk, h) = (zcls h x).bind (fun d => (zsel d [10, 122]).bind (fun M' => zcl1 E 0 1223 M' ls sk [.ref x, a0, a1] h)) := zg_vir (as := [a0, a1]) rfl rfl
set_option maxRecDepth 20000 in
theorem zi0_1223 {E : zE} {v0 v1 : Value} {x : Nat} {ls sk : List Value} {h : zH} : zrun zpp E 0 (1223, v0 :: v1 :: .ref x :: ls, sk, h) = zrun zpp E 0 (1224, v0 :: v1 :: .ref x :: ls, .ref x :: sk, h) := zrun_at (i := (.aload_n 2, 1224, 0, [])) rfl
set_option maxRecDepth 20000 in
theorem zi0_1223n {E : zE} {v0 v1 : Value} {ls sk : List Value} {h : zH} : zrun zpp E 0 (1223, v0 :: v1 :: .null :: ls, sk, h) = zrun zpp E 0 (1224, v0 :: v1 :: .null :: ls, .null :: sk, h) := zrun_at (i := (.aload_n 2, 1224, 0, [])) rfl
set_option maxRecDepth 20000 in
theorem zi0_1223f {E : zE} {v0 v1 : Value} {x : UInt32} {ls sk : List Value} {h : zH} : zrun zpp E 0 (1223, v0 :: v1 :: .float x :: ls, sk, h) = zrun zpp E 0 (1224, v0 :: v1 :: .float x :: ls, .float x :: sk, h) := zrun_at (i := (.aload_n 2, 1224, 0, [])) rfl
set_option maxRecDepth 20000 in
theorem zi0_1224 {E : zE} {x : Nat} {ls sk : List Value} {h : zH} : zrun zpp E 0 (1224, .ref x :: ls, sk, h) = zrun zpp E 0 (1225, .ref x :: ls, .ref x :: sk, h) := zrun_at (i := (.aload_n 0, 1225, 0, [])) rfl
set_option maxRecDepth 20000 in
theorem zi0_1224n {E : zE} {ls sk : List Value} {h : zH} : zrun zpp E 0 (1224, .null :: ls, sk, h) = zrun zpp E 0 (1225, .null :: ls, .null :: sk, h) := zrun_at (i := (.aload_n 0, 1225, 0, [])) rfl
set_option maxRecDepth 20000 in
theorem zi0_1224f {E : zE} {x : UInt32} {ls sk : List Value} {h : zH} : zrun zpp E 0 (1224, .float x :: ls, sk, h) = zrun zpp E 0 (1225, .float x :: ls, .float x :: sk, h) := zrun_at (i := (.aload_n 0, 1225, 0, [])) rfl
set_option maxRecDepth 20000 in
theorem zi0_1225 {E : zE} {v0 v1 v2 : Value} {x : Int32} {ls sk : List Value} {h : zH} : zrun zpp E 0 (1225, v0 :: v1 :: v2 :: .int x :: ls, sk, h) = zrun zpp E 0 (1226, v0 :: v1 :: v2 :: .int x :: ls, .int x :: sk, h) := zrun_at (i := (.iload_n 3, 1226, 0, [])) rfl
set_option maxRecDepth 20000 in
theorem zi0_1226 {E : zE} {ls sk : List Value} {h : zH} : zrun zpp E 0 (1226, ls, sk, h) = zrun zpp E 0 (1227, ls, .int 1 :: sk, h) := zg_iconst rfl ci_1
set_option maxRecDepth 20000 in
theorem zi0_1227 {E : zE} {x y : Int32} {ls sk : List Value} {h : zH} : zrun zpp E 0 (1227, ls, .int y :: .int x :: sk, h) = zrun zpp E 0 (1228, ls, .int (x + y) :: sk, h) := zrun_at (i := (.iadd, 1228, 0, [])) rfl
set_option maxRecDepth 20000 in
theorem zi0_1228 {E : zE} {x : UInt32} {i : Int32} {ls sk : List Value} {h : zH} : zrun zpp E 0 (1228, ls, .int i :: .float x :: sk, h) = if zix i E.1 = true then zrun zpp E 0 (1229, ls, .int (E.2 i.toNatClampNeg) :: sk, h) else none := zg_sald rfl
set_option maxRecDepth 20000 in
theorem zi0_1229 {E : zE} {x : Nat} {ls sk : List Value} {h : zH} : zrun zpp E 0 (1229, .ref x :: ls, sk, h) = zrun zpp E 0 (1230, .ref x :: ls, .ref x :: sk, h) := zrun_at (i := (.aload_n 0, 1230, 0, [])) rfl
set_option maxRecDepth 20000 in
theorem zi0_1229n {E : zE} {ls sk : List Value} {h : zH} : zrun zpp E 0 (1229, .null :: ls, sk, h) = zrun zpp E 0 (1230, .null :: ls, .null :: sk, h) := zrun_at (i := (.aload_n 0, 1230, 0, [])) rfl
set_option maxRecDepth 20000 in
theorem zi0_1229f {E : zE} {x : UInt32} {ls sk : List Value} {h : zH} : zrun zpp E 0 (1229, .float x :: ls, sk, h) = zrun zpp E 0 (1230, .float x :: ls, .float x :: sk, h) := zrun_at (i := (.aload_n 0, 1230, 0, [])) rfl
set_option maxRecDepth 20000 in
theorem zi0_1230 {E : zE} {v0 v1 v2 : Value} {x : Int32} {ls sk : List Value} {h : zH} : zrun zpp E 0 (1230, v0 :: v1 :: v2 :: .int x :: ls, sk, h) = zrun zpp E 0 (1231, v0 :: v1 :: v2 :: .int x :: ls, .int x :: sk, h) := zrun_at (i := (.iload_n 3, 1231, 0, [])) rfl
set_option maxRecDepth 20000 in
theorem zi0_1231 {E : zE} {ls sk : List Value} {h : zH} : zrun zpp E 0 (1231, ls, sk, h) = zrun zpp E 0 (1232, ls, .int 2 :: sk, h) := zg_iconst rfl ci_2
set_option maxRecDepth 20000 in
theorem zi0_1232 {E : zE} {x y : Int32} {ls sk : List Value} {h : zH} : zrun zpp E 0 (1232, ls, .int y :: .int x :: sk, h) = zrun zpp E 0 (1233, ls, .int (x + y) :: sk, h) := zrun_at (i := (.iadd, 1233, 0, [])) rfl
set_option maxRecDepth 20000 in
theorem zi0_1233 {E : zE} {x : UInt32} {i : Int32} {ls sk : List Value} {h : zH} : zrun zpp E 0 (1233, ls, .int i :: .float x :: sk, h) = if zix i E.1 = true then zrun zpp E 0 (1234, ls, .int (E.2 i.toNatClampNeg) :: sk, h) else none := zg_sald rfl
set_option maxRecDepth 20000 in
theorem zi0_1234 {E : zE} {a0 a1 : Value} {x : Nat} {ls sk : List Value} {h : zH} : zrun zpp E 0 (1234, ls, a1 :: a0 :: .ref x :: sk, h) = (zcls h x).bind (fun d => (zsel d [11, 226]).bind (fun M' => zcl1 E 0 1237 M' ls sk [.ref x, a0, a1] h)) := zg_vir (as := [a0, a1]) rfl rfl
set_option maxRecDepth 20000 in
theorem zi0_1237 {E : zE} {x y : Int32} {ls sk : List Value} {h : zH} : zrun zpp E 0 (1237, ls, .int y :: .int x :: sk, h) = if x = y then zrun zpp E 0 (1301, ls, sk, h) else zrun zpp E 0 (1240, ls, sk, h) := zrun_at (i := (.if_icmp .eq 64, 1240, 0, [1301])) rfl
set_option maxRecDepth 20000 in
theorem zi0_1240 {E : zE} {ls sk : List Value} {h : zH} : zrun zpp E 0 (1240, ls, sk, h) = zrun zpp E 0 (1241, ls, .int 0 :: sk, h) := zg_iconst rfl ci_0
set_option maxRecDepth 20000 in
theorem zi0_1241 {E : zE} {x : Int32} {ls sk : List Value} {h : zH} : zrun zpp E 0 (1241, ls, [.int x], h) = if x = 0 then some (some (.int 0), h) else if x = 1 then some (some (.int 1), h) else none := zrun_at (i := (.ireturn, 1242, 1, [])) rfl
set_option maxRecDepth 20000 in
theorem zi0_1242 {E : zE} {v0 : Value} {x : Nat} {ls sk : List Value} {h : zH} : zrun zpp E 0 (1242, v0 :: .ref x :: ls, sk, h) = zrun zpp E 0 (1243, v0 :: .ref x :: ls, .ref x :: sk, h) := zrun_at (i := (.aload_n 1, 1243, 0, [])) rfl
set_option maxRecDepth 20000 in
theorem zi0_1242n {E : zE} {v0 : Value} {ls sk : List Value} {h : zH} : zrun zpp E 0 (1242, v0 :: .null :: ls, sk, h) = zrun zpp E 0 (1243, v0 :: .null :: ls, .null :: sk, h) := zrun_at (i := (.aload_n 1, 1243, 0, [])) rfl
set_option maxRecDepth 20000 in
theorem zi0_1242f {E : zE} {v0 : Value} {x : UInt32} {ls sk : List Value} {h : zH} : zrun zpp E 0 (1242, v0 :: .float x :: ls, sk, h) = zrun zpp E 0 (1243, v0 :: .float x :: ls, .float x :: sk, h) := zrun_at (i := (.aload_n 1, 1243, 0, [])) rfl
set_option maxRecDepth 20000 in
theorem zi0_1243 {E : zE} {x : Nat} {ls sk : List Value} {h : zH} : zrun zpp E 0 (1243, .ref x :: ls, sk, h) = zrun zpp E 0 (1244, .ref x :: ls, .ref x :: sk, h) := zrun_at (i := (.aload_n 0, 1244, 0, [])) rfl
set_option maxRecDepth 20000 in
theorem zi0_1243n {E : zE} {ls sk : List Value} {h : zH} : zrun zpp E 0 (1243, .null :: ls, sk, h) = zrun zpp E 0 (1244, .null :: ls, .null :: sk, h) := zrun_at (i := (.aload_n 0, 1244, 0, [])) rfl
set_option maxRecDepth 20000 in
theorem zi0_1243f {E : zE} {x : UInt32} {ls sk : List Value} {h : zH} : zrun zpp E 0 (1243, .float x :: ls, sk, h) = zrun zpp E 0 (1244, .float x :: ls, .float x :: sk, h) := zrun_at (i := (.aload_n 0, 1244, 0, [])) rfl
set_option maxRecDepth 20000 in
theorem zi0_1244 {E : zE} {v0 v1 v2 : Value} {x : Int32} {ls sk : List Value} {h : zH} : zrun zpp E 0 (1244, v0 :: v1 :: v2 :: .int x :: ls, sk, h) = zrun zpp E 0 (1245, v0 :: v1 :: v2 :: .int x :: ls, .int x :: sk, h) := zrun_at (i := (.iload_n 3, 1245, 0, [])) rfl
set_option maxRecDepth 20000 in
theorem zi0_1245 {E : zE} {ls sk : List Value} {h : zH} : zrun zpp E 0 (1245, ls, sk, h) = zrun zpp E 0 (1246, ls, .int 1 :: sk, h) := zg_iconst rfl ci_1
set_option maxRecDepth 20000 in
theorem zi0_1246 {E : zE} {x y : Int32} {ls sk : List Value} {h : zH} : zrun zpp E 0 (1246, ls, .int y :: .int x :: sk, h) = zrun zpp E 0 (1247, ls, .int (x + y) :: sk, h) := zrun_at (i := (.iadd, 1247, 0, [])) rfl
set_option maxRecDepth 20000 in
theorem zi0_1247 {E : zE} {x : UInt32} {i : Int32} {ls sk : List Value} {h : zH} : zrun zpp E 0 (1247, ls, .int i :: .float x :: sk, h) = if zix i E.1 = true then zrun zpp E 0 (1248, ls, .int (E.2 i.toNatClampNeg) :: sk, h) else none := zg_sald rfl
set_option maxRecDepth 20000 in
theorem zi0_1248 {E : zE} {a0 : Value} {x : Nat} {ls sk : List Value} {h : zH} : zrun zpp E 0 (1248, ls, a0 :: .ref x :: sk, h) = (zcls h x).bind (fun d => (zsel d [10, 123]).bind (fun M' => zcl1 E 0 1251 M' ls sk [.ref x, a0] h)) := zg_vir (as := [a0]) rfl rfl
set_option maxRecDepth 20000 in
theorem zi0_1251 {E : zE} {v0 v1 : Value} {x : Nat} {ls sk : List Value} {h : zH} : zrun zpp E 0 (1251, v0 :: v1 :: .ref x :: ls, sk, h) = zrun zpp E 0 (1252, v0 :: v1 :: .ref x :: ls, .ref x :: sk, h) := zrun_at (i := (.aload_n 2, 1252, 0, [])) rfl
set_option maxRecDepth 20000 in
theorem zi0_1251n {E : zE} {v0 v1 : Value} {ls sk : List Value} {h : zH} : zrun zpp E 0 (1251, v0 :: v1 :: .null :: ls, sk, h) = zrun zpp E 0 (1252, v0 :: v1 :: .null :: ls, .null :: sk, h) := zrun_at (i := (.aload_n 2, 1252, 0, [])) rfl
set_option maxRecDepth 20000 in
theorem zi0_1251f {E : zE} {v0 v1 : Value} {x : UInt32} {ls sk : List Value} {h : zH} : zrun zpp E 0 (1251, v0 :: v1 :: .float x :: ls, sk, h) = zrun zpp E 0 (1252, v0 :: v1 :: .float x :: ls, .float x :: sk, h) := zrun_at (i := (.aload_n 2, 1252, 0, [])) rfl
set_option maxRecDepth 20000 in
theorem zi0_1252 {E : zE} {x : Nat} {ls sk : List Value} {h : zH} : zrun zpp E 0 (1252, .ref x :: ls, sk, h) = zrun zpp E 0 (1253, .ref x :: ls, .ref x :: sk, h) := zrun_at (i := (.aload_n 0, 1253, 0, [])) rfl
set_option maxRecDepth 20000 in
theorem zi0_1252n {E : zE} {ls sk : List Value} {h : zH} : zrun zpp E 0 (1252, .null :: ls, sk, h) = zrun zpp E 0 (1253, .null :: ls, .null :: sk, h) := zrun_at (i := (.aload_n 0, 1253, 0, [])) rfl
set_option maxRecDepth 20000 in
theorem zi0_1252f {E : zE} {x : UInt32} {ls sk : List Value} {h : zH} : zrun zpp E 0 (1252, .float x :: ls, sk, h) = zrun zpp E 0 (1253, .float x :: ls, .float x :: sk, h) := zrun_at (i := (.aload_n 0, 1253, 0, [])) rfl
set_option maxRecDepth 20000 in
theorem zi0_1253 {E : zE} {v0 v1 v2 : Value} {x : Int32} {ls sk : List Value} {h : zH} : zrun zpp E 0 (1253, v0 :: v1 :: v2 :: .int x :: ls, sk, h) = zrun zpp E 0 (1254, v0 :: v1 :: v2 :: .int x :: ls, .int x :: sk, h) := zrun_at (i := (.iload_n 3, 1254, 0, [])) rfl
set_option maxRecDepth 20000 in
theorem zi0_1254 {E : zE} {ls sk : List Value} {h : zH} : zrun zpp E 0 (1254, ls, sk, h) = zrun zpp E 0 (1255, ls, .int 1 :: sk, h) := zg_iconst rfl ci_1
set_option maxRecDepth 20000 in
theorem zi0_1255 {E : zE} {x y : Int32} {ls sk : List Value} {h : zH} : zrun zpp E 0 (1255, ls, .int y :: .int x :: sk, h) = zrun zpp E 0 (1256, ls, .int (x + y) :: sk, h) := zrun_at (i := (.iadd, 1256, 0, [])) rfl
set_option maxRecDepth 20000 in
theorem zi0_1256 {E : zE} {x : UInt32} {i : Int32} {ls sk : List Value} {h : zH} : zrun zpp E 0 (1256, ls, .int i :: .float x :: sk, h) = if zix i E.1 = true then zrun zpp E 0 (1257, ls, .int (E.2 i.toNatClampNeg) :: sk, h) else none := zg_sald rfl
set_option maxRecDepth 20000 in
theorem zi0_1257 {E : zE} {a0 : Value} {x : Nat} {ls sk : List Value} {h : zH} : zrun zpp E 0 (1257, ls, a0 :: .ref x :: sk, h) = (zcls h x).bind (fun d => (zsel d [11, 227]).bind (fun M' => zcl1 E 0 1260 M' ls sk [.ref x, a0] h)) := zg_vir (as := [a0]) rfl rfl
set_option maxRecDepth 20000 in
theorem zi0_1260 {E : zE} {x y : Int32} {ls sk : List Value} {h : zH} : zrun zpp E 0 (1260, ls, .int y :: .int x :: sk, h) = if x = y then zrun zpp E 0 (1301, ls, sk, h) else zrun zpp E 0 (1263, ls, sk, h) := zrun_at (i := (.if_icmp .eq 41, 1263, 0, [1301])) rfl
set_option maxRecDepth 20000 in
theorem zi0_1263 {E : zE} {ls sk : List Value} {h : zH} : zrun zpp E 0 (1263, ls, sk, h) = zrun zpp E 0 (1264, ls, .int 0 :: sk, h) := zg_iconst rfl ci_0
set_option maxRecDepth 20000 in
theorem zi0_1264 {E : zE} {x : Int32} {ls sk : List Value} {h : zH} : zrun zpp E 0 (1264, ls, [.int x], h) = if x = 0 then some (some (.int 0), h) else if x = 1 then some (some (.int 1), h) else none := zrun_at (i := (.ireturn, 1265, 1, [])) rfl
set_option maxRecDepth 20000 in
theorem zi0_1265 {E : zE} {v0 : Value} {x : Nat} {ls sk : List Value} {h : zH} : zrun zpp E 0 (1265, v0 :: .ref x :: ls, sk, h) = zrun zpp E 0 (1266, v0 :: .ref x :: ls, .ref x :: sk, h) := zrun_at (i := (.aload_n 1, 1266, 0, [])) rfl
set_option maxRecDepth 20000 in
theorem zi0_1265n {E : zE} {v0 : Value} {ls sk : List Value} {h : zH} : zrun zpp E 0 (1265, v0 :: .null :: ls, sk, h) = zrun zpp E 0 (1266, v0 :: .null :: ls, .null :: sk, h) := zrun_at (i := (.aload_n 1, 1266, 0, [])) rfl
set_option maxRecDepth 20000 in
theorem zi0_1265f {E : zE} {v0 : Value} {x : UInt32} {ls sk : List Value} {h : zH} : zrun zpp E 0 (1265, v0 :: .float x :: ls, sk, h) = zrun zpp E 0 (1266, v0 :: .float x :: ls, .float x :: sk, h) := zrun_at (i := (.aload_n 1, 1266, 0, [])) rfl
set_option maxRecDepth 20000 in
theorem zi0_1266 {E : zE} {x : Nat} {ls sk : List Value} {h : zH} : zrun zpp E 0 (1266, .ref x :: ls, sk, h) = zrun zpp E 0 (1267, .ref x :: ls, .ref x :: sk, h) := zrun_at (i := (.aload_n 0, 1267, 0, [])) rfl
set_option maxRecDepth 20000 in
theorem zi0_1266n {E : zE} {ls sk : List Value} {h : zH} : zrun zpp E 0 (1266, .null :: ls, sk, h) = zrun zpp E 0 (1267, .null :: ls, .null :: sk, h) := zrun_at (i := (.aload_n 0, 1267, 0, [])) rfl
set_option maxRecDepth 20000 in
theorem zi0_1266f {E : zE} {x : UInt32} {ls sk : List Value} {h : zH} : zrun zpp E 0 (1266, .float x :: ls, sk, h) = zrun zpp E 0 (1267, .float x :: ls, .float x :: sk, h) := zrun_at (i := (.aload_n 0, 1267, 0, [])) rfl
set_option maxRecDepth 20000 in
theorem zi0_1267 {E : zE} {v0 v1 v2 : Value} {x : Int32} {ls sk : List Value} {h : zH} : zrun zpp E 0 (1267, v0 :: v1 :: v2 :: .int x :: ls, sk, h) = zrun zpp E 0 (1268, v0 :: v1 :: v2 :: .int x :: ls, .int x :: sk, h) := zrun_at (i := (.iload_n 3, 1268, 0, [])) rfl
set_option maxRecDepth 20000 in
theorem zi0_1268 {E : zE} {ls sk : List Value} {h : zH} : zrun zpp E 0 (1268, ls, sk, h) = zrun zpp E 0 (1269, ls, .int 1 :: sk, h) := zg_iconst rfl ci_1
set_option maxRecDepth 20000 in
theorem zi0_1269 {E : zE} {x y : Int32} {ls sk : List Value} {h : zH} : zrun zpp E 0 (1269, ls, .int y :: .int x :: sk, h) = zrun zpp E 0 (1270, ls, .int (x + y) :: sk, h) := zrun_at (i := (.iadd, 1270, 0, [])) rfl
set_option maxRecDepth 20000 in
theorem zi0_1270 {E : zE} {x : UInt32} {i : Int32} {ls sk : List Value} {h : zH} : zrun zpp E 0 (1270, ls, .int i :: .float x :: sk, h) = if zix i E.1 = true then zrun zpp E 0 (1271, ls, .int (E.2 i.toNatClampNeg) :: sk, h) else none := zg_sald rfl
set_option maxRecDepth 20000 in
theorem zi0_1271 {E : zE} {a0 : Value} {x : Nat} {ls sk : List Value} {h : zH} : zrun zpp E 0 (1271, ls, a0 :: .ref x :: sk, h) = (zcls h x).bind (fun d => (zsel d [10, 124]).bind (fun M' => zcl1 E 0 1274 M' ls sk [.ref x, a0] h)) := zg_vir (as := [a0]) rfl rfl
set_option maxRecDepth 20000 in
theorem zi0_1274 {E : zE} {v0 v1 : Value} {x : Nat} {ls sk : List Value} {h : zH} : zrun zpp E 0 (1274, v0 :: v1 :: .ref x :: ls, sk, h) = zrun zpp E 0 (1275, v0 :: v1 :: .ref x :: ls, .ref x :: sk, h) := zrun_at (i := (.aload_n 2, 1275, 0, [])) rfl
set_option maxRecDepth 20000 in
theorem zi0_1274n {E : zE} {v0 v1 : Value} {ls sk : List Value} {h : zH} : zrun zpp E 0 (1274, v0 :: v1 :: .null :: ls, sk, h) = zrun zpp E 0 (1275, v0 :: v1 :: .null :: ls, .null :: sk, h) := zrun_at (i := (.aload_n 2, 1275, 0, [])) rfl
set_option maxRecDepth 20000 in
theorem zi0_1274f {E : zE} {v0 v1 : Value} {x : UInt32} {ls sk : List Value} {h : zH} : zrun zpp E 0 (1274, v0 :: v1 :: .float x :: ls, sk, h) = zrun zpp E 0 (1275, v0 :: v1 :: .float x :: ls, .float x :: sk, h) := zrun_at (i := (.aload_n 2, 1275, 0, [])) rfl
set_option maxRecDepth 20000 in
theorem zi0_1275 {E : zE} {x : Nat} {ls sk : List Value} {h : zH} : zrun zpp E 0 (1275, .ref x :: ls, sk, h) = zrun zpp E 0 (1276, .ref x :: ls, .ref x :: sk, h) := zrun_at (i := (.aload_n 0, 1276, 0, [])) rfl
set_option maxRecDepth 20000 in
theorem zi0_1275n {E : zE} {ls sk : List Value} {h : zH} : zrun zpp E 0 (1275, .null :: ls, sk, h) = zrun zpp E 0 (1276, .null :: ls, .null :: sk, h) := zrun_at (i := (.aload_n 0, 1276, 0, [])) rfl
set_option maxRecDepth 20000 in
theorem zi0_1275f {E : zE} {x : UInt32} {ls sk : List Value} {h : zH} : zrun zpp E 0 (1275, .float x :: ls, sk, h) = zrun zpp E 0 (1276, .float x :: ls, .float x :: sk, h) := zrun_at (i := (.aload_n 0, 1276, 0, [])) rfl
set_option maxRecDepth 20000 in
theorem zi0_1276 {E : zE} {v0 v1 v2 : Value} {x : Int32} {ls sk : List Value} {h : zH} : zrun zpp E 0 (1276, v0 :: v1 :: v2 :: .int x :: ls, sk, h) = zrun zpp E 0 (1277, v0 :: v1 :: v2 :: .int x :: ls, .int x :: sk, h) := zrun_at (i := (.iload_n 3, 1277, 0, [])) rfl
set_option maxRecDepth 20000 in
theorem zi0_1277 {E : zE} {ls sk : List Value} {h : zH} : zrun zpp E 0 (1277, ls, sk, h) = zrun zpp E 0 (1278, ls, .int 1 :: sk, h) := zg_iconst rfl ci_1
set_option maxRecDepth 20000 in
theorem zi0_1278 {E : zE} {x y : Int32} {ls sk : List Value} {h : zH} : zrun zpp E 0 (1278, ls, .int y :: .int x :: sk, h) = zrun zpp E 0 (1279, ls, .int (x + y) :: sk, h) := zrun_at (i := (.iadd, 1279, 0, [])) rfl
set_option maxRecDepth 20000 in
theorem zi0_1279 {E : zE} {x : UInt32} {i : Int32} {ls sk : List Value} {h : zH} : zrun zpp E 0 (1279, ls, .int i :: .float x :: sk, h) = if zix i E.1 = true then zrun zpp E 0 (1280, ls, .int (E.2 i.toNatClampNeg) :: sk, h) else none := zg_sald rfl
set_option maxRecDepth 20000 in
theorem zi0_1280 {E : zE} {a0 : Value} {x : Nat} {ls sk : List Value} {h : zH} : zrun zpp E 0 (1280, ls, a0 :: .ref x :: sk, h) = (zcls h x).bind (fun d => (zsel d [11, 228]).bind (fun M' => zcl1 E 0 1283 M' ls sk [.ref x, a0] h)) := zg_vir (as := [a0]) rfl rfl
set_option maxRecDepth 20000 in
theorem zi0_1283 {E : zE} {x y : Int32} {ls sk : List Value} {h : zH} : zrun zpp E 0 (1283, ls, .int y :: .int x :: sk, h) = if x = y then zrun zpp E 0 (1301, ls, sk, h) else zrun zpp E 0 (1286, ls, sk, h) := zrun_at (i := (.if_icmp .eq 18, 1286, 0, [1301])) rfl
set_option maxRecDepth 20000 in
theorem zi0_1286 {E : zE} {ls sk : List Value} {h : zH} : zrun zpp E 0 (1286, ls, sk, h) = zrun zpp E 0 (1287, ls, .int 0 :: sk, h) := zg_iconst rfl ci_0
set_option maxRecDepth 20000 in
theorem zi0_1287 {E : zE} {x : Int32} {ls sk : List Value} {h : zH} : zrun zpp E 0 (1287, ls, [.int x], h) = if x = 0 then some (some (.int 0), h) else if x = 1 then some (some (.int 1), h) else none := zrun_at (i := (.ireturn, 1288, 1, [])) rfl
set_option maxRecDepth 20000 in
theorem zi0_1288 {E : zE} {v0 : Value} {x : Nat} {ls sk : List Value} {h : zH} : zrun zpp E 0 (1288, v0 :: .ref x :: ls, sk, h) = zrun zpp E 0 (1289, v0 :: .ref x :: ls, .ref x :: sk, h) := zrun_at (i := (.aload_n 1, 1289, 0, [])) rfl
set_option maxRecDepth 20000 in
theorem zi0_1288n {E : zE} {v0 : Value} {ls sk : List Value} {h : zH} : zrun zpp E 0 (1288, v0 :: .null :: ls, sk, h) = zrun zpp E 0 (1289, v0 :: .null :: ls, .null :: sk, h) := zrun_at (i := (.aload_n 1, 1289, 0, [])) rfl
set_option maxRecDepth 20000 in
theorem zi0_1288f {E : zE} {v0 : Value} {x : UInt32} {ls sk : List Value} {h : zH} : zrun zpp E 0 (1288, v0 :: .float x :: ls, sk, h) = zrun zpp E 0 (1289, v0 :: .float x :: ls, .float x :: sk, h) := zrun_at (i := (.aload_n 1, 1289, 0, [])) rfl
set_option maxRecDepth 20000 in
theorem zi0_1289 {E : zE} {x : Nat} {ls sk : List Value} {h : zH} : zrun zpp E 0 (1289, ls, .ref x :: sk, h) = (zcls h x).bind (fun d => (zsel d [10, 125]).bind (fun M' => zcl1 E 0 1292 M' ls sk [.ref x] h)) := zg_vir (as := []) rfl rfl
set_option maxRecDepth 20000 in
theorem zi0_1292 {E : zE} {v0 v1 : Value} {x : Nat} {ls sk : List Value} {h : zH} : zrun zpp E 0 (1292, v0 :: v1 :: .ref x :: ls, sk, h) = zrun zpp E 0 (1293, v0 :: v1 :: .ref x :: ls, .ref x :: sk, h) := zrun_at (i := (.aload_n 2, 1293, 0, [])) rfl
set_option maxRecDepth 20000 in
theorem zi0_1292n {E : zE} {v0 v1 : Value} {ls sk : List Value} {h : zH} : zrun zpp E 0 (1292, v0 :: v1 :: .null :: ls, sk, h) = zrun zpp E 0 (1293, v0 :: v1 :: .null :: ls, .null :: sk, h) := zrun_at (i := (.aload_n 2, 1293, 0, [])) rfl
set_option maxRecDepth 20000 in
theorem zi0_1292f {E : zE} {v0 v1 : Value} {x : UInt32} {ls sk : List Value} {h : zH} : zrun zpp E 0 (1292, v0 :: v1 :: .float x :: ls, sk, h) = zrun zpp E 0 (1293, v0 :: v1 :: .float x :: ls, .float x :: sk, h) := zrun_at (i := (.aload_n 2, 1293, 0, [])) rfl
set_option maxRecDepth 20000 in
theorem zi0_1293 {E : zE} {x : Nat} {ls sk : List Value} {h : zH} : zrun zpp E 0 (1293, ls, .ref x :: sk, h) = (zcls h x).bind (fun d => (zsel d [11, 229]).bind (fun M' => zcl1 E 0 1296 M' ls sk [.ref x] h)) := zg_vir (as := []) rfl rfl
set_option maxRecDepth 20000 in
theorem zi0_1296 {E : zE} {x y : Int32} {ls sk : List Value} {h : zH} : zrun zpp E 0 (1296, ls, .int y :: .int x :: sk, h) = if x = y then zrun zpp E 0 (1301, ls, sk, h) else zrun zpp E 0 (1299, ls, sk, h) := zrun_at (i := (.if_icmp .eq 5, 1299, 0, [1301])) rfl
set_option maxRecDepth 20000 in
theorem zi0_1299 {E : zE} {ls sk : List Value} {h : zH} : zrun zpp E 0 (1299, ls, sk, h) = zrun zpp E 0 (1300, ls, .int 0 :: sk, h) := zg_iconst rfl ci_0
set_option maxRecDepth 20000 in
theorem zi0_1300 {E : zE} {x : Int32} {ls sk : List Value} {h : zH} : zrun zpp E 0 (1300, ls, [.int x], h) = if x = 0 then some (some (.int 0), h) else if x = 1 then some (some (.int 1), h) else none := zrun_at (i := (.ireturn, 1301, 1, [])) rfl
set_option maxRecDepth 20000 in
theorem zi0_1301 {E : zE} {v0 v1 v2 : Value} {x : Int32} {ls sk : List Value} {h : zH} : zrun zpp E 0 (1301, v0 :: v1 :: v2 :: .int x :: ls, sk, h) = if zfree (v0 :: v1 :: v2 :: .int x :: ls) 3 = true then zrun zpp E 0 (1304, v0 :: v1 :: v2 :: .int (x + 6) :: ls, sk, h) else none := by rw [← ci_6]; exact zrun_at (i := (.iinc 3 6, 1304, 0, [])) rfl
set_option maxRecDepth 20000 in
theorem zi0_1304 {E : zE} {ls sk : List Value} {h : zH} : zrun zpp E 0 (1304, ls, sk, h) = zrun zpp E 0 (18, ls, sk, h) := zrun_at (i := (.goto (-1286), 1307, 0, [18])) rfl
set_option maxRecDepth 20000 in
theorem zi0_1307 {E : zE} {ls sk : List Value} {h : zH} : zrun zpp E 0 (1307, ls, sk, h) = zrun zpp E 0 (1308, ls, .int 1 :: sk, h) := zg_iconst rfl ci_1
set_option maxRecDepth 20000 in
theorem zi0_1308 {E : zE} {x : Int32} {ls sk : List Value} {h : zH} : zrun zpp E 0 (1308, ls, [.int x], h) = if x = 0 then some (some (.int 0), h) else if x = 1 then some (some (.int 1), h) else none := zrun_at (i := (.ireturn, 1309, 1, [])) rfl
-- 1 NineDown$Acts.<init>
theorem zi1_0 {E : zE} {x : Nat} {ls sk : List Value} {h : zH} : zrun zpp E 1 (0, .ref x :: ls, sk, h) = zrun zpp E 1 (1, .ref x :: ls, .ref x :: sk, h) := zrun_at (i := (.aload_n 0, 1, 0, [])) rfl
theorem zi1_0n {E : zE} {ls sk : List Value} {h : zH} : zrun zpp E 1 (0, .null :: ls, sk, h) = zrun zpp E 1 (1, .null :: ls, .null :: sk, h) := zrun_at (i := (.aload_n 0, 1, 0, [])) rfl
theorem zi1_1 {E : zE} {x : Nat} {ls sk : List Value} {h : zH} : zrun zpp E 1 (1, ls, .ref x :: sk, h) = if zlow sk = true then zrun zpp E 1 (4, ls, sk, h) else none := zg_obj rfl
theorem zi1_4 {E : zE} {x : Nat} {ls sk : List Value} {h : zH} : zrun zpp E 1 (4, .ref x :: ls, sk, h) = zrun zpp E 1 (5, .ref x :: ls, .ref x :: sk, h) := zrun_at (i := (.aload_n 0, 5, 0, [])) rfl
theorem zi1_4n {E : zE} {ls sk : List Value} {h : zH} : zrun zpp E 1 (4, .null :: ls, sk, h) = zrun zpp E 1 (5, .null :: ls, .null :: sk, h) := zrun_at (i := (.aload_n 0, 5, 0, [])) rfl
theorem zi1_5 {E : zE} {ls sk : List Value} {h : zH} : zrun zpp E 1 (5, ls, sk, h) = zrun zpp E 1 (7, ls, .int 24 :: sk, h) := zg_bipush rfl ci_24
theorem zi1_7 {E : zE} {n : Int32} {ls sk : List Value} {h : zH} : zrun zpp E 1 (7, ls, .int n :: sk, h) = if zix n 65536 = true then zrun zpp E 1 (9, ls, .ref h.length :: sk, h ++ [.inr (.inl (0, n.toNatClampNeg, fun _ => 0))]) else none := zg_newa rfl
theorem zi1_9 {E : zE} {x : Nat} {v : Value} {ls sk : List Value} {h : zH} : zrun zpp E 1 (9, ls, v :: .ref x :: sk, h) = (zstf [0] 2 h x 0 v).bind (fun h' => zrun zpp E 1 (12, ls, sk, h')) := zg_putf rfl
theorem zi1_12 {E : zE} {x : Nat} {ls sk : List Value} {h : zH} : zrun zpp E 1 (12, .ref x :: ls, sk, h) = zrun zpp E 1 (13, .ref x :: ls, .ref x :: sk, h) := zrun_at (i := (.aload_n 0, 13, 0, [])) rfl
theorem zi1_12n {E : zE} {ls sk : List Value} {h : zH} : zrun zpp E 1 (12, .null :: ls, sk, h) = zrun zpp E 1 (13, .null :: ls, .null :: sk, h) := zrun_at (i := (.aload_n 0, 13, 0, [])) rfl
theorem zi1_13 {E : zE} {ls sk : List Value} {h : zH} : zrun zpp E 1 (13, ls, sk, h) = zrun zpp E 1 (15, ls, .int 24 :: sk, h) := zg_bipush rfl ci_24
theorem zi1_15 {E : zE} {n : Int32} {ls sk : List Value} {h : zH} : zrun zpp E 1 (15, ls, .int n :: sk, h) = if zix n 65536 = true then zrun zpp E 1 (17, ls, .ref h.length :: sk, h ++ [.inr (.inl (0, n.toNatClampNeg, fun _ => 0))]) else none := zg_newa rfl
theorem zi1_17 {E : zE} {x : Nat} {v : Value} {ls sk : List Value} {h : zH} : zrun zpp E 1 (17, ls, v :: .ref x :: sk, h) = (zstf [0] 2 h x 1 v).bind (fun h' => zrun zpp E 1 (20, ls, sk, h')) := zg_putf rfl
theorem zi1_20 {E : zE} {x : Nat} {ls sk : List Value} {h : zH} : zrun zpp E 1 (20, .ref x :: ls, sk, h) = zrun zpp E 1 (21, .ref x :: ls, .ref x :: sk, h) := zrun_at (i := (.aload_n 0, 21, 0, [])) rfl
theorem zi1_20n {E : zE} {ls sk : List Value} {h : zH} : zrun zpp E 1 (20, .null :: ls, sk, h) = zrun zpp E 1 (21, .null :: ls, .null :: sk, h) := zrun_at (i := (.aload_n 0, 21, 0, [])) rfl
theorem zi1_21 {E : zE} {ls sk : List Value} {h : zH} : zrun zpp E 1 (21, ls, sk, h) = zrun zpp E 1 (23, ls, .int 24 :: sk, h) := zg_bipush rfl ci_24
theorem zi1_23 {E : zE} {n : Int32} {ls sk : List Value} {h : zH} : zrun zpp E 1 (23, ls, .int n :: sk, h) = if zix n 65536 = true then zrun zpp E 1 (25, ls, .ref h.length :: sk, h ++ [.inr (.inl (0, n.toNatClampNeg, fun _ => 0))]) else none := zg_newa rfl
theorem zi1_25 {E : zE} {x : Nat} {v : Value} {ls sk : List Value} {h : zH} : zrun zpp E 1 (25, ls, v :: .ref x :: sk, h) = (zstf [0] 2 h x 2 v).bind (fun h' => zrun zpp E 1 (28, ls, sk, h')) := zg_putf rfl
theorem zi1_28 {E : zE} {x : Nat} {ls sk : List Value} {h : zH} : zrun zpp E 1 (28, .ref x :: ls, sk, h) = zrun zpp E 1 (29, .ref x :: ls, .ref x :: sk, h) := zrun_at (i := (.aload_n 0, 29, 0, [])) rfl
theorem zi1_28n {E : zE} {ls sk : List Value} {h : zH} : zrun zpp E 1 (28, .null :: ls, sk, h) = zrun zpp E 1 (29, .null :: ls, .null :: sk, h) := zrun_at (i := (.aload_n 0, 29, 0, [])) rfl
theorem zi1_29 {E : zE} {ls sk : List Value} {h : zH} : zrun zpp E 1 (29, ls, sk, h) = zrun zpp E 1 (31, ls, .int 24 :: sk, h) := zg_bipush rfl ci_24
theorem zi1_31 {E : zE} {n : Int32} {ls sk : List Value} {h : zH} : zrun zpp E 1 (31, ls, .int n :: sk, h) = if zix n 65536 = true then zrun zpp E 1 (33, ls, .ref h.length :: sk, h ++ [.inr (.inl (0, n.toNatClampNeg, fun _ => 0))]) else none := zg_newa rfl
theorem zi1_33 {E : zE} {x : Nat} {v : Value} {ls sk : List Value} {h : zH} : zrun zpp E 1 (33, ls, v :: .ref x :: sk, h) = (zstf [0] 2 h x 3 v).bind (fun h' => zrun zpp E 1 (36, ls, sk, h')) := zg_putf rfl
theorem zi1_36 {E : zE} {x : Nat} {ls sk : List Value} {h : zH} : zrun zpp E 1 (36, .ref x :: ls, sk, h) = zrun zpp E 1 (37, .ref x :: ls, .ref x :: sk, h) := zrun_at (i := (.aload_n 0, 37, 0, [])) rfl
theorem zi1_36n {E : zE} {ls sk : List Value} {h : zH} : zrun zpp E 1 (36, .null :: ls, sk, h) = zrun zpp E 1 (37, .null :: ls, .null :: sk, h) := zrun_at (i := (.aload_n 0, 37, 0, [])) rfl
theorem zi1_37 {E : zE} {ls sk : List Value} {h : zH} : zrun zpp E 1 (37, ls, sk, h) = zrun zpp E 1 (39, ls, .int 24 :: sk, h) := zg_bipush rfl ci_24
theorem zi1_39 {E : zE} {n : Int32} {ls sk : List Value} {h : zH} : zrun zpp E 1 (39, ls, .int n :: sk, h) = if zix n 65536 = true then zrun zpp E 1 (41, ls, .ref h.length :: sk, h ++ [.inr (.inl (0, n.toNatClampNeg, fun _ => 0))]) else none := zg_newa rfl
theorem zi1_41 {E : zE} {x : Nat} {v : Value} {ls sk : List Value} {h : zH} : zrun zpp E 1 (41, ls, v :: .ref x :: sk, h) = (zstf [0] 2 h x 4 v).bind (fun h' => zrun zpp E 1 (44, ls, sk, h')) := zg_putf rfl
theorem zi1_44 {E : zE} {ls sk : List Value} {h : zH} : zrun zpp E 1 (44, ls, [], h) = some (none, h) := zrun_at (i := (.return_, 45, 0, [])) rfl
-- 2 NineDown$Acts.forget
theorem zi2_0 {E : zE} {x : Nat} {ls sk : List Value} {h : zH} : zrun zpp E 2 (0, .ref x :: ls, sk, h) = zrun zpp E 2 (1, .ref x :: ls, .ref x :: sk, h) := zrun_at (i := (.aload_n 0, 1, 0, [])) rfl
theorem zi2_0n {E : zE} {ls sk : List Value} {h : zH} : zrun zpp E 2 (0, .null :: ls, sk, h) = zrun zpp E 2 (1, .null :: ls, .null :: sk, h) := zrun_at (i := (.aload_n 0, 1, 0, [])) rfl
theorem zi2_1 {E : zE} {ls sk : List Value} {h : zH} : zrun zpp E 2 (1, ls, sk, h) = zrun zpp E 2 (2, ls, .int 0 :: sk, h) := zg_iconst rfl ci_0
theorem zi2_2 {E : zE} {x : Nat} {v : Value} {ls sk : List Value} {h : zH} : zrun zpp E 2 (2, ls, v :: .ref x :: sk, h) = (zstf [0] 0 h x 5 v).bind (fun h' => zrun zpp E 2 (5, ls, sk, h')) := zg_putf rfl
theorem zi2_5 {E : zE} {ls sk : List Value} {h : zH} : zrun zpp E 2 (5, ls, [], h) = some (none, h) := zrun_at (i := (.return_, 6, 0, [])) rfl
-- 3 NineDown$Acts.keep
theorem zi3_0 {E : zE} {x : Nat} {ls sk : List Value} {h : zH} : zrun zpp E 3 (0, .ref x :: ls, sk, h) = zrun zpp E 3 (1, .ref x :: ls, .ref x :: sk, h) := zrun_at (i := (.aload_n 0, 1, 0, [])) rfl
theorem zi3_0n {E : zE} {ls sk : List Value} {h : zH} : zrun zpp E 3 (0, .null :: ls, sk, h) = zrun zpp E 3 (1, .null :: ls, .null :: sk, h) := zrun_at (i := (.aload_n 0, 1, 0, [])) rfl
theorem zi3_1 {E : zE} {x : Nat} {ls sk : List Value} {h : zH} : zrun zpp E 3 (1, ls, .ref x :: sk, h) = (zfld [0] h x 5).bind (fun v => zrun zpp E 3 (4, ls, v :: sk, h)) := zg_getf rfl
theorem zi3_4 {E : zE} {ls sk : List Value} {h : zH} : zrun zpp E 3 (4, ls, sk, h) = zrun zpp E 3 (6, ls, .int 24 :: sk, h) := zg_bipush rfl ci_24
theorem zi3_6 {E : zE} {x y : Int32} {ls sk : List Value} {h : zH} : zrun zpp E 3 (6, ls, .int y :: .int x :: sk, h) = if x < y then zrun zpp E 3 (13, ls, sk, h) else zrun zpp E 3 (9, ls, sk, h) := zrun_at (i := (.if_icmp .lt 7, 9, 0, [13])) rfl
theorem zi3_9 {E : zE} {x : Nat} {ls sk : List Value} {h : zH} : zrun zpp E 3 (9, .ref x :: ls, sk, h) = zrun zpp E 3 (10, .ref x :: ls, .ref x :: sk, h) := zrun_at (i := (.aload_n 0, 10, 0, [])) rfl
theorem zi3_9n {E : zE} {ls sk : List Value} {h : zH} : zrun zpp E 3 (9, .null :: ls, sk, h) = zrun zpp E 3 (10, .null :: ls, .null :: sk, h) := zrun_at (i := (.aload_n 0, 10, 0, [])) rfl
theorem zi3_10 {E : zE} {x : Nat} {ls sk : List Value} {h : zH} : zrun zpp E 3 (10, ls, .ref x :: sk, h) = (zcls h x).bind (fun d => (zsel d [0, 5]).bind (fun M' => zcl1 E 3 13 M' ls sk [.ref x] h)) := zg_vir (as := []) rfl rfl
theorem zi3_13 {E : zE} {x : Nat} {ls sk : List Value} {h : zH} : zrun zpp E 3 (13, .ref x :: ls, sk, h) = zrun zpp E 3 (14, .ref x :: ls, .ref x :: sk, h) := zrun_at (i := (.aload_n 0, 14, 0, [])) rfl
theorem zi3_13n {E : zE} {ls sk : List Value} {h : zH} : zrun zpp E 3 (13, .null :: ls, sk, h) = zrun zpp E 3 (14, .null :: ls, .null :: sk, h) := zrun_at (i := (.aload_n 0, 14, 0, [])) rfl
theorem zi3_14 {E : zE} {x : Nat} {ls sk : List Value} {h : zH} : zrun zpp E 3 (14, ls, .ref x :: sk, h) = (zfld [0] h x 0).bind (fun v => zrun zpp E 3 (17, ls, v :: sk, h)) := zg_getf rfl
theorem zi3_17 {E : zE} {x : Nat} {ls sk : List Value} {h : zH} : zrun zpp E 3 (17, .ref x :: ls, sk, h) = zrun zpp E 3 (18, .ref x :: ls, .ref x :: sk, h) := zrun_at (i := (.aload_n 0, 18, 0, [])) rfl
theorem zi3_17n {E : zE} {ls sk : List Value} {h : zH} : zrun zpp E 3 (17, .null :: ls, sk, h) = zrun zpp E 3 (18, .null :: ls, .null :: sk, h) := zrun_at (i := (.aload_n 0, 18, 0, [])) rfl
theorem zi3_18 {E : zE} {x : Nat} {ls sk : List Value} {h : zH} : zrun zpp E 3 (18, ls, .ref x :: sk, h) = (zfld [0] h x 5).bind (fun v => zrun zpp E 3 (21, ls, v :: sk, h)) := zg_getf rfl
theorem zi3_21 {E : zE} {v0 : Value} {x : Int32} {ls sk : List Value} {h : zH} : zrun zpp E 3 (21, v0 :: .int x :: ls, sk, h) = zrun zpp E 3 (22, v0 :: .int x :: ls, .int x :: sk, h) := zrun_at (i := (.iload_n 1, 22, 0, [])) rfl
theorem zi3_22 {E : zE} {x : Nat} {i v : Int32} {ls sk : List Value} {h : zH} : zrun zpp E 3 (22, ls, .int v :: .int i :: .ref x :: sk, h) = (zars 0 h x i v).bind (fun h' => zrun zpp E 3 (23, ls, sk, h')) := zg_iast rfl
theorem zi3_23 {E : zE} {x : Nat} {ls sk : List Value} {h : zH} : zrun zpp E 3 (23, .ref x :: ls, sk, h) = zrun zpp E 3 (24, .ref x :: ls, .ref x :: sk, h) := zrun_at (i := (.aload_n 0, 24, 0, [])) rfl
theorem zi3_23n {E : zE} {ls sk : List Value} {h : zH} : zrun zpp E 3 (23, .null :: ls, sk, h) = zrun zpp E 3 (24, .null :: ls, .null :: sk, h) := zrun_at (i := (.aload_n 0, 24, 0, [])) rfl
theorem zi3_24 {E : zE} {x : Nat} {ls sk : List Value} {h : zH} : zrun zpp E 3 (24, ls, .ref x :: sk, h) = (zfld [0] h x 1).bind (fun v => zrun zpp E 3 (27, ls, v :: sk, h)) := zg_getf rfl
theorem zi3_27 {E : zE} {x : Nat} {ls sk : List Value} {h : zH} : zrun zpp E 3 (27, .ref x :: ls, sk, h) = zrun zpp E 3 (28, .ref x :: ls, .ref x :: sk, h) := zrun_at (i := (.aload_n 0, 28, 0, [])) rfl
theorem zi3_27n {E : zE} {ls sk : List Value} {h : zH} : zrun zpp E 3 (27, .null :: ls, sk, h) = zrun zpp E 3 (28, .null :: ls, .null :: sk, h) := zrun_at (i := (.aload_n 0, 28, 0, [])) rfl
theorem zi3_28 {E : zE} {x : Nat} {ls sk : List Value} {h : zH} : zrun zpp E 3 (28, ls, .ref x :: sk, h) = (zfld [0] h x 5).bind (fun v => zrun zpp E 3 (31, ls, v :: sk, h)) := zg_getf rfl
theorem zi3_31 {E : zE} {v0 v1 : Value} {x : Int32} {ls sk : List Value} {h : zH} : zrun zpp E 3 (31, v0 :: v1 :: .int x :: ls, sk, h) = zrun zpp E 3 (32, v0 :: v1 :: .int x :: ls, .int x :: sk, h) := zrun_at (i := (.iload_n 2, 32, 0, [])) rfl
theorem zi3_32 {E : zE} {x : Nat} {i v : Int32} {ls sk : List Value} {h : zH} : zrun zpp E 3 (32, ls, .int v :: .int i :: .ref x :: sk, h) = (zars 0 h x i v).bind (fun h' => zrun zpp E 3 (33, ls, sk, h')) := zg_iast rfl
theorem zi3_33 {E : zE} {x : Nat} {ls sk : List Value} {h : zH} : zrun zpp E 3 (33, .ref x :: ls, sk, h) = zrun zpp E 3 (34, .ref x :: ls, .ref x :: sk, h) := zrun_at (i := (.aload_n 0, 34, 0, [])) rfl
theorem zi3_33n {E : zE} {ls sk : List Value} {h : zH} : zrun zpp E 3 (33, .null :: ls, sk, h) = zrun zpp E 3 (34, .null :: ls, .null :: sk, h) := zrun_at (i := (.aload_n 0, 34, 0, [])) rfl
theorem zi3_34 {E : zE} {x : Nat} {ls sk : List Value} {h : zH} : zrun zpp E 3 (34, ls, .ref x :: sk, h) = (zfld [0] h x 3).bind (fun v => zrun zpp E 3 (37, ls, v :: sk, h)) := zg_getf rfl
theorem zi3_37 {E : zE} {x : Nat} {ls sk : List Value} {h : zH} : zrun zpp E 3 (37, .ref x :: ls, sk, h) = zrun zpp E 3 (38, .ref x :: ls, .ref x :: sk, h) := zrun_at (i := (.aload_n 0, 38, 0, [])) rfl
theorem zi3_37n {E : zE} {ls sk : List Value} {h : zH} : zrun zpp E 3 (37, .null :: ls, sk, h) = zrun zpp E 3 (38, .null :: ls, .null :: sk, h) := zrun_at (i := (.aload_n 0, 38, 0, [])) rfl
theorem zi3_38 {E : zE} {x : Nat} {ls sk : List Value} {h : zH} : zrun zpp E 3 (38, ls, .ref x :: sk, h) = (zfld [0] h x 5).bind (fun v => zrun zpp E 3 (41, ls, v :: sk, h)) := zg_getf rfl
theorem zi3_41 {E : zE} {v0 v1 v2 : Value} {x : Int32} {ls sk : List Value} {h : zH} : zrun zpp E 3 (41, v0 :: v1 :: v2 :: .int x :: ls, sk, h) = zrun zpp E 3 (42, v0 :: v1 :: v2 :: .int x :: ls, .int x :: sk, h) := zrun_at (i := (.iload_n 3, 42, 0, [])) rfl
theorem zi3_42 {E : zE} {x : Nat} {i v : Int32} {ls sk : List Value} {h : zH} : zrun zpp E 3 (42, ls, .int v :: .int i :: .ref x :: sk, h) = (zars 0 h x i v).bind (fun h' => zrun zpp E 3 (43, ls, sk, h')) := zg_iast rfl
theorem zi3_43 {E : zE} {x : Nat} {ls sk : List Value} {h : zH} : zrun zpp E 3 (43, .ref x :: ls, sk, h) = zrun zpp E 3 (44, .ref x :: ls, .ref x :: sk, h) := zrun_at (i := (.aload_n 0, 44, 0, [])) rfl
theorem zi3_43n {E : zE} {ls sk : List Value} {h : zH} : zrun zpp E 3 (43, .null :: ls, sk, h) = zrun zpp E 3 (44, .null :: ls, .null :: sk, h) := zrun_at (i := (.aload_n 0, 44, 0, [])) rfl
theorem zi3_44 {E : zE} {x : Nat} {ls sk : List Value} {h : zH} : zrun zpp E 3 (44, ls, .ref x :: sk, h) = (zfld [0] h x 4).bind (fun v => zrun zpp E 3 (47, ls, v :: sk, h)) := zg_getf rfl
theorem zi3_47 {E : zE} {x : Nat} {ls sk : List Value} {h : zH} : zrun zpp E 3 (47, .ref x :: ls, sk, h) = zrun zpp E 3 (48, .ref x :: ls, .ref x :: sk, h) := zrun_at (i := (.aload_n 0, 48, 0, [])) rfl
theorem zi3_47n {E : zE} {ls sk : List Value} {h : zH} : zrun zpp E 3 (47, .null :: ls, sk, h) = zrun zpp E 3 (48, .null :: ls, .null :: sk, h) := zrun_at (i := (.aload_n 0, 48, 0, [])) rfl
theorem zi3_48 {E : zE} {x : Nat} {ls sk : List Value} {h : zH} : zrun zpp E 3 (48, ls, .ref x :: sk, h) = (zfld [0] h x 5).bind (fun v => zrun zpp E 3 (51, ls, v :: sk, h)) := zg_getf rfl
theorem zi3_51 {E : zE} {v0 v1 v2 v3 : Value} {x : Int32} {ls sk : List Value} {h : zH} : zrun zpp E 3 (51, v0 :: v1 :: v2 :: v3 :: .int x :: ls, sk, h) = zrun zpp E 3 (53, v0 :: v1 :: v2 :: v3 :: .int x :: ls, .int x :: sk, h) := zrun_at (i := (.iload 4, 53, 0, [])) rfl
theorem zi3_53 {E : zE} {x : Nat} {i v : Int32} {ls sk : List Value} {h : zH} : zrun zpp E 3 (53, ls, .int v :: .int i :: .ref x :: sk, h) = (zars 0 h x i v).bind (fun h' => zrun zpp E 3 (54, ls, sk, h')) := zg_iast rfl
theorem zi3_54 {E : zE} {x : Nat} {ls sk : List Value} {h : zH} : zrun zpp E 3 (54, .ref x :: ls, sk, h) = zrun zpp E 3 (55, .ref x :: ls, .ref x :: sk, h) := zrun_at (i := (.aload_n 0, 55, 0, [])) rfl
theorem zi3_54n {E : zE} {ls sk : List Value} {h : zH} : zrun zpp E 3 (54, .null :: ls, sk, h) = zrun zpp E 3 (55, .null :: ls, .null :: sk, h) := zrun_at (i := (.aload_n 0, 55, 0, [])) rfl
theorem zi3_55 {E : zE} {x : Nat} {ls sk : List Value} {h : zH} : zrun zpp E 3 (55, ls, .ref x :: sk, h) = zrun zpp E 3 (56, ls, .ref x :: .ref x :: sk, h) := zrun_at (i := (.dup, 56, 0, [])) rfl
theorem zi3_55i {E : zE} {x : Int32} {ls sk : List Value} {h : zH} : zrun zpp E 3 (55, ls, .int x :: sk, h) = zrun zpp E 3 (56, ls, .int x :: .int x :: sk, h) := zrun_at (i := (.dup, 56, 0, [])) rfl
theorem zi3_56 {E : zE} {x : Nat} {ls sk : List Value} {h : zH} : zrun zpp E 3 (56, ls, .ref x :: sk, h) = (zfld [0] h x 5).bind (fun v => zrun zpp E 3 (59, ls, v :: sk, h)) := zg_getf rfl
theorem zi3_59 {E : zE} {ls sk : List Value} {h : zH} : zrun zpp E 3 (59, ls, sk, h) = zrun zpp E 3 (60, ls, .int 1 :: sk, h) := zg_iconst rfl ci_1
theorem zi3_60 {E : zE} {x y : Int32} {ls sk : List Value} {h : zH} : zrun zpp E 3 (60, ls, .int y :: .int x :: sk, h) = zrun zpp E 3 (61, ls, .int (x + y) :: sk, h) := zrun_at (i := (.iadd, 61, 0, [])) rfl
theorem zi3_61 {E : zE} {x : Nat} {v : Value} {ls sk : List Value} {h : zH} : zrun zpp E 3 (61, ls, v :: .ref x :: sk, h) = (zstf [0] 0 h x 5 v).bind (fun h' => zrun zpp E 3 (64, ls, sk, h')) := zg_putf rfl
theorem zi3_64 {E : zE} {ls sk : List Value} {h : zH} : zrun zpp E 3 (64, ls, [], h) = some (none, h) := zrun_at (i := (.return_, 65, 0, [])) rfl
-- 4 NineDown$Acts.keepGap
theorem zi4_0 {E : zE} {x : Nat} {ls sk : List Value} {h : zH} : zrun zpp E 4 (0, .ref x :: ls, sk, h) = zrun zpp E 4 (1, .ref x :: ls, .ref x :: sk, h) := zrun_at (i := (.aload_n 0, 1, 0, [])) rfl
theorem zi4_0n {E : zE} {ls sk : List Value} {h : zH} : zrun zpp E 4 (0, .null :: ls, sk, h) = zrun zpp E 4 (1, .null :: ls, .null :: sk, h) := zrun_at (i := (.aload_n 0, 1, 0, [])) rfl
theorem zi4_1 {E : zE} {ls sk : List Value} {h : zH} : zrun zpp E 4 (1, ls, sk, h) = zrun zpp E 4 (2, ls, .int 3 :: sk, h) := zg_iconst rfl ci_3
theorem zi4_2 {E : zE} {v0 : Value} {x : Int32} {ls sk : List Value} {h : zH} : zrun zpp E 4 (2, v0 :: .int x :: ls, sk, h) = zrun zpp E 4 (3, v0 :: .int x :: ls, .int x :: sk, h) := zrun_at (i := (.iload_n 1, 3, 0, [])) rfl
theorem zi4_3 {E : zE} {ls sk : List Value} {h : zH} : zrun zpp E 4 (3, ls, sk, h) = zrun zpp E 4 (4, ls, .int 0 :: sk, h) := zg_iconst rfl ci_0
theorem zi4_4 {E : zE} {ls sk : List Value} {h : zH} : zrun zpp E 4 (4, ls, sk, h) = zrun zpp E 4 (5, ls, .int 0 :: sk, h) := zg_iconst rfl ci_0
theorem zi4_5 {E : zE} {a0 a1 a2 a3 : Value} {x : Nat} {ls sk : List Value} {h : zH} : zrun zpp E 4 (5, ls, a3 :: a2 :: a1 :: a0 :: .ref x :: sk, h) = (zcls h x).bind (fun d => (zsel d [0, 3]).bind (fun M' => zcl1 E 4 8 M' ls sk [.ref x, a0, a1, a2, a3] h)) := zg_vir (as := [a0, a1, a2, a3]) rfl rfl
theorem zi4_8 {E : zE} {x : Nat} {ls sk : List Value} {h : zH} : zrun zpp E 4 (8, .ref x :: ls, sk, h) = zrun zpp E 4 (9, .ref x :: ls, .ref x :: sk, h) := zrun_at (i := (.aload_n 0, 9, 0, [])) rfl
theorem zi4_8n {E : zE} {ls sk : List Value} {h : zH} : zrun zpp E 4 (8, .null :: ls, sk, h) = zrun zpp E 4 (9, .null :: ls, .null :: sk, h) := zrun_at (i := (.aload_n 0, 9, 0, [])) rfl
theorem zi4_9 {E : zE} {x : Nat} {ls sk : List Value} {h : zH} : zrun zpp E 4 (9, ls, .ref x :: sk, h) = (zfld [0] h x 2).bind (fun v => zrun zpp E 4 (12, ls, v :: sk, h)) := zg_getf rfl
theorem zi4_12 {E : zE} {x : Nat} {ls sk : List Value} {h : zH} : zrun zpp E 4 (12, .ref x :: ls, sk, h) = zrun zpp E 4 (13, .ref x :: ls, .ref x :: sk, h) := zrun_at (i := (.aload_n 0, 13, 0, [])) rfl
theorem zi4_12n {E : zE} {ls sk : List Value} {h : zH} : zrun zpp E 4 (12, .null :: ls, sk, h) = zrun zpp E 4 (13, .null :: ls, .null :: sk, h) := zrun_at (i := (.aload_n 0, 13, 0, [])) rfl
theorem zi4_13 {E : zE} {x : Nat} {ls sk : List Value} {h : zH} : zrun zpp E 4 (13, ls, .ref x :: sk, h) = (zfld [0] h x 5).bind (fun v => zrun zpp E 4 (16, ls, v :: sk, h)) := zg_getf rfl
theorem zi4_16 {E : zE} {ls sk : List Value} {h : zH} : zrun zpp E 4 (16, ls, sk, h) = zrun zpp E 4 (17, ls, .int 1 :: sk, h) := zg_iconst rfl ci_1
theorem zi4_17 {E : zE} {x y : Int32} {ls sk : List Value} {h : zH} : zrun zpp E 4 (17, ls, .int y :: .int x :: sk, h) = zrun zpp E 4 (18, ls, .int (x - y) :: sk, h) := zrun_at (i := (.isub, 18, 0, [])) rfl
theorem zi4_18 {E : zE} {v0 v1 : Value} {x : Int32} {ls sk : List Value} {h : zH} : zrun zpp E 4 (18, v0 :: v1 :: .int x :: ls, sk, h) = zrun zpp E 4 (19, v0 :: v1 :: .int x :: ls, .int x :: sk, h) := zrun_at (i := (.iload_n 2, 19, 0, [])) rfl
theorem zi4_19 {E : zE} {x : Nat} {i v : Int32} {ls sk : List Value} {h : zH} : zrun zpp E 4 (19, ls, .int v :: .int i :: .ref x :: sk, h) = (zars 0 h x i v).bind (fun h' => zrun zpp E 4 (20, ls, sk, h')) := zg_iast rfl
theorem zi4_20 {E : zE} {ls sk : List Value} {h : zH} : zrun zpp E 4 (20, ls, [], h) = some (none, h) := zrun_at (i := (.return_, 21, 0, [])) rfl
-- 5 NineDown$Acts.forgetOldest
theorem zi5_0 {E : zE} {x : Nat} {ls sk : List Value} {h : zH} : zrun zpp E 5 (0, .ref x :: ls, sk, h) = zrun zpp E 5 (1, .ref x :: ls, .ref x :: sk, h) := zrun_at (i := (.aload_n 0, 1, 0, [])) rfl
theorem zi5_0n {E : zE} {ls sk : List Value} {h : zH} : zrun zpp E 5 (0, .null :: ls, sk, h) = zrun zpp E 5 (1, .null :: ls, .null :: sk, h) := zrun_at (i := (.aload_n 0, 1, 0, [])) rfl
theorem zi5_1 {E : zE} {ls sk : List Value} {h : zH} : zrun zpp E 5 (1, ls, sk, h) = zrun zpp E 5 (3, ls, .int 23 :: sk, h) := zg_bipush rfl ci_23
theorem zi5_3 {E : zE} {x : Nat} {v : Value} {ls sk : List Value} {h : zH} : zrun zpp E 5 (3, ls, v :: .ref x :: sk, h) = (zstf [0] 0 h x 5 v).bind (fun h' => zrun zpp E 5 (6, ls, sk, h')) := zg_putf rfl
theorem zi5_6 {E : zE} {x : Nat} {ls sk : List Value} {h : zH} : zrun zpp E 5 (6, .ref x :: ls, sk, h) = zrun zpp E 5 (7, .ref x :: ls, .ref x :: sk, h) := zrun_at (i := (.aload_n 0, 7, 0, [])) rfl
theorem zi5_6n {E : zE} {ls sk : List Value} {h : zH} : zrun zpp E 5 (6, .null :: ls, sk, h) = zrun zpp E 5 (7, .null :: ls, .null :: sk, h) := zrun_at (i := (.aload_n 0, 7, 0, [])) rfl
theorem zi5_7 {E : zE} {x : Nat} {ls sk : List Value} {h : zH} : zrun zpp E 5 (7, ls, .ref x :: sk, h) = (zfld [0] h x 0).bind (fun v => zrun zpp E 5 (10, ls, v :: sk, h)) := zg_getf rfl
theorem zi5_10 {E : zE} {ls sk : List Value} {h : zH} : zrun zpp E 5 (10, ls, sk, h) = zrun zpp E 5 (11, ls, .int 1 :: sk, h) := zg_iconst rfl ci_1
theorem zi5_11 {E : zE} {x : Nat} {ls sk : List Value} {h : zH} : zrun zpp E 5 (11, .ref x :: ls, sk, h) = zrun zpp E 5 (12, .ref x :: ls, .ref x :: sk, h) := zrun_at (i := (.aload_n 0, 12, 0, [])) rfl
theorem zi5_11n {E : zE} {ls sk : List Value} {h : zH} : zrun zpp E 5 (11, .null :: ls, sk, h) = zrun zpp E 5 (12, .null :: ls, .null :: sk, h) := zrun_at (i := (.aload_n 0, 12, 0, [])) rfl
theorem zi5_12 {E : zE} {x : Nat} {ls sk : List Value} {h : zH} : zrun zpp E 5 (12, ls, .ref x :: sk, h) = (zfld [0] h x 0).bind (fun v => zrun zpp E 5 (15, ls, v :: sk, h)) := zg_getf rfl
theorem zi5_15 {E : zE} {ls sk : List Value} {h : zH} : zrun zpp E 5 (15, ls, sk, h) = zrun zpp E 5 (16, ls, .int 0 :: sk, h) := zg_iconst rfl ci_0
theorem zi5_16 {E : zE} {x : Nat} {ls sk : List Value} {h : zH} : zrun zpp E 5 (16, .ref x :: ls, sk, h) = zrun zpp E 5 (17, .ref x :: ls, .ref x :: sk, h) := zrun_at (i := (.aload_n 0, 17, 0, [])) rfl
theorem zi5_16n {E : zE} {ls sk : List Value} {h : zH} : zrun zpp E 5 (16, .null :: ls, sk, h) = zrun zpp E 5 (17, .null :: ls, .null :: sk, h) := zrun_at (i := (.aload_n 0, 17, 0, [])) rfl
theorem zi5_17 {E : zE} {x : Nat} {ls sk : List Value} {h : zH} : zrun zpp E 5 (17, ls, .ref x :: sk, h) = (zfld [0] h x 5).bind (fun v => zrun zpp E 5 (20, ls, v :: sk, h)) := zg_getf rfl
theorem zi5_20 {E : zE} {a b : Nat} {n dp sp : Int32} {ls sk : List Value} {h : zH} : zrun zpp E 5 (20, ls, .int n :: .int dp :: .ref b :: .int sp :: .ref a :: [], h) = (zcpa h a b sp dp n).bind (fun h' => zrun zpp E 5 (23, ls, [], h')) := zg_copy rfl rfl
theorem zi5_23 {E : zE} {x : Nat} {ls sk : List Value} {h : zH} : zrun zpp E 5 (23, .ref x :: ls, sk, h) = zrun zpp E 5 (24, .ref x :: ls, .ref x :: sk, h) := zrun_at (i := (.aload_n 0, 24, 0, [])) rfl
theorem zi5_23n {E : zE} {ls sk : List Value} {h : zH} : zrun zpp E 5 (23, .null :: ls, sk, h) = zrun zpp E 5 (24, .null :: ls, .null :: sk, h) := zrun_at (i := (.aload_n 0, 24, 0, [])) rfl
theorem zi5_24 {E : zE} {x : Nat} {ls sk : List Value} {h : zH} : zrun zpp E 5 (24, ls, .ref x :: sk, h) = (zfld [0] h x 1).bind (fun v => zrun zpp E 5 (27, ls, v :: sk, h)) := zg_getf rfl
theorem zi5_27 {E : zE} {ls sk : List Value} {h : zH} : zrun zpp E 5 (27, ls, sk, h) = zrun zpp E 5 (28, ls, .int 1 :: sk, h) := zg_iconst rfl ci_1
theorem zi5_28 {E : zE} {x : Nat} {ls sk : List Value} {h : zH} : zrun zpp E 5 (28, .ref x :: ls, sk, h) = zrun zpp E 5 (29, .ref x :: ls, .ref x :: sk, h) := zrun_at (i := (.aload_n 0, 29, 0, [])) rfl
theorem zi5_28n {E : zE} {ls sk : List Value} {h : zH} : zrun zpp E 5 (28, .null :: ls, sk, h) = zrun zpp E 5 (29, .null :: ls, .null :: sk, h) := zrun_at (i := (.aload_n 0, 29, 0, [])) rfl
theorem zi5_29 {E : zE} {x : Nat} {ls sk : List Value} {h : zH} : zrun zpp E 5 (29, ls, .ref x :: sk, h) = (zfld [0] h x 1).bind (fun v => zrun zpp E 5 (32, ls, v :: sk, h)) := zg_getf rfl
theorem zi5_32 {E : zE} {ls sk : List Value} {h : zH} : zrun zpp E 5 (32, ls, sk, h) = zrun zpp E 5 (33, ls, .int 0 :: sk, h) := zg_iconst rfl ci_0
theorem zi5_33 {E : zE} {x : Nat} {ls sk : List Value} {h : zH} : zrun zpp E 5 (33, .ref x :: ls, sk, h) = zrun zpp E 5 (34, .ref x :: ls, .ref x :: sk, h) := zrun_at (i := (.aload_n 0, 34, 0, [])) rfl
theorem zi5_33n {E : zE} {ls sk : List Value} {h : zH} : zrun zpp E 5 (33, .null :: ls, sk, h) = zrun zpp E 5 (34, .null :: ls, .null :: sk, h) := zrun_at (i := (.aload_n 0, 34, 0, [])) rfl
theorem zi5_34 {E : zE} {x : Nat} {ls sk : List Value} {h : zH} : zrun zpp E 5 (34, ls, .ref x :: sk, h) = (zfld [0] h x 5).bind (fun v => zrun zpp E 5 (37, ls, v :: sk, h)) := zg_getf rfl
theorem zi5_37 {E : zE} {a b : Nat} {n dp sp : Int32} {ls sk : List Value} {h : zH} : zrun zpp E 5 (37, ls, .int n :: .int dp :: .ref b :: .int sp :: .ref a :: [], h) = (zcpa h a b sp dp n).bind (fun h' => zrun zpp E 5 (40, ls, [], h')) := zg_copy rfl rfl
theorem zi5_40 {E : zE} {x : Nat} {ls sk : List Value} {h : zH} : zrun zpp E 5 (40, .ref x :: ls, sk, h) = zrun zpp E 5 (41, .ref x :: ls, .ref x :: sk, h) := zrun_at (i := (.aload_n 0, 41, 0, [])) rfl
theorem zi5_40n {E : zE} {ls sk : List Value} {h : zH} : zrun zpp E 5 (40, .null :: ls, sk, h) = zrun zpp E 5 (41, .null :: ls, .null :: sk, h) := zrun_at (i := (.aload_n 0, 41, 0, [])) rfl
theorem zi5_41 {E : zE} {x : Nat} {ls sk : List Value} {h : zH} : zrun zpp E 5 (41, ls, .ref x :: sk, h) = (zfld [0] h x 2).bind (fun v => zrun zpp E 5 (44, ls, v :: sk, h)) := zg_getf rfl
theorem zi5_44 {E : zE} {ls sk : List Value} {h : zH} : zrun zpp E 5 (44, ls, sk, h) = zrun zpp E 5 (45, ls, .int 1 :: sk, h) := zg_iconst rfl ci_1
theorem zi5_45 {E : zE} {x : Nat} {ls sk : List Value} {h : zH} : zrun zpp E 5 (45, .ref x :: ls, sk, h) = zrun zpp E 5 (46, .ref x :: ls, .ref x :: sk, h) := zrun_at (i := (.aload_n 0, 46, 0, [])) rfl
theorem zi5_45n {E : zE} {ls sk : List Value} {h : zH} : zrun zpp E 5 (45, .null :: ls, sk, h) = zrun zpp E 5 (46, .null :: ls, .null :: sk, h) := zrun_at (i := (.aload_n 0, 46, 0, [])) rfl
theorem zi5_46 {E : zE} {x : Nat} {ls sk : List Value} {h : zH} : zrun zpp E 5 (46, ls, .ref x :: sk, h) = (zfld [0] h x 2).bind (fun v => zrun zpp E 5 (49, ls, v :: sk, h)) := zg_getf rfl
theorem zi5_49 {E : zE} {ls sk : List Value} {h : zH} : zrun zpp E 5 (49, ls, sk, h) = zrun zpp E 5 (50, ls, .int 0 :: sk, h) := zg_iconst rfl ci_0
theorem zi5_50 {E : zE} {x : Nat} {ls sk : List Value} {h : zH} : zrun zpp E 5 (50, .ref x :: ls, sk, h) = zrun zpp E 5 (51, .ref x :: ls, .ref x :: sk, h) := zrun_at (i := (.aload_n 0, 51, 0, [])) rfl
theorem zi5_50n {E : zE} {ls sk : List Value} {h : zH} : zrun zpp E 5 (50, .null :: ls, sk, h) = zrun zpp E 5 (51, .null :: ls, .null :: sk, h) := zrun_at (i := (.aload_n 0, 51, 0, [])) rfl
theorem zi5_51 {E : zE} {x : Nat} {ls sk : List Value} {h : zH} : zrun zpp E 5 (51, ls, .ref x :: sk, h) = (zfld [0] h x 5).bind (fun v => zrun zpp E 5 (54, ls, v :: sk, h)) := zg_getf rfl
theorem zi5_54 {E : zE} {a b : Nat} {n dp sp : Int32} {ls sk : List Value} {h : zH} : zrun zpp E 5 (54, ls, .int n :: .int dp :: .ref b :: .int sp :: .ref a :: [], h) = (zcpa h a b sp dp n).bind (fun h' => zrun zpp E 5 (57, ls, [], h')) := zg_copy rfl rfl
theorem zi5_57 {E : zE} {x : Nat} {ls sk : List Value} {h : zH} : zrun zpp E 5 (57, .ref x :: ls, sk, h) = zrun zpp E 5 (58, .ref x :: ls, .ref x :: sk, h) := zrun_at (i := (.aload_n 0, 58, 0, [])) rfl
theorem zi5_57n {E : zE} {ls sk : List Value} {h : zH} : zrun zpp E 5 (57, .null :: ls, sk, h) = zrun zpp E 5 (58, .null :: ls, .null :: sk, h) := zrun_at (i := (.aload_n 0, 58, 0, [])) rfl
theorem zi5_58 {E : zE} {x : Nat} {ls sk : List Value} {h : zH} : zrun zpp E 5 (58, ls, .ref x :: sk, h) = (zfld [0] h x 3).bind (fun v => zrun zpp E 5 (61, ls, v :: sk, h)) := zg_getf rfl
theorem zi5_61 {E : zE} {ls sk : List Value} {h : zH} : zrun zpp E 5 (61, ls, sk, h) = zrun zpp E 5 (62, ls, .int 1 :: sk, h) := zg_iconst rfl ci_1
theorem zi5_62 {E : zE} {x : Nat} {ls sk : List Value} {h : zH} : zrun zpp E 5 (62, .ref x :: ls, sk, h) = zrun zpp E 5 (63, .ref x :: ls, .ref x :: sk, h) := zrun_at (i := (.aload_n 0, 63, 0, [])) rfl
theorem zi5_62n {E : zE} {ls sk : List Value} {h : zH} : zrun zpp E 5 (62, .null :: ls, sk, h) = zrun zpp E 5 (63, .null :: ls, .null :: sk, h) := zrun_at (i := (.aload_n 0, 63, 0, [])) rfl
theorem zi5_63 {E : zE} {x : Nat} {ls sk : List Value} {h : zH} : zrun zpp E 5 (63, ls, .ref x :: sk, h) = (zfld [0] h x 3).bind (fun v => zrun zpp E 5 (66, ls, v :: sk, h)) := zg_getf rfl
theorem zi5_66 {E : zE} {ls sk : List Value} {h : zH} : zrun zpp E 5 (66, ls, sk, h) = zrun zpp E 5 (67, ls, .int 0 :: sk, h) := zg_iconst rfl ci_0
theorem zi5_67 {E : zE} {x : Nat} {ls sk : List Value} {h : zH} : zrun zpp E 5 (67, .ref x :: ls, sk, h) = zrun zpp E 5 (68, .ref x :: ls, .ref x :: sk, h) := zrun_at (i := (.aload_n 0, 68, 0, [])) rfl
theorem zi5_67n {E : zE} {ls sk : List Value} {h : zH} : zrun zpp E 5 (67, .null :: ls, sk, h) = zrun zpp E 5 (68, .null :: ls, .null :: sk, h) := zrun_at (i := (.aload_n 0, 68, 0, [])) rfl
theorem zi5_68 {E : zE} {x : Nat} {ls sk : List Value} {h : zH} : zrun zpp E 5 (68, ls, .ref x :: sk, h) = (zfld [0] h x 5).bind (fun v => zrun zpp E 5 (71, ls, v :: sk, h)) := zg_getf rfl
theorem zi5_71 {E : zE} {a b : Nat} {n dp sp : Int32} {ls sk : List Value} {h : zH} : zrun zpp E 5 (71, ls, .int n :: .int dp :: .ref b :: .int sp :: .ref a :: [], h) = (zcpa h a b sp dp n).bind (fun h' => zrun zpp E 5 (74, ls, [], h')) := zg_copy rfl rfl
theorem zi5_74 {E : zE} {x : Nat} {ls sk : List Value} {h : zH} : zrun zpp E 5 (74, .ref x :: ls, sk, h) = zrun zpp E 5 (75, .ref x :: ls, .ref x :: sk, h) := zrun_at (i := (.aload_n 0, 75, 0, [])) rfl
theorem zi5_74n {E : zE} {ls sk : List Value} {h : zH} : zrun zpp E 5 (74, .null :: ls, sk, h) = zrun zpp E 5 (75, .null :: ls, .null :: sk, h) := zrun_at (i := (.aload_n 0, 75, 0, [])) rfl
theorem zi5_75 {E : zE} {x : Nat} {ls sk : List Value} {h : zH} : zrun zpp E 5 (75, ls, .ref x :: sk, h) = (zfld [0] h x 4).bind (fun v => zrun zpp E 5 (78, ls, v :: sk, h)) := zg_getf rfl
theorem zi5_78 {E : zE} {ls sk : List Value} {h : zH} : zrun zpp E 5 (78, ls, sk, h) = zrun zpp E 5 (79, ls, .int 1 :: sk, h) := zg_iconst rfl ci_1
theorem zi5_79 {E : zE} {x : Nat} {ls sk : List Value} {h : zH} : zrun zpp E 5 (79, .ref x :: ls, sk, h) = zrun zpp E 5 (80, .ref x :: ls, .ref x :: sk, h) := zrun_at (i := (.aload_n 0, 80, 0, [])) rfl
theorem zi5_79n {E : zE} {ls sk : List Value} {h : zH} : zrun zpp E 5 (79, .null :: ls, sk, h) = zrun zpp E 5 (80, .null :: ls, .null :: sk, h) := zrun_at (i := (.aload_n 0, 80, 0, [])) rfl
theorem zi5_80 {E : zE} {x : Nat} {ls sk : List Value} {h : zH} : zrun zpp E 5 (80, ls, .ref x :: sk, h) = (zfld [0] h x 4).bind (fun v => zrun zpp E 5 (83, ls, v :: sk, h)) := zg_getf rfl
theorem zi5_83 {E : zE} {ls sk : List Value} {h : zH} : zrun zpp E 5 (83, ls, sk, h) = zrun zpp E 5 (84, ls, .int 0 :: sk, h) := zg_iconst rfl ci_0
theorem zi5_84 {E : zE} {x : Nat} {ls sk : List Value} {h : zH} : zrun zpp E 5 (84, .ref x :: ls, sk, h) = zrun zpp E 5 (85, .ref x :: ls, .ref x :: sk, h) := zrun_at (i := (.aload_n 0, 85, 0, [])) rfl
theorem zi5_84n {E : zE} {ls sk : List Value} {h : zH} : zrun zpp E 5 (84, .null :: ls, sk, h) = zrun zpp E 5 (85, .null :: ls, .null :: sk, h) := zrun_at (i := (.aload_n 0, 85, 0, [])) rfl
theorem zi5_85 {E : zE} {x : Nat} {ls sk : List Value} {h : zH} : zrun zpp E 5 (85, ls, .ref x :: sk, h) = (zfld [0] h x 5).bind (fun v => zrun zpp E 5 (88, ls, v :: sk, h)) := zg_getf rfl
theorem zi5_88 {E : zE} {a b : Nat} {n dp sp : Int32} {ls sk : List Value} {h : zH} : zrun zpp E 5 (88, ls, .int n :: .int dp :: .ref b :: .int sp :: .ref a :: [], h) = (zcpa h a b sp dp n).bind (fun h' => zrun zpp E 5 (91, ls, [], h')) := zg_copy rfl rfl
theorem zi5_91 {E : zE} {ls sk : List Value} {h : zH} : zrun zpp E 5 (91, ls, [], h) = some (none, h) := zrun_at (i := (.return_, 92, 0, [])) rfl
-- 6 NineDown$Acts.takesBack
theorem zi6_0 {E : zE} {x : Nat} {ls sk : List Value} {h : zH} : zrun zpp E 6 (0, .ref x :: ls, sk, h) = zrun zpp E 6 (1, .ref x :: ls, .ref x :: sk, h) := zrun_at (i := (.aload_n 0, 1, 0, [])) rfl
theorem zi6_0n {E : zE} {ls sk : List Value} {h : zH} : zrun zpp E 6 (0, .null :: ls, sk, h) = zrun zpp E 6 (1, .null :: ls, .null :: sk, h) := zrun_at (i := (.aload_n 0, 1, 0, [])) rfl
theorem zi6_1 {E : zE} {x : Nat} {ls sk : List Value} {h : zH} : zrun zpp E 6 (1, ls, .ref x :: sk, h) = (zfld [0] h x 5).bind (fun v => zrun zpp E 6 (4, ls, v :: sk, h)) := zg_getf rfl
theorem zi6_4 {E : zE} {x : Int32} {ls sk : List Value} {h : zH} : zrun zpp E 6 (4, ls, .int x :: sk, h) = if 0 < x then zrun zpp E 6 (9, ls, sk, h) else zrun zpp E 6 (7, ls, sk, h) := zrun_at (i := (.ifCond .gt 5, 7, 0, [9])) rfl
theorem zi6_7 {E : zE} {ls sk : List Value} {h : zH} : zrun zpp E 6 (7, ls, sk, h) = zrun zpp E 6 (8, ls, .int 0 :: sk, h) := zg_iconst rfl ci_0
theorem zi6_8 {E : zE} {x : Int32} {ls sk : List Value} {h : zH} : zrun zpp E 6 (8, ls, [.int x], h) = if x = 0 then some (some (.int 0), h) else if x = 1 then some (some (.int 1), h) else none := zrun_at (i := (.ireturn, 9, 1, [])) rfl
theorem zi6_9 {E : zE} {x : Nat} {ls sk : List Value} {h : zH} : zrun zpp E 6 (9, .ref x :: ls, sk, h) = zrun zpp E 6 (10, .ref x :: ls, .ref x :: sk, h) := zrun_at (i := (.aload_n 0, 10, 0, [])) rfl
theorem zi6_9n {E : zE} {ls sk : List Value} {h : zH} : zrun zpp E 6 (9, .null :: ls, sk, h) = zrun zpp E 6 (10, .null :: ls, .null :: sk, h) := zrun_at (i := (.aload_n 0, 10, 0, [])) rfl
theorem zi6_10 {E : zE} {x : Nat} {ls sk : List Value} {h : zH} : zrun zpp E 6 (10, ls, .ref x :: sk, h) = zrun zpp E 6 (11, ls, .ref x :: .ref x :: sk, h) := zrun_at (i := (.dup, 11, 0, [])) rfl
theorem zi6_10i {E : zE} {x : Int32} {ls sk : List Value} {h : zH} : zrun zpp E 6 (10, ls, .int x :: sk, h) = zrun zpp E 6 (11, ls, .int x :: .int x :: sk, h) := zrun_at (i := (.dup, 11, 0, [])) rfl
theorem zi6_11 {E : zE} {x : Nat} {ls sk : List Value} {h : zH} : zrun zpp E 6 (11, ls, .ref x :: sk, h) = (zfld [0] h x 5).bind (fun v => zrun zpp E 6 (14, ls, v :: sk, h)) := zg_getf rfl
theorem zi6_14 {E : zE} {ls sk : List Value} {h : zH} : zrun zpp E 6 (14, ls, sk, h) = zrun zpp E 6 (15, ls, .int 1 :: sk, h) := zg_iconst rfl ci_1
theorem zi6_15 {E : zE} {x y : Int32} {ls sk : List Value} {h : zH} : zrun zpp E 6 (15, ls, .int y :: .int x :: sk, h) = zrun zpp E 6 (16, ls, .int (x - y) :: sk, h) := zrun_at (i := (.isub, 16, 0, [])) rfl
theorem zi6_16 {E : zE} {x : Nat} {v : Value} {ls sk : List Value} {h : zH} : zrun zpp E 6 (16, ls, v :: .ref x :: sk, h) = (zstf [0] 0 h x 5 v).bind (fun h' => zrun zpp E 6 (19, ls, sk, h')) := zg_putf rfl
theorem zi6_19 {E : zE} {v0 : Value} {x : Nat} {ls sk : List Value} {h : zH} : zrun zpp E 6 (19, v0 :: .ref x :: ls, sk, h) = zrun zpp E 6 (20, v0 :: .ref x :: ls, .ref x :: sk, h) := zrun_at (i := (.aload_n 1, 20, 0, [])) rfl
theorem zi6_19n {E : zE} {v0 : Value} {ls sk : List Value} {h : zH} : zrun zpp E 6 (19, v0 :: .null :: ls, sk, h) = zrun zpp E 6 (20, v0 :: .null :: ls, .null :: sk, h) := zrun_at (i := (.aload_n 1, 20, 0, [])) rfl
theorem zi6_20 {E : zE} {x : Nat} {ls sk : List Value} {h : zH} : zrun zpp E 6 (20, ls, .ref x :: sk, h) = zrun zpp E 6 (21, ls, .ref x :: .ref x :: sk, h) := zrun_at (i := (.dup, 21, 0, [])) rfl
theorem zi6_20i {E : zE} {x : Int32} {ls sk : List Value} {h : zH} : zrun zpp E 6 (20, ls, .int x :: sk, h) = zrun zpp E 6 (21, ls, .int x :: .int x :: sk, h) := zrun_at (i := (.dup, 21, 0, [])) rfl
theorem zi6_21 {E : zE} {x : Nat} {ls sk : List Value} {h : zH} : zrun zpp E 6 (21, ls, .ref x :: sk, h) = (zfld [9] h x 16).bind (fun v => zrun zpp E 6 (24, ls, v :: sk, h)) := zg_getf rfl
theorem zi6_24 {E : zE} {x : Nat} {ls sk : List Value} {h : zH} : zrun zpp E 6 (24, .ref x :: ls, sk, h) = zrun zpp E 6 (25, .ref x :: ls, .ref x :: sk, h) := zrun_at (i := (.aload_n 0, 25, 0, [])) rfl
theorem zi6_24n {E : zE} {ls sk : List Value} {h : zH} : zrun zpp E 6 (24, .null :: ls, sk, h) = zrun zpp E 6 (25, .null :: ls, .null :: sk, h) := zrun_at (i := (.aload_n 0, 25, 0, [])) rfl
theorem zi6_25 {E : zE} {x : Nat} {ls sk : List Value} {h : zH} : zrun zpp E 6 (25, ls, .ref x :: sk, h) = (zfld [0] h x 3).bind (fun v => zrun zpp E 6 (28, ls, v :: sk, h)) := zg_getf rfl
theorem zi6_28 {E : zE} {x : Nat} {ls sk : List Value} {h : zH} : zrun zpp E 6 (28, .ref x :: ls, sk, h) = zrun zpp E 6 (29, .ref x :: ls, .ref x :: sk, h) := zrun_at (i := (.aload_n 0, 29, 0, [])) rfl
theorem zi6_28n {E : zE} {ls sk : List Value} {h : zH} : zrun zpp E 6 (28, .null :: ls, sk, h) = zrun zpp E 6 (29, .null :: ls, .null :: sk, h) := zrun_at (i := (.aload_n 0, 29, 0, [])) rfl
theorem zi6_29 {E : zE} {x : Nat} {ls sk : List Value} {h : zH} : zrun zpp E 6 (29, ls, .ref x :: sk, h) = (zfld [0] h x 5).bind (fun v => zrun zpp E 6 (32, ls, v :: sk, h)) := zg_getf rfl
theorem zi6_32 {E : zE} {x : Nat} {i : Int32} {ls sk : List Value} {h : zH} : zrun zpp E 6 (32, ls, .int i :: .ref x :: sk, h) = (zarr 0 h x i).bind (fun v => zrun zpp E 6 (33, ls, .int v :: sk, h)) := zg_iald rfl
theorem zi6_33 {E : zE} {x y : Int32} {ls sk : List Value} {h : zH} : zrun zpp E 6 (33, ls, .int y :: .int x :: sk, h) = zrun zpp E 6 (34, ls, .int (x - y) :: sk, h) := zrun_at (i := (.isub, 34, 0, [])) rfl
theorem zi6_34 {E : zE} {x : Nat} {v : Value} {ls sk : List Value} {h : zH} : zrun zpp E 6 (34, ls, v :: .ref x :: sk, h) = (zstf [9] 0 h x 16 v).bind (fun h' => zrun zpp E 6 (37, ls, sk, h')) := zg_putf rfl
theorem zi6_37 {E : zE} {v0 : Value} {x : Nat} {ls sk : List Value} {h : zH} : zrun zpp E 6 (37, v0 :: .ref x :: ls, sk, h) = zrun zpp E 6 (38, v0 :: .ref x :: ls, .ref x :: sk, h) := zrun_at (i := (.aload_n 1, 38, 0, [])) rfl
theorem zi6_37n {E : zE} {v0 : Value} {ls sk : List Value} {h : zH} : zrun zpp E 6 (37, v0 :: .null :: ls, sk, h) = zrun zpp E 6 (38, v0 :: .null :: ls, .null :: sk, h) := zrun_at (i := (.aload_n 1, 38, 0, [])) rfl
theorem zi6_38 {E : zE} {x : Nat} {ls sk : List Value} {h : zH} : zrun zpp E 6 (38, ls, .ref x :: sk, h) = zrun zpp E 6 (39, ls, .ref x :: .ref x :: sk, h) := zrun_at (i := (.dup, 39, 0, [])) rfl
theorem zi6_38i {E : zE} {x : Int32} {ls sk : List Value} {h : zH} : zrun zpp E 6 (38, ls, .int x :: sk, h) = zrun zpp E 6 (39, ls, .int x :: .int x :: sk, h) := zrun_at (i := (.dup, 39, 0, [])) rfl
theorem zi6_39 {E : zE} {x : Nat} {ls sk : List Value} {h : zH} : zrun zpp E 6 (39, ls, .ref x :: sk, h) = (zfld [9] h x 17).bind (fun v => zrun zpp E 6 (42, ls, v :: sk, h)) := zg_getf rfl
theorem zi6_42 {E : zE} {x : Nat} {ls sk : List Value} {h : zH} : zrun zpp E 6 (42, .ref x :: ls, sk, h) = zrun zpp E 6 (43, .ref x :: ls, .ref x :: sk, h) := zrun_at (i := (.aload_n 0, 43, 0, [])) rfl
theorem zi6_42n {E : zE} {ls sk : List Value} {h : zH} : zrun zpp E 6 (42, .null :: ls, sk, h) = zrun zpp E 6 (43, .null :: ls, .null :: sk, h) := zrun_at (i := (.aload_n 0, 43, 0, [])) rfl
theorem zi6_43 {E : zE} {x : Nat} {ls sk : List Value} {h : zH} : zrun zpp E 6 (43, ls, .ref x :: sk, h) = (zfld [0] h x 4).bind (fun v => zrun zpp E 6 (46, ls, v :: sk, h)) := zg_getf rfl
theorem zi6_46 {E : zE} {x : Nat} {ls sk : List Value} {h : zH} : zrun zpp E 6 (46, .ref x :: ls, sk, h) = zrun zpp E 6 (47, .ref x :: ls, .ref x :: sk, h) := zrun_at (i := (.aload_n 0, 47, 0, [])) rfl
theorem zi6_46n {E : zE} {ls sk : List Value} {h : zH} : zrun zpp E 6 (46, .null :: ls, sk, h) = zrun zpp E 6 (47, .null :: ls, .null :: sk, h) := zrun_at (i := (.aload_n 0, 47, 0, [])) rfl
theorem zi6_47 {E : zE} {x : Nat} {ls sk : List Value} {h : zH} : zrun zpp E 6 (47, ls, .ref x :: sk, h) = (zfld [0] h x 5).bind (fun v => zrun zpp E 6 (50, ls, v :: sk, h)) := zg_getf rfl
theorem zi6_50 {E : zE} {x : Nat} {i : Int32} {ls sk : List Value} {h : zH} : zrun zpp E 6 (50, ls, .int i :: .ref x :: sk, h) = (zarr 0 h x i).bind (fun v => zrun zpp E 6 (51, ls, .int v :: sk, h)) := zg_iald rfl
theorem zi6_51 {E : zE} {x y : Int32} {ls sk : List Value} {h : zH} : zrun zpp E 6 (51, ls, .int y :: .int x :: sk, h) = zrun zpp E 6 (52, ls, .int (x - y) :: sk, h) := zrun_at (i := (.isub, 52, 0, [])) rfl
theorem zi6_52 {E : zE} {x : Nat} {v : Value} {ls sk : List Value} {h : zH} : zrun zpp E 6 (52, ls, v :: .ref x :: sk, h) = (zstf [9] 0 h x 17 v).bind (fun h' => zrun zpp E 6 (55, ls, sk, h')) := zg_putf rfl
theorem zi6_55 {E : zE} {x : Nat} {ls sk : List Value} {h : zH} : zrun zpp E 6 (55, .ref x :: ls, sk, h) = zrun zpp E 6 (56, .ref x :: ls, .ref x :: sk, h) := zrun_at (i := (.aload_n 0, 56, 0, [])) rfl
theorem zi6_55n {E : zE} {ls sk : List Value} {h : zH} : zrun zpp E 6 (55, .null :: ls, sk, h) = zrun zpp E 6 (56, .null :: ls, .null :: sk, h) := zrun_at (i := (.aload_n 0, 56, 0, [])) rfl
theorem zi6_56 {E : zE} {x : Nat} {ls sk : List Value} {h : zH} : zrun zpp E 6 (56, ls, .ref x :: sk, h) = (zfld [0] h x 0).bind (fun v => zrun zpp E 6 (59, ls, v :: sk, h)) := zg_getf rfl
theorem zi6_59 {E : zE} {x : Nat} {ls sk : List Value} {h : zH} : zrun zpp E 6 (59, .ref x :: ls, sk, h) = zrun zpp E 6 (60, .ref x :: ls, .ref x :: sk, h) := zrun_at (i := (.aload_n 0, 60, 0, [])) rfl
theorem zi6_59n {E : zE} {ls sk : List Value} {h : zH} : zrun zpp E 6 (59, .null :: ls, sk, h) = zrun zpp E 6 (60, .null :: ls, .null :: sk, h) := zrun_at (i := (.aload_n 0, 60, 0, [])) rfl
theorem zi6_60 {E : zE} {x : Nat} {ls sk : List Value} {h : zH} : zrun zpp E 6 (60, ls, .ref x :: sk, h) = (zfld [0] h x 5).bind (fun v => zrun zpp E 6 (63, ls, v :: sk, h)) := zg_getf rfl
theorem zi6_63 {E : zE} {x : Nat} {i : Int32} {ls sk : List Value} {h : zH} : zrun zpp E 6 (63, ls, .int i :: .ref x :: sk, h) = (zarr 0 h x i).bind (fun v => zrun zpp E 6 (64, ls, .int v :: sk, h)) := zg_iald rfl
theorem zi6_64 {E : zE} {x : Int32} {ls sk : List Value} {h : zH} : zrun zpp E 6 (64, ls, .int x :: sk, h) = zsw x 131 (fun t => zrun zpp E 6 (t, ls, sk, h)) [(0, 92), (1, 115), (2, 92)] := (zg_tsw rfl).trans (congrArg (zsw x 131 _) (by decide +kernel))
theorem zi6_92 {E : zE} {v0 : Value} {x : Nat} {ls sk : List Value} {h : zH} : zrun zpp E 6 (92, v0 :: .ref x :: ls, sk, h) = zrun zpp E 6 (93, v0 :: .ref x :: ls, .ref x :: sk, h) := zrun_at (i := (.aload_n 1, 93, 0, [])) rfl
theorem zi6_92n {E : zE} {v0 : Value} {ls sk : List Value} {h : zH} : zrun zpp E 6 (92, v0 :: .null :: ls, sk, h) = zrun zpp E 6 (93, v0 :: .null :: ls, .null :: sk, h) := zrun_at (i := (.aload_n 1, 93, 0, [])) rfl
theorem zi6_93 {E : zE} {x : Nat} {ls sk : List Value} {h : zH} : zrun zpp E 6 (93, ls, .ref x :: sk, h) = zrun zpp E 6 (94, ls, .ref x :: .ref x :: sk, h) := zrun_at (i := (.dup, 94, 0, [])) rfl
theorem zi6_93i {E : zE} {x : Int32} {ls sk : List Value} {h : zH} : zrun zpp E 6 (93, ls, .int x :: sk, h) = zrun zpp E 6 (94, ls, .int x :: .int x :: sk, h) := zrun_at (i := (.dup, 94, 0, [])) rfl
theorem zi6_94 {E : zE} {x : Nat} {ls sk : List Value} {h : zH} : zrun zpp E 6 (94, ls, .ref x :: sk, h) = (zfld [9] h x 15).bind (fun v => zrun zpp E 6 (97, ls, v :: sk, h)) := zg_getf rfl
theorem zi6_97 {E : zE} {ls sk : List Value} {h : zH} : zrun zpp E 6 (97, ls, sk, h) = zrun zpp E 6 (98, ls, .int 1 :: sk, h) := zg_iconst rfl ci_1
theorem zi6_98 {E : zE} {x : Nat} {ls sk : List Value} {h : zH} : zrun zpp E 6 (98, .ref x :: ls, sk, h) = zrun zpp E 6 (99, .ref x :: ls, .ref x :: sk, h) := zrun_at (i := (.aload_n 0, 99, 0, [])) rfl
theorem zi6_98n {E : zE} {ls sk : List Value} {h : zH} : zrun zpp E 6 (98, .null :: ls, sk, h) = zrun zpp E 6 (99, .null :: ls, .null :: sk, h) := zrun_at (i := (.aload_n 0, 99, 0, [])) rfl
theorem zi6_99 {E : zE} {x : Nat} {ls sk : List Value} {h : zH} : zrun zpp E 6 (99, ls, .ref x :: sk, h) = (zfld [0] h x 1).bind (fun v => zrun zpp E 6 (102, ls, v :: sk, h)) := zg_getf rfl
theorem zi6_102 {E : zE} {x : Nat} {ls sk : List Value} {h : zH} : zrun zpp E 6 (102, .ref x :: ls, sk, h) = zrun zpp E 6 (103, .ref x :: ls, .ref x :: sk, h) := zrun_at (i := (.aload_n 0, 103, 0, [])) rfl
theorem zi6_102n {E : zE} {ls sk : List Value} {h : zH} : zrun zpp E 6 (102, .null :: ls, sk, h) = zrun zpp E 6 (103, .null :: ls, .null :: sk, h) := zrun_at (i := (.aload_n 0, 103, 0, [])) rfl
theorem zi6_103 {E : zE} {x : Nat} {ls sk : List Value} {h : zH} : zrun zpp E 6 (103, ls, .ref x :: sk, h) = (zfld [0] h x 5).bind (fun v => zrun zpp E 6 (106, ls, v :: sk, h)) := zg_getf rfl
theorem zi6_106 {E : zE} {x : Nat} {i : Int32} {ls sk : List Value} {h : zH} : zrun zpp E 6 (106, ls, .int i :: .ref x :: sk, h) = (zarr 0 h x i).bind (fun v => zrun zpp E 6 (107, ls, .int v :: sk, h)) := zg_iald rfl
theorem zi6_107 {E : zE} {x y : Int32} {ls sk : List Value} {h : zH} : zrun zpp E 6 (107, ls, .int y :: .int x :: sk, h) = zrun zpp E 6 (108, ls, .int (x <<< (y &&& 31)) :: sk, h) := zrun_at (i := (.ishl, 108, 0, [])) rfl
theorem zi6_108 {E : zE} {x y : Int32} {ls sk : List Value} {h : zH} : zrun zpp E 6 (108, ls, .int y :: .int x :: sk, h) = zrun zpp E 6 (109, ls, .int (x ^^^ y) :: sk, h) := zrun_at (i := (.ixor, 109, 0, [])) rfl
theorem zi6_109 {E : zE} {x : Nat} {v : Value} {ls sk : List Value} {h : zH} : zrun zpp E 6 (109, ls, v :: .ref x :: sk, h) = (zstf [9] 0 h x 15 v).bind (fun h' => zrun zpp E 6 (112, ls, sk, h')) := zg_putf rfl
theorem zi6_112 {E : zE} {ls sk : List Value} {h : zH} : zrun zpp E 6 (112, ls, sk, h) = zrun zpp E 6 (154, ls, sk, h) := zrun_at (i := (.goto 42, 115, 0, [154])) rfl
theorem zi6_115 {E : zE} {v0 : Value} {x : Nat} {ls sk : List Value} {h : zH} : zrun zpp E 6 (115, v0 :: .ref x :: ls, sk, h) = zrun zpp E 6 (116, v0 :: .ref x :: ls, .ref x :: sk, h) := zrun_at (i := (.aload_n 1, 116, 0, [])) rfl
theorem zi6_115n {E : zE} {v0 : Value} {ls sk : List Value} {h : zH} : zrun zpp E 6 (115, v0 :: .null :: ls, sk, h) = zrun zpp E 6 (116, v0 :: .null :: ls, .null :: sk, h) := zrun_at (i := (.aload_n 1, 116, 0, [])) rfl
theorem zi6_116 {E : zE} {x : Nat} {ls sk : List Value} {h : zH} : zrun zpp E 6 (116, .ref x :: ls, sk, h) = zrun zpp E 6 (117, .ref x :: ls, .ref x :: sk, h) := zrun_at (i := (.aload_n 0, 117, 0, [])) rfl
theorem zi6_116n {E : zE} {ls sk : List Value} {h : zH} : zrun zpp E 6 (116, .null :: ls, sk, h) = zrun zpp E 6 (117, .null :: ls, .null :: sk, h) := zrun_at (i := (.aload_n 0, 117, 0, [])) rfl
theorem zi6_117 {E : zE} {x : Nat} {ls sk : List Value} {h : zH} : zrun zpp E 6 (117, ls, .ref x :: sk, h) = (zfld [0] h x 1).bind (fun v => zrun zpp E 6 (120, ls, v :: sk, h)) := zg_getf rfl
theorem zi6_120 {E : zE} {x : Nat} {ls sk : List Value} {h : zH} : zrun zpp E 6 (120, .ref x :: ls, sk, h) = zrun zpp E 6 (121, .ref x :: ls, .ref x :: sk, h) := zrun_at (i := (.aload_n 0, 121, 0, [])) rfl
theorem zi6_120n {E : zE} {ls sk : List Value} {h : zH} : zrun zpp E 6 (120, .null :: ls, sk, h) = zrun zpp E 6 (121, .null :: ls, .null :: sk, h) := zrun_at (i := (.aload_n 0, 121, 0, [])) rfl
theorem zi6_121 {E : zE} {x : Nat} {ls sk : List Value} {h : zH} : zrun zpp E 6 (121, ls, .ref x :: sk, h) = (zfld [0] h x 5).bind (fun v => zrun zpp E 6 (124, ls, v :: sk, h)) := zg_getf rfl
theorem zi6_124 {E : zE} {x : Nat} {i : Int32} {ls sk : List Value} {h : zH} : zrun zpp E 6 (124, ls, .int i :: .ref x :: sk, h) = (zarr 0 h x i).bind (fun v => zrun zpp E 6 (125, ls, .int v :: sk, h)) := zg_iald rfl
theorem zi6_125 {E : zE} {a0 : Value} {x : Nat} {ls sk : List Value} {h : zH} : zrun zpp E 6 (125, ls, a0 :: .ref x :: sk, h) = (zcls h x).bind (fun d => (zsel d [9, 76]).bind (fun M' => zcl1 E 6 128 M' ls sk [.ref x, a0] h)) := zg_vir (as := [a0]) rfl rfl
theorem zi6_128 {E : zE} {ls sk : List Value} {h : zH} : zrun zpp E 6 (128, ls, sk, h) = zrun zpp E 6 (154, ls, sk, h) := zrun_at (i := (.goto 26, 131, 0, [154])) rfl
theorem zi6_131 {E : zE} {v0 : Value} {x : Nat} {ls sk : List Value} {h : zH} : zrun zpp E 6 (131, v0 :: .ref x :: ls, sk, h) = zrun zpp E 6 (132, v0 :: .ref x :: ls, .ref x :: sk, h) := zrun_at (i := (.aload_n 1, 132, 0, [])) rfl
theorem zi6_131n {E : zE} {v0 : Value} {ls sk : List Value} {h : zH} : zrun zpp E 6 (131, v0 :: .null :: ls, sk, h) = zrun zpp E 6 (132, v0 :: .null :: ls, .null :: sk, h) := zrun_at (i := (.aload_n 1, 132, 0, [])) rfl
theorem zi6_132 {E : zE} {x : Nat} {ls sk : List Value} {h : zH} : zrun zpp E 6 (132, ls, .ref x :: sk, h) = (zfld [9] h x 7).bind (fun v => zrun zpp E 6 (135, ls, v :: sk, h)) := zg_getf rfl
theorem zi6_135 {E : zE} {x : Nat} {ls sk : List Value} {h : zH} : zrun zpp E 6 (135, .ref x :: ls, sk, h) = zrun zpp E 6 (136, .ref x :: ls, .ref x :: sk, h) := zrun_at (i := (.aload_n 0, 136, 0, [])) rfl
theorem zi6_135n {E : zE} {ls sk : List Value} {h : zH} : zrun zpp E 6 (135, .null :: ls, sk, h) = zrun zpp E 6 (136, .null :: ls, .null :: sk, h) := zrun_at (i := (.aload_n 0, 136, 0, [])) rfl
theorem zi6_136 {E : zE} {x : Nat} {ls sk : List Value} {h : zH} : zrun zpp E 6 (136, ls, .ref x :: sk, h) = (zfld [0] h x 1).bind (fun v => zrun zpp E 6 (139, ls, v :: sk, h)) := zg_getf rfl
theorem zi6_139 {E : zE} {x : Nat} {ls sk : List Value} {h : zH} : zrun zpp E 6 (139, .ref x :: ls, sk, h) = zrun zpp E 6 (140, .ref x :: ls, .ref x :: sk, h) := zrun_at (i := (.aload_n 0, 140, 0, [])) rfl
theorem zi6_139n {E : zE} {ls sk : List Value} {h : zH} : zrun zpp E 6 (139, .null :: ls, sk, h) = zrun zpp E 6 (140, .null :: ls, .null :: sk, h) := zrun_at (i := (.aload_n 0, 140, 0, [])) rfl
theorem zi6_140 {E : zE} {x : Nat} {ls sk : List Value} {h : zH} : zrun zpp E 6 (140, ls, .ref x :: sk, h) = (zfld [0] h x 5).bind (fun v => zrun zpp E 6 (143, ls, v :: sk, h)) := zg_getf rfl
theorem zi6_143 {E : zE} {x : Nat} {i : Int32} {ls sk : List Value} {h : zH} : zrun zpp E 6 (143, ls, .int i :: .ref x :: sk, h) = (zarr 0 h x i).bind (fun v => zrun zpp E 6 (144, ls, .int v :: sk, h)) := zg_iald rfl
theorem zi6_144 {E : zE} {x : Nat} {ls sk : List Value} {h : zH} : zrun zpp E 6 (144, .ref x :: ls, sk, h) = zrun zpp E 6 (145, .ref x :: ls, .ref x :: sk, h) := zrun_at (i := (.aload_n 0, 145, 0, [])) rfl
theorem zi6_144n {E : zE} {ls sk : List Value} {h : zH} : zrun zpp E 6 (144, .null :: ls, sk, h) = zrun zpp E 6 (145, .null :: ls, .null :: sk, h) := zrun_at (i := (.aload_n 0, 145, 0, [])) rfl
theorem zi6_145 {E : zE} {x : Nat} {ls sk : List Value} {h : zH} : zrun zpp E 6 (145, ls, .ref x :: sk, h) = (zfld [0] h x 2).bind (fun v => zrun zpp E 6 (148, ls, v :: sk, h)) := zg_getf rfl
theorem zi6_148 {E : zE} {x : Nat} {ls sk : List Value} {h : zH} : zrun zpp E 6 (148, .ref x :: ls, sk, h) = zrun zpp E 6 (149, .ref x :: ls, .ref x :: sk, h) := zrun_at (i := (.aload_n 0, 149, 0, [])) rfl
theorem zi6_148n {E : zE} {ls sk : List Value} {h : zH} : zrun zpp E 6 (148, .null :: ls, sk, h) = zrun zpp E 6 (149, .null :: ls, .null :: sk, h) := zrun_at (i := (.aload_n 0, 149, 0, [])) rfl
theorem zi6_149 {E : zE} {x : Nat} {ls sk : List Value} {h : zH} : zrun zpp E 6 (149, ls, .ref x :: sk, h) = (zfld [0] h x 5).bind (fun v => zrun zpp E 6 (152, ls, v :: sk, h)) := zg_getf rfl
theorem zi6_152 {E : zE} {x : Nat} {i : Int32} {ls sk : List Value} {h : zH} : zrun zpp E 6 (152, ls, .int i :: .ref x :: sk, h) = (zarr 0 h x i).bind (fun v => zrun zpp E 6 (153, ls, .int v :: sk, h)) := zg_iald rfl
theorem zi6_153 {E : zE} {x : Nat} {i v : Int32} {ls sk : List Value} {h : zH} : zrun zpp E 6 (153, ls, .int v :: .int i :: .ref x :: sk, h) = (zars 0 h x i v).bind (fun h' => zrun zpp E 6 (154, ls, sk, h')) := zg_iast rfl
theorem zi6_154 {E : zE} {ls sk : List Value} {h : zH} : zrun zpp E 6 (154, ls, sk, h) = zrun zpp E 6 (155, ls, .int 1 :: sk, h) := zg_iconst rfl ci_1
theorem zi6_155 {E : zE} {x : Int32} {ls sk : List Value} {h : zH} : zrun zpp E 6 (155, ls, [.int x], h) = if x = 0 then some (some (.int 0), h) else if x = 1 then some (some (.int 1), h) else none := zrun_at (i := (.ireturn, 156, 1, [])) rfl
-- 7 NineDown$Freeing.<init>
theorem zi7_0 {E : zE} {x : Nat} {ls sk : List Value} {h : zH} : zrun zpp E 7 (0, .ref x :: ls, sk, h) = zrun zpp E 7 (1, .ref x :: ls, .ref x :: sk, h) := zrun_at (i := (.aload_n 0, 1, 0, [])) rfl
theorem zi7_0n {E : zE} {ls sk : List Value} {h : zH} : zrun zpp E 7 (0, .null :: ls, sk, h) = zrun zpp E 7 (1, .null :: ls, .null :: sk, h) := zrun_at (i := (.aload_n 0, 1, 0, [])) rfl
theorem zi7_1 {E : zE} {v0 : Value} {x : Int32} {ls sk : List Value} {h : zH} : zrun zpp E 7 (1, v0 :: .int x :: ls, sk, h) = zrun zpp E 7 (2, v0 :: .int x :: ls, .int x :: sk, h) := zrun_at (i := (.iload_n 1, 2, 0, [])) rfl
theorem zi7_2 {E : zE} {v0 v1 : Value} {x : Int32} {ls sk : List Value} {h : zH} : zrun zpp E 7 (2, v0 :: v1 :: .int x :: ls, sk, h) = zrun zpp E 7 (3, v0 :: v1 :: .int x :: ls, .int x :: sk, h) := zrun_at (i := (.iload_n 2, 3, 0, [])) rfl
theorem zi7_3 {E : zE} {a0 a1 : Value} {x : Nat} {ls sk : List Value} {h : zH} : zrun zpp E 7 (3, ls, a1 :: a0 :: .ref x :: sk, h) = (zcls h x).bind (fun _ => zcl1 E 7 6 55 ls sk [.ref x, a0, a1] h) := zg_spc (as := [a0, a1]) rfl rfl
theorem zi7_6 {E : zE} {ls sk : List Value} {h : zH} : zrun zpp E 7 (6, ls, [], h) = some (none, h) := zrun_at (i := (.return_, 7, 0, [])) rfl
-- 8 NineDown$Freeing.kindNumber
theorem zi8_0 {E : zE} {ls sk : List Value} {h : zH} : zrun zpp E 8 (0, ls, sk, h) = zrun zpp E 8 (1, ls, .int 2 :: sk, h) := zg_iconst rfl ci_2
theorem zi8_1 {E : zE} {x : Int32} {ls sk : List Value} {h : zH} : zrun zpp E 8 (1, ls, [.int x], h) = some (some (.int x), h) := zrun_at (i := (.ireturn, 2, 0, [])) rfl
-- 9 NineDown$Freeing.secondsFor
theorem zi9_0 {E : zE} {v0 : Value} {x : Int32} {ls sk : List Value} {h : zH} : zrun zpp E 9 (0, v0 :: .int x :: ls, sk, h) = zrun zpp E 9 (1, v0 :: .int x :: ls, .int x :: sk, h) := zrun_at (i := (.iload_n 1, 1, 0, [])) rfl
theorem zi9_1 {E : zE} {v0 v1 v2 : Value} {x : Nat} {ls sk : List Value} {h : zH} : zrun zpp E 9 (1, v0 :: v1 :: v2 :: .ref x :: ls, sk, h) = zrun zpp E 9 (2, v0 :: v1 :: v2 :: .ref x :: ls, .ref x :: sk, h) := zrun_at (i := (.aload_n 3, 2, 0, [])) rfl
theorem zi9_1n {E : zE} {v0 v1 v2 : Value} {ls sk : List Value} {h : zH} : zrun zpp E 9 (1, v0 :: v1 :: v2 :: .null :: ls, sk, h) = zrun zpp E 9 (2, v0 :: v1 :: v2 :: .null :: ls, .null :: sk, h) := zrun_at (i := (.aload_n 3, 2, 0, [])) rfl
theorem zi9_2 {E : zE} {x : Nat} {ls sk : List Value} {h : zH} : zrun zpp E 9 (2, ls, .ref x :: sk, h) = (zfld [9] h x 1).bind (fun v => zrun zpp E 9 (5, ls, v :: sk, h)) := zg_getf rfl
theorem zi9_5 {E : zE} {v0 v1 : Value} {x : Int32} {ls sk : List Value} {h : zH} : zrun zpp E 9 (5, v0 :: v1 :: .int x :: ls, sk, h) = zrun zpp E 9 (6, v0 :: v1 :: .int x :: ls, .int x :: sk, h) := zrun_at (i := (.iload_n 2, 6, 0, [])) rfl
theorem zi9_6 {E : zE} {x y : Int32} {ls sk : List Value} {h : zH} : zrun zpp E 9 (6, ls, .int y :: .int x :: sk, h) = zrun zpp E 9 (7, ls, .int (x * y) :: sk, h) := zrun_at (i := (.imul, 7, 0, [])) rfl
theorem zi9_7 {E : zE} {x y : Int32} {ls sk : List Value} {h : zH} : zrun zpp E 9 (7, ls, .int y :: .int x :: sk, h) = zrun zpp E 9 (8, ls, .int (x + y) :: sk, h) := zrun_at (i := (.iadd, 8, 0, [])) rfl
theorem zi9_8 {E : zE} {x : Int32} {ls sk : List Value} {h : zH} : zrun zpp E 9 (8, ls, [.int x], h) = some (some (.int x), h) := zrun_at (i := (.ireturn, 9, 0, [])) rfl
-- 10 NineDown$Freeing.fallsFor
theorem zi10_0 {E : zE} {ls sk : List Value} {h : zH} : zrun zpp E 10 (0, ls, sk, h) = zrun zpp E 10 (1, ls, .int 0 :: sk, h) := zg_iconst rfl ci_0
theorem zi10_1 {E : zE} {x : Int32} {ls sk : List Value} {h : zH} : zrun zpp E 10 (1, ls, [.int x], h) = some (some (.int x), h) := zrun_at (i := (.ireturn, 2, 0, [])) rfl
-- 11 NineDown$Freeing.size
theorem zi11_0 {E : zE} {v0 : Value} {x : Nat} {ls sk : List Value} {h : zH} : zrun zpp E 11 (0, v0 :: .ref x :: ls, sk, h) = zrun zpp E 11 (1, v0 :: .ref x :: ls, .ref x :: sk, h) := zrun_at (i := (.aload_n 1, 1, 0, [])) rfl
theorem zi11_0n {E : zE} {v0 : Value} {ls sk : List Value} {h : zH} : zrun zpp E 11 (0, v0 :: .null :: ls, sk, h) = zrun zpp E 11 (1, v0 :: .null :: ls, .null :: sk, h) := zrun_at (i := (.aload_n 1, 1, 0, [])) rfl
theorem zi11_1 {E : zE} {ls sk : List Value} {h : zH} : zrun zpp E 11 (1, ls, sk, h) = zrun zpp E 11 (3, ls, .int 12 :: sk, h) := zg_bipush rfl ci_12
theorem zi11_3 {E : zE} {a0 : Value} {x : Nat} {ls sk : List Value} {h : zH} : zrun zpp E 11 (3, ls, a0 :: .ref x :: sk, h) = (zcls h x).bind (fun d => (zsel d [8, 63]).bind (fun M' => zcl1 E 11 6 M' ls sk [.ref x, a0] h)) := zg_vir (as := [a0]) rfl rfl
theorem zi11_6 {E : zE} {ls sk : List Value} {h : zH} : zrun zpp E 11 (6, ls, sk, h) = zrun zpp E 11 (7, ls, .int 0 :: sk, h) := zg_iconst rfl ci_0
theorem zi11_7 {E : zE} {x : Nat} {ls sk : List Value} {h : zH} : zrun zpp E 11 (7, .ref x :: ls, sk, h) = zrun zpp E 11 (8, .ref x :: ls, .ref x :: sk, h) := zrun_at (i := (.aload_n 0, 8, 0, [])) rfl
theorem zi11_7n {E : zE} {ls sk : List Value} {h : zH} : zrun zpp E 11 (7, .null :: ls, sk, h) = zrun zpp E 11 (8, .null :: ls, .null :: sk, h) := zrun_at (i := (.aload_n 0, 8, 0, [])) rfl
theorem zi11_8 {E : zE} {v0 : Value} {x : Nat} {ls sk : List Value} {h : zH} : zrun zpp E 11 (8, v0 :: .ref x :: ls, sk, h) = zrun zpp E 11 (9, v0 :: .ref x :: ls, .ref x :: sk, h) := zrun_at (i := (.aload_n 1, 9, 0, [])) rfl
theorem zi11_8n {E : zE} {v0 : Value} {ls sk : List Value} {h : zH} : zrun zpp E 11 (8, v0 :: .null :: ls, sk, h) = zrun zpp E 11 (9, v0 :: .null :: ls, .null :: sk, h) := zrun_at (i := (.aload_n 1, 9, 0, [])) rfl
theorem zi11_9 {E : zE} {a0 : Value} {x : Nat} {ls sk : List Value} {h : zH} : zrun zpp E 11 (9, ls, a0 :: .ref x :: sk, h) = (zcls h x).bind (fun _ => zcl1 E 11 12 59 ls sk [.ref x, a0] h) := zg_spc (as := [a0]) rfl rfl
theorem zi11_12 {E : zE} {x y : Int32} {ls sk : List Value} {h : zH} : zrun zpp E 11 (12, ls, .int y :: .int x :: sk, h) = zrun zpp E 11 (13, ls, .int (x - y) :: sk, h) := zrun_at (i := (.isub, 13, 0, [])) rfl
theorem zi11_13 {E : zE} {x : Int32} {ls sk : List Value} {h : zH} : zrun zpp E 11 (13, ls, [.int x], h) = some (some (.int x), h) := zrun_at (i := (.ireturn, 14, 0, [])) rfl
-- 12 NineDown$Freeing.mark
theorem zi12_0 {E : zE} {v0 : Value} {x : Nat} {ls sk : List Value} {h : zH} : zrun zpp E 12 (0, v0 :: .ref x :: ls, sk, h) = zrun zpp E 12 (1, v0 :: .ref x :: ls, .ref x :: sk, h) := zrun_at (i := (.aload_n 1, 1, 0, [])) rfl
theorem zi12_0n {E : zE} {v0 : Value} {ls sk : List Value} {h : zH} : zrun zpp E 12 (0, v0 :: .null :: ls, sk, h) = zrun zpp E 12 (1, v0 :: .null :: ls, .null :: sk, h) := zrun_at (i := (.aload_n 1, 1, 0, [])) rfl
theorem zi12_1 {E : zE} {ls sk : List Value} {h : zH} : zrun zpp E 12 (1, ls, sk, h) = zrun zpp E 12 (3, ls, .int 24 :: sk, h) := zg_bipush rfl ci_24
theorem zi12_3 {E : zE} {a0 : Value} {x : Nat} {ls sk : List Value} {h : zH} : zrun zpp E 12 (3, ls, a0 :: .ref x :: sk, h) = (zcls h x).bind (fun d => (zsel d [8, 63]).bind (fun M' => zcl1 E 12 6 M' ls sk [.ref x, a0] h)) := zg_vir (as := [a0]) rfl rfl
theorem zi12_6 {E : zE} {ls sk : List Value} {h : zH} : zrun zpp E 12 (6, ls, sk, h) = zrun zpp E 12 (7, ls, .int 2 :: sk, h) := zg_iconst rfl ci_2
theorem zi12_7 {E : zE} {x : Nat} {ls sk : List Value} {h : zH} : zrun zpp E 12 (7, .ref x :: ls, sk, h) = zrun zpp E 12 (8, .ref x :: ls, .ref x :: sk, h) := zrun_at (i := (.aload_n 0, 8, 0, [])) rfl
theorem zi12_7n {E : zE} {ls sk : List Value} {h : zH} : zrun zpp E 12 (7, .null :: ls, sk, h) = zrun zpp E 12 (8, .null :: ls, .null :: sk, h) := zrun_at (i := (.aload_n 0, 8, 0, [])) rfl
theorem zi12_8 {E : zE} {v0 : Value} {x : Nat} {ls sk : List Value} {h : zH} : zrun zpp E 12 (8, v0 :: .ref x :: ls, sk, h) = zrun zpp E 12 (9, v0 :: .ref x :: ls, .ref x :: sk, h) := zrun_at (i := (.aload_n 1, 9, 0, [])) rfl
theorem zi12_8n {E : zE} {v0 : Value} {ls sk : List Value} {h : zH} : zrun zpp E 12 (8, v0 :: .null :: ls, sk, h) = zrun zpp E 12 (9, v0 :: .null :: ls, .null :: sk, h) := zrun_at (i := (.aload_n 1, 9, 0, [])) rfl
theorem zi12_9 {E : zE} {a0 : Value} {x : Nat} {ls sk : List Value} {h : zH} : zrun zpp E 12 (9, ls, a0 :: .ref x :: sk, h) = (zcls h x).bind (fun _ => zcl1 E 12 12 60 ls sk [.ref x, a0] h) := zg_spc (as := [a0]) rfl rfl
theorem zi12_12 {E : zE} {x y : Int32} {ls sk : List Value} {h : zH} : zrun zpp E 12 (12, ls, .int y :: .int x :: sk, h) = zrun zpp E 12 (13, ls, .int (x * y) :: sk, h) := zrun_at (i := (.imul, 13, 0, [])) rfl
theorem zi12_13 {E : zE} {x : Int32} {ls sk : List Value} {h : zH} : zrun zpp E 12 (13, ls, [.int x], h) = some (some (.int x), h) := zrun_at (i := (.ireturn, 14, 0, [])) rfl
-- 13 NineDown$Going.<init>
theorem zi13_0 {E : zE} {x : Nat} {ls sk : List Value} {h : zH} : zrun zpp E 13 (0, .ref x :: ls, sk, h) = zrun zpp E 13 (1, .ref x :: ls, .ref x :: sk, h) := zrun_at (i := (.aload_n 0, 1, 0, [])) rfl
theorem zi13_0n {E : zE} {ls sk : List Value} {h : zH} : zrun zpp E 13 (0, .null :: ls, sk, h) = zrun zpp E 13 (1, .null :: ls, .null :: sk, h) := zrun_at (i := (.aload_n 0, 1, 0, [])) rfl
theorem zi13_1 {E : zE} {v0 : Value} {x : Int32} {ls sk : List Value} {h : zH} : zrun zpp E 13 (1, v0 :: .int x :: ls, sk, h) = zrun zpp E 13 (2, v0 :: .int x :: ls, .int x :: sk, h) := zrun_at (i := (.iload_n 1, 2, 0, [])) rfl
theorem zi13_2 {E : zE} {v0 v1 : Value} {x : Int32} {ls sk : List Value} {h : zH} : zrun zpp E 13 (2, v0 :: v1 :: .int x :: ls, sk, h) = zrun zpp E 13 (3, v0 :: v1 :: .int x :: ls, .int x :: sk, h) := zrun_at (i := (.iload_n 2, 3, 0, [])) rfl
theorem zi13_3 {E : zE} {a0 a1 : Value} {x : Nat} {ls sk : List Value} {h : zH} : zrun zpp E 13 (3, ls, a1 :: a0 :: .ref x :: sk, h) = (zcls h x).bind (fun _ => zcl1 E 13 6 19 ls sk [.ref x, a0, a1] h) := zg_spc (as := [a0, a1]) rfl rfl
theorem zi13_6 {E : zE} {ls sk : List Value} {h : zH} : zrun zpp E 13 (6, ls, [], h) = some (none, h) := zrun_at (i := (.return_, 7, 0, [])) rfl
-- 14 NineDown$Going.kindNumber
theorem zi14_0 {E : zE} {ls sk : List Value} {h : zH} : zrun zpp E 14 (0, ls, sk, h) = zrun zpp E 14 (1, ls, .int 4 :: sk, h) := zg_iconst rfl ci_4
theorem zi14_1 {E : zE} {x : Int32} {ls sk : List Value} {h : zH} : zrun zpp E 14 (1, ls, [.int x], h) = some (some (.int x), h) := zrun_at (i := (.ireturn, 2, 0, [])) rfl
-- 15 NineDown$Going.manages
theorem zi15_0 {E : zE} {v0 v1 : Value} {x : Int32} {ls sk : List Value} {h : zH} : zrun zpp E 15 (0, v0 :: v1 :: .int x :: ls, sk, h) = zrun zpp E 15 (1, v0 :: v1 :: .int x :: ls, .int x :: sk, h) := zrun_at (i := (.iload_n 2, 1, 0, [])) rfl
theorem zi15_1 {E : zE} {x : Int32} {ls sk : List Value} {h : zH} : zrun zpp E 15 (1, ls, .int x :: sk, h) = if x = 0 then zrun zpp E 15 (4, ls, sk, h) else zrun zpp E 15 (16, ls, sk, h) := zrun_at (i := (.ifCond .ne 15, 4, 0, [16])) rfl
theorem zi15_4 {E : zE} {v0 : Value} {x : Int32} {ls sk : List Value} {h : zH} : zrun zpp E 15 (4, v0 :: .int x :: ls, sk, h) = zrun zpp E 15 (5, v0 :: .int x :: ls, .int x :: sk, h) := zrun_at (i := (.iload_n 1, 5, 0, [])) rfl
theorem zi15_5 {E : zE} {x : Nat} {ls sk : List Value} {h : zH} : zrun zpp E 15 (5, .ref x :: ls, sk, h) = zrun zpp E 15 (6, .ref x :: ls, .ref x :: sk, h) := zrun_at (i := (.aload_n 0, 6, 0, [])) rfl
theorem zi15_5n {E : zE} {ls sk : List Value} {h : zH} : zrun zpp E 15 (5, .null :: ls, sk, h) = zrun zpp E 15 (6, .null :: ls, .null :: sk, h) := zrun_at (i := (.aload_n 0, 6, 0, [])) rfl
theorem zi15_6 {E : zE} {x : Nat} {ls sk : List Value} {h : zH} : zrun zpp E 15 (6, ls, .ref x :: sk, h) = (zfld [2, 3] h x 1).bind (fun v => zrun zpp E 15 (9, ls, v :: sk, h)) := zg_getf rfl
theorem zi15_9 {E : zE} {x y : Int32} {ls sk : List Value} {h : zH} : zrun zpp E 15 (9, ls, .int y :: .int x :: sk, h) = if y < x then zrun zpp E 15 (16, ls, sk, h) else zrun zpp E 15 (12, ls, sk, h) := zrun_at (i := (.if_icmp .gt 7, 12, 0, [16])) rfl
theorem zi15_12 {E : zE} {ls sk : List Value} {h : zH} : zrun zpp E 15 (12, ls, sk, h) = zrun zpp E 15 (13, ls, .int 1 :: sk, h) := zg_iconst rfl ci_1
theorem zi15_13 {E : zE} {ls sk : List Value} {h : zH} : zrun zpp E 15 (13, ls, sk, h) = zrun zpp E 15 (17, ls, sk, h) := zrun_at (i := (.goto 4, 16, 0, [17])) rfl
theorem zi15_16 {E : zE} {ls sk : List Value} {h : zH} : zrun zpp E 15 (16, ls, sk, h) = zrun zpp E 15 (17, ls, .int 0 :: sk, h) := zg_iconst rfl ci_0
theorem zi15_17 {E : zE} {x : Int32} {ls sk : List Value} {h : zH} : zrun zpp E 15 (17, ls, [.int x], h) = if x = 0 then some (some (.int 0), h) else if x = 1 then some (some (.int 1), h) else none := zrun_at (i := (.ireturn, 18, 1, [])) rfl
-- 16 NineDown$Going.secondsFor
theorem zi16_0 {E : zE} {v0 : Value} {x : Int32} {ls sk : List Value} {h : zH} : zrun zpp E 16 (0, v0 :: .int x :: ls, sk, h) = zrun zpp E 16 (1, v0 :: .int x :: ls, .int x :: sk, h) := zrun_at (i := (.iload_n 1, 1, 0, [])) rfl
theorem zi16_1 {E : zE} {ls sk : List Value} {h : zH} : zrun zpp E 16 (1, ls, sk, h) = zrun zpp E 16 (2, ls, .int 2 :: sk, h) := zg_iconst rfl ci_2
theorem zi16_2 {E : zE} {x y : Int32} {ls sk : List Value} {h : zH} : zrun zpp E 16 (2, ls, .int y :: .int x :: sk, h) = if y = 0 then none else zrun zpp E 16 (3, ls, .int (x / y) :: sk, h) := zrun_at (i := (.idiv, 3, 0, [])) rfl
theorem zi16_3 {E : zE} {x : Int32} {ls sk : List Value} {h : zH} : zrun zpp E 16 (3, ls, [.int x], h) = some (some (.int x), h) := zrun_at (i := (.ireturn, 4, 0, [])) rfl
-- 17 NineDown$Going.size
theorem zi17_0 {E : zE} {v0 : Value} {x : Nat} {ls sk : List Value} {h : zH} : zrun zpp E 17 (0, v0 :: .ref x :: ls, sk, h) = zrun zpp E 17 (1, v0 :: .ref x :: ls, .ref x :: sk, h) := zrun_at (i := (.aload_n 1, 1, 0, [])) rfl
theorem zi17_0n {E : zE} {v0 : Value} {ls sk : List Value} {h : zH} : zrun zpp E 17 (0, v0 :: .null :: ls, sk, h) = zrun zpp E 17 (1, v0 :: .null :: ls, .null :: sk, h) := zrun_at (i := (.aload_n 1, 1, 0, [])) rfl
theorem zi17_1 {E : zE} {ls sk : List Value} {h : zH} : zrun zpp E 17 (1, ls, sk, h) = zrun zpp E 17 (3, ls, .int 13 :: sk, h) := zg_bipush rfl ci_13
theorem zi17_3 {E : zE} {a0 : Value} {x : Nat} {ls sk : List Value} {h : zH} : zrun zpp E 17 (3, ls, a0 :: .ref x :: sk, h) = (zcls h x).bind (fun d => (zsel d [8, 63]).bind (fun M' => zcl1 E 17 6 M' ls sk [.ref x, a0] h)) := zg_vir (as := [a0]) rfl rfl
theorem zi17_6 {E : zE} {x : Nat} {ls sk : List Value} {h : zH} : zrun zpp E 17 (6, .ref x :: ls, sk, h) = zrun zpp E 17 (7, .ref x :: ls, .ref x :: sk, h) := zrun_at (i := (.aload_n 0, 7, 0, [])) rfl
theorem zi17_6n {E : zE} {ls sk : List Value} {h : zH} : zrun zpp E 17 (6, .null :: ls, sk, h) = zrun zpp E 17 (7, .null :: ls, .null :: sk, h) := zrun_at (i := (.aload_n 0, 7, 0, [])) rfl
theorem zi17_7 {E : zE} {v0 : Value} {x : Nat} {ls sk : List Value} {h : zH} : zrun zpp E 17 (7, v0 :: .ref x :: ls, sk, h) = zrun zpp E 17 (8, v0 :: .ref x :: ls, .ref x :: sk, h) := zrun_at (i := (.aload_n 1, 8, 0, [])) rfl
theorem zi17_7n {E : zE} {v0 : Value} {ls sk : List Value} {h : zH} : zrun zpp E 17 (7, v0 :: .null :: ls, sk, h) = zrun zpp E 17 (8, v0 :: .null :: ls, .null :: sk, h) := zrun_at (i := (.aload_n 1, 8, 0, [])) rfl
theorem zi17_8 {E : zE} {a0 : Value} {x : Nat} {ls sk : List Value} {h : zH} : zrun zpp E 17 (8, ls, a0 :: .ref x :: sk, h) = (zcls h x).bind (fun _ => zcl1 E 17 11 22 ls sk [.ref x, a0] h) := zg_spc (as := [a0]) rfl rfl
theorem zi17_11 {E : zE} {ls sk : List Value} {h : zH} : zrun zpp E 17 (11, ls, sk, h) = zrun zpp E 17 (13, ls, .int 100 :: sk, h) := zg_bipush rfl ci_100
theorem zi17_13 {E : zE} {x y : Int32} {ls sk : List Value} {h : zH} : zrun zpp E 17 (13, ls, .int y :: .int x :: sk, h) = zrun zpp E 17 (14, ls, .int (x - y) :: sk, h) := zrun_at (i := (.isub, 14, 0, [])) rfl
theorem zi17_14 {E : zE} {x : Int32} {ls sk : List Value} {h : zH} : zrun zpp E 17 (14, ls, [.int x], h) = some (some (.int x), h) := zrun_at (i := (.ireturn, 15, 0, [])) rfl
-- 18 NineDown$Going.mark
theorem zi18_0 {E : zE} {v0 : Value} {x : Nat} {ls sk : List Value} {h : zH} : zrun zpp E 18 (0, v0 :: .ref x :: ls, sk, h) = zrun zpp E 18 (1, v0 :: .ref x :: ls, .ref x :: sk, h) := zrun_at (i := (.aload_n 1, 1, 0, [])) rfl
theorem zi18_0n {E : zE} {v0 : Value} {ls sk : List Value} {h : zH} : zrun zpp E 18 (0, v0 :: .null :: ls, sk, h) = zrun zpp E 18 (1, v0 :: .null :: ls, .null :: sk, h) := zrun_at (i := (.aload_n 1, 1, 0, [])) rfl
theorem zi18_1 {E : zE} {ls sk : List Value} {h : zH} : zrun zpp E 18 (1, ls, sk, h) = zrun zpp E 18 (3, ls, .int 23 :: sk, h) := zg_bipush rfl ci_23
theorem zi18_3 {E : zE} {a0 : Value} {x : Nat} {ls sk : List Value} {h : zH} : zrun zpp E 18 (3, ls, a0 :: .ref x :: sk, h) = (zcls h x).bind (fun d => (zsel d [8, 63]).bind (fun M' => zcl1 E 18 6 M' ls sk [.ref x, a0] h)) := zg_vir (as := [a0]) rfl rfl
theorem zi18_6 {E : zE} {x : Nat} {ls sk : List Value} {h : zH} : zrun zpp E 18 (6, .ref x :: ls, sk, h) = zrun zpp E 18 (7, .ref x :: ls, .ref x :: sk, h) := zrun_at (i := (.aload_n 0, 7, 0, [])) rfl
theorem zi18_6n {E : zE} {ls sk : List Value} {h : zH} : zrun zpp E 18 (6, .null :: ls, sk, h) = zrun zpp E 18 (7, .null :: ls, .null :: sk, h) := zrun_at (i := (.aload_n 0, 7, 0, [])) rfl
theorem zi18_7 {E : zE} {v0 : Value} {x : Nat} {ls sk : List Value} {h : zH} : zrun zpp E 18 (7, v0 :: .ref x :: ls, sk, h) = zrun zpp E 18 (8, v0 :: .ref x :: ls, .ref x :: sk, h) := zrun_at (i := (.aload_n 1, 8, 0, [])) rfl
theorem zi18_7n {E : zE} {v0 : Value} {ls sk : List Value} {h : zH} : zrun zpp E 18 (7, v0 :: .null :: ls, sk, h) = zrun zpp E 18 (8, v0 :: .null :: ls, .null :: sk, h) := zrun_at (i := (.aload_n 1, 8, 0, [])) rfl
theorem zi18_8 {E : zE} {a0 : Value} {x : Nat} {ls sk : List Value} {h : zH} : zrun zpp E 18 (8, ls, a0 :: .ref x :: sk, h) = (zcls h x).bind (fun _ => zcl1 E 18 11 23 ls sk [.ref x, a0] h) := zg_spc (as := [a0]) rfl rfl
theorem zi18_11 {E : zE} {x : Nat} {ls sk : List Value} {h : zH} : zrun zpp E 18 (11, .ref x :: ls, sk, h) = zrun zpp E 18 (12, .ref x :: ls, .ref x :: sk, h) := zrun_at (i := (.aload_n 0, 12, 0, [])) rfl
theorem zi18_11n {E : zE} {ls sk : List Value} {h : zH} : zrun zpp E 18 (11, .null :: ls, sk, h) = zrun zpp E 18 (12, .null :: ls, .null :: sk, h) := zrun_at (i := (.aload_n 0, 12, 0, [])) rfl
theorem zi18_12 {E : zE} {v0 : Value} {x : Nat} {ls sk : List Value} {h : zH} : zrun zpp E 18 (12, v0 :: .ref x :: ls, sk, h) = zrun zpp E 18 (13, v0 :: .ref x :: ls, .ref x :: sk, h) := zrun_at (i := (.aload_n 1, 13, 0, [])) rfl
theorem zi18_12n {E : zE} {v0 : Value} {ls sk : List Value} {h : zH} : zrun zpp E 18 (12, v0 :: .null :: ls, sk, h) = zrun zpp E 18 (13, v0 :: .null :: ls, .null :: sk, h) := zrun_at (i := (.aload_n 1, 13, 0, [])) rfl
theorem zi18_13 {E : zE} {a0 : Value} {x : Nat} {ls sk : List Value} {h : zH} : zrun zpp E 18 (13, ls, a0 :: .ref x :: sk, h) = (zcls h x).bind (fun d => (zsel d [2, 17, 3, 27]).bind (fun M' => zcl1 E 18 16 M' ls sk [.ref x, a0] h)) := zg_vir (as := [a0]) rfl rfl
theorem zi18_16 {E : zE} {x y : Int32} {ls sk : List Value} {h : zH} : zrun zpp E 18 (16, ls, .int y :: .int x :: sk, h) = zrun zpp E 18 (17, ls, .int (x - y) :: sk, h) := zrun_at (i := (.isub, 17, 0, [])) rfl
theorem zi18_17 {E : zE} {x : Int32} {ls sk : List Value} {h : zH} : zrun zpp E 18 (17, ls, [.int x], h) = some (some (.int x), h) := zrun_at (i := (.ireturn, 18, 0, [])) rfl
-- 19 NineDown$Lifter.<init>
theorem zi19_0 {E : zE} {x : Nat} {ls sk : List Value} {h : zH} : zrun zpp E 19 (0, .ref x :: ls, sk, h) = zrun zpp E 19 (1, .ref x :: ls, .ref x :: sk, h) := zrun_at (i := (.aload_n 0, 1, 0, [])) rfl
theorem zi19_0n {E : zE} {ls sk : List Value} {h : zH} : zrun zpp E 19 (0, .null :: ls, sk, h) = zrun zpp E 19 (1, .null :: ls, .null :: sk, h) := zrun_at (i := (.aload_n 0, 1, 0, [])) rfl
theorem zi19_1 {E : zE} {x : Nat} {ls sk : List Value} {h : zH} : zrun zpp E 19 (1, ls, .ref x :: sk, h) = if zlow sk = true then zrun zpp E 19 (4, ls, sk, h) else none := zg_obj rfl
theorem zi19_4 {E : zE} {x : Nat} {ls sk : List Value} {h : zH} : zrun zpp E 19 (4, .ref x :: ls, sk, h) = zrun zpp E 19 (5, .ref x :: ls, .ref x :: sk, h) := zrun_at (i := (.aload_n 0, 5, 0, [])) rfl
theorem zi19_4n {E : zE} {ls sk : List Value} {h : zH} : zrun zpp E 19 (4, .null :: ls, sk, h) = zrun zpp E 19 (5, .null :: ls, .null :: sk, h) := zrun_at (i := (.aload_n 0, 5, 0, [])) rfl
theorem zi19_5 {E : zE} {v0 : Value} {x : Int32} {ls sk : List Value} {h : zH} : zrun zpp E 19 (5, v0 :: .int x :: ls, sk, h) = zrun zpp E 19 (6, v0 :: .int x :: ls, .int x :: sk, h) := zrun_at (i := (.iload_n 1, 6, 0, [])) rfl
theorem zi19_6 {E : zE} {x : Nat} {v : Value} {ls sk : List Value} {h : zH} : zrun zpp E 19 (6, ls, v :: .ref x :: sk, h) = (zstf [1, 2, 3, 4, 7] 0 h x 0 v).bind (fun h' => zrun zpp E 19 (9, ls, sk, h')) := zg_putf rfl
theorem zi19_9 {E : zE} {x : Nat} {ls sk : List Value} {h : zH} : zrun zpp E 19 (9, .ref x :: ls, sk, h) = zrun zpp E 19 (10, .ref x :: ls, .ref x :: sk, h) := zrun_at (i := (.aload_n 0, 10, 0, [])) rfl
theorem zi19_9n {E : zE} {ls sk : List Value} {h : zH} : zrun zpp E 19 (9, .null :: ls, sk, h) = zrun zpp E 19 (10, .null :: ls, .null :: sk, h) := zrun_at (i := (.aload_n 0, 10, 0, [])) rfl
theorem zi19_10 {E : zE} {v0 v1 : Value} {x : Int32} {ls sk : List Value} {h : zH} : zrun zpp E 19 (10, v0 :: v1 :: .int x :: ls, sk, h) = zrun zpp E 19 (11, v0 :: v1 :: .int x :: ls, .int x :: sk, h) := zrun_at (i := (.iload_n 2, 11, 0, [])) rfl
theorem zi19_11 {E : zE} {x : Nat} {v : Value} {ls sk : List Value} {h : zH} : zrun zpp E 19 (11, ls, v :: .ref x :: sk, h) = (zstf [1, 2, 3, 4, 7] 0 h x 1 v).bind (fun h' => zrun zpp E 19 (14, ls, sk, h')) := zg_putf rfl
theorem zi19_14 {E : zE} {ls sk : List Value} {h : zH} : zrun zpp E 19 (14, ls, [], h) = some (none, h) := zrun_at (i := (.return_, 15, 0, [])) rfl
-- 20 NineDown$Lifter.manages
theorem zi20_0 {E : zE} {v0 : Value} {x : Int32} {ls sk : List Value} {h : zH} : zrun zpp E 20 (0, v0 :: .int x :: ls, sk, h) = zrun zpp E 20 (1, v0 :: .int x :: ls, .int x :: sk, h) := zrun_at (i := (.iload_n 1, 1, 0, [])) rfl
theorem zi20_1 {E : zE} {x : Nat} {ls sk : List Value} {h : zH} : zrun zpp E 20 (1, .ref x :: ls, sk, h) = zrun zpp E 20 (2, .ref x :: ls, .ref x :: sk, h) := zrun_at (i := (.aload_n 0, 2, 0, [])) rfl
theorem zi20_1n {E : zE} {ls sk : List Value} {h : zH} : zrun zpp E 20 (1, .null :: ls, sk, h) = zrun zpp E 20 (2, .null :: ls, .null :: sk, h) := zrun_at (i := (.aload_n 0, 2, 0, [])) rfl
theorem zi20_2 {E : zE} {x : Nat} {ls sk : List Value} {h : zH} : zrun zpp E 20 (2, ls, .ref x :: sk, h) = (zfld [1, 2, 3, 4, 7] h x 1).bind (fun v => zrun zpp E 20 (5, ls, v :: sk, h)) := zg_getf rfl
theorem zi20_5 {E : zE} {x y : Int32} {ls sk : List Value} {h : zH} : zrun zpp E 20 (5, ls, .int y :: .int x :: sk, h) = if y < x then zrun zpp E 20 (12, ls, sk, h) else zrun zpp E 20 (8, ls, sk, h) := zrun_at (i := (.if_icmp .gt 7, 8, 0, [12])) rfl
theorem zi20_8 {E : zE} {ls sk : List Value} {h : zH} : zrun zpp E 20 (8, ls, sk, h) = zrun zpp E 20 (9, ls, .int 1 :: sk, h) := zg_iconst rfl ci_1
theorem zi20_9 {E : zE} {ls sk : List Value} {h : zH} : zrun zpp E 20 (9, ls, sk, h) = zrun zpp E 20 (13, ls, sk, h) := zrun_at (i := (.goto 4, 12, 0, [13])) rfl
theorem zi20_12 {E : zE} {ls sk : List Value} {h : zH} : zrun zpp E 20 (12, ls, sk, h) = zrun zpp E 20 (13, ls, .int 0 :: sk, h) := zg_iconst rfl ci_0
theorem zi20_13 {E : zE} {x : Int32} {ls sk : List Value} {h : zH} : zrun zpp E 20 (13, ls, [.int x], h) = if x = 0 then some (some (.int 0), h) else if x = 1 then some (some (.int 1), h) else none := zrun_at (i := (.ireturn, 14, 1, [])) rfl
-- 21 NineDown$Lifter.fallsFor
theorem zi21_0 {E : zE} {ls sk : List Value} {h : zH} : zrun zpp E 21 (0, ls, sk, h) = zrun zpp E 21 (1, ls, .int 0 :: sk, h) := zg_iconst rfl ci_0
theorem zi21_1 {E : zE} {x : Int32} {ls sk : List Value} {h : zH} : zrun zpp E 21 (1, ls, [.int x], h) = some (some (.int x), h) := zrun_at (i := (.ireturn, 2, 0, [])) rfl
-- 22 NineDown$Lifter.size
theorem zi22_0 {E : zE} {v0 : Value} {x : Nat} {ls sk : List Value} {h : zH} : zrun zpp E 22 (0, v0 :: .ref x :: ls, sk, h) = zrun zpp E 22 (1, v0 :: .ref x :: ls, .ref x :: sk, h) := zrun_at (i := (.aload_n 1, 1, 0, [])) rfl
theorem zi22_0n {E : zE} {v0 : Value} {ls sk : List Value} {h : zH} : zrun zpp E 22 (0, v0 :: .null :: ls, sk, h) = zrun zpp E 22 (1, v0 :: .null :: ls, .null :: sk, h) := zrun_at (i := (.aload_n 1, 1, 0, [])) rfl
theorem zi22_1 {E : zE} {ls sk : List Value} {h : zH} : zrun zpp E 22 (1, ls, sk, h) = zrun zpp E 22 (3, ls, .int 10 :: sk, h) := zg_bipush rfl ci_10
theorem zi22_3 {E : zE} {a0 : Value} {x : Nat} {ls sk : List Value} {h : zH} : zrun zpp E 22 (3, ls, a0 :: .ref x :: sk, h) = (zcls h x).bind (fun d => (zsel d [8, 63]).bind (fun M' => zcl1 E 22 6 M' ls sk [.ref x, a0] h)) := zg_vir (as := [a0]) rfl rfl
theorem zi22_6 {E : zE} {x : Nat} {ls sk : List Value} {h : zH} : zrun zpp E 22 (6, .ref x :: ls, sk, h) = zrun zpp E 22 (7, .ref x :: ls, .ref x :: sk, h) := zrun_at (i := (.aload_n 0, 7, 0, [])) rfl
theorem zi22_6n {E : zE} {ls sk : List Value} {h : zH} : zrun zpp E 22 (6, .null :: ls, sk, h) = zrun zpp E 22 (7, .null :: ls, .null :: sk, h) := zrun_at (i := (.aload_n 0, 7, 0, [])) rfl
theorem zi22_7 {E : zE} {x : Nat} {ls sk : List Value} {h : zH} : zrun zpp E 22 (7, ls, .ref x :: sk, h) = (zfld [1, 2, 3, 4, 7] h x 1).bind (fun v => zrun zpp E 22 (10, ls, v :: sk, h)) := zg_getf rfl
theorem zi22_10 {E : zE} {x : Int32} {ls sk : List Value} {h : zH} : zrun zpp E 22 (10, ls, [.int x], h) = some (some (.int x), h) := zrun_at (i := (.ireturn, 11, 0, [])) rfl
-- 23 NineDown$Lifter.mark
theorem zi23_0 {E : zE} {v0 : Value} {x : Nat} {ls sk : List Value} {h : zH} : zrun zpp E 23 (0, v0 :: .ref x :: ls, sk, h) = zrun zpp E 23 (1, v0 :: .ref x :: ls, .ref x :: sk, h) := zrun_at (i := (.aload_n 1, 1, 0, [])) rfl
theorem zi23_0n {E : zE} {v0 : Value} {ls sk : List Value} {h : zH} : zrun zpp E 23 (0, v0 :: .null :: ls, sk, h) = zrun zpp E 23 (1, v0 :: .null :: ls, .null :: sk, h) := zrun_at (i := (.aload_n 1, 1, 0, [])) rfl
theorem zi23_1 {E : zE} {ls sk : List Value} {h : zH} : zrun zpp E 23 (1, ls, sk, h) = zrun zpp E 23 (3, ls, .int 20 :: sk, h) := zg_bipush rfl ci_20
theorem zi23_3 {E : zE} {a0 : Value} {x : Nat} {ls sk : List Value} {h : zH} : zrun zpp E 23 (3, ls, a0 :: .ref x :: sk, h) = (zcls h x).bind (fun d => (zsel d [8, 63]).bind (fun M' => zcl1 E 23 6 M' ls sk [.ref x, a0] h)) := zg_vir (as := [a0]) rfl rfl
theorem zi23_6 {E : zE} {x : Nat} {ls sk : List Value} {h : zH} : zrun zpp E 23 (6, .ref x :: ls, sk, h) = zrun zpp E 23 (7, .ref x :: ls, .ref x :: sk, h) := zrun_at (i := (.aload_n 0, 7, 0, [])) rfl
theorem zi23_6n {E : zE} {ls sk : List Value} {h : zH} : zrun zpp E 23 (6, .null :: ls, sk, h) = zrun zpp E 23 (7, .null :: ls, .null :: sk, h) := zrun_at (i := (.aload_n 0, 7, 0, [])) rfl
theorem zi23_7 {E : zE} {x : Nat} {ls sk : List Value} {h : zH} : zrun zpp E 23 (7, ls, .ref x :: sk, h) = (zfld [1, 2, 3, 4, 7] h x 0).bind (fun v => zrun zpp E 23 (10, ls, v :: sk, h)) := zg_getf rfl
theorem zi23_10 {E : zE} {x : Int32} {ls sk : List Value} {h : zH} : zrun zpp E 23 (10, ls, [.int x], h) = some (some (.int x), h) := zrun_at (i := (.ireturn, 11, 0, [])) rfl
-- 24 NineDown$Note.<init>
theorem zi24_0 {E : zE} {x : Nat} {ls sk : List Value} {h : zH} : zrun zpp E 24 (0, .ref x :: ls, sk, h) = zrun zpp E 24 (1, .ref x :: ls, .ref x :: sk, h) := zrun_at (i := (.aload_n 0, 1, 0, [])) rfl
theorem zi24_0n {E : zE} {ls sk : List Value} {h : zH} : zrun zpp E 24 (0, .null :: ls, sk, h) = zrun zpp E 24 (1, .null :: ls, .null :: sk, h) := zrun_at (i := (.aload_n 0, 1, 0, [])) rfl
theorem zi24_1 {E : zE} {v0 : Value} {x : Int32} {ls sk : List Value} {h : zH} : zrun zpp E 24 (1, v0 :: .int x :: ls, sk, h) = zrun zpp E 24 (2, v0 :: .int x :: ls, .int x :: sk, h) := zrun_at (i := (.iload_n 1, 2, 0, [])) rfl
theorem zi24_2 {E : zE} {v0 v1 : Value} {x : Int32} {ls sk : List Value} {h : zH} : zrun zpp E 24 (2, v0 :: v1 :: .int x :: ls, sk, h) = zrun zpp E 24 (3, v0 :: v1 :: .int x :: ls, .int x :: sk, h) := zrun_at (i := (.iload_n 2, 3, 0, [])) rfl
theorem zi24_3 {E : zE} {a0 a1 : Value} {x : Nat} {ls sk : List Value} {h : zH} : zrun zpp E 24 (3, ls, a1 :: a0 :: .ref x :: sk, h) = (zcls h x).bind (fun _ => zcl1 E 24 6 13 ls sk [.ref x, a0, a1] h) := zg_spc (as := [a0, a1]) rfl rfl
theorem zi24_6 {E : zE} {ls sk : List Value} {h : zH} : zrun zpp E 24 (6, ls, [], h) = some (none, h) := zrun_at (i := (.return_, 7, 0, [])) rfl
-- 25 NineDown$Note.kindNumber
theorem zi25_0 {E : zE} {ls sk : List Value} {h : zH} : zrun zpp E 25 (0, ls, sk, h) = zrun zpp E 25 (1, ls, .int 5 :: sk, h) := zg_iconst rfl ci_5
theorem zi25_1 {E : zE} {x : Int32} {ls sk : List Value} {h : zH} : zrun zpp E 25 (1, ls, [.int x], h) = some (some (.int x), h) := zrun_at (i := (.ireturn, 2, 0, [])) rfl
-- 26 NineDown$Note.secondsFor
theorem zi26_0 {E : zE} {x : Nat} {ls sk : List Value} {h : zH} : zrun zpp E 26 (0, .ref x :: ls, sk, h) = zrun zpp E 26 (1, .ref x :: ls, .ref x :: sk, h) := zrun_at (i := (.aload_n 0, 1, 0, [])) rfl
theorem zi26_0n {E : zE} {ls sk : List Value} {h : zH} : zrun zpp E 26 (0, .null :: ls, sk, h) = zrun zpp E 26 (1, .null :: ls, .null :: sk, h) := zrun_at (i := (.aload_n 0, 1, 0, [])) rfl
theorem zi26_1 {E : zE} {v0 : Value} {x : Int32} {ls sk : List Value} {h : zH} : zrun zpp E 26 (1, v0 :: .int x :: ls, sk, h) = zrun zpp E 26 (2, v0 :: .int x :: ls, .int x :: sk, h) := zrun_at (i := (.iload_n 1, 2, 0, [])) rfl
theorem zi26_2 {E : zE} {v0 v1 : Value} {x : Int32} {ls sk : List Value} {h : zH} : zrun zpp E 26 (2, v0 :: v1 :: .int x :: ls, sk, h) = zrun zpp E 26 (3, v0 :: v1 :: .int x :: ls, .int x :: sk, h) := zrun_at (i := (.iload_n 2, 3, 0, [])) rfl
theorem zi26_3 {E : zE} {v0 v1 v2 : Value} {x : Nat} {ls sk : List Value} {h : zH} : zrun zpp E 26 (3, v0 :: v1 :: v2 :: .ref x :: ls, sk, h) = zrun zpp E 26 (4, v0 :: v1 :: v2 :: .ref x :: ls, .ref x :: sk, h) := zrun_at (i := (.aload_n 3, 4, 0, [])) rfl
theorem zi26_3n {E : zE} {v0 v1 v2 : Value} {ls sk : List Value} {h : zH} : zrun zpp E 26 (3, v0 :: v1 :: v2 :: .null :: ls, sk, h) = zrun zpp E 26 (4, v0 :: v1 :: v2 :: .null :: ls, .null :: sk, h) := zrun_at (i := (.aload_n 3, 4, 0, [])) rfl
theorem zi26_4 {E : zE} {a0 a1 a2 : Value} {x : Nat} {ls sk : List Value} {h : zH} : zrun zpp E 26 (4, ls, a2 :: a1 :: a0 :: .ref x :: sk, h) = (zcls h x).bind (fun _ => zcl1 E 26 7 16 ls sk [.ref x, a0, a1, a2] h) := zg_spc (as := [a0, a1, a2]) rfl rfl
theorem zi26_7 {E : zE} {v0 v1 v2 : Value} {x : Nat} {ls sk : List Value} {h : zH} : zrun zpp E 26 (7, v0 :: v1 :: v2 :: .ref x :: ls, sk, h) = zrun zpp E 26 (8, v0 :: v1 :: v2 :: .ref x :: ls, .ref x :: sk, h) := zrun_at (i := (.aload_n 3, 8, 0, [])) rfl
theorem zi26_7n {E : zE} {v0 v1 v2 : Value} {ls sk : List Value} {h : zH} : zrun zpp E 26 (7, v0 :: v1 :: v2 :: .null :: ls, sk, h) = zrun zpp E 26 (8, v0 :: v1 :: v2 :: .null :: ls, .null :: sk, h) := zrun_at (i := (.aload_n 3, 8, 0, [])) rfl
theorem zi26_8 {E : zE} {x : Nat} {ls sk : List Value} {h : zH} : zrun zpp E 26 (8, ls, .ref x :: sk, h) = (zfld [9] h x 2).bind (fun v => zrun zpp E 26 (11, ls, v :: sk, h)) := zg_getf rfl
theorem zi26_11 {E : zE} {x y : Int32} {ls sk : List Value} {h : zH} : zrun zpp E 26 (11, ls, .int y :: .int x :: sk, h) = zrun zpp E 26 (12, ls, .int (x + y) :: sk, h) := zrun_at (i := (.iadd, 12, 0, [])) rfl
theorem zi26_12 {E : zE} {x : Int32} {ls sk : List Value} {h : zH} : zrun zpp E 26 (12, ls, [.int x], h) = some (some (.int x), h) := zrun_at (i := (.ireturn, 13, 0, [])) rfl
-- 27 NineDown$Note.size
theorem zi27_0 {E : zE} {v0 : Value} {x : Nat} {ls sk : List Value} {h : zH} : zrun zpp E 27 (0, v0 :: .ref x :: ls, sk, h) = zrun zpp E 27 (1, v0 :: .ref x :: ls, .ref x :: sk, h) := zrun_at (i := (.aload_n 1, 1, 0, [])) rfl
theorem zi27_0n {E : zE} {v0 : Value} {ls sk : List Value} {h : zH} : zrun zpp E 27 (0, v0 :: .null :: ls, sk, h) = zrun zpp E 27 (1, v0 :: .null :: ls, .null :: sk, h) := zrun_at (i := (.aload_n 1, 1, 0, [])) rfl
theorem zi27_1 {E : zE} {ls sk : List Value} {h : zH} : zrun zpp E 27 (1, ls, sk, h) = zrun zpp E 27 (3, ls, .int 14 :: sk, h) := zg_bipush rfl ci_14
theorem zi27_3 {E : zE} {a0 : Value} {x : Nat} {ls sk : List Value} {h : zH} : zrun zpp E 27 (3, ls, a0 :: .ref x :: sk, h) = (zcls h x).bind (fun d => (zsel d [8, 63]).bind (fun M' => zcl1 E 27 6 M' ls sk [.ref x, a0] h)) := zg_vir (as := [a0]) rfl rfl
theorem zi27_6 {E : zE} {ls sk : List Value} {h : zH} : zrun zpp E 27 (6, ls, sk, h) = zrun zpp E 27 (7, ls, .int 2 :: sk, h) := zg_iconst rfl ci_2
theorem zi27_7 {E : zE} {x : Nat} {ls sk : List Value} {h : zH} : zrun zpp E 27 (7, .ref x :: ls, sk, h) = zrun zpp E 27 (8, .ref x :: ls, .ref x :: sk, h) := zrun_at (i := (.aload_n 0, 8, 0, [])) rfl
theorem zi27_7n {E : zE} {ls sk : List Value} {h : zH} : zrun zpp E 27 (7, .null :: ls, sk, h) = zrun zpp E 27 (8, .null :: ls, .null :: sk, h) := zrun_at (i := (.aload_n 0, 8, 0, [])) rfl
theorem zi27_8 {E : zE} {v0 : Value} {x : Nat} {ls sk : List Value} {h : zH} : zrun zpp E 27 (8, v0 :: .ref x :: ls, sk, h) = zrun zpp E 27 (9, v0 :: .ref x :: ls, .ref x :: sk, h) := zrun_at (i := (.aload_n 1, 9, 0, [])) rfl
theorem zi27_8n {E : zE} {v0 : Value} {ls sk : List Value} {h : zH} : zrun zpp E 27 (8, v0 :: .null :: ls, sk, h) = zrun zpp E 27 (9, v0 :: .null :: ls, .null :: sk, h) := zrun_at (i := (.aload_n 1, 9, 0, [])) rfl
theorem zi27_9 {E : zE} {a0 : Value} {x : Nat} {ls sk : List Value} {h : zH} : zrun zpp E 27 (9, ls, a0 :: .ref x :: sk, h) = (zcls h x).bind (fun _ => zcl1 E 27 12 17 ls sk [.ref x, a0] h) := zg_spc (as := [a0]) rfl rfl
theorem zi27_12 {E : zE} {x y : Int32} {ls sk : List Value} {h : zH} : zrun zpp E 27 (12, ls, .int y :: .int x :: sk, h) = zrun zpp E 27 (13, ls, .int (x * y) :: sk, h) := zrun_at (i := (.imul, 13, 0, [])) rfl
theorem zi27_13 {E : zE} {x : Int32} {ls sk : List Value} {h : zH} : zrun zpp E 27 (13, ls, [.int x], h) = some (some (.int x), h) := zrun_at (i := (.ireturn, 14, 0, [])) rfl
-- 28 NineDown$Pair.<init>
theorem zi28_0 {E : zE} {x : Nat} {ls sk : List Value} {h : zH} : zrun zpp E 28 (0, .ref x :: ls, sk, h) = zrun zpp E 28 (1, .ref x :: ls, .ref x :: sk, h) := zrun_at (i := (.aload_n 0, 1, 0, [])) rfl
theorem zi28_0n {E : zE} {ls sk : List Value} {h : zH} : zrun zpp E 28 (0, .null :: ls, sk, h) = zrun zpp E 28 (1, .null :: ls, .null :: sk, h) := zrun_at (i := (.aload_n 0, 1, 0, [])) rfl
theorem zi28_1 {E : zE} {v0 : Value} {x : Int32} {ls sk : List Value} {h : zH} : zrun zpp E 28 (1, v0 :: .int x :: ls, sk, h) = zrun zpp E 28 (2, v0 :: .int x :: ls, .int x :: sk, h) := zrun_at (i := (.iload_n 1, 2, 0, [])) rfl
theorem zi28_2 {E : zE} {v0 v1 : Value} {x : Int32} {ls sk : List Value} {h : zH} : zrun zpp E 28 (2, v0 :: v1 :: .int x :: ls, sk, h) = zrun zpp E 28 (3, v0 :: v1 :: .int x :: ls, .int x :: sk, h) := zrun_at (i := (.iload_n 2, 3, 0, [])) rfl
theorem zi28_3 {E : zE} {a0 a1 : Value} {x : Nat} {ls sk : List Value} {h : zH} : zrun zpp E 28 (3, ls, a1 :: a0 :: .ref x :: sk, h) = (zcls h x).bind (fun _ => zcl1 E 28 6 55 ls sk [.ref x, a0, a1] h) := zg_spc (as := [a0, a1]) rfl rfl
theorem zi28_6 {E : zE} {ls sk : List Value} {h : zH} : zrun zpp E 28 (6, ls, [], h) = some (none, h) := zrun_at (i := (.return_, 7, 0, [])) rfl
-- 29 NineDown$Pair.kindNumber
theorem zi29_0 {E : zE} {ls sk : List Value} {h : zH} : zrun zpp E 29 (0, ls, sk, h) = zrun zpp E 29 (1, ls, .int 3 :: sk, h) := zg_iconst rfl ci_3
theorem zi29_1 {E : zE} {x : Int32} {ls sk : List Value} {h : zH} : zrun zpp E 29 (1, ls, [.int x], h) = some (some (.int x), h) := zrun_at (i := (.ireturn, 2, 0, [])) rfl
-- 30 NineDown$Pair.manages
theorem zi30_0 {E : zE} {v0 : Value} {x : Int32} {ls sk : List Value} {h : zH} : zrun zpp E 30 (0, v0 :: .int x :: ls, sk, h) = zrun zpp E 30 (1, v0 :: .int x :: ls, .int x :: sk, h) := zrun_at (i := (.iload_n 1, 1, 0, [])) rfl
theorem zi30_1 {E : zE} {ls sk : List Value} {h : zH} : zrun zpp E 30 (1, ls, sk, h) = zrun zpp E 30 (2, ls, .int 2 :: sk, h) := zg_iconst rfl ci_2
theorem zi30_2 {E : zE} {x : Nat} {ls sk : List Value} {h : zH} : zrun zpp E 30 (2, .ref x :: ls, sk, h) = zrun zpp E 30 (3, .ref x :: ls, .ref x :: sk, h) := zrun_at (i := (.aload_n 0, 3, 0, [])) rfl
theorem zi30_2n {E : zE} {ls sk : List Value} {h : zH} : zrun zpp E 30 (2, .null :: ls, sk, h) = zrun zpp E 30 (3, .null :: ls, .null :: sk, h) := zrun_at (i := (.aload_n 0, 3, 0, [])) rfl
theorem zi30_3 {E : zE} {x : Nat} {ls sk : List Value} {h : zH} : zrun zpp E 30 (3, ls, .ref x :: sk, h) = (zfld [4] h x 1).bind (fun v => zrun zpp E 30 (6, ls, v :: sk, h)) := zg_getf rfl
theorem zi30_6 {E : zE} {x y : Int32} {ls sk : List Value} {h : zH} : zrun zpp E 30 (6, ls, .int y :: .int x :: sk, h) = zrun zpp E 30 (7, ls, .int (x * y) :: sk, h) := zrun_at (i := (.imul, 7, 0, [])) rfl
theorem zi30_7 {E : zE} {x y : Int32} {ls sk : List Value} {h : zH} : zrun zpp E 30 (7, ls, .int y :: .int x :: sk, h) = if y < x then zrun zpp E 30 (14, ls, sk, h) else zrun zpp E 30 (10, ls, sk, h) := zrun_at (i := (.if_icmp .gt 7, 10, 0, [14])) rfl
theorem zi30_10 {E : zE} {ls sk : List Value} {h : zH} : zrun zpp E 30 (10, ls, sk, h) = zrun zpp E 30 (11, ls, .int 1 :: sk, h) := zg_iconst rfl ci_1
theorem zi30_11 {E : zE} {ls sk : List Value} {h : zH} : zrun zpp E 30 (11, ls, sk, h) = zrun zpp E 30 (15, ls, sk, h) := zrun_at (i := (.goto 4, 14, 0, [15])) rfl
theorem zi30_14 {E : zE} {ls sk : List Value} {h : zH} : zrun zpp E 30 (14, ls, sk, h) = zrun zpp E 30 (15, ls, .int 0 :: sk, h) := zg_iconst rfl ci_0
theorem zi30_15 {E : zE} {x : Int32} {ls sk : List Value} {h : zH} : zrun zpp E 30 (15, ls, [.int x], h) = if x = 0 then some (some (.int 0), h) else if x = 1 then some (some (.int 1), h) else none := zrun_at (i := (.ireturn, 16, 1, [])) rfl
-- 31 NineDown$Pair.secondsFor
theorem zi31_0 {E : zE} {x : Nat} {ls sk : List Value} {h : zH} : zrun zpp E 31 (0, .ref x :: ls, sk, h) = zrun zpp E 31 (1, .ref x :: ls, .ref x :: sk, h) := zrun_at (i := (.aload_n 0, 1, 0, [])) rfl
theorem zi31_0n {E : zE} {ls sk : List Value} {h : zH} : zrun zpp E 31 (0, .null :: ls, sk, h) = zrun zpp E 31 (1, .null :: ls, .null :: sk, h) := zrun_at (i := (.aload_n 0, 1, 0, [])) rfl
theorem zi31_1 {E : zE} {v0 : Value} {x : Int32} {ls sk : List Value} {h : zH} : zrun zpp E 31 (1, v0 :: .int x :: ls, sk, h) = zrun zpp E 31 (2, v0 :: .int x :: ls, .int x :: sk, h) := zrun_at (i := (.iload_n 1, 2, 0, [])) rfl
theorem zi31_2 {E : zE} {v0 v1 : Value} {x : Int32} {ls sk : List Value} {h : zH} : zrun zpp E 31 (2, v0 :: v1 :: .int x :: ls, sk, h) = zrun zpp E 31 (3, v0 :: v1 :: .int x :: ls, .int x :: sk, h) := zrun_at (i := (.iload_n 2, 3, 0, [])) rfl
theorem zi31_3 {E : zE} {v0 v1 v2 : Value} {x : Nat} {ls sk : List Value} {h : zH} : zrun zpp E 31 (3, v0 :: v1 :: v2 :: .ref x :: ls, sk, h) = zrun zpp E 31 (4, v0 :: v1 :: v2 :: .ref x :: ls, .ref x :: sk, h) := zrun_at (i := (.aload_n 3, 4, 0, [])) rfl
theorem zi31_3n {E : zE} {v0 v1 v2 : Value} {ls sk : List Value} {h : zH} : zrun zpp E 31 (3, v0 :: v1 :: v2 :: .null :: ls, sk, h) = zrun zpp E 31 (4, v0 :: v1 :: v2 :: .null :: ls, .null :: sk, h) := zrun_at (i := (.aload_n 3, 4, 0, [])) rfl
theorem zi31_4 {E : zE} {a0 a1 a2 : Value} {x : Nat} {ls sk : List Value} {h : zH} : zrun zpp E 31 (4, ls, a2 :: a1 :: a0 :: .ref x :: sk, h) = (zcls h x).bind (fun _ => zcl1 E 31 7 57 ls sk [.ref x, a0, a1, a2] h) := zg_spc (as := [a0, a1, a2]) rfl rfl
theorem zi31_7 {E : zE} {ls sk : List Value} {h : zH} : zrun zpp E 31 (7, ls, sk, h) = zrun zpp E 31 (8, ls, .int 2 :: sk, h) := zg_iconst rfl ci_2
theorem zi31_8 {E : zE} {x y : Int32} {ls sk : List Value} {h : zH} : zrun zpp E 31 (8, ls, .int y :: .int x :: sk, h) = if y = 0 then none else zrun zpp E 31 (9, ls, .int (x / y) :: sk, h) := zrun_at (i := (.idiv, 9, 0, [])) rfl
theorem zi31_9 {E : zE} {x : Int32} {ls sk : List Value} {h : zH} : zrun zpp E 31 (9, ls, [.int x], h) = some (some (.int x), h) := zrun_at (i := (.ireturn, 10, 0, [])) rfl
-- 32 NineDown$Pair.mark
theorem zi32_0 {E : zE} {v0 : Value} {x : Nat} {ls sk : List Value} {h : zH} : zrun zpp E 32 (0, v0 :: .ref x :: ls, sk, h) = zrun zpp E 32 (1, v0 :: .ref x :: ls, .ref x :: sk, h) := zrun_at (i := (.aload_n 1, 1, 0, [])) rfl
theorem zi32_0n {E : zE} {v0 : Value} {ls sk : List Value} {h : zH} : zrun zpp E 32 (0, v0 :: .null :: ls, sk, h) = zrun zpp E 32 (1, v0 :: .null :: ls, .null :: sk, h) := zrun_at (i := (.aload_n 1, 1, 0, [])) rfl
theorem zi32_1 {E : zE} {ls sk : List Value} {h : zH} : zrun zpp E 32 (1, ls, sk, h) = zrun zpp E 32 (3, ls, .int 22 :: sk, h) := zg_bipush rfl ci_22
theorem zi32_3 {E : zE} {a0 : Value} {x : Nat} {ls sk : List Value} {h : zH} : zrun zpp E 32 (3, ls, a0 :: .ref x :: sk, h) = (zcls h x).bind (fun d => (zsel d [8, 63]).bind (fun M' => zcl1 E 32 6 M' ls sk [.ref x, a0] h)) := zg_vir (as := [a0]) rfl rfl
theorem zi32_6 {E : zE} {x : Nat} {ls sk : List Value} {h : zH} : zrun zpp E 32 (6, .ref x :: ls, sk, h) = zrun zpp E 32 (7, .ref x :: ls, .ref x :: sk, h) := zrun_at (i := (.aload_n 0, 7, 0, [])) rfl
theorem zi32_6n {E : zE} {ls sk : List Value} {h : zH} : zrun zpp E 32 (6, .null :: ls, sk, h) = zrun zpp E 32 (7, .null :: ls, .null :: sk, h) := zrun_at (i := (.aload_n 0, 7, 0, [])) rfl
theorem zi32_7 {E : zE} {v0 : Value} {x : Nat} {ls sk : List Value} {h : zH} : zrun zpp E 32 (7, v0 :: .ref x :: ls, sk, h) = zrun zpp E 32 (8, v0 :: .ref x :: ls, .ref x :: sk, h) := zrun_at (i := (.aload_n 1, 8, 0, [])) rfl
theorem zi32_7n {E : zE} {v0 : Value} {ls sk : List Value} {h : zH} : zrun zpp E 32 (7, v0 :: .null :: ls, sk, h) = zrun zpp E 32 (8, v0 :: .null :: ls, .null :: sk, h) := zrun_at (i := (.aload_n 1, 8, 0, [])) rfl
theorem zi32_8 {E : zE} {a0 : Value} {x : Nat} {ls sk : List Value} {h : zH} : zrun zpp E 32 (8, ls, a0 :: .ref x :: sk, h) = (zcls h x).bind (fun _ => zcl1 E 32 11 60 ls sk [.ref x, a0] h) := zg_spc (as := [a0]) rfl rfl
theorem zi32_11 {E : zE} {ls sk : List Value} {h : zH} : zrun zpp E 32 (11, ls, sk, h) = zrun zpp E 32 (14, ls, .int 1000 :: sk, h) := zg_sipush rfl ci_1000
theorem zi32_14 {E : zE} {x y : Int32} {ls sk : List Value} {h : zH} : zrun zpp E 32 (14, ls, .int y :: .int x :: sk, h) = zrun zpp E 32 (15, ls, .int (x - y) :: sk, h) := zrun_at (i := (.isub, 15, 0, [])) rfl
theorem zi32_15 {E : zE} {x : Int32} {ls sk : List Value} {h : zH} : zrun zpp E 32 (15, ls, [.int x], h) = some (some (.int x), h) := zrun_at (i := (.ireturn, 16, 0, [])) rfl
-- 33 NineDown$Reader.<init>
theorem zi33_0 {E : zE} {x : Nat} {ls sk : List Value} {h : zH} : zrun zpp E 33 (0, .ref x :: ls, sk, h) = zrun zpp E 33 (1, .ref x :: ls, .ref x :: sk, h) := zrun_at (i := (.aload_n 0, 1, 0, [])) rfl
theorem zi33_0n {E : zE} {ls sk : List Value} {h : zH} : zrun zpp E 33 (0, .null :: ls, sk, h) = zrun zpp E 33 (1, .null :: ls, .null :: sk, h) := zrun_at (i := (.aload_n 0, 1, 0, [])) rfl
theorem zi33_1 {E : zE} {x : Nat} {ls sk : List Value} {h : zH} : zrun zpp E 33 (1, ls, .ref x :: sk, h) = if zlow sk = true then zrun zpp E 33 (4, ls, sk, h) else none := zg_obj rfl
theorem zi33_4 {E : zE} {x : Nat} {ls sk : List Value} {h : zH} : zrun zpp E 33 (4, .ref x :: ls, sk, h) = zrun zpp E 33 (5, .ref x :: ls, .ref x :: sk, h) := zrun_at (i := (.aload_n 0, 5, 0, [])) rfl
theorem zi33_4n {E : zE} {ls sk : List Value} {h : zH} : zrun zpp E 33 (4, .null :: ls, sk, h) = zrun zpp E 33 (5, .null :: ls, .null :: sk, h) := zrun_at (i := (.aload_n 0, 5, 0, [])) rfl
theorem zi33_5 {E : zE} {ls sk : List Value} {h : zH} : zrun zpp E 33 (5, ls, sk, h) = zrun zpp E 33 (7, ls, .int 120 :: sk, h) := zg_bipush rfl ci_120
theorem zi33_7 {E : zE} {n : Int32} {ls sk : List Value} {h : zH} : zrun zpp E 33 (7, ls, .int n :: sk, h) = if zix n 65536 = true then zrun zpp E 33 (9, ls, .ref h.length :: sk, h ++ [.inr (.inl (0, n.toNatClampNeg, fun _ => 0))]) else none := zg_newa rfl
theorem zi33_9 {E : zE} {x : Nat} {v : Value} {ls sk : List Value} {h : zH} : zrun zpp E 33 (9, ls, v :: .ref x :: sk, h) = (zstf [5] 2 h x 0 v).bind (fun h' => zrun zpp E 33 (12, ls, sk, h')) := zg_putf rfl
theorem zi33_12 {E : zE} {ls sk : List Value} {h : zH} : zrun zpp E 33 (12, ls, [], h) = some (none, h) := zrun_at (i := (.return_, 13, 0, [])) rfl
-- 34 NineDown$Reader.accepts
theorem zi34_0 {E : zE} {x : Nat} {ls sk : List Value} {h : zH} : zrun zpp E 34 (0, .ref x :: ls, sk, h) = zrun zpp E 34 (1, .ref x :: ls, .ref x :: sk, h) := zrun_at (i := (.aload_n 0, 1, 0, [])) rfl
theorem zi34_0n {E : zE} {ls sk : List Value} {h : zH} : zrun zpp E 34 (0, .null :: ls, sk, h) = zrun zpp E 34 (1, .null :: ls, .null :: sk, h) := zrun_at (i := (.aload_n 0, 1, 0, [])) rfl
theorem zi34_1 {E : zE} {x : Nat} {ls sk : List Value} {h : zH} : zrun zpp E 34 (1, ls, .ref x :: sk, h) = (zfld [5] h x 1).bind (fun v => zrun zpp E 34 (4, ls, v :: sk, h)) := zg_getf rfl
theorem zi34_4 {E : zE} {ls sk : List Value} {h : zH} : zrun zpp E 34 (4, ls, sk, h) = zrun zpp E 34 (6, ls, .int 120 :: sk, h) := zg_bipush rfl ci_120
theorem zi34_6 {E : zE} {x y : Int32} {ls sk : List Value} {h : zH} : zrun zpp E 34 (6, ls, .int y :: .int x :: sk, h) = if x < y then zrun zpp E 34 (11, ls, sk, h) else zrun zpp E 34 (9, ls, sk, h) := zrun_at (i := (.if_icmp .lt 5, 9, 0, [11])) rfl
theorem zi34_9 {E : zE} {ls sk : List Value} {h : zH} : zrun zpp E 34 (9, ls, sk, h) = zrun zpp E 34 (10, ls, .int 0 :: sk, h) := zg_iconst rfl ci_0
theorem zi34_10 {E : zE} {x : Int32} {ls sk : List Value} {h : zH} : zrun zpp E 34 (10, ls, [.int x], h) = if x = 0 then some (some (.int 0), h) else if x = 1 then some (some (.int 1), h) else none := zrun_at (i := (.ireturn, 11, 1, [])) rfl
theorem zi34_11 {E : zE} {x : Nat} {ls sk : List Value} {h : zH} : zrun zpp E 34 (11, .ref x :: ls, sk, h) = zrun zpp E 34 (12, .ref x :: ls, .ref x :: sk, h) := zrun_at (i := (.aload_n 0, 12, 0, [])) rfl
theorem zi34_11n {E : zE} {ls sk : List Value} {h : zH} : zrun zpp E 34 (11, .null :: ls, sk, h) = zrun zpp E 34 (12, .null :: ls, .null :: sk, h) := zrun_at (i := (.aload_n 0, 12, 0, [])) rfl
theorem zi34_12 {E : zE} {x : Nat} {ls sk : List Value} {h : zH} : zrun zpp E 34 (12, ls, .ref x :: sk, h) = (zfld [5] h x 0).bind (fun v => zrun zpp E 34 (15, ls, v :: sk, h)) := zg_getf rfl
theorem zi34_15 {E : zE} {x : Nat} {ls sk : List Value} {h : zH} : zrun zpp E 34 (15, .ref x :: ls, sk, h) = zrun zpp E 34 (16, .ref x :: ls, .ref x :: sk, h) := zrun_at (i := (.aload_n 0, 16, 0, [])) rfl
theorem zi34_15n {E : zE} {ls sk : List Value} {h : zH} : zrun zpp E 34 (15, .null :: ls, sk, h) = zrun zpp E 34 (16, .null :: ls, .null :: sk, h) := zrun_at (i := (.aload_n 0, 16, 0, [])) rfl
theorem zi34_16 {E : zE} {x : Nat} {ls sk : List Value} {h : zH} : zrun zpp E 34 (16, ls, .ref x :: sk, h) = (zfld [5] h x 1).bind (fun v => zrun zpp E 34 (19, ls, v :: sk, h)) := zg_getf rfl
theorem zi34_19 {E : zE} {v0 : Value} {x : Int32} {ls sk : List Value} {h : zH} : zrun zpp E 34 (19, v0 :: .int x :: ls, sk, h) = zrun zpp E 34 (20, v0 :: .int x :: ls, .int x :: sk, h) := zrun_at (i := (.iload_n 1, 20, 0, [])) rfl
theorem zi34_20 {E : zE} {x : Nat} {i v : Int32} {ls sk : List Value} {h : zH} : zrun zpp E 34 (20, ls, .int v :: .int i :: .ref x :: sk, h) = (zars 0 h x i v).bind (fun h' => zrun zpp E 34 (21, ls, sk, h')) := zg_iast rfl
theorem zi34_21 {E : zE} {x : Nat} {ls sk : List Value} {h : zH} : zrun zpp E 34 (21, .ref x :: ls, sk, h) = zrun zpp E 34 (22, .ref x :: ls, .ref x :: sk, h) := zrun_at (i := (.aload_n 0, 22, 0, [])) rfl
theorem zi34_21n {E : zE} {ls sk : List Value} {h : zH} : zrun zpp E 34 (21, .null :: ls, sk, h) = zrun zpp E 34 (22, .null :: ls, .null :: sk, h) := zrun_at (i := (.aload_n 0, 22, 0, [])) rfl
theorem zi34_22 {E : zE} {x : Nat} {ls sk : List Value} {h : zH} : zrun zpp E 34 (22, ls, .ref x :: sk, h) = zrun zpp E 34 (23, ls, .ref x :: .ref x :: sk, h) := zrun_at (i := (.dup, 23, 0, [])) rfl
theorem zi34_22i {E : zE} {x : Int32} {ls sk : List Value} {h : zH} : zrun zpp E 34 (22, ls, .int x :: sk, h) = zrun zpp E 34 (23, ls, .int x :: .int x :: sk, h) := zrun_at (i := (.dup, 23, 0, [])) rfl
theorem zi34_23 {E : zE} {x : Nat} {ls sk : List Value} {h : zH} : zrun zpp E 34 (23, ls, .ref x :: sk, h) = (zfld [5] h x 1).bind (fun v => zrun zpp E 34 (26, ls, v :: sk, h)) := zg_getf rfl
theorem zi34_26 {E : zE} {ls sk : List Value} {h : zH} : zrun zpp E 34 (26, ls, sk, h) = zrun zpp E 34 (27, ls, .int 1 :: sk, h) := zg_iconst rfl ci_1
theorem zi34_27 {E : zE} {x y : Int32} {ls sk : List Value} {h : zH} : zrun zpp E 34 (27, ls, .int y :: .int x :: sk, h) = zrun zpp E 34 (28, ls, .int (x + y) :: sk, h) := zrun_at (i := (.iadd, 28, 0, [])) rfl
theorem zi34_28 {E : zE} {x : Nat} {v : Value} {ls sk : List Value} {h : zH} : zrun zpp E 34 (28, ls, v :: .ref x :: sk, h) = (zstf [5] 0 h x 1 v).bind (fun h' => zrun zpp E 34 (31, ls, sk, h')) := zg_putf rfl
theorem zi34_31 {E : zE} {ls sk : List Value} {h : zH} : zrun zpp E 34 (31, ls, sk, h) = zrun zpp E 34 (32, ls, .int 1 :: sk, h) := zg_iconst rfl ci_1
theorem zi34_32 {E : zE} {x : Int32} {ls sk : List Value} {h : zH} : zrun zpp E 34 (32, ls, [.int x], h) = if x = 0 then some (some (.int 0), h) else if x = 1 then some (some (.int 1), h) else none := zrun_at (i := (.ireturn, 33, 1, [])) rfl
-- 35 NineDown$Reader.readsInto
theorem zi35_0 {E : zE} {x : Nat} {ls sk : List Value} {h : zH} : zrun zpp E 35 (0, .ref x :: ls, sk, h) = zrun zpp E 35 (1, .ref x :: ls, .ref x :: sk, h) := zrun_at (i := (.aload_n 0, 1, 0, [])) rfl
theorem zi35_0n {E : zE} {ls sk : List Value} {h : zH} : zrun zpp E 35 (0, .null :: ls, sk, h) = zrun zpp E 35 (1, .null :: ls, .null :: sk, h) := zrun_at (i := (.aload_n 0, 1, 0, [])) rfl
theorem zi35_1 {E : zE} {ls sk : List Value} {h : zH} : zrun zpp E 35 (1, ls, sk, h) = zrun zpp E 35 (2, ls, .int 0 :: sk, h) := zg_iconst rfl ci_0
theorem zi35_2 {E : zE} {x : Nat} {v : Value} {ls sk : List Value} {h : zH} : zrun zpp E 35 (2, ls, v :: .ref x :: sk, h) = (zstf [5] 0 h x 3 v).bind (fun h' => zrun zpp E 35 (5, ls, sk, h')) := zg_putf rfl
theorem zi35_5 {E : zE} {v0 : Value} {x : Nat} {ls sk : List Value} {h : zH} : zrun zpp E 35 (5, v0 :: .ref x :: ls, sk, h) = zrun zpp E 35 (6, v0 :: .ref x :: ls, .ref x :: sk, h) := zrun_at (i := (.aload_n 1, 6, 0, [])) rfl
theorem zi35_5n {E : zE} {v0 : Value} {ls sk : List Value} {h : zH} : zrun zpp E 35 (5, v0 :: .null :: ls, sk, h) = zrun zpp E 35 (6, v0 :: .null :: ls, .null :: sk, h) := zrun_at (i := (.aload_n 1, 6, 0, [])) rfl
theorem zi35_6 {E : zE} {x : Nat} {ls sk : List Value} {h : zH} : zrun zpp E 35 (6, ls, .ref x :: sk, h) = (zcls h x).bind (fun d => (zsel d [9, 65]).bind (fun M' => zcl1 E 35 9 M' ls sk [.ref x] h)) := zg_vir (as := []) rfl rfl
theorem zi35_9 {E : zE} {x : Nat} {ls sk : List Value} {h : zH} : zrun zpp E 35 (9, .ref x :: ls, sk, h) = zrun zpp E 35 (10, .ref x :: ls, .ref x :: sk, h) := zrun_at (i := (.aload_n 0, 10, 0, [])) rfl
theorem zi35_9n {E : zE} {ls sk : List Value} {h : zH} : zrun zpp E 35 (9, .null :: ls, sk, h) = zrun zpp E 35 (10, .null :: ls, .null :: sk, h) := zrun_at (i := (.aload_n 0, 10, 0, [])) rfl
theorem zi35_10 {E : zE} {v0 : Value} {x : Nat} {ls sk : List Value} {h : zH} : zrun zpp E 35 (10, v0 :: .ref x :: ls, sk, h) = zrun zpp E 35 (11, v0 :: .ref x :: ls, .ref x :: sk, h) := zrun_at (i := (.aload_n 1, 11, 0, [])) rfl
theorem zi35_10n {E : zE} {v0 : Value} {ls sk : List Value} {h : zH} : zrun zpp E 35 (10, v0 :: .null :: ls, sk, h) = zrun zpp E 35 (11, v0 :: .null :: ls, .null :: sk, h) := zrun_at (i := (.aload_n 1, 11, 0, [])) rfl
theorem zi35_11 {E : zE} {a0 : Value} {x : Nat} {ls sk : List Value} {h : zH} : zrun zpp E 35 (11, ls, a0 :: .ref x :: sk, h) = (zcls h x).bind (fun d => (zsel d [5, 36]).bind (fun M' => zcl1 E 35 14 M' ls sk [.ref x, a0] h)) := zg_vir (as := [a0]) rfl rfl
theorem zi35_14 {E : zE} {x : Int32} {ls sk : List Value} {h : zH} : zrun zpp E 35 (14, ls, .int x :: sk, h) = if x = 0 then zrun zpp E 35 (45, ls, sk, h) else zrun zpp E 35 (17, ls, sk, h) := zrun_at (i := (.ifCond .eq 31, 17, 0, [45])) rfl
theorem zi35_17 {E : zE} {x : Nat} {ls sk : List Value} {h : zH} : zrun zpp E 35 (17, .ref x :: ls, sk, h) = zrun zpp E 35 (18, .ref x :: ls, .ref x :: sk, h) := zrun_at (i := (.aload_n 0, 18, 0, [])) rfl
theorem zi35_17n {E : zE} {ls sk : List Value} {h : zH} : zrun zpp E 35 (17, .null :: ls, sk, h) = zrun zpp E 35 (18, .null :: ls, .null :: sk, h) := zrun_at (i := (.aload_n 0, 18, 0, [])) rfl
theorem zi35_18 {E : zE} {v0 : Value} {x : Nat} {ls sk : List Value} {h : zH} : zrun zpp E 35 (18, v0 :: .ref x :: ls, sk, h) = zrun zpp E 35 (19, v0 :: .ref x :: ls, .ref x :: sk, h) := zrun_at (i := (.aload_n 1, 19, 0, [])) rfl
theorem zi35_18n {E : zE} {v0 : Value} {ls sk : List Value} {h : zH} : zrun zpp E 35 (18, v0 :: .null :: ls, sk, h) = zrun zpp E 35 (19, v0 :: .null :: ls, .null :: sk, h) := zrun_at (i := (.aload_n 1, 19, 0, [])) rfl
theorem zi35_19 {E : zE} {a0 : Value} {x : Nat} {ls sk : List Value} {h : zH} : zrun zpp E 35 (19, ls, a0 :: .ref x :: sk, h) = (zcls h x).bind (fun d => (zsel d [5, 37]).bind (fun M' => zcl1 E 35 22 M' ls sk [.ref x, a0] h)) := zg_vir (as := [a0]) rfl rfl
theorem zi35_22 {E : zE} {x : Int32} {ls sk : List Value} {h : zH} : zrun zpp E 35 (22, ls, .int x :: sk, h) = if x = 0 then zrun zpp E 35 (45, ls, sk, h) else zrun zpp E 35 (25, ls, sk, h) := zrun_at (i := (.ifCond .eq 23, 25, 0, [45])) rfl
theorem zi35_25 {E : zE} {x : Nat} {ls sk : List Value} {h : zH} : zrun zpp E 35 (25, .ref x :: ls, sk, h) = zrun zpp E 35 (26, .ref x :: ls, .ref x :: sk, h) := zrun_at (i := (.aload_n 0, 26, 0, [])) rfl
theorem zi35_25n {E : zE} {ls sk : List Value} {h : zH} : zrun zpp E 35 (25, .null :: ls, sk, h) = zrun zpp E 35 (26, .null :: ls, .null :: sk, h) := zrun_at (i := (.aload_n 0, 26, 0, [])) rfl
theorem zi35_26 {E : zE} {v0 : Value} {x : Nat} {ls sk : List Value} {h : zH} : zrun zpp E 35 (26, v0 :: .ref x :: ls, sk, h) = zrun zpp E 35 (27, v0 :: .ref x :: ls, .ref x :: sk, h) := zrun_at (i := (.aload_n 1, 27, 0, [])) rfl
theorem zi35_26n {E : zE} {v0 : Value} {ls sk : List Value} {h : zH} : zrun zpp E 35 (26, v0 :: .null :: ls, sk, h) = zrun zpp E 35 (27, v0 :: .null :: ls, .null :: sk, h) := zrun_at (i := (.aload_n 1, 27, 0, [])) rfl
theorem zi35_27 {E : zE} {a0 : Value} {x : Nat} {ls sk : List Value} {h : zH} : zrun zpp E 35 (27, ls, a0 :: .ref x :: sk, h) = (zcls h x).bind (fun d => (zsel d [5, 39]).bind (fun M' => zcl1 E 35 30 M' ls sk [.ref x, a0] h)) := zg_vir (as := [a0]) rfl rfl
theorem zi35_30 {E : zE} {x : Int32} {ls sk : List Value} {h : zH} : zrun zpp E 35 (30, ls, .int x :: sk, h) = if x = 0 then zrun zpp E 35 (45, ls, sk, h) else zrun zpp E 35 (33, ls, sk, h) := zrun_at (i := (.ifCond .eq 15, 33, 0, [45])) rfl
theorem zi35_33 {E : zE} {x : Nat} {ls sk : List Value} {h : zH} : zrun zpp E 35 (33, .ref x :: ls, sk, h) = zrun zpp E 35 (34, .ref x :: ls, .ref x :: sk, h) := zrun_at (i := (.aload_n 0, 34, 0, [])) rfl
theorem zi35_33n {E : zE} {ls sk : List Value} {h : zH} : zrun zpp E 35 (33, .null :: ls, sk, h) = zrun zpp E 35 (34, .null :: ls, .null :: sk, h) := zrun_at (i := (.aload_n 0, 34, 0, [])) rfl
theorem zi35_34 {E : zE} {v0 : Value} {x : Nat} {ls sk : List Value} {h : zH} : zrun zpp E 35 (34, v0 :: .ref x :: ls, sk, h) = zrun zpp E 35 (35, v0 :: .ref x :: ls, .ref x :: sk, h) := zrun_at (i := (.aload_n 1, 35, 0, [])) rfl
theorem zi35_34n {E : zE} {v0 : Value} {ls sk : List Value} {h : zH} : zrun zpp E 35 (34, v0 :: .null :: ls, sk, h) = zrun zpp E 35 (35, v0 :: .null :: ls, .null :: sk, h) := zrun_at (i := (.aload_n 1, 35, 0, [])) rfl
theorem zi35_35 {E : zE} {a0 : Value} {x : Nat} {ls sk : List Value} {h : zH} : zrun zpp E 35 (35, ls, a0 :: .ref x :: sk, h) = (zcls h x).bind (fun d => (zsel d [5, 41]).bind (fun M' => zcl1 E 35 38 M' ls sk [.ref x, a0] h)) := zg_vir (as := [a0]) rfl rfl
theorem zi35_38 {E : zE} {x : Int32} {ls sk : List Value} {h : zH} : zrun zpp E 35 (38, ls, .int x :: sk, h) = if x = 0 then zrun zpp E 35 (45, ls, sk, h) else zrun zpp E 35 (41, ls, sk, h) := zrun_at (i := (.ifCond .eq 7, 41, 0, [45])) rfl
theorem zi35_41 {E : zE} {ls sk : List Value} {h : zH} : zrun zpp E 35 (41, ls, sk, h) = zrun zpp E 35 (42, ls, .int 1 :: sk, h) := zg_iconst rfl ci_1
theorem zi35_42 {E : zE} {ls sk : List Value} {h : zH} : zrun zpp E 35 (42, ls, sk, h) = zrun zpp E 35 (46, ls, sk, h) := zrun_at (i := (.goto 4, 45, 0, [46])) rfl
theorem zi35_45 {E : zE} {ls sk : List Value} {h : zH} : zrun zpp E 35 (45, ls, sk, h) = zrun zpp E 35 (46, ls, .int 0 :: sk, h) := zg_iconst rfl ci_0
theorem zi35_46 {E : zE} {x : Int32} {ls sk : List Value} {h : zH} : zrun zpp E 35 (46, ls, .int x :: sk, h) = if zfree ls 2 = true then zrun zpp E 35 (47, ls.set 2 (.int x), sk, h) else none := zg_ist rfl (fun _ _ _ => rfl)
theorem zi35_47 {E : zE} {x : Nat} {ls sk : List Value} {h : zH} : zrun zpp E 35 (47, .ref x :: ls, sk, h) = zrun zpp E 35 (48, .ref x :: ls, .ref x :: sk, h) := zrun_at (i := (.aload_n 0, 48, 0, [])) rfl
theorem zi35_47n {E : zE} {ls sk : List Value} {h : zH} : zrun zpp E 35 (47, .null :: ls, sk, h) = zrun zpp E 35 (48, .null :: ls, .null :: sk, h) := zrun_at (i := (.aload_n 0, 48, 0, [])) rfl
theorem zi35_48 {E : zE} {ls sk : List Value} {h : zH} : zrun zpp E 35 (48, ls, sk, h) = zrun zpp E 35 (49, ls, .int 0 :: sk, h) := zg_iconst rfl ci_0
theorem zi35_49 {E : zE} {x : Nat} {v : Value} {ls sk : List Value} {h : zH} : zrun zpp E 35 (49, ls, v :: .ref x :: sk, h) = (zstf [5] 0 h x 1 v).bind (fun h' => zrun zpp E 35 (52, ls, sk, h')) := zg_putf rfl
theorem zi35_52 {E : zE} {v0 v1 : Value} {x : Int32} {ls sk : List Value} {h : zH} : zrun zpp E 35 (52, v0 :: v1 :: .int x :: ls, sk, h) = zrun zpp E 35 (53, v0 :: v1 :: .int x :: ls, .int x :: sk, h) := zrun_at (i := (.iload_n 2, 53, 0, [])) rfl
theorem zi35_53 {E : zE} {x : Int32} {ls sk : List Value} {h : zH} : zrun zpp E 35 (53, ls, [.int x], h) = if x = 0 then some (some (.int 0), h) else if x = 1 then some (some (.int 1), h) else none := zrun_at (i := (.ireturn, 54, 1, [])) rfl
-- 36 NineDown$Reader.readLaw
theorem zi36_0 {E : zE} {x : Nat} {ls sk : List Value} {h : zH} : zrun zpp E 36 (0, .ref x :: ls, sk, h) = zrun zpp E 36 (1, .ref x :: ls, .ref x :: sk, h) := zrun_at (i := (.aload_n 0, 1, 0, [])) rfl
theorem zi36_0n {E : zE} {ls sk : List Value} {h : zH} : zrun zpp E 36 (0, .null :: ls, sk, h) = zrun zpp E 36 (1, .null :: ls, .null :: sk, h) := zrun_at (i := (.aload_n 0, 1, 0, [])) rfl
theorem zi36_1 {E : zE} {ls sk : List Value} {h : zH} : zrun zpp E 36 (1, ls, sk, h) = zrun zpp E 36 (3, ls, .int 121 :: sk, h) := zg_bipush rfl ci_121
theorem zi36_3 {E : zE} {a0 : Value} {x : Nat} {ls sk : List Value} {h : zH} : zrun zpp E 36 (3, ls, a0 :: .ref x :: sk, h) = (zcls h x).bind (fun d => (zsel d [5, 45]).bind (fun M' => zcl1 E 36 6 M' ls sk [.ref x, a0] h)) := zg_vir (as := [a0]) rfl rfl
theorem zi36_6 {E : zE} {x : Int32} {ls sk : List Value} {h : zH} : zrun zpp E 36 (6, ls, .int x :: sk, h) = if x = 0 then zrun zpp E 36 (19, ls, sk, h) else zrun zpp E 36 (9, ls, sk, h) := zrun_at (i := (.ifCond .eq 13, 9, 0, [19])) rfl
theorem zi36_9 {E : zE} {x : Nat} {ls sk : List Value} {h : zH} : zrun zpp E 36 (9, .ref x :: ls, sk, h) = zrun zpp E 36 (10, .ref x :: ls, .ref x :: sk, h) := zrun_at (i := (.aload_n 0, 10, 0, [])) rfl
theorem zi36_9n {E : zE} {ls sk : List Value} {h : zH} : zrun zpp E 36 (9, .null :: ls, sk, h) = zrun zpp E 36 (10, .null :: ls, .null :: sk, h) := zrun_at (i := (.aload_n 0, 10, 0, [])) rfl
theorem zi36_10 {E : zE} {ls sk : List Value} {h : zH} : zrun zpp E 36 (10, ls, sk, h) = zrun zpp E 36 (11, ls, .int 1 :: sk, h) := zg_iconst rfl ci_1
theorem zi36_11 {E : zE} {ls sk : List Value} {h : zH} : zrun zpp E 36 (11, ls, sk, h) = zrun zpp E 36 (13, ls, .int 9 :: sk, h) := zg_bipush rfl ci_9
theorem zi36_13 {E : zE} {a0 a1 : Value} {x : Nat} {ls sk : List Value} {h : zH} : zrun zpp E 36 (13, ls, a1 :: a0 :: .ref x :: sk, h) = (zcls h x).bind (fun d => (zsel d [5, 46]).bind (fun M' => zcl1 E 36 16 M' ls sk [.ref x, a0, a1] h)) := zg_vir (as := [a0, a1]) rfl rfl
theorem zi36_16 {E : zE} {x : Int32} {ls sk : List Value} {h : zH} : zrun zpp E 36 (16, ls, .int x :: sk, h) = if x = 0 then zrun zpp E 36 (19, ls, sk, h) else zrun zpp E 36 (21, ls, sk, h) := zrun_at (i := (.ifCond .ne 5, 19, 0, [21])) rfl
theorem zi36_19 {E : zE} {ls sk : List Value} {h : zH} : zrun zpp E 36 (19, ls, sk, h) = zrun zpp E 36 (20, ls, .int 0 :: sk, h) := zg_iconst rfl ci_0
theorem zi36_20 {E : zE} {x : Int32} {ls sk : List Value} {h : zH} : zrun zpp E 36 (20, ls, [.int x], h) = if x = 0 then some (some (.int 0), h) else if x = 1 then some (some (.int 1), h) else none := zrun_at (i := (.ireturn, 21, 1, [])) rfl
theorem zi36_21 {E : zE} {v0 : Value} {x : Nat} {ls sk : List Value} {h : zH} : zrun zpp E 36 (21, v0 :: .ref x :: ls, sk, h) = zrun zpp E 36 (22, v0 :: .ref x :: ls, .ref x :: sk, h) := zrun_at (i := (.aload_n 1, 22, 0, [])) rfl
theorem zi36_21n {E : zE} {v0 : Value} {ls sk : List Value} {h : zH} : zrun zpp E 36 (21, v0 :: .null :: ls, sk, h) = zrun zpp E 36 (22, v0 :: .null :: ls, .null :: sk, h) := zrun_at (i := (.aload_n 1, 22, 0, [])) rfl
theorem zi36_22 {E : zE} {x : Nat} {ls sk : List Value} {h : zH} : zrun zpp E 36 (22, .ref x :: ls, sk, h) = zrun zpp E 36 (23, .ref x :: ls, .ref x :: sk, h) := zrun_at (i := (.aload_n 0, 23, 0, [])) rfl
theorem zi36_22n {E : zE} {ls sk : List Value} {h : zH} : zrun zpp E 36 (22, .null :: ls, sk, h) = zrun zpp E 36 (23, .null :: ls, .null :: sk, h) := zrun_at (i := (.aload_n 0, 23, 0, [])) rfl
theorem zi36_23 {E : zE} {x : Nat} {ls sk : List Value} {h : zH} : zrun zpp E 36 (23, ls, .ref x :: sk, h) = (zfld [5] h x 6).bind (fun v => zrun zpp E 36 (26, ls, v :: sk, h)) := zg_getf rfl
theorem zi36_26 {E : zE} {x : Nat} {v : Value} {ls sk : List Value} {h : zH} : zrun zpp E 36 (26, ls, v :: .ref x :: sk, h) = (zstf [9] 0 h x 0 v).bind (fun h' => zrun zpp E 36 (29, ls, sk, h')) := zg_putf rfl
theorem zi36_29 {E : zE} {x : Nat} {ls sk : List Value} {h : zH} : zrun zpp E 36 (29, .ref x :: ls, sk, h) = zrun zpp E 36 (30, .ref x :: ls, .ref x :: sk, h) := zrun_at (i := (.aload_n 0, 30, 0, [])) rfl
theorem zi36_29n {E : zE} {ls sk : List Value} {h : zH} : zrun zpp E 36 (29, .null :: ls, sk, h) = zrun zpp E 36 (30, .null :: ls, .null :: sk, h) := zrun_at (i := (.aload_n 0, 30, 0, [])) rfl
theorem zi36_30 {E : zE} {ls sk : List Value} {h : zH} : zrun zpp E 36 (30, ls, sk, h) = zrun zpp E 36 (32, ls, .int 44 :: sk, h) := zg_bipush rfl ci_44
theorem zi36_32 {E : zE} {a0 : Value} {x : Nat} {ls sk : List Value} {h : zH} : zrun zpp E 36 (32, ls, a0 :: .ref x :: sk, h) = (zcls h x).bind (fun d => (zsel d [5, 45]).bind (fun M' => zcl1 E 36 35 M' ls sk [.ref x, a0] h)) := zg_vir (as := [a0]) rfl rfl
theorem zi36_35 {E : zE} {x : Int32} {ls sk : List Value} {h : zH} : zrun zpp E 36 (35, ls, .int x :: sk, h) = if x = 0 then zrun zpp E 36 (48, ls, sk, h) else zrun zpp E 36 (38, ls, sk, h) := zrun_at (i := (.ifCond .eq 13, 38, 0, [48])) rfl
theorem zi36_38 {E : zE} {x : Nat} {ls sk : List Value} {h : zH} : zrun zpp E 36 (38, .ref x :: ls, sk, h) = zrun zpp E 36 (39, .ref x :: ls, .ref x :: sk, h) := zrun_at (i := (.aload_n 0, 39, 0, [])) rfl
theorem zi36_38n {E : zE} {ls sk : List Value} {h : zH} : zrun zpp E 36 (38, .null :: ls, sk, h) = zrun zpp E 36 (39, .null :: ls, .null :: sk, h) := zrun_at (i := (.aload_n 0, 39, 0, [])) rfl
theorem zi36_39 {E : zE} {ls sk : List Value} {h : zH} : zrun zpp E 36 (39, ls, sk, h) = zrun zpp E 36 (40, ls, .int 0 :: sk, h) := zg_iconst rfl ci_0
theorem zi36_40 {E : zE} {ls sk : List Value} {h : zH} : zrun zpp E 36 (40, ls, sk, h) = zrun zpp E 36 (42, ls, .int 9 :: sk, h) := zg_bipush rfl ci_9
theorem zi36_42 {E : zE} {a0 a1 : Value} {x : Nat} {ls sk : List Value} {h : zH} : zrun zpp E 36 (42, ls, a1 :: a0 :: .ref x :: sk, h) = (zcls h x).bind (fun d => (zsel d [5, 46]).bind (fun M' => zcl1 E 36 45 M' ls sk [.ref x, a0, a1] h)) := zg_vir (as := [a0, a1]) rfl rfl
theorem zi36_45 {E : zE} {x : Int32} {ls sk : List Value} {h : zH} : zrun zpp E 36 (45, ls, .int x :: sk, h) = if x = 0 then zrun zpp E 36 (48, ls, sk, h) else zrun zpp E 36 (50, ls, sk, h) := zrun_at (i := (.ifCond .ne 5, 48, 0, [50])) rfl
theorem zi36_48 {E : zE} {ls sk : List Value} {h : zH} : zrun zpp E 36 (48, ls, sk, h) = zrun zpp E 36 (49, ls, .int 0 :: sk, h) := zg_iconst rfl ci_0
theorem zi36_49 {E : zE} {x : Int32} {ls sk : List Value} {h : zH} : zrun zpp E 36 (49, ls, [.int x], h) = if x = 0 then some (some (.int 0), h) else if x = 1 then some (some (.int 1), h) else none := zrun_at (i := (.ireturn, 50, 1, [])) rfl
theorem zi36_50 {E : zE} {v0 : Value} {x : Nat} {ls sk : List Value} {h : zH} : zrun zpp E 36 (50, v0 :: .ref x :: ls, sk, h) = zrun zpp E 36 (51, v0 :: .ref x :: ls, .ref x :: sk, h) := zrun_at (i := (.aload_n 1, 51, 0, [])) rfl
theorem zi36_50n {E : zE} {v0 : Value} {ls sk : List Value} {h : zH} : zrun zpp E 36 (50, v0 :: .null :: ls, sk, h) = zrun zpp E 36 (51, v0 :: .null :: ls, .null :: sk, h) := zrun_at (i := (.aload_n 1, 51, 0, [])) rfl
theorem zi36_51 {E : zE} {x : Nat} {ls sk : List Value} {h : zH} : zrun zpp E 36 (51, .ref x :: ls, sk, h) = zrun zpp E 36 (52, .ref x :: ls, .ref x :: sk, h) := zrun_at (i := (.aload_n 0, 52, 0, [])) rfl
theorem zi36_51n {E : zE} {ls sk : List Value} {h : zH} : zrun zpp E 36 (51, .null :: ls, sk, h) = zrun zpp E 36 (52, .null :: ls, .null :: sk, h) := zrun_at (i := (.aload_n 0, 52, 0, [])) rfl
theorem zi36_52 {E : zE} {x : Nat} {ls sk : List Value} {h : zH} : zrun zpp E 36 (52, ls, .ref x :: sk, h) = (zfld [5] h x 6).bind (fun v => zrun zpp E 36 (55, ls, v :: sk, h)) := zg_getf rfl
theorem zi36_55 {E : zE} {x : Nat} {v : Value} {ls sk : List Value} {h : zH} : zrun zpp E 36 (55, ls, v :: .ref x :: sk, h) = (zstf [9] 0 h x 1 v).bind (fun h' => zrun zpp E 36 (58, ls, sk, h')) := zg_putf rfl
theorem zi36_58 {E : zE} {x : Nat} {ls sk : List Value} {h : zH} : zrun zpp E 36 (58, .ref x :: ls, sk, h) = zrun zpp E 36 (59, .ref x :: ls, .ref x :: sk, h) := zrun_at (i := (.aload_n 0, 59, 0, [])) rfl
theorem zi36_58n {E : zE} {ls sk : List Value} {h : zH} : zrun zpp E 36 (58, .null :: ls, sk, h) = zrun zpp E 36 (59, .null :: ls, .null :: sk, h) := zrun_at (i := (.aload_n 0, 59, 0, [])) rfl
theorem zi36_59 {E : zE} {ls sk : List Value} {h : zH} : zrun zpp E 36 (59, ls, sk, h) = zrun zpp E 36 (61, ls, .int 44 :: sk, h) := zg_bipush rfl ci_44
theorem zi36_61 {E : zE} {a0 : Value} {x : Nat} {ls sk : List Value} {h : zH} : zrun zpp E 36 (61, ls, a0 :: .ref x :: sk, h) = (zcls h x).bind (fun d => (zsel d [5, 45]).bind (fun M' => zcl1 E 36 64 M' ls sk [.ref x, a0] h)) := zg_vir (as := [a0]) rfl rfl
theorem zi36_64 {E : zE} {x : Int32} {ls sk : List Value} {h : zH} : zrun zpp E 36 (64, ls, .int x :: sk, h) = if x = 0 then zrun zpp E 36 (77, ls, sk, h) else zrun zpp E 36 (67, ls, sk, h) := zrun_at (i := (.ifCond .eq 13, 67, 0, [77])) rfl
theorem zi36_67 {E : zE} {x : Nat} {ls sk : List Value} {h : zH} : zrun zpp E 36 (67, .ref x :: ls, sk, h) = zrun zpp E 36 (68, .ref x :: ls, .ref x :: sk, h) := zrun_at (i := (.aload_n 0, 68, 0, [])) rfl
theorem zi36_67n {E : zE} {ls sk : List Value} {h : zH} : zrun zpp E 36 (67, .null :: ls, sk, h) = zrun zpp E 36 (68, .null :: ls, .null :: sk, h) := zrun_at (i := (.aload_n 0, 68, 0, [])) rfl
theorem zi36_68 {E : zE} {ls sk : List Value} {h : zH} : zrun zpp E 36 (68, ls, sk, h) = zrun zpp E 36 (69, ls, .int 0 :: sk, h) := zg_iconst rfl ci_0
theorem zi36_69 {E : zE} {ls sk : List Value} {h : zH} : zrun zpp E 36 (69, ls, sk, h) = zrun zpp E 36 (71, ls, .int 20 :: sk, h) := zg_bipush rfl ci_20
theorem zi36_71 {E : zE} {a0 a1 : Value} {x : Nat} {ls sk : List Value} {h : zH} : zrun zpp E 36 (71, ls, a1 :: a0 :: .ref x :: sk, h) = (zcls h x).bind (fun d => (zsel d [5, 46]).bind (fun M' => zcl1 E 36 74 M' ls sk [.ref x, a0, a1] h)) := zg_vir (as := [a0, a1]) rfl rfl
theorem zi36_74 {E : zE} {x : Int32} {ls sk : List Value} {h : zH} : zrun zpp E 36 (74, ls, .int x :: sk, h) = if x = 0 then zrun zpp E 36 (77, ls, sk, h) else zrun zpp E 36 (79, ls, sk, h) := zrun_at (i := (.ifCond .ne 5, 77, 0, [79])) rfl
theorem zi36_77 {E : zE} {ls sk : List Value} {h : zH} : zrun zpp E 36 (77, ls, sk, h) = zrun zpp E 36 (78, ls, .int 0 :: sk, h) := zg_iconst rfl ci_0
theorem zi36_78 {E : zE} {x : Int32} {ls sk : List Value} {h : zH} : zrun zpp E 36 (78, ls, [.int x], h) = if x = 0 then some (some (.int 0), h) else if x = 1 then some (some (.int 1), h) else none := zrun_at (i := (.ireturn, 79, 1, [])) rfl
theorem zi36_79 {E : zE} {v0 : Value} {x : Nat} {ls sk : List Value} {h : zH} : zrun zpp E 36 (79, v0 :: .ref x :: ls, sk, h) = zrun zpp E 36 (80, v0 :: .ref x :: ls, .ref x :: sk, h) := zrun_at (i := (.aload_n 1, 80, 0, [])) rfl
theorem zi36_79n {E : zE} {v0 : Value} {ls sk : List Value} {h : zH} : zrun zpp E 36 (79, v0 :: .null :: ls, sk, h) = zrun zpp E 36 (80, v0 :: .null :: ls, .null :: sk, h) := zrun_at (i := (.aload_n 1, 80, 0, [])) rfl
theorem zi36_80 {E : zE} {x : Nat} {ls sk : List Value} {h : zH} : zrun zpp E 36 (80, .ref x :: ls, sk, h) = zrun zpp E 36 (81, .ref x :: ls, .ref x :: sk, h) := zrun_at (i := (.aload_n 0, 81, 0, [])) rfl
theorem zi36_80n {E : zE} {ls sk : List Value} {h : zH} : zrun zpp E 36 (80, .null :: ls, sk, h) = zrun zpp E 36 (81, .null :: ls, .null :: sk, h) := zrun_at (i := (.aload_n 0, 81, 0, [])) rfl
theorem zi36_81 {E : zE} {x : Nat} {ls sk : List Value} {h : zH} : zrun zpp E 36 (81, ls, .ref x :: sk, h) = (zfld [5] h x 6).bind (fun v => zrun zpp E 36 (84, ls, v :: sk, h)) := zg_getf rfl
theorem zi36_84 {E : zE} {x : Nat} {v : Value} {ls sk : List Value} {h : zH} : zrun zpp E 36 (84, ls, v :: .ref x :: sk, h) = (zstf [9] 0 h x 2 v).bind (fun h' => zrun zpp E 36 (87, ls, sk, h')) := zg_putf rfl
theorem zi36_87 {E : zE} {x : Nat} {ls sk : List Value} {h : zH} : zrun zpp E 36 (87, .ref x :: ls, sk, h) = zrun zpp E 36 (88, .ref x :: ls, .ref x :: sk, h) := zrun_at (i := (.aload_n 0, 88, 0, [])) rfl
theorem zi36_87n {E : zE} {ls sk : List Value} {h : zH} : zrun zpp E 36 (87, .null :: ls, sk, h) = zrun zpp E 36 (88, .null :: ls, .null :: sk, h) := zrun_at (i := (.aload_n 0, 88, 0, [])) rfl
theorem zi36_88 {E : zE} {ls sk : List Value} {h : zH} : zrun zpp E 36 (88, ls, sk, h) = zrun zpp E 36 (90, ls, .int 59 :: sk, h) := zg_bipush rfl ci_59
theorem zi36_90 {E : zE} {a0 : Value} {x : Nat} {ls sk : List Value} {h : zH} : zrun zpp E 36 (90, ls, a0 :: .ref x :: sk, h) = (zcls h x).bind (fun d => (zsel d [5, 45]).bind (fun M' => zcl1 E 36 93 M' ls sk [.ref x, a0] h)) := zg_vir (as := [a0]) rfl rfl
theorem zi36_93 {E : zE} {x : Int32} {ls sk : List Value} {h : zH} : zrun zpp E 36 (93, ls, [.int x], h) = if x = 0 then some (some (.int 0), h) else if x = 1 then some (some (.int 1), h) else none := zrun_at (i := (.ireturn, 94, 1, [])) rfl
-- 37 NineDown$Reader.readBikes
theorem zi37_0 {E : zE} {x : Nat} {ls sk : List Value} {h : zH} : zrun zpp E 37 (0, .ref x :: ls, sk, h) = zrun zpp E 37 (1, .ref x :: ls, .ref x :: sk, h) := zrun_at (i := (.aload_n 0, 1, 0, [])) rfl
theorem zi37_0n {E : zE} {ls sk : List Value} {h : zH} : zrun zpp E 37 (0, .null :: ls, sk, h) = zrun zpp E 37 (1, .null :: ls, .null :: sk, h) := zrun_at (i := (.aload_n 0, 1, 0, [])) rfl
theorem zi37_1 {E : zE} {ls sk : List Value} {h : zH} : zrun zpp E 37 (1, ls, sk, h) = zrun zpp E 37 (3, ls, .int 107 :: sk, h) := zg_bipush rfl ci_107
theorem zi37_3 {E : zE} {a0 : Value} {x : Nat} {ls sk : List Value} {h : zH} : zrun zpp E 37 (3, ls, a0 :: .ref x :: sk, h) = (zcls h x).bind (fun d => (zsel d [5, 45]).bind (fun M' => zcl1 E 37 6 M' ls sk [.ref x, a0] h)) := zg_vir (as := [a0]) rfl rfl
theorem zi37_6 {E : zE} {x : Int32} {ls sk : List Value} {h : zH} : zrun zpp E 37 (6, ls, .int x :: sk, h) = if zfree ls 2 = true then zrun zpp E 37 (7, ls.set 2 (.int x), sk, h) else none := zg_ist rfl (fun _ _ _ => rfl)
theorem zi37_7 {E : zE} {ls sk : List Value} {h : zH} : zrun zpp E 37 (7, ls, sk, h) = zrun zpp E 37 (8, ls, .int 0 :: sk, h) := zg_iconst rfl ci_0
theorem zi37_8 {E : zE} {x : Int32} {ls sk : List Value} {h : zH} : zrun zpp E 37 (8, ls, .int x :: sk, h) = if zfree ls 3 = true then zrun zpp E 37 (9, ls.set 3 (.int x), sk, h) else none := zg_ist rfl (fun _ _ _ => rfl)
theorem zi37_9 {E : zE} {v0 v1 v2 : Value} {x : Int32} {ls sk : List Value} {h : zH} : zrun zpp E 37 (9, v0 :: v1 :: v2 :: .int x :: ls, sk, h) = zrun zpp E 37 (10, v0 :: v1 :: v2 :: .int x :: ls, .int x :: sk, h) := zrun_at (i := (.iload_n 3, 10, 0, [])) rfl
theorem zi37_10 {E : zE} {ls sk : List Value} {h : zH} : zrun zpp E 37 (10, ls, sk, h) = zrun zpp E 37 (12, ls, .int 8 :: sk, h) := zg_bipush rfl ci_8
theorem zi37_12 {E : zE} {x y : Int32} {ls sk : List Value} {h : zH} : zrun zpp E 37 (12, ls, .int y :: .int x :: sk, h) = if y < x then zrun zpp E 37 (55, ls, sk, h) else zrun zpp E 37 (15, ls, sk, h) := zrun_at (i := (.if_icmp .gt 43, 15, 0, [55])) rfl
theorem zi37_15 {E : zE} {v0 v1 : Value} {x : Int32} {ls sk : List Value} {h : zH} : zrun zpp E 37 (15, v0 :: v1 :: .int x :: ls, sk, h) = zrun zpp E 37 (16, v0 :: v1 :: .int x :: ls, .int x :: sk, h) := zrun_at (i := (.iload_n 2, 16, 0, [])) rfl
theorem zi37_16 {E : zE} {x : Int32} {ls sk : List Value} {h : zH} : zrun zpp E 37 (16, ls, .int x :: sk, h) = if x = 0 then zrun zpp E 37 (55, ls, sk, h) else zrun zpp E 37 (19, ls, sk, h) := zrun_at (i := (.ifCond .eq 39, 19, 0, [55])) rfl
theorem zi37_19 {E : zE} {x : Nat} {ls sk : List Value} {h : zH} : zrun zpp E 37 (19, .ref x :: ls, sk, h) = zrun zpp E 37 (20, .ref x :: ls, .ref x :: sk, h) := zrun_at (i := (.aload_n 0, 20, 0, [])) rfl
theorem zi37_19n {E : zE} {ls sk : List Value} {h : zH} : zrun zpp E 37 (19, .null :: ls, sk, h) = zrun zpp E 37 (20, .null :: ls, .null :: sk, h) := zrun_at (i := (.aload_n 0, 20, 0, [])) rfl
theorem zi37_20 {E : zE} {x : Nat} {ls sk : List Value} {h : zH} : zrun zpp E 37 (20, ls, .ref x :: sk, h) = (zfld [5] h x 5).bind (fun v => zrun zpp E 37 (23, ls, v :: sk, h)) := zg_getf rfl
theorem zi37_23 {E : zE} {ls sk : List Value} {h : zH} : zrun zpp E 37 (23, ls, sk, h) = zrun zpp E 37 (25, ls, .int 107 :: sk, h) := zg_bipush rfl ci_107
theorem zi37_25 {E : zE} {x y : Int32} {ls sk : List Value} {h : zH} : zrun zpp E 37 (25, ls, .int y :: .int x :: sk, h) = if x = y then zrun zpp E 37 (28, ls, sk, h) else zrun zpp E 37 (55, ls, sk, h) := zrun_at (i := (.if_icmp .ne 30, 28, 0, [55])) rfl
theorem zi37_28 {E : zE} {x : Nat} {ls sk : List Value} {h : zH} : zrun zpp E 37 (28, .ref x :: ls, sk, h) = zrun zpp E 37 (29, .ref x :: ls, .ref x :: sk, h) := zrun_at (i := (.aload_n 0, 29, 0, [])) rfl
theorem zi37_28n {E : zE} {ls sk : List Value} {h : zH} : zrun zpp E 37 (28, .null :: ls, sk, h) = zrun zpp E 37 (29, .null :: ls, .null :: sk, h) := zrun_at (i := (.aload_n 0, 29, 0, [])) rfl
theorem zi37_29 {E : zE} {v0 : Value} {x : Nat} {ls sk : List Value} {h : zH} : zrun zpp E 37 (29, v0 :: .ref x :: ls, sk, h) = zrun zpp E 37 (30, v0 :: .ref x :: ls, .ref x :: sk, h) := zrun_at (i := (.aload_n 1, 30, 0, [])) rfl
theorem zi37_29n {E : zE} {v0 : Value} {ls sk : List Value} {h : zH} : zrun zpp E 37 (29, v0 :: .null :: ls, sk, h) = zrun zpp E 37 (30, v0 :: .null :: ls, .null :: sk, h) := zrun_at (i := (.aload_n 1, 30, 0, [])) rfl
theorem zi37_30 {E : zE} {a0 : Value} {x : Nat} {ls sk : List Value} {h : zH} : zrun zpp E 37 (30, ls, a0 :: .ref x :: sk, h) = (zcls h x).bind (fun d => (zsel d [5, 38]).bind (fun M' => zcl1 E 37 33 M' ls sk [.ref x, a0] h)) := zg_vir (as := [a0]) rfl rfl
theorem zi37_33 {E : zE} {x : Int32} {ls sk : List Value} {h : zH} : zrun zpp E 37 (33, ls, .int x :: sk, h) = if x = 0 then zrun zpp E 37 (47, ls, sk, h) else zrun zpp E 37 (36, ls, sk, h) := zrun_at (i := (.ifCond .eq 14, 36, 0, [47])) rfl
theorem zi37_36 {E : zE} {x : Nat} {ls sk : List Value} {h : zH} : zrun zpp E 37 (36, .ref x :: ls, sk, h) = zrun zpp E 37 (37, .ref x :: ls, .ref x :: sk, h) := zrun_at (i := (.aload_n 0, 37, 0, [])) rfl
theorem zi37_36n {E : zE} {ls sk : List Value} {h : zH} : zrun zpp E 37 (36, .null :: ls, sk, h) = zrun zpp E 37 (37, .null :: ls, .null :: sk, h) := zrun_at (i := (.aload_n 0, 37, 0, [])) rfl
theorem zi37_37 {E : zE} {x : Nat} {ls sk : List Value} {h : zH} : zrun zpp E 37 (37, ls, .ref x :: sk, h) = (zcls h x).bind (fun d => (zsel d [5, 44]).bind (fun M' => zcl1 E 37 40 M' ls sk [.ref x] h)) := zg_vir (as := []) rfl rfl
theorem zi37_40 {E : zE} {x : Int32} {ls sk : List Value} {h : zH} : zrun zpp E 37 (40, ls, .int x :: sk, h) = if x = 0 then zrun zpp E 37 (47, ls, sk, h) else zrun zpp E 37 (43, ls, sk, h) := zrun_at (i := (.ifCond .eq 7, 43, 0, [47])) rfl
theorem zi37_43 {E : zE} {ls sk : List Value} {h : zH} : zrun zpp E 37 (43, ls, sk, h) = zrun zpp E 37 (44, ls, .int 1 :: sk, h) := zg_iconst rfl ci_1
theorem zi37_44 {E : zE} {ls sk : List Value} {h : zH} : zrun zpp E 37 (44, ls, sk, h) = zrun zpp E 37 (48, ls, sk, h) := zrun_at (i := (.goto 4, 47, 0, [48])) rfl
theorem zi37_47 {E : zE} {ls sk : List Value} {h : zH} : zrun zpp E 37 (47, ls, sk, h) = zrun zpp E 37 (48, ls, .int 0 :: sk, h) := zg_iconst rfl ci_0
theorem zi37_48 {E : zE} {x : Int32} {ls sk : List Value} {h : zH} : zrun zpp E 37 (48, ls, .int x :: sk, h) = if zfree ls 2 = true then zrun zpp E 37 (49, ls.set 2 (.int x), sk, h) else none := zg_ist rfl (fun _ _ _ => rfl)
theorem zi37_49 {E : zE} {v0 v1 v2 : Value} {x : Int32} {ls sk : List Value} {h : zH} : zrun zpp E 37 (49, v0 :: v1 :: v2 :: .int x :: ls, sk, h) = if zfree (v0 :: v1 :: v2 :: .int x :: ls) 3 = true then zrun zpp E 37 (52, v0 :: v1 :: v2 :: .int (x + 1) :: ls, sk, h) else none := by rw [← ci_1]; exact zrun_at (i := (.iinc 3 1, 52, 0, [])) rfl
theorem zi37_52 {E : zE} {ls sk : List Value} {h : zH} : zrun zpp E 37 (52, ls, sk, h) = zrun zpp E 37 (9, ls, sk, h) := zrun_at (i := (.goto (-43), 55, 0, [9])) rfl
theorem zi37_55 {E : zE} {v0 v1 : Value} {x : Int32} {ls sk : List Value} {h : zH} : zrun zpp E 37 (55, v0 :: v1 :: .int x :: ls, sk, h) = zrun zpp E 37 (56, v0 :: v1 :: .int x :: ls, .int x :: sk, h) := zrun_at (i := (.iload_n 2, 56, 0, [])) rfl
theorem zi37_56 {E : zE} {x : Int32} {ls sk : List Value} {h : zH} : zrun zpp E 37 (56, ls, [.int x], h) = if x = 0 then some (some (.int 0), h) else if x = 1 then some (some (.int 1), h) else none := zrun_at (i := (.ireturn, 57, 1, [])) rfl
-- 38 NineDown$Reader.readBike
theorem zi38_0 {E : zE} {v0 : Value} {x : Nat} {ls sk : List Value} {h : zH} : zrun zpp E 38 (0, v0 :: .ref x :: ls, sk, h) = zrun zpp E 38 (1, v0 :: .ref x :: ls, .ref x :: sk, h) := zrun_at (i := (.aload_n 1, 1, 0, [])) rfl
theorem zi38_0n {E : zE} {v0 : Value} {ls sk : List Value} {h : zH} : zrun zpp E 38 (0, v0 :: .null :: ls, sk, h) = zrun zpp E 38 (1, v0 :: .null :: ls, .null :: sk, h) := zrun_at (i := (.aload_n 1, 1, 0, [])) rfl
theorem zi38_1 {E : zE} {x : Nat} {ls sk : List Value} {h : zH} : zrun zpp E 38 (1, ls, .ref x :: sk, h) = (zfld [9] h x 3).bind (fun v => zrun zpp E 38 (4, ls, v :: sk, h)) := zg_getf rfl
theorem zi38_4 {E : zE} {ls sk : List Value} {h : zH} : zrun zpp E 38 (4, ls, sk, h) = zrun zpp E 38 (6, ls, .int 8 :: sk, h) := zg_bipush rfl ci_8
theorem zi38_6 {E : zE} {x y : Int32} {ls sk : List Value} {h : zH} : zrun zpp E 38 (6, ls, .int y :: .int x :: sk, h) = if x < y then zrun zpp E 38 (15, ls, sk, h) else zrun zpp E 38 (9, ls, sk, h) := zrun_at (i := (.if_icmp .lt 9, 9, 0, [15])) rfl
theorem zi38_9 {E : zE} {x : Nat} {ls sk : List Value} {h : zH} : zrun zpp E 38 (9, .ref x :: ls, sk, h) = zrun zpp E 38 (10, .ref x :: ls, .ref x :: sk, h) := zrun_at (i := (.aload_n 0, 10, 0, [])) rfl
theorem zi38_9n {E : zE} {ls sk : List Value} {h : zH} : zrun zpp E 38 (9, .null :: ls, sk, h) = zrun zpp E 38 (10, .null :: ls, .null :: sk, h) := zrun_at (i := (.aload_n 0, 10, 0, [])) rfl
theorem zi38_10 {E : zE} {ls sk : List Value} {h : zH} : zrun zpp E 38 (10, ls, sk, h) = zrun zpp E 38 (11, ls, .int 3 :: sk, h) := zg_iconst rfl ci_3
theorem zi38_11 {E : zE} {a0 : Value} {x : Nat} {ls sk : List Value} {h : zH} : zrun zpp E 38 (11, ls, a0 :: .ref x :: sk, h) = (zcls h x).bind (fun d => (zsel d [5, 47]).bind (fun M' => zcl1 E 38 14 M' ls sk [.ref x, a0] h)) := zg_vir (as := [a0]) rfl rfl
theorem zi38_14 {E : zE} {x : Int32} {ls sk : List Value} {h : zH} : zrun zpp E 38 (14, ls, [.int x], h) = if x = 0 then some (some (.int 0), h) else if x = 1 then some (some (.int 1), h) else none := zrun_at (i := (.ireturn, 15, 1, [])) rfl
theorem zi38_15 {E : zE} {x : Nat} {ls sk : List Value} {h : zH} : zrun zpp E 38 (15, .ref x :: ls, sk, h) = zrun zpp E 38 (16, .ref x :: ls, .ref x :: sk, h) := zrun_at (i := (.aload_n 0, 16, 0, [])) rfl
theorem zi38_15n {E : zE} {ls sk : List Value} {h : zH} : zrun zpp E 38 (15, .null :: ls, sk, h) = zrun zpp E 38 (16, .null :: ls, .null :: sk, h) := zrun_at (i := (.aload_n 0, 16, 0, [])) rfl
theorem zi38_16 {E : zE} {ls sk : List Value} {h : zH} : zrun zpp E 38 (16, ls, sk, h) = zrun zpp E 38 (17, ls, .int 1 :: sk, h) := zg_iconst rfl ci_1
theorem zi38_17 {E : zE} {ls sk : List Value} {h : zH} : zrun zpp E 38 (17, ls, sk, h) = zrun zpp E 38 (19, ls, .int 30 :: sk, h) := zg_bipush rfl ci_30
theorem zi38_19 {E : zE} {a0 a1 : Value} {x : Nat} {ls sk : List Value} {h : zH} : zrun zpp E 38 (19, ls, a1 :: a0 :: .ref x :: sk, h) = (zcls h x).bind (fun d => (zsel d [5, 46]).bind (fun M' => zcl1 E 38 22 M' ls sk [.ref x, a0, a1] h)) := zg_vir (as := [a0, a1]) rfl rfl
theorem zi38_22 {E : zE} {x : Int32} {ls sk : List Value} {h : zH} : zrun zpp E 38 (22, ls, .int x :: sk, h) = if x = 0 then zrun zpp E 38 (25, ls, sk, h) else zrun zpp E 38 (27, ls, sk, h) := zrun_at (i := (.ifCond .ne 5, 25, 0, [27])) rfl
theorem zi38_25 {E : zE} {ls sk : List Value} {h : zH} : zrun zpp E 38 (25, ls, sk, h) = zrun zpp E 38 (26, ls, .int 0 :: sk, h) := zg_iconst rfl ci_0
theorem zi38_26 {E : zE} {x : Int32} {ls sk : List Value} {h : zH} : zrun zpp E 38 (26, ls, [.int x], h) = if x = 0 then some (some (.int 0), h) else if x = 1 then some (some (.int 1), h) else none := zrun_at (i := (.ireturn, 27, 1, [])) rfl
theorem zi38_27 {E : zE} {x : Nat} {ls sk : List Value} {h : zH} : zrun zpp E 38 (27, .ref x :: ls, sk, h) = zrun zpp E 38 (28, .ref x :: ls, .ref x :: sk, h) := zrun_at (i := (.aload_n 0, 28, 0, [])) rfl
theorem zi38_27n {E : zE} {ls sk : List Value} {h : zH} : zrun zpp E 38 (27, .null :: ls, sk, h) = zrun zpp E 38 (28, .null :: ls, .null :: sk, h) := zrun_at (i := (.aload_n 0, 28, 0, [])) rfl
theorem zi38_28 {E : zE} {x : Nat} {ls sk : List Value} {h : zH} : zrun zpp E 38 (28, ls, .ref x :: sk, h) = (zfld [5] h x 6).bind (fun v => zrun zpp E 38 (31, ls, v :: sk, h)) := zg_getf rfl
theorem zi38_31 {E : zE} {x : Int32} {ls sk : List Value} {h : zH} : zrun zpp E 38 (31, ls, .int x :: sk, h) = if zfree ls 2 = true then zrun zpp E 38 (32, ls.set 2 (.int x), sk, h) else none := zg_ist rfl (fun _ _ _ => rfl)
theorem zi38_32 {E : zE} {x : Nat} {ls sk : List Value} {h : zH} : zrun zpp E 38 (32, .ref x :: ls, sk, h) = zrun zpp E 38 (33, .ref x :: ls, .ref x :: sk, h) := zrun_at (i := (.aload_n 0, 33, 0, [])) rfl
theorem zi38_32n {E : zE} {ls sk : List Value} {h : zH} : zrun zpp E 38 (32, .null :: ls, sk, h) = zrun zpp E 38 (33, .null :: ls, .null :: sk, h) := zrun_at (i := (.aload_n 0, 33, 0, [])) rfl
theorem zi38_33 {E : zE} {ls sk : List Value} {h : zH} : zrun zpp E 38 (33, ls, sk, h) = zrun zpp E 38 (35, ls, .int 44 :: sk, h) := zg_bipush rfl ci_44
theorem zi38_35 {E : zE} {a0 : Value} {x : Nat} {ls sk : List Value} {h : zH} : zrun zpp E 38 (35, ls, a0 :: .ref x :: sk, h) = (zcls h x).bind (fun d => (zsel d [5, 45]).bind (fun M' => zcl1 E 38 38 M' ls sk [.ref x, a0] h)) := zg_vir (as := [a0]) rfl rfl
theorem zi38_38 {E : zE} {x : Int32} {ls sk : List Value} {h : zH} : zrun zpp E 38 (38, ls, .int x :: sk, h) = if x = 0 then zrun zpp E 38 (51, ls, sk, h) else zrun zpp E 38 (41, ls, sk, h) := zrun_at (i := (.ifCond .eq 13, 41, 0, [51])) rfl
theorem zi38_41 {E : zE} {x : Nat} {ls sk : List Value} {h : zH} : zrun zpp E 38 (41, .ref x :: ls, sk, h) = zrun zpp E 38 (42, .ref x :: ls, .ref x :: sk, h) := zrun_at (i := (.aload_n 0, 42, 0, [])) rfl
theorem zi38_41n {E : zE} {ls sk : List Value} {h : zH} : zrun zpp E 38 (41, .null :: ls, sk, h) = zrun zpp E 38 (42, .null :: ls, .null :: sk, h) := zrun_at (i := (.aload_n 0, 42, 0, [])) rfl
theorem zi38_42 {E : zE} {ls sk : List Value} {h : zH} : zrun zpp E 38 (42, ls, sk, h) = zrun zpp E 38 (43, ls, .int 1 :: sk, h) := zg_iconst rfl ci_1
theorem zi38_43 {E : zE} {ls sk : List Value} {h : zH} : zrun zpp E 38 (43, ls, sk, h) = zrun zpp E 38 (45, ls, .int 20 :: sk, h) := zg_bipush rfl ci_20
theorem zi38_45 {E : zE} {a0 a1 : Value} {x : Nat} {ls sk : List Value} {h : zH} : zrun zpp E 38 (45, ls, a1 :: a0 :: .ref x :: sk, h) = (zcls h x).bind (fun d => (zsel d [5, 46]).bind (fun M' => zcl1 E 38 48 M' ls sk [.ref x, a0, a1] h)) := zg_vir (as := [a0, a1]) rfl rfl
theorem zi38_48 {E : zE} {x : Int32} {ls sk : List Value} {h : zH} : zrun zpp E 38 (48, ls, .int x :: sk, h) = if x = 0 then zrun zpp E 38 (51, ls, sk, h) else zrun zpp E 38 (53, ls, sk, h) := zrun_at (i := (.ifCond .ne 5, 51, 0, [53])) rfl
theorem zi38_51 {E : zE} {ls sk : List Value} {h : zH} : zrun zpp E 38 (51, ls, sk, h) = zrun zpp E 38 (52, ls, .int 0 :: sk, h) := zg_iconst rfl ci_0
theorem zi38_52 {E : zE} {x : Int32} {ls sk : List Value} {h : zH} : zrun zpp E 38 (52, ls, [.int x], h) = if x = 0 then some (some (.int 0), h) else if x = 1 then some (some (.int 1), h) else none := zrun_at (i := (.ireturn, 53, 1, [])) rfl
theorem zi38_53 {E : zE} {v0 : Value} {x : Nat} {ls sk : List Value} {h : zH} : zrun zpp E 38 (53, v0 :: .ref x :: ls, sk, h) = zrun zpp E 38 (54, v0 :: .ref x :: ls, .ref x :: sk, h) := zrun_at (i := (.aload_n 1, 54, 0, [])) rfl
theorem zi38_53n {E : zE} {v0 : Value} {ls sk : List Value} {h : zH} : zrun zpp E 38 (53, v0 :: .null :: ls, sk, h) = zrun zpp E 38 (54, v0 :: .null :: ls, .null :: sk, h) := zrun_at (i := (.aload_n 1, 54, 0, [])) rfl
theorem zi38_54 {E : zE} {v0 v1 : Value} {x : Int32} {ls sk : List Value} {h : zH} : zrun zpp E 38 (54, v0 :: v1 :: .int x :: ls, sk, h) = zrun zpp E 38 (55, v0 :: v1 :: .int x :: ls, .int x :: sk, h) := zrun_at (i := (.iload_n 2, 55, 0, [])) rfl
theorem zi38_55 {E : zE} {x : Nat} {ls sk : List Value} {h : zH} : zrun zpp E 38 (55, .ref x :: ls, sk, h) = zrun zpp E 38 (56, .ref x :: ls, .ref x :: sk, h) := zrun_at (i := (.aload_n 0, 56, 0, [])) rfl
theorem zi38_55n {E : zE} {ls sk : List Value} {h : zH} : zrun zpp E 38 (55, .null :: ls, sk, h) = zrun zpp E 38 (56, .null :: ls, .null :: sk, h) := zrun_at (i := (.aload_n 0, 56, 0, [])) rfl
theorem zi38_56 {E : zE} {x : Nat} {ls sk : List Value} {h : zH} : zrun zpp E 38 (56, ls, .ref x :: sk, h) = (zfld [5] h x 6).bind (fun v => zrun zpp E 38 (59, ls, v :: sk, h)) := zg_getf rfl
theorem zi38_59 {E : zE} {a0 a1 : Value} {x : Nat} {ls sk : List Value} {h : zH} : zrun zpp E 38 (59, ls, a1 :: a0 :: .ref x :: sk, h) = (zcls h x).bind (fun d => (zsel d [9, 66]).bind (fun M' => zcl1 E 38 62 M' ls sk [.ref x, a0, a1] h)) := zg_vir (as := [a0, a1]) rfl rfl
theorem zi38_62 {E : zE} {ls sk : List Value} {h : zH} : zrun zpp E 38 (62, ls, sk, h) = zrun zpp E 38 (63, ls, .int 1 :: sk, h) := zg_iconst rfl ci_1
theorem zi38_63 {E : zE} {x : Int32} {ls sk : List Value} {h : zH} : zrun zpp E 38 (63, ls, [.int x], h) = if x = 0 then some (some (.int 0), h) else if x = 1 then some (some (.int 1), h) else none := zrun_at (i := (.ireturn, 64, 1, [])) rfl
-- 39 NineDown$Reader.readHolds
theorem zi39_0 {E : zE} {ls sk : List Value} {h : zH} : zrun zpp E 39 (0, ls, sk, h) = zrun zpp E 39 (1, ls, .int 1 :: sk, h) := zg_iconst rfl ci_1
theorem zi39_1 {E : zE} {x : Int32} {ls sk : List Value} {h : zH} : zrun zpp E 39 (1, ls, .int x :: sk, h) = if zfree ls 2 = true then zrun zpp E 39 (2, ls.set 2 (.int x), sk, h) else none := zg_ist rfl (fun _ _ _ => rfl)
theorem zi39_2 {E : zE} {ls sk : List Value} {h : zH} : zrun zpp E 39 (2, ls, sk, h) = zrun zpp E 39 (3, ls, .int 0 :: sk, h) := zg_iconst rfl ci_0
theorem zi39_3 {E : zE} {x : Int32} {ls sk : List Value} {h : zH} : zrun zpp E 39 (3, ls, .int x :: sk, h) = if zfree ls 3 = true then zrun zpp E 39 (4, ls.set 3 (.int x), sk, h) else none := zg_ist rfl (fun _ _ _ => rfl)
theorem zi39_4 {E : zE} {v0 v1 v2 : Value} {x : Int32} {ls sk : List Value} {h : zH} : zrun zpp E 39 (4, v0 :: v1 :: v2 :: .int x :: ls, sk, h) = zrun zpp E 39 (5, v0 :: v1 :: v2 :: .int x :: ls, .int x :: sk, h) := zrun_at (i := (.iload_n 3, 5, 0, [])) rfl
theorem zi39_5 {E : zE} {ls sk : List Value} {h : zH} : zrun zpp E 39 (5, ls, sk, h) = zrun zpp E 39 (7, ls, .int 10 :: sk, h) := zg_bipush rfl ci_10
theorem zi39_7 {E : zE} {x y : Int32} {ls sk : List Value} {h : zH} : zrun zpp E 39 (7, ls, .int y :: .int x :: sk, h) = if y < x then zrun zpp E 39 (73, ls, sk, h) else zrun zpp E 39 (10, ls, sk, h) := zrun_at (i := (.if_icmp .gt 66, 10, 0, [73])) rfl
theorem zi39_10 {E : zE} {v0 v1 : Value} {x : Int32} {ls sk : List Value} {h : zH} : zrun zpp E 39 (10, v0 :: v1 :: .int x :: ls, sk, h) = zrun zpp E 39 (11, v0 :: v1 :: .int x :: ls, .int x :: sk, h) := zrun_at (i := (.iload_n 2, 11, 0, [])) rfl
theorem zi39_11 {E : zE} {x : Int32} {ls sk : List Value} {h : zH} : zrun zpp E 39 (11, ls, .int x :: sk, h) = if x = 0 then zrun zpp E 39 (73, ls, sk, h) else zrun zpp E 39 (14, ls, sk, h) := zrun_at (i := (.ifCond .eq 62, 14, 0, [73])) rfl
theorem zi39_14 {E : zE} {x : Nat} {ls sk : List Value} {h : zH} : zrun zpp E 39 (14, .ref x :: ls, sk, h) = zrun zpp E 39 (15, .ref x :: ls, .ref x :: sk, h) := zrun_at (i := (.aload_n 0, 15, 0, [])) rfl
theorem zi39_14n {E : zE} {ls sk : List Value} {h : zH} : zrun zpp E 39 (14, .null :: ls, sk, h) = zrun zpp E 39 (15, .null :: ls, .null :: sk, h) := zrun_at (i := (.aload_n 0, 15, 0, [])) rfl
theorem zi39_15 {E : zE} {x : Nat} {ls sk : List Value} {h : zH} : zrun zpp E 39 (15, ls, .ref x :: sk, h) = (zfld [5] h x 5).bind (fun v => zrun zpp E 39 (18, ls, v :: sk, h)) := zg_getf rfl
theorem zi39_18 {E : zE} {ls sk : List Value} {h : zH} : zrun zpp E 39 (18, ls, sk, h) = zrun zpp E 39 (20, ls, .int 111 :: sk, h) := zg_bipush rfl ci_111
theorem zi39_20 {E : zE} {x y : Int32} {ls sk : List Value} {h : zH} : zrun zpp E 39 (20, ls, .int y :: .int x :: sk, h) = if x = y then zrun zpp E 39 (32, ls, sk, h) else zrun zpp E 39 (23, ls, sk, h) := zrun_at (i := (.if_icmp .eq 12, 23, 0, [32])) rfl
theorem zi39_23 {E : zE} {x : Nat} {ls sk : List Value} {h : zH} : zrun zpp E 39 (23, .ref x :: ls, sk, h) = zrun zpp E 39 (24, .ref x :: ls, .ref x :: sk, h) := zrun_at (i := (.aload_n 0, 24, 0, [])) rfl
theorem zi39_23n {E : zE} {ls sk : List Value} {h : zH} : zrun zpp E 39 (23, .null :: ls, sk, h) = zrun zpp E 39 (24, .null :: ls, .null :: sk, h) := zrun_at (i := (.aload_n 0, 24, 0, [])) rfl
theorem zi39_24 {E : zE} {x : Nat} {ls sk : List Value} {h : zH} : zrun zpp E 39 (24, ls, .ref x :: sk, h) = (zfld [5] h x 5).bind (fun v => zrun zpp E 39 (27, ls, v :: sk, h)) := zg_getf rfl
theorem zi39_27 {E : zE} {ls sk : List Value} {h : zH} : zrun zpp E 39 (27, ls, sk, h) = zrun zpp E 39 (29, ls, .int 99 :: sk, h) := zg_bipush rfl ci_99
theorem zi39_29 {E : zE} {x y : Int32} {ls sk : List Value} {h : zH} : zrun zpp E 39 (29, ls, .int y :: .int x :: sk, h) = if x = y then zrun zpp E 39 (32, ls, sk, h) else zrun zpp E 39 (73, ls, sk, h) := zrun_at (i := (.if_icmp .ne 44, 32, 0, [73])) rfl
theorem zi39_32 {E : zE} {x : Nat} {ls sk : List Value} {h : zH} : zrun zpp E 39 (32, .ref x :: ls, sk, h) = zrun zpp E 39 (33, .ref x :: ls, .ref x :: sk, h) := zrun_at (i := (.aload_n 0, 33, 0, [])) rfl
theorem zi39_32n {E : zE} {ls sk : List Value} {h : zH} : zrun zpp E 39 (32, .null :: ls, sk, h) = zrun zpp E 39 (33, .null :: ls, .null :: sk, h) := zrun_at (i := (.aload_n 0, 33, 0, [])) rfl
theorem zi39_33 {E : zE} {v0 : Value} {x : Nat} {ls sk : List Value} {h : zH} : zrun zpp E 39 (33, v0 :: .ref x :: ls, sk, h) = zrun zpp E 39 (34, v0 :: .ref x :: ls, .ref x :: sk, h) := zrun_at (i := (.aload_n 1, 34, 0, [])) rfl
theorem zi39_33n {E : zE} {v0 : Value} {ls sk : List Value} {h : zH} : zrun zpp E 39 (33, v0 :: .null :: ls, sk, h) = zrun zpp E 39 (34, v0 :: .null :: ls, .null :: sk, h) := zrun_at (i := (.aload_n 1, 34, 0, [])) rfl
theorem zi39_34 {E : zE} {x : Nat} {ls sk : List Value} {h : zH} : zrun zpp E 39 (34, .ref x :: ls, sk, h) = zrun zpp E 39 (35, .ref x :: ls, .ref x :: sk, h) := zrun_at (i := (.aload_n 0, 35, 0, [])) rfl
theorem zi39_34n {E : zE} {ls sk : List Value} {h : zH} : zrun zpp E 39 (34, .null :: ls, sk, h) = zrun zpp E 39 (35, .null :: ls, .null :: sk, h) := zrun_at (i := (.aload_n 0, 35, 0, [])) rfl
theorem zi39_35 {E : zE} {x : Nat} {ls sk : List Value} {h : zH} : zrun zpp E 39 (35, ls, .ref x :: sk, h) = (zfld [5] h x 5).bind (fun v => zrun zpp E 39 (38, ls, v :: sk, h)) := zg_getf rfl
theorem zi39_38 {E : zE} {ls sk : List Value} {h : zH} : zrun zpp E 39 (38, ls, sk, h) = zrun zpp E 39 (40, ls, .int 111 :: sk, h) := zg_bipush rfl ci_111
theorem zi39_40 {E : zE} {x y : Int32} {ls sk : List Value} {h : zH} : zrun zpp E 39 (40, ls, .int y :: .int x :: sk, h) = if x = y then zrun zpp E 39 (43, ls, sk, h) else zrun zpp E 39 (47, ls, sk, h) := zrun_at (i := (.if_icmp .ne 7, 43, 0, [47])) rfl
theorem zi39_43 {E : zE} {ls sk : List Value} {h : zH} : zrun zpp E 39 (43, ls, sk, h) = zrun zpp E 39 (44, ls, .int 0 :: sk, h) := zg_iconst rfl ci_0
theorem zi39_44 {E : zE} {ls sk : List Value} {h : zH} : zrun zpp E 39 (44, ls, sk, h) = zrun zpp E 39 (48, ls, sk, h) := zrun_at (i := (.goto 4, 47, 0, [48])) rfl
theorem zi39_47 {E : zE} {ls sk : List Value} {h : zH} : zrun zpp E 39 (47, ls, sk, h) = zrun zpp E 39 (48, ls, .int 1 :: sk, h) := zg_iconst rfl ci_1
theorem zi39_48 {E : zE} {a0 a1 : Value} {x : Nat} {ls sk : List Value} {h : zH} : zrun zpp E 39 (48, ls, a1 :: a0 :: .ref x :: sk, h) = (zcls h x).bind (fun d => (zsel d [5, 40]).bind (fun M' => zcl1 E 39 51 M' ls sk [.ref x, a0, a1] h)) := zg_vir (as := [a0, a1]) rfl rfl
theorem zi39_51 {E : zE} {x : Int32} {ls sk : List Value} {h : zH} : zrun zpp E 39 (51, ls, .int x :: sk, h) = if x = 0 then zrun zpp E 39 (65, ls, sk, h) else zrun zpp E 39 (54, ls, sk, h) := zrun_at (i := (.ifCond .eq 14, 54, 0, [65])) rfl
theorem zi39_54 {E : zE} {x : Nat} {ls sk : List Value} {h : zH} : zrun zpp E 39 (54, .ref x :: ls, sk, h) = zrun zpp E 39 (55, .ref x :: ls, .ref x :: sk, h) := zrun_at (i := (.aload_n 0, 55, 0, [])) rfl
theorem zi39_54n {E : zE} {ls sk : List Value} {h : zH} : zrun zpp E 39 (54, .null :: ls, sk, h) = zrun zpp E 39 (55, .null :: ls, .null :: sk, h) := zrun_at (i := (.aload_n 0, 55, 0, [])) rfl
theorem zi39_55 {E : zE} {x : Nat} {ls sk : List Value} {h : zH} : zrun zpp E 39 (55, ls, .ref x :: sk, h) = (zcls h x).bind (fun d => (zsel d [5, 44]).bind (fun M' => zcl1 E 39 58 M' ls sk [.ref x] h)) := zg_vir (as := []) rfl rfl
theorem zi39_58 {E : zE} {x : Int32} {ls sk : List Value} {h : zH} : zrun zpp E 39 (58, ls, .int x :: sk, h) = if x = 0 then zrun zpp E 39 (65, ls, sk, h) else zrun zpp E 39 (61, ls, sk, h) := zrun_at (i := (.ifCond .eq 7, 61, 0, [65])) rfl
theorem zi39_61 {E : zE} {ls sk : List Value} {h : zH} : zrun zpp E 39 (61, ls, sk, h) = zrun zpp E 39 (62, ls, .int 1 :: sk, h) := zg_iconst rfl ci_1
theorem zi39_62 {E : zE} {ls sk : List Value} {h : zH} : zrun zpp E 39 (62, ls, sk, h) = zrun zpp E 39 (66, ls, sk, h) := zrun_at (i := (.goto 4, 65, 0, [66])) rfl
theorem zi39_65 {E : zE} {ls sk : List Value} {h : zH} : zrun zpp E 39 (65, ls, sk, h) = zrun zpp E 39 (66, ls, .int 0 :: sk, h) := zg_iconst rfl ci_0
theorem zi39_66 {E : zE} {x : Int32} {ls sk : List Value} {h : zH} : zrun zpp E 39 (66, ls, .int x :: sk, h) = if zfree ls 2 = true then zrun zpp E 39 (67, ls.set 2 (.int x), sk, h) else none := zg_ist rfl (fun _ _ _ => rfl)
theorem zi39_67 {E : zE} {v0 v1 v2 : Value} {x : Int32} {ls sk : List Value} {h : zH} : zrun zpp E 39 (67, v0 :: v1 :: v2 :: .int x :: ls, sk, h) = if zfree (v0 :: v1 :: v2 :: .int x :: ls) 3 = true then zrun zpp E 39 (70, v0 :: v1 :: v2 :: .int (x + 1) :: ls, sk, h) else none := by rw [← ci_1]; exact zrun_at (i := (.iinc 3 1, 70, 0, [])) rfl
theorem zi39_70 {E : zE} {ls sk : List Value} {h : zH} : zrun zpp E 39 (70, ls, sk, h) = zrun zpp E 39 (4, ls, sk, h) := zrun_at (i := (.goto (-66), 73, 0, [4])) rfl
theorem zi39_73 {E : zE} {v0 v1 : Value} {x : Int32} {ls sk : List Value} {h : zH} : zrun zpp E 39 (73, v0 :: v1 :: .int x :: ls, sk, h) = zrun zpp E 39 (74, v0 :: v1 :: .int x :: ls, .int x :: sk, h) := zrun_at (i := (.iload_n 2, 74, 0, [])) rfl
theorem zi39_74 {E : zE} {x : Int32} {ls sk : List Value} {h : zH} : zrun zpp E 39 (74, ls, [.int x], h) = if x = 0 then some (some (.int 0), h) else if x = 1 then some (some (.int 1), h) else none := zrun_at (i := (.ireturn, 75, 1, [])) rfl
-- 40 NineDown$Reader.readHold
theorem zi40_0 {E : zE} {v0 : Value} {x : Nat} {ls sk : List Value} {h : zH} : zrun zpp E 40 (0, v0 :: .ref x :: ls, sk, h) = zrun zpp E 40 (1, v0 :: .ref x :: ls, .ref x :: sk, h) := zrun_at (i := (.aload_n 1, 1, 0, [])) rfl
theorem zi40_0n {E : zE} {v0 : Value} {ls sk : List Value} {h : zH} : zrun zpp E 40 (0, v0 :: .null :: ls, sk, h) = zrun zpp E 40 (1, v0 :: .null :: ls, .null :: sk, h) := zrun_at (i := (.aload_n 1, 1, 0, [])) rfl
theorem zi40_1 {E : zE} {x : Nat} {ls sk : List Value} {h : zH} : zrun zpp E 40 (1, ls, .ref x :: sk, h) = (zfld [9] h x 4).bind (fun v => zrun zpp E 40 (4, ls, v :: sk, h)) := zg_getf rfl
theorem zi40_4 {E : zE} {ls sk : List Value} {h : zH} : zrun zpp E 40 (4, ls, sk, h) = zrun zpp E 40 (6, ls, .int 10 :: sk, h) := zg_bipush rfl ci_10
theorem zi40_6 {E : zE} {x y : Int32} {ls sk : List Value} {h : zH} : zrun zpp E 40 (6, ls, .int y :: .int x :: sk, h) = if x < y then zrun zpp E 40 (15, ls, sk, h) else zrun zpp E 40 (9, ls, sk, h) := zrun_at (i := (.if_icmp .lt 9, 9, 0, [15])) rfl
theorem zi40_9 {E : zE} {x : Nat} {ls sk : List Value} {h : zH} : zrun zpp E 40 (9, .ref x :: ls, sk, h) = zrun zpp E 40 (10, .ref x :: ls, .ref x :: sk, h) := zrun_at (i := (.aload_n 0, 10, 0, [])) rfl
theorem zi40_9n {E : zE} {ls sk : List Value} {h : zH} : zrun zpp E 40 (9, .null :: ls, sk, h) = zrun zpp E 40 (10, .null :: ls, .null :: sk, h) := zrun_at (i := (.aload_n 0, 10, 0, [])) rfl
theorem zi40_10 {E : zE} {ls sk : List Value} {h : zH} : zrun zpp E 40 (10, ls, sk, h) = zrun zpp E 40 (11, ls, .int 3 :: sk, h) := zg_iconst rfl ci_3
theorem zi40_11 {E : zE} {a0 : Value} {x : Nat} {ls sk : List Value} {h : zH} : zrun zpp E 40 (11, ls, a0 :: .ref x :: sk, h) = (zcls h x).bind (fun d => (zsel d [5, 47]).bind (fun M' => zcl1 E 40 14 M' ls sk [.ref x, a0] h)) := zg_vir (as := [a0]) rfl rfl
theorem zi40_14 {E : zE} {x : Int32} {ls sk : List Value} {h : zH} : zrun zpp E 40 (14, ls, [.int x], h) = if x = 0 then some (some (.int 0), h) else if x = 1 then some (some (.int 1), h) else none := zrun_at (i := (.ireturn, 15, 1, [])) rfl
theorem zi40_15 {E : zE} {x : Nat} {ls sk : List Value} {h : zH} : zrun zpp E 40 (15, .ref x :: ls, sk, h) = zrun zpp E 40 (16, .ref x :: ls, .ref x :: sk, h) := zrun_at (i := (.aload_n 0, 16, 0, [])) rfl
theorem zi40_15n {E : zE} {ls sk : List Value} {h : zH} : zrun zpp E 40 (15, .null :: ls, sk, h) = zrun zpp E 40 (16, .null :: ls, .null :: sk, h) := zrun_at (i := (.aload_n 0, 16, 0, [])) rfl
theorem zi40_16 {E : zE} {ls sk : List Value} {h : zH} : zrun zpp E 40 (16, ls, sk, h) = zrun zpp E 40 (17, ls, .int 0 :: sk, h) := zg_iconst rfl ci_0
theorem zi40_17 {E : zE} {v0 : Value} {x : Nat} {ls sk : List Value} {h : zH} : zrun zpp E 40 (17, v0 :: .ref x :: ls, sk, h) = zrun zpp E 40 (18, v0 :: .ref x :: ls, .ref x :: sk, h) := zrun_at (i := (.aload_n 1, 18, 0, [])) rfl
theorem zi40_17n {E : zE} {v0 : Value} {ls sk : List Value} {h : zH} : zrun zpp E 40 (17, v0 :: .null :: ls, sk, h) = zrun zpp E 40 (18, v0 :: .null :: ls, .null :: sk, h) := zrun_at (i := (.aload_n 1, 18, 0, [])) rfl
theorem zi40_18 {E : zE} {x : Nat} {ls sk : List Value} {h : zH} : zrun zpp E 40 (18, ls, .ref x :: sk, h) = (zfld [9] h x 3).bind (fun v => zrun zpp E 40 (21, ls, v :: sk, h)) := zg_getf rfl
theorem zi40_21 {E : zE} {ls sk : List Value} {h : zH} : zrun zpp E 40 (21, ls, sk, h) = zrun zpp E 40 (22, ls, .int 1 :: sk, h) := zg_iconst rfl ci_1
theorem zi40_22 {E : zE} {x y : Int32} {ls sk : List Value} {h : zH} : zrun zpp E 40 (22, ls, .int y :: .int x :: sk, h) = zrun zpp E 40 (23, ls, .int (x - y) :: sk, h) := zrun_at (i := (.isub, 23, 0, [])) rfl
theorem zi40_23 {E : zE} {a0 a1 : Value} {x : Nat} {ls sk : List Value} {h : zH} : zrun zpp E 40 (23, ls, a1 :: a0 :: .ref x :: sk, h) = (zcls h x).bind (fun d => (zsel d [5, 46]).bind (fun M' => zcl1 E 40 26 M' ls sk [.ref x, a0, a1] h)) := zg_vir (as := [a0, a1]) rfl rfl
theorem zi40_26 {E : zE} {x : Int32} {ls sk : List Value} {h : zH} : zrun zpp E 40 (26, ls, .int x :: sk, h) = if x = 0 then zrun zpp E 40 (29, ls, sk, h) else zrun zpp E 40 (31, ls, sk, h) := zrun_at (i := (.ifCond .ne 5, 29, 0, [31])) rfl
theorem zi40_29 {E : zE} {ls sk : List Value} {h : zH} : zrun zpp E 40 (29, ls, sk, h) = zrun zpp E 40 (30, ls, .int 0 :: sk, h) := zg_iconst rfl ci_0
theorem zi40_30 {E : zE} {x : Int32} {ls sk : List Value} {h : zH} : zrun zpp E 40 (30, ls, [.int x], h) = if x = 0 then some (some (.int 0), h) else if x = 1 then some (some (.int 1), h) else none := zrun_at (i := (.ireturn, 31, 1, [])) rfl
theorem zi40_31 {E : zE} {x : Nat} {ls sk : List Value} {h : zH} : zrun zpp E 40 (31, .ref x :: ls, sk, h) = zrun zpp E 40 (32, .ref x :: ls, .ref x :: sk, h) := zrun_at (i := (.aload_n 0, 32, 0, [])) rfl
theorem zi40_31n {E : zE} {ls sk : List Value} {h : zH} : zrun zpp E 40 (31, .null :: ls, sk, h) = zrun zpp E 40 (32, .null :: ls, .null :: sk, h) := zrun_at (i := (.aload_n 0, 32, 0, [])) rfl
theorem zi40_32 {E : zE} {x : Nat} {ls sk : List Value} {h : zH} : zrun zpp E 40 (32, ls, .ref x :: sk, h) = (zfld [5] h x 6).bind (fun v => zrun zpp E 40 (35, ls, v :: sk, h)) := zg_getf rfl
theorem zi40_35 {E : zE} {x : Int32} {ls sk : List Value} {h : zH} : zrun zpp E 40 (35, ls, .int x :: sk, h) = if zfree ls 3 = true then zrun zpp E 40 (36, ls.set 3 (.int x), sk, h) else none := zg_ist rfl (fun _ _ _ => rfl)
theorem zi40_36 {E : zE} {x : Nat} {ls sk : List Value} {h : zH} : zrun zpp E 40 (36, .ref x :: ls, sk, h) = zrun zpp E 40 (37, .ref x :: ls, .ref x :: sk, h) := zrun_at (i := (.aload_n 0, 37, 0, [])) rfl
theorem zi40_36n {E : zE} {ls sk : List Value} {h : zH} : zrun zpp E 40 (36, .null :: ls, sk, h) = zrun zpp E 40 (37, .null :: ls, .null :: sk, h) := zrun_at (i := (.aload_n 0, 37, 0, [])) rfl
theorem zi40_37 {E : zE} {ls sk : List Value} {h : zH} : zrun zpp E 40 (37, ls, sk, h) = zrun zpp E 40 (39, ls, .int 44 :: sk, h) := zg_bipush rfl ci_44
theorem zi40_39 {E : zE} {a0 : Value} {x : Nat} {ls sk : List Value} {h : zH} : zrun zpp E 40 (39, ls, a0 :: .ref x :: sk, h) = (zcls h x).bind (fun d => (zsel d [5, 45]).bind (fun M' => zcl1 E 40 42 M' ls sk [.ref x, a0] h)) := zg_vir (as := [a0]) rfl rfl
theorem zi40_42 {E : zE} {x : Int32} {ls sk : List Value} {h : zH} : zrun zpp E 40 (42, ls, .int x :: sk, h) = if x = 0 then zrun zpp E 40 (59, ls, sk, h) else zrun zpp E 40 (45, ls, sk, h) := zrun_at (i := (.ifCond .eq 17, 45, 0, [59])) rfl
theorem zi40_45 {E : zE} {x : Nat} {ls sk : List Value} {h : zH} : zrun zpp E 40 (45, .ref x :: ls, sk, h) = zrun zpp E 40 (46, .ref x :: ls, .ref x :: sk, h) := zrun_at (i := (.aload_n 0, 46, 0, [])) rfl
theorem zi40_45n {E : zE} {ls sk : List Value} {h : zH} : zrun zpp E 40 (45, .null :: ls, sk, h) = zrun zpp E 40 (46, .null :: ls, .null :: sk, h) := zrun_at (i := (.aload_n 0, 46, 0, [])) rfl
theorem zi40_46 {E : zE} {ls sk : List Value} {h : zH} : zrun zpp E 40 (46, ls, sk, h) = zrun zpp E 40 (47, ls, .int 0 :: sk, h) := zg_iconst rfl ci_0
theorem zi40_47 {E : zE} {v0 : Value} {x : Nat} {ls sk : List Value} {h : zH} : zrun zpp E 40 (47, v0 :: .ref x :: ls, sk, h) = zrun zpp E 40 (48, v0 :: .ref x :: ls, .ref x :: sk, h) := zrun_at (i := (.aload_n 1, 48, 0, [])) rfl
theorem zi40_47n {E : zE} {v0 : Value} {ls sk : List Value} {h : zH} : zrun zpp E 40 (47, v0 :: .null :: ls, sk, h) = zrun zpp E 40 (48, v0 :: .null :: ls, .null :: sk, h) := zrun_at (i := (.aload_n 1, 48, 0, [])) rfl
theorem zi40_48 {E : zE} {x : Nat} {ls sk : List Value} {h : zH} : zrun zpp E 40 (48, ls, .ref x :: sk, h) = (zfld [9] h x 3).bind (fun v => zrun zpp E 40 (51, ls, v :: sk, h)) := zg_getf rfl
theorem zi40_51 {E : zE} {ls sk : List Value} {h : zH} : zrun zpp E 40 (51, ls, sk, h) = zrun zpp E 40 (52, ls, .int 1 :: sk, h) := zg_iconst rfl ci_1
theorem zi40_52 {E : zE} {x y : Int32} {ls sk : List Value} {h : zH} : zrun zpp E 40 (52, ls, .int y :: .int x :: sk, h) = zrun zpp E 40 (53, ls, .int (x - y) :: sk, h) := zrun_at (i := (.isub, 53, 0, [])) rfl
theorem zi40_53 {E : zE} {a0 a1 : Value} {x : Nat} {ls sk : List Value} {h : zH} : zrun zpp E 40 (53, ls, a1 :: a0 :: .ref x :: sk, h) = (zcls h x).bind (fun d => (zsel d [5, 46]).bind (fun M' => zcl1 E 40 56 M' ls sk [.ref x, a0, a1] h)) := zg_vir (as := [a0, a1]) rfl rfl
theorem zi40_56 {E : zE} {x : Int32} {ls sk : List Value} {h : zH} : zrun zpp E 40 (56, ls, .int x :: sk, h) = if x = 0 then zrun zpp E 40 (59, ls, sk, h) else zrun zpp E 40 (61, ls, sk, h) := zrun_at (i := (.ifCond .ne 5, 59, 0, [61])) rfl
theorem zi40_59 {E : zE} {ls sk : List Value} {h : zH} : zrun zpp E 40 (59, ls, sk, h) = zrun zpp E 40 (60, ls, .int 0 :: sk, h) := zg_iconst rfl ci_0
theorem zi40_60 {E : zE} {x : Int32} {ls sk : List Value} {h : zH} : zrun zpp E 40 (60, ls, [.int x], h) = if x = 0 then some (some (.int 0), h) else if x = 1 then some (some (.int 1), h) else none := zrun_at (i := (.ireturn, 61, 1, [])) rfl
theorem zi40_61 {E : zE} {v0 v1 v2 : Value} {x : Int32} {ls sk : List Value} {h : zH} : zrun zpp E 40 (61, v0 :: v1 :: v2 :: .int x :: ls, sk, h) = zrun zpp E 40 (62, v0 :: v1 :: v2 :: .int x :: ls, .int x :: sk, h) := zrun_at (i := (.iload_n 3, 62, 0, [])) rfl
theorem zi40_62 {E : zE} {x : Nat} {ls sk : List Value} {h : zH} : zrun zpp E 40 (62, .ref x :: ls, sk, h) = zrun zpp E 40 (63, .ref x :: ls, .ref x :: sk, h) := zrun_at (i := (.aload_n 0, 63, 0, [])) rfl
theorem zi40_62n {E : zE} {ls sk : List Value} {h : zH} : zrun zpp E 40 (62, .null :: ls, sk, h) = zrun zpp E 40 (63, .null :: ls, .null :: sk, h) := zrun_at (i := (.aload_n 0, 63, 0, [])) rfl
theorem zi40_63 {E : zE} {x : Nat} {ls sk : List Value} {h : zH} : zrun zpp E 40 (63, ls, .ref x :: sk, h) = (zfld [5] h x 6).bind (fun v => zrun zpp E 40 (66, ls, v :: sk, h)) := zg_getf rfl
theorem zi40_66 {E : zE} {x y : Int32} {ls sk : List Value} {h : zH} : zrun zpp E 40 (66, ls, .int y :: .int x :: sk, h) = if x = y then zrun zpp E 40 (82, ls, sk, h) else zrun zpp E 40 (69, ls, sk, h) := zrun_at (i := (.if_icmp .eq 16, 69, 0, [82])) rfl
theorem zi40_69 {E : zE} {v0 : Value} {x : Nat} {ls sk : List Value} {h : zH} : zrun zpp E 40 (69, v0 :: .ref x :: ls, sk, h) = zrun zpp E 40 (70, v0 :: .ref x :: ls, .ref x :: sk, h) := zrun_at (i := (.aload_n 1, 70, 0, [])) rfl
theorem zi40_69n {E : zE} {v0 : Value} {ls sk : List Value} {h : zH} : zrun zpp E 40 (69, v0 :: .null :: ls, sk, h) = zrun zpp E 40 (70, v0 :: .null :: ls, .null :: sk, h) := zrun_at (i := (.aload_n 1, 70, 0, [])) rfl
theorem zi40_70 {E : zE} {v0 v1 : Value} {x : Int32} {ls sk : List Value} {h : zH} : zrun zpp E 40 (70, v0 :: v1 :: .int x :: ls, sk, h) = zrun zpp E 40 (71, v0 :: v1 :: .int x :: ls, .int x :: sk, h) := zrun_at (i := (.iload_n 2, 71, 0, [])) rfl
theorem zi40_71 {E : zE} {v0 v1 v2 : Value} {x : Int32} {ls sk : List Value} {h : zH} : zrun zpp E 40 (71, v0 :: v1 :: v2 :: .int x :: ls, sk, h) = zrun zpp E 40 (72, v0 :: v1 :: v2 :: .int x :: ls, .int x :: sk, h) := zrun_at (i := (.iload_n 3, 72, 0, [])) rfl
theorem zi40_72 {E : zE} {x : Nat} {ls sk : List Value} {h : zH} : zrun zpp E 40 (72, .ref x :: ls, sk, h) = zrun zpp E 40 (73, .ref x :: ls, .ref x :: sk, h) := zrun_at (i := (.aload_n 0, 73, 0, [])) rfl
theorem zi40_72n {E : zE} {ls sk : List Value} {h : zH} : zrun zpp E 40 (72, .null :: ls, sk, h) = zrun zpp E 40 (73, .null :: ls, .null :: sk, h) := zrun_at (i := (.aload_n 0, 73, 0, [])) rfl
theorem zi40_73 {E : zE} {x : Nat} {ls sk : List Value} {h : zH} : zrun zpp E 40 (73, ls, .ref x :: sk, h) = (zfld [5] h x 6).bind (fun v => zrun zpp E 40 (76, ls, v :: sk, h)) := zg_getf rfl
theorem zi40_76 {E : zE} {a0 a1 a2 : Value} {x : Nat} {ls sk : List Value} {h : zH} : zrun zpp E 40 (76, ls, a2 :: a1 :: a0 :: .ref x :: sk, h) = (zcls h x).bind (fun d => (zsel d [9, 74]).bind (fun M' => zcl1 E 40 79 M' ls sk [.ref x, a0, a1, a2] h)) := zg_vir (as := [a0, a1, a2]) rfl rfl
theorem zi40_79 {E : zE} {x : Int32} {ls sk : List Value} {h : zH} : zrun zpp E 40 (79, ls, .int x :: sk, h) = if x = 0 then zrun zpp E 40 (88, ls, sk, h) else zrun zpp E 40 (82, ls, sk, h) := zrun_at (i := (.ifCond .eq 9, 82, 0, [88])) rfl
theorem zi40_82 {E : zE} {x : Nat} {ls sk : List Value} {h : zH} : zrun zpp E 40 (82, .ref x :: ls, sk, h) = zrun zpp E 40 (83, .ref x :: ls, .ref x :: sk, h) := zrun_at (i := (.aload_n 0, 83, 0, [])) rfl
theorem zi40_82n {E : zE} {ls sk : List Value} {h : zH} : zrun zpp E 40 (82, .null :: ls, sk, h) = zrun zpp E 40 (83, .null :: ls, .null :: sk, h) := zrun_at (i := (.aload_n 0, 83, 0, [])) rfl
theorem zi40_83 {E : zE} {ls sk : List Value} {h : zH} : zrun zpp E 40 (83, ls, sk, h) = zrun zpp E 40 (84, ls, .int 2 :: sk, h) := zg_iconst rfl ci_2
theorem zi40_84 {E : zE} {a0 : Value} {x : Nat} {ls sk : List Value} {h : zH} : zrun zpp E 40 (84, ls, a0 :: .ref x :: sk, h) = (zcls h x).bind (fun d => (zsel d [5, 47]).bind (fun M' => zcl1 E 40 87 M' ls sk [.ref x, a0] h)) := zg_vir (as := [a0]) rfl rfl
theorem zi40_87 {E : zE} {x : Int32} {ls sk : List Value} {h : zH} : zrun zpp E 40 (87, ls, [.int x], h) = if x = 0 then some (some (.int 0), h) else if x = 1 then some (some (.int 1), h) else none := zrun_at (i := (.ireturn, 88, 1, [])) rfl
theorem zi40_88 {E : zE} {v0 : Value} {x : Nat} {ls sk : List Value} {h : zH} : zrun zpp E 40 (88, v0 :: .ref x :: ls, sk, h) = zrun zpp E 40 (89, v0 :: .ref x :: ls, .ref x :: sk, h) := zrun_at (i := (.aload_n 1, 89, 0, [])) rfl
theorem zi40_88n {E : zE} {v0 : Value} {ls sk : List Value} {h : zH} : zrun zpp E 40 (88, v0 :: .null :: ls, sk, h) = zrun zpp E 40 (89, v0 :: .null :: ls, .null :: sk, h) := zrun_at (i := (.aload_n 1, 89, 0, [])) rfl
theorem zi40_89 {E : zE} {v0 v1 : Value} {x : Int32} {ls sk : List Value} {h : zH} : zrun zpp E 40 (89, v0 :: v1 :: .int x :: ls, sk, h) = zrun zpp E 40 (90, v0 :: v1 :: .int x :: ls, .int x :: sk, h) := zrun_at (i := (.iload_n 2, 90, 0, [])) rfl
theorem zi40_90 {E : zE} {v0 v1 v2 : Value} {x : Int32} {ls sk : List Value} {h : zH} : zrun zpp E 40 (90, v0 :: v1 :: v2 :: .int x :: ls, sk, h) = zrun zpp E 40 (91, v0 :: v1 :: v2 :: .int x :: ls, .int x :: sk, h) := zrun_at (i := (.iload_n 3, 91, 0, [])) rfl
theorem zi40_91 {E : zE} {x : Nat} {ls sk : List Value} {h : zH} : zrun zpp E 40 (91, .ref x :: ls, sk, h) = zrun zpp E 40 (92, .ref x :: ls, .ref x :: sk, h) := zrun_at (i := (.aload_n 0, 92, 0, [])) rfl
theorem zi40_91n {E : zE} {ls sk : List Value} {h : zH} : zrun zpp E 40 (91, .null :: ls, sk, h) = zrun zpp E 40 (92, .null :: ls, .null :: sk, h) := zrun_at (i := (.aload_n 0, 92, 0, [])) rfl
theorem zi40_92 {E : zE} {x : Nat} {ls sk : List Value} {h : zH} : zrun zpp E 40 (92, ls, .ref x :: sk, h) = (zfld [5] h x 6).bind (fun v => zrun zpp E 40 (95, ls, v :: sk, h)) := zg_getf rfl
theorem zi40_95 {E : zE} {a0 a1 a2 : Value} {x : Nat} {ls sk : List Value} {h : zH} : zrun zpp E 40 (95, ls, a2 :: a1 :: a0 :: .ref x :: sk, h) = (zcls h x).bind (fun d => (zsel d [9, 67]).bind (fun M' => zcl1 E 40 98 M' ls sk [.ref x, a0, a1, a2] h)) := zg_vir (as := [a0, a1, a2]) rfl rfl
theorem zi40_98 {E : zE} {ls sk : List Value} {h : zH} : zrun zpp E 40 (98, ls, sk, h) = zrun zpp E 40 (99, ls, .int 1 :: sk, h) := zg_iconst rfl ci_1
theorem zi40_99 {E : zE} {x : Int32} {ls sk : List Value} {h : zH} : zrun zpp E 40 (99, ls, [.int x], h) = if x = 0 then some (some (.int 0), h) else if x = 1 then some (some (.int 1), h) else none := zrun_at (i := (.ireturn, 100, 1, [])) rfl
-- 41 NineDown$Reader.readLifters
theorem zi41_0 {E : zE} {ls sk : List Value} {h : zH} : zrun zpp E 41 (0, ls, sk, h) = zrun zpp E 41 (1, ls, .int 1 :: sk, h) := zg_iconst rfl ci_1
theorem zi41_1 {E : zE} {x : Int32} {ls sk : List Value} {h : zH} : zrun zpp E 41 (1, ls, .int x :: sk, h) = if zfree ls 2 = true then zrun zpp E 41 (2, ls.set 2 (.int x), sk, h) else none := zg_ist rfl (fun _ _ _ => rfl)
theorem zi41_2 {E : zE} {ls sk : List Value} {h : zH} : zrun zpp E 41 (2, ls, sk, h) = zrun zpp E 41 (3, ls, .int 0 :: sk, h) := zg_iconst rfl ci_0
theorem zi41_3 {E : zE} {x : Int32} {ls sk : List Value} {h : zH} : zrun zpp E 41 (3, ls, .int x :: sk, h) = if zfree ls 3 = true then zrun zpp E 41 (4, ls.set 3 (.int x), sk, h) else none := zg_ist rfl (fun _ _ _ => rfl)
theorem zi41_4 {E : zE} {v0 v1 v2 : Value} {x : Int32} {ls sk : List Value} {h : zH} : zrun zpp E 41 (4, v0 :: v1 :: v2 :: .int x :: ls, sk, h) = zrun zpp E 41 (5, v0 :: v1 :: v2 :: .int x :: ls, .int x :: sk, h) := zrun_at (i := (.iload_n 3, 5, 0, [])) rfl
theorem zi41_5 {E : zE} {ls sk : List Value} {h : zH} : zrun zpp E 41 (5, ls, sk, h) = zrun zpp E 41 (6, ls, .int 4 :: sk, h) := zg_iconst rfl ci_4
theorem zi41_6 {E : zE} {x y : Int32} {ls sk : List Value} {h : zH} : zrun zpp E 41 (6, ls, .int y :: .int x :: sk, h) = if y < x then zrun zpp E 41 (64, ls, sk, h) else zrun zpp E 41 (9, ls, sk, h) := zrun_at (i := (.if_icmp .gt 58, 9, 0, [64])) rfl
theorem zi41_9 {E : zE} {v0 v1 : Value} {x : Int32} {ls sk : List Value} {h : zH} : zrun zpp E 41 (9, v0 :: v1 :: .int x :: ls, sk, h) = zrun zpp E 41 (10, v0 :: v1 :: .int x :: ls, .int x :: sk, h) := zrun_at (i := (.iload_n 2, 10, 0, [])) rfl
theorem zi41_10 {E : zE} {x : Int32} {ls sk : List Value} {h : zH} : zrun zpp E 41 (10, ls, .int x :: sk, h) = if x = 0 then zrun zpp E 41 (64, ls, sk, h) else zrun zpp E 41 (13, ls, sk, h) := zrun_at (i := (.ifCond .eq 54, 13, 0, [64])) rfl
theorem zi41_13 {E : zE} {x : Nat} {ls sk : List Value} {h : zH} : zrun zpp E 41 (13, .ref x :: ls, sk, h) = zrun zpp E 41 (14, .ref x :: ls, .ref x :: sk, h) := zrun_at (i := (.aload_n 0, 14, 0, [])) rfl
theorem zi41_13n {E : zE} {ls sk : List Value} {h : zH} : zrun zpp E 41 (13, .null :: ls, sk, h) = zrun zpp E 41 (14, .null :: ls, .null :: sk, h) := zrun_at (i := (.aload_n 0, 14, 0, [])) rfl
theorem zi41_14 {E : zE} {x : Nat} {ls sk : List Value} {h : zH} : zrun zpp E 41 (14, ls, .ref x :: sk, h) = (zcls h x).bind (fun d => (zsel d [5, 43]).bind (fun M' => zcl1 E 41 17 M' ls sk [.ref x] h)) := zg_vir (as := []) rfl rfl
theorem zi41_17 {E : zE} {x : Int32} {ls sk : List Value} {h : zH} : zrun zpp E 41 (17, ls, .int x :: sk, h) = if x = 0 then zrun zpp E 41 (64, ls, sk, h) else zrun zpp E 41 (20, ls, sk, h) := zrun_at (i := (.ifCond .eq 47, 20, 0, [64])) rfl
theorem zi41_20 {E : zE} {x : Nat} {ls sk : List Value} {h : zH} : zrun zpp E 41 (20, .ref x :: ls, sk, h) = zrun zpp E 41 (21, .ref x :: ls, .ref x :: sk, h) := zrun_at (i := (.aload_n 0, 21, 0, [])) rfl
theorem zi41_20n {E : zE} {ls sk : List Value} {h : zH} : zrun zpp E 41 (20, .null :: ls, sk, h) = zrun zpp E 41 (21, .null :: ls, .null :: sk, h) := zrun_at (i := (.aload_n 0, 21, 0, [])) rfl
theorem zi41_21 {E : zE} {x : Nat} {ls sk : List Value} {h : zH} : zrun zpp E 41 (21, ls, .ref x :: sk, h) = (zcls h x).bind (fun d => (zsel d [5, 43]).bind (fun M' => zcl1 E 41 24 M' ls sk [.ref x] h)) := zg_vir (as := []) rfl rfl
theorem zi41_24 {E : zE} {x : Int32} {ls sk : List Value} {h : zH} : zrun zpp E 41 (24, ls, .int x :: sk, h) = if zfree ls 4 = true then zrun zpp E 41 (26, ls.set 4 (.int x), sk, h) else none := zg_ist rfl (fun _ _ _ => rfl)
theorem zi41_26 {E : zE} {x : Nat} {ls sk : List Value} {h : zH} : zrun zpp E 41 (26, .ref x :: ls, sk, h) = zrun zpp E 41 (27, .ref x :: ls, .ref x :: sk, h) := zrun_at (i := (.aload_n 0, 27, 0, [])) rfl
theorem zi41_26n {E : zE} {ls sk : List Value} {h : zH} : zrun zpp E 41 (26, .null :: ls, sk, h) = zrun zpp E 41 (27, .null :: ls, .null :: sk, h) := zrun_at (i := (.aload_n 0, 27, 0, [])) rfl
theorem zi41_27 {E : zE} {v0 : Value} {x : Nat} {ls sk : List Value} {h : zH} : zrun zpp E 41 (27, v0 :: .ref x :: ls, sk, h) = zrun zpp E 41 (28, v0 :: .ref x :: ls, .ref x :: sk, h) := zrun_at (i := (.aload_n 1, 28, 0, [])) rfl
theorem zi41_27n {E : zE} {v0 : Value} {ls sk : List Value} {h : zH} : zrun zpp E 41 (27, v0 :: .null :: ls, sk, h) = zrun zpp E 41 (28, v0 :: .null :: ls, .null :: sk, h) := zrun_at (i := (.aload_n 1, 28, 0, [])) rfl
theorem zi41_28 {E : zE} {a0 : Value} {x : Nat} {ls sk : List Value} {h : zH} : zrun zpp E 41 (28, ls, a0 :: .ref x :: sk, h) = (zcls h x).bind (fun d => (zsel d [5, 42]).bind (fun M' => zcl1 E 41 31 M' ls sk [.ref x, a0] h)) := zg_vir (as := [a0]) rfl rfl
theorem zi41_31 {E : zE} {x : Int32} {ls sk : List Value} {h : zH} : zrun zpp E 41 (31, ls, .int x :: sk, h) = if zfree ls 2 = true then zrun zpp E 41 (32, ls.set 2 (.int x), sk, h) else none := zg_ist rfl (fun _ _ _ => rfl)
theorem zi41_32 {E : zE} {v0 v1 : Value} {x : Int32} {ls sk : List Value} {h : zH} : zrun zpp E 41 (32, v0 :: v1 :: .int x :: ls, sk, h) = zrun zpp E 41 (33, v0 :: v1 :: .int x :: ls, .int x :: sk, h) := zrun_at (i := (.iload_n 2, 33, 0, [])) rfl
theorem zi41_33 {E : zE} {x : Int32} {ls sk : List Value} {h : zH} : zrun zpp E 41 (33, ls, .int x :: sk, h) = if x = 0 then zrun zpp E 41 (58, ls, sk, h) else zrun zpp E 41 (36, ls, sk, h) := zrun_at (i := (.ifCond .eq 25, 36, 0, [58])) rfl
theorem zi41_36 {E : zE} {v0 : Value} {x : Nat} {ls sk : List Value} {h : zH} : zrun zpp E 41 (36, v0 :: .ref x :: ls, sk, h) = zrun zpp E 41 (37, v0 :: .ref x :: ls, .ref x :: sk, h) := zrun_at (i := (.aload_n 1, 37, 0, [])) rfl
theorem zi41_36n {E : zE} {v0 : Value} {ls sk : List Value} {h : zH} : zrun zpp E 41 (36, v0 :: .null :: ls, sk, h) = zrun zpp E 41 (37, v0 :: .null :: ls, .null :: sk, h) := zrun_at (i := (.aload_n 1, 37, 0, [])) rfl
theorem zi41_37 {E : zE} {v0 v1 v2 v3 : Value} {x : Int32} {ls sk : List Value} {h : zH} : zrun zpp E 41 (37, v0 :: v1 :: v2 :: v3 :: .int x :: ls, sk, h) = zrun zpp E 41 (39, v0 :: v1 :: v2 :: v3 :: .int x :: ls, .int x :: sk, h) := zrun_at (i := (.iload 4, 39, 0, [])) rfl
theorem zi41_39 {E : zE} {v0 : Value} {x : Nat} {ls sk : List Value} {h : zH} : zrun zpp E 41 (39, v0 :: .ref x :: ls, sk, h) = zrun zpp E 41 (40, v0 :: .ref x :: ls, .ref x :: sk, h) := zrun_at (i := (.aload_n 1, 40, 0, [])) rfl
theorem zi41_39n {E : zE} {v0 : Value} {ls sk : List Value} {h : zH} : zrun zpp E 41 (39, v0 :: .null :: ls, sk, h) = zrun zpp E 41 (40, v0 :: .null :: ls, .null :: sk, h) := zrun_at (i := (.aload_n 1, 40, 0, [])) rfl
theorem zi41_40 {E : zE} {x : Nat} {ls sk : List Value} {h : zH} : zrun zpp E 41 (40, ls, .ref x :: sk, h) = (zfld [9] h x 5).bind (fun v => zrun zpp E 41 (43, ls, v :: sk, h)) := zg_getf rfl
theorem zi41_43 {E : zE} {x : Nat} {ls sk : List Value} {h : zH} : zrun zpp E 41 (43, .ref x :: ls, sk, h) = zrun zpp E 41 (44, .ref x :: ls, .ref x :: sk, h) := zrun_at (i := (.aload_n 0, 44, 0, [])) rfl
theorem zi41_43n {E : zE} {ls sk : List Value} {h : zH} : zrun zpp E 41 (43, .null :: ls, sk, h) = zrun zpp E 41 (44, .null :: ls, .null :: sk, h) := zrun_at (i := (.aload_n 0, 44, 0, [])) rfl
theorem zi41_44 {E : zE} {x : Nat} {ls sk : List Value} {h : zH} : zrun zpp E 41 (44, ls, .ref x :: sk, h) = (zfld [5] h x 6).bind (fun v => zrun zpp E 41 (47, ls, v :: sk, h)) := zg_getf rfl
theorem zi41_47 {E : zE} {a0 a1 a2 : Value} {ls sk : List Value} {h : zH} : zrun zpp E 41 (47, ls, a2 :: a1 :: a0 :: sk, h) = zcl1 E 41 50 146 ls sk [a0, a1, a2] h := zg_inv (as := [a0, a1, a2]) rfl rfl
theorem zi41_50 {E : zE} {a0 : Value} {x : Nat} {ls sk : List Value} {h : zH} : zrun zpp E 41 (50, ls, a0 :: .ref x :: sk, h) = (zcls h x).bind (fun d => (zsel d [9, 68]).bind (fun M' => zcl1 E 41 53 M' ls sk [.ref x, a0] h)) := zg_vir (as := [a0]) rfl rfl
theorem zi41_53 {E : zE} {x : Nat} {ls sk : List Value} {h : zH} : zrun zpp E 41 (53, .ref x :: ls, sk, h) = zrun zpp E 41 (54, .ref x :: ls, .ref x :: sk, h) := zrun_at (i := (.aload_n 0, 54, 0, [])) rfl
theorem zi41_53n {E : zE} {ls sk : List Value} {h : zH} : zrun zpp E 41 (53, .null :: ls, sk, h) = zrun zpp E 41 (54, .null :: ls, .null :: sk, h) := zrun_at (i := (.aload_n 0, 54, 0, [])) rfl
theorem zi41_54 {E : zE} {x : Nat} {ls sk : List Value} {h : zH} : zrun zpp E 41 (54, ls, .ref x :: sk, h) = (zcls h x).bind (fun d => (zsel d [5, 44]).bind (fun M' => zcl1 E 41 57 M' ls sk [.ref x] h)) := zg_vir (as := []) rfl rfl
theorem zi41_57 {E : zE} {x : Int32} {ls sk : List Value} {h : zH} : zrun zpp E 41 (57, ls, .int x :: sk, h) = if zfree ls 2 = true then zrun zpp E 41 (58, ls.set 2 (.int x), sk, h) else none := zg_ist rfl (fun _ _ _ => rfl)
theorem zi41_58 {E : zE} {v0 v1 v2 : Value} {x : Int32} {ls sk : List Value} {h : zH} : zrun zpp E 41 (58, v0 :: v1 :: v2 :: .int x :: ls, sk, h) = if zfree (v0 :: v1 :: v2 :: .int x :: ls) 3 = true then zrun zpp E 41 (61, v0 :: v1 :: v2 :: .int (x + 1) :: ls, sk, h) else none := by rw [← ci_1]; exact zrun_at (i := (.iinc 3 1, 61, 0, [])) rfl
theorem zi41_61 {E : zE} {ls sk : List Value} {h : zH} : zrun zpp E 41 (61, ls, sk, h) = zrun zpp E 41 (4, ls, sk, h) := zrun_at (i := (.goto (-57), 64, 0, [4])) rfl
theorem zi41_64 {E : zE} {v0 v1 : Value} {x : Int32} {ls sk : List Value} {h : zH} : zrun zpp E 41 (64, v0 :: v1 :: .int x :: ls, sk, h) = zrun zpp E 41 (65, v0 :: v1 :: .int x :: ls, .int x :: sk, h) := zrun_at (i := (.iload_n 2, 65, 0, [])) rfl
theorem zi41_65 {E : zE} {x : Int32} {ls sk : List Value} {h : zH} : zrun zpp E 41 (65, ls, .int x :: sk, h) = if x = 0 then zrun zpp E 41 (88, ls, sk, h) else zrun zpp E 41 (68, ls, sk, h) := zrun_at (i := (.ifCond .eq 23, 68, 0, [88])) rfl
theorem zi41_68 {E : zE} {x : Nat} {ls sk : List Value} {h : zH} : zrun zpp E 41 (68, .ref x :: ls, sk, h) = zrun zpp E 41 (69, .ref x :: ls, .ref x :: sk, h) := zrun_at (i := (.aload_n 0, 69, 0, [])) rfl
theorem zi41_68n {E : zE} {ls sk : List Value} {h : zH} : zrun zpp E 41 (68, .null :: ls, sk, h) = zrun zpp E 41 (69, .null :: ls, .null :: sk, h) := zrun_at (i := (.aload_n 0, 69, 0, [])) rfl
theorem zi41_69 {E : zE} {x : Nat} {ls sk : List Value} {h : zH} : zrun zpp E 41 (69, ls, .ref x :: sk, h) = (zfld [5] h x 5).bind (fun v => zrun zpp E 41 (72, ls, v :: sk, h)) := zg_getf rfl
theorem zi41_72 {E : zE} {ls sk : List Value} {h : zH} : zrun zpp E 41 (72, ls, sk, h) = zrun zpp E 41 (73, ls, .int (-1) :: sk, h) := zg_iconst rfl ci_m1
theorem zi41_73 {E : zE} {x y : Int32} {ls sk : List Value} {h : zH} : zrun zpp E 41 (73, ls, .int y :: .int x :: sk, h) = if x = y then zrun zpp E 41 (84, ls, sk, h) else zrun zpp E 41 (76, ls, sk, h) := zrun_at (i := (.if_icmp .eq 11, 76, 0, [84])) rfl
theorem zi41_76 {E : zE} {x : Nat} {ls sk : List Value} {h : zH} : zrun zpp E 41 (76, .ref x :: ls, sk, h) = zrun zpp E 41 (77, .ref x :: ls, .ref x :: sk, h) := zrun_at (i := (.aload_n 0, 77, 0, [])) rfl
theorem zi41_76n {E : zE} {ls sk : List Value} {h : zH} : zrun zpp E 41 (76, .null :: ls, sk, h) = zrun zpp E 41 (77, .null :: ls, .null :: sk, h) := zrun_at (i := (.aload_n 0, 77, 0, [])) rfl
theorem zi41_77 {E : zE} {ls sk : List Value} {h : zH} : zrun zpp E 41 (77, ls, sk, h) = zrun zpp E 41 (78, ls, .int 1 :: sk, h) := zg_iconst rfl ci_1
theorem zi41_78 {E : zE} {a0 : Value} {x : Nat} {ls sk : List Value} {h : zH} : zrun zpp E 41 (78, ls, a0 :: .ref x :: sk, h) = (zcls h x).bind (fun d => (zsel d [5, 47]).bind (fun M' => zcl1 E 41 81 M' ls sk [.ref x, a0] h)) := zg_vir (as := [a0]) rfl rfl
theorem zi41_81 {E : zE} {x : Int32} {ls sk : List Value} {h : zH} : zrun zpp E 41 (81, ls, .int x :: sk, h) = if x = 0 then zrun zpp E 41 (88, ls, sk, h) else zrun zpp E 41 (84, ls, sk, h) := zrun_at (i := (.ifCond .eq 7, 84, 0, [88])) rfl
theorem zi41_84 {E : zE} {ls sk : List Value} {h : zH} : zrun zpp E 41 (84, ls, sk, h) = zrun zpp E 41 (85, ls, .int 1 :: sk, h) := zg_iconst rfl ci_1
theorem zi41_85 {E : zE} {ls sk : List Value} {h : zH} : zrun zpp E 41 (85, ls, sk, h) = zrun zpp E 41 (89, ls, sk, h) := zrun_at (i := (.goto 4, 88, 0, [89])) rfl
theorem zi41_88 {E : zE} {ls sk : List Value} {h : zH} : zrun zpp E 41 (88, ls, sk, h) = zrun zpp E 41 (89, ls, .int 0 :: sk, h) := zg_iconst rfl ci_0
theorem zi41_89 {E : zE} {x : Int32} {ls sk : List Value} {h : zH} : zrun zpp E 41 (89, ls, [.int x], h) = if x = 0 then some (some (.int 0), h) else if x = 1 then some (some (.int 1), h) else none := zrun_at (i := (.ireturn, 90, 1, [])) rfl
-- 42 NineDown$Reader.readForce
theorem zi42_0 {E : zE} {v0 : Value} {x : Nat} {ls sk : List Value} {h : zH} : zrun zpp E 42 (0, v0 :: .ref x :: ls, sk, h) = zrun zpp E 42 (1, v0 :: .ref x :: ls, .ref x :: sk, h) := zrun_at (i := (.aload_n 1, 1, 0, [])) rfl
theorem zi42_0n {E : zE} {v0 : Value} {ls sk : List Value} {h : zH} : zrun zpp E 42 (0, v0 :: .null :: ls, sk, h) = zrun zpp E 42 (1, v0 :: .null :: ls, .null :: sk, h) := zrun_at (i := (.aload_n 1, 1, 0, [])) rfl
theorem zi42_1 {E : zE} {x : Nat} {ls sk : List Value} {h : zH} : zrun zpp E 42 (1, ls, .ref x :: sk, h) = (zfld [9] h x 5).bind (fun v => zrun zpp E 42 (4, ls, v :: sk, h)) := zg_getf rfl
theorem zi42_4 {E : zE} {ls sk : List Value} {h : zH} : zrun zpp E 42 (4, ls, sk, h) = zrun zpp E 42 (5, ls, .int 4 :: sk, h) := zg_iconst rfl ci_4
theorem zi42_5 {E : zE} {x y : Int32} {ls sk : List Value} {h : zH} : zrun zpp E 42 (5, ls, .int y :: .int x :: sk, h) = if y ≤ x then zrun zpp E 42 (18, ls, sk, h) else zrun zpp E 42 (8, ls, sk, h) := zrun_at (i := (.if_icmp .ge 13, 8, 0, [18])) rfl
theorem zi42_8 {E : zE} {x : Nat} {ls sk : List Value} {h : zH} : zrun zpp E 42 (8, .ref x :: ls, sk, h) = zrun zpp E 42 (9, .ref x :: ls, .ref x :: sk, h) := zrun_at (i := (.aload_n 0, 9, 0, [])) rfl
theorem zi42_8n {E : zE} {ls sk : List Value} {h : zH} : zrun zpp E 42 (8, .null :: ls, sk, h) = zrun zpp E 42 (9, .null :: ls, .null :: sk, h) := zrun_at (i := (.aload_n 0, 9, 0, [])) rfl
theorem zi42_9 {E : zE} {ls sk : List Value} {h : zH} : zrun zpp E 42 (9, ls, sk, h) = zrun zpp E 42 (10, ls, .int 1 :: sk, h) := zg_iconst rfl ci_1
theorem zi42_10 {E : zE} {ls sk : List Value} {h : zH} : zrun zpp E 42 (10, ls, sk, h) = zrun zpp E 42 (12, ls, .int 40 :: sk, h) := zg_bipush rfl ci_40
theorem zi42_12 {E : zE} {a0 a1 : Value} {x : Nat} {ls sk : List Value} {h : zH} : zrun zpp E 42 (12, ls, a1 :: a0 :: .ref x :: sk, h) = (zcls h x).bind (fun d => (zsel d [5, 46]).bind (fun M' => zcl1 E 42 15 M' ls sk [.ref x, a0, a1] h)) := zg_vir (as := [a0, a1]) rfl rfl
theorem zi42_15 {E : zE} {ls sk : List Value} {h : zH} : zrun zpp E 42 (15, ls, sk, h) = zrun zpp E 42 (23, ls, sk, h) := zrun_at (i := (.goto 8, 18, 0, [23])) rfl
theorem zi42_18 {E : zE} {x : Nat} {ls sk : List Value} {h : zH} : zrun zpp E 42 (18, .ref x :: ls, sk, h) = zrun zpp E 42 (19, .ref x :: ls, .ref x :: sk, h) := zrun_at (i := (.aload_n 0, 19, 0, [])) rfl
theorem zi42_18n {E : zE} {ls sk : List Value} {h : zH} : zrun zpp E 42 (18, .null :: ls, sk, h) = zrun zpp E 42 (19, .null :: ls, .null :: sk, h) := zrun_at (i := (.aload_n 0, 19, 0, [])) rfl
theorem zi42_19 {E : zE} {ls sk : List Value} {h : zH} : zrun zpp E 42 (19, ls, sk, h) = zrun zpp E 42 (20, ls, .int 3 :: sk, h) := zg_iconst rfl ci_3
theorem zi42_20 {E : zE} {a0 : Value} {x : Nat} {ls sk : List Value} {h : zH} : zrun zpp E 42 (20, ls, a0 :: .ref x :: sk, h) = (zcls h x).bind (fun d => (zsel d [5, 47]).bind (fun M' => zcl1 E 42 23 M' ls sk [.ref x, a0] h)) := zg_vir (as := [a0]) rfl rfl
theorem zi42_23 {E : zE} {x : Int32} {ls sk : List Value} {h : zH} : zrun zpp E 42 (23, ls, [.int x], h) = if x = 0 then some (some (.int 0), h) else if x = 1 then some (some (.int 1), h) else none := zrun_at (i := (.ireturn, 24, 1, [])) rfl
-- 43 NineDown$Reader.kindTold
theorem zi43_0 {E : zE} {x : Nat} {ls sk : List Value} {h : zH} : zrun zpp E 43 (0, .ref x :: ls, sk, h) = zrun zpp E 43 (1, .ref x :: ls, .ref x :: sk, h) := zrun_at (i := (.aload_n 0, 1, 0, [])) rfl
theorem zi43_0n {E : zE} {ls sk : List Value} {h : zH} : zrun zpp E 43 (0, .null :: ls, sk, h) = zrun zpp E 43 (1, .null :: ls, .null :: sk, h) := zrun_at (i := (.aload_n 0, 1, 0, [])) rfl
theorem zi43_1 {E : zE} {x : Nat} {ls sk : List Value} {h : zH} : zrun zpp E 43 (1, ls, .ref x :: sk, h) = (zfld [5] h x 5).bind (fun v => zrun zpp E 43 (4, ls, v :: sk, h)) := zg_getf rfl
theorem zi43_4 {E : zE} {x : Int32} {ls sk : List Value} {h : zH} : zrun zpp E 43 (4, ls, .int x :: sk, h) = zsw x 90 (fun t => zrun zpp E 43 (t, ls, sk, h)) [(102, 82), (103, 86), (104, 90), (105, 90), (106, 90), (107, 90), (108, 90), (109, 90), (110, 88), (111, 90), (112, 84), (113, 90), (114, 90), (115, 90), (116, 80)] := (zg_tsw rfl).trans (congrArg (zsw x 90 _) (by decide +kernel))
theorem zi43_80 {E : zE} {ls sk : List Value} {h : zH} : zrun zpp E 43 (80, ls, sk, h) = zrun zpp E 43 (81, ls, .int 1 :: sk, h) := zg_iconst rfl ci_1
theorem zi43_81 {E : zE} {x : Int32} {ls sk : List Value} {h : zH} : zrun zpp E 43 (81, ls, [.int x], h) = some (some (.int x), h) := zrun_at (i := (.ireturn, 82, 0, [])) rfl
theorem zi43_82 {E : zE} {ls sk : List Value} {h : zH} : zrun zpp E 43 (82, ls, sk, h) = zrun zpp E 43 (83, ls, .int 2 :: sk, h) := zg_iconst rfl ci_2
theorem zi43_83 {E : zE} {x : Int32} {ls sk : List Value} {h : zH} : zrun zpp E 43 (83, ls, [.int x], h) = some (some (.int x), h) := zrun_at (i := (.ireturn, 84, 0, [])) rfl
theorem zi43_84 {E : zE} {ls sk : List Value} {h : zH} : zrun zpp E 43 (84, ls, sk, h) = zrun zpp E 43 (85, ls, .int 3 :: sk, h) := zg_iconst rfl ci_3
theorem zi43_85 {E : zE} {x : Int32} {ls sk : List Value} {h : zH} : zrun zpp E 43 (85, ls, [.int x], h) = some (some (.int x), h) := zrun_at (i := (.ireturn, 86, 0, [])) rfl
theorem zi43_86 {E : zE} {ls sk : List Value} {h : zH} : zrun zpp E 43 (86, ls, sk, h) = zrun zpp E 43 (87, ls, .int 4 :: sk, h) := zg_iconst rfl ci_4
theorem zi43_87 {E : zE} {x : Int32} {ls sk : List Value} {h : zH} : zrun zpp E 43 (87, ls, [.int x], h) = some (some (.int x), h) := zrun_at (i := (.ireturn, 88, 0, [])) rfl
theorem zi43_88 {E : zE} {ls sk : List Value} {h : zH} : zrun zpp E 43 (88, ls, sk, h) = zrun zpp E 43 (89, ls, .int 5 :: sk, h) := zg_iconst rfl ci_5
theorem zi43_89 {E : zE} {x : Int32} {ls sk : List Value} {h : zH} : zrun zpp E 43 (89, ls, [.int x], h) = some (some (.int x), h) := zrun_at (i := (.ireturn, 90, 0, [])) rfl
theorem zi43_90 {E : zE} {ls sk : List Value} {h : zH} : zrun zpp E 43 (90, ls, sk, h) = zrun zpp E 43 (91, ls, .int 0 :: sk, h) := zg_iconst rfl ci_0
theorem zi43_91 {E : zE} {x : Int32} {ls sk : List Value} {h : zH} : zrun zpp E 43 (91, ls, [.int x], h) = some (some (.int x), h) := zrun_at (i := (.ireturn, 92, 0, [])) rfl
-- 44 NineDown$Reader.endOfPart
theorem zi44_0 {E : zE} {x : Nat} {ls sk : List Value} {h : zH} : zrun zpp E 44 (0, .ref x :: ls, sk, h) = zrun zpp E 44 (1, .ref x :: ls, .ref x :: sk, h) := zrun_at (i := (.aload_n 0, 1, 0, [])) rfl
theorem zi44_0n {E : zE} {ls sk : List Value} {h : zH} : zrun zpp E 44 (0, .null :: ls, sk, h) = zrun zpp E 44 (1, .null :: ls, .null :: sk, h) := zrun_at (i := (.aload_n 0, 1, 0, [])) rfl
theorem zi44_1 {E : zE} {ls sk : List Value} {h : zH} : zrun zpp E 44 (1, ls, sk, h) = zrun zpp E 44 (3, ls, .int 59 :: sk, h) := zg_bipush rfl ci_59
theorem zi44_3 {E : zE} {a0 : Value} {x : Nat} {ls sk : List Value} {h : zH} : zrun zpp E 44 (3, ls, a0 :: .ref x :: sk, h) = (zcls h x).bind (fun d => (zsel d [5, 45]).bind (fun M' => zcl1 E 44 6 M' ls sk [.ref x, a0] h)) := zg_vir (as := [a0]) rfl rfl
theorem zi44_6 {E : zE} {x : Int32} {ls sk : List Value} {h : zH} : zrun zpp E 44 (6, ls, .int x :: sk, h) = if x = 0 then zrun zpp E 44 (9, ls, sk, h) else zrun zpp E 44 (11, ls, sk, h) := zrun_at (i := (.ifCond .ne 5, 9, 0, [11])) rfl
theorem zi44_9 {E : zE} {ls sk : List Value} {h : zH} : zrun zpp E 44 (9, ls, sk, h) = zrun zpp E 44 (10, ls, .int 0 :: sk, h) := zg_iconst rfl ci_0
theorem zi44_10 {E : zE} {x : Int32} {ls sk : List Value} {h : zH} : zrun zpp E 44 (10, ls, [.int x], h) = if x = 0 then some (some (.int 0), h) else if x = 1 then some (some (.int 1), h) else none := zrun_at (i := (.ireturn, 11, 1, [])) rfl
theorem zi44_11 {E : zE} {x : Nat} {ls sk : List Value} {h : zH} : zrun zpp E 44 (11, .ref x :: ls, sk, h) = zrun zpp E 44 (12, .ref x :: ls, .ref x :: sk, h) := zrun_at (i := (.aload_n 0, 12, 0, [])) rfl
theorem zi44_11n {E : zE} {ls sk : List Value} {h : zH} : zrun zpp E 44 (11, .null :: ls, sk, h) = zrun zpp E 44 (12, .null :: ls, .null :: sk, h) := zrun_at (i := (.aload_n 0, 12, 0, [])) rfl
theorem zi44_12 {E : zE} {x : Nat} {ls sk : List Value} {h : zH} : zrun zpp E 44 (12, ls, .ref x :: sk, h) = (zcls h x).bind (fun d => (zsel d [5, 48]).bind (fun M' => zcl1 E 44 15 M' ls sk [.ref x] h)) := zg_vir (as := []) rfl rfl
theorem zi44_15 {E : zE} {ls sk : List Value} {h : zH} : zrun zpp E 44 (15, ls, sk, h) = zrun zpp E 44 (16, ls, .int 1 :: sk, h) := zg_iconst rfl ci_1
theorem zi44_16 {E : zE} {x : Int32} {ls sk : List Value} {h : zH} : zrun zpp E 44 (16, ls, [.int x], h) = if x = 0 then some (some (.int 0), h) else if x = 1 then some (some (.int 1), h) else none := zrun_at (i := (.ireturn, 17, 1, [])) rfl
-- 45 NineDown$Reader.sign
theorem zi45_0 {E : zE} {x : Nat} {ls sk : List Value} {h : zH} : zrun zpp E 45 (0, .ref x :: ls, sk, h) = zrun zpp E 45 (1, .ref x :: ls, .ref x :: sk, h) := zrun_at (i := (.aload_n 0, 1, 0, [])) rfl
theorem zi45_0n {E : zE} {ls sk : List Value} {h : zH} : zrun zpp E 45 (0, .null :: ls, sk, h) = zrun zpp E 45 (1, .null :: ls, .null :: sk, h) := zrun_at (i := (.aload_n 0, 1, 0, [])) rfl
theorem zi45_1 {E : zE} {x : Nat} {ls sk : List Value} {h : zH} : zrun zpp E 45 (1, ls, .ref x :: sk, h) = (zcls h x).bind (fun d => (zsel d [5, 48]).bind (fun M' => zcl1 E 45 4 M' ls sk [.ref x] h)) := zg_vir (as := []) rfl rfl
theorem zi45_4 {E : zE} {x : Nat} {ls sk : List Value} {h : zH} : zrun zpp E 45 (4, .ref x :: ls, sk, h) = zrun zpp E 45 (5, .ref x :: ls, .ref x :: sk, h) := zrun_at (i := (.aload_n 0, 5, 0, [])) rfl
theorem zi45_4n {E : zE} {ls sk : List Value} {h : zH} : zrun zpp E 45 (4, .null :: ls, sk, h) = zrun zpp E 45 (5, .null :: ls, .null :: sk, h) := zrun_at (i := (.aload_n 0, 5, 0, [])) rfl
theorem zi45_5 {E : zE} {x : Nat} {ls sk : List Value} {h : zH} : zrun zpp E 45 (5, ls, .ref x :: sk, h) = (zfld [5] h x 5).bind (fun v => zrun zpp E 45 (8, ls, v :: sk, h)) := zg_getf rfl
theorem zi45_8 {E : zE} {v0 : Value} {x : Int32} {ls sk : List Value} {h : zH} : zrun zpp E 45 (8, v0 :: .int x :: ls, sk, h) = zrun zpp E 45 (9, v0 :: .int x :: ls, .int x :: sk, h) := zrun_at (i := (.iload_n 1, 9, 0, [])) rfl
theorem zi45_9 {E : zE} {x y : Int32} {ls sk : List Value} {h : zH} : zrun zpp E 45 (9, ls, .int y :: .int x :: sk, h) = if x = y then zrun zpp E 45 (20, ls, sk, h) else zrun zpp E 45 (12, ls, sk, h) := zrun_at (i := (.if_icmp .eq 11, 12, 0, [20])) rfl
theorem zi45_12 {E : zE} {x : Nat} {ls sk : List Value} {h : zH} : zrun zpp E 45 (12, .ref x :: ls, sk, h) = zrun zpp E 45 (13, .ref x :: ls, .ref x :: sk, h) := zrun_at (i := (.aload_n 0, 13, 0, [])) rfl
theorem zi45_12n {E : zE} {ls sk : List Value} {h : zH} : zrun zpp E 45 (12, .null :: ls, sk, h) = zrun zpp E 45 (13, .null :: ls, .null :: sk, h) := zrun_at (i := (.aload_n 0, 13, 0, [])) rfl
theorem zi45_13 {E : zE} {ls sk : List Value} {h : zH} : zrun zpp E 45 (13, ls, sk, h) = zrun zpp E 45 (14, ls, .int 1 :: sk, h) := zg_iconst rfl ci_1
theorem zi45_14 {E : zE} {a0 : Value} {x : Nat} {ls sk : List Value} {h : zH} : zrun zpp E 45 (14, ls, a0 :: .ref x :: sk, h) = (zcls h x).bind (fun d => (zsel d [5, 47]).bind (fun M' => zcl1 E 45 17 M' ls sk [.ref x, a0] h)) := zg_vir (as := [a0]) rfl rfl
theorem zi45_17 {E : zE} {x : Int32} {ls sk : List Value} {h : zH} : zrun zpp E 45 (17, ls, .int x :: sk, h) = if x = 0 then zrun zpp E 45 (24, ls, sk, h) else zrun zpp E 45 (20, ls, sk, h) := zrun_at (i := (.ifCond .eq 7, 20, 0, [24])) rfl
theorem zi45_20 {E : zE} {ls sk : List Value} {h : zH} : zrun zpp E 45 (20, ls, sk, h) = zrun zpp E 45 (21, ls, .int 1 :: sk, h) := zg_iconst rfl ci_1
theorem zi45_21 {E : zE} {ls sk : List Value} {h : zH} : zrun zpp E 45 (21, ls, sk, h) = zrun zpp E 45 (25, ls, sk, h) := zrun_at (i := (.goto 4, 24, 0, [25])) rfl
theorem zi45_24 {E : zE} {ls sk : List Value} {h : zH} : zrun zpp E 45 (24, ls, sk, h) = zrun zpp E 45 (25, ls, .int 0 :: sk, h) := zg_iconst rfl ci_0
theorem zi45_25 {E : zE} {x : Int32} {ls sk : List Value} {h : zH} : zrun zpp E 45 (25, ls, [.int x], h) = if x = 0 then some (some (.int 0), h) else if x = 1 then some (some (.int 1), h) else none := zrun_at (i := (.ireturn, 26, 1, [])) rfl
-- 46 NineDown$Reader.number
theorem zi46_0 {E : zE} {x : Nat} {ls sk : List Value} {h : zH} : zrun zpp E 46 (0, .ref x :: ls, sk, h) = zrun zpp E 46 (1, .ref x :: ls, .ref x :: sk, h) := zrun_at (i := (.aload_n 0, 1, 0, [])) rfl
theorem zi46_0n {E : zE} {ls sk : List Value} {h : zH} : zrun zpp E 46 (0, .null :: ls, sk, h) = zrun zpp E 46 (1, .null :: ls, .null :: sk, h) := zrun_at (i := (.aload_n 0, 1, 0, [])) rfl
theorem zi46_1 {E : zE} {x : Nat} {ls sk : List Value} {h : zH} : zrun zpp E 46 (1, ls, .ref x :: sk, h) = (zcls h x).bind (fun d => (zsel d [5, 48]).bind (fun M' => zcl1 E 46 4 M' ls sk [.ref x] h)) := zg_vir (as := []) rfl rfl
theorem zi46_4 {E : zE} {x : Nat} {ls sk : List Value} {h : zH} : zrun zpp E 46 (4, .ref x :: ls, sk, h) = zrun zpp E 46 (5, .ref x :: ls, .ref x :: sk, h) := zrun_at (i := (.aload_n 0, 5, 0, [])) rfl
theorem zi46_4n {E : zE} {ls sk : List Value} {h : zH} : zrun zpp E 46 (4, .null :: ls, sk, h) = zrun zpp E 46 (5, .null :: ls, .null :: sk, h) := zrun_at (i := (.aload_n 0, 5, 0, [])) rfl
theorem zi46_5 {E : zE} {x : Nat} {ls sk : List Value} {h : zH} : zrun zpp E 46 (5, ls, .ref x :: sk, h) = (zfld [5] h x 5).bind (fun v => zrun zpp E 46 (8, ls, v :: sk, h)) := zg_getf rfl
theorem zi46_8 {E : zE} {ls sk : List Value} {h : zH} : zrun zpp E 46 (8, ls, sk, h) = zrun zpp E 46 (10, ls, .int 48 :: sk, h) := zg_bipush rfl ci_48
theorem zi46_10 {E : zE} {x y : Int32} {ls sk : List Value} {h : zH} : zrun zpp E 46 (10, ls, .int y :: .int x :: sk, h) = if x = y then zrun zpp E 46 (19, ls, sk, h) else zrun zpp E 46 (13, ls, sk, h) := zrun_at (i := (.if_icmp .eq 9, 13, 0, [19])) rfl
theorem zi46_13 {E : zE} {x : Nat} {ls sk : List Value} {h : zH} : zrun zpp E 46 (13, .ref x :: ls, sk, h) = zrun zpp E 46 (14, .ref x :: ls, .ref x :: sk, h) := zrun_at (i := (.aload_n 0, 14, 0, [])) rfl
theorem zi46_13n {E : zE} {ls sk : List Value} {h : zH} : zrun zpp E 46 (13, .null :: ls, sk, h) = zrun zpp E 46 (14, .null :: ls, .null :: sk, h) := zrun_at (i := (.aload_n 0, 14, 0, [])) rfl
theorem zi46_14 {E : zE} {ls sk : List Value} {h : zH} : zrun zpp E 46 (14, ls, sk, h) = zrun zpp E 46 (15, ls, .int 1 :: sk, h) := zg_iconst rfl ci_1
theorem zi46_15 {E : zE} {a0 : Value} {x : Nat} {ls sk : List Value} {h : zH} : zrun zpp E 46 (15, ls, a0 :: .ref x :: sk, h) = (zcls h x).bind (fun d => (zsel d [5, 47]).bind (fun M' => zcl1 E 46 18 M' ls sk [.ref x, a0] h)) := zg_vir (as := [a0]) rfl rfl
theorem zi46_18 {E : zE} {x : Int32} {ls sk : List Value} {h : zH} : zrun zpp E 46 (18, ls, [.int x], h) = if x = 0 then some (some (.int 0), h) else if x = 1 then some (some (.int 1), h) else none := zrun_at (i := (.ireturn, 19, 1, [])) rfl
theorem zi46_19 {E : zE} {x : Nat} {ls sk : List Value} {h : zH} : zrun zpp E 46 (19, .ref x :: ls, sk, h) = zrun zpp E 46 (20, .ref x :: ls, .ref x :: sk, h) := zrun_at (i := (.aload_n 0, 20, 0, [])) rfl
theorem zi46_19n {E : zE} {ls sk : List Value} {h : zH} : zrun zpp E 46 (19, .null :: ls, sk, h) = zrun zpp E 46 (20, .null :: ls, .null :: sk, h) := zrun_at (i := (.aload_n 0, 20, 0, [])) rfl
theorem zi46_20 {E : zE} {x : Nat} {ls sk : List Value} {h : zH} : zrun zpp E 46 (20, ls, .ref x :: sk, h) = (zfld [5] h x 6).bind (fun v => zrun zpp E 46 (23, ls, v :: sk, h)) := zg_getf rfl
theorem zi46_23 {E : zE} {v0 : Value} {x : Int32} {ls sk : List Value} {h : zH} : zrun zpp E 46 (23, v0 :: .int x :: ls, sk, h) = zrun zpp E 46 (24, v0 :: .int x :: ls, .int x :: sk, h) := zrun_at (i := (.iload_n 1, 24, 0, [])) rfl
theorem zi46_24 {E : zE} {v0 v1 : Value} {x : Int32} {ls sk : List Value} {h : zH} : zrun zpp E 46 (24, v0 :: v1 :: .int x :: ls, sk, h) = zrun zpp E 46 (25, v0 :: v1 :: .int x :: ls, .int x :: sk, h) := zrun_at (i := (.iload_n 2, 25, 0, [])) rfl
theorem zi46_25 {E : zE} {a0 a1 a2 : Value} {ls sk : List Value} {h : zH} : zrun zpp E 46 (25, ls, a2 :: a1 :: a0 :: sk, h) = zcl1 E 46 28 126 ls sk [a0, a1, a2] h := zg_inv (as := [a0, a1, a2]) rfl rfl
theorem zi46_28 {E : zE} {x : Int32} {ls sk : List Value} {h : zH} : zrun zpp E 46 (28, ls, .int x :: sk, h) = if x = 0 then zrun zpp E 46 (31, ls, sk, h) else zrun zpp E 46 (39, ls, sk, h) := zrun_at (i := (.ifCond .ne 11, 31, 0, [39])) rfl
theorem zi46_31 {E : zE} {x : Nat} {ls sk : List Value} {h : zH} : zrun zpp E 46 (31, .ref x :: ls, sk, h) = zrun zpp E 46 (32, .ref x :: ls, .ref x :: sk, h) := zrun_at (i := (.aload_n 0, 32, 0, [])) rfl
theorem zi46_31n {E : zE} {ls sk : List Value} {h : zH} : zrun zpp E 46 (31, .null :: ls, sk, h) = zrun zpp E 46 (32, .null :: ls, .null :: sk, h) := zrun_at (i := (.aload_n 0, 32, 0, [])) rfl
theorem zi46_32 {E : zE} {ls sk : List Value} {h : zH} : zrun zpp E 46 (32, ls, sk, h) = zrun zpp E 46 (33, ls, .int 2 :: sk, h) := zg_iconst rfl ci_2
theorem zi46_33 {E : zE} {a0 : Value} {x : Nat} {ls sk : List Value} {h : zH} : zrun zpp E 46 (33, ls, a0 :: .ref x :: sk, h) = (zcls h x).bind (fun d => (zsel d [5, 47]).bind (fun M' => zcl1 E 46 36 M' ls sk [.ref x, a0] h)) := zg_vir (as := [a0]) rfl rfl
theorem zi46_36 {E : zE} {x : Int32} {ls sk : List Value} {h : zH} : zrun zpp E 46 (36, ls, .int x :: sk, h) = if x = 0 then zrun zpp E 46 (43, ls, sk, h) else zrun zpp E 46 (39, ls, sk, h) := zrun_at (i := (.ifCond .eq 7, 39, 0, [43])) rfl
theorem zi46_39 {E : zE} {ls sk : List Value} {h : zH} : zrun zpp E 46 (39, ls, sk, h) = zrun zpp E 46 (40, ls, .int 1 :: sk, h) := zg_iconst rfl ci_1
theorem zi46_40 {E : zE} {ls sk : List Value} {h : zH} : zrun zpp E 46 (40, ls, sk, h) = zrun zpp E 46 (44, ls, sk, h) := zrun_at (i := (.goto 4, 43, 0, [44])) rfl
theorem zi46_43 {E : zE} {ls sk : List Value} {h : zH} : zrun zpp E 46 (43, ls, sk, h) = zrun zpp E 46 (44, ls, .int 0 :: sk, h) := zg_iconst rfl ci_0
theorem zi46_44 {E : zE} {x : Int32} {ls sk : List Value} {h : zH} : zrun zpp E 46 (44, ls, [.int x], h) = if x = 0 then some (some (.int 0), h) else if x = 1 then some (some (.int 1), h) else none := zrun_at (i := (.ireturn, 45, 1, [])) rfl
-- 47 NineDown$Reader.refuse
theorem zi47_0 {E : zE} {x : Nat} {ls sk : List Value} {h : zH} : zrun zpp E 47 (0, .ref x :: ls, sk, h) = zrun zpp E 47 (1, .ref x :: ls, .ref x :: sk, h) := zrun_at (i := (.aload_n 0, 1, 0, [])) rfl
theorem zi47_0n {E : zE} {ls sk : List Value} {h : zH} : zrun zpp E 47 (0, .null :: ls, sk, h) = zrun zpp E 47 (1, .null :: ls, .null :: sk, h) := zrun_at (i := (.aload_n 0, 1, 0, [])) rfl
theorem zi47_1 {E : zE} {v0 : Value} {x : Int32} {ls sk : List Value} {h : zH} : zrun zpp E 47 (1, v0 :: .int x :: ls, sk, h) = zrun zpp E 47 (2, v0 :: .int x :: ls, .int x :: sk, h) := zrun_at (i := (.iload_n 1, 2, 0, [])) rfl
theorem zi47_2 {E : zE} {x : Nat} {v : Value} {ls sk : List Value} {h : zH} : zrun zpp E 47 (2, ls, v :: .ref x :: sk, h) = (zstf [5] 0 h x 2 v).bind (fun h' => zrun zpp E 47 (5, ls, sk, h')) := zg_putf rfl
theorem zi47_5 {E : zE} {ls sk : List Value} {h : zH} : zrun zpp E 47 (5, ls, sk, h) = zrun zpp E 47 (6, ls, .int 0 :: sk, h) := zg_iconst rfl ci_0
theorem zi47_6 {E : zE} {x : Int32} {ls sk : List Value} {h : zH} : zrun zpp E 47 (6, ls, [.int x], h) = if x = 0 then some (some (.int 0), h) else if x = 1 then some (some (.int 1), h) else none := zrun_at (i := (.ireturn, 7, 1, [])) rfl
-- 48 NineDown$Reader.advance
theorem zi48_0 {E : zE} {x : Nat} {ls sk : List Value} {h : zH} : zrun zpp E 48 (0, .ref x :: ls, sk, h) = zrun zpp E 48 (1, .ref x :: ls, .ref x :: sk, h) := zrun_at (i := (.aload_n 0, 1, 0, [])) rfl
theorem zi48_0n {E : zE} {ls sk : List Value} {h : zH} : zrun zpp E 48 (0, .null :: ls, sk, h) = zrun zpp E 48 (1, .null :: ls, .null :: sk, h) := zrun_at (i := (.aload_n 0, 1, 0, [])) rfl
theorem zi48_1 {E : zE} {x : Nat} {ls sk : List Value} {h : zH} : zrun zpp E 48 (1, .ref x :: ls, sk, h) = zrun zpp E 48 (2, .ref x :: ls, .ref x :: sk, h) := zrun_at (i := (.aload_n 0, 2, 0, [])) rfl
theorem zi48_1n {E : zE} {ls sk : List Value} {h : zH} : zrun zpp E 48 (1, .null :: ls, sk, h) = zrun zpp E 48 (2, .null :: ls, .null :: sk, h) := zrun_at (i := (.aload_n 0, 2, 0, [])) rfl
theorem zi48_2 {E : zE} {x : Nat} {ls sk : List Value} {h : zH} : zrun zpp E 48 (2, ls, .ref x :: sk, h) = (zfld [5] h x 3).bind (fun v => zrun zpp E 48 (5, ls, v :: sk, h)) := zg_getf rfl
theorem zi48_5 {E : zE} {x : Nat} {v : Value} {ls sk : List Value} {h : zH} : zrun zpp E 48 (5, ls, v :: .ref x :: sk, h) = (zstf [5] 0 h x 4 v).bind (fun h' => zrun zpp E 48 (8, ls, sk, h')) := zg_putf rfl
theorem zi48_8 {E : zE} {x : Nat} {ls sk : List Value} {h : zH} : zrun zpp E 48 (8, .ref x :: ls, sk, h) = zrun zpp E 48 (9, .ref x :: ls, .ref x :: sk, h) := zrun_at (i := (.aload_n 0, 9, 0, [])) rfl
theorem zi48_8n {E : zE} {ls sk : List Value} {h : zH} : zrun zpp E 48 (8, .null :: ls, sk, h) = zrun zpp E 48 (9, .null :: ls, .null :: sk, h) := zrun_at (i := (.aload_n 0, 9, 0, [])) rfl
theorem zi48_9 {E : zE} {x : Nat} {ls sk : List Value} {h : zH} : zrun zpp E 48 (9, ls, .ref x :: sk, h) = (zfld [5] h x 3).bind (fun v => zrun zpp E 48 (12, ls, v :: sk, h)) := zg_getf rfl
theorem zi48_12 {E : zE} {x : Nat} {ls sk : List Value} {h : zH} : zrun zpp E 48 (12, .ref x :: ls, sk, h) = zrun zpp E 48 (13, .ref x :: ls, .ref x :: sk, h) := zrun_at (i := (.aload_n 0, 13, 0, [])) rfl
theorem zi48_12n {E : zE} {ls sk : List Value} {h : zH} : zrun zpp E 48 (12, .null :: ls, sk, h) = zrun zpp E 48 (13, .null :: ls, .null :: sk, h) := zrun_at (i := (.aload_n 0, 13, 0, [])) rfl
theorem zi48_13 {E : zE} {x : Nat} {ls sk : List Value} {h : zH} : zrun zpp E 48 (13, ls, .ref x :: sk, h) = (zfld [5] h x 1).bind (fun v => zrun zpp E 48 (16, ls, v :: sk, h)) := zg_getf rfl
theorem zi48_16 {E : zE} {x y : Int32} {ls sk : List Value} {h : zH} : zrun zpp E 48 (16, ls, .int y :: .int x :: sk, h) = if x < y then zrun zpp E 48 (25, ls, sk, h) else zrun zpp E 48 (19, ls, sk, h) := zrun_at (i := (.if_icmp .lt 9, 19, 0, [25])) rfl
theorem zi48_19 {E : zE} {x : Nat} {ls sk : List Value} {h : zH} : zrun zpp E 48 (19, .ref x :: ls, sk, h) = zrun zpp E 48 (20, .ref x :: ls, .ref x :: sk, h) := zrun_at (i := (.aload_n 0, 20, 0, [])) rfl
theorem zi48_19n {E : zE} {ls sk : List Value} {h : zH} : zrun zpp E 48 (19, .null :: ls, sk, h) = zrun zpp E 48 (20, .null :: ls, .null :: sk, h) := zrun_at (i := (.aload_n 0, 20, 0, [])) rfl
theorem zi48_20 {E : zE} {ls sk : List Value} {h : zH} : zrun zpp E 48 (20, ls, sk, h) = zrun zpp E 48 (21, ls, .int (-1) :: sk, h) := zg_iconst rfl ci_m1
theorem zi48_21 {E : zE} {x : Nat} {v : Value} {ls sk : List Value} {h : zH} : zrun zpp E 48 (21, ls, v :: .ref x :: sk, h) = (zstf [5] 0 h x 5 v).bind (fun h' => zrun zpp E 48 (24, ls, sk, h')) := zg_putf rfl
theorem zi48_24 {E : zE} {ls sk : List Value} {h : zH} : zrun zpp E 48 (24, ls, [], h) = some (none, h) := zrun_at (i := (.return_, 25, 0, [])) rfl
theorem zi48_25 {E : zE} {x : Nat} {ls sk : List Value} {h : zH} : zrun zpp E 48 (25, .ref x :: ls, sk, h) = zrun zpp E 48 (26, .ref x :: ls, .ref x :: sk, h) := zrun_at (i := (.aload_n 0, 26, 0, [])) rfl
theorem zi48_25n {E : zE} {ls sk : List Value} {h : zH} : zrun zpp E 48 (25, .null :: ls, sk, h) = zrun zpp E 48 (26, .null :: ls, .null :: sk, h) := zrun_at (i := (.aload_n 0, 26, 0, [])) rfl
theorem zi48_26 {E : zE} {x : Nat} {ls sk : List Value} {h : zH} : zrun zpp E 48 (26, ls, .ref x :: sk, h) = (zfld [5] h x 0).bind (fun v => zrun zpp E 48 (29, ls, v :: sk, h)) := zg_getf rfl
theorem zi48_29 {E : zE} {x : Nat} {ls sk : List Value} {h : zH} : zrun zpp E 48 (29, .ref x :: ls, sk, h) = zrun zpp E 48 (30, .ref x :: ls, .ref x :: sk, h) := zrun_at (i := (.aload_n 0, 30, 0, [])) rfl
theorem zi48_29n {E : zE} {ls sk : List Value} {h : zH} : zrun zpp E 48 (29, .null :: ls, sk, h) = zrun zpp E 48 (30, .null :: ls, .null :: sk, h) := zrun_at (i := (.aload_n 0, 30, 0, [])) rfl
theorem zi48_30 {E : zE} {x : Nat} {ls sk : List Value} {h : zH} : zrun zpp E 48 (30, ls, .ref x :: sk, h) = (zfld [5] h x 3).bind (fun v => zrun zpp E 48 (33, ls, v :: sk, h)) := zg_getf rfl
theorem zi48_33 {E : zE} {x : Nat} {i : Int32} {ls sk : List Value} {h : zH} : zrun zpp E 48 (33, ls, .int i :: .ref x :: sk, h) = (zarr 0 h x i).bind (fun v => zrun zpp E 48 (34, ls, .int v :: sk, h)) := zg_iald rfl
theorem zi48_34 {E : zE} {x : Int32} {ls sk : List Value} {h : zH} : zrun zpp E 48 (34, ls, .int x :: sk, h) = if zfree ls 1 = true then zrun zpp E 48 (35, ls.set 1 (.int x), sk, h) else none := zg_ist rfl (fun _ _ _ => rfl)
theorem zi48_35 {E : zE} {v0 : Value} {x : Int32} {ls sk : List Value} {h : zH} : zrun zpp E 48 (35, v0 :: .int x :: ls, sk, h) = zrun zpp E 48 (36, v0 :: .int x :: ls, .int x :: sk, h) := zrun_at (i := (.iload_n 1, 36, 0, [])) rfl
theorem zi48_36 {E : zE} {ls sk : List Value} {h : zH} : zrun zpp E 48 (36, ls, sk, h) = zrun zpp E 48 (38, ls, .int 48 :: sk, h) := zg_bipush rfl ci_48
theorem zi48_38 {E : zE} {x y : Int32} {ls sk : List Value} {h : zH} : zrun zpp E 48 (38, ls, .int y :: .int x :: sk, h) = if x < y then zrun zpp E 48 (52, ls, sk, h) else zrun zpp E 48 (41, ls, sk, h) := zrun_at (i := (.if_icmp .lt 14, 41, 0, [52])) rfl
theorem zi48_41 {E : zE} {v0 : Value} {x : Int32} {ls sk : List Value} {h : zH} : zrun zpp E 48 (41, v0 :: .int x :: ls, sk, h) = zrun zpp E 48 (42, v0 :: .int x :: ls, .int x :: sk, h) := zrun_at (i := (.iload_n 1, 42, 0, [])) rfl
theorem zi48_42 {E : zE} {ls sk : List Value} {h : zH} : zrun zpp E 48 (42, ls, sk, h) = zrun zpp E 48 (44, ls, .int 57 :: sk, h) := zg_bipush rfl ci_57
theorem zi48_44 {E : zE} {x y : Int32} {ls sk : List Value} {h : zH} : zrun zpp E 48 (44, ls, .int y :: .int x :: sk, h) = if y < x then zrun zpp E 48 (52, ls, sk, h) else zrun zpp E 48 (47, ls, sk, h) := zrun_at (i := (.if_icmp .gt 8, 47, 0, [52])) rfl
theorem zi48_47 {E : zE} {x : Nat} {ls sk : List Value} {h : zH} : zrun zpp E 48 (47, .ref x :: ls, sk, h) = zrun zpp E 48 (48, .ref x :: ls, .ref x :: sk, h) := zrun_at (i := (.aload_n 0, 48, 0, [])) rfl
theorem zi48_47n {E : zE} {ls sk : List Value} {h : zH} : zrun zpp E 48 (47, .null :: ls, sk, h) = zrun zpp E 48 (48, .null :: ls, .null :: sk, h) := zrun_at (i := (.aload_n 0, 48, 0, [])) rfl
theorem zi48_48 {E : zE} {x : Nat} {ls sk : List Value} {h : zH} : zrun zpp E 48 (48, ls, .ref x :: sk, h) = (zcls h x).bind (fun d => (zsel d [5, 49]).bind (fun M' => zcl1 E 48 51 M' ls sk [.ref x] h)) := zg_vir (as := []) rfl rfl
theorem zi48_51 {E : zE} {ls sk : List Value} {h : zH} : zrun zpp E 48 (51, ls, [], h) = some (none, h) := zrun_at (i := (.return_, 52, 0, [])) rfl
theorem zi48_52 {E : zE} {x : Nat} {ls sk : List Value} {h : zH} : zrun zpp E 48 (52, .ref x :: ls, sk, h) = zrun zpp E 48 (53, .ref x :: ls, .ref x :: sk, h) := zrun_at (i := (.aload_n 0, 53, 0, [])) rfl
theorem zi48_52n {E : zE} {ls sk : List Value} {h : zH} : zrun zpp E 48 (52, .null :: ls, sk, h) = zrun zpp E 48 (53, .null :: ls, .null :: sk, h) := zrun_at (i := (.aload_n 0, 53, 0, [])) rfl
theorem zi48_53 {E : zE} {x : Nat} {ls sk : List Value} {h : zH} : zrun zpp E 48 (53, ls, .ref x :: sk, h) = zrun zpp E 48 (54, ls, .ref x :: .ref x :: sk, h) := zrun_at (i := (.dup, 54, 0, [])) rfl
theorem zi48_53i {E : zE} {x : Int32} {ls sk : List Value} {h : zH} : zrun zpp E 48 (53, ls, .int x :: sk, h) = zrun zpp E 48 (54, ls, .int x :: .int x :: sk, h) := zrun_at (i := (.dup, 54, 0, [])) rfl
theorem zi48_54 {E : zE} {x : Nat} {ls sk : List Value} {h : zH} : zrun zpp E 48 (54, ls, .ref x :: sk, h) = (zfld [5] h x 3).bind (fun v => zrun zpp E 48 (57, ls, v :: sk, h)) := zg_getf rfl
theorem zi48_57 {E : zE} {ls sk : List Value} {h : zH} : zrun zpp E 48 (57, ls, sk, h) = zrun zpp E 48 (58, ls, .int 1 :: sk, h) := zg_iconst rfl ci_1
theorem zi48_58 {E : zE} {x y : Int32} {ls sk : List Value} {h : zH} : zrun zpp E 48 (58, ls, .int y :: .int x :: sk, h) = zrun zpp E 48 (59, ls, .int (x + y) :: sk, h) := zrun_at (i := (.iadd, 59, 0, [])) rfl
theorem zi48_59 {E : zE} {x : Nat} {v : Value} {ls sk : List Value} {h : zH} : zrun zpp E 48 (59, ls, v :: .ref x :: sk, h) = (zstf [5] 0 h x 3 v).bind (fun h' => zrun zpp E 48 (62, ls, sk, h')) := zg_putf rfl
theorem zi48_62 {E : zE} {v0 : Value} {x : Int32} {ls sk : List Value} {h : zH} : zrun zpp E 48 (62, v0 :: .int x :: ls, sk, h) = zrun zpp E 48 (63, v0 :: .int x :: ls, .int x :: sk, h) := zrun_at (i := (.iload_n 1, 63, 0, [])) rfl
theorem zi48_63 {E : zE} {ls sk : List Value} {h : zH} : zrun zpp E 48 (63, ls, sk, h) = zrun zpp E 48 (65, ls, .int 97 :: sk, h) := zg_bipush rfl ci_97
theorem zi48_65 {E : zE} {ls sk : List Value} {h : zH} : zrun zpp E 48 (65, ls, sk, h) = zrun zpp E 48 (67, ls, .int 122 :: sk, h) := zg_bipush rfl ci_122
theorem zi48_67 {E : zE} {a0 a1 a2 : Value} {ls sk : List Value} {h : zH} : zrun zpp E 48 (67, ls, a2 :: a1 :: a0 :: sk, h) = zcl1 E 48 70 126 ls sk [a0, a1, a2] h := zg_inv (as := [a0, a1, a2]) rfl rfl
theorem zi48_70 {E : zE} {x : Int32} {ls sk : List Value} {h : zH} : zrun zpp E 48 (70, ls, .int x :: sk, h) = if x = 0 then zrun zpp E 48 (73, ls, sk, h) else zrun zpp E 48 (85, ls, sk, h) := zrun_at (i := (.ifCond .ne 15, 73, 0, [85])) rfl
theorem zi48_73 {E : zE} {v0 : Value} {x : Int32} {ls sk : List Value} {h : zH} : zrun zpp E 48 (73, v0 :: .int x :: ls, sk, h) = zrun zpp E 48 (74, v0 :: .int x :: ls, .int x :: sk, h) := zrun_at (i := (.iload_n 1, 74, 0, [])) rfl
theorem zi48_74 {E : zE} {ls sk : List Value} {h : zH} : zrun zpp E 48 (74, ls, sk, h) = zrun zpp E 48 (76, ls, .int 44 :: sk, h) := zg_bipush rfl ci_44
theorem zi48_76 {E : zE} {x y : Int32} {ls sk : List Value} {h : zH} : zrun zpp E 48 (76, ls, .int y :: .int x :: sk, h) = if x = y then zrun zpp E 48 (85, ls, sk, h) else zrun zpp E 48 (79, ls, sk, h) := zrun_at (i := (.if_icmp .eq 9, 79, 0, [85])) rfl
theorem zi48_79 {E : zE} {v0 : Value} {x : Int32} {ls sk : List Value} {h : zH} : zrun zpp E 48 (79, v0 :: .int x :: ls, sk, h) = zrun zpp E 48 (80, v0 :: .int x :: ls, .int x :: sk, h) := zrun_at (i := (.iload_n 1, 80, 0, [])) rfl
theorem zi48_80 {E : zE} {ls sk : List Value} {h : zH} : zrun zpp E 48 (80, ls, sk, h) = zrun zpp E 48 (82, ls, .int 59 :: sk, h) := zg_bipush rfl ci_59
theorem zi48_82 {E : zE} {x y : Int32} {ls sk : List Value} {h : zH} : zrun zpp E 48 (82, ls, .int y :: .int x :: sk, h) = if x = y then zrun zpp E 48 (85, ls, sk, h) else zrun zpp E 48 (89, ls, sk, h) := zrun_at (i := (.if_icmp .ne 7, 85, 0, [89])) rfl
theorem zi48_85 {E : zE} {ls sk : List Value} {h : zH} : zrun zpp E 48 (85, ls, sk, h) = zrun zpp E 48 (86, ls, .int 1 :: sk, h) := zg_iconst rfl ci_1
theorem zi48_86 {E : zE} {ls sk : List Value} {h : zH} : zrun zpp E 48 (86, ls, sk, h) = zrun zpp E 48 (90, ls, sk, h) := zrun_at (i := (.goto 4, 89, 0, [90])) rfl
theorem zi48_89 {E : zE} {ls sk : List Value} {h : zH} : zrun zpp E 48 (89, ls, sk, h) = zrun zpp E 48 (90, ls, .int 0 :: sk, h) := zg_iconst rfl ci_0
theorem zi48_90 {E : zE} {x : Int32} {ls sk : List Value} {h : zH} : zrun zpp E 48 (90, ls, .int x :: sk, h) = if zfree ls 2 = true then zrun zpp E 48 (91, ls.set 2 (.int x), sk, h) else none := zg_ist rfl (fun _ _ _ => rfl)
theorem zi48_91 {E : zE} {x : Nat} {ls sk : List Value} {h : zH} : zrun zpp E 48 (91, .ref x :: ls, sk, h) = zrun zpp E 48 (92, .ref x :: ls, .ref x :: sk, h) := zrun_at (i := (.aload_n 0, 92, 0, [])) rfl
theorem zi48_91n {E : zE} {ls sk : List Value} {h : zH} : zrun zpp E 48 (91, .null :: ls, sk, h) = zrun zpp E 48 (92, .null :: ls, .null :: sk, h) := zrun_at (i := (.aload_n 0, 92, 0, [])) rfl
theorem zi48_92 {E : zE} {v0 v1 : Value} {x : Int32} {ls sk : List Value} {h : zH} : zrun zpp E 48 (92, v0 :: v1 :: .int x :: ls, sk, h) = zrun zpp E 48 (93, v0 :: v1 :: .int x :: ls, .int x :: sk, h) := zrun_at (i := (.iload_n 2, 93, 0, [])) rfl
theorem zi48_93 {E : zE} {x : Int32} {ls sk : List Value} {h : zH} : zrun zpp E 48 (93, ls, .int x :: sk, h) = if x = 0 then zrun zpp E 48 (100, ls, sk, h) else zrun zpp E 48 (96, ls, sk, h) := zrun_at (i := (.ifCond .eq 7, 96, 0, [100])) rfl
theorem zi48_96 {E : zE} {v0 : Value} {x : Int32} {ls sk : List Value} {h : zH} : zrun zpp E 48 (96, v0 :: .int x :: ls, sk, h) = zrun zpp E 48 (97, v0 :: .int x :: ls, .int x :: sk, h) := zrun_at (i := (.iload_n 1, 97, 0, [])) rfl
theorem zi48_97 {E : zE} {ls sk : List Value} {h : zH} : zrun zpp E 48 (97, ls, sk, h) = zrun zpp E 48 (101, ls, sk, h) := zrun_at (i := (.goto 4, 100, 0, [101])) rfl
theorem zi48_100 {E : zE} {ls sk : List Value} {h : zH} : zrun zpp E 48 (100, ls, sk, h) = zrun zpp E 48 (101, ls, .int 0 :: sk, h) := zg_iconst rfl ci_0
theorem zi48_101 {E : zE} {x : Nat} {v : Value} {ls sk : List Value} {h : zH} : zrun zpp E 48 (101, ls, v :: .ref x :: sk, h) = (zstf [5] 0 h x 5 v).bind (fun h' => zrun zpp E 48 (104, ls, sk, h')) := zg_putf rfl
theorem zi48_104 {E : zE} {ls sk : List Value} {h : zH} : zrun zpp E 48 (104, ls, [], h) = some (none, h) := zrun_at (i := (.return_, 105, 0, [])) rfl
-- 49 NineDown$Reader.advanceNumber
theorem zi49_0 {E : zE} {x : Nat} {ls sk : List Value} {h : zH} : zrun zpp E 49 (0, .ref x :: ls, sk, h) = zrun zpp E 49 (1, .ref x :: ls, .ref x :: sk, h) := zrun_at (i := (.aload_n 0, 1, 0, [])) rfl
theorem zi49_0n {E : zE} {ls sk : List Value} {h : zH} : zrun zpp E 49 (0, .null :: ls, sk, h) = zrun zpp E 49 (1, .null :: ls, .null :: sk, h) := zrun_at (i := (.aload_n 0, 1, 0, [])) rfl
theorem zi49_1 {E : zE} {ls sk : List Value} {h : zH} : zrun zpp E 49 (1, ls, sk, h) = zrun zpp E 49 (2, ls, .int 0 :: sk, h) := zg_iconst rfl ci_0
theorem zi49_2 {E : zE} {x : Nat} {v : Value} {ls sk : List Value} {h : zH} : zrun zpp E 49 (2, ls, v :: .ref x :: sk, h) = (zstf [5] 0 h x 6 v).bind (fun h' => zrun zpp E 49 (5, ls, sk, h')) := zg_putf rfl
theorem zi49_5 {E : zE} {x : Nat} {ls sk : List Value} {h : zH} : zrun zpp E 49 (5, .ref x :: ls, sk, h) = zrun zpp E 49 (6, .ref x :: ls, .ref x :: sk, h) := zrun_at (i := (.aload_n 0, 6, 0, [])) rfl
theorem zi49_5n {E : zE} {ls sk : List Value} {h : zH} : zrun zpp E 49 (5, .null :: ls, sk, h) = zrun zpp E 49 (6, .null :: ls, .null :: sk, h) := zrun_at (i := (.aload_n 0, 6, 0, [])) rfl
theorem zi49_6 {E : zE} {x : Nat} {ls sk : List Value} {h : zH} : zrun zpp E 49 (6, ls, .ref x :: sk, h) = (zfld [5] h x 3).bind (fun v => zrun zpp E 49 (9, ls, v :: sk, h)) := zg_getf rfl
theorem zi49_9 {E : zE} {x : Nat} {ls sk : List Value} {h : zH} : zrun zpp E 49 (9, .ref x :: ls, sk, h) = zrun zpp E 49 (10, .ref x :: ls, .ref x :: sk, h) := zrun_at (i := (.aload_n 0, 10, 0, [])) rfl
theorem zi49_9n {E : zE} {ls sk : List Value} {h : zH} : zrun zpp E 49 (9, .null :: ls, sk, h) = zrun zpp E 49 (10, .null :: ls, .null :: sk, h) := zrun_at (i := (.aload_n 0, 10, 0, [])) rfl
theorem zi49_10 {E : zE} {x : Nat} {ls sk : List Value} {h : zH} : zrun zpp E 49 (10, ls, .ref x :: sk, h) = (zfld [5] h x 1).bind (fun v => zrun zpp E 49 (13, ls, v :: sk, h)) := zg_getf rfl
theorem zi49_13 {E : zE} {x y : Int32} {ls sk : List Value} {h : zH} : zrun zpp E 49 (13, ls, .int y :: .int x :: sk, h) = if y ≤ x then zrun zpp E 49 (87, ls, sk, h) else zrun zpp E 49 (16, ls, sk, h) := zrun_at (i := (.if_icmp .ge 74, 16, 0, [87])) rfl
theorem zi49_16 {E : zE} {x : Nat} {ls sk : List Value} {h : zH} : zrun zpp E 49 (16, .ref x :: ls, sk, h) = zrun zpp E 49 (17, .ref x :: ls, .ref x :: sk, h) := zrun_at (i := (.aload_n 0, 17, 0, [])) rfl
theorem zi49_16n {E : zE} {ls sk : List Value} {h : zH} : zrun zpp E 49 (16, .null :: ls, sk, h) = zrun zpp E 49 (17, .null :: ls, .null :: sk, h) := zrun_at (i := (.aload_n 0, 17, 0, [])) rfl
theorem zi49_17 {E : zE} {x : Nat} {ls sk : List Value} {h : zH} : zrun zpp E 49 (17, ls, .ref x :: sk, h) = (zfld [5] h x 0).bind (fun v => zrun zpp E 49 (20, ls, v :: sk, h)) := zg_getf rfl
theorem zi49_20 {E : zE} {x : Nat} {ls sk : List Value} {h : zH} : zrun zpp E 49 (20, .ref x :: ls, sk, h) = zrun zpp E 49 (21, .ref x :: ls, .ref x :: sk, h) := zrun_at (i := (.aload_n 0, 21, 0, [])) rfl
theorem zi49_20n {E : zE} {ls sk : List Value} {h : zH} : zrun zpp E 49 (20, .null :: ls, sk, h) = zrun zpp E 49 (21, .null :: ls, .null :: sk, h) := zrun_at (i := (.aload_n 0, 21, 0, [])) rfl
theorem zi49_21 {E : zE} {x : Nat} {ls sk : List Value} {h : zH} : zrun zpp E 49 (21, ls, .ref x :: sk, h) = (zfld [5] h x 3).bind (fun v => zrun zpp E 49 (24, ls, v :: sk, h)) := zg_getf rfl
theorem zi49_24 {E : zE} {x : Nat} {i : Int32} {ls sk : List Value} {h : zH} : zrun zpp E 49 (24, ls, .int i :: .ref x :: sk, h) = (zarr 0 h x i).bind (fun v => zrun zpp E 49 (25, ls, .int v :: sk, h)) := zg_iald rfl
theorem zi49_25 {E : zE} {ls sk : List Value} {h : zH} : zrun zpp E 49 (25, ls, sk, h) = zrun zpp E 49 (27, ls, .int 48 :: sk, h) := zg_bipush rfl ci_48
theorem zi49_27 {E : zE} {x y : Int32} {ls sk : List Value} {h : zH} : zrun zpp E 49 (27, ls, .int y :: .int x :: sk, h) = if x < y then zrun zpp E 49 (87, ls, sk, h) else zrun zpp E 49 (30, ls, sk, h) := zrun_at (i := (.if_icmp .lt 60, 30, 0, [87])) rfl
theorem zi49_30 {E : zE} {x : Nat} {ls sk : List Value} {h : zH} : zrun zpp E 49 (30, .ref x :: ls, sk, h) = zrun zpp E 49 (31, .ref x :: ls, .ref x :: sk, h) := zrun_at (i := (.aload_n 0, 31, 0, [])) rfl
theorem zi49_30n {E : zE} {ls sk : List Value} {h : zH} : zrun zpp E 49 (30, .null :: ls, sk, h) = zrun zpp E 49 (31, .null :: ls, .null :: sk, h) := zrun_at (i := (.aload_n 0, 31, 0, [])) rfl
theorem zi49_31 {E : zE} {x : Nat} {ls sk : List Value} {h : zH} : zrun zpp E 49 (31, ls, .ref x :: sk, h) = (zfld [5] h x 0).bind (fun v => zrun zpp E 49 (34, ls, v :: sk, h)) := zg_getf rfl
theorem zi49_34 {E : zE} {x : Nat} {ls sk : List Value} {h : zH} : zrun zpp E 49 (34, .ref x :: ls, sk, h) = zrun zpp E 49 (35, .ref x :: ls, .ref x :: sk, h) := zrun_at (i := (.aload_n 0, 35, 0, [])) rfl
theorem zi49_34n {E : zE} {ls sk : List Value} {h : zH} : zrun zpp E 49 (34, .null :: ls, sk, h) = zrun zpp E 49 (35, .null :: ls, .null :: sk, h) := zrun_at (i := (.aload_n 0, 35, 0, [])) rfl
theorem zi49_35 {E : zE} {x : Nat} {ls sk : List Value} {h : zH} : zrun zpp E 49 (35, ls, .ref x :: sk, h) = (zfld [5] h x 3).bind (fun v => zrun zpp E 49 (38, ls, v :: sk, h)) := zg_getf rfl
theorem zi49_38 {E : zE} {x : Nat} {i : Int32} {ls sk : List Value} {h : zH} : zrun zpp E 49 (38, ls, .int i :: .ref x :: sk, h) = (zarr 0 h x i).bind (fun v => zrun zpp E 49 (39, ls, .int v :: sk, h)) := zg_iald rfl
theorem zi49_39 {E : zE} {ls sk : List Value} {h : zH} : zrun zpp E 49 (39, ls, sk, h) = zrun zpp E 49 (41, ls, .int 57 :: sk, h) := zg_bipush rfl ci_57
theorem zi49_41 {E : zE} {x y : Int32} {ls sk : List Value} {h : zH} : zrun zpp E 49 (41, ls, .int y :: .int x :: sk, h) = if y < x then zrun zpp E 49 (87, ls, sk, h) else zrun zpp E 49 (44, ls, sk, h) := zrun_at (i := (.if_icmp .gt 46, 44, 0, [87])) rfl
theorem zi49_44 {E : zE} {x : Nat} {ls sk : List Value} {h : zH} : zrun zpp E 49 (44, .ref x :: ls, sk, h) = zrun zpp E 49 (45, .ref x :: ls, .ref x :: sk, h) := zrun_at (i := (.aload_n 0, 45, 0, [])) rfl
theorem zi49_44n {E : zE} {ls sk : List Value} {h : zH} : zrun zpp E 49 (44, .null :: ls, sk, h) = zrun zpp E 49 (45, .null :: ls, .null :: sk, h) := zrun_at (i := (.aload_n 0, 45, 0, [])) rfl
theorem zi49_45 {E : zE} {x : Nat} {ls sk : List Value} {h : zH} : zrun zpp E 49 (45, .ref x :: ls, sk, h) = zrun zpp E 49 (46, .ref x :: ls, .ref x :: sk, h) := zrun_at (i := (.aload_n 0, 46, 0, [])) rfl
theorem zi49_45n {E : zE} {ls sk : List Value} {h : zH} : zrun zpp E 49 (45, .null :: ls, sk, h) = zrun zpp E 49 (46, .null :: ls, .null :: sk, h) := zrun_at (i := (.aload_n 0, 46, 0, [])) rfl
theorem zi49_46 {E : zE} {x : Nat} {ls sk : List Value} {h : zH} : zrun zpp E 49 (46, ls, .ref x :: sk, h) = (zfld [5] h x 6).bind (fun v => zrun zpp E 49 (49, ls, v :: sk, h)) := zg_getf rfl
theorem zi49_49 {E : zE} {ls sk : List Value} {h : zH} : zrun zpp E 49 (49, ls, sk, h) = zrun zpp E 49 (51, ls, .int 10 :: sk, h) := zg_bipush rfl ci_10
theorem zi49_51 {E : zE} {x y : Int32} {ls sk : List Value} {h : zH} : zrun zpp E 49 (51, ls, .int y :: .int x :: sk, h) = zrun zpp E 49 (52, ls, .int (x * y) :: sk, h) := zrun_at (i := (.imul, 52, 0, [])) rfl
theorem zi49_52 {E : zE} {x : Nat} {ls sk : List Value} {h : zH} : zrun zpp E 49 (52, .ref x :: ls, sk, h) = zrun zpp E 49 (53, .ref x :: ls, .ref x :: sk, h) := zrun_at (i := (.aload_n 0, 53, 0, [])) rfl
theorem zi49_52n {E : zE} {ls sk : List Value} {h : zH} : zrun zpp E 49 (52, .null :: ls, sk, h) = zrun zpp E 49 (53, .null :: ls, .null :: sk, h) := zrun_at (i := (.aload_n 0, 53, 0, [])) rfl
theorem zi49_53 {E : zE} {x : Nat} {ls sk : List Value} {h : zH} : zrun zpp E 49 (53, ls, .ref x :: sk, h) = (zfld [5] h x 0).bind (fun v => zrun zpp E 49 (56, ls, v :: sk, h)) := zg_getf rfl
theorem zi49_56 {E : zE} {x : Nat} {ls sk : List Value} {h : zH} : zrun zpp E 49 (56, .ref x :: ls, sk, h) = zrun zpp E 49 (57, .ref x :: ls, .ref x :: sk, h) := zrun_at (i := (.aload_n 0, 57, 0, [])) rfl
theorem zi49_56n {E : zE} {ls sk : List Value} {h : zH} : zrun zpp E 49 (56, .null :: ls, sk, h) = zrun zpp E 49 (57, .null :: ls, .null :: sk, h) := zrun_at (i := (.aload_n 0, 57, 0, [])) rfl
theorem zi49_57 {E : zE} {x : Nat} {ls sk : List Value} {h : zH} : zrun zpp E 49 (57, ls, .ref x :: sk, h) = (zfld [5] h x 3).bind (fun v => zrun zpp E 49 (60, ls, v :: sk, h)) := zg_getf rfl
theorem zi49_60 {E : zE} {x : Nat} {i : Int32} {ls sk : List Value} {h : zH} : zrun zpp E 49 (60, ls, .int i :: .ref x :: sk, h) = (zarr 0 h x i).bind (fun v => zrun zpp E 49 (61, ls, .int v :: sk, h)) := zg_iald rfl
theorem zi49_61 {E : zE} {x y : Int32} {ls sk : List Value} {h : zH} : zrun zpp E 49 (61, ls, .int y :: .int x :: sk, h) = zrun zpp E 49 (62, ls, .int (x + y) :: sk, h) := zrun_at (i := (.iadd, 62, 0, [])) rfl
theorem zi49_62 {E : zE} {ls sk : List Value} {h : zH} : zrun zpp E 49 (62, ls, sk, h) = zrun zpp E 49 (64, ls, .int 48 :: sk, h) := zg_bipush rfl ci_48
theorem zi49_64 {E : zE} {x y : Int32} {ls sk : List Value} {h : zH} : zrun zpp E 49 (64, ls, .int y :: .int x :: sk, h) = zrun zpp E 49 (65, ls, .int (x - y) :: sk, h) := zrun_at (i := (.isub, 65, 0, [])) rfl
theorem zi49_65 {E : zE} {ls sk : List Value} {h : zH} : zrun zpp E 49 (65, ls, sk, h) = zrun zpp E 49 (68, ls, .int 1000 :: sk, h) := zg_sipush rfl ci_1000
theorem zi49_68 {E : zE} {x y : Int32} {ls sk : List Value} {h : zH} : zrun zpp E 49 (68, ls, .int y :: .int x :: sk, h) = if zlow sk = true then zrun zpp E 49 (71, ls, .int (if y < x then y else x) :: sk, h) else none := zrun_at (i := (.invokestatic 128, 71, 3, [])) rfl
theorem zi49_71 {E : zE} {x : Nat} {v : Value} {ls sk : List Value} {h : zH} : zrun zpp E 49 (71, ls, v :: .ref x :: sk, h) = (zstf [5] 0 h x 6 v).bind (fun h' => zrun zpp E 49 (74, ls, sk, h')) := zg_putf rfl
theorem zi49_74 {E : zE} {x : Nat} {ls sk : List Value} {h : zH} : zrun zpp E 49 (74, .ref x :: ls, sk, h) = zrun zpp E 49 (75, .ref x :: ls, .ref x :: sk, h) := zrun_at (i := (.aload_n 0, 75, 0, [])) rfl
theorem zi49_74n {E : zE} {ls sk : List Value} {h : zH} : zrun zpp E 49 (74, .null :: ls, sk, h) = zrun zpp E 49 (75, .null :: ls, .null :: sk, h) := zrun_at (i := (.aload_n 0, 75, 0, [])) rfl
theorem zi49_75 {E : zE} {x : Nat} {ls sk : List Value} {h : zH} : zrun zpp E 49 (75, ls, .ref x :: sk, h) = zrun zpp E 49 (76, ls, .ref x :: .ref x :: sk, h) := zrun_at (i := (.dup, 76, 0, [])) rfl
theorem zi49_75i {E : zE} {x : Int32} {ls sk : List Value} {h : zH} : zrun zpp E 49 (75, ls, .int x :: sk, h) = zrun zpp E 49 (76, ls, .int x :: .int x :: sk, h) := zrun_at (i := (.dup, 76, 0, [])) rfl
theorem zi49_76 {E : zE} {x : Nat} {ls sk : List Value} {h : zH} : zrun zpp E 49 (76, ls, .ref x :: sk, h) = (zfld [5] h x 3).bind (fun v => zrun zpp E 49 (79, ls, v :: sk, h)) := zg_getf rfl
theorem zi49_79 {E : zE} {ls sk : List Value} {h : zH} : zrun zpp E 49 (79, ls, sk, h) = zrun zpp E 49 (80, ls, .int 1 :: sk, h) := zg_iconst rfl ci_1
theorem zi49_80 {E : zE} {x y : Int32} {ls sk : List Value} {h : zH} : zrun zpp E 49 (80, ls, .int y :: .int x :: sk, h) = zrun zpp E 49 (81, ls, .int (x + y) :: sk, h) := zrun_at (i := (.iadd, 81, 0, [])) rfl
theorem zi49_81 {E : zE} {x : Nat} {v : Value} {ls sk : List Value} {h : zH} : zrun zpp E 49 (81, ls, v :: .ref x :: sk, h) = (zstf [5] 0 h x 3 v).bind (fun h' => zrun zpp E 49 (84, ls, sk, h')) := zg_putf rfl
theorem zi49_84 {E : zE} {ls sk : List Value} {h : zH} : zrun zpp E 49 (84, ls, sk, h) = zrun zpp E 49 (5, ls, sk, h) := zrun_at (i := (.goto (-79), 87, 0, [5])) rfl
theorem zi49_87 {E : zE} {x : Nat} {ls sk : List Value} {h : zH} : zrun zpp E 49 (87, .ref x :: ls, sk, h) = zrun zpp E 49 (88, .ref x :: ls, .ref x :: sk, h) := zrun_at (i := (.aload_n 0, 88, 0, [])) rfl
theorem zi49_87n {E : zE} {ls sk : List Value} {h : zH} : zrun zpp E 49 (87, .null :: ls, sk, h) = zrun zpp E 49 (88, .null :: ls, .null :: sk, h) := zrun_at (i := (.aload_n 0, 88, 0, [])) rfl
theorem zi49_88 {E : zE} {x : Nat} {ls sk : List Value} {h : zH} : zrun zpp E 49 (88, .ref x :: ls, sk, h) = zrun zpp E 49 (89, .ref x :: ls, .ref x :: sk, h) := zrun_at (i := (.aload_n 0, 89, 0, [])) rfl
theorem zi49_88n {E : zE} {ls sk : List Value} {h : zH} : zrun zpp E 49 (88, .null :: ls, sk, h) = zrun zpp E 49 (89, .null :: ls, .null :: sk, h) := zrun_at (i := (.aload_n 0, 89, 0, [])) rfl
theorem zi49_89 {E : zE} {x : Nat} {ls sk : List Value} {h : zH} : zrun zpp E 49 (89, ls, .ref x :: sk, h) = (zfld [5] h x 3).bind (fun v => zrun zpp E 49 (92, ls, v :: sk, h)) := zg_getf rfl
theorem zi49_92 {E : zE} {x : Nat} {ls sk : List Value} {h : zH} : zrun zpp E 49 (92, .ref x :: ls, sk, h) = zrun zpp E 49 (93, .ref x :: ls, .ref x :: sk, h) := zrun_at (i := (.aload_n 0, 93, 0, [])) rfl
theorem zi49_92n {E : zE} {ls sk : List Value} {h : zH} : zrun zpp E 49 (92, .null :: ls, sk, h) = zrun zpp E 49 (93, .null :: ls, .null :: sk, h) := zrun_at (i := (.aload_n 0, 93, 0, [])) rfl
theorem zi49_93 {E : zE} {x : Nat} {ls sk : List Value} {h : zH} : zrun zpp E 49 (93, ls, .ref x :: sk, h) = (zfld [5] h x 4).bind (fun v => zrun zpp E 49 (96, ls, v :: sk, h)) := zg_getf rfl
theorem zi49_96 {E : zE} {x y : Int32} {ls sk : List Value} {h : zH} : zrun zpp E 49 (96, ls, .int y :: .int x :: sk, h) = zrun zpp E 49 (97, ls, .int (x - y) :: sk, h) := zrun_at (i := (.isub, 97, 0, [])) rfl
theorem zi49_97 {E : zE} {ls sk : List Value} {h : zH} : zrun zpp E 49 (97, ls, sk, h) = zrun zpp E 49 (98, ls, .int 2 :: sk, h) := zg_iconst rfl ci_2
theorem zi49_98 {E : zE} {x y : Int32} {ls sk : List Value} {h : zH} : zrun zpp E 49 (98, ls, .int y :: .int x :: sk, h) = if y < x then zrun zpp E 49 (106, ls, sk, h) else zrun zpp E 49 (101, ls, sk, h) := zrun_at (i := (.if_icmp .gt 8, 101, 0, [106])) rfl
theorem zi49_101 {E : zE} {ls sk : List Value} {h : zH} : zrun zpp E 49 (101, ls, sk, h) = zrun zpp E 49 (103, ls, .int 48 :: sk, h) := zg_bipush rfl ci_48
theorem zi49_103 {E : zE} {ls sk : List Value} {h : zH} : zrun zpp E 49 (103, ls, sk, h) = zrun zpp E 49 (107, ls, sk, h) := zrun_at (i := (.goto 4, 106, 0, [107])) rfl
theorem zi49_106 {E : zE} {ls sk : List Value} {h : zH} : zrun zpp E 49 (106, ls, sk, h) = zrun zpp E 49 (107, ls, .int 0 :: sk, h) := zg_iconst rfl ci_0
theorem zi49_107 {E : zE} {x : Nat} {v : Value} {ls sk : List Value} {h : zH} : zrun zpp E 49 (107, ls, v :: .ref x :: sk, h) = (zstf [5] 0 h x 5 v).bind (fun h' => zrun zpp E 49 (110, ls, sk, h')) := zg_putf rfl
theorem zi49_110 {E : zE} {ls sk : List Value} {h : zH} : zrun zpp E 49 (110, ls, [], h) = some (none, h) := zrun_at (i := (.return_, 111, 0, [])) rfl
-- 50 java/lang/Integer.bitCount
theorem zi50_0 {E : zE} {x : Int32} {ls sk : List Value} {h : zH} : zrun zpp E 50 (0, .int x :: ls, sk, h) = zrun zpp E 50 (1, .int x :: ls, .int x :: sk, h) := zrun_at (i := (.iload_n 0, 1, 0, [])) rfl
theorem zi50_1 {E : zE} {x : Int32} {ls sk : List Value} {h : zH} : zrun zpp E 50 (1, .int x :: ls, sk, h) = zrun zpp E 50 (2, .int x :: ls, .int x :: sk, h) := zrun_at (i := (.iload_n 0, 2, 0, [])) rfl
theorem zi50_2 {E : zE} {ls sk : List Value} {h : zH} : zrun zpp E 50 (2, ls, sk, h) = zrun zpp E 50 (3, ls, .int 1 :: sk, h) := zg_iconst rfl ci_1
theorem zi50_3 {E : zE} {x y : Int32} {ls sk : List Value} {h : zH} : zrun zpp E 50 (3, ls, .int y :: .int x :: sk, h) = zrun zpp E 50 (4, ls, .int ((x.toUInt32 >>> (y.toUInt32 &&& Int32.toUInt32 31)).toInt32) :: sk, h) := zrun_at (i := (.iushr, 4, 0, [])) rfl
theorem zi50_4 {E : zE} {ls sk : List Value} {h : zH} : zrun zpp E 50 (4, ls, sk, h) = zrun zpp E 50 (7, ls, .int 1431655765 :: sk, h) := zg_ldc_w rfl ci_1431655765
theorem zi50_7 {E : zE} {x y : Int32} {ls sk : List Value} {h : zH} : zrun zpp E 50 (7, ls, .int y :: .int x :: sk, h) = zrun zpp E 50 (8, ls, .int (x &&& y) :: sk, h) := zrun_at (i := (.iand, 8, 0, [])) rfl
theorem zi50_8 {E : zE} {x y : Int32} {ls sk : List Value} {h : zH} : zrun zpp E 50 (8, ls, .int y :: .int x :: sk, h) = zrun zpp E 50 (9, ls, .int (x - y) :: sk, h) := zrun_at (i := (.isub, 9, 0, [])) rfl
theorem zi50_9 {E : zE} {x : Int32} {ls sk : List Value} {h : zH} : zrun zpp E 50 (9, ls, .int x :: sk, h) = if zfree ls 0 = true then zrun zpp E 50 (10, ls.set 0 (.int x), sk, h) else none := zg_ist rfl (fun _ _ _ => rfl)
theorem zi50_10 {E : zE} {x : Int32} {ls sk : List Value} {h : zH} : zrun zpp E 50 (10, .int x :: ls, sk, h) = zrun zpp E 50 (11, .int x :: ls, .int x :: sk, h) := zrun_at (i := (.iload_n 0, 11, 0, [])) rfl
theorem zi50_11 {E : zE} {ls sk : List Value} {h : zH} : zrun zpp E 50 (11, ls, sk, h) = zrun zpp E 50 (14, ls, .int 858993459 :: sk, h) := zg_ldc_w rfl ci_858993459
theorem zi50_14 {E : zE} {x y : Int32} {ls sk : List Value} {h : zH} : zrun zpp E 50 (14, ls, .int y :: .int x :: sk, h) = zrun zpp E 50 (15, ls, .int (x &&& y) :: sk, h) := zrun_at (i := (.iand, 15, 0, [])) rfl
theorem zi50_15 {E : zE} {x : Int32} {ls sk : List Value} {h : zH} : zrun zpp E 50 (15, .int x :: ls, sk, h) = zrun zpp E 50 (16, .int x :: ls, .int x :: sk, h) := zrun_at (i := (.iload_n 0, 16, 0, [])) rfl
theorem zi50_16 {E : zE} {ls sk : List Value} {h : zH} : zrun zpp E 50 (16, ls, sk, h) = zrun zpp E 50 (17, ls, .int 2 :: sk, h) := zg_iconst rfl ci_2
theorem zi50_17 {E : zE} {x y : Int32} {ls sk : List Value} {h : zH} : zrun zpp E 50 (17, ls, .int y :: .int x :: sk, h) = zrun zpp E 50 (18, ls, .int ((x.toUInt32 >>> (y.toUInt32 &&& Int32.toUInt32 31)).toInt32) :: sk, h) := zrun_at (i := (.iushr, 18, 0, [])) rfl
theorem zi50_18 {E : zE} {ls sk : List Value} {h : zH} : zrun zpp E 50 (18, ls, sk, h) = zrun zpp E 50 (21, ls, .int 858993459 :: sk, h) := zg_ldc_w rfl ci_858993459
theorem zi50_21 {E : zE} {x y : Int32} {ls sk : List Value} {h : zH} : zrun zpp E 50 (21, ls, .int y :: .int x :: sk, h) = zrun zpp E 50 (22, ls, .int (x &&& y) :: sk, h) := zrun_at (i := (.iand, 22, 0, [])) rfl
theorem zi50_22 {E : zE} {x y : Int32} {ls sk : List Value} {h : zH} : zrun zpp E 50 (22, ls, .int y :: .int x :: sk, h) = zrun zpp E 50 (23, ls, .int (x + y) :: sk, h) := zrun_at (i := (.iadd, 23, 0, [])) rfl
theorem zi50_23 {E : zE} {x : Int32} {ls sk : List Value} {h : zH} : zrun zpp E 50 (23, ls, .int x :: sk, h) = if zfree ls 0 = true then zrun zpp E 50 (24, ls.set 0 (.int x), sk, h) else none := zg_ist rfl (fun _ _ _ => rfl)
theorem zi50_24 {E : zE} {x : Int32} {ls sk : List Value} {h : zH} : zrun zpp E 50 (24, .int x :: ls, sk, h) = zrun zpp E 50 (25, .int x :: ls, .int x :: sk, h) := zrun_at (i := (.iload_n 0, 25, 0, [])) rfl
theorem zi50_25 {E : zE} {x : Int32} {ls sk : List Value} {h : zH} : zrun zpp E 50 (25, .int x :: ls, sk, h) = zrun zpp E 50 (26, .int x :: ls, .int x :: sk, h) := zrun_at (i := (.iload_n 0, 26, 0, [])) rfl
theorem zi50_26 {E : zE} {ls sk : List Value} {h : zH} : zrun zpp E 50 (26, ls, sk, h) = zrun zpp E 50 (27, ls, .int 4 :: sk, h) := zg_iconst rfl ci_4
theorem zi50_27 {E : zE} {x y : Int32} {ls sk : List Value} {h : zH} : zrun zpp E 50 (27, ls, .int y :: .int x :: sk, h) = zrun zpp E 50 (28, ls, .int ((x.toUInt32 >>> (y.toUInt32 &&& Int32.toUInt32 31)).toInt32) :: sk, h) := zrun_at (i := (.iushr, 28, 0, [])) rfl
theorem zi50_28 {E : zE} {x y : Int32} {ls sk : List Value} {h : zH} : zrun zpp E 50 (28, ls, .int y :: .int x :: sk, h) = zrun zpp E 50 (29, ls, .int (x + y) :: sk, h) := zrun_at (i := (.iadd, 29, 0, [])) rfl
theorem zi50_29 {E : zE} {ls sk : List Value} {h : zH} : zrun zpp E 50 (29, ls, sk, h) = zrun zpp E 50 (32, ls, .int 252645135 :: sk, h) := zg_ldc_w rfl ci_252645135
theorem zi50_32 {E : zE} {x y : Int32} {ls sk : List Value} {h : zH} : zrun zpp E 50 (32, ls, .int y :: .int x :: sk, h) = zrun zpp E 50 (33, ls, .int (x &&& y) :: sk, h) := zrun_at (i := (.iand, 33, 0, [])) rfl
theorem zi50_33 {E : zE} {x : Int32} {ls sk : List Value} {h : zH} : zrun zpp E 50 (33, ls, .int x :: sk, h) = if zfree ls 0 = true then zrun zpp E 50 (34, ls.set 0 (.int x), sk, h) else none := zg_ist rfl (fun _ _ _ => rfl)
theorem zi50_34 {E : zE} {x : Int32} {ls sk : List Value} {h : zH} : zrun zpp E 50 (34, .int x :: ls, sk, h) = zrun zpp E 50 (35, .int x :: ls, .int x :: sk, h) := zrun_at (i := (.iload_n 0, 35, 0, [])) rfl
theorem zi50_35 {E : zE} {x : Int32} {ls sk : List Value} {h : zH} : zrun zpp E 50 (35, .int x :: ls, sk, h) = zrun zpp E 50 (36, .int x :: ls, .int x :: sk, h) := zrun_at (i := (.iload_n 0, 36, 0, [])) rfl
theorem zi50_36 {E : zE} {ls sk : List Value} {h : zH} : zrun zpp E 50 (36, ls, sk, h) = zrun zpp E 50 (38, ls, .int 8 :: sk, h) := zg_bipush rfl ci_8
theorem zi50_38 {E : zE} {x y : Int32} {ls sk : List Value} {h : zH} : zrun zpp E 50 (38, ls, .int y :: .int x :: sk, h) = zrun zpp E 50 (39, ls, .int ((x.toUInt32 >>> (y.toUInt32 &&& Int32.toUInt32 31)).toInt32) :: sk, h) := zrun_at (i := (.iushr, 39, 0, [])) rfl
theorem zi50_39 {E : zE} {x y : Int32} {ls sk : List Value} {h : zH} : zrun zpp E 50 (39, ls, .int y :: .int x :: sk, h) = zrun zpp E 50 (40, ls, .int (x + y) :: sk, h) := zrun_at (i := (.iadd, 40, 0, [])) rfl
theorem zi50_40 {E : zE} {x : Int32} {ls sk : List Value} {h : zH} : zrun zpp E 50 (40, ls, .int x :: sk, h) = if zfree ls 0 = true then zrun zpp E 50 (41, ls.set 0 (.int x), sk, h) else none := zg_ist rfl (fun _ _ _ => rfl)
theorem zi50_41 {E : zE} {x : Int32} {ls sk : List Value} {h : zH} : zrun zpp E 50 (41, .int x :: ls, sk, h) = zrun zpp E 50 (42, .int x :: ls, .int x :: sk, h) := zrun_at (i := (.iload_n 0, 42, 0, [])) rfl
theorem zi50_42 {E : zE} {x : Int32} {ls sk : List Value} {h : zH} : zrun zpp E 50 (42, .int x :: ls, sk, h) = zrun zpp E 50 (43, .int x :: ls, .int x :: sk, h) := zrun_at (i := (.iload_n 0, 43, 0, [])) rfl
theorem zi50_43 {E : zE} {ls sk : List Value} {h : zH} : zrun zpp E 50 (43, ls, sk, h) = zrun zpp E 50 (45, ls, .int 16 :: sk, h) := zg_bipush rfl ci_16
theorem zi50_45 {E : zE} {x y : Int32} {ls sk : List Value} {h : zH} : zrun zpp E 50 (45, ls, .int y :: .int x :: sk, h) = zrun zpp E 50 (46, ls, .int ((x.toUInt32 >>> (y.toUInt32 &&& Int32.toUInt32 31)).toInt32) :: sk, h) := zrun_at (i := (.iushr, 46, 0, [])) rfl
theorem zi50_46 {E : zE} {x y : Int32} {ls sk : List Value} {h : zH} : zrun zpp E 50 (46, ls, .int y :: .int x :: sk, h) = zrun zpp E 50 (47, ls, .int (x + y) :: sk, h) := zrun_at (i := (.iadd, 47, 0, [])) rfl
theorem zi50_47 {E : zE} {x : Int32} {ls sk : List Value} {h : zH} : zrun zpp E 50 (47, ls, .int x :: sk, h) = if zfree ls 0 = true then zrun zpp E 50 (48, ls.set 0 (.int x), sk, h) else none := zg_ist rfl (fun _ _ _ => rfl)
theorem zi50_48 {E : zE} {x : Int32} {ls sk : List Value} {h : zH} : zrun zpp E 50 (48, .int x :: ls, sk, h) = zrun zpp E 50 (49, .int x :: ls, .int x :: sk, h) := zrun_at (i := (.iload_n 0, 49, 0, [])) rfl
theorem zi50_49 {E : zE} {ls sk : List Value} {h : zH} : zrun zpp E 50 (49, ls, sk, h) = zrun zpp E 50 (51, ls, .int 63 :: sk, h) := zg_bipush rfl ci_63
theorem zi50_51 {E : zE} {x y : Int32} {ls sk : List Value} {h : zH} : zrun zpp E 50 (51, ls, .int y :: .int x :: sk, h) = zrun zpp E 50 (52, ls, .int (x &&& y) :: sk, h) := zrun_at (i := (.iand, 52, 0, [])) rfl
theorem zi50_52 {E : zE} {x : Int32} {ls sk : List Value} {h : zH} : zrun zpp E 50 (52, ls, [.int x], h) = some (some (.int x), h) := zrun_at (i := (.ireturn, 53, 0, [])) rfl
-- 51 NineDown$Row.<init>
theorem zi51_0 {E : zE} {x : Nat} {ls sk : List Value} {h : zH} : zrun zpp E 51 (0, .ref x :: ls, sk, h) = zrun zpp E 51 (1, .ref x :: ls, .ref x :: sk, h) := zrun_at (i := (.aload_n 0, 1, 0, [])) rfl
theorem zi51_0n {E : zE} {ls sk : List Value} {h : zH} : zrun zpp E 51 (0, .null :: ls, sk, h) = zrun zpp E 51 (1, .null :: ls, .null :: sk, h) := zrun_at (i := (.aload_n 0, 1, 0, [])) rfl
theorem zi51_1 {E : zE} {x : Nat} {ls sk : List Value} {h : zH} : zrun zpp E 51 (1, ls, .ref x :: sk, h) = if zlow sk = true then zrun zpp E 51 (4, ls, sk, h) else none := zg_obj rfl
theorem zi51_4 {E : zE} {x : Nat} {ls sk : List Value} {h : zH} : zrun zpp E 51 (4, .ref x :: ls, sk, h) = zrun zpp E 51 (5, .ref x :: ls, .ref x :: sk, h) := zrun_at (i := (.aload_n 0, 5, 0, [])) rfl
theorem zi51_4n {E : zE} {ls sk : List Value} {h : zH} : zrun zpp E 51 (4, .null :: ls, sk, h) = zrun zpp E 51 (5, .null :: ls, .null :: sk, h) := zrun_at (i := (.aload_n 0, 5, 0, [])) rfl
theorem zi51_5 {E : zE} {ls sk : List Value} {h : zH} : zrun zpp E 51 (5, ls, sk, h) = zrun zpp E 51 (7, ls, .int 40 :: sk, h) := zg_bipush rfl ci_40
theorem zi51_7 {E : zE} {n : Int32} {ls sk : List Value} {h : zH} : zrun zpp E 51 (7, ls, .int n :: sk, h) = if zix n 65536 = true then zrun zpp E 51 (9, ls, .ref h.length :: sk, h ++ [.inr (.inl (0, n.toNatClampNeg, fun _ => 0))]) else none := zg_newa rfl
theorem zi51_9 {E : zE} {x : Nat} {v : Value} {ls sk : List Value} {h : zH} : zrun zpp E 51 (9, ls, v :: .ref x :: sk, h) = (zstf [6] 2 h x 0 v).bind (fun h' => zrun zpp E 51 (12, ls, sk, h')) := zg_putf rfl
theorem zi51_12 {E : zE} {ls sk : List Value} {h : zH} : zrun zpp E 51 (12, ls, [], h) = some (none, h) := zrun_at (i := (.return_, 13, 0, [])) rfl
-- 52 NineDown$Row.begin
theorem zi52_0 {E : zE} {x : Nat} {ls sk : List Value} {h : zH} : zrun zpp E 52 (0, .ref x :: ls, sk, h) = zrun zpp E 52 (1, .ref x :: ls, .ref x :: sk, h) := zrun_at (i := (.aload_n 0, 1, 0, [])) rfl
theorem zi52_0n {E : zE} {ls sk : List Value} {h : zH} : zrun zpp E 52 (0, .null :: ls, sk, h) = zrun zpp E 52 (1, .null :: ls, .null :: sk, h) := zrun_at (i := (.aload_n 0, 1, 0, [])) rfl
theorem zi52_1 {E : zE} {ls sk : List Value} {h : zH} : zrun zpp E 52 (1, ls, sk, h) = zrun zpp E 52 (2, ls, .int 1 :: sk, h) := zg_iconst rfl ci_1
theorem zi52_2 {E : zE} {x : Nat} {v : Value} {ls sk : List Value} {h : zH} : zrun zpp E 52 (2, ls, v :: .ref x :: sk, h) = (zstf [6] 1 h x 1 v).bind (fun h' => zrun zpp E 52 (5, ls, sk, h')) := zg_putf rfl
theorem zi52_5 {E : zE} {x : Nat} {ls sk : List Value} {h : zH} : zrun zpp E 52 (5, .ref x :: ls, sk, h) = zrun zpp E 52 (6, .ref x :: ls, .ref x :: sk, h) := zrun_at (i := (.aload_n 0, 6, 0, [])) rfl
theorem zi52_5n {E : zE} {ls sk : List Value} {h : zH} : zrun zpp E 52 (5, .null :: ls, sk, h) = zrun zpp E 52 (6, .null :: ls, .null :: sk, h) := zrun_at (i := (.aload_n 0, 6, 0, [])) rfl
theorem zi52_6 {E : zE} {v0 : Value} {x : Int32} {ls sk : List Value} {h : zH} : zrun zpp E 52 (6, v0 :: .int x :: ls, sk, h) = zrun zpp E 52 (7, v0 :: .int x :: ls, .int x :: sk, h) := zrun_at (i := (.iload_n 1, 7, 0, [])) rfl
theorem zi52_7 {E : zE} {x : Nat} {v : Value} {ls sk : List Value} {h : zH} : zrun zpp E 52 (7, ls, v :: .ref x :: sk, h) = (zstf [6] 0 h x 2 v).bind (fun h' => zrun zpp E 52 (10, ls, sk, h')) := zg_putf rfl
theorem zi52_10 {E : zE} {x : Nat} {ls sk : List Value} {h : zH} : zrun zpp E 52 (10, .ref x :: ls, sk, h) = zrun zpp E 52 (11, .ref x :: ls, .ref x :: sk, h) := zrun_at (i := (.aload_n 0, 11, 0, [])) rfl
theorem zi52_10n {E : zE} {ls sk : List Value} {h : zH} : zrun zpp E 52 (10, .null :: ls, sk, h) = zrun zpp E 52 (11, .null :: ls, .null :: sk, h) := zrun_at (i := (.aload_n 0, 11, 0, [])) rfl
theorem zi52_11 {E : zE} {v0 v1 : Value} {x : Int32} {ls sk : List Value} {h : zH} : zrun zpp E 52 (11, v0 :: v1 :: .int x :: ls, sk, h) = zrun zpp E 52 (12, v0 :: v1 :: .int x :: ls, .int x :: sk, h) := zrun_at (i := (.iload_n 2, 12, 0, [])) rfl
theorem zi52_12 {E : zE} {x : Nat} {v : Value} {ls sk : List Value} {h : zH} : zrun zpp E 52 (12, ls, v :: .ref x :: sk, h) = (zstf [6] 0 h x 3 v).bind (fun h' => zrun zpp E 52 (15, ls, sk, h')) := zg_putf rfl
theorem zi52_15 {E : zE} {ls sk : List Value} {h : zH} : zrun zpp E 52 (15, ls, sk, h) = zrun zpp E 52 (16, ls, .int 0 :: sk, h) := zg_iconst rfl ci_0
theorem zi52_16 {E : zE} {x : Int32} {ls sk : List Value} {h : zH} : zrun zpp E 52 (16, ls, .int x :: sk, h) = if zfree ls 3 = true then zrun zpp E 52 (17, ls.set 3 (.int x), sk, h) else none := zg_ist rfl (fun _ _ _ => rfl)
theorem zi52_17 {E : zE} {v0 v1 v2 : Value} {x : Int32} {ls sk : List Value} {h : zH} : zrun zpp E 52 (17, v0 :: v1 :: v2 :: .int x :: ls, sk, h) = zrun zpp E 52 (18, v0 :: v1 :: v2 :: .int x :: ls, .int x :: sk, h) := zrun_at (i := (.iload_n 3, 18, 0, [])) rfl
theorem zi52_18 {E : zE} {ls sk : List Value} {h : zH} : zrun zpp E 52 (18, ls, sk, h) = zrun zpp E 52 (20, ls, .int 40 :: sk, h) := zg_bipush rfl ci_40
theorem zi52_20 {E : zE} {x y : Int32} {ls sk : List Value} {h : zH} : zrun zpp E 52 (20, ls, .int y :: .int x :: sk, h) = if y ≤ x then zrun zpp E 52 (36, ls, sk, h) else zrun zpp E 52 (23, ls, sk, h) := zrun_at (i := (.if_icmp .ge 16, 23, 0, [36])) rfl
theorem zi52_23 {E : zE} {x : Nat} {ls sk : List Value} {h : zH} : zrun zpp E 52 (23, .ref x :: ls, sk, h) = zrun zpp E 52 (24, .ref x :: ls, .ref x :: sk, h) := zrun_at (i := (.aload_n 0, 24, 0, [])) rfl
theorem zi52_23n {E : zE} {ls sk : List Value} {h : zH} : zrun zpp E 52 (23, .null :: ls, sk, h) = zrun zpp E 52 (24, .null :: ls, .null :: sk, h) := zrun_at (i := (.aload_n 0, 24, 0, [])) rfl
theorem zi52_24 {E : zE} {x : Nat} {ls sk : List Value} {h : zH} : zrun zpp E 52 (24, ls, .ref x :: sk, h) = (zfld [6] h x 0).bind (fun v => zrun zpp E 52 (27, ls, v :: sk, h)) := zg_getf rfl
theorem zi52_27 {E : zE} {v0 v1 v2 : Value} {x : Int32} {ls sk : List Value} {h : zH} : zrun zpp E 52 (27, v0 :: v1 :: v2 :: .int x :: ls, sk, h) = zrun zpp E 52 (28, v0 :: v1 :: v2 :: .int x :: ls, .int x :: sk, h) := zrun_at (i := (.iload_n 3, 28, 0, [])) rfl
theorem zi52_28 {E : zE} {ls sk : List Value} {h : zH} : zrun zpp E 52 (28, ls, sk, h) = zrun zpp E 52 (29, ls, .int 0 :: sk, h) := zg_iconst rfl ci_0
theorem zi52_29 {E : zE} {x : Nat} {i v : Int32} {ls sk : List Value} {h : zH} : zrun zpp E 52 (29, ls, .int v :: .int i :: .ref x :: sk, h) = (zars 0 h x i v).bind (fun h' => zrun zpp E 52 (30, ls, sk, h')) := zg_iast rfl
theorem zi52_30 {E : zE} {v0 v1 v2 : Value} {x : Int32} {ls sk : List Value} {h : zH} : zrun zpp E 52 (30, v0 :: v1 :: v2 :: .int x :: ls, sk, h) = if zfree (v0 :: v1 :: v2 :: .int x :: ls) 3 = true then zrun zpp E 52 (33, v0 :: v1 :: v2 :: .int (x + 1) :: ls, sk, h) else none := by rw [← ci_1]; exact zrun_at (i := (.iinc 3 1, 33, 0, [])) rfl
theorem zi52_33 {E : zE} {ls sk : List Value} {h : zH} : zrun zpp E 52 (33, ls, sk, h) = zrun zpp E 52 (17, ls, sk, h) := zrun_at (i := (.goto (-16), 36, 0, [17])) rfl
theorem zi52_36 {E : zE} {ls sk : List Value} {h : zH} : zrun zpp E 52 (36, ls, [], h) = some (none, h) := zrun_at (i := (.return_, 37, 0, [])) rfl
-- 53 NineDown$Row.spans
theorem zi53_0 {E : zE} {v0 : Value} {x : Int32} {ls sk : List Value} {h : zH} : zrun zpp E 53 (0, v0 :: .int x :: ls, sk, h) = zrun zpp E 53 (1, v0 :: .int x :: ls, .int x :: sk, h) := zrun_at (i := (.iload_n 1, 1, 0, [])) rfl
theorem zi53_1 {E : zE} {x : Int32} {ls sk : List Value} {h : zH} : zrun zpp E 53 (1, ls, .int x :: sk, h) = if x < 0 then zrun zpp E 53 (30, ls, sk, h) else zrun zpp E 53 (4, ls, sk, h) := zrun_at (i := (.ifCond .lt 29, 4, 0, [30])) rfl
theorem zi53_4 {E : zE} {v0 v1 : Value} {x : Int32} {ls sk : List Value} {h : zH} : zrun zpp E 53 (4, v0 :: v1 :: .int x :: ls, sk, h) = zrun zpp E 53 (5, v0 :: v1 :: .int x :: ls, .int x :: sk, h) := zrun_at (i := (.iload_n 2, 5, 0, [])) rfl
theorem zi53_5 {E : zE} {x : Int32} {ls sk : List Value} {h : zH} : zrun zpp E 53 (5, ls, .int x :: sk, h) = if x < 0 then zrun zpp E 53 (30, ls, sk, h) else zrun zpp E 53 (8, ls, sk, h) := zrun_at (i := (.ifCond .lt 25, 8, 0, [30])) rfl
theorem zi53_8 {E : zE} {v0 : Value} {x : Int32} {ls sk : List Value} {h : zH} : zrun zpp E 53 (8, v0 :: .int x :: ls, sk, h) = zrun zpp E 53 (9, v0 :: .int x :: ls, .int x :: sk, h) := zrun_at (i := (.iload_n 1, 9, 0, [])) rfl
theorem zi53_9 {E : zE} {x : Nat} {ls sk : List Value} {h : zH} : zrun zpp E 53 (9, .ref x :: ls, sk, h) = zrun zpp E 53 (10, .ref x :: ls, .ref x :: sk, h) := zrun_at (i := (.aload_n 0, 10, 0, [])) rfl
theorem zi53_9n {E : zE} {ls sk : List Value} {h : zH} : zrun zpp E 53 (9, .null :: ls, sk, h) = zrun zpp E 53 (10, .null :: ls, .null :: sk, h) := zrun_at (i := (.aload_n 0, 10, 0, [])) rfl
theorem zi53_10 {E : zE} {x : Nat} {ls sk : List Value} {h : zH} : zrun zpp E 53 (10, ls, .ref x :: sk, h) = (zfld [6] h x 3).bind (fun v => zrun zpp E 53 (13, ls, v :: sk, h)) := zg_getf rfl
theorem zi53_13 {E : zE} {x y : Int32} {ls sk : List Value} {h : zH} : zrun zpp E 53 (13, ls, .int y :: .int x :: sk, h) = if y < x then zrun zpp E 53 (30, ls, sk, h) else zrun zpp E 53 (16, ls, sk, h) := zrun_at (i := (.if_icmp .gt 17, 16, 0, [30])) rfl
theorem zi53_16 {E : zE} {v0 v1 : Value} {x : Int32} {ls sk : List Value} {h : zH} : zrun zpp E 53 (16, v0 :: v1 :: .int x :: ls, sk, h) = zrun zpp E 53 (17, v0 :: v1 :: .int x :: ls, .int x :: sk, h) := zrun_at (i := (.iload_n 2, 17, 0, [])) rfl
theorem zi53_17 {E : zE} {x : Nat} {ls sk : List Value} {h : zH} : zrun zpp E 53 (17, .ref x :: ls, sk, h) = zrun zpp E 53 (18, .ref x :: ls, .ref x :: sk, h) := zrun_at (i := (.aload_n 0, 18, 0, [])) rfl
theorem zi53_17n {E : zE} {ls sk : List Value} {h : zH} : zrun zpp E 53 (17, .null :: ls, sk, h) = zrun zpp E 53 (18, .null :: ls, .null :: sk, h) := zrun_at (i := (.aload_n 0, 18, 0, [])) rfl
theorem zi53_18 {E : zE} {x : Nat} {ls sk : List Value} {h : zH} : zrun zpp E 53 (18, ls, .ref x :: sk, h) = (zfld [6] h x 3).bind (fun v => zrun zpp E 53 (21, ls, v :: sk, h)) := zg_getf rfl
theorem zi53_21 {E : zE} {v0 : Value} {x : Int32} {ls sk : List Value} {h : zH} : zrun zpp E 53 (21, v0 :: .int x :: ls, sk, h) = zrun zpp E 53 (22, v0 :: .int x :: ls, .int x :: sk, h) := zrun_at (i := (.iload_n 1, 22, 0, [])) rfl
theorem zi53_22 {E : zE} {x y : Int32} {ls sk : List Value} {h : zH} : zrun zpp E 53 (22, ls, .int y :: .int x :: sk, h) = zrun zpp E 53 (23, ls, .int (x - y) :: sk, h) := zrun_at (i := (.isub, 23, 0, [])) rfl
theorem zi53_23 {E : zE} {x y : Int32} {ls sk : List Value} {h : zH} : zrun zpp E 53 (23, ls, .int y :: .int x :: sk, h) = if y < x then zrun zpp E 53 (30, ls, sk, h) else zrun zpp E 53 (26, ls, sk, h) := zrun_at (i := (.if_icmp .gt 7, 26, 0, [30])) rfl
theorem zi53_26 {E : zE} {ls sk : List Value} {h : zH} : zrun zpp E 53 (26, ls, sk, h) = zrun zpp E 53 (27, ls, .int 1 :: sk, h) := zg_iconst rfl ci_1
theorem zi53_27 {E : zE} {ls sk : List Value} {h : zH} : zrun zpp E 53 (27, ls, sk, h) = zrun zpp E 53 (31, ls, sk, h) := zrun_at (i := (.goto 4, 30, 0, [31])) rfl
theorem zi53_30 {E : zE} {ls sk : List Value} {h : zH} : zrun zpp E 53 (30, ls, sk, h) = zrun zpp E 53 (31, ls, .int 0 :: sk, h) := zg_iconst rfl ci_0
theorem zi53_31 {E : zE} {x : Int32} {ls sk : List Value} {h : zH} : zrun zpp E 53 (31, ls, [.int x], h) = if x = 0 then some (some (.int 0), h) else if x = 1 then some (some (.int 1), h) else none := zrun_at (i := (.ireturn, 32, 1, [])) rfl
-- 54 NineDown$Row.cut
theorem zi54_0 {E : zE} {x : Nat} {ls sk : List Value} {h : zH} : zrun zpp E 54 (0, .ref x :: ls, sk, h) = zrun zpp E 54 (1, .ref x :: ls, .ref x :: sk, h) := zrun_at (i := (.aload_n 0, 1, 0, [])) rfl
theorem zi54_0n {E : zE} {ls sk : List Value} {h : zH} : zrun zpp E 54 (0, .null :: ls, sk, h) = zrun zpp E 54 (1, .null :: ls, .null :: sk, h) := zrun_at (i := (.aload_n 0, 1, 0, [])) rfl
theorem zi54_1 {E : zE} {x : Nat} {ls sk : List Value} {h : zH} : zrun zpp E 54 (1, ls, .ref x :: sk, h) = (zfld [6] h x 2).bind (fun v => zrun zpp E 54 (4, ls, v :: sk, h)) := zg_getf rfl
theorem zi54_4 {E : zE} {x : Int32} {ls sk : List Value} {h : zH} : zrun zpp E 54 (4, ls, .int x :: sk, h) = if x = 0 then zrun zpp E 54 (7, ls, sk, h) else zrun zpp E 54 (10, ls, sk, h) := zrun_at (i := (.ifCond .ne 6, 7, 0, [10])) rfl
theorem zi54_7 {E : zE} {v0 : Value} {x : Int32} {ls sk : List Value} {h : zH} : zrun zpp E 54 (7, v0 :: .int x :: ls, sk, h) = zrun zpp E 54 (8, v0 :: .int x :: ls, .int x :: sk, h) := zrun_at (i := (.iload_n 1, 8, 0, [])) rfl
theorem zi54_8 {E : zE} {x : Int32} {ls sk : List Value} {h : zH} : zrun zpp E 54 (8, ls, .int x :: sk, h) = zrun zpp E 54 (9, ls, .int (x.toInt8.toInt32) :: sk, h) := zrun_at (i := (.i2b, 9, 0, [])) rfl
theorem zi54_9 {E : zE} {x : Int32} {ls sk : List Value} {h : zH} : zrun zpp E 54 (9, ls, [.int x], h) = some (some (.int x), h) := zrun_at (i := (.ireturn, 10, 0, [])) rfl
theorem zi54_10 {E : zE} {x : Nat} {ls sk : List Value} {h : zH} : zrun zpp E 54 (10, .ref x :: ls, sk, h) = zrun zpp E 54 (11, .ref x :: ls, .ref x :: sk, h) := zrun_at (i := (.aload_n 0, 11, 0, [])) rfl
theorem zi54_10n {E : zE} {ls sk : List Value} {h : zH} : zrun zpp E 54 (10, .null :: ls, sk, h) = zrun zpp E 54 (11, .null :: ls, .null :: sk, h) := zrun_at (i := (.aload_n 0, 11, 0, [])) rfl
theorem zi54_11 {E : zE} {x : Nat} {ls sk : List Value} {h : zH} : zrun zpp E 54 (11, ls, .ref x :: sk, h) = (zfld [6] h x 2).bind (fun v => zrun zpp E 54 (14, ls, v :: sk, h)) := zg_getf rfl
theorem zi54_14 {E : zE} {ls sk : List Value} {h : zH} : zrun zpp E 54 (14, ls, sk, h) = zrun zpp E 54 (15, ls, .int 1 :: sk, h) := zg_iconst rfl ci_1
theorem zi54_15 {E : zE} {x y : Int32} {ls sk : List Value} {h : zH} : zrun zpp E 54 (15, ls, .int y :: .int x :: sk, h) = if x = y then zrun zpp E 54 (18, ls, sk, h) else zrun zpp E 54 (23, ls, sk, h) := zrun_at (i := (.if_icmp .ne 8, 18, 0, [23])) rfl
theorem zi54_18 {E : zE} {v0 : Value} {x : Int32} {ls sk : List Value} {h : zH} : zrun zpp E 54 (18, v0 :: .int x :: ls, sk, h) = zrun zpp E 54 (19, v0 :: .int x :: ls, .int x :: sk, h) := zrun_at (i := (.iload_n 1, 19, 0, [])) rfl
theorem zi54_19 {E : zE} {x : Int32} {ls sk : List Value} {h : zH} : zrun zpp E 54 (19, ls, .int x :: sk, h) = zrun zpp E 54 (20, ls, .int (x.toInt16.toInt32) :: sk, h) := zrun_at (i := (.i2s, 20, 0, [])) rfl
theorem zi54_20 {E : zE} {ls sk : List Value} {h : zH} : zrun zpp E 54 (20, ls, sk, h) = zrun zpp E 54 (24, ls, sk, h) := zrun_at (i := (.goto 4, 23, 0, [24])) rfl
theorem zi54_23 {E : zE} {v0 : Value} {x : Int32} {ls sk : List Value} {h : zH} : zrun zpp E 54 (23, v0 :: .int x :: ls, sk, h) = zrun zpp E 54 (24, v0 :: .int x :: ls, .int x :: sk, h) := zrun_at (i := (.iload_n 1, 24, 0, [])) rfl
theorem zi54_24 {E : zE} {x : Int32} {ls sk : List Value} {h : zH} : zrun zpp E 54 (24, ls, [.int x], h) = some (some (.int x), h) := zrun_at (i := (.ireturn, 25, 0, [])) rfl
-- 55 NineDown$Top.<init>
theorem zi55_0 {E : zE} {x : Nat} {ls sk : List Value} {h : zH} : zrun zpp E 55 (0, .ref x :: ls, sk, h) = zrun zpp E 55 (1, .ref x :: ls, .ref x :: sk, h) := zrun_at (i := (.aload_n 0, 1, 0, [])) rfl
theorem zi55_0n {E : zE} {ls sk : List Value} {h : zH} : zrun zpp E 55 (0, .null :: ls, sk, h) = zrun zpp E 55 (1, .null :: ls, .null :: sk, h) := zrun_at (i := (.aload_n 0, 1, 0, [])) rfl
theorem zi55_1 {E : zE} {v0 : Value} {x : Int32} {ls sk : List Value} {h : zH} : zrun zpp E 55 (1, v0 :: .int x :: ls, sk, h) = zrun zpp E 55 (2, v0 :: .int x :: ls, .int x :: sk, h) := zrun_at (i := (.iload_n 1, 2, 0, [])) rfl
theorem zi55_2 {E : zE} {v0 v1 : Value} {x : Int32} {ls sk : List Value} {h : zH} : zrun zpp E 55 (2, v0 :: v1 :: .int x :: ls, sk, h) = zrun zpp E 55 (3, v0 :: v1 :: .int x :: ls, .int x :: sk, h) := zrun_at (i := (.iload_n 2, 3, 0, [])) rfl
theorem zi55_3 {E : zE} {a0 a1 : Value} {x : Nat} {ls sk : List Value} {h : zH} : zrun zpp E 55 (3, ls, a1 :: a0 :: .ref x :: sk, h) = (zcls h x).bind (fun _ => zcl1 E 55 6 19 ls sk [.ref x, a0, a1] h) := zg_spc (as := [a0, a1]) rfl rfl
theorem zi55_6 {E : zE} {ls sk : List Value} {h : zH} : zrun zpp E 55 (6, ls, [], h) = some (none, h) := zrun_at (i := (.return_, 7, 0, [])) rfl
-- 56 NineDown$Top.kindNumber
theorem zi56_0 {E : zE} {ls sk : List Value} {h : zH} : zrun zpp E 56 (0, ls, sk, h) = zrun zpp E 56 (1, ls, .int 1 :: sk, h) := zg_iconst rfl ci_1
theorem zi56_1 {E : zE} {x : Int32} {ls sk : List Value} {h : zH} : zrun zpp E 56 (1, ls, [.int x], h) = some (some (.int x), h) := zrun_at (i := (.ireturn, 2, 0, [])) rfl
-- 57 NineDown$Top.secondsFor
theorem zi57_0 {E : zE} {v0 : Value} {x : Int32} {ls sk : List Value} {h : zH} : zrun zpp E 57 (0, v0 :: .int x :: ls, sk, h) = zrun zpp E 57 (1, v0 :: .int x :: ls, .int x :: sk, h) := zrun_at (i := (.iload_n 1, 1, 0, [])) rfl
theorem zi57_1 {E : zE} {ls sk : List Value} {h : zH} : zrun zpp E 57 (1, ls, sk, h) = zrun zpp E 57 (2, ls, .int 3 :: sk, h) := zg_iconst rfl ci_3
theorem zi57_2 {E : zE} {v0 v1 : Value} {x : Int32} {ls sk : List Value} {h : zH} : zrun zpp E 57 (2, v0 :: v1 :: .int x :: ls, sk, h) = zrun zpp E 57 (3, v0 :: v1 :: .int x :: ls, .int x :: sk, h) := zrun_at (i := (.iload_n 2, 3, 0, [])) rfl
theorem zi57_3 {E : zE} {x y : Int32} {ls sk : List Value} {h : zH} : zrun zpp E 57 (3, ls, .int y :: .int x :: sk, h) = zrun zpp E 57 (4, ls, .int (x * y) :: sk, h) := zrun_at (i := (.imul, 4, 0, [])) rfl
theorem zi57_4 {E : zE} {x y : Int32} {ls sk : List Value} {h : zH} : zrun zpp E 57 (4, ls, .int y :: .int x :: sk, h) = zrun zpp E 57 (5, ls, .int (x + y) :: sk, h) := zrun_at (i := (.iadd, 5, 0, [])) rfl
theorem zi57_5 {E : zE} {x : Int32} {ls sk : List Value} {h : zH} : zrun zpp E 57 (5, ls, [.int x], h) = some (some (.int x), h) := zrun_at (i := (.ireturn, 6, 0, [])) rfl
-- 58 NineDown$Top.fallsFor
theorem zi58_0 {E : zE} {v0 : Value} {x : Int32} {ls sk : List Value} {h : zH} : zrun zpp E 58 (0, v0 :: .int x :: ls, sk, h) = zrun zpp E 58 (1, v0 :: .int x :: ls, .int x :: sk, h) := zrun_at (i := (.iload_n 1, 1, 0, [])) rfl
theorem zi58_1 {E : zE} {x : Int32} {ls sk : List Value} {h : zH} : zrun zpp E 58 (1, ls, [.int x], h) = some (some (.int x), h) := zrun_at (i := (.ireturn, 2, 0, [])) rfl
-- 59 NineDown$Top.size
theorem zi59_0 {E : zE} {v0 : Value} {x : Nat} {ls sk : List Value} {h : zH} : zrun zpp E 59 (0, v0 :: .ref x :: ls, sk, h) = zrun zpp E 59 (1, v0 :: .ref x :: ls, .ref x :: sk, h) := zrun_at (i := (.aload_n 1, 1, 0, [])) rfl
theorem zi59_0n {E : zE} {v0 : Value} {ls sk : List Value} {h : zH} : zrun zpp E 59 (0, v0 :: .null :: ls, sk, h) = zrun zpp E 59 (1, v0 :: .null :: ls, .null :: sk, h) := zrun_at (i := (.aload_n 1, 1, 0, [])) rfl
theorem zi59_1 {E : zE} {ls sk : List Value} {h : zH} : zrun zpp E 59 (1, ls, sk, h) = zrun zpp E 59 (3, ls, .int 11 :: sk, h) := zg_bipush rfl ci_11
theorem zi59_3 {E : zE} {a0 : Value} {x : Nat} {ls sk : List Value} {h : zH} : zrun zpp E 59 (3, ls, a0 :: .ref x :: sk, h) = (zcls h x).bind (fun d => (zsel d [8, 63]).bind (fun M' => zcl1 E 59 6 M' ls sk [.ref x, a0] h)) := zg_vir (as := [a0]) rfl rfl
theorem zi59_6 {E : zE} {x : Nat} {ls sk : List Value} {h : zH} : zrun zpp E 59 (6, .ref x :: ls, sk, h) = zrun zpp E 59 (7, .ref x :: ls, .ref x :: sk, h) := zrun_at (i := (.aload_n 0, 7, 0, [])) rfl
theorem zi59_6n {E : zE} {ls sk : List Value} {h : zH} : zrun zpp E 59 (6, .null :: ls, sk, h) = zrun zpp E 59 (7, .null :: ls, .null :: sk, h) := zrun_at (i := (.aload_n 0, 7, 0, [])) rfl
theorem zi59_7 {E : zE} {v0 : Value} {x : Nat} {ls sk : List Value} {h : zH} : zrun zpp E 59 (7, v0 :: .ref x :: ls, sk, h) = zrun zpp E 59 (8, v0 :: .ref x :: ls, .ref x :: sk, h) := zrun_at (i := (.aload_n 1, 8, 0, [])) rfl
theorem zi59_7n {E : zE} {v0 : Value} {ls sk : List Value} {h : zH} : zrun zpp E 59 (7, v0 :: .null :: ls, sk, h) = zrun zpp E 59 (8, v0 :: .null :: ls, .null :: sk, h) := zrun_at (i := (.aload_n 1, 8, 0, [])) rfl
theorem zi59_8 {E : zE} {a0 : Value} {x : Nat} {ls sk : List Value} {h : zH} : zrun zpp E 59 (8, ls, a0 :: .ref x :: sk, h) = (zcls h x).bind (fun _ => zcl1 E 59 11 22 ls sk [.ref x, a0] h) := zg_spc (as := [a0]) rfl rfl
theorem zi59_11 {E : zE} {x : Nat} {ls sk : List Value} {h : zH} : zrun zpp E 59 (11, .ref x :: ls, sk, h) = zrun zpp E 59 (12, .ref x :: ls, .ref x :: sk, h) := zrun_at (i := (.aload_n 0, 12, 0, [])) rfl
theorem zi59_11n {E : zE} {ls sk : List Value} {h : zH} : zrun zpp E 59 (11, .null :: ls, sk, h) = zrun zpp E 59 (12, .null :: ls, .null :: sk, h) := zrun_at (i := (.aload_n 0, 12, 0, [])) rfl
theorem zi59_12 {E : zE} {v0 : Value} {x : Nat} {ls sk : List Value} {h : zH} : zrun zpp E 59 (12, v0 :: .ref x :: ls, sk, h) = zrun zpp E 59 (13, v0 :: .ref x :: ls, .ref x :: sk, h) := zrun_at (i := (.aload_n 1, 13, 0, [])) rfl
theorem zi59_12n {E : zE} {v0 : Value} {ls sk : List Value} {h : zH} : zrun zpp E 59 (12, v0 :: .null :: ls, sk, h) = zrun zpp E 59 (13, v0 :: .null :: ls, .null :: sk, h) := zrun_at (i := (.aload_n 1, 13, 0, [])) rfl
theorem zi59_13 {E : zE} {a0 : Value} {x : Nat} {ls sk : List Value} {h : zH} : zrun zpp E 59 (13, ls, a0 :: .ref x :: sk, h) = (zcls h x).bind (fun d => (zsel d [7, 60, 1, 12, 4, 32]).bind (fun M' => zcl1 E 59 16 M' ls sk [.ref x, a0] h)) := zg_vir (as := [a0]) rfl rfl
theorem zi59_16 {E : zE} {x y : Int32} {ls sk : List Value} {h : zH} : zrun zpp E 59 (16, ls, .int y :: .int x :: sk, h) = zrun zpp E 59 (17, ls, .int (x + y) :: sk, h) := zrun_at (i := (.iadd, 17, 0, [])) rfl
theorem zi59_17 {E : zE} {x : Int32} {ls sk : List Value} {h : zH} : zrun zpp E 59 (17, ls, [.int x], h) = some (some (.int x), h) := zrun_at (i := (.ireturn, 18, 0, [])) rfl
-- 60 NineDown$Top.mark
theorem zi60_0 {E : zE} {v0 : Value} {x : Nat} {ls sk : List Value} {h : zH} : zrun zpp E 60 (0, v0 :: .ref x :: ls, sk, h) = zrun zpp E 60 (1, v0 :: .ref x :: ls, .ref x :: sk, h) := zrun_at (i := (.aload_n 1, 1, 0, [])) rfl
theorem zi60_0n {E : zE} {v0 : Value} {ls sk : List Value} {h : zH} : zrun zpp E 60 (0, v0 :: .null :: ls, sk, h) = zrun zpp E 60 (1, v0 :: .null :: ls, .null :: sk, h) := zrun_at (i := (.aload_n 1, 1, 0, [])) rfl
theorem zi60_1 {E : zE} {ls sk : List Value} {h : zH} : zrun zpp E 60 (1, ls, sk, h) = zrun zpp E 60 (3, ls, .int 21 :: sk, h) := zg_bipush rfl ci_21
theorem zi60_3 {E : zE} {a0 : Value} {x : Nat} {ls sk : List Value} {h : zH} : zrun zpp E 60 (3, ls, a0 :: .ref x :: sk, h) = (zcls h x).bind (fun d => (zsel d [8, 63]).bind (fun M' => zcl1 E 60 6 M' ls sk [.ref x, a0] h)) := zg_vir (as := [a0]) rfl rfl
theorem zi60_6 {E : zE} {x : Nat} {ls sk : List Value} {h : zH} : zrun zpp E 60 (6, .ref x :: ls, sk, h) = zrun zpp E 60 (7, .ref x :: ls, .ref x :: sk, h) := zrun_at (i := (.aload_n 0, 7, 0, [])) rfl
theorem zi60_6n {E : zE} {ls sk : List Value} {h : zH} : zrun zpp E 60 (6, .null :: ls, sk, h) = zrun zpp E 60 (7, .null :: ls, .null :: sk, h) := zrun_at (i := (.aload_n 0, 7, 0, [])) rfl
theorem zi60_7 {E : zE} {v0 : Value} {x : Nat} {ls sk : List Value} {h : zH} : zrun zpp E 60 (7, v0 :: .ref x :: ls, sk, h) = zrun zpp E 60 (8, v0 :: .ref x :: ls, .ref x :: sk, h) := zrun_at (i := (.aload_n 1, 8, 0, [])) rfl
theorem zi60_7n {E : zE} {v0 : Value} {ls sk : List Value} {h : zH} : zrun zpp E 60 (7, v0 :: .null :: ls, sk, h) = zrun zpp E 60 (8, v0 :: .null :: ls, .null :: sk, h) := zrun_at (i := (.aload_n 1, 8, 0, [])) rfl
theorem zi60_8 {E : zE} {a0 : Value} {x : Nat} {ls sk : List Value} {h : zH} : zrun zpp E 60 (8, ls, a0 :: .ref x :: sk, h) = (zcls h x).bind (fun _ => zcl1 E 60 11 23 ls sk [.ref x, a0] h) := zg_spc (as := [a0]) rfl rfl
theorem zi60_11 {E : zE} {v0 : Value} {x : Nat} {ls sk : List Value} {h : zH} : zrun zpp E 60 (11, v0 :: .ref x :: ls, sk, h) = zrun zpp E 60 (12, v0 :: .ref x :: ls, .ref x :: sk, h) := zrun_at (i := (.aload_n 1, 12, 0, [])) rfl
theorem zi60_11n {E : zE} {v0 : Value} {ls sk : List Value} {h : zH} : zrun zpp E 60 (11, v0 :: .null :: ls, sk, h) = zrun zpp E 60 (12, v0 :: .null :: ls, .null :: sk, h) := zrun_at (i := (.aload_n 1, 12, 0, [])) rfl
theorem zi60_12 {E : zE} {x : Nat} {ls sk : List Value} {h : zH} : zrun zpp E 60 (12, ls, .ref x :: sk, h) = (zfld [8] h x 2).bind (fun v => zrun zpp E 60 (15, ls, v :: sk, h)) := zg_getf rfl
theorem zi60_15 {E : zE} {x y : Int32} {ls sk : List Value} {h : zH} : zrun zpp E 60 (15, ls, .int y :: .int x :: sk, h) = zrun zpp E 60 (16, ls, .int (x + y) :: sk, h) := zrun_at (i := (.iadd, 16, 0, [])) rfl
theorem zi60_16 {E : zE} {x : Int32} {ls sk : List Value} {h : zH} : zrun zpp E 60 (16, ls, [.int x], h) = some (some (.int x), h) := zrun_at (i := (.ireturn, 17, 0, [])) rfl
-- 61 NineDown$Trace.<init>
theorem zi61_0 {E : zE} {x : Nat} {ls sk : List Value} {h : zH} : zrun zpp E 61 (0, .ref x :: ls, sk, h) = zrun zpp E 61 (1, .ref x :: ls, .ref x :: sk, h) := zrun_at (i := (.aload_n 0, 1, 0, [])) rfl
theorem zi61_0n {E : zE} {ls sk : List Value} {h : zH} : zrun zpp E 61 (0, .null :: ls, sk, h) = zrun zpp E 61 (1, .null :: ls, .null :: sk, h) := zrun_at (i := (.aload_n 0, 1, 0, [])) rfl
theorem zi61_1 {E : zE} {x : Nat} {ls sk : List Value} {h : zH} : zrun zpp E 61 (1, ls, .ref x :: sk, h) = if zlow sk = true then zrun zpp E 61 (4, ls, sk, h) else none := zg_obj rfl
theorem zi61_4 {E : zE} {x : Nat} {ls sk : List Value} {h : zH} : zrun zpp E 61 (4, .ref x :: ls, sk, h) = zrun zpp E 61 (5, .ref x :: ls, .ref x :: sk, h) := zrun_at (i := (.aload_n 0, 5, 0, [])) rfl
theorem zi61_4n {E : zE} {ls sk : List Value} {h : zH} : zrun zpp E 61 (4, .null :: ls, sk, h) = zrun zpp E 61 (5, .null :: ls, .null :: sk, h) := zrun_at (i := (.aload_n 0, 5, 0, [])) rfl
theorem zi61_5 {E : zE} {ls sk : List Value} {h : zH} : zrun zpp E 61 (5, ls, sk, h) = zrun zpp E 61 (7, ls, .int 16 :: sk, h) := zg_bipush rfl ci_16
theorem zi61_7 {E : zE} {n : Int32} {ls sk : List Value} {h : zH} : zrun zpp E 61 (7, ls, .int n :: sk, h) = if zix n 65536 = true then zrun zpp E 61 (9, ls, .ref h.length :: sk, h ++ [.inr (.inl (0, n.toNatClampNeg, fun _ => 0))]) else none := zg_newa rfl
theorem zi61_9 {E : zE} {x : Nat} {v : Value} {ls sk : List Value} {h : zH} : zrun zpp E 61 (9, ls, v :: .ref x :: sk, h) = (zstf [8] 2 h x 0 v).bind (fun h' => zrun zpp E 61 (12, ls, sk, h')) := zg_putf rfl
theorem zi61_12 {E : zE} {ls sk : List Value} {h : zH} : zrun zpp E 61 (12, ls, [], h) = some (none, h) := zrun_at (i := (.return_, 13, 0, [])) rfl
-- 62 NineDown$Trace.begin
theorem zi62_0 {E : zE} {x : Nat} {ls sk : List Value} {h : zH} : zrun zpp E 62 (0, .ref x :: ls, sk, h) = zrun zpp E 62 (1, .ref x :: ls, .ref x :: sk, h) := zrun_at (i := (.aload_n 0, 1, 0, [])) rfl
theorem zi62_0n {E : zE} {ls sk : List Value} {h : zH} : zrun zpp E 62 (0, .null :: ls, sk, h) = zrun zpp E 62 (1, .null :: ls, .null :: sk, h) := zrun_at (i := (.aload_n 0, 1, 0, [])) rfl
theorem zi62_1 {E : zE} {ls sk : List Value} {h : zH} : zrun zpp E 62 (1, ls, sk, h) = zrun zpp E 62 (2, ls, .int 0 :: sk, h) := zg_iconst rfl ci_0
theorem zi62_2 {E : zE} {x : Nat} {v : Value} {ls sk : List Value} {h : zH} : zrun zpp E 62 (2, ls, v :: .ref x :: sk, h) = (zstf [8] 0 h x 1 v).bind (fun h' => zrun zpp E 62 (5, ls, sk, h')) := zg_putf rfl
theorem zi62_5 {E : zE} {x : Nat} {ls sk : List Value} {h : zH} : zrun zpp E 62 (5, .ref x :: ls, sk, h) = zrun zpp E 62 (6, .ref x :: ls, .ref x :: sk, h) := zrun_at (i := (.aload_n 0, 6, 0, [])) rfl
theorem zi62_5n {E : zE} {ls sk : List Value} {h : zH} : zrun zpp E 62 (5, .null :: ls, sk, h) = zrun zpp E 62 (6, .null :: ls, .null :: sk, h) := zrun_at (i := (.aload_n 0, 6, 0, [])) rfl
theorem zi62_6 {E : zE} {v0 : Value} {x : Int32} {ls sk : List Value} {h : zH} : zrun zpp E 62 (6, v0 :: .int x :: ls, sk, h) = zrun zpp E 62 (7, v0 :: .int x :: ls, .int x :: sk, h) := zrun_at (i := (.iload_n 1, 7, 0, [])) rfl
theorem zi62_7 {E : zE} {x : Nat} {v : Value} {ls sk : List Value} {h : zH} : zrun zpp E 62 (7, ls, v :: .ref x :: sk, h) = (zstf [8] 0 h x 2 v).bind (fun h' => zrun zpp E 62 (10, ls, sk, h')) := zg_putf rfl
theorem zi62_10 {E : zE} {ls sk : List Value} {h : zH} : zrun zpp E 62 (10, ls, [], h) = some (none, h) := zrun_at (i := (.return_, 11, 0, [])) rfl
-- 63 NineDown$Trace.enter
theorem zi63_0 {E : zE} {x : Nat} {ls sk : List Value} {h : zH} : zrun zpp E 63 (0, .ref x :: ls, sk, h) = zrun zpp E 63 (1, .ref x :: ls, .ref x :: sk, h) := zrun_at (i := (.aload_n 0, 1, 0, [])) rfl
theorem zi63_0n {E : zE} {ls sk : List Value} {h : zH} : zrun zpp E 63 (0, .null :: ls, sk, h) = zrun zpp E 63 (1, .null :: ls, .null :: sk, h) := zrun_at (i := (.aload_n 0, 1, 0, [])) rfl
theorem zi63_1 {E : zE} {x : Nat} {ls sk : List Value} {h : zH} : zrun zpp E 63 (1, ls, .ref x :: sk, h) = (zfld [8] h x 1).bind (fun v => zrun zpp E 63 (4, ls, v :: sk, h)) := zg_getf rfl
theorem zi63_4 {E : zE} {ls sk : List Value} {h : zH} : zrun zpp E 63 (4, ls, sk, h) = zrun zpp E 63 (6, ls, .int 16 :: sk, h) := zg_bipush rfl ci_16
theorem zi63_6 {E : zE} {x y : Int32} {ls sk : List Value} {h : zH} : zrun zpp E 63 (6, ls, .int y :: .int x :: sk, h) = if y ≤ x then zrun zpp E 63 (29, ls, sk, h) else zrun zpp E 63 (9, ls, sk, h) := zrun_at (i := (.if_icmp .ge 23, 9, 0, [29])) rfl
theorem zi63_9 {E : zE} {x : Nat} {ls sk : List Value} {h : zH} : zrun zpp E 63 (9, .ref x :: ls, sk, h) = zrun zpp E 63 (10, .ref x :: ls, .ref x :: sk, h) := zrun_at (i := (.aload_n 0, 10, 0, [])) rfl
theorem zi63_9n {E : zE} {ls sk : List Value} {h : zH} : zrun zpp E 63 (9, .null :: ls, sk, h) = zrun zpp E 63 (10, .null :: ls, .null :: sk, h) := zrun_at (i := (.aload_n 0, 10, 0, [])) rfl
theorem zi63_10 {E : zE} {x : Nat} {ls sk : List Value} {h : zH} : zrun zpp E 63 (10, ls, .ref x :: sk, h) = (zfld [8] h x 0).bind (fun v => zrun zpp E 63 (13, ls, v :: sk, h)) := zg_getf rfl
theorem zi63_13 {E : zE} {x : Nat} {ls sk : List Value} {h : zH} : zrun zpp E 63 (13, .ref x :: ls, sk, h) = zrun zpp E 63 (14, .ref x :: ls, .ref x :: sk, h) := zrun_at (i := (.aload_n 0, 14, 0, [])) rfl
theorem zi63_13n {E : zE} {ls sk : List Value} {h : zH} : zrun zpp E 63 (13, .null :: ls, sk, h) = zrun zpp E 63 (14, .null :: ls, .null :: sk, h) := zrun_at (i := (.aload_n 0, 14, 0, [])) rfl
theorem zi63_14 {E : zE} {x : Nat} {ls sk : List Value} {h : zH} : zrun zpp E 63 (14, ls, .ref x :: sk, h) = (zfld [8] h x 1).bind (fun v => zrun zpp E 63 (17, ls, v :: sk, h)) := zg_getf rfl
theorem zi63_17 {E : zE} {v0 : Value} {x : Int32} {ls sk : List Value} {h : zH} : zrun zpp E 63 (17, v0 :: .int x :: ls, sk, h) = zrun zpp E 63 (18, v0 :: .int x :: ls, .int x :: sk, h) := zrun_at (i := (.iload_n 1, 18, 0, [])) rfl
theorem zi63_18 {E : zE} {x : Nat} {i v : Int32} {ls sk : List Value} {h : zH} : zrun zpp E 63 (18, ls, .int v :: .int i :: .ref x :: sk, h) = (zars 0 h x i v).bind (fun h' => zrun zpp E 63 (19, ls, sk, h')) := zg_iast rfl
theorem zi63_19 {E : zE} {x : Nat} {ls sk : List Value} {h : zH} : zrun zpp E 63 (19, .ref x :: ls, sk, h) = zrun zpp E 63 (20, .ref x :: ls, .ref x :: sk, h) := zrun_at (i := (.aload_n 0, 20, 0, [])) rfl
theorem zi63_19n {E : zE} {ls sk : List Value} {h : zH} : zrun zpp E 63 (19, .null :: ls, sk, h) = zrun zpp E 63 (20, .null :: ls, .null :: sk, h) := zrun_at (i := (.aload_n 0, 20, 0, [])) rfl
theorem zi63_20 {E : zE} {x : Nat} {ls sk : List Value} {h : zH} : zrun zpp E 63 (20, ls, .ref x :: sk, h) = zrun zpp E 63 (21, ls, .ref x :: .ref x :: sk, h) := zrun_at (i := (.dup, 21, 0, [])) rfl
theorem zi63_20i {E : zE} {x : Int32} {ls sk : List Value} {h : zH} : zrun zpp E 63 (20, ls, .int x :: sk, h) = zrun zpp E 63 (21, ls, .int x :: .int x :: sk, h) := zrun_at (i := (.dup, 21, 0, [])) rfl
theorem zi63_21 {E : zE} {x : Nat} {ls sk : List Value} {h : zH} : zrun zpp E 63 (21, ls, .ref x :: sk, h) = (zfld [8] h x 1).bind (fun v => zrun zpp E 63 (24, ls, v :: sk, h)) := zg_getf rfl
theorem zi63_24 {E : zE} {ls sk : List Value} {h : zH} : zrun zpp E 63 (24, ls, sk, h) = zrun zpp E 63 (25, ls, .int 1 :: sk, h) := zg_iconst rfl ci_1
theorem zi63_25 {E : zE} {x y : Int32} {ls sk : List Value} {h : zH} : zrun zpp E 63 (25, ls, .int y :: .int x :: sk, h) = zrun zpp E 63 (26, ls, .int (x + y) :: sk, h) := zrun_at (i := (.iadd, 26, 0, [])) rfl
theorem zi63_26 {E : zE} {x : Nat} {v : Value} {ls sk : List Value} {h : zH} : zrun zpp E 63 (26, ls, v :: .ref x :: sk, h) = (zstf [8] 0 h x 1 v).bind (fun h' => zrun zpp E 63 (29, ls, sk, h')) := zg_putf rfl
theorem zi63_29 {E : zE} {ls sk : List Value} {h : zH} : zrun zpp E 63 (29, ls, [], h) = some (none, h) := zrun_at (i := (.return_, 30, 0, [])) rfl
-- 64 NineDown$Yard.<init>
theorem zi64_0 {E : zE} {x : Nat} {ls sk : List Value} {h : zH} : zrun zpp E 64 (0, .ref x :: ls, sk, h) = zrun zpp E 64 (1, .ref x :: ls, .ref x :: sk, h) := zrun_at (i := (.aload_n 0, 1, 0, [])) rfl
theorem zi64_0n {E : zE} {ls sk : List Value} {h : zH} : zrun zpp E 64 (0, .null :: ls, sk, h) = zrun zpp E 64 (1, .null :: ls, .null :: sk, h) := zrun_at (i := (.aload_n 0, 1, 0, [])) rfl
theorem zi64_1 {E : zE} {x : Nat} {ls sk : List Value} {h : zH} : zrun zpp E 64 (1, ls, .ref x :: sk, h) = if zlow sk = true then zrun zpp E 64 (4, ls, sk, h) else none := zg_obj rfl
theorem zi64_4 {E : zE} {x : Nat} {ls sk : List Value} {h : zH} : zrun zpp E 64 (4, .ref x :: ls, sk, h) = zrun zpp E 64 (5, .ref x :: ls, .ref x :: sk, h) := zrun_at (i := (.aload_n 0, 5, 0, [])) rfl
theorem zi64_4n {E : zE} {ls sk : List Value} {h : zH} : zrun zpp E 64 (4, .null :: ls, sk, h) = zrun zpp E 64 (5, .null :: ls, .null :: sk, h) := zrun_at (i := (.aload_n 0, 5, 0, [])) rfl
theorem zi64_5 {E : zE} {ls sk : List Value} {h : zH} : zrun zpp E 64 (5, ls, sk, h) = zrun zpp E 64 (7, ls, .int 8 :: sk, h) := zg_bipush rfl ci_8
theorem zi64_7 {E : zE} {n : Int32} {ls sk : List Value} {h : zH} : zrun zpp E 64 (7, ls, .int n :: sk, h) = if zix n 65536 = true then zrun zpp E 64 (9, ls, .ref h.length :: sk, h ++ [.inr (.inl (0, n.toNatClampNeg, fun _ => 0))]) else none := zg_newa rfl
theorem zi64_9 {E : zE} {x : Nat} {v : Value} {ls sk : List Value} {h : zH} : zrun zpp E 64 (9, ls, v :: .ref x :: sk, h) = (zstf [9] 2 h x 6 v).bind (fun h' => zrun zpp E 64 (12, ls, sk, h')) := zg_putf rfl
theorem zi64_12 {E : zE} {x : Nat} {ls sk : List Value} {h : zH} : zrun zpp E 64 (12, .ref x :: ls, sk, h) = zrun zpp E 64 (13, .ref x :: ls, .ref x :: sk, h) := zrun_at (i := (.aload_n 0, 13, 0, [])) rfl
theorem zi64_12n {E : zE} {ls sk : List Value} {h : zH} : zrun zpp E 64 (12, .null :: ls, sk, h) = zrun zpp E 64 (13, .null :: ls, .null :: sk, h) := zrun_at (i := (.aload_n 0, 13, 0, [])) rfl
theorem zi64_13 {E : zE} {ls sk : List Value} {h : zH} : zrun zpp E 64 (13, ls, sk, h) = zrun zpp E 64 (15, ls, .int 8 :: sk, h) := zg_bipush rfl ci_8
theorem zi64_15 {E : zE} {n : Int32} {ls sk : List Value} {h : zH} : zrun zpp E 64 (15, ls, .int n :: sk, h) = if zix n 65536 = true then zrun zpp E 64 (17, ls, .ref h.length :: sk, h ++ [.inr (.inl (0, n.toNatClampNeg, fun _ => 0))]) else none := zg_newa rfl
theorem zi64_17 {E : zE} {x : Nat} {v : Value} {ls sk : List Value} {h : zH} : zrun zpp E 64 (17, ls, v :: .ref x :: sk, h) = (zstf [9] 2 h x 7 v).bind (fun h' => zrun zpp E 64 (20, ls, sk, h')) := zg_putf rfl
theorem zi64_20 {E : zE} {x : Nat} {ls sk : List Value} {h : zH} : zrun zpp E 64 (20, .ref x :: ls, sk, h) = zrun zpp E 64 (21, .ref x :: ls, .ref x :: sk, h) := zrun_at (i := (.aload_n 0, 21, 0, [])) rfl
theorem zi64_20n {E : zE} {ls sk : List Value} {h : zH} : zrun zpp E 64 (20, .null :: ls, sk, h) = zrun zpp E 64 (21, .null :: ls, .null :: sk, h) := zrun_at (i := (.aload_n 0, 21, 0, [])) rfl
theorem zi64_21 {E : zE} {ls sk : List Value} {h : zH} : zrun zpp E 64 (21, ls, sk, h) = zrun zpp E 64 (23, ls, .int 8 :: sk, h) := zg_bipush rfl ci_8
theorem zi64_23 {E : zE} {n : Int32} {ls sk : List Value} {h : zH} : zrun zpp E 64 (23, ls, .int n :: sk, h) = if zix n 65536 = true then zrun zpp E 64 (25, ls, .ref h.length :: sk, h ++ [.inr (.inl (0, n.toNatClampNeg, fun _ => 0))]) else none := zg_newa rfl
theorem zi64_25 {E : zE} {x : Nat} {v : Value} {ls sk : List Value} {h : zH} : zrun zpp E 64 (25, ls, v :: .ref x :: sk, h) = (zstf [9] 2 h x 8 v).bind (fun h' => zrun zpp E 64 (28, ls, sk, h')) := zg_putf rfl
theorem zi64_28 {E : zE} {x : Nat} {ls sk : List Value} {h : zH} : zrun zpp E 64 (28, .ref x :: ls, sk, h) = zrun zpp E 64 (29, .ref x :: ls, .ref x :: sk, h) := zrun_at (i := (.aload_n 0, 29, 0, [])) rfl
theorem zi64_28n {E : zE} {ls sk : List Value} {h : zH} : zrun zpp E 64 (28, .null :: ls, sk, h) = zrun zpp E 64 (29, .null :: ls, .null :: sk, h) := zrun_at (i := (.aload_n 0, 29, 0, [])) rfl
theorem zi64_29 {E : zE} {ls sk : List Value} {h : zH} : zrun zpp E 64 (29, ls, sk, h) = zrun zpp E 64 (31, ls, .int 8 :: sk, h) := zg_bipush rfl ci_8
theorem zi64_31 {E : zE} {n : Int32} {ls sk : List Value} {h : zH} : zrun zpp E 64 (31, ls, .int n :: sk, h) = if zix n 65536 = true then zrun zpp E 64 (33, ls, .ref h.length :: sk, h ++ [.inr (.inl (0, n.toNatClampNeg, fun _ => 0))]) else none := zg_newa rfl
theorem zi64_33 {E : zE} {x : Nat} {v : Value} {ls sk : List Value} {h : zH} : zrun zpp E 64 (33, ls, v :: .ref x :: sk, h) = (zstf [9] 2 h x 9 v).bind (fun h' => zrun zpp E 64 (36, ls, sk, h')) := zg_putf rfl
theorem zi64_36 {E : zE} {x : Nat} {ls sk : List Value} {h : zH} : zrun zpp E 64 (36, .ref x :: ls, sk, h) = zrun zpp E 64 (37, .ref x :: ls, .ref x :: sk, h) := zrun_at (i := (.aload_n 0, 37, 0, [])) rfl
theorem zi64_36n {E : zE} {ls sk : List Value} {h : zH} : zrun zpp E 64 (36, .null :: ls, sk, h) = zrun zpp E 64 (37, .null :: ls, .null :: sk, h) := zrun_at (i := (.aload_n 0, 37, 0, [])) rfl
theorem zi64_37 {E : zE} {ls sk : List Value} {h : zH} : zrun zpp E 64 (37, ls, sk, h) = zrun zpp E 64 (39, ls, .int 10 :: sk, h) := zg_bipush rfl ci_10
theorem zi64_39 {E : zE} {n : Int32} {ls sk : List Value} {h : zH} : zrun zpp E 64 (39, ls, .int n :: sk, h) = if zix n 65536 = true then zrun zpp E 64 (41, ls, .ref h.length :: sk, h ++ [.inr (.inl (0, n.toNatClampNeg, fun _ => 0))]) else none := zg_newa rfl
theorem zi64_41 {E : zE} {x : Nat} {v : Value} {ls sk : List Value} {h : zH} : zrun zpp E 64 (41, ls, v :: .ref x :: sk, h) = (zstf [9] 2 h x 10 v).bind (fun h' => zrun zpp E 64 (44, ls, sk, h')) := zg_putf rfl
theorem zi64_44 {E : zE} {x : Nat} {ls sk : List Value} {h : zH} : zrun zpp E 64 (44, .ref x :: ls, sk, h) = zrun zpp E 64 (45, .ref x :: ls, .ref x :: sk, h) := zrun_at (i := (.aload_n 0, 45, 0, [])) rfl
theorem zi64_44n {E : zE} {ls sk : List Value} {h : zH} : zrun zpp E 64 (44, .null :: ls, sk, h) = zrun zpp E 64 (45, .null :: ls, .null :: sk, h) := zrun_at (i := (.aload_n 0, 45, 0, [])) rfl
theorem zi64_45 {E : zE} {ls sk : List Value} {h : zH} : zrun zpp E 64 (45, ls, sk, h) = zrun zpp E 64 (47, ls, .int 10 :: sk, h) := zg_bipush rfl ci_10
theorem zi64_47 {E : zE} {n : Int32} {ls sk : List Value} {h : zH} : zrun zpp E 64 (47, ls, .int n :: sk, h) = if zix n 65536 = true then zrun zpp E 64 (49, ls, .ref h.length :: sk, h ++ [.inr (.inl (0, n.toNatClampNeg, fun _ => 0))]) else none := zg_newa rfl
theorem zi64_49 {E : zE} {x : Nat} {v : Value} {ls sk : List Value} {h : zH} : zrun zpp E 64 (49, ls, v :: .ref x :: sk, h) = (zstf [9] 2 h x 11 v).bind (fun h' => zrun zpp E 64 (52, ls, sk, h')) := zg_putf rfl
theorem zi64_52 {E : zE} {x : Nat} {ls sk : List Value} {h : zH} : zrun zpp E 64 (52, .ref x :: ls, sk, h) = zrun zpp E 64 (53, .ref x :: ls, .ref x :: sk, h) := zrun_at (i := (.aload_n 0, 53, 0, [])) rfl
theorem zi64_52n {E : zE} {ls sk : List Value} {h : zH} : zrun zpp E 64 (52, .null :: ls, sk, h) = zrun zpp E 64 (53, .null :: ls, .null :: sk, h) := zrun_at (i := (.aload_n 0, 53, 0, [])) rfl
theorem zi64_53 {E : zE} {ls sk : List Value} {h : zH} : zrun zpp E 64 (53, ls, sk, h) = zrun zpp E 64 (55, ls, .int 10 :: sk, h) := zg_bipush rfl ci_10
theorem zi64_55 {E : zE} {n : Int32} {ls sk : List Value} {h : zH} : zrun zpp E 64 (55, ls, .int n :: sk, h) = if zix n 65536 = true then zrun zpp E 64 (57, ls, .ref h.length :: sk, h ++ [.inr (.inl (0, n.toNatClampNeg, fun _ => 0))]) else none := zg_newa rfl
theorem zi64_57 {E : zE} {x : Nat} {v : Value} {ls sk : List Value} {h : zH} : zrun zpp E 64 (57, ls, v :: .ref x :: sk, h) = (zstf [9] 2 h x 12 v).bind (fun h' => zrun zpp E 64 (60, ls, sk, h')) := zg_putf rfl
theorem zi64_60 {E : zE} {x : Nat} {ls sk : List Value} {h : zH} : zrun zpp E 64 (60, .ref x :: ls, sk, h) = zrun zpp E 64 (61, .ref x :: ls, .ref x :: sk, h) := zrun_at (i := (.aload_n 0, 61, 0, [])) rfl
theorem zi64_60n {E : zE} {ls sk : List Value} {h : zH} : zrun zpp E 64 (60, .null :: ls, sk, h) = zrun zpp E 64 (61, .null :: ls, .null :: sk, h) := zrun_at (i := (.aload_n 0, 61, 0, [])) rfl
theorem zi64_61 {E : zE} {ls sk : List Value} {h : zH} : zrun zpp E 64 (61, ls, sk, h) = zrun zpp E 64 (62, ls, .int 4 :: sk, h) := zg_iconst rfl ci_4
theorem zi64_62 {E : zE} {n : Int32} {ls sk : List Value} {h : zH} : zrun zpp E 64 (62, ls, .int n :: sk, h) = if zix n 65536 = true then zrun zpp E 64 (65, ls, .ref h.length :: sk, h ++ [.inr (.inr (4, n.toNatClampNeg, fun _ => none))]) else none := zg_newr rfl
theorem zi64_65 {E : zE} {x : Nat} {v : Value} {ls sk : List Value} {h : zH} : zrun zpp E 64 (65, ls, v :: .ref x :: sk, h) = (zstf [9] 2 h x 13 v).bind (fun h' => zrun zpp E 64 (68, ls, sk, h')) := zg_putf rfl
theorem zi64_68 {E : zE} {ls sk : List Value} {h : zH} : zrun zpp E 64 (68, ls, [], h) = some (none, h) := zrun_at (i := (.return_, 69, 0, [])) rfl
-- 65 NineDown$Yard.clear
theorem zi65_0 {E : zE} {x : Nat} {ls sk : List Value} {h : zH} : zrun zpp E 65 (0, .ref x :: ls, sk, h) = zrun zpp E 65 (1, .ref x :: ls, .ref x :: sk, h) := zrun_at (i := (.aload_n 0, 1, 0, [])) rfl
theorem zi65_0n {E : zE} {ls sk : List Value} {h : zH} : zrun zpp E 65 (0, .null :: ls, sk, h) = zrun zpp E 65 (1, .null :: ls, .null :: sk, h) := zrun_at (i := (.aload_n 0, 1, 0, [])) rfl
theorem zi65_1 {E : zE} {ls sk : List Value} {h : zH} : zrun zpp E 65 (1, ls, sk, h) = zrun zpp E 65 (2, ls, .int 0 :: sk, h) := zg_iconst rfl ci_0
theorem zi65_2 {E : zE} {x : Nat} {v : Value} {ls sk : List Value} {h : zH} : zrun zpp E 65 (2, ls, v :: .ref x :: sk, h) = (zstf [9] 0 h x 3 v).bind (fun h' => zrun zpp E 65 (5, ls, sk, h')) := zg_putf rfl
theorem zi65_5 {E : zE} {x : Nat} {ls sk : List Value} {h : zH} : zrun zpp E 65 (5, .ref x :: ls, sk, h) = zrun zpp E 65 (6, .ref x :: ls, .ref x :: sk, h) := zrun_at (i := (.aload_n 0, 6, 0, [])) rfl
theorem zi65_5n {E : zE} {ls sk : List Value} {h : zH} : zrun zpp E 65 (5, .null :: ls, sk, h) = zrun zpp E 65 (6, .null :: ls, .null :: sk, h) := zrun_at (i := (.aload_n 0, 6, 0, [])) rfl
theorem zi65_6 {E : zE} {ls sk : List Value} {h : zH} : zrun zpp E 65 (6, ls, sk, h) = zrun zpp E 65 (7, ls, .int 0 :: sk, h) := zg_iconst rfl ci_0
theorem zi65_7 {E : zE} {x : Nat} {v : Value} {ls sk : List Value} {h : zH} : zrun zpp E 65 (7, ls, v :: .ref x :: sk, h) = (zstf [9] 0 h x 4 v).bind (fun h' => zrun zpp E 65 (10, ls, sk, h')) := zg_putf rfl
theorem zi65_10 {E : zE} {x : Nat} {ls sk : List Value} {h : zH} : zrun zpp E 65 (10, .ref x :: ls, sk, h) = zrun zpp E 65 (11, .ref x :: ls, .ref x :: sk, h) := zrun_at (i := (.aload_n 0, 11, 0, [])) rfl
theorem zi65_10n {E : zE} {ls sk : List Value} {h : zH} : zrun zpp E 65 (10, .null :: ls, sk, h) = zrun zpp E 65 (11, .null :: ls, .null :: sk, h) := zrun_at (i := (.aload_n 0, 11, 0, [])) rfl
theorem zi65_11 {E : zE} {ls sk : List Value} {h : zH} : zrun zpp E 65 (11, ls, sk, h) = zrun zpp E 65 (12, ls, .int 0 :: sk, h) := zg_iconst rfl ci_0
theorem zi65_12 {E : zE} {x : Nat} {v : Value} {ls sk : List Value} {h : zH} : zrun zpp E 65 (12, ls, v :: .ref x :: sk, h) = (zstf [9] 0 h x 5 v).bind (fun h' => zrun zpp E 65 (15, ls, sk, h')) := zg_putf rfl
theorem zi65_15 {E : zE} {x : Nat} {ls sk : List Value} {h : zH} : zrun zpp E 65 (15, .ref x :: ls, sk, h) = zrun zpp E 65 (16, .ref x :: ls, .ref x :: sk, h) := zrun_at (i := (.aload_n 0, 16, 0, [])) rfl
theorem zi65_15n {E : zE} {ls sk : List Value} {h : zH} : zrun zpp E 65 (15, .null :: ls, sk, h) = zrun zpp E 65 (16, .null :: ls, .null :: sk, h) := zrun_at (i := (.aload_n 0, 16, 0, [])) rfl
theorem zi65_16 {E : zE} {ls sk : List Value} {h : zH} : zrun zpp E 65 (16, ls, sk, h) = zrun zpp E 65 (17, ls, .int 0 :: sk, h) := zg_iconst rfl ci_0
theorem zi65_17 {E : zE} {x : Nat} {v : Value} {ls sk : List Value} {h : zH} : zrun zpp E 65 (17, ls, v :: .ref x :: sk, h) = (zstf [9] 0 h x 14 v).bind (fun h' => zrun zpp E 65 (20, ls, sk, h')) := zg_putf rfl
theorem zi65_20 {E : zE} {x : Nat} {ls sk : List Value} {h : zH} : zrun zpp E 65 (20, .ref x :: ls, sk, h) = zrun zpp E 65 (21, .ref x :: ls, .ref x :: sk, h) := zrun_at (i := (.aload_n 0, 21, 0, [])) rfl
theorem zi65_20n {E : zE} {ls sk : List Value} {h : zH} : zrun zpp E 65 (20, .null :: ls, sk, h) = zrun zpp E 65 (21, .null :: ls, .null :: sk, h) := zrun_at (i := (.aload_n 0, 21, 0, [])) rfl
theorem zi65_21 {E : zE} {ls sk : List Value} {h : zH} : zrun zpp E 65 (21, ls, sk, h) = zrun zpp E 65 (22, ls, .int 0 :: sk, h) := zg_iconst rfl ci_0
theorem zi65_22 {E : zE} {x : Nat} {v : Value} {ls sk : List Value} {h : zH} : zrun zpp E 65 (22, ls, v :: .ref x :: sk, h) = (zstf [9] 0 h x 15 v).bind (fun h' => zrun zpp E 65 (25, ls, sk, h')) := zg_putf rfl
theorem zi65_25 {E : zE} {x : Nat} {ls sk : List Value} {h : zH} : zrun zpp E 65 (25, .ref x :: ls, sk, h) = zrun zpp E 65 (26, .ref x :: ls, .ref x :: sk, h) := zrun_at (i := (.aload_n 0, 26, 0, [])) rfl
theorem zi65_25n {E : zE} {ls sk : List Value} {h : zH} : zrun zpp E 65 (25, .null :: ls, sk, h) = zrun zpp E 65 (26, .null :: ls, .null :: sk, h) := zrun_at (i := (.aload_n 0, 26, 0, [])) rfl
theorem zi65_26 {E : zE} {ls sk : List Value} {h : zH} : zrun zpp E 65 (26, ls, sk, h) = zrun zpp E 65 (27, ls, .int 0 :: sk, h) := zg_iconst rfl ci_0
theorem zi65_27 {E : zE} {x : Nat} {v : Value} {ls sk : List Value} {h : zH} : zrun zpp E 65 (27, ls, v :: .ref x :: sk, h) = (zstf [9] 0 h x 16 v).bind (fun h' => zrun zpp E 65 (30, ls, sk, h')) := zg_putf rfl
theorem zi65_30 {E : zE} {x : Nat} {ls sk : List Value} {h : zH} : zrun zpp E 65 (30, .ref x :: ls, sk, h) = zrun zpp E 65 (31, .ref x :: ls, .ref x :: sk, h) := zrun_at (i := (.aload_n 0, 31, 0, [])) rfl
theorem zi65_30n {E : zE} {ls sk : List Value} {h : zH} : zrun zpp E 65 (30, .null :: ls, sk, h) = zrun zpp E 65 (31, .null :: ls, .null :: sk, h) := zrun_at (i := (.aload_n 0, 31, 0, [])) rfl
theorem zi65_31 {E : zE} {ls sk : List Value} {h : zH} : zrun zpp E 65 (31, ls, sk, h) = zrun zpp E 65 (32, ls, .int 0 :: sk, h) := zg_iconst rfl ci_0
theorem zi65_32 {E : zE} {x : Nat} {v : Value} {ls sk : List Value} {h : zH} : zrun zpp E 65 (32, ls, v :: .ref x :: sk, h) = (zstf [9] 0 h x 17 v).bind (fun h' => zrun zpp E 65 (35, ls, sk, h')) := zg_putf rfl
theorem zi65_35 {E : zE} {ls sk : List Value} {h : zH} : zrun zpp E 65 (35, ls, [], h) = some (none, h) := zrun_at (i := (.return_, 36, 0, [])) rfl
-- 66 NineDown$Yard.addBike
theorem zi66_0 {E : zE} {x : Nat} {ls sk : List Value} {h : zH} : zrun zpp E 66 (0, .ref x :: ls, sk, h) = zrun zpp E 66 (1, .ref x :: ls, .ref x :: sk, h) := zrun_at (i := (.aload_n 0, 1, 0, [])) rfl
theorem zi66_0n {E : zE} {ls sk : List Value} {h : zH} : zrun zpp E 66 (0, .null :: ls, sk, h) = zrun zpp E 66 (1, .null :: ls, .null :: sk, h) := zrun_at (i := (.aload_n 0, 1, 0, [])) rfl
theorem zi66_1 {E : zE} {x : Nat} {ls sk : List Value} {h : zH} : zrun zpp E 66 (1, ls, .ref x :: sk, h) = (zfld [9] h x 6).bind (fun v => zrun zpp E 66 (4, ls, v :: sk, h)) := zg_getf rfl
theorem zi66_4 {E : zE} {x : Nat} {ls sk : List Value} {h : zH} : zrun zpp E 66 (4, .ref x :: ls, sk, h) = zrun zpp E 66 (5, .ref x :: ls, .ref x :: sk, h) := zrun_at (i := (.aload_n 0, 5, 0, [])) rfl
theorem zi66_4n {E : zE} {ls sk : List Value} {h : zH} : zrun zpp E 66 (4, .null :: ls, sk, h) = zrun zpp E 66 (5, .null :: ls, .null :: sk, h) := zrun_at (i := (.aload_n 0, 5, 0, [])) rfl
theorem zi66_5 {E : zE} {x : Nat} {ls sk : List Value} {h : zH} : zrun zpp E 66 (5, ls, .ref x :: sk, h) = (zfld [9] h x 3).bind (fun v => zrun zpp E 66 (8, ls, v :: sk, h)) := zg_getf rfl
theorem zi66_8 {E : zE} {v0 : Value} {x : Int32} {ls sk : List Value} {h : zH} : zrun zpp E 66 (8, v0 :: .int x :: ls, sk, h) = zrun zpp E 66 (9, v0 :: .int x :: ls, .int x :: sk, h) := zrun_at (i := (.iload_n 1, 9, 0, [])) rfl
theorem zi66_9 {E : zE} {x : Nat} {i v : Int32} {ls sk : List Value} {h : zH} : zrun zpp E 66 (9, ls, .int v :: .int i :: .ref x :: sk, h) = (zars 0 h x i v).bind (fun h' => zrun zpp E 66 (10, ls, sk, h')) := zg_iast rfl
theorem zi66_10 {E : zE} {x : Nat} {ls sk : List Value} {h : zH} : zrun zpp E 66 (10, .ref x :: ls, sk, h) = zrun zpp E 66 (11, .ref x :: ls, .ref x :: sk, h) := zrun_at (i := (.aload_n 0, 11, 0, [])) rfl
theorem zi66_10n {E : zE} {ls sk : List Value} {h : zH} : zrun zpp E 66 (10, .null :: ls, sk, h) = zrun zpp E 66 (11, .null :: ls, .null :: sk, h) := zrun_at (i := (.aload_n 0, 11, 0, [])) rfl
theorem zi66_11 {E : zE} {x : Nat} {ls sk : List Value} {h : zH} : zrun zpp E 66 (11, ls, .ref x :: sk, h) = (zfld [9] h x 7).bind (fun v => zrun zpp E 66 (14, ls, v :: sk, h)) := zg_getf rfl
theorem zi66_14 {E : zE} {x : Nat} {ls sk : List Value} {h : zH} : zrun zpp E 66 (14, .ref x :: ls, sk, h) = zrun zpp E 66 (15, .ref x :: ls, .ref x :: sk, h) := zrun_at (i := (.aload_n 0, 15, 0, [])) rfl
theorem zi66_14n {E : zE} {ls sk : List Value} {h : zH} : zrun zpp E 66 (14, .null :: ls, sk, h) = zrun zpp E 66 (15, .null :: ls, .null :: sk, h) := zrun_at (i := (.aload_n 0, 15, 0, [])) rfl
theorem zi66_15 {E : zE} {x : Nat} {ls sk : List Value} {h : zH} : zrun zpp E 66 (15, ls, .ref x :: sk, h) = (zfld [9] h x 3).bind (fun v => zrun zpp E 66 (18, ls, v :: sk, h)) := zg_getf rfl
theorem zi66_18 {E : zE} {v0 v1 : Value} {x : Int32} {ls sk : List Value} {h : zH} : zrun zpp E 66 (18, v0 :: v1 :: .int x :: ls, sk, h) = zrun zpp E 66 (19, v0 :: v1 :: .int x :: ls, .int x :: sk, h) := zrun_at (i := (.iload_n 2, 19, 0, [])) rfl
theorem zi66_19 {E : zE} {x : Nat} {i v : Int32} {ls sk : List Value} {h : zH} : zrun zpp E 66 (19, ls, .int v :: .int i :: .ref x :: sk, h) = (zars 0 h x i v).bind (fun h' => zrun zpp E 66 (20, ls, sk, h')) := zg_iast rfl
theorem zi66_20 {E : zE} {x : Nat} {ls sk : List Value} {h : zH} : zrun zpp E 66 (20, .ref x :: ls, sk, h) = zrun zpp E 66 (21, .ref x :: ls, .ref x :: sk, h) := zrun_at (i := (.aload_n 0, 21, 0, [])) rfl
theorem zi66_20n {E : zE} {ls sk : List Value} {h : zH} : zrun zpp E 66 (20, .null :: ls, sk, h) = zrun zpp E 66 (21, .null :: ls, .null :: sk, h) := zrun_at (i := (.aload_n 0, 21, 0, [])) rfl
theorem zi66_21 {E : zE} {x : Nat} {ls sk : List Value} {h : zH} : zrun zpp E 66 (21, ls, .ref x :: sk, h) = (zfld [9] h x 8).bind (fun v => zrun zpp E 66 (24, ls, v :: sk, h)) := zg_getf rfl
theorem zi66_24 {E : zE} {x : Nat} {ls sk : List Value} {h : zH} : zrun zpp E 66 (24, .ref x :: ls, sk, h) = zrun zpp E 66 (25, .ref x :: ls, .ref x :: sk, h) := zrun_at (i := (.aload_n 0, 25, 0, [])) rfl
theorem zi66_24n {E : zE} {ls sk : List Value} {h : zH} : zrun zpp E 66 (24, .null :: ls, sk, h) = zrun zpp E 66 (25, .null :: ls, .null :: sk, h) := zrun_at (i := (.aload_n 0, 25, 0, [])) rfl
theorem zi66_25 {E : zE} {x : Nat} {ls sk : List Value} {h : zH} : zrun zpp E 66 (25, ls, .ref x :: sk, h) = (zfld [9] h x 3).bind (fun v => zrun zpp E 66 (28, ls, v :: sk, h)) := zg_getf rfl
theorem zi66_28 {E : zE} {ls sk : List Value} {h : zH} : zrun zpp E 66 (28, ls, sk, h) = zrun zpp E 66 (29, ls, .int 0 :: sk, h) := zg_iconst rfl ci_0
theorem zi66_29 {E : zE} {x : Nat} {i v : Int32} {ls sk : List Value} {h : zH} : zrun zpp E 66 (29, ls, .int v :: .int i :: .ref x :: sk, h) = (zars 0 h x i v).bind (fun h' => zrun zpp E 66 (30, ls, sk, h')) := zg_iast rfl
theorem zi66_30 {E : zE} {x : Nat} {ls sk : List Value} {h : zH} : zrun zpp E 66 (30, .ref x :: ls, sk, h) = zrun zpp E 66 (31, .ref x :: ls, .ref x :: sk, h) := zrun_at (i := (.aload_n 0, 31, 0, [])) rfl
theorem zi66_30n {E : zE} {ls sk : List Value} {h : zH} : zrun zpp E 66 (30, .null :: ls, sk, h) = zrun zpp E 66 (31, .null :: ls, .null :: sk, h) := zrun_at (i := (.aload_n 0, 31, 0, [])) rfl
theorem zi66_31 {E : zE} {x : Nat} {ls sk : List Value} {h : zH} : zrun zpp E 66 (31, ls, .ref x :: sk, h) = (zfld [9] h x 9).bind (fun v => zrun zpp E 66 (34, ls, v :: sk, h)) := zg_getf rfl
theorem zi66_34 {E : zE} {x : Nat} {ls sk : List Value} {h : zH} : zrun zpp E 66 (34, .ref x :: ls, sk, h) = zrun zpp E 66 (35, .ref x :: ls, .ref x :: sk, h) := zrun_at (i := (.aload_n 0, 35, 0, [])) rfl
theorem zi66_34n {E : zE} {ls sk : List Value} {h : zH} : zrun zpp E 66 (34, .null :: ls, sk, h) = zrun zpp E 66 (35, .null :: ls, .null :: sk, h) := zrun_at (i := (.aload_n 0, 35, 0, [])) rfl
theorem zi66_35 {E : zE} {x : Nat} {ls sk : List Value} {h : zH} : zrun zpp E 66 (35, ls, .ref x :: sk, h) = (zfld [9] h x 3).bind (fun v => zrun zpp E 66 (38, ls, v :: sk, h)) := zg_getf rfl
theorem zi66_38 {E : zE} {ls sk : List Value} {h : zH} : zrun zpp E 66 (38, ls, sk, h) = zrun zpp E 66 (39, ls, .int 0 :: sk, h) := zg_iconst rfl ci_0
theorem zi66_39 {E : zE} {x : Nat} {i v : Int32} {ls sk : List Value} {h : zH} : zrun zpp E 66 (39, ls, .int v :: .int i :: .ref x :: sk, h) = (zars 0 h x i v).bind (fun h' => zrun zpp E 66 (40, ls, sk, h')) := zg_iast rfl
theorem zi66_40 {E : zE} {x : Nat} {ls sk : List Value} {h : zH} : zrun zpp E 66 (40, .ref x :: ls, sk, h) = zrun zpp E 66 (41, .ref x :: ls, .ref x :: sk, h) := zrun_at (i := (.aload_n 0, 41, 0, [])) rfl
theorem zi66_40n {E : zE} {ls sk : List Value} {h : zH} : zrun zpp E 66 (40, .null :: ls, sk, h) = zrun zpp E 66 (41, .null :: ls, .null :: sk, h) := zrun_at (i := (.aload_n 0, 41, 0, [])) rfl
theorem zi66_41 {E : zE} {x : Nat} {ls sk : List Value} {h : zH} : zrun zpp E 66 (41, ls, .ref x :: sk, h) = zrun zpp E 66 (42, ls, .ref x :: .ref x :: sk, h) := zrun_at (i := (.dup, 42, 0, [])) rfl
theorem zi66_41i {E : zE} {x : Int32} {ls sk : List Value} {h : zH} : zrun zpp E 66 (41, ls, .int x :: sk, h) = zrun zpp E 66 (42, ls, .int x :: .int x :: sk, h) := zrun_at (i := (.dup, 42, 0, [])) rfl
theorem zi66_42 {E : zE} {x : Nat} {ls sk : List Value} {h : zH} : zrun zpp E 66 (42, ls, .ref x :: sk, h) = (zfld [9] h x 15).bind (fun v => zrun zpp E 66 (45, ls, v :: sk, h)) := zg_getf rfl
theorem zi66_45 {E : zE} {ls sk : List Value} {h : zH} : zrun zpp E 66 (45, ls, sk, h) = zrun zpp E 66 (46, ls, .int 1 :: sk, h) := zg_iconst rfl ci_1
theorem zi66_46 {E : zE} {x : Nat} {ls sk : List Value} {h : zH} : zrun zpp E 66 (46, .ref x :: ls, sk, h) = zrun zpp E 66 (47, .ref x :: ls, .ref x :: sk, h) := zrun_at (i := (.aload_n 0, 47, 0, [])) rfl
theorem zi66_46n {E : zE} {ls sk : List Value} {h : zH} : zrun zpp E 66 (46, .null :: ls, sk, h) = zrun zpp E 66 (47, .null :: ls, .null :: sk, h) := zrun_at (i := (.aload_n 0, 47, 0, [])) rfl
theorem zi66_47 {E : zE} {x : Nat} {ls sk : List Value} {h : zH} : zrun zpp E 66 (47, ls, .ref x :: sk, h) = (zfld [9] h x 3).bind (fun v => zrun zpp E 66 (50, ls, v :: sk, h)) := zg_getf rfl
theorem zi66_50 {E : zE} {x y : Int32} {ls sk : List Value} {h : zH} : zrun zpp E 66 (50, ls, .int y :: .int x :: sk, h) = zrun zpp E 66 (51, ls, .int (x <<< (y &&& 31)) :: sk, h) := zrun_at (i := (.ishl, 51, 0, [])) rfl
theorem zi66_51 {E : zE} {x y : Int32} {ls sk : List Value} {h : zH} : zrun zpp E 66 (51, ls, .int y :: .int x :: sk, h) = zrun zpp E 66 (52, ls, .int (x ||| y) :: sk, h) := zrun_at (i := (.ior, 52, 0, [])) rfl
theorem zi66_52 {E : zE} {x : Nat} {v : Value} {ls sk : List Value} {h : zH} : zrun zpp E 66 (52, ls, v :: .ref x :: sk, h) = (zstf [9] 0 h x 15 v).bind (fun h' => zrun zpp E 66 (55, ls, sk, h')) := zg_putf rfl
theorem zi66_55 {E : zE} {x : Nat} {ls sk : List Value} {h : zH} : zrun zpp E 66 (55, .ref x :: ls, sk, h) = zrun zpp E 66 (56, .ref x :: ls, .ref x :: sk, h) := zrun_at (i := (.aload_n 0, 56, 0, [])) rfl
theorem zi66_55n {E : zE} {ls sk : List Value} {h : zH} : zrun zpp E 66 (55, .null :: ls, sk, h) = zrun zpp E 66 (56, .null :: ls, .null :: sk, h) := zrun_at (i := (.aload_n 0, 56, 0, [])) rfl
theorem zi66_56 {E : zE} {x : Nat} {ls sk : List Value} {h : zH} : zrun zpp E 66 (56, ls, .ref x :: sk, h) = zrun zpp E 66 (57, ls, .ref x :: .ref x :: sk, h) := zrun_at (i := (.dup, 57, 0, [])) rfl
theorem zi66_56i {E : zE} {x : Int32} {ls sk : List Value} {h : zH} : zrun zpp E 66 (56, ls, .int x :: sk, h) = zrun zpp E 66 (57, ls, .int x :: .int x :: sk, h) := zrun_at (i := (.dup, 57, 0, [])) rfl
theorem zi66_57 {E : zE} {x : Nat} {ls sk : List Value} {h : zH} : zrun zpp E 66 (57, ls, .ref x :: sk, h) = (zfld [9] h x 3).bind (fun v => zrun zpp E 66 (60, ls, v :: sk, h)) := zg_getf rfl
theorem zi66_60 {E : zE} {ls sk : List Value} {h : zH} : zrun zpp E 66 (60, ls, sk, h) = zrun zpp E 66 (61, ls, .int 1 :: sk, h) := zg_iconst rfl ci_1
theorem zi66_61 {E : zE} {x y : Int32} {ls sk : List Value} {h : zH} : zrun zpp E 66 (61, ls, .int y :: .int x :: sk, h) = zrun zpp E 66 (62, ls, .int (x + y) :: sk, h) := zrun_at (i := (.iadd, 62, 0, [])) rfl
theorem zi66_62 {E : zE} {x : Nat} {v : Value} {ls sk : List Value} {h : zH} : zrun zpp E 66 (62, ls, v :: .ref x :: sk, h) = (zstf [9] 0 h x 3 v).bind (fun h' => zrun zpp E 66 (65, ls, sk, h')) := zg_putf rfl
theorem zi66_65 {E : zE} {ls sk : List Value} {h : zH} : zrun zpp E 66 (65, ls, [], h) = some (none, h) := zrun_at (i := (.return_, 66, 0, [])) rfl
-- 67 NineDown$Yard.addHold
theorem zi67_0 {E : zE} {x : Nat} {ls sk : List Value} {h : zH} : zrun zpp E 67 (0, .ref x :: ls, sk, h) = zrun zpp E 67 (1, .ref x :: ls, .ref x :: sk, h) := zrun_at (i := (.aload_n 0, 1, 0, [])) rfl
theorem zi67_0n {E : zE} {ls sk : List Value} {h : zH} : zrun zpp E 67 (0, .null :: ls, sk, h) = zrun zpp E 67 (1, .null :: ls, .null :: sk, h) := zrun_at (i := (.aload_n 0, 1, 0, [])) rfl
theorem zi67_1 {E : zE} {x : Nat} {ls sk : List Value} {h : zH} : zrun zpp E 67 (1, ls, .ref x :: sk, h) = (zfld [9] h x 10).bind (fun v => zrun zpp E 67 (4, ls, v :: sk, h)) := zg_getf rfl
theorem zi67_4 {E : zE} {x : Nat} {ls sk : List Value} {h : zH} : zrun zpp E 67 (4, .ref x :: ls, sk, h) = zrun zpp E 67 (5, .ref x :: ls, .ref x :: sk, h) := zrun_at (i := (.aload_n 0, 5, 0, [])) rfl
theorem zi67_4n {E : zE} {ls sk : List Value} {h : zH} : zrun zpp E 67 (4, .null :: ls, sk, h) = zrun zpp E 67 (5, .null :: ls, .null :: sk, h) := zrun_at (i := (.aload_n 0, 5, 0, [])) rfl
theorem zi67_5 {E : zE} {x : Nat} {ls sk : List Value} {h : zH} : zrun zpp E 67 (5, ls, .ref x :: sk, h) = (zfld [9] h x 4).bind (fun v => zrun zpp E 67 (8, ls, v :: sk, h)) := zg_getf rfl
theorem zi67_8 {E : zE} {v0 : Value} {x : Int32} {ls sk : List Value} {h : zH} : zrun zpp E 67 (8, v0 :: .int x :: ls, sk, h) = zrun zpp E 67 (9, v0 :: .int x :: ls, .int x :: sk, h) := zrun_at (i := (.iload_n 1, 9, 0, [])) rfl
theorem zi67_9 {E : zE} {x : Nat} {i v : Int32} {ls sk : List Value} {h : zH} : zrun zpp E 67 (9, ls, .int v :: .int i :: .ref x :: sk, h) = (zars 0 h x i v).bind (fun h' => zrun zpp E 67 (10, ls, sk, h')) := zg_iast rfl
theorem zi67_10 {E : zE} {x : Nat} {ls sk : List Value} {h : zH} : zrun zpp E 67 (10, .ref x :: ls, sk, h) = zrun zpp E 67 (11, .ref x :: ls, .ref x :: sk, h) := zrun_at (i := (.aload_n 0, 11, 0, [])) rfl
theorem zi67_10n {E : zE} {ls sk : List Value} {h : zH} : zrun zpp E 67 (10, .null :: ls, sk, h) = zrun zpp E 67 (11, .null :: ls, .null :: sk, h) := zrun_at (i := (.aload_n 0, 11, 0, [])) rfl
theorem zi67_11 {E : zE} {x : Nat} {ls sk : List Value} {h : zH} : zrun zpp E 67 (11, ls, .ref x :: sk, h) = (zfld [9] h x 11).bind (fun v => zrun zpp E 67 (14, ls, v :: sk, h)) := zg_getf rfl
theorem zi67_14 {E : zE} {x : Nat} {ls sk : List Value} {h : zH} : zrun zpp E 67 (14, .ref x :: ls, sk, h) = zrun zpp E 67 (15, .ref x :: ls, .ref x :: sk, h) := zrun_at (i := (.aload_n 0, 15, 0, [])) rfl
theorem zi67_14n {E : zE} {ls sk : List Value} {h : zH} : zrun zpp E 67 (14, .null :: ls, sk, h) = zrun zpp E 67 (15, .null :: ls, .null :: sk, h) := zrun_at (i := (.aload_n 0, 15, 0, [])) rfl
theorem zi67_15 {E : zE} {x : Nat} {ls sk : List Value} {h : zH} : zrun zpp E 67 (15, ls, .ref x :: sk, h) = (zfld [9] h x 4).bind (fun v => zrun zpp E 67 (18, ls, v :: sk, h)) := zg_getf rfl
theorem zi67_18 {E : zE} {v0 v1 : Value} {x : Int32} {ls sk : List Value} {h : zH} : zrun zpp E 67 (18, v0 :: v1 :: .int x :: ls, sk, h) = zrun zpp E 67 (19, v0 :: v1 :: .int x :: ls, .int x :: sk, h) := zrun_at (i := (.iload_n 2, 19, 0, [])) rfl
theorem zi67_19 {E : zE} {x : Nat} {i v : Int32} {ls sk : List Value} {h : zH} : zrun zpp E 67 (19, ls, .int v :: .int i :: .ref x :: sk, h) = (zars 0 h x i v).bind (fun h' => zrun zpp E 67 (20, ls, sk, h')) := zg_iast rfl
theorem zi67_20 {E : zE} {x : Nat} {ls sk : List Value} {h : zH} : zrun zpp E 67 (20, .ref x :: ls, sk, h) = zrun zpp E 67 (21, .ref x :: ls, .ref x :: sk, h) := zrun_at (i := (.aload_n 0, 21, 0, [])) rfl
theorem zi67_20n {E : zE} {ls sk : List Value} {h : zH} : zrun zpp E 67 (20, .null :: ls, sk, h) = zrun zpp E 67 (21, .null :: ls, .null :: sk, h) := zrun_at (i := (.aload_n 0, 21, 0, [])) rfl
theorem zi67_21 {E : zE} {x : Nat} {ls sk : List Value} {h : zH} : zrun zpp E 67 (21, ls, .ref x :: sk, h) = (zfld [9] h x 12).bind (fun v => zrun zpp E 67 (24, ls, v :: sk, h)) := zg_getf rfl
theorem zi67_24 {E : zE} {x : Nat} {ls sk : List Value} {h : zH} : zrun zpp E 67 (24, .ref x :: ls, sk, h) = zrun zpp E 67 (25, .ref x :: ls, .ref x :: sk, h) := zrun_at (i := (.aload_n 0, 25, 0, [])) rfl
theorem zi67_24n {E : zE} {ls sk : List Value} {h : zH} : zrun zpp E 67 (24, .null :: ls, sk, h) = zrun zpp E 67 (25, .null :: ls, .null :: sk, h) := zrun_at (i := (.aload_n 0, 25, 0, [])) rfl
theorem zi67_25 {E : zE} {x : Nat} {ls sk : List Value} {h : zH} : zrun zpp E 67 (25, ls, .ref x :: sk, h) = (zfld [9] h x 4).bind (fun v => zrun zpp E 67 (28, ls, v :: sk, h)) := zg_getf rfl
theorem zi67_28 {E : zE} {v0 v1 v2 : Value} {x : Int32} {ls sk : List Value} {h : zH} : zrun zpp E 67 (28, v0 :: v1 :: v2 :: .int x :: ls, sk, h) = zrun zpp E 67 (29, v0 :: v1 :: v2 :: .int x :: ls, .int x :: sk, h) := zrun_at (i := (.iload_n 3, 29, 0, [])) rfl
theorem zi67_29 {E : zE} {x : Nat} {i v : Int32} {ls sk : List Value} {h : zH} : zrun zpp E 67 (29, ls, .int v :: .int i :: .ref x :: sk, h) = (zars 0 h x i v).bind (fun h' => zrun zpp E 67 (30, ls, sk, h')) := zg_iast rfl
theorem zi67_30 {E : zE} {v0 : Value} {x : Int32} {ls sk : List Value} {h : zH} : zrun zpp E 67 (30, v0 :: .int x :: ls, sk, h) = zrun zpp E 67 (31, v0 :: .int x :: ls, .int x :: sk, h) := zrun_at (i := (.iload_n 1, 31, 0, [])) rfl
theorem zi67_31 {E : zE} {ls sk : List Value} {h : zH} : zrun zpp E 67 (31, ls, sk, h) = zrun zpp E 67 (32, ls, .int 1 :: sk, h) := zg_iconst rfl ci_1
theorem zi67_32 {E : zE} {x y : Int32} {ls sk : List Value} {h : zH} : zrun zpp E 67 (32, ls, .int y :: .int x :: sk, h) = if x = y then zrun zpp E 67 (35, ls, sk, h) else zrun zpp E 67 (62, ls, sk, h) := zrun_at (i := (.if_icmp .ne 30, 35, 0, [62])) rfl
theorem zi67_35 {E : zE} {x : Nat} {ls sk : List Value} {h : zH} : zrun zpp E 67 (35, .ref x :: ls, sk, h) = zrun zpp E 67 (36, .ref x :: ls, .ref x :: sk, h) := zrun_at (i := (.aload_n 0, 36, 0, [])) rfl
theorem zi67_35n {E : zE} {ls sk : List Value} {h : zH} : zrun zpp E 67 (35, .null :: ls, sk, h) = zrun zpp E 67 (36, .null :: ls, .null :: sk, h) := zrun_at (i := (.aload_n 0, 36, 0, [])) rfl
theorem zi67_36 {E : zE} {x : Nat} {ls sk : List Value} {h : zH} : zrun zpp E 67 (36, ls, .ref x :: sk, h) = (zfld [9] h x 9).bind (fun v => zrun zpp E 67 (39, ls, v :: sk, h)) := zg_getf rfl
theorem zi67_39 {E : zE} {v0 v1 : Value} {x : Int32} {ls sk : List Value} {h : zH} : zrun zpp E 67 (39, v0 :: v1 :: .int x :: ls, sk, h) = zrun zpp E 67 (40, v0 :: v1 :: .int x :: ls, .int x :: sk, h) := zrun_at (i := (.iload_n 2, 40, 0, [])) rfl
theorem zi67_40 {E : zE} {x : Int32} {y : Nat} {ls sk : List Value} {h : zH} : zrun zpp E 67 (40, ls, .int x :: .ref y :: sk, h) = zrun zpp E 67 (41, ls, .int x :: .ref y :: .int x :: .ref y :: sk, h) := zrun_at (i := (.dup2, 41, 0, [])) rfl
theorem zi67_41 {E : zE} {x : Nat} {i : Int32} {ls sk : List Value} {h : zH} : zrun zpp E 67 (41, ls, .int i :: .ref x :: sk, h) = (zarr 0 h x i).bind (fun v => zrun zpp E 67 (42, ls, .int v :: sk, h)) := zg_iald rfl
theorem zi67_42 {E : zE} {ls sk : List Value} {h : zH} : zrun zpp E 67 (42, ls, sk, h) = zrun zpp E 67 (43, ls, .int 1 :: sk, h) := zg_iconst rfl ci_1
theorem zi67_43 {E : zE} {v0 v1 v2 : Value} {x : Int32} {ls sk : List Value} {h : zH} : zrun zpp E 67 (43, v0 :: v1 :: v2 :: .int x :: ls, sk, h) = zrun zpp E 67 (44, v0 :: v1 :: v2 :: .int x :: ls, .int x :: sk, h) := zrun_at (i := (.iload_n 3, 44, 0, [])) rfl
theorem zi67_44 {E : zE} {x y : Int32} {ls sk : List Value} {h : zH} : zrun zpp E 67 (44, ls, .int y :: .int x :: sk, h) = zrun zpp E 67 (45, ls, .int (x <<< (y &&& 31)) :: sk, h) := zrun_at (i := (.ishl, 45, 0, [])) rfl
theorem zi67_45 {E : zE} {x y : Int32} {ls sk : List Value} {h : zH} : zrun zpp E 67 (45, ls, .int y :: .int x :: sk, h) = zrun zpp E 67 (46, ls, .int (x ||| y) :: sk, h) := zrun_at (i := (.ior, 46, 0, [])) rfl
theorem zi67_46 {E : zE} {x : Nat} {i v : Int32} {ls sk : List Value} {h : zH} : zrun zpp E 67 (46, ls, .int v :: .int i :: .ref x :: sk, h) = (zars 0 h x i v).bind (fun h' => zrun zpp E 67 (47, ls, sk, h')) := zg_iast rfl
theorem zi67_47 {E : zE} {x : Nat} {ls sk : List Value} {h : zH} : zrun zpp E 67 (47, .ref x :: ls, sk, h) = zrun zpp E 67 (48, .ref x :: ls, .ref x :: sk, h) := zrun_at (i := (.aload_n 0, 48, 0, [])) rfl
theorem zi67_47n {E : zE} {ls sk : List Value} {h : zH} : zrun zpp E 67 (47, .null :: ls, sk, h) = zrun zpp E 67 (48, .null :: ls, .null :: sk, h) := zrun_at (i := (.aload_n 0, 48, 0, [])) rfl
theorem zi67_48 {E : zE} {x : Nat} {ls sk : List Value} {h : zH} : zrun zpp E 67 (48, ls, .ref x :: sk, h) = (zfld [9] h x 9).bind (fun v => zrun zpp E 67 (51, ls, v :: sk, h)) := zg_getf rfl
theorem zi67_51 {E : zE} {v0 v1 v2 : Value} {x : Int32} {ls sk : List Value} {h : zH} : zrun zpp E 67 (51, v0 :: v1 :: v2 :: .int x :: ls, sk, h) = zrun zpp E 67 (52, v0 :: v1 :: v2 :: .int x :: ls, .int x :: sk, h) := zrun_at (i := (.iload_n 3, 52, 0, [])) rfl
theorem zi67_52 {E : zE} {x : Int32} {y : Nat} {ls sk : List Value} {h : zH} : zrun zpp E 67 (52, ls, .int x :: .ref y :: sk, h) = zrun zpp E 67 (53, ls, .int x :: .ref y :: .int x :: .ref y :: sk, h) := zrun_at (i := (.dup2, 53, 0, [])) rfl
theorem zi67_53 {E : zE} {x : Nat} {i : Int32} {ls sk : List Value} {h : zH} : zrun zpp E 67 (53, ls, .int i :: .ref x :: sk, h) = (zarr 0 h x i).bind (fun v => zrun zpp E 67 (54, ls, .int v :: sk, h)) := zg_iald rfl
theorem zi67_54 {E : zE} {ls sk : List Value} {h : zH} : zrun zpp E 67 (54, ls, sk, h) = zrun zpp E 67 (55, ls, .int 1 :: sk, h) := zg_iconst rfl ci_1
theorem zi67_55 {E : zE} {v0 v1 : Value} {x : Int32} {ls sk : List Value} {h : zH} : zrun zpp E 67 (55, v0 :: v1 :: .int x :: ls, sk, h) = zrun zpp E 67 (56, v0 :: v1 :: .int x :: ls, .int x :: sk, h) := zrun_at (i := (.iload_n 2, 56, 0, [])) rfl
theorem zi67_56 {E : zE} {x y : Int32} {ls sk : List Value} {h : zH} : zrun zpp E 67 (56, ls, .int y :: .int x :: sk, h) = zrun zpp E 67 (57, ls, .int (x <<< (y &&& 31)) :: sk, h) := zrun_at (i := (.ishl, 57, 0, [])) rfl
theorem zi67_57 {E : zE} {x y : Int32} {ls sk : List Value} {h : zH} : zrun zpp E 67 (57, ls, .int y :: .int x :: sk, h) = zrun zpp E 67 (58, ls, .int (x ||| y) :: sk, h) := zrun_at (i := (.ior, 58, 0, [])) rfl
theorem zi67_58 {E : zE} {x : Nat} {i v : Int32} {ls sk : List Value} {h : zH} : zrun zpp E 67 (58, ls, .int v :: .int i :: .ref x :: sk, h) = (zars 0 h x i v).bind (fun h' => zrun zpp E 67 (59, ls, sk, h')) := zg_iast rfl
theorem zi67_59 {E : zE} {ls sk : List Value} {h : zH} : zrun zpp E 67 (59, ls, sk, h) = zrun zpp E 67 (74, ls, sk, h) := zrun_at (i := (.goto 15, 62, 0, [74])) rfl
theorem zi67_62 {E : zE} {x : Nat} {ls sk : List Value} {h : zH} : zrun zpp E 67 (62, .ref x :: ls, sk, h) = zrun zpp E 67 (63, .ref x :: ls, .ref x :: sk, h) := zrun_at (i := (.aload_n 0, 63, 0, [])) rfl
theorem zi67_62n {E : zE} {ls sk : List Value} {h : zH} : zrun zpp E 67 (62, .null :: ls, sk, h) = zrun zpp E 67 (63, .null :: ls, .null :: sk, h) := zrun_at (i := (.aload_n 0, 63, 0, [])) rfl
theorem zi67_63 {E : zE} {x : Nat} {ls sk : List Value} {h : zH} : zrun zpp E 67 (63, ls, .ref x :: sk, h) = (zfld [9] h x 8).bind (fun v => zrun zpp E 67 (66, ls, v :: sk, h)) := zg_getf rfl
theorem zi67_66 {E : zE} {v0 v1 v2 : Value} {x : Int32} {ls sk : List Value} {h : zH} : zrun zpp E 67 (66, v0 :: v1 :: v2 :: .int x :: ls, sk, h) = zrun zpp E 67 (67, v0 :: v1 :: v2 :: .int x :: ls, .int x :: sk, h) := zrun_at (i := (.iload_n 3, 67, 0, [])) rfl
theorem zi67_67 {E : zE} {x : Int32} {y : Nat} {ls sk : List Value} {h : zH} : zrun zpp E 67 (67, ls, .int x :: .ref y :: sk, h) = zrun zpp E 67 (68, ls, .int x :: .ref y :: .int x :: .ref y :: sk, h) := zrun_at (i := (.dup2, 68, 0, [])) rfl
theorem zi67_68 {E : zE} {x : Nat} {i : Int32} {ls sk : List Value} {h : zH} : zrun zpp E 67 (68, ls, .int i :: .ref x :: sk, h) = (zarr 0 h x i).bind (fun v => zrun zpp E 67 (69, ls, .int v :: sk, h)) := zg_iald rfl
theorem zi67_69 {E : zE} {ls sk : List Value} {h : zH} : zrun zpp E 67 (69, ls, sk, h) = zrun zpp E 67 (70, ls, .int 1 :: sk, h) := zg_iconst rfl ci_1
theorem zi67_70 {E : zE} {v0 v1 : Value} {x : Int32} {ls sk : List Value} {h : zH} : zrun zpp E 67 (70, v0 :: v1 :: .int x :: ls, sk, h) = zrun zpp E 67 (71, v0 :: v1 :: .int x :: ls, .int x :: sk, h) := zrun_at (i := (.iload_n 2, 71, 0, [])) rfl
theorem zi67_71 {E : zE} {x y : Int32} {ls sk : List Value} {h : zH} : zrun zpp E 67 (71, ls, .int y :: .int x :: sk, h) = zrun zpp E 67 (72, ls, .int (x <<< (y &&& 31)) :: sk, h) := zrun_at (i := (.ishl, 72, 0, [])) rfl
theorem zi67_72 {E : zE} {x y : Int32} {ls sk : List Value} {h : zH} : zrun zpp E 67 (72, ls, .int y :: .int x :: sk, h) = zrun zpp E 67 (73, ls, .int (x ||| y) :: sk, h) := zrun_at (i := (.ior, 73, 0, [])) rfl
theorem zi67_73 {E : zE} {x : Nat} {i v : Int32} {ls sk : List Value} {h : zH} : zrun zpp E 67 (73, ls, .int v :: .int i :: .ref x :: sk, h) = (zars 0 h x i v).bind (fun h' => zrun zpp E 67 (74, ls, sk, h')) := zg_iast rfl
theorem zi67_74 {E : zE} {x : Nat} {ls sk : List Value} {h : zH} : zrun zpp E 67 (74, .ref x :: ls, sk, h) = zrun zpp E 67 (75, .ref x :: ls, .ref x :: sk, h) := zrun_at (i := (.aload_n 0, 75, 0, [])) rfl
theorem zi67_74n {E : zE} {ls sk : List Value} {h : zH} : zrun zpp E 67 (74, .null :: ls, sk, h) = zrun zpp E 67 (75, .null :: ls, .null :: sk, h) := zrun_at (i := (.aload_n 0, 75, 0, [])) rfl
theorem zi67_75 {E : zE} {x : Nat} {ls sk : List Value} {h : zH} : zrun zpp E 67 (75, ls, .ref x :: sk, h) = zrun zpp E 67 (76, ls, .ref x :: .ref x :: sk, h) := zrun_at (i := (.dup, 76, 0, [])) rfl
theorem zi67_75i {E : zE} {x : Int32} {ls sk : List Value} {h : zH} : zrun zpp E 67 (75, ls, .int x :: sk, h) = zrun zpp E 67 (76, ls, .int x :: .int x :: sk, h) := zrun_at (i := (.dup, 76, 0, [])) rfl
theorem zi67_76 {E : zE} {x : Nat} {ls sk : List Value} {h : zH} : zrun zpp E 67 (76, ls, .ref x :: sk, h) = (zfld [9] h x 4).bind (fun v => zrun zpp E 67 (79, ls, v :: sk, h)) := zg_getf rfl
theorem zi67_79 {E : zE} {ls sk : List Value} {h : zH} : zrun zpp E 67 (79, ls, sk, h) = zrun zpp E 67 (80, ls, .int 1 :: sk, h) := zg_iconst rfl ci_1
theorem zi67_80 {E : zE} {x y : Int32} {ls sk : List Value} {h : zH} : zrun zpp E 67 (80, ls, .int y :: .int x :: sk, h) = zrun zpp E 67 (81, ls, .int (x + y) :: sk, h) := zrun_at (i := (.iadd, 81, 0, [])) rfl
theorem zi67_81 {E : zE} {x : Nat} {v : Value} {ls sk : List Value} {h : zH} : zrun zpp E 67 (81, ls, v :: .ref x :: sk, h) = (zstf [9] 0 h x 4 v).bind (fun h' => zrun zpp E 67 (84, ls, sk, h')) := zg_putf rfl
theorem zi67_84 {E : zE} {ls sk : List Value} {h : zH} : zrun zpp E 67 (84, ls, [], h) = some (none, h) := zrun_at (i := (.return_, 85, 0, [])) rfl
-- 68 NineDown$Yard.addLifter
theorem zi68_0 {E : zE} {x : Nat} {ls sk : List Value} {h : zH} : zrun zpp E 68 (0, .ref x :: ls, sk, h) = zrun zpp E 68 (1, .ref x :: ls, .ref x :: sk, h) := zrun_at (i := (.aload_n 0, 1, 0, [])) rfl
theorem zi68_0n {E : zE} {ls sk : List Value} {h : zH} : zrun zpp E 68 (0, .null :: ls, sk, h) = zrun zpp E 68 (1, .null :: ls, .null :: sk, h) := zrun_at (i := (.aload_n 0, 1, 0, [])) rfl
theorem zi68_1 {E : zE} {x : Nat} {ls sk : List Value} {h : zH} : zrun zpp E 68 (1, ls, .ref x :: sk, h) = (zfld [9] h x 13).bind (fun v => zrun zpp E 68 (4, ls, v :: sk, h)) := zg_getf rfl
theorem zi68_4 {E : zE} {x : Nat} {ls sk : List Value} {h : zH} : zrun zpp E 68 (4, .ref x :: ls, sk, h) = zrun zpp E 68 (5, .ref x :: ls, .ref x :: sk, h) := zrun_at (i := (.aload_n 0, 5, 0, [])) rfl
theorem zi68_4n {E : zE} {ls sk : List Value} {h : zH} : zrun zpp E 68 (4, .null :: ls, sk, h) = zrun zpp E 68 (5, .null :: ls, .null :: sk, h) := zrun_at (i := (.aload_n 0, 5, 0, [])) rfl
theorem zi68_5 {E : zE} {x : Nat} {ls sk : List Value} {h : zH} : zrun zpp E 68 (5, ls, .ref x :: sk, h) = (zfld [9] h x 5).bind (fun v => zrun zpp E 68 (8, ls, v :: sk, h)) := zg_getf rfl
theorem zi68_8 {E : zE} {v0 : Value} {x : Nat} {ls sk : List Value} {h : zH} : zrun zpp E 68 (8, v0 :: .ref x :: ls, sk, h) = zrun zpp E 68 (9, v0 :: .ref x :: ls, .ref x :: sk, h) := zrun_at (i := (.aload_n 1, 9, 0, [])) rfl
theorem zi68_8n {E : zE} {v0 : Value} {ls sk : List Value} {h : zH} : zrun zpp E 68 (8, v0 :: .null :: ls, sk, h) = zrun zpp E 68 (9, v0 :: .null :: ls, .null :: sk, h) := zrun_at (i := (.aload_n 1, 9, 0, [])) rfl
theorem zi68_9 {E : zE} {x : Nat} {i : Int32} {v : Value} {ls sk : List Value} {h : zH} : zrun zpp E 68 (9, ls, v :: .int i :: .ref x :: sk, h) = (zaro h x i v).bind (fun h' => zrun zpp E 68 (10, ls, sk, h')) := zg_aast rfl
theorem zi68_10 {E : zE} {x : Nat} {ls sk : List Value} {h : zH} : zrun zpp E 68 (10, .ref x :: ls, sk, h) = zrun zpp E 68 (11, .ref x :: ls, .ref x :: sk, h) := zrun_at (i := (.aload_n 0, 11, 0, [])) rfl
theorem zi68_10n {E : zE} {ls sk : List Value} {h : zH} : zrun zpp E 68 (10, .null :: ls, sk, h) = zrun zpp E 68 (11, .null :: ls, .null :: sk, h) := zrun_at (i := (.aload_n 0, 11, 0, [])) rfl
theorem zi68_11 {E : zE} {x : Nat} {ls sk : List Value} {h : zH} : zrun zpp E 68 (11, ls, .ref x :: sk, h) = zrun zpp E 68 (12, ls, .ref x :: .ref x :: sk, h) := zrun_at (i := (.dup, 12, 0, [])) rfl
theorem zi68_11i {E : zE} {x : Int32} {ls sk : List Value} {h : zH} : zrun zpp E 68 (11, ls, .int x :: sk, h) = zrun zpp E 68 (12, ls, .int x :: .int x :: sk, h) := zrun_at (i := (.dup, 12, 0, [])) rfl
theorem zi68_12 {E : zE} {x : Nat} {ls sk : List Value} {h : zH} : zrun zpp E 68 (12, ls, .ref x :: sk, h) = (zfld [9] h x 5).bind (fun v => zrun zpp E 68 (15, ls, v :: sk, h)) := zg_getf rfl
theorem zi68_15 {E : zE} {ls sk : List Value} {h : zH} : zrun zpp E 68 (15, ls, sk, h) = zrun zpp E 68 (16, ls, .int 1 :: sk, h) := zg_iconst rfl ci_1
theorem zi68_16 {E : zE} {x y : Int32} {ls sk : List Value} {h : zH} : zrun zpp E 68 (16, ls, .int y :: .int x :: sk, h) = zrun zpp E 68 (17, ls, .int (x + y) :: sk, h) := zrun_at (i := (.iadd, 17, 0, [])) rfl
theorem zi68_17 {E : zE} {x : Nat} {v : Value} {ls sk : List Value} {h : zH} : zrun zpp E 68 (17, ls, v :: .ref x :: sk, h) = (zstf [9] 0 h x 5 v).bind (fun h' => zrun zpp E 68 (20, ls, sk, h')) := zg_putf rfl
theorem zi68_20 {E : zE} {ls sk : List Value} {h : zH} : zrun zpp E 68 (20, ls, [], h) = some (none, h) := zrun_at (i := (.return_, 21, 0, [])) rfl
-- 69 NineDown$Yard.become
theorem zi69_0 {E : zE} {x : Nat} {ls sk : List Value} {h : zH} : zrun zpp E 69 (0, .ref x :: ls, sk, h) = zrun zpp E 69 (1, .ref x :: ls, .ref x :: sk, h) := zrun_at (i := (.aload_n 0, 1, 0, [])) rfl
theorem zi69_0n {E : zE} {ls sk : List Value} {h : zH} : zrun zpp E 69 (0, .null :: ls, sk, h) = zrun zpp E 69 (1, .null :: ls, .null :: sk, h) := zrun_at (i := (.aload_n 0, 1, 0, [])) rfl
theorem zi69_1 {E : zE} {v0 : Value} {x : Nat} {ls sk : List Value} {h : zH} : zrun zpp E 69 (1, v0 :: .ref x :: ls, sk, h) = zrun zpp E 69 (2, v0 :: .ref x :: ls, .ref x :: sk, h) := zrun_at (i := (.aload_n 1, 2, 0, [])) rfl
theorem zi69_1n {E : zE} {v0 : Value} {ls sk : List Value} {h : zH} : zrun zpp E 69 (1, v0 :: .null :: ls, sk, h) = zrun zpp E 69 (2, v0 :: .null :: ls, .null :: sk, h) := zrun_at (i := (.aload_n 1, 2, 0, [])) rfl
theorem zi69_2 {E : zE} {x : Nat} {ls sk : List Value} {h : zH} : zrun zpp E 69 (2, ls, .ref x :: sk, h) = (zfld [9] h x 0).bind (fun v => zrun zpp E 69 (5, ls, v :: sk, h)) := zg_getf rfl
theorem zi69_5 {E : zE} {x : Nat} {v : Value} {ls sk : List Value} {h : zH} : zrun zpp E 69 (5, ls, v :: .ref x :: sk, h) = (zstf [9] 0 h x 0 v).bind (fun h' => zrun zpp E 69 (8, ls, sk, h')) := zg_putf rfl
theorem zi69_8 {E : zE} {x : Nat} {ls sk : List Value} {h : zH} : zrun zpp E 69 (8, .ref x :: ls, sk, h) = zrun zpp E 69 (9, .ref x :: ls, .ref x :: sk, h) := zrun_at (i := (.aload_n 0, 9, 0, [])) rfl
theorem zi69_8n {E : zE} {ls sk : List Value} {h : zH} : zrun zpp E 69 (8, .null :: ls, sk, h) = zrun zpp E 69 (9, .null :: ls, .null :: sk, h) := zrun_at (i := (.aload_n 0, 9, 0, [])) rfl
theorem zi69_9 {E : zE} {v0 : Value} {x : Nat} {ls sk : List Value} {h : zH} : zrun zpp E 69 (9, v0 :: .ref x :: ls, sk, h) = zrun zpp E 69 (10, v0 :: .ref x :: ls, .ref x :: sk, h) := zrun_at (i := (.aload_n 1, 10, 0, [])) rfl
theorem zi69_9n {E : zE} {v0 : Value} {ls sk : List Value} {h : zH} : zrun zpp E 69 (9, v0 :: .null :: ls, sk, h) = zrun zpp E 69 (10, v0 :: .null :: ls, .null :: sk, h) := zrun_at (i := (.aload_n 1, 10, 0, [])) rfl
theorem zi69_10 {E : zE} {x : Nat} {ls sk : List Value} {h : zH} : zrun zpp E 69 (10, ls, .ref x :: sk, h) = (zfld [9] h x 1).bind (fun v => zrun zpp E 69 (13, ls, v :: sk, h)) := zg_getf rfl
theorem zi69_13 {E : zE} {x : Nat} {v : Value} {ls sk : List Value} {h : zH} : zrun zpp E 69 (13, ls, v :: .ref x :: sk, h) = (zstf [9] 0 h x 1 v).bind (fun h' => zrun zpp E 69 (16, ls, sk, h')) := zg_putf rfl
theorem zi69_16 {E : zE} {x : Nat} {ls sk : List Value} {h : zH} : zrun zpp E 69 (16, .ref x :: ls, sk, h) = zrun zpp E 69 (17, .ref x :: ls, .ref x :: sk, h) := zrun_at (i := (.aload_n 0, 17, 0, [])) rfl
theorem zi69_16n {E : zE} {ls sk : List Value} {h : zH} : zrun zpp E 69 (16, .null :: ls, sk, h) = zrun zpp E 69 (17, .null :: ls, .null :: sk, h) := zrun_at (i := (.aload_n 0, 17, 0, [])) rfl
theorem zi69_17 {E : zE} {v0 : Value} {x : Nat} {ls sk : List Value} {h : zH} : zrun zpp E 69 (17, v0 :: .ref x :: ls, sk, h) = zrun zpp E 69 (18, v0 :: .ref x :: ls, .ref x :: sk, h) := zrun_at (i := (.aload_n 1, 18, 0, [])) rfl
theorem zi69_17n {E : zE} {v0 : Value} {ls sk : List Value} {h : zH} : zrun zpp E 69 (17, v0 :: .null :: ls, sk, h) = zrun zpp E 69 (18, v0 :: .null :: ls, .null :: sk, h) := zrun_at (i := (.aload_n 1, 18, 0, [])) rfl
theorem zi69_18 {E : zE} {x : Nat} {ls sk : List Value} {h : zH} : zrun zpp E 69 (18, ls, .ref x :: sk, h) = (zfld [9] h x 2).bind (fun v => zrun zpp E 69 (21, ls, v :: sk, h)) := zg_getf rfl
theorem zi69_21 {E : zE} {x : Nat} {v : Value} {ls sk : List Value} {h : zH} : zrun zpp E 69 (21, ls, v :: .ref x :: sk, h) = (zstf [9] 0 h x 2 v).bind (fun h' => zrun zpp E 69 (24, ls, sk, h')) := zg_putf rfl
theorem zi69_24 {E : zE} {x : Nat} {ls sk : List Value} {h : zH} : zrun zpp E 69 (24, .ref x :: ls, sk, h) = zrun zpp E 69 (25, .ref x :: ls, .ref x :: sk, h) := zrun_at (i := (.aload_n 0, 25, 0, [])) rfl
theorem zi69_24n {E : zE} {ls sk : List Value} {h : zH} : zrun zpp E 69 (24, .null :: ls, sk, h) = zrun zpp E 69 (25, .null :: ls, .null :: sk, h) := zrun_at (i := (.aload_n 0, 25, 0, [])) rfl
theorem zi69_25 {E : zE} {v0 : Value} {x : Nat} {ls sk : List Value} {h : zH} : zrun zpp E 69 (25, v0 :: .ref x :: ls, sk, h) = zrun zpp E 69 (26, v0 :: .ref x :: ls, .ref x :: sk, h) := zrun_at (i := (.aload_n 1, 26, 0, [])) rfl
theorem zi69_25n {E : zE} {v0 : Value} {ls sk : List Value} {h : zH} : zrun zpp E 69 (25, v0 :: .null :: ls, sk, h) = zrun zpp E 69 (26, v0 :: .null :: ls, .null :: sk, h) := zrun_at (i := (.aload_n 1, 26, 0, [])) rfl
theorem zi69_26 {E : zE} {x : Nat} {ls sk : List Value} {h : zH} : zrun zpp E 69 (26, ls, .ref x :: sk, h) = (zfld [9] h x 3).bind (fun v => zrun zpp E 69 (29, ls, v :: sk, h)) := zg_getf rfl
theorem zi69_29 {E : zE} {x : Nat} {v : Value} {ls sk : List Value} {h : zH} : zrun zpp E 69 (29, ls, v :: .ref x :: sk, h) = (zstf [9] 0 h x 3 v).bind (fun h' => zrun zpp E 69 (32, ls, sk, h')) := zg_putf rfl
theorem zi69_32 {E : zE} {x : Nat} {ls sk : List Value} {h : zH} : zrun zpp E 69 (32, .ref x :: ls, sk, h) = zrun zpp E 69 (33, .ref x :: ls, .ref x :: sk, h) := zrun_at (i := (.aload_n 0, 33, 0, [])) rfl
theorem zi69_32n {E : zE} {ls sk : List Value} {h : zH} : zrun zpp E 69 (32, .null :: ls, sk, h) = zrun zpp E 69 (33, .null :: ls, .null :: sk, h) := zrun_at (i := (.aload_n 0, 33, 0, [])) rfl
theorem zi69_33 {E : zE} {v0 : Value} {x : Nat} {ls sk : List Value} {h : zH} : zrun zpp E 69 (33, v0 :: .ref x :: ls, sk, h) = zrun zpp E 69 (34, v0 :: .ref x :: ls, .ref x :: sk, h) := zrun_at (i := (.aload_n 1, 34, 0, [])) rfl
theorem zi69_33n {E : zE} {v0 : Value} {ls sk : List Value} {h : zH} : zrun zpp E 69 (33, v0 :: .null :: ls, sk, h) = zrun zpp E 69 (34, v0 :: .null :: ls, .null :: sk, h) := zrun_at (i := (.aload_n 1, 34, 0, [])) rfl
theorem zi69_34 {E : zE} {x : Nat} {ls sk : List Value} {h : zH} : zrun zpp E 69 (34, ls, .ref x :: sk, h) = (zfld [9] h x 4).bind (fun v => zrun zpp E 69 (37, ls, v :: sk, h)) := zg_getf rfl
theorem zi69_37 {E : zE} {x : Nat} {v : Value} {ls sk : List Value} {h : zH} : zrun zpp E 69 (37, ls, v :: .ref x :: sk, h) = (zstf [9] 0 h x 4 v).bind (fun h' => zrun zpp E 69 (40, ls, sk, h')) := zg_putf rfl
theorem zi69_40 {E : zE} {x : Nat} {ls sk : List Value} {h : zH} : zrun zpp E 69 (40, .ref x :: ls, sk, h) = zrun zpp E 69 (41, .ref x :: ls, .ref x :: sk, h) := zrun_at (i := (.aload_n 0, 41, 0, [])) rfl
theorem zi69_40n {E : zE} {ls sk : List Value} {h : zH} : zrun zpp E 69 (40, .null :: ls, sk, h) = zrun zpp E 69 (41, .null :: ls, .null :: sk, h) := zrun_at (i := (.aload_n 0, 41, 0, [])) rfl
theorem zi69_41 {E : zE} {v0 : Value} {x : Nat} {ls sk : List Value} {h : zH} : zrun zpp E 69 (41, v0 :: .ref x :: ls, sk, h) = zrun zpp E 69 (42, v0 :: .ref x :: ls, .ref x :: sk, h) := zrun_at (i := (.aload_n 1, 42, 0, [])) rfl
theorem zi69_41n {E : zE} {v0 : Value} {ls sk : List Value} {h : zH} : zrun zpp E 69 (41, v0 :: .null :: ls, sk, h) = zrun zpp E 69 (42, v0 :: .null :: ls, .null :: sk, h) := zrun_at (i := (.aload_n 1, 42, 0, [])) rfl
theorem zi69_42 {E : zE} {x : Nat} {ls sk : List Value} {h : zH} : zrun zpp E 69 (42, ls, .ref x :: sk, h) = (zfld [9] h x 5).bind (fun v => zrun zpp E 69 (45, ls, v :: sk, h)) := zg_getf rfl
theorem zi69_45 {E : zE} {x : Nat} {v : Value} {ls sk : List Value} {h : zH} : zrun zpp E 69 (45, ls, v :: .ref x :: sk, h) = (zstf [9] 0 h x 5 v).bind (fun h' => zrun zpp E 69 (48, ls, sk, h')) := zg_putf rfl
theorem zi69_48 {E : zE} {v0 : Value} {x : Nat} {ls sk : List Value} {h : zH} : zrun zpp E 69 (48, v0 :: .ref x :: ls, sk, h) = zrun zpp E 69 (49, v0 :: .ref x :: ls, .ref x :: sk, h) := zrun_at (i := (.aload_n 1, 49, 0, [])) rfl
theorem zi69_48n {E : zE} {v0 : Value} {ls sk : List Value} {h : zH} : zrun zpp E 69 (48, v0 :: .null :: ls, sk, h) = zrun zpp E 69 (49, v0 :: .null :: ls, .null :: sk, h) := zrun_at (i := (.aload_n 1, 49, 0, [])) rfl
theorem zi69_49 {E : zE} {x : Nat} {ls sk : List Value} {h : zH} : zrun zpp E 69 (49, ls, .ref x :: sk, h) = (zfld [9] h x 6).bind (fun v => zrun zpp E 69 (52, ls, v :: sk, h)) := zg_getf rfl
theorem zi69_52 {E : zE} {ls sk : List Value} {h : zH} : zrun zpp E 69 (52, ls, sk, h) = zrun zpp E 69 (53, ls, .int 0 :: sk, h) := zg_iconst rfl ci_0
theorem zi69_53 {E : zE} {x : Nat} {ls sk : List Value} {h : zH} : zrun zpp E 69 (53, .ref x :: ls, sk, h) = zrun zpp E 69 (54, .ref x :: ls, .ref x :: sk, h) := zrun_at (i := (.aload_n 0, 54, 0, [])) rfl
theorem zi69_53n {E : zE} {ls sk : List Value} {h : zH} : zrun zpp E 69 (53, .null :: ls, sk, h) = zrun zpp E 69 (54, .null :: ls, .null :: sk, h) := zrun_at (i := (.aload_n 0, 54, 0, [])) rfl
theorem zi69_54 {E : zE} {x : Nat} {ls sk : List Value} {h : zH} : zrun zpp E 69 (54, ls, .ref x :: sk, h) = (zfld [9] h x 6).bind (fun v => zrun zpp E 69 (57, ls, v :: sk, h)) := zg_getf rfl
theorem zi69_57 {E : zE} {ls sk : List Value} {h : zH} : zrun zpp E 69 (57, ls, sk, h) = zrun zpp E 69 (58, ls, .int 0 :: sk, h) := zg_iconst rfl ci_0
theorem zi69_58 {E : zE} {ls sk : List Value} {h : zH} : zrun zpp E 69 (58, ls, sk, h) = zrun zpp E 69 (60, ls, .int 8 :: sk, h) := zg_bipush rfl ci_8
theorem zi69_60 {E : zE} {a b : Nat} {n dp sp : Int32} {ls sk : List Value} {h : zH} : zrun zpp E 69 (60, ls, .int n :: .int dp :: .ref b :: .int sp :: .ref a :: [], h) = (zcpa h a b sp dp n).bind (fun h' => zrun zpp E 69 (63, ls, [], h')) := zg_copy rfl rfl
theorem zi69_63 {E : zE} {v0 : Value} {x : Nat} {ls sk : List Value} {h : zH} : zrun zpp E 69 (63, v0 :: .ref x :: ls, sk, h) = zrun zpp E 69 (64, v0 :: .ref x :: ls, .ref x :: sk, h) := zrun_at (i := (.aload_n 1, 64, 0, [])) rfl
theorem zi69_63n {E : zE} {v0 : Value} {ls sk : List Value} {h : zH} : zrun zpp E 69 (63, v0 :: .null :: ls, sk, h) = zrun zpp E 69 (64, v0 :: .null :: ls, .null :: sk, h) := zrun_at (i := (.aload_n 1, 64, 0, [])) rfl
theorem zi69_64 {E : zE} {x : Nat} {ls sk : List Value} {h : zH} : zrun zpp E 69 (64, ls, .ref x :: sk, h) = (zfld [9] h x 7).bind (fun v => zrun zpp E 69 (67, ls, v :: sk, h)) := zg_getf rfl
theorem zi69_67 {E : zE} {ls sk : List Value} {h : zH} : zrun zpp E 69 (67, ls, sk, h) = zrun zpp E 69 (68, ls, .int 0 :: sk, h) := zg_iconst rfl ci_0
theorem zi69_68 {E : zE} {x : Nat} {ls sk : List Value} {h : zH} : zrun zpp E 69 (68, .ref x :: ls, sk, h) = zrun zpp E 69 (69, .ref x :: ls, .ref x :: sk, h) := zrun_at (i := (.aload_n 0, 69, 0, [])) rfl
theorem zi69_68n {E : zE} {ls sk : List Value} {h : zH} : zrun zpp E 69 (68, .null :: ls, sk, h) = zrun zpp E 69 (69, .null :: ls, .null :: sk, h) := zrun_at (i := (.aload_n 0, 69, 0, [])) rfl
theorem zi69_69 {E : zE} {x : Nat} {ls sk : List Value} {h : zH} : zrun zpp E 69 (69, ls, .ref x :: sk, h) = (zfld [9] h x 7).bind (fun v => zrun zpp E 69 (72, ls, v :: sk, h)) := zg_getf rfl
theorem zi69_72 {E : zE} {ls sk : List Value} {h : zH} : zrun zpp E 69 (72, ls, sk, h) = zrun zpp E 69 (73, ls, .int 0 :: sk, h) := zg_iconst rfl ci_0
theorem zi69_73 {E : zE} {ls sk : List Value} {h : zH} : zrun zpp E 69 (73, ls, sk, h) = zrun zpp E 69 (75, ls, .int 8 :: sk, h) := zg_bipush rfl ci_8
theorem zi69_75 {E : zE} {a b : Nat} {n dp sp : Int32} {ls sk : List Value} {h : zH} : zrun zpp E 69 (75, ls, .int n :: .int dp :: .ref b :: .int sp :: .ref a :: [], h) = (zcpa h a b sp dp n).bind (fun h' => zrun zpp E 69 (78, ls, [], h')) := zg_copy rfl rfl
theorem zi69_78 {E : zE} {v0 : Value} {x : Nat} {ls sk : List Value} {h : zH} : zrun zpp E 69 (78, v0 :: .ref x :: ls, sk, h) = zrun zpp E 69 (79, v0 :: .ref x :: ls, .ref x :: sk, h) := zrun_at (i := (.aload_n 1, 79, 0, [])) rfl
theorem zi69_78n {E : zE} {v0 : Value} {ls sk : List Value} {h : zH} : zrun zpp E 69 (78, v0 :: .null :: ls, sk, h) = zrun zpp E 69 (79, v0 :: .null :: ls, .null :: sk, h) := zrun_at (i := (.aload_n 1, 79, 0, [])) rfl
theorem zi69_79 {E : zE} {x : Nat} {ls sk : List Value} {h : zH} : zrun zpp E 69 (79, ls, .ref x :: sk, h) = (zfld [9] h x 8).bind (fun v => zrun zpp E 69 (82, ls, v :: sk, h)) := zg_getf rfl
theorem zi69_82 {E : zE} {ls sk : List Value} {h : zH} : zrun zpp E 69 (82, ls, sk, h) = zrun zpp E 69 (83, ls, .int 0 :: sk, h) := zg_iconst rfl ci_0
theorem zi69_83 {E : zE} {x : Nat} {ls sk : List Value} {h : zH} : zrun zpp E 69 (83, .ref x :: ls, sk, h) = zrun zpp E 69 (84, .ref x :: ls, .ref x :: sk, h) := zrun_at (i := (.aload_n 0, 84, 0, [])) rfl
theorem zi69_83n {E : zE} {ls sk : List Value} {h : zH} : zrun zpp E 69 (83, .null :: ls, sk, h) = zrun zpp E 69 (84, .null :: ls, .null :: sk, h) := zrun_at (i := (.aload_n 0, 84, 0, [])) rfl
theorem zi69_84 {E : zE} {x : Nat} {ls sk : List Value} {h : zH} : zrun zpp E 69 (84, ls, .ref x :: sk, h) = (zfld [9] h x 8).bind (fun v => zrun zpp E 69 (87, ls, v :: sk, h)) := zg_getf rfl
theorem zi69_87 {E : zE} {ls sk : List Value} {h : zH} : zrun zpp E 69 (87, ls, sk, h) = zrun zpp E 69 (88, ls, .int 0 :: sk, h) := zg_iconst rfl ci_0
theorem zi69_88 {E : zE} {ls sk : List Value} {h : zH} : zrun zpp E 69 (88, ls, sk, h) = zrun zpp E 69 (90, ls, .int 8 :: sk, h) := zg_bipush rfl ci_8
theorem zi69_90 {E : zE} {a b : Nat} {n dp sp : Int32} {ls sk : List Value} {h : zH} : zrun zpp E 69 (90, ls, .int n :: .int dp :: .ref b :: .int sp :: .ref a :: [], h) = (zcpa h a b sp dp n).bind (fun h' => zrun zpp E 69 (93, ls, [], h')) := zg_copy rfl rfl
theorem zi69_93 {E : zE} {v0 : Value} {x : Nat} {ls sk : List Value} {h : zH} : zrun zpp E 69 (93, v0 :: .ref x :: ls, sk, h) = zrun zpp E 69 (94, v0 :: .ref x :: ls, .ref x :: sk, h) := zrun_at (i := (.aload_n 1, 94, 0, [])) rfl
theorem zi69_93n {E : zE} {v0 : Value} {ls sk : List Value} {h : zH} : zrun zpp E 69 (93, v0 :: .null :: ls, sk, h) = zrun zpp E 69 (94, v0 :: .null :: ls, .null :: sk, h) := zrun_at (i := (.aload_n 1, 94, 0, [])) rfl
theorem zi69_94 {E : zE} {x : Nat} {ls sk : List Value} {h : zH} : zrun zpp E 69 (94, ls, .ref x :: sk, h) = (zfld [9] h x 9).bind (fun v => zrun zpp E 69 (97, ls, v :: sk, h)) := zg_getf rfl
theorem zi69_97 {E : zE} {ls sk : List Value} {h : zH} : zrun zpp E 69 (97, ls, sk, h) = zrun zpp E 69 (98, ls, .int 0 :: sk, h) := zg_iconst rfl ci_0
theorem zi69_98 {E : zE} {x : Nat} {ls sk : List Value} {h : zH} : zrun zpp E 69 (98, .ref x :: ls, sk, h) = zrun zpp E 69 (99, .ref x :: ls, .ref x :: sk, h) := zrun_at (i := (.aload_n 0, 99, 0, [])) rfl
theorem zi69_98n {E : zE} {ls sk : List Value} {h : zH} : zrun zpp E 69 (98, .null :: ls, sk, h) = zrun zpp E 69 (99, .null :: ls, .null :: sk, h) := zrun_at (i := (.aload_n 0, 99, 0, [])) rfl
theorem zi69_99 {E : zE} {x : Nat} {ls sk : List Value} {h : zH} : zrun zpp E 69 (99, ls, .ref x :: sk, h) = (zfld [9] h x 9).bind (fun v => zrun zpp E 69 (102, ls, v :: sk, h)) := zg_getf rfl
theorem zi69_102 {E : zE} {ls sk : List Value} {h : zH} : zrun zpp E 69 (102, ls, sk, h) = zrun zpp E 69 (103, ls, .int 0 :: sk, h) := zg_iconst rfl ci_0
theorem zi69_103 {E : zE} {ls sk : List Value} {h : zH} : zrun zpp E 69 (103, ls, sk, h) = zrun zpp E 69 (105, ls, .int 8 :: sk, h) := zg_bipush rfl ci_8
theorem zi69_105 {E : zE} {a b : Nat} {n dp sp : Int32} {ls sk : List Value} {h : zH} : zrun zpp E 69 (105, ls, .int n :: .int dp :: .ref b :: .int sp :: .ref a :: [], h) = (zcpa h a b sp dp n).bind (fun h' => zrun zpp E 69 (108, ls, [], h')) := zg_copy rfl rfl
theorem zi69_108 {E : zE} {v0 : Value} {x : Nat} {ls sk : List Value} {h : zH} : zrun zpp E 69 (108, v0 :: .ref x :: ls, sk, h) = zrun zpp E 69 (109, v0 :: .ref x :: ls, .ref x :: sk, h) := zrun_at (i := (.aload_n 1, 109, 0, [])) rfl
theorem zi69_108n {E : zE} {v0 : Value} {ls sk : List Value} {h : zH} : zrun zpp E 69 (108, v0 :: .null :: ls, sk, h) = zrun zpp E 69 (109, v0 :: .null :: ls, .null :: sk, h) := zrun_at (i := (.aload_n 1, 109, 0, [])) rfl
theorem zi69_109 {E : zE} {x : Nat} {ls sk : List Value} {h : zH} : zrun zpp E 69 (109, ls, .ref x :: sk, h) = (zfld [9] h x 10).bind (fun v => zrun zpp E 69 (112, ls, v :: sk, h)) := zg_getf rfl
theorem zi69_112 {E : zE} {ls sk : List Value} {h : zH} : zrun zpp E 69 (112, ls, sk, h) = zrun zpp E 69 (113, ls, .int 0 :: sk, h) := zg_iconst rfl ci_0
theorem zi69_113 {E : zE} {x : Nat} {ls sk : List Value} {h : zH} : zrun zpp E 69 (113, .ref x :: ls, sk, h) = zrun zpp E 69 (114, .ref x :: ls, .ref x :: sk, h) := zrun_at (i := (.aload_n 0, 114, 0, [])) rfl
theorem zi69_113n {E : zE} {ls sk : List Value} {h : zH} : zrun zpp E 69 (113, .null :: ls, sk, h) = zrun zpp E 69 (114, .null :: ls, .null :: sk, h) := zrun_at (i := (.aload_n 0, 114, 0, [])) rfl
theorem zi69_114 {E : zE} {x : Nat} {ls sk : List Value} {h : zH} : zrun zpp E 69 (114, ls, .ref x :: sk, h) = (zfld [9] h x 10).bind (fun v => zrun zpp E 69 (117, ls, v :: sk, h)) := zg_getf rfl
theorem zi69_117 {E : zE} {ls sk : List Value} {h : zH} : zrun zpp E 69 (117, ls, sk, h) = zrun zpp E 69 (118, ls, .int 0 :: sk, h) := zg_iconst rfl ci_0
theorem zi69_118 {E : zE} {ls sk : List Value} {h : zH} : zrun zpp E 69 (118, ls, sk, h) = zrun zpp E 69 (120, ls, .int 10 :: sk, h) := zg_bipush rfl ci_10
theorem zi69_120 {E : zE} {a b : Nat} {n dp sp : Int32} {ls sk : List Value} {h : zH} : zrun zpp E 69 (120, ls, .int n :: .int dp :: .ref b :: .int sp :: .ref a :: [], h) = (zcpa h a b sp dp n).bind (fun h' => zrun zpp E 69 (123, ls, [], h')) := zg_copy rfl rfl
theorem zi69_123 {E : zE} {v0 : Value} {x : Nat} {ls sk : List Value} {h : zH} : zrun zpp E 69 (123, v0 :: .ref x :: ls, sk, h) = zrun zpp E 69 (124, v0 :: .ref x :: ls, .ref x :: sk, h) := zrun_at (i := (.aload_n 1, 124, 0, [])) rfl
theorem zi69_123n {E : zE} {v0 : Value} {ls sk : List Value} {h : zH} : zrun zpp E 69 (123, v0 :: .null :: ls, sk, h) = zrun zpp E 69 (124, v0 :: .null :: ls, .null :: sk, h) := zrun_at (i := (.aload_n 1, 124, 0, [])) rfl
theorem zi69_124 {E : zE} {x : Nat} {ls sk : List Value} {h : zH} : zrun zpp E 69 (124, ls, .ref x :: sk, h) = (zfld [9] h x 11).bind (fun v => zrun zpp E 69 (127, ls, v :: sk, h)) := zg_getf rfl
theorem zi69_127 {E : zE} {ls sk : List Value} {h : zH} : zrun zpp E 69 (127, ls, sk, h) = zrun zpp E 69 (128, ls, .int 0 :: sk, h) := zg_iconst rfl ci_0
theorem zi69_128 {E : zE} {x : Nat} {ls sk : List Value} {h : zH} : zrun zpp E 69 (128, .ref x :: ls, sk, h) = zrun zpp E 69 (129, .ref x :: ls, .ref x :: sk, h) := zrun_at (i := (.aload_n 0, 129, 0, [])) rfl
theorem zi69_128n {E : zE} {ls sk : List Value} {h : zH} : zrun zpp E 69 (128, .null :: ls, sk, h) = zrun zpp E 69 (129, .null :: ls, .null :: sk, h) := zrun_at (i := (.aload_n 0, 129, 0, [])) rfl
theorem zi69_129 {E : zE} {x : Nat} {ls sk : List Value} {h : zH} : zrun zpp E 69 (129, ls, .ref x :: sk, h) = (zfld [9] h x 11).bind (fun v => zrun zpp E 69 (132, ls, v :: sk, h)) := zg_getf rfl
theorem zi69_132 {E : zE} {ls sk : List Value} {h : zH} : zrun zpp E 69 (132, ls, sk, h) = zrun zpp E 69 (133, ls, .int 0 :: sk, h) := zg_iconst rfl ci_0
theorem zi69_133 {E : zE} {ls sk : List Value} {h : zH} : zrun zpp E 69 (133, ls, sk, h) = zrun zpp E 69 (135, ls, .int 10 :: sk, h) := zg_bipush rfl ci_10
theorem zi69_135 {E : zE} {a b : Nat} {n dp sp : Int32} {ls sk : List Value} {h : zH} : zrun zpp E 69 (135, ls, .int n :: .int dp :: .ref b :: .int sp :: .ref a :: [], h) = (zcpa h a b sp dp n).bind (fun h' => zrun zpp E 69 (138, ls, [], h')) := zg_copy rfl rfl
theorem zi69_138 {E : zE} {v0 : Value} {x : Nat} {ls sk : List Value} {h : zH} : zrun zpp E 69 (138, v0 :: .ref x :: ls, sk, h) = zrun zpp E 69 (139, v0 :: .ref x :: ls, .ref x :: sk, h) := zrun_at (i := (.aload_n 1, 139, 0, [])) rfl
theorem zi69_138n {E : zE} {v0 : Value} {ls sk : List Value} {h : zH} : zrun zpp E 69 (138, v0 :: .null :: ls, sk, h) = zrun zpp E 69 (139, v0 :: .null :: ls, .null :: sk, h) := zrun_at (i := (.aload_n 1, 139, 0, [])) rfl
theorem zi69_139 {E : zE} {x : Nat} {ls sk : List Value} {h : zH} : zrun zpp E 69 (139, ls, .ref x :: sk, h) = (zfld [9] h x 12).bind (fun v => zrun zpp E 69 (142, ls, v :: sk, h)) := zg_getf rfl
theorem zi69_142 {E : zE} {ls sk : List Value} {h : zH} : zrun zpp E 69 (142, ls, sk, h) = zrun zpp E 69 (143, ls, .int 0 :: sk, h) := zg_iconst rfl ci_0
theorem zi69_143 {E : zE} {x : Nat} {ls sk : List Value} {h : zH} : zrun zpp E 69 (143, .ref x :: ls, sk, h) = zrun zpp E 69 (144, .ref x :: ls, .ref x :: sk, h) := zrun_at (i := (.aload_n 0, 144, 0, [])) rfl
theorem zi69_143n {E : zE} {ls sk : List Value} {h : zH} : zrun zpp E 69 (143, .null :: ls, sk, h) = zrun zpp E 69 (144, .null :: ls, .null :: sk, h) := zrun_at (i := (.aload_n 0, 144, 0, [])) rfl
theorem zi69_144 {E : zE} {x : Nat} {ls sk : List Value} {h : zH} : zrun zpp E 69 (144, ls, .ref x :: sk, h) = (zfld [9] h x 12).bind (fun v => zrun zpp E 69 (147, ls, v :: sk, h)) := zg_getf rfl
theorem zi69_147 {E : zE} {ls sk : List Value} {h : zH} : zrun zpp E 69 (147, ls, sk, h) = zrun zpp E 69 (148, ls, .int 0 :: sk, h) := zg_iconst rfl ci_0
theorem zi69_148 {E : zE} {ls sk : List Value} {h : zH} : zrun zpp E 69 (148, ls, sk, h) = zrun zpp E 69 (150, ls, .int 10 :: sk, h) := zg_bipush rfl ci_10
theorem zi69_150 {E : zE} {a b : Nat} {n dp sp : Int32} {ls sk : List Value} {h : zH} : zrun zpp E 69 (150, ls, .int n :: .int dp :: .ref b :: .int sp :: .ref a :: [], h) = (zcpa h a b sp dp n).bind (fun h' => zrun zpp E 69 (153, ls, [], h')) := zg_copy rfl rfl
theorem zi69_153 {E : zE} {ls sk : List Value} {h : zH} : zrun zpp E 69 (153, ls, sk, h) = zrun zpp E 69 (154, ls, .int 0 :: sk, h) := zg_iconst rfl ci_0
theorem zi69_154 {E : zE} {x : Int32} {ls sk : List Value} {h : zH} : zrun zpp E 69 (154, ls, .int x :: sk, h) = if zfree ls 2 = true then zrun zpp E 69 (155, ls.set 2 (.int x), sk, h) else none := zg_ist rfl (fun _ _ _ => rfl)
theorem zi69_155 {E : zE} {v0 v1 : Value} {x : Int32} {ls sk : List Value} {h : zH} : zrun zpp E 69 (155, v0 :: v1 :: .int x :: ls, sk, h) = zrun zpp E 69 (156, v0 :: v1 :: .int x :: ls, .int x :: sk, h) := zrun_at (i := (.iload_n 2, 156, 0, [])) rfl
theorem zi69_156 {E : zE} {ls sk : List Value} {h : zH} : zrun zpp E 69 (156, ls, sk, h) = zrun zpp E 69 (157, ls, .int 4 :: sk, h) := zg_iconst rfl ci_4
theorem zi69_157 {E : zE} {x y : Int32} {ls sk : List Value} {h : zH} : zrun zpp E 69 (157, ls, .int y :: .int x :: sk, h) = if y ≤ x then zrun zpp E 69 (178, ls, sk, h) else zrun zpp E 69 (160, ls, sk, h) := zrun_at (i := (.if_icmp .ge 21, 160, 0, [178])) rfl
theorem zi69_160 {E : zE} {x : Nat} {ls sk : List Value} {h : zH} : zrun zpp E 69 (160, .ref x :: ls, sk, h) = zrun zpp E 69 (161, .ref x :: ls, .ref x :: sk, h) := zrun_at (i := (.aload_n 0, 161, 0, [])) rfl
theorem zi69_160n {E : zE} {ls sk : List Value} {h : zH} : zrun zpp E 69 (160, .null :: ls, sk, h) = zrun zpp E 69 (161, .null :: ls, .null :: sk, h) := zrun_at (i := (.aload_n 0, 161, 0, [])) rfl
theorem zi69_161 {E : zE} {x : Nat} {ls sk : List Value} {h : zH} : zrun zpp E 69 (161, ls, .ref x :: sk, h) = (zfld [9] h x 13).bind (fun v => zrun zpp E 69 (164, ls, v :: sk, h)) := zg_getf rfl
theorem zi69_164 {E : zE} {v0 v1 : Value} {x : Int32} {ls sk : List Value} {h : zH} : zrun zpp E 69 (164, v0 :: v1 :: .int x :: ls, sk, h) = zrun zpp E 69 (165, v0 :: v1 :: .int x :: ls, .int x :: sk, h) := zrun_at (i := (.iload_n 2, 165, 0, [])) rfl
theorem zi69_165 {E : zE} {v0 : Value} {x : Nat} {ls sk : List Value} {h : zH} : zrun zpp E 69 (165, v0 :: .ref x :: ls, sk, h) = zrun zpp E 69 (166, v0 :: .ref x :: ls, .ref x :: sk, h) := zrun_at (i := (.aload_n 1, 166, 0, [])) rfl
theorem zi69_165n {E : zE} {v0 : Value} {ls sk : List Value} {h : zH} : zrun zpp E 69 (165, v0 :: .null :: ls, sk, h) = zrun zpp E 69 (166, v0 :: .null :: ls, .null :: sk, h) := zrun_at (i := (.aload_n 1, 166, 0, [])) rfl
theorem zi69_166 {E : zE} {x : Nat} {ls sk : List Value} {h : zH} : zrun zpp E 69 (166, ls, .ref x :: sk, h) = (zfld [9] h x 13).bind (fun v => zrun zpp E 69 (169, ls, v :: sk, h)) := zg_getf rfl
theorem zi69_169 {E : zE} {v0 v1 : Value} {x : Int32} {ls sk : List Value} {h : zH} : zrun zpp E 69 (169, v0 :: v1 :: .int x :: ls, sk, h) = zrun zpp E 69 (170, v0 :: v1 :: .int x :: ls, .int x :: sk, h) := zrun_at (i := (.iload_n 2, 170, 0, [])) rfl
theorem zi69_170 {E : zE} {x : Nat} {i : Int32} {ls sk : List Value} {h : zH} : zrun zpp E 69 (170, ls, .int i :: .ref x :: sk, h) = (zara h x i).bind (fun v => zrun zpp E 69 (171, ls, v :: sk, h)) := zg_aald rfl
theorem zi69_171 {E : zE} {x : Nat} {i : Int32} {v : Value} {ls sk : List Value} {h : zH} : zrun zpp E 69 (171, ls, v :: .int i :: .ref x :: sk, h) = (zaro h x i v).bind (fun h' => zrun zpp E 69 (172, ls, sk, h')) := zg_aast rfl
theorem zi69_172 {E : zE} {v0 v1 : Value} {x : Int32} {ls sk : List Value} {h : zH} : zrun zpp E 69 (172, v0 :: v1 :: .int x :: ls, sk, h) = if zfree (v0 :: v1 :: .int x :: ls) 2 = true then zrun zpp E 69 (175, v0 :: v1 :: .int (x + 1) :: ls, sk, h) else none := by rw [← ci_1]; exact zrun_at (i := (.iinc 2 1, 175, 0, [])) rfl
theorem zi69_175 {E : zE} {ls sk : List Value} {h : zH} : zrun zpp E 69 (175, ls, sk, h) = zrun zpp E 69 (155, ls, sk, h) := zrun_at (i := (.goto (-20), 178, 0, [155])) rfl
theorem zi69_178 {E : zE} {x : Nat} {ls sk : List Value} {h : zH} : zrun zpp E 69 (178, .ref x :: ls, sk, h) = zrun zpp E 69 (179, .ref x :: ls, .ref x :: sk, h) := zrun_at (i := (.aload_n 0, 179, 0, [])) rfl
theorem zi69_178n {E : zE} {ls sk : List Value} {h : zH} : zrun zpp E 69 (178, .null :: ls, sk, h) = zrun zpp E 69 (179, .null :: ls, .null :: sk, h) := zrun_at (i := (.aload_n 0, 179, 0, [])) rfl
theorem zi69_179 {E : zE} {v0 : Value} {x : Nat} {ls sk : List Value} {h : zH} : zrun zpp E 69 (179, v0 :: .ref x :: ls, sk, h) = zrun zpp E 69 (180, v0 :: .ref x :: ls, .ref x :: sk, h) := zrun_at (i := (.aload_n 1, 180, 0, [])) rfl
theorem zi69_179n {E : zE} {v0 : Value} {ls sk : List Value} {h : zH} : zrun zpp E 69 (179, v0 :: .null :: ls, sk, h) = zrun zpp E 69 (180, v0 :: .null :: ls, .null :: sk, h) := zrun_at (i := (.aload_n 1, 180, 0, [])) rfl
theorem zi69_180 {E : zE} {x : Nat} {ls sk : List Value} {h : zH} : zrun zpp E 69 (180, ls, .ref x :: sk, h) = (zfld [9] h x 14).bind (fun v => zrun zpp E 69 (183, ls, v :: sk, h)) := zg_getf rfl
theorem zi69_183 {E : zE} {x : Nat} {v : Value} {ls sk : List Value} {h : zH} : zrun zpp E 69 (183, ls, v :: .ref x :: sk, h) = (zstf [9] 0 h x 14 v).bind (fun h' => zrun zpp E 69 (186, ls, sk, h')) := zg_putf rfl
theorem zi69_186 {E : zE} {x : Nat} {ls sk : List Value} {h : zH} : zrun zpp E 69 (186, .ref x :: ls, sk, h) = zrun zpp E 69 (187, .ref x :: ls, .ref x :: sk, h) := zrun_at (i := (.aload_n 0, 187, 0, [])) rfl
theorem zi69_186n {E : zE} {ls sk : List Value} {h : zH} : zrun zpp E 69 (186, .null :: ls, sk, h) = zrun zpp E 69 (187, .null :: ls, .null :: sk, h) := zrun_at (i := (.aload_n 0, 187, 0, [])) rfl
theorem zi69_187 {E : zE} {v0 : Value} {x : Nat} {ls sk : List Value} {h : zH} : zrun zpp E 69 (187, v0 :: .ref x :: ls, sk, h) = zrun zpp E 69 (188, v0 :: .ref x :: ls, .ref x :: sk, h) := zrun_at (i := (.aload_n 1, 188, 0, [])) rfl
theorem zi69_187n {E : zE} {v0 : Value} {ls sk : List Value} {h : zH} : zrun zpp E 69 (187, v0 :: .null :: ls, sk, h) = zrun zpp E 69 (188, v0 :: .null :: ls, .null :: sk, h) := zrun_at (i := (.aload_n 1, 188, 0, [])) rfl
theorem zi69_188 {E : zE} {x : Nat} {ls sk : List Value} {h : zH} : zrun zpp E 69 (188, ls, .ref x :: sk, h) = (zfld [9] h x 15).bind (fun v => zrun zpp E 69 (191, ls, v :: sk, h)) := zg_getf rfl
theorem zi69_191 {E : zE} {x : Nat} {v : Value} {ls sk : List Value} {h : zH} : zrun zpp E 69 (191, ls, v :: .ref x :: sk, h) = (zstf [9] 0 h x 15 v).bind (fun h' => zrun zpp E 69 (194, ls, sk, h')) := zg_putf rfl
theorem zi69_194 {E : zE} {x : Nat} {ls sk : List Value} {h : zH} : zrun zpp E 69 (194, .ref x :: ls, sk, h) = zrun zpp E 69 (195, .ref x :: ls, .ref x :: sk, h) := zrun_at (i := (.aload_n 0, 195, 0, [])) rfl
theorem zi69_194n {E : zE} {ls sk : List Value} {h : zH} : zrun zpp E 69 (194, .null :: ls, sk, h) = zrun zpp E 69 (195, .null :: ls, .null :: sk, h) := zrun_at (i := (.aload_n 0, 195, 0, [])) rfl
theorem zi69_195 {E : zE} {v0 : Value} {x : Nat} {ls sk : List Value} {h : zH} : zrun zpp E 69 (195, v0 :: .ref x :: ls, sk, h) = zrun zpp E 69 (196, v0 :: .ref x :: ls, .ref x :: sk, h) := zrun_at (i := (.aload_n 1, 196, 0, [])) rfl
theorem zi69_195n {E : zE} {v0 : Value} {ls sk : List Value} {h : zH} : zrun zpp E 69 (195, v0 :: .null :: ls, sk, h) = zrun zpp E 69 (196, v0 :: .null :: ls, .null :: sk, h) := zrun_at (i := (.aload_n 1, 196, 0, [])) rfl
theorem zi69_196 {E : zE} {x : Nat} {ls sk : List Value} {h : zH} : zrun zpp E 69 (196, ls, .ref x :: sk, h) = (zfld [9] h x 16).bind (fun v => zrun zpp E 69 (199, ls, v :: sk, h)) := zg_getf rfl
theorem zi69_199 {E : zE} {x : Nat} {v : Value} {ls sk : List Value} {h : zH} : zrun zpp E 69 (199, ls, v :: .ref x :: sk, h) = (zstf [9] 0 h x 16 v).bind (fun h' => zrun zpp E 69 (202, ls, sk, h')) := zg_putf rfl
theorem zi69_202 {E : zE} {x : Nat} {ls sk : List Value} {h : zH} : zrun zpp E 69 (202, .ref x :: ls, sk, h) = zrun zpp E 69 (203, .ref x :: ls, .ref x :: sk, h) := zrun_at (i := (.aload_n 0, 203, 0, [])) rfl
theorem zi69_202n {E : zE} {ls sk : List Value} {h : zH} : zrun zpp E 69 (202, .null :: ls, sk, h) = zrun zpp E 69 (203, .null :: ls, .null :: sk, h) := zrun_at (i := (.aload_n 0, 203, 0, [])) rfl
theorem zi69_203 {E : zE} {v0 : Value} {x : Nat} {ls sk : List Value} {h : zH} : zrun zpp E 69 (203, v0 :: .ref x :: ls, sk, h) = zrun zpp E 69 (204, v0 :: .ref x :: ls, .ref x :: sk, h) := zrun_at (i := (.aload_n 1, 204, 0, [])) rfl
theorem zi69_203n {E : zE} {v0 : Value} {ls sk : List Value} {h : zH} : zrun zpp E 69 (203, v0 :: .null :: ls, sk, h) = zrun zpp E 69 (204, v0 :: .null :: ls, .null :: sk, h) := zrun_at (i := (.aload_n 1, 204, 0, [])) rfl
theorem zi69_204 {E : zE} {x : Nat} {ls sk : List Value} {h : zH} : zrun zpp E 69 (204, ls, .ref x :: sk, h) = (zfld [9] h x 17).bind (fun v => zrun zpp E 69 (207, ls, v :: sk, h)) := zg_getf rfl
theorem zi69_207 {E : zE} {x : Nat} {v : Value} {ls sk : List Value} {h : zH} : zrun zpp E 69 (207, ls, v :: .ref x :: sk, h) = (zstf [9] 0 h x 17 v).bind (fun h' => zrun zpp E 69 (210, ls, sk, h')) := zg_putf rfl
theorem zi69_210 {E : zE} {ls sk : List Value} {h : zH} : zrun zpp E 69 (210, ls, [], h) = some (none, h) := zrun_at (i := (.return_, 211, 0, [])) rfl
-- 70 NineDown$Yard.isRead
theorem zi70_0 {E : zE} {x : Nat} {ls sk : List Value} {h : zH} : zrun zpp E 70 (0, .ref x :: ls, sk, h) = zrun zpp E 70 (1, .ref x :: ls, .ref x :: sk, h) := zrun_at (i := (.aload_n 0, 1, 0, [])) rfl
theorem zi70_0n {E : zE} {ls sk : List Value} {h : zH} : zrun zpp E 70 (0, .null :: ls, sk, h) = zrun zpp E 70 (1, .null :: ls, .null :: sk, h) := zrun_at (i := (.aload_n 0, 1, 0, [])) rfl
theorem zi70_1 {E : zE} {x : Nat} {ls sk : List Value} {h : zH} : zrun zpp E 70 (1, ls, .ref x :: sk, h) = (zfld [9] h x 3).bind (fun v => zrun zpp E 70 (4, ls, v :: sk, h)) := zg_getf rfl
theorem zi70_4 {E : zE} {x : Int32} {ls sk : List Value} {h : zH} : zrun zpp E 70 (4, ls, .int x :: sk, h) = if x ≤ 0 then zrun zpp E 70 (11, ls, sk, h) else zrun zpp E 70 (7, ls, sk, h) := zrun_at (i := (.ifCond .le 7, 7, 0, [11])) rfl
theorem zi70_7 {E : zE} {ls sk : List Value} {h : zH} : zrun zpp E 70 (7, ls, sk, h) = zrun zpp E 70 (8, ls, .int 1 :: sk, h) := zg_iconst rfl ci_1
theorem zi70_8 {E : zE} {ls sk : List Value} {h : zH} : zrun zpp E 70 (8, ls, sk, h) = zrun zpp E 70 (12, ls, sk, h) := zrun_at (i := (.goto 4, 11, 0, [12])) rfl
theorem zi70_11 {E : zE} {ls sk : List Value} {h : zH} : zrun zpp E 70 (11, ls, sk, h) = zrun zpp E 70 (12, ls, .int 0 :: sk, h) := zg_iconst rfl ci_0
theorem zi70_12 {E : zE} {x : Int32} {ls sk : List Value} {h : zH} : zrun zpp E 70 (12, ls, [.int x], h) = if x = 0 then some (some (.int 0), h) else if x = 1 then some (some (.int 1), h) else none := zrun_at (i := (.ireturn, 13, 1, [])) rfl
-- 71 NineDown$Yard.hasBike
theorem zi71_0 {E : zE} {v0 : Value} {x : Int32} {ls sk : List Value} {h : zH} : zrun zpp E 71 (0, v0 :: .int x :: ls, sk, h) = zrun zpp E 71 (1, v0 :: .int x :: ls, .int x :: sk, h) := zrun_at (i := (.iload_n 1, 1, 0, [])) rfl
theorem zi71_1 {E : zE} {ls sk : List Value} {h : zH} : zrun zpp E 71 (1, ls, sk, h) = zrun zpp E 71 (2, ls, .int 0 :: sk, h) := zg_iconst rfl ci_0
theorem zi71_2 {E : zE} {x : Nat} {ls sk : List Value} {h : zH} : zrun zpp E 71 (2, .ref x :: ls, sk, h) = zrun zpp E 71 (3, .ref x :: ls, .ref x :: sk, h) := zrun_at (i := (.aload_n 0, 3, 0, [])) rfl
theorem zi71_2n {E : zE} {ls sk : List Value} {h : zH} : zrun zpp E 71 (2, .null :: ls, sk, h) = zrun zpp E 71 (3, .null :: ls, .null :: sk, h) := zrun_at (i := (.aload_n 0, 3, 0, [])) rfl
theorem zi71_3 {E : zE} {x : Nat} {ls sk : List Value} {h : zH} : zrun zpp E 71 (3, ls, .ref x :: sk, h) = (zfld [9] h x 3).bind (fun v => zrun zpp E 71 (6, ls, v :: sk, h)) := zg_getf rfl
theorem zi71_6 {E : zE} {ls sk : List Value} {h : zH} : zrun zpp E 71 (6, ls, sk, h) = zrun zpp E 71 (7, ls, .int 1 :: sk, h) := zg_iconst rfl ci_1
theorem zi71_7 {E : zE} {x y : Int32} {ls sk : List Value} {h : zH} : zrun zpp E 71 (7, ls, .int y :: .int x :: sk, h) = zrun zpp E 71 (8, ls, .int (x - y) :: sk, h) := zrun_at (i := (.isub, 8, 0, [])) rfl
theorem zi71_8 {E : zE} {a0 a1 a2 : Value} {ls sk : List Value} {h : zH} : zrun zpp E 71 (8, ls, a2 :: a1 :: a0 :: sk, h) = zcl1 E 71 11 126 ls sk [a0, a1, a2] h := zg_inv (as := [a0, a1, a2]) rfl rfl
theorem zi71_11 {E : zE} {x : Int32} {ls sk : List Value} {h : zH} : zrun zpp E 71 (11, ls, [.int x], h) = if x = 0 then some (some (.int 0), h) else if x = 1 then some (some (.int 1), h) else none := zrun_at (i := (.ireturn, 12, 1, [])) rfl
-- 72 NineDown$Yard.hasHold
theorem zi72_0 {E : zE} {v0 : Value} {x : Int32} {ls sk : List Value} {h : zH} : zrun zpp E 72 (0, v0 :: .int x :: ls, sk, h) = zrun zpp E 72 (1, v0 :: .int x :: ls, .int x :: sk, h) := zrun_at (i := (.iload_n 1, 1, 0, [])) rfl
theorem zi72_1 {E : zE} {ls sk : List Value} {h : zH} : zrun zpp E 72 (1, ls, sk, h) = zrun zpp E 72 (2, ls, .int 0 :: sk, h) := zg_iconst rfl ci_0
theorem zi72_2 {E : zE} {x : Nat} {ls sk : List Value} {h : zH} : zrun zpp E 72 (2, .ref x :: ls, sk, h) = zrun zpp E 72 (3, .ref x :: ls, .ref x :: sk, h) := zrun_at (i := (.aload_n 0, 3, 0, [])) rfl
theorem zi72_2n {E : zE} {ls sk : List Value} {h : zH} : zrun zpp E 72 (2, .null :: ls, sk, h) = zrun zpp E 72 (3, .null :: ls, .null :: sk, h) := zrun_at (i := (.aload_n 0, 3, 0, [])) rfl
theorem zi72_3 {E : zE} {x : Nat} {ls sk : List Value} {h : zH} : zrun zpp E 72 (3, ls, .ref x :: sk, h) = (zfld [9] h x 4).bind (fun v => zrun zpp E 72 (6, ls, v :: sk, h)) := zg_getf rfl
theorem zi72_6 {E : zE} {ls sk : List Value} {h : zH} : zrun zpp E 72 (6, ls, sk, h) = zrun zpp E 72 (7, ls, .int 1 :: sk, h) := zg_iconst rfl ci_1
theorem zi72_7 {E : zE} {x y : Int32} {ls sk : List Value} {h : zH} : zrun zpp E 72 (7, ls, .int y :: .int x :: sk, h) = zrun zpp E 72 (8, ls, .int (x - y) :: sk, h) := zrun_at (i := (.isub, 8, 0, [])) rfl
theorem zi72_8 {E : zE} {a0 a1 a2 : Value} {ls sk : List Value} {h : zH} : zrun zpp E 72 (8, ls, a2 :: a1 :: a0 :: sk, h) = zcl1 E 72 11 126 ls sk [a0, a1, a2] h := zg_inv (as := [a0, a1, a2]) rfl rfl
theorem zi72_11 {E : zE} {x : Int32} {ls sk : List Value} {h : zH} : zrun zpp E 72 (11, ls, [.int x], h) = if x = 0 then some (some (.int 0), h) else if x = 1 then some (some (.int 1), h) else none := zrun_at (i := (.ireturn, 12, 1, [])) rfl
-- 73 NineDown$Yard.lifterAt
theorem zi73_0 {E : zE} {v0 : Value} {x : Int32} {ls sk : List Value} {h : zH} : zrun zpp E 73 (0, v0 :: .int x :: ls, sk, h) = zrun zpp E 73 (1, v0 :: .int x :: ls, .int x :: sk, h) := zrun_at (i := (.iload_n 1, 1, 0, [])) rfl
theorem zi73_1 {E : zE} {ls sk : List Value} {h : zH} : zrun zpp E 73 (1, ls, sk, h) = zrun zpp E 73 (2, ls, .int 0 :: sk, h) := zg_iconst rfl ci_0
theorem zi73_2 {E : zE} {x : Nat} {ls sk : List Value} {h : zH} : zrun zpp E 73 (2, .ref x :: ls, sk, h) = zrun zpp E 73 (3, .ref x :: ls, .ref x :: sk, h) := zrun_at (i := (.aload_n 0, 3, 0, [])) rfl
theorem zi73_2n {E : zE} {ls sk : List Value} {h : zH} : zrun zpp E 73 (2, .null :: ls, sk, h) = zrun zpp E 73 (3, .null :: ls, .null :: sk, h) := zrun_at (i := (.aload_n 0, 3, 0, [])) rfl
theorem zi73_3 {E : zE} {x : Nat} {ls sk : List Value} {h : zH} : zrun zpp E 73 (3, ls, .ref x :: sk, h) = (zfld [9] h x 5).bind (fun v => zrun zpp E 73 (6, ls, v :: sk, h)) := zg_getf rfl
theorem zi73_6 {E : zE} {ls sk : List Value} {h : zH} : zrun zpp E 73 (6, ls, sk, h) = zrun zpp E 73 (7, ls, .int 1 :: sk, h) := zg_iconst rfl ci_1
theorem zi73_7 {E : zE} {x y : Int32} {ls sk : List Value} {h : zH} : zrun zpp E 73 (7, ls, .int y :: .int x :: sk, h) = zrun zpp E 73 (8, ls, .int (x - y) :: sk, h) := zrun_at (i := (.isub, 8, 0, [])) rfl
theorem zi73_8 {E : zE} {a0 a1 a2 : Value} {ls sk : List Value} {h : zH} : zrun zpp E 73 (8, ls, a2 :: a1 :: a0 :: sk, h) = zcl1 E 73 11 126 ls sk [a0, a1, a2] h := zg_inv (as := [a0, a1, a2]) rfl rfl
theorem zi73_11 {E : zE} {x : Int32} {ls sk : List Value} {h : zH} : zrun zpp E 73 (11, ls, .int x :: sk, h) = if x = 0 then zrun zpp E 73 (23, ls, sk, h) else zrun zpp E 73 (14, ls, sk, h) := zrun_at (i := (.ifCond .eq 12, 14, 0, [23])) rfl
theorem zi73_14 {E : zE} {x : Nat} {ls sk : List Value} {h : zH} : zrun zpp E 73 (14, .ref x :: ls, sk, h) = zrun zpp E 73 (15, .ref x :: ls, .ref x :: sk, h) := zrun_at (i := (.aload_n 0, 15, 0, [])) rfl
theorem zi73_14n {E : zE} {ls sk : List Value} {h : zH} : zrun zpp E 73 (14, .null :: ls, sk, h) = zrun zpp E 73 (15, .null :: ls, .null :: sk, h) := zrun_at (i := (.aload_n 0, 15, 0, [])) rfl
theorem zi73_15 {E : zE} {x : Nat} {ls sk : List Value} {h : zH} : zrun zpp E 73 (15, ls, .ref x :: sk, h) = (zfld [9] h x 13).bind (fun v => zrun zpp E 73 (18, ls, v :: sk, h)) := zg_getf rfl
theorem zi73_18 {E : zE} {v0 : Value} {x : Int32} {ls sk : List Value} {h : zH} : zrun zpp E 73 (18, v0 :: .int x :: ls, sk, h) = zrun zpp E 73 (19, v0 :: .int x :: ls, .int x :: sk, h) := zrun_at (i := (.iload_n 1, 19, 0, [])) rfl
theorem zi73_19 {E : zE} {x : Nat} {i : Int32} {ls sk : List Value} {h : zH} : zrun zpp E 73 (19, ls, .int i :: .ref x :: sk, h) = (zara h x i).bind (fun v => zrun zpp E 73 (20, ls, v :: sk, h)) := zg_aald rfl
theorem zi73_20 {E : zE} {ls sk : List Value} {h : zH} : zrun zpp E 73 (20, ls, sk, h) = zrun zpp E 73 (24, ls, sk, h) := zrun_at (i := (.goto 4, 23, 0, [24])) rfl
theorem zi73_23 {E : zE} {ls sk : List Value} {h : zH} : zrun zpp E 73 (23, ls, sk, h) = zrun zpp E 73 (24, ls, .null :: sk, h) := zg_null rfl
theorem zi73_24 {E : zE} {x : Nat} {ls sk : List Value} {h : zH} : zrun zpp E 73 (24, ls, [.ref x], h) = some (some (.ref x), h) := zrun_at (i := (.areturn, 25, 0, [])) rfl
theorem zi73_24n {E : zE} {ls sk : List Value} {h : zH} : zrun zpp E 73 (24, ls, [.null], h) = some (some .null, h) := zrun_at (i := (.areturn, 25, 0, [])) rfl
-- 74 NineDown$Yard.isHeld
theorem zi74_0 {E : zE} {v0 : Value} {x : Int32} {ls sk : List Value} {h : zH} : zrun zpp E 74 (0, v0 :: .int x :: ls, sk, h) = zrun zpp E 74 (1, v0 :: .int x :: ls, .int x :: sk, h) := zrun_at (i := (.iload_n 1, 1, 0, [])) rfl
theorem zi74_1 {E : zE} {ls sk : List Value} {h : zH} : zrun zpp E 74 (1, ls, sk, h) = zrun zpp E 74 (2, ls, .int 1 :: sk, h) := zg_iconst rfl ci_1
theorem zi74_2 {E : zE} {x y : Int32} {ls sk : List Value} {h : zH} : zrun zpp E 74 (2, ls, .int y :: .int x :: sk, h) = if x = y then zrun zpp E 74 (5, ls, sk, h) else zrun zpp E 74 (12, ls, sk, h) := zrun_at (i := (.if_icmp .ne 10, 5, 0, [12])) rfl
theorem zi74_5 {E : zE} {x : Nat} {ls sk : List Value} {h : zH} : zrun zpp E 74 (5, .ref x :: ls, sk, h) = zrun zpp E 74 (6, .ref x :: ls, .ref x :: sk, h) := zrun_at (i := (.aload_n 0, 6, 0, [])) rfl
theorem zi74_5n {E : zE} {ls sk : List Value} {h : zH} : zrun zpp E 74 (5, .null :: ls, sk, h) = zrun zpp E 74 (6, .null :: ls, .null :: sk, h) := zrun_at (i := (.aload_n 0, 6, 0, [])) rfl
theorem zi74_6 {E : zE} {x : Nat} {ls sk : List Value} {h : zH} : zrun zpp E 74 (6, ls, .ref x :: sk, h) = (zfld [9] h x 9).bind (fun v => zrun zpp E 74 (9, ls, v :: sk, h)) := zg_getf rfl
theorem zi74_9 {E : zE} {ls sk : List Value} {h : zH} : zrun zpp E 74 (9, ls, sk, h) = zrun zpp E 74 (16, ls, sk, h) := zrun_at (i := (.goto 7, 12, 0, [16])) rfl
theorem zi74_12 {E : zE} {x : Nat} {ls sk : List Value} {h : zH} : zrun zpp E 74 (12, .ref x :: ls, sk, h) = zrun zpp E 74 (13, .ref x :: ls, .ref x :: sk, h) := zrun_at (i := (.aload_n 0, 13, 0, [])) rfl
theorem zi74_12n {E : zE} {ls sk : List Value} {h : zH} : zrun zpp E 74 (12, .null :: ls, sk, h) = zrun zpp E 74 (13, .null :: ls, .null :: sk, h) := zrun_at (i := (.aload_n 0, 13, 0, [])) rfl
theorem zi74_13 {E : zE} {x : Nat} {ls sk : List Value} {h : zH} : zrun zpp E 74 (13, ls, .ref x :: sk, h) = (zfld [9] h x 8).bind (fun v => zrun zpp E 74 (16, ls, v :: sk, h)) := zg_getf rfl
theorem zi74_16 {E : zE} {x : Nat} {ls sk : List Value} {h : zH} : zrun zpp E 74 (16, ls, .ref x :: sk, h) = if zfree ls 4 = true then zrun zpp E 74 (18, ls.set 4 (.ref x), sk, h) else none := zg_astr rfl (fun _ _ _ => rfl)
theorem zi74_16n {E : zE} {ls sk : List Value} {h : zH} : zrun zpp E 74 (16, ls, .null :: sk, h) = if zfree ls 4 = true then zrun zpp E 74 (18, ls.set 4 .null, sk, h) else none := zg_astn rfl (fun _ _ _ => rfl)
theorem zi74_18 {E : zE} {v0 v1 v2 v3 : Value} {x : Nat} {ls sk : List Value} {h : zH} : zrun zpp E 74 (18, v0 :: v1 :: v2 :: v3 :: .ref x :: ls, sk, h) = zrun zpp E 74 (20, v0 :: v1 :: v2 :: v3 :: .ref x :: ls, .ref x :: sk, h) := zrun_at (i := (.aload 4, 20, 0, [])) rfl
theorem zi74_18n {E : zE} {v0 v1 v2 v3 : Value} {ls sk : List Value} {h : zH} : zrun zpp E 74 (18, v0 :: v1 :: v2 :: v3 :: .null :: ls, sk, h) = zrun zpp E 74 (20, v0 :: v1 :: v2 :: v3 :: .null :: ls, .null :: sk, h) := zrun_at (i := (.aload 4, 20, 0, [])) rfl
theorem zi74_20 {E : zE} {v0 v1 : Value} {x : Int32} {ls sk : List Value} {h : zH} : zrun zpp E 74 (20, v0 :: v1 :: .int x :: ls, sk, h) = zrun zpp E 74 (21, v0 :: v1 :: .int x :: ls, .int x :: sk, h) := zrun_at (i := (.iload_n 2, 21, 0, [])) rfl
theorem zi74_21 {E : zE} {x : Nat} {i : Int32} {ls sk : List Value} {h : zH} : zrun zpp E 74 (21, ls, .int i :: .ref x :: sk, h) = (zarr 0 h x i).bind (fun v => zrun zpp E 74 (22, ls, .int v :: sk, h)) := zg_iald rfl
theorem zi74_22 {E : zE} {v0 v1 v2 : Value} {x : Int32} {ls sk : List Value} {h : zH} : zrun zpp E 74 (22, v0 :: v1 :: v2 :: .int x :: ls, sk, h) = zrun zpp E 74 (23, v0 :: v1 :: v2 :: .int x :: ls, .int x :: sk, h) := zrun_at (i := (.iload_n 3, 23, 0, [])) rfl
theorem zi74_23 {E : zE} {a0 a1 : Value} {ls sk : List Value} {h : zH} : zrun zpp E 74 (23, ls, a1 :: a0 :: sk, h) = zcl1 E 74 26 127 ls sk [a0, a1] h := zg_inv (as := [a0, a1]) rfl rfl
theorem zi74_26 {E : zE} {x : Int32} {ls sk : List Value} {h : zH} : zrun zpp E 74 (26, ls, .int x :: sk, h) = if x = 0 then zrun zpp E 74 (29, ls, sk, h) else zrun zpp E 74 (40, ls, sk, h) := zrun_at (i := (.ifCond .ne 14, 29, 0, [40])) rfl
theorem zi74_29 {E : zE} {v0 v1 v2 v3 : Value} {x : Nat} {ls sk : List Value} {h : zH} : zrun zpp E 74 (29, v0 :: v1 :: v2 :: v3 :: .ref x :: ls, sk, h) = zrun zpp E 74 (31, v0 :: v1 :: v2 :: v3 :: .ref x :: ls, .ref x :: sk, h) := zrun_at (i := (.aload 4, 31, 0, [])) rfl
theorem zi74_29n {E : zE} {v0 v1 v2 v3 : Value} {ls sk : List Value} {h : zH} : zrun zpp E 74 (29, v0 :: v1 :: v2 :: v3 :: .null :: ls, sk, h) = zrun zpp E 74 (31, v0 :: v1 :: v2 :: v3 :: .null :: ls, .null :: sk, h) := zrun_at (i := (.aload 4, 31, 0, [])) rfl
theorem zi74_31 {E : zE} {v0 v1 v2 : Value} {x : Int32} {ls sk : List Value} {h : zH} : zrun zpp E 74 (31, v0 :: v1 :: v2 :: .int x :: ls, sk, h) = zrun zpp E 74 (32, v0 :: v1 :: v2 :: .int x :: ls, .int x :: sk, h) := zrun_at (i := (.iload_n 3, 32, 0, [])) rfl
theorem zi74_32 {E : zE} {x : Nat} {i : Int32} {ls sk : List Value} {h : zH} : zrun zpp E 74 (32, ls, .int i :: .ref x :: sk, h) = (zarr 0 h x i).bind (fun v => zrun zpp E 74 (33, ls, .int v :: sk, h)) := zg_iald rfl
theorem zi74_33 {E : zE} {v0 v1 : Value} {x : Int32} {ls sk : List Value} {h : zH} : zrun zpp E 74 (33, v0 :: v1 :: .int x :: ls, sk, h) = zrun zpp E 74 (34, v0 :: v1 :: .int x :: ls, .int x :: sk, h) := zrun_at (i := (.iload_n 2, 34, 0, [])) rfl
theorem zi74_34 {E : zE} {a0 a1 : Value} {ls sk : List Value} {h : zH} : zrun zpp E 74 (34, ls, a1 :: a0 :: sk, h) = zcl1 E 74 37 127 ls sk [a0, a1] h := zg_inv (as := [a0, a1]) rfl rfl
theorem zi74_37 {E : zE} {x : Int32} {ls sk : List Value} {h : zH} : zrun zpp E 74 (37, ls, .int x :: sk, h) = if x = 0 then zrun zpp E 74 (44, ls, sk, h) else zrun zpp E 74 (40, ls, sk, h) := zrun_at (i := (.ifCond .eq 7, 40, 0, [44])) rfl
theorem zi74_40 {E : zE} {ls sk : List Value} {h : zH} : zrun zpp E 74 (40, ls, sk, h) = zrun zpp E 74 (41, ls, .int 1 :: sk, h) := zg_iconst rfl ci_1
theorem zi74_41 {E : zE} {ls sk : List Value} {h : zH} : zrun zpp E 74 (41, ls, sk, h) = zrun zpp E 74 (45, ls, sk, h) := zrun_at (i := (.goto 4, 44, 0, [45])) rfl
theorem zi74_44 {E : zE} {ls sk : List Value} {h : zH} : zrun zpp E 74 (44, ls, sk, h) = zrun zpp E 74 (45, ls, .int 0 :: sk, h) := zg_iconst rfl ci_0
theorem zi74_45 {E : zE} {x : Int32} {ls sk : List Value} {h : zH} : zrun zpp E 74 (45, ls, [.int x], h) = if x = 0 then some (some (.int 0), h) else if x = 1 then some (some (.int 1), h) else none := zrun_at (i := (.ireturn, 46, 1, [])) rfl
-- 75 NineDown$Yard.isLoose
theorem zi75_0 {E : zE} {x : Nat} {ls sk : List Value} {h : zH} : zrun zpp E 75 (0, .ref x :: ls, sk, h) = zrun zpp E 75 (1, .ref x :: ls, .ref x :: sk, h) := zrun_at (i := (.aload_n 0, 1, 0, [])) rfl
theorem zi75_0n {E : zE} {ls sk : List Value} {h : zH} : zrun zpp E 75 (0, .null :: ls, sk, h) = zrun zpp E 75 (1, .null :: ls, .null :: sk, h) := zrun_at (i := (.aload_n 0, 1, 0, [])) rfl
theorem zi75_1 {E : zE} {x : Nat} {ls sk : List Value} {h : zH} : zrun zpp E 75 (1, ls, .ref x :: sk, h) = (zfld [9] h x 14).bind (fun v => zrun zpp E 75 (4, ls, v :: sk, h)) := zg_getf rfl
theorem zi75_4 {E : zE} {v0 : Value} {x : Int32} {ls sk : List Value} {h : zH} : zrun zpp E 75 (4, v0 :: .int x :: ls, sk, h) = zrun zpp E 75 (5, v0 :: .int x :: ls, .int x :: sk, h) := zrun_at (i := (.iload_n 1, 5, 0, [])) rfl
theorem zi75_5 {E : zE} {a0 a1 : Value} {ls sk : List Value} {h : zH} : zrun zpp E 75 (5, ls, a1 :: a0 :: sk, h) = zcl1 E 75 8 127 ls sk [a0, a1] h := zg_inv (as := [a0, a1]) rfl rfl
theorem zi75_8 {E : zE} {x : Int32} {ls sk : List Value} {h : zH} : zrun zpp E 75 (8, ls, [.int x], h) = if x = 0 then some (some (.int 0), h) else if x = 1 then some (some (.int 1), h) else none := zrun_at (i := (.ireturn, 9, 1, [])) rfl
