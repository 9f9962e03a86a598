/-! DAYS BY DRAWS -/
def nxX (X : Nat) : Nat := X * 16807 % 2147483647
def dy1 (N P : Nat → Nat) (X : Nat) : Nat → Nat := if canN N (N (65 + 2 * (X % N 5))) (N (66 + 2 * (X % N 5))) (P 8) (X % N 3) = true then liftN P (N (65 + 2 * (X % N 5))) (X % N 3) else P
def dyN (N P : Nat → Nat) (X : Nat) : Nat → Nat := if N 5 = 0 then P else if X % 7 = 0 ∧ (dy1 N P X 8).testBit (X % N 3) = false then fallN (dy1 N P X) (X % N 3) else dy1 N P X
def dnN (N : Nat → Nat) : Nat → Nat → (Nat → Nat) → Nat → Nat
  | 0, _, P => P
  | m + 1, X, P => dnN N m (nxX X) (dyN N P (nxX X))
theorem lN0 : lN 0 = 0 := rfl
theorem zlNn {B : Nat} (h : 0 < B) (hB : B < 2 ^ 63) : (lN B = 0) = False := eq_false (fun z => by
  rw [← lN0, pk_lEQ hB (by omega)] at z
  omega)
theorem nxX_lt (X : Nat) : nxX X < 2147483647 := Nat.mod_lt _ (by omega)
theorem zdraw {X : Nat} (h : X < 2 ^ 31) : lN X * 16807 - lN X * 16807 / 2147483647 * 2147483647 = lN (nxX X) := by
  have e : lN X * 16807 = lN (X * 16807) := lN_mul X 16807
  rw [e]
  exact pk_lRem (b := 2147483647) (by omega) (by omega) (by omega)
theorem zmodB {X B : Nat} (h : X < 2 ^ 31) (h0 : 0 < B) (hB : B < 2 ^ 31) : lN X - lN X / lN B * lN B = lN (X % B) := pk_lRem (by omega) h0 (by omega)
theorem zmod7 {X : Nat} (h : X < 2 ^ 31) : lN X - lN X / 7 * 7 = lN (X % 7) := pk_lRem (b := 7) (by omega) (by omega) (by omega)
theorem zcmp7 {X : Nat} : (lg_cmp (lN (X % 7)) 0 = 0) = (X % 7 = 0) := by
  apply propext
  rw [lg_cmp_eq, ← lN0, pk_lEQ (by omega) (by omega)]
theorem z7n : ((7 : Int64) = 0) = False := by decide
theorem zMn : ((2147483647 : Int64) = 0) = False := by decide
section DRW
variable {E : zE} {h : zH} {n y s : Nat} {v : Int32} {sc : Nat → Int32} {N P : Nat → Nat}
theorem dy1_ok (hW : WF N) (hP : WF P) (hN : smN P N) {X : Nat} : WF (dy1 N P X) ∧ smN (dy1 N P X) N := by
  have e3 : P 3 = N 3 := hN 3 (by omega) (by omega) (by omega)
  have hb : X % N 3 < P 3 := by rw [e3]; exact Nat.mod_lt _ (by have := hW.2.2.2.1.1; omega)
  unfold dy1
  split
  · exact ⟨hP.lift hb, hN.lift _ _⟩
  · exact ⟨hP, hN⟩
theorem dyN_ok (hW : WF N) (hP : WF P) (hN : smN P N) {X : Nat} : WF (dyN N P X) ∧ smN (dyN N P X) N := by
  obtain ⟨a1, a2⟩ := dy1_ok (X := X) hW hP hN
  have e3 : dy1 N P X 3 = N 3 := a2 3 (by omega) (by omega) (by omega)
  have hb : X % N 3 < dy1 N P X 3 := by rw [e3]; exact Nat.mod_lt _ (by have := hW.2.2.2.1.1; omega)
  unfold dyN
  split
  · exact ⟨hP, hN⟩
  · split
    · exact ⟨a1.fall hb, a2.fall _⟩
    · exact ⟨a1, a2⟩
theorem sp_passDay {X : Nat} (hX : X < 2 ^ 31) (hC : CO h y s v) (hs : 16 ≤ s ∧ s < 70) (hW : WF N) (hP : WF P) (hN : smN P N) (hY : YN h s P) : ∃ h', zcall zpp E 137 [.ref 0, .long (lN X)] h = some (none, h') ∧ YN h' s (dyN N P X) ∧ zsm (fun a => a = s) h h' := by
  have c1 : zsel 9 [9, 73] = some 73 := rfl
  have c2 : zsel 9 [9, 81] = some 81 := rfl
  have c3 : zsel 9 [9, 82] = some 82 := rfl
  have e3 : P 3 = N 3 := hN 3 (by omega) (by omega) (by omega)
  have e5 : P 5 = N 5 := hN 5 (by omega) (by omega) (by omega)
  have h31 := hW.2.2.2.1.1
  have h3 := hW.2.2.2.1.2
  have h5 := hW.2.2.2.2.2.1
  have f3 := hY.f3
  have f5 := hY.f5
  rw [e3] at f3
  rw [e5] at f5
  by_cases h50 : N 5 = 0
  · refine ⟨h, ?_, by unfold dyN; rw [if_pos h50]; exact hY, zsm.rf h⟩
    rw [h50] at f5
    simp only [ze137, zi137_0, zi137_0n, zi137_1, zi137_4, zi137_7, zi137_10, zi137_10n, zi137_11, zi137_14, zi137_17, zi137_20 (sk := []), zcl1, zlow_0, zlow_1, zlow_2, zlow_3, zlow_4, zfree_0, zfree_i, zfree_r, zfree_n, zfree_d, zfree_f, zfree_s, if_true, if_false, Option.bind_some, Option.toList_some, Option.toList_none, List.cons_append, List.nil_append, List.set_cons_zero, List.set_cons_succ, Bool.false_eq_true, reduceIte, zsw_c, zsw_n, Nat.reduceAdd, hC.r8, f5, show (nI 0 = 0) = True by decide]
  have hb : X % N 3 < P 3 := by rw [e3]; exact Nat.mod_lt _ (by omega)
  have hw : X % N 5 < P 5 := by rw [e5]; exact Nat.mod_lt _ (by omega)
  have n5 : (nI (N 5) = 0) = False := by rw [nI_z8 _ (by omega)]; exact eq_false h50
  have n3 : (nI (N 3) = 0) = False := by rw [nI_z8 _ (by omega)]; exact eq_false (by omega)
  obtain ⟨q, e, hL⟩ := sp_lifterAt (E := E) hY (by omega) hw
  have hk := hP.kf hw
  have k65 : P (65 + 2 * (X % N 5)) = N (65 + 2 * (X % N 5)) := hN _ (by omega) (by omega) (by omega)
  have k66 : P (66 + 2 * (X % N 5)) = N (66 + 2 * (X % N 5)) := hN _ (by omega) (by omega) (by omega)
  rw [k65, k66] at hL hk
  have hcN := hN.can (N (65 + 2 * (X % N 5))) (N (66 + 2 * (X % N 5))) (P 8) (X % N 3)
  -- the lift
  have lift : ∃ h1, zcall zpp E 137 [.ref 0, .long (lN X)] h = zrun zpp E 137 (69, [.ref 0, .long (lN X), .retAddr 0, .int (nI (X % N 3)), .ref q], [], h1) ∧ YN h1 s (dy1 N P X) ∧ zsm (fun a => a = s) h h1 := by
    cases hc : canN P (N (65 + 2 * (X % N 5))) (N (66 + 2 * (X % N 5))) (P 8) (X % N 3)
    · rw [hc] at hcN
      refine ⟨h, ?_, by unfold dy1; rw [← hcN, if_neg (by decide)]; exact hY, zsm.rf h⟩
      conv =>
        lhs
        simp only [ze137, zi137_0, zi137_0n, zi137_1, zi137_4, zi137_7, zi137_10, zi137_10n, zi137_11, zi137_14, zi137_17, zi137_20 (sk := []), zi137_21, zi137_22, zi137_22n, zi137_23, zi137_26, zi137_29, zi137_30, zi137_31, zi137_32, zi137_33, zi137_33n, zi137_34, zi137_37, zi137_38, zi137_38n, zi137_39, zi137_42, zi137_45, zi137_46, zi137_47, zi137_48, zi137_51, zi137_51n, zi137_53, zi137_53n, zi137_55, zi137_55n, zi137_58, zi137_58n, zi137_59, zi137_62, zi137_62n, zi137_64, zi137_65, zi137_68, zcl1, zlow_0, zlow_1, zlow_2, zlow_3, zlow_4, zfree_0, zfree_i, zfree_r, zfree_n, zfree_d, zfree_f, zfree_s, if_true, if_false, Option.bind_some, Option.toList_some, Option.toList_none, List.cons_append, List.nil_append, List.set_cons_zero, List.set_cons_succ, Bool.false_eq_true, reduceIte, zsw_c, zsw_n, Nat.reduceAdd, hC.r8, f5, n5, f3, n3, nI_l (show N 3 < 2 ^ 31 by omega), nI_l (show N 5 < 2 ^ 31 by omega), zlNn (show 0 < N 3 by omega) (show N 3 < 2 ^ 63 by omega), zlNn (show 0 < N 5 by omega) (show N 5 < 2 ^ 63 by omega), zmodB hX (show 0 < N 3 by omega) (show N 3 < 2 ^ 31 by omega), zmodB hX (show 0 < N 5 by omega) (show N 5 < 2 ^ 31 by omega), lN_i, hY.cls, c1, e, c2, sp_raiseNo hP hY hL.2 hk.1 hk.2 hb hc]
    · rw [hc] at hcN
      obtain ⟨h1, er, Yr, zr⟩ := sp_raise (E := E) hP hY (by omega) hL.2 (by have := hL.1; omega) hk.1 hk.2 hb hc
      refine ⟨h1, ?_, by unfold dy1; rw [← hcN, if_pos rfl]; exact Yr, zr⟩
      conv =>
        lhs
        simp only [ze137, zi137_0, zi137_0n, zi137_1, zi137_4, zi137_7, zi137_10, zi137_10n, zi137_11, zi137_14, zi137_17, zi137_20 (sk := []), zi137_21, zi137_22, zi137_22n, zi137_23, zi137_26, zi137_29, zi137_30, zi137_31, zi137_32, zi137_33, zi137_33n, zi137_34, zi137_37, zi137_38, zi137_38n, zi137_39, zi137_42, zi137_45, zi137_46, zi137_47, zi137_48, zi137_51, zi137_51n, zi137_53, zi137_53n, zi137_55, zi137_55n, zi137_58, zi137_58n, zi137_59, zi137_62, zi137_62n, zi137_64, zi137_65, zi137_68, zcl1, zlow_0, zlow_1, zlow_2, zlow_3, zlow_4, zfree_0, zfree_i, zfree_r, zfree_n, zfree_d, zfree_f, zfree_s, if_true, if_false, Option.bind_some, Option.toList_some, Option.toList_none, List.cons_append, List.nil_append, List.set_cons_zero, List.set_cons_succ, Bool.false_eq_true, reduceIte, zsw_c, zsw_n, Nat.reduceAdd, hC.r8, f5, n5, f3, n3, nI_l (show N 3 < 2 ^ 31 by omega), nI_l (show N 5 < 2 ^ 31 by omega), zlNn (show 0 < N 3 by omega) (show N 3 < 2 ^ 63 by omega), zlNn (show 0 < N 5 by omega) (show N 5 < 2 ^ 63 by omega), zmodB hX (show 0 < N 3 by omega) (show N 3 < 2 ^ 31 by omega), zmodB hX (show 0 < N 5 by omega) (show N 5 < 2 ^ 31 by omega), lN_i, hY.cls, c1, e, c2, er]
  obtain ⟨h1, e1, Y1, z1⟩ := lift
  obtain ⟨w1, s1⟩ := dy1_ok (X := X) hW hP hN
  have d3 : dy1 N P X 3 = N 3 := s1 3 (by omega) (by omega) (by omega)
  have hb1 : X % N 3 < dy1 N P X 3 := by rw [d3]; exact Nat.mod_lt _ (by omega)
  have C1 := hC.keep (z1.2 0 (by omega))
  by_cases h7 : X % 7 = 0
  · cases hbit : (dy1 N P X 8).testBit (X % N 3)
    · obtain ⟨h2, e2, Y2, z2⟩ := sp_fallsAnew (E := E) w1 Y1 (by omega) hb1 hbit
      refine ⟨h2, ?_, by unfold dyN; rw [if_neg h50, if_pos ⟨h7, hbit⟩]; exact Y2, z1.tr z2⟩
      rw [e1]
      simp only [zi137_69, zi137_70, zi137_73, zi137_74, zi137_75, zi137_76, zi137_79, zi137_79n, zi137_80, zi137_83, zi137_84, zi137_87, zi137_88 (sk := []), zcl1, zlow_0, zlow_1, zlow_2, zlow_3, zlow_4, zfree_0, zfree_i, zfree_r, zfree_n, zfree_d, zfree_f, zfree_s, if_true, if_false, Option.bind_some, Option.toList_some, Option.toList_none, List.cons_append, List.nil_append, List.set_cons_zero, List.set_cons_succ, Bool.false_eq_true, reduceIte, zsw_c, zsw_n, Nat.reduceAdd, z7n, zmod7 hX, zcmp7, eq_true h7, C1.r8, Y1.cls, c3, e2]
    · refine ⟨h1, ?_, by unfold dyN; rw [if_neg h50, if_neg (fun z => by rw [hbit] at z; cases z.2)]; exact Y1, z1⟩
      rw [e1]
      simp only [zi137_69, zi137_70, zi137_73, zi137_74, zi137_75, zi137_76, zi137_79, zi137_79n, zi137_80, zi137_83, zi137_84, zi137_87, zi137_88 (sk := []), zcl1, zlow_0, zlow_1, zlow_2, zlow_3, zlow_4, zfree_0, zfree_i, zfree_r, zfree_n, zfree_d, zfree_f, zfree_s, if_true, if_false, Option.bind_some, Option.toList_some, Option.toList_none, List.cons_append, List.nil_append, List.set_cons_zero, List.set_cons_succ, Bool.false_eq_true, reduceIte, zsw_c, zsw_n, Nat.reduceAdd, z7n, zmod7 hX, zcmp7, eq_true h7, C1.r8, Y1.cls, c3, sp_fallsAnewNo w1 Y1 hb1 hbit]
  · refine ⟨h1, ?_, by unfold dyN; rw [if_neg h50, if_neg (fun z => h7 z.1)]; exact Y1, z1⟩
    rw [e1]
    simp only [zi137_69, zi137_70, zi137_73, zi137_74, zi137_75, zi137_76, zi137_79, zi137_79n, zi137_80, zi137_83, zi137_84, zi137_87, zi137_88 (sk := []), zcl1, zlow_0, zlow_1, zlow_2, zlow_3, zlow_4, zfree_0, zfree_i, zfree_r, zfree_n, zfree_d, zfree_f, zfree_s, if_true, if_false, Option.bind_some, Option.toList_some, Option.toList_none, List.cons_append, List.nil_append, List.set_cons_zero, List.set_cons_succ, Bool.false_eq_true, reduceIte, zsw_c, zsw_n, Nat.reduceAdd, z7n, zmod7 hX, zcmp7, eq_false h7]
theorem drwC {nn : Nat} {x2 x3 : Int32} (hs : 16 ≤ s ∧ s < 34) (hn : nn ≤ 60) (hW : WF N) : ∀ (m k X : Nat) (P : Nat → Nat) (h : zH), k + m = nn → X < 2 ^ 31 → CO h y s v → WF P → smN P N → YN h s P → ∃ (h' : zH) (X' : Nat), zrun zpp E 117 (64, [.ref 0, .int (nI nn), .int x2, .int x3, .long (lN X), .retAddr 0, .int (nI k)], [], h) = zrun zpp E 117 (94, [.ref 0, .int (nI nn), .int x2, .int x3, .long (lN X'), .retAddr 0, .int (nI nn)], [], h') ∧ YN h' s (dnN N m X P) ∧ zsm (fun a => a = s) h h' := by
  have c1 : zsel 10 [10, 137] = some 137 := rfl
  intro m
  induction m with
  | zero =>
    intro k X P h hk hX hC hP hN hY
    refine ⟨h, X, ?_, hY, zsm.rf h⟩
    rw [show k = nn by omega]
    conv =>
      lhs
      simp only [zi117_64, zi117_66, zcl1, zlow_0, zlow_1, zlow_2, zlow_3, zlow_4, zfree_0, zfree_i, zfree_r, zfree_n, zfree_d, zfree_f, zfree_s, if_true, if_false, Option.bind_some, Option.toList_some, Option.toList_none, List.cons_append, List.nil_append, List.set_cons_zero, List.set_cons_succ, Bool.false_eq_true, reduceIte, zsw_c, zsw_n, Nat.reduceAdd]
    rw [zi117_67, if_pos (by rw [nI_leP (by omega) (by omega)]; omega)]
  | succ m ih =>
    intro k X P h hk hX hC hP hN hY
    have hX' : nxX X < 2 ^ 31 := Nat.lt_trans (nxX_lt X) (by omega)
    obtain ⟨h1, e1, Y1, z1⟩ := sp_passDay (E := E) hX' hC (by omega) hW hP hN hY
    obtain ⟨w1, s1⟩ := dyN_ok (X := nxX X) hW hP hN
    obtain ⟨h2, X2, e2, Y2, z2⟩ := ih (k + 1) (nxX X) _ h1 (by omega) hX' (hC.keep (z1.2 0 (by omega))) w1 s1 Y1
    refine ⟨h2, X2, ?_, Y2, z1.tr z2⟩
    rw [← e2]
    conv =>
      lhs
      simp only [zi117_64, zi117_66, zcl1, zlow_0, zlow_1, zlow_2, zlow_3, zlow_4, zfree_0, zfree_i, zfree_r, zfree_n, zfree_d, zfree_f, zfree_s, if_true, if_false, Option.bind_some, Option.toList_some, Option.toList_none, List.cons_append, List.nil_append, List.set_cons_zero, List.set_cons_succ, Bool.false_eq_true, reduceIte, zsw_c, zsw_n, Nat.reduceAdd]
    rw [zi117_67, if_neg (by rw [nI_leP (by omega) (by omega)]; omega)]
    conv =>
      lhs
      simp only [zi117_70, zi117_72, zi117_75, zi117_76, zi117_79, zi117_80, zi117_82, zi117_82n, zi117_83, zi117_85, zi117_88, zi117_91, zcl1, zlow_0, zlow_1, zlow_2, zlow_3, zlow_4, zfree_0, zfree_i, zfree_r, zfree_n, zfree_d, zfree_f, zfree_s, if_true, if_false, Option.bind_some, Option.toList_some, Option.toList_none, List.cons_append, List.nil_append, List.set_cons_zero, List.set_cons_succ, Bool.false_eq_true, reduceIte, zsw_c, zsw_n, Nat.reduceAdd, List.length_cons, List.length_nil, Nat.reduceLT, decide_true, Bool.and_true, Bool.and_self, zMn, zdraw hX, hC.1, c1, e1, ix_p1]
theorem drwM {nn : Nat} {x2 x3 : Int32} (hn : nn ≤ 60) (hM : MdO h sc) (hY : MY h N) (hW : WF N) (hWL : WL N) : ∀ (m k X a c : Nat) (P : Nat → Nat) (v10 v11 : Value), k + m = nn → X < 2 ^ 31 → WF P → smN P N → P 6 = N 6 + a → P 7 = N 7 + c → (N 5 = 0 → P 8 = N 8) → ∃ (X' a' c' : Nat) (d' v10' v11' : Value), zrun zpp E 215 (74, [.ref 73, .int (nI nn), .int x2, .int x3, .long (lN X), .retAddr 0, .int (nI (P 8)), .int (nI a), .int (nI c), .int (nI k), v10, v11], [], h) = zrun zpp E 215 (251, [.ref 73, .int (nI nn), .int x2, .int x3, .long (lN X'), .retAddr 0, d', .int (nI a'), .int (nI c'), .int (nI nn), v10', v11'], [], h) ∧ dnN N m X P 6 = N 6 + a' ∧ dnN N m X P 7 = N 7 + c' := by
  have h31 := hW.2.2.2.1.1
  have h3 := hW.2.2.2.1.2
  have h5 := hW.2.2.2.2.2.1
  have m3 : zsel 11 [11, 179] = some 179 := rfl
  have m4 : zsel 11 [11, 180] = some 180 := rfl
  have m5 : zsel 11 [11, 186] = some 186 := rfl
  have m6 : zsel 11 [11, 187] = some 187 := rfl
  have m7 : zsel 11 [11, 188] = some 188 := rfl
  have r3 := hY.c 3 (by decide) (x := 3) rfl
  have r5 := hY.c 5 (by decide) (x := 5) rfl
  intro m
  induction m with
  | zero =>
    intro k X a c P v10 v11 hk hX hP hN e6 e7 e8
    refine ⟨X, a, c, .int (nI (P 8)), v10, v11, ?_, e6, e7⟩
    rw [show k = nn by omega]
    conv =>
      lhs
      simp only [zi215_74, zi215_76, zcl1, zlow_0, zlow_1, zlow_2, zlow_3, zlow_4, zfree_0, zfree_i, zfree_r, zfree_n, zfree_d, zfree_f, zfree_s, if_true, if_false, Option.bind_some, Option.toList_some, Option.toList_none, List.cons_append, List.nil_append, List.set_cons_zero, List.set_cons_succ, Bool.false_eq_true, reduceIte, zsw_c, zsw_n, Nat.reduceAdd]
    rw [zi215_77, if_pos (by rw [nI_leP (by omega) (by omega)]; omega)]
  | succ m ih =>
    intro k X a c P v10 v11 hk hX hP hN e6 e7 e8
    have hX' : nxX X < 2 ^ 31 := Nat.lt_trans (nxX_lt X) (by omega)
    have ed : dnN N (m + 1) X P = dnN N m (nxX X) (dyN N P (nxX X)) := rfl
    rw [ed]
    have hb : nxX X % N 3 < N 3 := Nat.mod_lt _ (by omega)
    have hd8 := hP.d8
    obtain ⟨w2, s2⟩ := dyN_ok (X := nxX X) hW hP hN
    obtain ⟨w1, s1⟩ := dy1_ok (X := nxX X) hW hP hN
    have hd0 : zrun zpp E 215 (74, [.ref 73, .int (nI nn), .int x2, .int x3, .long (lN X), .retAddr 0, .int (nI (P 8)), .int (nI a), .int (nI c), .int (nI k), v10, v11], [], h) = zrun zpp E 215 (105, [.ref 73, .int (nI nn), .int x2, .int x3, .long (lN (nxX X)), .retAddr 0, .int (nI (P 8)), .int (nI a), .int (nI c), .int (nI k), .int (nI (nxX X % N 3)), v11], [], h) := by
      conv =>
        lhs
        simp only [zi215_74, zi215_76, zcl1, zlow_0, zlow_1, zlow_2, zlow_3, zlow_4, zfree_0, zfree_i, zfree_r, zfree_n, zfree_d, zfree_f, zfree_s, if_true, if_false, Option.bind_some, Option.toList_some, Option.toList_none, List.cons_append, List.nil_append, List.set_cons_zero, List.set_cons_succ, Bool.false_eq_true, reduceIte, zsw_c, zsw_n, Nat.reduceAdd]
      rw [zi215_77, if_neg (by rw [nI_leP (by omega) (by omega)]; omega)]
      conv =>
        lhs
        simp only [zi215_80, zi215_82, zi215_85, zi215_86, zi215_89, zi215_90, zi215_92, zi215_94, zi215_94n, zi215_95, zi215_98, zi215_99, zi215_100, zi215_101, zi215_102, zi215_103, zcl1, zlow_0, zlow_1, zlow_2, zlow_3, zlow_4, zfree_0, zfree_i, zfree_r, zfree_n, zfree_d, zfree_f, zfree_s, if_true, if_false, Option.bind_some, Option.toList_some, Option.toList_none, List.cons_append, List.nil_append, List.set_cons_zero, List.set_cons_succ, Bool.false_eq_true, reduceIte, zsw_c, zsw_n, Nat.reduceAdd, List.length_cons, List.length_nil, Nat.reduceLT, decide_true, Bool.and_true, Bool.and_self, zMn, zdraw hX, hM.r5, r3, nI_l (show N 3 < 2 ^ 31 by omega), zlNn (show 0 < N 3 by omega) (show N 3 < 2 ^ 63 by omega), zmodB hX' (show 0 < N 3 by omega) (show N 3 < 2 ^ 31 by omega), lN_i]
    by_cases h50 : N 5 = 0
    · -- no lifters: all are down
      have eP : dyN N P (nxX X) = P := by unfold dyN; rw [if_pos h50]
      rw [eP]
      obtain ⟨X2, a2, c2, d2, u10, u11, e2, q6, q7⟩ := ih (k + 1) (nxX X) a c P (.int (nI (nxX X % N 3))) (.int 0) (by omega) hX' hP hN e6 e7 e8
      refine ⟨X2, a2, c2, d2, u10, u11, ?_, q6, q7⟩
      have hbit : (P 8).testBit (nxX X % N 3) = true := by rw [e8 h50]; exact hWL h50 _ hb
      rw [← e2, hd0]
      rw [h50] at r5
      by_cases h7 : nxX X % 7 = 0
      · conv =>
          lhs
          simp only [zi215_105, zi215_105n, zi215_106, zi215_109, zi215_110, zi215_111, zi215_114, zi215_115, zi215_118, zi215_120, zi215_120n, zi215_121, zi215_124, zi215_125, zi215_126, zi215_127, zi215_128, zi215_129, zi215_131, zi215_131n, zi215_132, zi215_135, zi215_136, zi215_137, zi215_212, zi215_214, zi215_217, zi215_218, zi215_219, zi215_220, zi215_223, zi215_225, zi215_227, zi215_230, zi215_233, zi215_235, zi215_236, zi215_238, zi215_239, zi215_240, zi215_242, zi215_245, zi215_248, zcl1, zlow_0, zlow_1, zlow_2, zlow_3, zlow_4, zfree_0, zfree_i, zfree_r, zfree_n, zfree_d, zfree_f, zfree_s, if_true, if_false, Option.bind_some, Option.toList_some, Option.toList_none, List.cons_append, List.nil_append, List.set_cons_zero, List.set_cons_succ, Bool.false_eq_true, reduceIte, zsw_c, zsw_n, Nat.reduceAdd, List.length_cons, List.length_nil, Nat.reduceLT, decide_true, Bool.and_true, Bool.and_self, hM.r5, r5, show (nI 0 = 0) = True by decide, show (nI 0 ≤ 0) = True by decide, z7n, zmod7 hX', zcmp7, eq_true h7, sp_hasM8 hd8 (show nxX X % N 3 < 8 by omega), hbit, zb_t, z10, ix_p1]
      · conv =>
          lhs
          simp only [zi215_105, zi215_105n, zi215_106, zi215_109, zi215_110, zi215_111, zi215_114, zi215_115, zi215_118, zi215_120, zi215_120n, zi215_121, zi215_124, zi215_125, zi215_126, zi215_127, zi215_128, zi215_129, zi215_131, zi215_131n, zi215_132, zi215_135, zi215_136, zi215_137, zi215_212, zi215_214, zi215_217, zi215_218, zi215_219, zi215_220, zi215_223, zi215_225, zi215_227, zi215_230, zi215_233, zi215_235, zi215_236, zi215_238, zi215_239, zi215_240, zi215_242, zi215_245, zi215_248, zcl1, zlow_0, zlow_1, zlow_2, zlow_3, zlow_4, zfree_0, zfree_i, zfree_r, zfree_n, zfree_d, zfree_f, zfree_s, if_true, if_false, Option.bind_some, Option.toList_some, Option.toList_none, List.cons_append, List.nil_append, List.set_cons_zero, List.set_cons_succ, Bool.false_eq_true, reduceIte, zsw_c, zsw_n, Nat.reduceAdd, List.length_cons, List.length_nil, Nat.reduceLT, decide_true, Bool.and_true, Bool.and_self, hM.r5, r5, show (nI 0 = 0) = True by decide, show (nI 0 ≤ 0) = True by decide, z7n, zmod7 hX', zcmp7, eq_false h7, ix_p1]
    · have hw : nxX X % N 5 < N 5 := Nat.mod_lt _ (by omega)
      have hk' := hW.kf hw
      have n5 : (nI (N 5) = 0) = False := by rw [nI_z8 _ (by omega)]; exact eq_false h50
      have n5' : (nI (N 5) ≤ 0) = False := eq_false (by rw [show (0 : Int32) = nI 0 from rfl, nI_leP (by omega) (by omega)]; omega)
      -- the lift
      have lift : ∃ a1 c1, zrun zpp E 215 (105, [.ref 73, .int (nI nn), .int x2, .int x3, .long (lN (nxX X)), .retAddr 0, .int (nI (P 8)), .int (nI a), .int (nI c), .int (nI k), .int (nI (nxX X % N 3)), v11], [], h) = zrun zpp E 215 (212, [.ref 73, .int (nI nn), .int x2, .int x3, .long (lN (nxX X)), .retAddr 0, .int (nI (dy1 N P (nxX X) 8)), .int (nI a1), .int (nI c1), .int (nI k), .int (nI (nxX X % N 3)), .int (nI (nxX X % N 5))], [], h) ∧ dy1 N P (nxX X) 6 = N 6 + a1 ∧ dy1 N P (nxX X) 7 = N 7 + c1 := by
        cases hc : canN N (N (65 + 2 * (nxX X % N 5))) (N (66 + 2 * (nxX X % N 5))) (P 8) (nxX X % N 3)
        · have e1 : dy1 N P (nxX X) = P := by unfold dy1; rw [hc, if_neg (by decide)]
          rw [e1]
          refine ⟨a, c, ?_, e6, e7⟩
          conv =>
            lhs
            simp only [zi215_105, zi215_105n, zi215_106, zi215_109, zi215_110, zi215_111, zi215_114, zi215_115, zi215_118, zi215_120, zi215_120n, zi215_121, zi215_124, zi215_125, zi215_126, zi215_127, zi215_128, zi215_129, zi215_131, zi215_131n, zi215_132, zi215_135, zi215_136, zi215_137, zi215_140, zi215_140n, zi215_141, zi215_141n, zi215_142, zi215_144, zi215_147, zi215_147n, zi215_148, zi215_150, zi215_153, zi215_155, zi215_157, zi215_160, zcl1, zlow_0, zlow_1, zlow_2, zlow_3, zlow_4, zfree_0, zfree_i, zfree_r, zfree_n, zfree_d, zfree_f, zfree_s, if_true, if_false, Option.bind_some, Option.toList_some, Option.toList_none, List.cons_append, List.nil_append, List.set_cons_zero, List.set_cons_succ, Bool.false_eq_true, reduceIte, zsw_c, zsw_n, Nat.reduceAdd, hM.r5, r5, n5, n5', nI_l (show N 5 < 2 ^ 31 by omega), zlNn (show 0 < N 5 by omega) (show N 5 < 2 ^ 63 by omega), zmodB hX' (show 0 < N 5 by omega) (show N 5 < 2 ^ 31 by omega), lN_i, hM.1, m3, m4, m5, sp_kindOf hM hY (show nxX X % N 5 < 4 by omega), sp_forceOf hM hY (show nxX X % N 5 < 4 by omega), sp_can hM hY hW hd8 hb hk'.1 hk'.2, hc, zb_f, z00]
        · have e1 : dy1 N P (nxX X) = liftN P (N (65 + 2 * (nxX X % N 5))) (nxX X % N 3) := by unfold dy1; rw [hc, if_pos rfl]
          rw [e1]
          refine ⟨a + secK N (N (65 + 2 * (nxX X % N 5))) (N (9 + 2 * (nxX X % N 3))) (catN N (P 8) (nxX X % N 3)), c + falK (N (65 + 2 * (nxX X % N 5))) (catN N (P 8) (nxX X % N 3)), ?_, ?_, ?_⟩
          · rw [show (liftN P (N (65 + 2 * (nxX X % N 5))) (nxX X % N 3)) 8 = zclr (P 8) (nxX X % N 3) from rfl]
            conv =>
              lhs
              simp only [zi215_105, zi215_105n, zi215_106, zi215_109, zi215_110, zi215_111, zi215_114, zi215_115, zi215_118, zi215_120, zi215_120n, zi215_121, zi215_124, zi215_125, zi215_126, zi215_127, zi215_128, zi215_129, zi215_131, zi215_131n, zi215_132, zi215_135, zi215_136, zi215_137, zi215_140, zi215_140n, zi215_141, zi215_141n, zi215_142, zi215_144, zi215_147, zi215_147n, zi215_148, zi215_150, zi215_153, zi215_155, zi215_157, zi215_160, zi215_163, zi215_165, zi215_165n, zi215_166, zi215_166n, zi215_167, zi215_169, zi215_172, zi215_174, zi215_176, zi215_179, zi215_180, zi215_182, zi215_184, zi215_184n, zi215_185, zi215_185n, zi215_186, zi215_188, zi215_191, zi215_193, zi215_195, zi215_198, zi215_199, zi215_201, zi215_203, zi215_204, zi215_206, zi215_207, zi215_208, zi215_209, zi215_210, zcl1, zlow_0, zlow_1, zlow_2, zlow_3, zlow_4, zfree_0, zfree_i, zfree_r, zfree_n, zfree_d, zfree_f, zfree_s, if_true, if_false, Option.bind_some, Option.toList_some, Option.toList_none, List.cons_append, List.nil_append, List.set_cons_zero, List.set_cons_succ, Bool.false_eq_true, reduceIte, zsw_c, zsw_n, Nat.reduceAdd, hM.r5, r5, n5, n5', nI_l (show N 5 < 2 ^ 31 by omega), zlNn (show 0 < N 5 by omega) (show N 5 < 2 ^ 63 by omega), zmodB hX' (show 0 < N 5 by omega) (show N 5 < 2 ^ 31 by omega), lN_i, hM.1, m3, m4, m5, m6, m7, sp_kindOf hM hY (show nxX X % N 5 < 4 by omega), sp_forceOf hM hY (show nxX X % N 5 < 4 by omega), sp_can hM hY hW hd8 hb hk'.1 hk'.2, hc, zb_t, z10, sp_takesBy hM hY hW hd8 hb hk'.1, sp_fallsBy hM hY hW hd8 hb hk'.1, nI_add, (zclr_k _ hd8 _ (show nxX X % N 3 < 8 by omega)).1]
          · show P 6 + secK P _ (P (9 + 2 * (nxX X % N 3))) (catN P (P 8) (nxX X % N 3)) = _
            rw [hN.sec, hN.cat, hN (9 + 2 * (nxX X % N 3)) (by omega) (by omega) (by omega), e6, Nat.add_assoc]
          · show P 7 + falK _ (catN P (P 8) (nxX X % N 3)) = _
            rw [hN.cat, e7, Nat.add_assoc]
      obtain ⟨a1, c1, e1, l6, l7⟩ := lift
      have dd := w1.d8
      by_cases hf : nxX X % 7 = 0 ∧ (dy1 N P (nxX X) 8).testBit (nxX X % N 3) = false
      · have eP : dyN N P (nxX X) = fallN (dy1 N P (nxX X)) (nxX X % N 3) := by unfold dyN; rw [if_neg h50, if_pos hf]
        rw [eP] at w2 s2 ⊢
        obtain ⟨X2, a2, c2, d2, u10, u11, e2, q6, q7⟩ := ih (k + 1) (nxX X) a1 (c1 + 1) (fallN (dy1 N P (nxX X)) (nxX X % N 3)) (.int (nI (nxX X % N 3))) (.int (nI (nxX X % N 5))) (by omega) hX' w2 s2 l6 (by show dy1 N P (nxX X) 7 + 1 = _; rw [l7, Nat.add_assoc]) (fun z => absurd z h50)
        refine ⟨X2, a2, c2, d2, u10, u11, ?_, q6, q7⟩
        rw [← e2, hd0, e1, show (fallN (dy1 N P (nxX X)) (nxX X % N 3)) 8 = zput (dy1 N P (nxX X) 8) (nxX X % N 3) from rfl]
        conv =>
          lhs
          simp only [zi215_212, zi215_214, zi215_217, zi215_218, zi215_219, zi215_220, zi215_223, zi215_225, zi215_227, zi215_230, zi215_233, zi215_235, zi215_236, zi215_238, zi215_239, zi215_240, zi215_242, zi215_245, zi215_248, zcl1, zlow_0, zlow_1, zlow_2, zlow_3, zlow_4, zfree_0, zfree_i, zfree_r, zfree_n, zfree_d, zfree_f, zfree_s, if_true, if_false, Option.bind_some, Option.toList_some, Option.toList_none, List.cons_append, List.nil_append, List.set_cons_zero, List.set_cons_succ, Bool.false_eq_true, reduceIte, zsw_c, zsw_n, Nat.reduceAdd, List.length_cons, List.length_nil, Nat.reduceLT, decide_true, Bool.and_true, Bool.and_self, z7n, zmod7 hX', zcmp7, eq_true hf.1, sp_hasM8 dd (show nxX X % N 3 < 8 by omega), hf.2, zb_f, z00, (zput_k _ dd _ (show nxX X % N 3 < 8 by omega)).1, ix_p1]
      · have eP : dyN N P (nxX X) = dy1 N P (nxX X) := by unfold dyN; rw [if_neg h50, if_neg hf]
        rw [eP]
        obtain ⟨X2, a2, c2, d2, u10, u11, e2, q6, q7⟩ := ih (k + 1) (nxX X) a1 c1 (dy1 N P (nxX X)) (.int (nI (nxX X % N 3))) (.int (nI (nxX X % N 5))) (by omega) hX' w1 s1 l6 l7 (fun z => absurd z h50)
        refine ⟨X2, a2, c2, d2, u10, u11, ?_, q6, q7⟩
        rw [← e2, hd0, e1]
        by_cases h7 : nxX X % 7 = 0
        · have hbit : (dy1 N P (nxX X) 8).testBit (nxX X % N 3) = true := by
            cases hq : (dy1 N P (nxX X) 8).testBit (nxX X % N 3)
            · exact absurd ⟨h7, hq⟩ hf
            · rfl
          conv =>
            lhs
            simp only [zi215_212, zi215_214, zi215_217, zi215_218, zi215_219, zi215_220, zi215_223, zi215_225, zi215_227, zi215_230, zi215_233, zi215_235, zi215_236, zi215_238, zi215_239, zi215_240, zi215_242, zi215_245, zi215_248, zcl1, zlow_0, zlow_1, zlow_2, zlow_3, zlow_4, zfree_0, zfree_i, zfree_r, zfree_n, zfree_d, zfree_f, zfree_s, if_true, if_false, Option.bind_some, Option.toList_some, Option.toList_none, List.cons_append, List.nil_append, List.set_cons_zero, List.set_cons_succ, Bool.false_eq_true, reduceIte, zsw_c, zsw_n, Nat.reduceAdd, List.length_cons, List.length_nil, Nat.reduceLT, decide_true, Bool.and_true, Bool.and_self, z7n, zmod7 hX', zcmp7, eq_true h7, sp_hasM8 dd (show nxX X % N 3 < 8 by omega), hbit, zb_t, z10, ix_p1]
        · conv =>
            lhs
            simp only [zi215_212, zi215_214, zi215_217, zi215_218, zi215_219, zi215_220, zi215_223, zi215_225, zi215_227, zi215_230, zi215_233, zi215_235, zi215_236, zi215_238, zi215_239, zi215_240, zi215_242, zi215_245, zi215_248, zcl1, zlow_0, zlow_1, zlow_2, zlow_3, zlow_4, zfree_0, zfree_i, zfree_r, zfree_n, zfree_d, zfree_f, zfree_s, if_true, if_false, Option.bind_some, Option.toList_some, Option.toList_none, List.cons_append, List.nil_append, List.set_cons_zero, List.set_cons_succ, Bool.false_eq_true, reduceIte, zsw_c, zsw_n, Nat.reduceAdd, List.length_cons, List.length_nil, Nat.reduceLT, decide_true, Bool.and_true, Bool.and_self, z7n, zmod7 hX', zcmp7, eq_false h7, ix_p1]
theorem ok_drawn (hJ : J h n) {x z w : Int32} : OK E h n 117 215 [.int x, .int z, .int w] := by
  obtain ⟨y, s, v, sc, N, hJ, h1, hB⟩ := hJ
  have M1 := hJ.md.put 0 rfl (by omega) 0
  have w0 := hJ.md.st 0 rfl (by omega) 0
  have Y1 : MY (zpf h 73 0 (.int 0)) N := hJ.my.keep (zpf_o (by omega))
  have hy := hJ.ys
  unfold yys at hy
  have c0 : zsel 9 [9, 70] = some 70 := rfl
  have c5 : zsel 9 [9, 69] = some 69 := rfl
  have c6 : zsel 10 [10, 133] = some 133 := rfl
  have m0 : zsel 11 [11, 172] = some 172 := rfl
  have i1 := fun (H : zH) => sp_inI (E := E) (h := H) (u := x.toInt64) (v := 0) (w := 60) (x := x) (a := 0) (b := 60) rfl (by decide) (by decide)
  have i2 := fun (H : zH) => sp_inI (E := E) (h := H) (u := z.toInt64) (v := 1) (w := 999999) (x := z) (a := 1) (b := 999999) rfl (by decide) (by decide)
  have i3 := fun (H : zH) => sp_inI (E := E) (h := H) (u := w.toInt64) (v := 0) (w := 1) (x := w) (a := 0) (b := 1) rfl (by decide) (by decide)
  rcases hJ.wg.cs with ⟨d1, d2, -⟩ | ⟨d1, d2, hW, hWL⟩
  · refine ⟨(-1000002), h, zpf h 73 0 (.int 0), ?_, ?_, hJ.q h1 hB⟩
    · simp only [ze117, zi117_0, zi117_0n, zi117_1, zi117_4, zi117_7, zi117_10, zi117_12 (sk := []), zi117_13, zi117_14, zi117_15, zi117_17, zi117_20, zi117_23, zi117_24, zi117_25, zi117_28, zi117_31, zi117_34, zi117_35, zi117_36, zi117_37, zi117_40, zi117_43, zi117_45 (sk := []), zcl1, zlow_0, zlow_1, zlow_2, zlow_3, zlow_4, zfree_0, zfree_i, zfree_r, zfree_n, zfree_d, zfree_f, zfree_s, if_true, if_false, Option.bind_some, Option.toList_some, Option.toList_none, List.cons_append, List.nil_append, List.set_cons_zero, List.set_cons_succ, Bool.false_eq_true, reduceIte, zsw_c, zsw_n, Nat.reduceAdd, hJ.co.r7, hJ.yn.cls, c0, sp_isRead hJ.wg.h3 hJ.yn, d1, zb_f, z00]
    · simp only [ze215, zi215_0, zi215_0n, zi215_1, zi215_2, zi215_5, zi215_5n, zi215_6, zi215_9, zi215_12, zi215_14 (sk := []), zi215_15, zi215_16, zi215_17, zi215_18, zi215_21, zi215_24, zi215_27, zi215_28, zi215_29, zi215_30, zi215_33, zi215_36, zi215_39, zi215_40, zi215_41, zi215_42, zi215_43, zi215_46, zi215_49, zi215_51 (sk := []), zcl1, zlow_0, zlow_1, zlow_2, zlow_3, zlow_4, zfree_0, zfree_i, zfree_r, zfree_n, zfree_d, zfree_f, zfree_s, if_true, if_false, Option.bind_some, Option.toList_some, Option.toList_none, List.cons_append, List.nil_append, List.set_cons_zero, List.set_cons_succ, Bool.false_eq_true, reduceIte, zsw_c, zsw_n, Nat.reduceAdd, w0, M1.1, m0, sp_isThere M1 Y1 hJ.wg.h0, d2, zb_f, z00]
  rcases zbt_or x 0 60 (by omega) (by omega) with hx | ⟨nn, -, hn, rfl, hx⟩
  · have hx : (decide (0 ≤ x) && decide (x ≤ 60)) = false := hx
    refine ⟨(-1000001), h, zpf h 73 0 (.int 0), ?_, ?_, hJ.q h1 hB⟩
    · simp only [ze117, zi117_0, zi117_0n, zi117_1, zi117_4, zi117_7, zi117_10, zi117_12 (sk := []), zi117_13, zi117_14, zi117_15, zi117_17, zi117_20, zi117_23, zi117_24, zi117_25, zi117_28, zi117_31, zi117_34, zi117_35, zi117_36, zi117_37, zi117_40, zi117_43, zi117_45 (sk := []), zcl1, zlow_0, zlow_1, zlow_2, zlow_3, zlow_4, zfree_0, zfree_i, zfree_r, zfree_n, zfree_d, zfree_f, zfree_s, if_true, if_false, Option.bind_some, Option.toList_some, Option.toList_none, List.cons_append, List.nil_append, List.set_cons_zero, List.set_cons_succ, Bool.false_eq_true, reduceIte, zsw_c, zsw_n, Nat.reduceAdd, hJ.co.r7, hJ.yn.cls, c0, sp_isRead hJ.wg.h3 hJ.yn, d1, zb_t, z10, sp_within, hx, zb_f, z00]
    · simp only [ze215, zi215_0, zi215_0n, zi215_1, zi215_2, zi215_5, zi215_5n, zi215_6, zi215_9, zi215_12, zi215_14 (sk := []), zi215_15, zi215_16, zi215_17, zi215_18, zi215_21, zi215_24, zi215_27, zi215_28, zi215_29, zi215_30, zi215_33, zi215_36, zi215_39, zi215_40, zi215_41, zi215_42, zi215_43, zi215_46, zi215_49, zi215_51 (sk := []), zcl1, zlow_0, zlow_1, zlow_2, zlow_3, zlow_4, zfree_0, zfree_i, zfree_r, zfree_n, zfree_d, zfree_f, zfree_s, if_true, if_false, Option.bind_some, Option.toList_some, Option.toList_none, List.cons_append, List.nil_append, List.set_cons_zero, List.set_cons_succ, Bool.false_eq_true, reduceIte, zsw_c, zsw_n, Nat.reduceAdd, w0, M1.1, m0, sp_isThere M1 Y1 hJ.wg.h0, d2, zb_t, z10, i1, hx, zb_f, z00]
  have hx : (decide (0 ≤ nI nn) && decide (nI nn ≤ 60)) = true := hx
  rcases zbt_or z 1 999999 (by omega) (by omega) with hz | ⟨sd, hs1, hs2, rfl, hz⟩
  · have hz : (decide (1 ≤ z) && decide (z ≤ 999999)) = false := hz
    refine ⟨(-1000001), h, zpf h 73 0 (.int 0), ?_, ?_, hJ.q h1 hB⟩
    · simp only [ze117, zi117_0, zi117_0n, zi117_1, zi117_4, zi117_7, zi117_10, zi117_12 (sk := []), zi117_13, zi117_14, zi117_15, zi117_17, zi117_20, zi117_23, zi117_24, zi117_25, zi117_28, zi117_31, zi117_34, zi117_35, zi117_36, zi117_37, zi117_40, zi117_43, zi117_45 (sk := []), zcl1, zlow_0, zlow_1, zlow_2, zlow_3, zlow_4, zfree_0, zfree_i, zfree_r, zfree_n, zfree_d, zfree_f, zfree_s, if_true, if_false, Option.bind_some, Option.toList_some, Option.toList_none, List.cons_append, List.nil_append, List.set_cons_zero, List.set_cons_succ, Bool.false_eq_true, reduceIte, zsw_c, zsw_n, Nat.reduceAdd, hJ.co.r7, hJ.yn.cls, c0, sp_isRead hJ.wg.h3 hJ.yn, d1, zb_t, z10, sp_within, hx, hz, zb_f, z00]
    · simp only [ze215, zi215_0, zi215_0n, zi215_1, zi215_2, zi215_5, zi215_5n, zi215_6, zi215_9, zi215_12, zi215_14 (sk := []), zi215_15, zi215_16, zi215_17, zi215_18, zi215_21, zi215_24, zi215_27, zi215_28, zi215_29, zi215_30, zi215_33, zi215_36, zi215_39, zi215_40, zi215_41, zi215_42, zi215_43, zi215_46, zi215_49, zi215_51 (sk := []), zcl1, zlow_0, zlow_1, zlow_2, zlow_3, zlow_4, zfree_0, zfree_i, zfree_r, zfree_n, zfree_d, zfree_f, zfree_s, if_true, if_false, Option.bind_some, Option.toList_some, Option.toList_none, List.cons_append, List.nil_append, List.set_cons_zero, List.set_cons_succ, Bool.false_eq_true, reduceIte, zsw_c, zsw_n, Nat.reduceAdd, w0, M1.1, m0, sp_isThere M1 Y1 hJ.wg.h0, d2, zb_t, z10, i1, hx, i2, hz, zb_f, z00]
  have hz : (decide (1 ≤ nI sd) && decide (nI sd ≤ 999999)) = true := hz
  rcases zbt_or w 0 1 (by omega) (by omega) with hw | ⟨j, -, hj, rfl, hw⟩
  · have hw : (decide (0 ≤ w) && decide (w ≤ 1)) = false := hw
    refine ⟨(-1000001), h, zpf h 73 0 (.int 0), ?_, ?_, hJ.q h1 hB⟩
    · simp only [ze117, zi117_0, zi117_0n, zi117_1, zi117_4, zi117_7, zi117_10, zi117_12 (sk := []), zi117_13, zi117_14, zi117_15, zi117_17, zi117_20, zi117_23, zi117_24, zi117_25, zi117_28, zi117_31, zi117_34, zi117_35, zi117_36, zi117_37, zi117_40, zi117_43, zi117_45 (sk := []), zcl1, zlow_0, zlow_1, zlow_2, zlow_3, zlow_4, zfree_0, zfree_i, zfree_r, zfree_n, zfree_d, zfree_f, zfree_s, if_true, if_false, Option.bind_some, Option.toList_some, Option.toList_none, List.cons_append, List.nil_append, List.set_cons_zero, List.set_cons_succ, Bool.false_eq_true, reduceIte, zsw_c, zsw_n, Nat.reduceAdd, hJ.co.r7, hJ.yn.cls, c0, sp_isRead hJ.wg.h3 hJ.yn, d1, zb_t, z10, sp_within, hx, hz, hw, zb_f, z00]
    · simp only [ze215, zi215_0, zi215_0n, zi215_1, zi215_2, zi215_5, zi215_5n, zi215_6, zi215_9, zi215_12, zi215_14 (sk := []), zi215_15, zi215_16, zi215_17, zi215_18, zi215_21, zi215_24, zi215_27, zi215_28, zi215_29, zi215_30, zi215_33, zi215_36, zi215_39, zi215_40, zi215_41, zi215_42, zi215_43, zi215_46, zi215_49, zi215_51 (sk := []), zcl1, zlow_0, zlow_1, zlow_2, zlow_3, zlow_4, zfree_0, zfree_i, zfree_r, zfree_n, zfree_d, zfree_f, zfree_s, if_true, if_false, Option.bind_some, Option.toList_some, Option.toList_none, List.cons_append, List.nil_append, List.set_cons_zero, List.set_cons_succ, Bool.false_eq_true, reduceIte, zsw_c, zsw_n, Nat.reduceAdd, w0, M1.1, m0, sp_isThere M1 Y1 hJ.wg.h0, d2, zb_t, z10, i1, hx, i2, hz, i3, hw, zb_f, z00]
  have hw : (decide (0 ≤ nI j) && decide (nI j ≤ 1)) = true := hw
  obtain ⟨hb, eb, zbm, Yb⟩ := sp_becomeN (E := E) hJ.sp hJ.yc (by unfold far; omega) (by omega) hJ.wg.h5
  have Cb : CO hb y s v := hJ.co.keep (zbm.2 0 (by unfold yP; omega))
  have Yy : YC hb y N := hJ.yc.keep (zbm.fr (fun a e => by unfold yP at e; omega)) (by omega) (fun a h1 h2 => by unfold yP; omega)
  obtain ⟨hq, X', eq, Yq, zq⟩ := drwC (E := E) (N := N) (x2 := nI sd) (x3 := nI j) (nn := nn) (by omega) hn hW nn 0 sd N hb (by omega) (by omega) Cb hW (fun _ _ _ _ => rfl) Yb.1
  have zT : zsm (yP s) h hq := zbm.tr (zq.wk (fun a e => by cases e; exact ⟨by omega, by omega⟩))
  have Cq : CO hq y s v := Cb.keep (zq.2 0 (by omega))
  have Yyq : YN hq y N := Yy.1.keep (fun a h1 h2 => zq.2 a (by omega)) (fun a h1 c e => (zq.2 a (by omega)).trans e)
  have Spq : SP hq s := YC.sp (N := dnN N nn sd N) ⟨Yq, Yb.2.sm zq (by omega) (fun a e => by cases e; omega) (by omega)⟩
  have Jq := hJ.spare (zT.fr (fun a e => by unfold yP at e; omega)) Spq
  have Mf := Jq.md
  have v0 := Mf.st 0 rfl (by omega) 0
  have N1 := Mf.put 0 rfl (by omega) 0
  have Z1 : MY (zpf hq 73 0 (.int 0)) N := Jq.my.keep (zpf_o (by omega))
  obtain ⟨X2, a', c', d', u10, u11, em, q6, q7⟩ := drwM (E := E) (x2 := nI sd) (x3 := nI j) hn N1 Z1 hW hWL nn 0 sd 0 0 N (.retAddr 0) (.retAddr 0) (by omega) (by omega) hW (fun _ _ _ _ => rfl) rfl rfl (fun _ => rfl)
  have e0 : zcall zpp E 117 [.ref 0, .int (nI nn), .int (nI sd), .int (nI j)] h = zrun zpp E 117 (94, [.ref 0, .int (nI nn), .int (nI sd), .int (nI j), .long (lN X'), .retAddr 0, .int (nI nn)], [], hq) := by
    rw [← eq]
    conv =>
      lhs
      simp only [ze117, zi117_0, zi117_0n, zi117_1, zi117_4, zi117_7, zi117_10, zi117_12 (sk := []), zi117_13, zi117_14, zi117_15, zi117_17, zi117_20, zi117_23, zi117_24, zi117_25, zi117_28, zi117_31, zi117_34, zi117_35, zi117_36, zi117_37, zi117_40, zi117_43, zi117_45 (sk := []), zi117_46, zi117_46n, zi117_47, zi117_50, zi117_50n, zi117_51, zi117_54, zi117_57, zi117_58, zi117_59, zi117_61, zi117_62, zcl1, zlow_0, zlow_1, zlow_2, zlow_3, zlow_4, zfree_0, zfree_i, zfree_r, zfree_n, zfree_d, zfree_f, zfree_s, if_true, if_false, Option.bind_some, Option.toList_some, Option.toList_none, List.cons_append, List.nil_append, List.set_cons_zero, List.set_cons_succ, Bool.false_eq_true, reduceIte, zsw_c, zsw_n, Nat.reduceAdd, List.length_cons, List.length_nil, Nat.reduceLT, decide_true, Bool.and_true, Bool.and_self, hJ.co.r7, hJ.yn.cls, c0, sp_isRead hJ.wg.h3 hJ.yn, d1, zb_t, z10, sp_within, hx, hz, hw, hJ.co.r8, (show zcls h s = some 9 from by obtain ⟨⟨F, A, cr, Ya⟩, -⟩ := hJ.sp; exact Ya.1), c5, eb, nI_l (show sd < 2 ^ 31 by omega)]
    rfl
  have e1 : zcall zpp E 215 [.ref 73, .int (nI nn), .int (nI sd), .int (nI j)] hq = zrun zpp E 215 (251, [.ref 73, .int (nI nn), .int (nI sd), .int (nI j), .long (lN X2), .retAddr 0, d', .int (nI a'), .int (nI c'), .int (nI nn), u10, u11], [], zpf hq 73 0 (.int 0)) := by
    rw [← em]
    conv =>
      lhs
      simp only [ze215, zi215_0, zi215_0n, zi215_1, zi215_2, zi215_5, zi215_5n, zi215_6, zi215_9, zi215_12, zi215_14 (sk := []), zi215_15, zi215_16, zi215_17, zi215_18, zi215_21, zi215_24, zi215_27, zi215_28, zi215_29, zi215_30, zi215_33, zi215_36, zi215_39, zi215_40, zi215_41, zi215_42, zi215_43, zi215_46, zcl1, zlow_0, zlow_1, zlow_2, zlow_3, zlow_4, zfree_0, zfree_i, zfree_r, zfree_n, zfree_d, zfree_f, zfree_s, if_true, if_false, Option.bind_some, Option.toList_some, Option.toList_none, List.cons_append, List.nil_append, List.set_cons_zero, List.set_cons_succ, Bool.false_eq_true, reduceIte, zsw_c, zsw_n, Nat.reduceAdd, v0, N1.1, m0, sp_isThere N1 Z1 hJ.wg.h0, d2, zb_t, z10, i1, hx, i2, hz, i3, hw]
    conv =>
      lhs
      simp only [zi215_52, zi215_53, zi215_54, zi215_56, zi215_56n, zi215_57, zi215_60, zi215_62, zi215_63, zi215_65, zi215_66, zi215_68, zi215_69, zi215_71, zi215_72, zcl1, zlow_0, zlow_1, zlow_2, zlow_3, zlow_4, zfree_0, zfree_i, zfree_r, zfree_n, zfree_d, zfree_f, zfree_s, if_true, if_false, Option.bind_some, Option.toList_some, Option.toList_none, List.cons_append, List.nil_append, List.set_cons_zero, List.set_cons_succ, Bool.false_eq_true, reduceIte, zsw_c, zsw_n, Nat.reduceAdd, List.length_cons, List.length_nil, Nat.reduceLT, decide_true, Bool.and_true, Bool.and_self, nI_l (show sd < 2 ^ 31 by omega), N1.r5, Z1.c 8 (by decide) (x := 8) rfl]
    rfl
  have fin : J (zpf hq 73 0 (.int 0)) (n + 1) := ⟨y, s, v, _, N, Jq.mi 0 rfl (by omega) 0 (by omega) (by omega) (by omega) (by omega), h1, ((hB.sm zT).sm zsm_pf).up (by omega)⟩
  obtain rfl | rfl : j = 0 ∨ j = 1 := by omega
  · refine ⟨(nI a'), hq, _, ?_, ?_, fin⟩
    · rw [e0]
      have s0 := sp_spent0 (E := E) Cq Yyq Yq q6
      have s0 : zcall zpp E 133 [.ref 0, .int (nI 0)] hq = some (some (.int (nI a')), hq) := s0
      simp only [zi117_94, zi117_94n, zi117_95, zi117_96, zi117_99 (sk := []), zcl1, zlow_0, zlow_1, zlow_2, zlow_3, zlow_4, zfree_0, zfree_i, zfree_r, zfree_n, zfree_d, zfree_f, zfree_s, if_true, if_false, Option.bind_some, Option.toList_some, Option.toList_none, List.cons_append, List.nil_append, List.set_cons_zero, List.set_cons_succ, Bool.false_eq_true, reduceIte, zsw_c, zsw_n, Nat.reduceAdd, Cq.1, c6, s0]
    · rw [e1]
      simp only [zi215_251, zi215_252, zi215_255, zi215_257, zi215_260, zi215_262 (sk := []), zcl1, zlow_0, zlow_1, zlow_2, zlow_3, zlow_4, zfree_0, zfree_i, zfree_r, zfree_n, zfree_d, zfree_f, zfree_s, if_true, if_false, Option.bind_some, Option.toList_some, Option.toList_none, List.cons_append, List.nil_append, List.set_cons_zero, List.set_cons_succ, Bool.false_eq_true, reduceIte, zsw_c, zsw_n, Nat.reduceAdd, show (nI 0 = 0) = True by decide]
  · refine ⟨(nI c'), hq, _, ?_, ?_, fin⟩
    · rw [e0]
      have s0 := sp_spent1 (E := E) Cq Yyq Yq q7
      have s0 : zcall zpp E 133 [.ref 0, .int (nI 1)] hq = some (some (.int (nI c')), hq) := s0
      simp only [zi117_94, zi117_94n, zi117_95, zi117_96, zi117_99 (sk := []), zcl1, zlow_0, zlow_1, zlow_2, zlow_3, zlow_4, zfree_0, zfree_i, zfree_r, zfree_n, zfree_d, zfree_f, zfree_s, if_true, if_false, Option.bind_some, Option.toList_some, Option.toList_none, List.cons_append, List.nil_append, List.set_cons_zero, List.set_cons_succ, Bool.false_eq_true, reduceIte, zsw_c, zsw_n, Nat.reduceAdd, Cq.1, c6, s0]
    · rw [e1]
      simp only [zi215_251, zi215_252, zi215_255, zi215_257, zi215_260, zi215_262 (sk := []), zcl1, zlow_0, zlow_1, zlow_2, zlow_3, zlow_4, zfree_0, zfree_i, zfree_r, zfree_n, zfree_d, zfree_f, zfree_s, if_true, if_false, Option.bind_some, Option.toList_some, Option.toList_none, List.cons_append, List.nil_append, List.set_cons_zero, List.set_cons_succ, Bool.false_eq_true, reduceIte, zsw_c, zsw_n, Nat.reduceAdd, show (nI 1 = 0) = False by decide]
end DRW
