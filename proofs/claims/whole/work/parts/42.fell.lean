/-! FREE ONES, AND HOW THEY FELL -/
def freeF (N : Nat → Nat) (d : Nat) : Nat → Nat
  | 0 => 0
  | n + 1 => if freeN N d n = true then zput (freeF N d n) n else freeF N d n
theorem freeF_lt {N : Nat → Nat} {d : Nat} : ∀ {n : Nat}, n ≤ 8 → freeF N d n < 256
  | 0, _ => Nat.zero_lt_succ _
  | n + 1, h => by
    unfold freeF
    split
    · exact zput_lt (freeF_lt (by omega)) (by omega)
    · exact freeF_lt (by omega)
theorem sp_freeOnes {E : zE} {h : zH} {y : Nat} {N : Nat → Nat} (hW : WF N) (hY : YN h y N) : zcall zpp E 78 [.ref y] h = some (some (.int (nI (freeF N (N 8) (N 3)))), h) := by
  have h3 := hW.2.2.2.1.2
  have hs : zsel 9 [9, 77] = some 77 := rfl
  have loop : ∀ (n k : Nat), k + n = N 3 → zrun zpp E 78 (4, [.ref y, .int (nI (freeF N (N 8) k)), .int (nI k)], [], h) = some (some (.int (nI (freeF N (N 8) (N 3)))), h) := by
    intro n
    induction n with
    | zero =>
      intro k hk
      simp only [zi78_4, zi78_5, zi78_5n, zi78_6, zcl1, zlow_0, zlow_1, zlow_2, zlow_3, zlow_4, zfree_0, zfree_i, zfree_r, zfree_n, zfree_d, zfree_f, zfree_s, if_true, if_false, Option.bind_some, Option.toList_some, Option.toList_none, List.cons_append, List.nil_append, List.set_cons_zero, List.set_cons_succ, Bool.false_eq_true, reduceIte, zsw_c, zsw_n, Nat.reduceAdd, hY.f3]
      rw [zi78_9, if_pos (by rw [nI_leP (by omega) (by omega)]; omega)]
      simp only [zi78_40, zi78_41 (sk := []), zcl1, zlow_0, zlow_1, zlow_2, zlow_3, zlow_4, zfree_0, zfree_i, zfree_r, zfree_n, zfree_d, zfree_f, zfree_s, if_true, if_false, Option.bind_some, Option.toList_some, Option.toList_none, List.cons_append, List.nil_append, List.set_cons_zero, List.set_cons_succ, Bool.false_eq_true, reduceIte, zsw_c, zsw_n, Nat.reduceAdd]
      rw [show k = N 3 by omega]
    | succ n ih =>
      intro k hk
      simp only [zi78_4, zi78_5, zi78_5n, zi78_6, zcl1, zlow_0, zlow_1, zlow_2, zlow_3, zlow_4, zfree_0, zfree_i, zfree_r, zfree_n, zfree_d, zfree_f, zfree_s, if_true, if_false, Option.bind_some, Option.toList_some, Option.toList_none, List.cons_append, List.nil_append, List.set_cons_zero, List.set_cons_succ, Bool.false_eq_true, reduceIte, zsw_c, zsw_n, Nat.reduceAdd, hY.f3]
      rw [zi78_9, if_neg (by rw [nI_leP (by omega) (by omega)]; omega)]
      have ih1 := ih (k + 1) (by omega)
      rw [show freeF N (N 8) (k + 1) = (if freeN N (N 8) k = true then zput (freeF N (N 8) k) k else freeF N (N 8) k) from rfl] at ih1
      simp only [zi78_12, zi78_13, zi78_13n, zi78_14, zi78_15, zi78_15n, zi78_16, zi78_19, zi78_22, zi78_25, zi78_26, zi78_27, zi78_28, zi78_31, zi78_32, zi78_33, zi78_34, zi78_37, zcl1, zlow_0, zlow_1, zlow_2, zlow_3, zlow_4, zfree_0, zfree_i, zfree_r, zfree_n, zfree_d, zfree_f, zfree_s, if_true, if_false, Option.bind_some, Option.toList_some, Option.toList_none, List.cons_append, List.nil_append, List.set_cons_zero, List.set_cons_succ, Bool.false_eq_true, reduceIte, zsw_c, zsw_n, Nat.reduceAdd, hY.f15, hY.cls, hs, sp_isFree hW hY hW.d8 (show k < N 3 by omega), zb_0, (zput_k _ (freeF_lt (show k ≤ 8 by omega)) k (by omega)).1, zor_0, ix_p1]
      cases hq : freeN N (N 8) k
      · rw [hq] at ih1
        exact ih1
      · rw [hq] at ih1
        exact ih1
  simp only [ze78, zi78_0, zi78_1, zi78_2, zi78_3, zcl1, zlow_0, zlow_1, zlow_2, zlow_3, zlow_4, zfree_0, zfree_i, zfree_r, zfree_n, zfree_d, zfree_f, zfree_s, if_true, if_false, Option.bind_some, Option.toList_some, Option.toList_none, List.cons_append, List.nil_append, List.set_cons_zero, List.set_cons_succ, Bool.false_eq_true, reduceIte, zsw_c, zsw_n, Nat.reduceAdd]
  exact loop (N 3) 0 (by omega)
theorem sp_freeOf {E : zE} {h : zH} {s : Nat → Int32} {N : Nat → Nat} {d : Nat} (hM : MdO h s) (hY : MY h N) (hW : WF N) (hd : d < 256) : zcall zpp E 198 [.ref 73, .int (nI d)] h = some (some (.int (nI (freeF N d (N 3)))), h) := by
  have h3 := hW.2.2.2.1.2
  have hs : zsel 11 [11, 184] = some 184 := rfl
  have loop : ∀ (n k : Nat), k + n = N 3 → zrun zpp E 198 (4, [.ref 73, .int (nI d), .int (nI (freeF N d k)), .int (nI k)], [], h) = some (some (.int (nI (freeF N d (N 3)))), h) := by
    intro n
    induction n with
    | zero =>
      intro k hk
      simp only [zi198_4, zi198_5, zi198_5n, zi198_6, zi198_9, zi198_10, zcl1, zlow_0, zlow_1, zlow_2, zlow_3, zlow_4, zfree_0, zfree_i, zfree_r, zfree_n, zfree_d, zfree_f, zfree_s, if_true, if_false, Option.bind_some, Option.toList_some, Option.toList_none, List.cons_append, List.nil_append, List.set_cons_zero, List.set_cons_succ, Bool.false_eq_true, reduceIte, zsw_c, zsw_n, Nat.reduceAdd, hM.r5, hY.c 3 (by decide) (x := 3) rfl]
      rw [zi198_11, if_pos (by rw [nI_leP (by omega) (by omega)]; omega)]
      simp only [zi198_39, zi198_40 (sk := []), zcl1, zlow_0, zlow_1, zlow_2, zlow_3, zlow_4, zfree_0, zfree_i, zfree_r, zfree_n, zfree_d, zfree_f, zfree_s, if_true, if_false, Option.bind_some, Option.toList_some, Option.toList_none, List.cons_append, List.nil_append, List.set_cons_zero, List.set_cons_succ, Bool.false_eq_true, reduceIte, zsw_c, zsw_n, Nat.reduceAdd]
      rw [show k = N 3 by omega]
    | succ n ih =>
      intro k hk
      simp only [zi198_4, zi198_5, zi198_5n, zi198_6, zi198_9, zi198_10, zcl1, zlow_0, zlow_1, zlow_2, zlow_3, zlow_4, zfree_0, zfree_i, zfree_r, zfree_n, zfree_d, zfree_f, zfree_s, if_true, if_false, Option.bind_some, Option.toList_some, Option.toList_none, List.cons_append, List.nil_append, List.set_cons_zero, List.set_cons_succ, Bool.false_eq_true, reduceIte, zsw_c, zsw_n, Nat.reduceAdd, hM.r5, hY.c 3 (by decide) (x := 3) rfl]
      rw [zi198_11, if_neg (by rw [nI_leP (by omega) (by omega)]; omega)]
      have ih1 := ih (k + 1) (by omega)
      rw [show freeF N d (k + 1) = (if freeN N d k = true then zput (freeF N d k) k else freeF N d k) from rfl] at ih1
      simp only [zi198_14, zi198_15, zi198_15n, zi198_16, zi198_17, zi198_18, zi198_21, zi198_24, zi198_25, zi198_26, zi198_27, zi198_30, zi198_31, zi198_32, zi198_33, zi198_36, zcl1, zlow_0, zlow_1, zlow_2, zlow_3, zlow_4, zfree_0, zfree_i, zfree_r, zfree_n, zfree_d, zfree_f, zfree_s, if_true, if_false, Option.bind_some, Option.toList_some, Option.toList_none, List.cons_append, List.nil_append, List.set_cons_zero, List.set_cons_succ, Bool.false_eq_true, reduceIte, zsw_c, zsw_n, Nat.reduceAdd, hM.1, hs, sp_isFreeM hM hY hW hd (show k < N 3 by omega), zb_0, (zput_k _ (freeF_lt (show k ≤ 8 by omega)) k (by omega)).1, zor_0, ix_p1]
      cases hq : freeN N d k
      · rw [hq] at ih1
        exact ih1
      · rw [hq] at ih1
        exact ih1
  simp only [ze198, zi198_0, zi198_1, zi198_2, zi198_3, zcl1, zlow_0, zlow_1, zlow_2, zlow_3, zlow_4, zfree_0, zfree_i, zfree_r, zfree_n, zfree_d, zfree_f, zfree_s, if_true, if_false, Option.bind_some, Option.toList_some, Option.toList_none, List.cons_append, List.nil_append, List.set_cons_zero, List.set_cons_succ, Bool.false_eq_true, reduceIte, zsw_c, zsw_n, Nat.reduceAdd]
  exact loop (N 3) 0 (by omega)
/-- to the right, from p on -/
def rgt (N : Nat → Nat) : Nat → Nat → Nat → Nat
  | s, _, 0 => s
  | s, p, n + 1 => if N (10 + 2 * (p - 1)) ≤ N 0 then rgt N (zput s p) (p + 1) n else s
/-- to the left, below p -/
def lft (N : Nat → Nat) : Nat → Nat → Nat
  | s, 0 => s
  | s, p + 1 => if N (10 + 2 * p) ≤ N 0 then lft N (zput s p) p else s
def fellN (N : Nat → Nat) (b w : Nat) : Nat := if w = 1 then rgt N (2 ^ b) (b + 1) (N 3 - (b + 1)) else lft N (2 ^ b) b
theorem ix_m1 {p : Nat} (h : 1 ≤ p) : nI p - 1 = nI (p - 1) := pk_sub (b := 1) h
theorem zpow_lt : ∀ b, b < 8 → 2 ^ b < 256 := by decide
theorem sp_goDown {E : zE} {h : zH} {y b w : Nat} {N : Nat → Nat} (hW : WF N) (hY : YN h y N) (hb : b < N 3) (hw : w ≤ 1) : zcall zpp E 87 [.ref y, .int (nI b), .int (nI w)] h = some (some (.int (nI (fellN N b w))), h) := by
  have h3 := hW.2.2.2.1.2
  have h0 := hW.1.2
  have hg := fun k hk => (hW.2.2.2.2.2.2.2.1 k hk).2.2
  have right : ∀ (n p s : Nat) (x : Int32), p + n = N 3 → 1 ≤ p → s < 256 → zrun zpp E 87 (14, [.ref y, .int (nI b), .int x, .int (nI s), .int (nI p)], [], h) = some (some (.int (nI (rgt N s p n))), h) := by
    intro n
    induction n with
    | zero =>
      intro p s x hp _ _
      simp only [zi87_14, zi87_16, zi87_16n, zi87_17, zcl1, zlow_0, zlow_1, zlow_2, zlow_3, zlow_4, zfree_0, zfree_i, zfree_r, zfree_n, zfree_d, zfree_f, zfree_s, if_true, if_false, Option.bind_some, Option.toList_some, Option.toList_none, List.cons_append, List.nil_append, List.set_cons_zero, List.set_cons_succ, Bool.false_eq_true, reduceIte, zsw_c, zsw_n, Nat.reduceAdd, hY.f3]
      rw [zi87_20, if_pos (by rw [nI_leP (by omega) (by omega)]; omega)]
      simp only [zi87_52, zi87_92, zi87_93 (sk := []), zcl1, zlow_0, zlow_1, zlow_2, zlow_3, zlow_4, zfree_0, zfree_i, zfree_r, zfree_n, zfree_d, zfree_f, zfree_s, if_true, if_false, Option.bind_some, Option.toList_some, Option.toList_none, List.cons_append, List.nil_append, List.set_cons_zero, List.set_cons_succ, Bool.false_eq_true, reduceIte, zsw_c, zsw_n, Nat.reduceAdd]
      rfl
    | succ n ih =>
      intro p s x hp h1 hs
      simp only [zi87_14, zi87_16, zi87_16n, zi87_17, zcl1, zlow_0, zlow_1, zlow_2, zlow_3, zlow_4, zfree_0, zfree_i, zfree_r, zfree_n, zfree_d, zfree_f, zfree_s, if_true, if_false, Option.bind_some, Option.toList_some, Option.toList_none, List.cons_append, List.nil_append, List.set_cons_zero, List.set_cons_succ, Bool.false_eq_true, reduceIte, zsw_c, zsw_n, Nat.reduceAdd, hY.f3]
      rw [zi87_20, if_neg (by rw [nI_leP (by omega) (by omega)]; omega)]
      have hgp := hg (p - 1) (by omega)
      simp only [zi87_23, zi87_23n, zi87_24, zi87_27, zi87_29, zi87_30, zi87_31, zi87_32, zi87_32n, zi87_33, zi87_36, zi87_39, zi87_40, zi87_41, zi87_43, zi87_44, zi87_45, zi87_46, zi87_49, zi87_52, zi87_92, zi87_93 (sk := []), zcl1, zlow_0, zlow_1, zlow_2, zlow_3, zlow_4, zfree_0, zfree_i, zfree_r, zfree_n, zfree_d, zfree_f, zfree_s, if_true, if_false, Option.bind_some, Option.toList_some, Option.toList_none, List.cons_append, List.nil_append, List.set_cons_zero, List.set_cons_succ, Bool.false_eq_true, reduceIte, zsw_c, zsw_n, Nat.reduceAdd, hY.r7, ix_m1 h1, hY.g (show p - 1 < N 3 by omega) h3, hY.f0, nI_ltP (show N 0 < 2 ^ 31 by omega) (show N (10 + 2 * (p - 1)) < 2 ^ 31 by omega), (zput_k s hs p (by omega)).1, ix_p1]
      unfold rgt
      by_cases c : N (10 + 2 * (p - 1)) ≤ N 0
      · rw [if_neg (by omega), if_pos c]
        exact ih (p + 1) (zput s p) x (by omega) (by omega) (zput_lt hs (by omega))
      · rw [if_pos (by omega), if_neg c]
  have left : ∀ (p s : Nat) (x v : Int32), p ≤ b → s < 256 → v + 1 = nI p → zrun zpp E 87 (60, [.ref y, .int (nI b), .int x, .int (nI s), .int v], [], h) = some (some (.int (nI (lft N s p))), h) := by
    intro p
    induction p with
    | zero =>
      intro s x v _ _ hv
      have hv' : v = -1 := by
        have e : v = v + 1 - 1 := (Int32.add_sub_cancel v 1).symm
        rw [e, hv]
        decide
      subst hv'
      simp only [zi87_60, zcl1, zlow_0, zlow_1, zlow_2, zlow_3, zlow_4, zfree_0, zfree_i, zfree_r, zfree_n, zfree_d, zfree_f, zfree_s, if_true, if_false, Option.bind_some, Option.toList_some, Option.toList_none, List.cons_append, List.nil_append, List.set_cons_zero, List.set_cons_succ, Bool.false_eq_true, reduceIte, zsw_c, zsw_n, Nat.reduceAdd]
      rw [zi87_62, if_pos (by decide)]
      simp only [zi87_92, zi87_93 (sk := []), zcl1, zlow_0, zlow_1, zlow_2, zlow_3, zlow_4, zfree_0, zfree_i, zfree_r, zfree_n, zfree_d, zfree_f, zfree_s, if_true, if_false, Option.bind_some, Option.toList_some, Option.toList_none, List.cons_append, List.nil_append, List.set_cons_zero, List.set_cons_succ, Bool.false_eq_true, reduceIte, zsw_c, zsw_n, Nat.reduceAdd]
      rfl
    | succ p ih =>
      intro s x v hp hs hv
      have hv' : v = nI p := by
        have e : v = v + 1 - 1 := (Int32.add_sub_cancel v 1).symm
        rw [e, hv]
        exact nI_pred p
      subst hv'
      simp only [zi87_60, zcl1, zlow_0, zlow_1, zlow_2, zlow_3, zlow_4, zfree_0, zfree_i, zfree_r, zfree_n, zfree_d, zfree_f, zfree_s, if_true, if_false, Option.bind_some, Option.toList_some, Option.toList_none, List.cons_append, List.nil_append, List.set_cons_zero, List.set_cons_succ, Bool.false_eq_true, reduceIte, zsw_c, zsw_n, Nat.reduceAdd]
      rw [zi87_62, if_neg (nI_pos (by omega))]
      have hgp := hg p (by omega)
      simp only [zi87_65, zi87_65n, zi87_66, zi87_69, zi87_71, zi87_72, zi87_72n, zi87_73, zi87_76, zi87_79, zi87_80, zi87_81, zi87_83, zi87_84, zi87_85, zi87_86, zi87_89, zi87_92, zi87_93 (sk := []), zcl1, zlow_0, zlow_1, zlow_2, zlow_3, zlow_4, zfree_0, zfree_i, zfree_r, zfree_n, zfree_d, zfree_f, zfree_s, if_true, if_false, Option.bind_some, Option.toList_some, Option.toList_none, List.cons_append, List.nil_append, List.set_cons_zero, List.set_cons_succ, Bool.false_eq_true, reduceIte, zsw_c, zsw_n, Nat.reduceAdd, hY.r7, hY.g (show p < N 3 by omega) h3, hY.f0, nI_ltP (show N 0 < 2 ^ 31 by omega) (show N (10 + 2 * p) < 2 ^ 31 by omega), (zput_k s hs p (by omega)).1]
      unfold lft
      by_cases c : N (10 + 2 * p) ≤ N 0
      · rw [if_neg (by omega), if_pos c]
        exact ih (zput s p) x _ (by omega) (zput_lt hs (by omega)) (by rw [Int32.add_assoc]; exact Int32.add_zero _)
      · rw [if_pos (by omega), if_neg c]
  have e1 : (nI w = 1) = (w = 1) := nI_eqP (b := 1) (by omega) (by omega)
  simp only [ze87, zi87_0, zi87_1, zi87_2, zi87_3, zi87_4, zi87_5, zi87_6, zi87_9, zi87_10, zi87_11, zi87_12, zi87_55, zi87_56, zi87_57, zi87_58, zcl1, zlow_0, zlow_1, zlow_2, zlow_3, zlow_4, zfree_0, zfree_i, zfree_r, zfree_n, zfree_d, zfree_f, zfree_s, if_true, if_false, Option.bind_some, Option.toList_some, Option.toList_none, List.cons_append, List.nil_append, List.set_cons_zero, List.set_cons_succ, Bool.false_eq_true, reduceIte, zsw_c, zsw_n, Nat.reduceAdd, zbit_1 b (by omega), e1, ix_p1]
  unfold fellN
  by_cases c : w = 1
  · rw [if_pos c, if_pos c]
    exact right _ (b + 1) (2 ^ b) _ (by omega) (by omega) (zpow_lt b (by omega))
  · rw [if_neg c, if_neg c]
    exact left b (2 ^ b) _ _ (Nat.le_refl _) (zpow_lt b (by omega)) (by rw [Int32.sub_add_cancel])
theorem zput_has : ∀ d, d < 256 → ∀ b, b < 8 → d.testBit b = true → zput d b = d := by decide +kernel
theorem zput_self : ∀ d, d < 256 → ∀ b, b < 8 → (zput d b).testBit b = true := by decide +kernel
theorem zpow_bit : ∀ b, b < 8 → (2 ^ b).testBit b = true := by decide
theorem sp_fellBy {E : zE} {h : zH} {s : Nat → Int32} {N : Nat → Nat} {b w : Nat} (hM : MdO h s) (hY : MY h N) (hW : WF N) (hb : b < N 3) (hw : w ≤ 1) : zcall zpp E 207 [.ref 73, .int (nI b), .int (nI w)] h = some (some (.int (nI (fellN N b w))), h) := by
  have h3 := hW.2.2.2.1.2
  have h31 := hW.2.2.2.1.1
  have h0 := hW.1.2
  have hg := fun k hk => (hW.2.2.2.2.2.2.2.1 k hk).2.2
  have hsl : zsel 11 [11, 178] = some 178 := rfl
  have e1 : (nI w = 1) = (w = 1) := nI_eqP (b := 1) (by omega) (by omega)
  have stop : ∀ (x v4 v6 : Value) (q : Nat), zrun zpp E 207 (10, [.ref 73, .int (nI b), .int (nI w), .int (nI q), v4, .int 0, v6], [], h) = some (some (.int (nI q)), h) := by
    intro x v4 v6 q
    simp only [zi207_10, zcl1, zlow_0, zlow_1, zlow_2, zlow_3, zlow_4, zfree_0, zfree_i, zfree_r, zfree_n, zfree_d, zfree_f, zfree_s, if_true, if_false, Option.bind_some, Option.toList_some, Option.toList_none, List.cons_append, List.nil_append, List.set_cons_zero, List.set_cons_succ, Bool.false_eq_true, reduceIte, zsw_c, zsw_n, Nat.reduceAdd]
    rw [zi207_12, if_pos rfl]
    simp only [zi207_105, zi207_106 (sk := []), zcl1, zlow_0, zlow_1, zlow_2, zlow_3, zlow_4, zfree_0, zfree_i, zfree_r, zfree_n, zfree_d, zfree_f, zfree_s, if_true, if_false, Option.bind_some, Option.toList_some, Option.toList_none, List.cons_append, List.nil_append, List.set_cons_zero, List.set_cons_succ, Bool.false_eq_true, reduceIte, zsw_c, zsw_n, Nat.reduceAdd]
  have right : ∀ (n p q : Nat) (v6 : Value), w = 1 → p + 1 + n = N 3 → q < 256 → q.testBit p = true → zrun zpp E 207 (10, [.ref 73, .int (nI b), .int (nI w), .int (nI q), .int (nI p), .int 1, v6], [], h) = some (some (.int (nI (rgt N q (p + 1) n))), h) := by
    intro n
    induction n with
    | zero =>
      intro p q v6 hw1 hp hq hbit
      simp only [zi207_10, zcl1, zlow_0, zlow_1, zlow_2, zlow_3, zlow_4, zfree_0, zfree_i, zfree_r, zfree_n, zfree_d, zfree_f, zfree_s, if_true, if_false, Option.bind_some, Option.toList_some, Option.toList_none, List.cons_append, List.nil_append, List.set_cons_zero, List.set_cons_succ, Bool.false_eq_true, reduceIte, zsw_c, zsw_n, Nat.reduceAdd]
      rw [zi207_12, if_neg (by decide)]
      have c1 : nI (N 3 - 1) ≤ nI p := by rw [nI_leP (by omega) (by omega)]; omega
      simp only [zi207_15, zi207_16, zi207_17, zi207_20, zi207_22, zi207_25, zi207_27, zi207_28, zi207_29, zi207_31, zi207_33, zi207_36, zi207_38, zi207_38n, zi207_39, zi207_42, zi207_43, zi207_44, zi207_45, zi207_46, zi207_49, zi207_49n, zi207_50, zi207_52, zi207_55, zi207_55n, zi207_56, zi207_59, zi207_60, zi207_61, zi207_64, zi207_65, zi207_68, zi207_69, zi207_71, zi207_73, zi207_75, zi207_78, zi207_79, zi207_80, zi207_83, zi207_84, zi207_87, zi207_88, zi207_91, zi207_92, zi207_93, zi207_95, zi207_96, zi207_97, zi207_99, zi207_100, zi207_101, zi207_102, zcl1, zlow_0, zlow_1, zlow_2, zlow_3, zlow_4, zfree_0, zfree_i, zfree_r, zfree_n, zfree_d, zfree_f, zfree_s, if_true, if_false, Option.bind_some, Option.toList_some, Option.toList_none, List.cons_append, List.nil_append, List.set_cons_zero, List.set_cons_succ, Bool.false_eq_true, reduceIte, zsw_c, zsw_n, Nat.reduceAdd, e1, if_pos hw1, hM.r5, hY.c 3 (by decide) (x := 3) rfl, ix_m1 h31, nI_pos (show p < 2 ^ 31 by omega), c1, z00, if_true, if_false, show nI p + 0 = nI p from nI_add p 0, (zput_k q hq p (by omega)).1, zput_has q hq p (by omega) hbit]
      exact stop .null _ _ q
    | succ n ih =>
      intro p q v6 hw1 hp hq hbit
      simp only [zi207_10, zcl1, zlow_0, zlow_1, zlow_2, zlow_3, zlow_4, zfree_0, zfree_i, zfree_r, zfree_n, zfree_d, zfree_f, zfree_s, if_true, if_false, Option.bind_some, Option.toList_some, Option.toList_none, List.cons_append, List.nil_append, List.set_cons_zero, List.set_cons_succ, Bool.false_eq_true, reduceIte, zsw_c, zsw_n, Nat.reduceAdd]
      rw [zi207_12, if_neg (by decide)]
      have c1 : ¬ nI (N 3 - 1) ≤ nI p := by rw [nI_leP (by omega) (by omega)]; omega
      have hgp := hg p (by omega)
      have z1 : (1 : Int32) = 0 ↔ False := by decide
      have hgg := sp_gapOf (E := E) hM hY (show p < 8 by omega)
      unfold rgt
      rw [show p + 1 - 1 = p by omega]
      by_cases c : N (10 + 2 * p) ≤ N 0
      · have c2 : ¬ nI (N 0) < nI (N (10 + 2 * p)) := by rw [nI_ltP (by omega) (by omega)]; omega
        simp only [zi207_15, zi207_16, zi207_17, zi207_20, zi207_22, zi207_25, zi207_27, zi207_28, zi207_29, zi207_31, zi207_33, zi207_36, zi207_38, zi207_38n, zi207_39, zi207_42, zi207_43, zi207_44, zi207_45, zi207_46, zi207_49, zi207_49n, zi207_50, zi207_52, zi207_55, zi207_55n, zi207_56, zi207_59, zi207_60, zi207_61, zi207_64, zi207_65, zi207_68, zi207_69, zi207_71, zi207_73, zi207_75, zi207_78, zi207_79, zi207_80, zi207_83, zi207_84, zi207_87, zi207_88, zi207_91, zi207_92, zi207_93, zi207_95, zi207_96, zi207_97, zi207_99, zi207_100, zi207_101, zi207_102, zcl1, zlow_0, zlow_1, zlow_2, zlow_3, zlow_4, zfree_0, zfree_i, zfree_r, zfree_n, zfree_d, zfree_f, zfree_s, if_true, if_false, Option.bind_some, Option.toList_some, Option.toList_none, List.cons_append, List.nil_append, List.set_cons_zero, List.set_cons_succ, Bool.false_eq_true, reduceIte, zsw_c, zsw_n, Nat.reduceAdd, e1, if_pos hw1, hM.1, hsl, hM.r5, hY.c 3 (by decide) (x := 3) rfl, ix_m1 h31, nI_pos (show p < 2 ^ 31 by omega), c1, hgg, hY.c 0 (by decide) (x := 0) rfl, c2, z10, if_true, if_false, ix_p1, (zput_k q hq (p + 1) (by omega)).1]
        rw [if_pos c]
        exact ih (p + 1) (zput q (p + 1)) _ hw1 (by omega) (zput_lt hq (by omega)) (zput_self q hq (p + 1) (by omega))
      · have c2 : nI (N 0) < nI (N (10 + 2 * p)) := by rw [nI_ltP (by omega) (by omega)]; omega
        simp only [zi207_15, zi207_16, zi207_17, zi207_20, zi207_22, zi207_25, zi207_27, zi207_28, zi207_29, zi207_31, zi207_33, zi207_36, zi207_38, zi207_38n, zi207_39, zi207_42, zi207_43, zi207_44, zi207_45, zi207_46, zi207_49, zi207_49n, zi207_50, zi207_52, zi207_55, zi207_55n, zi207_56, zi207_59, zi207_60, zi207_61, zi207_64, zi207_65, zi207_68, zi207_69, zi207_71, zi207_73, zi207_75, zi207_78, zi207_79, zi207_80, zi207_83, zi207_84, zi207_87, zi207_88, zi207_91, zi207_92, zi207_93, zi207_95, zi207_96, zi207_97, zi207_99, zi207_100, zi207_101, zi207_102, zcl1, zlow_0, zlow_1, zlow_2, zlow_3, zlow_4, zfree_0, zfree_i, zfree_r, zfree_n, zfree_d, zfree_f, zfree_s, if_true, if_false, Option.bind_some, Option.toList_some, Option.toList_none, List.cons_append, List.nil_append, List.set_cons_zero, List.set_cons_succ, Bool.false_eq_true, reduceIte, zsw_c, zsw_n, Nat.reduceAdd, e1, if_pos hw1, hM.1, hsl, hM.r5, hY.c 3 (by decide) (x := 3) rfl, ix_m1 h31, nI_pos (show p < 2 ^ 31 by omega), c1, hgg, hY.c 0 (by decide) (x := 0) rfl, c2, z00, if_true, if_false, show nI p + 0 = nI p from nI_add p 0, (zput_k q hq p (by omega)).1, zput_has q hq p (by omega) hbit]
        rw [if_neg c]
        exact stop .null _ _ q
  have left : ∀ (p q : Nat) (v6 : Value), w ≠ 1 → p < N 3 → q < 256 → q.testBit p = true → zrun zpp E 207 (10, [.ref 73, .int (nI b), .int (nI w), .int (nI q), .int (nI p), .int 1, v6], [], h) = some (some (.int (nI (lft N q p))), h) := by
    intro p
    induction p with
    | zero =>
      intro q v6 hw1 hp hq hbit
      simp only [zi207_10, zcl1, zlow_0, zlow_1, zlow_2, zlow_3, zlow_4, zfree_0, zfree_i, zfree_r, zfree_n, zfree_d, zfree_f, zfree_s, if_true, if_false, Option.bind_some, Option.toList_some, Option.toList_none, List.cons_append, List.nil_append, List.set_cons_zero, List.set_cons_succ, Bool.false_eq_true, reduceIte, zsw_c, zsw_n, Nat.reduceAdd]
      rw [zi207_12, if_neg (by decide)]
      have c1 : nI 0 - 1 < 0 := by decide
      simp only [zi207_15, zi207_16, zi207_17, zi207_20, zi207_22, zi207_25, zi207_27, zi207_28, zi207_29, zi207_31, zi207_33, zi207_36, zi207_38, zi207_38n, zi207_39, zi207_42, zi207_43, zi207_44, zi207_45, zi207_46, zi207_49, zi207_49n, zi207_50, zi207_52, zi207_55, zi207_55n, zi207_56, zi207_59, zi207_60, zi207_61, zi207_64, zi207_65, zi207_68, zi207_69, zi207_71, zi207_73, zi207_75, zi207_78, zi207_79, zi207_80, zi207_83, zi207_84, zi207_87, zi207_88, zi207_91, zi207_92, zi207_93, zi207_95, zi207_96, zi207_97, zi207_99, zi207_100, zi207_101, zi207_102, zcl1, zlow_0, zlow_1, zlow_2, zlow_3, zlow_4, zfree_0, zfree_i, zfree_r, zfree_n, zfree_d, zfree_f, zfree_s, if_true, if_false, Option.bind_some, Option.toList_some, Option.toList_none, List.cons_append, List.nil_append, List.set_cons_zero, List.set_cons_succ, Bool.false_eq_true, reduceIte, zsw_c, zsw_n, Nat.reduceAdd, e1, if_neg hw1, c1, z00, if_true, if_false, show nI 0 + 0 = nI 0 from nI_add 0 0, (zput_k q hq 0 (by omega)).1, zput_has q hq 0 (by omega) hbit]
      exact stop .null _ _ q
    | succ p ih =>
      intro q v6 hw1 hp hq hbit
      simp only [zi207_10, zcl1, zlow_0, zlow_1, zlow_2, zlow_3, zlow_4, zfree_0, zfree_i, zfree_r, zfree_n, zfree_d, zfree_f, zfree_s, if_true, if_false, Option.bind_some, Option.toList_some, Option.toList_none, List.cons_append, List.nil_append, List.set_cons_zero, List.set_cons_succ, Bool.false_eq_true, reduceIte, zsw_c, zsw_n, Nat.reduceAdd]
      rw [zi207_12, if_neg (by decide)]
      have c1 : ¬ nI (N 3 - 1) ≤ nI p := by rw [nI_leP (by omega) (by omega)]; omega
      have hgp := hg p (by omega)
      have hgg := sp_gapOf (E := E) hM hY (show p < 8 by omega)
      have em : nI (p + 1) + (-1) = nI p := pk_m1 p
      unfold lft
      by_cases c : N (10 + 2 * p) ≤ N 0
      · have c2 : ¬ nI (N 0) < nI (N (10 + 2 * p)) := by rw [nI_ltP (by omega) (by omega)]; omega
        simp only [zi207_15, zi207_16, zi207_17, zi207_20, zi207_22, zi207_25, zi207_27, zi207_28, zi207_29, zi207_31, zi207_33, zi207_36, zi207_38, zi207_38n, zi207_39, zi207_42, zi207_43, zi207_44, zi207_45, zi207_46, zi207_49, zi207_49n, zi207_50, zi207_52, zi207_55, zi207_55n, zi207_56, zi207_59, zi207_60, zi207_61, zi207_64, zi207_65, zi207_68, zi207_69, zi207_71, zi207_73, zi207_75, zi207_78, zi207_79, zi207_80, zi207_83, zi207_84, zi207_87, zi207_88, zi207_91, zi207_92, zi207_93, zi207_95, zi207_96, zi207_97, zi207_99, zi207_100, zi207_101, zi207_102, zcl1, zlow_0, zlow_1, zlow_2, zlow_3, zlow_4, zfree_0, zfree_i, zfree_r, zfree_n, zfree_d, zfree_f, zfree_s, if_true, if_false, Option.bind_some, Option.toList_some, Option.toList_none, List.cons_append, List.nil_append, List.set_cons_zero, List.set_cons_succ, Bool.false_eq_true, reduceIte, zsw_c, zsw_n, Nat.reduceAdd, e1, if_neg hw1, hM.1, hsl, hM.r5, hY.c 3 (by decide) (x := 3) rfl, ix_m1 h31, nI_pred, nI_pos (show p < 2 ^ 31 by omega), c1, hgg, hY.c 0 (by decide) (x := 0) rfl, c2, z10, if_true, if_false, em, (zput_k q hq p (by omega)).1]
        rw [if_pos c]
        exact ih (zput q p) _ hw1 (by omega) (zput_lt hq (by omega)) (zput_self q hq p (by omega))
      · have c2 : nI (N 0) < nI (N (10 + 2 * p)) := by rw [nI_ltP (by omega) (by omega)]; omega
        simp only [zi207_15, zi207_16, zi207_17, zi207_20, zi207_22, zi207_25, zi207_27, zi207_28, zi207_29, zi207_31, zi207_33, zi207_36, zi207_38, zi207_38n, zi207_39, zi207_42, zi207_43, zi207_44, zi207_45, zi207_46, zi207_49, zi207_49n, zi207_50, zi207_52, zi207_55, zi207_55n, zi207_56, zi207_59, zi207_60, zi207_61, zi207_64, zi207_65, zi207_68, zi207_69, zi207_71, zi207_73, zi207_75, zi207_78, zi207_79, zi207_80, zi207_83, zi207_84, zi207_87, zi207_88, zi207_91, zi207_92, zi207_93, zi207_95, zi207_96, zi207_97, zi207_99, zi207_100, zi207_101, zi207_102, zcl1, zlow_0, zlow_1, zlow_2, zlow_3, zlow_4, zfree_0, zfree_i, zfree_r, zfree_n, zfree_d, zfree_f, zfree_s, if_true, if_false, Option.bind_some, Option.toList_some, Option.toList_none, List.cons_append, List.nil_append, List.set_cons_zero, List.set_cons_succ, Bool.false_eq_true, reduceIte, zsw_c, zsw_n, Nat.reduceAdd, e1, if_neg hw1, hM.1, hsl, hM.r5, hY.c 3 (by decide) (x := 3) rfl, ix_m1 h31, nI_pred, nI_pos (show p < 2 ^ 31 by omega), c1, hgg, hY.c 0 (by decide) (x := 0) rfl, c2, z00, if_true, if_false, show nI (p + 1) + 0 = nI (p + 1) from nI_add (p + 1) 0, (zput_k q hq (p + 1) (by omega)).1, zput_has q hq (p + 1) (by omega) hbit]
        rw [if_neg c]
        exact stop .null _ _ q
  simp only [ze207, zi207_0, zi207_1, zi207_2, zi207_3, zi207_4, zi207_5, zi207_7, zi207_8, zcl1, zlow_0, zlow_1, zlow_2, zlow_3, zlow_4, zfree_0, zfree_i, zfree_r, zfree_n, zfree_d, zfree_f, zfree_s, if_true, if_false, Option.bind_some, Option.toList_some, Option.toList_none, List.cons_append, List.nil_append, List.set_cons_zero, List.set_cons_succ, Bool.false_eq_true, reduceIte, zsw_c, zsw_n, Nat.reduceAdd, zbit_1 b (by omega)]
  unfold fellN
  by_cases c : w = 1
  · rw [if_pos c]
    exact right _ b (2 ^ b) _ c (by omega) (zpow_lt b (by omega)) (zpow_bit b (by omega))
  · rw [if_neg c]
    exact left b (2 ^ b) _ c hb (zpow_lt b (by omega)) (zpow_bit b (by omega))
