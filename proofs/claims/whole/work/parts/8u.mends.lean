/-! THE TEXT: the model begins, and ends -/
def enE (L : Nat) (e : Sum (Nat × Nat) Nat) : Sum (Nat × Nat) Nat := match e with
  | .inl x => .inl x
  | .inr q => if L ≤ q then .inr q else .inl (1, q)
section MEN
variable {E : zE} {h : zH} {sc T : Nat → Int32} {t : Nat → Nat} {L : Nat} {e : Sum (Nat × Nat) Nat}
theorem mBegin (hL : L ≤ 120) (hT : tpO T t L) (hM : MdO h sc) (hZ : zrow 0 h 80 120 T) (h10 : sc 10 = nI L) : ∃ h' sc', zcall zpp E 163 [.ref 73] h = some (none, h') ∧ MS h' sc' T t L (.inr 0) ∧ scQ sc sc' ∧ zsm (fun a => a = 73) h h' := by
  have c1 : zsel 11 [11, 158] = some 158 := rfl
  have M1 := hM.put 11 rfl (by omega) 0
  have M2 := M1.put 15 rfl (by omega) 0
  have e10 : upd (upd sc 11 0) 15 0 10 = nI L := h10
  obtain ⟨h', sc', a1, a2, a3, a4, a5, a6, a7, a8⟩ := sp_next (E := E) (p := 0) hL (Nat.zero_le _) hT M2 (zrow_pf (zrow_pf hZ)) e10 rfl
  refine ⟨h', sc', ?_, ⟨a2, zrow_c (a8.2 80 (by omega)) (zrow_pf (zrow_pf hZ)), (a7 10 (by omega) (by omega) (by omega) (by omega)).trans e10, Nat.zero_le _, (a7 15 (by omega) (by omega) (by omega) (by omega)).trans rfl, a3, a4, a5, a6⟩, fun j hj => ?_, (zsm_pf.tr zsm_pf).tr a8⟩
  · simp only [ze163, zi163_0, zi163_0n, zi163_1, zi163_2, zi163_5, zi163_5n, zi163_6, zi163_7, zi163_10, zi163_10n, zi163_11, zi163_14 (sk := []), zcl1, zlow_0, zlow_1, zlow_2, zlow_3, zlow_4, zfree_0, zfree_i, zfree_r, zfree_n, zfree_d, zfree_f, zfree_s, if_true, if_false, Option.bind_some, Option.toList_some, Option.toList_none, List.cons_append, List.nil_append, List.set_cons_zero, List.set_cons_succ, Bool.false_eq_true, reduceIte, zsw_c, zsw_n, Nat.reduceAdd, hM.st 11 rfl (by omega), M1.st 15 rfl (by omega), M2.1, c1, a1]
  · rw [a7 j (by omega) (by omega) (by omega) (by omega)]
    unfold upd
    rw [if_neg (by omega), if_neg (by omega)]
theorem mFailed (hS : MS h sc T t L e) : ∃ h' sc', zcall zpp E 164 [.ref 73] h = some (some (.int (zb (!isR (enE L e)))), h') ∧ MdO h' sc' ∧ (∀ k, k < 10 ∨ 17 < k → sc' k = sc k) ∧ sc' 10 = 0 ∧ (match enE L e with
    | .inl x => sc' 17 = nI x.1 ∧ sc' 16 = nI x.2
    | .inr _ => sc' 17 = sc 17) ∧ zsm (fun a => a = 73) h h' := by
  have c1 : zsel 11 [11, 157] = some 157 := rfl
  -- the end of it, with a fault
  have fl : ∀ {H : zH} {s' : Nat → Int32} {x : Nat × Nat}, MS H s' T t L (.inl x) → ∃ h', zrun zpp E 164 (20, [.ref 73], [], H) = some (some (.int 1), h') ∧ MdO h' (upd (upd s' 10 0) 17 (nI x.1)) ∧ zsm (fun a => a = 73) H h' := by
    intro H s' x g
    obtain ⟨f, n⟩ := g.f15l
    have M1 := g.1.put 10 rfl (by omega) 0
    have f1 : zfld [11] (zpf H 73 10 (.int 0)) 73 15 = some (.int (nI x.1)) := (zfld_f (by omega)).trans f
    have M2 := M1.put 17 rfl (by omega) (nI x.1)
    have f2 : zfld [11] (zpf (zpf H 73 10 (.int 0)) 73 17 (.int (nI x.1))) 73 15 = some (.int (nI x.1)) := (zfld_f (by omega)).trans f1
    have le : ¬ nI x.1 ≤ 0 := by
      rw [show (0 : Int32) = nI 0 from rfl, nI_leP (by have := g.2.2.2.2.2.1; omega) (by omega)]
      have := g.2.2.2.2.2.1
      omega
    refine ⟨_, ?_, M2, zsm_pf.tr zsm_pf⟩
    simp only [zi164_20, zi164_20n, zi164_21, zi164_22, zi164_25, zi164_25n, zi164_26, zi164_26n, zi164_27, zi164_30, zi164_33, zi164_33n, zi164_34, zi164_37, zi164_40, zi164_40n, zi164_41, zi164_44, zi164_47, zi164_47n, zi164_48, zi164_51, zi164_54, zi164_55, zi164_58, zi164_59 (sk := []), zcl1, zlow_0, zlow_1, zlow_2, zlow_3, zlow_4, zfree_0, zfree_i, zfree_r, zfree_n, zfree_d, zfree_f, zfree_s, if_true, if_false, Option.bind_some, Option.toList_some, Option.toList_none, List.cons_append, List.nil_append, List.set_cons_zero, List.set_cons_succ, Bool.false_eq_true, reduceIte, zsw_c, zsw_n, Nat.reduceAdd, g.1.st 10 rfl (by omega), f1, eq_false le, M1.st 17 rfl (by omega), f2, z10]
  cases e with
  | inl x =>
    obtain ⟨f, n⟩ := hS.f15l
    obtain ⟨h', r1, r2, r3⟩ := fl hS
    refine ⟨h', _, ?_, r2, fun k hk => ?_, rfl, ⟨rfl, hS.2.2.2.2.1⟩, r3⟩
    · rw [show zb (!isR (enE L (.inl x))) = 1 from rfl, ← r1]
      conv =>
        lhs
        simp only [ze164, zi164_0, zi164_0n, zi164_1, zi164_4, zcl1, zlow_0, zlow_1, zlow_2, zlow_3, zlow_4, zfree_0, zfree_i, zfree_r, zfree_n, zfree_d, zfree_f, zfree_s, if_true, if_false, Option.bind_some, Option.toList_some, Option.toList_none, List.cons_append, List.nil_append, List.set_cons_zero, List.set_cons_succ, Bool.false_eq_true, reduceIte, zsw_c, zsw_n, Nat.reduceAdd, f, eq_false n]
    · unfold upd
      rw [if_neg (by omega), if_neg (by omega)]
  | inr q =>
    have f := hS.f15r
    have f13 := hS.1.i 13 rfl (by omega)
    rw [hS.2.2.2.2.2.2.2.1] at f13
    have e13 : (nI (tkK t L q) = 1) = (L ≤ q) := by
      rw [← tkK_end (t := t) (L := L) (p := q), show (1 : Int32) = nI 1 from rfl]
      refine nI_eqP ?_ (by omega)
      unfold tkK
      split
      · omega
      · split
        · omega
        · split
          · split <;> omega
          · split <;> omega
    by_cases hq : L ≤ q
    · have ee : enE L (.inr q) = .inr q := if_pos hq
      rw [ee]
      have M1 := hS.1.put 10 rfl (by omega) 0
      have f1 : zfld [11] (zpf h 73 10 (.int 0)) 73 15 = some (.int 0) := (zfld_f (by omega)).trans f
      have f17 := M1.i 17 rfl (by omega)
      have M2 := M1.put 17 rfl (by omega) (upd sc 10 0 17)
      have f2 : zfld [11] (zpf (zpf h 73 10 (.int 0)) 73 17 (.int (upd sc 10 0 17))) 73 15 = some (.int 0) := (zfld_f (by omega)).trans f1
      refine ⟨_, _, ?_, M2, fun k hk => ?_, rfl, rfl, zsm_pf.tr zsm_pf⟩
      · simp only [ze164, zi164_0, zi164_0n, zi164_1, zi164_4, zi164_7, zi164_7n, zi164_8, zi164_11, zi164_12, zi164_15, zi164_15n, zi164_16, zi164_17, zi164_20, zi164_20n, zi164_21, zi164_22, zi164_25, zi164_25n, zi164_26, zi164_26n, zi164_27, zi164_30, zi164_33, zi164_33n, zi164_34, zi164_37, zi164_40, zi164_40n, zi164_41, zi164_44, zi164_47, zi164_47n, zi164_48, zi164_51, zi164_54, zi164_55, zi164_58, zi164_59 (sk := []), zcl1, zlow_0, zlow_1, zlow_2, zlow_3, zlow_4, zfree_0, zfree_i, zfree_r, zfree_n, zfree_d, zfree_f, zfree_s, if_true, if_false, Option.bind_some, Option.toList_some, Option.toList_none, List.cons_append, List.nil_append, List.set_cons_zero, List.set_cons_succ, Bool.false_eq_true, reduceIte, zsw_c, zsw_n, Nat.reduceAdd, f, z00, f13, e13, eq_true hq, hS.1.st 10 rfl (by omega), f1, show ((0 : Int32) ≤ 0) = True by decide, f17, M1.st 17 rfl (by omega), f2]
        rfl
      · unfold upd
        rw [if_neg (by omega), if_neg (by omega)]
    · have ee : enE L (.inr q) = .inl (1, q) := if_neg hq
      rw [ee]
      obtain ⟨hb, scb, b1, b2, b3, b4⟩ := sp_bad (E := E) (k := 1) (by omega) hS
      have b1 : zcall zpp E 157 [.ref 73, .int 1] h = some (none, hb) := b1
      have b2 : MS hb scb T t L (.inl (1, q)) := b2
      obtain ⟨h', r1, r2, r3⟩ := fl b2
      refine ⟨h', _, ?_, r2, fun k hk => ?_, rfl, ⟨rfl, b2.2.2.2.2.1⟩, b4.tr r3⟩
      · rw [show zb (!isR (.inl (1, q))) = 1 from rfl, ← r1]
        conv =>
          lhs
          simp only [ze164, zi164_0, zi164_0n, zi164_1, zi164_4, zi164_7, zi164_7n, zi164_8, zi164_11, zi164_12, zi164_15, zi164_15n, zi164_16, zi164_17, zcl1, zlow_0, zlow_1, zlow_2, zlow_3, zlow_4, zfree_0, zfree_i, zfree_r, zfree_n, zfree_d, zfree_f, zfree_s, if_true, if_false, Option.bind_some, Option.toList_some, Option.toList_none, List.cons_append, List.nil_append, List.set_cons_zero, List.set_cons_succ, Bool.false_eq_true, reduceIte, zsw_c, zsw_n, Nat.reduceAdd, f, z00, f13, e13, eq_false hq, hS.1.1, c1, b1]
      · unfold upd
        rw [if_neg (by omega), if_neg (by omega)]
        exact b3 k (by omega)
end MEN
