/-! THE TEXT: the model clears its fresh row -/
theorem mClearL {E : zE} {sc T : Nat → Int32} {t : Nat → Nat} {L : Nat} {e : Sum (Nat × Nat) Nat} : ∀ (n k : Nat) (g : Nat → Int32) (h : zH), k + n = 73 → (∀ j, j < k → g j = 0) → zrow 0 h 78 73 g → MS h sc T t L e → ∃ h', zrun zpp E 171 (11, [.ref 73, .int (nI k)], [], h) = zrun zpp E 171 (30, [.ref 73, .int 73], [], h') ∧ MS h' sc T t L e ∧ FW h' (fun _ => 0) ∧ zsm fP h h'
  | 0, k, g, h, hk, hg, hr, hS => by
    have e73 : k = 73 := by omega
    subst e73
    refine ⟨h, ?_, hS, zrow_ext hr (fun j hj => hg j hj), zsm.rf h⟩
    conv =>
      lhs
      simp only [zi171_11, zi171_12, zcl1, zlow_0, zlow_1, zlow_2, zlow_3, zlow_4, zfree_0, zfree_i, zfree_r, zfree_n, zfree_d, zfree_f, zfree_s, if_true, if_false, Option.bind_some, Option.toList_some, Option.toList_none, List.cons_append, List.nil_append, List.set_cons_zero, List.set_cons_succ, Bool.false_eq_true, reduceIte, zsw_c, zsw_n, Nat.reduceAdd]
    rw [zi171_14, if_pos (by decide)]
    rfl
  | n + 1, k, g, h, hk, hg, hr, hS => by
    obtain ⟨h', a1, a2, a3, a4⟩ := mClearL (E := E) n (k + 1) (upd g k 0) (zpa h 78 k 0) (by omega) (fun j hj => by
      unfold upd
      split
      · rfl
      · exact hg j (by omega)) (zrow_pa hr) (hS.keep (zpa_o (by omega)) (zpa_o (by omega)))
    refine ⟨h', ?_, a2, a3, (zsm_pa.wk (fun a e => fP72 e)).tr a4⟩
    rw [← a1]
    conv =>
      lhs
      simp only [zi171_11, zi171_12, zcl1, zlow_0, zlow_1, zlow_2, zlow_3, zlow_4, zfree_0, zfree_i, zfree_r, zfree_n, zfree_d, zfree_f, zfree_s, if_true, if_false, Option.bind_some, Option.toList_some, Option.toList_none, List.cons_append, List.nil_append, List.set_cons_zero, List.set_cons_succ, Bool.false_eq_true, reduceIte, zsw_c, zsw_n, Nat.reduceAdd]
    rw [zi171_14, if_neg (by rw [show (73 : Int32) = nI 73 from rfl, nI_leP (by omega) (by omega)]; omega)]
    conv =>
      lhs
      simp only [zi171_17, zi171_17n, zi171_18, zi171_21, zi171_22, zi171_23, zi171_24, zcl1, zlow_0, zlow_1, zlow_2, zlow_3, zlow_4, zfree_0, zfree_i, zfree_r, zfree_n, zfree_d, zfree_f, zfree_s, if_true, if_false, Option.bind_some, Option.toList_some, Option.toList_none, List.cons_append, List.nil_append, List.set_cons_zero, List.set_cons_succ, Bool.false_eq_true, reduceIte, zsw_c, zsw_n, Nat.reduceAdd, hS.1.r6, zars_at hr (show k < 73 by omega) (by decide) zfits_i, ix_p1]
    exact zi171_27
theorem mClear {E : zE} {h : zH} {sc T : Nat → Int32} {t : Nat → Nat} {L : Nat} {e : Sum (Nat × Nat) Nat} (hS : MS h sc T t L e) (hF : FX h) : ∃ h', zrun zpp E 171 (11, [.ref 73, .int 0], [], h) = zrun zpp E 171 (30, [.ref 73, .int 73], [], h') ∧ MS h' sc T t L e ∧ FW h' (fun _ => 0) ∧ zsm fP h h' := by
  obtain ⟨g, hr⟩ := hF
  exact mClearL 73 0 g h (by omega) (fun j hj => by omega) hr hS
