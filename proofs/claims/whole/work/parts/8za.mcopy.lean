/-! THE TEXT: the model's yard becomes the fresh one -/
theorem mCopyL {E : zE} {sc : Nat → Int32} {N : Nat → Nat} : ∀ (n k : Nat) (g : Nat → Int32) (h : zH), k + n = 73 → (∀ j, j < k → g j = nI (N j)) → zrow 0 h 77 73 g → FW h N → MdO h sc → ∃ h', zrun zpp E 171 (225, [.ref 73, .int (nI k)], [], h) = some (some (.int (nI (N 3))), h') ∧ MY h' N ∧ zsm (fun a => a = 77) h h'
  | 0, k, g, h, hk, hg, hr, hF, hM => by
    have e73 : k = 73 := by omega
    subst e73
    have hY : MY h N := zrow_ext hr (fun j hj => hg j hj)
    refine ⟨h, ?_, hY, zsm.rf h⟩
    conv =>
      lhs
      simp only [zi171_225, zi171_226, zcl1, zlow_0, zlow_1, zlow_2, zlow_3, zlow_4, zfree_0, zfree_i, zfree_r, zfree_n, zfree_d, zfree_f, zfree_s, if_true, if_false, Option.bind_some, Option.toList_some, Option.toList_none, List.cons_append, List.nil_append, List.set_cons_zero, List.set_cons_succ, Bool.false_eq_true, reduceIte, zsw_c, zsw_n, Nat.reduceAdd]
    rw [zi171_228, if_pos (by decide)]
    simp only [zi171_249, zi171_249n, zi171_250, zi171_253, zi171_254, zi171_255 (sk := []), zcl1, zlow_0, zlow_1, zlow_2, zlow_3, zlow_4, zfree_0, zfree_i, zfree_r, zfree_n, zfree_d, zfree_f, zfree_s, if_true, if_false, Option.bind_some, Option.toList_some, Option.toList_none, List.cons_append, List.nil_append, List.set_cons_zero, List.set_cons_succ, Bool.false_eq_true, reduceIte, zsw_c, zsw_n, Nat.reduceAdd, hM.r5, hY.c 3 (by decide) (x := 3) rfl]
  | n + 1, k, g, h, hk, hg, hr, hF, hM => by
    obtain ⟨h', a1, a2, a3⟩ := mCopyL (E := E) (sc := sc) (N := N) n (k + 1) (upd g k (nI (N k))) (zpa h 77 k (nI (N k))) (by omega) (fun j hj => by
      unfold upd
      split
      · rename_i z; rw [z]
      · exact hg j (by omega)) (zrow_pa hr) (zrow_o (by omega) hF) (hM.keep (zpa_o (by omega)))
    refine ⟨h', ?_, a2, zsm_pa.tr a3⟩
    rw [← a1]
    conv =>
      lhs
      simp only [zi171_225, zi171_226, zcl1, zlow_0, zlow_1, zlow_2, zlow_3, zlow_4, zfree_0, zfree_i, zfree_r, zfree_n, zfree_d, zfree_f, zfree_s, if_true, if_false, Option.bind_some, Option.toList_some, Option.toList_none, List.cons_append, List.nil_append, List.set_cons_zero, List.set_cons_succ, Bool.false_eq_true, reduceIte, zsw_c, zsw_n, Nat.reduceAdd]
    rw [zi171_228, if_neg (by rw [show (73 : Int32) = nI 73 from rfl, nI_leP (by omega) (by omega)]; omega)]
    conv =>
      lhs
      simp only [zi171_231, zi171_231n, zi171_232, zi171_235, zi171_236, zi171_236n, zi171_237, zi171_240, zi171_241, zi171_242, zi171_243, zcl1, zlow_0, zlow_1, zlow_2, zlow_3, zlow_4, zfree_0, zfree_i, zfree_r, zfree_n, zfree_d, zfree_f, zfree_s, if_true, if_false, Option.bind_some, Option.toList_some, Option.toList_none, List.cons_append, List.nil_append, List.set_cons_zero, List.set_cons_succ, Bool.false_eq_true, reduceIte, zsw_c, zsw_n, Nat.reduceAdd, hM.r5, hM.r6, hF.c k (by omega) (x := nI k) rfl, zars_at hr (show k < 73 by omega) (by decide) zfits_i, ix_p1]
    exact zi171_246
