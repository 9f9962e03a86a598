/-! row, the component's -/
section ROWC
variable {E : zE} {h : zH} {y s : Nat} {v : Int32}
theorem sp_rowNo {x l n : Int32} (hC : CO h y s v) (hR : RA h) (hx : zlt x 8 = false ∨ (decide (0 ≤ l) && decide (l ≤ 2)) = false ∨ ¬ n ≤ 40) : zcall zpp E 90 [.ref 0, .int x, .int l, .int n] h = some (some (.int (-1000001)), h) := by
  have hsel : zsel 10 [10, 128] = some 128 := rfl
  rcases zlt_or x (n := 8) (by omega) with h0 | ⟨i, hi, rfl⟩
  · simp only [ze90, zi90_0, zi90_0n, zi90_1, zi90_2, zi90_5, zi90_5n, zi90_7, zi90_7n, zi90_9, zi90_9n, zi90_12, zi90_13, zi90_14, zi90_15, zi90_18, zi90_21, zi90_22, zi90_24, zi90_27, zi90_29 (sk := []), zi90_30, zi90_31, zi90_34, zi90_34n, zi90_35, zi90_36, zi90_39 (sk := []), zi90_40, zi90_40n, zi90_42, zi90_43, zi90_44, zi90_47, zi90_47n, zi90_48, zi90_49, zi90_52 (sk := []), zcl1, zlow_0, zlow_1, zlow_2, zlow_3, zlow_4, zfree_0, zfree_i, zfree_r, zfree_n, zfree_d, zfree_f, zfree_s, if_true, if_false, Option.bind_some, Option.toList_some, Option.toList_none, List.cons_append, List.nil_append, List.set_cons_zero, List.set_cons_succ, Bool.false_eq_true, reduceIte, zsw_c, zsw_n, Nat.reduceAdd, hC.1, hsel, sp_rowAtNo h0]
  · have h1 : zlt (nI i) 8 = true := by rw [zlt_nI (by omega) (by omega)]; simp [hi]
    cases hl : (decide (0 ≤ l) && decide (l ≤ 2))
    · simp only [ze90, zi90_0, zi90_0n, zi90_1, zi90_2, zi90_5, zi90_5n, zi90_7, zi90_7n, zi90_9, zi90_9n, zi90_12, zi90_13, zi90_14, zi90_15, zi90_18, zi90_21, zi90_22, zi90_24, zi90_27, zi90_29 (sk := []), zi90_30, zi90_31, zi90_34, zi90_34n, zi90_35, zi90_36, zi90_39 (sk := []), zi90_40, zi90_40n, zi90_42, zi90_43, zi90_44, zi90_47, zi90_47n, zi90_48, zi90_49, zi90_52 (sk := []), zcl1, zlow_0, zlow_1, zlow_2, zlow_3, zlow_4, zfree_0, zfree_i, zfree_r, zfree_n, zfree_d, zfree_f, zfree_s, if_true, if_false, Option.bind_some, Option.toList_some, Option.toList_none, List.cons_append, List.nil_append, List.set_cons_zero, List.set_cons_succ, Bool.false_eq_true, reduceIte, zsw_c, zsw_n, Nat.reduceAdd, hC.1, hsel, sp_rowAt hC hR hi, sp_within, hl, zb_f, z00]
    · have hn : (n ≤ 40) = False := by
        rcases hx with hx | hx | hx
        · rw [h1] at hx; cases hx
        · rw [hl] at hx; cases hx
        · exact eq_false hx
      simp only [ze90, zi90_0, zi90_0n, zi90_1, zi90_2, zi90_5, zi90_5n, zi90_7, zi90_7n, zi90_9, zi90_9n, zi90_12, zi90_13, zi90_14, zi90_15, zi90_18, zi90_21, zi90_22, zi90_24, zi90_27, zi90_29 (sk := []), zi90_30, zi90_31, zi90_34, zi90_34n, zi90_35, zi90_36, zi90_39 (sk := []), zi90_40, zi90_40n, zi90_42, zi90_43, zi90_44, zi90_47, zi90_47n, zi90_48, zi90_49, zi90_52 (sk := []), zcl1, zlow_0, zlow_1, zlow_2, zlow_3, zlow_4, zfree_0, zfree_i, zfree_r, zfree_n, zfree_d, zfree_f, zfree_s, if_true, if_false, Option.bind_some, Option.toList_some, Option.toList_none, List.cons_append, List.nil_append, List.set_cons_zero, List.set_cons_succ, Bool.false_eq_true, reduceIte, zsw_c, zsw_n, Nat.reduceAdd, hC.1, hsel, sp_rowAt hC hR hi, sp_within, hl, zb_t, z10, hn]
theorem sp_rowNeg {i : Nat} {l n : Int32} (hC : CO h y s v) (hR : RA h) (hi : i < 8) (hl : (decide (0 ≤ l) && decide (l ≤ 2)) = true) (hn : n ≤ 40) (h0 : ¬ 0 ≤ n) : zcall zpp E 90 [.ref 0, .int (nI i), .int l, .int n] h = some (some (.int (-1000014)), zpf h 0 9 (.int 4)) := by
  have hsel : zsel 10 [10, 128] = some 128 := rfl
  have hsel2 : zsel 10 [10, 130] = some 130 := rfl
  have q : (-1000010 : Int32) - 4 = -1000014 := by decide
  simp only [ze90, zi90_0, zi90_0n, zi90_1, zi90_2, zi90_5, zi90_5n, zi90_7, zi90_7n, zi90_9, zi90_9n, zi90_12, zi90_13, zi90_14, zi90_15, zi90_18, zi90_21, zi90_22, zi90_24, zi90_27, zi90_29 (sk := []), zi90_30, zi90_31, zi90_34, zi90_34n, zi90_35, zi90_36, zi90_39 (sk := []), zi90_40, zi90_40n, zi90_42, zi90_43, zi90_44, zi90_47, zi90_47n, zi90_48, zi90_49, zi90_52 (sk := []), zcl1, zlow_0, zlow_1, zlow_2, zlow_3, zlow_4, zfree_0, zfree_i, zfree_r, zfree_n, zfree_d, zfree_f, zfree_s, if_true, if_false, Option.bind_some, Option.toList_some, Option.toList_none, List.cons_append, List.nil_append, List.set_cons_zero, List.set_cons_succ, Bool.false_eq_true, reduceIte, zsw_c, zsw_n, Nat.reduceAdd, hC.1, hsel, sp_rowAt hC hR hi, sp_within, hl, zb_t, z10, eq_true hn, eq_false h0, hsel2, sp_found hC, q]
theorem sp_rowYes {i : Nat} {l n th ln sz : Int32} {it : Nat → Int32} (hC : CO h y s v) (hR : RA h) (hi : i < 8) (hl : (decide (0 ≤ l) && decide (l ≤ 2)) = true) (hn : n ≤ 40) (h0 : 0 ≤ n) (hW : RW h (34 + 2 * i) th ln sz it) : ∃ h', zcall zpp E 90 [.ref 0, .int (nI i), .int l, .int n] h = some (some (.int n), h') ∧ RW h' (34 + 2 * i) 1 l n (fun _ => 0) ∧ CO h' y s 0 ∧ zsm (fun x => x = 0 ∨ rP (34 + 2 * i) x) h h' := by
  have hsel : zsel 10 [10, 128] = some 128 := rfl
  have hsel2 : zsel 10 [10, 131] = some 131 := rfl
  have hsel3 : zsel 6 [6, 52] = some 52 := rfl
  obtain ⟨h1, e1, W1, z1⟩ := sp_begin (E := E) (l := l) (n := n) hW
  have C1 : CO h1 y s v := hC.keep (z1.2 0 (fun z => by unfold rP at z; omega))
  refine ⟨zpf h1 0 9 (.int 0), ?_, W1.keep (zpf_o (by omega)) (zpf_o (by omega)), C1.put 0, (z1.wk (fun x e => Or.inr e)).tr (zsm_pf.wk (fun x e => Or.inl e))⟩
  simp only [ze90, zi90_0, zi90_0n, zi90_1, zi90_2, zi90_5, zi90_5n, zi90_7, zi90_7n, zi90_9, zi90_9n, zi90_12, zi90_13, zi90_14, zi90_15, zi90_18, zi90_21, zi90_22, zi90_24, zi90_27, zi90_29 (sk := []), zi90_30, zi90_31, zi90_34, zi90_34n, zi90_35, zi90_36, zi90_39 (sk := []), zi90_40, zi90_40n, zi90_42, zi90_43, zi90_44, zi90_47, zi90_47n, zi90_48, zi90_49, zi90_52 (sk := []), zcl1, zlow_0, zlow_1, zlow_2, zlow_3, zlow_4, zfree_0, zfree_i, zfree_r, zfree_n, zfree_d, zfree_f, zfree_s, if_true, if_false, Option.bind_some, Option.toList_some, Option.toList_none, List.cons_append, List.nil_append, List.set_cons_zero, List.set_cons_succ, Bool.false_eq_true, reduceIte, zsw_c, zsw_n, Nat.reduceAdd, hC.1, hsel, sp_rowAt hC hR hi, sp_within, hl, zb_t, z10, eq_true hn, eq_true h0, hW.1, hsel3, e1, C1.1, hsel2, sp_clean C1]
end ROWC
