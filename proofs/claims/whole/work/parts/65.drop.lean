/-! drop, both -/
section DROP
variable {E : zE} {h : zH} {y s : Nat} {v : Int32}
theorem RW.out {a : Nat} {th ln sz : Int32} {it : Nat → Int32} (hR : RW h a th ln sz it) : RW (zpf h a 1 (.int 0)) a 0 ln sz it := by
  obtain ⟨h1, h2, h3, h4, h5, h6⟩ := hR
  refine ⟨zcls_pf.trans h1, (zfld_f (by decide)).trans h2, ?_, (zfld_f (by decide)).trans h4, (zfld_f (by decide)).trans h5, zrow_pf h6⟩
  rw [zfld_same, h3]
  rfl
theorem sp_dropNo {x : Int32} (hC : CO h y s v) (hx : zlt x 8 = false) : zcall zpp E 93 [.ref 0, .int x] h = some (some (.int (-1000001)), h) := by
  have hsel : zsel 10 [10, 128] = some 128 := rfl
  simp only [ze93, zi93_0, zi93_0n, zi93_1, zi93_2, zi93_5, zi93_5n, zi93_6, zi93_6n, zi93_7, zi93_7n, zi93_10, zi93_12 (sk := []), zi93_13, zi93_13n, zi93_14, zi93_17, zi93_20, zi93_20n, zi93_21, zi93_22, zi93_25 (sk := []), zi93_26, zi93_26n, zi93_27, zi93_28, zi93_31, zi93_31n, zi93_32, zi93_32n, zi93_33, zi93_36, zi93_39 (sk := []), zcl1, zlow_0, zlow_1, zlow_2, zlow_3, zlow_4, zfree_0, zfree_i, zfree_r, zfree_n, zfree_d, zfree_f, zfree_s, if_true, if_false, Option.bind_some, Option.toList_some, Option.toList_none, List.cons_append, List.nil_append, List.set_cons_zero, List.set_cons_succ, Bool.false_eq_true, reduceIte, zsw_c, zsw_n, Nat.reduceAdd, hC.1, hsel, sp_rowAtNo hx]
theorem sp_dropNone {i : Nat} {ln sz : Int32} {it : Nat → Int32} (hC : CO h y s v) (hR : RA h) (hi : i < 8) (hW : RW h (34 + 2 * i) 0 ln sz it) : zcall zpp E 93 [.ref 0, .int (nI i)] h = some (some (.int (-1000011)), zpf h 0 9 (.int 1)) := by
  have hsel : zsel 10 [10, 128] = some 128 := rfl
  have hsel2 : zsel 10 [10, 130] = some 130 := rfl
  have q : (-1000010 : Int32) - 1 = -1000011 := by decide
  simp only [ze93, zi93_0, zi93_0n, zi93_1, zi93_2, zi93_5, zi93_5n, zi93_6, zi93_6n, zi93_7, zi93_7n, zi93_10, zi93_12 (sk := []), zi93_13, zi93_13n, zi93_14, zi93_17, zi93_20, zi93_20n, zi93_21, zi93_22, zi93_25 (sk := []), zi93_26, zi93_26n, zi93_27, zi93_28, zi93_31, zi93_31n, zi93_32, zi93_32n, zi93_33, zi93_36, zi93_39 (sk := []), zcl1, zlow_0, zlow_1, zlow_2, zlow_3, zlow_4, zfree_0, zfree_i, zfree_r, zfree_n, zfree_d, zfree_f, zfree_s, if_true, if_false, Option.bind_some, Option.toList_some, Option.toList_none, List.cons_append, List.nil_append, List.set_cons_zero, List.set_cons_succ, Bool.false_eq_true, reduceIte, zsw_c, zsw_n, Nat.reduceAdd, hC.1, hsel, sp_rowAt hC hR hi, hW.2.2.1, z00, not_true_eq_false, hsel2, sp_found hC, q]
theorem sp_dropYes {i : Nat} {ln sz : Int32} {it : Nat → Int32} (hC : CO h y s v) (hR : RA h) (hi : i < 8) (hW : RW h (34 + 2 * i) 1 ln sz it) : ∃ h', zcall zpp E 93 [.ref 0, .int (nI i)] h = some (some (.int sz), h') ∧ RW h' (34 + 2 * i) 0 ln sz it ∧ CO h' y s 0 ∧ zsm (fun x => x = 0 ∨ rP (34 + 2 * i) x) h h' := by
  have hsel : zsel 10 [10, 128] = some 128 := rfl
  have hsel2 : zsel 10 [10, 131] = some 131 := rfl
  have W1 := hW.out
  have w1 := zstf_ok (ty := 1) (v := .int 0) hW.2.2.1 zfits_0
  have C1 : CO (zpf h (34 + 2 * i) 1 (.int 0)) y s v := hC.keep (zpf_o (by omega))
  refine ⟨zpf (zpf h (34 + 2 * i) 1 (.int 0)) 0 9 (.int 0), ?_, W1.keep (zpf_o (by omega)) (zpf_o (by omega)), C1.put 0, (zsm_pf.wk (fun x e => Or.inr (Or.inl e))).tr (zsm_pf.wk (fun x e => Or.inl e))⟩
  simp only [ze93, zi93_0, zi93_0n, zi93_1, zi93_2, zi93_5, zi93_5n, zi93_6, zi93_6n, zi93_7, zi93_7n, zi93_10, zi93_12 (sk := []), zi93_13, zi93_13n, zi93_14, zi93_17, zi93_20, zi93_20n, zi93_21, zi93_22, zi93_25 (sk := []), zi93_26, zi93_26n, zi93_27, zi93_28, zi93_31, zi93_31n, zi93_32, zi93_32n, zi93_33, zi93_36, zi93_39 (sk := []), zcl1, zlow_0, zlow_1, zlow_2, zlow_3, zlow_4, zfree_0, zfree_i, zfree_r, zfree_n, zfree_d, zfree_f, zfree_s, if_true, if_false, Option.bind_some, Option.toList_some, Option.toList_none, List.cons_append, List.nil_append, List.set_cons_zero, List.set_cons_succ, Bool.false_eq_true, reduceIte, zsw_c, zsw_n, Nat.reduceAdd, hC.1, hsel, sp_rowAt hC hR hi, hW.2.2.1, z10, not_false_eq_true, w1, W1.2.2.2.2.1, C1.1, hsel2, sp_clean C1]
end DROP
