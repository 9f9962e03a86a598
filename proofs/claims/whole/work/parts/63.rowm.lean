/-! row, the model's -/
def ML (h : zH) (ln mn it : Nat → Int32) : Prop := zrow 0 h 74 8 ln ∧ zrow 0 h 75 8 mn ∧ zrow 0 h 76 320 it
theorem ML.pf {h : zH} {ln mn it : Nat → Int32} {a f : Nat} {v : Value} (hL : ML h ln mn it) : ML (zpf h a f v) ln mn it := ⟨zrow_pf hL.1, zrow_pf hL.2.1, zrow_pf hL.2.2⟩
def mP (x : Nat) : Prop := 73 ≤ x ∧ x ≤ 76
section ROWM
variable {E : zE} {h : zH} {s : Nat → Int32} {ln mn it : Nat → Int32}
theorem MdO.pa {a j : Nat} {v : Int32} (hM : MdO h s) : MdO (zpa h a j v) s := ⟨zcls_pa.trans hM.1, fun k hk => zfld_pa.trans (hM.2 k hk)⟩
theorem ix_40 (a b : Nat) : (40 : Int32) * nI a + nI b = nI (40 * a + b) := by
  rw [show (40 : Int32) * nI a = nI (40 * a) from pk_mul 40 a, nI_add]
theorem sp_mrowNo {x l n : Int32} (hM : MdO h s) (hx : zlt x 8 = false ∨ (decide (0 ≤ l) && decide (l ≤ 2)) = false ∨ ¬ n ≤ 40) : zcall zpp E 152 [.ref 73, .int x, .int l, .int n] h = some (some (.int (-1000001)), zpf h 73 0 (.int 0)) := by
  have w0 := zstf_ok (ty := 0) (v := .int 0) (hM.i 0 rfl (by omega)) zfits_i
  have i2 := fun (H : zH) => sp_inI (E := E) (h := H) (u := l.toInt64) (v := 0) (w := 2) (x := l) (a := 0) (b := 2) rfl (by decide) (by decide)
  cases h1 : zlt x 8
  · simp only [ze152, zi152_0, zi152_0n, zi152_1, zi152_2, zi152_5, zi152_6, zi152_9, zi152_12, zi152_13, zi152_14, zi152_15, zi152_18, zi152_21, zi152_24, zi152_25, zi152_27, zi152_30, zi152_32 (sk := []), zcl1, zlow_0, zlow_1, zlow_2, zlow_3, zlow_4, zfree_0, zfree_i, zfree_r, zfree_n, zfree_d, zfree_f, zfree_s, if_true, if_false, Option.bind_some, Option.toList_some, Option.toList_none, List.cons_append, List.nil_append, List.set_cons_zero, List.set_cons_succ, Bool.false_eq_true, reduceIte, zsw_c, zsw_n, Nat.reduceAdd, w0, sp_isRow, h1, zb_f, z00]
  · cases hl : (decide (0 ≤ l) && decide (l ≤ 2))
    · simp only [ze152, zi152_0, zi152_0n, zi152_1, zi152_2, zi152_5, zi152_6, zi152_9, zi152_12, zi152_13, zi152_14, zi152_15, zi152_18, zi152_21, zi152_24, zi152_25, zi152_27, zi152_30, zi152_32 (sk := []), zcl1, zlow_0, zlow_1, zlow_2, zlow_3, zlow_4, zfree_0, zfree_i, zfree_r, zfree_n, zfree_d, zfree_f, zfree_s, if_true, if_false, Option.bind_some, Option.toList_some, Option.toList_none, List.cons_append, List.nil_append, List.set_cons_zero, List.set_cons_succ, Bool.false_eq_true, reduceIte, zsw_c, zsw_n, Nat.reduceAdd, w0, sp_isRow, h1, zb_t, z10, i2, hl, zb_f, z00]
    · have hn : (n ≤ 40) = False := by
        rcases hx with hx | hx | hx
        · rw [h1] at hx; cases hx
        · rw [hl] at hx; cases hx
        · exact eq_false hx
      simp only [ze152, zi152_0, zi152_0n, zi152_1, zi152_2, zi152_5, zi152_6, zi152_9, zi152_12, zi152_13, zi152_14, zi152_15, zi152_18, zi152_21, zi152_24, zi152_25, zi152_27, zi152_30, zi152_32 (sk := []), zcl1, zlow_0, zlow_1, zlow_2, zlow_3, zlow_4, zfree_0, zfree_i, zfree_r, zfree_n, zfree_d, zfree_f, zfree_s, if_true, if_false, Option.bind_some, Option.toList_some, Option.toList_none, List.cons_append, List.nil_append, List.set_cons_zero, List.set_cons_succ, Bool.false_eq_true, reduceIte, zsw_c, zsw_n, Nat.reduceAdd, w0, sp_isRow, h1, zb_t, z10, i2, hl, hn]
theorem sp_mrowNeg {i : Nat} {l n : Int32} (hM : MdO h s) (hi : i < 8) (hl : (decide (0 ≤ l) && decide (l ≤ 2)) = true) (hn : n ≤ 40) (h0 : ¬ 0 ≤ n) : ∃ h', zcall zpp E 152 [.ref 73, .int (nI i), .int l, .int n] h = some (some (.int (-1000014)), h') ∧ MdO h' (upd (upd (upd s 0 0) 1 0) 1 4) ∧ zsm (fun x => x = 73) h h' := by
  have w0 := zstf_ok (ty := 0) (v := .int 0) (hM.i 0 rfl (by omega)) zfits_i
  have M1 := hM.put 0 rfl (by omega) 0
  have w1 := zstf_ok (ty := 0) (v := .int 0) (M1.i 1 rfl (by omega)) zfits_i
  have M2 := M1.put 1 rfl (by omega) 0
  have i2 := fun (H : zH) => sp_inI (E := E) (h := H) (u := l.toInt64) (v := 0) (w := 2) (x := l) (a := 0) (b := 2) rfl (by decide) (by decide)
  have h1 : zlt (nI i) 8 = true := by rw [zlt_nI (by omega) (by omega)]; simp [hi]
  have hsel : zsel 11 [11, 150] = some 150 := rfl
  have q : (-1000010 : Int32) - 4 = -1000014 := by decide
  refine ⟨_, ?_, M2.put 1 rfl (by omega) 4, (zsm_pf.tr zsm_pf).tr zsm_pf⟩
  simp only [ze152, zi152_0, zi152_0n, zi152_1, zi152_2, zi152_5, zi152_6, zi152_9, zi152_12, zi152_13, zi152_14, zi152_15, zi152_18, zi152_21, zi152_24, zi152_25, zi152_27, zi152_30, zi152_32 (sk := []), zi152_33, zi152_33n, zi152_34, zi152_35, zi152_38, zi152_39, zi152_42, zi152_42n, zi152_43, zi152_44, zi152_47 (sk := []), zcl1, zlow_0, zlow_1, zlow_2, zlow_3, zlow_4, zfree_0, zfree_i, zfree_r, zfree_n, zfree_d, zfree_f, zfree_s, if_true, if_false, Option.bind_some, Option.toList_some, Option.toList_none, List.cons_append, List.nil_append, List.set_cons_zero, List.set_cons_succ, Bool.false_eq_true, reduceIte, zsw_c, zsw_n, Nat.reduceAdd, w0, sp_isRow, h1, zb_t, z10, i2, hl, eq_true hn, w1, eq_false h0, M2.1, hsel, sp_finding M2, q]
end ROWM
