/-! A ROW -/
def RW (h : zH) (a : Nat) (th ln sz : Int32) (it : Nat → Int32) : Prop := zcls h a = some 6 ∧ zfld [6] h a 0 = some (.ref (a + 1)) ∧ zfld [6] h a 1 = some (.int th) ∧ zfld [6] h a 2 = some (.int ln) ∧ zfld [6] h a 3 = some (.int sz) ∧ zrow 0 h (a + 1) 40 it
theorem RW.keep {h h' : zH} {a : Nat} {th ln sz : Int32} {it : Nat → Int32} (hR : RW h a th ln sz it) (e : h'[a]? = h[a]?) (e1 : h'[a + 1]? = h[a + 1]?) : RW h' a th ln sz it := by
  obtain ⟨h1, h2, h3, h4, h5, h6⟩ := hR
  exact ⟨(zcls_c e).trans h1, (zfld_c e).trans h2, (zfld_c e).trans h3, (zfld_c e).trans h4, (zfld_c e).trans h5, zrow_c e1 h6⟩
theorem RW.put {h : zH} {a j : Nat} {th ln sz v : Int32} {it : Nat → Int32} (hR : RW h a th ln sz it) : RW (zpa h (a + 1) j v) a th ln sz (upd it j v) := by
  obtain ⟨h1, h2, h3, h4, h5, h6⟩ := hR
  exact ⟨zcls_pa.trans h1, zfld_pa.trans h2, zfld_pa.trans h3, zfld_pa.trans h4, zfld_pa.trans h5, zrow_pa h6⟩
theorem RW.ext {h : zH} {a : Nat} {th ln sz : Int32} {it it' : Nat → Int32} (hR : RW h a th ln sz it) (e : ∀ j, j < 40 → it j = it' j) : RW h a th ln sz it' := by
  obtain ⟨h1, h2, h3, h4, h5, h6⟩ := hR
  exact ⟨h1, h2, h3, h4, h5, zrow_ext h6 e⟩
def rP (a x : Nat) : Prop := x = a ∨ x = a + 1
theorem sp_begin {E : zE} {h : zH} {a : Nat} {th ln sz l n : Int32} {it : Nat → Int32} (hR : RW h a th ln sz it) : ∃ h', zcall zpp E 52 [.ref a, .int l, .int n] h = some (none, h') ∧ RW h' a 1 l n (fun _ => 0) ∧ zsm (rP a) h h' := by
  obtain ⟨h1, h2, h3, h4, h5, h6⟩ := hR
  have w1 := zstf_ok (ty := 1) (v := .int 1) h3 zfits_1
  have g2 : zfld [6] (zpf h a 1 (.int 1)) a 2 = some (.int ln) := (zfld_f (by decide)).trans h4
  have w2 := zstf_ok (ty := 0) (v := .int l) g2 zfits_i
  have g3 : zfld [6] (zpf (zpf h a 1 (.int 1)) a 2 (.int l)) a 3 = some (.int sz) := (zfld_f (by decide)).trans ((zfld_f (by decide)).trans h5)
  have w3 := zstf_ok (ty := 0) (v := .int n) g3 zfits_i
  have R0 : RW (zpf (zpf (zpf h a 1 (.int 1)) a 2 (.int l)) a 3 (.int n)) a 1 l n it := by
    refine ⟨?_, ?_, ?_, ?_, ?_, zrow_pf (zrow_pf (zrow_pf h6))⟩
    · rw [zcls_pf, zcls_pf, zcls_pf]; exact h1
    · rw [zfld_f (by decide), zfld_f (by decide), zfld_f (by decide)]; exact h2
    · rw [zfld_f (by decide), zfld_f (by decide), zfld_same, h3]; rfl
    · rw [zfld_f (by decide), zfld_same, g2]; rfl
    · rw [zfld_same, g3]; rfl
  have s0 : zsm (rP a) h (zpf (zpf (zpf h a 1 (.int 1)) a 2 (.int l)) a 3 (.int n)) := ((zsm_pf.tr zsm_pf).tr zsm_pf).wk (fun x e => Or.inl e)
  have loop : ∀ (m k : Nat) (H : zH) (f : Nat → Int32), k + m = 40 → RW H a 1 l n f → (∀ j, j < k → f j = 0) → zsm (rP a) h H → ∃ h', zrun zpp E 52 (17, [.ref a, .int l, .int n, .int (nI k)], [], H) = some (none, h') ∧ RW h' a 1 l n (fun _ => 0) ∧ zsm (rP a) h h' := by
    intro m
    induction m with
    | zero =>
      intro k H f hk hR hf hz
      refine ⟨H, ?_, hR.ext (fun j hj => hf j (by omega)), hz⟩
      simp only [zi52_17, zi52_18, zcl1, zlow_0, zlow_1, zlow_2, zlow_3, zlow_4, zfree_0, zfree_i, zfree_r, zfree_n, zfree_d, zfree_f, zfree_s, if_true, if_false, Option.bind_some, Option.toList_some, Option.toList_none, List.cons_append, List.nil_append, List.set_cons_zero, List.set_cons_succ, Bool.false_eq_true, reduceIte, zsw_c, zsw_n, Nat.reduceAdd]
      rw [zi52_20, if_pos (by rw [show (40 : Int32) = nI 40 from rfl, nI_leP (by omega) (by omega)]; omega)]
      simp only [zi52_36 (sk := []), zcl1, zlow_0, zlow_1, zlow_2, zlow_3, zlow_4, zfree_0, zfree_i, zfree_r, zfree_n, zfree_d, zfree_f, zfree_s, if_true, if_false, Option.bind_some, Option.toList_some, Option.toList_none, List.cons_append, List.nil_append, List.set_cons_zero, List.set_cons_succ, Bool.false_eq_true, reduceIte, zsw_c, zsw_n, Nat.reduceAdd]
    | succ m ih =>
      intro k H f hk hR hf hz
      obtain ⟨h', e, q⟩ := ih (k + 1) (zpa H (a + 1) k 0) (upd f k 0) (by omega) hR.put (fun j hj => by
        unfold upd
        split
        · rfl
        · exact hf j (by omega)) (hz.tr (zsm_pa.wk (fun x e => Or.inr e)))
      refine ⟨h', ?_, q⟩
      simp only [zi52_17, zi52_18, zcl1, zlow_0, zlow_1, zlow_2, zlow_3, zlow_4, zfree_0, zfree_i, zfree_r, zfree_n, zfree_d, zfree_f, zfree_s, if_true, if_false, Option.bind_some, Option.toList_some, Option.toList_none, List.cons_append, List.nil_append, List.set_cons_zero, List.set_cons_succ, Bool.false_eq_true, reduceIte, zsw_c, zsw_n, Nat.reduceAdd]
      rw [zi52_20, if_neg (by rw [show (40 : Int32) = nI 40 from rfl, nI_leP (by omega) (by omega)]; omega)]
      simp only [zi52_23, zi52_23n, zi52_24, zi52_27, zi52_28, zi52_29, zi52_30, zi52_33, zcl1, zlow_0, zlow_1, zlow_2, zlow_3, zlow_4, zfree_0, zfree_i, zfree_r, zfree_n, zfree_d, zfree_f, zfree_s, if_true, if_false, Option.bind_some, Option.toList_some, Option.toList_none, List.cons_append, List.nil_append, List.set_cons_zero, List.set_cons_succ, Bool.false_eq_true, reduceIte, zsw_c, zsw_n, Nat.reduceAdd, hR.2.1, zars_at hR.2.2.2.2.2 (show k < 40 by omega) (by omega) (zfits_i (x := 0)), ix_p1]
      exact e
  obtain ⟨h', e, q⟩ := loop 40 0 _ it (by omega) R0 (fun j hj => by omega) s0
  refine ⟨h', ?_, q⟩
  simp only [ze52, zi52_0, zi52_0n, zi52_1, zi52_2, zi52_5, zi52_5n, zi52_6, zi52_7, zi52_10, zi52_10n, zi52_11, zi52_12, zi52_15, zi52_16, zcl1, zlow_0, zlow_1, zlow_2, zlow_3, zlow_4, zfree_0, zfree_i, zfree_r, zfree_n, zfree_d, zfree_f, zfree_s, if_true, if_false, Option.bind_some, Option.toList_some, Option.toList_none, List.cons_append, List.nil_append, List.set_cons_zero, List.set_cons_succ, Bool.false_eq_true, reduceIte, zsw_c, zsw_n, Nat.reduceAdd, w1, w2, w3]
  exact e
theorem sp_cut {E : zE} {h : zH} {a : Nat} {th ln sz v : Int32} {it : Nat → Int32} (hR : RW h a th ln sz it) (hn : ln = 0 ∨ ln = 1 ∨ ln = 2) : zcall zpp E 54 [.ref a, .int v] h = some (some (.int (if ln = 0 then v.toInt8.toInt32 else if ln = 1 then v.toInt16.toInt32 else v)), h) := by
  have q20 : ((2 : Int32) = 0) = False := by decide
  have q21 : ((2 : Int32) = 1) = False := by decide
  rcases hn with rfl | rfl | rfl
  · simp only [ze54, zi54_0, zi54_0n, zi54_1, zi54_4, zi54_7, zi54_8, zi54_9 (sk := []), zi54_10, zi54_10n, zi54_11, zi54_14, zi54_15, zi54_18, zi54_19, zi54_20, zi54_23, zi54_24 (sk := []), zcl1, zlow_0, zlow_1, zlow_2, zlow_3, zlow_4, zfree_0, zfree_i, zfree_r, zfree_n, zfree_d, zfree_f, zfree_s, if_true, if_false, Option.bind_some, Option.toList_some, Option.toList_none, List.cons_append, List.nil_append, List.set_cons_zero, List.set_cons_succ, Bool.false_eq_true, reduceIte, zsw_c, zsw_n, Nat.reduceAdd, hR.2.2.2.1, z00, not_true_eq_false]
  · simp only [ze54, zi54_0, zi54_0n, zi54_1, zi54_4, zi54_7, zi54_8, zi54_9 (sk := []), zi54_10, zi54_10n, zi54_11, zi54_14, zi54_15, zi54_18, zi54_19, zi54_20, zi54_23, zi54_24 (sk := []), zcl1, zlow_0, zlow_1, zlow_2, zlow_3, zlow_4, zfree_0, zfree_i, zfree_r, zfree_n, zfree_d, zfree_f, zfree_s, if_true, if_false, Option.bind_some, Option.toList_some, Option.toList_none, List.cons_append, List.nil_append, List.set_cons_zero, List.set_cons_succ, Bool.false_eq_true, reduceIte, zsw_c, zsw_n, Nat.reduceAdd, hR.2.2.2.1, z10, z11, not_true_eq_false, not_false_eq_true]
  · simp only [ze54, zi54_0, zi54_0n, zi54_1, zi54_4, zi54_7, zi54_8, zi54_9 (sk := []), zi54_10, zi54_10n, zi54_11, zi54_14, zi54_15, zi54_18, zi54_19, zi54_20, zi54_23, zi54_24 (sk := []), zcl1, zlow_0, zlow_1, zlow_2, zlow_3, zlow_4, zfree_0, zfree_i, zfree_r, zfree_n, zfree_d, zfree_f, zfree_s, if_true, if_false, Option.bind_some, Option.toList_some, Option.toList_none, List.cons_append, List.nil_append, List.set_cons_zero, List.set_cons_succ, Bool.false_eq_true, reduceIte, zsw_c, zsw_n, Nat.reduceAdd, hR.2.2.2.1, q20, q21, not_true_eq_false, not_false_eq_true]
