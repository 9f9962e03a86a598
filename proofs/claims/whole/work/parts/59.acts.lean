/-! THE ACTS THAT WERE KEPT, the component's -/
def AC (h : zH) (k : Nat) (R : Nat → Nat → Int32) : Prop := zcls h 5 = some 0 ∧ (∀ f, f < 5 → zfld [0] h 5 f = some (.ref (6 + f))) ∧ zfld [0] h 5 5 = some (.int (nI k)) ∧ ∀ f, f < 5 → zrow 0 h (6 + f) 24 (R f)
def aP (x : Nat) : Prop := 5 ≤ x ∧ x ≤ 10
section ACS
variable {E : zE} {h : zH} {k : Nat} {R : Nat → Nat → Int32}
theorem AC.r0 (hA : AC h k R) : zfld [0] h 5 0 = some (.ref 6) := hA.2.1 0 (by omega)
theorem AC.r1 (hA : AC h k R) : zfld [0] h 5 1 = some (.ref 7) := hA.2.1 1 (by omega)
theorem AC.r2 (hA : AC h k R) : zfld [0] h 5 2 = some (.ref 8) := hA.2.1 2 (by omega)
theorem AC.r3 (hA : AC h k R) : zfld [0] h 5 3 = some (.ref 9) := hA.2.1 3 (by omega)
theorem AC.r4 (hA : AC h k R) : zfld [0] h 5 4 = some (.ref 10) := hA.2.1 4 (by omega)
theorem AC.kept (hA : AC h k R) : zfld [0] h 5 5 = some (.int (nI k)) := hA.2.2.1
theorem AC.w (hA : AC h k R) (v : Int32) : zstf [0] 0 h 5 5 (.int v) = some (zpf h 5 5 (.int v)) := zstf_ok hA.2.2.1 zfits_i
theorem AC.s (hA : AC h k R) (f : Nat) (hf : f < 5) {j : Nat} (hj : j < 24) {a : Nat} (ha : a = 6 + f) (v : Int32) : zars 0 h a (nI j) v = some (zpa h a j v) := by
  subst ha
  exact zars_at (hA.2.2.2 f hf) hj (by omega) zfits_i
theorem AC.g (hA : AC h k R) (f : Nat) (hf : f < 5) {j : Nat} (hj : j < 24) {a : Nat} (ha : a = 6 + f) : zarr 0 h a (nI j) = some (R f j) := by
  subst ha
  exact zarr_at (hA.2.2.2 f hf) hj (by omega)
theorem AC.pf (hA : AC h k R) (m : Nat) : AC (zpf h 5 5 (.int (nI m))) m R := by
  obtain ⟨h1, h2, h3, h4⟩ := hA
  refine ⟨zcls_pf.trans h1, fun f hf => (zfld_f (by omega)).trans (h2 f hf), ?_, fun f hf => zrow_pf (h4 f hf)⟩
  rw [zfld_same, h3]
  rfl
theorem AC.pa (hA : AC h k R) (f : Nat) (hf : f < 5) (j : Nat) {a : Nat} (ha : a = 6 + f) (v : Int32) : AC (zpa h a j v) k (fun g => if g = f then upd (R f) j v else R g) := by
  subst ha
  obtain ⟨h1, h2, h3, h4⟩ := hA
  refine ⟨zcls_pa.trans h1, fun g hg => zfld_pa.trans (h2 g hg), zfld_pa.trans h3, fun g hg => ?_⟩
  by_cases hq : g = f
  · subst hq
    simp only [if_true]
    exact zrow_pa (h4 g hg)
  · simp only [if_neg hq]
    exact zrow_o (by omega) (h4 g hg)
theorem AC.keep {h' : zH} (hA : AC h k R) (e : ∀ a, aP a → h'[a]? = h[a]?) : AC h' k R := by
  obtain ⟨h1, h2, h3, h4⟩ := hA
  have e5 := e 5 ⟨by omega, by omega⟩
  exact ⟨(zcls_c e5).trans h1, fun f hf => (zfld_c e5).trans (h2 f hf), (zfld_c e5).trans h3, fun f hf => zrow_c (e _ ⟨by omega, by omega⟩) (h4 f hf)⟩
theorem sp_forget (hA : AC h k R) : ∃ h', zcall zpp E 2 [.ref 5] h = some (none, h') ∧ AC h' 0 R ∧ zsm aP h h' := by
  refine ⟨zpf h 5 5 (.int (nI 0)), ?_, hA.pf 0, zsm_pf.wk (fun x e => by cases e; exact ⟨by omega, by omega⟩)⟩
  simp only [ze2, zi2_0, zi2_0n, zi2_1, zi2_2, zi2_5 (sk := []), zcl1, zlow_0, zlow_1, zlow_2, zlow_3, zlow_4, zfree_0, zfree_i, zfree_r, zfree_n, zfree_d, zfree_f, zfree_s, if_true, if_false, Option.bind_some, Option.toList_some, Option.toList_none, List.cons_append, List.nil_append, List.set_cons_zero, List.set_cons_succ, Bool.false_eq_true, reduceIte, zsw_c, zsw_n, Nat.reduceAdd, hA.w]
  rfl
/-- four numbers are entered, while there is room -/
theorem sp_keepRoom (hA : AC h k R) (hk : k < 24) (a b c d : Int32) : ∃ h' R', zcall zpp E 3 [.ref 5, .int a, .int b, .int c, .int d] h = some (none, h') ∧ AC h' (k + 1) R' ∧ (∀ j, R' 0 j = upd (R 0) k a j ∧ R' 1 j = upd (R 1) k b j ∧ R' 2 j = R 2 j ∧ R' 3 j = upd (R 3) k c j ∧ R' 4 j = upd (R 4) k d j) ∧ zsm aP h h' := by
  have A1 := hA.pa 0 (by omega) k (a := 6) rfl a
  have A2 := A1.pa 1 (by omega) k (a := 7) rfl b
  have A3 := A2.pa 3 (by omega) k (a := 9) rfl c
  have A4 := A3.pa 4 (by omega) k (a := 10) rfl d
  have A5 := A4.pf (k + 1)
  have w : ∀ {H : zH} {x j : Nat} {v : Int32}, 5 ≤ x → x ≤ 10 → zsm aP H (zpa H x j v) := fun h1 h2 => zsm_pa.wk (fun y e => by cases e; exact ⟨h1, h2⟩)
  have w5 : ∀ {H : zH} {v : Value}, zsm aP H (zpf H 5 5 v) := zsm_pf.wk (fun y e => by cases e; exact ⟨by omega, by omega⟩)
  have n1 : nI k + 1 = nI (k + 1) := nI_add k 1
  have lt : (nI k < 24) = True := by rw [show (24 : Int32) = nI 24 from rfl, nI_ltP (by omega) (by omega)]; simp [hk]
  refine ⟨_, _, ?_, A5, fun j => ⟨rfl, rfl, rfl, rfl, rfl⟩, (((((w (by omega) (by omega)).tr (w (by omega) (by omega))).tr (w (by omega) (by omega))).tr (w (by omega) (by omega))).tr w5)⟩
  simp only [ze3, zi3_0, zi3_0n, zi3_1, zi3_4, zi3_6, zi3_9, zi3_9n, zi3_10, zi3_13, zi3_13n, zi3_14, zi3_17, zi3_17n, zi3_18, zi3_21, zi3_22, zi3_23, zi3_23n, zi3_24, zi3_27, zi3_27n, zi3_28, zi3_31, zi3_32, zi3_33, zi3_33n, zi3_34, zi3_37, zi3_37n, zi3_38, zi3_41, zi3_42, zi3_43, zi3_43n, zi3_44, zi3_47, zi3_47n, zi3_48, zi3_51, zi3_53, zi3_54, zi3_54n, zi3_55, zi3_55i, zi3_56, zi3_59, zi3_60, zi3_61, zi3_64 (sk := []), zcl1, zlow_0, zlow_1, zlow_2, zlow_3, zlow_4, zfree_0, zfree_i, zfree_r, zfree_n, zfree_d, zfree_f, zfree_s, if_true, if_false, Option.bind_some, Option.toList_some, Option.toList_none, List.cons_append, List.nil_append, List.set_cons_zero, List.set_cons_succ, Bool.false_eq_true, reduceIte, zsw_c, zsw_n, Nat.reduceAdd, hA.kept, lt, hA.r0, hA.s 0 (by omega) hk (a := 6) rfl, A1.r1, A1.kept, A1.s 1 (by omega) hk (a := 7) rfl, A2.r3, A2.kept, A2.s 3 (by omega) hk (a := 9) rfl, A3.r4, A3.kept, A3.s 4 (by omega) hk (a := 10) rfl, A4.kept, n1, A4.w]
end ACS
