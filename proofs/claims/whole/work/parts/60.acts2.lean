/-! THE OLDEST ACT IS FORGOTTEN -/
def shf (f : Nat → Int32) : Nat → Int32 := fun j => if j < 23 then f (j + 1) else f j
theorem zcpa_self {h : zH} {p : Nat} {f : Nat → Int32} (hp : zrow 0 h p 24 f) : ∃ h', zcpa h p p 1 0 (nI 23) = some h' ∧ zrow 0 h' p 24 (shf f) ∧ zsm (fun y => y = p) h h' := by
  obtain ⟨f0, p1, p2⟩ := hp
  have e0 : (0 : Int32).toNatClampNeg = 0 := rfl
  have e1 : (1 : Int32).toNatClampNeg = 1 := rfl
  have e23 : (nI 23).toNatClampNeg = 23 := rfl
  refine ⟨h.set p (.inr (.inl (0, 24, va_cpy f0 f0 1 0 23))), ?_, ⟨_, List.getElem?_set_self (List.getElem?_eq_some_iff.mp p1).1, fun j hj => ?_⟩, ⟨by simp, zsl_set p1 (by simp [zsz])⟩, fun x hx => List.getElem?_set_ne (fun z => hx z.symm)⟩
  · unfold zcpa
    rw [p1]
    simp only [e0, e1, e23, Nat.zero_add]
    rw [if_neg]
    intro hz
    rcases hz with hz | hz | hz | hz | hz
    · exact absurd hz (by decide)
    · exact absurd hz (by decide)
    · exact absurd hz (by decide)
    · omega
    · omega
  · unfold va_cpy shf
    by_cases hq : j < 23
    · rw [if_pos (by omega), if_pos hq, show 1 + (j - 0) = j + 1 by omega]
      exact p2 _ (by omega)
    · rw [if_neg (by omega), if_neg hq]
      exact p2 j hj
section ACS2
variable {E : zE} {h : zH} {k : Nat} {R : Nat → Nat → Int32}
theorem AC.cp (hA : AC h k R) (f : Nat) (hf : f < 5) {a : Nat} (ha : a = 6 + f) : ∃ h', zcpa h a a 1 0 (nI 23) = some h' ∧ AC h' k (fun g => if g = f then shf (R f) else R g) ∧ zsm aP h h' := by
  subst ha
  obtain ⟨h1, h2, h3, h4⟩ := hA
  obtain ⟨h', e, hr, hz⟩ := zcpa_self (h4 f hf)
  have e5 := hz.2 5 (by omega)
  refine ⟨h', e, ⟨(zcls_c e5).trans h1, fun g hg => (zfld_c e5).trans (h2 g hg), (zfld_c e5).trans h3, fun g hg => ?_⟩, hz.wk (fun x e => by cases e; exact ⟨by omega, by omega⟩)⟩
  by_cases hq : g = f
  · subst hq
    simp only [if_true]
    exact hr
  · simp only [if_neg hq]
    exact zrow_c (hz.2 _ (by omega)) (h4 g hg)
theorem sp_forgetOldest (hA : AC h k R) : ∃ h' R', zcall zpp E 5 [.ref 5] h = some (none, h') ∧ AC h' 23 R' ∧ (∀ f, f < 5 → R' f = shf (R f)) ∧ zsm aP h h' := by
  have w5 : ∀ {H : zH} {v : Value}, zsm aP H (zpf H 5 5 v) := zsm_pf.wk (fun y e => by cases e; exact ⟨by omega, by omega⟩)
  have A0 := hA.pf 23
  obtain ⟨h1, e1, A1, z1⟩ := A0.cp 0 (by omega) (a := 6) rfl
  obtain ⟨h2, e2, A2, z2⟩ := A1.cp 1 (by omega) (a := 7) rfl
  obtain ⟨h3, e3, A3, z3⟩ := A2.cp 2 (by omega) (a := 8) rfl
  obtain ⟨h4, e4, A4, z4⟩ := A3.cp 3 (by omega) (a := 9) rfl
  obtain ⟨h5, e5, A5, z5⟩ := A4.cp 4 (by omega) (a := 10) rfl
  have q : (23 : Int32) = nI 23 := rfl
  refine ⟨h5, _, ?_, A5, fun f hf => ?_, ((((w5.tr z1).tr z2).tr z3).tr z4).tr z5⟩
  · simp only [ze5, zi5_0, zi5_0n, zi5_1, zi5_3, zi5_6, zi5_6n, zi5_7, zi5_10, zi5_11, zi5_11n, zi5_12, zi5_15, zi5_16, zi5_16n, zi5_17, zi5_20 (sk := []), zi5_23, zi5_23n, zi5_24, zi5_27, zi5_28, zi5_28n, zi5_29, zi5_32, zi5_33, zi5_33n, zi5_34, zi5_37 (sk := []), zi5_40, zi5_40n, zi5_41, zi5_44, zi5_45, zi5_45n, zi5_46, zi5_49, zi5_50, zi5_50n, zi5_51, zi5_54 (sk := []), zi5_57, zi5_57n, zi5_58, zi5_61, zi5_62, zi5_62n, zi5_63, zi5_66, zi5_67, zi5_67n, zi5_68, zi5_71 (sk := []), zi5_74, zi5_74n, zi5_75, zi5_78, zi5_79, zi5_79n, zi5_80, zi5_83, zi5_84, zi5_84n, zi5_85, zi5_88 (sk := []), zi5_91 (sk := []), zcl1, zlow_0, zlow_1, zlow_2, zlow_3, zlow_4, zfree_0, zfree_i, zfree_r, zfree_n, zfree_d, zfree_f, zfree_s, if_true, if_false, Option.bind_some, Option.toList_some, Option.toList_none, List.cons_append, List.nil_append, List.set_cons_zero, List.set_cons_succ, Bool.false_eq_true, reduceIte, zsw_c, zsw_n, Nat.reduceAdd, hA.w, q, A0.r0, A0.kept, e1, A1.r1, A1.kept, e2, A2.r2, A2.kept, e3, A3.r3, A3.kept, e4, A4.r4, A4.kept, e5]
  · have : f = 0 ∨ f = 1 ∨ f = 2 ∨ f = 3 ∨ f = 4 := by omega
    rcases this with rfl | rfl | rfl | rfl | rfl
    all_goals rfl
/-- four numbers are entered, when there is no room -/
theorem sp_keepFull (hA : AC h 24 R) (a b c d : Int32) : ∃ h' R', zcall zpp E 3 [.ref 5, .int a, .int b, .int c, .int d] h = some (none, h') ∧ AC h' 24 R' ∧ (∀ j, R' 0 j = upd (shf (R 0)) 23 a j ∧ R' 1 j = upd (shf (R 1)) 23 b j ∧ R' 2 j = shf (R 2) j ∧ R' 3 j = upd (shf (R 3)) 23 c j ∧ R' 4 j = upd (shf (R 4)) 23 d j) ∧ zsm aP h h' := by
  obtain ⟨h0, R0, e0, A0, hR, z0⟩ := sp_forgetOldest (E := E) hA
  have A1 := A0.pa 0 (by omega) 23 (a := 6) rfl a
  have A2 := A1.pa 1 (by omega) 23 (a := 7) rfl b
  have A3 := A2.pa 3 (by omega) 23 (a := 9) rfl c
  have A4 := A3.pa 4 (by omega) 23 (a := 10) rfl d
  have A5 := A4.pf 24
  have w : ∀ {H : zH} {x j : Nat} {v : Int32}, 5 ≤ x → x ≤ 10 → zsm aP H (zpa H x j v) := fun h1 h2 => zsm_pa.wk (fun y e => by cases e; exact ⟨h1, h2⟩)
  have w5 : ∀ {H : zH} {v : Value}, zsm aP H (zpf H 5 5 v) := zsm_pf.wk (fun y e => by cases e; exact ⟨by omega, by omega⟩)
  have n1 : nI 23 + 1 = nI 24 := by decide
  have lt : (nI 24 < 24) = False := by decide
  have hsel : zsel 0 [0, 5] = some 5 := rfl
  have hk : 23 < 24 := by omega
  refine ⟨_, _, ?_, A5, fun j => ?_, z0.tr (((((w (by omega) (by omega)).tr (w (by omega) (by omega))).tr (w (by omega) (by omega))).tr (w (by omega) (by omega))).tr w5)⟩
  · simp only [ze3, zi3_0, zi3_0n, zi3_1, zi3_4, zi3_6, zi3_9, zi3_9n, zi3_10, zi3_13, zi3_13n, zi3_14, zi3_17, zi3_17n, zi3_18, zi3_21, zi3_22, zi3_23, zi3_23n, zi3_24, zi3_27, zi3_27n, zi3_28, zi3_31, zi3_32, zi3_33, zi3_33n, zi3_34, zi3_37, zi3_37n, zi3_38, zi3_41, zi3_42, zi3_43, zi3_43n, zi3_44, zi3_47, zi3_47n, zi3_48, zi3_51, zi3_53, zi3_54, zi3_54n, zi3_55, zi3_55i, zi3_56, zi3_59, zi3_60, zi3_61, zi3_64 (sk := []), zcl1, zlow_0, zlow_1, zlow_2, zlow_3, zlow_4, zfree_0, zfree_i, zfree_r, zfree_n, zfree_d, zfree_f, zfree_s, if_true, if_false, Option.bind_some, Option.toList_some, Option.toList_none, List.cons_append, List.nil_append, List.set_cons_zero, List.set_cons_succ, Bool.false_eq_true, reduceIte, zsw_c, zsw_n, Nat.reduceAdd, hA.kept, lt, hA.1, hsel, e0, A0.r0, A0.kept, A0.s 0 (by omega) hk (a := 6) rfl, A1.r1, A1.kept, A1.s 1 (by omega) hk (a := 7) rfl, A2.r3, A2.kept, A2.s 3 (by omega) hk (a := 9) rfl, A3.r4, A3.kept, A3.s 4 (by omega) hk (a := 10) rfl, A4.kept, n1, A4.w]
  · rw [← hR 0 (by omega), ← hR 1 (by omega), ← hR 2 (by omega), ← hR 3 (by omega), ← hR 4 (by omega)]
    exact ⟨rfl, rfl, rfl, rfl, rfl⟩
end ACS2
