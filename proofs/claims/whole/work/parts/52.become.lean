/-! A YARD BECOMES ANOTHER -/
def far (a b : Nat) : Prop := a + 8 < b ∨ b + 8 < a
/-- what a crew's places hold -/
def crO (h : zH) (c : Nat → Option Nat) : Prop := ∀ i, i < 4 → ∀ q, c i = some q → 87 ≤ q ∧ ∃ cl fs, h[q]? = some (.inl (cl, fs)) ∧ zmay 4 cl = true
theorem crO.keep {h h' : zH} {c : Nat → Option Nat} (hc : crO h c) (e : ∀ a, 87 ≤ a → ∀ x, h[a]? = some x → h'[a]? = some x) : crO h' c := by
  intro i hi q hq
  obtain ⟨h1, cl, fs, h2, h3⟩ := hc i hi q hq
  exact ⟨h1, cl, fs, e q h1 _ h2, h3⟩
section BEC
variable {h : zH} {a b : Nat} {F F' : Nat → Int32} {A A' : Nat → Nat → Int32} {c c' : Nat → Option Nat}
theorem zsm.up {h' : zH} {y : Nat} (hz : zsm (yP y) h h') (hy : y < 70) : ∀ a, 87 ≤ a → ∀ x, h[a]? = some x → h'[a]? = some x := fun a h1 _ h2 => (hz.2 a (fun z => by have := z.2; omega)).trans h2
theorem YAt.bf (Ya : YAt h a F A c) (Yb : YAt h b F' A' c') (hd : far a b) (k : Nat) (hk : k < 18 ∧ ¬ (6 ≤ k ∧ k < 14)) : ∃ h', zfld [9] h b k = some (.int (F' k)) ∧ zstf [9] 0 h a k (.int (F' k)) = some h' ∧ YAt h' a (upd F k (F' k)) A c ∧ YAt h' b F' A' c' ∧ zsm (yP a) h h' := by
  have hz : zsm (yP a) h (zpf h a k (.int (F' k))) := zsm_y
  exact ⟨_, Yb.i k hk, Ya.w k hk, Ya.pf k hk, Yb.keep (fun x h1 h2 => hz.2 x (fun z => by have := z.1; have := z.2; unfold far at hd; omega)), hz⟩
theorem zcpa_at {n : Nat} {f g : Nat → Int32} {x : Int32} {p q : Nat} (hp : zrow 0 h p n f) (hq : zrow 0 h q n g) (hn : n < 2 ^ 31) (hx : x = nI n) : ∃ h', zcpa h p q 0 0 x = some h' ∧ zrow 0 h' q n f ∧ zsm (fun y => y = q) h h' := by
  subst hx
  obtain ⟨f0, p1, p2⟩ := hp
  obtain ⟨g0, q1, q2⟩ := hq
  have e0 : (0 : Int32).toNatClampNeg = 0 := rfl
  refine ⟨h.set q (.inr (.inl (0, n, va_cpy f0 g0 0 0 n))), ?_, ⟨_, List.getElem?_set_self (List.getElem?_eq_some_iff.mp q1).1, fun j hj => ?_⟩, ⟨by simp, zsl_set q1 (by simp [zsz])⟩, fun x hx => List.getElem?_set_ne (fun z => hx z.symm)⟩
  · unfold zcpa
    rw [p1, q1]
    simp only [e0, nI_clamp hn, Nat.zero_add]
    rw [if_neg]
    have h1 := nI_pos (n := n) (by omega)
    intro hz
    rcases hz with hz | hz | hz | hz | hz
    · exact absurd hz h1
    · exact absurd hz (by decide)
    · exact absurd hz (by decide)
    · omega
    · omega
  · unfold va_cpy
    rw [if_pos (by omega)]
    have : 0 + (j - 0) = j := by omega
    rw [this]
    exact p2 j hj
theorem YAt.bc (Ya : YAt h a F A c) (Yb : YAt h b F' A' c') (hd : far a b) (j : Nat) (hj : j < 7) {x : Int32} (hx : x = nI (if j < 4 then 8 else 10)) : ∃ h', zcpa h (b + (j + 1)) (a + (j + 1)) 0 0 x = some h' ∧ YAt h' a F (fun j' => if j' = j then A' j else A j') c ∧ YAt h' b F' A' c' ∧ zsm (yP a) h h' := by
  obtain ⟨h', e, hr, hz⟩ := zcpa_at (Yb.row j hj) (Ya.row j hj) (by split <;> omega) hx
  have hz' : zsm (yP a) h h' := hz.wk (fun _ e => yPj (j + 1) (by omega) e)
  refine ⟨h', e, ?_, Yb.keep (fun x h1 h2 => hz'.2 x (fun z => by have := z.1; have := z.2; unfold far at hd; omega)), hz'⟩
  obtain ⟨g1, g2, g3, g4, g, g5, g6⟩ := Ya
  refine ⟨(zcls_c (hz.2 _ (by omega))).trans g1, fun k hk => (zfld_c (hz.2 _ (by omega))).trans (g2 k hk), fun i hi => ?_, fun i h4 hi => ?_, g, (hz.2 _ (by omega)).trans g5, g6⟩
  · by_cases hq : i = j
    · subst hq
      simp only [if_true]
      rw [if_pos hi] at hr
      exact hr
    · simp only [if_neg hq]
      exact zrow_c (hz.2 _ (by omega)) (g3 i hi)
  · by_cases hq : i = j
    · subst hq
      simp only [if_true]
      rw [if_neg (by omega)] at hr
      exact hr
    · simp only [if_neg hq]
      exact zrow_c (hz.2 _ (by omega)) (g4 i h4 hi)
theorem YAt.bo (Ya : YAt h a F A c) (Yb : YAt h b F' A' c') (hd : far a b) (ha : a < 70) (hc : crO h c') (i : Nat) (hi : i < 4) {x : Int32} (hx : x = nI i) : ∃ h' v, zara h (b + 8) x = some v ∧ zaro h (a + 8) x v = some h' ∧ YAt h' a F A (va_up c i (c' i)) ∧ YAt h' b F' A' c' ∧ crO h' c' ∧ zsm (yP a) h h' := by
  subst hx
  have Yb' := Yb
  obtain ⟨-, -, -, -, g, g5, g6⟩ := Yb
  have Ya' := Ya
  obtain ⟨-, -, -, -, f, f5, f6⟩ := Ya
  have hz : zsm (yP a) h (zpo h (a + 8) i (c' i)) := zsm_po.wk (fun _ e => yPj 8 (by omega) e)
  refine ⟨zpo h (a + 8) i (c' i), va_rf (c' i), ?_, ?_, Ya'.po, Yb'.keep (fun x h1 h2 => hz.2 x (fun z => by have := z.1; have := z.2; unfold far at hd; omega)), hc.keep (hz.up ha), hz⟩
  · unfold zara
    rw [g5]
    simp only [zix_nI hi (by omega), nI_clamp (show i < 2 ^ 31 by omega), g6 i hi, zart]
    rfl
  · cases hq : c' i with
    | none => exact zaro_null f5 rfl hi (by omega)
    | some q =>
      obtain ⟨h1, cl, fs, h2, h3⟩ := hc i hi q hq
      exact zaro_at f5 h2 h3 hi (by omega)
theorem sp_become {E : zE} (Ya : YAt h a F A c) (Yb : YAt h b F' A' c') (hd : far a b) (ha : a < 70) (hc : crO h c') : ∃ h' B d, zcall zpp E 69 [.ref a, .ref b] h = some (none, h') ∧ zsm (yP a) h h' ∧ YAt h' a F' B d ∧ YAt h' b F' A' c' ∧ (∀ j, j < 7 → B j = A' j) ∧ (∀ i, i < 4 → d i = c' i) ∧ crO h' d ∧ crO h' c' := by
  obtain ⟨h1, r1, w1, Ya1, Yb1, z1⟩ := Ya.bf Yb hd 0 (by omega)
  have hc1 := hc.keep (z1.up ha)
  obtain ⟨h2, r2, w2, Ya2, Yb2, z2⟩ := Ya1.bf Yb1 hd 1 (by omega)
  have hc2 := hc1.keep (z2.up ha)
  obtain ⟨h3, r3, w3, Ya3, Yb3, z3⟩ := Ya2.bf Yb2 hd 2 (by omega)
  have hc3 := hc2.keep (z3.up ha)
  obtain ⟨h4, r4, w4, Ya4, Yb4, z4⟩ := Ya3.bf Yb3 hd 3 (by omega)
  have hc4 := hc3.keep (z4.up ha)
  obtain ⟨h5, r5, w5, Ya5, Yb5, z5⟩ := Ya4.bf Yb4 hd 4 (by omega)
  have hc5 := hc4.keep (z5.up ha)
  obtain ⟨h6, r6, w6, Ya6, Yb6, z6⟩ := Ya5.bf Yb5 hd 5 (by omega)
  have hc6 := hc5.keep (z6.up ha)
  have ra7 := Ya6.r6
  have rb7 := Yb6.r6
  obtain ⟨h7, w7', Ya7, Yb7, z7⟩ := Ya6.bc Yb6 hd 0 (by omega) (x := 8) rfl
  have w7 : zcpa _ (b + 1) (a + 1) 0 0 8 = some h7 := w7'
  have hc7 := hc6.keep (z7.up ha)
  have ra8 := Ya7.r7
  have rb8 := Yb7.r7
  obtain ⟨h8, w8', Ya8, Yb8, z8⟩ := Ya7.bc Yb7 hd 1 (by omega) (x := 8) rfl
  have w8 : zcpa _ (b + 2) (a + 2) 0 0 8 = some h8 := w8'
  have hc8 := hc7.keep (z8.up ha)
  have ra9 := Ya8.r8
  have rb9 := Yb8.r8
  obtain ⟨h9, w9', Ya9, Yb9, z9⟩ := Ya8.bc Yb8 hd 2 (by omega) (x := 8) rfl
  have w9 : zcpa _ (b + 3) (a + 3) 0 0 8 = some h9 := w9'
  have hc9 := hc8.keep (z9.up ha)
  have ra10 := Ya9.r9
  have rb10 := Yb9.r9
  obtain ⟨h10, w10', Ya10, Yb10, z10⟩ := Ya9.bc Yb9 hd 3 (by omega) (x := 8) rfl
  have w10 : zcpa _ (b + 4) (a + 4) 0 0 8 = some h10 := w10'
  have hc10 := hc9.keep (z10.up ha)
  have ra11 := Ya10.r10
  have rb11 := Yb10.r10
  obtain ⟨h11, w11', Ya11, Yb11, z11⟩ := Ya10.bc Yb10 hd 4 (by omega) (x := 10) rfl
  have w11 : zcpa _ (b + 5) (a + 5) 0 0 10 = some h11 := w11'
  have hc11 := hc10.keep (z11.up ha)
  have ra12 := Ya11.r11
  have rb12 := Yb11.r11
  obtain ⟨h12, w12', Ya12, Yb12, z12⟩ := Ya11.bc Yb11 hd 5 (by omega) (x := 10) rfl
  have w12 : zcpa _ (b + 6) (a + 6) 0 0 10 = some h12 := w12'
  have hc12 := hc11.keep (z12.up ha)
  have ra13 := Ya12.r12
  have rb13 := Yb12.r12
  obtain ⟨h13, w13', Ya13, Yb13, z13⟩ := Ya12.bc Yb12 hd 6 (by omega) (x := 10) rfl
  have w13 : zcpa _ (b + 7) (a + 7) 0 0 10 = some h13 := w13'
  have hc13 := hc12.keep (z13.up ha)
  have ra14 := Ya13.r13
  have rb14 := Yb13.r13
  obtain ⟨h14, v14, q14, w14, Ya14, Yb14, hc14, z14⟩ := Ya13.bo Yb13 hd ha hc13 0 (by omega) (x := 0) rfl
  have ra15 := Ya14.r13
  have rb15 := Yb14.r13
  obtain ⟨h15, v15, q15, w15, Ya15, Yb15, hc15, z15⟩ := Ya14.bo Yb14 hd ha hc14 1 (by omega) (x := 1) rfl
  have ra16 := Ya15.r13
  have rb16 := Yb15.r13
  obtain ⟨h16, v16, q16, w16, Ya16, Yb16, hc16, z16⟩ := Ya15.bo Yb15 hd ha hc15 2 (by omega) (x := 2) rfl
  have ra17 := Ya16.r13
  have rb17 := Yb16.r13
  obtain ⟨h17, v17, q17, w17, Ya17, Yb17, hc17, z17⟩ := Ya16.bo Yb16 hd ha hc16 3 (by omega) (x := 3) rfl
  obtain ⟨h18, r18, w18, Ya18, Yb18, z18⟩ := Ya17.bf Yb17 hd 14 (by omega)
  have hc18 := hc17.keep (z18.up ha)
  obtain ⟨h19, r19, w19, Ya19, Yb19, z19⟩ := Ya18.bf Yb18 hd 15 (by omega)
  have hc19 := hc18.keep (z19.up ha)
  obtain ⟨h20, r20, w20, Ya20, Yb20, z20⟩ := Ya19.bf Yb19 hd 16 (by omega)
  have hc20 := hc19.keep (z20.up ha)
  obtain ⟨h21, r21, w21, Ya21, Yb21, z21⟩ := Ya20.bf Yb20 hd 17 (by omega)
  have hc21 := hc20.keep (z21.up ha)
  have l0 : ((4 : Int32) ≤ 0) = False := by decide
  have l1 : ((4 : Int32) ≤ 1) = False := by decide
  have l2 : ((4 : Int32) ≤ 2) = False := by decide
  have l3 : ((4 : Int32) ≤ 3) = False := by decide
  have l4 : ((4 : Int32) ≤ 4) = True := by decide
  have p0 : (0 : Int32) + 1 = 1 := by decide
  have p1 : (1 : Int32) + 1 = 2 := by decide
  have p2 : (2 : Int32) + 1 = 3 := by decide
  have p3 : (3 : Int32) + 1 = 4 := by decide
  refine ⟨h21, _, _, ?_, ((((((((((((((((((((z1.tr z2).tr z3).tr z4).tr z5).tr z6).tr z7).tr z8).tr z9).tr z10).tr z11).tr z12).tr z13).tr z14).tr z15).tr z16).tr z17).tr z18).tr z19).tr z20).tr z21), Ya21.ext (fun k hk hq => ?_), Yb21, ?_, ?_, ?_, hc21⟩
  · simp only [ze69, zi69_0, zi69_0n, zi69_1, zi69_1n, zi69_2, zi69_5, zi69_8, zi69_8n, zi69_9, zi69_9n, zi69_10, zi69_13, zi69_16, zi69_16n, zi69_17, zi69_17n, zi69_18, zi69_21, zi69_24, zi69_24n, zi69_25, zi69_25n, zi69_26, zi69_29, zi69_32, zi69_32n, zi69_33, zi69_33n, zi69_34, zi69_37, zi69_40, zi69_40n, zi69_41, zi69_41n, zi69_42, zi69_45, zi69_48, zi69_48n, zi69_49, zi69_52, zi69_53, zi69_53n, zi69_54, zi69_57, zi69_58, zi69_60 (sk := []), zi69_63, zi69_63n, zi69_64, zi69_67, zi69_68, zi69_68n, zi69_69, zi69_72, zi69_73, zi69_75 (sk := []), zi69_78, zi69_78n, zi69_79, zi69_82, zi69_83, zi69_83n, zi69_84, zi69_87, zi69_88, zi69_90 (sk := []), zi69_93, zi69_93n, zi69_94, zi69_97, zi69_98, zi69_98n, zi69_99, zi69_102, zi69_103, zi69_105 (sk := []), zi69_108, zi69_108n, zi69_109, zi69_112, zi69_113, zi69_113n, zi69_114, zi69_117, zi69_118, zi69_120 (sk := []), zi69_123, zi69_123n, zi69_124, zi69_127, zi69_128, zi69_128n, zi69_129, zi69_132, zi69_133, zi69_135 (sk := []), zi69_138, zi69_138n, zi69_139, zi69_142, zi69_143, zi69_143n, zi69_144, zi69_147, zi69_148, zi69_150 (sk := []), zi69_153, zi69_154, zi69_155, zi69_156, zi69_157, zi69_160, zi69_160n, zi69_161, zi69_164, zi69_165, zi69_165n, zi69_166, zi69_169, zi69_170, zi69_171, zi69_172, zi69_175, zi69_178, zi69_178n, zi69_179, zi69_179n, zi69_180, zi69_183, zi69_186, zi69_186n, zi69_187, zi69_187n, zi69_188, zi69_191, zi69_194, zi69_194n, zi69_195, zi69_195n, zi69_196, zi69_199, zi69_202, zi69_202n, zi69_203, zi69_203n, zi69_204, zi69_207, zi69_210 (sk := []), zcl1, zlow_0, zlow_1, zlow_2, zlow_3, zlow_4, zfree_0, zfree_i, zfree_r, zfree_n, zfree_d, zfree_f, zfree_s, if_true, if_false, Option.bind_some, Option.toList_some, Option.toList_none, List.cons_append, List.nil_append, List.set_cons_zero, List.set_cons_succ, Bool.false_eq_true, reduceIte, zsw_c, zsw_n, Nat.reduceAdd, r1, w1, r2, w2, r3, w3, r4, w4, r5, w5, r6, w6, ra7, rb7, w7, ra8, rb8, w8, ra9, rb9, w9, ra10, rb10, w10, ra11, rb11, w11, ra12, rb12, w12, ra13, rb13, w13, ra14, rb14, q14, w14, ra15, rb15, q15, w15, ra16, rb16, q16, w16, ra17, rb17, q17, w17, r18, w18, r19, w19, r20, w20, r21, w21, l0, l1, l2, l3, l4, p0, p1, p2, p3]
  · have : k = 0 ∨ k = 1 ∨ k = 2 ∨ k = 3 ∨ k = 4 ∨ k = 5 ∨ k = 14 ∨ k = 15 ∨ k = 16 ∨ k = 17 := by omega
    rcases this with rfl | rfl | rfl | rfl | rfl | rfl | rfl | rfl | rfl | rfl
    all_goals rfl
  · intro j hj
    have : j = 0 ∨ j = 1 ∨ j = 2 ∨ j = 3 ∨ j = 4 ∨ j = 5 ∨ j = 6 := by omega
    rcases this with rfl | rfl | rfl | rfl | rfl | rfl | rfl
    all_goals rfl
  · intro i hi
    have : i = 0 ∨ i = 1 ∨ i = 2 ∨ i = 3 := by omega
    rcases this with rfl | rfl | rfl | rfl
    all_goals rfl
  · intro i hi q hq
    have : i = 0 ∨ i = 1 ∨ i = 2 ∨ i = 3 := by omega
    rcases this with rfl | rfl | rfl | rfl
    · exact hc21 0 (by omega) q hq
    · exact hc21 1 (by omega) q hq
    · exact hc21 2 (by omega) q hq
    · exact hc21 3 (by omega) q hq
end BEC
