/-! THE COMPONENT's LEAST ROWS, laid -/
section DPE
variable {E : zE} {h : zH} {y s : Nat} {v : Int32} {N : Nat → Nat} {S : Nat} {g : Bool}
theorem LCt.keep {h' : zH} (hL : LCt N S g h) (e : h'[14]? = h[14]?) : LCt N S g h' := by
  obtain ⟨f, f1, f2⟩ := hL
  exact ⟨f, zrow_c e f1, f2⟩
/-- the component's costs of lifts: one bike -/
theorem lcB {b : Nat} (hys : yys y s) (hW : WF N) (hS : S < 256) (hb : b < N 3) : ∀ (m c : Nat) (H : zH) (f : Nat → Int32), c + m = zpc (caF N b (N 4)) + 1 → CO H y s v → YN H y N → zrow 0 H 14 64 f → (∀ b' c', b' < b → c' ≤ zpc (caF N b' (N 4)) → f (8 * b' + c') = nI (llN N S g b' c' (N 5))) → (∀ c', c' < c → f (8 * b + c') = nI (llN N S g b c' (N 5))) → ∃ (H' : zH) (f' : Nat → Int32) (v5 : Value), zrun zpp E 138 (30, [.ref 0, .int (nI S), .int (zb g), .int (nI b), .int (nI (zpc (caF N b (N 4)))), .int (nI c)], [], H) = zrun zpp E 138 (71, [.ref 0, .int (nI S), .int (zb g), .int (nI b), .int (nI (zpc (caF N b (N 4)))), v5], [], H') ∧ CO H' y s v ∧ YN H' y N ∧ zrow 0 H' 14 64 f' ∧ (∀ b' c', b' ≤ b → c' ≤ zpc (caF N b' (N 4)) → f' (8 * b' + c') = nI (llN N S g b' c' (N 5))) ∧ zsm (fun a => a = 14) H H' := by
  have h3 := hW.2.2.2.1.2
  have h7 := (caF_7 hW hb).2
  have c1 : zsel 10 [10, 139] = some 139 := rfl
  have hy := hys
  unfold yys at hy
  intro m
  induction m with
  | zero =>
    intro c H f hc hC hY hf e1 e2
    refine ⟨H, f, .int (nI c), ?_, hC, hY, hf, fun b' c' hb' hc' => ?_, zsm.rf H⟩
    · conv =>
        lhs
        simp only [zi138_30, zi138_32, zcl1, zlow_0, zlow_1, zlow_2, zlow_3, zlow_4, zfree_0, zfree_i, zfree_r, zfree_n, zfree_d, zfree_f, zfree_s, if_true, if_false, Option.bind_some, Option.toList_some, Option.toList_none, List.cons_append, List.nil_append, List.set_cons_zero, List.set_cons_succ, Bool.false_eq_true, reduceIte, zsw_c, zsw_n, Nat.reduceAdd]
      rw [zi138_34, if_pos (by rw [nI_ltP (by omega) (by omega)]; omega)]
    · by_cases hbb : b' = b
      · subst hbb
        exact e2 c' (by omega)
      · exact e1 b' c' (by omega) hc'
  | succ m ih =>
    intro c H f hc hC hY hf e1 e2
    have w := zars_at (j := 8 * b + c) (x := nI (llN N S g b c (N 5))) hf (by omega) (by omega) zfits_i
    have un : ∀ r, r ≠ 8 * b + c → upd f (8 * b + c) (nI (llN N S g b c (N 5))) r = f r := fun r hr => by unfold upd; rw [if_neg hr]
    obtain ⟨H', f', v5, a1, a2, a3, a4, a5, a6⟩ := ih (c + 1) (zpa H 14 (8 * b + c) (nI (llN N S g b c (N 5)))) (upd f (8 * b + c) (nI (llN N S g b c (N 5)))) (by omega) (hC.keep (zpa_o (by omega))) (hY.keep (fun a h1 h2 => zpa_o (by omega)) (fun a h1 c e => (zpa_o (by omega)).trans e)) (zrow_pa hf) (fun b' c' hb' hc' => by
      have := (caF_7 hW (show b' < N 3 by omega)).2
      rw [un _ (by omega)]
      exact e1 b' c' hb' hc') (fun c' hc' => by
      by_cases hcc : c' = c
      · subst hcc
        unfold upd
        rw [if_pos rfl]
      · rw [un _ (by omega)]
        exact e2 c' (by omega))
    refine ⟨H', f', v5, ?_, a2, a3, a4, a5, zsm_pa.tr a6⟩
    rw [← a1]
    conv =>
      lhs
      simp only [zi138_30, zi138_32, zcl1, zlow_0, zlow_1, zlow_2, zlow_3, zlow_4, zfree_0, zfree_i, zfree_r, zfree_n, zfree_d, zfree_f, zfree_s, if_true, if_false, Option.bind_some, Option.toList_some, Option.toList_none, List.cons_append, List.nil_append, List.set_cons_zero, List.set_cons_succ, Bool.false_eq_true, reduceIte, zsw_c, zsw_n, Nat.reduceAdd]
    rw [zi138_34, if_neg (by rw [nI_ltP (by omega) (by omega)]; omega)]
    have ne : ¬ (8 : Int32) ≤ nI c := by rw [show (8 : Int32) = nI 8 from rfl, nI_leP (by omega) (by omega)]; omega
    conv =>
      lhs
      simp only [zi138_37, zi138_39, zi138_41, zi138_44, zi138_44n, zi138_45, zi138_48, zi138_49, zi138_51, zi138_52, zi138_54, zi138_55, zi138_55n, zi138_56, zi138_57, zi138_58, zi138_60, zi138_61, zi138_64, zi138_65, zi138_68, zcl1, zlow_0, zlow_1, zlow_2, zlow_3, zlow_4, zfree_0, zfree_i, zfree_r, zfree_n, zfree_d, zfree_f, zfree_s, if_true, if_false, Option.bind_some, Option.toList_some, Option.toList_none, List.cons_append, List.nil_append, List.set_cons_zero, List.set_cons_succ, Bool.false_eq_true, reduceIte, zsw_c, zsw_n, Nat.reduceAdd, eq_false ne, hC.r5, ix_8, hC.1, c1, sp_leastLift hC hY hW hS hb (show c ≤ 10 by omega), w, ix_p1]
theorem lcA (hys : yys y s) (hW : WF N) (hS : S < 256) : ∀ (m b : Nat) (H : zH) (f : Nat → Int32) (v4 v5 : Value), b + m = N 3 → CO H y s v → YN H y N → zrow 0 H 14 64 f → (∀ b' c', b' < b → c' ≤ zpc (caF N b' (N 4)) → f (8 * b' + c') = nI (llN N S g b' c' (N 5))) → ∃ (H' : zH) (v4' v5' : Value), zrun zpp E 138 (2, [.ref 0, .int (nI S), .int (zb g), .int (nI b), v4, v5], [], H) = zrun zpp E 138 (77, [.ref 0, .int (nI S), .int (zb g), .int (nI (N 3)), v4', v5'], [], H') ∧ CO H' y s v ∧ YN H' y N ∧ LCt N S g H' ∧ zsm (fun a => a = 14) H H' := by
  have h3 := hW.2.2.2.1.2
  intro m
  induction m with
  | zero =>
    intro b H f v4 v5 hb hC hY hf e1
    refine ⟨H, v4, v5, ?_, hC, hY, ⟨f, hf, fun b' c' h1 h2 => e1 b' c' (by omega) h2⟩, zsm.rf H⟩
    rw [show b = N 3 by omega]
    conv =>
      lhs
      simp only [zi138_2, zi138_3, zi138_3n, zi138_4, zi138_7, zcl1, zlow_0, zlow_1, zlow_2, zlow_3, zlow_4, zfree_0, zfree_i, zfree_r, zfree_n, zfree_d, zfree_f, zfree_s, if_true, if_false, Option.bind_some, Option.toList_some, Option.toList_none, List.cons_append, List.nil_append, List.set_cons_zero, List.set_cons_succ, Bool.false_eq_true, reduceIte, zsw_c, zsw_n, Nat.reduceAdd, hC.r7, hY.f3]
    rw [zi138_10, if_pos (by rw [nI_leP (by omega) (by omega)]; omega)]
  | succ m ih =>
    intro b H f v4 v5 hb hC hY hf e1
    have hca := caF_7 hW (show b < N 3 by omega)
    obtain ⟨H1, f1, u5, a1, a2, a3, a4, a5, a6⟩ := lcB (E := E) (g := g) hys hW hS (show b < N 3 by omega) (zpc (caF N b (N 4)) + 1) 0 H f (by omega) hC hY hf e1 (fun c' hc' => by omega)
    obtain ⟨H2, t4, t5, b1, b2, b3, b4, b5⟩ := ih (b + 1) H1 f1 (.int (nI (zpc (caF N b (N 4))))) u5 (by omega) a2 a3 a4 (fun b' c' h1 h2 => a5 b' c' (by omega) h2)
    refine ⟨H2, t4, t5, ?_, b2, b3, b4, a6.tr b5⟩
    rw [← b1]
    have e3 : zrun zpp E 138 (71, [.ref 0, .int (nI S), .int (zb g), .int (nI b), .int (nI (zpc (caF N b (N 4)))), u5], [], H1) = zrun zpp E 138 (2, [.ref 0, .int (nI S), .int (zb g), .int (nI (b + 1)), .int (nI (zpc (caF N b (N 4)))), u5], [], H1) := by
      conv =>
        lhs
        simp only [zi138_71, zi138_74, zcl1, zlow_0, zlow_1, zlow_2, zlow_3, zlow_4, zfree_0, zfree_i, zfree_r, zfree_n, zfree_d, zfree_f, zfree_s, if_true, if_false, Option.bind_some, Option.toList_some, Option.toList_none, List.cons_append, List.nil_append, List.set_cons_zero, List.set_cons_succ, Bool.false_eq_true, reduceIte, zsw_c, zsw_n, Nat.reduceAdd, ix_p1]
    rw [← e3, ← a1]
    conv =>
      lhs
      simp only [zi138_2, zi138_3, zi138_3n, zi138_4, zi138_7, zcl1, zlow_0, zlow_1, zlow_2, zlow_3, zlow_4, zfree_0, zfree_i, zfree_r, zfree_n, zfree_d, zfree_f, zfree_s, if_true, if_false, Option.bind_some, Option.toList_some, Option.toList_none, List.cons_append, List.nil_append, List.set_cons_zero, List.set_cons_succ, Bool.false_eq_true, reduceIte, zsw_c, zsw_n, Nat.reduceAdd, hC.r7, hY.f3]
    rw [zi138_10, if_neg (by rw [nI_leP (by omega) (by omega)]; omega)]
    conv =>
      lhs
      simp only [zi138_13, zi138_13n, zi138_14, zi138_17, zi138_20, zi138_21, zi138_22, zi138_25, zi138_27, zi138_28, zcl1, zlow_0, zlow_1, zlow_2, zlow_3, zlow_4, zfree_0, zfree_i, zfree_r, zfree_n, zfree_d, zfree_f, zfree_s, if_true, if_false, Option.bind_some, Option.toList_some, Option.toList_none, List.cons_append, List.nil_append, List.set_cons_zero, List.set_cons_succ, Bool.false_eq_true, reduceIte, zsw_c, zsw_n, Nat.reduceAdd, hC.r7, hY.r9, hY.ca (show b < N 3 by omega) h3, sp_bitCount, (zbc_k _ hca.1).1]
    rfl
theorem lcD (hys : yys y s) (hW : WF N) : ∀ (m d : Nat) (H : zH) (v4 v5 : Value), d + m = N 8 + 1 → 1 ≤ d → CO H y s v → YN H y N → LCt N S g H → RCt N S g H d → ∃ H', zrun zpp E 138 (86, [.ref 0, .int (nI S), .int (zb g), .int (nI d), v4, v5], [], H) = some (some (.int (nI (eF (TT N S g (N 8))))), H') ∧ RCt N S g H' (N 8 + 1) ∧ zsm (fun a => a = 15) H H' := by
  have hd8 := hW.d8
  have c1 : zsel 10 [10, 141] = some 141 := rfl
  have hy := hys
  unfold yys at hy
  intro m
  induction m with
  | zero =>
    intro d H v4 v5 hd h1 hC hY hL hR
    rw [show d = N 8 + 1 by omega] at hR ⊢
    refine ⟨H, ?_, hR, zsm.rf H⟩
    obtain ⟨f, f1, f2⟩ := hR
    have g1 := zarr_at (j := N 8) f1 (by omega) (by omega)
    rw [f2 (N 8) (by omega) (sub8.rf _)] at g1
    simp only [zi138_86, zi138_87, zi138_87n, zi138_88, zi138_91, zcl1, zlow_0, zlow_1, zlow_2, zlow_3, zlow_4, zfree_0, zfree_i, zfree_r, zfree_n, zfree_d, zfree_f, zfree_s, if_true, if_false, Option.bind_some, Option.toList_some, Option.toList_none, List.cons_append, List.nil_append, List.set_cons_zero, List.set_cons_succ, Bool.false_eq_true, reduceIte, zsw_c, zsw_n, Nat.reduceAdd, hC.r7, hY.f15]
    rw [zi138_94, if_pos (by rw [nI_ltP (by omega) (by omega)]; omega)]
    simp only [zi138_128, zi138_128n, zi138_129, zi138_132, zi138_132n, zi138_133, zi138_136, zi138_139, zi138_140 (sk := []), zcl1, zlow_0, zlow_1, zlow_2, zlow_3, zlow_4, zfree_0, zfree_i, zfree_r, zfree_n, zfree_d, zfree_f, zfree_s, if_true, if_false, Option.bind_some, Option.toList_some, Option.toList_none, List.cons_append, List.nil_append, List.set_cons_zero, List.set_cons_succ, Bool.false_eq_true, reduceIte, zsw_c, zsw_n, Nat.reduceAdd, hC.r6, hC.r7, hY.f15, g1]
  | succ m ih =>
    intro d H v4 v5 hd h1 hC hY hL hR
    have e0 : zrun zpp E 138 (86, [.ref 0, .int (nI S), .int (zb g), .int (nI d), v4, v5], [], H) = zrun zpp E 138 (97, [.ref 0, .int (nI S), .int (zb g), .int (nI d), v4, v5], [], H) := by
      conv =>
        lhs
        simp only [zi138_86, zi138_87, zi138_87n, zi138_88, zi138_91, zcl1, zlow_0, zlow_1, zlow_2, zlow_3, zlow_4, zfree_0, zfree_i, zfree_r, zfree_n, zfree_d, zfree_f, zfree_s, if_true, if_false, Option.bind_some, Option.toList_some, Option.toList_none, List.cons_append, List.nil_append, List.set_cons_zero, List.set_cons_succ, Bool.false_eq_true, reduceIte, zsw_c, zsw_n, Nat.reduceAdd, hC.r7, hY.f15]
      rw [zi138_94, if_neg (by rw [nI_ltP (by omega) (by omega)]; omega)]
    have zs := zsub_P (a := d) (b := N 8) (by omega)
    by_cases hs : ∀ j, j < 8 → d.testBit j = true → (N 8).testBit j = true
    · have sl := sp_leastRest (E := E) hC hY hW hL hR (by omega) hs
      rw [lr_eq hW (by omega) (by omega)] at sl
      obtain ⟨f, f1, f2⟩ := hR
      have w := zars_at (j := d) (x := nI (eF (TT N S g d))) f1 (by omega) (by omega) zfits_i
      obtain ⟨H', a1, a2, a3⟩ := ih (d + 1) (zpa H 15 d (nI (eF (TT N S g d)))) v4 v5 (by omega) (by omega) (hC.keep (zpa_o (by omega))) (hY.keep (fun a h1 h2 => zpa_o (by omega)) (fun a h1 c e => (zpa_o (by omega)).trans e)) (hL.keep (zpa_o (by omega))) ⟨_, zrow_pa f1, fun r hr hsr => by
        unfold upd
        by_cases hrd : r = d
        · subst hrd
          rw [if_pos rfl]
        · rw [if_neg hrd]
          exact f2 r (by omega) hsr⟩
      refine ⟨H', ?_, a2, zsm_pa.tr a3⟩
      rw [← a1, e0]
      conv =>
        lhs
        simp only [zi138_97, zi138_98, zi138_98n, zi138_99, zi138_102, zi138_105, zi138_106, zi138_107, zi138_108, zi138_111, zi138_111n, zi138_112, zi138_115, zi138_116, zi138_116n, zi138_117, zi138_118, zi138_121, zi138_122, zi138_125, zcl1, zlow_0, zlow_1, zlow_2, zlow_3, zlow_4, zfree_0, zfree_i, zfree_r, zfree_n, zfree_d, zfree_f, zfree_s, if_true, if_false, Option.bind_some, Option.toList_some, Option.toList_none, List.cons_append, List.nil_append, List.set_cons_zero, List.set_cons_succ, Bool.false_eq_true, reduceIte, zsw_c, zsw_n, Nat.reduceAdd, hC.r7, hY.f15, zs, eq_true hs, hC.r6, hC.1, c1, sl, w, ix_p1]
    · obtain ⟨f, f1, f2⟩ := hR
      obtain ⟨H', a1, a2, a3⟩ := ih (d + 1) H v4 v5 (by omega) (by omega) hC hY hL ⟨f, f1, fun r hr hsr => by
        by_cases hrd : r = d
        · subst hrd
          exact absurd hsr hs
        · exact f2 r (by omega) hsr⟩
      refine ⟨H', ?_, a2, a3⟩
      rw [← a1, e0]
      conv =>
        lhs
        simp only [zi138_97, zi138_98, zi138_98n, zi138_99, zi138_102, zi138_105, zi138_106, zi138_107, zi138_108, zi138_111, zi138_111n, zi138_112, zi138_115, zi138_116, zi138_116n, zi138_117, zi138_118, zi138_121, zi138_122, zi138_125, zcl1, zlow_0, zlow_1, zlow_2, zlow_3, zlow_4, zfree_0, zfree_i, zfree_r, zfree_n, zfree_d, zfree_f, zfree_s, if_true, if_false, Option.bind_some, Option.toList_some, Option.toList_none, List.cons_append, List.nil_append, List.set_cons_zero, List.set_cons_succ, Bool.false_eq_true, reduceIte, zsw_c, zsw_n, Nat.reduceAdd, hC.r7, hY.f15, zs, eq_false hs, ix_p1]
theorem sp_leastCost {f q : Nat → Int32} (hys : yys y s) (hC : CO h y s v) (hY : YN h y N) (hW : WF N) (hS : S < 256) (hf : zrow 0 h 14 64 f) (hq : zrow 0 h 15 256 q) : ∃ H', zcall zpp E 138 [.ref 0, .int (nI S), .int (zb g)] h = some (some (.int (nI (eF (TT N S g (N 8))))), H') ∧ CO H' y s v ∧ YN H' y N ∧ LCt N S g H' ∧ RCt N S g H' (N 8 + 1) ∧ zsm (fun a => a = 14 ∨ a = 15) h H' := by
  have hy := hys
  unfold yys at hy
  obtain ⟨H1, u4, u5, a1, a2, a3, a4, a5⟩ := lcA (E := E) (g := g) hys hW hS (N 3) 0 h f (.retAddr 0) (.retAddr 0) (by omega) hC hY hf (fun b' c' h1 => by omega)
  have q1 : zrow 0 H1 15 256 q := zrow_c (a5.2 15 (by omega)) hq
  have w := zars_at (j := 0) (x := 0) q1 (by omega) (by omega) zfits_i
  have w : zars 0 H1 15 0 0 = some (zpa H1 15 0 0) := w
  obtain ⟨H2, b1, b2, b3⟩ := lcD (E := E) (S := S) (g := g) hys hW (N 8) 1 (zpa H1 15 0 0) u4 u5 (by omega) (by omega) (a2.keep (zpa_o (by omega))) (a3.keep (fun a h1 h2 => zpa_o (by omega)) (fun a h1 c e => (zpa_o (by omega)).trans e)) (a4.keep (zpa_o (by omega))) ⟨_, zrow_pa q1, fun r hr _ => by
    have : r = 0 := by omega
    subst this
    rfl⟩
  have z2 : zsm (fun a => a = 15) H1 H2 := zsm_pa.tr b3
  refine ⟨H2, ?_, a2.keep (z2.2 0 (by omega)), a3.keep (fun a h1 h2 => z2.2 a (by omega)) (fun a h1 c e => (z2.2 a (by omega)).trans e), a4.keep (z2.2 14 (by omega)), b2, (a5.wk (fun a e => Or.inl e)).tr (z2.wk (fun a e => Or.inr e))⟩
  have e0 : zcall zpp E 138 [.ref 0, .int (nI S), .int (zb g)] h = zrun zpp E 138 (2, [.ref 0, .int (nI S), .int (zb g), .int (nI 0), .retAddr 0, .retAddr 0], [], h) := by
    conv =>
      lhs
      simp only [ze138, zi138_0, zi138_1, zcl1, zlow_0, zlow_1, zlow_2, zlow_3, zlow_4, zfree_0, zfree_i, zfree_r, zfree_n, zfree_d, zfree_f, zfree_s, if_true, if_false, Option.bind_some, Option.toList_some, Option.toList_none, List.cons_append, List.nil_append, List.set_cons_zero, List.set_cons_succ, Bool.false_eq_true, reduceIte, zsw_c, zsw_n, Nat.reduceAdd]
    rfl
  rw [e0, a1, ← b1]
  conv =>
    lhs
    simp only [zi138_77, zi138_77n, zi138_78, zi138_81, zi138_82, zi138_83, zi138_84, zi138_85, zcl1, zlow_0, zlow_1, zlow_2, zlow_3, zlow_4, zfree_0, zfree_i, zfree_r, zfree_n, zfree_d, zfree_f, zfree_s, if_true, if_false, Option.bind_some, Option.toList_some, Option.toList_none, List.cons_append, List.nil_append, List.set_cons_zero, List.set_cons_succ, Bool.false_eq_true, reduceIte, zsw_c, zsw_n, Nat.reduceAdd, a2.r6, w]
  rfl
end DPE
