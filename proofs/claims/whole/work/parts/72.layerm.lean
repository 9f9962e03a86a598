/-! LAYERS, the model's -/
section LYL
variable {E : zE} {sc : Nat → Int32} {N : Nat → Nat}
theorem lyJ {x K tm on k : Nat} {t : Nat → Nat} (hk : k < 8) (hon : on < 256) (hnk : on.testBit k = false) : ∀ (m j mj : Nat) (H : zH) (f : Nat → Int32), j + m = 8 → MdO H sc → zrow 0 H 83 8 f → (∀ i, i < 8 → on.testBit i = true → t i < 8 ∧ f i = nI (t i)) → f k = nI mj → mj ≤ 8 →
    ∃ (H' : zH) (f' : Nat → Int32) (T : Nat), zrun zpp E 206 (101, [.ref 73, .int (nI x), .int (nI K), .int (nI tm), .int (nI k), .int (nI on), .int (nI j)], [], H) = zrun zpp E 206 (167, [.ref 73, .int (nI x), .int (nI K), .int (nI tm), .int (nI k), .int (nI on), .int (nI 8)], [], H') ∧ zrow 0 H' 83 8 f' ∧ (∀ i, i ≠ k → f' i = f i) ∧ f' k = nI T ∧ T ≤ 8 ∧ mj ≤ T ∧ (∀ i, j ≤ i → i < 8 → on.testBit i = true → t i < T) ∧ (T = mj ∨ ∃ i, i < 8 ∧ on.testBit i = true ∧ T = t i + 1) ∧ zsm (fun a => a = 83) H H' := by
  intro m
  induction m with
  | zero =>
    intro j mj H f hj hM hf ht hfk hmj
    refine ⟨H, f, mj, ?_, hf, fun _ _ => rfl, hfk, hmj, Nat.le_refl _, fun i h1 h2 => by omega, Or.inl rfl, zsm.rf H⟩
    rw [show j = 8 by omega]
    conv =>
      lhs
      simp only [zi206_101, zi206_103, zcl1, zlow_0, zlow_1, zlow_2, zlow_3, zlow_4, zfree_0, zfree_i, zfree_r, zfree_n, zfree_d, zfree_f, zfree_s, if_true, if_false, Option.bind_some, Option.toList_some, Option.toList_none, List.cons_append, List.nil_append, List.set_cons_zero, List.set_cons_succ, Bool.false_eq_true, reduceIte, zsw_c, zsw_n, Nat.reduceAdd]
    rw [zi206_105, if_pos (by rw [show (8 : Int32) = nI 8 from rfl, nI_leP (by omega) (by omega)]; omega)]
  | succ m ih =>
    intro j mj H f hj hM hf ht hfk hmj
    have step : ∀ mj', mj' ≤ 8 → mj ≤ mj' → (on.testBit j = true → t j < mj') → (mj' = mj ∨ (on.testBit j = true ∧ mj' = t j + 1)) → zrun zpp E 206 (101, [.ref 73, .int (nI x), .int (nI K), .int (nI tm), .int (nI k), .int (nI on), .int (nI j)], [], H) = zrun zpp E 206 (101, [.ref 73, .int (nI x), .int (nI K), .int (nI tm), .int (nI k), .int (nI on), .int (nI (j + 1))], [], zpa H 83 k (nI mj')) → ∃ (H' : zH) (f' : Nat → Int32) (T : Nat), zrun zpp E 206 (101, [.ref 73, .int (nI x), .int (nI K), .int (nI tm), .int (nI k), .int (nI on), .int (nI j)], [], H) = zrun zpp E 206 (167, [.ref 73, .int (nI x), .int (nI K), .int (nI tm), .int (nI k), .int (nI on), .int (nI 8)], [], H') ∧ zrow 0 H' 83 8 f' ∧ (∀ i, i ≠ k → f' i = f i) ∧ f' k = nI T ∧ T ≤ 8 ∧ mj ≤ T ∧ (∀ i, j ≤ i → i < 8 → on.testBit i = true → t i < T) ∧ (T = mj ∨ ∃ i, i < 8 ∧ on.testBit i = true ∧ T = t i + 1) ∧ zsm (fun a => a = 83) H H' := by
      intro mj' h8 hle hlt hor e
      have hne : ∀ i, i ≠ k → upd f k (nI mj') i = f i := fun i hi => by unfold upd; rw [if_neg hi]
      obtain ⟨H', f', T, e1, g1, g2, g3, g4, g5, g6, g7, g8⟩ := ih (j + 1) mj' (zpa H 83 k (nI mj')) (upd f k (nI mj')) (by omega) hM.pa (zrow_pa hf) (fun i hi hb => ⟨(ht i hi hb).1, by
        rw [hne i (fun z => by rw [z, hnk] at hb; cases hb)]; exact (ht i hi hb).2⟩) (by unfold upd; rw [if_pos rfl]) h8
      refine ⟨H', f', T, e.trans e1, g1, fun i hi => (g2 i hi).trans (hne i hi), g3, g4, by omega, fun i h1 h2 h3 => ?_, ?_, zsm_pa.tr g8⟩
      · by_cases hij : i = j
        · subst hij
          have := hlt h3
          omega
        · exact g6 i (by omega) h2 h3
      · rcases g7 with g7 | g7
        · rcases hor with hor | ⟨h1, h2⟩
          · exact Or.inl (by omega)
          · exact Or.inr ⟨j, by omega, h1, by omega⟩
        · exact Or.inr g7
    have rk := zarr_at hf hk (by omega)
    have wk := fun v => zars_at (x := v) hf hk (by omega) zfits_i
    rw [hfk] at rk
    cases hb : on.testBit j
    · refine step mj hmj (Nat.le_refl _) (fun z => by rw [hb] at z; cases z) (Or.inl rfl) ?_
      conv =>
        lhs
        simp only [zi206_101, zi206_103, zcl1, zlow_0, zlow_1, zlow_2, zlow_3, zlow_4, zfree_0, zfree_i, zfree_r, zfree_n, zfree_d, zfree_f, zfree_s, if_true, if_false, Option.bind_some, Option.toList_some, Option.toList_none, List.cons_append, List.nil_append, List.set_cons_zero, List.set_cons_succ, Bool.false_eq_true, reduceIte, zsw_c, zsw_n, Nat.reduceAdd]
      rw [zi206_105, if_neg (by rw [show (8 : Int32) = nI 8 from rfl, nI_leP (by omega) (by omega)]; omega)]
      conv =>
        lhs
        simp only [zi206_108, zi206_108n, zi206_109, zi206_112, zi206_114, zi206_116, zi206_118, zi206_121, zi206_124, zi206_124n, zi206_125, zi206_128, zi206_130, zi206_131, zi206_131n, zi206_132, zi206_135, zi206_137, zi206_138, zi206_141, zi206_141n, zi206_142, zi206_145, zi206_147, zi206_148, zi206_149, zi206_150, zi206_153, zi206_153n, zi206_154, zi206_157, zi206_159, zi206_160, zi206_161, zi206_164, zcl1, zlow_0, zlow_1, zlow_2, zlow_3, zlow_4, zfree_0, zfree_i, zfree_r, zfree_n, zfree_d, zfree_f, zfree_s, if_true, if_false, Option.bind_some, Option.toList_some, Option.toList_none, List.cons_append, List.nil_append, List.set_cons_zero, List.set_cons_succ, Bool.false_eq_true, reduceIte, zsw_c, zsw_n, Nat.reduceAdd, hM.r20, sp_hasM8 hon (show j < 8 by omega), hb, zb_f, z00, rk, wk, ix_p1]
    · obtain ⟨t8, tj⟩ := ht j (by omega) hb
      have rj := zarr_at hf (show j < 8 by omega) (by omega)
      rw [tj] at rj
      by_cases hl : t j < mj
      · refine step mj hmj (Nat.le_refl _) (fun _ => hl) (Or.inl rfl) ?_
        conv =>
          lhs
          simp only [zi206_101, zi206_103, zcl1, zlow_0, zlow_1, zlow_2, zlow_3, zlow_4, zfree_0, zfree_i, zfree_r, zfree_n, zfree_d, zfree_f, zfree_s, if_true, if_false, Option.bind_some, Option.toList_some, Option.toList_none, List.cons_append, List.nil_append, List.set_cons_zero, List.set_cons_succ, Bool.false_eq_true, reduceIte, zsw_c, zsw_n, Nat.reduceAdd]
        rw [zi206_105, if_neg (by rw [show (8 : Int32) = nI 8 from rfl, nI_leP (by omega) (by omega)]; omega)]
        conv =>
          lhs
          simp only [zi206_108, zi206_108n, zi206_109, zi206_112, zi206_114, zi206_116, zi206_118, zi206_121, zi206_124, zi206_124n, zi206_125, zi206_128, zi206_130, zi206_131, zi206_131n, zi206_132, zi206_135, zi206_137, zi206_138, zi206_141, zi206_141n, zi206_142, zi206_145, zi206_147, zi206_148, zi206_149, zi206_150, zi206_153, zi206_153n, zi206_154, zi206_157, zi206_159, zi206_160, zi206_161, zi206_164, zcl1, zlow_0, zlow_1, zlow_2, zlow_3, zlow_4, zfree_0, zfree_i, zfree_r, zfree_n, zfree_d, zfree_f, zfree_s, if_true, if_false, Option.bind_some, Option.toList_some, Option.toList_none, List.cons_append, List.nil_append, List.set_cons_zero, List.set_cons_succ, Bool.false_eq_true, reduceIte, zsw_c, zsw_n, Nat.reduceAdd, hM.r20, sp_hasM8 hon (show j < 8 by omega), hb, zb_t, z10, rk, rj, nI_ltP (show t j < 2 ^ 31 by omega) (show mj < 2 ^ 31 by omega), eq_true hl, wk, ix_p1]
      · refine step (t j + 1) (by omega) (by omega) (fun _ => by omega) (Or.inr ⟨hb, rfl⟩) ?_
        conv =>
          lhs
          simp only [zi206_101, zi206_103, zcl1, zlow_0, zlow_1, zlow_2, zlow_3, zlow_4, zfree_0, zfree_i, zfree_r, zfree_n, zfree_d, zfree_f, zfree_s, if_true, if_false, Option.bind_some, Option.toList_some, Option.toList_none, List.cons_append, List.nil_append, List.set_cons_zero, List.set_cons_succ, Bool.false_eq_true, reduceIte, zsw_c, zsw_n, Nat.reduceAdd]
        rw [zi206_105, if_neg (by rw [show (8 : Int32) = nI 8 from rfl, nI_leP (by omega) (by omega)]; omega)]
        conv =>
          lhs
          simp only [zi206_108, zi206_108n, zi206_109, zi206_112, zi206_114, zi206_116, zi206_118, zi206_121, zi206_124, zi206_124n, zi206_125, zi206_128, zi206_130, zi206_131, zi206_131n, zi206_132, zi206_135, zi206_137, zi206_138, zi206_141, zi206_141n, zi206_142, zi206_145, zi206_147, zi206_148, zi206_149, zi206_150, zi206_153, zi206_153n, zi206_154, zi206_157, zi206_159, zi206_160, zi206_161, zi206_164, zcl1, zlow_0, zlow_1, zlow_2, zlow_3, zlow_4, zfree_0, zfree_i, zfree_r, zfree_n, zfree_d, zfree_f, zfree_s, if_true, if_false, Option.bind_some, Option.toList_some, Option.toList_none, List.cons_append, List.nil_append, List.set_cons_zero, List.set_cons_succ, Bool.false_eq_true, reduceIte, zsw_c, zsw_n, Nat.reduceAdd, hM.r20, sp_hasM8 hon (show j < 8 by omega), hb, zb_t, z10, rk, rj, nI_ltP (show t j < 2 ^ 31 by omega) (show mj < 2 ^ 31 by omega), eq_false hl, wk, ix_p1]
def IVN (N : Nat → Nat) (K : Nat) (f : Nat → Int32) : Prop := K < 256 ∧ ∀ j, j < 8 → K.testBit j = true → ∃ t, t < 8 ∧ f j = nI t ∧ levN N (N 8) j t
def RKN (N : Nat → Nat) (r k K : Nat) : Prop := (∀ b, b < N 3 → ∀ t, t < r → levN N (N 8) b t → K.testBit b = true) ∧ ∀ b, b < k → levN N (N 8) b r → K.testBit b = true
theorem lyK (hW : WF N) {x r : Nat} : ∀ (m k K : Nat) (H : zH) (f : Nat → Int32) (v5 v6 : Value), k + m = N 3 → MdO H sc → MY H N → zrow 0 H 83 8 f → IVN N K f → RKN N r k K →
    ∃ (K' : Nat) (H' : zH) (f' : Nat → Int32) (v4' v5' v6' : Value), zrun zpp E 206 (30, [.ref 73, .int (nI x), .int (nI K), .int (nI r), .int (nI k), v5, v6], [], H) = zrun zpp E 206 (180, [.ref 73, .int (nI x), .int (nI K'), .int (nI r), v4', v5', v6'], [], H') ∧ MdO H' sc ∧ MY H' N ∧ zrow 0 H' 83 8 f' ∧ IVN N K' f' ∧ RKN N r (N 3) K' ∧ zsm (fun a => a = 83) H H' := by
  have h3 := hW.2.2.2.1.2
  have hd := hW.d8
  have hdp := hW.2.2.2.2.2.2.1
  have m1 : zsel 11 [11, 183] = some 183 := rfl
  intro m
  induction m with
  | zero =>
    intro k K H f v5 v6 hk hM hY hf hI hR
    refine ⟨K, H, f, .int (nI k), v5, v6, ?_, hM, hY, hf, hI, by rw [← show k = N 3 by omega]; exact hR, zsm.rf H⟩
    conv =>
      lhs
      simp only [zi206_30, zi206_32, zi206_32n, zi206_33, zi206_36, zi206_37, zcl1, zlow_0, zlow_1, zlow_2, zlow_3, zlow_4, zfree_0, zfree_i, zfree_r, zfree_n, zfree_d, zfree_f, zfree_s, if_true, if_false, Option.bind_some, Option.toList_some, Option.toList_none, List.cons_append, List.nil_append, List.set_cons_zero, List.set_cons_succ, Bool.false_eq_true, reduceIte, zsw_c, zsw_n, Nat.reduceAdd, hM.r5, hY.c 3 (by decide) (x := 3) rfl]
    rw [zi206_38, if_pos (by rw [nI_leP (by omega) (by omega)]; omega)]
  | succ m ih =>
    intro k K H f v5 v6 hk hM hY hf hI hR
    have hab := abF_l hW (b := k)
    have hon := zand_k _ hab _ hd
    have hk8 : k < 8 := by omega
    have hd1 : zrun zpp E 206 (30, [.ref 73, .int (nI x), .int (nI K), .int (nI r), .int (nI k), v5, v6], [], H) = zrun zpp E 206 (41, [.ref 73, .int (nI x), .int (nI K), .int (nI r), .int (nI k), v5, v6], [], H) := by
      conv =>
        lhs
        simp only [zi206_30, zi206_32, zi206_32n, zi206_33, zi206_36, zi206_37, zcl1, zlow_0, zlow_1, zlow_2, zlow_3, zlow_4, zfree_0, zfree_i, zfree_r, zfree_n, zfree_d, zfree_f, zfree_s, if_true, if_false, Option.bind_some, Option.toList_some, Option.toList_none, List.cons_append, List.nil_append, List.set_cons_zero, List.set_cons_succ, Bool.false_eq_true, reduceIte, zsw_c, zsw_n, Nat.reduceAdd, hM.r5, hY.c 3 (by decide) (x := 3) rfl]
      rw [zi206_38, if_neg (by rw [nI_leP (by omega) (by omega)]; omega)]
    have bit : ∀ j, j < 8 → (abF N k (N 4) &&& N 8).testBit j = true → (abF N k (N 4)).testBit j = true ∧ (N 8).testBit j = true := fun j _ h => by
      rw [Nat.testBit_and, Bool.and_eq_true] at h; exact h
    by_cases hc : ((N 8).testBit k = true ∧ K.testBit k = false) ∧ ∀ j, j < 8 → (abF N k (N 4) &&& N 8).testBit j = true → K.testBit j = true
    · obtain ⟨⟨c1, c2⟩, c3⟩ := hc
      have hnk : (abF N k (N 4) &&& N 8).testBit k = false := by
        cases hq : (abF N k (N 4) &&& N 8).testBit k
        · rfl
        · rw [c3 k hk8 hq] at c2; cases c2
      have w0 := zars_at (x := 0) hf hk8 (by omega) zfits_i
      have hx : ∃ t : Nat → Nat, ∀ j, j < 8 → K.testBit j = true → t j < 8 ∧ f j = nI (t j) ∧ levN N (N 8) j (t j) := by
        have : ∀ j, ∃ t : Nat, j < 8 → K.testBit j = true → t < 8 ∧ f j = nI t ∧ levN N (N 8) j t := by
          intro j
          by_cases h : j < 8 ∧ K.testBit j = true
          · obtain ⟨t, ht⟩ := hI.2 j h.1 h.2
            exact ⟨t, fun _ _ => ht⟩
          · exact ⟨0, fun a b => absurd ⟨a, b⟩ h⟩
        exact ⟨fun j => Classical.choose (this j), fun j => Classical.choose_spec (this j)⟩
      obtain ⟨t, ht⟩ := hx
      have hne : ∀ i, i ≠ k → upd f k 0 i = f i := fun i hi => by unfold upd; rw [if_neg hi]
      obtain ⟨H', f', T, e1, g1, g2, g3, g4, g5, g6, g7, g8⟩ := lyJ (E := E) (sc := sc) (x := x) (K := K) (tm := r) (t := t) hk8 hon hnk 8 0 0 (zpa H 83 k 0) (upd f k 0) (by omega) hM.pa (zrow_pa hf) (fun i hi hb => ⟨(ht i hi (c3 i hi hb)).1, by
        rw [hne i (fun z => by rw [z, hnk] at hb; cases hb)]; exact (ht i hi (c3 i hi hb)).2.1⟩) (by unfold upd; rw [if_pos rfl]; rfl) (by omega)
      have hlev : levN N (N 8) k T := by
        refine lev_mk hW hd (by omega) c1 (fun j hj a1 a2 => ⟨t j, g6 j (by omega) hj (by rw [Nat.testBit_and, a1, a2]; rfl), (ht j hj (c3 j hj (by rw [Nat.testBit_and, a1, a2]; rfl))).2.2⟩) ?_
        rcases g7 with g7 | ⟨i, i1, i2, i3⟩
        · exact Or.inl g7
        · refine Or.inr ⟨i, i1, (bit i i1 i2).1, ?_⟩
          rw [i3, Nat.add_sub_cancel]
          exact (ht i i1 (c3 i i1 i2)).2.2
      have hT8 : T < 8 := Nat.lt_of_lt_of_le (lev_small hW hdp hd (by omega) hlev) h3
      have hz : zsm (fun a => a = 83) H H' := zsm_pa.tr g8
      have M2 : MdO H' sc := hM.keep (hz.2 73 (by omega))
      have Y2 : MY H' N := hY.keep (hz.2 77 (by omega))
      have pk := zput_k K hI.1 k hk8
      have I2 : IVN N (zput K k) f' := by
        refine ⟨pk.2, fun j hj hb => ?_⟩
        rw [zput_bit K hI.1 k hk8 j hj, Bool.or_eq_true, decide_eq_true_eq] at hb
        by_cases hjk : j = k
        · subst hjk
          exact ⟨T, hT8, g3, hlev⟩
        · rcases hb with hb | hb
          · obtain ⟨t1, t2, t3⟩ := ht j hj hb
            exact ⟨t j, t1, by rw [g2 j hjk, hne j hjk]; exact t2, t3⟩
          · exact absurd hb hjk
      have up : ∀ b, b < 8 → K.testBit b = true → (zput K k).testBit b = true := fun b hb8 h => by rw [zput_bit K hI.1 k hk8 b hb8, h]; rfl
      have R2 : RKN N r (k + 1) (zput K k) := by
        refine ⟨fun b hb u hu hL => up b (by omega) (hR.1 b hb u hu hL), fun b hb hL => ?_⟩
        by_cases hbk : b = k
        · subst hbk
          rw [zput_bit K hI.1 b hk8 b hk8]; simp
        · exact up b (by omega) (hR.2 b (by omega) hL)
      obtain ⟨K', H2, f2, v4', v5', v6', e2, q1, q2, q3, q4, q5, q6⟩ := ih (k + 1) (zput K k) H' f' (.int (nI (abF N k (N 4) &&& N 8))) (.int (nI 8)) (by omega) M2 Y2 g1 I2 R2
      refine ⟨K', H2, f2, v4', v5', v6', ?_, q1, q2, q3, q4, q5, hz.tr q6⟩
      rw [hd1, ← e2]
      have ea : zrun zpp E 206 (41, [.ref 73, .int (nI x), .int (nI K), .int (nI r), .int (nI k), v5, v6], [], H) = zrun zpp E 206 (101, [.ref 73, .int (nI x), .int (nI K), .int (nI r), .int (nI k), .int (nI (abF N k (N 4) &&& N 8)), .int (nI 0)], [], zpa H 83 k 0) := by
        conv =>
          lhs
          simp only [zi206_41, zi206_41n, zi206_42, zi206_44, zi206_47, zi206_47n, zi206_48, zi206_51, zi206_53, zi206_54, zi206_55, zi206_57, zi206_57n, zi206_58, zi206_61, zi206_63, zi206_64, zi206_66, zi206_69, zi206_72, zi206_73, zi206_75, zi206_78, zi206_81, zi206_83, zi206_84, zi206_85, zi206_86, zi206_87, zi206_90, zi206_90n, zi206_91, zi206_94, zi206_96, zi206_97, zi206_98, zi206_99, zcl1, zlow_0, zlow_1, zlow_2, zlow_3, zlow_4, zfree_0, zfree_i, zfree_r, zfree_n, zfree_d, zfree_f, zfree_s, if_true, if_false, Option.bind_some, Option.toList_some, Option.toList_none, List.cons_append, List.nil_append, List.set_cons_zero, List.set_cons_succ, Bool.false_eq_true, reduceIte, zsw_c, zsw_n, Nat.reduceAdd, hM.1, m1, sp_above hM hY hW hk8, hM.r5, hY.c 8 (by decide) (x := 8) rfl, zand_nI, sp_hasM8 hd hk8, c1, zb_t, z10, sp_hasM8 hI.1 hk8, c2, zb_f, z00, zsub_P hon, eq_true c3, hM.r20, w0]
        rfl
      rw [ea, e1]
      conv =>
        lhs
        simp only [zi206_167, zi206_168, zi206_169, zi206_171, zi206_172, zi206_173, zi206_174, zi206_177, zcl1, zlow_0, zlow_1, zlow_2, zlow_3, zlow_4, zfree_0, zfree_i, zfree_r, zfree_n, zfree_d, zfree_f, zfree_s, if_true, if_false, Option.bind_some, Option.toList_some, Option.toList_none, List.cons_append, List.nil_append, List.set_cons_zero, List.set_cons_succ, Bool.false_eq_true, reduceIte, zsw_c, zsw_n, Nat.reduceAdd, pk.1, ix_p1]
    · obtain ⟨K', H2, f2, v4', v5', v6', e2, q1, q2, q3, q4, q5, q6⟩ := ih (k + 1) K H f (.int (nI (abF N k (N 4) &&& N 8))) v6 (by omega) hM hY hf hI ⟨hR.1, fun b hb hL => by
        by_cases hbk : b = k
        · subst hbk
          cases hq : K.testBit b
          · refine absurd ⟨⟨?_, hq⟩, fun j hj hb => ?_⟩ hc
            · exact pl_mono hW hd (by omega) (t := 0) r (by rw [Nat.zero_add]; exact lev_bit hL)
            · obtain ⟨b1, b2⟩ := bit j hj hb
              obtain ⟨u, u1, u2⟩ := lev_ab hW hd hL hj b1 b2
              exact hR.1 j (abF_bitlt hW hj _ (Nat.le_refl _) b1) u u1 u2
          · rfl
        · exact hR.2 b (by omega) hL⟩
      refine ⟨K', H2, f2, v4', v5', v6', ?_, q1, q2, q3, q4, q5, q6⟩
      rw [hd1, ← e2]
      conv =>
        lhs
        simp only [zi206_41, zi206_41n, zi206_42, zi206_44, zi206_47, zi206_47n, zi206_48, zi206_51, zi206_53, zi206_54, zi206_55, zi206_57, zi206_57n, zi206_58, zi206_61, zi206_63, zi206_64, zi206_66, zi206_69, zi206_72, zi206_73, zi206_75, zi206_78, zi206_81, zi206_83, zi206_84, zi206_85, zi206_86, zi206_87, zi206_174, zi206_177, zcl1, zlow_0, zlow_1, zlow_2, zlow_3, zlow_4, zfree_0, zfree_i, zfree_r, zfree_n, zfree_d, zfree_f, zfree_s, if_true, if_false, Option.bind_some, Option.toList_some, Option.toList_none, List.cons_append, List.nil_append, List.set_cons_zero, List.set_cons_succ, Bool.false_eq_true, reduceIte, zsw_c, zsw_n, Nat.reduceAdd, hM.1, m1, sp_above hM hY hW hk8, hM.r5, hY.c 8 (by decide) (x := 8) rfl, zand_nI, sp_hasM8 hd hk8, sp_hasM8 hI.1 hk8, zb_0, zsub_P hon, ix_p1]
      cases c1 : (N 8).testBit k
      · simp only [if_true]
      · cases c2 : K.testBit k
        · have c3 : ¬ ∀ j, j < 8 → (abF N k (N 4) &&& N 8).testBit j = true → K.testBit j = true := fun z => hc ⟨⟨c1, c2⟩, z⟩
          simp only [if_true, Bool.true_eq_false, if_false, eq_false c3]
        · simp only [Bool.true_eq_false, if_false]
theorem lyO (hW : WF N) {x : Nat} : ∀ (m r K : Nat) (H : zH) (f : Nat → Int32) (v4 v5 v6 : Value), r + m = 8 → MdO H sc → MY H N → zrow 0 H 83 8 f → IVN N K f → RKN N r 0 K →
    ∃ (K' : Nat) (H' : zH) (f' : Nat → Int32) (v4' v5' v6' : Value), zrun zpp E 206 (21, [.ref 73, .int (nI x), .int (nI K), .int (nI r), v4, v5, v6], [], H) = zrun zpp E 206 (186, [.ref 73, .int (nI x), .int (nI K'), .int (nI 8), v4', v5', v6'], [], H') ∧ MdO H' sc ∧ MY H' N ∧ zrow 0 H' 83 8 f' ∧ IVN N K' f' ∧ RKN N 8 0 K' ∧ zsm (fun a => a = 83) H H' := by
  intro m
  induction m with
  | zero =>
    intro r K H f v4 v5 v6 hr hM hY hf hI hR
    rw [show r = 8 by omega] at hR ⊢
    refine ⟨K, H, f, v4, v5, v6, ?_, hM, hY, hf, hI, hR, zsm.rf H⟩
    conv =>
      lhs
      simp only [zi206_21, zi206_22, zcl1, zlow_0, zlow_1, zlow_2, zlow_3, zlow_4, zfree_0, zfree_i, zfree_r, zfree_n, zfree_d, zfree_f, zfree_s, if_true, if_false, Option.bind_some, Option.toList_some, Option.toList_none, List.cons_append, List.nil_append, List.set_cons_zero, List.set_cons_succ, Bool.false_eq_true, reduceIte, zsw_c, zsw_n, Nat.reduceAdd]
    rw [zi206_24, if_pos (by rw [show (8 : Int32) = nI 8 from rfl, nI_leP (by omega) (by omega)]; omega)]
  | succ m ih =>
    intro r K H f v4 v5 v6 hr hM hY hf hI hR
    obtain ⟨K1, H1, f1, u4, u5, u6, e1, p1, p2, p3, p4, p5, p6⟩ := lyK (E := E) (sc := sc) hW (x := x) (r := r) (N 3) 0 K H f v5 v6 (by omega) hM hY hf hI hR
    obtain ⟨K2, H2, f2, w4, w5, w6, e2, q1, q2, q3, q4, q5, q6⟩ := ih (r + 1) K1 H1 f1 u4 u5 u6 (by omega) p1 p2 p3 p4 ⟨fun b hb t ht hL => by
      by_cases htr : t = r
      · subst htr; exact p5.2 b hb hL
      · exact p5.1 b hb t (by omega) hL, fun b hb => by omega⟩
    refine ⟨K2, H2, f2, w4, w5, w6, ?_, q1, q2, q3, q4, q5, p6.tr q6⟩
    rw [← e2]
    have e3 : zrun zpp E 206 (180, [.ref 73, .int (nI x), .int (nI K1), .int (nI r), u4, u5, u6], [], H1) = zrun zpp E 206 (21, [.ref 73, .int (nI x), .int (nI K1), .int (nI (r + 1)), u4, u5, u6], [], H1) := by
      conv =>
        lhs
        simp only [zi206_180, zi206_183, zcl1, zlow_0, zlow_1, zlow_2, zlow_3, zlow_4, zfree_0, zfree_i, zfree_r, zfree_n, zfree_d, zfree_f, zfree_s, if_true, if_false, Option.bind_some, Option.toList_some, Option.toList_none, List.cons_append, List.nil_append, List.set_cons_zero, List.set_cons_succ, Bool.false_eq_true, reduceIte, zsw_c, zsw_n, Nat.reduceAdd, ix_p1]
    rw [← e3, ← e1]
    conv =>
      lhs
      simp only [zi206_21, zi206_22, zcl1, zlow_0, zlow_1, zlow_2, zlow_3, zlow_4, zfree_0, zfree_i, zfree_r, zfree_n, zfree_d, zfree_f, zfree_s, if_true, if_false, Option.bind_some, Option.toList_some, Option.toList_none, List.cons_append, List.nil_append, List.set_cons_zero, List.set_cons_succ, Bool.false_eq_true, reduceIte, zsw_c, zsw_n, Nat.reduceAdd]
    rw [zi206_24, if_neg (by rw [show (8 : Int32) = nI 8 from rfl, nI_leP (by omega) (by omega)]; omega)]
    conv =>
      lhs
      simp only [zi206_27, zi206_28, zcl1, zlow_0, zlow_1, zlow_2, zlow_3, zlow_4, zfree_0, zfree_i, zfree_r, zfree_n, zfree_d, zfree_f, zfree_s, if_true, if_false, Option.bind_some, Option.toList_some, Option.toList_none, List.cons_append, List.nil_append, List.set_cons_zero, List.set_cons_succ, Bool.false_eq_true, reduceIte, zsw_c, zsw_n, Nat.reduceAdd]
    rfl
theorem ok_layer {h : zH} {n : Nat} (hJ : J h n) {x : Int32} : OK E h n 110 206 [.int x] := by
  obtain ⟨y, s, v, sc, N, hJ, h1, hB⟩ := hJ
  have M1 := hJ.md.put 0 rfl (by omega) 0
  have w0 := hJ.md.st 0 rfl (by omega) 0
  have Y1 : MY (zpf h 73 0 (.int 0)) N := hJ.my.keep (zpf_o (by omega))
  have c1 : zsel 9 [9, 71] = some 71 := rfl
  have c2 : zsel 9 [9, 85] = some 85 := rfl
  have m1 : zsel 11 [11, 173] = some 173 := rfl
  have h3 := hJ.wg.h3
  rcases zlt_or x (n := N 3) (by omega) with hx | ⟨b, hb, rfl⟩
  · refine ⟨(-1000001), h, zpf h 73 0 (.int 0), ?_, ?_, hJ.q h1 hB⟩
    · simp only [ze110, zi110_0, zi110_0n, zi110_1, zi110_4, zi110_5, zi110_8, zi110_11, zi110_11n, zi110_12, zi110_15, zi110_16, zi110_19, zi110_22, zi110_24 (sk := []), zcl1, zlow_0, zlow_1, zlow_2, zlow_3, zlow_4, zfree_0, zfree_i, zfree_r, zfree_n, zfree_d, zfree_f, zfree_s, if_true, if_false, Option.bind_some, Option.toList_some, Option.toList_none, List.cons_append, List.nil_append, List.set_cons_zero, List.set_cons_succ, Bool.false_eq_true, reduceIte, zsw_c, zsw_n, Nat.reduceAdd, hJ.co.r7, hJ.yn.cls, c1, sp_hasBike hJ.yn, hx, zb_f, z00]
    · simp only [ze206, zi206_0, zi206_0n, zi206_1, zi206_2, zi206_5, zi206_5n, zi206_6, zi206_7, zi206_8, zi206_11, zi206_14, zi206_16 (sk := []), zcl1, zlow_0, zlow_1, zlow_2, zlow_3, zlow_4, zfree_0, zfree_i, zfree_r, zfree_n, zfree_d, zfree_f, zfree_s, if_true, if_false, Option.bind_some, Option.toList_some, Option.toList_none, List.cons_append, List.nil_append, List.set_cons_zero, List.set_cons_succ, Bool.false_eq_true, reduceIte, zsw_c, zsw_n, Nat.reduceAdd, w0, M1.1, m1, sp_isBikeM M1 Y1 rfl, hx, zb_f, z00]
  have hW := hJ.wg.wf (i := 3) (by omega) (by omega)
  have hx : zlt (nI b) (N 3) = true := by rw [zlt_nI (by omega) (by omega)]; simp [hb]
  have hd := hW.d8
  obtain ⟨s1, s2, s3, s4, s5, f, hf⟩ := hJ.scr
  obtain ⟨K, H, f', v4, v5, v6, e1, q1, q2, q3, q4, q5, q6⟩ := lyO (E := E) hW (x := b) 8 0 0 (zpf h 73 0 (.int 0)) f (.retAddr 0) (.retAddr 0) (.retAddr 0) (by omega) M1 Y1 (zrow_pf hf) ⟨by omega, fun j _ h => by rw [Nat.zero_testBit] at h; cases h⟩ ⟨fun b _ t ht => by omega, fun b hb => by omega⟩
  have em : zcall zpp E 206 [.ref 73, .int (nI b)] h = some (some (.int (if K.testBit b = true then f' b else -1000000)), H) := by
    have e0 : zcall zpp E 206 [.ref 73, .int (nI b)] h = zrun zpp E 206 (21, [.ref 73, .int (nI b), .int (nI 0), .int (nI 0), .retAddr 0, .retAddr 0, .retAddr 0], [], zpf h 73 0 (.int 0)) := by
      conv =>
        lhs
        simp only [ze206, zi206_0, zi206_0n, zi206_1, zi206_2, zi206_5, zi206_5n, zi206_6, zi206_7, zi206_8, zi206_11, zi206_14, zi206_16 (sk := []), zi206_17, zi206_18, zi206_19, zi206_20, zcl1, zlow_0, zlow_1, zlow_2, zlow_3, zlow_4, zfree_0, zfree_i, zfree_r, zfree_n, zfree_d, zfree_f, zfree_s, if_true, if_false, Option.bind_some, Option.toList_some, Option.toList_none, List.cons_append, List.nil_append, List.set_cons_zero, List.set_cons_succ, Bool.false_eq_true, reduceIte, zsw_c, zsw_n, Nat.reduceAdd, w0, M1.1, m1, sp_isBikeM M1 Y1 rfl, hx, zb_t, z10]
      rfl
    rw [e0, e1]
    cases hq : K.testBit b
    · simp only [zi206_186, zi206_187, zi206_188, zi206_191, zi206_194, zi206_194n, zi206_195, zi206_198, zi206_199, zi206_200, zi206_203, zi206_205 (sk := []), zcl1, zlow_0, zlow_1, zlow_2, zlow_3, zlow_4, zfree_0, zfree_i, zfree_r, zfree_n, zfree_d, zfree_f, zfree_s, if_true, if_false, Option.bind_some, Option.toList_some, Option.toList_none, List.cons_append, List.nil_append, List.set_cons_zero, List.set_cons_succ, Bool.false_eq_true, reduceIte, zsw_c, zsw_n, Nat.reduceAdd, sp_hasM8 q4.1 (show b < 8 by omega), hq, zb_f, z00]
    · simp only [zi206_186, zi206_187, zi206_188, zi206_191, zi206_194, zi206_194n, zi206_195, zi206_198, zi206_199, zi206_200, zi206_203, zi206_205 (sk := []), zcl1, zlow_0, zlow_1, zlow_2, zlow_3, zlow_4, zfree_0, zfree_i, zfree_r, zfree_n, zfree_d, zfree_f, zfree_s, if_true, if_false, Option.bind_some, Option.toList_some, Option.toList_none, List.cons_append, List.nil_append, List.set_cons_zero, List.set_cons_succ, Bool.false_eq_true, reduceIte, zsw_c, zsw_n, Nat.reduceAdd, sp_hasM8 q4.1 (show b < 8 by omega), hq, zb_t, z10, q1.r20, zarr_at q3 (show b < 8 by omega) (by omega)]
  obtain ⟨l1, l2⟩ := ly_ok hW hd hb (N 3) 0
  have ec : zcall zpp E 110 [.ref 0, .int (nI b)] h = some (some (.int (if K.testBit b = true then f' b else -1000000)), h) := by
    simp only [ze110, zi110_0, zi110_0n, zi110_1, zi110_4, zi110_5, zi110_8, zi110_11, zi110_11n, zi110_12, zi110_15, zi110_16, zi110_19, zi110_22, zi110_24 (sk := []), zcl1, zlow_0, zlow_1, zlow_2, zlow_3, zlow_4, zfree_0, zfree_i, zfree_r, zfree_n, zfree_d, zfree_f, zfree_s, if_true, if_false, Option.bind_some, Option.toList_some, Option.toList_none, List.cons_append, List.nil_append, List.set_cons_zero, List.set_cons_succ, Bool.false_eq_true, reduceIte, zsw_c, zsw_n, Nat.reduceAdd, hJ.co.r7, hJ.yn.cls, c1, sp_hasBike hJ.yn, hx, zb_t, z10, c2, sp_layerOf hW hJ.yn hb]
    congr 3
    have l1 : ∀ T, lyF N b (N 3) (N 8) 0 = some T → levN N (N 8) b T := l1
    have l2 : lyF N b (N 3) (N 8) 0 = none → ∀ T, 0 ≤ T → T < 0 + N 3 → ¬ levN N (N 8) b T := l2
    cases hq : K.testBit b
    · cases hl : lyF N b (N 3) (N 8) 0 with
      | none => rfl
      | some T =>
        have hL := l1 T hl
        have hT := lev_small hW hW.2.2.2.2.2.2.1 hd hb hL
        rw [q5.1 b hb T (by omega) hL] at hq
        cases hq
    · obtain ⟨t, t1, t2, t3⟩ := q4.2 b (by omega) hq
      cases hl : lyF N b (N 3) (N 8) 0 with
      | none => exact absurd t3 (l2 hl t (by omega) (by have := lev_small hW hW.2.2.2.2.2.2.1 hd hb t3; omega))
      | some T =>
        rw [lev_uniq hW hd hb (l1 T hl) t3]
        simp only [if_true]
        rw [t2]
  have J1 := hJ.mi 0 rfl (by omega) 0 (by omega) (by omega) (by omega) (by omega)
  have hz := q6.fr (fun a e => by cases e; omega)
  refine ⟨_, h, H, ec, em, y, s, v, _, N, J1.lay (hz.wk (fun a e => by omega)) ?_, h1, ((hB.sm zsm_pf).sm q6).up (by omega)⟩
  obtain ⟨⟨f1, g1⟩, ⟨f2, g2⟩, ⟨f3, g3⟩, ⟨f4, g4⟩, ⟨f5, g5⟩, -⟩ := J1.scr
  exact ⟨⟨f1, zrow_c (hz.1 _ (by omega) (by omega)) g1⟩, ⟨f2, zrow_c (hz.1 _ (by omega) (by omega)) g2⟩, ⟨f3, zrow_c (hz.1 _ (by omega) (by omega)) g3⟩, ⟨f4, zrow_c (hz.1 _ (by omega) (by omega)) g4⟩, ⟨f5, zrow_c (hz.1 _ (by omega) (by omega)) g5⟩, f', q3⟩
end LYL
