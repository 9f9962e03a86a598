/-! THE TEXT: the model reads a lifter -/
def kdV (c : Nat) : Nat := if c = 116 then 1 else if c = 102 then 2 else if c = 112 then 3 else if c = 103 then 4 else if c = 110 then 5 else 0
section MLF
variable {E : zE} {h : zH} {sc T : Nat → Int32} {t : Nat → Nat} {L p : Nat} {N : Nat → Nat}
theorem sp_kindBy {c : Nat} (hc : c < 256) : zcall zpp E 166 [.int (nI c)] h = some (some (.int (if kdV c = 0 then -1000000 else nI (kdV c))), h) := by
  have g : ∀ d : Nat, d < 256 → (nI c = nI d) = (c = d) := fun d hd => nI_eqP (by omega) (by omega)
  have g1 : (nI c = 116) = (c = 116) := g 116 (by omega)
  have g2 : (nI c = 102) = (c = 102) := g 102 (by omega)
  have g3 : (nI c = 112) = (c = 112) := g 112 (by omega)
  have g4 : (nI c = 103) = (c = 103) := g 103 (by omega)
  have g5 : (nI c = 110) = (c = 110) := g 110 (by omega)
  unfold kdV
  by_cases c1 : c = 116
  · simp only [ze166, zi166_0, zi166_1, zi166_3, zi166_6, zi166_7, zi166_10, zi166_11, zi166_13, zi166_16, zi166_17, zi166_20, zi166_21, zi166_23, zi166_26, zi166_27, zi166_30, zi166_31, zi166_33, zi166_36, zi166_37, zi166_40, zi166_41, zi166_43, zi166_46, zi166_47, zi166_50, zi166_52 (sk := []), zcl1, zlow_0, zlow_1, zlow_2, zlow_3, zlow_4, zfree_0, zfree_i, zfree_r, zfree_n, zfree_d, zfree_f, zfree_s, if_true, if_false, Option.bind_some, Option.toList_some, Option.toList_none, List.cons_append, List.nil_append, List.set_cons_zero, List.set_cons_succ, Bool.false_eq_true, reduceIte, zsw_c, zsw_n, Nat.reduceAdd, g1, eq_true c1]
    rfl
  by_cases c2 : c = 102
  · simp only [ze166, zi166_0, zi166_1, zi166_3, zi166_6, zi166_7, zi166_10, zi166_11, zi166_13, zi166_16, zi166_17, zi166_20, zi166_21, zi166_23, zi166_26, zi166_27, zi166_30, zi166_31, zi166_33, zi166_36, zi166_37, zi166_40, zi166_41, zi166_43, zi166_46, zi166_47, zi166_50, zi166_52 (sk := []), zcl1, zlow_0, zlow_1, zlow_2, zlow_3, zlow_4, zfree_0, zfree_i, zfree_r, zfree_n, zfree_d, zfree_f, zfree_s, if_true, if_false, Option.bind_some, Option.toList_some, Option.toList_none, List.cons_append, List.nil_append, List.set_cons_zero, List.set_cons_succ, Bool.false_eq_true, reduceIte, zsw_c, zsw_n, Nat.reduceAdd, g1, g2, eq_false c1, eq_true c2]
    rfl
  by_cases c3 : c = 112
  · simp only [ze166, zi166_0, zi166_1, zi166_3, zi166_6, zi166_7, zi166_10, zi166_11, zi166_13, zi166_16, zi166_17, zi166_20, zi166_21, zi166_23, zi166_26, zi166_27, zi166_30, zi166_31, zi166_33, zi166_36, zi166_37, zi166_40, zi166_41, zi166_43, zi166_46, zi166_47, zi166_50, zi166_52 (sk := []), zcl1, zlow_0, zlow_1, zlow_2, zlow_3, zlow_4, zfree_0, zfree_i, zfree_r, zfree_n, zfree_d, zfree_f, zfree_s, if_true, if_false, Option.bind_some, Option.toList_some, Option.toList_none, List.cons_append, List.nil_append, List.set_cons_zero, List.set_cons_succ, Bool.false_eq_true, reduceIte, zsw_c, zsw_n, Nat.reduceAdd, g1, g2, g3, eq_false c1, eq_false c2, eq_true c3]
    rfl
  by_cases c4 : c = 103
  · simp only [ze166, zi166_0, zi166_1, zi166_3, zi166_6, zi166_7, zi166_10, zi166_11, zi166_13, zi166_16, zi166_17, zi166_20, zi166_21, zi166_23, zi166_26, zi166_27, zi166_30, zi166_31, zi166_33, zi166_36, zi166_37, zi166_40, zi166_41, zi166_43, zi166_46, zi166_47, zi166_50, zi166_52 (sk := []), zcl1, zlow_0, zlow_1, zlow_2, zlow_3, zlow_4, zfree_0, zfree_i, zfree_r, zfree_n, zfree_d, zfree_f, zfree_s, if_true, if_false, Option.bind_some, Option.toList_some, Option.toList_none, List.cons_append, List.nil_append, List.set_cons_zero, List.set_cons_succ, Bool.false_eq_true, reduceIte, zsw_c, zsw_n, Nat.reduceAdd, g1, g2, g3, g4, eq_false c1, eq_false c2, eq_false c3, eq_true c4]
    rfl
  by_cases c5 : c = 110
  · simp only [ze166, zi166_0, zi166_1, zi166_3, zi166_6, zi166_7, zi166_10, zi166_11, zi166_13, zi166_16, zi166_17, zi166_20, zi166_21, zi166_23, zi166_26, zi166_27, zi166_30, zi166_31, zi166_33, zi166_36, zi166_37, zi166_40, zi166_41, zi166_43, zi166_46, zi166_47, zi166_50, zi166_52 (sk := []), zcl1, zlow_0, zlow_1, zlow_2, zlow_3, zlow_4, zfree_0, zfree_i, zfree_r, zfree_n, zfree_d, zfree_f, zfree_s, if_true, if_false, Option.bind_some, Option.toList_some, Option.toList_none, List.cons_append, List.nil_append, List.set_cons_zero, List.set_cons_succ, Bool.false_eq_true, reduceIte, zsw_c, zsw_n, Nat.reduceAdd, g1, g2, g3, g4, g5, eq_false c1, eq_false c2, eq_false c3, eq_false c4, eq_true c5]
    rfl
  simp only [ze166, zi166_0, zi166_1, zi166_3, zi166_6, zi166_7, zi166_10, zi166_11, zi166_13, zi166_16, zi166_17, zi166_20, zi166_21, zi166_23, zi166_26, zi166_27, zi166_30, zi166_31, zi166_33, zi166_36, zi166_37, zi166_40, zi166_41, zi166_43, zi166_46, zi166_47, zi166_50, zi166_52 (sk := []), zcl1, zlow_0, zlow_1, zlow_2, zlow_3, zlow_4, zfree_0, zfree_i, zfree_r, zfree_n, zfree_d, zfree_f, zfree_s, if_true, if_false, Option.bind_some, Option.toList_some, Option.toList_none, List.cons_append, List.nil_append, List.set_cons_zero, List.set_cons_succ, Bool.false_eq_true, reduceIte, zsw_c, zsw_n, Nat.reduceAdd, g1, g2, g3, g4, g5, eq_false c1, eq_false c2, eq_false c3, eq_false c4, eq_false c5]
  try rfl
theorem kd_let (hT : tpO T t L) (hk : tkK t L p = 2) : kdF t L p = kdV (tkV t L p) ∧ tkV t L p < 256 := by
  have s : ∀ c, ltr c = true → ((sgN t L c p = true) = (tkV t L p = c)) := fun c hc => propext ⟨fun z => ((sg_l hT hc).mpr z).2, fun z => (sg_l hT hc).mp ⟨hk, z⟩⟩
  refine ⟨?_, ?_⟩
  · unfold kdF kdV
    simp only [s 116 rfl, s 102 rfl, s 112 rfl, s 103 rfl, s 110 rfl]
  · have hk' := hk
    unfold tkK at hk'
    split at hk'
    · omega
    · split at hk'
      · rename_i z1 z2
        have hf : fig (t p) = false := by
          cases hq : fig (t p)
          · rfl
          · rw [fig_ltr hq] at z2; cases z2
        unfold tkV
        rw [hf, if_neg (by decide)]
        exact (hT p (by omega)).1
      · split at hk'
        · split at hk' <;> omega
        · split at hk' <;> omega
theorem kd_no (hT : tpO T t L) (hk : ¬ tkK t L p = 2) : kdF t L p = 0 := by
  have s : ∀ c, ltr c = true → ¬ (sgN t L c p = true) := fun c hc z => hk ((sg_l hT hc).mpr z).1
  unfold kdF
  rw [if_neg (s 116 rfl), if_neg (s 102 rfl), if_neg (s 112 rfl), if_neg (s 103 rfl), if_neg (s 110 rfl)]
theorem mLifter (hL : L ≤ 120) (hT : tpO T t L) (hk : kdF t L p ≠ 0) (h5 : N 5 ≤ 4) (hS : MS h sc T t L (.inr p)) (hF : FR h N) : mR E 170 h sc T t L (lfN t L (kdF t L p) N p) (lfE t L N p) := by
  have c1 : zsel 11 [11, 157] = some 157 := rfl
  have c2 : zsel 11 [11, 159] = some 159 := rfl
  have c4 : zsel 11 [11, 161] = some 161 := rfl
  have c5 : zsel 11 [11, 162] = some 162 := rfl
  have k2 : tkK t L p = 2 := Classical.byContradiction fun z => hk (kd_no hT z)
  obtain ⟨kv, kl⟩ := kd_let hT k2
  have f14 := hS.1.i 14 rfl (by omega)
  rw [hS.2.2.2.2.2.2.2.2 (by omega)] at f14
  have kb := sp_kindBy (E := E) (h := h) kl
  rw [← kv, if_neg hk] at kb
  obtain ⟨lc, lc1, lc2⟩ := kdF_sg hk
  have hx : tkX t L p = p + 1 := (sg_tk (Or.inl lc1) lc2).2.2.1
  -- the first test
  have s0 : ∃ h0 sc0, zcall zpp E 170 [.ref 73] h = zrun zpp E 170 (23, [.ref 73, .int (nI (kdF t L p)), .retAddr 0], [], h0) ∧ MS h0 sc0 T t L (if N 5 = 4 then .inl (3, p) else .inr p) ∧ scQ sc sc0 ∧ zsm (fun a => a = 73) h h0 := by
    by_cases h8 : N 5 = 4
    · obtain ⟨h0, sc0, b1, b2, b3, b4⟩ := sp_bad (E := E) (k := 3) (by omega) hS
      have b1 : zcall zpp E 157 [.ref 73, .int 3] h = some (none, h0) := b1
      refine ⟨h0, sc0, ?_, by rw [if_pos h8]; exact b2, b3, b4⟩
      have e8 : nI (N 5) = 4 := by rw [h8]; rfl
      conv =>
        lhs
        simp only [ze170, zi170_0, zi170_0n, zi170_1, zi170_4, zi170_7, zi170_8, zi170_8n, zi170_9, zi170_12, zi170_13, zi170_14, zi170_15, zi170_18, zi170_18n, zi170_19, zi170_20, zcl1, zlow_0, zlow_1, zlow_2, zlow_3, zlow_4, zfree_0, zfree_i, zfree_r, zfree_n, zfree_d, zfree_f, zfree_s, if_true, if_false, Option.bind_some, Option.toList_some, Option.toList_none, List.cons_append, List.nil_append, List.set_cons_zero, List.set_cons_succ, Bool.false_eq_true, reduceIte, zsw_c, zsw_n, Nat.reduceAdd, f14, kb, hS.1.r6, hF.c 5 (by omega) (by omega) (x := 5) rfl, e8, hS.1.1, c1, b1]
    · refine ⟨h, sc, ?_, by rw [if_neg h8]; exact hS, scQ.rf sc, zsm.rf h⟩
      have e8 : ¬ nI (N 5) = 4 := by rw [show (4 : Int32) = nI 4 from rfl, nI_eqP (by omega) (by omega)]; exact h8
      conv =>
        lhs
        simp only [ze170, zi170_0, zi170_0n, zi170_1, zi170_4, zi170_7, zi170_8, zi170_8n, zi170_9, zi170_12, zi170_13, zi170_14, zi170_15, zi170_18, zi170_18n, zi170_19, zi170_20, zcl1, zlow_0, zlow_1, zlow_2, zlow_3, zlow_4, zfree_0, zfree_i, zfree_r, zfree_n, zfree_d, zfree_f, zfree_s, if_true, if_false, Option.bind_some, Option.toList_some, Option.toList_none, List.cons_append, List.nil_append, List.set_cons_zero, List.set_cons_succ, Bool.false_eq_true, reduceIte, zsw_c, zsw_n, Nat.reduceAdd, f14, kb, hS.1.r6, hF.c 5 (by omega) (by omega) (x := 5) rfl, eq_false e8]
  obtain ⟨h0, sc0, u0, S0, q0, z0⟩ := s0
  generalize he0 : (if N 5 = 4 then Sum.inl (3, p) else Sum.inr p : Sum (Nat × Nat) Nat) = e0 at *
  obtain ⟨h1, sc1, a1, S1, q1, z1⟩ := sp_must (E := E) (c := true) hL hT S0
  have a1 : zcall zpp E 159 [.ref 73, .int 1] h0 = some (none, h1) := a1
  obtain ⟨v2, ⟨h2, sc2, a2, S2, q2, z2⟩, w2⟩ := sp_numberM (E := E) (lo := 1) (hi := 40) hL hT (by omega) (by omega) S1
  have a2 : zcall zpp E 161 [.ref 73, .int 1, .int 40] h1 = some (some (.int (nI v2)), h2) := a2
  obtain ⟨h5', sc5, a5, S5, q5, z5⟩ := sp_mustSign (E := E) (c := 59) hL hT (Or.inr rfl) S2
  have a5 : zcall zpp E 162 [.ref 73, .int 59] h2 = some (none, h5') := a5
  have Z := ((z0.tr z1).tr z2).tr z5
  have Q := ((q0.tr q1).tr q2).tr q5
  have F5 := hF.k Z
  have mu : muB t L true (.inr p) = .inr (p + 1) := by
    show (if true = true then Sum.inr (tkX t L p) else Sum.inl (1, p)) = _
    rw [if_pos rfl, hx]
  have eE : lfE t L N p = sgB t L 59 (nmB t L 1 40 (muB t L true e0)) := by
    unfold lfE
    rw [← he0]
    split
    · rfl
    · rw [mu]
  rw [← eE] at S5
  have u5 : zcall zpp E 170 [.ref 73] h = (zfld [11] h5' 73 15).bind fun v => zrun zpp E 170 (46, [.ref 73, .int (nI (kdF t L p)), .int (nI v2)], [v], h5') := by
    rw [u0]
    conv =>
      lhs
      simp only [zi170_23, zi170_23n, zi170_24, zi170_25, zi170_28, zi170_28n, zi170_29, zi170_30, zi170_32, zi170_35, zi170_36, zi170_36n, zi170_37, zi170_39, zi170_42, zi170_42n, zi170_43, zcl1, zlow_0, zlow_1, zlow_2, zlow_3, zlow_4, zfree_0, zfree_i, zfree_r, zfree_n, zfree_d, zfree_f, zfree_s, if_true, if_false, Option.bind_some, Option.toList_some, Option.toList_none, List.cons_append, List.nil_append, List.set_cons_zero, List.set_cons_succ, Bool.false_eq_true, reduceIte, zsw_c, zsw_n, Nat.reduceAdd, S0.1.1, S1.1.1, S2.1.1, c2, c4, c5, a1, a2, a5]
  cases e5 : lfE t L N p with
  | inl x =>
    rw [e5] at S5
    refine ⟨h5', sc5, ?_, S5, F5.x, Q, Z.wk (fun a e => fP67 e)⟩
    obtain ⟨f, n⟩ := S5.f15l
    rw [u5, f]
    simp only [zi170_46, zi170_49, zi170_49n, zi170_50, zi170_53, zi170_55, zi170_56, zi170_56n, zi170_57, zi170_60, zi170_61, zi170_62, zi170_63, zi170_64, zi170_65, zi170_66, zi170_66n, zi170_67, zi170_70, zi170_72, zi170_73, zi170_73n, zi170_74, zi170_77, zi170_78, zi170_79, zi170_80, zi170_81, zi170_82, zi170_83, zi170_84, zi170_85, zi170_85n, zi170_86, zi170_89, zi170_90, zi170_91, zi170_92, zi170_93, zi170_94, zi170_95 (sk := []), zcl1, zlow_0, zlow_1, zlow_2, zlow_3, zlow_4, zfree_0, zfree_i, zfree_r, zfree_n, zfree_d, zfree_f, zfree_s, if_true, if_false, Option.bind_some, Option.toList_some, Option.toList_none, List.cons_append, List.nil_append, List.set_cons_zero, List.set_cons_succ, Bool.false_eq_true, reduceIte, zsw_c, zsw_n, Nat.reduceAdd, eq_false n]
  | inr q =>
    rw [e5] at S5
    have f := S5.f15r
    have e5' := e5
    unfold lfE at e5'
    split at e5'
    · cases e5'
    rename_i h8
    obtain ⟨p1, g1, -, -⟩ := sgB_in e5'
    obtain ⟨p2, g2, n2, m2⟩ := nmB_in g1
    cases g2
    rw [if_neg h8] at he0
    subst he0
    rw [mu] at w2
    have V2 : v2 = tkV t L (p + 1) := w2 _ rfl n2
    have W1 := F5.put (65 + 2 * N 5) (kdF t L p)
    have W2 := W1.put (66 + 2 * N 5) v2
    have W3 := W2.put 5 (N 5 + 1)
    have E3 : ∀ {H : zH} {M : Nat → Nat}, FW H M → M 5 = N 5 → zarr 0 H 78 5 = some (nI (N 5)) := fun {H M} hw hm => by rw [hw.c 5 (by omega) (x := 5) rfl, hm]
    have d5 := E3 F5 (by unfold nup; rw [if_neg (by omega)])
    have d1 := E3 W1 (by unfold nup; rw [if_neg (by omega), if_neg (by omega)])
    have d2 := E3 W2 (by unfold nup; rw [if_neg (by omega), if_neg (by omega), if_neg (by omega)])
    have M1 : MdO (zpa h5' 78 (65 + 2 * N 5) (nI (kdF t L p))) sc5 := S5.1.keep (zpa_o (by omega))
    have M2 : MdO (zpa (zpa h5' 78 (65 + 2 * N 5) (nI (kdF t L p))) 78 (66 + 2 * N 5) (nI v2)) sc5 := M1.keep (zpa_o (by omega))
    have S6 : MS (zpa (zpa (zpa h5' 78 (65 + 2 * N 5) (nI (kdF t L p))) 78 (66 + 2 * N 5) (nI v2)) 78 5 (nI (N 5 + 1))) sc5 T t L (.inr q) := S5.keep ((zpa_o (by omega)).trans ((zpa_o (by omega)).trans (zpa_o (by omega)))) ((zpa_o (by omega)).trans ((zpa_o (by omega)).trans (zpa_o (by omega))))
    refine ⟨_, sc5, ?_, S6, ?_, Q, (Z.wk (fun a e => fP67 e)).tr (((zsm_pa.wk (fun a e => fP72 e)).tr (zsm_pa.wk (fun a e => fP72 e))).tr (zsm_pa.wk (fun a e => fP72 e)))⟩
    · rw [u5, f]
      simp only [zi170_46, zi170_49, zi170_49n, zi170_50, zi170_53, zi170_55, zi170_56, zi170_56n, zi170_57, zi170_60, zi170_61, zi170_62, zi170_63, zi170_64, zi170_65, zi170_66, zi170_66n, zi170_67, zi170_70, zi170_72, zi170_73, zi170_73n, zi170_74, zi170_77, zi170_78, zi170_79, zi170_80, zi170_81, zi170_82, zi170_83, zi170_84, zi170_85, zi170_85n, zi170_86, zi170_89, zi170_90, zi170_91, zi170_92, zi170_93, zi170_94, zi170_95 (sk := []), zcl1, zlow_0, zlow_1, zlow_2, zlow_3, zlow_4, zfree_0, zfree_i, zfree_r, zfree_n, zfree_d, zfree_f, zfree_s, if_true, if_false, Option.bind_some, Option.toList_some, Option.toList_none, List.cons_append, List.nil_append, List.set_cons_zero, List.set_cons_succ, Bool.false_eq_true, reduceIte, zsw_c, zsw_n, Nat.reduceAdd, z00, S5.1.r6, d5, ix_65, F5.s (65 + 2 * N 5) (by omega) rfl, M1.r6, d1, ix_p1, W1.s (66 + 2 * N 5) (by omega) (x := nI (65 + 2 * N 5 + 1)) (congrArg nI (by omega)), M2.r6, d2, W2.s 5 (by omega) (x := 5) rfl]
    · show FW _ _
      refine W3.ext (fun i hi => ?_)
      have eN : lfN t L (kdF t L p) N p = lifN N (kdF t L p) v2 := by unfold lfN; rw [← V2]
      rw [eN]
      generalize kdF t L p = kd
      show nup (nup (nup (nup N 8 0) (65 + 2 * N 5) kd) (66 + 2 * N 5) v2) 5 (N 5 + 1) i = nup (lifN N kd v2) 8 0 i
      unfold nup lifN
      by_cases i3 : i = 5
      · rw [if_pos i3, if_neg (by omega), if_pos i3]
      · rw [if_neg i3]
        by_cases i8 : i = 8
        · rw [if_neg (by omega), if_neg (by omega), if_pos i8, if_pos i8]
        · rw [if_neg i8, if_neg i8, if_neg i3]
          by_cases i9 : i = 65 + 2 * N 5
          · rw [if_neg (by omega), if_pos i9, if_pos i9]
          · rw [if_neg i9, if_neg i9]
end MLF
