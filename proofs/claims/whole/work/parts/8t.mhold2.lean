/-! THE TEXT: the model reads a hold, the run -/
section MHP
variable {E : zE} {h : zH} {sc T : Nat → Int32} {t : Nat → Nat} {L p : Nat} {N : Nat → Nat}
theorem mHold (hL : L ≤ 120) (hT : tpO T t L) (hk : sgN t L 111 p = true ∨ sgN t L 99 p = true) (hN : NI N) (h3 : 1 ≤ N 3) (hS : MS h sc T t L (.inr p)) (hF : FR h N) : mR E 169 h sc T t L (hdN t L (soF t L p) N p) (hdE t L (soF t L p) N p) := by
  have c1 : zsel 11 [11, 157] = some 157 := rfl
  have c2 : zsel 11 [11, 159] = some 159 := rfl
  have c3 : zsel 11 [11, 168] = some 168 := rfl
  have c4 : zsel 11 [11, 161] = some 161 := rfl
  have c5 : zsel 11 [11, 162] = some 162 := rfl
  have h38 := hN.2.2.2.1
  have h4 := hN.2.2.2.2.1
  have hso := soF_le (t := t) (L := L) (p := p)
  have hx : tkX t L p = p + 1 := by
    rcases hk with z | z
    · exact (sg_tk (Or.inl (show ltr 111 = true from rfl)) z).2.2.1
    · exact (sg_tk (Or.inl (show ltr 99 = true from rfl)) z).2.2.1
  have k2 : tkK t L p = 2 := by
    rcases hk with z | z
    · exact ((sg_l hT (show ltr 111 = true from rfl)).mpr z).1
    · exact ((sg_l hT (show ltr 99 = true from rfl)).mpr z).1
  have f14 := hS.1.i 14 rfl (by omega)
  rw [hS.2.2.2.2.2.2.2.2 (by omega)] at f14
  have at4 := hF.c 4 (by omega) (by omega) (x := 4) rfl
  have u00 : zcall zpp E 169 [.ref 73] h = zrun zpp E 169 (15, [.ref 73, .int (nI (soF t L p)), .retAddr 0, .retAddr 0, .retAddr 0], [], h) := by
    by_cases hq : sgN t L 111 p = true
    · have e0 : soF t L p = 0 := if_pos hq
      have ev : tkV t L p = 111 := ((sg_l hT (show ltr 111 = true from rfl)).mpr hq).2
      rw [ev] at f14
      rw [e0]
      conv =>
        lhs
        simp only [ze169, zi169_0, zi169_0n, zi169_1, zi169_4, zi169_6, zi169_9, zi169_10, zi169_13, zi169_14, zcl1, zlow_0, zlow_1, zlow_2, zlow_3, zlow_4, zfree_0, zfree_i, zfree_r, zfree_n, zfree_d, zfree_f, zfree_s, if_true, if_false, Option.bind_some, Option.toList_some, Option.toList_none, List.cons_append, List.nil_append, List.set_cons_zero, List.set_cons_succ, Bool.false_eq_true, reduceIte, zsw_c, zsw_n, Nat.reduceAdd, f14, show (nI 111 = 99) = False by decide]
      rfl
    · have e0 : soF t L p = 1 := if_neg hq
      have hq2 : sgN t L 99 p = true := by
        rcases hk with z | z
        · exact absurd z hq
        · exact z
      have ev : tkV t L p = 99 := ((sg_l hT (show ltr 99 = true from rfl)).mpr hq2).2
      rw [ev] at f14
      rw [e0]
      conv =>
        lhs
        simp only [ze169, zi169_0, zi169_0n, zi169_1, zi169_4, zi169_6, zi169_9, zi169_10, zi169_13, zi169_14, zcl1, zlow_0, zlow_1, zlow_2, zlow_3, zlow_4, zfree_0, zfree_i, zfree_r, zfree_n, zfree_d, zfree_f, zfree_s, if_true, if_false, Option.bind_some, Option.toList_some, Option.toList_none, List.cons_append, List.nil_append, List.set_cons_zero, List.set_cons_succ, Bool.false_eq_true, reduceIte, zsw_c, zsw_n, Nat.reduceAdd, f14, show (nI 99 = 99) = True by decide]
      rfl
  have s0 : ∃ h0 sc0, zcall zpp E 169 [.ref 73] h = zrun zpp E 169 (31, [.ref 73, .int (nI (soF t L p)), .retAddr 0, .retAddr 0, .retAddr 0], [], h0) ∧ MS h0 sc0 T t L (if N 4 = 10 then .inl (3, p) else .inr p) ∧ scQ sc sc0 ∧ zsm (fun a => a = 73) h h0 := by
    by_cases h8 : N 4 = 10
    · obtain ⟨h0, sc0, b1, b2, b3, b4⟩ := sp_bad (E := E) (k := 3) (by omega) hS
      have b1 : zcall zpp E 157 [.ref 73, .int 3] h = some (none, h0) := b1
      refine ⟨h0, sc0, ?_, by rw [if_pos h8]; exact b2, b3, b4⟩
      have e8 : nI (N 4) = 10 := by rw [h8]; rfl
      rw [u00]
      conv =>
        lhs
        simp only [zi169_15, zi169_15n, zi169_16, zi169_19, zi169_20, zi169_21, zi169_23, zi169_26, zi169_26n, zi169_27, zi169_28, zcl1, zlow_0, zlow_1, zlow_2, zlow_3, zlow_4, zfree_0, zfree_i, zfree_r, zfree_n, zfree_d, zfree_f, zfree_s, if_true, if_false, Option.bind_some, Option.toList_some, Option.toList_none, List.cons_append, List.nil_append, List.set_cons_zero, List.set_cons_succ, Bool.false_eq_true, reduceIte, zsw_c, zsw_n, Nat.reduceAdd, hS.1.r6, at4, e8, hS.1.1, c1, b1]
    · refine ⟨h, sc, ?_, by rw [if_neg h8]; exact hS, scQ.rf sc, zsm.rf h⟩
      have e8 : ¬ nI (N 4) = 10 := by rw [show (10 : Int32) = nI 10 from rfl, nI_eqP (by omega) (by omega)]; exact h8
      rw [u00]
      conv =>
        lhs
        simp only [zi169_15, zi169_15n, zi169_16, zi169_19, zi169_20, zi169_21, zi169_23, zi169_26, zi169_26n, zi169_27, zi169_28, zcl1, zlow_0, zlow_1, zlow_2, zlow_3, zlow_4, zfree_0, zfree_i, zfree_r, zfree_n, zfree_d, zfree_f, zfree_s, if_true, if_false, Option.bind_some, Option.toList_some, Option.toList_none, List.cons_append, List.nil_append, List.set_cons_zero, List.set_cons_succ, Bool.false_eq_true, reduceIte, zsw_c, zsw_n, Nat.reduceAdd, hS.1.r6, at4, eq_false e8]
  obtain ⟨h0, sc0, u0, S0, q0, z0⟩ := s0
  generalize he0 : (if N 4 = 10 then Sum.inl (3, p) else Sum.inr p : Sum (Nat × Nat) Nat) = e0 at *
  obtain ⟨h1, sc1, a1, S1, q1, z1⟩ := sp_must (E := E) (c := true) hL hT S0
  have a1 : zcall zpp E 159 [.ref 73, .int 1] h0 = some (none, h1) := a1
  have m3 : nI (N 3) - 1 = nI (N 3 - 1) := ix_m1 (by omega)
  have F1 := hF.k (z0.tr z1)
  have at3 := F1.c 3 (by omega) (by omega) (x := 3) rfl
  obtain ⟨v2, ⟨h2, sc2, a2, S2, q2, z2⟩, w2⟩ := sp_numberM (E := E) (lo := 0) (hi := N 3 - 1) hL hT (by omega) (by omega) S1
  have a2 : zcall zpp E 161 [.ref 73, .int 0, .int (nI (N 3 - 1))] h1 = some (some (.int (nI v2)), h2) := a2
  obtain ⟨h3', sc3, a3, S3, q3, z3⟩ := sp_mustSign (E := E) (c := 44) hL hT (Or.inl rfl) S2
  have a3 : zcall zpp E 162 [.ref 73, .int 44] h2 = some (none, h3') := a3
  have u3 : zcall zpp E 169 [.ref 73] h = zrun zpp E 169 (56, [.ref 73, .int (nI (soF t L p)), .int (nI v2), .retAddr 0, .retAddr 0], [], h3') := by
    rw [u0]
    conv =>
      lhs
      simp only [zi169_31, zi169_31n, zi169_32, zi169_33, zi169_36, zi169_36n, zi169_37, zi169_38, zi169_38n, zi169_39, zi169_42, zi169_43, zi169_44, zi169_45, zi169_46, zi169_49, zi169_50, zi169_50n, zi169_51, zi169_53, zcl1, zlow_0, zlow_1, zlow_2, zlow_3, zlow_4, zfree_0, zfree_i, zfree_r, zfree_n, zfree_d, zfree_f, zfree_s, if_true, if_false, Option.bind_some, Option.toList_some, Option.toList_none, List.cons_append, List.nil_append, List.set_cons_zero, List.set_cons_succ, Bool.false_eq_true, reduceIte, zsw_c, zsw_n, Nat.reduceAdd, S0.1.1, S1.1.1, S2.1.1, S1.1.r6, at3, m3, c2, c4, c5, a1, a2, a3]
  have mu : muB t L true (.inr p) = .inr (p + 1) := by
    show (if true = true then Sum.inr (tkX t L p) else Sum.inl (1, p)) = _
    rw [if_pos rfl, hx]
  generalize he3 : sgB t L 44 (nmB t L 0 (N 3 - 1) (muB t L true e0)) = e3 at *
  have F3 := F1.k (z2.tr z3)
  -- what the first number was
  have V2 : ∀ q, e3 = .inr q → N 4 ≠ 10 ∧ v2 = tkV t L (p + 1) ∧ v2 < N 3 ∧ q = tkX t L (p + 1) + 1 := by
    intro q hq
    rw [hq] at he3
    obtain ⟨p1, g1, -, m1⟩ := sgB_in he3
    obtain ⟨p2, g2, n2, m2⟩ := nmB_in g1
    by_cases h8 : N 4 = 10
    · rw [if_pos h8] at he0; subst he0; cases g2
    · rw [if_neg h8] at he0
      subst he0
      have vv := w2 p2 g2 n2
      have rng := (nm_in n2).2
      rw [mu] at g2
      cases g2
      exact ⟨h8, vv, by omega, by omega⟩
  -- the test
  have s4 : ∃ h4' sc4, zcall zpp E 169 [.ref 73] h = zrun zpp E 169 (98, [.ref 73, .int (nI (soF t L p)), .int (nI v2), .retAddr 0, .retAddr 0], [], h4') ∧ MS h4' sc4 T t L (hdT t L (soF t L p) N v2 e3) ∧ scQ sc3 sc4 ∧ zsm (fun a => a = 73) h3' h4' := by
    cases e3 with
    | inl x =>
      obtain ⟨f, n⟩ := S3.f15l
      refine ⟨h3', sc3, ?_, S3, scQ.rf sc3, zsm.rf h3'⟩
      rw [u3]
      conv =>
        lhs
        simp only [zi169_56, zi169_56n, zi169_57, zi169_60, zcl1, zlow_0, zlow_1, zlow_2, zlow_3, zlow_4, zfree_0, zfree_i, zfree_r, zfree_n, zfree_d, zfree_f, zfree_s, if_true, if_false, Option.bind_some, Option.toList_some, Option.toList_none, List.cons_append, List.nil_append, List.set_cons_zero, List.set_cons_succ, Bool.false_eq_true, reduceIte, zsw_c, zsw_n, Nat.reduceAdd, f, eq_false n]
    | inr q =>
      obtain ⟨-, -, v2l, -⟩ := V2 q rfl
      have f := S3.f15r
      have f13 := S3.1.i 13 rfl (by omega)
      rw [S3.2.2.2.2.2.2.2.1] at f13
      have e13 : (nI (tkK t L q) = 3) = (tkK t L q = 3) := by
        rw [show (3 : Int32) = nI 3 from rfl]
        refine nI_eqP ?_ (by omega)
        unfold tkK
        split
        · omega
        · split
          · omega
          · split
            · split <;> omega
            · split <;> omega
      by_cases k3 : tkK t L q = 3
      · have f14' := S3.1.i 14 rfl (by omega)
        rw [S3.2.2.2.2.2.2.2.2 (by omega)] at f14'
        have vl := tk3_lt k3
        have ev : (nI (tkV t L q) = nI v2) = (tkV t L q = v2) := nI_eqP (by omega) (by omega)
        have hm := sp_isHeldM (E := E) (so := soF t L p) (a := v2) (b := tkV t L q) hso (by omega) (by omega) h4 (fun j hj => by have := hN.hh j hj; omega) S3.1 F3
        by_cases hh : tkV t L q = v2 ∨ heF N (soF t L p) v2 (tkV t L q) (N 4) = true
        · obtain ⟨hb, scb, b1, b2, b3, b4⟩ := sp_bad (E := E) (k := 2) (by omega) S3
          have b1 : zcall zpp E 157 [.ref 73, .int 2] h3' = some (none, hb) := b1
          refine ⟨hb, scb, ?_, by unfold hdT; dsimp only; rw [if_pos ⟨k3, hh⟩]; exact b2, b3, b4⟩
          rw [u3]
          by_cases hv : tkV t L q = v2
          · conv =>
              lhs
              simp only [zi169_56, zi169_56n, zi169_57, zi169_60, zi169_63, zi169_63n, zi169_64, zi169_67, zi169_68, zi169_71, zi169_71n, zi169_72, zi169_75, zi169_76, zi169_79, zi169_79n, zi169_80, zi169_81, zi169_82, zi169_82n, zi169_83, zi169_86, zi169_87, zi169_90, zi169_93, zi169_93n, zi169_94, zi169_95, zcl1, zlow_0, zlow_1, zlow_2, zlow_3, zlow_4, zfree_0, zfree_i, zfree_r, zfree_n, zfree_d, zfree_f, zfree_s, if_true, if_false, Option.bind_some, Option.toList_some, Option.toList_none, List.cons_append, List.nil_append, List.set_cons_zero, List.set_cons_succ, Bool.false_eq_true, reduceIte, zsw_c, zsw_n, Nat.reduceAdd, f, z00, f13, e13, eq_true k3, f14', ev, eq_true hv, S3.1.1, c1, b1]
          · have hh2 : heF N (soF t L p) v2 (tkV t L q) (N 4) = true := by
              rcases hh with z | z
              · exact absurd z hv
              · exact z
            rw [hh2] at hm
            conv =>
              lhs
              simp only [zi169_56, zi169_56n, zi169_57, zi169_60, zi169_63, zi169_63n, zi169_64, zi169_67, zi169_68, zi169_71, zi169_71n, zi169_72, zi169_75, zi169_76, zi169_79, zi169_79n, zi169_80, zi169_81, zi169_82, zi169_82n, zi169_83, zi169_86, zi169_87, zi169_90, zi169_93, zi169_93n, zi169_94, zi169_95, zcl1, zlow_0, zlow_1, zlow_2, zlow_3, zlow_4, zfree_0, zfree_i, zfree_r, zfree_n, zfree_d, zfree_f, zfree_s, if_true, if_false, Option.bind_some, Option.toList_some, Option.toList_none, List.cons_append, List.nil_append, List.set_cons_zero, List.set_cons_succ, Bool.false_eq_true, reduceIte, zsw_c, zsw_n, Nat.reduceAdd, f, z00, f13, e13, eq_true k3, f14', ev, eq_false hv, S3.1.1, c3, hm, zb_t, z10, c1, b1]
        · refine ⟨h3', sc3, ?_, by unfold hdT; dsimp only; rw [if_neg (fun z => hh z.2)]; exact S3, scQ.rf sc3, zsm.rf h3'⟩
          have hv : ¬ tkV t L q = v2 := fun z => hh (Or.inl z)
          have hh2 : heF N (soF t L p) v2 (tkV t L q) (N 4) = false := by
            cases hq : heF N (soF t L p) v2 (tkV t L q) (N 4)
            · rfl
            · exact absurd (Or.inr hq) hh
          rw [hh2] at hm
          rw [u3]
          conv =>
            lhs
            simp only [zi169_56, zi169_56n, zi169_57, zi169_60, zi169_63, zi169_63n, zi169_64, zi169_67, zi169_68, zi169_71, zi169_71n, zi169_72, zi169_75, zi169_76, zi169_79, zi169_79n, zi169_80, zi169_81, zi169_82, zi169_82n, zi169_83, zi169_86, zi169_87, zi169_90, zcl1, zlow_0, zlow_1, zlow_2, zlow_3, zlow_4, zfree_0, zfree_i, zfree_r, zfree_n, zfree_d, zfree_f, zfree_s, if_true, if_false, Option.bind_some, Option.toList_some, Option.toList_none, List.cons_append, List.nil_append, List.set_cons_zero, List.set_cons_succ, Bool.false_eq_true, reduceIte, zsw_c, zsw_n, Nat.reduceAdd, f, z00, f13, e13, eq_true k3, f14', ev, eq_false hv, S3.1.1, c3, hm, zb_f]
      · refine ⟨h3', sc3, ?_, by unfold hdT; dsimp only; rw [if_neg (fun z => k3 z.1)]; exact S3, scQ.rf sc3, zsm.rf h3'⟩
        rw [u3]
        conv =>
          lhs
          simp only [zi169_56, zi169_56n, zi169_57, zi169_60, zi169_63, zi169_63n, zi169_64, zi169_67, zi169_68, zcl1, zlow_0, zlow_1, zlow_2, zlow_3, zlow_4, zfree_0, zfree_i, zfree_r, zfree_n, zfree_d, zfree_f, zfree_s, if_true, if_false, Option.bind_some, Option.toList_some, Option.toList_none, List.cons_append, List.nil_append, List.set_cons_zero, List.set_cons_succ, Bool.false_eq_true, reduceIte, zsw_c, zsw_n, Nat.reduceAdd, f, z00, f13, e13, eq_false k3]
  obtain ⟨h4', sc4, u4, S4, q4, z4⟩ := s4
  have F4 := F3.k z4
  have bt3 := F4.c 3 (by omega) (by omega) (x := 3) rfl
  obtain ⟨v5, ⟨h5, sc5, a5, S5, q5, z5⟩, w5⟩ := sp_numberM (E := E) (lo := 0) (hi := N 3 - 1) hL hT (by omega) (by omega) S4
  have a5 : zcall zpp E 161 [.ref 73, .int 0, .int (nI (N 3 - 1))] h4' = some (some (.int (nI v5)), h5) := a5
  obtain ⟨h6, sc6, a6, S6, q6, z6⟩ := sp_mustSign (E := E) (c := 59) hL hT (Or.inr rfl) S5
  have a6 : zcall zpp E 162 [.ref 73, .int 59] h5 = some (none, h6) := a6
  have Z := (((((z0.tr z1).tr z2).tr z3).tr z4).tr z5).tr z6
  have Q := (((((q0.tr q1).tr q2).tr q3).tr q4).tr q5).tr q6
  have F6 := hF.k Z
  have u6 : zcall zpp E 169 [.ref 73] h = (zfld [11] h6 73 15).bind fun v => zrun zpp E 169 (122, [.ref 73, .int (nI (soF t L p)), .int (nI v2), .int (nI v5), .retAddr 0], [v], h6) := by
    rw [u4]
    conv =>
      lhs
      simp only [zi169_98, zi169_98n, zi169_99, zi169_100, zi169_100n, zi169_101, zi169_104, zi169_105, zi169_106, zi169_107, zi169_108, zi169_111, zi169_112, zi169_112n, zi169_113, zi169_115, zi169_118, zi169_118n, zi169_119, zcl1, zlow_0, zlow_1, zlow_2, zlow_3, zlow_4, zfree_0, zfree_i, zfree_r, zfree_n, zfree_d, zfree_f, zfree_s, if_true, if_false, Option.bind_some, Option.toList_some, Option.toList_none, List.cons_append, List.nil_append, List.set_cons_zero, List.set_cons_succ, Bool.false_eq_true, reduceIte, zsw_c, zsw_n, Nat.reduceAdd, S4.1.1, S5.1.1, S4.1.r6, bt3, m3, c4, c5, a5, a6]
  have eE : hdE t L (soF t L p) N p = sgB t L 59 (nmB t L 0 (N 3 - 1) (hdT t L (soF t L p) N v2 e3)) := by
    cases e3 with
    | inl x =>
      show _ = Sum.inl x
      unfold hdE
      by_cases h8 : N 4 = 10
      · rw [if_pos h8] at he0 ⊢
        subst he0
        exact he3
      · rw [if_neg h8] at he0 ⊢
        subst he0
        rw [mu] at he3
        rw [he3]
    | inr q =>
      obtain ⟨h8, vv, -, -⟩ := V2 q rfl
      rw [hdT_eq]
      unfold hdE
      rw [if_neg h8] at he0 ⊢
      subst he0
      rw [mu] at he3
      rw [he3, vv]
      dsimp only
      split
      · rfl
      · rfl
  rw [← eE] at S6
  cases e6 : hdE t L (soF t L p) N p with
  | inl x =>
    rw [e6] at S6
    refine ⟨h6, sc6, ?_, S6, F6.x, Q, Z.wk (fun a e => fP67 e)⟩
    obtain ⟨f, n⟩ := S6.f15l
    rw [u6, f]
    simp only [zi169_122, zi169_125, zi169_127, zi169_128, zi169_128n, zi169_129, zi169_132, zi169_133, zi169_134, zi169_135, zi169_136, zi169_138, zi169_138n, zi169_139, zi169_142, zi169_144, zi169_145, zi169_146, zi169_146n, zi169_147, zi169_150, zi169_152, zi169_153, zi169_154, zi169_155, zi169_156, zi169_156n, zi169_157, zi169_160, zi169_162, zi169_163, zi169_164, zi169_165, zi169_166, zi169_166n, zi169_167, zi169_170, zi169_171, zi169_172, zi169_173, zi169_174, zi169_175, zi169_176 (sk := []), zcl1, zlow_0, zlow_1, zlow_2, zlow_3, zlow_4, zfree_0, zfree_i, zfree_r, zfree_n, zfree_d, zfree_f, zfree_s, if_true, if_false, Option.bind_some, Option.toList_some, Option.toList_none, List.cons_append, List.nil_append, List.set_cons_zero, List.set_cons_succ, Bool.false_eq_true, reduceIte, zsw_c, zsw_n, Nat.reduceAdd, eq_false n]
  | inr q =>
    rw [e6] at S6
    have f := S6.f15r
    rw [e6] at eE
    obtain ⟨p1, g1, -, -⟩ := sgB_in eE.symm
    obtain ⟨p2, g2, n2, -⟩ := nmB_in g1
    have e3r : e3 = .inr p2 := by
      cases e3 with
      | inl x => cases g2
      | inr y =>
        unfold hdT at g2
        dsimp only at g2
        split at g2
        · cases g2
        · exact g2
    obtain ⟨h10, vv, -, m4⟩ := V2 p2 e3r
    have V5 : v5 = tkV t L (tkX t L (p + 1) + 1) := by rw [w5 p2 g2 n2, m4]
    have n4 : N 4 < 10 := by omega
    have z28 := hN.2.2.2.2.2.2.2.2.2.2.2 (N 4) n4
    generalize hsoq : soF t L p = so at *
    have ct4 := F6.c 4 (by omega) (by omega) (x := 4) rfl
    have W1 := FW.put F6 (25 + 4 * N 4) so
    have W2 := W1.put (26 + 4 * N 4) v2
    have W3 := W2.put (27 + 4 * N 4) v5
    have W4 := W3.put 4 (N 4 + 1)
    have d3 : zarr 0 (zpa (zpa (zpa h6 78 (25 + 4 * N 4) (nI so)) 78 (26 + 4 * N 4) (nI v2)) 78 (27 + 4 * N 4) (nI v5)) 78 4 = some (nI (N 4)) := by
      rw [W3.c 4 (by omega) (x := 4) rfl]
      unfold nup
      rw [if_neg (by omega), if_neg (by omega), if_neg (by omega), if_neg (by omega)]
    have M1 : MdO (zpa h6 78 (25 + 4 * N 4) (nI so)) sc6 := S6.1.keep (zpa_o (by omega))
    have M2 : MdO (zpa (zpa h6 78 (25 + 4 * N 4) (nI so)) 78 (26 + 4 * N 4) (nI v2)) sc6 := M1.keep (zpa_o (by omega))
    have M3 : MdO (zpa (zpa (zpa h6 78 (25 + 4 * N 4) (nI so)) 78 (26 + 4 * N 4) (nI v2)) 78 (27 + 4 * N 4) (nI v5)) sc6 := M2.keep (zpa_o (by omega))
    have S7 : MS (zpa (zpa (zpa (zpa h6 78 (25 + 4 * N 4) (nI so)) 78 (26 + 4 * N 4) (nI v2)) 78 (27 + 4 * N 4) (nI v5)) 78 4 (nI (N 4 + 1))) sc6 T t L (.inr q) := S6.keep ((zpa_o (by omega)).trans ((zpa_o (by omega)).trans ((zpa_o (by omega)).trans (zpa_o (by omega))))) ((zpa_o (by omega)).trans ((zpa_o (by omega)).trans ((zpa_o (by omega)).trans (zpa_o (by omega)))))
    refine ⟨_, sc6, ?_, S7, ?_, Q, (Z.wk (fun a e => fP67 e)).tr ((((zsm_pa.wk (fun a e => fP72 e)).tr (zsm_pa.wk (fun a e => fP72 e))).tr (zsm_pa.wk (fun a e => fP72 e))).tr (zsm_pa.wk (fun a e => fP72 e)))⟩
    · rw [u6, f]
      simp only [zi169_122, zi169_125, zi169_127, zi169_128, zi169_128n, zi169_129, zi169_132, zi169_133, zi169_134, zi169_135, zi169_136, zi169_138, zi169_138n, zi169_139, zi169_142, zi169_144, zi169_145, zi169_146, zi169_146n, zi169_147, zi169_150, zi169_152, zi169_153, zi169_154, zi169_155, zi169_156, zi169_156n, zi169_157, zi169_160, zi169_162, zi169_163, zi169_164, zi169_165, zi169_166, zi169_166n, zi169_167, zi169_170, zi169_171, zi169_172, zi169_173, zi169_174, zi169_175, zi169_176 (sk := []), zcl1, zlow_0, zlow_1, zlow_2, zlow_3, zlow_4, zfree_0, zfree_i, zfree_r, zfree_n, zfree_d, zfree_f, zfree_s, if_true, if_false, Option.bind_some, Option.toList_some, Option.toList_none, List.cons_append, List.nil_append, List.set_cons_zero, List.set_cons_succ, Bool.false_eq_true, reduceIte, zsw_c, zsw_n, Nat.reduceAdd, z00, S6.1.r6, ct4, ix_25, FW.s F6 (25 + 4 * N 4) (by omega) rfl, M1.r6, ix_p1, W1.s (26 + 4 * N 4) (by omega) (x := nI (25 + 4 * N 4 + 1)) (congrArg nI (by omega)), M2.r6, ix_p2, W2.s (27 + 4 * N 4) (by omega) (x := nI (25 + 4 * N 4 + 2)) (congrArg nI (by omega)), M3.r6, d3, W3.s 4 (by omega) (x := 4) rfl]
    · show FW _ _
      refine W4.ext (fun i hi => ?_)
      have eN : hdN t L so N p = holN N so v2 v5 := by unfold hdN; rw [← vv, ← V5]
      rw [eN]
      show nup (nup (nup (nup (nup N 8 0) (25 + 4 * N 4) so) (26 + 4 * N 4) v2) (27 + 4 * N 4) v5) 4 (N 4 + 1) i = nup (holN N so v2 v5) 8 0 i
      unfold nup holN
      by_cases i4 : i = 4
      · rw [if_pos i4, if_neg (by omega), if_pos i4]
      · rw [if_neg i4]
        by_cases i8 : i = 8
        · rw [if_neg (by omega), if_neg (by omega), if_neg (by omega), if_pos i8, if_pos i8]
        · rw [if_neg i8, if_neg i8, if_neg i4]
          by_cases i1 : i = 25 + 4 * N 4
          · rw [if_neg (by omega), if_neg (by omega), if_pos i1, if_pos i1]
          · rw [if_neg i1, if_neg i1]
            by_cases i2 : i = 26 + 4 * N 4
            · rw [if_neg (by omega), if_pos i2, if_pos i2]
            · rw [if_neg i2, if_neg i2]
              by_cases i3 : i = 27 + 4 * N 4
              · rw [if_pos i3, if_pos i3]
              · rw [if_neg i3, if_neg i3]
                by_cases i5 : i = 28 + 4 * N 4
                · rw [if_pos i5, i5, z28]
                · rw [if_neg i5]
end MHP
