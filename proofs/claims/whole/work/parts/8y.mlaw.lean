/-! THE TEXT: the model reads the law -/
theorem mLaw {E : zE} {h : zH} {sc T : Nat → Int32} {t : Nat → Nat} {L : Nat} {v : Value} (hL : L ≤ 120) (hT : tpO T t L) (hS : MS h sc T t L (.inr 0)) (hF : FW h (fun _ => 0)) : mL E 30 97 v h sc T t L (ydW t L) := by
  have c2 : zsel 11 [11, 159] = some 159 := rfl
  have c3 : zsel 11 [11, 160] = some 160 := rfl
  have c4 : zsel 11 [11, 161] = some 161 := rfl
  have c5 : zsel 11 [11, 162] = some 162 := rfl
  have l0 : zcall zpp E 160 [.ref 73, .int 121] h = some (some (.int (zb (sgE t L 121 (.inr 0)))), h) := sp_isLetter (E := E) (c := 121) hT rfl hS
  obtain ⟨h1, sc1, a1, S1, q1, z1⟩ := sp_must (E := E) (c := sgE t L 121 (.inr 0)) hL hT hS
  have mu : muB t L (sgE t L 121 (.inr 0)) (.inr 0) = sgB t L 121 (.inr 0) := by
    show (if sgN t L 121 0 = true then Sum.inr (tkX t L 0) else Sum.inl (1, 0)) = (if sgN t L 121 0 = true then Sum.inr (0 + 1) else Sum.inl (1, 0))
    by_cases hq : sgN t L 121 0 = true
    · rw [if_pos hq, if_pos hq, (sg_tk (Or.inl (show ltr 121 = true from rfl)) hq).2.2.1]
    · rw [if_neg hq, if_neg hq]
  rw [mu] at S1
  obtain ⟨v2, ⟨h2, sc2, a2, S2, q2, z2⟩, w2⟩ := sp_numberM (E := E) (lo := 1) (hi := 9) hL hT (by omega) (by omega) S1
  have a2 : zcall zpp E 161 [.ref 73, .int 1, .int 9] h1 = some (some (.int (nI v2)), h2) := a2
  have F2 : FW h2 (fun _ => 0) := zrow_c ((z1.tr z2).2 78 (by omega)) hF
  have W2 := F2.put 0 v2
  have s2 := F2.s 0 (by omega) (x := 0) (v := nI v2) rfl
  have T2 : MS (zpa h2 78 0 (nI v2)) sc2 T t L _ := S2.keep (zpa_o (by omega)) (zpa_o (by omega))
  obtain ⟨h3, sc3, a3, S3, q3, z3⟩ := sp_mustSign (E := E) (c := 44) hL hT (Or.inl rfl) T2
  have a3 : zcall zpp E 162 [.ref 73, .int 44] (zpa h2 78 0 (nI v2)) = some (none, h3) := a3
  obtain ⟨v4, ⟨h4, sc4, a4, S4, q4, z4⟩, w4⟩ := sp_numberM (E := E) (lo := 0) (hi := 9) hL hT (by omega) (by omega) S3
  have a4 : zcall zpp E 161 [.ref 73, .int 0, .int 9] h3 = some (some (.int (nI v4)), h4) := a4
  have F4 : FW h4 (nup (fun _ => 0) 0 v2) := zrow_c ((z3.tr z4).2 78 (by omega)) W2
  have W4 := F4.put 1 v4
  have s4 := F4.s 1 (by omega) (x := 1) (v := nI v4) rfl
  have T4 : MS (zpa h4 78 1 (nI v4)) sc4 T t L _ := S4.keep (zpa_o (by omega)) (zpa_o (by omega))
  obtain ⟨h5, sc5, a5, S5, q5, z5⟩ := sp_mustSign (E := E) (c := 44) hL hT (Or.inl rfl) T4
  have a5 : zcall zpp E 162 [.ref 73, .int 44] (zpa h4 78 1 (nI v4)) = some (none, h5) := a5
  obtain ⟨v6, ⟨h6, sc6, a6, S6, q6, z6⟩, w6⟩ := sp_numberM (E := E) (lo := 0) (hi := 20) hL hT (by omega) (by omega) S5
  have a6 : zcall zpp E 161 [.ref 73, .int 0, .int 20] h5 = some (some (.int (nI v6)), h6) := a6
  have F6 : FW h6 (nup (nup (fun _ => 0) 0 v2) 1 v4) := zrow_c ((z5.tr z6).2 78 (by omega)) W4
  have W6 := F6.put 2 v6
  have s6 := F6.s 2 (by omega) (x := 2) (v := nI v6) rfl
  have T6 : MS (zpa h6 78 2 (nI v6)) sc6 T t L _ := S6.keep (zpa_o (by omega)) (zpa_o (by omega))
  obtain ⟨h7, sc7, a7, S7, q7, z7⟩ := sp_mustSign (E := E) (c := 59) hL hT (Or.inr rfl) T6
  have a7 : zcall zpp E 162 [.ref 73, .int 59] (zpa h6 78 2 (nI v6)) = some (none, h7) := a7
  have F7 : FW h7 (nup (nup (nup (fun _ => 0) 0 v2) 1 v4) 2 v6) := zrow_c (z7.2 78 (by omega)) W6
  have S7 : MS h7 sc7 T t L (lwE t L) := S7
  have p67 : ∀ {A B : zH}, zsm (fun a => a = 73) A B → zsm fP A B := fun z => z.wk (fun a e => fP67 e)
  have p72 : ∀ {A : zH} {i : Nat} {w : Int32}, zsm fP A (zpa A 78 i w) := zsm_pa.wk (fun a e => fP72 e)
  refine ⟨h7, sc7, ?_, S7, ?_, (((((q1.tr q2).tr q3).tr q4).tr q5).tr q6).tr q7, (((((((((p67 z1).tr (p67 z2)).tr p72).tr (p67 z3)).tr (p67 z4)).tr p72).tr (p67 z5)).tr (p67 z6)).tr p72).tr (p67 z7)⟩
  · conv =>
      lhs
      simp only [zi171_30, zi171_30n, zi171_31, zi171_31n, zi171_32, zi171_34, zi171_37, zi171_40, zi171_40n, zi171_41, zi171_44, zi171_45, zi171_45n, zi171_46, zi171_47, zi171_49, zi171_52, zi171_53, zi171_53n, zi171_54, zi171_56, zi171_59, zi171_59n, zi171_60, zi171_63, zi171_64, zi171_64n, zi171_65, zi171_66, zi171_68, zi171_71, zi171_72, zi171_72n, zi171_73, zi171_75, zi171_78, zi171_78n, zi171_79, zi171_82, zi171_83, zi171_83n, zi171_84, zi171_85, zi171_87, zi171_90, zi171_91, zi171_91n, zi171_92, zi171_94, zcl1, zlow_0, zlow_1, zlow_2, zlow_3, zlow_4, zfree_0, zfree_i, zfree_r, zfree_n, zfree_d, zfree_f, zfree_s, if_true, if_false, Option.bind_some, Option.toList_some, Option.toList_none, List.cons_append, List.nil_append, List.set_cons_zero, List.set_cons_succ, Bool.false_eq_true, reduceIte, zsw_c, zsw_n, Nat.reduceAdd, hS.1.1, S1.1.1, T2.1.1, S3.1.1, T4.1.1, S5.1.1, T6.1.1, c2, c3, c4, c5, l0, a1, S1.1.r6, a2, s2, a3, S3.1.r6, a4, s4, a5, S5.1.r6, a6, s6, a7]
  · show MF h7 (lwM t L) (lwE t L)
    cases he : lwE t L with
    | inl x => exact F7.x
    | inr q =>
      have he' := he
      unfold lwE at he'
      obtain ⟨p1, e, -, m1⟩ := sgB_in he'
      obtain ⟨p2, e, n2, m2⟩ := nmB_in e
      have V6 := w6 p2 e n2
      obtain ⟨p3, e, -, m3⟩ := sgB_in e
      obtain ⟨p4, e, n4, m4⟩ := nmB_in e
      have V4 := w4 p4 e n4
      obtain ⟨p5, e, -, m5⟩ := sgB_in e
      obtain ⟨p6, e, n6, m6⟩ := nmB_in e
      have V2 := w2 p6 e n6
      obtain ⟨p7, e, -, m7⟩ := sgB_in e
      cases e
      subst m7 m6 m5 m4 m3 m2
      show FW h7 (nup (lwM t L) 8 0)
      refine F7.ext (fun i hi => ?_)
      rw [V2, V4, V6]
      show nup (nup (nup (fun _ => 0) 0 (tkV t L 1)) 1 (tkV t L (tkX t L 1 + 1))) 2 (tkV t L (tkX t L (tkX t L 1 + 1) + 1)) i = nup (lwN (tkV t L 1) (tkV t L (tkX t L 1 + 1)) (tkV t L (tkX t L (tkX t L 1 + 1) + 1))) 8 0 i
      unfold nup lwN
      by_cases i8 : i = 8
      · subst i8; rfl
      · rw [if_neg i8]
        by_cases i2 : i = 2
        · subst i2; rfl
        · rw [if_neg i2, if_neg i2]
          by_cases i1 : i = 1
          · subst i1; rfl
          · rw [if_neg i1, if_neg i1]
