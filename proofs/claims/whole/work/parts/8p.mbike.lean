/-! THE TEXT: the model reads a bike, a lifter -/
def FW (h : zH) (M : Nat → Nat) : Prop := zrow 0 h 78 73 (fun i => nI (M i))
def FR (h : zH) (N : Nat → Nat) : Prop := FW h (nup N 8 0)
def FX (h : zH) : Prop := ∃ f, zrow 0 h 78 73 f
theorem FW.c {h : zH} {M : Nat → Nat} (hY : FW h M) (j : Nat) (hj : j < 73) {x : Int32} (e : x = nI j) : zarr 0 h 78 x = some (nI (M j)) := by
  subst e
  exact zarr_at hY hj (by decide)
theorem FW.s {h : zH} {M : Nat → Nat} (hY : FW h M) (j : Nat) (hj : j < 73) {x v : Int32} (e : x = nI j) : zars 0 h 78 x v = some (zpa h 78 j v) := by
  subst e
  exact zars_at hY hj (by decide) zfits_i
theorem FW.put {h : zH} {M : Nat → Nat} (hY : FW h M) (j w : Nat) : FW (zpa h 78 j (nI w)) (nup M j w) := zrow_ext (zrow_pa hY) (fun i _ => by
  show (if i = j then nI w else nI (M i)) = nI (if i = j then w else M i)
  split <;> rfl)
theorem FW.ext {h : zH} {M M' : Nat → Nat} (hY : FW h M) (e : ∀ i, i < 73 → M i = M' i) : FW h M' := zrow_ext hY (fun i hi => by rw [e i hi])
theorem FW.x {h : zH} {M : Nat → Nat} (hY : FW h M) : FX h := ⟨_, hY⟩
theorem FR.c {h : zH} {N : Nat → Nat} (hY : FR h N) (j : Nat) (hj : j < 73) (h8 : j ≠ 8) {x : Int32} (e : x = nI j) : zarr 0 h 78 x = some (nI (N j)) := by
  rw [FW.c hY j hj e]
  unfold nup
  rw [if_neg h8]
theorem FR.k {h h' : zH} {N : Nat → Nat} (hY : FR h N) (z : zsm (fun a => a = 73) h h') : FR h' N := zrow_c (z.2 78 (by omega)) hY
theorem FX.k {h h' : zH} (hY : FX h) (z : zsm (fun a => a = 73) h h') : FX h' := by
  obtain ⟨f, h1⟩ := hY
  exact ⟨f, zrow_c (z.2 78 (by omega)) h1⟩
def MF (h : zH) (N : Nat → Nat) (e : Sum (Nat × Nat) Nat) : Prop := match e with
  | .inl _ => FX h
  | .inr _ => FR h N
def fP (a : Nat) : Prop := a = 73 ∨ a = 78
/-- a reading of the model: its own cell, and the fresh row -/
def mR (E : zE) (M : Nat) (h : zH) (sc T : Nat → Int32) (t : Nat → Nat) (L : Nat) (N : Nat → Nat) (e : Sum (Nat × Nat) Nat) : Prop := ∃ h' sc', zcall zpp E M [.ref 73] h = some (none, h') ∧ MS h' sc' T t L e ∧ MF h' N e ∧ scQ sc sc' ∧ zsm fP h h'
section MBK
variable {E : zE} {h : zH} {sc T : Nat → Int32} {t : Nat → Nat} {L p : Nat} {N : Nat → Nat}
theorem MS.f15l {x : Nat × Nat} (hS : MS h sc T t L (.inl x)) : zfld [11] h 73 15 = some (.int (nI x.1)) ∧ ¬ nI x.1 = 0 := by
  have f := hS.1.i 15 rfl (by omega)
  rw [hS.2.2.2.1] at f
  exact ⟨f, nI_ne0 (by have := hS.2.2.2.2.2.1; omega) (by have := hS.2.2.2.2.2.1; omega)⟩
theorem MS.f15r {q : Nat} (hS : MS h sc T t L (.inr q)) : zfld [11] h 73 15 = some (.int 0) := by
  have f := hS.1.i 15 rfl (by omega)
  rw [hS.2.2.2.2.1] at f
  exact f
theorem fP67 {a : Nat} (e : a = 73) : fP a := Or.inl e
theorem fP72 {a : Nat} (e : a = 78) : fP a := Or.inr e
theorem mBike (hL : L ≤ 120) (hT : tpO T t L) (hk : sgN t L 107 p = true) (h3 : N 3 ≤ 8) (hS : MS h sc T t L (.inr p)) (hF : FR h N) : mR E 167 h sc T t L (bkN t L N p) (bkE t L N p) := by
  have c1 : zsel 11 [11, 157] = some 157 := rfl
  have c2 : zsel 11 [11, 159] = some 159 := rfl
  have c3 : zsel 11 [11, 160] = some 160 := rfl
  have c4 : zsel 11 [11, 161] = some 161 := rfl
  have c5 : zsel 11 [11, 162] = some 162 := rfl
  -- the first test
  have s0 : ∃ h0 sc0, zcall zpp E 167 [.ref 73] h = zrun zpp E 167 (16, [.ref 73, .retAddr 0, .retAddr 0], [], h0) ∧ MS h0 sc0 T t L (if N 3 = 8 then .inl (3, p) else .inr p) ∧ scQ sc sc0 ∧ zsm (fun a => a = 73) h h0 := by
    by_cases h8 : N 3 = 8
    · obtain ⟨h0, sc0, b1, b2, b3, b4⟩ := sp_bad (E := E) (k := 3) (by omega) hS
      have b1 : zcall zpp E 157 [.ref 73, .int 3] h = some (none, h0) := b1
      refine ⟨h0, sc0, ?_, by rw [if_pos h8]; exact b2, b3, b4⟩
      have e8 : nI (N 3) = 8 := by rw [h8]; rfl
      conv =>
        lhs
        simp only [ze167, zi167_0, zi167_0n, zi167_1, zi167_4, zi167_5, zi167_6, zi167_8, zi167_11, zi167_11n, zi167_12, zi167_13, zcl1, zlow_0, zlow_1, zlow_2, zlow_3, zlow_4, zfree_0, zfree_i, zfree_r, zfree_n, zfree_d, zfree_f, zfree_s, if_true, if_false, Option.bind_some, Option.toList_some, Option.toList_none, List.cons_append, List.nil_append, List.set_cons_zero, List.set_cons_succ, Bool.false_eq_true, reduceIte, zsw_c, zsw_n, Nat.reduceAdd, hS.1.r6, hF.c 3 (by omega) (by omega) (x := 3) rfl, e8, hS.1.1, c1, b1]
    · refine ⟨h, sc, ?_, by rw [if_neg h8]; exact hS, scQ.rf sc, zsm.rf h⟩
      have e8 : ¬ nI (N 3) = 8 := by rw [show (8 : Int32) = nI 8 from rfl, nI_eqP (by omega) (by omega)]; exact h8
      conv =>
        lhs
        simp only [ze167, zi167_0, zi167_0n, zi167_1, zi167_4, zi167_5, zi167_6, zi167_8, zi167_11, zi167_11n, zi167_12, zi167_13, zcl1, zlow_0, zlow_1, zlow_2, zlow_3, zlow_4, zfree_0, zfree_i, zfree_r, zfree_n, zfree_d, zfree_f, zfree_s, if_true, if_false, Option.bind_some, Option.toList_some, Option.toList_none, List.cons_append, List.nil_append, List.set_cons_zero, List.set_cons_succ, Bool.false_eq_true, reduceIte, zsw_c, zsw_n, Nat.reduceAdd, hS.1.r6, hF.c 3 (by omega) (by omega) (x := 3) rfl, eq_false e8]
  obtain ⟨h0, sc0, u0, S0, q0, z0⟩ := s0
  generalize he0 : (if N 3 = 8 then Sum.inl (3, p) else Sum.inr p : Sum (Nat × Nat) Nat) = e0 at *
  have l0 := sp_isLetter (E := E) (c := 107) hT rfl S0
  have l0 : zcall zpp E 160 [.ref 73, .int 107] h0 = some (some (.int (zb (sgE t L 107 e0))), h0) := l0
  obtain ⟨h1, sc1, a1, S1, q1, z1⟩ := sp_must (E := E) (c := sgE t L 107 e0) hL hT S0
  obtain ⟨v2, ⟨h2, sc2, a2, S2, q2, z2⟩, w2⟩ := sp_numberM (E := E) (lo := 1) (hi := 30) hL hT (by omega) (by omega) S1
  have a2 : zcall zpp E 161 [.ref 73, .int 1, .int 30] h1 = some (some (.int (nI v2)), h2) := a2
  obtain ⟨h3', sc3, a3, S3, q3, z3⟩ := sp_mustSign (E := E) (c := 44) hL hT (Or.inl rfl) S2
  have a3 : zcall zpp E 162 [.ref 73, .int 44] h2 = some (none, h3') := a3
  obtain ⟨v4, ⟨h4, sc4, a4, S4, q4, z4⟩, w4⟩ := sp_numberM (E := E) (lo := 1) (hi := 20) hL hT (by omega) (by omega) S3
  have a4 : zcall zpp E 161 [.ref 73, .int 1, .int 20] h3' = some (some (.int (nI v4)), h4) := a4
  obtain ⟨h5, sc5, a5, S5, q5, z5⟩ := sp_mustSign (E := E) (c := 59) hL hT (Or.inr rfl) S4
  have a5 : zcall zpp E 162 [.ref 73, .int 59] h4 = some (none, h5) := a5
  have Z := ((((z0.tr z1).tr z2).tr z3).tr z4).tr z5
  have Q := ((((q0.tr q1).tr q2).tr q3).tr q4).tr q5
  have F5 := hF.k Z
  have eE : bkE t L N p = sgB t L 59 (nmB t L 1 20 (sgB t L 44 (nmB t L 1 30 (muB t L (sgE t L 107 e0) e0)))) := by
    unfold bkE
    rw [← he0]
    split
    · rfl
    · have : muB t L (sgE t L 107 (.inr p)) (.inr p) = .inr (p + 1) := by
        show (if sgN t L 107 p = true then Sum.inr (tkX t L p) else Sum.inl (1, p)) = _
        rw [if_pos hk, (sg_tk (Or.inl (show ltr 107 = true from rfl)) hk).2.2.1]
      rw [this]
  rw [← eE] at S5
  have u5 : zcall zpp E 167 [.ref 73] h = (zfld [11] h5 73 15).bind fun v => zrun zpp E 167 (58, [.ref 73, .int (nI v2), .int (nI v4)], [v], h5) := by
    rw [u0]
    conv =>
      lhs
      simp only [zi167_16, zi167_16n, zi167_17, zi167_17n, zi167_18, zi167_20, zi167_23, zi167_26, zi167_26n, zi167_27, zi167_28, zi167_30, zi167_33, zi167_34, zi167_34n, zi167_35, zi167_37, zi167_40, zi167_40n, zi167_41, zi167_42, zi167_44, zi167_47, zi167_48, zi167_48n, zi167_49, zi167_51, zi167_54, zi167_54n, zi167_55, zcl1, zlow_0, zlow_1, zlow_2, zlow_3, zlow_4, zfree_0, zfree_i, zfree_r, zfree_n, zfree_d, zfree_f, zfree_s, if_true, if_false, Option.bind_some, Option.toList_some, Option.toList_none, List.cons_append, List.nil_append, List.set_cons_zero, List.set_cons_succ, Bool.false_eq_true, reduceIte, zsw_c, zsw_n, Nat.reduceAdd, S0.1.1, S1.1.1, S2.1.1, S3.1.1, S4.1.1, c2, c3, c4, c5, l0, a1, a2, a3, a4, a5]
  cases e5 : bkE t L N p with
  | inl x =>
    rw [e5] at S5
    refine ⟨h5, sc5, ?_, S5, F5.x, Q, Z.wk (fun a e => fP67 e)⟩
    obtain ⟨f, n⟩ := S5.f15l
    rw [u5, f]
    simp only [zi167_58, zi167_61, zi167_61n, zi167_62, zi167_65, zi167_67, zi167_68, zi167_68n, zi167_69, zi167_72, zi167_73, zi167_74, zi167_75, zi167_76, zi167_77, zi167_78, zi167_78n, zi167_79, zi167_82, zi167_84, zi167_85, zi167_85n, zi167_86, zi167_89, zi167_90, zi167_91, zi167_92, zi167_93, zi167_94, zi167_95, zi167_96, zi167_97, zi167_97n, zi167_98, zi167_101, zi167_102, zi167_103, zi167_104, zi167_105, zi167_106, zi167_107 (sk := []), zcl1, zlow_0, zlow_1, zlow_2, zlow_3, zlow_4, zfree_0, zfree_i, zfree_r, zfree_n, zfree_d, zfree_f, zfree_s, if_true, if_false, Option.bind_some, Option.toList_some, Option.toList_none, List.cons_append, List.nil_append, List.set_cons_zero, List.set_cons_succ, Bool.false_eq_true, reduceIte, zsw_c, zsw_n, Nat.reduceAdd, eq_false n]
  | inr q =>
    rw [e5] at S5
    have f := S5.f15r
    -- what was read
    have e5' := e5
    unfold bkE at e5'
    split at e5'
    · cases e5'
    rename_i h8
    obtain ⟨p1, g1, -, -⟩ := sgB_in e5'
    obtain ⟨p2, g2, n2, m2⟩ := nmB_in g1
    obtain ⟨p3, g3, -, m3⟩ := sgB_in g2
    obtain ⟨p4, g4, n4, m4⟩ := nmB_in g3
    cases g4
    rw [if_neg h8] at he0
    subst he0
    have mu : muB t L (sgE t L 107 (.inr p)) (.inr p) = .inr (p + 1) := by
      show (if sgN t L 107 p = true then Sum.inr (tkX t L p) else Sum.inl (1, p)) = _
      rw [if_pos hk, (sg_tk (Or.inl (show ltr 107 = true from rfl)) hk).2.2.1]
    rw [mu] at w2 w4
    have V2 : v2 = tkV t L (p + 1) := w2 _ rfl n4
    have V4 : v4 = tkV t L (tkX t L (p + 1) + 1) := by
      rw [← m4, ← m3]
      exact w4 p2 g2 n2
    have W1 := F5.put (9 + 2 * N 3) v2
    have W2 := W1.put (10 + 2 * N 3) v4
    have W3 := W2.put 3 (N 3 + 1)
    have E3 : ∀ {H : zH} {M : Nat → Nat}, FW H M → M 3 = N 3 → zarr 0 H 78 3 = some (nI (N 3)) := fun {H M} hw hm => by rw [hw.c 3 (by omega) (x := 3) rfl, hm]
    have d5 := E3 F5 (by unfold nup; rw [if_neg (by omega)])
    have d1 := E3 W1 (by unfold nup; rw [if_neg (by omega), if_neg (by omega)])
    have d2 := E3 W2 (by unfold nup; rw [if_neg (by omega), if_neg (by omega), if_neg (by omega)])
    have M1 : MdO (zpa h5 78 (9 + 2 * N 3) (nI v2)) sc5 := S5.1.keep (zpa_o (by omega))
    have M2 : MdO (zpa (zpa h5 78 (9 + 2 * N 3) (nI v2)) 78 (10 + 2 * N 3) (nI v4)) sc5 := M1.keep (zpa_o (by omega))
    have S6 : MS (zpa (zpa (zpa h5 78 (9 + 2 * N 3) (nI v2)) 78 (10 + 2 * N 3) (nI v4)) 78 3 (nI (N 3 + 1))) sc5 T t L (.inr q) := S5.keep ((zpa_o (by omega)).trans ((zpa_o (by omega)).trans (zpa_o (by omega)))) ((zpa_o (by omega)).trans ((zpa_o (by omega)).trans (zpa_o (by omega))))
    refine ⟨_, sc5, ?_, S6, ?_, Q, (Z.wk (fun a e => fP67 e)).tr (((zsm_pa.wk (fun a e => fP72 e)).tr (zsm_pa.wk (fun a e => fP72 e))).tr (zsm_pa.wk (fun a e => fP72 e)))⟩
    · rw [u5, f]
      simp only [zi167_58, zi167_61, zi167_61n, zi167_62, zi167_65, zi167_67, zi167_68, zi167_68n, zi167_69, zi167_72, zi167_73, zi167_74, zi167_75, zi167_76, zi167_77, zi167_78, zi167_78n, zi167_79, zi167_82, zi167_84, zi167_85, zi167_85n, zi167_86, zi167_89, zi167_90, zi167_91, zi167_92, zi167_93, zi167_94, zi167_95, zi167_96, zi167_97, zi167_97n, zi167_98, zi167_101, zi167_102, zi167_103, zi167_104, zi167_105, zi167_106, zi167_107 (sk := []), zcl1, zlow_0, zlow_1, zlow_2, zlow_3, zlow_4, zfree_0, zfree_i, zfree_r, zfree_n, zfree_d, zfree_f, zfree_s, if_true, if_false, Option.bind_some, Option.toList_some, Option.toList_none, List.cons_append, List.nil_append, List.set_cons_zero, List.set_cons_succ, Bool.false_eq_true, reduceIte, zsw_c, zsw_n, Nat.reduceAdd, z00, S5.1.r6, d5, ix_9, F5.s (9 + 2 * N 3) (by omega) rfl, M1.r6, d1, ix_p1, W1.s (10 + 2 * N 3) (by omega) (x := nI (9 + 2 * N 3 + 1)) (congrArg nI (by omega)), M2.r6, d2, W2.s 3 (by omega) (x := 3) rfl]
    · show FW _ _
      refine W3.ext (fun i hi => ?_)
      have eN : bkN t L N p = bikN N v2 v4 := by unfold bkN; rw [← V2, ← V4]
      rw [eN]
      show nup (nup (nup (nup N 8 0) (9 + 2 * N 3) v2) (10 + 2 * N 3) v4) 3 (N 3 + 1) i = nup (bikN N v2 v4) 8 0 i
      unfold nup bikN
      by_cases i3 : i = 3
      · rw [if_pos i3, if_neg (by omega), if_pos i3]
      · rw [if_neg i3]
        by_cases i8 : i = 8
        · rw [if_neg (by omega), if_neg (by omega), if_pos i8, if_pos i8]
        · rw [if_neg i8, if_neg i8, if_neg i3, if_neg i8]
          by_cases i9 : i = 9 + 2 * N 3
          · rw [if_neg (by omega), if_pos i9, if_pos i9]
          · rw [if_neg i9, if_neg i9]
end MBK
