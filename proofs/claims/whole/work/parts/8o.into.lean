/-! THE TEXT: the component reads a text into a yard -/
def rE (h : zH) (r0 r : Nat → Int32) (s : Nat) (e : Sum (Nat × Nat) Nat × (Nat → Nat)) : Prop := match e.1 with
  | .inl x => r 2 = nI x.1 ∧ r 4 = nI x.2 ∧ SP h s
  | .inr _ => r 2 = r0 2 ∧ YC h s e.2
section INTO
variable {E : zE} {h : zH} {r T : Nat → Int32} {t : Nat → Nat} {L s : Nat}
theorem cReads (hL : L ≤ 120) (hT : tpO T t L) (hs : 16 ≤ s ∧ s < 34) (h81 : 87 ≤ h.length) (hR : RD h r T) (h1 : r 1 = nI L) (hS : SP h s) : ∃ h' r', zcall zpp E 35 [.ref 2, .ref s] h = some (some (.int (zb (isR (ydE t L).1))), h') ∧ RD h' r' T ∧ r' 1 = 0 ∧ RZ h h' s 5 ∧ rE h' r r' s (ydE t L) := by
  have c0 : zsel 9 [9, 65] = some 65 := rfl
  have c1 : zsel 5 [5, 36] = some 36 := rfl
  have c2 : zsel 5 [5, 37] = some 37 := rfl
  have c3 : zsel 5 [5, 39] = some 39 := rfl
  have c4 : zsel 5 [5, 41] = some 41 := rfl
  have w3 := hR.st 3 (by omega) (by omega) (v := 0)
  have R1 := hR.put 3 (by omega) (by omega) 0
  have z1 : zsm (fun a => a = 2) h (zpf h 2 3 (.int 0)) := zsm_pf
  obtain ⟨⟨F, A, cr, Y0⟩, C0⟩ := hS
  obtain ⟨⟨A', cr', Y1⟩, C1⟩ := LY.two (⟨⟨A, cr, Y0⟩, C0⟩ : LY h s F) z1 hs
  obtain ⟨h2, a1, a2, a3⟩ := sp_clear (E := E) Y1
  have a2' : zsm (yP s) (zpf h 2 3 (.int 0)) h2 := a2.wk (fun a e => by cases e; unfold yP; omega)
  have R2 : RD h2 (upd r 3 0) T := R1.keep (a2.2 2 (by omega)) (a2.2 3 (by omega))
  have Z0 : RZ h h s 0 := ⟨fr.rf h, Nat.le_refl _, by omega, by omega⟩
  have Z1 := Z0.sm z1 (by omega) (fun a e => two_P e)
  have Z2 := Z1.sm a2' (by omega) (fun a e => Or.inr e)
  have L2 : LY h2 s (fun k => if k < 3 then F k else 0) := ⟨⟨A', cr', a3⟩, C1.sm a2 (by omega) (fun a e => by cases e; omega) (by omega)⟩
  obtain ⟨h3, r3, b1, b2, b3⟩ := cLaw (E := E) (h0 := h) (r0 := r) hL hT hs (fun k hk => if_neg (by omega)) L2 ⟨R2, h1, Z2, Nat.zero_le _, rfl, rfl⟩
  have up : ∀ {H : zH} {j : Nat}, j ≤ 5 → RZ h H s j → RZ h H s 5 := fun {H j} hj z => ⟨z.1, z.2.1, by have := z.2.2.1; omega, by have := z.2.2.2; omega⟩
  -- at the end
  have fin : ∀ {H : zH} {R : Nat → Int32} {e : Sum (Nat × Nat) Nat × (Nat → Nat)}, RD H R T → RZ h H s 5 → rE H r R s e → RD (zpf H 2 1 (.int 0)) (upd R 1 0) T ∧ upd R 1 0 1 = 0 ∧ RZ h (zpf H 2 1 (.int 0)) s 5 ∧ rE (zpf H 2 1 (.int 0)) r (upd R 1 0) s e := by
    intro H R e g1 g2 g3
    have zf : zsm (fun a => a = 2) H (zpf H 2 1 (.int 0)) := zsm_pf
    refine ⟨g1.put 1 (by omega) (by omega) 0, rfl, g2.sm zf (by omega) (fun a e => two_P e), ?_⟩
    unfold rE at g3 ⊢
    cases he : e.1 with
    | inl x =>
      rw [he] at g3
      exact ⟨g3.1, g3.2.1, g3.2.2.keep (zf.fr (fun a e => by cases e; omega)) (by omega) (fun a h1 h2 => by omega)⟩
    | inr q =>
      rw [he] at g3
      exact ⟨g3.1, g3.2.two zf hs⟩
  cases e1 : lwE t L with
  | inl x =>
    rw [e1] at b1 b2 b3
    obtain ⟨d1, d2, d3, d4, d5⟩ := b2
    have ee : ydE t L = (.inl x, lwM t L) := by
      unfold ydE ydL ydH ydB
      rw [bd_l (x := ydW t L) e1]
      rfl
    rw [ee]
    obtain ⟨k1, k2, k3, k4⟩ := fin (e := (.inl x, lwM t L)) d1 (up (by omega) d3) ⟨d4, d5, b3⟩
    refine ⟨_, _, ?_, k1, k2, k3, k4⟩
    simp only [ze35, zi35_0, zi35_0n, zi35_1, zi35_2, zi35_5, zi35_5n, zi35_6, zi35_9, zi35_9n, zi35_10, zi35_10n, zi35_11, zi35_14, zi35_17, zi35_17n, zi35_18, zi35_18n, zi35_19, zi35_22, zi35_25, zi35_25n, zi35_26, zi35_26n, zi35_27, zi35_30, zi35_33, zi35_33n, zi35_34, zi35_34n, zi35_35, zi35_38, zi35_41, zi35_42, zi35_45, zi35_46, zi35_47, zi35_47n, zi35_48, zi35_49, zi35_52, zi35_53 (sk := []), zcl1, zlow_0, zlow_1, zlow_2, zlow_3, zlow_4, zfree_0, zfree_i, zfree_r, zfree_n, zfree_d, zfree_f, zfree_s, if_true, if_false, Option.bind_some, Option.toList_some, Option.toList_none, List.cons_append, List.nil_append, List.set_cons_zero, List.set_cons_succ, Bool.false_eq_true, reduceIte, zsw_c, zsw_n, Nat.reduceAdd, w3, Y1.1, c0, a1, R2.1, c1, b1, isR, zb_f, z00, d1.st 1 (by omega) (by omega)]
  | inr p1 =>
  rw [e1] at b1 b2 b3
  obtain ⟨i1, i2, i3, i4⟩ := lw_ni e1
  have eB : ydB t L = bkS t L (lwM t L) p1 := bd_r (x := ydW t L) e1
  obtain ⟨h4, r4, m1, m2⟩ := cBikes (E := E) hL hT hs i1 i2 i3 i4 b3 b2
  have bR := b2.1.1
  rw [← eB] at m1 m2
  cases e2 : (ydB t L).1 with
  | inl x =>
    rw [e2] at m1 m2
    obtain ⟨d1, d2, d3, d4, d5, d6⟩ := m2
    have ee : ydE t L = (.inl x, (ydB t L).2) := by
      unfold ydE ydL ydH
      rw [bd_l e2]
      rfl
    rw [ee]
    obtain ⟨k1, k2, k3, k4⟩ := fin (e := (.inl x, (ydB t L).2)) d1 (up (by omega) d3) ⟨d4, d5, d6⟩
    refine ⟨_, _, ?_, k1, k2, k3, k4⟩
    simp only [ze35, zi35_0, zi35_0n, zi35_1, zi35_2, zi35_5, zi35_5n, zi35_6, zi35_9, zi35_9n, zi35_10, zi35_10n, zi35_11, zi35_14, zi35_17, zi35_17n, zi35_18, zi35_18n, zi35_19, zi35_22, zi35_25, zi35_25n, zi35_26, zi35_26n, zi35_27, zi35_30, zi35_33, zi35_33n, zi35_34, zi35_34n, zi35_35, zi35_38, zi35_41, zi35_42, zi35_45, zi35_46, zi35_47, zi35_47n, zi35_48, zi35_49, zi35_52, zi35_53 (sk := []), zcl1, zlow_0, zlow_1, zlow_2, zlow_3, zlow_4, zfree_0, zfree_i, zfree_r, zfree_n, zfree_d, zfree_f, zfree_s, if_true, if_false, Option.bind_some, Option.toList_some, Option.toList_none, List.cons_append, List.nil_append, List.set_cons_zero, List.set_cons_succ, Bool.false_eq_true, reduceIte, zsw_c, zsw_n, Nat.reduceAdd, w3, Y1.1, c0, a1, R2.1, c1, b1, isR, zb_t, z10, bR, c2, m1, zb_f, z00, d1.st 1 (by omega) (by omega)]
  | inr p2 =>
  rw [e2] at m1 m2
  obtain ⟨j1, j2, j3, j4⟩ := ydB_ni e2
  have eH : ydH t L = hdsE t L 11 (ydB t L).2 p2 := bd_r e2
  have mR := m2.1.1
  obtain ⟨h5, r5, n1, n2⟩ := cHolds (E := E) hL hT hs j1 j4 j2 j3 m2
  rw [← eH] at n1 n2
  cases e3 : (ydH t L).1 with
  | inl x =>
    rw [e3] at n1 n2
    obtain ⟨d1, d2, d3, d4, d5, d6⟩ := n2
    have ee : ydE t L = (.inl x, (ydH t L).2) := by
      unfold ydE ydL
      rw [bd_l e3]
      rfl
    rw [ee]
    obtain ⟨k1, k2, k3, k4⟩ := fin (e := (.inl x, (ydH t L).2)) d1 (up (by omega) d3) ⟨d4, d5, d6⟩
    refine ⟨_, _, ?_, k1, k2, k3, k4⟩
    simp only [ze35, zi35_0, zi35_0n, zi35_1, zi35_2, zi35_5, zi35_5n, zi35_6, zi35_9, zi35_9n, zi35_10, zi35_10n, zi35_11, zi35_14, zi35_17, zi35_17n, zi35_18, zi35_18n, zi35_19, zi35_22, zi35_25, zi35_25n, zi35_26, zi35_26n, zi35_27, zi35_30, zi35_33, zi35_33n, zi35_34, zi35_34n, zi35_35, zi35_38, zi35_41, zi35_42, zi35_45, zi35_46, zi35_47, zi35_47n, zi35_48, zi35_49, zi35_52, zi35_53 (sk := []), zcl1, zlow_0, zlow_1, zlow_2, zlow_3, zlow_4, zfree_0, zfree_i, zfree_r, zfree_n, zfree_d, zfree_f, zfree_s, if_true, if_false, Option.bind_some, Option.toList_some, Option.toList_none, List.cons_append, List.nil_append, List.set_cons_zero, List.set_cons_succ, Bool.false_eq_true, reduceIte, zsw_c, zsw_n, Nat.reduceAdd, w3, Y1.1, c0, a1, R2.1, c1, b1, isR, zb_t, z10, bR, c2, m1, mR, c3, n1, zb_f, z00, d1.st 1 (by omega) (by omega)]
  | inr p3 =>
  rw [e3] at n1 n2
  obtain ⟨o1, o2, o3⟩ := ydH_ni e3
  have eL : ydE t L = bd (lfsE t L 5 (ydH t L).2 p3) (enS L) := by unfold ydE ydL; rw [bd_r e3]
  have nR := n2.1.1
  obtain ⟨h6, r6, q1, q2⟩ := cLifters (E := E) hL hT hs h81 o1 o2 o3 n2
  rw [← eL] at q1 q2
  obtain ⟨d1, d2, d3, d4⟩ := q2
  have hE : rE h6 r r6 s (ydE t L) := by
    unfold rE
    unfold rQ at d4
    cases e4 : (ydE t L).1 with
    | inl x => rw [e4] at d4; exact d4
    | inr q => rw [e4] at d4; exact ⟨d4.2.1, d4.2.2.2.2.2⟩
  obtain ⟨k1, k2, k3, k4⟩ := fin (e := ydE t L) d1 d3 hE
  refine ⟨_, _, ?_, k1, k2, k3, k4⟩
  cases e4 : (ydE t L).1 with
  | inl x =>
    rw [e4] at q1
    simp only [ze35, zi35_0, zi35_0n, zi35_1, zi35_2, zi35_5, zi35_5n, zi35_6, zi35_9, zi35_9n, zi35_10, zi35_10n, zi35_11, zi35_14, zi35_17, zi35_17n, zi35_18, zi35_18n, zi35_19, zi35_22, zi35_25, zi35_25n, zi35_26, zi35_26n, zi35_27, zi35_30, zi35_33, zi35_33n, zi35_34, zi35_34n, zi35_35, zi35_38, zi35_41, zi35_42, zi35_45, zi35_46, zi35_47, zi35_47n, zi35_48, zi35_49, zi35_52, zi35_53 (sk := []), zcl1, zlow_0, zlow_1, zlow_2, zlow_3, zlow_4, zfree_0, zfree_i, zfree_r, zfree_n, zfree_d, zfree_f, zfree_s, if_true, if_false, Option.bind_some, Option.toList_some, Option.toList_none, List.cons_append, List.nil_append, List.set_cons_zero, List.set_cons_succ, Bool.false_eq_true, reduceIte, zsw_c, zsw_n, Nat.reduceAdd, w3, Y1.1, c0, a1, R2.1, c1, b1, isR, zb_t, z10, bR, c2, m1, mR, c3, n1, nR, c4, q1, zb_f, z00, d1.st 1 (by omega) (by omega)]
  | inr q =>
    rw [e4] at q1
    simp only [ze35, zi35_0, zi35_0n, zi35_1, zi35_2, zi35_5, zi35_5n, zi35_6, zi35_9, zi35_9n, zi35_10, zi35_10n, zi35_11, zi35_14, zi35_17, zi35_17n, zi35_18, zi35_18n, zi35_19, zi35_22, zi35_25, zi35_25n, zi35_26, zi35_26n, zi35_27, zi35_30, zi35_33, zi35_33n, zi35_34, zi35_34n, zi35_35, zi35_38, zi35_41, zi35_42, zi35_45, zi35_46, zi35_47, zi35_47n, zi35_48, zi35_49, zi35_52, zi35_53 (sk := []), zcl1, zlow_0, zlow_1, zlow_2, zlow_3, zlow_4, zfree_0, zfree_i, zfree_r, zfree_n, zfree_d, zfree_f, zfree_s, if_true, if_false, Option.bind_some, Option.toList_some, Option.toList_none, List.cons_append, List.nil_append, List.set_cons_zero, List.set_cons_succ, Bool.false_eq_true, reduceIte, zsw_c, zsw_n, Nat.reduceAdd, w3, Y1.1, c0, a1, R2.1, c1, b1, isR, zb_t, z10, bR, c2, m1, mR, c3, n1, nR, c4, q1, d1.st 1 (by omega) (by omega)]
end INTO
