/-! THE TEXT: the component reads a hold, a lifter -/
def hdF (t : Nat → Nat) (L so : Nat) (N : Nat → Nat) (a q : Nat) : Nat := if nmF t L 0 (N 3 - 1) q = 0 then (if a = tkV t L q ∨ heF N so a (tkV t L q) (N 4) = true then 2 else 0) else nmF t L 0 (N 3 - 1) q
def hdE (t : Nat → Nat) (L so : Nat) (N : Nat → Nat) (p : Nat) : Sum (Nat × Nat) Nat := if N 4 = 10 then .inl (3, p) else (match sgB t L 44 (nmB t L 0 (N 3 - 1) (.inr (p + 1))) with
  | .inl x => .inl x
  | .inr q => if hdF t L so N (tkV t L (p + 1)) q = 0 then sgB t L 59 (.inr (tkX t L q)) else .inl (hdF t L so N (tkV t L (p + 1)) q, q))
def hdN (t : Nat → Nat) (L so : Nat) (N : Nat → Nat) (p : Nat) : Nat → Nat := holN N so (tkV t L (p + 1)) (tkV t L (tkX t L (p + 1) + 1))
def lfE (t : Nat → Nat) (L : Nat) (N : Nat → Nat) (p : Nat) : Sum (Nat × Nat) Nat := if N 5 = 4 then .inl (3, p) else sgB t L 59 (nmB t L 1 40 (.inr (p + 1)))
def lfN (t : Nat → Nat) (L kd : Nat) (N : Nat → Nat) (p : Nat) : Nat → Nat := lifN N kd (tkV t L (p + 1))
theorem nm_in {t : Nat → Nat} {L lo hi p : Nat} (h : nmF t L lo hi p = 0) : tkK t L p = 3 ∧ lo ≤ tkV t L p ∧ tkV t L p ≤ hi := by
  unfold nmF at h
  split at h
  · rename_i h3
    split at h
    · rename_i hr
      exact ⟨h3, hr⟩
    · omega
  · omega
section RCH
variable {E : zE} {h0 h : zH} {r0 r T : Nat → Int32} {t : Nat → Nat} {L s k : Nat} {N : Nat → Nat}
theorem rh_no {h' : zH} {x : Int32} {x2 x3 : Value} (hc : zcls h 2 = some 5) (e : zcall zpp E 40 [.ref 2, .ref s, .int x] h = some (some (.int 0), h')) : zrun zpp E 39 (48, [.ref 2, .ref s, x2, x3], [.int x, .ref s, .ref 2], h) = zrun zpp E 39 (66, [.ref 2, .ref s, x2, x3], [.int (zb false)], h') := by
  have c1 : zsel 5 [5, 40] = some 40 := rfl
  conv =>
    lhs
    simp only [zi39_48, zi39_51, zi39_54, zi39_54n, zi39_55, zi39_58, zi39_61, zi39_62, zi39_65, zcl1, zlow_0, zlow_1, zlow_2, zlow_3, zlow_4, zfree_0, zfree_i, zfree_r, zfree_n, zfree_d, zfree_f, zfree_s, if_true, if_false, Option.bind_some, Option.toList_some, Option.toList_none, List.cons_append, List.nil_append, List.set_cons_zero, List.set_cons_succ, Bool.false_eq_true, reduceIte, zsw_c, zsw_n, Nat.reduceAdd, hc, c1, e, z00]
  rfl
theorem rh_yes {h1 h' : zH} {x : Int32} {b : Bool} {x2 x3 : Value} (hc : zcls h 2 = some 5) (e : zcall zpp E 40 [.ref 2, .ref s, .int x] h = some (some (.int 1), h1)) (hc1 : zcls h1 2 = some 5) (e1 : zcall zpp E 44 [.ref 2] h1 = some (some (.int (zb b)), h')) : zrun zpp E 39 (48, [.ref 2, .ref s, x2, x3], [.int x, .ref s, .ref 2], h) = zrun zpp E 39 (66, [.ref 2, .ref s, x2, x3], [.int (zb b)], h') := by
  have c1 : zsel 5 [5, 40] = some 40 := rfl
  have c2 : zsel 5 [5, 44] = some 44 := rfl
  cases b
  · conv =>
      lhs
      simp only [zi39_48, zi39_51, zi39_54, zi39_54n, zi39_55, zi39_58, zi39_61, zi39_62, zi39_65, zcl1, zlow_0, zlow_1, zlow_2, zlow_3, zlow_4, zfree_0, zfree_i, zfree_r, zfree_n, zfree_d, zfree_f, zfree_s, if_true, if_false, Option.bind_some, Option.toList_some, Option.toList_none, List.cons_append, List.nil_append, List.set_cons_zero, List.set_cons_succ, Bool.false_eq_true, reduceIte, zsw_c, zsw_n, Nat.reduceAdd, hc, c1, e, z10, hc1, c2, e1, zb_f, z00]
    rfl
  · conv =>
      lhs
      simp only [zi39_48, zi39_51, zi39_54, zi39_54n, zi39_55, zi39_58, zi39_61, zi39_62, zi39_65, zcl1, zlow_0, zlow_1, zlow_2, zlow_3, zlow_4, zfree_0, zfree_i, zfree_r, zfree_n, zfree_d, zfree_f, zfree_s, if_true, if_false, Option.bind_some, Option.toList_some, Option.toList_none, List.cons_append, List.nil_append, List.set_cons_zero, List.set_cons_succ, Bool.false_eq_true, reduceIte, zsw_c, zsw_n, Nat.reduceAdd, hc, c1, e, z10, hc1, c2, e1, zb_t]
    rfl
theorem cHold {p so c : Nat} (hL : L ≤ 120) (hT : tpO T t L) (hs : 16 ≤ s ∧ s < 34) (hso : so ≤ 1) (hc : ltr c = true) (hk : sgN t L c p = true) (h3 : 1 ≤ N 3 ∧ N 3 ≤ 8) (h4 : N 4 ≤ 10) (hH : ∀ j, j < N 4 → N (25 + 4 * j) ≤ 1 ∧ N (26 + 4 * j) < N 3 ∧ N (27 + 4 * j) < N 3 ∧ N (26 + 4 * j) ≠ N (27 + 4 * j) ∧ N (28 + 4 * j) = 0) (hC : RC h0 h r0 r T t L s k N (.inr p)) : ∃ h' r', (∀ x2 x3 : Value, zrun zpp E 39 (48, [.ref 2, .ref s, x2, x3], [.int (nI so), .ref s, .ref 2], h) = zrun zpp E 39 (66, [.ref 2, .ref s, x2, x3], [.int (zb (isR (hdE t L so N p)))], h')) ∧ RC h0 h' r0 r' T t L s k (hdN t L so N p) (hdE t L so N p) := by
  obtain ⟨hR, h1, hz, hp, q2, q3, q4, q5, hY⟩ := hC
  have c1 : zsel 5 [5, 47] = some 47 := rfl
  have c2 : zsel 5 [5, 46] = some 46 := rfl
  have c3 : zsel 5 [5, 45] = some 45 := rfl
  have c4 : zsel 9 [9, 67] = some 67 := rfl
  have c5 : zsel 5 [5, 44] = some 44 := rfl
  have c6 : zsel 9 [9, 74] = some 74 := rfl
  obtain ⟨k1, k2, k3, -, -⟩ := sg_tk (Or.inl hc) hk
  rw [k3] at q3
  have f4 := hY.1.f4
  have f3 := hY.1.f3
  by_cases h410 : N 4 = 10
  · have eE : hdE t L so N p = .inl (3, p) := if_pos h410
    rw [eE]
    have zf : zsm (fun a => a = 2) h (zpf h 2 2 (.int 3)) := zsm_pf
    refine ⟨_, _, fun x2 x3 => rh_no hR.1 ?_, hR.put 2 (by omega) (by omega) 3, h1, hz.sm zf (by omega) (fun a e => two_P e), rfl, q4, (hY.two zf hs).sp⟩
    have ge : ¬ nI (N 4) < 10 := by rw [h410]; decide
    simp only [ze40, zi40_0, zi40_0n, zi40_1, zi40_4, zi40_6, zi40_9, zi40_9n, zi40_10, zi40_11, zi40_14 (sk := []), zcl1, zlow_0, zlow_1, zlow_2, zlow_3, zlow_4, zfree_0, zfree_i, zfree_r, zfree_n, zfree_d, zfree_f, zfree_s, if_true, if_false, Option.bind_some, Option.toList_some, Option.toList_none, List.cons_append, List.nil_append, List.set_cons_zero, List.set_cons_succ, Bool.false_eq_true, reduceIte, zsw_c, zsw_n, Nat.reduceAdd, f4, eq_false ge, hR.1, c1, sp_refuse hR]
    all_goals rfl
  have eE : hdE t L so N p = (match sgB t L 44 (nmB t L 0 (N 3 - 1) (.inr (p + 1))) with
    | .inl x => .inl x
    | .inr q => if hdF t L so N (tkV t L (p + 1)) q = 0 then sgB t L 59 (.inr (tkX t L q)) else .inl (hdF t L so N (tkV t L (p + 1)) q, q)) := if_neg h410
  have lt : nI (N 4) < 10 := by rw [show (10 : Int32) = nI 10 from rfl, nI_ltP (by omega) (by omega)]; omega
  have m3 : nI (N 3) - 1 = nI (N 3 - 1) := ix_m1 (by omega)
  obtain ⟨ha, ra, a1, a2, a3, a4, a5, a6, a7⟩ := sp_number (E := E) (lo := 0) (hi := N 3 - 1) (p := p + 1) hL (by omega) hT (by omega) (by omega) ⟨hR, h1, q3⟩
  have a1 : zcall zpp E 46 [.ref 2, .int 0, .int (nI (N 3 - 1))] h = some (some (.int (zb (decide (nmF t L 0 (N 3 - 1) (p + 1) = 0)))), ha) := a1
  have Ya := hY.two a7 hs
  have za := hz.sm a7 (by omega) (fun a e => two_P e)
  by_cases n1 : ¬ nmF t L 0 (N 3 - 1) (p + 1) = 0
  · have e2 : hdE t L so N p = .inl (nmF t L 0 (N 3 - 1) (p + 1), p + 1) := by
      rw [eE, show nmB t L 0 (N 3 - 1) (.inr (p + 1)) = .inl (nmF t L 0 (N 3 - 1) (p + 1), p + 1) from if_neg n1]
      rfl
    rw [e2]
    rw [if_neg n1] at a5
    rw [decide_eq_false n1] at a1
    refine ⟨ha, ra, fun x2 x3 => rh_no hR.1 ?_, a2.1, a2.2.1, za, a5, a3, Ya.sp⟩
    simp only [ze40, zi40_0, zi40_0n, zi40_1, zi40_4, zi40_6, zi40_9, zi40_9n, zi40_10, zi40_11, zi40_14 (sk := []), zi40_15, zi40_15n, zi40_16, zi40_17, zi40_17n, zi40_18, zi40_21, zi40_22, zi40_23, zi40_26, zi40_29, zi40_30 (sk := []), zi40_31, zi40_31n, zi40_32, zi40_35, zi40_36, zi40_36n, zi40_37, zi40_39, zi40_42, zi40_45, zi40_45n, zi40_46, zi40_47, zi40_47n, zi40_48, zi40_51, zi40_52, zi40_53, zi40_56, zi40_59, zi40_60 (sk := []), zi40_61, zi40_62, zi40_62n, zi40_63, zi40_66, zi40_69, zi40_69n, zi40_70, zi40_71, zi40_72, zi40_72n, zi40_73, zi40_76, zi40_79, zi40_82, zi40_82n, zi40_83, zi40_84, zi40_87 (sk := []), zi40_88, zi40_88n, zi40_89, zi40_90, zi40_91, zi40_91n, zi40_92, zi40_95, zi40_98, zi40_99 (sk := []), zcl1, zlow_0, zlow_1, zlow_2, zlow_3, zlow_4, zfree_0, zfree_i, zfree_r, zfree_n, zfree_d, zfree_f, zfree_s, if_true, if_false, Option.bind_some, Option.toList_some, Option.toList_none, List.cons_append, List.nil_append, List.set_cons_zero, List.set_cons_succ, Bool.false_eq_true, reduceIte, zsw_c, zsw_n, Nat.reduceAdd, f4, eq_true lt, f3, m3, hR.1, c2, a1, zb_f, z00]
    all_goals rfl
  have n1 : nmF t L 0 (N 3 - 1) (p + 1) = 0 := Classical.not_not.mp n1
  have e1 : nmB t L 0 (N 3 - 1) (.inr (p + 1)) = .inr (tkX t L (p + 1)) := if_pos n1
  have hx1 := tkX_le (t := t) (L := L) (p := p + 1) (by omega)
  have hw := a6 n1
  rw [if_pos n1] at a5
  have f6 := a2.1.i 6 (by omega) (by omega)
  rw [hw] at f6
  rw [n1] at a1
  have a1 : zcall zpp E 46 [.ref 2, .int 0, .int (nI (N 3 - 1))] h = some (some (.int 1), ha) := a1
  have va := (nm_in n1).2
  generalize hav : tkV t L (p + 1) = av at *
  generalize hq1 : tkX t L (p + 1) = q1 at *
  obtain ⟨hb, rb, b1, b2, b3, b4, b5, b6⟩ := sp_sign (E := E) (c := 44) (p := q1) hL (by omega) hT (Or.inr (Or.inl rfl)) a2
  have b1 : zcall zpp E 45 [.ref 2, .int 44] ha = some (some (.int (zb (sgN t L 44 q1))), hb) := b1
  have Yb := Ya.two b6 hs
  have zb' := za.sm b6 (by omega) (fun a e => two_P e)
  have g3a := Ya.1.f3
  have g3b := Yb.1.f3
  cases n2 : sgN t L 44 q1
  · have e2 : hdE t L so N p = .inl (1, q1) := by
      rw [eE, e1, show sgB t L 44 (.inr q1) = .inl (1, q1) from by show (if sgN t L 44 q1 = true then _ else _) = _; rw [n2]; rfl]
    rw [e2]
    rw [n2] at b1 b5
    refine ⟨hb, rb, fun x2 x3 => rh_no hR.1 ?_, b2.1, b2.2.1, zb', b5, b3, Yb.sp⟩
    simp only [ze40, zi40_0, zi40_0n, zi40_1, zi40_4, zi40_6, zi40_9, zi40_9n, zi40_10, zi40_11, zi40_14 (sk := []), zi40_15, zi40_15n, zi40_16, zi40_17, zi40_17n, zi40_18, zi40_21, zi40_22, zi40_23, zi40_26, zi40_29, zi40_30 (sk := []), zi40_31, zi40_31n, zi40_32, zi40_35, zi40_36, zi40_36n, zi40_37, zi40_39, zi40_42, zi40_45, zi40_45n, zi40_46, zi40_47, zi40_47n, zi40_48, zi40_51, zi40_52, zi40_53, zi40_56, zi40_59, zi40_60 (sk := []), zi40_61, zi40_62, zi40_62n, zi40_63, zi40_66, zi40_69, zi40_69n, zi40_70, zi40_71, zi40_72, zi40_72n, zi40_73, zi40_76, zi40_79, zi40_82, zi40_82n, zi40_83, zi40_84, zi40_87 (sk := []), zi40_88, zi40_88n, zi40_89, zi40_90, zi40_91, zi40_91n, zi40_92, zi40_95, zi40_98, zi40_99 (sk := []), zcl1, zlow_0, zlow_1, zlow_2, zlow_3, zlow_4, zfree_0, zfree_i, zfree_r, zfree_n, zfree_d, zfree_f, zfree_s, if_true, if_false, Option.bind_some, Option.toList_some, Option.toList_none, List.cons_append, List.nil_append, List.set_cons_zero, List.set_cons_succ, Bool.false_eq_true, reduceIte, zsw_c, zsw_n, Nat.reduceAdd, f4, eq_true lt, f3, m3, hR.1, c2, a1, z10, f6, a2.1.1, c3, b1, zb_f, z00]
    all_goals rfl
  obtain ⟨s1, -, s3, -, -⟩ := sg_tk (Or.inr (Or.inl rfl)) n2
  rw [s3] at b2
  rw [n2] at b1 b5
  have b1 : zcall zpp E 45 [.ref 2, .int 44] ha = some (some (.int 1), hb) := b1
  have e5 : sgB t L 44 (.inr q1) = .inr (q1 + 1) := by show (if sgN t L 44 q1 = true then _ else _) = _; rw [n2]; rfl
  have e6 : hdE t L so N p = if hdF t L so N av (q1 + 1) = 0 then sgB t L 59 (.inr (tkX t L (q1 + 1))) else .inl (hdF t L so N av (q1 + 1), q1 + 1) := by rw [eE, e1, e5]
  obtain ⟨hc', rc, d1, d2, d3, d4, d5, d6, d7⟩ := sp_number (E := E) (lo := 0) (hi := N 3 - 1) (p := q1 + 1) hL (by omega) hT (by omega) (by omega) b2
  have d1 : zcall zpp E 46 [.ref 2, .int 0, .int (nI (N 3 - 1))] hb = some (some (.int (zb (decide (nmF t L 0 (N 3 - 1) (q1 + 1) = 0)))), hc') := d1
  have Yc := Yb.two d7 hs
  have zc := zb'.sm d7 (by omega) (fun a e => two_P e)
  by_cases n3 : ¬ nmF t L 0 (N 3 - 1) (q1 + 1) = 0
  · have eF : hdF t L so N av (q1 + 1) = nmF t L 0 (N 3 - 1) (q1 + 1) := if_neg n3
    have e2 : hdE t L so N p = .inl (nmF t L 0 (N 3 - 1) (q1 + 1), q1 + 1) := by rw [e6, eF, if_neg n3]
    rw [e2]
    rw [if_neg n3] at d5
    rw [decide_eq_false n3] at d1
    refine ⟨hc', rc, fun x2 x3 => rh_no hR.1 ?_, d2.1, d2.2.1, zc, d5, d3, Yc.sp⟩
    simp only [ze40, zi40_0, zi40_0n, zi40_1, zi40_4, zi40_6, zi40_9, zi40_9n, zi40_10, zi40_11, zi40_14 (sk := []), zi40_15, zi40_15n, zi40_16, zi40_17, zi40_17n, zi40_18, zi40_21, zi40_22, zi40_23, zi40_26, zi40_29, zi40_30 (sk := []), zi40_31, zi40_31n, zi40_32, zi40_35, zi40_36, zi40_36n, zi40_37, zi40_39, zi40_42, zi40_45, zi40_45n, zi40_46, zi40_47, zi40_47n, zi40_48, zi40_51, zi40_52, zi40_53, zi40_56, zi40_59, zi40_60 (sk := []), zi40_61, zi40_62, zi40_62n, zi40_63, zi40_66, zi40_69, zi40_69n, zi40_70, zi40_71, zi40_72, zi40_72n, zi40_73, zi40_76, zi40_79, zi40_82, zi40_82n, zi40_83, zi40_84, zi40_87 (sk := []), zi40_88, zi40_88n, zi40_89, zi40_90, zi40_91, zi40_91n, zi40_92, zi40_95, zi40_98, zi40_99 (sk := []), zcl1, zlow_0, zlow_1, zlow_2, zlow_3, zlow_4, zfree_0, zfree_i, zfree_r, zfree_n, zfree_d, zfree_f, zfree_s, if_true, if_false, Option.bind_some, Option.toList_some, Option.toList_none, List.cons_append, List.nil_append, List.set_cons_zero, List.set_cons_succ, Bool.false_eq_true, reduceIte, zsw_c, zsw_n, Nat.reduceAdd, f4, eq_true lt, f3, m3, hR.1, c2, a1, z10, f6, a2.1.1, c3, b1, g3b, b2.1.1, d1, zb_f, z00]
    all_goals rfl
  have n3 : nmF t L 0 (N 3 - 1) (q1 + 1) = 0 := Classical.not_not.mp n3
  have hx2 := tkX_le (t := t) (L := L) (p := q1 + 1) (by omega)
  rw [n3] at d1
  have d1 : zcall zpp E 46 [.ref 2, .int 0, .int (nI (N 3 - 1))] hb = some (some (.int 1), hc') := d1
  have hg := d6 n3
  rw [if_pos n3] at d5
  have g6 := d2.1.i 6 (by omega) (by omega)
  rw [hg] at g6
  have vb := (nm_in n3).2
  generalize hbv : tkV t L (q1 + 1) = bv at *
  have eF : hdF t L so N av (q1 + 1) = if av = bv ∨ heF N so av bv (N 4) = true then 2 else 0 := by
    unfold hdF
    rw [if_pos n3, hbv]
  -- the way to the test
  have pre : zcall zpp E 40 [.ref 2, .ref s, .int (nI so)] h = zrun zpp E 40 (66, [.ref 2, .ref s, .int (nI so), .int (nI av)], [.int (nI bv), .int (nI av)], hc') := by
    conv =>
      lhs
      simp only [ze40, zi40_0, zi40_0n, zi40_1, zi40_4, zi40_6, zi40_9, zi40_9n, zi40_10, zi40_11, zi40_14 (sk := []), zi40_15, zi40_15n, zi40_16, zi40_17, zi40_17n, zi40_18, zi40_21, zi40_22, zi40_23, zi40_26, zi40_29, zi40_30 (sk := []), zi40_31, zi40_31n, zi40_32, zi40_35, zi40_36, zi40_36n, zi40_37, zi40_39, zi40_42, zi40_45, zi40_45n, zi40_46, zi40_47, zi40_47n, zi40_48, zi40_51, zi40_52, zi40_53, zi40_56, zi40_59, zi40_60 (sk := []), zi40_61, zi40_62, zi40_62n, zi40_63, zcl1, zlow_0, zlow_1, zlow_2, zlow_3, zlow_4, zfree_0, zfree_i, zfree_r, zfree_n, zfree_d, zfree_f, zfree_s, if_true, if_false, Option.bind_some, Option.toList_some, Option.toList_none, List.cons_append, List.nil_append, List.set_cons_zero, List.set_cons_succ, Bool.false_eq_true, reduceIte, zsw_c, zsw_n, Nat.reduceAdd, f4, eq_true lt, f3, m3, hR.1, c2, a1, z10, f6, a2.1.1, c3, b1, g3b, b2.1.1, d1, g6]
  have rf : zrun zpp E 40 (82, [.ref 2, .ref s, .int (nI so), .int (nI av)], [], hc') = some (some (.int 0), zpf hc' 2 2 (.int 2)) := by
    simp only [zi40_82, zi40_82n, zi40_83, zi40_84, zi40_87 (sk := []), zcl1, zlow_0, zlow_1, zlow_2, zlow_3, zlow_4, zfree_0, zfree_i, zfree_r, zfree_n, zfree_d, zfree_f, zfree_s, if_true, if_false, Option.bind_some, Option.toList_some, Option.toList_none, List.cons_append, List.nil_append, List.set_cons_zero, List.set_cons_succ, Bool.false_eq_true, reduceIte, zsw_c, zsw_n, Nat.reduceAdd, d2.1.1, c1, sp_refuse d2.1, z00]
  have bad : hdF t L so N av (q1 + 1) = 2 → zcall zpp E 40 [.ref 2, .ref s, .int (nI so)] h = some (some (.int 0), zpf hc' 2 2 (.int 2)) → ∃ h' r', (∀ x2 x3 : Value, zrun zpp E 39 (48, [.ref 2, .ref s, x2, x3], [.int (nI so), .ref s, .ref 2], h) = zrun zpp E 39 (66, [.ref 2, .ref s, x2, x3], [.int (zb (isR (hdE t L so N p)))], h')) ∧ RC h0 h' r0 r' T t L s k (hdN t L so N p) (hdE t L so N p) := by
    intro e7 run
    have e2 : hdE t L so N p = .inl (2, q1 + 1) := by rw [e6, e7, if_neg (by decide)]
    rw [e2]
    have zf : zsm (fun a => a = 2) hc' (zpf hc' 2 2 (.int 2)) := zsm_pf
    exact ⟨_, _, fun x2 x3 => rh_no hR.1 run, d2.1.put 2 (by omega) (by omega) 2, d2.2.1, zc.sm zf (by omega) (fun a e => two_P e), rfl, d3, (Yc.two zf hs).sp⟩
  by_cases hab : av = bv
  · refine bad (by rw [eF, if_pos (Or.inl hab)]) ?_
    rw [pre, zi40_66, if_pos (by rw [hab]), rf]
  have nab : ¬ nI av = nI bv := by rw [nI_eqP (by omega) (by omega)]; exact hab
  have sh := sp_isHeld (E := E) (s := so) (a := av) (b := bv) Yc.1 h3.2 hso (by omega) (by omega) hab (fun j hj => by have := hH j hj; omega)
  have pre2 : zcall zpp E 40 [.ref 2, .ref s, .int (nI so)] h = zrun zpp E 40 (79, [.ref 2, .ref s, .int (nI so), .int (nI av)], [.int (zb (heF N so av bv (N 4)))], hc') := by
    rw [pre, zi40_66, if_neg nab]
    conv =>
      lhs
      simp only [zi40_69, zi40_69n, zi40_70, zi40_71, zi40_72, zi40_72n, zi40_73, zi40_76, zcl1, zlow_0, zlow_1, zlow_2, zlow_3, zlow_4, zfree_0, zfree_i, zfree_r, zfree_n, zfree_d, zfree_f, zfree_s, if_true, if_false, Option.bind_some, Option.toList_some, Option.toList_none, List.cons_append, List.nil_append, List.set_cons_zero, List.set_cons_succ, Bool.false_eq_true, reduceIte, zsw_c, zsw_n, Nat.reduceAdd, g6, Yc.1.cls, c6, sh]
  cases hhe : heF N so av bv (N 4)
  · have e7 : hdF t L so N av (q1 + 1) = 0 := by rw [eF, if_neg (fun z => by rcases z with z | z; exact hab z; rw [hhe] at z; cases z)]
    obtain ⟨hd, u1, u2, Yd⟩ := addHoldC (E := E) Yc (by omega) (by omega) h3.2 hso (show av < N 3 by omega) (show bv < N 3 by omega) hab (fun j hj => by have := hH j hj; omega)
    have Bd2 : RB hd rc T L (tkX t L (q1 + 1)) := d2.keep (u2.2 2 (by unfold yP; omega)) (u2.2 3 (by unfold yP; omega))
    have zd := zc.sm u2 (by omega) (fun a e => Or.inr e)
    obtain ⟨he, re, v1, v2, v3, v4, v5, v6⟩ := sp_endPart (E := E) (p := tkX t L (q1 + 1)) hL (by omega) hT Bd2
    have Ye := Yd.two v6 hs
    have ze := zd.sm v6 (by omega) (fun a e => two_P e)
    have e3 : hdE t L so N p = sgB t L 59 (.inr (tkX t L (q1 + 1))) := by rw [e6, if_pos e7]
    have run0 : zcall zpp E 40 [.ref 2, .ref s, .int (nI so)] h = some (some (.int 1), hd) := by
      rw [pre2, hhe]
      simp only [zi40_79, zi40_82, zi40_82n, zi40_83, zi40_84, zi40_87 (sk := []), zi40_88, zi40_88n, zi40_89, zi40_90, zi40_91, zi40_91n, zi40_92, zi40_95, zi40_98, zi40_99 (sk := []), zcl1, zlow_0, zlow_1, zlow_2, zlow_3, zlow_4, zfree_0, zfree_i, zfree_r, zfree_n, zfree_d, zfree_f, zfree_s, if_true, if_false, Option.bind_some, Option.toList_some, Option.toList_none, List.cons_append, List.nil_append, List.set_cons_zero, List.set_cons_succ, Bool.false_eq_true, reduceIte, zsw_c, zsw_n, Nat.reduceAdd, zb_f, z00, g6, Yc.1.cls, c4, u1, z10]
      all_goals rfl
    have run : ∀ x2 x3 : Value, zrun zpp E 39 (48, [.ref 2, .ref s, x2, x3], [.int (nI so), .ref s, .ref 2], h) = zrun zpp E 39 (66, [.ref 2, .ref s, x2, x3], [.int (zb (sgN t L 59 (tkX t L (q1 + 1))))], he) := fun x2 x3 => rh_yes hR.1 run0 Bd2.1.1 v1
    cases n4 : sgN t L 59 (tkX t L (q1 + 1))
    · have e4 : hdE t L so N p = .inl (1, tkX t L (q1 + 1)) := by
        rw [e3]
        show (if sgN t L 59 (tkX t L (q1 + 1)) = true then _ else _) = _
        rw [n4]; rfl
      rw [e4]
      obtain ⟨w1, w2⟩ := v5 n4
      rw [n4] at run
      exact ⟨he, re, run, v2, v3, ze, w1, w2, Ye.sp⟩
    · have e4 : hdE t L so N p = .inr (tkX t L (q1 + 1) + 1) := by
        rw [e3]
        show (if sgN t L 59 (tkX t L (q1 + 1)) = true then _ else _) = _
        rw [n4]; rfl
      rw [e4]
      obtain ⟨w1, w2, w3, w4⟩ := v4 n4
      obtain ⟨x1, -, -, -, -⟩ := sg_tk (Or.inr (Or.inr rfl)) n4
      rw [n4] at run
      have eN : hdN t L so N p = holN N so av bv := by unfold hdN; rw [hav, hq1, hbv]
      rw [eN]
      exact ⟨he, re, run, v2, v3, ze, by omega, (w1.trans (d5.trans (b5.trans a5))).trans q2, w2, w3, w4, Ye⟩
  · refine bad (by rw [eF, if_pos (Or.inr hhe)]) ?_
    rw [pre2, hhe, ← rf]
    conv =>
      lhs
      simp only [zi40_79, zcl1, zlow_0, zlow_1, zlow_2, zlow_3, zlow_4, zfree_0, zfree_i, zfree_r, zfree_n, zfree_d, zfree_f, zfree_s, if_true, if_false, Option.bind_some, Option.toList_some, Option.toList_none, List.cons_append, List.nil_append, List.set_cons_zero, List.set_cons_succ, Bool.false_eq_true, reduceIte, zsw_c, zsw_n, Nat.reduceAdd, zb_t, z10]
theorem rl_no {h' : zH} {x2 x3 x4 : Int32} (hc : zcls h 2 = some 5) (e : zcall zpp E 42 [.ref 2, .ref s] h = some (some (.int 0), h')) : zrun zpp E 41 (26, [.ref 2, .ref s, .int x2, .int x3, .int x4], [], h) = zrun zpp E 41 (58, [.ref 2, .ref s, .int (zb false), .int x3, .int x4], [], h') := by
  have c1 : zsel 5 [5, 42] = some 42 := rfl
  conv =>
    lhs
    simp only [zi41_26, zi41_26n, zi41_27, zi41_27n, zi41_28, zi41_31, zi41_32, zi41_33, zcl1, zlow_0, zlow_1, zlow_2, zlow_3, zlow_4, zfree_0, zfree_i, zfree_r, zfree_n, zfree_d, zfree_f, zfree_s, if_true, if_false, Option.bind_some, Option.toList_some, Option.toList_none, List.cons_append, List.nil_append, List.set_cons_zero, List.set_cons_succ, Bool.false_eq_true, reduceIte, zsw_c, zsw_n, Nat.reduceAdd, hc, c1, e, z00]
  rfl
theorem cLifter {p kd c : Nat} (hL : L ≤ 120) (hT : tpO T t L) (hs : 16 ≤ s ∧ s < 34) (hkd : 1 ≤ kd ∧ kd ≤ 5) (hc : ltr c = true) (hk : sgN t L c p = true) (h3 : N 3 ≤ 8) (h4 : N 4 ≤ 10) (h5 : N 5 ≤ 4) (h81 : 87 ≤ h0.length) (hC : RC h0 h r0 r T t L s k N (.inr p)) : ∃ h' r', (∀ x2 x3 : Int32, zrun zpp E 41 (26, [.ref 2, .ref s, .int x2, .int x3, .int (nI kd)], [], h) = zrun zpp E 41 (58, [.ref 2, .ref s, .int (zb (isR (lfE t L N p))), .int x3, .int (nI kd)], [], h')) ∧ RC h0 h' r0 r' T t L s (k + 1) (lfN t L kd N p) (lfE t L N p) := by
  obtain ⟨hR, h1, hz, hp, q2, q3, q4, q5, hY⟩ := hC
  have up : ∀ {H : zH}, RZ h0 H s k → RZ h0 H s (k + 1) := fun {H} z => ⟨z.1, z.2.1, by have := z.2.2.1; omega, by have := z.2.2.2; omega⟩
  have c1 : zsel 5 [5, 47] = some 47 := rfl
  have c2 : zsel 5 [5, 46] = some 46 := rfl
  have c4 : zsel 9 [9, 68] = some 68 := rfl
  have c5 : zsel 5 [5, 44] = some 44 := rfl
  obtain ⟨k1, k2, k3, -, -⟩ := sg_tk (Or.inl hc) hk
  rw [k3] at q3
  have f5 := hY.1.f5
  by_cases h54 : N 5 = 4
  · have eE : lfE t L N p = .inl (3, p) := if_pos h54
    rw [eE]
    have zf : zsm (fun a => a = 2) h (zpf h 2 2 (.int 3)) := zsm_pf
    refine ⟨_, _, fun x2 x3 => rl_no hR.1 ?_, hR.put 2 (by omega) (by omega) 3, h1, up (hz.sm zf (by omega) (fun a e => two_P e)), rfl, q4, (hY.two zf hs).sp⟩
    have ge : (4 : Int32) ≤ nI (N 5) := by rw [h54]; decide
    simp only [ze42, zi42_0, zi42_0n, zi42_1, zi42_4, zi42_5, zi42_8, zi42_8n, zi42_9, zi42_10, zi42_12, zi42_15, zi42_18, zi42_18n, zi42_19, zi42_20, zi42_23 (sk := []), zcl1, zlow_0, zlow_1, zlow_2, zlow_3, zlow_4, zfree_0, zfree_i, zfree_r, zfree_n, zfree_d, zfree_f, zfree_s, if_true, if_false, Option.bind_some, Option.toList_some, Option.toList_none, List.cons_append, List.nil_append, List.set_cons_zero, List.set_cons_succ, Bool.false_eq_true, reduceIte, zsw_c, zsw_n, Nat.reduceAdd, f5, eq_true ge, hR.1, c1, sp_refuse hR, z00]
    all_goals rfl
  have eE : lfE t L N p = sgB t L 59 (nmB t L 1 40 (.inr (p + 1))) := if_neg h54
  have lt : ¬ (4 : Int32) ≤ nI (N 5) := by rw [show (4 : Int32) = nI 4 from rfl, nI_leP (by omega) (by omega)]; omega
  obtain ⟨ha, ra, a1, a2, a3, a4, a5, a6, a7⟩ := sp_number (E := E) (lo := 1) (hi := 40) (p := p + 1) hL (by omega) hT (by omega) (by omega) ⟨hR, h1, q3⟩
  have a1 : zcall zpp E 46 [.ref 2, .int 1, .int 40] h = some (some (.int (zb (decide (nmF t L 1 40 (p + 1) = 0)))), ha) := a1
  have Ya := hY.two a7 hs
  have za := hz.sm a7 (by omega) (fun a e => two_P e)
  by_cases n1 : ¬ nmF t L 1 40 (p + 1) = 0
  · have e2 : lfE t L N p = .inl (nmF t L 1 40 (p + 1), p + 1) := by
      rw [eE, show nmB t L 1 40 (.inr (p + 1)) = .inl (nmF t L 1 40 (p + 1), p + 1) from if_neg n1]
      rfl
    rw [e2]
    rw [if_neg n1] at a5
    rw [decide_eq_false n1] at a1
    refine ⟨ha, ra, fun x2 x3 => rl_no hR.1 ?_, a2.1, a2.2.1, up za, a5, a3, Ya.sp⟩
    simp only [ze42, zi42_0, zi42_0n, zi42_1, zi42_4, zi42_5, zi42_8, zi42_8n, zi42_9, zi42_10, zi42_12, zi42_15, zi42_18, zi42_18n, zi42_19, zi42_20, zi42_23 (sk := []), zcl1, zlow_0, zlow_1, zlow_2, zlow_3, zlow_4, zfree_0, zfree_i, zfree_r, zfree_n, zfree_d, zfree_f, zfree_s, if_true, if_false, Option.bind_some, Option.toList_some, Option.toList_none, List.cons_append, List.nil_append, List.set_cons_zero, List.set_cons_succ, Bool.false_eq_true, reduceIte, zsw_c, zsw_n, Nat.reduceAdd, f5, eq_false lt, hR.1, c2, a1, zb_f, z00]
    all_goals rfl
  have n1 : nmF t L 1 40 (p + 1) = 0 := Classical.not_not.mp n1
  have e1 : nmB t L 1 40 (.inr (p + 1)) = .inr (tkX t L (p + 1)) := if_pos n1
  have hx1 := tkX_le (t := t) (L := L) (p := p + 1) (by omega)
  have hw := a6 n1
  rw [if_pos n1] at a5
  have f6 := a2.1.i 6 (by omega) (by omega)
  rw [hw] at f6
  rw [n1] at a1
  have a1 : zcall zpp E 46 [.ref 2, .int 1, .int 40] h = some (some (.int 1), ha) := a1
  have h81a : 87 ≤ ha.length := by have := za.2.1; omega
  obtain ⟨hd, u1, u2, Yd⟩ := addLifterC (E := E) (fo := tkV t L (p + 1)) Ya (by omega) h81a hkd (by omega) h3 h4
  have e2a : hd[2]? = ha[2]? := (u2.2 2 (by unfold yP; omega)).trans (zat_old (by omega))
  have e3a : hd[3]? = ha[3]? := (u2.2 3 (by unfold yP; omega)).trans (zat_old (by omega))
  have Bd2 : RB hd ra T L (tkX t L (p + 1)) := a2.keep e2a e3a
  have zd : RZ h0 hd s (k + 1) := by
    refine ⟨za.1.tr ((fr_app h81a).tr ((u2.fr (fun a e => by unfold yP at e; omega)).wk (fun a e => Or.inr e))), ?_, ?_, ?_⟩
    · rw [u2.1.1, List.length_append]; have := za.2.1; omega
    · rw [u2.1.1, List.length_append]; have := za.2.2.1; simp only [List.length_cons, List.length_nil]; omega
    · rw [u2.1.2, zsl_app]; have := za.2.2.2; show zsl ha + 2 ≤ _; omega
  obtain ⟨he, re, v1, v2, v3, v4, v5, v6⟩ := sp_endPart (E := E) (p := tkX t L (p + 1)) hL (by omega) hT Bd2
  have Ye := Yd.two v6 hs
  have ze := zd.sm v6 (by omega) (fun a e => two_P e)
  have e3 : lfE t L N p = sgB t L 59 (.inr (tkX t L (p + 1))) := by rw [eE, e1]
  have run0 : zcall zpp E 42 [.ref 2, .ref s] h = some (some (.int 1), ha) := by
    simp only [ze42, zi42_0, zi42_0n, zi42_1, zi42_4, zi42_5, zi42_8, zi42_8n, zi42_9, zi42_10, zi42_12, zi42_15, zi42_18, zi42_18n, zi42_19, zi42_20, zi42_23 (sk := []), zcl1, zlow_0, zlow_1, zlow_2, zlow_3, zlow_4, zfree_0, zfree_i, zfree_r, zfree_n, zfree_d, zfree_f, zfree_s, if_true, if_false, Option.bind_some, Option.toList_some, Option.toList_none, List.cons_append, List.nil_append, List.set_cons_zero, List.set_cons_succ, Bool.false_eq_true, reduceIte, zsw_c, zsw_n, Nat.reduceAdd, f5, eq_false lt, hR.1, c2, a1, z10]
    all_goals rfl
  have c6 : zsel 5 [5, 42] = some 42 := rfl
  have f5a := Ya.1.f5
  have cA : zcls (ha ++ [.inl (kcls kd, [.int (nI (N 5)), .int (nI (tkV t L (p + 1)))])]) s = some 9 := (zcls_c (zat_old (by omega))).trans Ya.1.cls
  have run : ∀ x2 x3 : Int32, zrun zpp E 41 (26, [.ref 2, .ref s, .int x2, .int x3, .int (nI kd)], [], h) = zrun zpp E 41 (58, [.ref 2, .ref s, .int (zb (sgN t L 59 (tkX t L (p + 1)))), .int x3, .int (nI kd)], [], he) := by
    intro x2 x3
    conv =>
      lhs
      simp only [zi41_26, zi41_26n, zi41_27, zi41_27n, zi41_28, zi41_31, zi41_32, zi41_33, zi41_36, zi41_36n, zi41_37, zi41_39, zi41_39n, zi41_40, zi41_43, zi41_43n, zi41_44, zi41_47, zi41_50, zi41_53, zi41_53n, zi41_54, zi41_57, zcl1, zlow_0, zlow_1, zlow_2, zlow_3, zlow_4, zfree_0, zfree_i, zfree_r, zfree_n, zfree_d, zfree_f, zfree_s, if_true, if_false, Option.bind_some, Option.toList_some, Option.toList_none, List.cons_append, List.nil_append, List.set_cons_zero, List.set_cons_succ, Bool.false_eq_true, reduceIte, zsw_c, zsw_n, Nat.reduceAdd, hR.1, c6, run0, z10, f5a, f6, sp_lifterOf hkd, cA, c4, u1, Bd2.1.1, c5, v1]
  cases n4 : sgN t L 59 (tkX t L (p + 1))
  · have e4 : lfE t L N p = .inl (1, tkX t L (p + 1)) := by
      rw [e3]
      show (if sgN t L 59 (tkX t L (p + 1)) = true then _ else _) = _
      rw [n4]; rfl
    rw [e4]
    obtain ⟨w1, w2⟩ := v5 n4
    rw [n4] at run
    exact ⟨he, re, run, v2, v3, ze, w1, w2, Ye.sp⟩
  · have e4 : lfE t L N p = .inr (tkX t L (p + 1) + 1) := by
      rw [e3]
      show (if sgN t L 59 (tkX t L (p + 1)) = true then _ else _) = _
      rw [n4]; rfl
    rw [e4]
    obtain ⟨w1, w2, w3, w4⟩ := v4 n4
    obtain ⟨x1, -, -, -, -⟩ := sg_tk (Or.inr (Or.inr rfl)) n4
    rw [n4] at run
    exact ⟨he, re, run, v2, v3, ze, by omega, (w1.trans a5).trans q2, w2, w3, w4, Ye⟩
end RCH
