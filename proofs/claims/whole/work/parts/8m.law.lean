/-! THE TEXT: the component reads the law -/
def lwE (t : Nat → Nat) (L : Nat) : Sum (Nat × Nat) Nat := sgB t L 59 (nmB t L 0 20 (sgB t L 44 (nmB t L 0 9 (sgB t L 44 (nmB t L 1 9 (sgB t L 121 (.inr 0)))))))
def lwN (a b c : Nat) : Nat → Nat := fun i => if i = 0 then a else if i = 1 then b else if i = 2 then c else 0
def lwP (t : Nat → Nat) (L : Nat) : Nat × Nat := (tkX t L 1 + 1, tkX t L (tkX t L 1 + 1) + 1)
def lwM (t : Nat → Nat) (L : Nat) : Nat → Nat := lwN (tkV t L 1) (tkV t L (lwP t L).1) (tkV t L (lwP t L).2)
def rL (h0 h : zH) (r0 r T : Nat → Int32) (L s : Nat) (e : Sum (Nat × Nat) Nat) : Prop := RD h r T ∧ r 1 = nI L ∧ RZ h0 h s 0 ∧ (match e with
  | .inl x => r 2 = nI x.1 ∧ r 4 = nI x.2
  | .inr p => p ≤ L ∧ r 2 = r0 2 ∧ r 3 = nI p)
def LY (h : zH) (s : Nat) (F : Nat → Int32) : Prop := (∃ A cr, YAt h s F A cr) ∧ CR h s
theorem isR_r {p : Nat} : isR (.inr p) = true := rfl
theorem isR_l {x : Nat × Nat} : isR (.inl x) = false := rfl
section LAW
variable {E : zE} {h0 h : zH} {r0 r T : Nat → Int32} {t : Nat → Nat} {L s p : Nat} {F : Nat → Int32}
theorem LY.sp (hY : LY h s F) : SP h s := by
  obtain ⟨⟨A, cr, h1⟩, h2⟩ := hY
  exact ⟨⟨F, A, cr, h1⟩, h2⟩
theorem LY.two {h' : zH} (hY : LY h s F) (z : zsm (fun a => a = 2) h h') (hs : 16 ≤ s ∧ s < 34) : LY h' s F := by
  obtain ⟨⟨A, cr, h1⟩, h2⟩ := hY
  exact ⟨⟨A, cr, h1.keep (fun a g1 g2 => z.2 a (by omega))⟩, h2.sm z (by omega) (fun a e => by cases e; omega) (by omega)⟩
theorem LY.st (hY : LY h s F) (k : Nat) (hk : k < 3) (v : Int32) : zstf [9] 0 h s k (.int v) = some (zpf h s k (.int v)) := by
  obtain ⟨⟨A, cr, h1⟩, h2⟩ := hY
  exact h1.w k (by omega)
theorem LY.put (hY : LY h s F) (hs : 16 ≤ s ∧ s < 34) (k : Nat) (hk : k < 3) (v : Int32) : LY (zpf h s k (.int v)) s (upd F k v) := by
  obtain ⟨⟨A, cr, h1⟩, h2⟩ := hY
  exact ⟨⟨A, cr, h1.pf k (by omega)⟩, h2.sm (zsm_pf (a := s)) (by omega) (fun a e => by cases e; omega) (by omega)⟩
theorem rL.keep {h' : zH} {e : Sum (Nat × Nat) Nat} (hC : rL h0 h r0 r T L s e) (hs : 16 ≤ s ∧ s < 34) (z : zsm (yP s) h h') : rL h0 h' r0 r T L s e := ⟨hC.1.keep (z.2 2 (by unfold yP; omega)) (z.2 3 (by unfold yP; omega)), hC.2.1, hC.2.2.1.sm z (by omega) (fun a e => Or.inr e), hC.2.2.2⟩
theorem lSign {c : Nat} (hL : L ≤ 120) (hT : tpO T t L) (hs : 16 ≤ s ∧ s < 34) (hc : isS c) (hC : rL h0 h r0 r T L s (.inr p)) : ∃ h' r', zcall zpp E 45 [.ref 2, .int (nI c)] h = some (some (.int (zb (isR (sgB t L c (.inr p))))), h') ∧ rL h0 h' r0 r' T L s (sgB t L c (.inr p)) ∧ zsm (fun a => a = 2) h h' := by
  obtain ⟨hR, h1, hz, hp, q2, q3⟩ := hC
  obtain ⟨ha, ra, a1, a2, a3, a4, a5, a6⟩ := sp_sign (E := E) hL hp hT hc ⟨hR, h1, q3⟩
  have za := hz.sm a6 (by omega) (fun a e => two_P e)
  cases n : sgN t L c p
  · have e : sgB t L c (.inr p) = .inl (1, p) := by show (if sgN t L c p = true then _ else _) = _; rw [n]; rfl
    rw [n] at a1 a5
    rw [e]
    exact ⟨ha, ra, a1, ⟨a2.1, a2.2.1, za, a5, a3⟩, a6⟩
  · have e : sgB t L c (.inr p) = .inr (p + 1) := by show (if sgN t L c p = true then _ else _) = _; rw [n]; rfl
    obtain ⟨k1, -, k3, -, -⟩ := sg_tk hc n
    rw [k3] at a2
    rw [n] at a1 a5
    rw [e]
    exact ⟨ha, ra, a1, ⟨a2.1, a2.2.1, za, by omega, a5.trans q2, a2.2.2⟩, a6⟩
theorem lNum {lo hi : Nat} (hL : L ≤ 120) (hT : tpO T t L) (hs : 16 ≤ s ∧ s < 34) (hlo : lo < 1000) (hhi : hi < 1000) (hC : rL h0 h r0 r T L s (.inr p)) : ∃ h' r', zcall zpp E 46 [.ref 2, .int (nI lo), .int (nI hi)] h = some (some (.int (zb (isR (nmB t L lo hi (.inr p))))), h') ∧ rL h0 h' r0 r' T L s (nmB t L lo hi (.inr p)) ∧ (nmF t L lo hi p = 0 → r' 6 = nI (tkV t L p)) ∧ zsm (fun a => a = 2) h h' := by
  obtain ⟨hR, h1, hz, hp, q2, q3⟩ := hC
  obtain ⟨ha, ra, a1, a2, a3, a4, a5, a6, a7⟩ := sp_number (E := E) hL hp hT hlo hhi ⟨hR, h1, q3⟩
  have za := hz.sm a7 (by omega) (fun a e => two_P e)
  by_cases n : nmF t L lo hi p = 0
  · have e : nmB t L lo hi (.inr p) = .inr (tkX t L p) := if_pos n
    rw [decide_eq_true n] at a1
    rw [if_pos n] at a5
    rw [e]
    exact ⟨ha, ra, a1, ⟨a2.1, a2.2.1, za, (tkX_le hp).2, a5.trans q2, a2.2.2⟩, a6, a7⟩
  · have e : nmB t L lo hi (.inr p) = .inl (nmF t L lo hi p, p) := if_neg n
    rw [decide_eq_false n] at a1
    rw [if_neg n] at a5
    rw [e]
    exact ⟨ha, ra, a1, ⟨a2.1, a2.2.1, za, a5, a3⟩, a6, a7⟩
theorem cLaw (hL : L ≤ 120) (hT : tpO T t L) (hs : 16 ≤ s ∧ s < 34) (hF : ∀ k, 3 ≤ k → F k = 0) (hY : LY h s F) (hC : rL h0 h r0 r T L s (.inr 0)) : ∃ h' r', zcall zpp E 36 [.ref 2, .ref s] h = some (some (.int (zb (isR (lwE t L)))), h') ∧ rL h0 h' r0 r' T L s (lwE t L) ∧ (match lwE t L with
    | .inl _ => SP h' s
    | .inr _ => YC h' s (lwM t L)) := by
  have c1 : zsel 5 [5, 45] = some 45 := rfl
  have c2 : zsel 5 [5, 46] = some 46 := rfl
  have g0 : lwE t L = sgB t L 59 (nmB t L 0 20 (sgB t L 44 (nmB t L 0 9 (sgB t L 44 (nmB t L 1 9 (sgB t L 121 (.inr 0))))))) := rfl
  obtain ⟨h1, r1, a1, C1, z1⟩ := lSign (E := E) (c := 121) hL hT hs (Or.inl rfl) hC
  have a1 : zcall zpp E 45 [.ref 2, .int 121] h = some (some (.int (zb (isR (sgB t L 121 (.inr 0))))), h1) := a1
  have Y1 := hY.two z1 hs
  have u1 : zcall zpp E 36 [.ref 2, .ref s] h = zrun zpp E 36 (6, [.ref 2, .ref s], [.int (zb (isR (sgB t L 121 (.inr 0))))], h1) := by
    conv =>
      lhs
      simp only [ze36, zi36_0, zi36_0n, zi36_1, zi36_3, zcl1, zlow_0, zlow_1, zlow_2, zlow_3, zlow_4, zfree_0, zfree_i, zfree_r, zfree_n, zfree_d, zfree_f, zfree_s, if_true, if_false, Option.bind_some, Option.toList_some, Option.toList_none, List.cons_append, List.nil_append, List.set_cons_zero, List.set_cons_succ, Bool.false_eq_true, reduceIte, zsw_c, zsw_n, Nat.reduceAdd, hC.1.1, c1, a1]
  cases e1 : sgB t L 121 (.inr 0) with
  | inl x =>
    have ee : lwE t L = .inl x := by rw [g0, e1]; rfl
    rw [e1] at C1
    rw [ee]
    refine ⟨h1, r1, ?_, C1, Y1.sp⟩
    rw [u1, e1]
    simp only [zi36_0, zi36_0n, zi36_1, zi36_3, zi36_6, zi36_9, zi36_9n, zi36_10, zi36_11, zi36_13, zi36_16, zi36_19, zi36_20 (sk := []), zi36_21, zi36_21n, zi36_22, zi36_22n, zi36_23, zi36_26, zi36_29, zi36_29n, zi36_30, zi36_32, zi36_35, zi36_38, zi36_38n, zi36_39, zi36_40, zi36_42, zi36_45, zi36_48, zi36_49 (sk := []), zi36_50, zi36_50n, zi36_51, zi36_51n, zi36_52, zi36_55, zi36_58, zi36_58n, zi36_59, zi36_61, zi36_64, zi36_67, zi36_67n, zi36_68, zi36_69, zi36_71, zi36_74, zi36_77, zi36_78 (sk := []), zi36_79, zi36_79n, zi36_80, zi36_80n, zi36_81, zi36_84, zi36_87, zi36_87n, zi36_88, zi36_90, zi36_93 (sk := []), zcl1, zlow_0, zlow_1, zlow_2, zlow_3, zlow_4, zfree_0, zfree_i, zfree_r, zfree_n, zfree_d, zfree_f, zfree_s, if_true, if_false, Option.bind_some, Option.toList_some, Option.toList_none, List.cons_append, List.nil_append, List.set_cons_zero, List.set_cons_succ, Bool.false_eq_true, reduceIte, zsw_c, zsw_n, Nat.reduceAdd, isR, zb_f, z00]
  | inr p1 =>
  rw [e1] at C1
  have g1 : lwE t L = sgB t L 59 (nmB t L 0 20 (sgB t L 44 (nmB t L 0 9 (sgB t L 44 (nmB t L 1 9 (.inr p1)))))) := by rw [g0, e1]
  obtain ⟨x1, y1, n1, m1⟩ := sgB_in e1
  cases y1
  obtain ⟨h2, r2, a2, C2, v2, z2⟩ := lNum (E := E) (lo := 1) (hi := 9) hL hT hs (by omega) (by omega) C1
  have a2 : zcall zpp E 46 [.ref 2, .int 1, .int 9] h1 = some (some (.int (zb (isR (nmB t L 1 9 (.inr p1))))), h2) := a2
  have Y2 := Y1.two z2 hs
  have u2 : zcall zpp E 36 [.ref 2, .ref s] h = zrun zpp E 36 (16, [.ref 2, .ref s], [.int (zb (isR (nmB t L 1 9 (.inr p1))))], h2) := by
    rw [u1, e1]
    conv =>
      lhs
      simp only [zi36_6, zi36_9, zi36_9n, zi36_10, zi36_11, zi36_13, zcl1, zlow_0, zlow_1, zlow_2, zlow_3, zlow_4, zfree_0, zfree_i, zfree_r, zfree_n, zfree_d, zfree_f, zfree_s, if_true, if_false, Option.bind_some, Option.toList_some, Option.toList_none, List.cons_append, List.nil_append, List.set_cons_zero, List.set_cons_succ, Bool.false_eq_true, reduceIte, zsw_c, zsw_n, Nat.reduceAdd, isR_r, zb_t, z10, C1.1.1, c2, a2]
  cases e2 : nmB t L 1 9 (.inr p1) with
  | inl x =>
    have ee : lwE t L = .inl x := by rw [g1, e2]; rfl
    rw [e2] at C2
    rw [ee]
    refine ⟨h2, r2, ?_, C2, Y2.sp⟩
    rw [u2, e2]
    simp only [zi36_0, zi36_0n, zi36_1, zi36_3, zi36_6, zi36_9, zi36_9n, zi36_10, zi36_11, zi36_13, zi36_16, zi36_19, zi36_20 (sk := []), zi36_21, zi36_21n, zi36_22, zi36_22n, zi36_23, zi36_26, zi36_29, zi36_29n, zi36_30, zi36_32, zi36_35, zi36_38, zi36_38n, zi36_39, zi36_40, zi36_42, zi36_45, zi36_48, zi36_49 (sk := []), zi36_50, zi36_50n, zi36_51, zi36_51n, zi36_52, zi36_55, zi36_58, zi36_58n, zi36_59, zi36_61, zi36_64, zi36_67, zi36_67n, zi36_68, zi36_69, zi36_71, zi36_74, zi36_77, zi36_78 (sk := []), zi36_79, zi36_79n, zi36_80, zi36_80n, zi36_81, zi36_84, zi36_87, zi36_87n, zi36_88, zi36_90, zi36_93 (sk := []), zcl1, zlow_0, zlow_1, zlow_2, zlow_3, zlow_4, zfree_0, zfree_i, zfree_r, zfree_n, zfree_d, zfree_f, zfree_s, if_true, if_false, Option.bind_some, Option.toList_some, Option.toList_none, List.cons_append, List.nil_append, List.set_cons_zero, List.set_cons_succ, Bool.false_eq_true, reduceIte, zsw_c, zsw_n, Nat.reduceAdd, isR, zb_f, z00]
  | inr p2 =>
  rw [e2] at C2
  have g2 : lwE t L = sgB t L 59 (nmB t L 0 20 (sgB t L 44 (nmB t L 0 9 (sgB t L 44 (.inr p2))))) := by rw [g1, e2]
  obtain ⟨x2, y2, n2, m2⟩ := nmB_in e2
  cases y2
  have f2 := C2.1.i 6 (by omega) (by omega)
  rw [v2 n2] at f2
  have st2 := Y2.st 0 (by omega) (nI (tkV t L p1))
  have D2 := Y2.put hs 0 (by omega) (nI (tkV t L p1))
  have B2 := C2.keep hs (zsm_y (f := 0) (v := .int (nI (tkV t L p1))))
  obtain ⟨h3, r3, a3, C3, z3⟩ := lSign (E := E) (c := 44) hL hT hs (Or.inr (Or.inl rfl)) B2
  have a3 : zcall zpp E 45 [.ref 2, .int 44] (zpf h2 s 0 (.int (nI (tkV t L p1)))) = some (some (.int (zb (isR (sgB t L 44 (.inr p2))))), h3) := a3
  have Y3 := D2.two z3 hs
  have u3 : zcall zpp E 36 [.ref 2, .ref s] h = zrun zpp E 36 (35, [.ref 2, .ref s], [.int (zb (isR (sgB t L 44 (.inr p2))))], h3) := by
    rw [u2, e2]
    conv =>
      lhs
      simp only [zi36_16, zi36_19, zi36_20 (sk := []), zi36_21, zi36_21n, zi36_22, zi36_22n, zi36_23, zi36_26, zi36_29, zi36_29n, zi36_30, zi36_32, zcl1, zlow_0, zlow_1, zlow_2, zlow_3, zlow_4, zfree_0, zfree_i, zfree_r, zfree_n, zfree_d, zfree_f, zfree_s, if_true, if_false, Option.bind_some, Option.toList_some, Option.toList_none, List.cons_append, List.nil_append, List.set_cons_zero, List.set_cons_succ, Bool.false_eq_true, reduceIte, zsw_c, zsw_n, Nat.reduceAdd, isR_r, zb_t, z10, f2, st2, B2.1.1, c1, a3]
  cases e3 : sgB t L 44 (.inr p2) with
  | inl x =>
    have ee : lwE t L = .inl x := by rw [g2, e3]; rfl
    rw [e3] at C3
    rw [ee]
    refine ⟨h3, r3, ?_, C3, Y3.sp⟩
    rw [u3, e3]
    simp only [zi36_0, zi36_0n, zi36_1, zi36_3, zi36_6, zi36_9, zi36_9n, zi36_10, zi36_11, zi36_13, zi36_16, zi36_19, zi36_20 (sk := []), zi36_21, zi36_21n, zi36_22, zi36_22n, zi36_23, zi36_26, zi36_29, zi36_29n, zi36_30, zi36_32, zi36_35, zi36_38, zi36_38n, zi36_39, zi36_40, zi36_42, zi36_45, zi36_48, zi36_49 (sk := []), zi36_50, zi36_50n, zi36_51, zi36_51n, zi36_52, zi36_55, zi36_58, zi36_58n, zi36_59, zi36_61, zi36_64, zi36_67, zi36_67n, zi36_68, zi36_69, zi36_71, zi36_74, zi36_77, zi36_78 (sk := []), zi36_79, zi36_79n, zi36_80, zi36_80n, zi36_81, zi36_84, zi36_87, zi36_87n, zi36_88, zi36_90, zi36_93 (sk := []), zcl1, zlow_0, zlow_1, zlow_2, zlow_3, zlow_4, zfree_0, zfree_i, zfree_r, zfree_n, zfree_d, zfree_f, zfree_s, if_true, if_false, Option.bind_some, Option.toList_some, Option.toList_none, List.cons_append, List.nil_append, List.set_cons_zero, List.set_cons_succ, Bool.false_eq_true, reduceIte, zsw_c, zsw_n, Nat.reduceAdd, isR, zb_f, z00]
  | inr p3 =>
  rw [e3] at C3
  have g3 : lwE t L = sgB t L 59 (nmB t L 0 20 (sgB t L 44 (nmB t L 0 9 (.inr p3)))) := by rw [g2, e3]
  obtain ⟨x3, y3, n3, m3⟩ := sgB_in e3
  cases y3
  obtain ⟨h4, r4, a4, C4, v4, z4⟩ := lNum (E := E) (lo := 0) (hi := 9) hL hT hs (by omega) (by omega) C3
  have a4 : zcall zpp E 46 [.ref 2, .int 0, .int 9] h3 = some (some (.int (zb (isR (nmB t L 0 9 (.inr p3))))), h4) := a4
  have Y4 := Y3.two z4 hs
  have u4 : zcall zpp E 36 [.ref 2, .ref s] h = zrun zpp E 36 (45, [.ref 2, .ref s], [.int (zb (isR (nmB t L 0 9 (.inr p3))))], h4) := by
    rw [u3, e3]
    conv =>
      lhs
      simp only [zi36_35, zi36_38, zi36_38n, zi36_39, zi36_40, zi36_42, zcl1, zlow_0, zlow_1, zlow_2, zlow_3, zlow_4, zfree_0, zfree_i, zfree_r, zfree_n, zfree_d, zfree_f, zfree_s, if_true, if_false, Option.bind_some, Option.toList_some, Option.toList_none, List.cons_append, List.nil_append, List.set_cons_zero, List.set_cons_succ, Bool.false_eq_true, reduceIte, zsw_c, zsw_n, Nat.reduceAdd, isR_r, zb_t, z10, C3.1.1, c2, a4]
  cases e4 : nmB t L 0 9 (.inr p3) with
  | inl x =>
    have ee : lwE t L = .inl x := by rw [g3, e4]; rfl
    rw [e4] at C4
    rw [ee]
    refine ⟨h4, r4, ?_, C4, Y4.sp⟩
    rw [u4, e4]
    simp only [zi36_0, zi36_0n, zi36_1, zi36_3, zi36_6, zi36_9, zi36_9n, zi36_10, zi36_11, zi36_13, zi36_16, zi36_19, zi36_20 (sk := []), zi36_21, zi36_21n, zi36_22, zi36_22n, zi36_23, zi36_26, zi36_29, zi36_29n, zi36_30, zi36_32, zi36_35, zi36_38, zi36_38n, zi36_39, zi36_40, zi36_42, zi36_45, zi36_48, zi36_49 (sk := []), zi36_50, zi36_50n, zi36_51, zi36_51n, zi36_52, zi36_55, zi36_58, zi36_58n, zi36_59, zi36_61, zi36_64, zi36_67, zi36_67n, zi36_68, zi36_69, zi36_71, zi36_74, zi36_77, zi36_78 (sk := []), zi36_79, zi36_79n, zi36_80, zi36_80n, zi36_81, zi36_84, zi36_87, zi36_87n, zi36_88, zi36_90, zi36_93 (sk := []), zcl1, zlow_0, zlow_1, zlow_2, zlow_3, zlow_4, zfree_0, zfree_i, zfree_r, zfree_n, zfree_d, zfree_f, zfree_s, if_true, if_false, Option.bind_some, Option.toList_some, Option.toList_none, List.cons_append, List.nil_append, List.set_cons_zero, List.set_cons_succ, Bool.false_eq_true, reduceIte, zsw_c, zsw_n, Nat.reduceAdd, isR, zb_f, z00]
  | inr p4 =>
  rw [e4] at C4
  have g4 : lwE t L = sgB t L 59 (nmB t L 0 20 (sgB t L 44 (.inr p4))) := by rw [g3, e4]
  obtain ⟨x4, y4, n4, m4⟩ := nmB_in e4
  cases y4
  have f4 := C4.1.i 6 (by omega) (by omega)
  rw [v4 n4] at f4
  have st4 := Y4.st 1 (by omega) (nI (tkV t L p3))
  have D4 := Y4.put hs 1 (by omega) (nI (tkV t L p3))
  have B4 := C4.keep hs (zsm_y (f := 1) (v := .int (nI (tkV t L p3))))
  obtain ⟨h5, r5, a5, C5, z5⟩ := lSign (E := E) (c := 44) hL hT hs (Or.inr (Or.inl rfl)) B4
  have a5 : zcall zpp E 45 [.ref 2, .int 44] (zpf h4 s 1 (.int (nI (tkV t L p3)))) = some (some (.int (zb (isR (sgB t L 44 (.inr p4))))), h5) := a5
  have Y5 := D4.two z5 hs
  have u5 : zcall zpp E 36 [.ref 2, .ref s] h = zrun zpp E 36 (64, [.ref 2, .ref s], [.int (zb (isR (sgB t L 44 (.inr p4))))], h5) := by
    rw [u4, e4]
    conv =>
      lhs
      simp only [zi36_45, zi36_48, zi36_49 (sk := []), zi36_50, zi36_50n, zi36_51, zi36_51n, zi36_52, zi36_55, zi36_58, zi36_58n, zi36_59, zi36_61, zcl1, zlow_0, zlow_1, zlow_2, zlow_3, zlow_4, zfree_0, zfree_i, zfree_r, zfree_n, zfree_d, zfree_f, zfree_s, if_true, if_false, Option.bind_some, Option.toList_some, Option.toList_none, List.cons_append, List.nil_append, List.set_cons_zero, List.set_cons_succ, Bool.false_eq_true, reduceIte, zsw_c, zsw_n, Nat.reduceAdd, isR_r, zb_t, z10, f4, st4, B4.1.1, c1, a5]
  cases e5 : sgB t L 44 (.inr p4) with
  | inl x =>
    have ee : lwE t L = .inl x := by rw [g4, e5]; rfl
    rw [e5] at C5
    rw [ee]
    refine ⟨h5, r5, ?_, C5, Y5.sp⟩
    rw [u5, e5]
    simp only [zi36_0, zi36_0n, zi36_1, zi36_3, zi36_6, zi36_9, zi36_9n, zi36_10, zi36_11, zi36_13, zi36_16, zi36_19, zi36_20 (sk := []), zi36_21, zi36_21n, zi36_22, zi36_22n, zi36_23, zi36_26, zi36_29, zi36_29n, zi36_30, zi36_32, zi36_35, zi36_38, zi36_38n, zi36_39, zi36_40, zi36_42, zi36_45, zi36_48, zi36_49 (sk := []), zi36_50, zi36_50n, zi36_51, zi36_51n, zi36_52, zi36_55, zi36_58, zi36_58n, zi36_59, zi36_61, zi36_64, zi36_67, zi36_67n, zi36_68, zi36_69, zi36_71, zi36_74, zi36_77, zi36_78 (sk := []), zi36_79, zi36_79n, zi36_80, zi36_80n, zi36_81, zi36_84, zi36_87, zi36_87n, zi36_88, zi36_90, zi36_93 (sk := []), zcl1, zlow_0, zlow_1, zlow_2, zlow_3, zlow_4, zfree_0, zfree_i, zfree_r, zfree_n, zfree_d, zfree_f, zfree_s, if_true, if_false, Option.bind_some, Option.toList_some, Option.toList_none, List.cons_append, List.nil_append, List.set_cons_zero, List.set_cons_succ, Bool.false_eq_true, reduceIte, zsw_c, zsw_n, Nat.reduceAdd, isR, zb_f, z00]
  | inr p5 =>
  rw [e5] at C5
  have g5 : lwE t L = sgB t L 59 (nmB t L 0 20 (.inr p5)) := by rw [g4, e5]
  obtain ⟨x5, y5, n5, m5⟩ := sgB_in e5
  cases y5
  obtain ⟨h6, r6, a6, C6, v6, z6⟩ := lNum (E := E) (lo := 0) (hi := 20) hL hT hs (by omega) (by omega) C5
  have a6 : zcall zpp E 46 [.ref 2, .int 0, .int 20] h5 = some (some (.int (zb (isR (nmB t L 0 20 (.inr p5))))), h6) := a6
  have Y6 := Y5.two z6 hs
  have u6 : zcall zpp E 36 [.ref 2, .ref s] h = zrun zpp E 36 (74, [.ref 2, .ref s], [.int (zb (isR (nmB t L 0 20 (.inr p5))))], h6) := by
    rw [u5, e5]
    conv =>
      lhs
      simp only [zi36_64, zi36_67, zi36_67n, zi36_68, zi36_69, zi36_71, zcl1, zlow_0, zlow_1, zlow_2, zlow_3, zlow_4, zfree_0, zfree_i, zfree_r, zfree_n, zfree_d, zfree_f, zfree_s, if_true, if_false, Option.bind_some, Option.toList_some, Option.toList_none, List.cons_append, List.nil_append, List.set_cons_zero, List.set_cons_succ, Bool.false_eq_true, reduceIte, zsw_c, zsw_n, Nat.reduceAdd, isR_r, zb_t, z10, C5.1.1, c2, a6]
  cases e6 : nmB t L 0 20 (.inr p5) with
  | inl x =>
    have ee : lwE t L = .inl x := by rw [g5, e6]; rfl
    rw [e6] at C6
    rw [ee]
    refine ⟨h6, r6, ?_, C6, Y6.sp⟩
    rw [u6, e6]
    simp only [zi36_0, zi36_0n, zi36_1, zi36_3, zi36_6, zi36_9, zi36_9n, zi36_10, zi36_11, zi36_13, zi36_16, zi36_19, zi36_20 (sk := []), zi36_21, zi36_21n, zi36_22, zi36_22n, zi36_23, zi36_26, zi36_29, zi36_29n, zi36_30, zi36_32, zi36_35, zi36_38, zi36_38n, zi36_39, zi36_40, zi36_42, zi36_45, zi36_48, zi36_49 (sk := []), zi36_50, zi36_50n, zi36_51, zi36_51n, zi36_52, zi36_55, zi36_58, zi36_58n, zi36_59, zi36_61, zi36_64, zi36_67, zi36_67n, zi36_68, zi36_69, zi36_71, zi36_74, zi36_77, zi36_78 (sk := []), zi36_79, zi36_79n, zi36_80, zi36_80n, zi36_81, zi36_84, zi36_87, zi36_87n, zi36_88, zi36_90, zi36_93 (sk := []), zcl1, zlow_0, zlow_1, zlow_2, zlow_3, zlow_4, zfree_0, zfree_i, zfree_r, zfree_n, zfree_d, zfree_f, zfree_s, if_true, if_false, Option.bind_some, Option.toList_some, Option.toList_none, List.cons_append, List.nil_append, List.set_cons_zero, List.set_cons_succ, Bool.false_eq_true, reduceIte, zsw_c, zsw_n, Nat.reduceAdd, isR, zb_f, z00]
  | inr p6 =>
  rw [e6] at C6
  have g6 : lwE t L = sgB t L 59 (.inr p6) := by rw [g5, e6]
  obtain ⟨x6, y6, n6, m6⟩ := nmB_in e6
  cases y6
  have f6 := C6.1.i 6 (by omega) (by omega)
  rw [v6 n6] at f6
  have st6 := Y6.st 2 (by omega) (nI (tkV t L p5))
  have D6 := Y6.put hs 2 (by omega) (nI (tkV t L p5))
  have B6 := C6.keep hs (zsm_y (f := 2) (v := .int (nI (tkV t L p5))))
  obtain ⟨h7, r7, a7, C7, z7⟩ := lSign (E := E) (c := 59) hL hT hs (Or.inr (Or.inr rfl)) B6
  have a7 : zcall zpp E 45 [.ref 2, .int 59] (zpf h6 s 2 (.int (nI (tkV t L p5)))) = some (some (.int (zb (isR (sgB t L 59 (.inr p6))))), h7) := a7
  have Y7 := D6.two z7 hs
  have u7 : zcall zpp E 36 [.ref 2, .ref s] h = zrun zpp E 36 (93, [.ref 2, .ref s], [.int (zb (isR (sgB t L 59 (.inr p6))))], h7) := by
    rw [u6, e6]
    conv =>
      lhs
      simp only [zi36_74, zi36_77, zi36_78 (sk := []), zi36_79, zi36_79n, zi36_80, zi36_80n, zi36_81, zi36_84, zi36_87, zi36_87n, zi36_88, zi36_90, zcl1, zlow_0, zlow_1, zlow_2, zlow_3, zlow_4, zfree_0, zfree_i, zfree_r, zfree_n, zfree_d, zfree_f, zfree_s, if_true, if_false, Option.bind_some, Option.toList_some, Option.toList_none, List.cons_append, List.nil_append, List.set_cons_zero, List.set_cons_succ, Bool.false_eq_true, reduceIte, zsw_c, zsw_n, Nat.reduceAdd, isR_r, zb_t, z10, f6, st6, B6.1.1, c1, a7]
  have run : zcall zpp E 36 [.ref 2, .ref s] h = some (some (.int (zb (isR (lwE t L)))), h7) := by
    rw [u7, ← g6]
    simp only [zi36_0, zi36_0n, zi36_1, zi36_3, zi36_6, zi36_9, zi36_9n, zi36_10, zi36_11, zi36_13, zi36_16, zi36_19, zi36_20 (sk := []), zi36_21, zi36_21n, zi36_22, zi36_22n, zi36_23, zi36_26, zi36_29, zi36_29n, zi36_30, zi36_32, zi36_35, zi36_38, zi36_38n, zi36_39, zi36_40, zi36_42, zi36_45, zi36_48, zi36_49 (sk := []), zi36_50, zi36_50n, zi36_51, zi36_51n, zi36_52, zi36_55, zi36_58, zi36_58n, zi36_59, zi36_61, zi36_64, zi36_67, zi36_67n, zi36_68, zi36_69, zi36_71, zi36_74, zi36_77, zi36_78 (sk := []), zi36_79, zi36_79n, zi36_80, zi36_80n, zi36_81, zi36_84, zi36_87, zi36_87n, zi36_88, zi36_90, zi36_93 (sk := []), zcl1, zlow_0, zlow_1, zlow_2, zlow_3, zlow_4, zfree_0, zfree_i, zfree_r, zfree_n, zfree_d, zfree_f, zfree_s, if_true, if_false, Option.bind_some, Option.toList_some, Option.toList_none, List.cons_append, List.nil_append, List.set_cons_zero, List.set_cons_succ, Bool.false_eq_true, reduceIte, zsw_c, zsw_n, Nat.reduceAdd]
    exact zb_ret (f := fun v => some (some (Value.int v), h7))
  rw [← g6] at C7
  refine ⟨h7, r7, run, C7, ?_⟩
  cases e7 : lwE t L with
  | inl x => exact Y7.sp
  | inr q =>
    have v1 : tkV t L p1 = tkV t L 1 := by rw [m1]
    have v2 : tkV t L p3 = tkV t L (lwP t L).1 := by rw [m3, m2, m1]; rfl
    have v3 : tkV t L p5 = tkV t L (lwP t L).2 := by rw [m5, m4, m3, m2, m1]; rfl
    obtain ⟨⟨A, cr, y1⟩, y2⟩ := Y7
    refine ⟨⟨A, cr, y1.ext (fun k k1 k2 => ?_), fun b hb => absurd hb (Nat.not_lt_zero _), fun b hb => absurd hb (Nat.not_lt_zero _), fun b hb => absurd hb (Nat.not_lt_zero _)⟩, y2⟩
    rw [v1, v2, v3]
    have : k = 0 ∨ k = 1 ∨ k = 2 ∨ 3 ≤ k := by omega
    rcases this with rfl | rfl | rfl | h3
    · rfl
    · rfl
    · rfl
    · show upd (upd (upd F 0 _) 1 _) 2 _ k = _
      unfold upd
      rw [if_neg (by omega), if_neg (by omega), if_neg (by omega), hF k h3]
      unfold yF
      have : k = 3 ∨ k = 4 ∨ k = 5 ∨ k = 14 ∨ k = 15 ∨ k = 16 ∨ k = 17 := by omega
      rcases this with rfl | rfl | rfl | rfl | rfl | rfl | rfl <;> rfl
end LAW
