/-! THE TEXT: the component reads bikes, holds, lifters -/
def isR (e : Sum (Nat × Nat) Nat) : Bool := match e with
  | .inl _ => false
  | .inr _ => true
def RZ (h0 h : zH) (s k : Nat) : Prop := fr (fun a => a = 2 ∨ yP s a) h0 h ∧ h0.length ≤ h.length ∧ h.length ≤ h0.length + k ∧ zsl h ≤ zsl h0 + 2 * k
theorem RZ.sm {P : Nat → Prop} {h0 h h' : zH} {s k : Nat} (hz : RZ h0 h s k) (z : zsm P h h') (hs : s < 34) (hp : ∀ a, P a → a = 2 ∨ yP s a) : RZ h0 h' s k := by
  obtain ⟨a1, a2, a3, a4⟩ := hz
  refine ⟨a1.tr ((z.fr (fun a e => by have := hp a e; unfold yP at this; omega)).wk hp), ?_, ?_, ?_⟩
  · rw [z.1.1]; exact a2
  · rw [z.1.1]; exact a3
  · rw [z.1.2]; exact a4
def rQ (t : Nat → Nat) (L s : Nat) (h : zH) (r0 r : Nat → Int32) (N : Nat → Nat) (e : Sum (Nat × Nat) Nat) : Prop := match e with
  | .inl x => r 2 = nI x.1 ∧ r 4 = nI x.2 ∧ SP h s
  | .inr p => p ≤ L ∧ r 2 = r0 2 ∧ r 3 = nI (tkX t L p) ∧ r 4 = nI p ∧ r 5 = tkC t L p ∧ YC h s N
def RC (h0 h : zH) (r0 r T : Nat → Int32) (t : Nat → Nat) (L s k : Nat) (N : Nat → Nat) (e : Sum (Nat × Nat) Nat) : Prop := RD h r T ∧ r 1 = nI L ∧ RZ h0 h s k ∧ rQ t L s h r0 r N e
def bkE (t : Nat → Nat) (L : Nat) (N : Nat → Nat) (p : Nat) : Sum (Nat × Nat) Nat := if N 3 = 8 then .inl (3, p) else sgB t L 59 (nmB t L 1 20 (sgB t L 44 (nmB t L 1 30 (.inr (p + 1)))))
def bkN (t : Nat → Nat) (L : Nat) (N : Nat → Nat) (p : Nat) : Nat → Nat := bikN N (tkV t L (p + 1)) (tkV t L (tkX t L (p + 1) + 1))
section RCS
variable {E : zE} {h0 h : zH} {r0 r T : Nat → Int32} {t : Nat → Nat} {L s k : Nat} {N : Nat → Nat}
theorem YC.two {h' : zH} (hY : YC h s N) (z : zsm (fun a => a = 2) h h') (hs : 16 ≤ s ∧ s < 34) : YC h' s N := hY.keep (z.fr (fun a e => by cases e; omega)) (by omega) (fun a h1 h2 => by omega)
theorem two_P {a : Nat} (e : (fun a => a = 2) a) : a = 2 ∨ yP s a := Or.inl e
/-- a part, then its end: the loop's two calls -/
theorem rb_no {h' : zH} {x2 x3 : Value} (hc : zcls h 2 = some 5) (e : zcall zpp E 38 [.ref 2, .ref s] h = some (some (.int 0), h')) : zrun zpp E 37 (28, [.ref 2, .ref s, x2, x3], [], h) = zrun zpp E 37 (48, [.ref 2, .ref s, x2, x3], [.int (zb false)], h') := by
  have c1 : zsel 5 [5, 38] = some 38 := rfl
  conv =>
    lhs
    simp only [zi37_28, zi37_28n, zi37_29, zi37_29n, zi37_30, zi37_33, zi37_36, zi37_36n, zi37_37, zi37_40, zi37_43, zi37_44, zi37_47, zcl1, zlow_0, zlow_1, zlow_2, zlow_3, zlow_4, zfree_0, zfree_i, zfree_r, zfree_n, zfree_d, zfree_f, zfree_s, if_true, if_false, Option.bind_some, Option.toList_some, Option.toList_none, List.cons_append, List.nil_append, List.set_cons_zero, List.set_cons_succ, Bool.false_eq_true, reduceIte, zsw_c, zsw_n, Nat.reduceAdd, hc, c1, e, z00]
  rfl
theorem rb_yes {h1 h' : zH} {b : Bool} {x2 x3 : Value} (hc : zcls h 2 = some 5) (e : zcall zpp E 38 [.ref 2, .ref s] h = some (some (.int 1), h1)) (hc1 : zcls h1 2 = some 5) (e1 : zcall zpp E 44 [.ref 2] h1 = some (some (.int (zb b)), h')) : zrun zpp E 37 (28, [.ref 2, .ref s, x2, x3], [], h) = zrun zpp E 37 (48, [.ref 2, .ref s, x2, x3], [.int (zb b)], h') := by
  have c1 : zsel 5 [5, 38] = some 38 := rfl
  have c2 : zsel 5 [5, 44] = some 44 := rfl
  cases b
  · conv =>
      lhs
      simp only [zi37_28, zi37_28n, zi37_29, zi37_29n, zi37_30, zi37_33, zi37_36, zi37_36n, zi37_37, zi37_40, zi37_43, zi37_44, zi37_47, zcl1, zlow_0, zlow_1, zlow_2, zlow_3, zlow_4, zfree_0, zfree_i, zfree_r, zfree_n, zfree_d, zfree_f, zfree_s, if_true, if_false, Option.bind_some, Option.toList_some, Option.toList_none, List.cons_append, List.nil_append, List.set_cons_zero, List.set_cons_succ, Bool.false_eq_true, reduceIte, zsw_c, zsw_n, Nat.reduceAdd, hc, c1, e, z10, hc1, c2, e1, zb_f, z00]
    rfl
  · conv =>
      lhs
      simp only [zi37_28, zi37_28n, zi37_29, zi37_29n, zi37_30, zi37_33, zi37_36, zi37_36n, zi37_37, zi37_40, zi37_43, zi37_44, zi37_47, zcl1, zlow_0, zlow_1, zlow_2, zlow_3, zlow_4, zfree_0, zfree_i, zfree_r, zfree_n, zfree_d, zfree_f, zfree_s, if_true, if_false, Option.bind_some, Option.toList_some, Option.toList_none, List.cons_append, List.nil_append, List.set_cons_zero, List.set_cons_succ, Bool.false_eq_true, reduceIte, zsw_c, zsw_n, Nat.reduceAdd, hc, c1, e, z10, hc1, c2, e1, zb_t]
    rfl
theorem cBike {p : Nat} (hL : L ≤ 120) (hT : tpO T t L) (hs : 16 ≤ s ∧ s < 34) (hk : sgN t L 107 p = true) (h3 : N 3 ≤ 8) (h4 : N 4 = 0) (h5 : N 5 = 0) (h8 : N 8 < 256) (hC : RC h0 h r0 r T t L s k N (.inr p)) : ∃ h' r', (∀ x2 x3 : Value, zrun zpp E 37 (28, [.ref 2, .ref s, x2, x3], [], h) = zrun zpp E 37 (48, [.ref 2, .ref s, x2, x3], [.int (zb (isR (bkE t L N p)))], h')) ∧ RC h0 h' r0 r' T t L s k (bkN t L N p) (bkE t L N p) := by
  obtain ⟨hR, h1, hz, hp, q2, q3, q4, q5, hY⟩ := hC
  have c1 : zsel 5 [5, 47] = some 47 := rfl
  have c2 : zsel 5 [5, 46] = some 46 := rfl
  have c3 : zsel 5 [5, 45] = some 45 := rfl
  have c4 : zsel 9 [9, 66] = some 66 := rfl
  have c5 : zsel 5 [5, 44] = some 44 := rfl
  obtain ⟨k1, k2, k3, -, -⟩ := sg_tk (Or.inl (show ltr 107 = true from rfl)) hk
  rw [k3] at q3
  have f3 := hY.1.f3
  by_cases h38 : N 3 = 8
  · have eE : bkE t L N p = .inl (3, p) := if_pos h38
    rw [eE]
    have zf : zsm (fun a => a = 2) h (zpf h 2 2 (.int 3)) := zsm_pf
    refine ⟨_, _, fun x2 x3 => rb_no hR.1 ?_, hR.put 2 (by omega) (by omega) 3, h1, hz.sm zf (by omega) (fun a e => two_P e), rfl, q4, (hY.two zf hs).sp⟩
    have ge : ¬ nI (N 3) < 8 := by rw [h38]; decide
    simp only [ze38, zi38_0, zi38_0n, zi38_1, zi38_4, zi38_6, zi38_9, zi38_9n, zi38_10, zi38_11, zi38_14 (sk := []), zcl1, zlow_0, zlow_1, zlow_2, zlow_3, zlow_4, zfree_0, zfree_i, zfree_r, zfree_n, zfree_d, zfree_f, zfree_s, if_true, if_false, Option.bind_some, Option.toList_some, Option.toList_none, List.cons_append, List.nil_append, List.set_cons_zero, List.set_cons_succ, Bool.false_eq_true, reduceIte, zsw_c, zsw_n, Nat.reduceAdd, f3, eq_false ge, hR.1, c1, sp_refuse hR]
    all_goals rfl
  have eE : bkE t L N p = sgB t L 59 (nmB t L 1 20 (sgB t L 44 (nmB t L 1 30 (.inr (p + 1))))) := if_neg h38
  have lt8 : nI (N 3) < 8 := by rw [show (8 : Int32) = nI 8 from rfl, nI_ltP (by omega) (by omega)]; omega
  obtain ⟨ha, ra, a1, a2, a3, a4, a5, a6, a7⟩ := sp_number (E := E) (lo := 1) (hi := 30) (p := p + 1) hL (by omega) hT (by omega) (by omega) ⟨hR, h1, q3⟩
  have a1 : zcall zpp E 46 [.ref 2, .int 1, .int 30] h = some (some (.int (zb (decide (nmF t L 1 30 (p + 1) = 0)))), ha) := a1
  have Ya := hY.two a7 hs
  have za := hz.sm a7 (by omega) (fun a e => two_P e)
  by_cases n1 : ¬ nmF t L 1 30 (p + 1) = 0
  · have e2 : bkE t L N p = .inl (nmF t L 1 30 (p + 1), p + 1) := by
      rw [eE]
      show sgB t L 59 (nmB t L 1 20 (sgB t L 44 (if nmF t L 1 30 (p + 1) = 0 then _ else _))) = _
      rw [if_neg n1]; rfl
    rw [e2]
    rw [if_neg n1] at a5
    rw [decide_eq_false n1] at a1
    refine ⟨ha, ra, fun x2 x3 => rb_no hR.1 ?_, a2.1, a2.2.1, za, a5, a3, Ya.sp⟩
    simp only [ze38, zi38_0, zi38_0n, zi38_1, zi38_4, zi38_6, zi38_9, zi38_9n, zi38_10, zi38_11, zi38_14 (sk := []), zi38_15, zi38_15n, zi38_16, zi38_17, zi38_19, zi38_22, zi38_25, zi38_26 (sk := []), zi38_27, zi38_27n, zi38_28, zi38_31, zi38_32, zi38_32n, zi38_33, zi38_35, zi38_38, zi38_41, zi38_41n, zi38_42, zi38_43, zi38_45, zi38_48, zi38_51, zi38_52 (sk := []), zi38_53, zi38_53n, zi38_54, zi38_55, zi38_55n, zi38_56, zi38_59, zi38_62, zi38_63 (sk := []), zcl1, zlow_0, zlow_1, zlow_2, zlow_3, zlow_4, zfree_0, zfree_i, zfree_r, zfree_n, zfree_d, zfree_f, zfree_s, if_true, if_false, Option.bind_some, Option.toList_some, Option.toList_none, List.cons_append, List.nil_append, List.set_cons_zero, List.set_cons_succ, Bool.false_eq_true, reduceIte, zsw_c, zsw_n, Nat.reduceAdd, f3, eq_true lt8, hR.1, c2, a1, zb_f, z00]
    all_goals rfl
  have n1 : nmF t L 1 30 (p + 1) = 0 := Classical.not_not.mp n1
  have e1 : nmB t L 1 30 (.inr (p + 1)) = .inr (tkX t L (p + 1)) := if_pos n1
  have hx1 := tkX_le (t := t) (L := L) (p := p + 1) (by omega)
  have hw := a6 n1
  rw [if_pos n1] at a5
  have f6 := a2.1.i 6 (by omega) (by omega)
  rw [hw] at f6
  rw [n1] at a1
  have a1 : zcall zpp E 46 [.ref 2, .int 1, .int 30] h = some (some (.int 1), ha) := a1
  generalize hq1 : tkX t L (p + 1) = q1 at *
  obtain ⟨hb, rb, b1, b2, b3, b4, b5, b6⟩ := sp_sign (E := E) (c := 44) (p := q1) hL (by omega) hT (Or.inr (Or.inl rfl)) a2
  have b1 : zcall zpp E 45 [.ref 2, .int 44] ha = some (some (.int (zb (sgN t L 44 q1))), hb) := b1
  have Yb := Ya.two b6 hs
  have zb' := za.sm b6 (by omega) (fun a e => two_P e)
  cases n2 : sgN t L 44 q1
  · have e2 : bkE t L N p = .inl (1, q1) := by
      rw [eE, e1]
      show sgB t L 59 (nmB t L 1 20 (if sgN t L 44 q1 = true then _ else _)) = _
      rw [n2]; rfl
    rw [e2]
    rw [n2] at b1 b5
    refine ⟨hb, rb, fun x2 x3 => rb_no hR.1 ?_, b2.1, b2.2.1, zb', b5, b3, Yb.sp⟩
    simp only [ze38, zi38_0, zi38_0n, zi38_1, zi38_4, zi38_6, zi38_9, zi38_9n, zi38_10, zi38_11, zi38_14 (sk := []), zi38_15, zi38_15n, zi38_16, zi38_17, zi38_19, zi38_22, zi38_25, zi38_26 (sk := []), zi38_27, zi38_27n, zi38_28, zi38_31, zi38_32, zi38_32n, zi38_33, zi38_35, zi38_38, zi38_41, zi38_41n, zi38_42, zi38_43, zi38_45, zi38_48, zi38_51, zi38_52 (sk := []), zi38_53, zi38_53n, zi38_54, zi38_55, zi38_55n, zi38_56, zi38_59, zi38_62, zi38_63 (sk := []), zcl1, zlow_0, zlow_1, zlow_2, zlow_3, zlow_4, zfree_0, zfree_i, zfree_r, zfree_n, zfree_d, zfree_f, zfree_s, if_true, if_false, Option.bind_some, Option.toList_some, Option.toList_none, List.cons_append, List.nil_append, List.set_cons_zero, List.set_cons_succ, Bool.false_eq_true, reduceIte, zsw_c, zsw_n, Nat.reduceAdd, f3, eq_true lt8, hR.1, c2, a1, z10, f6, a2.1.1, c3, b1, zb_f, z00]
    all_goals rfl
  obtain ⟨s1, -, s3, -, -⟩ := sg_tk (Or.inr (Or.inl rfl)) n2
  rw [s3] at b2
  rw [n2] at b1 b5
  have b1 : zcall zpp E 45 [.ref 2, .int 44] ha = some (some (.int 1), hb) := b1
  obtain ⟨hc, rc, d1, d2, d3, d4, d5, d6, d7⟩ := sp_number (E := E) (lo := 1) (hi := 20) (p := q1 + 1) hL (by omega) hT (by omega) (by omega) b2
  have d1 : zcall zpp E 46 [.ref 2, .int 1, .int 20] hb = some (some (.int (zb (decide (nmF t L 1 20 (q1 + 1) = 0)))), hc) := d1
  have Yc := Yb.two d7 hs
  have zc := zb'.sm d7 (by omega) (fun a e => two_P e)
  by_cases n3 : ¬ nmF t L 1 20 (q1 + 1) = 0
  · have e2 : bkE t L N p = .inl (nmF t L 1 20 (q1 + 1), q1 + 1) := by
      rw [eE, e1]
      show sgB t L 59 (nmB t L 1 20 (if sgN t L 44 q1 = true then _ else _)) = _
      rw [n2, if_pos rfl]
      show sgB t L 59 (if nmF t L 1 20 (q1 + 1) = 0 then _ else _) = _
      rw [if_neg n3]; rfl
    rw [e2]
    rw [if_neg n3] at d5
    rw [decide_eq_false n3] at d1
    refine ⟨hc, rc, fun x2 x3 => rb_no hR.1 ?_, d2.1, d2.2.1, zc, d5, d3, Yc.sp⟩
    simp only [ze38, zi38_0, zi38_0n, zi38_1, zi38_4, zi38_6, zi38_9, zi38_9n, zi38_10, zi38_11, zi38_14 (sk := []), zi38_15, zi38_15n, zi38_16, zi38_17, zi38_19, zi38_22, zi38_25, zi38_26 (sk := []), zi38_27, zi38_27n, zi38_28, zi38_31, zi38_32, zi38_32n, zi38_33, zi38_35, zi38_38, zi38_41, zi38_41n, zi38_42, zi38_43, zi38_45, zi38_48, zi38_51, zi38_52 (sk := []), zi38_53, zi38_53n, zi38_54, zi38_55, zi38_55n, zi38_56, zi38_59, zi38_62, zi38_63 (sk := []), zcl1, zlow_0, zlow_1, zlow_2, zlow_3, zlow_4, zfree_0, zfree_i, zfree_r, zfree_n, zfree_d, zfree_f, zfree_s, if_true, if_false, Option.bind_some, Option.toList_some, Option.toList_none, List.cons_append, List.nil_append, List.set_cons_zero, List.set_cons_succ, Bool.false_eq_true, reduceIte, zsw_c, zsw_n, Nat.reduceAdd, f3, eq_true lt8, hR.1, c2, a1, z10, f6, a2.1.1, c3, b1, b2.1.1, d1, zb_f, z00]
    all_goals rfl
  have n3 : nmF t L 1 20 (q1 + 1) = 0 := Classical.not_not.mp n3
  have hx2 := tkX_le (t := t) (L := L) (p := q1 + 1) (by omega)
  rw [n3] at d1
  have d1 : zcall zpp E 46 [.ref 2, .int 1, .int 20] hb = some (some (.int 1), hc) := d1
  have hg := d6 n3
  rw [if_pos n3] at d5
  have g6 := d2.1.i 6 (by omega) (by omega)
  rw [hg] at g6
  obtain ⟨hd, u1, u2, Yd⟩ := addBikeC (E := E) (w := tkV t L (p + 1)) (g := tkV t L (q1 + 1)) Yc (by omega) (by omega) h4 h5 h8
  have Bd2 : RB hd rc T L (tkX t L (q1 + 1)) := d2.keep (u2.2 2 (by unfold yP; omega)) (u2.2 3 (by unfold yP; omega))
  have zd := zc.sm u2 (by omega) (fun a e => Or.inr e)
  obtain ⟨he, re, v1, v2, v3, v4, v5, v6⟩ := sp_endPart (E := E) (p := tkX t L (q1 + 1)) hL (by omega) hT Bd2
  have Ye := Yd.two v6 hs
  have ze := zd.sm v6 (by omega) (fun a e => two_P e)
  have e3 : bkE t L N p = sgB t L 59 (.inr (tkX t L (q1 + 1))) := by
    rw [eE, e1]
    show sgB t L 59 (nmB t L 1 20 (if sgN t L 44 q1 = true then _ else _)) = _
    rw [n2, if_pos rfl]
    show sgB t L 59 (if nmF t L 1 20 (q1 + 1) = 0 then _ else _) = _
    rw [if_pos n3]
  have run0 : zcall zpp E 38 [.ref 2, .ref s] h = some (some (.int 1), hd) := by
    simp only [ze38, zi38_0, zi38_0n, zi38_1, zi38_4, zi38_6, zi38_9, zi38_9n, zi38_10, zi38_11, zi38_14 (sk := []), zi38_15, zi38_15n, zi38_16, zi38_17, zi38_19, zi38_22, zi38_25, zi38_26 (sk := []), zi38_27, zi38_27n, zi38_28, zi38_31, zi38_32, zi38_32n, zi38_33, zi38_35, zi38_38, zi38_41, zi38_41n, zi38_42, zi38_43, zi38_45, zi38_48, zi38_51, zi38_52 (sk := []), zi38_53, zi38_53n, zi38_54, zi38_55, zi38_55n, zi38_56, zi38_59, zi38_62, zi38_63 (sk := []), zcl1, zlow_0, zlow_1, zlow_2, zlow_3, zlow_4, zfree_0, zfree_i, zfree_r, zfree_n, zfree_d, zfree_f, zfree_s, if_true, if_false, Option.bind_some, Option.toList_some, Option.toList_none, List.cons_append, List.nil_append, List.set_cons_zero, List.set_cons_succ, Bool.false_eq_true, reduceIte, zsw_c, zsw_n, Nat.reduceAdd, f3, eq_true lt8, hR.1, c2, a1, z10, f6, a2.1.1, c3, b1, b2.1.1, d1, g6, Yc.1.cls, c4, u1]
    all_goals rfl
  have run : ∀ x2 x3 : Value, zrun zpp E 37 (28, [.ref 2, .ref s, x2, x3], [], h) = zrun zpp E 37 (48, [.ref 2, .ref s, x2, x3], [.int (zb (sgN t L 59 (tkX t L (q1 + 1))))], he) := fun x2 x3 => rb_yes hR.1 run0 Bd2.1.1 v1
  cases n4 : sgN t L 59 (tkX t L (q1 + 1))
  · have e4 : bkE t L N p = .inl (1, tkX t L (q1 + 1)) := by
      rw [e3]
      show (if sgN t L 59 (tkX t L (q1 + 1)) = true then _ else _) = _
      rw [n4]; rfl
    rw [e4]
    obtain ⟨w1, w2⟩ := v5 n4
    rw [n4] at run
    exact ⟨he, re, run, v2, v3, ze, w1, w2, Ye.sp⟩
  · have e4 : bkE t L N p = .inr (tkX t L (q1 + 1) + 1) := by
      rw [e3]
      show (if sgN t L 59 (tkX t L (q1 + 1)) = true then _ else _) = _
      rw [n4]; rfl
    rw [e4]
    obtain ⟨w1, w2, w3, w4⟩ := v4 n4
    obtain ⟨x1, -, -, -, -⟩ := sg_tk (Or.inr (Or.inr rfl)) n4
    rw [n4] at run
    have eN : bkN t L N p = bikN N (tkV t L (p + 1)) (tkV t L (q1 + 1)) := by unfold bkN; rw [hq1]
    rw [eN]
    exact ⟨he, re, run, v2, v3, ze, by omega, (w1.trans (d5.trans (b5.trans a5))).trans q2, w2, w3, w4, Ye⟩
end RCS
