/-! ACTS: what both keep of them -/
def nup (N : Nat → Nat) (i w : Nat) : Nat → Nat := fun j => if j = i then w else N j
theorem nup_s {N : Nat → Nat} {i w : Nat} : nup N i w i = w := by unfold nup; rw [if_pos rfl]
theorem nup_o {N : Nat → Nat} {i w j : Nat} (h : j ≠ i) : nup N i w j = N j := by unfold nup; rw [if_neg h]
theorem YN.put {h : zH} {y : Nat} {N : Nat → Nat} (hY : YN h y N) (hy : y < 87) (f i : Nat) (hfi : (f = 16 ∧ i = 6) ∨ (f = 17 ∧ i = 7) ∨ (f = 15 ∧ i = 8)) (w : Nat) : YN (zpf h y f (.int (nI w))) y (nup N i w) := by
  refine hY.mov (zcls_pf.trans hY.cls) (fun k hk hq => ?_) (fun k h1 h2 => zfld_f (by omega)) (fun a h1 h2 => zpf_o (by omega)) (fun a h1 c h2 => (zpf_o (by omega)).trans h2) (fun j h6 h7 h8 => nup_o (by omega))
  have e4 : nup N i w 4 = N 4 := nup_o (by omega)
  have els : lsF (nup N i w) (N 4) = lsF N (N 4) := lsF_c (fun j hj => nup_o (by omega)) _
  by_cases kf : k = f
  · subst kf
    rw [zfld_same, hY.i k (by omega)]
    rcases hfi with ⟨rfl, rfl⟩ | ⟨rfl, rfl⟩ | ⟨rfl, rfl⟩ <;> rfl
  · rw [zfld_f (fun z => kf z.symm), hY.i k (by omega)]
    unfold yF
    have : k < 6 ∨ k = 14 ∨ k = 15 ∨ k = 16 ∨ k = 17 := by omega
    rcases this with hk6 | rfl | rfl | rfl | rfl
    · rw [if_pos hk6, if_pos hk6, nup_o (by omega)]
    · simp only [show ¬ 14 < 6 by omega, if_false, if_true, e4, els]
    · rw [if_neg (by omega), if_neg (by omega), if_pos rfl, if_neg (by omega), if_neg (by omega), if_pos rfl, nup_o (by omega)]
    · rw [if_neg (by omega), if_neg (by omega), if_neg (by omega), if_pos rfl, if_neg (by omega), if_neg (by omega), if_neg (by omega), if_pos rfl, nup_o (by omega)]
    · rw [if_neg (by omega), if_neg (by omega), if_neg (by omega), if_neg (by omega), if_neg (by omega), if_neg (by omega), if_neg (by omega), if_neg (by omega), nup_o (by omega)]
/-- a gap's new number -/
theorem YN.gap {h : zH} {y b : Nat} {N : Nat → Nat} (hY : YN h y N) (hy : y < 70) (h8 : N 3 ≤ 8) (hb : b < N 3) (w : Nat) : YN (zpa h (y + 2) b (nI w)) y (nup N (10 + 2 * b) w) := by
  obtain ⟨A, cr, Y, b1, b2, b3⟩ := hY
  have e3 : nup N (10 + 2 * b) w 3 = N 3 := nup_o (by omega)
  have e4 : nup N (10 + 2 * b) w 4 = N 4 := nup_o (by omega)
  have e5 : nup N (10 + 2 * b) w 5 = N 5 := nup_o (by omega)
  have h25 : ∀ i, 25 ≤ i → nup N (10 + 2 * b) w i = N i := fun i hi => nup_o (by omega)
  have Y1 : YAt (zpa h (y + (1 + 1)) b (nI w)) y (yF N) (fun j' => if j' = 1 then upd (A 1) b (nI w) else A j') cr := Y.pa 1 (by omega)
  refine ⟨_, cr, Y1.ext (fun k hk hq => ?_), fun c hc => ?_, fun k hk => ?_, fun v hv => ?_⟩
  · unfold yF
    rw [e4, lsF_c h25]
    by_cases hk6 : k < 6
    · rw [if_pos hk6, if_pos hk6, nup_o (by omega)]
    · rw [if_neg hk6, if_neg hk6, nup_o (by omega), nup_o (by omega), nup_o (by omega)]
  · rw [e3] at hc
    obtain ⟨q1, q2, q3, q4⟩ := b1 c hc
    rw [e4, abF_c h25, caF_c h25, nup_o (show 9 + 2 * c ≠ 10 + 2 * b by omega)]
    refine ⟨q1, ?_, q3, q4⟩
    show upd (A 1) b (nI w) c = _
    unfold upd nup
    by_cases hcb : c = b
    · rw [if_pos hcb, if_pos (by omega)]
    · rw [if_neg hcb, if_neg (by omega)]
      exact q2
  · rw [e4] at hk
    rw [h25 _ (by omega), h25 _ (by omega), h25 _ (by omega)]
    exact b2 k hk
  · rw [e5] at hv
    obtain ⟨q, q1, q2⟩ := b3 v hv
    rw [h25 _ (by omega), h25 _ (by omega)]
    exact ⟨q, q1, LAt_c (fun a h1 c h2 => (zpa_o (by omega)).trans h2) q2⟩
theorem MY.s {h : zH} {N : Nat → Nat} (hY : MY h N) (j : Nat) (hj : j < 73) {x v : Int32} (e : x = nI j) : zars 0 h 77 x v = some (zpa h 77 j v) := by
  subst e
  exact zars_at hY hj (by decide) zfits_i
theorem MY.put {h : zH} {N : Nat → Nat} (hY : MY h N) (j w : Nat) : MY (zpa h 77 j (nI w)) (nup N j w) := zrow_ext (zrow_pa hY) (fun i _ => by
  show (if i = j then nI w else nI (N i)) = nI (if i = j then w else N i)
  split <;> rfl)
theorem MY.ext {h : zH} {N N' : Nat → Nat} (hY : MY h N) (e : ∀ i, i < 73 → N i = N' i) : MY h N' := zrow_ext hY (fun i hi => by rw [e i hi])
/-- where the next act goes, and what goes down by one -/
def aB (A : Nat) : Nat := if A < 24 then A else 23
def aS (A j : Nat) : Nat := if A < 24 then j else j + 1
theorem aS_B {A : Nat} (h : A ≤ 24) : aS A (aB A) = A := by
  unfold aS aB
  split
  · rfl
  · omega
section KEEP
variable {E : zE} {h : zH} {sc : Nat → Int32} {N : Nat → Nat}
theorem sp_keep {A : Nat} {R : Nat → Nat → Int32} (hA : AC h A R) (h24 : A ≤ 24) (a b c d : Int32) : ∃ h' R', zcall zpp E 3 [.ref 5, .int a, .int b, .int c, .int d] h = some (none, h') ∧ AC h' (aB A + 1) R' ∧ (∀ f, f < 5 → ∀ j, j < aB A → R' f j = R f (aS A j)) ∧ R' 0 (aB A) = a ∧ R' 1 (aB A) = b ∧ R' 3 (aB A) = c ∧ R' 4 (aB A) = d ∧ zsm aP h h' := by
  by_cases hk : A < 24
  · obtain ⟨h', R', e, q1, q2, q3⟩ := sp_keepRoom (E := E) hA hk a b c d
    have eB : aB A = A := if_pos hk
    have eS : ∀ j, aS A j = j := fun j => if_pos hk
    rw [eB]
    refine ⟨h', R', e, q1, fun f hf j hj => ?_, ?_, ?_, ?_, ?_, q3⟩
    · obtain ⟨r0, r1, r2, r3, r4⟩ := q2 j
      rw [eS]
      have u : ∀ (g : Nat → Int32) v, upd g A v j = g j := fun g v => by unfold upd; rw [if_neg (by omega)]
      obtain rfl | rfl | rfl | rfl | rfl : f = 0 ∨ f = 1 ∨ f = 2 ∨ f = 3 ∨ f = 4 := by omega
      · rw [r0, u]
      · rw [r1, u]
      · exact r2
      · rw [r3, u]
      · rw [r4, u]
    · rw [(q2 A).1]; unfold upd; rw [if_pos rfl]
    · rw [(q2 A).2.1]; unfold upd; rw [if_pos rfl]
    · rw [(q2 A).2.2.2.1]; unfold upd; rw [if_pos rfl]
    · rw [(q2 A).2.2.2.2]; unfold upd; rw [if_pos rfl]
  · have e24 : A = 24 := by omega
    subst e24
    obtain ⟨h', R', e, q1, q2, q3⟩ := sp_keepFull (E := E) hA a b c d
    refine ⟨h', R', e, q1, fun f hf j hj => ?_, ?_, ?_, ?_, ?_, q3⟩
    · obtain ⟨r0, r1, r2, r3, r4⟩ := q2 j
      have hj : j < 23 := hj
      have u : ∀ (g : Nat → Int32) v, upd (shf g) 23 v j = g (aS 24 j) := fun g v => by unfold upd shf; rw [if_neg (by omega), if_pos (by omega)]; rfl
      have u2 : ∀ (g : Nat → Int32), shf g j = g (aS 24 j) := fun g => by unfold shf; rw [if_pos (by omega)]; rfl
      obtain rfl | rfl | rfl | rfl | rfl : f = 0 ∨ f = 1 ∨ f = 2 ∨ f = 3 ∨ f = 4 := by omega
      · rw [r0, u]
      · rw [r1, u]
      · rw [r2, u2]
      · rw [r3, u]
      · rw [r4, u]
    · rw [show aB 24 = 23 from rfl, (q2 23).1]; unfold upd; rw [if_pos rfl]
    · rw [show aB 24 = 23 from rfl, (q2 23).2.1]; unfold upd; rw [if_pos rfl]
    · rw [show aB 24 = 23 from rfl, (q2 23).2.2.2.1]; unfold upd; rw [if_pos rfl]
    · rw [show aB 24 = 23 from rfl, (q2 23).2.2.2.2]; unfold upd; rw [if_pos rfl]
theorem sp_keepGap {A : Nat} {R : Nat → Nat → Int32} (hA : AC h A R) (h24 : A ≤ 24) (b g : Int32) : ∃ h' R', zcall zpp E 4 [.ref 5, .int b, .int g] h = some (none, h') ∧ AC h' (aB A + 1) R' ∧ (∀ f, f < 5 → ∀ j, j < aB A → R' f j = R f (aS A j)) ∧ R' 0 (aB A) = 3 ∧ R' 1 (aB A) = b ∧ R' 2 (aB A) = g ∧ R' 3 (aB A) = 0 ∧ R' 4 (aB A) = 0 ∧ zsm aP h h' := by
  obtain ⟨h1, R1, e, q1, q2, q3, q4, q5, q6, q7⟩ := sp_keep (E := E) hA h24 3 b 0 0
  have hB : aB A < 24 := by unfold aB; split <;> omega
  have hsel : zsel 0 [0, 3] = some 3 := rfl
  have w2 := q1.s 2 (by omega) hB (a := 8) (by omega) g
  have P := q1.pa 2 (by omega) (aB A) (a := 8) (by omega) g
  have n2 : ∀ f j, (if f = 2 then upd (R1 2) (aB A) g else R1 f) j = if f = 2 ∧ j = aB A then g else R1 f j := by
    intro f j
    by_cases hf : f = 2
    · subst hf
      unfold upd
      simp
    · rw [if_neg hf, if_neg (fun z => hf z.1)]
  refine ⟨_, _, ?_, P, fun f hf j hj => ?_, ?_, ?_, ?_, ?_, ?_, q7.tr (zsm_pa.wk (fun x e => by cases e; exact ⟨by omega, by omega⟩))⟩
  · simp only [ze4, zi4_0, zi4_0n, zi4_1, zi4_2, zi4_3, zi4_4, zi4_5, zi4_8, zi4_8n, zi4_9, zi4_12, zi4_12n, zi4_13, zi4_16, zi4_17, zi4_18, zi4_19, zi4_20 (sk := []), zcl1, zlow_0, zlow_1, zlow_2, zlow_3, zlow_4, zfree_0, zfree_i, zfree_r, zfree_n, zfree_d, zfree_f, zfree_s, if_true, if_false, Option.bind_some, Option.toList_some, Option.toList_none, List.cons_append, List.nil_append, List.set_cons_zero, List.set_cons_succ, Bool.false_eq_true, reduceIte, zsw_c, zsw_n, Nat.reduceAdd, hA.1, hsel, e, q1.r2, q1.kept, ix_m1 (show 1 ≤ aB A + 1 by omega), Nat.add_sub_cancel, w2]
  · rw [n2, if_neg (fun z => by omega)]
    exact q2 f hf j hj
  · rw [n2, if_neg (fun z => by omega)]; exact q3
  · rw [n2, if_neg (fun z => by omega)]; exact q4
  · rw [n2, if_pos ⟨rfl, rfl⟩]
  · rw [n2, if_neg (fun z => by omega)]; exact q5
  · rw [n2, if_neg (fun z => by omega)]; exact q6
theorem ix_73 (a b : Nat) : (73 : Int32) * nI a + nI b = nI (73 * a + b) := by
  rw [show (73 : Int32) * nI a = nI (73 * a) from pk_mul 73 a, nI_add]
theorem ix_p73 (a : Nat) : nI a + 73 = nI (a + 73) := nI_add a 73
def kP (x : Nat) : Prop := x = 73 ∨ x = 79
theorem kpB {A : Nat} (hA : A < 24) : ∀ (c j : Nat) (H : zH) (m : Nat → Int32), j + c = 73 → MdO H sc → sc 8 = nI A → MY H N → zrow 0 H 79 1752 m → ∃ (H' : zH) (m' : Nat → Int32), zrun zpp E 189 (51, [.ref 73, .int (nI j)], [], H) = zrun zpp E 189 (83, [.ref 73, .int (nI 73)], [], H') ∧ MdO H' sc ∧ zrow 0 H' 79 1752 m' ∧ (∀ i, i < 73 * A + j ∨ 73 * A + 73 ≤ i → m' i = m i) ∧ (∀ i, j ≤ i → i < 73 → m' (73 * A + i) = nI (N i)) ∧ zsm (fun x => x = 79) H H' := by
  intro c
  induction c with
  | zero =>
    intro j H m hj hM hs hY hm
    rw [show j = 73 by omega]
    refine ⟨H, m, ?_, hM, hm, fun _ _ => rfl, fun i h1 h2 => by omega, zsm.rf H⟩
    conv =>
      lhs
      simp only [zi189_51, zi189_52, zcl1, zlow_0, zlow_1, zlow_2, zlow_3, zlow_4, zfree_0, zfree_i, zfree_r, zfree_n, zfree_d, zfree_f, zfree_s, if_true, if_false, Option.bind_some, Option.toList_some, Option.toList_none, List.cons_append, List.nil_append, List.set_cons_zero, List.set_cons_succ, Bool.false_eq_true, reduceIte, zsw_c, zsw_n, Nat.reduceAdd]
    rw [zi189_54, if_pos (by rw [show (73 : Int32) = nI 73 from rfl, nI_leP (by omega) (by omega)]; omega)]
  | succ c ih =>
    intro j H m hj hM hs hY hm
    have f8 : zfld [11] H 73 8 = some (.int (nI A)) := by rw [hM.i 8 rfl (by omega), hs]
    have w := zars_at (j := 73 * A + j) (x := nI (N j)) hm (by omega) (by omega) zfits_i
    obtain ⟨H', m', e, q1, q2, q3, q4, q5⟩ := ih (j + 1) (zpa H 79 (73 * A + j) (nI (N j))) (upd m (73 * A + j) (nI (N j))) (by omega) hM.pa hs (hY.keep (zpa_o (by omega))) (zrow_pa hm)
    refine ⟨H', m', ?_, q1, q2, fun i hi => ?_, fun i h1 h2 => ?_, zsm_pa.tr q5⟩
    · rw [← e]
      conv =>
        lhs
        simp only [zi189_51, zi189_52, zcl1, zlow_0, zlow_1, zlow_2, zlow_3, zlow_4, zfree_0, zfree_i, zfree_r, zfree_n, zfree_d, zfree_f, zfree_s, if_true, if_false, Option.bind_some, Option.toList_some, Option.toList_none, List.cons_append, List.nil_append, List.set_cons_zero, List.set_cons_succ, Bool.false_eq_true, reduceIte, zsw_c, zsw_n, Nat.reduceAdd]
      rw [zi189_54, if_neg (by rw [show (73 : Int32) = nI 73 from rfl, nI_leP (by omega) (by omega)]; omega)]
      conv =>
        lhs
        simp only [zi189_57, zi189_57n, zi189_58, zi189_61, zi189_63, zi189_63n, zi189_64, zi189_67, zi189_68, zi189_69, zi189_70, zi189_70n, zi189_71, zi189_74, zi189_75, zi189_76, zi189_77, zi189_80, zcl1, zlow_0, zlow_1, zlow_2, zlow_3, zlow_4, zfree_0, zfree_i, zfree_r, zfree_n, zfree_d, zfree_f, zfree_s, if_true, if_false, Option.bind_some, Option.toList_some, Option.toList_none, List.cons_append, List.nil_append, List.set_cons_zero, List.set_cons_succ, Bool.false_eq_true, reduceIte, zsw_c, zsw_n, Nat.reduceAdd, hM.r7, f8, ix_73, hM.r5, hY.at (show j < 73 by omega) rfl, w, ix_p1]
    · rw [q3 i (by omega)]
      unfold upd
      rw [if_neg (by omega)]
    · by_cases hij : i = j
      · subst hij
        rw [q3 (73 * A + i) (by omega)]
        unfold upd
        rw [if_pos rfl]
      · exact q4 i (by omega) h2
theorem kpS {m : Nat → Int32} : ∀ (c j : Nat) (H : zH) (f : Nat → Int32), j + c = 1679 → MdO H sc → MY H N → zrow 0 H 79 1752 f → (∀ i, i < 1752 → f i = if i < j then m (i + 73) else m i) → ∃ (H' : zH) (f' : Nat → Int32), zrun zpp E 189 (11, [.ref 73, .int (nI j)], [], H) = zrun zpp E 189 (39, [.ref 73, .int (nI 1679)], [], H') ∧ MdO H' sc ∧ MY H' N ∧ zrow 0 H' 79 1752 f' ∧ (∀ i, i < 1752 → f' i = if i < 1679 then m (i + 73) else m i) ∧ zsm (fun x => x = 79) H H' := by
  intro c
  induction c with
  | zero =>
    intro j H f hj hM hY hf hm
    rw [show j = 1679 by omega] at hm ⊢
    refine ⟨H, f, ?_, hM, hY, hf, hm, zsm.rf H⟩
    conv =>
      lhs
      simp only [zi189_11, zi189_12, zcl1, zlow_0, zlow_1, zlow_2, zlow_3, zlow_4, zfree_0, zfree_i, zfree_r, zfree_n, zfree_d, zfree_f, zfree_s, if_true, if_false, Option.bind_some, Option.toList_some, Option.toList_none, List.cons_append, List.nil_append, List.set_cons_zero, List.set_cons_succ, Bool.false_eq_true, reduceIte, zsw_c, zsw_n, Nat.reduceAdd]
    rw [zi189_15, if_pos (by rw [show (1679 : Int32) = nI 1679 from rfl, nI_leP (by omega) (by omega)]; omega)]
  | succ c ih =>
    intro j H f hj hM hY hf hm
    have g := zarr_at (j := j + 73) hf (by omega) (by omega)
    have w := zars_at (j := j) (x := f (j + 73)) hf (by omega) (by omega) zfits_i
    obtain ⟨H', f', e, q1, q2, q3, q4, q5⟩ := ih (j + 1) (zpa H 79 j (f (j + 73))) (upd f j (f (j + 73))) (by omega) hM.pa (hY.keep (zpa_o (by omega))) (zrow_pa hf) (fun i hi => by
      unfold upd
      by_cases hij : i = j
      · subst hij
        rw [if_pos rfl, if_pos (by omega), hm _ (by omega), if_neg (by omega)]
      · rw [if_neg hij, hm i hi]
        by_cases h1 : i < j
        · rw [if_pos h1, if_pos (by omega)]
        · rw [if_neg h1, if_neg (by omega)])
    refine ⟨H', f', ?_, q1, q2, q3, q4, zsm_pa.tr q5⟩
    rw [← e]
    conv =>
      lhs
      simp only [zi189_11, zi189_12, zcl1, zlow_0, zlow_1, zlow_2, zlow_3, zlow_4, zfree_0, zfree_i, zfree_r, zfree_n, zfree_d, zfree_f, zfree_s, if_true, if_false, Option.bind_some, Option.toList_some, Option.toList_none, List.cons_append, List.nil_append, List.set_cons_zero, List.set_cons_succ, Bool.false_eq_true, reduceIte, zsw_c, zsw_n, Nat.reduceAdd]
    rw [zi189_15, if_neg (by rw [show (1679 : Int32) = nI 1679 from rfl, nI_leP (by omega) (by omega)]; omega)]
    conv =>
      lhs
      simp only [zi189_18, zi189_18n, zi189_19, zi189_22, zi189_23, zi189_23n, zi189_24, zi189_27, zi189_28, zi189_30, zi189_31, zi189_32, zi189_33, zi189_36, zcl1, zlow_0, zlow_1, zlow_2, zlow_3, zlow_4, zfree_0, zfree_i, zfree_r, zfree_n, zfree_d, zfree_f, zfree_s, if_true, if_false, Option.bind_some, Option.toList_some, Option.toList_none, List.cons_append, List.nil_append, List.set_cons_zero, List.set_cons_succ, Bool.false_eq_true, reduceIte, zsw_c, zsw_n, Nat.reduceAdd, hM.r7, ix_p73, g, w, ix_p1]
theorem sp_keepM {A : Nat} {m : Nat → Int32} (hM : MdO h sc) (hs : sc 8 = nI A) (h24 : A ≤ 24) (hY : MY h N) (hm : zrow 0 h 79 1752 m) : ∃ (H : zH) (sc' m' : Nat → Int32), zcall zpp E 189 [.ref 73] h = some (none, H) ∧ MdO H sc' ∧ sc' 8 = nI (aB A + 1) ∧ (∀ k, k ≠ 8 → sc' k = sc k) ∧ MY H N ∧ zrow 0 H 79 1752 m' ∧ (∀ j, j < aB A → ∀ i, i < 73 → m' (73 * j + i) = m (73 * aS A j + i)) ∧ (∀ i, i < 73 → m' (73 * aB A + i) = nI (N i)) ∧ zsm kP h H := by
  have f8 : zfld [11] h 73 8 = some (.int (nI A)) := by rw [hM.i 8 rfl (by omega), hs]
  by_cases hk : A < 24
  · have eB : aB A = A := if_pos hk
    have eS : ∀ j, aS A j = j := fun j => if_pos hk
    obtain ⟨H, m', e, q1, q2, q3, q4, q5⟩ := kpB (E := E) hk 73 0 h m (by omega) hM hs hY hm
    have g8 : zfld [11] H 73 8 = some (.int (nI A)) := by rw [q1.i 8 rfl (by omega), hs]
    have ne : (nI A = 24) = False := eq_false (by rw [show (24 : Int32) = nI 24 from rfl, nI_eqP (by omega) (by omega)]; omega)
    have w8 := q1.st 8 rfl (by omega) (nI (A + 1))
    have P8 := q1.put 8 rfl (by omega) (nI (A + 1))
    rw [eB]
    refine ⟨zpf H 73 8 (.int (nI (A + 1))), upd sc 8 (nI (A + 1)), m', ?_, P8, rfl, fun k hk => by unfold upd; rw [if_neg hk], (hY.keep (q5.2 77 (by omega))).keep (zpf_o (by omega)), zrow_pf q2, fun j hj i hi => by rw [eS]; exact q3 _ (by omega), fun i hi => q4 i (by omega) hi, (q5.wk (fun x e => Or.inr e)).tr (zsm_pf.wk (fun x e => Or.inl e))⟩
    have e0 : zcall zpp E 189 [.ref 73] h = zrun zpp E 189 (51, [.ref 73, .int (nI 0)], [], h) := by
      conv =>
        lhs
        simp only [ze189, zi189_0, zi189_0n, zi189_1, zi189_4, zi189_6, zi189_49, zi189_50, zcl1, zlow_0, zlow_1, zlow_2, zlow_3, zlow_4, zfree_0, zfree_i, zfree_r, zfree_n, zfree_d, zfree_f, zfree_s, if_true, if_false, Option.bind_some, Option.toList_some, Option.toList_none, List.cons_append, List.nil_append, List.set_cons_zero, List.set_cons_succ, Bool.false_eq_true, reduceIte, zsw_c, zsw_n, Nat.reduceAdd, f8, ne]
      rfl
    rw [e0, e]
    simp only [zi189_83, zi189_83n, zi189_84, zi189_84i, zi189_85, zi189_88, zi189_89, zi189_90, zi189_93 (sk := []), zcl1, zlow_0, zlow_1, zlow_2, zlow_3, zlow_4, zfree_0, zfree_i, zfree_r, zfree_n, zfree_d, zfree_f, zfree_s, if_true, if_false, Option.bind_some, Option.toList_some, Option.toList_none, List.cons_append, List.nil_append, List.set_cons_zero, List.set_cons_succ, Bool.false_eq_true, reduceIte, zsw_c, zsw_n, Nat.reduceAdd, g8, ix_p1, w8]
  · have e24 : A = 24 := by omega
    subst e24
    obtain ⟨H1, f1, e1, p1, p2, p3, p4, p5⟩ := kpS (E := E) (m := m) 1679 0 h m (by omega) hM hY hm (fun i _ => by rw [if_neg (by omega)])
    have g8 : zfld [11] H1 73 8 = some (.int (nI 24)) := by rw [p1.i 8 rfl (by omega), hs]
    have w8 := p1.st 8 rfl (by omega) (nI 23)
    have P8 := p1.put 8 rfl (by omega) (nI 23)
    obtain ⟨H, m', e, q1, q2, q3, q4, q5⟩ := kpB (E := E) (A := 23) (by omega) 73 0 (zpf H1 73 8 (.int (nI 23))) f1 (by omega) P8 rfl (p2.keep (zpf_o (by omega))) (zrow_pf p3)
    have r8 : zfld [11] H 73 8 = some (.int (nI 23)) := q1.i 8 rfl (by omega)
    have w9 := q1.st 8 rfl (by omega) (nI 24)
    have P9 := q1.put 8 rfl (by omega) (nI 24)
    refine ⟨zpf H 73 8 (.int (nI 24)), upd (upd sc 8 (nI 23)) 8 (nI 24), m', ?_, P9, rfl, fun k hk => by unfold upd; rw [if_neg hk, if_neg hk], ((p2.keep (zpf_o (by omega))).keep (q5.2 77 (by omega))).keep (zpf_o (by omega)), zrow_pf q2, fun j hj i hi => ?_, fun i hi => q4 i (by omega) hi, (((p5.wk (fun x e => Or.inr e)).tr (zsm_pf.wk (fun x e => Or.inl e))).tr (q5.wk (fun x e => Or.inr e))).tr (zsm_pf.wk (fun x e => Or.inl e))⟩
    · have e0 : zcall zpp E 189 [.ref 73] h = zrun zpp E 189 (11, [.ref 73, .int (nI 0)], [], h) := by
        conv =>
          lhs
          simp only [ze189, zi189_0, zi189_0n, zi189_1, zi189_4, zi189_6, zi189_9, zi189_10, zcl1, zlow_0, zlow_1, zlow_2, zlow_3, zlow_4, zfree_0, zfree_i, zfree_r, zfree_n, zfree_d, zfree_f, zfree_s, if_true, if_false, Option.bind_some, Option.toList_some, Option.toList_none, List.cons_append, List.nil_append, List.set_cons_zero, List.set_cons_succ, Bool.false_eq_true, reduceIte, zsw_c, zsw_n, Nat.reduceAdd, f8, show (nI 24 = 24) = True by decide]
        rfl
      have e2 : zrun zpp E 189 (39, [.ref 73, .int (nI 1679)], [], H1) = zrun zpp E 189 (51, [.ref 73, .int (nI 0)], [], zpf H1 73 8 (.int (nI 23))) := by
        conv =>
          lhs
          simp only [zi189_39, zi189_39n, zi189_40, zi189_40i, zi189_41, zi189_44, zi189_45, zi189_46, zi189_49, zi189_50, zcl1, zlow_0, zlow_1, zlow_2, zlow_3, zlow_4, zfree_0, zfree_i, zfree_r, zfree_n, zfree_d, zfree_f, zfree_s, if_true, if_false, Option.bind_some, Option.toList_some, Option.toList_none, List.cons_append, List.nil_append, List.set_cons_zero, List.set_cons_succ, Bool.false_eq_true, reduceIte, zsw_c, zsw_n, Nat.reduceAdd, g8, show nI 24 - 1 = nI 23 by decide, w8]
        rfl
      rw [e0, e1, e2, e]
      simp only [zi189_83, zi189_83n, zi189_84, zi189_84i, zi189_85, zi189_88, zi189_89, zi189_90, zi189_93 (sk := []), zcl1, zlow_0, zlow_1, zlow_2, zlow_3, zlow_4, zfree_0, zfree_i, zfree_r, zfree_n, zfree_d, zfree_f, zfree_s, if_true, if_false, Option.bind_some, Option.toList_some, Option.toList_none, List.cons_append, List.nil_append, List.set_cons_zero, List.set_cons_succ, Bool.false_eq_true, reduceIte, zsw_c, zsw_n, Nat.reduceAdd, r8, show nI 23 + 1 = nI 24 by decide, w9]
    · have hj : j < 23 := hj
      rw [q3 _ (by omega), p4 _ (by omega), if_pos (by omega)]
      show m (73 * j + i + 73) = m (73 * (j + 1) + i)
      congr 1
      omega
theorem JAct.push {h2 : zH} {N' : Nat → Nat} {A : Nat} {R R' : Nat → Nat → Int32} {V : Nat → Nat → Nat} {m m' : Nat → Int32} (h24 : A ≤ 24) (hVA : V A = N) (hS : ∀ j, j < A → (WF (V j) ∧ WL (V j)) ∧ lk (R 0 j) (R 1 j) (R 2 j) (R 3 j) (R 4 j) (V j) (V (j + 1)) ∧ ∀ i, i < 73 → m (73 * j + i) = nI (V j i)) (hN : WF N ∧ WL N) (C : AC h2 (aB A + 1) R') (hm : zrow 0 h2 79 1752 m') (r1 : ∀ f, f < 5 → ∀ j, j < aB A → R' f j = R f (aS A j)) (m1 : ∀ j, j < aB A → ∀ i, i < 73 → m' (73 * j + i) = m (73 * aS A j + i)) (m2 : ∀ i, i < 73 → m' (73 * aB A + i) = nI (N i)) (l : lk (R' 0 (aB A)) (R' 1 (aB A)) (R' 2 (aB A)) (R' 3 (aB A)) (R' 4 (aB A)) N N') : JAct h2 N' (nI (aB A + 1)) := by
  have hB : aB A < 24 := by unfold aB; split <;> omega
  have hSB := aS_B h24
  refine ⟨aB A + 1, R', fun j => if j ≤ aB A then V (aS A j) else N', m', by omega, rfl, C, hm, if_neg (by omega), fun j hj => ?_⟩
  show (WF (if j ≤ aB A then V (aS A j) else N') ∧ WL (if j ≤ aB A then V (aS A j) else N')) ∧ lk _ _ _ _ _ (if j ≤ aB A then V (aS A j) else N') (if j + 1 ≤ aB A then V (aS A (j + 1)) else N') ∧ ∀ i, i < 73 → _ = nI ((if j ≤ aB A then V (aS A j) else N') i)
  rw [if_pos (by omega)]
  by_cases hj2 : j = aB A
  · subst hj2
    rw [if_neg (by omega), hSB, hVA]
    exact ⟨hN, l, m2⟩
  · have hlt : j < aB A := by omega
    have hs : aS A j < A := by
      unfold aS
      unfold aB at hlt
      split
      · rename_i hh
        rw [if_pos hh] at hlt
        exact hlt
      · rename_i hh
        rw [if_neg hh] at hlt
        omega
    have hs1 : aS A (j + 1) = aS A j + 1 := by unfold aS; split <;> rfl
    obtain ⟨q1, q2, q3⟩ := hS (aS A j) hs
    rw [if_pos (by omega), hs1, r1 0 (by omega) j hlt, r1 1 (by omega) j hlt, r1 2 (by omega) j hlt, r1 3 (by omega) j hlt, r1 4 (by omega) j hlt]
    exact ⟨q1, q2, fun i hi => by rw [m1 j hlt i hi]; exact q3 i hi⟩
end KEEP
