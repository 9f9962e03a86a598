/-! THE MODEL's LEAST ROWS -/
def eM (o : Option (Nat × Nat)) : Int32 := match o with
  | none => -1000000
  | some p => nI (enc 100000 p)
def eK (o : Option ((Nat × Nat) × Nat)) : Int32 := match o with
  | none => -1000000
  | some p => nI p.2
theorem qnx {x : Nat} (h : x < 2 ^ 31) : (nI x = -1000000) = False := eq_false (fun z => by
  have := nI_pos h
  rw [z] at this
  exact this (by decide))
theorem cvN_bd {N : Nat → Nat} (hW : WF N) {S : Nat} {g : Bool} {d w b : Nat} (hd : d < 256) (hb : b < N 3) {m : Nat × Nat} (h : cvN N S g (TT N S g) d w b = some m) : m.1 ≤ 90 ∧ m.2 ≤ 2295 := by
  have h3 := hW.2.2.2.1.2
  unfold cvN at h
  split at h
  · rename_i hs
    cases hT : TT N S g (zclr d b) with
    | none => rw [hT] at h; cases h
    | some r =>
      rw [hT] at h
      have hr := TT_b2 hW (Nat.lt_of_le_of_lt (zclr_k d hd b (by omega)).2 hd) hT
      have hcl := catN_le hW.2.2.2.2.1 (d := d) (b := b)
      have hsl := secK_lt (kd := N (65 + 2 * w)) hW (hW.bk hb).1.2 hcl
      have hfl : falK (N (65 + 2 * w)) (catN N d b) ≤ 10 := by
        unfold falK
        split
        · exact hcl
        · omega
      dsimp only at h
      cases h
      refine ⟨?_, ?_⟩
      · show r.1 + _ ≤ _
        split <;> omega
      · show r.2 + _ ≤ _
        omega
  · cases h
def lP (x : Nat) : Prop := x = 81 ∨ x = 82
/-- the rows as they stand while d is looked at -/
def LR (N : Nat → Nat) (S : Nat) (g : Bool) (H : zH) (f q : Nat → Int32) (d : Nat) (cur : Option ((Nat × Nat) × Nat)) : Prop := zrow 0 H 81 256 f ∧ zrow 0 H 82 256 q ∧ (∀ r, r < d → f r = eM (TT N S g r)) ∧ f d = eM (cur.map Prod.fst) ∧ q d = eK cur
section LMM
variable {E : zE} {sc : Nat → Int32} {N : Nat → Nat} {S : Nat} {g : Bool}
theorem lmB (hW : WF N) (hS : S < 256) {d w : Nat} (hd : d < 256) (hw : w < N 5) {cv : Nat → Nat → Option (Nat × Nat)} (hcv : cv = fun w b => cvN N S g (TT N S g) d w b) : ∀ (m b : Nat) (H : zH) (f q : Nat → Int32) (v6 v7 : Value), b + m = N 3 → MdO H sc → MY H N → LR N S g H f q d (dpB cv w b (dpW cv (N 3) w)) → ∃ (H' : zH) (f' q' : Nat → Int32) (v5' v6' v7' : Value), zrun zpp E 200 (62, [.ref 73, .int (nI S), .int (zb g), .int (nI d), .int (nI w), .int (nI b), v6, v7], [], H) = zrun zpp E 200 (264, [.ref 73, .int (nI S), .int (zb g), .int (nI d), .int (nI w), v5', v6', v7'], [], H') ∧ MdO H' sc ∧ MY H' N ∧ LR N S g H' f' q' d (dpB cv w (N 3) (dpW cv (N 3) w)) ∧ (∀ r, r ≠ d → f' r = f r ∧ q' r = q r) ∧ zsm lP H H' := by
  have h3 := hW.2.2.2.1.2
  have h5 := hW.2.2.2.2.2.1
  have m3 : zsel 11 [11, 179] = some 179 := rfl
  have m4 : zsel 11 [11, 180] = some 180 := rfl
  have m5 : zsel 11 [11, 186] = some 186 := rfl
  have m6 : zsel 11 [11, 187] = some 187 := rfl
  have m7 : zsel 11 [11, 188] = some 188 := rfl
  intro m
  induction m with
  | zero =>
    intro b H f q v6 v7 hb hM hY hL
    rw [show b = N 3 by omega] at hL ⊢
    refine ⟨H, f, q, .int (nI (N 3)), v6, v7, ?_, hM, hY, hL, fun r _ => ⟨rfl, rfl⟩, zsm.rf H⟩
    conv =>
      lhs
      simp only [zi200_62, zi200_64, zi200_64n, zi200_65, zi200_68, zi200_69, zcl1, zlow_0, zlow_1, zlow_2, zlow_3, zlow_4, zfree_0, zfree_i, zfree_r, zfree_n, zfree_d, zfree_f, zfree_s, if_true, if_false, Option.bind_some, Option.toList_some, Option.toList_none, List.cons_append, List.nil_append, List.set_cons_zero, List.set_cons_succ, Bool.false_eq_true, reduceIte, zsw_c, zsw_n, Nat.reduceAdd, hM.r5, hY.c 3 (by decide) (x := 3) rfl]
    rw [zi200_70, if_pos (by rw [nI_leP (by omega) (by omega)]; omega)]
  | succ m ih =>
    intro b H f q v6 v7 hb hM hY hL
    have hb8 : b < 8 := by omega
    have hk := hW.kf hw
    have hzl := zclr_k d hd b hb8
    have e0 : zrun zpp E 200 (62, [.ref 73, .int (nI S), .int (zb g), .int (nI d), .int (nI w), .int (nI b), v6, v7], [], H) = zrun zpp E 200 (83, [.ref 73, .int (nI S), .int (zb g), .int (nI d), .int (nI w), .int (nI b), .int (nI (zclr d b)), v7], [], H) := by
      conv =>
        lhs
        simp only [zi200_62, zi200_64, zi200_64n, zi200_65, zi200_68, zi200_69, zcl1, zlow_0, zlow_1, zlow_2, zlow_3, zlow_4, zfree_0, zfree_i, zfree_r, zfree_n, zfree_d, zfree_f, zfree_s, if_true, if_false, Option.bind_some, Option.toList_some, Option.toList_none, List.cons_append, List.nil_append, List.set_cons_zero, List.set_cons_succ, Bool.false_eq_true, reduceIte, zsw_c, zsw_n, Nat.reduceAdd, hM.r5, hY.c 3 (by decide) (x := 3) rfl]
      rw [zi200_70, if_neg (by rw [nI_leP (by omega) (by omega)]; omega)]
      conv =>
        lhs
        simp only [zi200_73, zi200_74, zi200_75, zi200_77, zi200_78, zi200_79, zi200_80, zi200_81, zcl1, zlow_0, zlow_1, zlow_2, zlow_3, zlow_4, zfree_0, zfree_i, zfree_r, zfree_n, zfree_d, zfree_f, zfree_s, if_true, if_false, Option.bind_some, Option.toList_some, Option.toList_none, List.cons_append, List.nil_append, List.set_cons_zero, List.set_cons_succ, Bool.false_eq_true, reduceIte, zsw_c, zsw_n, Nat.reduceAdd, hzl.1]
    have eS : dpB cv w (b + 1) (dpW cv (N 3) w) = dpS (dpB cv w b (dpW cv (N 3) w)) (cv w b) (10 * w + b) := rfl
    -- nothing new
    have skip : cv w b = none → zrun zpp E 200 (83, [.ref 73, .int (nI S), .int (zb g), .int (nI d), .int (nI w), .int (nI b), .int (nI (zclr d b)), v7], [], H) = zrun zpp E 200 (258, [.ref 73, .int (nI S), .int (zb g), .int (nI d), .int (nI w), .int (nI b), .int (nI (zclr d b)), v7], [], H) → ∃ (H' : zH) (f' q' : Nat → Int32) (v5' v6' v7' : Value), zrun zpp E 200 (62, [.ref 73, .int (nI S), .int (zb g), .int (nI d), .int (nI w), .int (nI b), v6, v7], [], H) = zrun zpp E 200 (264, [.ref 73, .int (nI S), .int (zb g), .int (nI d), .int (nI w), v5', v6', v7'], [], H') ∧ MdO H' sc ∧ MY H' N ∧ LR N S g H' f' q' d (dpB cv w (N 3) (dpW cv (N 3) w)) ∧ (∀ r, r ≠ d → f' r = f r ∧ q' r = q r) ∧ zsm lP H H' := by
      intro hc e1
      have eC : dpB cv w (b + 1) (dpW cv (N 3) w) = dpB cv w b (dpW cv (N 3) w) := by rw [eS, hc]; rfl
      obtain ⟨H', f', q', u5, u6, u7, e2, r1, r2, r3, r4, r5⟩ := ih (b + 1) H f q (.int (nI (zclr d b))) v7 (by omega) hM hY (by rw [eC]; exact hL)
      refine ⟨H', f', q', u5, u6, u7, ?_, r1, r2, r3, r4, r5⟩
      rw [e0, e1, ← e2]
      conv =>
        lhs
        simp only [zi200_258, zi200_261, zcl1, zlow_0, zlow_1, zlow_2, zlow_3, zlow_4, zfree_0, zfree_i, zfree_r, zfree_n, zfree_d, zfree_f, zfree_s, if_true, if_false, Option.bind_some, Option.toList_some, Option.toList_none, List.cons_append, List.nil_append, List.set_cons_zero, List.set_cons_succ, Bool.false_eq_true, reduceIte, zsw_c, zsw_n, Nat.reduceAdd, ix_p1]
    have hcw : cv w b = cvN N S g (TT N S g) d w b := by rw [hcv]
    cases hs : S.testBit w
    · refine skip ?_ ?_
      · rw [hcw]; unfold cvN; rw [hs, Bool.false_and, if_neg (by decide)]
      · conv =>
          lhs
          simp only [zi200_83, zi200_84, zi200_86, zi200_89, zcl1, zlow_0, zlow_1, zlow_2, zlow_3, zlow_4, zfree_0, zfree_i, zfree_r, zfree_n, zfree_d, zfree_f, zfree_s, if_true, if_false, Option.bind_some, Option.toList_some, Option.toList_none, List.cons_append, List.nil_append, List.set_cons_zero, List.set_cons_succ, Bool.false_eq_true, reduceIte, zsw_c, zsw_n, Nat.reduceAdd, sp_hasM8 hS (show w < 8 by omega), hs, zb_f, z00]
    cases hc : canN N (N (65 + 2 * w)) (N (66 + 2 * w)) d b
    · refine skip ?_ ?_
      · rw [hcw]; unfold cvN; rw [hc, Bool.and_false, if_neg (by decide)]
      · conv =>
          lhs
          simp only [zi200_83, zi200_84, zi200_86, zi200_89, zi200_92, zi200_92n, zi200_93, zi200_93n, zi200_94, zi200_96, zi200_99, zi200_99n, zi200_100, zi200_102, zi200_105, zi200_106, zi200_108, zi200_111, zcl1, zlow_0, zlow_1, zlow_2, zlow_3, zlow_4, zfree_0, zfree_i, zfree_r, zfree_n, zfree_d, zfree_f, zfree_s, if_true, if_false, Option.bind_some, Option.toList_some, Option.toList_none, List.cons_append, List.nil_append, List.set_cons_zero, List.set_cons_succ, Bool.false_eq_true, reduceIte, zsw_c, zsw_n, Nat.reduceAdd, sp_hasM8 hS (show w < 8 by omega), hs, zb_t, z10, hM.1, m3, m4, m5, sp_kindOf hM hY (show w < 4 by omega), sp_forceOf hM hY (show w < 4 by omega), sp_can hM hY hW hd (show b < N 3 by omega) hk.1 hk.2, hc, zb_f, z00]
    have hbit := canN_bit hc
    have hlt := zclr_l d hd b hb8 hbit
    have rr := zarr_at (j := zclr d b) hL.1 (by omega) (by omega)
    rw [hL.2.2.1 _ hlt] at rr
    cases hT : TT N S g (zclr d b) with
    | none =>
      rw [hT] at rr
      have rr : zarr 0 H 81 (nI (zclr d b)) = some (-1000000) := rr
      refine skip ?_ ?_
      · rw [hcw]; unfold cvN; rw [hs, hc, hT]; rfl
      · conv =>
          lhs
          simp only [zi200_83, zi200_84, zi200_86, zi200_89, zi200_92, zi200_92n, zi200_93, zi200_93n, zi200_94, zi200_96, zi200_99, zi200_99n, zi200_100, zi200_102, zi200_105, zi200_106, zi200_108, zi200_111, zi200_114, zi200_114n, zi200_115, zi200_118, zi200_120, zi200_121, zi200_123, zcl1, zlow_0, zlow_1, zlow_2, zlow_3, zlow_4, zfree_0, zfree_i, zfree_r, zfree_n, zfree_d, zfree_f, zfree_s, if_true, if_false, Option.bind_some, Option.toList_some, Option.toList_none, List.cons_append, List.nil_append, List.set_cons_zero, List.set_cons_succ, Bool.false_eq_true, reduceIte, zsw_c, zsw_n, Nat.reduceAdd, sp_hasM8 hS (show w < 8 by omega), hs, zb_t, z10, hM.1, m3, m4, m5, sp_kindOf hM hY (show w < 4 by omega), sp_forceOf hM hY (show w < 4 by omega), sp_can hM hY hW hd (show b < N 3 by omega) hk.1 hk.2, hc, hM.r18, rr, qnn]
    | some p =>
      rw [hT] at rr
      have rr : zarr 0 H 81 (nI (zclr d b)) = some (nI (enc 100000 p)) := rr
      have hpb := TT_b2 hW (show zclr d b < 256 by omega) hT
      have hpe : enc 100000 p < 2 ^ 31 := by unfold enc; omega
      have hcc : cv w b = some (p.1 + (if g = true then falK (N (65 + 2 * w)) (catN N d b) else 0), p.2 + secK N (N (65 + 2 * w)) (N (9 + 2 * b)) (catN N d b)) := by
        rw [hcw]; unfold cvN; rw [hs, hc, hT]; rfl
      have hcb := cvN_bd hW hd (show b < N 3 by omega) (by rw [← hcw]; exact hcc)
      generalize hC : ((p.1 + (if g = true then falK (N (65 + 2 * w)) (catN N d b) else 0), p.2 + secK N (N (65 + 2 * w)) (N (9 + 2 * b)) (catN N d b)) : Nat × Nat) = c at *
      have hce : enc 100000 c < 2 ^ 31 := by unfold enc; omega
      have eby : zrun zpp E 200 (83, [.ref 73, .int (nI S), .int (zb g), .int (nI d), .int (nI w), .int (nI b), .int (nI (zclr d b)), v7], [], H) = zrun zpp E 200 (174, [.ref 73, .int (nI S), .int (zb g), .int (nI d), .int (nI w), .int (nI b), .int (nI (zclr d b)), .int (nI (enc 100000 c))], [], H) := by
        have e1 : zrun zpp E 200 (83, [.ref 73, .int (nI S), .int (zb g), .int (nI d), .int (nI w), .int (nI b), .int (nI (zclr d b)), v7], [], H) = zrun zpp E 200 (147, [.ref 73, .int (nI S), .int (zb g), .int (nI d), .int (nI w), .int (nI b), .int (nI (zclr d b)), v7], [.int (nI (enc 100000 p + secK N (N (65 + 2 * w)) (N (9 + 2 * b)) (catN N d b)))], H) := by
          conv =>
            lhs
            simp only [zi200_83, zi200_84, zi200_86, zi200_89, zi200_92, zi200_92n, zi200_93, zi200_93n, zi200_94, zi200_96, zi200_99, zi200_99n, zi200_100, zi200_102, zi200_105, zi200_106, zi200_108, zi200_111, zi200_114, zi200_114n, zi200_115, zi200_118, zi200_120, zi200_121, zi200_123, zi200_126, zi200_126n, zi200_127, zi200_130, zi200_132, zi200_133, zi200_133n, zi200_134, zi200_134n, zi200_135, zi200_137, zi200_140, zi200_141, zi200_143, zi200_146, zcl1, zlow_0, zlow_1, zlow_2, zlow_3, zlow_4, zfree_0, zfree_i, zfree_r, zfree_n, zfree_d, zfree_f, zfree_s, if_true, if_false, Option.bind_some, Option.toList_some, Option.toList_none, List.cons_append, List.nil_append, List.set_cons_zero, List.set_cons_succ, Bool.false_eq_true, reduceIte, zsw_c, zsw_n, Nat.reduceAdd, sp_hasM8 hS (show w < 8 by omega), hs, zb_t, z10, hM.1, m3, m4, m5, m6, sp_kindOf hM hY (show w < 4 by omega), sp_forceOf hM hY (show w < 4 by omega), sp_can hM hY hW hd (show b < N 3 by omega) hk.1 hk.2, hc, hM.r18, rr, qnx hpe, sp_takesBy hM hY hW hd (show b < N 3 by omega) hk.1, nI_add]
        rw [e1, ← hC]
        cases g
        · have ee : enc 100000 (p.1 + (if false = true then falK (N (65 + 2 * w)) (catN N d b) else 0), p.2 + secK N (N (65 + 2 * w)) (N (9 + 2 * b)) (catN N d b)) = enc 100000 p + secK N (N (65 + 2 * w)) (N (9 + 2 * b)) (catN N d b) + 0 := by
            unfold enc
            rw [if_neg (by decide)]
            dsimp only
            omega
          rw [ee]
          conv =>
            lhs
            simp only [zi200_147, zi200_148, zi200_170, zi200_171, zi200_172, zcl1, zlow_0, zlow_1, zlow_2, zlow_3, zlow_4, zfree_0, zfree_i, zfree_r, zfree_n, zfree_d, zfree_f, zfree_s, if_true, if_false, Option.bind_some, Option.toList_some, Option.toList_none, List.cons_append, List.nil_append, List.set_cons_zero, List.set_cons_succ, Bool.false_eq_true, reduceIte, zsw_c, zsw_n, Nat.reduceAdd, zb_f, z00, ix_p0]
          rfl
        · have ee : enc 100000 (p.1 + (if true = true then falK (N (65 + 2 * w)) (catN N d b) else 0), p.2 + secK N (N (65 + 2 * w)) (N (9 + 2 * b)) (catN N d b)) = enc 100000 p + secK N (N (65 + 2 * w)) (N (9 + 2 * b)) (catN N d b) + 100000 * falK (N (65 + 2 * w)) (catN N d b) := by
            unfold enc
            rw [if_pos rfl]
            dsimp only
            omega
          rw [ee]
          conv =>
            lhs
            simp only [zi200_147, zi200_148, zi200_151, zi200_153, zi200_153n, zi200_154, zi200_154n, zi200_155, zi200_157, zi200_160, zi200_161, zi200_163, zi200_166, zi200_167, zi200_170, zi200_171, zi200_172, zcl1, zlow_0, zlow_1, zlow_2, zlow_3, zlow_4, zfree_0, zfree_i, zfree_r, zfree_n, zfree_d, zfree_f, zfree_s, if_true, if_false, Option.bind_some, Option.toList_some, Option.toList_none, List.cons_append, List.nil_append, List.set_cons_zero, List.set_cons_succ, Bool.false_eq_true, reduceIte, zsw_c, zsw_n, Nat.reduceAdd, zb_t, z10, hM.1, m3, m7, sp_kindOf hM hY (show w < 4 by omega), sp_fallsBy hM hY hW hd (show b < N 3 by omega) hk.1, show ∀ x, (100000 : Int32) * nI x = nI (100000 * x) from fun x => pk_mul 100000 x, nI_add]
          rfl
      -- both rows written
      have fin : ∀ (x y : Int32), zrun zpp E 200 (174, [.ref 73, .int (nI S), .int (zb g), .int (nI d), .int (nI w), .int (nI b), .int (nI (zclr d b)), .int (nI (enc 100000 c))], [], H) = zrun zpp E 200 (258, [.ref 73, .int (nI S), .int (zb g), .int (nI d), .int (nI w), .int (nI b), .int (nI (zclr d b)), .int (nI (enc 100000 c))], [], zpa (zpa H 82 d x) 81 d y) → y = eM ((dpB cv w (b + 1) (dpW cv (N 3) w)).map Prod.fst) → x = eK (dpB cv w (b + 1) (dpW cv (N 3) w)) → ∃ (H' : zH) (f' q' : Nat → Int32) (v5' v6' v7' : Value), zrun zpp E 200 (62, [.ref 73, .int (nI S), .int (zb g), .int (nI d), .int (nI w), .int (nI b), v6, v7], [], H) = zrun zpp E 200 (264, [.ref 73, .int (nI S), .int (zb g), .int (nI d), .int (nI w), v5', v6', v7'], [], H') ∧ MdO H' sc ∧ MY H' N ∧ LR N S g H' f' q' d (dpB cv w (N 3) (dpW cv (N 3) w)) ∧ (∀ r, r ≠ d → f' r = f r ∧ q' r = q r) ∧ zsm lP H H' := by
        intro x y e1 ey ex
        have un : ∀ (u : Nat → Int32) (z : Int32) (r : Nat), r ≠ d → upd u d z r = u r := fun u z r hr => by unfold upd; rw [if_neg hr]
        have us : ∀ (u : Nat → Int32) (z : Int32), upd u d z d = z := fun u z => by unfold upd; rw [if_pos rfl]
        obtain ⟨H', f', q', u5, u6, u7, e2, r1, r2, r3, r4, r5⟩ := ih (b + 1) (zpa (zpa H 82 d x) 81 d y) (upd f d y) (upd q d x) (.int (nI (zclr d b))) (.int (nI (enc 100000 c))) (by omega) hM.pa.pa ((hY.keep (zpa_o (by omega))).keep (zpa_o (by omega))) ⟨zrow_pa (zrow_o (by omega) hL.1), zrow_o (by omega) (zrow_pa hL.2.1), fun r hr => by rw [un f y r (by omega)]; exact hL.2.2.1 r hr, by rw [us]; exact ey, by rw [us]; exact ex⟩
        refine ⟨H', f', q', u5, u6, u7, ?_, r1, r2, r3, fun r hr => ⟨by rw [(r4 r hr).1, un f y r hr], by rw [(r4 r hr).2, un q x r hr]⟩, ((zsm_pa.wk (fun a e => Or.inr e)).tr (zsm_pa.wk (fun a e => Or.inl e))).tr r5⟩
        rw [e0, eby, e1, ← e2]
        conv =>
          lhs
          simp only [zi200_258, zi200_261, zcl1, zlow_0, zlow_1, zlow_2, zlow_3, zlow_4, zfree_0, zfree_i, zfree_r, zfree_n, zfree_d, zfree_f, zfree_s, if_true, if_false, Option.bind_some, Option.toList_some, Option.toList_none, List.cons_append, List.nil_append, List.set_cons_zero, List.set_cons_succ, Bool.false_eq_true, reduceIte, zsw_c, zsw_n, Nat.reduceAdd, ix_p1]
      have w76 := fun x => zars_at (x := x) hL.2.1 hd (by omega) zfits_i
      have w75 := fun x y => zars_at (x := y) (zrow_o (a := 82) (j := d) (x := x) (by omega) hL.1) hd (by omega) zfits_i
      have g75 := zarr_at hL.1 hd (by omega)
      have g76 := zarr_at hL.2.1 hd (by omega)
      have h75 := fun x => zarr_at (zrow_o (a := 82) (j := d) (x := x) (by omega) hL.1) hd (by omega)
      rw [hL.2.2.2.1] at g75
      rw [hL.2.2.2.2] at g76
      have h75 : ∀ x, zarr 0 (zpa H 82 d x) 81 (nI d) = some (eM ((dpB cv w b (dpW cv (N 3) w)).map Prod.fst)) := fun x => by rw [h75 x, hL.2.2.2.1]
      have M18 := fun x => (hM.pa (a := 82) (j := d) (v := x)).r18
      have e10 : (10 : Int32) * nI w + nI b = nI (10 * w + b) := by rw [show (10 : Int32) * nI w = nI (10 * w) from pk_mul 10 w, nI_add]
      cases hcur : dpB cv w b (dpW cv (N 3) w) with
      | none =>
        rw [hcur] at g75 h75
        have g75 : zarr 0 H 81 (nI d) = some (-1000000) := g75
        have h75 : ∀ x, zarr 0 (zpa H 82 d x) 81 (nI d) = some (-1000000) := h75
        refine fin (nI (10 * w + b)) (nI (enc 100000 c)) ?_ (by rw [eS, hcur, hcc]; rfl) (by rw [eS, hcur, hcc]; rfl)
        conv =>
          lhs
          simp only [zi200_174, zi200_174n, zi200_175, zi200_178, zi200_179, zi200_179n, zi200_180, zi200_183, zi200_184, zi200_185, zi200_187, zi200_190, zi200_192, zi200_192n, zi200_193, zi200_196, zi200_197, zi200_198, zi200_201, zi200_203, zi200_205, zi200_206, zi200_208, zi200_209, zi200_212, zi200_212n, zi200_213, zi200_216, zi200_217, zi200_218, zi200_219, zi200_219n, zi200_220, zi200_223, zi200_224, zi200_224n, zi200_225, zi200_228, zi200_229, zi200_230, zi200_232, zi200_235, zi200_237, zi200_237n, zi200_238, zi200_241, zi200_242, zi200_243, zi200_246, zi200_248, zi200_251, zi200_251n, zi200_252, zi200_255, zi200_256, zi200_257, zcl1, zlow_0, zlow_1, zlow_2, zlow_3, zlow_4, zfree_0, zfree_i, zfree_r, zfree_n, zfree_d, zfree_f, zfree_s, if_true, if_false, Option.bind_some, Option.toList_some, Option.toList_none, List.cons_append, List.nil_append, List.set_cons_zero, List.set_cons_succ, Bool.false_eq_true, reduceIte, zsw_c, zsw_n, Nat.reduceAdd, hM.r19, hM.r18, g75, qnn, e10, w76, M18, h75, w75]
      | some pp =>
        obtain ⟨m0, k0⟩ := pp
        rw [hcur] at g75 h75 g76
        have g75 : zarr 0 H 81 (nI d) = some (nI (enc 100000 m0)) := g75
        have g76 : zarr 0 H 82 (nI d) = some (nI k0) := g76
        have h75 : ∀ x, zarr 0 (zpa H 82 d x) 81 (nI d) = some (nI (enc 100000 m0)) := h75
        have hmb : m0.1 ≤ 90 ∧ m0.2 ≤ 2295 := by
          obtain ⟨w1, b1, ⟨q1⟩ | ⟨q1⟩, -, q3, -⟩ := (dpB_ok (dpW_ok (cv := cv) (nb := N 3) w) b (by omega)).2 m0 k0 hcur
          · rw [hcv] at q3
            exact cvN_bd hW hd (by omega) q3
          · rw [hcv] at q3
            exact cvN_bd hW hd (by omega) q3
        have hme : enc 100000 m0 < 2 ^ 31 := by unfold enc; omega
        have hlt2 := enc_lt (K := 100000) (a := c) (b := m0) (by omega) (by omega)
        cases hp : plt c m0
        · have hle : enc 100000 m0 ≤ enc 100000 c := by
            rw [hp] at hlt2
            have : ¬ enc 100000 c < enc 100000 m0 := fun z => by cases hlt2.mp z
            omega
          have eD : dpS (some (m0, k0)) (some c) (10 * w + b) = some (m0, k0) := by
            show (if plt c m0 = true then _ else _) = _
            rw [hp, if_neg (by decide)]
          refine fin (nI k0) (nI (enc 100000 m0)) ?_ (by rw [eS, hcur, hcc, eD]; rfl) (by rw [eS, hcur, hcc, eD]; rfl)
          conv =>
            lhs
            simp only [zi200_174, zi200_174n, zi200_175, zi200_178, zi200_179, zi200_179n, zi200_180, zi200_183, zi200_184, zi200_185, zi200_187, zi200_190, zi200_192, zi200_192n, zi200_193, zi200_196, zi200_197, zi200_198, zi200_201, zi200_203, zi200_205, zi200_206, zi200_208, zi200_209, zi200_212, zi200_212n, zi200_213, zi200_216, zi200_217, zi200_218, zi200_219, zi200_219n, zi200_220, zi200_223, zi200_224, zi200_224n, zi200_225, zi200_228, zi200_229, zi200_230, zi200_232, zi200_235, zi200_237, zi200_237n, zi200_238, zi200_241, zi200_242, zi200_243, zi200_246, zi200_248, zi200_251, zi200_251n, zi200_252, zi200_255, zi200_256, zi200_257, zcl1, zlow_0, zlow_1, zlow_2, zlow_3, zlow_4, zfree_0, zfree_i, zfree_r, zfree_n, zfree_d, zfree_f, zfree_s, if_true, if_false, Option.bind_some, Option.toList_some, Option.toList_none, List.cons_append, List.nil_append, List.set_cons_zero, List.set_cons_succ, Bool.false_eq_true, reduceIte, zsw_c, zsw_n, Nat.reduceAdd, hM.r19, hM.r18, g75, g76, qnx hme, nI_leP hme hce, eq_true hle, w76, M18, h75, w75]
        · have hle : ¬ enc 100000 m0 ≤ enc 100000 c := by
            have := hlt2.mpr hp
            omega
          have eD : dpS (some (m0, k0)) (some c) (10 * w + b) = some (c, 10 * w + b) := by
            show (if plt c m0 = true then _ else _) = _
            rw [hp, if_pos rfl]
          refine fin (nI (10 * w + b)) (nI (enc 100000 c)) ?_ (by rw [eS, hcur, hcc, eD]; rfl) (by rw [eS, hcur, hcc, eD]; rfl)
          conv =>
            lhs
            simp only [zi200_174, zi200_174n, zi200_175, zi200_178, zi200_179, zi200_179n, zi200_180, zi200_183, zi200_184, zi200_185, zi200_187, zi200_190, zi200_192, zi200_192n, zi200_193, zi200_196, zi200_197, zi200_198, zi200_201, zi200_203, zi200_205, zi200_206, zi200_208, zi200_209, zi200_212, zi200_212n, zi200_213, zi200_216, zi200_217, zi200_218, zi200_219, zi200_219n, zi200_220, zi200_223, zi200_224, zi200_224n, zi200_225, zi200_228, zi200_229, zi200_230, zi200_232, zi200_235, zi200_237, zi200_237n, zi200_238, zi200_241, zi200_242, zi200_243, zi200_246, zi200_248, zi200_251, zi200_251n, zi200_252, zi200_255, zi200_256, zi200_257, zcl1, zlow_0, zlow_1, zlow_2, zlow_3, zlow_4, zfree_0, zfree_i, zfree_r, zfree_n, zfree_d, zfree_f, zfree_s, if_true, if_false, Option.bind_some, Option.toList_some, Option.toList_none, List.cons_append, List.nil_append, List.set_cons_zero, List.set_cons_succ, Bool.false_eq_true, reduceIte, zsw_c, zsw_n, Nat.reduceAdd, hM.r19, hM.r18, g75, qnx hme, nI_leP hme hce, eq_false hle, e10, w76, M18, h75, w75]
theorem lmW (hW : WF N) (hS : S < 256) {d : Nat} (hd : d < 256) {cv : Nat → Nat → Option (Nat × Nat)} (hcv : cv = fun w b => cvN N S g (TT N S g) d w b) : ∀ (m w : Nat) (H : zH) (f q : Nat → Int32) (v5 v6 v7 : Value), w + m = N 5 → MdO H sc → MY H N → LR N S g H f q d (dpW cv (N 3) w) → ∃ (H' : zH) (f' q' : Nat → Int32) (v4' v5' v6' v7' : Value), zrun zpp E 200 (48, [.ref 73, .int (nI S), .int (zb g), .int (nI d), .int (nI w), v5, v6, v7], [], H) = zrun zpp E 200 (270, [.ref 73, .int (nI S), .int (zb g), .int (nI d), v4', v5', v6', v7'], [], H') ∧ MdO H' sc ∧ MY H' N ∧ LR N S g H' f' q' d (dpW cv (N 3) (N 5)) ∧ (∀ r, r ≠ d → f' r = f r ∧ q' r = q r) ∧ zsm lP H H' := by
  have h5 := hW.2.2.2.2.2.1
  intro m
  induction m with
  | zero =>
    intro w H f q v5 v6 v7 hw hM hY hL
    rw [show w = N 5 by omega] at hL ⊢
    refine ⟨H, f, q, .int (nI (N 5)), v5, v6, v7, ?_, hM, hY, hL, fun r _ => ⟨rfl, rfl⟩, zsm.rf H⟩
    conv =>
      lhs
      simp only [zi200_48, zi200_50, zi200_50n, zi200_51, zi200_54, zi200_55, zcl1, zlow_0, zlow_1, zlow_2, zlow_3, zlow_4, zfree_0, zfree_i, zfree_r, zfree_n, zfree_d, zfree_f, zfree_s, if_true, if_false, Option.bind_some, Option.toList_some, Option.toList_none, List.cons_append, List.nil_append, List.set_cons_zero, List.set_cons_succ, Bool.false_eq_true, reduceIte, zsw_c, zsw_n, Nat.reduceAdd, hM.r5, hY.c 5 (by decide) (x := 5) rfl]
    rw [zi200_56, if_pos (by rw [nI_leP (by omega) (by omega)]; omega)]
  | succ m ih =>
    intro w H f q v5 v6 v7 hw hM hY hL
    obtain ⟨H1, f1, q1, u5, u6, u7, e1, a1, a2, a3, a4, a5⟩ := lmB (E := E) (sc := sc) hW hS hd (show w < N 5 by omega) hcv (N 3) 0 H f q v6 v7 (by omega) hM hY hL
    obtain ⟨H2, f2, q2, t4, t5, t6, t7, e2, b1, b2, b3, b4, b5⟩ := ih (w + 1) H1 f1 q1 u5 u6 u7 (by omega) a1 a2 a3
    refine ⟨H2, f2, q2, t4, t5, t6, t7, ?_, b1, b2, b3, fun r hr => ⟨((b4 r hr).1).trans (a4 r hr).1, ((b4 r hr).2).trans (a4 r hr).2⟩, a5.tr b5⟩
    rw [← e2]
    have e3 : zrun zpp E 200 (264, [.ref 73, .int (nI S), .int (zb g), .int (nI d), .int (nI w), u5, u6, u7], [], H1) = zrun zpp E 200 (48, [.ref 73, .int (nI S), .int (zb g), .int (nI d), .int (nI (w + 1)), u5, u6, u7], [], H1) := by
      conv =>
        lhs
        simp only [zi200_264, zi200_267, zcl1, zlow_0, zlow_1, zlow_2, zlow_3, zlow_4, zfree_0, zfree_i, zfree_r, zfree_n, zfree_d, zfree_f, zfree_s, if_true, if_false, Option.bind_some, Option.toList_some, Option.toList_none, List.cons_append, List.nil_append, List.set_cons_zero, List.set_cons_succ, Bool.false_eq_true, reduceIte, zsw_c, zsw_n, Nat.reduceAdd, ix_p1]
    rw [← e3, ← e1]
    conv =>
      lhs
      simp only [zi200_48, zi200_50, zi200_50n, zi200_51, zi200_54, zi200_55, zcl1, zlow_0, zlow_1, zlow_2, zlow_3, zlow_4, zfree_0, zfree_i, zfree_r, zfree_n, zfree_d, zfree_f, zfree_s, if_true, if_false, Option.bind_some, Option.toList_some, Option.toList_none, List.cons_append, List.nil_append, List.set_cons_zero, List.set_cons_succ, Bool.false_eq_true, reduceIte, zsw_c, zsw_n, Nat.reduceAdd, hM.r5, hY.c 5 (by decide) (x := 5) rfl]
    rw [zi200_56, if_neg (by rw [nI_leP (by omega) (by omega)]; omega)]
    conv =>
      lhs
      simp only [zi200_59, zi200_60, zcl1, zlow_0, zlow_1, zlow_2, zlow_3, zlow_4, zfree_0, zfree_i, zfree_r, zfree_n, zfree_d, zfree_f, zfree_s, if_true, if_false, Option.bind_some, Option.toList_some, Option.toList_none, List.cons_append, List.nil_append, List.set_cons_zero, List.set_cons_succ, Bool.false_eq_true, reduceIte, zsw_c, zsw_n, Nat.reduceAdd]
    rfl
def FBN (N : Nat → Nat) (S : Nat) (g : Bool) (d : Nat) : Option ((Nat × Nat) × Nat) := dpW (fun w b => cvN N S g (TT N S g) d w b) (N 3) (N 5)
theorem lmD (hW : WF N) (hS : S < 256) : ∀ (m d : Nat) (H : zH) (f q : Nat → Int32) (v4 v5 v6 v7 : Value), d + m = 2 ^ N 3 → 1 ≤ d → MdO H sc → MY H N → zrow 0 H 81 256 f → zrow 0 H 82 256 q → (∀ r, r < d → f r = eM (TT N S g r)) → (∀ r, 1 ≤ r → r < d → q r = eK (FBN N S g r)) → q 0 = -1000000 → ∃ (H' : zH) (f' q' : Nat → Int32), zrun zpp E 200 (17, [.ref 73, .int (nI S), .int (zb g), .int (nI d), v4, v5, v6, v7], [], H) = some (none, H') ∧ MdO H' sc ∧ MY H' N ∧ zrow 0 H' 81 256 f' ∧ zrow 0 H' 82 256 q' ∧ (∀ r, r < 2 ^ N 3 → f' r = eM (TT N S g r)) ∧ (∀ r, 1 ≤ r → r < 2 ^ N 3 → q' r = eK (FBN N S g r)) ∧ q' 0 = -1000000 ∧ zsm lP H H' := by
  have h3 := hW.2.2.2.1.2
  have hp : 2 ^ N 3 ≤ 256 := show 2 ^ N 3 ≤ 2 ^ 8 from Nat.pow_le_pow_right (by decide) h3
  intro m
  induction m with
  | zero =>
    intro d H f q v4 v5 v6 v7 hd h1 hM hY hf hq e1 e2 e0
    refine ⟨H, f, q, ?_, hM, hY, hf, hq, fun r hr => e1 r (by omega), fun r h1 hr => e2 r h1 (by omega), e0, zsm.rf H⟩
    simp only [zi200_17, zi200_18, zi200_19, zi200_19n, zi200_20, zi200_23, zi200_24, zi200_25, zcl1, zlow_0, zlow_1, zlow_2, zlow_3, zlow_4, zfree_0, zfree_i, zfree_r, zfree_n, zfree_d, zfree_f, zfree_s, if_true, if_false, Option.bind_some, Option.toList_some, Option.toList_none, List.cons_append, List.nil_append, List.set_cons_zero, List.set_cons_succ, Bool.false_eq_true, reduceIte, zsw_c, zsw_n, Nat.reduceAdd, hM.r5, hY.c 3 (by decide) (x := 3) rfl, zbit_16 (N 3) (by omega)]
    rw [zi200_26, if_pos (by rw [nI_leP (by omega) (by omega)]; omega)]
    simp only [zi200_276 (sk := []), zcl1, zlow_0, zlow_1, zlow_2, zlow_3, zlow_4, zfree_0, zfree_i, zfree_r, zfree_n, zfree_d, zfree_f, zfree_s, if_true, if_false, Option.bind_some, Option.toList_some, Option.toList_none, List.cons_append, List.nil_append, List.set_cons_zero, List.set_cons_succ, Bool.false_eq_true, reduceIte, zsw_c, zsw_n, Nat.reduceAdd]
  | succ m ih =>
    intro d H f q v4 v5 v6 v7 hd h1 hM hY hf hq e1 e2 e0
    have w75 := zars_at (j := d) (x := -1000000) hf (by omega) (by omega) zfits_i
    have q1 := zrow_o (a := 81) (j := d) (x := -1000000) (by omega) hq
    have w76 := zars_at (j := d) (x := -1000000) q1 (by omega) (by omega) zfits_i
    have M1 : MdO (zpa H 81 d (-1000000)) sc := hM.pa
    have M2 : MdO (zpa (zpa H 81 d (-1000000)) 82 d (-1000000)) sc := M1.pa
    have un : ∀ (u : Nat → Int32) (z : Int32) (r : Nat), r ≠ d → upd u d z r = u r := fun u z r hr => by unfold upd; rw [if_neg hr]
    have us : ∀ (u : Nat → Int32) (z : Int32), upd u d z d = z := fun u z => by unfold upd; rw [if_pos rfl]
    obtain ⟨H1, f1, g1, u4, u5, u6, u7, a0, a1, a2, a3, a4, a5⟩ := lmW (E := E) (sc := sc) (g := g) hW hS (show d < 256 by omega) rfl (N 5) 0 (zpa (zpa H 81 d (-1000000)) 82 d (-1000000)) (upd f d (-1000000)) (upd q d (-1000000)) v5 v6 v7 (by omega) M2 ((hY.keep (zpa_o (by omega))).keep (zpa_o (by omega))) ⟨zrow_o (by omega) (zrow_pa hf), zrow_pa q1, fun r hr => by rw [un f _ r (by omega)]; exact e1 r hr, by rw [us]; rfl, by rw [us]; rfl⟩
    have hT := TT_s (N := N) (S := S) (g := g) h3 (show d < 256 by omega) (by omega)
    obtain ⟨H2, f2, g2, b0, b1, b2, b3, b4, b5, b6, b7, b8⟩ := ih (d + 1) H1 f1 g1 u4 u5 u6 u7 (by omega) (by omega) a1 a2 a3.1 a3.2.1 (fun r hr => by
      by_cases hrd : r = d
      · subst hrd
        rw [a3.2.2.2.1, hT]
      · exact a3.2.2.1 r (by omega)) (fun r h1 hr => by
      by_cases hrd : r = d
      · subst hrd
        exact a3.2.2.2.2
      · rw [(a4 r hrd).2, un q _ r hrd]
        exact e2 r h1 (by omega)) (by rw [(a4 0 (by omega)).2, un q _ 0 (by omega)]; exact e0)
    refine ⟨H2, f2, g2, ?_, b1, b2, b3, b4, b5, b6, b7, (((zsm_pa.wk (fun a e => Or.inl e)).tr (zsm_pa.wk (fun a e => Or.inr e))).tr a5).tr b8⟩
    rw [← b0]
    have e3 : zrun zpp E 200 (270, [.ref 73, .int (nI S), .int (zb g), .int (nI d), u4, u5, u6, u7], [], H1) = zrun zpp E 200 (17, [.ref 73, .int (nI S), .int (zb g), .int (nI (d + 1)), u4, u5, u6, u7], [], H1) := by
      conv =>
        lhs
        simp only [zi200_270, zi200_273, zcl1, zlow_0, zlow_1, zlow_2, zlow_3, zlow_4, zfree_0, zfree_i, zfree_r, zfree_n, zfree_d, zfree_f, zfree_s, if_true, if_false, Option.bind_some, Option.toList_some, Option.toList_none, List.cons_append, List.nil_append, List.set_cons_zero, List.set_cons_succ, Bool.false_eq_true, reduceIte, zsw_c, zsw_n, Nat.reduceAdd, ix_p1]
    rw [← e3, ← a0]
    conv =>
      lhs
      simp only [zi200_17, zi200_18, zi200_19, zi200_19n, zi200_20, zi200_23, zi200_24, zi200_25, zcl1, zlow_0, zlow_1, zlow_2, zlow_3, zlow_4, zfree_0, zfree_i, zfree_r, zfree_n, zfree_d, zfree_f, zfree_s, if_true, if_false, Option.bind_some, Option.toList_some, Option.toList_none, List.cons_append, List.nil_append, List.set_cons_zero, List.set_cons_succ, Bool.false_eq_true, reduceIte, zsw_c, zsw_n, Nat.reduceAdd, hM.r5, hY.c 3 (by decide) (x := 3) rfl, zbit_16 (N 3) (by omega)]
    rw [zi200_26, if_neg (by rw [nI_leP (by omega) (by omega)]; omega)]
    conv =>
      lhs
      simp only [zi200_29, zi200_29n, zi200_30, zi200_33, zi200_34, zi200_36, zi200_37, zi200_37n, zi200_38, zi200_41, zi200_42, zi200_44, zi200_45, zi200_46, zcl1, zlow_0, zlow_1, zlow_2, zlow_3, zlow_4, zfree_0, zfree_i, zfree_r, zfree_n, zfree_d, zfree_f, zfree_s, if_true, if_false, Option.bind_some, Option.toList_some, Option.toList_none, List.cons_append, List.nil_append, List.set_cons_zero, List.set_cons_succ, Bool.false_eq_true, reduceIte, zsw_c, zsw_n, Nat.reduceAdd, hM.r18, w75, M1.r19, w76]
    rfl
theorem sp_layLeast {h : zH} {f q : Nat → Int32} (hW : WF N) (hS : S < 256) (hM : MdO h sc) (hY : MY h N) (hf : zrow 0 h 81 256 f) (hq : zrow 0 h 82 256 q) : ∃ (H' : zH) (f' q' : Nat → Int32), zcall zpp E 200 [.ref 73, .int (nI S), .int (zb g)] h = some (none, H') ∧ MdO H' sc ∧ MY H' N ∧ zrow 0 H' 81 256 f' ∧ zrow 0 H' 82 256 q' ∧ (∀ r, r < 2 ^ N 3 → f' r = eM (TT N S g r)) ∧ (∀ r, 1 ≤ r → r < 2 ^ N 3 → q' r = eK (FBN N S g r)) ∧ q' 0 = -1000000 ∧ zsm lP h H' := by
  have hp : 0 < 2 ^ N 3 := Nat.two_pow_pos _
  have w75 := zars_at (j := 0) (x := 0) hf (by omega) (by omega) zfits_i
  have q1 := zrow_o (a := 81) (j := 0) (x := 0) (by omega) hq
  have w76 := zars_at (j := 0) (x := -1000000) q1 (by omega) (by omega) zfits_i
  have M1 : MdO (zpa h 81 0 0) sc := hM.pa
  have M2 : MdO (zpa (zpa h 81 0 0) 82 0 (-1000000)) sc := M1.pa
  obtain ⟨H', f', q', e, r1, r2, r3, r4, r5, r6, r7, r8⟩ := lmD (E := E) (sc := sc) (g := g) hW hS (2 ^ N 3 - 1) 1 (zpa (zpa h 81 0 0) 82 0 (-1000000)) (upd f 0 0) (upd q 0 (-1000000)) (.retAddr 0) (.retAddr 0) (.retAddr 0) (.retAddr 0) (by omega) (by omega) M2 ((hY.keep (zpa_o (by omega))).keep (zpa_o (by omega))) (zrow_o (by omega) (zrow_pa hf)) (zrow_pa q1) (fun r hr => by
    have : r = 0 := by omega
    subst this
    rfl) (fun r h1 h2 => by omega) rfl
  refine ⟨H', f', q', ?_, r1, r2, r3, r4, r5, r6, r7, ((zsm_pa.wk (fun a e => Or.inl e)).tr (zsm_pa.wk (fun a e => Or.inr e))).tr r8⟩
  rw [← e]
  have w75' : zars 0 h 81 0 0 = some (zpa h 81 0 0) := w75
  have w76' : zars 0 (zpa h 81 0 0) 82 0 (-1000000) = some (zpa (zpa h 81 0 0) 82 0 (-1000000)) := w76
  conv =>
    lhs
    simp only [ze200, zi200_0, zi200_0n, zi200_1, zi200_4, zi200_5, zi200_6, zi200_7, zi200_7n, zi200_8, zi200_11, zi200_12, zi200_14, zi200_15, zi200_16, zcl1, zlow_0, zlow_1, zlow_2, zlow_3, zlow_4, zfree_0, zfree_i, zfree_r, zfree_n, zfree_d, zfree_f, zfree_s, if_true, if_false, Option.bind_some, Option.toList_some, Option.toList_none, List.cons_append, List.nil_append, List.set_cons_zero, List.set_cons_succ, Bool.false_eq_true, reduceIte, zsw_c, zsw_n, Nat.reduceAdd, hM.r18, w75', M1.r19, w76']
  rfl
end LMM
