/-! SOONEST AND GENTLEST OF BOTH -/
section SOON
variable {E : zE} {h : zH} {n : Nat}
theorem farP {x : Nat} (hx : x ≤ FAR) : (nI x < 268435456) = (x < FAR) := by
  unfold FAR at *
  rw [show (268435456 : Int32) = nI 268435456 from rfl, nI_ltP (by omega) (by omega)]
/-- both lay their rows -/
theorem laid {y s : Nat} {v : Int32} {sc : Nat → Int32} {N : Nat → Nat} {S : Nat} {g : Bool} (hJ : JJ h y s v sc N) (h1 : sc 1 = v) (hB : Bd h n) (hW : WF N) (hS : S < 256) : ∃ (H1 H2 : zH) (f q : Nat → Int32), zcall zpp E 138 [.ref 0, .int (nI S), .int (zb g)] h = some (some (.int (nI (eF (TT N S g (N 8))))), H1) ∧ CO H1 y s v ∧ YN H1 y N ∧ RCt N S g H1 (N 8 + 1) ∧ zstf [11] 0 H1 73 0 (.int 0) = some (zpf H1 73 0 (.int 0)) ∧ MdO (zpf H1 73 0 (.int 0)) (upd sc 0 0) ∧ MY (zpf H1 73 0 (.int 0)) N ∧ zcall zpp E 200 [.ref 73, .int (nI S), .int (zb g)] (zpf H1 73 0 (.int 0)) = some (none, H2) ∧ MdO H2 (upd sc 0 0) ∧ MY H2 N ∧ zrow 0 H2 81 256 f ∧ zrow 0 H2 82 256 q ∧ (∀ r, r < 2 ^ N 3 → f r = eM (TT N S g r)) ∧ (∀ r, 1 ≤ r → r < 2 ^ N 3 → q r = eK (FBN N S g r)) ∧ q 0 = -1000000 ∧ J H2 (n + 1) := by
  obtain ⟨⟨f1, s1⟩, ⟨f2, s2⟩, ⟨f3, s3⟩, ⟨f4, s4⟩, ⟨f5, s5⟩, f6, s6⟩ := hJ.scr
  obtain ⟨H1, a1, a2, a3, -, a5, a6⟩ := sp_leastCost (E := E) (g := g) hJ.ys hJ.co hJ.yn hW hS s1 s2
  have z1 := a6.fr (fun a e => by omega)
  have Mc : MdO H1 sc := hJ.md.keep (a6.2 73 (by omega))
  have Yc : MY H1 N := hJ.my.keep (a6.2 77 (by omega))
  have M1 := Mc.put 0 rfl (by omega) 0
  have Y1 : MY (zpf H1 73 0 (.int 0)) N := Yc.keep (zpf_o (by omega))
  have t4 : zrow 0 H1 81 256 f4 := zrow_c (a6.2 81 (by omega)) s4
  have t5 : zrow 0 H1 82 256 f5 := zrow_c (a6.2 82 (by omega)) s5
  obtain ⟨H2, f, q, b1, b2, b3, b4, b5, b6, b7, b8, b9⟩ := sp_layLeast (E := E) (g := g) hW hS M1 Y1 (zrow_pf t4) (zrow_pf t5)
  have z9 := b9.fr (fun a e => by unfold lP at e; omega)
  refine ⟨H1, H2, f, q, a1, a2, a3, a5, Mc.st 0 rfl (by omega) 0, M1, Y1, b1, b2, b3, b4, b5, b6, b7, b8, y, s, v, upd sc 0 0, N, ?_, h1, (((hB.sm a6).sm zsm_pf).sm b9).up (by omega)⟩
  have k13 : ∃ f, zrow 0 H1 14 64 f := by
    obtain ⟨g0, g1, g2⟩ := s1
    have := a5
    obtain ⟨H1', c1, c2, c3, ⟨f', c4, c5⟩, c6, c7⟩ := sp_leastCost (E := E) (g := g) hJ.ys hJ.co hJ.yn hW hS ⟨g0, g1, g2⟩ s2
    rw [a1] at c1
    cases c1
    exact ⟨f', c4⟩
  have k14 : ∃ f, zrow 0 H1 15 256 f := by
    obtain ⟨f', c1, c2⟩ := a5
    exact ⟨f', c1⟩
  have JA : JJ H1 y s v sc N := hJ.lay (z1.wk (fun a e => by omega)) ⟨k13, k14, ⟨f3, zrow_c (a6.2 78 (by omega)) s3⟩, ⟨f4, t4⟩, ⟨f5, t5⟩, f6, zrow_c (a6.2 83 (by omega)) s6⟩
  have JB := JA.mi 0 rfl (by omega) 0 (by omega) (by omega) (by omega) (by omega)
  refine JB.lay (z9.wk (fun a e => by unfold lP at e; omega)) ?_
  obtain ⟨⟨u1, r1⟩, ⟨u2, r2⟩, ⟨u3, r3⟩, -, -, u6, r6⟩ := JB.scr
  exact ⟨⟨u1, zrow_c (b9.2 14 (by unfold lP; omega)) r1⟩, ⟨u2, zrow_c (b9.2 15 (by unfold lP; omega)) r2⟩, ⟨u3, zrow_c (b9.2 78 (by unfold lP; omega)) r3⟩, ⟨f, b4⟩, ⟨q, b5⟩, u6, zrow_c (b9.2 83 (by unfold lP; omega)) r6⟩
theorem ok_soonest (hJ : J h n) {x k : Int32} : OK E h n 106 201 [.int x, .int k] := by
  obtain ⟨y, s, v, sc, N, hJ, h1, hB⟩ := hJ
  have M1 := hJ.md.put 0 rfl (by omega) 0
  have w0 := hJ.md.st 0 rfl (by omega) 0
  have Y1 : MY (zpf h 73 0 (.int 0)) N := hJ.my.keep (zpf_o (by omega))
  have c1 : zsel 9 [9, 70] = some 70 := rfl
  have c2 : zsel 10 [10, 132] = some 132 := rfl
  have c3 : zsel 10 [10, 138] = some 138 := rfl
  have c4 : zsel 10 [10, 142] = some 142 := rfl
  have m1 : zsel 11 [11, 172] = some 172 := rfl
  have m2 : zsel 11 [11, 176] = some 176 := rfl
  have m3 : zsel 11 [11, 200] = some 200 := rfl
  have h5 := hJ.wg.h5
  have hp := zpow_5 h5
  have i1 := fun (H : zH) => sp_inI (E := E) (h := H) (u := k.toInt64) (v := 0) (w := 1) (x := k) (a := 0) (b := 1) rfl (by decide) (by decide)
  rcases hJ.wg.cs with ⟨d1, d2, -⟩ | ⟨d1, d2, hW, -⟩
  · refine ⟨(-1000002), h, zpf h 73 0 (.int 0), ?_, ?_, hJ.q h1 hB⟩
    · simp only [ze106, zi106_0, zi106_0n, zi106_1, zi106_4, zi106_7, zi106_10, zi106_12 (sk := []), zi106_13, zi106_13n, zi106_14, zi106_15, zi106_18, zi106_21, zi106_22, zi106_23, zi106_24, zi106_27, zi106_30, zi106_32 (sk := []), zcl1, zlow_0, zlow_1, zlow_2, zlow_3, zlow_4, zfree_0, zfree_i, zfree_r, zfree_n, zfree_d, zfree_f, zfree_s, if_true, if_false, Option.bind_some, Option.toList_some, Option.toList_none, List.cons_append, List.nil_append, List.set_cons_zero, List.set_cons_succ, Bool.false_eq_true, reduceIte, zsw_c, zsw_n, Nat.reduceAdd, hJ.co.r7, hJ.yn.cls, c1, sp_isRead hJ.wg.h3 hJ.yn, d1, zb_f, z00]
    · simp only [ze201, zi201_0, zi201_0n, zi201_1, zi201_2, zi201_5, zi201_5n, zi201_6, zi201_9, zi201_12, zi201_14 (sk := []), zi201_15, zi201_15n, zi201_16, zi201_17, zi201_20, zi201_23, zi201_24, zi201_25, zi201_26, zi201_27, zi201_30, zi201_33, zi201_35 (sk := []), zcl1, zlow_0, zlow_1, zlow_2, zlow_3, zlow_4, zfree_0, zfree_i, zfree_r, zfree_n, zfree_d, zfree_f, zfree_s, if_true, if_false, Option.bind_some, Option.toList_some, Option.toList_none, List.cons_append, List.nil_append, List.set_cons_zero, List.set_cons_succ, Bool.false_eq_true, reduceIte, zsw_c, zsw_n, Nat.reduceAdd, w0, M1.1, m1, sp_isThere M1 Y1 hJ.wg.h0, d2, zb_f, z00]
  rcases zlt_or x (n := 2 ^ N 5) (by omega) with hx | ⟨S, hS, rfl⟩
  · refine ⟨(-1000001), h, zpf h 73 0 (.int 0), ?_, ?_, hJ.q h1 hB⟩
    · simp only [ze106, zi106_0, zi106_0n, zi106_1, zi106_4, zi106_7, zi106_10, zi106_12 (sk := []), zi106_13, zi106_13n, zi106_14, zi106_15, zi106_18, zi106_21, zi106_22, zi106_23, zi106_24, zi106_27, zi106_30, zi106_32 (sk := []), zcl1, zlow_0, zlow_1, zlow_2, zlow_3, zlow_4, zfree_0, zfree_i, zfree_r, zfree_n, zfree_d, zfree_f, zfree_s, if_true, if_false, Option.bind_some, Option.toList_some, Option.toList_none, List.cons_append, List.nil_append, List.set_cons_zero, List.set_cons_succ, Bool.false_eq_true, reduceIte, zsw_c, zsw_n, Nat.reduceAdd, hJ.co.r7, hJ.yn.cls, c1, sp_isRead hJ.wg.h3 hJ.yn, d1, zb_t, z10, hJ.co.1, c2, sp_areLifters hJ.co hJ.yn h5, hx, zb_f, z00]
    · simp only [ze201, zi201_0, zi201_0n, zi201_1, zi201_2, zi201_5, zi201_5n, zi201_6, zi201_9, zi201_12, zi201_14 (sk := []), zi201_15, zi201_15n, zi201_16, zi201_17, zi201_20, zi201_23, zi201_24, zi201_25, zi201_26, zi201_27, zi201_30, zi201_33, zi201_35 (sk := []), zcl1, zlow_0, zlow_1, zlow_2, zlow_3, zlow_4, zfree_0, zfree_i, zfree_r, zfree_n, zfree_d, zfree_f, zfree_s, if_true, if_false, Option.bind_some, Option.toList_some, Option.toList_none, List.cons_append, List.nil_append, List.set_cons_zero, List.set_cons_succ, Bool.false_eq_true, reduceIte, zsw_c, zsw_n, Nat.reduceAdd, w0, M1.1, m1, sp_isThere M1 Y1 hJ.wg.h0, d2, zb_t, z10, m2, sp_areLiftersM M1 Y1 h5, hx, zb_f, z00]
  have hx : zlt (nI S) (2 ^ N 5) = true := by rw [zlt_nI (by omega) (by omega)]; simp [hS]
  rcases zbt_or k 0 1 (by omega) (by omega) with hk | ⟨j, -, hj, rfl, hk⟩
  · have hk : (decide (0 ≤ k) && decide (k ≤ 1)) = false := hk
    refine ⟨(-1000001), h, zpf h 73 0 (.int 0), ?_, ?_, hJ.q h1 hB⟩
    · simp only [ze106, zi106_0, zi106_0n, zi106_1, zi106_4, zi106_7, zi106_10, zi106_12 (sk := []), zi106_13, zi106_13n, zi106_14, zi106_15, zi106_18, zi106_21, zi106_22, zi106_23, zi106_24, zi106_27, zi106_30, zi106_32 (sk := []), zcl1, zlow_0, zlow_1, zlow_2, zlow_3, zlow_4, zfree_0, zfree_i, zfree_r, zfree_n, zfree_d, zfree_f, zfree_s, if_true, if_false, Option.bind_some, Option.toList_some, Option.toList_none, List.cons_append, List.nil_append, List.set_cons_zero, List.set_cons_succ, Bool.false_eq_true, reduceIte, zsw_c, zsw_n, Nat.reduceAdd, hJ.co.r7, hJ.yn.cls, c1, sp_isRead hJ.wg.h3 hJ.yn, d1, zb_t, z10, hJ.co.1, c2, sp_areLifters hJ.co hJ.yn h5, hx, sp_within, hk, zb_f, z00]
    · simp only [ze201, zi201_0, zi201_0n, zi201_1, zi201_2, zi201_5, zi201_5n, zi201_6, zi201_9, zi201_12, zi201_14 (sk := []), zi201_15, zi201_15n, zi201_16, zi201_17, zi201_20, zi201_23, zi201_24, zi201_25, zi201_26, zi201_27, zi201_30, zi201_33, zi201_35 (sk := []), zcl1, zlow_0, zlow_1, zlow_2, zlow_3, zlow_4, zfree_0, zfree_i, zfree_r, zfree_n, zfree_d, zfree_f, zfree_s, if_true, if_false, Option.bind_some, Option.toList_some, Option.toList_none, List.cons_append, List.nil_append, List.set_cons_zero, List.set_cons_succ, Bool.false_eq_true, reduceIte, zsw_c, zsw_n, Nat.reduceAdd, w0, M1.1, m1, sp_isThere M1 Y1 hJ.wg.h0, d2, zb_t, z10, m2, sp_areLiftersM M1 Y1 h5, hx, i1, hk, zb_f, z00]
  have hk : (decide (0 ≤ nI j) && decide (nI j ≤ 1)) = true := hk
  have hd8 := hW.d8
  have hdp := hW.2.2.2.2.2.2.1
  obtain ⟨H1, H2, f, q, a1, a2, a3, a5, w1, M2, Y2, b1, M3, Y3, b4, b5, b6, b7, b8, fin⟩ := laid (E := E) (g := false) (S := S) hJ h1 hB hW (by omega)
  have hE := (eF_b (S := S) (g := false) hW hd8).1
  have g75 := zarr_at (j := N 8) b4 (by omega) (by omega)
  rw [b6 _ hdp] at g75
  have g76 := zarr_at (j := N 8) b5 (by omega) (by omega)
  have eC : zcall zpp E 106 [.ref 0, .int (nI S), .int (nI j)] h = zrun zpp E 106 (40, [.ref 0, .int (nI S), .int (nI j), .int (nI (eF (TT N S false (N 8))))], [], H1) := by
    have a1 : zcall zpp E 138 [.ref 0, .int (nI S), .int 0] h = some (some (.int (nI (eF (TT N S false (N 8))))), H1) := a1
    conv =>
      lhs
      simp only [ze106, zi106_0, zi106_0n, zi106_1, zi106_4, zi106_7, zi106_10, zi106_12 (sk := []), zi106_13, zi106_13n, zi106_14, zi106_15, zi106_18, zi106_21, zi106_22, zi106_23, zi106_24, zi106_27, zi106_30, zi106_32 (sk := []), zi106_33, zi106_33n, zi106_34, zi106_35, zi106_36, zi106_39, zcl1, zlow_0, zlow_1, zlow_2, zlow_3, zlow_4, zfree_0, zfree_i, zfree_r, zfree_n, zfree_d, zfree_f, zfree_s, if_true, if_false, Option.bind_some, Option.toList_some, Option.toList_none, List.cons_append, List.nil_append, List.set_cons_zero, List.set_cons_succ, Bool.false_eq_true, reduceIte, zsw_c, zsw_n, Nat.reduceAdd, hJ.co.r7, hJ.yn.cls, c1, sp_isRead hJ.wg.h3 hJ.yn, d1, zb_t, z10, hJ.co.1, c2, sp_areLifters hJ.co hJ.yn h5, hx, sp_within, hk, c3, a1]
  have eD : zcall zpp E 201 [.ref 73, .int (nI S), .int (nI j)] H1 = zrun zpp E 201 (42, [.ref 73, .int (nI S), .int (nI j)], [], H2) := by
    have b1 : zcall zpp E 200 [.ref 73, .int (nI S), .int 0] (zpf H1 73 0 (.int 0)) = some (none, H2) := b1
    conv =>
      lhs
      simp only [ze201, zi201_0, zi201_0n, zi201_1, zi201_2, zi201_5, zi201_5n, zi201_6, zi201_9, zi201_12, zi201_14 (sk := []), zi201_15, zi201_15n, zi201_16, zi201_17, zi201_20, zi201_23, zi201_24, zi201_25, zi201_26, zi201_27, zi201_30, zi201_33, zi201_35 (sk := []), zi201_36, zi201_36n, zi201_37, zi201_38, zi201_39, zcl1, zlow_0, zlow_1, zlow_2, zlow_3, zlow_4, zfree_0, zfree_i, zfree_r, zfree_n, zfree_d, zfree_f, zfree_s, if_true, if_false, Option.bind_some, Option.toList_some, Option.toList_none, List.cons_append, List.nil_append, List.set_cons_zero, List.set_cons_succ, Bool.false_eq_true, reduceIte, zsw_c, zsw_n, Nat.reduceAdd, w1, M2.1, m1, sp_isThere M2 Y2 hJ.wg.h0, d2, zb_t, z10, m2, sp_areLiftersM M2 Y2 h5, hx, i1, hk, m3, b1]
  cases hT : TT N S false (N 8) with
  | none =>
    rw [hT] at eC g75
    have hn0 : 1 ≤ N 8 := by
      by_cases h0 : N 8 = 0
      · rw [h0, TT_0] at hT; cases hT
      · omega
    have eB : q (N 8) = -1000000 := by
      rw [b7 _ hn0 hdp]
      unfold FBN
      have := TT_s (N := N) (S := S) (g := false) hW.2.2.2.1.2 hd8 (by omega)
      rw [hT] at this
      cases hq : dpW (fun w b => cvN N S false (TT N S false) (N 8) w b) (N 3) (N 5) with
      | none => rfl
      | some p => rw [hq] at this; cases this
    rw [eB] at g76
    have g75 : zarr 0 H2 81 (nI (N 8)) = some (-1000000) := g75
    refine ⟨(-1000000), H1, H2, ?_, ?_, fin⟩
    · rw [eC]
      have hf := farP (x := eF none) (Nat.le_refl _)
      have : ¬ eF none < FAR := Nat.lt_irrefl _
      simp only [zi106_40, zi106_41, zi106_43, zi106_46, zi106_48 (sk := []), zcl1, zlow_0, zlow_1, zlow_2, zlow_3, zlow_4, zfree_0, zfree_i, zfree_r, zfree_n, zfree_d, zfree_f, zfree_s, if_true, if_false, Option.bind_some, Option.toList_some, Option.toList_none, List.cons_append, List.nil_append, List.set_cons_zero, List.set_cons_succ, Bool.false_eq_true, reduceIte, zsw_c, zsw_n, Nat.reduceAdd, hf, eq_false this]
    · rw [eD]
      obtain rfl | rfl : j = 0 ∨ j = 1 := by omega
      · simp only [zi201_42, zi201_43, zi201_46, zi201_46n, zi201_47, zi201_50, zi201_50n, zi201_51, zi201_54, zi201_56, zi201_57, zi201_58, zi201_61, zi201_61n, zi201_62, zi201_65, zi201_65n, zi201_66, zi201_69, zi201_71, zi201_72, zi201_73 (sk := []), zcl1, zlow_0, zlow_1, zlow_2, zlow_3, zlow_4, zfree_0, zfree_i, zfree_r, zfree_n, zfree_d, zfree_f, zfree_s, if_true, if_false, Option.bind_some, Option.toList_some, Option.toList_none, List.cons_append, List.nil_append, List.set_cons_zero, List.set_cons_succ, Bool.false_eq_true, reduceIte, zsw_c, zsw_n, Nat.reduceAdd, show (nI 0 = 0) = True by decide, M3.r18, M3.r5, Y3.c 8 (by decide) (x := 8) rfl, g75]
      · simp only [zi201_42, zi201_43, zi201_46, zi201_46n, zi201_47, zi201_50, zi201_50n, zi201_51, zi201_54, zi201_56, zi201_57, zi201_58, zi201_61, zi201_61n, zi201_62, zi201_65, zi201_65n, zi201_66, zi201_69, zi201_71, zi201_72, zi201_73 (sk := []), zcl1, zlow_0, zlow_1, zlow_2, zlow_3, zlow_4, zfree_0, zfree_i, zfree_r, zfree_n, zfree_d, zfree_f, zfree_s, if_true, if_false, Option.bind_some, Option.toList_some, Option.toList_none, List.cons_append, List.nil_append, List.set_cons_zero, List.set_cons_succ, Bool.false_eq_true, reduceIte, zsw_c, zsw_n, Nat.reduceAdd, show (nI 1 = 0) = False by decide, M3.r19, M3.r5, Y3.c 8 (by decide) (x := 8) rfl, g76]
  | some p =>
    have hp0 := TT_f0 hW (N 8) hd8 p hT
    have hpb := TT_b2 hW hd8 hT
    have hl : eF (TT N S false (N 8)) < FAR := by
      rw [hT]
      show enc 4096 p < FAR
      unfold enc FAR
      omega
    have sf := sp_firstLift (E := E) a2 a3 hW (show S < 256 by omega) a5 hl
    have sf : zcall zpp E 142 [.ref 0, .int (nI S), .int 0] H1 = some (some (.int (if N 8 = 0 then -1000000 else eK (FBN N S false (N 8)))), H1) := sf
    rw [hT] at eC g75 hl
    have e1 : eF (some p) = p.2 := by
      show enc 4096 p = _
      unfold enc
      rw [hp0]
      omega
    have e2 : eM (some p) = nI p.2 := by
      show nI (enc 100000 p) = _
      unfold enc
      rw [hp0, Nat.mul_zero, Nat.zero_add]
    rw [e1] at eC hl
    rw [e2] at g75
    have hf := farP (x := p.2) (Nat.le_of_lt hl)
    obtain rfl | rfl : j = 0 ∨ j = 1 := by omega
    · refine ⟨(nI p.2), H1, H2, ?_, ?_, fin⟩
      · rw [eC]
        simp only [zi106_40, zi106_41, zi106_43, zi106_46, zi106_48 (sk := []), zi106_49, zi106_50, zi106_53, zi106_54, zi106_57, zi106_57n, zi106_58, zi106_59, zi106_60, zi106_63 (sk := []), zcl1, zlow_0, zlow_1, zlow_2, zlow_3, zlow_4, zfree_0, zfree_i, zfree_r, zfree_n, zfree_d, zfree_f, zfree_s, if_true, if_false, Option.bind_some, Option.toList_some, Option.toList_none, List.cons_append, List.nil_append, List.set_cons_zero, List.set_cons_succ, Bool.false_eq_true, reduceIte, zsw_c, zsw_n, Nat.reduceAdd, hf, eq_true hl, show (nI 0 = 0) = True by decide]
      · rw [eD]
        simp only [zi201_42, zi201_43, zi201_46, zi201_46n, zi201_47, zi201_50, zi201_50n, zi201_51, zi201_54, zi201_56, zi201_57, zi201_58, zi201_61, zi201_61n, zi201_62, zi201_65, zi201_65n, zi201_66, zi201_69, zi201_71, zi201_72, zi201_73 (sk := []), zcl1, zlow_0, zlow_1, zlow_2, zlow_3, zlow_4, zfree_0, zfree_i, zfree_r, zfree_n, zfree_d, zfree_f, zfree_s, if_true, if_false, Option.bind_some, Option.toList_some, Option.toList_none, List.cons_append, List.nil_append, List.set_cons_zero, List.set_cons_succ, Bool.false_eq_true, reduceIte, zsw_c, zsw_n, Nat.reduceAdd, show (nI 0 = 0) = True by decide, M3.r18, M3.r5, Y3.c 8 (by decide) (x := 8) rfl, g75]
    · have eq' : q (N 8) = if N 8 = 0 then -1000000 else eK (FBN N S false (N 8)) := by
        by_cases h0 : N 8 = 0
        · rw [if_pos h0, h0]; exact b8
        · rw [if_neg h0]; exact b7 _ (by omega) hdp
      rw [eq'] at g76
      refine ⟨(if N 8 = 0 then -1000000 else eK (FBN N S false (N 8))), H1, H2, ?_, ?_, fin⟩
      · rw [eC]
        simp only [zi106_40, zi106_41, zi106_43, zi106_46, zi106_48 (sk := []), zi106_49, zi106_50, zi106_53, zi106_54, zi106_57, zi106_57n, zi106_58, zi106_59, zi106_60, zi106_63 (sk := []), zcl1, zlow_0, zlow_1, zlow_2, zlow_3, zlow_4, zfree_0, zfree_i, zfree_r, zfree_n, zfree_d, zfree_f, zfree_s, if_true, if_false, Option.bind_some, Option.toList_some, Option.toList_none, List.cons_append, List.nil_append, List.set_cons_zero, List.set_cons_succ, Bool.false_eq_true, reduceIte, zsw_c, zsw_n, Nat.reduceAdd, hf, eq_true hl, show (nI 1 = 0) = False by decide, a2.1, c4, sf]
      · rw [eD]
        simp only [zi201_42, zi201_43, zi201_46, zi201_46n, zi201_47, zi201_50, zi201_50n, zi201_51, zi201_54, zi201_56, zi201_57, zi201_58, zi201_61, zi201_61n, zi201_62, zi201_65, zi201_65n, zi201_66, zi201_69, zi201_71, zi201_72, zi201_73 (sk := []), zcl1, zlow_0, zlow_1, zlow_2, zlow_3, zlow_4, zfree_0, zfree_i, zfree_r, zfree_n, zfree_d, zfree_f, zfree_s, if_true, if_false, Option.bind_some, Option.toList_some, Option.toList_none, List.cons_append, List.nil_append, List.set_cons_zero, List.set_cons_succ, Bool.false_eq_true, reduceIte, zsw_c, zsw_n, Nat.reduceAdd, show (nI 1 = 0) = False by decide, M3.r19, M3.r5, Y3.c 8 (by decide) (x := 8) rfl, g76]
theorem ok_gentlest (hJ : J h n) {x k : Int32} : OK E h n 107 202 [.int x, .int k] := by
  obtain ⟨y, s, v, sc, N, hJ, h1, hB⟩ := hJ
  have M1 := hJ.md.put 0 rfl (by omega) 0
  have w0 := hJ.md.st 0 rfl (by omega) 0
  have Y1 : MY (zpf h 73 0 (.int 0)) N := hJ.my.keep (zpf_o (by omega))
  have c1 : zsel 9 [9, 70] = some 70 := rfl
  have c2 : zsel 10 [10, 132] = some 132 := rfl
  have c3 : zsel 10 [10, 138] = some 138 := rfl
  have c4 : zsel 10 [10, 142] = some 142 := rfl
  have m1 : zsel 11 [11, 172] = some 172 := rfl
  have m2 : zsel 11 [11, 176] = some 176 := rfl
  have m3 : zsel 11 [11, 200] = some 200 := rfl
  have h5 := hJ.wg.h5
  have hp := zpow_5 h5
  have i1 := fun (H : zH) => sp_inI (E := E) (h := H) (u := k.toInt64) (v := 0) (w := 2) (x := k) (a := 0) (b := 2) rfl (by decide) (by decide)
  rcases hJ.wg.cs with ⟨d1, d2, -⟩ | ⟨d1, d2, hW, -⟩
  · refine ⟨(-1000002), h, zpf h 73 0 (.int 0), ?_, ?_, hJ.q h1 hB⟩
    · simp only [ze107, zi107_0, zi107_0n, zi107_1, zi107_4, zi107_7, zi107_10, zi107_12 (sk := []), zi107_13, zi107_13n, zi107_14, zi107_15, zi107_18, zi107_21, zi107_22, zi107_23, zi107_24, zi107_27, zi107_30, zi107_32 (sk := []), zcl1, zlow_0, zlow_1, zlow_2, zlow_3, zlow_4, zfree_0, zfree_i, zfree_r, zfree_n, zfree_d, zfree_f, zfree_s, if_true, if_false, Option.bind_some, Option.toList_some, Option.toList_none, List.cons_append, List.nil_append, List.set_cons_zero, List.set_cons_succ, Bool.false_eq_true, reduceIte, zsw_c, zsw_n, Nat.reduceAdd, hJ.co.r7, hJ.yn.cls, c1, sp_isRead hJ.wg.h3 hJ.yn, d1, zb_f, z00]
    · simp only [ze202, zi202_0, zi202_0n, zi202_1, zi202_2, zi202_5, zi202_5n, zi202_6, zi202_9, zi202_12, zi202_14 (sk := []), zi202_15, zi202_15n, zi202_16, zi202_17, zi202_20, zi202_23, zi202_24, zi202_25, zi202_26, zi202_29, zi202_32, zi202_35, zi202_37 (sk := []), zcl1, zlow_0, zlow_1, zlow_2, zlow_3, zlow_4, zfree_0, zfree_i, zfree_r, zfree_n, zfree_d, zfree_f, zfree_s, if_true, if_false, Option.bind_some, Option.toList_some, Option.toList_none, List.cons_append, List.nil_append, List.set_cons_zero, List.set_cons_succ, Bool.false_eq_true, reduceIte, zsw_c, zsw_n, Nat.reduceAdd, w0, M1.1, m1, sp_isThere M1 Y1 hJ.wg.h0, d2, zb_f, z00]
  rcases zlt_or x (n := 2 ^ N 5) (by omega) with hx | ⟨S, hS, rfl⟩
  · refine ⟨(-1000001), h, zpf h 73 0 (.int 0), ?_, ?_, hJ.q h1 hB⟩
    · simp only [ze107, zi107_0, zi107_0n, zi107_1, zi107_4, zi107_7, zi107_10, zi107_12 (sk := []), zi107_13, zi107_13n, zi107_14, zi107_15, zi107_18, zi107_21, zi107_22, zi107_23, zi107_24, zi107_27, zi107_30, zi107_32 (sk := []), zcl1, zlow_0, zlow_1, zlow_2, zlow_3, zlow_4, zfree_0, zfree_i, zfree_r, zfree_n, zfree_d, zfree_f, zfree_s, if_true, if_false, Option.bind_some, Option.toList_some, Option.toList_none, List.cons_append, List.nil_append, List.set_cons_zero, List.set_cons_succ, Bool.false_eq_true, reduceIte, zsw_c, zsw_n, Nat.reduceAdd, hJ.co.r7, hJ.yn.cls, c1, sp_isRead hJ.wg.h3 hJ.yn, d1, zb_t, z10, hJ.co.1, c2, sp_areLifters hJ.co hJ.yn h5, hx, zb_f, z00]
    · simp only [ze202, zi202_0, zi202_0n, zi202_1, zi202_2, zi202_5, zi202_5n, zi202_6, zi202_9, zi202_12, zi202_14 (sk := []), zi202_15, zi202_15n, zi202_16, zi202_17, zi202_20, zi202_23, zi202_24, zi202_25, zi202_26, zi202_29, zi202_32, zi202_35, zi202_37 (sk := []), zcl1, zlow_0, zlow_1, zlow_2, zlow_3, zlow_4, zfree_0, zfree_i, zfree_r, zfree_n, zfree_d, zfree_f, zfree_s, if_true, if_false, Option.bind_some, Option.toList_some, Option.toList_none, List.cons_append, List.nil_append, List.set_cons_zero, List.set_cons_succ, Bool.false_eq_true, reduceIte, zsw_c, zsw_n, Nat.reduceAdd, w0, M1.1, m1, sp_isThere M1 Y1 hJ.wg.h0, d2, zb_t, z10, m2, sp_areLiftersM M1 Y1 h5, hx, zb_f, z00]
  have hx : zlt (nI S) (2 ^ N 5) = true := by rw [zlt_nI (by omega) (by omega)]; simp [hS]
  rcases zbt_or k 0 2 (by omega) (by omega) with hk | ⟨j, -, hj, rfl, hk⟩
  · have hk : (decide (0 ≤ k) && decide (k ≤ 2)) = false := hk
    refine ⟨(-1000001), h, zpf h 73 0 (.int 0), ?_, ?_, hJ.q h1 hB⟩
    · simp only [ze107, zi107_0, zi107_0n, zi107_1, zi107_4, zi107_7, zi107_10, zi107_12 (sk := []), zi107_13, zi107_13n, zi107_14, zi107_15, zi107_18, zi107_21, zi107_22, zi107_23, zi107_24, zi107_27, zi107_30, zi107_32 (sk := []), zcl1, zlow_0, zlow_1, zlow_2, zlow_3, zlow_4, zfree_0, zfree_i, zfree_r, zfree_n, zfree_d, zfree_f, zfree_s, if_true, if_false, Option.bind_some, Option.toList_some, Option.toList_none, List.cons_append, List.nil_append, List.set_cons_zero, List.set_cons_succ, Bool.false_eq_true, reduceIte, zsw_c, zsw_n, Nat.reduceAdd, hJ.co.r7, hJ.yn.cls, c1, sp_isRead hJ.wg.h3 hJ.yn, d1, zb_t, z10, hJ.co.1, c2, sp_areLifters hJ.co hJ.yn h5, hx, sp_within, hk, zb_f, z00]
    · simp only [ze202, zi202_0, zi202_0n, zi202_1, zi202_2, zi202_5, zi202_5n, zi202_6, zi202_9, zi202_12, zi202_14 (sk := []), zi202_15, zi202_15n, zi202_16, zi202_17, zi202_20, zi202_23, zi202_24, zi202_25, zi202_26, zi202_29, zi202_32, zi202_35, zi202_37 (sk := []), zcl1, zlow_0, zlow_1, zlow_2, zlow_3, zlow_4, zfree_0, zfree_i, zfree_r, zfree_n, zfree_d, zfree_f, zfree_s, if_true, if_false, Option.bind_some, Option.toList_some, Option.toList_none, List.cons_append, List.nil_append, List.set_cons_zero, List.set_cons_succ, Bool.false_eq_true, reduceIte, zsw_c, zsw_n, Nat.reduceAdd, w0, M1.1, m1, sp_isThere M1 Y1 hJ.wg.h0, d2, zb_t, z10, m2, sp_areLiftersM M1 Y1 h5, hx, i1, hk, zb_f, z00]
  have hk : (decide (0 ≤ nI j) && decide (nI j ≤ 2)) = true := hk
  have hd8 := hW.d8
  have hdp := hW.2.2.2.2.2.2.1
  obtain ⟨H1, H2, f, q, a1, a2, a3, a5, w1, M2, Y2, b1, M3, Y3, b4, b5, b6, b7, b8, fin⟩ := laid (E := E) (g := true) (S := S) hJ h1 hB hW (by omega)
  have g75 := zarr_at (j := N 8) b4 (by omega) (by omega)
  rw [b6 _ hdp] at g75
  have g76 := zarr_at (j := N 8) b5 (by omega) (by omega)
  have eC : zcall zpp E 107 [.ref 0, .int (nI S), .int (nI j)] h = zrun zpp E 107 (40, [.ref 0, .int (nI S), .int (nI j), .int (nI (eF (TT N S true (N 8))))], [], H1) := by
    have a1 : zcall zpp E 138 [.ref 0, .int (nI S), .int 1] h = some (some (.int (nI (eF (TT N S true (N 8))))), H1) := a1
    conv =>
      lhs
      simp only [ze107, zi107_0, zi107_0n, zi107_1, zi107_4, zi107_7, zi107_10, zi107_12 (sk := []), zi107_13, zi107_13n, zi107_14, zi107_15, zi107_18, zi107_21, zi107_22, zi107_23, zi107_24, zi107_27, zi107_30, zi107_32 (sk := []), zi107_33, zi107_33n, zi107_34, zi107_35, zi107_36, zi107_39, zcl1, zlow_0, zlow_1, zlow_2, zlow_3, zlow_4, zfree_0, zfree_i, zfree_r, zfree_n, zfree_d, zfree_f, zfree_s, if_true, if_false, Option.bind_some, Option.toList_some, Option.toList_none, List.cons_append, List.nil_append, List.set_cons_zero, List.set_cons_succ, Bool.false_eq_true, reduceIte, zsw_c, zsw_n, Nat.reduceAdd, hJ.co.r7, hJ.yn.cls, c1, sp_isRead hJ.wg.h3 hJ.yn, d1, zb_t, z10, hJ.co.1, c2, sp_areLifters hJ.co hJ.yn h5, hx, sp_within, hk, c3, a1]
  have eD : ∀ E0, f (N 8) = E0 → zcall zpp E 202 [.ref 73, .int (nI S), .int (nI j)] H1 = zrun zpp E 202 (57, [.ref 73, .int (nI S), .int (nI j), .int E0], [], H2) := by
    intro E0 hE0
    have g75' := zarr_at (j := N 8) b4 (by omega) (by omega)
    rw [hE0] at g75'
    have b1 : zcall zpp E 200 [.ref 73, .int (nI S), .int 1] (zpf H1 73 0 (.int 0)) = some (none, H2) := b1
    conv =>
      lhs
      simp only [ze202, zi202_0, zi202_0n, zi202_1, zi202_2, zi202_5, zi202_5n, zi202_6, zi202_9, zi202_12, zi202_14 (sk := []), zi202_15, zi202_15n, zi202_16, zi202_17, zi202_20, zi202_23, zi202_24, zi202_25, zi202_26, zi202_29, zi202_32, zi202_35, zi202_37 (sk := []), zi202_38, zi202_38n, zi202_39, zi202_40, zi202_41, zi202_44, zi202_44n, zi202_45, zi202_48, zi202_48n, zi202_49, zi202_52, zi202_54, zi202_55, zi202_56, zcl1, zlow_0, zlow_1, zlow_2, zlow_3, zlow_4, zfree_0, zfree_i, zfree_r, zfree_n, zfree_d, zfree_f, zfree_s, if_true, if_false, Option.bind_some, Option.toList_some, Option.toList_none, List.cons_append, List.nil_append, List.set_cons_zero, List.set_cons_succ, Bool.false_eq_true, reduceIte, zsw_c, zsw_n, Nat.reduceAdd, w1, M2.1, m1, sp_isThere M2 Y2 hJ.wg.h0, d2, zb_t, z10, m2, sp_areLiftersM M2 Y2 h5, hx, i1, hk, m3, b1, M3.r18, M3.r5, Y3.c 8 (by decide) (x := 8) rfl, g75']
  cases hT : TT N S true (N 8) with
  | none =>
    rw [hT] at eC
    have eD := eD (-1000000) (by rw [b6 _ hdp, hT]; rfl)
    refine ⟨(-1000000), H1, H2, ?_, ?_, fin⟩
    · rw [eC]
      have hf := farP (x := eF none) (Nat.le_refl _)
      have : ¬ eF none < FAR := Nat.lt_irrefl _
      simp only [zi107_40, zi107_41, zi107_43, zi107_46, zi107_48 (sk := []), zcl1, zlow_0, zlow_1, zlow_2, zlow_3, zlow_4, zfree_0, zfree_i, zfree_r, zfree_n, zfree_d, zfree_f, zfree_s, if_true, if_false, Option.bind_some, Option.toList_some, Option.toList_none, List.cons_append, List.nil_append, List.set_cons_zero, List.set_cons_succ, Bool.false_eq_true, reduceIte, zsw_c, zsw_n, Nat.reduceAdd, hf, eq_false this]
    · rw [eD]
      simp only [zi202_57, zi202_58, zi202_60, zi202_63, zi202_65, zi202_68, zi202_69, zi202_72, zi202_73, zi202_75, zi202_76, zi202_79, zi202_80, zi202_81, zi202_84, zi202_85, zi202_87, zi202_88, zi202_91, zi202_91n, zi202_92, zi202_95, zi202_95n, zi202_96, zi202_99, zi202_101, zi202_102, zi202_103 (sk := []), zcl1, zlow_0, zlow_1, zlow_2, zlow_3, zlow_4, zfree_0, zfree_i, zfree_r, zfree_n, zfree_d, zfree_f, zfree_s, if_true, if_false, Option.bind_some, Option.toList_some, Option.toList_none, List.cons_append, List.nil_append, List.set_cons_zero, List.set_cons_succ, Bool.false_eq_true, reduceIte, zsw_c, zsw_n, Nat.reduceAdd, qnn, not_true_eq_false]
  | some p =>
    have hpb := TT_b2 hW hd8 hT
    have hl : eF (TT N S true (N 8)) < FAR := by
      rw [hT]
      show enc 4096 p < FAR
      unfold enc FAR
      omega
    have sf := sp_firstLift (E := E) a2 a3 hW (show S < 256 by omega) a5 hl
    have sf : zcall zpp E 142 [.ref 0, .int (nI S), .int 1] H1 = some (some (.int (if N 8 = 0 then -1000000 else eK (FBN N S true (N 8)))), H1) := sf
    rw [hT] at eC hl
    have eD := eD (nI (enc 100000 p)) (by rw [b6 _ hdp, hT]; rfl)
    have e1 : eF (some p) = enc 4096 p := rfl
    rw [e1] at eC hl
    have hf := farP (x := enc 4096 p) (Nat.le_of_lt hl)
    have hme : enc 100000 p < 2 ^ 31 := by unfold enc; omega
    have hce : enc 4096 p < 2 ^ 31 := by unfold enc; omega
    have n4 : ((4096 : Int32) = 0) = False := by decide
    have n1 : ((100000 : Int32) = 0) = False := by decide
    have d4 : nI (enc 4096 p) / 4096 = nI p.1 := by
      rw [show (4096 : Int32) = nI 4096 from rfl, pk_div hce (by omega) (by omega), show enc 4096 p / 4096 = p.1 by unfold enc; omega]
    have d1' : nI (enc 100000 p) / 100000 = nI p.1 := by
      rw [show (100000 : Int32) = nI 100000 from rfl, pk_div hme (by omega) (by omega), show enc 100000 p / 100000 = p.1 by unfold enc; omega]
    have r4 : nI (enc 4096 p) - nI p.1 * 4096 = nI p.2 := by
      rw [show (4096 : Int32) = nI 4096 from rfl, pk_mul, pk_sub (by unfold enc; omega), show enc 4096 p - p.1 * 4096 = p.2 by unfold enc; omega]
    have r1 : nI (enc 100000 p) - nI p.1 * 100000 = nI p.2 := by
      rw [show (100000 : Int32) = nI 100000 from rfl, pk_mul, pk_sub (by unfold enc; omega), show enc 100000 p - p.1 * 100000 = p.2 by unfold enc; omega]
    obtain rfl | rfl | rfl : j = 0 ∨ j = 1 ∨ j = 2 := by omega
    · refine ⟨(nI p.1), H1, H2, ?_, ?_, fin⟩
      · rw [eC]
        simp only [zi107_40, zi107_41, zi107_43, zi107_46, zi107_48 (sk := []), zi107_49, zi107_50, zi107_51, zi107_54, zi107_54n, zi107_55, zi107_56, zi107_57, zi107_60 (sk := []), zi107_61, zi107_62, zi107_65, zi107_66, zi107_69, zi107_70, zi107_73, zi107_74, zi107_77, zi107_78 (sk := []), zcl1, zlow_0, zlow_1, zlow_2, zlow_3, zlow_4, zfree_0, zfree_i, zfree_r, zfree_n, zfree_d, zfree_f, zfree_s, if_true, if_false, Option.bind_some, Option.toList_some, Option.toList_none, List.cons_append, List.nil_append, List.set_cons_zero, List.set_cons_succ, Bool.false_eq_true, reduceIte, zsw_c, zsw_n, Nat.reduceAdd, hf, eq_true hl, show (nI 0 = 2) = False by decide, not_false_eq_true, show (nI 0 = 0) = True by decide, n4, d4]
      · rw [eD]
        simp only [zi202_57, zi202_58, zi202_60, zi202_63, zi202_65, zi202_68, zi202_69, zi202_72, zi202_73, zi202_75, zi202_76, zi202_79, zi202_80, zi202_81, zi202_84, zi202_85, zi202_87, zi202_88, zi202_91, zi202_91n, zi202_92, zi202_95, zi202_95n, zi202_96, zi202_99, zi202_101, zi202_102, zi202_103 (sk := []), zcl1, zlow_0, zlow_1, zlow_2, zlow_3, zlow_4, zfree_0, zfree_i, zfree_r, zfree_n, zfree_d, zfree_f, zfree_s, if_true, if_false, Option.bind_some, Option.toList_some, Option.toList_none, List.cons_append, List.nil_append, List.set_cons_zero, List.set_cons_succ, Bool.false_eq_true, reduceIte, zsw_c, zsw_n, Nat.reduceAdd, qnx hme, not_false_eq_true, show (nI 0 = 0) = True by decide, n1, d1']
    · refine ⟨(nI p.2), H1, H2, ?_, ?_, fin⟩
      · rw [eC]
        simp only [zi107_40, zi107_41, zi107_43, zi107_46, zi107_48 (sk := []), zi107_49, zi107_50, zi107_51, zi107_54, zi107_54n, zi107_55, zi107_56, zi107_57, zi107_60 (sk := []), zi107_61, zi107_62, zi107_65, zi107_66, zi107_69, zi107_70, zi107_73, zi107_74, zi107_77, zi107_78 (sk := []), zcl1, zlow_0, zlow_1, zlow_2, zlow_3, zlow_4, zfree_0, zfree_i, zfree_r, zfree_n, zfree_d, zfree_f, zfree_s, if_true, if_false, Option.bind_some, Option.toList_some, Option.toList_none, List.cons_append, List.nil_append, List.set_cons_zero, List.set_cons_succ, Bool.false_eq_true, reduceIte, zsw_c, zsw_n, Nat.reduceAdd, hf, eq_true hl, show (nI 1 = 2) = False by decide, not_false_eq_true, show (nI 1 = 0) = False by decide, n4, d4, r4]
      · rw [eD]
        simp only [zi202_57, zi202_58, zi202_60, zi202_63, zi202_65, zi202_68, zi202_69, zi202_72, zi202_73, zi202_75, zi202_76, zi202_79, zi202_80, zi202_81, zi202_84, zi202_85, zi202_87, zi202_88, zi202_91, zi202_91n, zi202_92, zi202_95, zi202_95n, zi202_96, zi202_99, zi202_101, zi202_102, zi202_103 (sk := []), zcl1, zlow_0, zlow_1, zlow_2, zlow_3, zlow_4, zfree_0, zfree_i, zfree_r, zfree_n, zfree_d, zfree_f, zfree_s, if_true, if_false, Option.bind_some, Option.toList_some, Option.toList_none, List.cons_append, List.nil_append, List.set_cons_zero, List.set_cons_succ, Bool.false_eq_true, reduceIte, zsw_c, zsw_n, Nat.reduceAdd, qnx hme, not_false_eq_true, show (nI 1 = 0) = False by decide, show (nI 1 = 1) = True by decide, not_true_eq_false, n1, d1', r1]
    · have eq' : q (N 8) = if N 8 = 0 then -1000000 else eK (FBN N S true (N 8)) := by
        by_cases h0 : N 8 = 0
        · rw [if_pos h0, h0]; exact b8
        · rw [if_neg h0]; exact b7 _ (by omega) hdp
      rw [eq'] at g76
      refine ⟨(if N 8 = 0 then -1000000 else eK (FBN N S true (N 8))), H1, H2, ?_, ?_, fin⟩
      · rw [eC]
        simp only [zi107_40, zi107_41, zi107_43, zi107_46, zi107_48 (sk := []), zi107_49, zi107_50, zi107_51, zi107_54, zi107_54n, zi107_55, zi107_56, zi107_57, zi107_60 (sk := []), zi107_61, zi107_62, zi107_65, zi107_66, zi107_69, zi107_70, zi107_73, zi107_74, zi107_77, zi107_78 (sk := []), zcl1, zlow_0, zlow_1, zlow_2, zlow_3, zlow_4, zfree_0, zfree_i, zfree_r, zfree_n, zfree_d, zfree_f, zfree_s, if_true, if_false, Option.bind_some, Option.toList_some, Option.toList_none, List.cons_append, List.nil_append, List.set_cons_zero, List.set_cons_succ, Bool.false_eq_true, reduceIte, zsw_c, zsw_n, Nat.reduceAdd, hf, eq_true hl, show (nI 2 = 2) = True by decide, not_true_eq_false, a2.1, c4, sf]
      · rw [eD]
        simp only [zi202_57, zi202_58, zi202_60, zi202_63, zi202_65, zi202_68, zi202_69, zi202_72, zi202_73, zi202_75, zi202_76, zi202_79, zi202_80, zi202_81, zi202_84, zi202_85, zi202_87, zi202_88, zi202_91, zi202_91n, zi202_92, zi202_95, zi202_95n, zi202_96, zi202_99, zi202_101, zi202_102, zi202_103 (sk := []), zcl1, zlow_0, zlow_1, zlow_2, zlow_3, zlow_4, zfree_0, zfree_i, zfree_r, zfree_n, zfree_d, zfree_f, zfree_s, if_true, if_false, Option.bind_some, Option.toList_some, Option.toList_none, List.cons_append, List.nil_append, List.set_cons_zero, List.set_cons_succ, Bool.false_eq_true, reduceIte, zsw_c, zsw_n, Nat.reduceAdd, qnx hme, not_false_eq_true, show (nI 2 = 0) = False by decide, show (nI 2 = 1) = False by decide, M3.r19, M3.r5, Y3.c 8 (by decide) (x := 8) rfl, g76]
end SOON
