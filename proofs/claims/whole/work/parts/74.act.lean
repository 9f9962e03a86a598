/-! LIFT, LOOSEN, FALL, SPACE -/
theorem WF.c {N N' : Nat → Nat} (hW : WF N) (e : ∀ i, N' i = N i) : WF N' := by rw [show N' = N from funext e]; exact hW
theorem secK_lt {N : Nat → Nat} {kd w c : Nat} (hW : WF N) (hw : w ≤ 30) (hc : c ≤ 10) : secK N kd w c < 256 := by
  have h1 := hW.2.1
  have h2 := hW.2.2.1
  have h3 : N 1 * c ≤ 9 * 10 := Nat.mul_le_mul h1 hc
  unfold secK
  split
  · omega
  · split
    · omega
    · split
      · omega
      · split <;> omega
theorem sp_turnX {E : zE} {h : zH} {y k : Nat} {N : Nat → Nat} (hW : WF N) (hY : YN h y N) (hy : y < 70) (hk : k < N 4) (hs : N (25 + 4 * k) = 1) : ∃ h', zcall zpp E 76 [.ref y, .int (nI k)] h = some (none, h') ∧ zsm (fun a => a = y ∨ a = y + 4) h h' := by
  have hh := hW.2.2.2.2.2.2.2.2.1
  have h3 := hW.2.2.2.1.2
  have h10 := hW.2.2.2.2.1
  have hb : ∀ i, i < N 4 → N (26 + 4 * i) < 8 ∧ N (27 + 4 * i) < 8 := fun i hi => by have := hh i hi; exact ⟨by omega, by omega⟩
  have hl : N (28 + 4 * k) ≤ 1 := by have := hh k hk; omega
  have hkk := hh k hk
  have lc : ∀ x, caF N x (N 4) < 256 := fun x => caF_lt hb
  have hY' := hY
  obtain ⟨A, cr, Y0, b1, b2, b3⟩ := hY
  have Y1 := Y0.pf 14 (v := nI (ztog (lsF N (N 4)) k)) (by omega)
  have Y2 := Y1.pa3 (N (26 + 4 * k)) (nI (ztog (caF N (N (26 + 4 * k)) (N 4)) (N (27 + 4 * k))))
  have Y3 := Y2.pa3 (N (27 + 4 * k)) (nI (ztog (caF N (N (27 + 4 * k)) (N 4)) (N (26 + 4 * k))))
  have f0 : zfld [9] _ y 14 = some (.int (nI (lsF N (N 4)))) := Y0.i 14 (by omega)
  have u1 : zarr 0 _ (y + 6) (nI k) = some (nI (N (26 + 4 * k))) := (Y1.a5 (i := k) (by omega)).trans (congrArg some ((b2 k hk).2.1))
  have l1 : zarr 0 _ (y + 7) (nI k) = some (nI (N (27 + 4 * k))) := (Y1.a6 (i := k) (by omega)).trans (congrArg some ((b2 k hk).2.2))
  have u2 : zarr 0 _ (y + 6) (nI k) = some (nI (N (26 + 4 * k))) := (Y2.a5 (i := k) (by omega)).trans (congrArg some ((b2 k hk).2.1))
  have l2 : zarr 0 _ (y + 7) (nI k) = some (nI (N (27 + 4 * k))) := (Y2.a6 (i := k) (by omega)).trans (congrArg some ((b2 k hk).2.2))
  have c1 : zarr 0 _ (y + 4) (nI (N (26 + 4 * k))) = some (nI (caF N (N (26 + 4 * k)) (N 4))) := (Y1.a3 (i := N (26 + 4 * k)) (by omega)).trans (congrArg some ((b1 _ (by omega)).2.2.2))
  have c2 : zarr 0 _ (y + 4) (nI (N (27 + 4 * k))) = some (nI (caF N (N (27 + 4 * k)) (N 4))) := (Y2.a3 (i := N (27 + 4 * k)) (by omega)).trans (congrArg some (by
    have := (b1 (N (27 + 4 * k)) (by omega)).2.2.2
    simpa [upd, show ¬ N (27 + 4 * k) = N (26 + 4 * k) from fun z => hkk.2.2.2.1 z.symm] using this))
  have hz : zsm (fun a => a = y ∨ a = y + 4) h (zpa (zpa (zpf h y 14 (.int (nI (ztog (lsF N (N 4)) k)))) (y + 4) (N (26 + 4 * k)) (nI (ztog (caF N (N (26 + 4 * k)) (N 4)) (N (27 + 4 * k))))) (y + 4) (N (27 + 4 * k)) (nI (ztog (caF N (N (27 + 4 * k)) (N 4)) (N (26 + 4 * k))))) := ((zsm_pf.wk (fun a e => Or.inl e)).tr (zsm_pa.wk (fun a e => Or.inr e))).tr (zsm_pa.wk (fun a e => Or.inr e))
  refine ⟨_, ?_, hz⟩
  simp only [ze76, zi76_0, zi76_0n, zi76_1, zi76_1i, zi76_2, zi76_5, zi76_6, zi76_7, zi76_8, zi76_9, zi76_12, zi76_12n, zi76_13, zi76_16, zi76_16n, zi76_17, zi76_20, zi76_21, zi76_22, zi76_23, zi76_24, zi76_25, zi76_25n, zi76_26, zi76_29, zi76_30, zi76_31, zi76_32, zi76_33, zi76_34, zi76_34n, zi76_35, zi76_38, zi76_38n, zi76_39, zi76_42, zi76_43, zi76_44, zi76_45, zi76_46, zi76_47, zi76_47n, zi76_48, zi76_51, zi76_52, zi76_53, zi76_54, zi76_55, zi76_56 (sk := []), zcl1, zlow_0, zlow_1, zlow_2, zlow_3, zlow_4, zfree_0, zfree_i, zfree_r, zfree_n, zfree_d, zfree_f, zfree_s, if_true, if_false, Option.bind_some, Option.toList_some, Option.toList_none, List.cons_append, List.nil_append, List.set_cons_zero, List.set_cons_succ, Bool.false_eq_true, reduceIte, zsw_c, zsw_n, Nat.reduceAdd, f0, ztog10 _ (lsF_lt10 h10) k (by omega), Y0.w 14 (by omega), Y1.r9, Y1.r11, u1, c1, Y1.r12, l1, (ztog_k _ (lc _) _ (hb k hk).2).1, Y1.s3 (hb k hk).1, Y2.r9, Y2.r12, l2, c2, Y2.r11, u2, (ztog_k _ (lc _) _ (hb k hk).1).1, Y2.s3 (hb k hk).2]
section ACT
variable {E : zE} {h : zH} {n : Nat}
/-- both behind an act -/
theorem JJ.acted {h2 : zH} {y s : Nat} {v : Int32} {sc sc' : Nat → Int32} {N N' : Nat → Nat} (hJ : JJ h y s v sc N) (hz : fr (fun a => yP y a ∨ aP a ∨ a = 73 ∨ a = 77 ∨ a = 79) h h2) (hM : MdO h2 sc') (hsc : ∀ k, k ≠ 8 → k ≠ 0 → sc' k = sc k) (hA : JAct h2 N' (sc' 8)) (hY : YC h2 y N') (hY2 : MY h2 N') (hG : WG N') : JJ h2 y s v sc' N' := by
  have hy := hJ.ys
  unfold yys at hy
  unfold yP aP at hz
  refine ⟨hJ.ys, hJ.co.keep (hz.1 _ (by omega) (by omega)), hM, hJ.row.keep hz (fun a ha => by omega), ?_, hJ.img.keep hz (fun a ha => by omega), hA, ?_, hJ.scr.keep hz (fun a ha => by omega), hY, hY2, hG, hJ.sp.keep hz (by omega) (fun a h1 h2 => by omega)⟩
  · rw [hsc 10 (by omega) (by omega), hsc 17 (by omega) (by omega)]
    exact hJ.tape.keep hz (fun a ha => by omega)
  · rw [hsc 24 (by omega) (by omega)]
    exact hJ.tr.keep hz (fun a ha => by omega)
theorem act_end {hs H3 : zH} {y s A : Nat} {v : Int32} {sc sc' : Nat → Int32} {N N' : Nat → Nat} {R R' : Nat → Nat → Int32} {V : Nat → Nat → Nat} {m m' : Nat → Int32} (hJ : JJ h y s v sc N) (h1 : sc 1 = v) (hB : Bd h n) (hN : WF N ∧ WL N) (hN' : WF N' ∧ WL N') (a1 : A ≤ 24) (a5 : V A = N) (a6 : ∀ j, j < A → (WF (V j) ∧ WL (V j)) ∧ lk (R 0 j) (R 1 j) (R 2 j) (R 3 j) (R 4 j) (V j) (V (j + 1)) ∧ ∀ i, i < 73 → m (73 * j + i) = nI (V j i)) (zc : zsm (fun a => yP y a ∨ aP a) h hs) (Ys : YC hs y N') (A2 : AC hs (aB A + 1) R') (r1 : ∀ f, f < 5 → ∀ j, j < aB A → R' f j = R f (aS A j)) (l : lk (R' 0 (aB A)) (R' 1 (aB A)) (R' 2 (aB A)) (R' 3 (aB A)) (R' 4 (aB A)) N N') (zm : zsm (fun a => a = 73 ∨ a = 77 ∨ a = 79) hs H3) (k1 : MdO H3 sc') (k2 : sc' 8 = nI (aB A + 1)) (k3 : ∀ k, k ≠ 8 → sc' k = upd sc 0 0 k) (k4 : MY H3 N') (k5 : zrow 0 H3 79 1752 m') (k6 : ∀ j, j < aB A → ∀ i, i < 73 → m' (73 * j + i) = m (73 * aS A j + i)) (k7 : ∀ i, i < 73 → m' (73 * aB A + i) = nI (N i)) : J H3 (n + 1) := by
  have hy := hJ.ys
  unfold yys at hy
  have zmf := zm.fr (fun a e => by omega)
  have zcf := zc.fr (fun a e => by unfold yP aP at e; omega)
  have hz : fr (fun a => yP y a ∨ aP a ∨ a = 73 ∨ a = 77 ∨ a = 79) h H3 := (zcf.wk (fun a e => by
    rcases e with e | e
    · exact Or.inl e
    · exact Or.inr (Or.inl e))).tr (zmf.wk (fun a e => Or.inr (Or.inr e)))
  have hA := JAct.push a1 a5 a6 hN (A2.keep (h' := H3) (fun a ha => zmf.1 a (by unfold aP at ha; omega) (by unfold aP at ha; omega))) k5 r1 k6 k7 l
  rw [← k2] at hA
  refine ⟨y, s, v, sc', N', hJ.acted hz k1 (fun k hk h0 => by rw [k3 k hk]; unfold upd; rw [if_neg h0]) hA (Ys.keep zmf (by omega) (fun a h1 h2 => by omega)) k4 (Or.inl hN'), ?_, ((hB.sm zc).sm zm).up (by omega)⟩
  rw [k3 1 (by omega)]
  exact h1
theorem CR.sm {P : Nat → Prop} {h h' : zH} {y : Nat} (hC : CR h y) (hz : zsm P h h') (hy : y + 8 < 87) (hP : ∀ a, P a → a < 87) (hp : ¬ P (y + 8)) : CR h' y := hC.keep (hz.fr hP) hy hp
theorem ok_lift (hJ : J h n) {x z : Int32} : OK E h n 98 190 [.int x, .int z] := by
  obtain ⟨y, s, v, sc, N, hJ, h1, hB⟩ := hJ
  have M1 := hJ.md.put 0 rfl (by omega) 0
  have w0 := hJ.md.st 0 rfl (by omega) 0
  have Y1 : MY (zpf h 73 0 (.int 0)) N := hJ.my.keep (zpf_o (by omega))
  have hy := hJ.ys
  unfold yys at hy
  have c1 : zsel 9 [9, 73] = some 73 := rfl
  have c2 : zsel 9 [9, 71] = some 71 := rfl
  have c3 : zsel 9 [9, 81] = some 81 := rfl
  have c4 : zsel 0 [0, 3] = some 3 := rfl
  have m1 : zsel 11 [11, 174] = some 174 := rfl
  have m2 : zsel 11 [11, 173] = some 173 := rfl
  have m3 : zsel 11 [11, 179] = some 179 := rfl
  have m4 : zsel 11 [11, 180] = some 180 := rfl
  have m5 : zsel 11 [11, 186] = some 186 := rfl
  have m6 : zsel 11 [11, 187] = some 187 := rfl
  have m7 : zsel 11 [11, 188] = some 188 := rfl
  have m8 : zsel 11 [11, 189] = some 189 := rfl
  have h5 := hJ.wg.h5
  have h3 := hJ.wg.h3
  rcases zlt_or x (n := N 5) (by omega) with hx | ⟨w, hw, rfl⟩
  · refine ⟨(-1000001), h, zpf h 73 0 (.int 0), ?_, ?_, hJ.q h1 hB⟩
    · simp only [ze98, zi98_0, zi98_0n, zi98_1, zi98_4, zi98_5, zi98_8, zi98_8n, zi98_9, zi98_9n, zi98_10, zi98_10n, zi98_13, zi98_13n, zi98_14, zi98_17, zi98_18, zi98_21, zi98_24, zi98_26 (sk := []), zi98_27, zi98_27n, zi98_28, zi98_31, zi98_34, zi98_36, zi98_36n, zi98_37, zi98_40, zi98_40n, zi98_41, zi98_42, zi98_45, zi98_47, zi98_49, zi98_51, zi98_54, zi98_56 (sk := []), zi98_57, zi98_57n, zi98_58, zi98_61, zi98_62, zi98_63, zi98_65, zi98_65n, zi98_66, zi98_69, zi98_72, zi98_74, zi98_75, zi98_78, zi98_80 (sk := []), zcl1, zlow_0, zlow_1, zlow_2, zlow_3, zlow_4, zfree_0, zfree_i, zfree_r, zfree_n, zfree_d, zfree_f, zfree_s, if_true, if_false, Option.bind_some, Option.toList_some, Option.toList_none, List.cons_append, List.nil_append, List.set_cons_zero, List.set_cons_succ, Bool.false_eq_true, reduceIte, zsw_c, zsw_n, Nat.reduceAdd, hJ.co.r7, hJ.yn.cls, c1, sp_lifterNo hJ.yn hx]
    · simp only [ze190, zi190_0, zi190_0n, zi190_1, zi190_2, zi190_5, zi190_5n, zi190_6, zi190_7, zi190_8, zi190_11, zi190_14, zi190_14n, zi190_15, zi190_16, zi190_17, zi190_20, zi190_23, zi190_25 (sk := []), zi190_26, zi190_26n, zi190_27, zi190_27n, zi190_28, zi190_29, zi190_32, zi190_32n, zi190_33, zi190_34, zi190_37, zi190_37n, zi190_38, zi190_41, zi190_43, zi190_44, zi190_45, zi190_48, zi190_51, zi190_53 (sk := []), zi190_54, zi190_54n, zi190_55, zi190_58, zi190_58n, zi190_59, zi190_59n, zi190_60, zi190_61, zi190_64, zi190_64n, zi190_65, zi190_68, zi190_70, zi190_71, zi190_72, zi190_75, zi190_76, zi190_76n, zi190_77, zi190_80, zi190_82, zi190_83, zi190_84, zi190_85, zi190_86, zi190_87, zi190_87n, zi190_88, zi190_91, zi190_93, zi190_94, zi190_95, zi190_95n, zi190_96, zi190_96n, zi190_97, zi190_98, zi190_101, zi190_101n, zi190_102, zi190_105, zi190_107, zi190_108, zi190_109, zi190_112, zi190_113, zi190_114, zi190_114n, zi190_115, zi190_118, zi190_120, zi190_121, zi190_122, zi190_123, zi190_124, zi190_125, zi190_126, zi190_127, zi190_128, zi190_129, zi190_130 (sk := []), zcl1, zlow_0, zlow_1, zlow_2, zlow_3, zlow_4, zfree_0, zfree_i, zfree_r, zfree_n, zfree_d, zfree_f, zfree_s, if_true, if_false, Option.bind_some, Option.toList_some, Option.toList_none, List.cons_append, List.nil_append, List.set_cons_zero, List.set_cons_succ, Bool.false_eq_true, reduceIte, zsw_c, zsw_n, Nat.reduceAdd, w0, M1.1, m1, sp_isLifterM M1 Y1 rfl, hx, zb_f, z00]
  obtain ⟨hW, hWL⟩ := hJ.wg.wl (i := 5) (by omega) (by omega)
  have hx : zlt (nI w) (N 5) = true := by rw [zlt_nI (by omega) (by omega)]; simp [hw]
  obtain ⟨q, e, hL⟩ := sp_lifterAt (E := E) hJ.yn h5 hw
  have hk := hW.kf hw
  have hd := hW.d8
  rcases zlt_or z (n := N 3) (by omega) with hz | ⟨b, hb, rfl⟩
  · refine ⟨(-1000001), h, zpf h 73 0 (.int 0), ?_, ?_, hJ.q h1 hB⟩
    · simp only [ze98, zi98_0, zi98_0n, zi98_1, zi98_4, zi98_5, zi98_8, zi98_8n, zi98_9, zi98_9n, zi98_10, zi98_10n, zi98_13, zi98_13n, zi98_14, zi98_17, zi98_18, zi98_21, zi98_24, zi98_26 (sk := []), zi98_27, zi98_27n, zi98_28, zi98_31, zi98_34, zi98_36, zi98_36n, zi98_37, zi98_40, zi98_40n, zi98_41, zi98_42, zi98_45, zi98_47, zi98_49, zi98_51, zi98_54, zi98_56 (sk := []), zi98_57, zi98_57n, zi98_58, zi98_61, zi98_62, zi98_63, zi98_65, zi98_65n, zi98_66, zi98_69, zi98_72, zi98_74, zi98_75, zi98_78, zi98_80 (sk := []), zcl1, zlow_0, zlow_1, zlow_2, zlow_3, zlow_4, zfree_0, zfree_i, zfree_r, zfree_n, zfree_d, zfree_f, zfree_s, if_true, if_false, Option.bind_some, Option.toList_some, Option.toList_none, List.cons_append, List.nil_append, List.set_cons_zero, List.set_cons_succ, Bool.false_eq_true, reduceIte, zsw_c, zsw_n, Nat.reduceAdd, hJ.co.r7, hJ.yn.cls, c1, e, c2, sp_hasBike hJ.yn, hz, zb_f, z00]
    · simp only [ze190, zi190_0, zi190_0n, zi190_1, zi190_2, zi190_5, zi190_5n, zi190_6, zi190_7, zi190_8, zi190_11, zi190_14, zi190_14n, zi190_15, zi190_16, zi190_17, zi190_20, zi190_23, zi190_25 (sk := []), zi190_26, zi190_26n, zi190_27, zi190_27n, zi190_28, zi190_29, zi190_32, zi190_32n, zi190_33, zi190_34, zi190_37, zi190_37n, zi190_38, zi190_41, zi190_43, zi190_44, zi190_45, zi190_48, zi190_51, zi190_53 (sk := []), zi190_54, zi190_54n, zi190_55, zi190_58, zi190_58n, zi190_59, zi190_59n, zi190_60, zi190_61, zi190_64, zi190_64n, zi190_65, zi190_68, zi190_70, zi190_71, zi190_72, zi190_75, zi190_76, zi190_76n, zi190_77, zi190_80, zi190_82, zi190_83, zi190_84, zi190_85, zi190_86, zi190_87, zi190_87n, zi190_88, zi190_91, zi190_93, zi190_94, zi190_95, zi190_95n, zi190_96, zi190_96n, zi190_97, zi190_98, zi190_101, zi190_101n, zi190_102, zi190_105, zi190_107, zi190_108, zi190_109, zi190_112, zi190_113, zi190_114, zi190_114n, zi190_115, zi190_118, zi190_120, zi190_121, zi190_122, zi190_123, zi190_124, zi190_125, zi190_126, zi190_127, zi190_128, zi190_129, zi190_130 (sk := []), zcl1, zlow_0, zlow_1, zlow_2, zlow_3, zlow_4, zfree_0, zfree_i, zfree_r, zfree_n, zfree_d, zfree_f, zfree_s, if_true, if_false, Option.bind_some, Option.toList_some, Option.toList_none, List.cons_append, List.nil_append, List.set_cons_zero, List.set_cons_succ, Bool.false_eq_true, reduceIte, zsw_c, zsw_n, Nat.reduceAdd, w0, M1.1, m1, m2, sp_isLifterM M1 Y1 rfl, hx, zb_t, z10, sp_isBikeM M1 Y1 rfl, hz, zb_f, z00]
  have hz : zlt (nI b) (N 3) = true := by rw [zlt_nI (by omega) (by omega)]; simp [hb]
  cases hc : canN N (N (65 + 2 * w)) (N (66 + 2 * w)) (N 8) b
  · refine ⟨(-1000002), h, zpf h 73 0 (.int 0), ?_, ?_, hJ.q h1 hB⟩
    · simp only [ze98, zi98_0, zi98_0n, zi98_1, zi98_4, zi98_5, zi98_8, zi98_8n, zi98_9, zi98_9n, zi98_10, zi98_10n, zi98_13, zi98_13n, zi98_14, zi98_17, zi98_18, zi98_21, zi98_24, zi98_26 (sk := []), zi98_27, zi98_27n, zi98_28, zi98_31, zi98_34, zi98_36, zi98_36n, zi98_37, zi98_40, zi98_40n, zi98_41, zi98_42, zi98_45, zi98_47, zi98_49, zi98_51, zi98_54, zi98_56 (sk := []), zi98_57, zi98_57n, zi98_58, zi98_61, zi98_62, zi98_63, zi98_65, zi98_65n, zi98_66, zi98_69, zi98_72, zi98_74, zi98_75, zi98_78, zi98_80 (sk := []), zcl1, zlow_0, zlow_1, zlow_2, zlow_3, zlow_4, zfree_0, zfree_i, zfree_r, zfree_n, zfree_d, zfree_f, zfree_s, if_true, if_false, Option.bind_some, Option.toList_some, Option.toList_none, List.cons_append, List.nil_append, List.set_cons_zero, List.set_cons_succ, Bool.false_eq_true, reduceIte, zsw_c, zsw_n, Nat.reduceAdd, hJ.co.r7, hJ.yn.cls, c1, e, c2, sp_hasBike hJ.yn, hz, zb_t, z10, hJ.yn.f17, c3, sp_raiseNo hW hJ.yn hL.2 hk.1 hk.2 hb hc, qnn, not_true_eq_false]
    · simp only [ze190, zi190_0, zi190_0n, zi190_1, zi190_2, zi190_5, zi190_5n, zi190_6, zi190_7, zi190_8, zi190_11, zi190_14, zi190_14n, zi190_15, zi190_16, zi190_17, zi190_20, zi190_23, zi190_25 (sk := []), zi190_26, zi190_26n, zi190_27, zi190_27n, zi190_28, zi190_29, zi190_32, zi190_32n, zi190_33, zi190_34, zi190_37, zi190_37n, zi190_38, zi190_41, zi190_43, zi190_44, zi190_45, zi190_48, zi190_51, zi190_53 (sk := []), zi190_54, zi190_54n, zi190_55, zi190_58, zi190_58n, zi190_59, zi190_59n, zi190_60, zi190_61, zi190_64, zi190_64n, zi190_65, zi190_68, zi190_70, zi190_71, zi190_72, zi190_75, zi190_76, zi190_76n, zi190_77, zi190_80, zi190_82, zi190_83, zi190_84, zi190_85, zi190_86, zi190_87, zi190_87n, zi190_88, zi190_91, zi190_93, zi190_94, zi190_95, zi190_95n, zi190_96, zi190_96n, zi190_97, zi190_98, zi190_101, zi190_101n, zi190_102, zi190_105, zi190_107, zi190_108, zi190_109, zi190_112, zi190_113, zi190_114, zi190_114n, zi190_115, zi190_118, zi190_120, zi190_121, zi190_122, zi190_123, zi190_124, zi190_125, zi190_126, zi190_127, zi190_128, zi190_129, zi190_130 (sk := []), zcl1, zlow_0, zlow_1, zlow_2, zlow_3, zlow_4, zfree_0, zfree_i, zfree_r, zfree_n, zfree_d, zfree_f, zfree_s, if_true, if_false, Option.bind_some, Option.toList_some, Option.toList_none, List.cons_append, List.nil_append, List.set_cons_zero, List.set_cons_succ, Bool.false_eq_true, reduceIte, zsw_c, zsw_n, Nat.reduceAdd, w0, M1.1, m1, m2, sp_isLifterM M1 Y1 rfl, hx, zb_t, z10, sp_isBikeM M1 Y1 rfl, hz, m3, m4, sp_kindOf M1 Y1 (show w < 4 by omega), sp_forceOf M1 Y1 (show w < 4 by omega), M1.r5, Y1.c 8 (by omega) (x := 8) rfl, m5, sp_can M1 Y1 hW hd hb hk.1 hk.2, hc, zb_f, z00]
  have hbit : (N 8).testBit b = true := by
    unfold canN freeN at hc
    rw [Bool.and_eq_true, Bool.and_eq_true] at hc
    exact hc.1.1
  have hcl := catN_le hW.2.2.2.2.1 (d := N 8) (b := b)
  have hsl := secK_lt (kd := N (65 + 2 * w)) hW (hW.bk hb).1.2 hcl
  have wl : WL (liftN N (N (65 + 2 * w)) b) := fun z => by
    have : N 5 = 0 := z
    omega
  have wf := hW.lift (kd := N (65 + 2 * w)) hb
  obtain ⟨hr, er, Yr, zr⟩ := sp_raise (E := E) hW hJ.yn (by omega) hL.2 (by have := hL.1; omega) hk.1 hk.2 hb hc
  obtain ⟨A, R, V, m, a1, a2, a3, a4, a5, a6⟩ := hJ.act
  have C1 := hJ.co.keep (zr.2 0 (by omega))
  have A1 : AC hr A R := a3.keep (fun a ha => zr.2 a (by unfold aP at ha; omega))
  obtain ⟨hs, R', es, A2, r1, r2, r3, r4, r5, zs⟩ := sp_keep (E := E) A1 a1 0 (nI b) (nI (secK N (N (65 + 2 * w)) (N (9 + 2 * b)) (catN N (N 8) b))) (nI (falK (N (65 + 2 * w)) (catN N (N 8) b)))
  have ec : zcall zpp E 98 [.ref 0, .int (nI w), .int (nI b)] h = some (some (.int (nI (secK N (N (65 + 2 * w)) (N (9 + 2 * b)) (catN N (N 8) b)))), hs) := by
    have ef : nI (liftN N (N (65 + 2 * w)) b 7) - nI (N 7) = nI (falK (N (65 + 2 * w)) (catN N (N 8) b)) := by
      show nI (N 7 + falK (N (65 + 2 * w)) (catN N (N 8) b)) - nI (N 7) = _
      rw [pk_sub (by omega), show N 7 + falK (N (65 + 2 * w)) (catN N (N 8) b) - N 7 = falK (N (65 + 2 * w)) (catN N (N 8) b) by omega]
    simp only [ze98, zi98_0, zi98_0n, zi98_1, zi98_4, zi98_5, zi98_8, zi98_8n, zi98_9, zi98_9n, zi98_10, zi98_10n, zi98_13, zi98_13n, zi98_14, zi98_17, zi98_18, zi98_21, zi98_24, zi98_26 (sk := []), zi98_27, zi98_27n, zi98_28, zi98_31, zi98_34, zi98_36, zi98_36n, zi98_37, zi98_40, zi98_40n, zi98_41, zi98_42, zi98_45, zi98_47, zi98_49, zi98_51, zi98_54, zi98_56 (sk := []), zi98_57, zi98_57n, zi98_58, zi98_61, zi98_62, zi98_63, zi98_65, zi98_65n, zi98_66, zi98_69, zi98_72, zi98_74, zi98_75, zi98_78, zi98_80 (sk := []), zcl1, zlow_0, zlow_1, zlow_2, zlow_3, zlow_4, zfree_0, zfree_i, zfree_r, zfree_n, zfree_d, zfree_f, zfree_s, if_true, if_false, Option.bind_some, Option.toList_some, Option.toList_none, List.cons_append, List.nil_append, List.set_cons_zero, List.set_cons_succ, Bool.false_eq_true, reduceIte, zsw_c, zsw_n, Nat.reduceAdd, hJ.co.r7, hJ.yn.cls, c1, e, c2, sp_hasBike hJ.yn, hz, zb_t, z10, hJ.yn.f17, c3, er, qnb _ hsl, not_false_eq_true, C1.r3, C1.r7, Yr.f17, ef, A1.1, c4, es]
  have ys' : ∀ a, (fun a => a = y) a → a < 87 := fun a e => by cases e; omega
  have as' : ∀ a, aP a → a < 87 := fun a e => by unfold aP at e; omega
  have Ys : YC hs y (liftN N (N (65 + 2 * w)) b) := YC.keep (P := aP) ⟨Yr, hJ.yc.2.sm zr (by omega) ys' (by omega)⟩ (zs.fr as') (by omega) (fun a h1 h2 => by unfold aP; omega)
  -- the model's
  have zc : zsm (fun a => a = y ∨ aP a) h hs := (zr.wk (fun a e => Or.inl e)).tr (zs.wk (fun a e => Or.inr e))
  have Mc : MdO hs sc := hJ.md.keep (zc.2 73 (by unfold aP; omega))
  have Yc : MY hs N := hJ.my.keep (zc.2 77 (by unfold aP; omega))
  have mc : zrow 0 hs 79 1752 m := zrow_c (zc.2 79 (by unfold aP; omega)) a4
  have v0 := Mc.st 0 rfl (by omega) 0
  have M2 := Mc.put 0 rfl (by omega) 0
  have Y2 : MY (zpf hs 73 0 (.int 0)) N := Yc.keep (zpf_o (by omega))
  obtain ⟨H, sc', m', ek, k1, k2, k3, k4, k5, k6, k7, k8⟩ := sp_keepM (E := E) M2 (show upd sc 0 0 8 = nI A from a2) a1 Y2 (zrow_pf mc)
  have P1 := k4.put 6 (N 6 + secK N (N (65 + 2 * w)) (N (9 + 2 * b)) (catN N (N 8) b))
  have K1 : MdO (zpa H 77 6 (nI (N 6 + secK N (N (65 + 2 * w)) (N (9 + 2 * b)) (catN N (N 8) b)))) sc' := k1.pa
  have W1 : WF (nup N 6 (N 6 + secK N (N (65 + 2 * w)) (N (9 + 2 * b)) (catN N (N 8) b))) := hW.mov (fun i h6 h7 h8 => nup_o h6) (by rw [nup_o (by omega)]; exact hW.2.2.2.2.2.2.1)
  have e65 : nup N 6 (N 6 + secK N (N (65 + 2 * w)) (N (9 + 2 * b)) (catN N (N 8) b)) (65 + 2 * w) = N (65 + 2 * w) := nup_o (by omega)
  have e8 : nup N 6 (N 6 + secK N (N (65 + 2 * w)) (N (9 + 2 * b)) (catN N (N 8) b)) 8 = N 8 := nup_o (by omega)
  have e7 : nup N 6 (N 6 + secK N (N (65 + 2 * w)) (N (9 + 2 * b)) (catN N (N 8) b)) 7 = N 7 := nup_o (by omega)
  have e3 : nup N 6 (N 6 + secK N (N (65 + 2 * w)) (N (9 + 2 * b)) (catN N (N 8) b)) 3 = N 3 := nup_o (by omega)
  have ecat : catN (nup N 6 (N 6 + secK N (N (65 + 2 * w)) (N (9 + 2 * b)) (catN N (N 8) b))) (N 8) b = catN N (N 8) b := by
    unfold catN
    rw [nup_o (show 4 ≠ 6 by omega), ctF_c (fun i hi => nup_o (by omega))]
  generalize hN1 : nup N 6 (N 6 + secK N (N (65 + 2 * w)) (N (9 + 2 * b)) (catN N (N 8) b)) = N1 at *
  generalize hH1 : zpa H 77 6 (nI (N 6 + secK N (N (65 + 2 * w)) (N (9 + 2 * b)) (catN N (N 8) b))) = H1 at *
  have s7 := sp_fallsBy (E := E) K1 P1 W1 (d := N 8) (b := b) hd (by rw [e3]; exact hb) hk.1
  rw [ecat] at s7
  have s6 := sp_kindOf (E := E) K1 P1 (show w < 4 by omega)
  rw [e65] at s6
  have P2 := P1.put 7 (N 7 + falK (N (65 + 2 * w)) (catN N (N 8) b))
  have g8 := P1.c 8 (by omega) (x := 8) rfl
  rw [e8] at g8
  have g7 := P1.c 7 (by omega) (x := 7) rfl
  rw [e7] at g7
  have P3 := P2.put 8 (zclr (N 8) b)
  have g9 := P2.c 8 (by omega) (x := 8) rfl
  rw [nup_o (show 8 ≠ 7 by omega), e8] at g9
  have em : zcall zpp E 190 [.ref 73, .int (nI w), .int (nI b)] hs = some (some (.int (nI (secK N (N (65 + 2 * w)) (N (9 + 2 * b)) (catN N (N 8) b)))), zpa (zpa H1 77 7 (nI (N 7 + falK (N (65 + 2 * w)) (catN N (N 8) b)))) 77 8 (nI (zclr (N 8) b))) := by
    have ea : zcall zpp E 190 [.ref 73, .int (nI w), .int (nI b)] hs = zrun zpp E 190 (87, [.ref 73, .int (nI w), .int (nI b), .int (nI (secK N (N (65 + 2 * w)) (N (9 + 2 * b)) (catN N (N 8) b)))], [], H1) := by
      conv =>
        lhs
        simp only [ze190, zi190_0, zi190_0n, zi190_1, zi190_2, zi190_5, zi190_5n, zi190_6, zi190_7, zi190_8, zi190_11, zi190_14, zi190_14n, zi190_15, zi190_16, zi190_17, zi190_20, zi190_23, zi190_25 (sk := []), zi190_26, zi190_26n, zi190_27, zi190_27n, zi190_28, zi190_29, zi190_32, zi190_32n, zi190_33, zi190_34, zi190_37, zi190_37n, zi190_38, zi190_41, zi190_43, zi190_44, zi190_45, zi190_48, zi190_51, zi190_53 (sk := []), zi190_54, zi190_54n, zi190_55, zi190_58, zi190_58n, zi190_59, zi190_59n, zi190_60, zi190_61, zi190_64, zi190_64n, zi190_65, zi190_68, zi190_70, zi190_71, zi190_72, zi190_75, zi190_76, zi190_76n, zi190_77, zi190_80, zi190_82, zi190_83, zi190_84, zi190_85, zi190_86, zcl1, zlow_0, zlow_1, zlow_2, zlow_3, zlow_4, zfree_0, zfree_i, zfree_r, zfree_n, zfree_d, zfree_f, zfree_s, if_true, if_false, Option.bind_some, Option.toList_some, Option.toList_none, List.cons_append, List.nil_append, List.set_cons_zero, List.set_cons_succ, Bool.false_eq_true, reduceIte, zsw_c, zsw_n, Nat.reduceAdd, v0, M2.1, m1, m2, sp_isLifterM M2 Y2 rfl, hx, zb_t, z10, sp_isBikeM M2 Y2 rfl, hz, m3, m4, sp_kindOf M2 Y2 (show w < 4 by omega), sp_forceOf M2 Y2 (show w < 4 by omega), M2.r5, Y2.c 8 (by omega) (x := 8) rfl, m5, sp_can M2 Y2 hW hd hb hk.1 hk.2, hc, m8, ek, k1.1, sp_kindOf k1 k4 (show w < 4 by omega), k1.r5, k4.c 8 (by omega) (x := 8) rfl, m6, sp_takesBy k1 k4 hW hd hb hk.1, k4.c 6 (by omega) (x := 6) rfl, nI_add, k4.s 6 (by omega) (x := 6) rfl, hH1]
    rw [ea]
    simp only [zi190_87, zi190_87n, zi190_88, zi190_91, zi190_93, zi190_94, zi190_95, zi190_95n, zi190_96, zi190_96n, zi190_97, zi190_98, zi190_101, zi190_101n, zi190_102, zi190_105, zi190_107, zi190_108, zi190_109, zi190_112, zi190_113, zi190_114, zi190_114n, zi190_115, zi190_118, zi190_120, zi190_121, zi190_122, zi190_123, zi190_124, zi190_125, zi190_126, zi190_127, zi190_128, zi190_129, zi190_130 (sk := []), zcl1, zlow_0, zlow_1, zlow_2, zlow_3, zlow_4, zfree_0, zfree_i, zfree_r, zfree_n, zfree_d, zfree_f, zfree_s, if_true, if_false, Option.bind_some, Option.toList_some, Option.toList_none, List.cons_append, List.nil_append, List.set_cons_zero, List.set_cons_succ, Bool.false_eq_true, reduceIte, zsw_c, zsw_n, Nat.reduceAdd, K1.r5, K1.1, m3, s6, g8, g7, m7, s7, nI_add, P1.s 7 (by omega) (x := 7) rfl, (K1.pa (a := 77) (j := 7) (v := nI (N 7 + falK (N (65 + 2 * w)) (catN N (N 8) b)))).r5, g9, (zclr_k _ hd b (show b < 8 by omega)).1, P2.s 8 (by omega) (x := 8) rfl]
  have zm : zsm (fun a => a = 73 ∨ a = 77 ∨ a = 79) hs (zpa (zpa H1 77 7 (nI (N 7 + falK (N (65 + 2 * w)) (catN N (N 8) b)))) 77 8 (nI (zclr (N 8) b))) := by
    have z0 : zsm (fun a => a = 73 ∨ a = 77 ∨ a = 79) hs H := (zsm_pf.wk (fun a e => Or.inl e)).tr (k8.wk (fun a e => by unfold kP at e; omega))
    have z1 : zsm (fun a => a = 73 ∨ a = 77 ∨ a = 79) H H1 := by rw [← hH1]; exact zsm_pa.wk (fun a e => Or.inr (Or.inl e))
    exact ((z0.tr z1).tr (zsm_pa.wk (fun a e => Or.inr (Or.inl e)))).tr (zsm_pa.wk (fun a e => Or.inr (Or.inl e)))
  have k5' : zrow 0 (zpa (zpa H1 77 7 (nI (N 7 + falK (N (65 + 2 * w)) (catN N (N 8) b)))) 77 8 (nI (zclr (N 8) b))) 79 1752 m' := by
    rw [← hH1]
    exact zrow_o (by omega) (zrow_o (by omega) (zrow_o (by omega) k5))
  refine ⟨_, _, _, ec, em, act_end hJ h1 hB ⟨hW, hWL⟩ ⟨wf, wl⟩ a1 a5 a6 (zc.wk (fun a e => ?_)) Ys A2 r1 ?_ zm K1.pa.pa k2 k3 (P3.ext (fun i hi => ?_)) k5' k6 k7⟩
  · rcases e with e | e
    · exact Or.inl ⟨by omega, by omega⟩
    · exact Or.inr e
  · refine ⟨_, _, r4, r5, rfl, rfl, Or.inl ⟨r2, b, hb, r3, hbit, rfl, fun i h6 h7 h8 => ?_⟩⟩
    unfold liftN
    rw [if_neg h6, if_neg h7, if_neg h8]
  · rw [← hN1]
    unfold nup liftN
    by_cases h8 : i = 8
    · subst h8; rfl
    · by_cases h7 : i = 7
      · subst h7; rfl
      · by_cases h6 : i = 6
        · subst h6; rfl
        · rw [if_neg h8, if_neg h7, if_neg h6, if_neg h6, if_neg h7, if_neg h8]
theorem ok_fall (hJ : J h n) {z : Int32} : OK E h n 100 192 [.int z] := by
  obtain ⟨y, s, v, sc, N, hJ, h1, hB⟩ := hJ
  have M1 := hJ.md.put 0 rfl (by omega) 0
  have w0 := hJ.md.st 0 rfl (by omega) 0
  have Y1 : MY (zpf h 73 0 (.int 0)) N := hJ.my.keep (zpf_o (by omega))
  have hy := hJ.ys
  unfold yys at hy
  have c1 : zsel 9 [9, 71] = some 71 := rfl
  have c2 : zsel 9 [9, 82] = some 82 := rfl
  have c4 : zsel 0 [0, 3] = some 3 := rfl
  have m1 : zsel 11 [11, 173] = some 173 := rfl
  have m8 : zsel 11 [11, 189] = some 189 := rfl
  have h3 := hJ.wg.h3
  rcases zlt_or z (n := N 3) (by omega) with hz | ⟨b, hb, rfl⟩
  · refine ⟨(-1000001), h, zpf h 73 0 (.int 0), ?_, ?_, hJ.q h1 hB⟩
    · simp only [ze100, zi100_0, zi100_0n, zi100_1, zi100_4, zi100_5, zi100_8, zi100_11, zi100_13 (sk := []), zi100_14, zi100_14n, zi100_15, zi100_18, zi100_19, zi100_22, zi100_25, zi100_27 (sk := []), zi100_28, zi100_28n, zi100_29, zi100_32, zi100_33, zi100_34, zi100_35, zi100_36, zi100_39, zi100_39n, zi100_40, zi100_43, zi100_46 (sk := []), zcl1, zlow_0, zlow_1, zlow_2, zlow_3, zlow_4, zfree_0, zfree_i, zfree_r, zfree_n, zfree_d, zfree_f, zfree_s, if_true, if_false, Option.bind_some, Option.toList_some, Option.toList_none, List.cons_append, List.nil_append, List.set_cons_zero, List.set_cons_succ, Bool.false_eq_true, reduceIte, zsw_c, zsw_n, Nat.reduceAdd, hJ.co.r7, hJ.yn.cls, c1, sp_hasBike hJ.yn, hz, zb_f, z00]
    · simp only [ze192, zi192_0, zi192_0n, zi192_1, zi192_2, zi192_5, zi192_5n, zi192_6, zi192_7, zi192_8, zi192_11, zi192_14, zi192_16 (sk := []), zi192_17, zi192_17n, zi192_18, zi192_21, zi192_23, zi192_24, zi192_25, zi192_28, zi192_31, zi192_33 (sk := []), zi192_34, zi192_34n, zi192_35, zi192_38, zi192_38n, zi192_39, zi192_42, zi192_44, zi192_45, zi192_46, zi192_47, zi192_48, zi192_49, zi192_50, zi192_51, zi192_51n, zi192_52, zi192_55, zi192_57, zi192_58, zi192_59, zi192_60, zi192_61, zi192_62, zi192_62n, zi192_63, zi192_66, zi192_68, zi192_69 (sk := []), zcl1, zlow_0, zlow_1, zlow_2, zlow_3, zlow_4, zfree_0, zfree_i, zfree_r, zfree_n, zfree_d, zfree_f, zfree_s, if_true, if_false, Option.bind_some, Option.toList_some, Option.toList_none, List.cons_append, List.nil_append, List.set_cons_zero, List.set_cons_succ, Bool.false_eq_true, reduceIte, zsw_c, zsw_n, Nat.reduceAdd, w0, M1.1, m1, sp_isBikeM M1 Y1 rfl, hz, zb_f, z00]
  have hz : zlt (nI b) (N 3) = true := by rw [zlt_nI (by omega) (by omega)]; simp [hb]
  obtain ⟨hW, hWL⟩ := hJ.wg.wl (i := 3) (by omega) (by omega)
  have hd := hW.d8
  by_cases hbit : (N 8).testBit b = true
  · refine ⟨(-1000002), h, zpf h 73 0 (.int 0), ?_, ?_, hJ.q h1 hB⟩
    · simp only [ze100, zi100_0, zi100_0n, zi100_1, zi100_4, zi100_5, zi100_8, zi100_11, zi100_13 (sk := []), zi100_14, zi100_14n, zi100_15, zi100_18, zi100_19, zi100_22, zi100_25, zi100_27 (sk := []), zi100_28, zi100_28n, zi100_29, zi100_32, zi100_33, zi100_34, zi100_35, zi100_36, zi100_39, zi100_39n, zi100_40, zi100_43, zi100_46 (sk := []), zcl1, zlow_0, zlow_1, zlow_2, zlow_3, zlow_4, zfree_0, zfree_i, zfree_r, zfree_n, zfree_d, zfree_f, zfree_s, if_true, if_false, Option.bind_some, Option.toList_some, Option.toList_none, List.cons_append, List.nil_append, List.set_cons_zero, List.set_cons_succ, Bool.false_eq_true, reduceIte, zsw_c, zsw_n, Nat.reduceAdd, hJ.co.r7, hJ.yn.cls, c1, sp_hasBike hJ.yn, hz, zb_t, z10, c2, sp_fallsAnewNo hW hJ.yn hb hbit, z00]
    · simp only [ze192, zi192_0, zi192_0n, zi192_1, zi192_2, zi192_5, zi192_5n, zi192_6, zi192_7, zi192_8, zi192_11, zi192_14, zi192_16 (sk := []), zi192_17, zi192_17n, zi192_18, zi192_21, zi192_23, zi192_24, zi192_25, zi192_28, zi192_31, zi192_33 (sk := []), zi192_34, zi192_34n, zi192_35, zi192_38, zi192_38n, zi192_39, zi192_42, zi192_44, zi192_45, zi192_46, zi192_47, zi192_48, zi192_49, zi192_50, zi192_51, zi192_51n, zi192_52, zi192_55, zi192_57, zi192_58, zi192_59, zi192_60, zi192_61, zi192_62, zi192_62n, zi192_63, zi192_66, zi192_68, zi192_69 (sk := []), zcl1, zlow_0, zlow_1, zlow_2, zlow_3, zlow_4, zfree_0, zfree_i, zfree_r, zfree_n, zfree_d, zfree_f, zfree_s, if_true, if_false, Option.bind_some, Option.toList_some, Option.toList_none, List.cons_append, List.nil_append, List.set_cons_zero, List.set_cons_succ, Bool.false_eq_true, reduceIte, zsw_c, zsw_n, Nat.reduceAdd, w0, M1.1, m1, sp_isBikeM M1 Y1 rfl, hz, zb_t, z10, M1.r5, Y1.c 8 (by omega) (x := 8) rfl, sp_hasM8 hd (show b < 8 by omega), hbit]
  have hbit : (N 8).testBit b = false := by simpa using hbit
  have wl : WL (fallN N b) := fun z c hc => by
    have h5 : N 5 = 0 := z
    have := hWL h5 b hb
    rw [hbit] at this
    cases this
  have wf := hW.fall hb
  obtain ⟨hr, er, Yr, zr⟩ := sp_fallsAnew (E := E) hW hJ.yn (by omega) hb hbit
  obtain ⟨A, R, V, m, a1, a2, a3, a4, a5, a6⟩ := hJ.act
  have C1 := hJ.co.keep (zr.2 0 (by omega))
  have A1 : AC hr A R := a3.keep (fun a ha => zr.2 a (by unfold aP at ha; omega))
  obtain ⟨hs, R', es, A2, r1, r2, r3, r4, r5, zs⟩ := sp_keep (E := E) A1 a1 2 (nI b) 0 1
  have C2 := C1.keep (zs.2 0 (by unfold aP; omega))
  have ys' : ∀ a, (fun a => a = y) a → a < 87 := fun a e => by cases e; omega
  have as' : ∀ a, aP a → a < 87 := fun a e => by unfold aP at e; omega
  have Ys : YC hs y (fallN N b) := YC.keep (P := aP) ⟨Yr, hJ.yc.2.sm zr (by omega) ys' (by omega)⟩ (zs.fr as') (by omega) (fun a h1 h2 => by unfold aP; omega)
  have ec : zcall zpp E 100 [.ref 0, .int (nI b)] h = some (some (.int (nI (N 7 + 1))), hs) := by
    have f17 : zfld [9] hs y 17 = some (.int (nI (N 7 + 1))) := Ys.1.f17
    simp only [ze100, zi100_0, zi100_0n, zi100_1, zi100_4, zi100_5, zi100_8, zi100_11, zi100_13 (sk := []), zi100_14, zi100_14n, zi100_15, zi100_18, zi100_19, zi100_22, zi100_25, zi100_27 (sk := []), zi100_28, zi100_28n, zi100_29, zi100_32, zi100_33, zi100_34, zi100_35, zi100_36, zi100_39, zi100_39n, zi100_40, zi100_43, zi100_46 (sk := []), zcl1, zlow_0, zlow_1, zlow_2, zlow_3, zlow_4, zfree_0, zfree_i, zfree_r, zfree_n, zfree_d, zfree_f, zfree_s, if_true, if_false, Option.bind_some, Option.toList_some, Option.toList_none, List.cons_append, List.nil_append, List.set_cons_zero, List.set_cons_succ, Bool.false_eq_true, reduceIte, zsw_c, zsw_n, Nat.reduceAdd, hJ.co.r7, hJ.yn.cls, c1, sp_hasBike hJ.yn, hz, zb_t, z10, c2, er, C1.r3, A1.1, c4, es, C2.r7, f17]
  have zc : zsm (fun a => a = y ∨ aP a) h hs := (zr.wk (fun a e => Or.inl e)).tr (zs.wk (fun a e => Or.inr e))
  have Mc : MdO hs sc := hJ.md.keep (zc.2 73 (by unfold aP; omega))
  have Yc : MY hs N := hJ.my.keep (zc.2 77 (by unfold aP; omega))
  have mc : zrow 0 hs 79 1752 m := zrow_c (zc.2 79 (by unfold aP; omega)) a4
  have v0 := Mc.st 0 rfl (by omega) 0
  have M2 := Mc.put 0 rfl (by omega) 0
  have Y2 : MY (zpf hs 73 0 (.int 0)) N := Yc.keep (zpf_o (by omega))
  obtain ⟨H, sc', m', ek, k1, k2, k3, k4, k5, k6, k7, k8⟩ := sp_keepM (E := E) M2 (show upd sc 0 0 8 = nI A from a2) a1 Y2 (zrow_pf mc)
  have P1 := k4.put 8 (zput (N 8) b)
  have K1 : MdO (zpa H 77 8 (nI (zput (N 8) b))) sc' := k1.pa
  have g7 := P1.c 7 (by omega) (x := 7) rfl
  rw [nup_o (show 7 ≠ 8 by omega)] at g7
  have P2 := P1.put 7 (N 7 + 1)
  have K2 : MdO (zpa (zpa H 77 8 (nI (zput (N 8) b))) 77 7 (nI (N 7 + 1))) sc' := K1.pa
  have g9 := P2.c 7 (by omega) (x := 7) rfl
  rw [nup_s] at g9
  have em : zcall zpp E 192 [.ref 73, .int (nI b)] hs = some (some (.int (nI (N 7 + 1))), zpa (zpa H 77 8 (nI (zput (N 8) b))) 77 7 (nI (N 7 + 1))) := by
    simp only [ze192, zi192_0, zi192_0n, zi192_1, zi192_2, zi192_5, zi192_5n, zi192_6, zi192_7, zi192_8, zi192_11, zi192_14, zi192_16 (sk := []), zi192_17, zi192_17n, zi192_18, zi192_21, zi192_23, zi192_24, zi192_25, zi192_28, zi192_31, zi192_33 (sk := []), zi192_34, zi192_34n, zi192_35, zi192_38, zi192_38n, zi192_39, zi192_42, zi192_44, zi192_45, zi192_46, zi192_47, zi192_48, zi192_49, zi192_50, zi192_51, zi192_51n, zi192_52, zi192_55, zi192_57, zi192_58, zi192_59, zi192_60, zi192_61, zi192_62, zi192_62n, zi192_63, zi192_66, zi192_68, zi192_69 (sk := []), zcl1, zlow_0, zlow_1, zlow_2, zlow_3, zlow_4, zfree_0, zfree_i, zfree_r, zfree_n, zfree_d, zfree_f, zfree_s, if_true, if_false, Option.bind_some, Option.toList_some, Option.toList_none, List.cons_append, List.nil_append, List.set_cons_zero, List.set_cons_succ, Bool.false_eq_true, reduceIte, zsw_c, zsw_n, Nat.reduceAdd, v0, M2.1, m1, sp_isBikeM M2 Y2 rfl, hz, zb_t, z10, M2.r5, Y2.c 8 (by omega) (x := 8) rfl, sp_hasM8 hd (show b < 8 by omega), hbit, zb_f, z00, m8, ek, k1.r5, k4.c 8 (by omega) (x := 8) rfl, (zput_k _ hd b (show b < 8 by omega)).1, k4.s 8 (by omega) (x := 8) rfl, K1.r5, g7, ix_p1, P1.s 7 (by omega) (x := 7) rfl, K2.r5, g9]
  have zm : zsm (fun a => a = 73 ∨ a = 77 ∨ a = 79) hs (zpa (zpa H 77 8 (nI (zput (N 8) b))) 77 7 (nI (N 7 + 1))) := (((zsm_pf.wk (fun a e => Or.inl e)).tr (k8.wk (fun a e => by unfold kP at e; omega))).tr (zsm_pa.wk (fun a e => Or.inr (Or.inl e)))).tr (zsm_pa.wk (fun a e => Or.inr (Or.inl e)))
  refine ⟨_, _, _, ec, em, act_end hJ h1 hB ⟨hW, hWL⟩ ⟨wf, wl⟩ a1 a5 a6 (zc.wk (fun a e => ?_)) Ys A2 r1 ?_ zm K2 k2 k3 (P2.ext (fun i hi => ?_)) (zrow_o (by omega) (zrow_o (by omega) k5)) k6 k7⟩
  · rcases e with e | e
    · exact Or.inl ⟨by omega, by omega⟩
    · exact Or.inr e
  · refine ⟨0, 1, r4, r5, rfl, rfl, Or.inr (Or.inl ⟨r2, b, hb, r3, hbit, rfl, fun i h6 h7 h8 => ?_⟩)⟩
    unfold fallN
    rw [if_neg h7, if_neg h8]
  · unfold nup fallN
    by_cases h7 : i = 7
    · subst h7; rfl
    · by_cases h8 : i = 8
      · subst h8; rfl
      · rw [if_neg h7, if_neg h8]
theorem WF.gap {N : Nat → Nat} (hW : WF N) {b w : Nat} (hb : b < N 3) (h1 : 1 ≤ w) (h2 : w ≤ 20) : WF (nup N (10 + 2 * b) w) := by
  have h3 := hW.2.2.2.1.2
  have o : ∀ i, i < 10 ∨ 25 ≤ i → nup N (10 + 2 * b) w i = N i := fun i hi => nup_o (by omega)
  obtain ⟨q0, q1, q2, q3, q4, q5, q6, q7, q8, q9, q10⟩ := hW
  refine ⟨by rw [o 0 (by omega)]; exact q0, by rw [o 1 (by omega)]; exact q1, by rw [o 2 (by omega)]; exact q2, by rw [o 3 (by omega)]; exact q3, by rw [o 4 (by omega)]; exact q4, by rw [o 5 (by omega)]; exact q5, by rw [o 8 (by omega), o 3 (by omega)]; exact q6, fun c hc => ?_, fun k hk => ?_, fun k j hk hj => ?_, fun v hv => ?_⟩
  · rw [o 3 (by omega)] at hc
    obtain ⟨z1, z2⟩ := q7 c hc
    rw [nup_o (show 9 + 2 * c ≠ 10 + 2 * b by omega)]
    by_cases hcb : c = b
    · subst hcb
      rw [nup_s]
      exact ⟨z1, h1, h2⟩
    · rw [nup_o (show 10 + 2 * c ≠ 10 + 2 * b by omega)]
      exact ⟨z1, z2⟩
  · rw [o 4 (by omega)] at hk
    rw [o 3 (by omega), o _ (by omega), o _ (by omega), o _ (by omega), o _ (by omega)]
    exact q8 k hk
  · rw [o 4 (by omega)] at hk
    rw [o _ (by omega), o _ (by omega), o _ (by omega), o _ (by omega), o _ (by omega), o _ (by omega)]
    exact q9 k j hk hj
  · rw [o 5 (by omega)] at hv
    rw [o _ (by omega), o _ (by omega)]
    exact q10 v hv
theorem ok_space (hJ : J h n) {z g : Int32} : OK E h n 101 193 [.int z, .int g] := by
  obtain ⟨y, s, v, sc, N, hJ, h1, hB⟩ := hJ
  have M1 := hJ.md.put 0 rfl (by omega) 0
  have w0 := hJ.md.st 0 rfl (by omega) 0
  have Y1 : MY (zpf h 73 0 (.int 0)) N := hJ.my.keep (zpf_o (by omega))
  have hy := hJ.ys
  unfold yys at hy
  have c1 : zsel 9 [9, 71] = some 71 := rfl
  have c4 : zsel 0 [0, 4] = some 4 := rfl
  have m1 : zsel 11 [11, 173] = some 173 := rfl
  have m2 : zsel 11 [11, 178] = some 178 := rfl
  have m8 : zsel 11 [11, 189] = some 189 := rfl
  have h3 := hJ.wg.h3
  have i2 := fun (H : zH) => sp_inI (E := E) (h := H) (u := g.toInt64) (v := 1) (w := 20) (x := g) (a := 1) (b := 20) rfl (by decide) (by decide)
  rcases zlt_or z (n := N 3) (by omega) with hz | ⟨b, hb, rfl⟩
  · refine ⟨(-1000001), h, zpf h 73 0 (.int 0), ?_, ?_, hJ.q h1 hB⟩
    · simp only [ze101, zi101_0, zi101_0n, zi101_1, zi101_4, zi101_5, zi101_8, zi101_11, zi101_12, zi101_13, zi101_15, zi101_18, zi101_21, zi101_23 (sk := []), zi101_24, zi101_24n, zi101_25, zi101_28, zi101_31, zi101_32, zi101_33, zi101_34, zi101_34n, zi101_35, zi101_38, zi101_41, zi101_42, zi101_43, zi101_44, zi101_44n, zi101_45, zi101_48, zi101_49, zi101_50, zi101_53, zi101_54 (sk := []), zcl1, zlow_0, zlow_1, zlow_2, zlow_3, zlow_4, zfree_0, zfree_i, zfree_r, zfree_n, zfree_d, zfree_f, zfree_s, if_true, if_false, Option.bind_some, Option.toList_some, Option.toList_none, List.cons_append, List.nil_append, List.set_cons_zero, List.set_cons_succ, Bool.false_eq_true, reduceIte, zsw_c, zsw_n, Nat.reduceAdd, hJ.co.r7, hJ.yn.cls, c1, sp_hasBike hJ.yn, hz, zb_f, z00]
    · simp only [ze193, zi193_0, zi193_0n, zi193_1, zi193_2, zi193_5, zi193_5n, zi193_6, zi193_7, zi193_8, zi193_11, zi193_14, zi193_15, zi193_16, zi193_17, zi193_20, zi193_23, zi193_26, zi193_28 (sk := []), zi193_29, zi193_29n, zi193_30, zi193_33, zi193_33n, zi193_34, zi193_35, zi193_38, zi193_39, zi193_39n, zi193_40, zi193_43, zi193_45, zi193_46, zi193_47, zi193_48, zi193_49, zi193_50, zi193_51, zi193_52, zi193_53, zi193_54 (sk := []), zcl1, zlow_0, zlow_1, zlow_2, zlow_3, zlow_4, zfree_0, zfree_i, zfree_r, zfree_n, zfree_d, zfree_f, zfree_s, if_true, if_false, Option.bind_some, Option.toList_some, Option.toList_none, List.cons_append, List.nil_append, List.set_cons_zero, List.set_cons_succ, Bool.false_eq_true, reduceIte, zsw_c, zsw_n, Nat.reduceAdd, w0, M1.1, m1, sp_isBikeM M1 Y1 rfl, hz, zb_f, z00]
  have hz : zlt (nI b) (N 3) = true := by rw [zlt_nI (by omega) (by omega)]; simp [hb]
  rcases zbt_or g 1 20 (by omega) (by omega) with hg | ⟨g, hg1, hg2, rfl, hg⟩
  · have hg : (decide (1 ≤ g) && decide (g ≤ 20)) = false := hg
    refine ⟨(-1000001), h, zpf h 73 0 (.int 0), ?_, ?_, hJ.q h1 hB⟩
    · simp only [ze101, zi101_0, zi101_0n, zi101_1, zi101_4, zi101_5, zi101_8, zi101_11, zi101_12, zi101_13, zi101_15, zi101_18, zi101_21, zi101_23 (sk := []), zi101_24, zi101_24n, zi101_25, zi101_28, zi101_31, zi101_32, zi101_33, zi101_34, zi101_34n, zi101_35, zi101_38, zi101_41, zi101_42, zi101_43, zi101_44, zi101_44n, zi101_45, zi101_48, zi101_49, zi101_50, zi101_53, zi101_54 (sk := []), zcl1, zlow_0, zlow_1, zlow_2, zlow_3, zlow_4, zfree_0, zfree_i, zfree_r, zfree_n, zfree_d, zfree_f, zfree_s, if_true, if_false, Option.bind_some, Option.toList_some, Option.toList_none, List.cons_append, List.nil_append, List.set_cons_zero, List.set_cons_succ, Bool.false_eq_true, reduceIte, zsw_c, zsw_n, Nat.reduceAdd, hJ.co.r7, hJ.yn.cls, c1, sp_hasBike hJ.yn, hz, zb_t, z10, sp_within, hg, zb_f, z00]
    · simp only [ze193, zi193_0, zi193_0n, zi193_1, zi193_2, zi193_5, zi193_5n, zi193_6, zi193_7, zi193_8, zi193_11, zi193_14, zi193_15, zi193_16, zi193_17, zi193_20, zi193_23, zi193_26, zi193_28 (sk := []), zi193_29, zi193_29n, zi193_30, zi193_33, zi193_33n, zi193_34, zi193_35, zi193_38, zi193_39, zi193_39n, zi193_40, zi193_43, zi193_45, zi193_46, zi193_47, zi193_48, zi193_49, zi193_50, zi193_51, zi193_52, zi193_53, zi193_54 (sk := []), zcl1, zlow_0, zlow_1, zlow_2, zlow_3, zlow_4, zfree_0, zfree_i, zfree_r, zfree_n, zfree_d, zfree_f, zfree_s, if_true, if_false, Option.bind_some, Option.toList_some, Option.toList_none, List.cons_append, List.nil_append, List.set_cons_zero, List.set_cons_succ, Bool.false_eq_true, reduceIte, zsw_c, zsw_n, Nat.reduceAdd, w0, M1.1, m1, sp_isBikeM M1 Y1 rfl, hz, zb_t, z10, i2, hg, zb_f, z00]
  have hg : (decide (1 ≤ nI g) && decide (nI g ≤ 20)) = true := hg
  obtain ⟨hW, hWL⟩ := hJ.wg.wl (i := 3) (by omega) (by omega)
  have hd := hW.d8
  have wf := hW.gap hb hg1 hg2
  have wl : WL (nup N (10 + 2 * b) g) := fun z c hc => by
    rw [nup_o (by omega)] at z hc ⊢
    exact hWL z c hc
  have Yr := hJ.yn.gap (by omega) h3 hb g
  have zr : zsm (fun a => a = y + 2) h (zpa h (y + 2) b (nI g)) := zsm_pa
  have es0 : zars 0 h (y + 2) (nI b) (nI g) = some (zpa h (y + 2) b (nI g)) := by
    obtain ⟨A, cr, Y, -⟩ := hJ.yn
    exact Y.s 1 (by omega) (by rw [if_pos (by omega)]; omega)
  generalize zpa h (y + 2) b (nI g) = hr at *
  obtain ⟨A, R, V, m, a1, a2, a3, a4, a5, a6⟩ := hJ.act
  have C1 := hJ.co.keep (zr.2 0 (by omega))
  have A1 : AC hr A R := a3.keep (fun a ha => zr.2 a (by unfold aP at ha; omega))
  obtain ⟨hs, R', es, A2, r1, r2, r3, r4, r5, r6, zs⟩ := sp_keepGap (E := E) A1 a1 (nI b) (nI (N (10 + 2 * b)))
  have ys' : ∀ a, (fun a => a = y + 2) a → a < 87 := fun a e => by cases e; omega
  have as' : ∀ a, aP a → a < 87 := fun a e => by unfold aP at e; omega
  have Ys : YC hs y (nup N (10 + 2 * b) g) := YC.keep (P := aP) ⟨Yr, hJ.yc.2.sm zr (by omega) ys' (by omega)⟩ (zs.fr as') (by omega) (fun a h1 h2 => by unfold aP; omega)
  have ec : zcall zpp E 101 [.ref 0, .int (nI b), .int (nI g)] h = some (some (.int (nI (N (10 + 2 * b)))), hs) := by
    simp only [ze101, zi101_0, zi101_0n, zi101_1, zi101_4, zi101_5, zi101_8, zi101_11, zi101_12, zi101_13, zi101_15, zi101_18, zi101_21, zi101_23 (sk := []), zi101_24, zi101_24n, zi101_25, zi101_28, zi101_31, zi101_32, zi101_33, zi101_34, zi101_34n, zi101_35, zi101_38, zi101_41, zi101_42, zi101_43, zi101_44, zi101_44n, zi101_45, zi101_48, zi101_49, zi101_50, zi101_53, zi101_54 (sk := []), zcl1, zlow_0, zlow_1, zlow_2, zlow_3, zlow_4, zfree_0, zfree_i, zfree_r, zfree_n, zfree_d, zfree_f, zfree_s, if_true, if_false, Option.bind_some, Option.toList_some, Option.toList_none, List.cons_append, List.nil_append, List.set_cons_zero, List.set_cons_succ, Bool.false_eq_true, reduceIte, zsw_c, zsw_n, Nat.reduceAdd, hJ.co.r7, hJ.yn.cls, c1, sp_hasBike hJ.yn, hz, zb_t, z10, sp_within, hg, hJ.yn.r7, hJ.yn.g hb h3, es0, C1.r3, A1.1, c4, es]
  have zc : zsm (fun a => a = y + 2 ∨ aP a) h hs := (zr.wk (fun a e => Or.inl e)).tr (zs.wk (fun a e => Or.inr e))
  have Mc : MdO hs sc := hJ.md.keep (zc.2 73 (by unfold aP; omega))
  have Yc : MY hs N := hJ.my.keep (zc.2 77 (by unfold aP; omega))
  have mc : zrow 0 hs 79 1752 m := zrow_c (zc.2 79 (by unfold aP; omega)) a4
  have v0 := Mc.st 0 rfl (by omega) 0
  have M2 := Mc.put 0 rfl (by omega) 0
  have Y2 : MY (zpf hs 73 0 (.int 0)) N := Yc.keep (zpf_o (by omega))
  obtain ⟨H, sc', m', ek, k1, k2, k3, k4, k5, k6, k7, k8⟩ := sp_keepM (E := E) M2 (show upd sc 0 0 8 = nI A from a2) a1 Y2 (zrow_pf mc)
  have P1 := k4.put (10 + 2 * b) g
  have K1 : MdO (zpa H 77 (10 + 2 * b) (nI g)) sc' := k1.pa
  have em : zcall zpp E 193 [.ref 73, .int (nI b), .int (nI g)] hs = some (some (.int (nI (N (10 + 2 * b)))), zpa H 77 (10 + 2 * b) (nI g)) := by
    simp only [ze193, zi193_0, zi193_0n, zi193_1, zi193_2, zi193_5, zi193_5n, zi193_6, zi193_7, zi193_8, zi193_11, zi193_14, zi193_15, zi193_16, zi193_17, zi193_20, zi193_23, zi193_26, zi193_28 (sk := []), zi193_29, zi193_29n, zi193_30, zi193_33, zi193_33n, zi193_34, zi193_35, zi193_38, zi193_39, zi193_39n, zi193_40, zi193_43, zi193_45, zi193_46, zi193_47, zi193_48, zi193_49, zi193_50, zi193_51, zi193_52, zi193_53, zi193_54 (sk := []), zcl1, zlow_0, zlow_1, zlow_2, zlow_3, zlow_4, zfree_0, zfree_i, zfree_r, zfree_n, zfree_d, zfree_f, zfree_s, if_true, if_false, Option.bind_some, Option.toList_some, Option.toList_none, List.cons_append, List.nil_append, List.set_cons_zero, List.set_cons_succ, Bool.false_eq_true, reduceIte, zsw_c, zsw_n, Nat.reduceAdd, v0, M2.1, m1, sp_isBikeM M2 Y2 rfl, hz, zb_t, z10, i2, hg, m8, ek, k1.1, m2, sp_gapOf k1 k4 (show b < 8 by omega), k1.r5, ix_9, ix_p1, k4.s (10 + 2 * b) (by omega) (x := nI (9 + 2 * b + 1)) (v := nI g) (by rw [show 9 + 2 * b + 1 = 10 + 2 * b by omega])]
  have zm : zsm (fun a => a = 73 ∨ a = 77 ∨ a = 79) hs (zpa H 77 (10 + 2 * b) (nI g)) := ((zsm_pf.wk (fun a e => Or.inl e)).tr (k8.wk (fun a e => by unfold kP at e; omega))).tr (zsm_pa.wk (fun a e => Or.inr (Or.inl e)))
  refine ⟨_, _, _, ec, em, act_end hJ h1 hB ⟨hW, hWL⟩ ⟨wf, wl⟩ a1 a5 a6 (zc.wk (fun a e => ?_)) Ys A2 r1 ?_ zm K1 k2 k3 P1 (zrow_o (by omega) k5) k6 k7⟩
  · rcases e with e | e
    · exact Or.inl ⟨by omega, by omega⟩
    · exact Or.inr e
  · exact ⟨0, 0, r5, r6, by rw [nup_o (by omega)]; rfl, by rw [nup_o (by omega)]; rfl, Or.inr (Or.inr (Or.inr ⟨r2, b, hb, r3, r4, by rw [nup_s]; exact ⟨hg1, hg2⟩, fun i h6 h7 h8 => nup_o h8⟩))⟩
theorem WF.tur {N : Nat → Nat} (hW : WF N) {k : Nat} (hk : k < N 4) (hs : N (25 + 4 * k) = 1) : WF (turN N k) := by
  have h4 := hW.2.2.2.2.1
  have o : ∀ i, i < 28 ∨ 65 ≤ i → turN N k i = N i := fun i hi => tur_o (by omega)
  obtain ⟨q0, q1, q2, q3, q4, q5, q6, q7, q8, q9, q10⟩ := hW
  have o25 : ∀ j, turN N k (25 + 4 * j) = N (25 + 4 * j) := fun j => tur_o (by omega)
  have o26 : ∀ j, turN N k (26 + 4 * j) = N (26 + 4 * j) := fun j => tur_o (by omega)
  have o27 : ∀ j, turN N k (27 + 4 * j) = N (27 + 4 * j) := fun j => tur_o (by omega)
  refine ⟨by rw [o 0 (by omega)]; exact q0, by rw [o 1 (by omega)]; exact q1, by rw [o 2 (by omega)]; exact q2, by rw [o 3 (by omega)]; exact q3, by rw [o 4 (by omega)]; exact q4, by rw [o 5 (by omega)]; exact q5, by rw [o 8 (by omega), o 3 (by omega)]; exact q6, fun c hc => ?_, fun j hj => ?_, fun i j hi hj => ?_, fun v hv => ?_⟩
  · rw [o 3 (by omega)] at hc
    rw [o _ (by omega), o _ (by omega)]
    exact q7 c hc
  · rw [o 4 (by omega)] at hj
    rw [o 3 (by omega), o25, o26, o27]
    obtain ⟨z1, z2, z3, z4, z5⟩ := q8 j hj
    refine ⟨z1, z2, z3, z4, ?_⟩
    by_cases hjk : j = k
    · subst hjk
      rw [tur_k, hs]
      omega
    · rw [tur_o (by omega)]
      exact z5
  · rw [o 4 (by omega)] at hi
    rw [o25, o25, o26, o26, o27, o27]
    exact q9 i j hi hj
  · rw [o 5 (by omega)] at hv
    rw [o _ (by omega), o _ (by omega)]
    exact q10 v hv
theorem ok_loosen (hJ : J h n) {z : Int32} : OK E h n 99 191 [.int z] := by
  obtain ⟨y, s, v, sc, N, hJ, h1, hB⟩ := hJ
  have M1 := hJ.md.put 0 rfl (by omega) 0
  have w0 := hJ.md.st 0 rfl (by omega) 0
  have Y1 : MY (zpf h 73 0 (.int 0)) N := hJ.my.keep (zpf_o (by omega))
  have hy := hJ.ys
  unfold yys at hy
  have c1 : zsel 9 [9, 72] = some 72 := rfl
  have c2 : zsel 9 [9, 75] = some 75 := rfl
  have c3 : zsel 9 [9, 76] = some 76 := rfl
  have c4 : zsel 0 [0, 3] = some 3 := rfl
  have m1 : zsel 11 [11, 175] = some 175 := rfl
  have m8 : zsel 11 [11, 189] = some 189 := rfl
  have h4 := hJ.wg.h4
  rcases zlt_or z (n := N 4) (by omega) with hz | ⟨k, hk, rfl⟩
  · refine ⟨(-1000001), h, zpf h 73 0 (.int 0), ?_, ?_, hJ.q h1 hB⟩
    · simp only [ze99, zi99_0, zi99_0n, zi99_1, zi99_4, zi99_5, zi99_8, zi99_11, zi99_13 (sk := []), zi99_14, zi99_14n, zi99_15, zi99_18, zi99_21, zi99_22, zi99_23, zi99_24, zi99_27, zi99_27n, zi99_28, zi99_31, zi99_32, zi99_35, zi99_38, zi99_40 (sk := []), zi99_41, zi99_41n, zi99_42, zi99_45, zi99_46, zi99_49, zi99_49n, zi99_50, zi99_53, zi99_53i, zi99_54, zi99_57, zi99_57n, zi99_58, zi99_61, zi99_64, zi99_65, zi99_68, zi99_68n, zi99_69, zi99_72, zi99_73, zi99_74, zi99_74n, zi99_75, zi99_78, zi99_81, zi99_82, zi99_85, zi99_85n, zi99_86, zi99_89, zi99_92 (sk := []), zcl1, zlow_0, zlow_1, zlow_2, zlow_3, zlow_4, zfree_0, zfree_i, zfree_r, zfree_n, zfree_d, zfree_f, zfree_s, if_true, if_false, Option.bind_some, Option.toList_some, Option.toList_none, List.cons_append, List.nil_append, List.set_cons_zero, List.set_cons_succ, Bool.false_eq_true, reduceIte, zsw_c, zsw_n, Nat.reduceAdd, hJ.co.r7, hJ.yn.cls, c1, sp_hasHold hJ.yn, hz, zb_f, z00]
    · simp only [ze191, zi191_0, zi191_0n, zi191_1, zi191_2, zi191_5, zi191_5n, zi191_6, zi191_7, zi191_10, zi191_13, zi191_15 (sk := []), zi191_16, zi191_18, zi191_19, zi191_20, zi191_21, zi191_22, zi191_23, zi191_23n, zi191_24, zi191_27, zi191_28, zi191_29, zi191_32, zi191_32n, zi191_33, zi191_36, zi191_37, zi191_38, zi191_39, zi191_40, zi191_41, zi191_44, zi191_46 (sk := []), zi191_47, zi191_47n, zi191_48, zi191_51, zi191_51n, zi191_52, zi191_55, zi191_56, zi191_57, zi191_58, zi191_59, zi191_60, zi191_60n, zi191_61, zi191_64, zi191_66, zi191_67, zi191_68, zi191_68n, zi191_69, zi191_72, zi191_73, zi191_74, zi191_75, zi191_76, zi191_76n, zi191_77, zi191_80, zi191_82, zi191_83 (sk := []), zcl1, zlow_0, zlow_1, zlow_2, zlow_3, zlow_4, zfree_0, zfree_i, zfree_r, zfree_n, zfree_d, zfree_f, zfree_s, if_true, if_false, Option.bind_some, Option.toList_some, Option.toList_none, List.cons_append, List.nil_append, List.set_cons_zero, List.set_cons_succ, Bool.false_eq_true, reduceIte, zsw_c, zsw_n, Nat.reduceAdd, w0, M1.1, m1, sp_isHoldM M1 Y1, hz, zb_f, z00]
  have hz : zlt (nI k) (N 4) = true := by rw [zlt_nI (by omega) (by omega)]; simp [hk]
  obtain ⟨hW, hWL⟩ := hJ.wg.wl (i := 4) (by omega) (by omega)
  have hh := hW.hd hk
  have ix28 : (nI (25 + 4 * k) + 3 : Int32) = nI (28 + 4 * k) := by rw [ix_p3, show 25 + 4 * k + 3 = 28 + 4 * k by omega]
  have m25 := Y1.at (show 25 + 4 * k < 73 by omega) rfl
  have m28 := Y1.at (show 28 + 4 * k < 73 by omega) rfl
  by_cases hs0 : N (25 + 4 * k) = 0
  · rw [hs0] at m25
    have s0 := hJ.yn.hs hk h4
    rw [hs0] at s0
    refine ⟨(-1000002), h, zpf h 73 0 (.int 0), ?_, ?_, hJ.q h1 hB⟩
    · simp only [ze99, zi99_0, zi99_0n, zi99_1, zi99_4, zi99_5, zi99_8, zi99_11, zi99_13 (sk := []), zi99_14, zi99_14n, zi99_15, zi99_18, zi99_21, zi99_22, zi99_23, zi99_24, zi99_27, zi99_27n, zi99_28, zi99_31, zi99_32, zi99_35, zi99_38, zi99_40 (sk := []), zi99_41, zi99_41n, zi99_42, zi99_45, zi99_46, zi99_49, zi99_49n, zi99_50, zi99_53, zi99_53i, zi99_54, zi99_57, zi99_57n, zi99_58, zi99_61, zi99_64, zi99_65, zi99_68, zi99_68n, zi99_69, zi99_72, zi99_73, zi99_74, zi99_74n, zi99_75, zi99_78, zi99_81, zi99_82, zi99_85, zi99_85n, zi99_86, zi99_89, zi99_92 (sk := []), zcl1, zlow_0, zlow_1, zlow_2, zlow_3, zlow_4, zfree_0, zfree_i, zfree_r, zfree_n, zfree_d, zfree_f, zfree_s, if_true, if_false, Option.bind_some, Option.toList_some, Option.toList_none, List.cons_append, List.nil_append, List.set_cons_zero, List.set_cons_succ, Bool.false_eq_true, reduceIte, zsw_c, zsw_n, Nat.reduceAdd, hJ.co.r7, hJ.yn.cls, c1, sp_hasHold hJ.yn, hz, zb_t, z10, hJ.yn.r10, s0, show (nI 0 = 1) = False by decide, not_false_eq_true]
    · simp only [ze191, zi191_0, zi191_0n, zi191_1, zi191_2, zi191_5, zi191_5n, zi191_6, zi191_7, zi191_10, zi191_13, zi191_15 (sk := []), zi191_16, zi191_18, zi191_19, zi191_20, zi191_21, zi191_22, zi191_23, zi191_23n, zi191_24, zi191_27, zi191_28, zi191_29, zi191_32, zi191_32n, zi191_33, zi191_36, zi191_37, zi191_38, zi191_39, zi191_40, zi191_41, zi191_44, zi191_46 (sk := []), zi191_47, zi191_47n, zi191_48, zi191_51, zi191_51n, zi191_52, zi191_55, zi191_56, zi191_57, zi191_58, zi191_59, zi191_60, zi191_60n, zi191_61, zi191_64, zi191_66, zi191_67, zi191_68, zi191_68n, zi191_69, zi191_72, zi191_73, zi191_74, zi191_75, zi191_76, zi191_76n, zi191_77, zi191_80, zi191_82, zi191_83 (sk := []), zcl1, zlow_0, zlow_1, zlow_2, zlow_3, zlow_4, zfree_0, zfree_i, zfree_r, zfree_n, zfree_d, zfree_f, zfree_s, if_true, if_false, Option.bind_some, Option.toList_some, Option.toList_none, List.cons_append, List.nil_append, List.set_cons_zero, List.set_cons_succ, Bool.false_eq_true, reduceIte, zsw_c, zsw_n, Nat.reduceAdd, w0, M1.1, m1, sp_isHoldM M1 Y1, hz, zb_t, z10, ix_25, M1.r5, m25, show (nI 0 = 0) = True by decide]
  have hs : N (25 + 4 * k) = 1 := by omega
  rw [hs] at m25
  have s1 := hJ.yn.hs hk h4
  rw [hs] at s1
  by_cases hl : N (28 + 4 * k) = 1
  · rw [hl] at m28
    have d1 : decide (N (28 + 4 * k) = 1) = true := decide_eq_true hl
    refine ⟨(-1000002), h, zpf h 73 0 (.int 0), ?_, ?_, hJ.q h1 hB⟩
    · simp only [ze99, zi99_0, zi99_0n, zi99_1, zi99_4, zi99_5, zi99_8, zi99_11, zi99_13 (sk := []), zi99_14, zi99_14n, zi99_15, zi99_18, zi99_21, zi99_22, zi99_23, zi99_24, zi99_27, zi99_27n, zi99_28, zi99_31, zi99_32, zi99_35, zi99_38, zi99_40 (sk := []), zi99_41, zi99_41n, zi99_42, zi99_45, zi99_46, zi99_49, zi99_49n, zi99_50, zi99_53, zi99_53i, zi99_54, zi99_57, zi99_57n, zi99_58, zi99_61, zi99_64, zi99_65, zi99_68, zi99_68n, zi99_69, zi99_72, zi99_73, zi99_74, zi99_74n, zi99_75, zi99_78, zi99_81, zi99_82, zi99_85, zi99_85n, zi99_86, zi99_89, zi99_92 (sk := []), zcl1, zlow_0, zlow_1, zlow_2, zlow_3, zlow_4, zfree_0, zfree_i, zfree_r, zfree_n, zfree_d, zfree_f, zfree_s, if_true, if_false, Option.bind_some, Option.toList_some, Option.toList_none, List.cons_append, List.nil_append, List.set_cons_zero, List.set_cons_succ, Bool.false_eq_true, reduceIte, zsw_c, zsw_n, Nat.reduceAdd, hJ.co.r7, hJ.yn.cls, c1, sp_hasHold hJ.yn, hz, zb_t, z10, hJ.yn.r10, s1, show (nI 1 = 1) = True by decide, not_true_eq_false, c2, sp_isLoose hJ.yn h4 hk, d1]
    · simp only [ze191, zi191_0, zi191_0n, zi191_1, zi191_2, zi191_5, zi191_5n, zi191_6, zi191_7, zi191_10, zi191_13, zi191_15 (sk := []), zi191_16, zi191_18, zi191_19, zi191_20, zi191_21, zi191_22, zi191_23, zi191_23n, zi191_24, zi191_27, zi191_28, zi191_29, zi191_32, zi191_32n, zi191_33, zi191_36, zi191_37, zi191_38, zi191_39, zi191_40, zi191_41, zi191_44, zi191_46 (sk := []), zi191_47, zi191_47n, zi191_48, zi191_51, zi191_51n, zi191_52, zi191_55, zi191_56, zi191_57, zi191_58, zi191_59, zi191_60, zi191_60n, zi191_61, zi191_64, zi191_66, zi191_67, zi191_68, zi191_68n, zi191_69, zi191_72, zi191_73, zi191_74, zi191_75, zi191_76, zi191_76n, zi191_77, zi191_80, zi191_82, zi191_83 (sk := []), zcl1, zlow_0, zlow_1, zlow_2, zlow_3, zlow_4, zfree_0, zfree_i, zfree_r, zfree_n, zfree_d, zfree_f, zfree_s, if_true, if_false, Option.bind_some, Option.toList_some, Option.toList_none, List.cons_append, List.nil_append, List.set_cons_zero, List.set_cons_succ, Bool.false_eq_true, reduceIte, zsw_c, zsw_n, Nat.reduceAdd, w0, M1.1, m1, sp_isHoldM M1 Y1, hz, zb_t, z10, ix_25, M1.r5, m25, show (nI 1 = 0) = False by decide, ix28, m28, show (nI 1 = 1) = True by decide, not_true_eq_false]
  have hl0 : N (28 + 4 * k) = 0 := by omega
  have d0 : decide (N (28 + 4 * k) = 1) = false := decide_eq_false hl
  obtain ⟨hr, er, zr, Yr⟩ := sp_turn (E := E) hW hJ.yn (by omega) hk hs
  have Yp := Yr.put (by omega) 16 6 (by omega) (N 6 + N 1)
  have wt := hW.tur hk hs
  have wf : WF (nup (turN N k) 6 (N 6 + N 1)) := wt.mov (fun i h6 h7 h8 => nup_o h6) (by rw [nup_o (by omega)]; exact wt.2.2.2.2.2.2.1)
  have o : ∀ i, i ≠ 6 → i ≠ 28 + 4 * k → nup (turN N k) 6 (N 6 + N 1) i = N i := fun i h6 h8 => by rw [nup_o h6, tur_o h8]
  have wl : WL (nup (turN N k) 6 (N 6 + N 1)) := fun z c hc => by
    rw [o 5 (by omega) (by omega)] at z
    rw [o 3 (by omega) (by omega)] at hc
    rw [o 8 (by omega) (by omega)]
    exact hWL z c hc
  have t16 : zfld [9] hr y 16 = some (.int (nI (N 6))) := by
    have := Yr.f16
    rw [tur_o (by omega)] at this
    exact this
  have t1 : zfld [9] hr y 1 = some (.int (nI (N 1))) := by
    have := Yr.f1
    rw [tur_o (by omega)] at this
    exact this
  have w16 := zstf_ok (ty := 0) (v := .int (nI (N 6 + N 1))) t16 zfits_i
  have C1 := hJ.co.keep (zr.2 0 (by unfold yP; omega))
  have C2 : CO (zpf hr y 16 (.int (nI (N 6 + N 1)))) y s v := C1.keep (zpf_o (by omega))
  have zq : zsm (yP y) h (zpf hr y 16 (.int (nI (N 6 + N 1)))) := zr.tr (zsm_pf.wk (fun a e => by cases e; exact ⟨by omega, by omega⟩))
  have cr8 : CR (zpf hr y 16 (.int (nI (N 6 + N 1)))) y := by
    have : CR hr y := by
      obtain ⟨hr', er', zr'⟩ := sp_turnX (E := E) hW hJ.yn (by omega) hk hs
      rw [er] at er'
      cases er'
      exact hJ.yc.2.sm zr' (by omega) (fun a e => by omega) (by omega)
    exact this.sm zsm_pf (by omega) (fun a e => by cases e; omega) (by omega)
  generalize zpf hr y 16 (.int (nI (N 6 + N 1))) = hp at *
  obtain ⟨A, R, V, m, a1, a2, a3, a4, a5, a6⟩ := hJ.act
  have A1 : AC hp A R := a3.keep (fun a ha => zq.2 a (by unfold aP at ha; unfold yP; omega))
  obtain ⟨hs', R', es, A2, r1, r2, r3, r4, r5, zs⟩ := sp_keep (E := E) A1 a1 1 (nI k) (nI (N 1)) 0
  have as' : ∀ a, aP a → a < 87 := fun a e => by unfold aP at e; omega
  have Ys : YC hs' y (nup (turN N k) 6 (N 6 + N 1)) := YC.keep (P := aP) ⟨Yp, cr8⟩ (zs.fr as') (by omega) (fun a h1 h2 => by unfold aP; omega)
  have C3 := C2.keep (zs.2 0 (by unfold aP; omega))
  have p1 : zfld [9] hp y 1 = some (.int (nI (N 1))) := by
    have := Yp.f1
    rw [o 1 (by omega) (by omega)] at this
    exact this
  have p16 : zfld [9] hs' y 16 = some (.int (nI (N 6 + N 1))) := by
    have := Ys.1.f16
    rw [nup_s] at this
    exact this
  have ec : zcall zpp E 99 [.ref 0, .int (nI k)] h = some (some (.int (nI (N 6 + N 1))), hs') := by
    simp only [ze99, zi99_0, zi99_0n, zi99_1, zi99_4, zi99_5, zi99_8, zi99_11, zi99_13 (sk := []), zi99_14, zi99_14n, zi99_15, zi99_18, zi99_21, zi99_22, zi99_23, zi99_24, zi99_27, zi99_27n, zi99_28, zi99_31, zi99_32, zi99_35, zi99_38, zi99_40 (sk := []), zi99_41, zi99_41n, zi99_42, zi99_45, zi99_46, zi99_49, zi99_49n, zi99_50, zi99_53, zi99_53i, zi99_54, zi99_57, zi99_57n, zi99_58, zi99_61, zi99_64, zi99_65, zi99_68, zi99_68n, zi99_69, zi99_72, zi99_73, zi99_74, zi99_74n, zi99_75, zi99_78, zi99_81, zi99_82, zi99_85, zi99_85n, zi99_86, zi99_89, zi99_92 (sk := []), zcl1, zlow_0, zlow_1, zlow_2, zlow_3, zlow_4, zfree_0, zfree_i, zfree_r, zfree_n, zfree_d, zfree_f, zfree_s, if_true, if_false, Option.bind_some, Option.toList_some, Option.toList_none, List.cons_append, List.nil_append, List.set_cons_zero, List.set_cons_succ, Bool.false_eq_true, reduceIte, zsw_c, zsw_n, Nat.reduceAdd, hJ.co.r7, hJ.yn.cls, c1, sp_hasHold hJ.yn, hz, zb_t, z10, hJ.yn.r10, s1, show (nI 1 = 1) = True by decide, not_true_eq_false, c2, sp_isLoose hJ.yn h4 hk, d0, zb_f, z00, c3, er, C1.r7, t16, t1, nI_add, w16, C2.r3, C2.r7, p1, A1.1, c4, es, C3.r7, p16]
  have zc : zsm (fun a => yP y a ∨ aP a) h hs' := (zq.wk (fun a e => Or.inl e)).tr (zs.wk (fun a e => Or.inr e))
  have Mc : MdO hs' sc := hJ.md.keep (zc.2 73 (by unfold aP yP; omega))
  have Yc : MY hs' N := hJ.my.keep (zc.2 77 (by unfold aP yP; omega))
  have mc : zrow 0 hs' 79 1752 m := zrow_c (zc.2 79 (by unfold aP yP; omega)) a4
  have v0 := Mc.st 0 rfl (by omega) 0
  have M2 := Mc.put 0 rfl (by omega) 0
  have Y2 : MY (zpf hs' 73 0 (.int 0)) N := Yc.keep (zpf_o (by omega))
  have n25 := Y2.at (show 25 + 4 * k < 73 by omega) rfl
  rw [hs] at n25
  have n28 := Y2.at (show 28 + 4 * k < 73 by omega) rfl
  rw [hl0] at n28
  obtain ⟨H, sc', m', ek, k1, k2, k3, k4, k5, k6, k7, k8⟩ := sp_keepM (E := E) M2 (show upd sc 0 0 8 = nI A from a2) a1 Y2 (zrow_pf mc)
  have P1 : MY (zpa H 77 (28 + 4 * k) 1) (nup N (28 + 4 * k) 1) := k4.put (28 + 4 * k) 1
  have K1 : MdO (zpa H 77 (28 + 4 * k) 1) sc' := k1.pa
  have g6 := P1.c 6 (by omega) (x := 6) rfl
  rw [nup_o (show 6 ≠ 28 + 4 * k by omega)] at g6
  have g1 := P1.c 1 (by omega) (x := 1) rfl
  rw [nup_o (show 1 ≠ 28 + 4 * k by omega)] at g1
  have P2 := P1.put 6 (N 6 + N 1)
  have K2 : MdO (zpa (zpa H 77 (28 + 4 * k) 1) 77 6 (nI (N 6 + N 1))) sc' := K1.pa
  have g9 := P2.c 6 (by omega) (x := 6) rfl
  rw [nup_s] at g9
  have w28 := k4.s (28 + 4 * k) (by omega) (x := nI (28 + 4 * k)) (v := 1) rfl
  have em : zcall zpp E 191 [.ref 73, .int (nI k)] hs' = some (some (.int (nI (N 6 + N 1))), zpa (zpa H 77 (28 + 4 * k) 1) 77 6 (nI (N 6 + N 1))) := by
    simp only [ze191, zi191_0, zi191_0n, zi191_1, zi191_2, zi191_5, zi191_5n, zi191_6, zi191_7, zi191_10, zi191_13, zi191_15 (sk := []), zi191_16, zi191_18, zi191_19, zi191_20, zi191_21, zi191_22, zi191_23, zi191_23n, zi191_24, zi191_27, zi191_28, zi191_29, zi191_32, zi191_32n, zi191_33, zi191_36, zi191_37, zi191_38, zi191_39, zi191_40, zi191_41, zi191_44, zi191_46 (sk := []), zi191_47, zi191_47n, zi191_48, zi191_51, zi191_51n, zi191_52, zi191_55, zi191_56, zi191_57, zi191_58, zi191_59, zi191_60, zi191_60n, zi191_61, zi191_64, zi191_66, zi191_67, zi191_68, zi191_68n, zi191_69, zi191_72, zi191_73, zi191_74, zi191_75, zi191_76, zi191_76n, zi191_77, zi191_80, zi191_82, zi191_83 (sk := []), zcl1, zlow_0, zlow_1, zlow_2, zlow_3, zlow_4, zfree_0, zfree_i, zfree_r, zfree_n, zfree_d, zfree_f, zfree_s, if_true, if_false, Option.bind_some, Option.toList_some, Option.toList_none, List.cons_append, List.nil_append, List.set_cons_zero, List.set_cons_succ, Bool.false_eq_true, reduceIte, zsw_c, zsw_n, Nat.reduceAdd, v0, M2.1, m1, sp_isHoldM M2 Y2, hz, zb_t, z10, ix_25, M2.r5, n25, show (nI 1 = 0) = False by decide, ix28, n28, show (nI 0 = 1) = False by decide, not_false_eq_true, m8, ek, k1.r5, w28, K1.r5, g6, g1, nI_add, P1.s 6 (by omega) (x := 6) rfl, K2.r5, g9]
  have zm : zsm (fun a => a = 73 ∨ a = 77 ∨ a = 79) hs' (zpa (zpa H 77 (28 + 4 * k) 1) 77 6 (nI (N 6 + N 1))) := (((zsm_pf.wk (fun a e => Or.inl e)).tr (k8.wk (fun a e => by unfold kP at e; omega))).tr (zsm_pa.wk (fun a e => Or.inr (Or.inl e)))).tr (zsm_pa.wk (fun a e => Or.inr (Or.inl e)))
  refine ⟨_, _, _, ec, em, act_end hJ h1 hB ⟨hW, hWL⟩ ⟨wf, wl⟩ a1 a5 a6 zc Ys A2 r1 ?_ zm K2 k2 k3 (P2.ext (fun i hi => ?_)) (zrow_o (by omega) (zrow_o (by omega) k5)) k6 k7⟩
  · refine ⟨N 1, 0, r4, r5, nup_s, o 7 (by omega) (by omega), Or.inr (Or.inr (Or.inl ⟨r2, k, hk, r3, hs, hl0, ?_, fun i h6 h7 h8 => o i h6 h8⟩))⟩
    rw [nup_o (by omega), tur_k, hl0]
  · unfold nup turN
    by_cases h6 : i = 6
    · rw [if_pos h6, if_pos h6]
    · rw [if_neg h6, if_neg h6]
      by_cases h8 : i = 28 + 4 * k
      · rw [if_pos h8, if_pos h8, h8, hl0]
      · rw [if_neg h8, if_neg h8]
end ACT
