/-! THE TEXT: what is put into the component's yard keeps its crew's places -/
theorem addBikeC {E : zE} {h : zH} {y w g : Nat} {N : Nat → Nat} (hY : YC h y N) (hy : y < 70) (hn : N 3 < 8) (h4 : N 4 = 0) (h5 : N 5 = 0) (hd : N 8 < 256) : ∃ h', zcall zpp E 66 [.ref y, .int (nI w), .int (nI g)] h = some (none, h') ∧ zsm (yP y) h h' ∧ YC h' y (bikN N w g) := by
  obtain ⟨h1, e1, z1, Y'⟩ := sp_addBike (E := E) (w := w) (g := g) hY.1 hn h4 h5 hd
  refine ⟨h1, e1, z1, Y', ?_⟩
  obtain ⟨⟨A, cr, Y0, b1, -, -⟩, hC⟩ := hY
  have Y1 := Y0.pa0 (N 3) (nI w)
  have Y2 := Y1.pa1 (N 3) (nI g)
  have Y3 := Y2.pa2 (N 3) 0
  have Y4 := Y3.pa3 (N 3) 0
  have Y5 := Y4.pf 15 (v := nI (zput (N 8) (N 3))) (by omega)
  have f0 : zfld [9] _ y 3 = some (.int (nI (N 3))) := Y0.i 3 (by omega)
  have f1 : zfld [9] _ y 3 = some (.int (nI (N 3))) := Y1.i 3 (by omega)
  have f2 : zfld [9] _ y 3 = some (.int (nI (N 3))) := Y2.i 3 (by omega)
  have f3 : zfld [9] _ y 3 = some (.int (nI (N 3))) := Y3.i 3 (by omega)
  have f4 : zfld [9] _ y 3 = some (.int (nI (N 3))) := Y4.i 3 (by omega)
  have f5 : zfld [9] _ y 3 = some (.int (nI (N 3))) := Y5.i 3 (by omega)
  have d4 : zfld [9] _ y 15 = some (.int (nI (N 8))) := Y4.i 15 (by omega)
  have n1 : nI (N 3) + 1 = nI (N 3 + 1) := nI_add (N 3) 1
  have e2 : zcall zpp E 66 [.ref y, .int (nI w), .int (nI g)] h = some (none, zpf (zpf (zpa (zpa (zpa (zpa h (y + 1) (N 3) (nI w)) (y + 2) (N 3) (nI g)) (y + 3) (N 3) 0) (y + 4) (N 3) 0) y 15 (.int (nI (zput (N 8) (N 3))))) y 3 (.int (nI (N 3 + 1)))) := by
    simp only [ze66, zi66_0, zi66_0n, zi66_1, zi66_4, zi66_4n, zi66_5, zi66_8, zi66_9, zi66_10, zi66_10n, zi66_11, zi66_14, zi66_14n, zi66_15, zi66_18, zi66_19, zi66_20, zi66_20n, zi66_21, zi66_24, zi66_24n, zi66_25, zi66_28, zi66_29, zi66_30, zi66_30n, zi66_31, zi66_34, zi66_34n, zi66_35, zi66_38, zi66_39, zi66_40, zi66_40n, zi66_41, zi66_41i, zi66_42, zi66_45, zi66_46, zi66_46n, zi66_47, zi66_50, zi66_51, zi66_52, zi66_55, zi66_55n, zi66_56, zi66_56i, zi66_57, zi66_60, zi66_61, zi66_62, zi66_65 (sk := []), zcl1, zlow_0, zlow_1, zlow_2, zlow_3, zlow_4, zfree_0, zfree_i, zfree_r, zfree_n, zfree_d, zfree_f, zfree_s, if_true, if_false, Option.bind_some, Option.toList_some, Option.toList_none, List.cons_append, List.nil_append, List.set_cons_zero, List.set_cons_succ, Bool.false_eq_true, reduceIte, zsw_c, zsw_n, Nat.reduceAdd, Y0.r6, f0, Y0.s0 hn, Y1.r7, f1, Y1.s1 hn, Y2.r8, f2, Y2.s2 hn, Y3.r9, f3, Y3.s3 hn, d4, f4, (zput_k _ hd _ hn).1, Y4.w 15 (by omega), f5, n1, Y5.w 3 (by omega)]
  rw [e1] at e2
  cases e2
  have hz : zsm (yQ y) h (zpf (zpf (zpa (zpa (zpa (zpa h (y + 1) (N 3) (nI w)) (y + 2) (N 3) (nI g)) (y + 3) (N 3) 0) (y + 4) (N 3) 0) y 15 (.int (nI (zput (N 8) (N 3))))) y 3 (.int (nI (N 3 + 1)))) := (((((zsm_pa.wk (fun a e => by unfold yQ yP; omega)).tr (zsm_pa.wk (fun a e => by unfold yQ yP; omega))).tr (zsm_pa.wk (fun a e => by unfold yQ yP; omega))).tr (zsm_pa.wk (fun a e => by unfold yQ yP; omega))).tr (zsm_pf.wk (fun a e => by unfold yQ yP; omega))).tr (zsm_pf.wk (fun a e => by unfold yQ yP; omega))
  exact hC.sm hz (by omega) (fun a e => by unfold yQ yP at e; omega) (by unfold yQ; omega)
theorem addHoldC {E : zE} {h : zH} {y s a b : Nat} {N : Nat → Nat} (hY : YC h y N) (hy : y < 70) (hn : N 4 < 10) (h3 : N 3 ≤ 8) (hs : s ≤ 1) (ha : a < N 3) (hb : b < N 3) (hab : a ≠ b) (hk : ∀ k, k < N 4 → N (26 + 4 * k) < 8 ∧ N (27 + 4 * k) < 8) : ∃ h', zcall zpp E 67 [.ref y, .int (nI s), .int (nI a), .int (nI b)] h = some (none, h') ∧ zsm (yP y) h h' ∧ YC h' y (holN N s a b) := by
  obtain ⟨h1, e1, z1, Y'⟩ := sp_addHold (E := E) hY.1 hy hn h3 hs ha hb hab hk
  refine ⟨h1, e1, z1, Y', ?_⟩
  obtain ⟨⟨A, cr, Y0, b1, b2, b3⟩, hC⟩ := hY
  have la : ∀ x, abF N x (N 4) < 256 := fun x => abF_lt (fun k hq => (hk k hq).1)
  have lc : ∀ x, caF N x (N 4) < 256 := fun x => caF_lt (fun k hq => hk k hq)
  have Y1 := Y0.pa4 (N 4) (nI s)
  have Y2 := Y1.pa5 (N 4) (nI a)
  have Y3 := Y2.pa6 (N 4) (nI b)
  have f0 : zfld [9] _ y 4 = some (.int (nI (N 4))) := Y0.i 4 (by omega)
  have f1 : zfld [9] _ y 4 = some (.int (nI (N 4))) := Y1.i 4 (by omega)
  have f2 : zfld [9] _ y 4 = some (.int (nI (N 4))) := Y2.i 4 (by omega)
  have n1 : nI (N 4) + 1 = nI (N 4 + 1) := nI_add (N 4) 1
  have qa : ∀ (H : zH) (j i : Nat) (v : Int32), j ≤ 7 → 1 ≤ j → zsm (yQ y) H (zpa H (y + j) i v) := fun H j i v h1 h2 => zsm_pa.wk (fun a e => by unfold yQ yP; omega)
  have qf : ∀ (H : zH) (f : Nat) (v : Value), zsm (yQ y) H (zpf H y f v) := fun H f v => zsm_pf.wk (fun a e => by unfold yQ yP; omega)
  obtain rfl | rfl : s = 0 ∨ s = 1 := by omega
  · have Y4 := Y3.pa2 b (nI (zput (abF N b (N 4)) a))
    have f4 : zfld [9] _ y 4 = some (.int (nI (N 4))) := Y4.i 4 (by omega)
    have c3 : zarr 0 _ (y + 3) (nI b) = some (nI (abF N b (N 4))) := (Y3.a2 (i := b) (by omega)).trans (congrArg some ((b1 b hb).2.2.1))
    have hne : (nI 0 = 1) = False := by decide
    have e2 : zcall zpp E 67 [.ref y, .int (nI 0), .int (nI a), .int (nI b)] h = some (none, zpf (zpa (zpa (zpa (zpa h (y + 5) (N 4) (nI 0)) (y + 6) (N 4) (nI a)) (y + 7) (N 4) (nI b)) (y + 3) b (nI (zput (abF N b (N 4)) a))) y 4 (.int (nI (N 4 + 1)))) := by
      simp only [ze67, zi67_0, zi67_0n, zi67_1, zi67_4, zi67_4n, zi67_5, zi67_8, zi67_9, zi67_10, zi67_10n, zi67_11, zi67_14, zi67_14n, zi67_15, zi67_18, zi67_19, zi67_20, zi67_20n, zi67_21, zi67_24, zi67_24n, zi67_25, zi67_28, zi67_29, zi67_30, zi67_31, zi67_32, zi67_35, zi67_35n, zi67_36, zi67_39, zi67_40, zi67_41, zi67_42, zi67_43, zi67_44, zi67_45, zi67_46, zi67_47, zi67_47n, zi67_48, zi67_51, zi67_52, zi67_53, zi67_54, zi67_55, zi67_56, zi67_57, zi67_58, zi67_59, zi67_62, zi67_62n, zi67_63, zi67_66, zi67_67, zi67_68, zi67_69, zi67_70, zi67_71, zi67_72, zi67_73, zi67_74, zi67_74n, zi67_75, zi67_75i, zi67_76, zi67_79, zi67_80, zi67_81, zi67_84 (sk := []), zcl1, zlow_0, zlow_1, zlow_2, zlow_3, zlow_4, zfree_0, zfree_i, zfree_r, zfree_n, zfree_d, zfree_f, zfree_s, if_true, if_false, Option.bind_some, Option.toList_some, Option.toList_none, List.cons_append, List.nil_append, List.set_cons_zero, List.set_cons_succ, Bool.false_eq_true, reduceIte, zsw_c, zsw_n, Nat.reduceAdd, Y0.r10, f0, Y0.s4 hn, Y1.r11, f1, Y1.s5 hn, Y2.r12, f2, Y2.s6 hn, hne, not_false_eq_true, Y3.r8, c3, (zput_k _ (la b) a (by omega)).1, Y3.s2 (show b < 8 by omega), f4, n1, Y4.w 4 (by omega)]
    rw [e1] at e2
    cases e2
    exact hC.sm (((((qa _ 5 _ _ (by omega) (by omega)).tr (qa _ 6 _ _ (by omega) (by omega))).tr (qa _ 7 _ _ (by omega) (by omega))).tr (qa _ 3 _ _ (by omega) (by omega))).tr (qf _ _ _)) (by omega) (fun a e => by unfold yQ yP at e; omega) (by unfold yQ; omega)
  · have Y4 := Y3.pa3 a (nI (zput (caF N a (N 4)) b))
    have Y5 := Y4.pa3 b (nI (zput (caF N b (N 4)) a))
    have f5 : zfld [9] _ y 4 = some (.int (nI (N 4))) := Y5.i 4 (by omega)
    have c3 : zarr 0 _ (y + 4) (nI a) = some (nI (caF N a (N 4))) := (Y3.a3 (i := a) (by omega)).trans (congrArg some ((b1 a ha).2.2.2))
    have c4 : zarr 0 _ (y + 4) (nI b) = some (nI (caF N b (N 4))) := (Y4.a3 (i := b) (by omega)).trans (congrArg some (by
      have := (b1 b hb).2.2.2
      simpa [upd, show ¬ b = a from fun z => hab z.symm] using this))
    have hne : (nI 1 = 1) = True := by decide
    have e2 : zcall zpp E 67 [.ref y, .int (nI 1), .int (nI a), .int (nI b)] h = some (none, zpf (zpa (zpa (zpa (zpa (zpa h (y + 5) (N 4) (nI 1)) (y + 6) (N 4) (nI a)) (y + 7) (N 4) (nI b)) (y + 4) a (nI (zput (caF N a (N 4)) b))) (y + 4) b (nI (zput (caF N b (N 4)) a))) y 4 (.int (nI (N 4 + 1)))) := by
      simp only [ze67, zi67_0, zi67_0n, zi67_1, zi67_4, zi67_4n, zi67_5, zi67_8, zi67_9, zi67_10, zi67_10n, zi67_11, zi67_14, zi67_14n, zi67_15, zi67_18, zi67_19, zi67_20, zi67_20n, zi67_21, zi67_24, zi67_24n, zi67_25, zi67_28, zi67_29, zi67_30, zi67_31, zi67_32, zi67_35, zi67_35n, zi67_36, zi67_39, zi67_40, zi67_41, zi67_42, zi67_43, zi67_44, zi67_45, zi67_46, zi67_47, zi67_47n, zi67_48, zi67_51, zi67_52, zi67_53, zi67_54, zi67_55, zi67_56, zi67_57, zi67_58, zi67_59, zi67_62, zi67_62n, zi67_63, zi67_66, zi67_67, zi67_68, zi67_69, zi67_70, zi67_71, zi67_72, zi67_73, zi67_74, zi67_74n, zi67_75, zi67_75i, zi67_76, zi67_79, zi67_80, zi67_81, zi67_84 (sk := []), zcl1, zlow_0, zlow_1, zlow_2, zlow_3, zlow_4, zfree_0, zfree_i, zfree_r, zfree_n, zfree_d, zfree_f, zfree_s, if_true, if_false, Option.bind_some, Option.toList_some, Option.toList_none, List.cons_append, List.nil_append, List.set_cons_zero, List.set_cons_succ, Bool.false_eq_true, reduceIte, zsw_c, zsw_n, Nat.reduceAdd, Y0.r10, f0, Y0.s4 hn, Y1.r11, f1, Y1.s5 hn, Y2.r12, f2, Y2.s6 hn, hne, not_true_eq_false, Y3.r9, c3, (zput_k _ (lc a) b (by omega)).1, Y3.s3 (show a < 8 by omega), Y4.r9, c4, (zput_k _ (lc b) a (by omega)).1, Y4.s3 (show b < 8 by omega), f5, n1, Y5.w 4 (by omega)]
    rw [e1] at e2
    cases e2
    exact hC.sm ((((((qa _ 5 _ _ (by omega) (by omega)).tr (qa _ 6 _ _ (by omega) (by omega))).tr (qa _ 7 _ _ (by omega) (by omega))).tr (qa _ 4 _ _ (by omega) (by omega))).tr (qa _ 4 _ _ (by omega) (by omega))).tr (qf _ _ _)) (by omega) (fun a e => by unfold yQ yP at e; omega) (by unfold yQ; omega)
theorem addLifterC {E : zE} {h : zH} {y kd fo : Nat} {N : Nat → Nat} (hY : YC h y N) (hy : y < 70) (hl : 87 ≤ h.length) (hk : 1 ≤ kd ∧ kd ≤ 5) (hn : N 5 < 4) (h3 : N 3 ≤ 8) (h4 : N 4 ≤ 10) : ∃ h', zcall zpp E 68 [.ref y, .ref h.length] (h ++ [.inl (kcls kd, [.int (nI (N 5)), .int (nI fo)])]) = some (none, h') ∧ zsm (yP y) (h ++ [.inl (kcls kd, [.int (nI (N 5)), .int (nI fo)])]) h' ∧ YC h' y (lifN N kd fo) := by
  obtain ⟨h1, e1, z1, Y'⟩ := sp_addLifter (E := E) (fo := fo) hY.1 hy hl hk hn h3 h4
  refine ⟨h1, e1, z1, Y', ?_⟩
  obtain ⟨⟨A, cr, Y0, b1, b2, b3⟩, hC⟩ := hY
  obtain ⟨g, c8, -⟩ := Y0.app (c := .inl (kcls kd, [.int (nI (N 5)), .int (nI fo)])) |>.2.2.2.2
  have Y1 := Y0.app (c := .inl (kcls kd, [.int (nI (N 5)), .int (nI fo)]))
  have Y2 := Y1.po (i := N 5) (o := some h.length)
  have f1 : zfld [9] _ y 5 = some (.int (nI (N 5))) := Y1.i 5 (by omega)
  have f2 : zfld [9] _ y 5 = some (.int (nI (N 5))) := Y2.i 5 (by omega)
  have n1 : nI (N 5) + 1 = nI (N 5 + 1) := nI_add (N 5) 1
  have hm : zmay 4 (kcls kd) = true := by
    obtain rfl | rfl | rfl | rfl | rfl : kd = 1 ∨ kd = 2 ∨ kd = 3 ∨ kd = 4 ∨ kd = 5 := by omega
    all_goals rfl
  have e2 : zcall zpp E 68 [.ref y, .ref h.length] (h ++ [.inl (kcls kd, [.int (nI (N 5)), .int (nI fo)])]) = some (none, zpf (zpo (h ++ [.inl (kcls kd, [.int (nI (N 5)), .int (nI fo)])]) (y + 8) (N 5) (some h.length)) y 5 (.int (nI (N 5 + 1)))) := by
    simp only [ze68, zi68_0, zi68_0n, zi68_1, zi68_4, zi68_4n, zi68_5, zi68_8, zi68_8n, zi68_9, zi68_10, zi68_10n, zi68_11, zi68_11i, zi68_12, zi68_15, zi68_16, zi68_17, zi68_20 (sk := []), zcl1, zlow_0, zlow_1, zlow_2, zlow_3, zlow_4, zfree_0, zfree_i, zfree_r, zfree_n, zfree_d, zfree_f, zfree_s, if_true, if_false, Option.bind_some, Option.toList_some, Option.toList_none, List.cons_append, List.nil_append, List.set_cons_zero, List.set_cons_succ, Bool.false_eq_true, reduceIte, zsw_c, zsw_n, Nat.reduceAdd, Y1.r13, f1, zaro_at c8 zat_end hm hn (by omega), f2, n1, Y2.w 5 (by omega)]
  rw [e1] at e2
  cases e2
  obtain ⟨g', d1, d2⟩ := hC
  have d1' : (h ++ [.inl (kcls kd, [.int (nI (N 5)), .int (nI fo)])])[y + 8]? = some (.inr (.inr (4, 4, g'))) := (zat_old (by omega)).trans d1
  refine ⟨va_up g' (N 5) (some h.length), (zpf_o (by omega)).trans (zpo_at d1'), fun i hi q hq => ?_⟩
  unfold va_up at hq
  split at hq
  · cases hq
    refine ⟨hl, kcls kd, [.int (nI (N 5)), .int (nI fo)], ?_, hm⟩
    rw [zpf_o (by omega), zpo_o (by omega)]
    exact zat_end
  · obtain ⟨q1, cl, fs, q2, q3⟩ := d2 i hi q hq
    refine ⟨q1, cl, fs, ?_, q3⟩
    rw [zpf_o (by omega), zpo_o (by omega), zat_old (List.getElem?_eq_some_iff.mp q2).1]
    exact q2
