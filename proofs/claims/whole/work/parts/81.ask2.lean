/-! ASK OF BOTH -/
section ASKB
variable {E : zE} {h : zH} {n : Nat}
theorem ok_ask (hJ : J h n) {x k : Int32} : OK E h n 122 226 [.int x, .int k] := by
  obtain ⟨y, s, v, sc, N, hJ, h1, hB⟩ := hJ
  have M1 := hJ.md.put 0 rfl (by omega) 0
  have w0 := hJ.md.st 0 rfl (by omega) 0
  have Y1 : MY (zpf h 73 0 (.int 0)) N := hJ.my.keep (zpf_o (by omega))
  have hy := hJ.ys
  unfold yys at hy
  have c1 : zsel 9 [9, 73] = some 73 := rfl
  have c2 : zsel 8 [8, 62] = some 62 := rfl
  have m1 : zsel 11 [11, 174] = some 174 := rfl
  have m2 : zsel 11 [11, 225] = some 225 := rfl
  have m3 : zsel 11 [11, 224] = some 224 := rfl
  have h5 := hJ.wg.h5
  have i1 := fun (H : zH) => sp_inI (E := E) (h := H) (u := k.toInt64) (v := 0) (w := 1) (x := k) (a := 0) (b := 1) rfl (by decide) (by decide)
  rcases zlt_or x (n := N 5) (by omega) with hx | ⟨w, hw, rfl⟩
  · refine ⟨(-1000001), h, zpf h 73 0 (.int 0), ?_, ?_, hJ.q h1 hB⟩
    · simp only [ze122, zi122_0, zi122_0n, zi122_1, zi122_4, zi122_5, zi122_8, zi122_8n, zi122_9, zi122_9n, zi122_10, zi122_10n, zi122_13, zi122_14, zi122_15, zi122_16, zi122_19, zi122_22, zi122_24 (sk := []), zi122_25, zi122_25n, zi122_26, zi122_29, zi122_29n, zi122_30, zi122_33, zi122_36, zi122_39, zi122_42, zi122_43, zi122_46, zi122_46n, zi122_47, zi122_47n, zi122_48, zi122_51, zi122_54, zi122_57, zi122_57n, zi122_58, zi122_58n, zi122_59, zi122_62, zi122_65 (sk := []), zcl1, zlow_0, zlow_1, zlow_2, zlow_3, zlow_4, zfree_0, zfree_i, zfree_r, zfree_n, zfree_d, zfree_f, zfree_s, if_true, if_false, Option.bind_some, Option.toList_some, Option.toList_none, List.cons_append, List.nil_append, List.set_cons_zero, List.set_cons_succ, Bool.false_eq_true, reduceIte, zsw_c, zsw_n, Nat.reduceAdd, hJ.co.r7, hJ.yn.cls, c1, sp_lifterNo hJ.yn hx]
    · simp only [ze226, zi226_0, zi226_0n, zi226_1, zi226_2, zi226_5, zi226_5n, zi226_6, zi226_7, zi226_8, zi226_11, zi226_14, zi226_15, zi226_16, zi226_17, zi226_18, zi226_21, zi226_24, zi226_26 (sk := []), zi226_27, zi226_27n, zi226_28, zi226_29, zi226_32, zi226_33, zi226_36, zi226_36n, zi226_37, zi226_38, zi226_41, zi226_44, zi226_44n, zi226_45, zi226_46, zi226_49 (sk := []), zcl1, zlow_0, zlow_1, zlow_2, zlow_3, zlow_4, zfree_0, zfree_i, zfree_r, zfree_n, zfree_d, zfree_f, zfree_s, if_true, if_false, Option.bind_some, Option.toList_some, Option.toList_none, List.cons_append, List.nil_append, List.set_cons_zero, List.set_cons_succ, Bool.false_eq_true, reduceIte, zsw_c, zsw_n, Nat.reduceAdd, w0, M1.1, m1, sp_isLifterM M1 Y1 rfl, hx, zb_f, z00]
  have hW := hJ.wg.wf (i := 5) (by omega) (by omega)
  have hx : zlt (nI w) (N 5) = true := by rw [zlt_nI (by omega) (by omega)]; simp [hw]
  obtain ⟨q, e, hL⟩ := sp_lifterAt (E := E) hJ.yn h5 hw
  have hk := (hW.kf hw).1
  rcases zbt_or k 0 1 (by omega) (by omega) with hk1 | ⟨j, -, hj, rfl, hk1⟩
  · have hk1 : (decide (0 ≤ k) && decide (k ≤ 1)) = false := hk1
    refine ⟨(-1000001), h, zpf h 73 0 (.int 0), ?_, ?_, hJ.q h1 hB⟩
    · simp only [ze122, zi122_0, zi122_0n, zi122_1, zi122_4, zi122_5, zi122_8, zi122_8n, zi122_9, zi122_9n, zi122_10, zi122_10n, zi122_13, zi122_14, zi122_15, zi122_16, zi122_19, zi122_22, zi122_24 (sk := []), zi122_25, zi122_25n, zi122_26, zi122_29, zi122_29n, zi122_30, zi122_33, zi122_36, zi122_39, zi122_42, zi122_43, zi122_46, zi122_46n, zi122_47, zi122_47n, zi122_48, zi122_51, zi122_54, zi122_57, zi122_57n, zi122_58, zi122_58n, zi122_59, zi122_62, zi122_65 (sk := []), zcl1, zlow_0, zlow_1, zlow_2, zlow_3, zlow_4, zfree_0, zfree_i, zfree_r, zfree_n, zfree_d, zfree_f, zfree_s, if_true, if_false, Option.bind_some, Option.toList_some, Option.toList_none, List.cons_append, List.nil_append, List.set_cons_zero, List.set_cons_succ, Bool.false_eq_true, reduceIte, zsw_c, zsw_n, Nat.reduceAdd, hJ.co.r7, hJ.yn.cls, c1, e, sp_within, hk1, zb_f, z00]
    · simp only [ze226, zi226_0, zi226_0n, zi226_1, zi226_2, zi226_5, zi226_5n, zi226_6, zi226_7, zi226_8, zi226_11, zi226_14, zi226_15, zi226_16, zi226_17, zi226_18, zi226_21, zi226_24, zi226_26 (sk := []), zi226_27, zi226_27n, zi226_28, zi226_29, zi226_32, zi226_33, zi226_36, zi226_36n, zi226_37, zi226_38, zi226_41, zi226_44, zi226_44n, zi226_45, zi226_46, zi226_49 (sk := []), zcl1, zlow_0, zlow_1, zlow_2, zlow_3, zlow_4, zfree_0, zfree_i, zfree_r, zfree_n, zfree_d, zfree_f, zfree_s, if_true, if_false, Option.bind_some, Option.toList_some, Option.toList_none, List.cons_append, List.nil_append, List.set_cons_zero, List.set_cons_succ, Bool.false_eq_true, reduceIte, zsw_c, zsw_n, Nat.reduceAdd, w0, M1.1, m1, sp_isLifterM M1 Y1 rfl, hx, zb_t, z10, i1, hk1, zb_f, z00]
  have hk1 : (decide (0 ≤ nI j) && decide (nI j ≤ 1)) = true := hk1
  obtain ⟨tn, kk, t, hT, hR, h2, h3⟩ := hJ.tr
  have zb8 := zbc_k _ hW.d8
  -- the trace begins
  have b1 := zstf_ok (ty := 0) (v := .int 0) hT.2.2.1 zfits_i
  have g2 : zfld [8] (zpf h 11 1 (.int 0)) 11 2 = some (.int kk) := (zfld_f (by decide)).trans hT.2.2.2.1
  have b2 := zstf_ok (ty := 0) (v := .int (nI (zpc (N 8)))) g2 zfits_i
  have T0 : TC (zpf (zpf h 11 1 (.int 0)) 11 2 (.int (nI (zpc (N 8))))) (nI 0) (nI (zpc (N 8))) t := by
    refine ⟨zcls_pf.trans (zcls_pf.trans hT.1), (zfld_f (by decide)).trans ((zfld_f (by decide)).trans hT.2.1), ?_, ?_, zrow_pf (zrow_pf hT.2.2.2.2)⟩
    · rw [zfld_f (by decide), zfld_same, hT.2.2.1]; rfl
    · rw [zfld_same, g2]; rfl
  have z0 : zsm tP h (zpf (zpf h 11 1 (.int 0)) 11 2 (.int (nI (zpc (N 8))))) := (zsm_pf.wk (fun a e => Or.inl e)).tr (zsm_pf.wk (fun a e => Or.inl e))
  have e62 : zcall zpp E 62 [.ref 11, .int (nI (zpc (N 8)))] h = some (none, zpf (zpf h 11 1 (.int 0)) 11 2 (.int (nI (zpc (N 8))))) := by
    simp only [ze62, zi62_0, zi62_0n, zi62_1, zi62_2, zi62_5, zi62_5n, zi62_6, zi62_7, zi62_10 (sk := []), zcl1, zlow_0, zlow_1, zlow_2, zlow_3, zlow_4, zfree_0, zfree_i, zfree_r, zfree_n, zfree_d, zfree_f, zfree_s, if_true, if_false, Option.bind_some, Option.toList_some, Option.toList_none, List.cons_append, List.nil_append, List.set_cons_zero, List.set_cons_succ, Bool.false_eq_true, reduceIte, zsw_c, zsw_n, Nat.reduceAdd, b1, b2]
  generalize zpf (zpf h 11 1 (.int 0)) 11 2 (.int (nI (zpc (N 8)))) = ht at *
  have L0 := TC.lk hL z0
  have C0 := hJ.co.keep (z0.2 0 (by unfold tP; omega))
  have fin : ∀ (l : List Int32) (r : Int32) (hr H : zH), zcall zpp E 122 [.ref 0, .int (nI w), .int (nI j)] h = some (some (.int r), hr) → zcall zpp E 226 [.ref 73, .int (nI w), .int (nI j)] hr = some (some (.int r), H) → l.length ≤ 16 → TC hr (nI (0 + l.length)) (nI (zpc (N 8))) (tup t 0 l) → zsm tP h hr → MT H (upd sc 0 0) N (0 + l.length) (tup t 0 l) → zsm uP hr H → OK E h n 122 226 [.int (nI w), .int (nI j)] := by
    intro l r hr H ec em hl Tr zr MTr zm
    have zrf := zr.fr (fun a e => by unfold tP at e; omega)
    have zmf := zm.fr (fun a e => by unfold uP at e; omega)
    have hz : fr (fun a => a = 11 ∨ a = 12 ∨ a = 73 ∨ a = 86) h H := (zrf.wk (fun a e => by unfold tP at e; omega)).tr (zmf.wk (fun a e => by unfold uP at e; omega))
    refine ⟨_, _, _, ec, em, y, s, v, _, N, ⟨hJ.ys, hJ.co.keep (hz.1 _ (by omega) (by omega)), MTr.1, hJ.row.keep hz (fun a ha => by omega), hJ.tape.keep hz (fun a ha => by omega), hJ.img.keep hz (fun a ha => by omega), hJ.act.keep hz (fun a ha => by omega), ?_, hJ.scr.keep hz (fun a ha => by omega), hJ.yc.keep hz (by omega) (fun a h1 h2 => by omega), hJ.my.keep (h' := H) ?_, hJ.wg, hJ.sp.keep hz (by omega) (fun a h1 h2 => by omega)⟩, h1, ((hB.sm zr).sm zm).up (by omega)⟩
    · exact ⟨0 + l.length, _, _, Tr.keep (zm.2 11 (by unfold uP; omega)) (zm.2 12 (by unfold uP; omega)), MTr.2.2, rfl, by omega⟩
    · exact hz.1 77 (by omega) (by omega)
  have mod : ∀ (hr : zH), zsm tP h hr → ∃ w0', zstf [11] 0 hr 73 0 (.int 0) = some w0' ∧ MdO w0' (upd sc 0 0) ∧ zstf [11] 0 w0' 73 24 (.int 0) = some (zpf w0' 73 24 (.int 0)) ∧ MY w0' N ∧ MT (zpf w0' 73 24 (.int 0)) (upd sc 0 0) N 0 t ∧ zsm uP hr (zpf w0' 73 24 (.int 0)) := by
    intro hr zr
    have Mc : MdO hr sc := hJ.md.keep (zr.2 73 (by unfold tP; omega))
    have Yc : MY hr N := hJ.my.keep (zr.2 77 (by unfold tP; omega))
    have Rc : zrow 0 hr 86 16 t := zrow_c (zr.2 86 (by unfold tP; omega)) hR
    refine ⟨_, Mc.st 0 rfl (by omega) 0, Mc.put 0 rfl (by omega) 0, (Mc.put 0 rfl (by omega) 0).st 24 rfl (by omega) 0, Yc.keep (zpf_o (by omega)), ⟨(Mc.put 0 rfl (by omega) 0).put 24 rfl (by omega) 0, (Yc.keep (zpf_o (by omega))).keep (zpf_o (by omega)), zrow_pf (zrow_pf Rc)⟩, (zsm_pf.wk (fun a e => Or.inl e)).tr (zsm_pf.wk (fun a e => Or.inl e))⟩
  obtain rfl | rfl : j = 0 ∨ j = 1 := by omega
  · obtain ⟨hr, er, Tr, zr⟩ := cs_size (E := E) T0 L0 hk
    obtain ⟨w0', u1, u2, u3, u4, u5, u6⟩ := mod hr (z0.tr zr)
    obtain ⟨H, em, MTr, zm⟩ := ms225 (E := E) hW u5 hw (by omega)
    refine fin (szL (N (65 + 2 * w))) (szV (N (65 + 2 * w)) w (N (66 + 2 * w)) (nI (zpc (N 8)))) hr H ?_ ?_ ?_ Tr (z0.tr zr) MTr (u6.tr zm)
    · have hs : zsel (kcls (N (65 + 2 * w))) [1, 11, 2, 17, 3, 27, 4, 59, 7, 59] = some (szM (N (65 + 2 * w))) := by
        obtain e | e | e | e | e : N (65 + 2 * w) = 1 ∨ N (65 + 2 * w) = 2 ∨ N (65 + 2 * w) = 3 ∨ N (65 + 2 * w) = 4 ∨ N (65 + 2 * w) = 5 := by omega
        all_goals (rw [e]; rfl)
      simp only [ze122, zi122_0, zi122_0n, zi122_1, zi122_4, zi122_5, zi122_8, zi122_8n, zi122_9, zi122_9n, zi122_10, zi122_10n, zi122_13, zi122_14, zi122_15, zi122_16, zi122_19, zi122_22, zi122_24 (sk := []), zi122_25, zi122_25n, zi122_26, zi122_29, zi122_29n, zi122_30, zi122_33, zi122_36, zi122_39, zi122_42, zi122_43, zi122_46, zi122_46n, zi122_47, zi122_47n, zi122_48, zi122_51, zi122_54, zi122_57, zi122_57n, zi122_58, zi122_58n, zi122_59, zi122_62, zi122_65 (sk := []), zcl1, zlow_0, zlow_1, zlow_2, zlow_3, zlow_4, zfree_0, zfree_i, zfree_r, zfree_n, zfree_d, zfree_f, zfree_s, if_true, if_false, Option.bind_some, Option.toList_some, Option.toList_none, List.cons_append, List.nil_append, List.set_cons_zero, List.set_cons_succ, Bool.false_eq_true, reduceIte, zsw_c, zsw_n, Nat.reduceAdd, hJ.co.r7, hJ.yn.cls, c1, e, sp_within, hk1, zb_t, z10, hJ.co.r4, hJ.yn.f15, sp_bitCount, zb8.1, hT.1, c2, e62, show (nI 0 = 0) = True by decide, C0.r4, L0.2.1, hs, er]
    · simp only [ze226, zi226_0, zi226_0n, zi226_1, zi226_2, zi226_5, zi226_5n, zi226_6, zi226_7, zi226_8, zi226_11, zi226_14, zi226_15, zi226_16, zi226_17, zi226_18, zi226_21, zi226_24, zi226_26 (sk := []), zi226_27, zi226_27n, zi226_28, zi226_29, zi226_32, zi226_33, zi226_36, zi226_36n, zi226_37, zi226_38, zi226_41, zi226_44, zi226_44n, zi226_45, zi226_46, zi226_49 (sk := []), zcl1, zlow_0, zlow_1, zlow_2, zlow_3, zlow_4, zfree_0, zfree_i, zfree_r, zfree_n, zfree_d, zfree_f, zfree_s, if_true, if_false, Option.bind_some, Option.toList_some, Option.toList_none, List.cons_append, List.nil_append, List.set_cons_zero, List.set_cons_succ, Bool.false_eq_true, reduceIte, zsw_c, zsw_n, Nat.reduceAdd, u1, u2.1, m1, sp_isLifterM u2 u4 rfl, hx, zb_t, z10, i1, hk1, u3, show (nI 0 = 0) = True by decide, u5.1.1, m2, em]
    · unfold szL
      split
      · decide
      · split
        · decide
        · split
          · decide
          · split <;> decide
  · obtain ⟨hr, er, Tr, zr⟩ := cs_mark (E := E) T0 L0 hk
    obtain ⟨w0', u1, u2, u3, u4, u5, u6⟩ := mod hr (z0.tr zr)
    obtain ⟨H, em, MTr, zm⟩ := ms224 (E := E) hW u5 hw (by omega)
    refine fin (mkL (N (65 + 2 * w))) (mkV (N (65 + 2 * w)) w (N (66 + 2 * w)) (nI (zpc (N 8)))) hr H ?_ ?_ ?_ Tr (z0.tr zr) MTr (u6.tr zm)
    · have hs : zsel (kcls (N (65 + 2 * w))) [1, 12, 2, 18, 3, 18, 4, 32, 7, 60] = some (mkM (N (65 + 2 * w))) := by
        obtain e | e | e | e | e : N (65 + 2 * w) = 1 ∨ N (65 + 2 * w) = 2 ∨ N (65 + 2 * w) = 3 ∨ N (65 + 2 * w) = 4 ∨ N (65 + 2 * w) = 5 := by omega
        all_goals (rw [e]; rfl)
      simp only [ze122, zi122_0, zi122_0n, zi122_1, zi122_4, zi122_5, zi122_8, zi122_8n, zi122_9, zi122_9n, zi122_10, zi122_10n, zi122_13, zi122_14, zi122_15, zi122_16, zi122_19, zi122_22, zi122_24 (sk := []), zi122_25, zi122_25n, zi122_26, zi122_29, zi122_29n, zi122_30, zi122_33, zi122_36, zi122_39, zi122_42, zi122_43, zi122_46, zi122_46n, zi122_47, zi122_47n, zi122_48, zi122_51, zi122_54, zi122_57, zi122_57n, zi122_58, zi122_58n, zi122_59, zi122_62, zi122_65 (sk := []), zcl1, zlow_0, zlow_1, zlow_2, zlow_3, zlow_4, zfree_0, zfree_i, zfree_r, zfree_n, zfree_d, zfree_f, zfree_s, if_true, if_false, Option.bind_some, Option.toList_some, Option.toList_none, List.cons_append, List.nil_append, List.set_cons_zero, List.set_cons_succ, Bool.false_eq_true, reduceIte, zsw_c, zsw_n, Nat.reduceAdd, hJ.co.r7, hJ.yn.cls, c1, e, sp_within, hk1, zb_t, z10, hJ.co.r4, hJ.yn.f15, sp_bitCount, zb8.1, hT.1, c2, e62, show (nI 1 = 0) = False by decide, C0.r4, L0.2.1, hs, er]
    · simp only [ze226, zi226_0, zi226_0n, zi226_1, zi226_2, zi226_5, zi226_5n, zi226_6, zi226_7, zi226_8, zi226_11, zi226_14, zi226_15, zi226_16, zi226_17, zi226_18, zi226_21, zi226_24, zi226_26 (sk := []), zi226_27, zi226_27n, zi226_28, zi226_29, zi226_32, zi226_33, zi226_36, zi226_36n, zi226_37, zi226_38, zi226_41, zi226_44, zi226_44n, zi226_45, zi226_46, zi226_49 (sk := []), zcl1, zlow_0, zlow_1, zlow_2, zlow_3, zlow_4, zfree_0, zfree_i, zfree_r, zfree_n, zfree_d, zfree_f, zfree_s, if_true, if_false, Option.bind_some, Option.toList_some, Option.toList_none, List.cons_append, List.nil_append, List.set_cons_zero, List.set_cons_succ, Bool.false_eq_true, reduceIte, zsw_c, zsw_n, Nat.reduceAdd, u1, u2.1, m1, sp_isLifterM u2 u4 rfl, hx, zb_t, z10, i1, hk1, u3, show (nI 1 = 0) = False by decide, u5.1.1, m3, em]
    · unfold mkL
      split
      · decide
      · split
        · decide
        · split
          · decide
          · split <;> decide
end ASKB
