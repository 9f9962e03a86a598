/-! IMAGES -/
theorem CR.of {h : zH} {y : Nat} {F : Nat → Int32} {A : Nat → Nat → Int32} {cr : Nat → Option Nat} (hY : YAt h y F A cr) (hc : crO h cr) : CR h y := by
  obtain ⟨-, -, -, -, g, g1, g2⟩ := hY
  exact ⟨g, g1, fun i hi q hq => hc i hi q (by rw [← g2 i hi]; exact hq)⟩
theorem CR.to {h : zH} {y : Nat} {F : Nat → Int32} {A : Nat → Nat → Int32} {cr : Nat → Option Nat} (hC : CR h y) (hY : YAt h y F A cr) : crO h cr := by
  obtain ⟨-, -, -, -, g, g1, g2⟩ := hY
  obtain ⟨g', e1, e2⟩ := hC
  rw [g1] at e1
  cases e1
  exact fun i hi q hq => e2 i hi q (by rw [g2 i hi]; exact hq)
theorem sp_becomeN {E : zE} {h : zH} {a b : Nat} {N : Nat → Nat} (Sa : SP h a) (Yb : YC h b N) (hd : far a b) (ha : a < 70) (h5 : N 5 ≤ 4) : ∃ h', zcall zpp E 69 [.ref a, .ref b] h = some (none, h') ∧ zsm (yP a) h h' ∧ YC h' a N := by
  obtain ⟨⟨F, A, c, Ya⟩, -⟩ := Sa
  obtain ⟨⟨A', c', Y', b1, b2, b3⟩, hc⟩ := Yb
  obtain ⟨h', B, d, e, z, q1, q2, q3, q4, q5, q6⟩ := sp_become (E := E) Ya Y' hd ha (hc.to Y')
  refine ⟨h', e, z, ⟨B, d, q1, fun k hk => ?_, fun k hk => ?_, fun w hw => ?_⟩, CR.of q1 q5⟩
  · rw [q3 0 (by omega), q3 1 (by omega), q3 2 (by omega), q3 3 (by omega)]
    exact b1 k hk
  · rw [q3 4 (by omega), q3 5 (by omega), q3 6 (by omega)]
    exact b2 k hk
  · obtain ⟨q, g1, g2⟩ := b3 w hw
    exact ⟨q, by rw [q4 w (by omega)]; exact g1, LAt_c (z.up ha) g2⟩
section IMG
variable {E : zE} {h : zH} {n : Nat}
theorem JJ.imgd {h' : zH} {y s : Nat} {v : Int32} {sc : Nat → Int32} {N : Nat → Nat} (hJ : JJ h y s v sc N) (hz : fr (fun a => (50 ≤ a ∧ a ≤ 67) ∨ a = 84 ∨ a = 85) h h') (hI : JImg h') : JJ h' y s v sc N := by
  have hy := hJ.ys
  unfold yys at hy
  exact ⟨hJ.ys, hJ.co.keep (hz.1 _ (by omega) (by omega)), hJ.md.keep (hz.1 _ (by omega) (by omega)), hJ.row.keep hz (fun a ha => by omega), hJ.tape.keep hz (fun a ha => by omega), hI, hJ.act.keep hz (fun a ha => by omega), hJ.tr.keep hz (fun a ha => by omega), hJ.scr.keep hz (fun a ha => by omega), hJ.yc.keep hz (by omega) (fun a h1 h2 => by omega), hJ.my.keep (hz.1 _ (by omega) (by omega)), hJ.wg, hJ.sp.keep hz (by omega) (fun a h1 h2 => by omega)⟩
theorem imgL {sc : Nat → Int32} {k : Nat} {N : Nat → Nat} (hk : k < 2) : ∀ (c j : Nat) (H : zH) (g : Nat → Int32), j + c = 73 → MdO H sc → MY H N → zrow 0 H 85 146 g → ∃ H' g', zrun zpp E 216 (30, [.ref 73, .int (nI k), .int (nI j)], [], H) = zrun zpp E 216 (59, [.ref 73, .int (nI k), .int (nI 73)], [], H') ∧ MdO H' sc ∧ zrow 0 H' 85 146 g' ∧ (∀ i, i < 73 * k + j ∨ 73 * k + 73 ≤ i → g' i = g i) ∧ (∀ i, j ≤ i → i < 73 → g' (73 * k + i) = nI (N i)) ∧ zsm (fun x => x = 85) H H' := by
  intro c
  induction c with
  | zero =>
    intro j H g hj hM hY hg
    rw [show j = 73 by omega]
    refine ⟨H, g, ?_, hM, hg, fun _ _ => rfl, fun i h1 h2 => by omega, zsm.rf H⟩
    conv =>
      lhs
      simp only [zi216_30, zi216_31, zcl1, zlow_0, zlow_1, zlow_2, zlow_3, zlow_4, zfree_0, zfree_i, zfree_r, zfree_n, zfree_d, zfree_f, zfree_s, if_true, if_false, Option.bind_some, Option.toList_some, Option.toList_none, List.cons_append, List.nil_append, List.set_cons_zero, List.set_cons_succ, Bool.false_eq_true, reduceIte, zsw_c, zsw_n, Nat.reduceAdd]
    rw [zi216_33, if_pos (by rw [show (73 : Int32) = nI 73 from rfl, nI_leP (by omega) (by omega)]; omega)]
  | succ c ih =>
    intro j H g hj hM hY hg
    have w := zars_at (j := 73 * k + j) (x := nI (N j)) hg (by omega) (by omega) zfits_i
    obtain ⟨H', g', e, q1, q2, q3, q4, q5⟩ := ih (j + 1) (zpa H 85 (73 * k + j) (nI (N j))) (upd g (73 * k + j) (nI (N j))) (by omega) hM.pa (hY.keep (zpa_o (by omega))) (zrow_pa hg)
    refine ⟨H', g', ?_, q1, q2, fun i hi => ?_, fun i h1 h2 => ?_, zsm_pa.tr q5⟩
    · rw [← e]
      conv =>
        lhs
        simp only [zi216_30, zi216_31, zcl1, zlow_0, zlow_1, zlow_2, zlow_3, zlow_4, zfree_0, zfree_i, zfree_r, zfree_n, zfree_d, zfree_f, zfree_s, if_true, if_false, Option.bind_some, Option.toList_some, Option.toList_none, List.cons_append, List.nil_append, List.set_cons_zero, List.set_cons_succ, Bool.false_eq_true, reduceIte, zsw_c, zsw_n, Nat.reduceAdd]
      rw [zi216_33, if_neg (by rw [show (73 : Int32) = nI 73 from rfl, nI_leP (by omega) (by omega)]; omega)]
      conv =>
        lhs
        simp only [zi216_36, zi216_36n, zi216_37, zi216_40, zi216_42, zi216_43, zi216_44, zi216_45, zi216_46, zi216_46n, zi216_47, zi216_50, zi216_51, zi216_52, zi216_53, zi216_56, zcl1, zlow_0, zlow_1, zlow_2, zlow_3, zlow_4, zfree_0, zfree_i, zfree_r, zfree_n, zfree_d, zfree_f, zfree_s, if_true, if_false, Option.bind_some, Option.toList_some, Option.toList_none, List.cons_append, List.nil_append, List.set_cons_zero, List.set_cons_succ, Bool.false_eq_true, reduceIte, zsw_c, zsw_n, Nat.reduceAdd, hM.r22, ix_73, hM.r5, hY.at (show j < 73 by omega) rfl, w, ix_p1]
    · rw [q3 i (by omega)]
      unfold upd
      rw [if_neg (by omega)]
    · by_cases hij : i = j
      · subst hij
        rw [q3 (73 * k + i) (by omega)]
        unfold upd
        rw [if_pos rfl]
      · exact q4 i (by omega) h2
theorem ok_image (hJ : J h n) {x : Int32} : OK E h n 118 216 [.int x] := by
  obtain ⟨y, s, v, sc, N, hJ, h1, hB⟩ := hJ
  have M1 := hJ.md.put 0 rfl (by omega) 0
  have w0 := hJ.md.st 0 rfl (by omega) 0
  have Y1 : MY (zpf h 73 0 (.int 0)) N := hJ.my.keep (zpf_o (by omega))
  have hy := hJ.ys
  unfold yys at hy
  have c1 : zsel 9 [9, 70] = some 70 := rfl
  have c2 : zsel 9 [9, 69] = some 69 := rfl
  have m1 : zsel 11 [11, 172] = some 172 := rfl
  have i1 := fun (H : zH) => sp_inI (E := E) (h := H) (u := x.toInt64) (v := 0) (w := 1) (x := x) (a := 0) (b := 1) rfl (by decide) (by decide)
  rcases zbt_or x 0 1 (by omega) (by omega) with hx | ⟨k, -, hk, rfl, hx⟩
  · have hx : (decide (0 ≤ x) && decide (x ≤ 1)) = false := hx
    refine ⟨(-1000001), h, zpf h 73 0 (.int 0), ?_, ?_, hJ.q h1 hB⟩
    · simp only [ze118, zi118_0, zi118_1, zi118_2, zi118_3, zi118_6, zi118_9, zi118_11 (sk := []), zi118_12, zi118_12n, zi118_13, zi118_16, zi118_19, zi118_22, zi118_24 (sk := []), zi118_25, zi118_25n, zi118_26, zi118_29, zi118_30, zi118_31, zi118_31n, zi118_32, zi118_35, zi118_38, zi118_39 (sk := []), zcl1, zlow_0, zlow_1, zlow_2, zlow_3, zlow_4, zfree_0, zfree_i, zfree_r, zfree_n, zfree_d, zfree_f, zfree_s, if_true, if_false, Option.bind_some, Option.toList_some, Option.toList_none, List.cons_append, List.nil_append, List.set_cons_zero, List.set_cons_succ, Bool.false_eq_true, reduceIte, zsw_c, zsw_n, Nat.reduceAdd, sp_within, hx, zb_f, z00]
    · simp only [ze216, zi216_0, zi216_0n, zi216_1, zi216_2, zi216_5, zi216_6, zi216_7, zi216_8, zi216_9, zi216_12, zi216_15, zi216_17 (sk := []), zi216_18, zi216_18n, zi216_19, zi216_22, zi216_25, zi216_27 (sk := []), zcl1, zlow_0, zlow_1, zlow_2, zlow_3, zlow_4, zfree_0, zfree_i, zfree_r, zfree_n, zfree_d, zfree_f, zfree_s, if_true, if_false, Option.bind_some, Option.toList_some, Option.toList_none, List.cons_append, List.nil_append, List.set_cons_zero, List.set_cons_succ, Bool.false_eq_true, reduceIte, zsw_c, zsw_n, Nat.reduceAdd, w0, i1, hx, zb_f, z00]
  have hx : (decide (0 ≤ nI k) && decide (nI k ≤ 1)) = true := hx
  rcases hJ.wg.cs with ⟨d1, d2, -⟩ | ⟨d1, d2, hW, hWL⟩
  · refine ⟨(-1000002), h, zpf h 73 0 (.int 0), ?_, ?_, hJ.q h1 hB⟩
    · simp only [ze118, zi118_0, zi118_1, zi118_2, zi118_3, zi118_6, zi118_9, zi118_11 (sk := []), zi118_12, zi118_12n, zi118_13, zi118_16, zi118_19, zi118_22, zi118_24 (sk := []), zi118_25, zi118_25n, zi118_26, zi118_29, zi118_30, zi118_31, zi118_31n, zi118_32, zi118_35, zi118_38, zi118_39 (sk := []), zcl1, zlow_0, zlow_1, zlow_2, zlow_3, zlow_4, zfree_0, zfree_i, zfree_r, zfree_n, zfree_d, zfree_f, zfree_s, if_true, if_false, Option.bind_some, Option.toList_some, Option.toList_none, List.cons_append, List.nil_append, List.set_cons_zero, List.set_cons_succ, Bool.false_eq_true, reduceIte, zsw_c, zsw_n, Nat.reduceAdd, sp_within, hx, zb_t, z10, hJ.co.r7, hJ.yn.cls, c1, sp_isRead hJ.wg.h3 hJ.yn, d1, zb_f, z00]
    · simp only [ze216, zi216_0, zi216_0n, zi216_1, zi216_2, zi216_5, zi216_6, zi216_7, zi216_8, zi216_9, zi216_12, zi216_15, zi216_17 (sk := []), zi216_18, zi216_18n, zi216_19, zi216_22, zi216_25, zi216_27 (sk := []), zcl1, zlow_0, zlow_1, zlow_2, zlow_3, zlow_4, zfree_0, zfree_i, zfree_r, zfree_n, zfree_d, zfree_f, zfree_s, if_true, if_false, Option.bind_some, Option.toList_some, Option.toList_none, List.cons_append, List.nil_append, List.set_cons_zero, List.set_cons_succ, Bool.false_eq_true, reduceIte, zsw_c, zsw_n, Nat.reduceAdd, w0, i1, hx, zb_t, z10, M1.1, m1, sp_isThere M1 Y1 hJ.wg.h0, d2, zb_f, z00]
  obtain ⟨⟨⟨g, g1, g2⟩, hG⟩, I, ik, kp, p1, p2, p3⟩ := hJ.img
  obtain ⟨hr, er, zr, Yr⟩ := sp_becomeN (E := E) (p1 k (by omega)).1.sp hJ.yc (by unfold far; omega) (by omega) hJ.wg.h5
  have ha : zara h 4 (nI k) = some (.ref (50 + 9 * k)) := by
    unfold zara
    rw [g1]
    simp only [zix_nI (show k < 2 by omega) (by omega), nI_clamp (show k < 2 ^ 31 by omega), g2 k (by omega), zart]
    rfl
  have ec : zcall zpp E 118 [.ref 0, .int (nI k)] h = some (some (.int 1), hr) := by
    simp only [ze118, zi118_0, zi118_1, zi118_2, zi118_3, zi118_6, zi118_9, zi118_11 (sk := []), zi118_12, zi118_12n, zi118_13, zi118_16, zi118_19, zi118_22, zi118_24 (sk := []), zi118_25, zi118_25n, zi118_26, zi118_29, zi118_30, zi118_31, zi118_31n, zi118_32, zi118_35, zi118_38, zi118_39 (sk := []), zcl1, zlow_0, zlow_1, zlow_2, zlow_3, zlow_4, zfree_0, zfree_i, zfree_r, zfree_n, zfree_d, zfree_f, zfree_s, if_true, if_false, Option.bind_some, Option.toList_some, Option.toList_none, List.cons_append, List.nil_append, List.set_cons_zero, List.set_cons_succ, Bool.false_eq_true, reduceIte, zsw_c, zsw_n, Nat.reduceAdd, sp_within, hx, zb_t, z10, hJ.co.r7, hJ.yn.cls, c1, sp_isRead hJ.wg.h3 hJ.yn, d1, hJ.co.r2, ha, (p1 k (by omega)).1.1.cls, c2, er]
  have zf := zr.fr (fun a e => by unfold yP at e; omega)
  have Mc : MdO hr sc := hJ.md.keep (zr.2 73 (by unfold yP; omega))
  have Yc : MY hr N := hJ.my.keep (zr.2 77 (by unfold yP; omega))
  have v0 := Mc.st 0 rfl (by omega) 0
  have M2 := Mc.put 0 rfl (by omega) 0
  have Y2 : MY (zpf hr 73 0 (.int 0)) N := Yc.keep (zpf_o (by omega))
  have R79 : zrow 0 hr 85 146 kp := zrow_c (zr.2 85 (by unfold yP; omega)) p3
  have R78 : zrow 1 hr 84 2 ik := zrow_c (zr.2 84 (by unfold yP; omega)) p2
  obtain ⟨H, g', e, q1, q2, q3, q4, q5⟩ := imgL (E := E) (k := k) (by omega) 73 0 _ _ (by omega) M2 Y2 (zrow_pf R79)
  have S78 : zrow 1 H 84 2 ik := zrow_c (q5.2 84 (by omega)) (zrow_pf R78)
  have wk := zars_at (t := 1) (j := k) (x := 1) S78 (by omega) (by omega) rfl
  have em : zcall zpp E 216 [.ref 73, .int (nI k)] hr = some (some (.int 1), zpa H 84 k 1) := by
    have e0 : zcall zpp E 216 [.ref 73, .int (nI k)] hr = zrun zpp E 216 (30, [.ref 73, .int (nI k), .int (nI 0)], [], zpf hr 73 0 (.int 0)) := by
      conv =>
        lhs
        simp only [ze216, zi216_0, zi216_0n, zi216_1, zi216_2, zi216_5, zi216_6, zi216_7, zi216_8, zi216_9, zi216_12, zi216_15, zi216_17 (sk := []), zi216_18, zi216_18n, zi216_19, zi216_22, zi216_25, zi216_27 (sk := []), zi216_28, zi216_29, zcl1, zlow_0, zlow_1, zlow_2, zlow_3, zlow_4, zfree_0, zfree_i, zfree_r, zfree_n, zfree_d, zfree_f, zfree_s, if_true, if_false, Option.bind_some, Option.toList_some, Option.toList_none, List.cons_append, List.nil_append, List.set_cons_zero, List.set_cons_succ, Bool.false_eq_true, reduceIte, zsw_c, zsw_n, Nat.reduceAdd, v0, i1, hx, zb_t, z10, M2.1, m1, sp_isThere M2 Y2 hJ.wg.h0, d2]
      rfl
    rw [e0, e]
    simp only [zi216_59, zi216_59n, zi216_60, zi216_63, zi216_64, zi216_65, zi216_66, zi216_67 (sk := []), zcl1, zlow_0, zlow_1, zlow_2, zlow_3, zlow_4, zfree_0, zfree_i, zfree_r, zfree_n, zfree_d, zfree_f, zfree_s, if_true, if_false, Option.bind_some, Option.toList_some, Option.toList_none, List.cons_append, List.nil_append, List.set_cons_zero, List.set_cons_succ, Bool.false_eq_true, reduceIte, zsw_c, zsw_n, Nat.reduceAdd, q1.r21, wk]
  have J1 : JJ (zpf h 73 0 (.int 0)) y s v (upd sc 0 0) N := hJ.mi 0 rfl (by omega) 0 (by omega) (by omega) (by omega) (by omega)
  have zz : zsm (fun a => yP (50 + 9 * k) a ∨ a = 73 ∨ a = 84 ∨ a = 85) h (zpa H 84 k 1) := (((zr.wk (fun a e => Or.inl e)).tr (zsm_pf.wk (fun a e => Or.inr (Or.inl e)))).tr (q5.wk (fun a e => Or.inr (Or.inr (Or.inr e))))).tr (zsm_pa.wk (fun a e => Or.inr (Or.inr (Or.inl e))))
  have zzf := zz.fr (fun a e => by unfold yP at e; omega)
  have MF : MdO (zpa H 84 k 1) (upd sc 0 0) := q1.pa
  have IF : JImg (zpa H 84 k 1) := by
    refine ⟨⟨⟨g, (zz.2 4 (by unfold yP; omega)).trans g1, g2⟩, hG.keep zzf (fun a ha => by unfold yP; omega)⟩, fun j => if j = k then N else I j, upd ik k 1, g', fun j hj => ?_, zrow_pa S78, zrow_o (by omega) q2⟩
    by_cases hjk : j = k
    · subst hjk
      show YC _ _ (if j = j then N else I j) ∧ WG (if j = j then N else I j) ∧ upd ik j 1 j = zb (decide (0 < (if j = j then N else I j) 3)) ∧ _
      rw [if_pos rfl]
      refine ⟨Yr.keep (P := fun a => a = 73 ∨ a = 84 ∨ a = 85) ((((fr_pf (by omega)).wk (fun a e => Or.inl e)).tr ((q5.fr (fun a e => by omega)).wk (fun a e => Or.inr (Or.inr e)))).tr ((fr_pa (by omega)).wk (fun a e => Or.inr (Or.inl e)))) (by omega) (fun a h1 h2 => by omega), hJ.wg, ?_, fun i hi => by
        show g' (73 * j + i) = nI ((if j = j then N else I j) i)
        rw [if_pos rfl]
        exact q4 i (by omega) hi⟩
      rw [d1]
      unfold upd
      rw [if_pos rfl]
      rfl
    · show YC _ _ (if j = k then N else I j) ∧ WG (if j = k then N else I j) ∧ upd ik k 1 j = zb (decide (0 < (if j = k then N else I j) 3)) ∧ ∀ i, i < 73 → g' (73 * j + i) = nI ((if j = k then N else I j) i)
      rw [if_neg hjk]
      obtain ⟨t1, t2, t3, t4⟩ := p1 j hj
      refine ⟨t1.keep zzf (by omega) (fun a h1 h2 => by unfold yP; omega), t2, ?_, fun i hi => ?_⟩
      · unfold upd
        rw [if_neg hjk]
        exact t3
      · rw [q3 _ (by omega)]
        exact t4 i hi
  refine ⟨_, _, _, ec, em, y, s, v, upd sc 0 0, N, ?_, h1, (hB.sm zz).up (by omega)⟩
  have zq : fr (fun a => (50 ≤ a ∧ a ≤ 67) ∨ a = 84 ∨ a = 85) (zpf h 73 0 (.int 0)) (zpa H 84 k 1) := by
    refine ⟨fun a h1 h2 => ?_, fun a h1 c h2 => ?_⟩
    · by_cases h67 : a = 73
      · subst h67
        have e1 : (zpf hr 73 0 (.int 0))[73]? = (zpf h 73 0 (.int 0))[73]? := by
          unfold zpf
          rw [zr.2 73 (by unfold yP; omega)]
          split
          · rename_i c fs hc
            rw [List.getElem?_set_self (List.getElem?_eq_some_iff.mp hc).1, List.getElem?_set_self (by rw [zr.1.1]; exact (List.getElem?_eq_some_iff.mp hc).1)]
          · exact zr.2 73 (by unfold yP; omega)
        rw [zpa_o (by omega), q5.2 73 (by omega), e1]
      · rw [zzf.1 a h1 (by unfold yP; omega), zpf_o (fun z => h67 z.symm)]
    · rw [zpf_o (by omega)] at h2
      exact zzf.2 a h1 c h2
  exact J1.imgd zq IF
theorem rstL {sc m : Nat → Int32} {k : Nat} {P : Nat → Nat} (hk : k < 2) (hP : ∀ i, i < 73 → m (73 * k + i) = nI (P i)) : ∀ (c j : Nat) (H : zH) (g : Nat → Int32), j + c = 73 → MdO H sc → zrow 0 H 85 146 m → zrow 0 H 77 73 g → (∀ i, i < j → g i = nI (P i)) → ∃ H', zrun zpp E 217 (32, [.ref 73, .int (nI k), .int (nI j)], [], H) = zrun zpp E 217 (61, [.ref 73, .int (nI k), .int (nI 73)], [], H') ∧ MdO H' sc ∧ MY H' P ∧ zsm (fun x => x = 77) H H' := by
  intro c
  induction c with
  | zero =>
    intro j H g hj hM hm hg hgi
    refine ⟨H, ?_, hM, zrow_ext hg (fun i hi => hgi i (by omega)), zsm.rf H⟩
    rw [show j = 73 by omega]
    conv =>
      lhs
      simp only [zi217_32, zi217_33, zcl1, zlow_0, zlow_1, zlow_2, zlow_3, zlow_4, zfree_0, zfree_i, zfree_r, zfree_n, zfree_d, zfree_f, zfree_s, if_true, if_false, Option.bind_some, Option.toList_some, Option.toList_none, List.cons_append, List.nil_append, List.set_cons_zero, List.set_cons_succ, Bool.false_eq_true, reduceIte, zsw_c, zsw_n, Nat.reduceAdd]
    rw [zi217_35, if_pos (by rw [show (73 : Int32) = nI 73 from rfl, nI_leP (by omega) (by omega)]; omega)]
  | succ c ih =>
    intro j H g hj hM hm hg hgi
    have r := zarr_at (j := 73 * k + j) hm (by omega) (by omega)
    rw [hP j (by omega)] at r
    have w := zars_at (j := j) (x := nI (P j)) hg (by omega) (by omega) zfits_i
    obtain ⟨H', e, q1, q2, q3⟩ := ih (j + 1) (zpa H 77 j (nI (P j))) (upd g j (nI (P j))) (by omega) hM.pa (zrow_o (by omega) hm) (zrow_pa hg) (fun i hi => by
      unfold upd
      by_cases hij : i = j
      · subst hij; rw [if_pos rfl]
      · rw [if_neg hij]; exact hgi i (by omega))
    refine ⟨H', ?_, q1, q2, zsm_pa.tr q3⟩
    rw [← e]
    conv =>
      lhs
      simp only [zi217_32, zi217_33, zcl1, zlow_0, zlow_1, zlow_2, zlow_3, zlow_4, zfree_0, zfree_i, zfree_r, zfree_n, zfree_d, zfree_f, zfree_s, if_true, if_false, Option.bind_some, Option.toList_some, Option.toList_none, List.cons_append, List.nil_append, List.set_cons_zero, List.set_cons_succ, Bool.false_eq_true, reduceIte, zsw_c, zsw_n, Nat.reduceAdd]
    rw [zi217_35, if_neg (by rw [show (73 : Int32) = nI 73 from rfl, nI_leP (by omega) (by omega)]; omega)]
    conv =>
      lhs
      simp only [zi217_38, zi217_38n, zi217_39, zi217_42, zi217_43, zi217_43n, zi217_44, zi217_47, zi217_49, zi217_50, zi217_51, zi217_52, zi217_53, zi217_54, zi217_55, zi217_58, zcl1, zlow_0, zlow_1, zlow_2, zlow_3, zlow_4, zfree_0, zfree_i, zfree_r, zfree_n, zfree_d, zfree_f, zfree_s, if_true, if_false, Option.bind_some, Option.toList_some, Option.toList_none, List.cons_append, List.nil_append, List.set_cons_zero, List.set_cons_succ, Bool.false_eq_true, reduceIte, zsw_c, zsw_n, Nat.reduceAdd, hM.r5, hM.r22, ix_73, r, w, ix_p1]
theorem ok_restore (hJ : J h n) {x : Int32} : OK E h n 119 217 [.int x] := by
  obtain ⟨y, s, v, sc, N, hJ, h1, hB⟩ := hJ
  have M1 := hJ.md.put 0 rfl (by omega) 0
  have w0 := hJ.md.st 0 rfl (by omega) 0
  have hy := hJ.ys
  unfold yys at hy
  have c1 : zsel 9 [9, 70] = some 70 := rfl
  have c2 : zsel 9 [9, 69] = some 69 := rfl
  have c3 : zsel 0 [0, 2] = some 2 := rfl
  have i1 := fun (H : zH) => sp_inI (E := E) (h := H) (u := x.toInt64) (v := 0) (w := 1) (x := x) (a := 0) (b := 1) rfl (by decide) (by decide)
  rcases zbt_or x 0 1 (by omega) (by omega) with hx | ⟨k, -, hk, rfl, hx⟩
  · have hx : (decide (0 ≤ x) && decide (x ≤ 1)) = false := hx
    refine ⟨(-1000001), h, zpf h 73 0 (.int 0), ?_, ?_, hJ.q h1 hB⟩
    · simp only [ze119, zi119_0, zi119_1, zi119_2, zi119_3, zi119_6, zi119_9, zi119_11 (sk := []), zi119_12, zi119_12n, zi119_13, zi119_16, zi119_17, zi119_18, zi119_21, zi119_24, zi119_26 (sk := []), zi119_27, zi119_27n, zi119_28, zi119_31, zi119_31n, zi119_32, zi119_35, zi119_36, zi119_37, zi119_40, zi119_40n, zi119_41, zi119_44, zi119_47, zi119_48 (sk := []), zcl1, zlow_0, zlow_1, zlow_2, zlow_3, zlow_4, zfree_0, zfree_i, zfree_r, zfree_n, zfree_d, zfree_f, zfree_s, if_true, if_false, Option.bind_some, Option.toList_some, Option.toList_none, List.cons_append, List.nil_append, List.set_cons_zero, List.set_cons_succ, Bool.false_eq_true, reduceIte, zsw_c, zsw_n, Nat.reduceAdd, sp_within, hx, zb_f, z00]
    · simp only [ze217, zi217_0, zi217_0n, zi217_1, zi217_2, zi217_5, zi217_6, zi217_7, zi217_8, zi217_9, zi217_12, zi217_15, zi217_17 (sk := []), zi217_18, zi217_18n, zi217_19, zi217_22, zi217_23, zi217_24, zi217_27, zi217_29 (sk := []), zcl1, zlow_0, zlow_1, zlow_2, zlow_3, zlow_4, zfree_0, zfree_i, zfree_r, zfree_n, zfree_d, zfree_f, zfree_s, if_true, if_false, Option.bind_some, Option.toList_some, Option.toList_none, List.cons_append, List.nil_append, List.set_cons_zero, List.set_cons_succ, Bool.false_eq_true, reduceIte, zsw_c, zsw_n, Nat.reduceAdd, w0, i1, hx, zb_f, z00]
  have hx : (decide (0 ≤ nI k) && decide (nI k ≤ 1)) = true := hx
  obtain ⟨⟨⟨g, g1, g2⟩, hG⟩, I, ik, kp, p1, p2, p3⟩ := hJ.img
  obtain ⟨t1, t2, t3, t4⟩ := p1 k (by omega)
  have ha : ∀ H : zH, H[4]? = h[4]? → zara H 4 (nI k) = some (.ref (50 + 9 * k)) := by
    intro H eH
    unfold zara
    rw [eH, g1]
    simp only [zix_nI (show k < 2 by omega) (by omega), nI_clamp (show k < 2 ^ 31 by omega), g2 k (by omega), zart]
    rfl
  have r78 := zarr_at (j := k) (zrow_pf (a := 73) (f' := 0) (v := .int 0) p2) (by omega) (by omega)
  rcases t2.cs with ⟨d1, d2, -⟩ | ⟨d1, d2, hW, hWL⟩
  · rw [t3, d1] at r78
    refine ⟨(-1000002), h, zpf h 73 0 (.int 0), ?_, ?_, hJ.q h1 hB⟩
    · simp only [ze119, zi119_0, zi119_1, zi119_2, zi119_3, zi119_6, zi119_9, zi119_11 (sk := []), zi119_12, zi119_12n, zi119_13, zi119_16, zi119_17, zi119_18, zi119_21, zi119_24, zi119_26 (sk := []), zi119_27, zi119_27n, zi119_28, zi119_31, zi119_31n, zi119_32, zi119_35, zi119_36, zi119_37, zi119_40, zi119_40n, zi119_41, zi119_44, zi119_47, zi119_48 (sk := []), zcl1, zlow_0, zlow_1, zlow_2, zlow_3, zlow_4, zfree_0, zfree_i, zfree_r, zfree_n, zfree_d, zfree_f, zfree_s, if_true, if_false, Option.bind_some, Option.toList_some, Option.toList_none, List.cons_append, List.nil_append, List.set_cons_zero, List.set_cons_succ, Bool.false_eq_true, reduceIte, zsw_c, zsw_n, Nat.reduceAdd, sp_within, hx, zb_t, z10, hJ.co.r2, ha h rfl, t1.1.cls, c1, sp_isRead t2.h3 t1.1, d1, zb_f, z00]
    · simp only [ze217, zi217_0, zi217_0n, zi217_1, zi217_2, zi217_5, zi217_6, zi217_7, zi217_8, zi217_9, zi217_12, zi217_15, zi217_17 (sk := []), zi217_18, zi217_18n, zi217_19, zi217_22, zi217_23, zi217_24, zi217_27, zi217_29 (sk := []), zcl1, zlow_0, zlow_1, zlow_2, zlow_3, zlow_4, zfree_0, zfree_i, zfree_r, zfree_n, zfree_d, zfree_f, zfree_s, if_true, if_false, Option.bind_some, Option.toList_some, Option.toList_none, List.cons_append, List.nil_append, List.set_cons_zero, List.set_cons_succ, Bool.false_eq_true, reduceIte, zsw_c, zsw_n, Nat.reduceAdd, w0, i1, hx, zb_t, z10, M1.r21, r78, zb_f, z00]
  obtain ⟨hr, er, zr, Yr⟩ := sp_becomeN (E := E) hJ.yc.sp t1 (by unfold far; omega) (by omega) t2.h5
  obtain ⟨A, R, V, m, a1, a2, a3, a4, a5, a6⟩ := hJ.act
  have C1 := hJ.co.keep (zr.2 0 (by unfold yP; omega))
  have A1 : AC hr A R := a3.keep (fun a ha => zr.2 a (by unfold aP at ha; unfold yP; omega))
  obtain ⟨hs, es, A2, zs⟩ := sp_forget (E := E) A1
  have ec : zcall zpp E 119 [.ref 0, .int (nI k)] h = some (some (.int 1), hs) := by
    simp only [ze119, zi119_0, zi119_1, zi119_2, zi119_3, zi119_6, zi119_9, zi119_11 (sk := []), zi119_12, zi119_12n, zi119_13, zi119_16, zi119_17, zi119_18, zi119_21, zi119_24, zi119_26 (sk := []), zi119_27, zi119_27n, zi119_28, zi119_31, zi119_31n, zi119_32, zi119_35, zi119_36, zi119_37, zi119_40, zi119_40n, zi119_41, zi119_44, zi119_47, zi119_48 (sk := []), zcl1, zlow_0, zlow_1, zlow_2, zlow_3, zlow_4, zfree_0, zfree_i, zfree_r, zfree_n, zfree_d, zfree_f, zfree_s, if_true, if_false, Option.bind_some, Option.toList_some, Option.toList_none, List.cons_append, List.nil_append, List.set_cons_zero, List.set_cons_succ, Bool.false_eq_true, reduceIte, zsw_c, zsw_n, Nat.reduceAdd, sp_within, hx, zb_t, z10, hJ.co.r2, ha h rfl, t1.1.cls, c1, sp_isRead t2.h3 t1.1, d1, hJ.co.r7, hJ.yn.cls, c2, er, C1.r3, A1.1, c3, es]
  have zc : zsm (fun a => yP y a ∨ aP a) h hs := (zr.wk (fun a e => Or.inl e)).tr (zs.wk (fun a e => Or.inr e))
  have Mc : MdO hs sc := hJ.md.keep (zc.2 73 (by unfold yP aP; omega))
  have Yc : MY hs N := hJ.my.keep (zc.2 77 (by unfold yP aP; omega))
  have v0 := Mc.st 0 rfl (by omega) 0
  have M2 := Mc.put 0 rfl (by omega) 0
  have R79 : zrow 0 hs 85 146 kp := zrow_c (zc.2 85 (by unfold yP aP; omega)) p3
  have R78 : zrow 1 hs 84 2 ik := zrow_c (zc.2 84 (by unfold yP aP; omega)) p2
  have s78 := zarr_at (j := k) (zrow_pf (a := 73) (f' := 0) (v := .int 0) R78) (by omega) (by omega)
  rw [t3, d1] at s78
  obtain ⟨H, e, q1, q2, q3⟩ := rstL (E := E) (k := k) (P := I k) (m := kp) (by omega) t4 73 0 _ _ (by omega) M2 (zrow_pf R79) (zrow_pf Yc) (fun i hi => by omega)
  have w8 := q1.st 8 rfl (by omega) 0
  have MF := q1.put 8 rfl (by omega) 0
  have em : zcall zpp E 217 [.ref 73, .int (nI k)] hs = some (some (.int 1), zpf H 73 8 (.int 0)) := by
    have e0 : zcall zpp E 217 [.ref 73, .int (nI k)] hs = zrun zpp E 217 (32, [.ref 73, .int (nI k), .int (nI 0)], [], zpf hs 73 0 (.int 0)) := by
      conv =>
        lhs
        simp only [ze217, zi217_0, zi217_0n, zi217_1, zi217_2, zi217_5, zi217_6, zi217_7, zi217_8, zi217_9, zi217_12, zi217_15, zi217_17 (sk := []), zi217_18, zi217_18n, zi217_19, zi217_22, zi217_23, zi217_24, zi217_27, zi217_29 (sk := []), zi217_30, zi217_31, zcl1, zlow_0, zlow_1, zlow_2, zlow_3, zlow_4, zfree_0, zfree_i, zfree_r, zfree_n, zfree_d, zfree_f, zfree_s, if_true, if_false, Option.bind_some, Option.toList_some, Option.toList_none, List.cons_append, List.nil_append, List.set_cons_zero, List.set_cons_succ, Bool.false_eq_true, reduceIte, zsw_c, zsw_n, Nat.reduceAdd, v0, i1, hx, zb_t, z10, M2.r21, s78]
      rfl
    rw [e0, e]
    simp only [zi217_61, zi217_61n, zi217_62, zi217_63, zi217_66, zi217_67 (sk := []), zcl1, zlow_0, zlow_1, zlow_2, zlow_3, zlow_4, zfree_0, zfree_i, zfree_r, zfree_n, zfree_d, zfree_f, zfree_s, if_true, if_false, Option.bind_some, Option.toList_some, Option.toList_none, List.cons_append, List.nil_append, List.set_cons_zero, List.set_cons_succ, Bool.false_eq_true, reduceIte, zsw_c, zsw_n, Nat.reduceAdd, w8]
  have zm : zsm (fun a => a = 73 ∨ a = 77 ∨ a = 79) hs (zpf H 73 8 (.int 0)) := ((zsm_pf.wk (fun a e => Or.inl e)).tr (q3.wk (fun a e => Or.inr (Or.inl e)))).tr (zsm_pf.wk (fun a e => Or.inl e))
  have zmf := zm.fr (fun a e => by omega)
  have zcf := zc.fr (fun a e => by unfold yP aP at e; omega)
  refine ⟨_, _, _, ec, em, y, s, v, _, I k, hJ.acted ((zcf.wk (fun a e => by
    rcases e with e | e
    · exact Or.inl e
    · exact Or.inr (Or.inl e))).tr (zmf.wk (fun a e => Or.inr (Or.inr e)))) MF (fun j hj h0 => by unfold upd; rw [if_neg hj, if_neg h0]) ?_ ?_ (q2.keep (zpf_o (by omega))) t2, h1, ((hB.sm zc).sm zm).up (by omega)⟩
  · refine ⟨0, R, fun _ => I k, m, by omega, rfl, A2.keep (fun a ha => zmf.1 a (by unfold aP at ha; omega) (by unfold aP at ha; omega)), zrow_c (zpf_o (by omega)) (zrow_c (q3.2 79 (by omega)) (zrow_pf (zrow_c (zc.2 79 (by unfold yP aP; omega)) a4))), rfl, fun j hj => by omega⟩
  · exact (Yr.keep (zs.fr (fun a e => by unfold aP at e; omega)) (by omega) (fun a h1 h2 => by unfold aP; omega)).keep zmf (by omega) (fun a h1 h2 => by omega)
end IMG
