theorem sp_someManages {E : zE} {h : zH} {y s b c : Nat} {N : Nat → Nat} (hW : WF N) (hY : YN h y N) (hs : s < 256) (hb : b < N 3) (hc : c ≤ 10) : zcall zpp E 84 [.ref y, .int (nI s), .int (nI b), .int (nI c)] h = some (some (.int (zb (smF N s b c (N 5)))), h) := by
  have h3 := hW.2.2.2.1.2
  have h5 := hW.2.2.2.2.2.1
  have hwt := (hW.2.2.2.2.2.2.2.1 b hb).1.2
  have hlf := hW.2.2.2.2.2.2.2.2.2.2
  have loop : ∀ (n k : Nat) (v5 : Value), k + n = N 5 → smF N s b c k = false → zrun zpp E 84 (3, [.ref y, .int (nI s), .int (nI b), .int (nI c), .int (nI k), v5], [], h) = some (some (.int (zb (smF N s b c (N 5)))), h) := by
    intro n
    induction n with
    | zero =>
      intro k v5 hk hf
      simp only [zi84_3, zi84_5, zi84_5n, zi84_6, zcl1, zlow_0, zlow_1, zlow_2, zlow_3, zlow_4, zfree_0, zfree_i, zfree_r, zfree_n, zfree_d, zfree_f, zfree_s, if_true, if_false, Option.bind_some, Option.toList_some, Option.toList_none, List.cons_append, List.nil_append, List.set_cons_zero, List.set_cons_succ, Bool.false_eq_true, reduceIte, zsw_c, zsw_n, Nat.reduceAdd, hY.f5]
      rw [zi84_9, if_pos (by rw [nI_leP (by omega) (by omega)]; omega)]
      simp only [zi84_58, zi84_59 (sk := []), zcl1, zlow_0, zlow_1, zlow_2, zlow_3, zlow_4, zfree_0, zfree_i, zfree_r, zfree_n, zfree_d, zfree_f, zfree_s, if_true, if_false, Option.bind_some, Option.toList_some, Option.toList_none, List.cons_append, List.nil_append, List.set_cons_zero, List.set_cons_succ, Bool.false_eq_true, reduceIte, zsw_c, zsw_n, Nat.reduceAdd, z00]
      rw [show N 5 = k by omega, hf]
      rfl
    | succ n ih =>
      intro k v5 hk hf
      simp only [zi84_3, zi84_5, zi84_5n, zi84_6, zcl1, zlow_0, zlow_1, zlow_2, zlow_3, zlow_4, zfree_0, zfree_i, zfree_r, zfree_n, zfree_d, zfree_f, zfree_s, if_true, if_false, Option.bind_some, Option.toList_some, Option.toList_none, List.cons_append, List.nil_append, List.set_cons_zero, List.set_cons_succ, Bool.false_eq_true, reduceIte, zsw_c, zsw_n, Nat.reduceAdd, hY.f5]
      rw [zi84_9, if_neg (by rw [nI_leP (by omega) (by omega)]; omega)]
      obtain ⟨q, hq, hL⟩ := hY.cr (show k < N 5 by omega) h5
      obtain ⟨⟨k1, k2⟩, k3, k4⟩ := hlf k (by omega)
      have hm := fun M nx ls sk => vc_manages (E := E) (M := M) (nx := nx) (ls := ls) (sk := sk) hL.2 ⟨k1, k2⟩ k4 hwt hc
      have ih1 := ih (k + 1) (.ref q) (by omega)
      rw [show smF N s b c (k + 1) = (smF N s b c k || (s.testBit k && manN (N (65 + 2 * k)) (N (66 + 2 * k)) (N (9 + 2 * b)) c)) from rfl, hf, Bool.false_or] at ih1
      simp only [zi84_12, zi84_12n, zi84_13, zi84_16, zi84_18, zi84_19, zi84_19n, zi84_21, zi84_22, zi84_24, zi84_27, zi84_30, zi84_30n, zi84_32, zi84_32n, zi84_35, zi84_35n, zi84_37, zi84_37n, zi84_38, zi84_41, zi84_42, zi84_43, zi84_44, zi84_47, zi84_50, zi84_51 (sk := []), zi84_52, zi84_55, zcl1, zlow_0, zlow_1, zlow_2, zlow_3, zlow_4, zfree_0, zfree_i, zfree_r, zfree_n, zfree_d, zfree_f, zfree_s, if_true, if_false, Option.bind_some, Option.toList_some, Option.toList_none, List.cons_append, List.nil_append, List.set_cons_zero, List.set_cons_succ, Bool.false_eq_true, reduceIte, zsw_c, zsw_n, Nat.reduceAdd, hY.r13, hq, sp_has8 hs (show k < 8 by omega), hY.r6, hY.w hb h3, hm, zb_0, z10, z11, ix_p1]
      cases c1 : s.testBit k
      · rw [c1] at ih1
        exact ih1 rfl
      · cases c2 : manN (N (65 + 2 * k)) (N (66 + 2 * k)) (N (9 + 2 * b)) c
        · rw [c1, c2] at ih1
          exact ih1 rfl
        · have : smF N s b c (N 5) = true := smF_iff.mpr ⟨k, by omega, c1, c2⟩
          rw [this]
          rfl
  simp only [ze84, zi84_0, zi84_1, zcl1, zlow_0, zlow_1, zlow_2, zlow_3, zlow_4, zfree_0, zfree_i, zfree_r, zfree_n, zfree_d, zfree_f, zfree_s, if_true, if_false, Option.bind_some, Option.toList_some, Option.toList_none, List.cons_append, List.nil_append, List.set_cons_zero, List.set_cons_succ, Bool.false_eq_true, reduceIte, zsw_c, zsw_n, Nat.reduceAdd]
  exact loop (N 5) 0 _ (by omega) rfl
theorem lbI_lt {N : Nat → Nat} {s L : Nat} (hL : L < 256) : ∀ {n : Nat}, n ≤ 8 → lbI N s L n < 256
  | 0, _ => hL
  | n + 1, h => by
    have ih := lbI_lt (N := N) (s := s) hL (n := n) (by omega)
    unfold lbI lbS
    split
    · exact zclr_lt ih (by omega)
    · exact ih
theorem lbO_lt {N : Nat → Nat} {s L : Nat} (h8 : N 3 ≤ 8) (hL : L < 256) : ∀ {n : Nat}, lbO N s L n < 256
  | 0 => hL
  | n + 1 => lbI_lt (lbO_lt h8 hL (n := n)) h8
theorem sp_leftBy {E : zE} {h : zH} {y s : Nat} {N : Nat → Nat} (hW : WF N) (hY : YN h y N) (hs : s < 256) : zcall zpp E 83 [.ref y, .int (nI s)] h = some (some (.int (nI (lbO N s (N 8) (N 3)))), h) := by
  have h3 := hW.2.2.2.1.2
  have h4 := hW.2.2.2.2.1
  have s1 : zsel 9 [9, 77] = some 77 := rfl
  have s2 : zsel 9 [9, 79] = some 79 := rfl
  have s3 : zsel 9 [9, 84] = some 84 := rfl
  have inner : ∀ (n k L r : Nat), k + n = N 3 → L < 256 → zrun zpp E 83 (18, [.ref y, .int (nI s), .int (nI (lbI N s L k)), .int (nI r), .int (nI k)], [], h) = zrun zpp E 83 (69, [.ref y, .int (nI s), .int (nI (lbI N s L (N 3))), .int (nI r), .int (nI (N 3))], [], h) := by
    intro n
    induction n with
    | zero =>
      intro k L r hk hL
      rw [show k = N 3 by omega]
      conv => lhs; simp only [zi83_18, zi83_20, zi83_20n, zi83_21, zcl1, zlow_0, zlow_1, zlow_2, zlow_3, zlow_4, zfree_0, zfree_i, zfree_r, zfree_n, zfree_d, zfree_f, zfree_s, if_true, if_false, Option.bind_some, Option.toList_some, Option.toList_none, List.cons_append, List.nil_append, List.set_cons_zero, List.set_cons_succ, Bool.false_eq_true, reduceIte, zsw_c, zsw_n, Nat.reduceAdd, hY.f3]
      rw [zi83_24, if_pos (by rw [nI_leP (by omega) (by omega)]; omega)]
    | succ n ih =>
      intro k L r hk hL
      have hlt := lbI_lt (N := N) (s := s) hL (show k ≤ 8 by omega)
      rw [← ih (k + 1) L r (by omega) hL]
      conv => lhs; simp only [zi83_18, zi83_20, zi83_20n, zi83_21, zcl1, zlow_0, zlow_1, zlow_2, zlow_3, zlow_4, zfree_0, zfree_i, zfree_r, zfree_n, zfree_d, zfree_f, zfree_s, if_true, if_false, Option.bind_some, Option.toList_some, Option.toList_none, List.cons_append, List.nil_append, List.set_cons_zero, List.set_cons_succ, Bool.false_eq_true, reduceIte, zsw_c, zsw_n, Nat.reduceAdd, hY.f3]
      rw [zi83_24, if_neg (by rw [nI_leP (by omega) (by omega)]; omega)]
      have e : lbI N s L (k + 1) = (if (freeN N (lbI N s L k) k && smF N s k (catN N (lbI N s L k) k) (N 5)) = true then zclr (lbI N s L k) k else lbI N s L k) := rfl
      simp only [zi83_27, zi83_27n, zi83_28, zi83_30, zi83_31, zi83_34, zi83_37, zi83_37n, zi83_38, zi83_39, zi83_41, zi83_41n, zi83_42, zi83_44, zi83_45, zi83_48, zi83_51, zi83_54, zi83_55, zi83_56, zi83_58, zi83_59, zi83_60, zi83_61, zi83_62, zi83_63, zi83_66, zcl1, zlow_0, zlow_1, zlow_2, zlow_3, zlow_4, zfree_0, zfree_i, zfree_r, zfree_n, zfree_d, zfree_f, zfree_s, if_true, if_false, Option.bind_some, Option.toList_some, Option.toList_none, List.cons_append, List.nil_append, List.set_cons_zero, List.set_cons_succ, Bool.false_eq_true, reduceIte, zsw_c, zsw_n, Nat.reduceAdd, hY.cls, s1, s2, s3, sp_isFree hW hY hlt (show k < N 3 by omega), sp_catches hW hY hlt (show k < N 3 by omega), sp_someManages hW hY hs (show k < N 3 by omega) (catN_le h4), zb_0, (zclr_k _ hlt k (by omega)).1, ix_p1, e]
      cases freeN N (lbI N s L k) k
      · rfl
      · cases smF N s k (catN N (lbI N s L k) k) (N 5) <;> rfl
  have outer : ∀ (n r : Nat) (v4 : Value), r + n = N 3 → zrun zpp E 83 (7, [.ref y, .int (nI s), .int (nI (lbO N s (N 8) r)), .int (nI r), v4], [], h) = some (some (.int (nI (lbO N s (N 8) (N 3)))), h) := by
    intro n
    induction n with
    | zero =>
      intro r v4 hr
      simp only [zi83_7, zi83_8, zi83_8n, zi83_9, zcl1, zlow_0, zlow_1, zlow_2, zlow_3, zlow_4, zfree_0, zfree_i, zfree_r, zfree_n, zfree_d, zfree_f, zfree_s, if_true, if_false, Option.bind_some, Option.toList_some, Option.toList_none, List.cons_append, List.nil_append, List.set_cons_zero, List.set_cons_succ, Bool.false_eq_true, reduceIte, zsw_c, zsw_n, Nat.reduceAdd, hY.f3]
      rw [zi83_12, if_pos (by rw [nI_leP (by omega) (by omega)]; omega)]
      simp only [zi83_75, zi83_76 (sk := []), zcl1, zlow_0, zlow_1, zlow_2, zlow_3, zlow_4, zfree_0, zfree_i, zfree_r, zfree_n, zfree_d, zfree_f, zfree_s, if_true, if_false, Option.bind_some, Option.toList_some, Option.toList_none, List.cons_append, List.nil_append, List.set_cons_zero, List.set_cons_succ, Bool.false_eq_true, reduceIte, zsw_c, zsw_n, Nat.reduceAdd]
      rw [show r = N 3 by omega]
    | succ n ih =>
      intro r v4 hr
      simp only [zi83_7, zi83_8, zi83_8n, zi83_9, zcl1, zlow_0, zlow_1, zlow_2, zlow_3, zlow_4, zfree_0, zfree_i, zfree_r, zfree_n, zfree_d, zfree_f, zfree_s, if_true, if_false, Option.bind_some, Option.toList_some, Option.toList_none, List.cons_append, List.nil_append, List.set_cons_zero, List.set_cons_succ, Bool.false_eq_true, reduceIte, zsw_c, zsw_n, Nat.reduceAdd, hY.f3]
      rw [zi83_12, if_neg (by rw [nI_leP (by omega) (by omega)]; omega)]
      simp only [zi83_15, zi83_16, zcl1, zlow_0, zlow_1, zlow_2, zlow_3, zlow_4, zfree_0, zfree_i, zfree_r, zfree_n, zfree_d, zfree_f, zfree_s, if_true, if_false, Option.bind_some, Option.toList_some, Option.toList_none, List.cons_append, List.nil_append, List.set_cons_zero, List.set_cons_succ, Bool.false_eq_true, reduceIte, zsw_c, zsw_n, Nat.reduceAdd]
      have h1 := inner (N 3) 0 (lbO N s (N 8) r) r (by omega) (lbO_lt h3 hW.d8)
      rw [show (0 : Int32) = nI 0 from rfl]
      refine h1.trans ?_
      simp only [zi83_69, zi83_72, zcl1, zlow_0, zlow_1, zlow_2, zlow_3, zlow_4, zfree_0, zfree_i, zfree_r, zfree_n, zfree_d, zfree_f, zfree_s, if_true, if_false, Option.bind_some, Option.toList_some, Option.toList_none, List.cons_append, List.nil_append, List.set_cons_zero, List.set_cons_succ, Bool.false_eq_true, reduceIte, zsw_c, zsw_n, Nat.reduceAdd, ix_p1]
      exact ih (r + 1) _ (by omega)
  simp only [ze83, zi83_0, zi83_0n, zi83_1, zi83_4, zi83_5, zi83_6, zcl1, zlow_0, zlow_1, zlow_2, zlow_3, zlow_4, zfree_0, zfree_i, zfree_r, zfree_n, zfree_d, zfree_f, zfree_s, if_true, if_false, Option.bind_some, Option.toList_some, Option.toList_none, List.cons_append, List.nil_append, List.set_cons_zero, List.set_cons_succ, Bool.false_eq_true, reduceIte, zsw_c, zsw_n, Nat.reduceAdd, hY.f15]
  exact outer (N 3) 0 _ (by omega)
theorem stB_lt {N : Nat → Nat} {s w L : Nat} (hL : L < 256) : ∀ {n : Nat}, n ≤ 8 → stB N s w L n < 256
  | 0, _ => hL
  | n + 1, h => by
    have ih := stB_lt (N := N) (s := s) (w := w) hL (n := n) (by omega)
    unfold stB stS
    split
    · exact zclr_lt ih (by omega)
    · exact ih
theorem stW_lt {N : Nat → Nat} {s L : Nat} (h8 : N 3 ≤ 8) (hL : L < 256) : ∀ {n : Nat}, stW N s L n < 256
  | 0 => hL
  | n + 1 => stB_lt (stW_lt h8 hL (n := n)) h8
theorem stO_lt {N : Nat → Nat} {s L : Nat} (h8 : N 3 ≤ 8) (hL : L < 256) : ∀ {n : Nat}, stO N s L n < 256
  | 0 => hL
  | n + 1 => stW_lt h8 (stO_lt h8 hL (n := n))
theorem zand_m1 {x : Int32} : x &&& (-1) = x := Int32.and_neg_one
theorem sp_stays {E : zE} {h : zH} {sc : Nat → Int32} {N : Nat → Nat} {s : Nat} (hM : MdO h sc) (hY : MY h N) (hW : WF N) (hs : s < 256) : zcall zpp E 203 [.ref 73, .int (nI s)] h = some (some (.int (nI (stO N s (N 8) 8))), h) := by
  have h3 := hW.2.2.2.1.2
  have h5 := hW.2.2.2.2.2.1
  have hlf := hW.2.2.2.2.2.2.2.2.2.2
  have s1 : zsel 11 [11, 179] = some 179 := rfl
  have s2 : zsel 11 [11, 180] = some 180 := rfl
  have s3 : zsel 11 [11, 186] = some 186 := rfl
  have inner : ∀ (n k L t w : Nat), k + n = N 3 → w < N 5 → L < 256 → zrun zpp E 203 (33, [.ref 73, .int (nI s), .int (nI (stB N s w L k)), .int (nI t), .int (nI w), .int (nI k)], [], h) = zrun zpp E 203 (94, [.ref 73, .int (nI s), .int (nI (stB N s w L (N 3))), .int (nI t), .int (nI w), .int (nI (N 3))], [], h) := by
    intro n
    induction n with
    | zero =>
      intro k L t w hk hw hL
      rw [show k = N 3 by omega]
      conv => lhs; simp only [zi203_33, zi203_35, zi203_35n, zi203_36, zi203_39, zi203_40, zcl1, zlow_0, zlow_1, zlow_2, zlow_3, zlow_4, zfree_0, zfree_i, zfree_r, zfree_n, zfree_d, zfree_f, zfree_s, if_true, if_false, Option.bind_some, Option.toList_some, Option.toList_none, List.cons_append, List.nil_append, List.set_cons_zero, List.set_cons_succ, Bool.false_eq_true, reduceIte, zsw_c, zsw_n, Nat.reduceAdd, hM.r5, hY.c 3 (by decide) (x := 3) rfl]
      rw [zi203_41, if_pos (by rw [nI_leP (by omega) (by omega)]; omega)]
    | succ n ih =>
      intro k L t w hk hw hL
      have hlt := stB_lt (N := N) (s := s) (w := w) hL (show k ≤ 8 by omega)
      obtain ⟨⟨k1, k2⟩, k3, k4⟩ := hlf w hw
      rw [← ih (k + 1) L t w (by omega) hw hL]
      conv => lhs; simp only [zi203_33, zi203_35, zi203_35n, zi203_36, zi203_39, zi203_40, zcl1, zlow_0, zlow_1, zlow_2, zlow_3, zlow_4, zfree_0, zfree_i, zfree_r, zfree_n, zfree_d, zfree_f, zfree_s, if_true, if_false, Option.bind_some, Option.toList_some, Option.toList_none, List.cons_append, List.nil_append, List.set_cons_zero, List.set_cons_succ, Bool.false_eq_true, reduceIte, zsw_c, zsw_n, Nat.reduceAdd, hM.r5, hY.c 3 (by decide) (x := 3) rfl]
      rw [zi203_41, if_neg (by rw [nI_leP (by omega) (by omega)]; omega)]
      have e : stB N s w L (k + 1) = (if (s.testBit w && canN N (N (65 + 2 * w)) (N (66 + 2 * w)) (stB N s w L k) k) = true then zclr (stB N s w L k) k else stB N s w L k) := rfl
      simp only [zi203_44, zi203_45, zi203_46, zi203_48, zi203_51, zi203_54, zi203_54n, zi203_55, zi203_55n, zi203_56, zi203_58, zi203_61, zi203_61n, zi203_62, zi203_64, zi203_67, zi203_68, zi203_70, zi203_73, zi203_76, zi203_77, zi203_79, zi203_80, zi203_81, zi203_82, zi203_85, zi203_86, zi203_87, zi203_88, zi203_91, zcl1, zlow_0, zlow_1, zlow_2, zlow_3, zlow_4, zfree_0, zfree_i, zfree_r, zfree_n, zfree_d, zfree_f, zfree_s, if_true, if_false, Option.bind_some, Option.toList_some, Option.toList_none, List.cons_append, List.nil_append, List.set_cons_zero, List.set_cons_succ, Bool.false_eq_true, reduceIte, zsw_c, zsw_n, Nat.reduceAdd, hM.1, s1, s2, s3, sp_hasM8 hs (show w < 8 by omega), sp_kindOf hM hY (show w < 4 by omega), sp_forceOf hM hY (show w < 4 by omega), sp_can hM hY hW hlt (show k < N 3 by omega) ⟨k1, k2⟩ k4, zb_0, (zclr_k _ hlt k (by omega)).1, zand_m1, ix_p1, e]
      cases s.testBit w
      · rfl
      · cases canN N (N (65 + 2 * w)) (N (66 + 2 * w)) (stB N s w L k) k <;> rfl
  have mid : ∀ (n w L t : Nat) (v5 : Value), w + n = N 5 → L < 256 → ∃ v5', zrun zpp E 203 (19, [.ref 73, .int (nI s), .int (nI (stW N s L w)), .int (nI t), .int (nI w), v5], [], h) = zrun zpp E 203 (100, [.ref 73, .int (nI s), .int (nI (stW N s L (N 5))), .int (nI t), .int (nI (N 5)), v5'], [], h) := by
    intro n
    induction n with
    | zero =>
      intro w L t v5 hw hL
      refine ⟨v5, ?_⟩
      rw [show w = N 5 by omega]
      conv => lhs; simp only [zi203_19, zi203_21, zi203_21n, zi203_22, zi203_25, zi203_26, zcl1, zlow_0, zlow_1, zlow_2, zlow_3, zlow_4, zfree_0, zfree_i, zfree_r, zfree_n, zfree_d, zfree_f, zfree_s, if_true, if_false, Option.bind_some, Option.toList_some, Option.toList_none, List.cons_append, List.nil_append, List.set_cons_zero, List.set_cons_succ, Bool.false_eq_true, reduceIte, zsw_c, zsw_n, Nat.reduceAdd, hM.r5, hY.c 5 (by decide) (x := 5) rfl]
      rw [zi203_27, if_pos (by rw [nI_leP (by omega) (by omega)]; omega)]
    | succ n ih =>
      intro w L t v5 hw hL
      obtain ⟨v5', h5'⟩ := ih (w + 1) L t (.int (nI (N 3))) (by omega) hL
      refine ⟨v5', ?_⟩
      rw [← h5']
      conv => lhs; simp only [zi203_19, zi203_21, zi203_21n, zi203_22, zi203_25, zi203_26, zcl1, zlow_0, zlow_1, zlow_2, zlow_3, zlow_4, zfree_0, zfree_i, zfree_r, zfree_n, zfree_d, zfree_f, zfree_s, if_true, if_false, Option.bind_some, Option.toList_some, Option.toList_none, List.cons_append, List.nil_append, List.set_cons_zero, List.set_cons_succ, Bool.false_eq_true, reduceIte, zsw_c, zsw_n, Nat.reduceAdd, hM.r5, hY.c 5 (by decide) (x := 5) rfl]
      rw [zi203_27, if_neg (by rw [nI_leP (by omega) (by omega)]; omega)]
      conv => lhs; simp only [zi203_30, zi203_31, zcl1, zlow_0, zlow_1, zlow_2, zlow_3, zlow_4, zfree_0, zfree_i, zfree_r, zfree_n, zfree_d, zfree_f, zfree_s, if_true, if_false, Option.bind_some, Option.toList_some, Option.toList_none, List.cons_append, List.nil_append, List.set_cons_zero, List.set_cons_succ, Bool.false_eq_true, reduceIte, zsw_c, zsw_n, Nat.reduceAdd]
      have h1 := inner (N 3) 0 (stW N s L w) t w (by omega) (by omega) (stW_lt h3 hL)
      rw [show (0 : Int32) = nI 0 from rfl]
      refine h1.trans ?_
      conv => lhs; simp only [zi203_94, zi203_97, zcl1, zlow_0, zlow_1, zlow_2, zlow_3, zlow_4, zfree_0, zfree_i, zfree_r, zfree_n, zfree_d, zfree_f, zfree_s, if_true, if_false, Option.bind_some, Option.toList_some, Option.toList_none, List.cons_append, List.nil_append, List.set_cons_zero, List.set_cons_succ, Bool.false_eq_true, reduceIte, zsw_c, zsw_n, Nat.reduceAdd, ix_p1]
      rfl
  have outer : ∀ (n t : Nat) (v4 v5 : Value), t + n = 8 → zrun zpp E 203 (10, [.ref 73, .int (nI s), .int (nI (stO N s (N 8) t)), .int (nI t), v4, v5], [], h) = some (some (.int (nI (stO N s (N 8) 8))), h) := by
    intro n
    induction n with
    | zero =>
      intro t v4 v5 ht
      simp only [zi203_10, zi203_11, zcl1, zlow_0, zlow_1, zlow_2, zlow_3, zlow_4, zfree_0, zfree_i, zfree_r, zfree_n, zfree_d, zfree_f, zfree_s, if_true, if_false, Option.bind_some, Option.toList_some, Option.toList_none, List.cons_append, List.nil_append, List.set_cons_zero, List.set_cons_succ, Bool.false_eq_true, reduceIte, zsw_c, zsw_n, Nat.reduceAdd]
      rw [zi203_13, if_pos (by rw [show (8 : Int32) = nI 8 from rfl, nI_leP (by omega) (by omega)]; omega)]
      simp only [zi203_106, zi203_107 (sk := []), zcl1, zlow_0, zlow_1, zlow_2, zlow_3, zlow_4, zfree_0, zfree_i, zfree_r, zfree_n, zfree_d, zfree_f, zfree_s, if_true, if_false, Option.bind_some, Option.toList_some, Option.toList_none, List.cons_append, List.nil_append, List.set_cons_zero, List.set_cons_succ, Bool.false_eq_true, reduceIte, zsw_c, zsw_n, Nat.reduceAdd]
      rw [show t = 8 by omega]
    | succ n ih =>
      intro t v4 v5 ht
      simp only [zi203_10, zi203_11, zcl1, zlow_0, zlow_1, zlow_2, zlow_3, zlow_4, zfree_0, zfree_i, zfree_r, zfree_n, zfree_d, zfree_f, zfree_s, if_true, if_false, Option.bind_some, Option.toList_some, Option.toList_none, List.cons_append, List.nil_append, List.set_cons_zero, List.set_cons_succ, Bool.false_eq_true, reduceIte, zsw_c, zsw_n, Nat.reduceAdd]
      rw [zi203_13, if_neg (by rw [show (8 : Int32) = nI 8 from rfl, nI_leP (by omega) (by omega)]; omega)]
      have hz : ∀ ls : List Value, zfree ls 0 = zfree ls 0 := fun _ => rfl
      obtain ⟨v5', h1⟩ := mid (N 5) 0 (stO N s (N 8) t) t v5 (by omega) (stO_lt h3 hW.d8)
      conv => lhs; simp only [zi203_16, zi203_17, zcl1, zlow_0, zlow_1, zlow_2, zlow_3, zlow_4, zfree_0, zfree_i, zfree_r, zfree_n, zfree_d, zfree_f, zfree_s, if_true, if_false, Option.bind_some, Option.toList_some, Option.toList_none, List.cons_append, List.nil_append, List.set_cons_zero, List.set_cons_succ, Bool.false_eq_true, reduceIte, zsw_c, zsw_n, Nat.reduceAdd]
      rw [show (0 : Int32) = nI 0 from rfl]
      refine h1.trans ?_
      simp only [zi203_100, zi203_103, zcl1, zlow_0, zlow_1, zlow_2, zlow_3, zlow_4, zfree_0, zfree_i, zfree_r, zfree_n, zfree_d, zfree_f, zfree_s, if_true, if_false, Option.bind_some, Option.toList_some, Option.toList_none, List.cons_append, List.nil_append, List.set_cons_zero, List.set_cons_succ, Bool.false_eq_true, reduceIte, zsw_c, zsw_n, Nat.reduceAdd, ix_p1]
      exact ih (t + 1) _ _ (by omega)
  simp only [ze203, zi203_0, zi203_0n, zi203_1, zi203_4, zi203_6, zi203_7, zi203_8, zi203_9, zcl1, zlow_0, zlow_1, zlow_2, zlow_3, zlow_4, zfree_0, zfree_i, zfree_r, zfree_n, zfree_d, zfree_f, zfree_s, if_true, if_false, Option.bind_some, Option.toList_some, Option.toList_none, List.cons_append, List.nil_append, List.set_cons_zero, List.set_cons_succ, Bool.false_eq_true, reduceIte, zsw_c, zsw_n, Nat.reduceAdd, hM.r5, hY.c 8 (by decide) (x := 8) rfl]
  exact outer 8 0 _ _ (by omega)
