/-! WHICH GAPS TO WIDEN -/
theorem zbt_or (x : Int32) (lo hi : Nat) (hh : hi < 2 ^ 29) (hl : lo ≤ hi) : (decide (nI lo ≤ x) && decide (x ≤ nI hi)) = false ∨ ∃ j, lo ≤ j ∧ j ≤ hi ∧ x = nI j ∧ (decide (nI lo ≤ x) && decide (x ≤ nI hi)) = true := by
  rcases zlt_or x (n := hi + 1) (by omega) with hx | ⟨j, hj, rfl⟩
  · left
    unfold zlt at hx
    rw [ix_m1 (by omega), show hi + 1 - 1 = hi by omega] at hx
    cases h1 : decide (x ≤ nI hi)
    · rw [Bool.and_false]
    · rw [h1, Bool.and_true] at hx
      have : ¬ nI lo ≤ x := fun z => (of_decide_eq_false hx) (Int32.le_trans (show nI 0 ≤ nI lo by rw [nI_leP (by omega) (by omega)]; omega) z)
      rw [decide_eq_false this]
      rfl
  · by_cases h1 : lo ≤ j
    · right
      refine ⟨j, h1, by omega, rfl, ?_⟩
      rw [decide_eq_true (show nI lo ≤ nI j by rw [nI_leP (by omega) (by omega)]; exact h1), decide_eq_true (show nI j ≤ nI hi by rw [nI_leP (by omega) (by omega)]; omega)]
      rfl
    · left
      rw [decide_eq_false (show ¬ nI lo ≤ nI j by rw [nI_leP (by omega) (by omega)]; exact h1)]
      rfl
theorem ix_mm (b : Nat) : nI b + -1 = nI b - 1 := (Int32.sub_eq_add_neg _ _).symm
theorem zneg_1 : (nI 0 - 1 < 0) = True := by decide
theorem zpos_n {b : Nat} (hb : b < 2 ^ 31) : (nI b < 0) = False := eq_false (nI_pos hb)
theorem wdC_s {N : Nat → Nat} {m b j : Nat} : wdC N m b (j + 1) = wdC N m (if zpc j ≤ zpc b ∧ lgM N j (N 3 - 1) ≤ m then j else b) j := rfl
section WID
variable {E : zE} {h : zH} {n y s : Nat} {v : Int32} {sc : Nat → Int32} {N : Nat → Nat}
theorem zpow_7 {w : Nat} (hw : w ≤ 7) : 2 ^ w ≤ 128 := by
  obtain rfl | rfl | rfl | rfl | rfl | rfl | rfl | rfl : w = 0 ∨ w = 1 ∨ w = 2 ∨ w = 3 ∨ w = 4 ∨ w = 5 ∨ w = 6 ∨ w = 7 := by omega
  all_goals decide
theorem widC {m : Nat} {k : Int32} (hC : CO h y s v) (hY : YN h y N) (hW : WF N) (hm : m ≤ 8) : ∀ (j b : Nat) (v5 : Value), j ≤ 128 → b < 128 → ∃ (v5' : Value) (u : Int32), zrun zpp E 113 (54, [.ref 0, .int (nI m), .int k, .int (nI b), .int (nI j - 1), v5], [], h) = zrun zpp E 113 (105, [.ref 0, .int (nI m), .int k, .int (nI (wdC N m b j)), .int u, v5'], [], h) := by
  have c2 : zsel 9 [9, 88] = some 88 := rfl
  intro j
  induction j with
  | zero =>
    intro b v5 hj hb
    refine ⟨v5, nI 0 - 1, ?_⟩
    conv =>
      lhs
      simp only [zi113_54, zi113_56, zcl1, zlow_0, zlow_1, zlow_2, zlow_3, zlow_4, zfree_0, zfree_i, zfree_r, zfree_n, zfree_d, zfree_f, zfree_s, if_true, if_false, Option.bind_some, Option.toList_some, Option.toList_none, List.cons_append, List.nil_append, List.set_cons_zero, List.set_cons_succ, Bool.false_eq_true, reduceIte, zsw_c, zsw_n, Nat.reduceAdd, zneg_1]
    rfl
  | succ j ih =>
    intro b v5 hj hb
    have z1 := zbc_k j (by omega)
    have z2 := zbc_k b (by omega)
    have hg := lgM_le (N := N) (w := j) (N 3 - 1)
    have h3 := hW.2.2.2.1.2
    rw [ix_m1 (show 1 ≤ j + 1 by omega), show j + 1 - 1 = j by omega]
    by_cases hz : zpc b < zpc j
    · obtain ⟨v5', u, ih1⟩ := ih b (.int 0) (by omega) hb
      refine ⟨v5', u, ?_⟩
      rw [show wdC N m b (j + 1) = wdC N m b j by rw [wdC_s, if_neg (fun z => by omega)], ← ih1]
      conv =>
        lhs
        simp only [zi113_54, zcl1, zlow_0, zlow_1, zlow_2, zlow_3, zlow_4, zfree_0, zfree_i, zfree_r, zfree_n, zfree_d, zfree_f, zfree_s, if_true, if_false, Option.bind_some, Option.toList_some, Option.toList_none, List.cons_append, List.nil_append, List.set_cons_zero, List.set_cons_succ, Bool.false_eq_true, reduceIte, zsw_c, zsw_n, Nat.reduceAdd]
      rw [zi113_56, if_neg (nI_pos (show j < 2 ^ 31 by omega))]
      conv =>
        lhs
        simp only [zi113_59, zi113_61, zi113_64, zi113_65, zi113_68, zi113_71, zi113_72, zi113_75, zi113_76, zi113_78, zi113_80, zi113_83, zi113_83n, zi113_84, zi113_87, zi113_89, zi113_92, zi113_93, zi113_96, zi113_98, zi113_99, zi113_102, zcl1, zlow_0, zlow_1, zlow_2, zlow_3, zlow_4, zfree_0, zfree_i, zfree_r, zfree_n, zfree_d, zfree_f, zfree_s, if_true, if_false, Option.bind_some, Option.toList_some, Option.toList_none, List.cons_append, List.nil_append, List.set_cons_zero, List.set_cons_succ, Bool.false_eq_true, reduceIte, zsw_c, zsw_n, Nat.reduceAdd, sp_bitCount, z1.1, z2.1, nI_ltP (show zpc b < 2 ^ 31 by omega) (show zpc j < 2 ^ 31 by omega), eq_true hz, z00, ix_mm]
    · by_cases hf : m < lgM N j (N 3 - 1)
      · obtain ⟨v5', u, ih1⟩ := ih b (.int 1) (by omega) hb
        refine ⟨v5', u, ?_⟩
        rw [show wdC N m b (j + 1) = wdC N m b j by rw [wdC_s, if_neg (fun z => by omega)], ← ih1]
        conv =>
          lhs
          simp only [zi113_54, zcl1, zlow_0, zlow_1, zlow_2, zlow_3, zlow_4, zfree_0, zfree_i, zfree_r, zfree_n, zfree_d, zfree_f, zfree_s, if_true, if_false, Option.bind_some, Option.toList_some, Option.toList_none, List.cons_append, List.nil_append, List.set_cons_zero, List.set_cons_succ, Bool.false_eq_true, reduceIte, zsw_c, zsw_n, Nat.reduceAdd]
        rw [zi113_56, if_neg (nI_pos (show j < 2 ^ 31 by omega))]
        conv =>
          lhs
          simp only [zi113_59, zi113_61, zi113_64, zi113_65, zi113_68, zi113_71, zi113_72, zi113_75, zi113_76, zi113_78, zi113_80, zi113_83, zi113_83n, zi113_84, zi113_87, zi113_89, zi113_92, zi113_93, zi113_96, zi113_98, zi113_99, zi113_102, zcl1, zlow_0, zlow_1, zlow_2, zlow_3, zlow_4, zfree_0, zfree_i, zfree_r, zfree_n, zfree_d, zfree_f, zfree_s, if_true, if_false, Option.bind_some, Option.toList_some, Option.toList_none, List.cons_append, List.nil_append, List.set_cons_zero, List.set_cons_succ, Bool.false_eq_true, reduceIte, zsw_c, zsw_n, Nat.reduceAdd, sp_bitCount, z1.1, z2.1, nI_ltP (show zpc b < 2 ^ 31 by omega) (show zpc j < 2 ^ 31 by omega), eq_false hz, z10, hC.r7, hY.cls, c2, sp_longestRun hW hY (show j < 256 by omega), nI_ltP (show m < 2 ^ 31 by omega) (show lgM N j (N 3 - 1) < 2 ^ 31 by omega), eq_true hf, ix_mm]
      · obtain ⟨v5', u, ih1⟩ := ih j (.int 1) (by omega) (by omega)
        refine ⟨v5', u, ?_⟩
        rw [show wdC N m b (j + 1) = wdC N m j j by rw [wdC_s, if_pos ⟨by omega, by omega⟩], ← ih1]
        conv =>
          lhs
          simp only [zi113_54, zcl1, zlow_0, zlow_1, zlow_2, zlow_3, zlow_4, zfree_0, zfree_i, zfree_r, zfree_n, zfree_d, zfree_f, zfree_s, if_true, if_false, Option.bind_some, Option.toList_some, Option.toList_none, List.cons_append, List.nil_append, List.set_cons_zero, List.set_cons_succ, Bool.false_eq_true, reduceIte, zsw_c, zsw_n, Nat.reduceAdd]
        rw [zi113_56, if_neg (nI_pos (show j < 2 ^ 31 by omega))]
        conv =>
          lhs
          simp only [zi113_59, zi113_61, zi113_64, zi113_65, zi113_68, zi113_71, zi113_72, zi113_75, zi113_76, zi113_78, zi113_80, zi113_83, zi113_83n, zi113_84, zi113_87, zi113_89, zi113_92, zi113_93, zi113_96, zi113_98, zi113_99, zi113_102, zcl1, zlow_0, zlow_1, zlow_2, zlow_3, zlow_4, zfree_0, zfree_i, zfree_r, zfree_n, zfree_d, zfree_f, zfree_s, if_true, if_false, Option.bind_some, Option.toList_some, Option.toList_none, List.cons_append, List.nil_append, List.set_cons_zero, List.set_cons_succ, Bool.false_eq_true, reduceIte, zsw_c, zsw_n, Nat.reduceAdd, sp_bitCount, z1.1, z2.1, nI_ltP (show zpc b < 2 ^ 31 by omega) (show zpc j < 2 ^ 31 by omega), eq_false hz, z10, hC.r7, hY.cls, c2, sp_longestRun hW hY (show j < 256 by omega), nI_ltP (show m < 2 ^ 31 by omega) (show lgM N j (N 3 - 1) < 2 ^ 31 by omega), eq_false hf, ix_mm]
theorem widM {m : Nat} {k : Int32} (hM : MdO h sc) (hY : MY h N) (hW : WF N) (hm : m ≤ 8) : ∀ (c j : Nat) (v5 : Value), j + c = 2 ^ (N 3 - 1) → ∃ v5' : Value, zrun zpp E 211 (46, [.ref 73, .int (nI m), .int k, .int (eO (wdM N m j)), .int (nI j), v5], [], h) = zrun zpp E 211 (114, [.ref 73, .int (nI m), .int k, .int (eO (wdM N m (2 ^ (N 3 - 1)))), .int (nI (2 ^ (N 3 - 1))), v5'], [], h) := by
  have h3 := hW.2.2.2.1.2
  have h31 := hW.2.2.2.1.1
  have hp := zpow_7 (w := N 3 - 1) (by omega)
  have c2 : zsel 11 [11, 210] = some 210 := rfl
  intro c
  induction c with
  | zero =>
    intro j v5 hj
    refine ⟨v5, ?_⟩
    rw [show j = 2 ^ (N 3 - 1) by omega]
    conv =>
      lhs
      simp only [zi211_46, zi211_48, zi211_49, zi211_49n, zi211_50, zi211_53, zi211_54, zi211_55, zi211_56, zi211_57, zcl1, zlow_0, zlow_1, zlow_2, zlow_3, zlow_4, zfree_0, zfree_i, zfree_r, zfree_n, zfree_d, zfree_f, zfree_s, if_true, if_false, Option.bind_some, Option.toList_some, Option.toList_none, List.cons_append, List.nil_append, List.set_cons_zero, List.set_cons_succ, Bool.false_eq_true, reduceIte, zsw_c, zsw_n, Nat.reduceAdd, hM.r5, hY.c 3 (by decide) (x := 3) rfl, ix_m1 h31, zbit_1 (N 3 - 1) (by omega)]
    rw [zi211_58, if_pos (by rw [nI_leP (by omega) (by omega)]; omega)]
  | succ c ih =>
    intro j v5 hj
    have hg := lgM_le (N := N) (w := j) (N 3 - 1)
    have sl := sp_longest (E := E) hM hY hW (show j < 256 by omega)
    have z1 := zbc_k j (by omega)
    cases hq : wdM N m j with
    | none =>
      by_cases hf : m < lgM N j (N 3 - 1)
      · obtain ⟨v5', ih1⟩ := ih (j + 1) (.int 1) (by omega)
        refine ⟨v5', ?_⟩
        rw [← ih1, show wdM N m (j + 1) = none by unfold wdM; rw [hq]; exact if_neg (by omega)]
        conv =>
          lhs
          simp only [zi211_46, zi211_48, zi211_49, zi211_49n, zi211_50, zi211_53, zi211_54, zi211_55, zi211_56, zi211_57, zcl1, zlow_0, zlow_1, zlow_2, zlow_3, zlow_4, zfree_0, zfree_i, zfree_r, zfree_n, zfree_d, zfree_f, zfree_s, if_true, if_false, Option.bind_some, Option.toList_some, Option.toList_none, List.cons_append, List.nil_append, List.set_cons_zero, List.set_cons_succ, Bool.false_eq_true, reduceIte, zsw_c, zsw_n, Nat.reduceAdd, hM.r5, hY.c 3 (by decide) (x := 3) rfl, ix_m1 h31, zbit_1 (N 3 - 1) (by omega)]
        rw [zi211_58, if_neg (by rw [nI_leP (by omega) (by omega)]; omega)]
        conv =>
          lhs
          simp only [zi211_61, zi211_62, zi211_64, zi211_67, zi211_69, zi211_72, zi211_73, zi211_76, zi211_79, zi211_80, zi211_83, zi211_84, zi211_86, zi211_88, zi211_91, zi211_91n, zi211_92, zi211_94, zi211_97, zi211_98, zi211_101, zi211_103, zi211_106, zi211_107, zi211_108, zi211_111, zcl1, zlow_0, zlow_1, zlow_2, zlow_3, zlow_4, zfree_0, zfree_i, zfree_r, zfree_n, zfree_d, zfree_f, zfree_s, if_true, if_false, Option.bind_some, Option.toList_some, Option.toList_none, List.cons_append, List.nil_append, List.set_cons_zero, List.set_cons_succ, Bool.false_eq_true, reduceIte, zsw_c, zsw_n, Nat.reduceAdd, eO, qnn, z10, hM.1, c2, sl, nI_ltP (show m < 2 ^ 31 by omega) (show lgM N j (N 3 - 1) < 2 ^ 31 by omega), eq_true hf, ix_p1]
        rfl
      · obtain ⟨v5', ih1⟩ := ih (j + 1) (.int 1) (by omega)
        refine ⟨v5', ?_⟩
        rw [← ih1, show wdM N m (j + 1) = some j by unfold wdM; rw [hq]; exact if_pos (by omega)]
        conv =>
          lhs
          simp only [zi211_46, zi211_48, zi211_49, zi211_49n, zi211_50, zi211_53, zi211_54, zi211_55, zi211_56, zi211_57, zcl1, zlow_0, zlow_1, zlow_2, zlow_3, zlow_4, zfree_0, zfree_i, zfree_r, zfree_n, zfree_d, zfree_f, zfree_s, if_true, if_false, Option.bind_some, Option.toList_some, Option.toList_none, List.cons_append, List.nil_append, List.set_cons_zero, List.set_cons_succ, Bool.false_eq_true, reduceIte, zsw_c, zsw_n, Nat.reduceAdd, hM.r5, hY.c 3 (by decide) (x := 3) rfl, ix_m1 h31, zbit_1 (N 3 - 1) (by omega)]
        rw [zi211_58, if_neg (by rw [nI_leP (by omega) (by omega)]; omega)]
        conv =>
          lhs
          simp only [zi211_61, zi211_62, zi211_64, zi211_67, zi211_69, zi211_72, zi211_73, zi211_76, zi211_79, zi211_80, zi211_83, zi211_84, zi211_86, zi211_88, zi211_91, zi211_91n, zi211_92, zi211_94, zi211_97, zi211_98, zi211_101, zi211_103, zi211_106, zi211_107, zi211_108, zi211_111, zcl1, zlow_0, zlow_1, zlow_2, zlow_3, zlow_4, zfree_0, zfree_i, zfree_r, zfree_n, zfree_d, zfree_f, zfree_s, if_true, if_false, Option.bind_some, Option.toList_some, Option.toList_none, List.cons_append, List.nil_append, List.set_cons_zero, List.set_cons_succ, Bool.false_eq_true, reduceIte, zsw_c, zsw_n, Nat.reduceAdd, eO, qnn, z10, hM.1, c2, sl, nI_ltP (show m < 2 ^ 31 by omega) (show lgM N j (N 3 - 1) < 2 ^ 31 by omega), eq_false hf, ix_p1]
        rfl
    | some b =>
      have hb := ((wdM_ok (N := N) (m := m) j).2 b hq).1
      have z2 := zbc_k b (by omega)
      by_cases hz : zpc b ≤ zpc j
      · obtain ⟨v5', ih1⟩ := ih (j + 1) (.int 0) (by omega)
        refine ⟨v5', ?_⟩
        rw [← ih1, show wdM N m (j + 1) = some b by unfold wdM; rw [hq]; exact if_neg (fun z => by omega)]
        conv =>
          lhs
          simp only [zi211_46, zi211_48, zi211_49, zi211_49n, zi211_50, zi211_53, zi211_54, zi211_55, zi211_56, zi211_57, zcl1, zlow_0, zlow_1, zlow_2, zlow_3, zlow_4, zfree_0, zfree_i, zfree_r, zfree_n, zfree_d, zfree_f, zfree_s, if_true, if_false, Option.bind_some, Option.toList_some, Option.toList_none, List.cons_append, List.nil_append, List.set_cons_zero, List.set_cons_succ, Bool.false_eq_true, reduceIte, zsw_c, zsw_n, Nat.reduceAdd, hM.r5, hY.c 3 (by decide) (x := 3) rfl, ix_m1 h31, zbit_1 (N 3 - 1) (by omega)]
        rw [zi211_58, if_neg (by rw [nI_leP (by omega) (by omega)]; omega)]
        conv =>
          lhs
          simp only [zi211_61, zi211_62, zi211_64, zi211_67, zi211_69, zi211_72, zi211_73, zi211_76, zi211_79, zi211_80, zi211_83, zi211_84, zi211_86, zi211_88, zi211_91, zi211_91n, zi211_92, zi211_94, zi211_97, zi211_98, zi211_101, zi211_103, zi211_106, zi211_107, zi211_108, zi211_111, zcl1, zlow_0, zlow_1, zlow_2, zlow_3, zlow_4, zfree_0, zfree_i, zfree_r, zfree_n, zfree_d, zfree_f, zfree_s, if_true, if_false, Option.bind_some, Option.toList_some, Option.toList_none, List.cons_append, List.nil_append, List.set_cons_zero, List.set_cons_succ, Bool.false_eq_true, reduceIte, zsw_c, zsw_n, Nat.reduceAdd, eO, qnb b (by omega), sp_bits (show j < 256 by omega), sp_bits (show b < 256 by omega), nI_leP (show zpc b < 2 ^ 31 by omega) (show zpc j < 2 ^ 31 by omega), eq_true hz, z00, ix_p1]
        rfl
      · by_cases hf : m < lgM N j (N 3 - 1)
        · obtain ⟨v5', ih1⟩ := ih (j + 1) (.int 1) (by omega)
          refine ⟨v5', ?_⟩
          rw [← ih1, show wdM N m (j + 1) = some b by unfold wdM; rw [hq]; exact if_neg (fun z => by omega)]
          conv =>
            lhs
            simp only [zi211_46, zi211_48, zi211_49, zi211_49n, zi211_50, zi211_53, zi211_54, zi211_55, zi211_56, zi211_57, zcl1, zlow_0, zlow_1, zlow_2, zlow_3, zlow_4, zfree_0, zfree_i, zfree_r, zfree_n, zfree_d, zfree_f, zfree_s, if_true, if_false, Option.bind_some, Option.toList_some, Option.toList_none, List.cons_append, List.nil_append, List.set_cons_zero, List.set_cons_succ, Bool.false_eq_true, reduceIte, zsw_c, zsw_n, Nat.reduceAdd, hM.r5, hY.c 3 (by decide) (x := 3) rfl, ix_m1 h31, zbit_1 (N 3 - 1) (by omega)]
          rw [zi211_58, if_neg (by rw [nI_leP (by omega) (by omega)]; omega)]
          conv =>
            lhs
            simp only [zi211_61, zi211_62, zi211_64, zi211_67, zi211_69, zi211_72, zi211_73, zi211_76, zi211_79, zi211_80, zi211_83, zi211_84, zi211_86, zi211_88, zi211_91, zi211_91n, zi211_92, zi211_94, zi211_97, zi211_98, zi211_101, zi211_103, zi211_106, zi211_107, zi211_108, zi211_111, zcl1, zlow_0, zlow_1, zlow_2, zlow_3, zlow_4, zfree_0, zfree_i, zfree_r, zfree_n, zfree_d, zfree_f, zfree_s, if_true, if_false, Option.bind_some, Option.toList_some, Option.toList_none, List.cons_append, List.nil_append, List.set_cons_zero, List.set_cons_succ, Bool.false_eq_true, reduceIte, zsw_c, zsw_n, Nat.reduceAdd, eO, qnb b (by omega), sp_bits (show j < 256 by omega), sp_bits (show b < 256 by omega), nI_leP (show zpc b < 2 ^ 31 by omega) (show zpc j < 2 ^ 31 by omega), eq_false hz, z10, hM.1, c2, sl, nI_ltP (show m < 2 ^ 31 by omega) (show lgM N j (N 3 - 1) < 2 ^ 31 by omega), eq_true hf, ix_p1]
          rfl
        · obtain ⟨v5', ih1⟩ := ih (j + 1) (.int 1) (by omega)
          refine ⟨v5', ?_⟩
          rw [← ih1, show wdM N m (j + 1) = some j by unfold wdM; rw [hq]; exact if_pos ⟨by omega, by omega⟩]
          conv =>
            lhs
            simp only [zi211_46, zi211_48, zi211_49, zi211_49n, zi211_50, zi211_53, zi211_54, zi211_55, zi211_56, zi211_57, zcl1, zlow_0, zlow_1, zlow_2, zlow_3, zlow_4, zfree_0, zfree_i, zfree_r, zfree_n, zfree_d, zfree_f, zfree_s, if_true, if_false, Option.bind_some, Option.toList_some, Option.toList_none, List.cons_append, List.nil_append, List.set_cons_zero, List.set_cons_succ, Bool.false_eq_true, reduceIte, zsw_c, zsw_n, Nat.reduceAdd, hM.r5, hY.c 3 (by decide) (x := 3) rfl, ix_m1 h31, zbit_1 (N 3 - 1) (by omega)]
          rw [zi211_58, if_neg (by rw [nI_leP (by omega) (by omega)]; omega)]
          conv =>
            lhs
            simp only [zi211_61, zi211_62, zi211_64, zi211_67, zi211_69, zi211_72, zi211_73, zi211_76, zi211_79, zi211_80, zi211_83, zi211_84, zi211_86, zi211_88, zi211_91, zi211_91n, zi211_92, zi211_94, zi211_97, zi211_98, zi211_101, zi211_103, zi211_106, zi211_107, zi211_108, zi211_111, zcl1, zlow_0, zlow_1, zlow_2, zlow_3, zlow_4, zfree_0, zfree_i, zfree_r, zfree_n, zfree_d, zfree_f, zfree_s, if_true, if_false, Option.bind_some, Option.toList_some, Option.toList_none, List.cons_append, List.nil_append, List.set_cons_zero, List.set_cons_succ, Bool.false_eq_true, reduceIte, zsw_c, zsw_n, Nat.reduceAdd, eO, qnb b (by omega), sp_bits (show j < 256 by omega), sp_bits (show b < 256 by omega), nI_leP (show zpc b < 2 ^ 31 by omega) (show zpc j < 2 ^ 31 by omega), eq_false hz, z10, hM.1, c2, sl, nI_ltP (show m < 2 ^ 31 by omega) (show lgM N j (N 3 - 1) < 2 ^ 31 by omega), eq_false hf, ix_p1]
          rfl
theorem ok_widen (hJ : J h n) {x k : Int32} : OK E h n 113 211 [.int x, .int k] := by
  obtain ⟨y, s, v, sc, N, hJ, h1, hB⟩ := hJ
  have M1 := hJ.md.put 0 rfl (by omega) 0
  have w0 := hJ.md.st 0 rfl (by omega) 0
  have Y1 : MY (zpf h 73 0 (.int 0)) N := hJ.my.keep (zpf_o (by omega))
  have c1 : zsel 9 [9, 70] = some 70 := rfl
  have m1 : zsel 11 [11, 172] = some 172 := rfl
  have i1 := fun (H : zH) => sp_inI (E := E) (h := H) (u := x.toInt64) (v := 1) (w := 8) (x := x) (a := 1) (b := 8) rfl (by decide) (by decide)
  have i2 := fun (H : zH) => sp_inI (E := E) (h := H) (u := k.toInt64) (v := 0) (w := 1) (x := k) (a := 0) (b := 1) rfl (by decide) (by decide)
  rcases hJ.wg.cs with ⟨d1, d2, -⟩ | ⟨d1, d2, hW, -⟩
  · refine ⟨(-1000002), h, zpf h 73 0 (.int 0), ?_, ?_, hJ.q h1 hB⟩
    · simp only [ze113, zi113_0, zi113_0n, zi113_1, zi113_4, zi113_7, zi113_10, zi113_12 (sk := []), zi113_13, zi113_14, zi113_15, zi113_17, zi113_20, zi113_23, zi113_24, zi113_25, zi113_26, zi113_29, zi113_32, zi113_34 (sk := []), zcl1, zlow_0, zlow_1, zlow_2, zlow_3, zlow_4, zfree_0, zfree_i, zfree_r, zfree_n, zfree_d, zfree_f, zfree_s, if_true, if_false, Option.bind_some, Option.toList_some, Option.toList_none, List.cons_append, List.nil_append, List.set_cons_zero, List.set_cons_succ, Bool.false_eq_true, reduceIte, zsw_c, zsw_n, Nat.reduceAdd, hJ.co.r7, hJ.yn.cls, c1, sp_isRead hJ.wg.h3 hJ.yn, d1, zb_f, z00]
    · simp only [ze211, zi211_0, zi211_0n, zi211_1, zi211_2, zi211_5, zi211_5n, zi211_6, zi211_9, zi211_12, zi211_14 (sk := []), zi211_15, zi211_16, zi211_17, zi211_18, zi211_21, zi211_24, zi211_27, zi211_28, zi211_29, zi211_30, zi211_31, zi211_34, zi211_37, zi211_39 (sk := []), zcl1, zlow_0, zlow_1, zlow_2, zlow_3, zlow_4, zfree_0, zfree_i, zfree_r, zfree_n, zfree_d, zfree_f, zfree_s, if_true, if_false, Option.bind_some, Option.toList_some, Option.toList_none, List.cons_append, List.nil_append, List.set_cons_zero, List.set_cons_succ, Bool.false_eq_true, reduceIte, zsw_c, zsw_n, Nat.reduceAdd, w0, M1.1, m1, sp_isThere M1 Y1 hJ.wg.h0, d2, zb_f, z00]
  rcases zbt_or x 1 8 (by omega) (by omega) with hx | ⟨m, hm1, hm8, rfl, hx⟩
  · have hx : (decide (1 ≤ x) && decide (x ≤ 8)) = false := hx
    refine ⟨(-1000001), h, zpf h 73 0 (.int 0), ?_, ?_, hJ.q h1 hB⟩
    · simp only [ze113, zi113_0, zi113_0n, zi113_1, zi113_4, zi113_7, zi113_10, zi113_12 (sk := []), zi113_13, zi113_14, zi113_15, zi113_17, zi113_20, zi113_23, zi113_24, zi113_25, zi113_26, zi113_29, zi113_32, zi113_34 (sk := []), zcl1, zlow_0, zlow_1, zlow_2, zlow_3, zlow_4, zfree_0, zfree_i, zfree_r, zfree_n, zfree_d, zfree_f, zfree_s, if_true, if_false, Option.bind_some, Option.toList_some, Option.toList_none, List.cons_append, List.nil_append, List.set_cons_zero, List.set_cons_succ, Bool.false_eq_true, reduceIte, zsw_c, zsw_n, Nat.reduceAdd, hJ.co.r7, hJ.yn.cls, c1, sp_isRead hJ.wg.h3 hJ.yn, d1, zb_t, z10, sp_within, hx, zb_f, z00]
    · simp only [ze211, zi211_0, zi211_0n, zi211_1, zi211_2, zi211_5, zi211_5n, zi211_6, zi211_9, zi211_12, zi211_14 (sk := []), zi211_15, zi211_16, zi211_17, zi211_18, zi211_21, zi211_24, zi211_27, zi211_28, zi211_29, zi211_30, zi211_31, zi211_34, zi211_37, zi211_39 (sk := []), zcl1, zlow_0, zlow_1, zlow_2, zlow_3, zlow_4, zfree_0, zfree_i, zfree_r, zfree_n, zfree_d, zfree_f, zfree_s, if_true, if_false, Option.bind_some, Option.toList_some, Option.toList_none, List.cons_append, List.nil_append, List.set_cons_zero, List.set_cons_succ, Bool.false_eq_true, reduceIte, zsw_c, zsw_n, Nat.reduceAdd, w0, M1.1, m1, sp_isThere M1 Y1 hJ.wg.h0, d2, zb_t, z10, i1, hx, zb_f, z00]
  have hx : (decide (1 ≤ nI m) && decide (nI m ≤ 8)) = true := hx
  rcases zbt_or k 0 1 (by omega) (by omega) with hk | ⟨k, -, hk1, rfl, hk⟩
  · have hk : (decide (0 ≤ k) && decide (k ≤ 1)) = false := hk
    refine ⟨(-1000001), h, zpf h 73 0 (.int 0), ?_, ?_, hJ.q h1 hB⟩
    · simp only [ze113, zi113_0, zi113_0n, zi113_1, zi113_4, zi113_7, zi113_10, zi113_12 (sk := []), zi113_13, zi113_14, zi113_15, zi113_17, zi113_20, zi113_23, zi113_24, zi113_25, zi113_26, zi113_29, zi113_32, zi113_34 (sk := []), zcl1, zlow_0, zlow_1, zlow_2, zlow_3, zlow_4, zfree_0, zfree_i, zfree_r, zfree_n, zfree_d, zfree_f, zfree_s, if_true, if_false, Option.bind_some, Option.toList_some, Option.toList_none, List.cons_append, List.nil_append, List.set_cons_zero, List.set_cons_succ, Bool.false_eq_true, reduceIte, zsw_c, zsw_n, Nat.reduceAdd, hJ.co.r7, hJ.yn.cls, c1, sp_isRead hJ.wg.h3 hJ.yn, d1, zb_t, z10, sp_within, hx, hk, zb_f, z00]
    · simp only [ze211, zi211_0, zi211_0n, zi211_1, zi211_2, zi211_5, zi211_5n, zi211_6, zi211_9, zi211_12, zi211_14 (sk := []), zi211_15, zi211_16, zi211_17, zi211_18, zi211_21, zi211_24, zi211_27, zi211_28, zi211_29, zi211_30, zi211_31, zi211_34, zi211_37, zi211_39 (sk := []), zcl1, zlow_0, zlow_1, zlow_2, zlow_3, zlow_4, zfree_0, zfree_i, zfree_r, zfree_n, zfree_d, zfree_f, zfree_s, if_true, if_false, Option.bind_some, Option.toList_some, Option.toList_none, List.cons_append, List.nil_append, List.set_cons_zero, List.set_cons_succ, Bool.false_eq_true, reduceIte, zsw_c, zsw_n, Nat.reduceAdd, w0, M1.1, m1, sp_isThere M1 Y1 hJ.wg.h0, d2, zb_t, z10, i1, hx, i2, hk, zb_f, z00]
  have hk : (decide (0 ≤ nI k) && decide (nI k ≤ 1)) = true := hk
  have h31 := hW.2.2.2.1.1
  have h3 := hW.2.2.2.1.2
  have hp := zpow_7 (w := N 3 - 1) (by omega)
  have hp0 : 0 < 2 ^ (N 3 - 1) := Nat.two_pow_pos _
  obtain ⟨v5, u, e1⟩ := widC (E := E) (k := nI k) (m := m) hJ.co hJ.yn hW hm8 (2 ^ (N 3 - 1) - 1) (2 ^ (N 3 - 1) - 1) (.retAddr 0) (by omega) (by omega)
  obtain ⟨v6, e2⟩ := widM (E := E) (k := nI k) (m := m) M1 Y1 hW hm8 (2 ^ (N 3 - 1)) 0 (.retAddr 0) (by omega)
  rw [wd_eq rfl hm1] at e2
  have hlt := (wdC_ok (N := N) (m := m) (M := 2 ^ (N 3 - 1)) (2 ^ (N 3 - 1) - 1) (2 ^ (N 3 - 1) - 1) (Nat.le_refl _) (by omega) (by rw [(lgM_full _ (Nat.le_refl _)).2]; exact hm1) (fun t h1 h2 _ => Or.inr ⟨by rw [show t = 2 ^ (N 3 - 1) - 1 by omega], by omega⟩)).1
  have ea : zcall zpp E 113 [.ref 0, .int (nI m), .int (nI k)] h = zrun zpp E 113 (54, [.ref 0, .int (nI m), .int (nI k), .int (nI (2 ^ (N 3 - 1) - 1)), .int (nI (2 ^ (N 3 - 1) - 1) - 1), .retAddr 0], [], h) := by
    conv =>
      lhs
      simp only [ze113, zi113_0, zi113_0n, zi113_1, zi113_4, zi113_7, zi113_10, zi113_12 (sk := []), zi113_13, zi113_14, zi113_15, zi113_17, zi113_20, zi113_23, zi113_24, zi113_25, zi113_26, zi113_29, zi113_32, zi113_34 (sk := []), zi113_35, zi113_36, zi113_36n, zi113_37, zi113_40, zi113_43, zi113_44, zi113_45, zi113_46, zi113_47, zi113_48, zi113_49, zi113_50, zi113_51, zi113_52, zcl1, zlow_0, zlow_1, zlow_2, zlow_3, zlow_4, zfree_0, zfree_i, zfree_r, zfree_n, zfree_d, zfree_f, zfree_s, if_true, if_false, Option.bind_some, Option.toList_some, Option.toList_none, List.cons_append, List.nil_append, List.set_cons_zero, List.set_cons_succ, Bool.false_eq_true, reduceIte, zsw_c, zsw_n, Nat.reduceAdd, hJ.co.r7, hJ.yn.cls, c1, sp_isRead hJ.wg.h3 hJ.yn, d1, zb_t, z10, sp_within, hx, hk, hJ.yn.f3, ix_m1 h31, zbit_1 (N 3 - 1) (by omega), ix_m1 (show 1 ≤ 2 ^ (N 3 - 1) by omega)]
  have eb : zcall zpp E 211 [.ref 73, .int (nI m), .int (nI k)] h = zrun zpp E 211 (46, [.ref 73, .int (nI m), .int (nI k), .int (eO (wdM N m 0)), .int (nI 0), .retAddr 0], [], zpf h 73 0 (.int 0)) := by
    conv =>
      lhs
      simp only [ze211, zi211_0, zi211_0n, zi211_1, zi211_2, zi211_5, zi211_5n, zi211_6, zi211_9, zi211_12, zi211_14 (sk := []), zi211_15, zi211_16, zi211_17, zi211_18, zi211_21, zi211_24, zi211_27, zi211_28, zi211_29, zi211_30, zi211_31, zi211_34, zi211_37, zi211_39 (sk := []), zi211_40, zi211_42, zi211_43, zi211_44, zcl1, zlow_0, zlow_1, zlow_2, zlow_3, zlow_4, zfree_0, zfree_i, zfree_r, zfree_n, zfree_d, zfree_f, zfree_s, if_true, if_false, Option.bind_some, Option.toList_some, Option.toList_none, List.cons_append, List.nil_append, List.set_cons_zero, List.set_cons_succ, Bool.false_eq_true, reduceIte, zsw_c, zsw_n, Nat.reduceAdd, w0, M1.1, m1, sp_isThere M1 Y1 hJ.wg.h0, d2, zb_t, z10, i1, hx, i2, hk]
    rfl
  rw [e1] at ea
  rw [e2] at eb
  generalize hb : wdC N m (2 ^ (N 3 - 1) - 1) (2 ^ (N 3 - 1) - 1) = b at *
  have z2 := zbc_k b (by omega)
  obtain rfl | rfl : k = 0 ∨ k = 1 := by omega
  · refine ⟨(nI (zpc b)), h, zpf h 73 0 (.int 0), ?_, ?_, hJ.q h1 hB⟩
    · rw [ea]
      simp only [zi113_105, zi113_106, zi113_109, zi113_110, zi113_113, zi113_116, zi113_117 (sk := []), zcl1, zlow_0, zlow_1, zlow_2, zlow_3, zlow_4, zfree_0, zfree_i, zfree_r, zfree_n, zfree_d, zfree_f, zfree_s, if_true, if_false, Option.bind_some, Option.toList_some, Option.toList_none, List.cons_append, List.nil_append, List.set_cons_zero, List.set_cons_succ, Bool.false_eq_true, reduceIte, zsw_c, zsw_n, Nat.reduceAdd, show (nI 0 = 0) = True by decide, sp_bitCount, z2.1]
    · rw [eb]
      simp only [zi211_114, zi211_115, zi211_118, zi211_119, zi211_122, zi211_125, zi211_126 (sk := []), zcl1, zlow_0, zlow_1, zlow_2, zlow_3, zlow_4, zfree_0, zfree_i, zfree_r, zfree_n, zfree_d, zfree_f, zfree_s, if_true, if_false, Option.bind_some, Option.toList_some, Option.toList_none, List.cons_append, List.nil_append, List.set_cons_zero, List.set_cons_succ, Bool.false_eq_true, reduceIte, zsw_c, zsw_n, Nat.reduceAdd, eO, show (nI 0 = 0) = True by decide, sp_bits (show b < 256 by omega)]
  · refine ⟨(nI b), h, zpf h 73 0 (.int 0), ?_, ?_, hJ.q h1 hB⟩
    · rw [ea]
      simp only [zi113_105, zi113_106, zi113_109, zi113_110, zi113_113, zi113_116, zi113_117 (sk := []), zcl1, zlow_0, zlow_1, zlow_2, zlow_3, zlow_4, zfree_0, zfree_i, zfree_r, zfree_n, zfree_d, zfree_f, zfree_s, if_true, if_false, Option.bind_some, Option.toList_some, Option.toList_none, List.cons_append, List.nil_append, List.set_cons_zero, List.set_cons_succ, Bool.false_eq_true, reduceIte, zsw_c, zsw_n, Nat.reduceAdd, show (nI 1 = 0) = False by decide]
    · rw [eb]
      simp only [zi211_114, zi211_115, zi211_118, zi211_119, zi211_122, zi211_125, zi211_126 (sk := []), zcl1, zlow_0, zlow_1, zlow_2, zlow_3, zlow_4, zfree_0, zfree_i, zfree_r, zfree_n, zfree_d, zfree_f, zfree_s, if_true, if_false, Option.bind_some, Option.toList_some, Option.toList_none, List.cons_append, List.nil_append, List.set_cons_zero, List.set_cons_succ, Bool.false_eq_true, reduceIte, zsw_c, zsw_n, Nat.reduceAdd, eO, show (nI 1 = 0) = False by decide]
end WID
