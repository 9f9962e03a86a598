/-! WHAT NEVER COMES UP, WHOM TO FETCH, HOW THEY FELL, WHICH GAPS TO WIDEN -/
def eO (o : Option Nat) : Int32 := match o with
  | none => -1000000
  | some b => nI b
theorem qnn : ((-1000000 : Int32) = -1000000) = True := by decide
theorem qnb : ∀ b, b < 256 → (nI b = -1000000) = False := by
  have h : ∀ b, b < 256 → ¬ nI b = -1000000 := by decide +kernel
  exact fun b hb => eq_false (h b hb)
/-- the first of the fewest with f = 0 -/
def ftF (f : Nat → Nat) : Nat → Option Nat
  | 0 => none
  | n + 1 => match ftF f n with
    | none => if f n = 0 then some n else none
    | some b => if zpc n < zpc b ∧ f n = 0 then some n else some b
theorem ftF_lt {f : Nat → Nat} : ∀ {n b : Nat}, ftF f n = some b → b < n
  | 0, b, h => by cases h
  | n + 1, b, h => by
    unfold ftF at h
    cases hq : ftF f n with
    | none =>
      rw [hq] at h
      dsimp only at h
      split at h
      · cases h; omega
      · cases h
    | some c =>
      rw [hq] at h
      dsimp only at h
      have := ftF_lt hq
      split at h
      · cases h; omega
      · cases h; omega
theorem zpow_5 {w : Nat} (hw : w ≤ 4) : 2 ^ w ≤ 16 := by
  obtain rfl | rfl | rfl | rfl | rfl : w = 0 ∨ w = 1 ∨ w = 2 ∨ w = 3 ∨ w = 4 := by omega
  all_goals decide
section FET
variable {E : zE} {h : zH} {n y s : Nat} {v : Int32} {sc : Nat → Int32} {N : Nat → Nat}
theorem sp_areLifters {x : Int32} (hC : CO h y s v) (hY : YN h y N) (h5 : N 5 ≤ 4) : zcall zpp E 132 [.ref 0, .int x] h = some (some (.int (zb (zlt x (2 ^ N 5)))), h) := by
  simp only [ze132, zi132_0, zi132_1, zi132_2, zi132_3, zi132_3n, zi132_4, zi132_7, zi132_10, zi132_11, zi132_12, zi132_13, zi132_16 (sk := []), zcl1, zlow_0, zlow_1, zlow_2, zlow_3, zlow_4, zfree_0, zfree_i, zfree_r, zfree_n, zfree_d, zfree_f, zfree_s, if_true, if_false, Option.bind_some, Option.toList_some, Option.toList_none, List.cons_append, List.nil_append, List.set_cons_zero, List.set_cons_succ, Bool.false_eq_true, reduceIte, zsw_c, zsw_n, Nat.reduceAdd, hC.r7, hY.f5, zbit_1 (N 5) (by omega), sp_within]
  exact zb_ret (f := fun v => some (some (Value.int v), h))
theorem sp_areLiftersM {x : Int32} (hM : MdO h sc) (hY : MY h N) (h5 : N 5 ≤ 4) : zcall zpp E 176 [.ref 73, .int x] h = some (some (.int (zb (zlt x (2 ^ N 5)))), h) := by
  simp only [ze176, zi176_0, zi176_1, zi176_2, zi176_3, zi176_4, zi176_4n, zi176_5, zi176_8, zi176_9, zi176_10, zi176_11, zi176_12, zi176_13, zi176_14, zi176_17 (sk := []), zcl1, zlow_0, zlow_1, zlow_2, zlow_3, zlow_4, zfree_0, zfree_i, zfree_r, zfree_n, zfree_d, zfree_f, zfree_s, if_true, if_false, Option.bind_some, Option.toList_some, Option.toList_none, List.cons_append, List.nil_append, List.set_cons_zero, List.set_cons_succ, Bool.false_eq_true, reduceIte, zsw_c, zsw_n, Nat.reduceAdd, hM.r5, hY.c 5 (by decide) (x := 5) rfl, zbit_1 (N 5) (by omega), sp_inI rfl zL0 rfl]
  exact zb_ret (f := fun v => some (some (Value.int v), h))
theorem ok_never (hJ : J h n) {k : Int32} : OK E h n 108 204 [.int k] := by
  obtain ⟨y, s, v, sc, N, hJ, h1, hB⟩ := hJ
  have M1 := hJ.md.put 0 rfl (by omega) 0
  have w0 := hJ.md.st 0 rfl (by omega) 0
  have Y1 : MY (zpf h 73 0 (.int 0)) N := hJ.my.keep (zpf_o (by omega))
  have c1 : zsel 9 [9, 70] = some 70 := rfl
  have c2 : zsel 9 [9, 83] = some 83 := rfl
  have c3 : zsel 10 [10, 132] = some 132 := rfl
  have m1 : zsel 11 [11, 172] = some 172 := rfl
  have m2 : zsel 11 [11, 176] = some 176 := rfl
  have m3 : zsel 11 [11, 203] = some 203 := rfl
  have h5 := hJ.wg.h5
  have hp := zpow_5 h5
  rcases hJ.wg.cs with ⟨d1, d2, -⟩ | ⟨d1, d2, hW, -⟩
  · refine ⟨(-1000002), h, zpf h 73 0 (.int 0), ?_, ?_, hJ.q h1 hB⟩
    · simp only [ze108, zi108_0, zi108_0n, zi108_1, zi108_4, zi108_7, zi108_10, zi108_12 (sk := []), zi108_13, zi108_13n, zi108_14, zi108_15, zi108_18, zi108_21, zi108_21n, zi108_22, zi108_25, zi108_26, zi108_29, zi108_32, zi108_34 (sk := []), zcl1, zlow_0, zlow_1, zlow_2, zlow_3, zlow_4, zfree_0, zfree_i, zfree_r, zfree_n, zfree_d, zfree_f, zfree_s, if_true, if_false, Option.bind_some, Option.toList_some, Option.toList_none, List.cons_append, List.nil_append, List.set_cons_zero, List.set_cons_succ, Bool.false_eq_true, reduceIte, zsw_c, zsw_n, Nat.reduceAdd, hJ.co.r7, hJ.yn.cls, c1, sp_isRead hJ.wg.h3 hJ.yn, d1, zb_f, z00]
    · simp only [ze204, zi204_0, zi204_0n, zi204_1, zi204_2, zi204_5, zi204_5n, zi204_6, zi204_9, zi204_12, zi204_14 (sk := []), zi204_15, zi204_15n, zi204_16, zi204_17, zi204_20, zi204_23, zi204_23n, zi204_24, zi204_25, zi204_28, zi204_31, zi204_33 (sk := []), zcl1, zlow_0, zlow_1, zlow_2, zlow_3, zlow_4, zfree_0, zfree_i, zfree_r, zfree_n, zfree_d, zfree_f, zfree_s, if_true, if_false, Option.bind_some, Option.toList_some, Option.toList_none, List.cons_append, List.nil_append, List.set_cons_zero, List.set_cons_succ, Bool.false_eq_true, reduceIte, zsw_c, zsw_n, Nat.reduceAdd, w0, M1.1, m1, sp_isThere M1 Y1 hJ.wg.h0, d2, zb_f, z00]
  rcases zlt_or k (n := 2 ^ N 5) (by omega) with hx | ⟨w, hw, rfl⟩
  · refine ⟨(-1000001), h, zpf h 73 0 (.int 0), ?_, ?_, hJ.q h1 hB⟩
    · simp only [ze108, zi108_0, zi108_0n, zi108_1, zi108_4, zi108_7, zi108_10, zi108_12 (sk := []), zi108_13, zi108_13n, zi108_14, zi108_15, zi108_18, zi108_21, zi108_21n, zi108_22, zi108_25, zi108_26, zi108_29, zi108_32, zi108_34 (sk := []), zcl1, zlow_0, zlow_1, zlow_2, zlow_3, zlow_4, zfree_0, zfree_i, zfree_r, zfree_n, zfree_d, zfree_f, zfree_s, if_true, if_false, Option.bind_some, Option.toList_some, Option.toList_none, List.cons_append, List.nil_append, List.set_cons_zero, List.set_cons_succ, Bool.false_eq_true, reduceIte, zsw_c, zsw_n, Nat.reduceAdd, hJ.co.r7, hJ.yn.cls, c1, sp_isRead hJ.wg.h3 hJ.yn, d1, zb_t, z10, hJ.co.1, c3, sp_areLifters hJ.co hJ.yn h5, hx, zb_f, z00]
    · simp only [ze204, zi204_0, zi204_0n, zi204_1, zi204_2, zi204_5, zi204_5n, zi204_6, zi204_9, zi204_12, zi204_14 (sk := []), zi204_15, zi204_15n, zi204_16, zi204_17, zi204_20, zi204_23, zi204_23n, zi204_24, zi204_25, zi204_28, zi204_31, zi204_33 (sk := []), zcl1, zlow_0, zlow_1, zlow_2, zlow_3, zlow_4, zfree_0, zfree_i, zfree_r, zfree_n, zfree_d, zfree_f, zfree_s, if_true, if_false, Option.bind_some, Option.toList_some, Option.toList_none, List.cons_append, List.nil_append, List.set_cons_zero, List.set_cons_succ, Bool.false_eq_true, reduceIte, zsw_c, zsw_n, Nat.reduceAdd, w0, M1.1, m1, sp_isThere M1 Y1 hJ.wg.h0, d2, zb_t, z10, m2, sp_areLiftersM M1 Y1 h5, hx, zb_f, z00]
  · have hx : zlt (nI w) (2 ^ N 5) = true := by rw [zlt_nI (by omega) (by omega)]; simp [hw]
    refine ⟨(nI (stO N w (N 8) 8)), h, zpf h 73 0 (.int 0), ?_, ?_, hJ.q h1 hB⟩
    · simp only [ze108, zi108_0, zi108_0n, zi108_1, zi108_4, zi108_7, zi108_10, zi108_12 (sk := []), zi108_13, zi108_13n, zi108_14, zi108_15, zi108_18, zi108_21, zi108_21n, zi108_22, zi108_25, zi108_26, zi108_29, zi108_32, zi108_34 (sk := []), zcl1, zlow_0, zlow_1, zlow_2, zlow_3, zlow_4, zfree_0, zfree_i, zfree_r, zfree_n, zfree_d, zfree_f, zfree_s, if_true, if_false, Option.bind_some, Option.toList_some, Option.toList_none, List.cons_append, List.nil_append, List.set_cons_zero, List.set_cons_succ, Bool.false_eq_true, reduceIte, zsw_c, zsw_n, Nat.reduceAdd, hJ.co.r7, hJ.yn.cls, c1, sp_isRead hJ.wg.h3 hJ.yn, d1, zb_t, z10, hJ.co.1, c3, sp_areLifters hJ.co hJ.yn h5, hx, c2, sp_leftBy hW hJ.yn (show w < 256 by omega), left_eq hW hW.2.2.2.2.2.2.1]
    · simp only [ze204, zi204_0, zi204_0n, zi204_1, zi204_2, zi204_5, zi204_5n, zi204_6, zi204_9, zi204_12, zi204_14 (sk := []), zi204_15, zi204_15n, zi204_16, zi204_17, zi204_20, zi204_23, zi204_23n, zi204_24, zi204_25, zi204_28, zi204_31, zi204_33 (sk := []), zcl1, zlow_0, zlow_1, zlow_2, zlow_3, zlow_4, zfree_0, zfree_i, zfree_r, zfree_n, zfree_d, zfree_f, zfree_s, if_true, if_false, Option.bind_some, Option.toList_some, Option.toList_none, List.cons_append, List.nil_append, List.set_cons_zero, List.set_cons_succ, Bool.false_eq_true, reduceIte, zsw_c, zsw_n, Nat.reduceAdd, w0, M1.1, m1, sp_isThere M1 Y1 hJ.wg.h0, d2, zb_t, z10, m2, sp_areLiftersM M1 Y1 h5, hx, m3, sp_stays M1 Y1 hW (show w < 256 by omega)]
theorem ok_fell (hJ : J h n) {x k : Int32} : OK E h n 111 208 [.int x, .int k] := by
  obtain ⟨y, s, v, sc, N, hJ, h1, hB⟩ := hJ
  have M1 := hJ.md.put 0 rfl (by omega) 0
  have w0 := hJ.md.st 0 rfl (by omega) 0
  have Y1 : MY (zpf h 73 0 (.int 0)) N := hJ.my.keep (zpf_o (by omega))
  have c1 : zsel 9 [9, 71] = some 71 := rfl
  have c2 : zsel 9 [9, 87] = some 87 := rfl
  have m1 : zsel 11 [11, 173] = some 173 := rfl
  have m2 : zsel 11 [11, 207] = some 207 := rfl
  have h3 := hJ.wg.h3
  have i1 := fun (H : zH) => sp_inI (E := E) (h := H) (u := k.toInt64) (v := 0) (w := 1) (x := k) (a := 0) (b := 1) rfl (by decide) (by decide)
  rcases zlt_or x (n := N 3) (by omega) with hx | ⟨b, hb, rfl⟩
  · refine ⟨(-1000001), h, zpf h 73 0 (.int 0), ?_, ?_, hJ.q h1 hB⟩
    · simp only [ze111, zi111_0, zi111_0n, zi111_1, zi111_4, zi111_5, zi111_8, zi111_11, zi111_12, zi111_13, zi111_14, zi111_17, zi111_20, zi111_20n, zi111_21, zi111_24, zi111_25, zi111_26, zi111_29, zi111_32, zi111_34 (sk := []), zcl1, zlow_0, zlow_1, zlow_2, zlow_3, zlow_4, zfree_0, zfree_i, zfree_r, zfree_n, zfree_d, zfree_f, zfree_s, if_true, if_false, Option.bind_some, Option.toList_some, Option.toList_none, List.cons_append, List.nil_append, List.set_cons_zero, List.set_cons_succ, Bool.false_eq_true, reduceIte, zsw_c, zsw_n, Nat.reduceAdd, hJ.co.r7, hJ.yn.cls, c1, sp_hasBike hJ.yn, hx, zb_f, z00]
    · simp only [ze208, zi208_0, zi208_0n, zi208_1, zi208_2, zi208_5, zi208_5n, zi208_6, zi208_7, zi208_8, zi208_11, zi208_14, zi208_15, zi208_16, zi208_17, zi208_18, zi208_21, zi208_24, zi208_24n, zi208_25, zi208_26, zi208_27, zi208_30, zi208_33, zi208_35 (sk := []), zcl1, zlow_0, zlow_1, zlow_2, zlow_3, zlow_4, zfree_0, zfree_i, zfree_r, zfree_n, zfree_d, zfree_f, zfree_s, if_true, if_false, Option.bind_some, Option.toList_some, Option.toList_none, List.cons_append, List.nil_append, List.set_cons_zero, List.set_cons_succ, Bool.false_eq_true, reduceIte, zsw_c, zsw_n, Nat.reduceAdd, w0, M1.1, m1, sp_isBikeM M1 Y1 rfl, hx, zb_f, z00]
  have hW := hJ.wg.wf (i := 3) (by omega) (by omega)
  have hx : zlt (nI b) (N 3) = true := by rw [zlt_nI (by omega) (by omega)]; simp [hb]
  have k2 : (decide (0 ≤ k) && decide (k ≤ 1)) = zlt k 2 := rfl
  rcases zlt_or k (n := 2) (by omega) with hk | ⟨k, hk, rfl⟩
  · rw [hk] at k2
    refine ⟨(-1000001), h, zpf h 73 0 (.int 0), ?_, ?_, hJ.q h1 hB⟩
    · simp only [ze111, zi111_0, zi111_0n, zi111_1, zi111_4, zi111_5, zi111_8, zi111_11, zi111_12, zi111_13, zi111_14, zi111_17, zi111_20, zi111_20n, zi111_21, zi111_24, zi111_25, zi111_26, zi111_29, zi111_32, zi111_34 (sk := []), zcl1, zlow_0, zlow_1, zlow_2, zlow_3, zlow_4, zfree_0, zfree_i, zfree_r, zfree_n, zfree_d, zfree_f, zfree_s, if_true, if_false, Option.bind_some, Option.toList_some, Option.toList_none, List.cons_append, List.nil_append, List.set_cons_zero, List.set_cons_succ, Bool.false_eq_true, reduceIte, zsw_c, zsw_n, Nat.reduceAdd, hJ.co.r7, hJ.yn.cls, c1, sp_hasBike hJ.yn, hx, zb_t, z10, sp_within, k2, zb_f, z00]
    · simp only [ze208, zi208_0, zi208_0n, zi208_1, zi208_2, zi208_5, zi208_5n, zi208_6, zi208_7, zi208_8, zi208_11, zi208_14, zi208_15, zi208_16, zi208_17, zi208_18, zi208_21, zi208_24, zi208_24n, zi208_25, zi208_26, zi208_27, zi208_30, zi208_33, zi208_35 (sk := []), zcl1, zlow_0, zlow_1, zlow_2, zlow_3, zlow_4, zfree_0, zfree_i, zfree_r, zfree_n, zfree_d, zfree_f, zfree_s, if_true, if_false, Option.bind_some, Option.toList_some, Option.toList_none, List.cons_append, List.nil_append, List.set_cons_zero, List.set_cons_succ, Bool.false_eq_true, reduceIte, zsw_c, zsw_n, Nat.reduceAdd, w0, M1.1, m1, sp_isBikeM M1 Y1 rfl, hx, zb_t, z10, i1, k2, zb_f, z00]
  · have hk2 : zlt (nI k) 2 = true := by rw [zlt_nI (by omega) (by omega)]; simp [hk]
    rw [hk2] at k2
    refine ⟨(nI (fellN N b k)), h, zpf h 73 0 (.int 0), ?_, ?_, hJ.q h1 hB⟩
    · simp only [ze111, zi111_0, zi111_0n, zi111_1, zi111_4, zi111_5, zi111_8, zi111_11, zi111_12, zi111_13, zi111_14, zi111_17, zi111_20, zi111_20n, zi111_21, zi111_24, zi111_25, zi111_26, zi111_29, zi111_32, zi111_34 (sk := []), zcl1, zlow_0, zlow_1, zlow_2, zlow_3, zlow_4, zfree_0, zfree_i, zfree_r, zfree_n, zfree_d, zfree_f, zfree_s, if_true, if_false, Option.bind_some, Option.toList_some, Option.toList_none, List.cons_append, List.nil_append, List.set_cons_zero, List.set_cons_succ, Bool.false_eq_true, reduceIte, zsw_c, zsw_n, Nat.reduceAdd, hJ.co.r7, hJ.yn.cls, c1, sp_hasBike hJ.yn, hx, zb_t, z10, sp_within, k2, c2, sp_goDown hW hJ.yn hb (show k ≤ 1 by omega)]
    · simp only [ze208, zi208_0, zi208_0n, zi208_1, zi208_2, zi208_5, zi208_5n, zi208_6, zi208_7, zi208_8, zi208_11, zi208_14, zi208_15, zi208_16, zi208_17, zi208_18, zi208_21, zi208_24, zi208_24n, zi208_25, zi208_26, zi208_27, zi208_30, zi208_33, zi208_35 (sk := []), zcl1, zlow_0, zlow_1, zlow_2, zlow_3, zlow_4, zfree_0, zfree_i, zfree_r, zfree_n, zfree_d, zfree_f, zfree_s, if_true, if_false, Option.bind_some, Option.toList_some, Option.toList_none, List.cons_append, List.nil_append, List.set_cons_zero, List.set_cons_succ, Bool.false_eq_true, reduceIte, zsw_c, zsw_n, Nat.reduceAdd, w0, M1.1, m1, sp_isBikeM M1 Y1 rfl, hx, zb_t, z10, i1, k2, m2, sp_fellBy M1 Y1 hW hb (show k ≤ 1 by omega)]
theorem fetC {k : Int32} (hC : CO h y s v) (hY : YN h y N) (hW : WF N) : ∀ (m j : Nat) (v4 : Value), j + m = 2 ^ N 5 → ∃ v4' : Value, zrun zpp E 109 (30, [.ref 0, .int k, .int (eO (ftF (fun t => stO N t (N 8) 8) j)), .int (nI j), v4], [], h) = zrun zpp E 109 (91, [.ref 0, .int k, .int (eO (ftF (fun t => stO N t (N 8) 8) (2 ^ N 5))), .int (nI (2 ^ N 5)), v4'], [], h) := by
  have h5 := hW.2.2.2.2.2.1
  have hp := zpow_5 h5
  have c2 : zsel 9 [9, 83] = some 83 := rfl
  intro m
  induction m with
  | zero =>
    intro j v4 hj
    refine ⟨v4, ?_⟩
    rw [show j = 2 ^ N 5 by omega]
    conv =>
      lhs
      simp only [zi109_30, zi109_31, zi109_32, zi109_32n, zi109_33, zi109_36, zi109_39, zcl1, zlow_0, zlow_1, zlow_2, zlow_3, zlow_4, zfree_0, zfree_i, zfree_r, zfree_n, zfree_d, zfree_f, zfree_s, if_true, if_false, Option.bind_some, Option.toList_some, Option.toList_none, List.cons_append, List.nil_append, List.set_cons_zero, List.set_cons_succ, Bool.false_eq_true, reduceIte, zsw_c, zsw_n, Nat.reduceAdd, hC.r7, hY.f5, zbit_1 (N 5) (by omega)]
    rw [zi109_40, if_pos (by rw [nI_leP (by omega) (by omega)]; omega)]
  | succ m ih =>
    intro j v4 hj
    have hl := stO_lt (N := N) (s := j) hW.2.2.2.1.2 hW.d8 (n := 8)
    have sl := sp_leftBy (E := E) hW hY (show j < 256 by omega)
    rw [left_eq hW hW.2.2.2.2.2.2.1] at sl
    cases hq : ftF (fun t => stO N t (N 8) 8) j with
    | none =>
      by_cases hf : stO N j (N 8) 8 = 0
      · obtain ⟨v4', ih1⟩ := ih (j + 1) (.int 1) (by omega)
        refine ⟨v4', ?_⟩
        rw [← ih1, show ftF (fun t => stO N t (N 8) 8) (j + 1) = some j by unfold ftF; rw [hq]; exact if_pos hf]
        conv =>
          lhs
          simp only [zi109_30, zi109_31, zi109_32, zi109_32n, zi109_33, zi109_36, zi109_39, zcl1, zlow_0, zlow_1, zlow_2, zlow_3, zlow_4, zfree_0, zfree_i, zfree_r, zfree_n, zfree_d, zfree_f, zfree_s, if_true, if_false, Option.bind_some, Option.toList_some, Option.toList_none, List.cons_append, List.nil_append, List.set_cons_zero, List.set_cons_succ, Bool.false_eq_true, reduceIte, zsw_c, zsw_n, Nat.reduceAdd, hC.r7, hY.f5, zbit_1 (N 5) (by omega)]
        rw [zi109_40, if_neg (by rw [nI_leP (by omega) (by omega)]; omega)]
        conv =>
          lhs
          simp only [zi109_43, zi109_44, zi109_46, zi109_49, zi109_50, zi109_53, zi109_54, zi109_57, zi109_60, zi109_61, zi109_64, zi109_65, zi109_67, zi109_69, zi109_72, zi109_72n, zi109_73, zi109_76, zi109_77, zi109_80, zi109_83, zi109_84, zi109_85, zi109_88, zcl1, zlow_0, zlow_1, zlow_2, zlow_3, zlow_4, zfree_0, zfree_i, zfree_r, zfree_n, zfree_d, zfree_f, zfree_s, if_true, if_false, Option.bind_some, Option.toList_some, Option.toList_none, List.cons_append, List.nil_append, List.set_cons_zero, List.set_cons_succ, Bool.false_eq_true, reduceIte, zsw_c, zsw_n, Nat.reduceAdd, eO, qnn, z10, hC.r7, hY.cls, c2, sl, nI_z8 _ hl, eq_true hf, ix_p1]
        rfl
      · obtain ⟨v4', ih1⟩ := ih (j + 1) (.int 1) (by omega)
        refine ⟨v4', ?_⟩
        rw [← ih1, show ftF (fun t => stO N t (N 8) 8) (j + 1) = none by unfold ftF; rw [hq]; exact if_neg hf]
        conv =>
          lhs
          simp only [zi109_30, zi109_31, zi109_32, zi109_32n, zi109_33, zi109_36, zi109_39, zcl1, zlow_0, zlow_1, zlow_2, zlow_3, zlow_4, zfree_0, zfree_i, zfree_r, zfree_n, zfree_d, zfree_f, zfree_s, if_true, if_false, Option.bind_some, Option.toList_some, Option.toList_none, List.cons_append, List.nil_append, List.set_cons_zero, List.set_cons_succ, Bool.false_eq_true, reduceIte, zsw_c, zsw_n, Nat.reduceAdd, hC.r7, hY.f5, zbit_1 (N 5) (by omega)]
        rw [zi109_40, if_neg (by rw [nI_leP (by omega) (by omega)]; omega)]
        conv =>
          lhs
          simp only [zi109_43, zi109_44, zi109_46, zi109_49, zi109_50, zi109_53, zi109_54, zi109_57, zi109_60, zi109_61, zi109_64, zi109_65, zi109_67, zi109_69, zi109_72, zi109_72n, zi109_73, zi109_76, zi109_77, zi109_80, zi109_83, zi109_84, zi109_85, zi109_88, zcl1, zlow_0, zlow_1, zlow_2, zlow_3, zlow_4, zfree_0, zfree_i, zfree_r, zfree_n, zfree_d, zfree_f, zfree_s, if_true, if_false, Option.bind_some, Option.toList_some, Option.toList_none, List.cons_append, List.nil_append, List.set_cons_zero, List.set_cons_succ, Bool.false_eq_true, reduceIte, zsw_c, zsw_n, Nat.reduceAdd, eO, qnn, z10, hC.r7, hY.cls, c2, sl, nI_z8 _ hl, eq_false hf, ix_p1]
        rfl
    | some b =>
      have hb := ftF_lt hq
      by_cases hz : zpc b ≤ zpc j
      · obtain ⟨v4', ih1⟩ := ih (j + 1) (.int 0) (by omega)
        refine ⟨v4', ?_⟩
        rw [← ih1, show ftF (fun t => stO N t (N 8) 8) (j + 1) = some b by unfold ftF; rw [hq]; exact if_neg (fun z => by omega)]
        conv =>
          lhs
          simp only [zi109_30, zi109_31, zi109_32, zi109_32n, zi109_33, zi109_36, zi109_39, zcl1, zlow_0, zlow_1, zlow_2, zlow_3, zlow_4, zfree_0, zfree_i, zfree_r, zfree_n, zfree_d, zfree_f, zfree_s, if_true, if_false, Option.bind_some, Option.toList_some, Option.toList_none, List.cons_append, List.nil_append, List.set_cons_zero, List.set_cons_succ, Bool.false_eq_true, reduceIte, zsw_c, zsw_n, Nat.reduceAdd, hC.r7, hY.f5, zbit_1 (N 5) (by omega)]
        rw [zi109_40, if_neg (by rw [nI_leP (by omega) (by omega)]; omega)]
        have z1 := zbc_k j (by omega)
        have z2 := zbc_k b (by omega)
        conv =>
          lhs
          simp only [zi109_43, zi109_44, zi109_46, zi109_49, zi109_50, zi109_53, zi109_54, zi109_57, zi109_60, zi109_61, zi109_64, zi109_65, zi109_67, zi109_69, zi109_72, zi109_72n, zi109_73, zi109_76, zi109_77, zi109_80, zi109_83, zi109_84, zi109_85, zi109_88, zcl1, zlow_0, zlow_1, zlow_2, zlow_3, zlow_4, zfree_0, zfree_i, zfree_r, zfree_n, zfree_d, zfree_f, zfree_s, if_true, if_false, Option.bind_some, Option.toList_some, Option.toList_none, List.cons_append, List.nil_append, List.set_cons_zero, List.set_cons_succ, Bool.false_eq_true, reduceIte, zsw_c, zsw_n, Nat.reduceAdd, eO, qnb b (by omega), sp_bitCount, z1.1, z2.1, nI_leP (show zpc b < 2 ^ 31 by omega) (show zpc j < 2 ^ 31 by omega), eq_true hz, z00, ix_p1]
        rfl
      · have z1 := zbc_k j (by omega)
        have z2 := zbc_k b (by omega)
        by_cases hf : stO N j (N 8) 8 = 0
        · obtain ⟨v4', ih1⟩ := ih (j + 1) (.int 1) (by omega)
          refine ⟨v4', ?_⟩
          rw [← ih1, show ftF (fun t => stO N t (N 8) 8) (j + 1) = some j by unfold ftF; rw [hq]; exact if_pos ⟨by omega, hf⟩]
          conv =>
            lhs
            simp only [zi109_30, zi109_31, zi109_32, zi109_32n, zi109_33, zi109_36, zi109_39, zcl1, zlow_0, zlow_1, zlow_2, zlow_3, zlow_4, zfree_0, zfree_i, zfree_r, zfree_n, zfree_d, zfree_f, zfree_s, if_true, if_false, Option.bind_some, Option.toList_some, Option.toList_none, List.cons_append, List.nil_append, List.set_cons_zero, List.set_cons_succ, Bool.false_eq_true, reduceIte, zsw_c, zsw_n, Nat.reduceAdd, hC.r7, hY.f5, zbit_1 (N 5) (by omega)]
          rw [zi109_40, if_neg (by rw [nI_leP (by omega) (by omega)]; omega)]
          conv =>
            lhs
            simp only [zi109_43, zi109_44, zi109_46, zi109_49, zi109_50, zi109_53, zi109_54, zi109_57, zi109_60, zi109_61, zi109_64, zi109_65, zi109_67, zi109_69, zi109_72, zi109_72n, zi109_73, zi109_76, zi109_77, zi109_80, zi109_83, zi109_84, zi109_85, zi109_88, zcl1, zlow_0, zlow_1, zlow_2, zlow_3, zlow_4, zfree_0, zfree_i, zfree_r, zfree_n, zfree_d, zfree_f, zfree_s, if_true, if_false, Option.bind_some, Option.toList_some, Option.toList_none, List.cons_append, List.nil_append, List.set_cons_zero, List.set_cons_succ, Bool.false_eq_true, reduceIte, zsw_c, zsw_n, Nat.reduceAdd, eO, qnb b (by omega), sp_bitCount, z1.1, z2.1, nI_leP (show zpc b < 2 ^ 31 by omega) (show zpc j < 2 ^ 31 by omega), eq_false hz, z10, hC.r7, hY.cls, c2, sl, nI_z8 _ hl, eq_true hf, ix_p1]
          rfl
        · obtain ⟨v4', ih1⟩ := ih (j + 1) (.int 1) (by omega)
          refine ⟨v4', ?_⟩
          rw [← ih1, show ftF (fun t => stO N t (N 8) 8) (j + 1) = some b by unfold ftF; rw [hq]; exact if_neg (fun z => hf z.2)]
          conv =>
            lhs
            simp only [zi109_30, zi109_31, zi109_32, zi109_32n, zi109_33, zi109_36, zi109_39, zcl1, zlow_0, zlow_1, zlow_2, zlow_3, zlow_4, zfree_0, zfree_i, zfree_r, zfree_n, zfree_d, zfree_f, zfree_s, if_true, if_false, Option.bind_some, Option.toList_some, Option.toList_none, List.cons_append, List.nil_append, List.set_cons_zero, List.set_cons_succ, Bool.false_eq_true, reduceIte, zsw_c, zsw_n, Nat.reduceAdd, hC.r7, hY.f5, zbit_1 (N 5) (by omega)]
          rw [zi109_40, if_neg (by rw [nI_leP (by omega) (by omega)]; omega)]
          conv =>
            lhs
            simp only [zi109_43, zi109_44, zi109_46, zi109_49, zi109_50, zi109_53, zi109_54, zi109_57, zi109_60, zi109_61, zi109_64, zi109_65, zi109_67, zi109_69, zi109_72, zi109_72n, zi109_73, zi109_76, zi109_77, zi109_80, zi109_83, zi109_84, zi109_85, zi109_88, zcl1, zlow_0, zlow_1, zlow_2, zlow_3, zlow_4, zfree_0, zfree_i, zfree_r, zfree_n, zfree_d, zfree_f, zfree_s, if_true, if_false, Option.bind_some, Option.toList_some, Option.toList_none, List.cons_append, List.nil_append, List.set_cons_zero, List.set_cons_succ, Bool.false_eq_true, reduceIte, zsw_c, zsw_n, Nat.reduceAdd, eO, qnb b (by omega), sp_bitCount, z1.1, z2.1, nI_leP (show zpc b < 2 ^ 31 by omega) (show zpc j < 2 ^ 31 by omega), eq_false hz, z10, hC.r7, hY.cls, c2, sl, nI_z8 _ hl, eq_false hf, ix_p1]
          rfl
theorem fetM {k : Int32} (hM : MdO h sc) (hY : MY h N) (hW : WF N) : ∀ (m j : Nat) (v4 : Value), j + m = 2 ^ N 5 → ∃ v4' : Value, zrun zpp E 205 (33, [.ref 73, .int k, .int (eO (ftF (fun t => stO N t (N 8) 8) j)), .int (nI j), v4], [], h) = zrun zpp E 205 (94, [.ref 73, .int k, .int (eO (ftF (fun t => stO N t (N 8) 8) (2 ^ N 5))), .int (nI (2 ^ N 5)), v4'], [], h) := by
  have h5 := hW.2.2.2.2.2.1
  have hp := zpow_5 h5
  have c2 : zsel 11 [11, 203] = some 203 := rfl
  intro m
  induction m with
  | zero =>
    intro j v4 hj
    refine ⟨v4, ?_⟩
    rw [show j = 2 ^ N 5 by omega]
    conv =>
      lhs
      simp only [zi205_33, zi205_34, zi205_35, zi205_35n, zi205_36, zi205_39, zi205_40, zi205_41, zcl1, zlow_0, zlow_1, zlow_2, zlow_3, zlow_4, zfree_0, zfree_i, zfree_r, zfree_n, zfree_d, zfree_f, zfree_s, if_true, if_false, Option.bind_some, Option.toList_some, Option.toList_none, List.cons_append, List.nil_append, List.set_cons_zero, List.set_cons_succ, Bool.false_eq_true, reduceIte, zsw_c, zsw_n, Nat.reduceAdd, hM.r5, hY.c 5 (by decide) (x := 5) rfl, zbit_1 (N 5) (by omega)]
    rw [zi205_42, if_pos (by rw [nI_leP (by omega) (by omega)]; omega)]
  | succ m ih =>
    intro j v4 hj
    have hl := stO_lt (N := N) (s := j) hW.2.2.2.1.2 hW.d8 (n := 8)
    have sl := sp_stays (E := E) hM hY hW (show j < 256 by omega)
    cases hq : ftF (fun t => stO N t (N 8) 8) j with
    | none =>
      by_cases hf : stO N j (N 8) 8 = 0
      · obtain ⟨v4', ih1⟩ := ih (j + 1) (.int 1) (by omega)
        refine ⟨v4', ?_⟩
        rw [← ih1, show ftF (fun t => stO N t (N 8) 8) (j + 1) = some j by unfold ftF; rw [hq]; exact if_pos hf]
        conv =>
          lhs
          simp only [zi205_33, zi205_34, zi205_35, zi205_35n, zi205_36, zi205_39, zi205_40, zi205_41, zcl1, zlow_0, zlow_1, zlow_2, zlow_3, zlow_4, zfree_0, zfree_i, zfree_r, zfree_n, zfree_d, zfree_f, zfree_s, if_true, if_false, Option.bind_some, Option.toList_some, Option.toList_none, List.cons_append, List.nil_append, List.set_cons_zero, List.set_cons_succ, Bool.false_eq_true, reduceIte, zsw_c, zsw_n, Nat.reduceAdd, hM.r5, hY.c 5 (by decide) (x := 5) rfl, zbit_1 (N 5) (by omega)]
        rw [zi205_42, if_neg (by rw [nI_leP (by omega) (by omega)]; omega)]
        conv =>
          lhs
          simp only [zi205_45, zi205_46, zi205_48, zi205_51, zi205_52, zi205_55, zi205_56, zi205_59, zi205_62, zi205_63, zi205_66, zi205_67, zi205_69, zi205_71, zi205_74, zi205_74n, zi205_75, zi205_76, zi205_79, zi205_82, zi205_83, zi205_86, zi205_87, zi205_88, zi205_91, zcl1, zlow_0, zlow_1, zlow_2, zlow_3, zlow_4, zfree_0, zfree_i, zfree_r, zfree_n, zfree_d, zfree_f, zfree_s, if_true, if_false, Option.bind_some, Option.toList_some, Option.toList_none, List.cons_append, List.nil_append, List.set_cons_zero, List.set_cons_succ, Bool.false_eq_true, reduceIte, zsw_c, zsw_n, Nat.reduceAdd, eO, qnn, z10, hM.1, c2, sl, nI_z8 _ hl, eq_true hf, ix_p1]
        rfl
      · obtain ⟨v4', ih1⟩ := ih (j + 1) (.int 1) (by omega)
        refine ⟨v4', ?_⟩
        rw [← ih1, show ftF (fun t => stO N t (N 8) 8) (j + 1) = none by unfold ftF; rw [hq]; exact if_neg hf]
        conv =>
          lhs
          simp only [zi205_33, zi205_34, zi205_35, zi205_35n, zi205_36, zi205_39, zi205_40, zi205_41, zcl1, zlow_0, zlow_1, zlow_2, zlow_3, zlow_4, zfree_0, zfree_i, zfree_r, zfree_n, zfree_d, zfree_f, zfree_s, if_true, if_false, Option.bind_some, Option.toList_some, Option.toList_none, List.cons_append, List.nil_append, List.set_cons_zero, List.set_cons_succ, Bool.false_eq_true, reduceIte, zsw_c, zsw_n, Nat.reduceAdd, hM.r5, hY.c 5 (by decide) (x := 5) rfl, zbit_1 (N 5) (by omega)]
        rw [zi205_42, if_neg (by rw [nI_leP (by omega) (by omega)]; omega)]
        conv =>
          lhs
          simp only [zi205_45, zi205_46, zi205_48, zi205_51, zi205_52, zi205_55, zi205_56, zi205_59, zi205_62, zi205_63, zi205_66, zi205_67, zi205_69, zi205_71, zi205_74, zi205_74n, zi205_75, zi205_76, zi205_79, zi205_82, zi205_83, zi205_86, zi205_87, zi205_88, zi205_91, zcl1, zlow_0, zlow_1, zlow_2, zlow_3, zlow_4, zfree_0, zfree_i, zfree_r, zfree_n, zfree_d, zfree_f, zfree_s, if_true, if_false, Option.bind_some, Option.toList_some, Option.toList_none, List.cons_append, List.nil_append, List.set_cons_zero, List.set_cons_succ, Bool.false_eq_true, reduceIte, zsw_c, zsw_n, Nat.reduceAdd, eO, qnn, z10, hM.1, c2, sl, nI_z8 _ hl, eq_false hf, ix_p1]
        rfl
    | some b =>
      have hb := ftF_lt hq
      by_cases hz : zpc b ≤ zpc j
      · obtain ⟨v4', ih1⟩ := ih (j + 1) (.int 0) (by omega)
        refine ⟨v4', ?_⟩
        rw [← ih1, show ftF (fun t => stO N t (N 8) 8) (j + 1) = some b by unfold ftF; rw [hq]; exact if_neg (fun z => by omega)]
        conv =>
          lhs
          simp only [zi205_33, zi205_34, zi205_35, zi205_35n, zi205_36, zi205_39, zi205_40, zi205_41, zcl1, zlow_0, zlow_1, zlow_2, zlow_3, zlow_4, zfree_0, zfree_i, zfree_r, zfree_n, zfree_d, zfree_f, zfree_s, if_true, if_false, Option.bind_some, Option.toList_some, Option.toList_none, List.cons_append, List.nil_append, List.set_cons_zero, List.set_cons_succ, Bool.false_eq_true, reduceIte, zsw_c, zsw_n, Nat.reduceAdd, hM.r5, hY.c 5 (by decide) (x := 5) rfl, zbit_1 (N 5) (by omega)]
        rw [zi205_42, if_neg (by rw [nI_leP (by omega) (by omega)]; omega)]
        have z1 := zbc_k j (by omega)
        have z2 := zbc_k b (by omega)
        conv =>
          lhs
          simp only [zi205_45, zi205_46, zi205_48, zi205_51, zi205_52, zi205_55, zi205_56, zi205_59, zi205_62, zi205_63, zi205_66, zi205_67, zi205_69, zi205_71, zi205_74, zi205_74n, zi205_75, zi205_76, zi205_79, zi205_82, zi205_83, zi205_86, zi205_87, zi205_88, zi205_91, zcl1, zlow_0, zlow_1, zlow_2, zlow_3, zlow_4, zfree_0, zfree_i, zfree_r, zfree_n, zfree_d, zfree_f, zfree_s, if_true, if_false, Option.bind_some, Option.toList_some, Option.toList_none, List.cons_append, List.nil_append, List.set_cons_zero, List.set_cons_succ, Bool.false_eq_true, reduceIte, zsw_c, zsw_n, Nat.reduceAdd, eO, qnb b (by omega), sp_bits (show j < 256 by omega), sp_bits (show b < 256 by omega), nI_leP (show zpc b < 2 ^ 31 by omega) (show zpc j < 2 ^ 31 by omega), eq_true hz, z00, ix_p1]
        rfl
      · have z1 := zbc_k j (by omega)
        have z2 := zbc_k b (by omega)
        by_cases hf : stO N j (N 8) 8 = 0
        · obtain ⟨v4', ih1⟩ := ih (j + 1) (.int 1) (by omega)
          refine ⟨v4', ?_⟩
          rw [← ih1, show ftF (fun t => stO N t (N 8) 8) (j + 1) = some j by unfold ftF; rw [hq]; exact if_pos ⟨by omega, hf⟩]
          conv =>
            lhs
            simp only [zi205_33, zi205_34, zi205_35, zi205_35n, zi205_36, zi205_39, zi205_40, zi205_41, zcl1, zlow_0, zlow_1, zlow_2, zlow_3, zlow_4, zfree_0, zfree_i, zfree_r, zfree_n, zfree_d, zfree_f, zfree_s, if_true, if_false, Option.bind_some, Option.toList_some, Option.toList_none, List.cons_append, List.nil_append, List.set_cons_zero, List.set_cons_succ, Bool.false_eq_true, reduceIte, zsw_c, zsw_n, Nat.reduceAdd, hM.r5, hY.c 5 (by decide) (x := 5) rfl, zbit_1 (N 5) (by omega)]
          rw [zi205_42, if_neg (by rw [nI_leP (by omega) (by omega)]; omega)]
          conv =>
            lhs
            simp only [zi205_45, zi205_46, zi205_48, zi205_51, zi205_52, zi205_55, zi205_56, zi205_59, zi205_62, zi205_63, zi205_66, zi205_67, zi205_69, zi205_71, zi205_74, zi205_74n, zi205_75, zi205_76, zi205_79, zi205_82, zi205_83, zi205_86, zi205_87, zi205_88, zi205_91, zcl1, zlow_0, zlow_1, zlow_2, zlow_3, zlow_4, zfree_0, zfree_i, zfree_r, zfree_n, zfree_d, zfree_f, zfree_s, if_true, if_false, Option.bind_some, Option.toList_some, Option.toList_none, List.cons_append, List.nil_append, List.set_cons_zero, List.set_cons_succ, Bool.false_eq_true, reduceIte, zsw_c, zsw_n, Nat.reduceAdd, eO, qnb b (by omega), sp_bits (show j < 256 by omega), sp_bits (show b < 256 by omega), nI_leP (show zpc b < 2 ^ 31 by omega) (show zpc j < 2 ^ 31 by omega), eq_false hz, z10, hM.1, c2, sl, nI_z8 _ hl, eq_true hf, ix_p1]
          rfl
        · obtain ⟨v4', ih1⟩ := ih (j + 1) (.int 1) (by omega)
          refine ⟨v4', ?_⟩
          rw [← ih1, show ftF (fun t => stO N t (N 8) 8) (j + 1) = some b by unfold ftF; rw [hq]; exact if_neg (fun z => hf z.2)]
          conv =>
            lhs
            simp only [zi205_33, zi205_34, zi205_35, zi205_35n, zi205_36, zi205_39, zi205_40, zi205_41, zcl1, zlow_0, zlow_1, zlow_2, zlow_3, zlow_4, zfree_0, zfree_i, zfree_r, zfree_n, zfree_d, zfree_f, zfree_s, if_true, if_false, Option.bind_some, Option.toList_some, Option.toList_none, List.cons_append, List.nil_append, List.set_cons_zero, List.set_cons_succ, Bool.false_eq_true, reduceIte, zsw_c, zsw_n, Nat.reduceAdd, hM.r5, hY.c 5 (by decide) (x := 5) rfl, zbit_1 (N 5) (by omega)]
          rw [zi205_42, if_neg (by rw [nI_leP (by omega) (by omega)]; omega)]
          conv =>
            lhs
            simp only [zi205_45, zi205_46, zi205_48, zi205_51, zi205_52, zi205_55, zi205_56, zi205_59, zi205_62, zi205_63, zi205_66, zi205_67, zi205_69, zi205_71, zi205_74, zi205_74n, zi205_75, zi205_76, zi205_79, zi205_82, zi205_83, zi205_86, zi205_87, zi205_88, zi205_91, zcl1, zlow_0, zlow_1, zlow_2, zlow_3, zlow_4, zfree_0, zfree_i, zfree_r, zfree_n, zfree_d, zfree_f, zfree_s, if_true, if_false, Option.bind_some, Option.toList_some, Option.toList_none, List.cons_append, List.nil_append, List.set_cons_zero, List.set_cons_succ, Bool.false_eq_true, reduceIte, zsw_c, zsw_n, Nat.reduceAdd, eO, qnb b (by omega), sp_bits (show j < 256 by omega), sp_bits (show b < 256 by omega), nI_leP (show zpc b < 2 ^ 31 by omega) (show zpc j < 2 ^ 31 by omega), eq_false hz, z10, hM.1, c2, sl, nI_z8 _ hl, eq_false hf, ix_p1]
          rfl
theorem ok_fetch (hJ : J h n) {k : Int32} : OK E h n 109 205 [.int k] := by
  obtain ⟨y, s, v, sc, N, hJ, h1, hB⟩ := hJ
  have M1 := hJ.md.put 0 rfl (by omega) 0
  have w0 := hJ.md.st 0 rfl (by omega) 0
  have Y1 : MY (zpf h 73 0 (.int 0)) N := hJ.my.keep (zpf_o (by omega))
  have c1 : zsel 9 [9, 70] = some 70 := rfl
  have m1 : zsel 11 [11, 172] = some 172 := rfl
  have h5 := hJ.wg.h5
  have hp := zpow_5 h5
  have i1 := fun (H : zH) => sp_inI (E := E) (h := H) (u := k.toInt64) (v := 0) (w := 1) (x := k) (a := 0) (b := 1) rfl (by decide) (by decide)
  rcases hJ.wg.cs with ⟨d1, d2, -⟩ | ⟨d1, d2, hW, -⟩
  · refine ⟨(-1000002), h, zpf h 73 0 (.int 0), ?_, ?_, hJ.q h1 hB⟩
    · simp only [ze109, zi109_0, zi109_0n, zi109_1, zi109_4, zi109_7, zi109_10, zi109_12 (sk := []), zi109_13, zi109_14, zi109_15, zi109_16, zi109_19, zi109_22, zi109_24 (sk := []), zi109_25, zi109_27, zi109_28, zi109_29, zi109_30, zi109_31, zi109_32, zi109_32n, zi109_33, zi109_36, zi109_39, zi109_40, zi109_43, zi109_44, zi109_46, zi109_49, zi109_50, zi109_53, zi109_54, zi109_57, zi109_60, zi109_61, zi109_64, zi109_65, zi109_67, zi109_69, zi109_72, zi109_72n, zi109_73, zi109_76, zi109_77, zi109_80, zi109_83, zi109_84, zi109_85, zi109_88, zi109_91, zi109_92, zi109_95, zi109_96, zi109_98, zi109_101, zi109_102, zi109_105, zi109_108, zi109_109 (sk := []), zcl1, zlow_0, zlow_1, zlow_2, zlow_3, zlow_4, zfree_0, zfree_i, zfree_r, zfree_n, zfree_d, zfree_f, zfree_s, if_true, if_false, Option.bind_some, Option.toList_some, Option.toList_none, List.cons_append, List.nil_append, List.set_cons_zero, List.set_cons_succ, Bool.false_eq_true, reduceIte, zsw_c, zsw_n, Nat.reduceAdd, hJ.co.r7, hJ.yn.cls, c1, sp_isRead hJ.wg.h3 hJ.yn, d1, zb_f, z00]
    · simp only [ze205, zi205_0, zi205_0n, zi205_1, zi205_2, zi205_5, zi205_5n, zi205_6, zi205_9, zi205_12, zi205_14 (sk := []), zi205_15, zi205_16, zi205_17, zi205_18, zi205_19, zi205_22, zi205_25, zi205_27 (sk := []), zi205_28, zi205_30, zi205_31, zi205_32, zi205_33, zi205_34, zi205_35, zi205_35n, zi205_36, zi205_39, zi205_40, zi205_41, zi205_42, zi205_45, zi205_46, zi205_48, zi205_51, zi205_52, zi205_55, zi205_56, zi205_59, zi205_62, zi205_63, zi205_66, zi205_67, zi205_69, zi205_71, zi205_74, zi205_74n, zi205_75, zi205_76, zi205_79, zi205_82, zi205_83, zi205_86, zi205_87, zi205_88, zi205_91, zi205_94, zi205_95, zi205_97, zi205_100, zi205_101, zi205_102, zi205_105, zi205_106, zi205_109, zi205_110, zi205_113 (sk := []), zcl1, zlow_0, zlow_1, zlow_2, zlow_3, zlow_4, zfree_0, zfree_i, zfree_r, zfree_n, zfree_d, zfree_f, zfree_s, if_true, if_false, Option.bind_some, Option.toList_some, Option.toList_none, List.cons_append, List.nil_append, List.set_cons_zero, List.set_cons_succ, Bool.false_eq_true, reduceIte, zsw_c, zsw_n, Nat.reduceAdd, w0, M1.1, m1, sp_isThere M1 Y1 hJ.wg.h0, d2, zb_f, z00]
  have k2 : (decide (0 ≤ k) && decide (k ≤ 1)) = zlt k 2 := rfl
  rcases zlt_or k (n := 2) (by omega) with hk | ⟨k, hk, rfl⟩
  · rw [hk] at k2
    refine ⟨(-1000001), h, zpf h 73 0 (.int 0), ?_, ?_, hJ.q h1 hB⟩
    · simp only [ze109, zi109_0, zi109_0n, zi109_1, zi109_4, zi109_7, zi109_10, zi109_12 (sk := []), zi109_13, zi109_14, zi109_15, zi109_16, zi109_19, zi109_22, zi109_24 (sk := []), zcl1, zlow_0, zlow_1, zlow_2, zlow_3, zlow_4, zfree_0, zfree_i, zfree_r, zfree_n, zfree_d, zfree_f, zfree_s, if_true, if_false, Option.bind_some, Option.toList_some, Option.toList_none, List.cons_append, List.nil_append, List.set_cons_zero, List.set_cons_succ, Bool.false_eq_true, reduceIte, zsw_c, zsw_n, Nat.reduceAdd, hJ.co.r7, hJ.yn.cls, c1, sp_isRead hJ.wg.h3 hJ.yn, d1, zb_t, z10, sp_within, k2, zb_f, z00]
    · simp only [ze205, zi205_0, zi205_0n, zi205_1, zi205_2, zi205_5, zi205_5n, zi205_6, zi205_9, zi205_12, zi205_14 (sk := []), zi205_15, zi205_16, zi205_17, zi205_18, zi205_19, zi205_22, zi205_25, zi205_27 (sk := []), zcl1, zlow_0, zlow_1, zlow_2, zlow_3, zlow_4, zfree_0, zfree_i, zfree_r, zfree_n, zfree_d, zfree_f, zfree_s, if_true, if_false, Option.bind_some, Option.toList_some, Option.toList_none, List.cons_append, List.nil_append, List.set_cons_zero, List.set_cons_succ, Bool.false_eq_true, reduceIte, zsw_c, zsw_n, Nat.reduceAdd, w0, M1.1, m1, sp_isThere M1 Y1 hJ.wg.h0, d2, zb_t, z10, i1, k2, zb_f, z00]
  · have hk2 : zlt (nI k) 2 = true := by rw [zlt_nI (by omega) (by omega)]; simp [hk]
    rw [hk2] at k2
    obtain ⟨v4, e1⟩ := fetC (E := E) (k := nI k) hJ.co hJ.yn hW (2 ^ N 5) 0 (.retAddr 0) (by omega)
    obtain ⟨v5, e2⟩ := fetM (E := E) (k := nI k) M1 Y1 hW (2 ^ N 5) 0 (.retAddr 0) (by omega)
    have ea : zcall zpp E 109 [.ref 0, .int (nI k)] h = zrun zpp E 109 (30, [.ref 0, .int (nI k), .int (eO (ftF (fun t => stO N t (N 8) 8) 0)), .int (nI 0), .retAddr 0], [], h) := by
      conv =>
        lhs
        simp only [ze109, zi109_0, zi109_0n, zi109_1, zi109_4, zi109_7, zi109_10, zi109_12 (sk := []), zi109_13, zi109_14, zi109_15, zi109_16, zi109_19, zi109_22, zi109_24 (sk := []), zi109_25, zi109_27, zi109_28, zi109_29, zcl1, zlow_0, zlow_1, zlow_2, zlow_3, zlow_4, zfree_0, zfree_i, zfree_r, zfree_n, zfree_d, zfree_f, zfree_s, if_true, if_false, Option.bind_some, Option.toList_some, Option.toList_none, List.cons_append, List.nil_append, List.set_cons_zero, List.set_cons_succ, Bool.false_eq_true, reduceIte, zsw_c, zsw_n, Nat.reduceAdd, hJ.co.r7, hJ.yn.cls, c1, sp_isRead hJ.wg.h3 hJ.yn, d1, zb_t, z10, sp_within, k2]
      rfl
    have eb : zcall zpp E 205 [.ref 73, .int (nI k)] h = zrun zpp E 205 (33, [.ref 73, .int (nI k), .int (eO (ftF (fun t => stO N t (N 8) 8) 0)), .int (nI 0), .retAddr 0], [], zpf h 73 0 (.int 0)) := by
      conv =>
        lhs
        simp only [ze205, zi205_0, zi205_0n, zi205_1, zi205_2, zi205_5, zi205_5n, zi205_6, zi205_9, zi205_12, zi205_14 (sk := []), zi205_15, zi205_16, zi205_17, zi205_18, zi205_19, zi205_22, zi205_25, zi205_27 (sk := []), zi205_28, zi205_30, zi205_31, zi205_32, zcl1, zlow_0, zlow_1, zlow_2, zlow_3, zlow_4, zfree_0, zfree_i, zfree_r, zfree_n, zfree_d, zfree_f, zfree_s, if_true, if_false, Option.bind_some, Option.toList_some, Option.toList_none, List.cons_append, List.nil_append, List.set_cons_zero, List.set_cons_succ, Bool.false_eq_true, reduceIte, zsw_c, zsw_n, Nat.reduceAdd, w0, M1.1, m1, sp_isThere M1 Y1 hJ.wg.h0, d2, zb_t, z10, i1, k2]
      rfl
    rw [e1] at ea
    rw [e2] at eb
    cases hq : ftF (fun t => stO N t (N 8) 8) (2 ^ N 5) with
    | none =>
      rw [hq] at ea eb
      refine ⟨(-1000000), h, zpf h 73 0 (.int 0), ?_, ?_, hJ.q h1 hB⟩
      · rw [ea]
        obtain rfl | rfl : k = 0 ∨ k = 1 := by omega
        · simp only [zi109_91, zi109_92, zi109_95, zi109_96, zi109_98, zi109_101, zi109_102, zi109_105, zi109_108, zi109_109 (sk := []), zcl1, zlow_0, zlow_1, zlow_2, zlow_3, zlow_4, zfree_0, zfree_i, zfree_r, zfree_n, zfree_d, zfree_f, zfree_s, if_true, if_false, Option.bind_some, Option.toList_some, Option.toList_none, List.cons_append, List.nil_append, List.set_cons_zero, List.set_cons_succ, Bool.false_eq_true, reduceIte, zsw_c, zsw_n, Nat.reduceAdd, eO, qnn, show (nI 0 = 0) = True by decide]
        · simp only [zi109_91, zi109_92, zi109_95, zi109_96, zi109_98, zi109_101, zi109_102, zi109_105, zi109_108, zi109_109 (sk := []), zcl1, zlow_0, zlow_1, zlow_2, zlow_3, zlow_4, zfree_0, zfree_i, zfree_r, zfree_n, zfree_d, zfree_f, zfree_s, if_true, if_false, Option.bind_some, Option.toList_some, Option.toList_none, List.cons_append, List.nil_append, List.set_cons_zero, List.set_cons_succ, Bool.false_eq_true, reduceIte, zsw_c, zsw_n, Nat.reduceAdd, eO, qnn, show (nI 1 = 0) = False by decide]
      · rw [eb]
        simp only [zi205_94, zi205_95, zi205_97, zi205_100, zi205_101, zi205_102, zi205_105, zi205_106, zi205_109, zi205_110, zi205_113 (sk := []), zcl1, zlow_0, zlow_1, zlow_2, zlow_3, zlow_4, zfree_0, zfree_i, zfree_r, zfree_n, zfree_d, zfree_f, zfree_s, if_true, if_false, Option.bind_some, Option.toList_some, Option.toList_none, List.cons_append, List.nil_append, List.set_cons_zero, List.set_cons_succ, Bool.false_eq_true, reduceIte, zsw_c, zsw_n, Nat.reduceAdd, eO, qnn]
    | some b =>
      have hb := ftF_lt hq
      have z2 := zbc_k b (by omega)
      rw [hq] at ea eb
      obtain rfl | rfl : k = 0 ∨ k = 1 := by omega
      · refine ⟨(nI (zpc b)), h, zpf h 73 0 (.int 0), ?_, ?_, hJ.q h1 hB⟩
        · rw [ea]
          simp only [zi109_91, zi109_92, zi109_95, zi109_96, zi109_98, zi109_101, zi109_102, zi109_105, zi109_108, zi109_109 (sk := []), zcl1, zlow_0, zlow_1, zlow_2, zlow_3, zlow_4, zfree_0, zfree_i, zfree_r, zfree_n, zfree_d, zfree_f, zfree_s, if_true, if_false, Option.bind_some, Option.toList_some, Option.toList_none, List.cons_append, List.nil_append, List.set_cons_zero, List.set_cons_succ, Bool.false_eq_true, reduceIte, zsw_c, zsw_n, Nat.reduceAdd, eO, qnb b (by omega), show (nI 0 = 0) = True by decide, sp_bitCount, z2.1]
        · rw [eb]
          simp only [zi205_94, zi205_95, zi205_97, zi205_100, zi205_101, zi205_102, zi205_105, zi205_106, zi205_109, zi205_110, zi205_113 (sk := []), zcl1, zlow_0, zlow_1, zlow_2, zlow_3, zlow_4, zfree_0, zfree_i, zfree_r, zfree_n, zfree_d, zfree_f, zfree_s, if_true, if_false, Option.bind_some, Option.toList_some, Option.toList_none, List.cons_append, List.nil_append, List.set_cons_zero, List.set_cons_succ, Bool.false_eq_true, reduceIte, zsw_c, zsw_n, Nat.reduceAdd, eO, qnb b (by omega), show (nI 0 = 1) = False by decide, sp_bits (show b < 256 by omega)]
      · refine ⟨(nI b), h, zpf h 73 0 (.int 0), ?_, ?_, hJ.q h1 hB⟩
        · rw [ea]
          simp only [zi109_91, zi109_92, zi109_95, zi109_96, zi109_98, zi109_101, zi109_102, zi109_105, zi109_108, zi109_109 (sk := []), zcl1, zlow_0, zlow_1, zlow_2, zlow_3, zlow_4, zfree_0, zfree_i, zfree_r, zfree_n, zfree_d, zfree_f, zfree_s, if_true, if_false, Option.bind_some, Option.toList_some, Option.toList_none, List.cons_append, List.nil_append, List.set_cons_zero, List.set_cons_succ, Bool.false_eq_true, reduceIte, zsw_c, zsw_n, Nat.reduceAdd, eO, show (nI 1 = 0) = False by decide]
        · rw [eb]
          simp only [zi205_94, zi205_95, zi205_97, zi205_100, zi205_101, zi205_102, zi205_105, zi205_106, zi205_109, zi205_110, zi205_113 (sk := []), zcl1, zlow_0, zlow_1, zlow_2, zlow_3, zlow_4, zfree_0, zfree_i, zfree_r, zfree_n, zfree_d, zfree_f, zfree_s, if_true, if_false, Option.bind_some, Option.toList_some, Option.toList_none, List.cons_append, List.nil_append, List.set_cons_zero, List.set_cons_succ, Bool.false_eq_true, reduceIte, zsw_c, zsw_n, Nat.reduceAdd, eO, qnb b (by omega), show (nI 1 = 1) = True by decide]
end FET
