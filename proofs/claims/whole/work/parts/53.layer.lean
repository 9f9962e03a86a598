/-! LAYERS, the component's -/
/-- what is left of d without the free ones among the first n -/
def wfF (N : Nat → Nat) (d : Nat) : Nat → Nat
  | 0 => d
  | n + 1 => if freeN N d n then zclr (wfF N d n) n else wfF N d n
theorem wfF_lt {N : Nat → Nat} {d : Nat} (hd : d < 256) : ∀ n, n ≤ 8 → wfF N d n < 256
  | 0, _ => hd
  | n + 1, h => by
    have ih := wfF_lt (N := N) hd n (by omega)
    unfold wfF
    split
    · exact Nat.lt_of_le_of_lt (zclr_k _ ih n (by omega)).2 ih
    · exact ih
theorem sp_withoutFree {E : zE} {h : zH} {y d : Nat} {N : Nat → Nat} (hW : WF N) (hY : YN h y N) (hd : d < 256) : zcall zpp E 86 [.ref y, .int (nI d)] h = some (some (.int (nI (wfF N d (N 3)))), h) := by
  have h8 : N 3 ≤ 8 := hW.2.2.2.1.2
  have hsel : zsel 9 [9, 77] = some 77 := rfl
  have loop : ∀ (n k : Nat), k + n = N 3 → zrun zpp E 86 (4, [.ref y, .int (nI d), .int (nI (wfF N d k)), .int (nI k)], [], h) = some (some (.int (nI (wfF N d (N 3)))), h) := by
    intro n
    induction n with
    | zero =>
      intro k hk
      simp only [zi86_4, zi86_5, zi86_5n, zi86_6, zcl1, zlow_0, zlow_1, zlow_2, zlow_3, zlow_4, zfree_0, zfree_i, zfree_r, zfree_n, zfree_d, zfree_f, zfree_s, if_true, if_false, Option.bind_some, Option.toList_some, Option.toList_none, List.cons_append, List.nil_append, List.set_cons_zero, List.set_cons_succ, Bool.false_eq_true, reduceIte, zsw_c, zsw_n, Nat.reduceAdd, hY.f3]
      rw [zi86_9, if_pos (by rw [nI_leP (by omega) (by omega)]; omega)]
      simp only [zi86_39, zi86_40 (sk := []), zcl1, zlow_0, zlow_1, zlow_2, zlow_3, zlow_4, zfree_0, zfree_i, zfree_r, zfree_n, zfree_d, zfree_f, zfree_s, if_true, if_false, Option.bind_some, Option.toList_some, Option.toList_none, List.cons_append, List.nil_append, List.set_cons_zero, List.set_cons_succ, Bool.false_eq_true, reduceIte, zsw_c, zsw_n, Nat.reduceAdd]
      rw [show k = N 3 by omega]
    | succ n ih =>
      intro k hk
      have hl := wfF_lt (N := N) hd k (by omega)
      simp only [zi86_4, zi86_5, zi86_5n, zi86_6, zcl1, zlow_0, zlow_1, zlow_2, zlow_3, zlow_4, zfree_0, zfree_i, zfree_r, zfree_n, zfree_d, zfree_f, zfree_s, if_true, if_false, Option.bind_some, Option.toList_some, Option.toList_none, List.cons_append, List.nil_append, List.set_cons_zero, List.set_cons_succ, Bool.false_eq_true, reduceIte, zsw_c, zsw_n, Nat.reduceAdd, hY.f3]
      rw [zi86_9, if_neg (by rw [nI_leP (by omega) (by omega)]; omega)]
      simp only [zi86_12, zi86_13, zi86_13n, zi86_14, zi86_15, zi86_16, zi86_19, zi86_22, zi86_23, zi86_24, zi86_25, zi86_26, zi86_27, zi86_30, zi86_31, zi86_32, zi86_33, zi86_36, zcl1, zlow_0, zlow_1, zlow_2, zlow_3, zlow_4, zfree_0, zfree_i, zfree_r, zfree_n, zfree_d, zfree_f, zfree_s, if_true, if_false, Option.bind_some, Option.toList_some, Option.toList_none, List.cons_append, List.nil_append, List.set_cons_zero, List.set_cons_succ, Bool.false_eq_true, reduceIte, zsw_c, zsw_n, Nat.reduceAdd, hY.cls, hsel, sp_isFree hW hY hd (show k < N 3 by omega), (zclr_k _ hl k (by omega)).1, zand_m1, zb_0, ix_p1]
      have ih1 := ih (k + 1) (by omega)
      rw [wfF] at ih1
      cases hq : freeN N d k
      · rw [hq] at ih1
        simpa using ih1
      · rw [hq] at ih1
        simpa using ih1
  simp only [ze86, zi86_0, zi86_1, zi86_2, zi86_3, zcl1, zlow_0, zlow_1, zlow_2, zlow_3, zlow_4, zfree_0, zfree_i, zfree_r, zfree_n, zfree_d, zfree_f, zfree_s, if_true, if_false, Option.bind_some, Option.toList_some, Option.toList_none, List.cons_append, List.nil_append, List.set_cons_zero, List.set_cons_succ, Bool.false_eq_true, reduceIte, zsw_c, zsw_n, Nat.reduceAdd]
  exact loop (N 3) 0 (by omega)
/-- the layer of b, found by taking the free ones away: n more tries, from the i-th -/
def lyF (N : Nat → Nat) (b : Nat) : Nat → Nat → Nat → Option Nat
  | 0, _, _ => none
  | n + 1, d, i => if d.testBit b then (if freeN N d b then some i else lyF N b n (wfF N d (N 3)) (i + 1)) else none
theorem sp_layerOf {E : zE} {h : zH} {y b : Nat} {N : Nat → Nat} (hW : WF N) (hY : YN h y N) (hb : b < N 3) : zcall zpp E 85 [.ref y, .int (nI b)] h = some (some (.int (match lyF N b (N 3) (N 8) 0 with | some i => nI i | none => -1000000)), h) := by
  have h8 : N 3 ≤ 8 := hW.2.2.2.1.2
  have hsel : zsel 9 [9, 77] = some 77 := rfl
  have hsel2 : zsel 9 [9, 86] = some 86 := rfl
  have loop : ∀ (n d k : Nat), k + n = N 3 → d < 256 → zrun zpp E 85 (7, [.ref y, .int (nI b), .int (nI d), .int (nI k)], [], h) = some (some (.int (match lyF N b n d k with | some i => nI i | none => -1000000)), h) := by
    intro n
    induction n with
    | zero =>
      intro d k hk hd
      simp only [zi85_7, zi85_8, zi85_8n, zi85_9, zcl1, zlow_0, zlow_1, zlow_2, zlow_3, zlow_4, zfree_0, zfree_i, zfree_r, zfree_n, zfree_d, zfree_f, zfree_s, if_true, if_false, Option.bind_some, Option.toList_some, Option.toList_none, List.cons_append, List.nil_append, List.set_cons_zero, List.set_cons_succ, Bool.false_eq_true, reduceIte, zsw_c, zsw_n, Nat.reduceAdd, hY.f3]
      rw [zi85_12, if_pos (by rw [nI_leP (by omega) (by omega)]; omega)]
      simp only [zi85_46, zi85_48 (sk := []), zcl1, zlow_0, zlow_1, zlow_2, zlow_3, zlow_4, zfree_0, zfree_i, zfree_r, zfree_n, zfree_d, zfree_f, zfree_s, if_true, if_false, Option.bind_some, Option.toList_some, Option.toList_none, List.cons_append, List.nil_append, List.set_cons_zero, List.set_cons_succ, Bool.false_eq_true, reduceIte, zsw_c, zsw_n, Nat.reduceAdd, lyF]
    | succ n ih =>
      intro d k hk hd
      simp only [zi85_7, zi85_8, zi85_8n, zi85_9, zcl1, zlow_0, zlow_1, zlow_2, zlow_3, zlow_4, zfree_0, zfree_i, zfree_r, zfree_n, zfree_d, zfree_f, zfree_s, if_true, if_false, Option.bind_some, Option.toList_some, Option.toList_none, List.cons_append, List.nil_append, List.set_cons_zero, List.set_cons_succ, Bool.false_eq_true, reduceIte, zsw_c, zsw_n, Nat.reduceAdd, hY.f3]
      rw [zi85_12, if_neg (by rw [nI_leP (by omega) (by omega)]; omega)]
      have ih1 := ih (wfF N d (N 3)) (k + 1) (by omega) (wfF_lt hd _ h8)
      simp only [zi85_15, zi85_16, zi85_17, zi85_20, zi85_23, zi85_23n, zi85_24, zi85_25, zi85_26, zi85_29, zi85_32, zi85_33 (sk := []), zi85_34, zi85_34n, zi85_35, zi85_36, zi85_39, zi85_40, zi85_43, zi85_46, zi85_48 (sk := []), zcl1, zlow_0, zlow_1, zlow_2, zlow_3, zlow_4, zfree_0, zfree_i, zfree_r, zfree_n, zfree_d, zfree_f, zfree_s, if_true, if_false, Option.bind_some, Option.toList_some, Option.toList_none, List.cons_append, List.nil_append, List.set_cons_zero, List.set_cons_succ, Bool.false_eq_true, reduceIte, zsw_c, zsw_n, Nat.reduceAdd, hY.cls, hsel, hsel2, sp_has8 hd (show b < 8 by omega), sp_isFree hW hY hd hb, sp_withoutFree hW hY hd, zb_0, ix_p1, ih1, lyF]
      cases hq : d.testBit b
      · simp
      · cases hf : freeN N d b
        · simp
        · simp
  simp only [ze85, zi85_0, zi85_0n, zi85_1, zi85_4, zi85_5, zi85_6, zcl1, zlow_0, zlow_1, zlow_2, zlow_3, zlow_4, zfree_0, zfree_i, zfree_r, zfree_n, zfree_d, zfree_f, zfree_s, if_true, if_false, Option.bind_some, Option.toList_some, Option.toList_none, List.cons_append, List.nil_append, List.set_cons_zero, List.set_cons_succ, Bool.false_eq_true, reduceIte, zsw_c, zsw_n, Nat.reduceAdd, hY.f15]
  exact loop (N 3) (N 8) 0 (by omega) hW.d8
