/-! LIFTS of the component -/
/-- a number that is a place below n -/
def zlt (x : Int32) (n : Nat) : Bool := decide (0 ≤ x) && decide (x ≤ nI n - 1)
theorem zlt_nI {j n : Nat} (hj : j < 2 ^ 30) (hn : n < 2 ^ 30) : zlt (nI j) n = decide (j < n) := by
  unfold zlt
  have h0 : (0 : Int32) ≤ nI j := nI_pos' (by omega)
  rw [decide_eq_true h0, Bool.true_and]
  have e : (nI n - 1).toInt = (n : Int) - 1 := pk_sub_toInt (a := n) (b := 1) hn (by omega)
  have : (nI j ≤ nI n - 1) ↔ j < n := by
    rw [Int32.le_iff_toInt_le, e, nI_toInt (by omega)]
    omega
  by_cases hq : j < n
  · rw [decide_eq_true hq, decide_eq_true (this.mpr hq)]
  · rw [decide_eq_false hq, decide_eq_false (fun z => hq (this.mp z))]
theorem zlt_or (x : Int32) {n : Nat} (hn : n < 2 ^ 30) : zlt x n = false ∨ ∃ j, j < n ∧ x = nI j := by
  cases hq : zlt x n with
  | false => exact Or.inl rfl
  | true =>
    right
    have h0 : 0 ≤ x := by
      unfold zlt at hq
      simp only [Bool.and_eq_true, decide_eq_true_eq] at hq
      exact hq.1
    obtain ⟨j, hj, rfl⟩ := nI_of (x := x) (fun z => absurd h0 (Int32.not_le.mpr z))
    have h1 : j < n := by
      unfold zlt at hq
      simp only [Bool.and_eq_true, decide_eq_true_eq] at hq
      have e : (nI n - 1).toInt = (n : Int) - 1 := pk_sub_toInt (a := n) (b := 1) hn (by omega)
      have h2 := Int32.le_iff_toInt_le.mp hq.2
      rw [e, nI_toInt hj] at h2
      omega
    exact ⟨j, h1, rfl⟩
theorem sp_hasBike {E : zE} {h : zH} {y : Nat} {x : Int32} {N : Nat → Nat} (hY : YN h y N) : zcall zpp E 71 [.ref y, .int x] h = some (some (.int (zb (zlt x (N 3)))), h) := by
  simp only [ze71, zi71_0, zi71_1, zi71_2, zi71_2n, zi71_3, zi71_6, zi71_7, zi71_8, zi71_11 (sk := []), zcl1, zlow_0, zlow_1, zlow_2, zlow_3, zlow_4, zfree_0, zfree_i, zfree_r, zfree_n, zfree_d, zfree_f, zfree_s, if_true, if_false, Option.bind_some, Option.toList_some, Option.toList_none, List.cons_append, List.nil_append, List.set_cons_zero, List.set_cons_succ, Bool.false_eq_true, reduceIte, zsw_c, zsw_n, Nat.reduceAdd, hY.f3, sp_within]
  exact zb_ret (f := fun v => some (some (Value.int v), h))
theorem sp_hasHold {E : zE} {h : zH} {y : Nat} {x : Int32} {N : Nat → Nat} (hY : YN h y N) : zcall zpp E 72 [.ref y, .int x] h = some (some (.int (zb (zlt x (N 4)))), h) := by
  simp only [ze72, zi72_0, zi72_1, zi72_2, zi72_2n, zi72_3, zi72_6, zi72_7, zi72_8, zi72_11 (sk := []), zcl1, zlow_0, zlow_1, zlow_2, zlow_3, zlow_4, zfree_0, zfree_i, zfree_r, zfree_n, zfree_d, zfree_f, zfree_s, if_true, if_false, Option.bind_some, Option.toList_some, Option.toList_none, List.cons_append, List.nil_append, List.set_cons_zero, List.set_cons_succ, Bool.false_eq_true, reduceIte, zsw_c, zsw_n, Nat.reduceAdd, hY.f4, sp_within]
  exact zb_ret (f := fun v => some (some (Value.int v), h))
theorem sp_isRead {E : zE} {h : zH} {y : Nat} {N : Nat → Nat} (h8 : N 3 ≤ 8) (hY : YN h y N) : zcall zpp E 70 [.ref y] h = some (some (.int (zb (decide (0 < N 3)))), h) := by
  have e : (nI (N 3) ≤ 0) = (N 3 ≤ 0) := nI_leP (b := 0) (by omega) (by omega)
  simp only [ze70, zi70_0, zi70_0n, zi70_1, zi70_4, zi70_7, zi70_8, zi70_11, zi70_12 (sk := []), zcl1, zlow_0, zlow_1, zlow_2, zlow_3, zlow_4, zfree_0, zfree_i, zfree_r, zfree_n, zfree_d, zfree_f, zfree_s, if_true, if_false, Option.bind_some, Option.toList_some, Option.toList_none, List.cons_append, List.nil_append, List.set_cons_zero, List.set_cons_succ, Bool.false_eq_true, reduceIte, zsw_c, zsw_n, Nat.reduceAdd, hY.f3, e, z10, z00]
  by_cases hq : N 3 ≤ 0
  · simp [hq, show ¬ 0 < N 3 by omega, zb]
  · simp [hq, show 0 < N 3 by omega, zb]
theorem sp_lifterNo {E : zE} {h : zH} {y : Nat} {x : Int32} {N : Nat → Nat} (hY : YN h y N) (hx : zlt x (N 5) = false) : zcall zpp E 73 [.ref y, .int x] h = some (some .null, h) := by
  have hx' : (decide (0 ≤ x) && decide (x ≤ nI (N 5) - 1)) = false := hx
  simp only [ze73, zi73_0, zi73_1, zi73_2, zi73_2n, zi73_3, zi73_6, zi73_7, zi73_8, zi73_11, zi73_14, zi73_14n, zi73_15, zi73_18, zi73_19, zi73_20, zi73_23, zi73_24 (sk := []), zi73_24n (sk := []), zcl1, zlow_0, zlow_1, zlow_2, zlow_3, zlow_4, zfree_0, zfree_i, zfree_r, zfree_n, zfree_d, zfree_f, zfree_s, if_true, if_false, Option.bind_some, Option.toList_some, Option.toList_none, List.cons_append, List.nil_append, List.set_cons_zero, List.set_cons_succ, Bool.false_eq_true, reduceIte, zsw_c, zsw_n, Nat.reduceAdd, hY.f5, sp_within, hx', zb_f, z00]
theorem sp_lifterAt {E : zE} {h : zH} {y w : Nat} {N : Nat → Nat} (hY : YN h y N) (h4 : N 5 ≤ 4) (hw : w < N 5) : ∃ q, zcall zpp E 73 [.ref y, .int (nI w)] h = some (some (.ref q), h) ∧ LAt h q (N (65 + 2 * w)) w (N (66 + 2 * w)) := by
  obtain ⟨q, h1, hL⟩ := hY.cr hw h4
  refine ⟨q, ?_, hL⟩
  have hx' : (decide (0 ≤ nI w) && decide (nI w ≤ nI (N 5) - 1)) = true := (zlt_nI (n := N 5) (by omega) (by omega)).trans (decide_eq_true hw)
  simp only [ze73, zi73_0, zi73_1, zi73_2, zi73_2n, zi73_3, zi73_6, zi73_7, zi73_8, zi73_11, zi73_14, zi73_14n, zi73_15, zi73_18, zi73_19, zi73_20, zi73_23, zi73_24 (sk := []), zi73_24n (sk := []), zcl1, zlow_0, zlow_1, zlow_2, zlow_3, zlow_4, zfree_0, zfree_i, zfree_r, zfree_n, zfree_d, zfree_f, zfree_s, if_true, if_false, Option.bind_some, Option.toList_some, Option.toList_none, List.cons_append, List.nil_append, List.set_cons_zero, List.set_cons_succ, Bool.false_eq_true, reduceIte, zsw_c, zsw_n, Nat.reduceAdd, hY.f5, sp_within, hx', zb_t, z10, hY.r13, h1]
/-! how long, how many falls -/
theorem sp_sec1 {E : zE} {h : zH} {q y w c : Nat} : zcall zpp E 57 [.ref q, .int (nI w), .int (nI c), .ref y] h = some (some (.int (nI (w + 3 * c))), h) := by
  have e1 : (3 : Int32) * nI c = nI (3 * c) := pk_mul 3 c
  simp only [ze57, zi57_0, zi57_1, zi57_2, zi57_3, zi57_4, zi57_5 (sk := []), zcl1, zlow_0, zlow_1, zlow_2, zlow_3, zlow_4, zfree_0, zfree_i, zfree_r, zfree_n, zfree_d, zfree_f, zfree_s, if_true, if_false, Option.bind_some, Option.toList_some, Option.toList_none, List.cons_append, List.nil_append, List.set_cons_zero, List.set_cons_succ, Bool.false_eq_true, reduceIte, zsw_c, zsw_n, Nat.reduceAdd, e1, nI_add]
theorem sp_sec2 {E : zE} {h : zH} {q y w c : Nat} {N : Nat → Nat} (hY : YN h y N) : zcall zpp E 9 [.ref q, .int (nI w), .int (nI c), .ref y] h = some (some (.int (nI (w + N 1 * c))), h) := by
  simp only [ze9, zi9_0, zi9_1, zi9_1n, zi9_2, zi9_5, zi9_6, zi9_7, zi9_8 (sk := []), zcl1, zlow_0, zlow_1, zlow_2, zlow_3, zlow_4, zfree_0, zfree_i, zfree_r, zfree_n, zfree_d, zfree_f, zfree_s, if_true, if_false, Option.bind_some, Option.toList_some, Option.toList_none, List.cons_append, List.nil_append, List.set_cons_zero, List.set_cons_succ, Bool.false_eq_true, reduceIte, zsw_c, zsw_n, Nat.reduceAdd, hY.f1, pk_mul, nI_add]
theorem z2_ne : ((2 : Int32) = 0) = False := by decide
theorem sp_sec4 {E : zE} {h : zH} {q y w c : Nat} (hw : w < 2 ^ 31) : zcall zpp E 16 [.ref q, .int (nI w), .int (nI c), .ref y] h = some (some (.int (nI (w / 2))), h) := by
  have e1 : nI w / (2 : Int32) = nI (w / 2) := pk_div (d := 2) hw (by omega) (by omega)
  simp only [ze16, zi16_0, zi16_1, zi16_2, zi16_3 (sk := []), zcl1, zlow_0, zlow_1, zlow_2, zlow_3, zlow_4, zfree_0, zfree_i, zfree_r, zfree_n, zfree_d, zfree_f, zfree_s, if_true, if_false, Option.bind_some, Option.toList_some, Option.toList_none, List.cons_append, List.nil_append, List.set_cons_zero, List.set_cons_succ, Bool.false_eq_true, reduceIte, zsw_c, zsw_n, Nat.reduceAdd, e1, z2_ne]
theorem sp_sec3 {E : zE} {h : zH} {q y w c k : Nat} (hq : zcls h q = some k) (hw : w + 3 * c < 2 ^ 31) : zcall zpp E 31 [.ref q, .int (nI w), .int (nI c), .ref y] h = some (some (.int (nI ((w + 3 * c) / 2))), h) := by
  have e1 : nI (w + 3 * c) / (2 : Int32) = nI ((w + 3 * c) / 2) := pk_div (d := 2) hw (by omega) (by omega)
  simp only [ze31, zi31_0, zi31_0n, zi31_1, zi31_2, zi31_3, zi31_3n, zi31_4, zi31_7, zi31_8, zi31_9 (sk := []), zcl1, zlow_0, zlow_1, zlow_2, zlow_3, zlow_4, zfree_0, zfree_i, zfree_r, zfree_n, zfree_d, zfree_f, zfree_s, if_true, if_false, Option.bind_some, Option.toList_some, Option.toList_none, List.cons_append, List.nil_append, List.set_cons_zero, List.set_cons_succ, Bool.false_eq_true, reduceIte, zsw_c, zsw_n, Nat.reduceAdd, hq, sp_sec1, e1, z2_ne]
theorem sp_sec5 {E : zE} {h : zH} {q y w c k : Nat} {N : Nat → Nat} (hY : YN h y N) (hq : zcls h q = some k) (hw : w < 2 ^ 31) : zcall zpp E 26 [.ref q, .int (nI w), .int (nI c), .ref y] h = some (some (.int (nI (w / 2 + N 2))), h) := by
  simp only [ze26, zi26_0, zi26_0n, zi26_1, zi26_2, zi26_3, zi26_3n, zi26_4, zi26_7, zi26_7n, zi26_8, zi26_11, zi26_12 (sk := []), zcl1, zlow_0, zlow_1, zlow_2, zlow_3, zlow_4, zfree_0, zfree_i, zfree_r, zfree_n, zfree_d, zfree_f, zfree_s, if_true, if_false, Option.bind_some, Option.toList_some, Option.toList_none, List.cons_append, List.nil_append, List.set_cons_zero, List.set_cons_succ, Bool.false_eq_true, reduceIte, zsw_c, zsw_n, Nat.reduceAdd, hq, sp_sec4 hw, hY.f2, nI_add]
theorem vc_seconds {E : zE} {h : zH} {q y kd num fo w c M nx : Nat} {ls sk : List Value} {N : Nat → Nat} (hY : YN h y N) (hL : LA0 h q kd num fo) (hk : 1 ≤ kd ∧ kd ≤ 5) (hw : w ≤ 30) (hc : c ≤ 10) : (zcls h q).bind (fun d => (zsel d [1, 9, 2, 16, 3, 26, 4, 31, 7, 57]).bind (fun M' => (zcall zpp E M' [.ref q, .int (nI w), .int (nI c), .ref y] h).bind (fun r => zrun zpp E M (nx, ls, r.1.toList ++ sk, r.2)))) = zrun zpp E M (nx, ls, .int (nI (secK N kd w c)) :: sk, h) := by
  have hcl := hL.1
  obtain rfl | rfl | rfl | rfl | rfl : kd = 1 ∨ kd = 2 ∨ kd = 3 ∨ kd = 4 ∨ kd = 5 := by omega
  · rw [hcl]
    show (zcall zpp E 57 _ h).bind _ = _
    rw [sp_sec1]
    rfl
  · rw [hcl]
    show (zcall zpp E 9 _ h).bind _ = _
    rw [(sp_sec2 hY)]
    rfl
  · rw [hcl]
    show (zcall zpp E 31 _ h).bind _ = _
    rw [(sp_sec3 hcl (by omega))]
    rfl
  · rw [hcl]
    show (zcall zpp E 16 _ h).bind _ = _
    rw [(sp_sec4 (by omega))]
    rfl
  · rw [hcl]
    show (zcall zpp E 26 _ h).bind _ = _
    rw [(sp_sec5 hY hcl (by omega))]
    rfl
theorem vc_falls {E : zE} {h : zH} {q kd num fo c M nx : Nat} {ls sk : List Value} (hL : LA0 h q kd num fo) (hk : 1 ≤ kd ∧ kd ≤ 5) : (zcls h q).bind (fun d => (zsel d [1, 10, 2, 21, 3, 21, 4, 58, 7, 58]).bind (fun M' => (zcall zpp E M' [.ref q, .int (nI c)] h).bind (fun r => zrun zpp E M (nx, ls, r.1.toList ++ sk, r.2)))) = zrun zpp E M (nx, ls, .int (nI (falK kd c)) :: sk, h) := by
  have hcl := hL.1
  have e10 : zcall zpp E 10 [.ref q, .int (nI c)] h = some (some (.int 0), h) := by simp only [ze10, zi10_0, zi10_1 (sk := [])]
  have e21 : zcall zpp E 21 [.ref q, .int (nI c)] h = some (some (.int 0), h) := by simp only [ze21, zi21_0, zi21_1 (sk := [])]
  have e58 : zcall zpp E 58 [.ref q, .int (nI c)] h = some (some (.int (nI c)), h) := by simp only [ze58, zi58_0, zi58_1 (sk := [])]
  obtain rfl | rfl | rfl | rfl | rfl : kd = 1 ∨ kd = 2 ∨ kd = 3 ∨ kd = 4 ∨ kd = 5 := by omega
  · rw [hcl]
    show (zcall zpp E 58 _ h).bind _ = _
    rw [e58]
    rfl
  · rw [hcl]
    show (zcall zpp E 10 _ h).bind _ = _
    rw [e10]
    rfl
  · rw [hcl]
    show (zcall zpp E 58 _ h).bind _ = _
    rw [e58]
    rfl
  · rw [hcl]
    show (zcall zpp E 21 _ h).bind _ = _
    rw [e21]
    rfl
  · rw [hcl]
    show (zcall zpp E 21 _ h).bind _ = _
    rw [e21]
    rfl
theorem catN_le {N : Nat → Nat} (h4 : N 4 ≤ 10) {d b : Nat} : catN N d b ≤ 10 := by
  have : ∀ n, ctF N d b n ≤ n := by
    intro n
    induction n with
    | zero => exact Nat.le_refl _
    | succ n ih => unfold ctF; split <;> omega
  unfold catN
  split
  · have := this (N 4); omega
  · omega
theorem sp_canRaise {E : zE} {h : zH} {y q kd num fo b : Nat} {N : Nat → Nat} (hW : WF N) (hY : YN h y N) (hL : LA0 h q kd num fo) (hk : 1 ≤ kd ∧ kd ≤ 5) (hf : fo ≤ 40) (hb : b < N 3) : zcall zpp E 80 [.ref y, .ref q, .int (nI b)] h = some (some (.int (zb (canN N kd fo (N 8) b))), h) := by
  have h8 : N 3 ≤ 8 := hW.2.2.2.1.2
  have hd : N 8 < 256 := Nat.lt_of_lt_of_le hW.2.2.2.2.2.2.1 (show 2 ^ N 3 ≤ 2 ^ 8 from Nat.pow_le_pow_right (by decide) h8)
  have hw := (hW.2.2.2.2.2.2.2.1 b hb).1.2
  have hsel : zsel 9 [9, 77] = some 77 := rfl
  have hsel2 : zsel 9 [9, 79] = some 79 := rfl
  simp only [ze80, zi80_0, zi80_0n, zi80_1, zi80_2, zi80_2n, zi80_3, zi80_6, zi80_9, zi80_12, zi80_12n, zi80_13, zi80_13n, zi80_14, zi80_17, zi80_18, zi80_19, zi80_19n, zi80_20, zi80_21, zi80_21n, zi80_22, zi80_25, zi80_28, zi80_31, zi80_34, zi80_35, zi80_38, zi80_39 (sk := []), zcl1, zlow_0, zlow_1, zlow_2, zlow_3, zlow_4, zfree_0, zfree_i, zfree_r, zfree_n, zfree_d, zfree_f, zfree_s, if_true, if_false, Option.bind_some, Option.toList_some, Option.toList_none, List.cons_append, List.nil_append, List.set_cons_zero, List.set_cons_succ, Bool.false_eq_true, reduceIte, zsw_c, zsw_n, Nat.reduceAdd, hY.cls, hsel, hsel2, hY.f15, sp_isFree hW hY hd hb, hY.r6, hY.w hb h8, sp_catches hW hY hd hb, vc_manages hL hk hf hw (catN_le hW.2.2.2.2.1), zb_0, z10, z00]
  unfold canN
  cases freeN N (N 8) b
  · rfl
  · cases manN kd fo (N (9 + 2 * b)) (catN N (N 8) b) <;> rfl
