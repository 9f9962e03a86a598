/-! SMALL SETS AS NUMBERS -/
def zclr (d b : Nat) : Nat := if d.testBit b then d - 2 ^ b else d
def zput (d b : Nat) : Nat := if d.testBit b then d else d + 2 ^ b
def ztog (d b : Nat) : Nat := if d.testBit b then d - 2 ^ b else d + 2 ^ b
/-- how many of the first eight -/
def zpc (d : Nat) : Nat := (if d.testBit 0 then 1 else 0) + (if d.testBit 1 then 1 else 0) + (if d.testBit 2 then 1 else 0) + (if d.testBit 3 then 1 else 0) + (if d.testBit 4 then 1 else 0) + (if d.testBit 5 then 1 else 0) + (if d.testBit 6 then 1 else 0) + (if d.testBit 7 then 1 else 0)
theorem zhas_k : ∀ d, d < 256 → ∀ b, b < 8 → (nI d >>> (nI b &&& 31)) &&& 1 = zb (d.testBit b) := by decide +kernel
theorem zclr_k : ∀ d, d < 256 → ∀ b, b < 8 → nI d &&& ((1 <<< (nI b &&& 31)) ^^^ (-1)) = nI (zclr d b) ∧ zclr d b ≤ d := by decide +kernel
theorem zput_k : ∀ d, d < 256 → ∀ b, b < 8 → nI d ||| (1 <<< (nI b &&& 31)) = nI (zput d b) ∧ zput d b < 256 := by decide +kernel
theorem ztog_k : ∀ d, d < 256 → ∀ b, b < 8 → nI d ^^^ (1 <<< (nI b &&& 31)) = nI (ztog d b) ∧ ztog d b < 256 := by decide +kernel
theorem zclr_bit : ∀ d, d < 256 → ∀ b, b < 8 → ∀ j, j < 8 → (zclr d b).testBit j = (d.testBit j && decide (j ≠ b)) := by decide +kernel
theorem zput_bit : ∀ d, d < 256 → ∀ b, b < 8 → ∀ j, j < 8 → (zput d b).testBit j = (d.testBit j || decide (j = b)) := by decide +kernel
theorem zbit_1 : ∀ b, b < 8 → (1 : Int32) <<< (nI b &&& 31) = nI (2 ^ b) := by decide +kernel
theorem zand_k : ∀ a, a < 256 → ∀ d, d < 256 → a &&& d < 256 := by
  intro a ha d _
  exact Nat.lt_of_le_of_lt Nat.and_le_left ha
theorem zext8 {a b : Nat} (ha : a < 256) (hb : b < 256) (h : ∀ j, j < 8 → a.testBit j = b.testBit j) : a = b := by
  apply Nat.eq_of_testBit_eq
  intro j
  by_cases hj : j < 8
  · exact h j hj
  · have h1 : a < 2 ^ j := Nat.lt_of_lt_of_le ha (show 2 ^ 8 ≤ 2 ^ j from Nat.pow_le_pow_right (by decide) (by omega))
    have h2 : b < 2 ^ j := Nat.lt_of_lt_of_le hb (show 2 ^ 8 ≤ 2 ^ j from Nat.pow_le_pow_right (by decide) (by omega))
    rw [Nat.testBit_lt_two_pow h1, Nat.testBit_lt_two_pow h2]
/-- Integer.bitCount on a small set -/
def zbc (x : Int32) : Int32 :=
  let a := x - ((x.toUInt32 >>> ((1 : Int32).toUInt32 &&& Int32.toUInt32 31)).toInt32 &&& 1431655765)
  let b := (a &&& 858993459) + ((a.toUInt32 >>> ((2 : Int32).toUInt32 &&& Int32.toUInt32 31)).toInt32 &&& 858993459)
  let c := (b + (b.toUInt32 >>> ((4 : Int32).toUInt32 &&& Int32.toUInt32 31)).toInt32) &&& 252645135
  let d := c + (c.toUInt32 >>> ((8 : Int32).toUInt32 &&& Int32.toUInt32 31)).toInt32
  let e := d + (d.toUInt32 >>> ((16 : Int32).toUInt32 &&& Int32.toUInt32 31)).toInt32
  e &&& 63
theorem zbc_k : ∀ d, d < 256 → zbc (nI d) = nI (zpc d) ∧ zpc d ≤ 8 := by decide +kernel
theorem sp_bitCount {E : zE} {x : Int32} {h : zH} : zcall zpp E 230 [.int x] h = some (some (.int (zbc x)), h) := by
  simp only [ze230, zi230_0, zi230_1, zi230_2, zi230_3, zi230_4, zi230_7, zi230_8, zi230_9, zi230_10, zi230_11, zi230_14, zi230_15, zi230_16, zi230_17, zi230_18, zi230_21, zi230_22, zi230_23, zi230_24, zi230_25, zi230_26, zi230_27, zi230_28, zi230_29, zi230_32, zi230_33, zi230_34, zi230_35, zi230_36, zi230_38, zi230_39, zi230_40, zi230_41, zi230_42, zi230_43, zi230_45, zi230_46, zi230_47, zi230_48, zi230_49, zi230_51, zi230_52 (sk := []), zcl1, zlow_0, zlow_1, zlow_2, zlow_3, zlow_4, zfree_0, zfree_i, zfree_r, zfree_n, zfree_d, zfree_f, zfree_s, if_true, if_false, Option.bind_some, Option.toList_some, Option.toList_none, List.cons_append, List.nil_append, List.set_cons_zero, List.set_cons_succ, Bool.false_eq_true, reduceIte, zsw_c, zsw_n, Nat.reduceAdd]
  rfl
theorem sp_has {E : zE} {x i : Int32} {h : zH} : zcall zpp E 127 [.int x, .int i] h = some (some (.int (zb (decide (¬ (x >>> (i &&& 31)) &&& 1 = 0)))), h) := by
  simp only [ze127, zi127_0, zi127_1, zi127_2, zi127_3, zi127_4, zi127_5, zi127_8, zi127_9, zi127_12, zi127_13 (sk := []), zcl1, zlow_0, zlow_1, zlow_2, zlow_3, zlow_4, zfree_0, zfree_i, zfree_r, zfree_n, zfree_d, zfree_f, zfree_s, if_true, if_false, Option.bind_some, Option.toList_some, Option.toList_none, List.cons_append, List.nil_append, List.set_cons_zero, List.set_cons_succ, Bool.false_eq_true, reduceIte, zsw_c, zsw_n, Nat.reduceAdd]
  by_cases h1 : (x >>> (i &&& 31)) &&& 1 = 0
  · simp [h1, zb]
  · simp [h1, zb]
theorem sp_has8 {E : zE} {d b : Nat} {h : zH} (hd : d < 256) (hb : b < 8) : zcall zpp E 127 [.int (nI d), .int (nI b)] h = some (some (.int (zb (d.testBit b))), h) := by
  rw [sp_has, zhas_k d hd b hb]
  cases d.testBit b <;> rfl
theorem sp_hasM {E : zE} {x i : Int32} {h : zH} : zcall zpp E 181 [.int x, .int i] h = some (some (.int (zb (decide ((x >>> (i &&& 31)) &&& 1 = 1)))), h) := by
  simp only [ze181, zi181_0, zi181_1, zi181_2, zi181_3, zi181_4, zi181_5, zi181_6, zi181_9, zi181_10, zi181_13, zi181_14 (sk := []), zcl1, zlow_0, zlow_1, zlow_2, zlow_3, zlow_4, zfree_0, zfree_i, zfree_r, zfree_n, zfree_d, zfree_f, zfree_s, if_true, if_false, Option.bind_some, Option.toList_some, Option.toList_none, List.cons_append, List.nil_append, List.set_cons_zero, List.set_cons_succ, Bool.false_eq_true, reduceIte, zsw_c, zsw_n, Nat.reduceAdd]
  by_cases h1 : (x >>> (i &&& 31)) &&& 1 = 1
  · simp [h1, zb]
  · simp [h1, zb]
theorem sp_hasM8 {E : zE} {d b : Nat} {h : zH} (hd : d < 256) (hb : b < 8) : zcall zpp E 181 [.int (nI d), .int (nI b)] h = some (some (.int (zb (d.testBit b))), h) := by
  rw [sp_hasM, zhas_k d hd b hb]
  cases d.testBit b <;> rfl
/-- in(long, long, long) of the model -/
theorem sp_in {E : zE} {x a b : Int64} {h : zH} : zcall zpp E 149 [.long x, .long a, .long b] h = some (some (.int (zb (decide (a ≤ x) && decide (x ≤ b)))), h) := by
  simp only [ze149, zi149_0, zi149_1, zi149_2, zi149_3, zi149_6, zi149_7, zi149_9, zi149_10, zi149_13, zi149_14, zi149_17, zi149_18 (sk := []), zcl1, zlow_0, zlow_1, zlow_2, zlow_3, zlow_4, zfree_0, zfree_i, zfree_r, zfree_n, zfree_d, zfree_f, zfree_s, if_true, if_false, Option.bind_some, Option.toList_some, Option.toList_none, List.cons_append, List.nil_append, List.set_cons_zero, List.set_cons_succ, Bool.false_eq_true, reduceIte, zsw_c, zsw_n, Nat.reduceAdd, lg_cmp_lt, lg_cmp_gt]
  by_cases h1 : x < a
  · simp [h1, Int64.not_le.mpr h1, zb]
  · by_cases h2 : b < x
    · simp [h1, h2, Int64.not_le.mpr h2, zb]
    · simp [h1, h2, Int64.not_lt.mp h1, Int64.not_lt.mp h2, zb]
theorem zlong_le {x y : Int32} : (x.toInt64 ≤ y.toInt64) = (x ≤ y) := by
  rw [Int64.le_iff_toInt_le, Int32.le_iff_toInt_le, Int32.toInt_toInt64, Int32.toInt_toInt64]
theorem zlong_lt {x y : Int32} : (x.toInt64 < y.toInt64) = (x < y) := by
  rw [Int64.lt_iff_toInt_lt, Int32.lt_iff_toInt_lt, Int32.toInt_toInt64, Int32.toInt_toInt64]
/-- in, where its numbers are ints made long -/
theorem sp_inI {E : zE} {x a b : Int32} {u v w : Int64} {h : zH} (hu : u = x.toInt64) (hv : v = a.toInt64) (hw : w = b.toInt64) : zcall zpp E 149 [.long u, .long v, .long w] h = some (some (.int (zb (decide (a ≤ x) && decide (x ≤ b)))), h) := by
  subst hu; subst hv; subst hw
  rw [sp_in]
  simp only [zlong_le]
