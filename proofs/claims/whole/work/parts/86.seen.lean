/-! HOW LIKELY ONE IS SEEN -/
def wyN (n : Nat) : Nat → Nat
  | 0 => 1
  | t + 1 => wyN n t * (n - t) / (t + 1)
def seN (p n k : Nat) : Nat → Nat
  | 0 => 0
  | t + 1 => seN p n k t + (if k ≤ t then wyN n t * p ^ t * (10 - p) ^ (n - t) else 0)
def euN : Nat → Nat → Nat → Nat
  | 0, w, _ => w
  | f + 1, w, r => if r = 0 then w else euN f r (w % r)
theorem wyN_lt : ∀ n, n < 10 → ∀ t, t < 11 → wyN n t < 1000 := by decide +kernel
theorem seN_lt : ∀ p, p < 11 → ∀ n, n < 10 → ∀ k, k < 10 → seN p n k (n + 1) < 1000000000000 := by decide +kernel
theorem euN_ok : ∀ p, p < 11 → ∀ n, n < 10 → ∀ k, k < 10 → euN 128 (10 ^ n) (seN p n k (n + 1)) = Nat.gcd (10 ^ n) (seN p n k (n + 1)) := by decide +kernel
theorem zten : ∀ n, n < 10 → 10 ^ n < 10000000000 := by decide +kernel
theorem zcmp0 {X : Nat} (h : X < 2 ^ 63) : (lg_cmp (lN X) 0 = 0) = (X = 0) := by
  apply propext
  rw [lg_cmp_eq, ← lN0, pk_lEQ h (by omega)]
section SEEN
variable {E : zE} {h : zH} {n : Nat}
theorem sp_power {b t : Nat} (ht : t ≤ 10) : zcall zpp E 144 [.long (lN b), .int (nI t)] h = some (some (.long (lN (b ^ t))), h) := by
  have loop : ∀ (m k : Nat), k + m = t → zrun zpp E 144 (5, [.long (lN b), .retAddr 0, .int (nI t), .long (lN (b ^ k)), .retAddr 0, .int (nI k)], [], h) = some (some (.long (lN (b ^ t))), h) := by
    intro m
    induction m with
    | zero =>
      intro k hk
      simp only [zi144_5, zi144_7, zcl1, zlow_0, zlow_1, zlow_2, zlow_3, zlow_4, zfree_0, zfree_i, zfree_r, zfree_n, zfree_d, zfree_f, zfree_s, if_true, if_false, Option.bind_some, Option.toList_some, Option.toList_none, List.cons_append, List.nil_append, List.set_cons_zero, List.set_cons_succ, Bool.false_eq_true, reduceIte, zsw_c, zsw_n, Nat.reduceAdd]
      rw [zi144_8, if_pos (by rw [nI_leP (by omega) (by omega)]; omega)]
      simp only [zi144_21, zi144_22 (sk := []), zcl1, zlow_0, zlow_1, zlow_2, zlow_3, zlow_4, zfree_0, zfree_i, zfree_r, zfree_n, zfree_d, zfree_f, zfree_s, if_true, if_false, Option.bind_some, Option.toList_some, Option.toList_none, List.cons_append, List.nil_append, List.set_cons_zero, List.set_cons_succ, Bool.false_eq_true, reduceIte, zsw_c, zsw_n, Nat.reduceAdd]
      rw [show k = t by omega]
    | succ m ih =>
      intro k hk
      rw [← ih (k + 1) (by omega)]
      conv =>
        lhs
        simp only [zi144_5, zi144_7, zcl1, zlow_0, zlow_1, zlow_2, zlow_3, zlow_4, zfree_0, zfree_i, zfree_r, zfree_n, zfree_d, zfree_f, zfree_s, if_true, if_false, Option.bind_some, Option.toList_some, Option.toList_none, List.cons_append, List.nil_append, List.set_cons_zero, List.set_cons_succ, Bool.false_eq_true, reduceIte, zsw_c, zsw_n, Nat.reduceAdd]
      rw [zi144_8, if_neg (by rw [nI_leP (by omega) (by omega)]; omega)]
      conv =>
        lhs
        simp only [zi144_11, zi144_12, zi144_13, zi144_14, zi144_15, zi144_18, zcl1, zlow_0, zlow_1, zlow_2, zlow_3, zlow_4, zfree_0, zfree_i, zfree_r, zfree_n, zfree_d, zfree_f, zfree_s, if_true, if_false, Option.bind_some, Option.toList_some, Option.toList_none, List.cons_append, List.nil_append, List.set_cons_zero, List.set_cons_succ, Bool.false_eq_true, reduceIte, zsw_c, zsw_n, Nat.reduceAdd, List.length_cons, List.length_nil, Nat.reduceLT, decide_true, Bool.and_true, Bool.and_self, lN_mul, ix_p1]
      rfl
  rw [← loop t 0 (by omega)]
  conv =>
    lhs
    simp only [ze144, zi144_0, zi144_1, zi144_2, zi144_3, zcl1, zlow_0, zlow_1, zlow_2, zlow_3, zlow_4, zfree_0, zfree_i, zfree_r, zfree_n, zfree_d, zfree_f, zfree_s, if_true, if_false, Option.bind_some, Option.toList_some, Option.toList_none, List.cons_append, List.nil_append, List.set_cons_zero, List.set_cons_succ, Bool.false_eq_true, reduceIte, zsw_c, zsw_n, Nat.reduceAdd, List.length_cons, List.length_nil, Nat.reduceLT, decide_true, Bool.and_true, Bool.and_self]
  rfl
theorem sp_common : ∀ (w r : Nat), w < 2 ^ 62 → r < 2 ^ 62 → zcall zpp E 145 [.long (lN w), .long (lN r)] h = some (some (.long (lN (euN 128 w r))), h) := by
  have loop : ∀ (f i w r : Nat) (x0 x2 : Int64) (v9 v10 : Value), i + f = 128 → w < 2 ^ 62 → r < 2 ^ 62 → zrun zpp E 145 (9, [.long x0, .retAddr 0, .long x2, .retAddr 0, .long (lN w), .retAddr 0, .long (lN r), .retAddr 0, .int (nI i), v9, v10], [], h) = some (some (.long (lN (euN f w r))), h) := by
    intro f
    induction f with
    | zero =>
      intro i w r x0 x2 v9 v10 hi hw hr
      simp only [zi145_9, zi145_11, zcl1, zlow_0, zlow_1, zlow_2, zlow_3, zlow_4, zfree_0, zfree_i, zfree_r, zfree_n, zfree_d, zfree_f, zfree_s, if_true, if_false, Option.bind_some, Option.toList_some, Option.toList_none, List.cons_append, List.nil_append, List.set_cons_zero, List.set_cons_succ, Bool.false_eq_true, reduceIte, zsw_c, zsw_n, Nat.reduceAdd]
      rw [zi145_14, if_pos (by rw [show (128 : Int32) = nI 128 from rfl, nI_leP (by omega) (by omega)]; omega)]
      simp only [zi145_45, zi145_47 (sk := []), zcl1, zlow_0, zlow_1, zlow_2, zlow_3, zlow_4, zfree_0, zfree_i, zfree_r, zfree_n, zfree_d, zfree_f, zfree_s, if_true, if_false, Option.bind_some, Option.toList_some, Option.toList_none, List.cons_append, List.nil_append, List.set_cons_zero, List.set_cons_succ, Bool.false_eq_true, reduceIte, zsw_c, zsw_n, Nat.reduceAdd, euN]
    | succ f ih =>
      intro i w r x0 x2 v9 v10 hi hw hr
      simp only [zi145_9, zi145_11, zcl1, zlow_0, zlow_1, zlow_2, zlow_3, zlow_4, zfree_0, zfree_i, zfree_r, zfree_n, zfree_d, zfree_f, zfree_s, if_true, if_false, Option.bind_some, Option.toList_some, Option.toList_none, List.cons_append, List.nil_append, List.set_cons_zero, List.set_cons_succ, Bool.false_eq_true, reduceIte, zsw_c, zsw_n, Nat.reduceAdd]
      rw [zi145_14, if_neg (by rw [show (128 : Int32) = nI 128 from rfl, nI_leP (by omega) (by omega)]; omega)]
      by_cases hr0 : r = 0
      · simp only [zi145_17, zi145_19, zi145_20, zi145_21, zi145_45, zi145_47 (sk := []), zcl1, zlow_0, zlow_1, zlow_2, zlow_3, zlow_4, zfree_0, zfree_i, zfree_r, zfree_n, zfree_d, zfree_f, zfree_s, if_true, if_false, Option.bind_some, Option.toList_some, Option.toList_none, List.cons_append, List.nil_append, List.set_cons_zero, List.set_cons_succ, Bool.false_eq_true, reduceIte, zsw_c, zsw_n, Nat.reduceAdd, zcmp0 (show r < 2 ^ 63 by omega), eq_true hr0, euN]
      · have em := ih (i + 1) r (w % r) x0 x2 (.long (lN (w % r))) (.retAddr 0) (by omega) hr (Nat.lt_trans (Nat.mod_lt _ (by omega)) hr)
        have eu : euN (f + 1) w r = euN f r (w % r) := by
          show (if r = 0 then w else euN f r (w % r)) = _
          rw [if_neg hr0]
        rw [eu, ← em]
        conv =>
          lhs
          simp only [zi145_17, zi145_19, zi145_20, zi145_21, zi145_24, zi145_26, zi145_28, zi145_29, zi145_31, zi145_33, zi145_35, zi145_37, zi145_39, zi145_42, zcl1, zlow_0, zlow_1, zlow_2, zlow_3, zlow_4, zfree_0, zfree_i, zfree_r, zfree_n, zfree_d, zfree_f, zfree_s, if_true, if_false, Option.bind_some, Option.toList_some, Option.toList_none, List.cons_append, List.nil_append, List.set_cons_zero, List.set_cons_succ, Bool.false_eq_true, reduceIte, zsw_c, zsw_n, Nat.reduceAdd, List.length_cons, List.length_nil, Nat.reduceLT, decide_true, Bool.and_true, Bool.and_self, zcmp0 (show r < 2 ^ 63 by omega), eq_false hr0, zlNn (show 0 < r by omega) (show r < 2 ^ 63 by omega), pk_lRem (show w < 2 ^ 63 by omega) (show 0 < r by omega) (show r < 2 ^ 63 by omega), ix_p1]
  intro w r hw hr
  rw [← loop 128 0 w r (lN w) (lN r) (.retAddr 0) (.retAddr 0) (by omega) hw hr]
  conv =>
    lhs
    simp only [ze145, zi145_0, zi145_1, zi145_3, zi145_4, zi145_6, zi145_7, zcl1, zlow_0, zlow_1, zlow_2, zlow_3, zlow_4, zfree_0, zfree_i, zfree_r, zfree_n, zfree_d, zfree_f, zfree_s, if_true, if_false, Option.bind_some, Option.toList_some, Option.toList_none, List.cons_append, List.nil_append, List.set_cons_zero, List.set_cons_succ, Bool.false_eq_true, reduceIte, zsw_c, zsw_n, Nat.reduceAdd, List.length_cons, List.length_nil, Nat.reduceLT, decide_true, Bool.and_true, Bool.and_self]
  rfl
theorem sneC {p nn k : Nat} {wh : Int32} (hp : p ≤ 10) (hn : nn ≤ 9) (hk : k ≤ nn) : ∀ (m t : Nat) (v10 v11 v12 : Value), t + m = nn + 1 → zrun zpp E 116 (52, [.ref 0, .int (nI p), .int (nI nn), .int (nI k), .int wh, .long (lN (wyN nn t)), .retAddr 0, .long (lN (seN p nn k t)), .retAddr 0, .int (nI t), v10, v11, v12], [], h) = zrun zpp E 116 (114, [.ref 0, .int (nI p), .int (nI nn), .int (nI k), .int wh, .long (lN (wyN nn (nn + 1))), .retAddr 0, .long (lN (seN p nn k (nn + 1))), .retAddr 0, .int (nI (nn + 1)), v10, v11, v12], [], h) := by
  intro m
  induction m with
  | zero =>
    intro t v10 v11 v12 ht
    rw [show t = nn + 1 by omega]
    conv =>
      lhs
      simp only [zi116_52, zi116_54, zcl1, zlow_0, zlow_1, zlow_2, zlow_3, zlow_4, zfree_0, zfree_i, zfree_r, zfree_n, zfree_d, zfree_f, zfree_s, if_true, if_false, Option.bind_some, Option.toList_some, Option.toList_none, List.cons_append, List.nil_append, List.set_cons_zero, List.set_cons_succ, Bool.false_eq_true, reduceIte, zsw_c, zsw_n, Nat.reduceAdd]
    rw [zi116_55, if_pos (by rw [nI_ltP (by omega) (by omega)]; omega)]
  | succ m ih =>
    intro t v10 v11 v12 ht
    rw [← ih (t + 1) v10 v11 v12 (by omega)]
    have hw := wyN_lt nn (by omega) t (by omega)
    have hwd : wyN nn t * (nn - t) < 2 ^ 63 := Nat.lt_of_le_of_lt (Nat.mul_le_mul (Nat.le_of_lt hw) (show nn - t ≤ 9 by omega)) (by decide)
    have t10 : (10 : Int32) - nI p = nI (10 - p) := pk_sub (a := 10) hp
    have tail : ∀ A, zrun zpp E 116 (92, [.ref 0, .int (nI p), .int (nI nn), .int (nI k), .int wh, .long (lN (wyN nn t)), .retAddr 0, .long A, .retAddr 0, .int (nI t), v10, v11, v12], [], h) = zrun zpp E 116 (52, [.ref 0, .int (nI p), .int (nI nn), .int (nI k), .int wh, .long (lN (wyN nn (t + 1))), .retAddr 0, .long A, .retAddr 0, .int (nI (t + 1)), v10, v11, v12], [], h) := by
      intro A
      conv =>
        lhs
        simp only [zi116_92, zi116_94, zi116_95, zi116_97, zi116_98, zi116_99, zi116_100, zi116_102, zi116_103, zi116_104, zi116_105, zi116_106, zi116_108, zi116_111, zcl1, zlow_0, zlow_1, zlow_2, zlow_3, zlow_4, zfree_0, zfree_i, zfree_r, zfree_n, zfree_d, zfree_f, zfree_s, if_true, if_false, Option.bind_some, Option.toList_some, Option.toList_none, List.cons_append, List.nil_append, List.set_cons_zero, List.set_cons_succ, Bool.false_eq_true, reduceIte, zsw_c, zsw_n, Nat.reduceAdd, List.length_cons, List.length_nil, Nat.reduceLT, decide_true, Bool.and_true, Bool.and_self, pk_sub (show t ≤ nn by omega), ix_p1, nI_l (show nn - t < 2 ^ 31 by omega), nI_l (show t + 1 < 2 ^ 31 by omega), lN_mul, zlNn (show 0 < t + 1 by omega) (show t + 1 < 2 ^ 63 by omega), pk_lDiv hwd (show 0 < t + 1 by omega) (show t + 1 < 2 ^ 63 by omega)]
      rfl
    conv =>
      lhs
      simp only [zi116_52, zi116_54, zcl1, zlow_0, zlow_1, zlow_2, zlow_3, zlow_4, zfree_0, zfree_i, zfree_r, zfree_n, zfree_d, zfree_f, zfree_s, if_true, if_false, Option.bind_some, Option.toList_some, Option.toList_none, List.cons_append, List.nil_append, List.set_cons_zero, List.set_cons_succ, Bool.false_eq_true, reduceIte, zsw_c, zsw_n, Nat.reduceAdd]
    rw [zi116_55, if_neg (by rw [nI_ltP (by omega) (by omega)]; omega)]
    by_cases hkt : t < k
    · have es : seN p nn k (t + 1) = seN p nn k t := by
        show seN p nn k t + (if k ≤ t then _ else 0) = _
        rw [if_neg (by omega)]
        rfl
      rw [es, ← tail]
      conv =>
        lhs
        simp only [zi116_58, zi116_60, zcl1, zlow_0, zlow_1, zlow_2, zlow_3, zlow_4, zfree_0, zfree_i, zfree_r, zfree_n, zfree_d, zfree_f, zfree_s, if_true, if_false, Option.bind_some, Option.toList_some, Option.toList_none, List.cons_append, List.nil_append, List.set_cons_zero, List.set_cons_succ, Bool.false_eq_true, reduceIte, zsw_c, zsw_n, Nat.reduceAdd]
      rw [zi116_61, if_pos (by rw [nI_ltP (by omega) (by omega)]; omega)]
    · have es : seN p nn k (t + 1) = seN p nn k t + wyN nn t * p ^ t * (10 - p) ^ (nn - t) := by
        show seN p nn k t + (if k ≤ t then _ else 0) = _
        rw [if_pos (by omega)]
      rw [es, ← tail]
      conv =>
        lhs
        simp only [zi116_58, zi116_60, zcl1, zlow_0, zlow_1, zlow_2, zlow_3, zlow_4, zfree_0, zfree_i, zfree_r, zfree_n, zfree_d, zfree_f, zfree_s, if_true, if_false, Option.bind_some, Option.toList_some, Option.toList_none, List.cons_append, List.nil_append, List.set_cons_zero, List.set_cons_succ, Bool.false_eq_true, reduceIte, zsw_c, zsw_n, Nat.reduceAdd]
      rw [zi116_61, if_neg (by rw [nI_ltP (by omega) (by omega)]; omega)]
      conv =>
        lhs
        simp only [zi116_64, zi116_66, zi116_68, zi116_69, zi116_70, zi116_72, zi116_75, zi116_76, zi116_78, zi116_79, zi116_80, zi116_81, zi116_82, zi116_84, zi116_85, zi116_88, zi116_89, zi116_90, zcl1, zlow_0, zlow_1, zlow_2, zlow_3, zlow_4, zfree_0, zfree_i, zfree_r, zfree_n, zfree_d, zfree_f, zfree_s, if_true, if_false, Option.bind_some, Option.toList_some, Option.toList_none, List.cons_append, List.nil_append, List.set_cons_zero, List.set_cons_succ, Bool.false_eq_true, reduceIte, zsw_c, zsw_n, Nat.reduceAdd, List.length_cons, List.length_nil, Nat.reduceLT, decide_true, Bool.and_true, Bool.and_self, nI_l (show p < 2 ^ 31 by omega), sp_power (show t ≤ 10 by omega), t10, nI_l (show 10 - p < 2 ^ 31 by omega), pk_sub (show t ≤ nn by omega), sp_power (show nn - t ≤ 10 by omega), lN_mul, lN_add]
/-- the model's product -/
theorem sneP {p nn k j W : Nat} {wh : Int32} {A B : Int64} {w5 : Value} (hp : p ≤ 10) (hn : nn ≤ 9) (hj : j ≤ nn) : ∀ (m t : Nat) (v15 v16 : Value), t + m = nn → zrun zpp E 214 (80, [.ref 73, .int (nI p), .int (nI nn), .int (nI k), .int wh, w5, .retAddr 0, .long A, .retAddr 0, .long B, .retAddr 0, .int (nI j), .long (lN (W * p ^ (min t j) * (10 - p) ^ (t - j))), .retAddr 0, .int (nI t), v15, v16], [], h) = zrun zpp E 214 (115, [.ref 73, .int (nI p), .int (nI nn), .int (nI k), .int wh, w5, .retAddr 0, .long A, .retAddr 0, .long B, .retAddr 0, .int (nI j), .long (lN (W * p ^ j * (10 - p) ^ (nn - j))), .retAddr 0, .int (nI nn), v15, v16], [], h) := by
  intro m
  induction m with
  | zero =>
    intro t v15 v16 ht
    rw [show t = nn by omega, show min nn j = j by omega]
    conv =>
      lhs
      simp only [zi214_80, zi214_82, zcl1, zlow_0, zlow_1, zlow_2, zlow_3, zlow_4, zfree_0, zfree_i, zfree_r, zfree_n, zfree_d, zfree_f, zfree_s, if_true, if_false, Option.bind_some, Option.toList_some, Option.toList_none, List.cons_append, List.nil_append, List.set_cons_zero, List.set_cons_succ, Bool.false_eq_true, reduceIte, zsw_c, zsw_n, Nat.reduceAdd]
    rw [zi214_83, if_pos (by rw [nI_leP (by omega) (by omega)]; omega)]
  | succ m ih =>
    intro t v15 v16 ht
    rw [← ih (t + 1) v15 v16 (by omega)]
    have t10 : (10 : Int64) - lN p = lN (10 - p) := lN_sub (a := 10) hp
    conv =>
      lhs
      simp only [zi214_80, zi214_82, zcl1, zlow_0, zlow_1, zlow_2, zlow_3, zlow_4, zfree_0, zfree_i, zfree_r, zfree_n, zfree_d, zfree_f, zfree_s, if_true, if_false, Option.bind_some, Option.toList_some, Option.toList_none, List.cons_append, List.nil_append, List.set_cons_zero, List.set_cons_succ, Bool.false_eq_true, reduceIte, zsw_c, zsw_n, Nat.reduceAdd]
    rw [zi214_83, if_neg (by rw [nI_leP (by omega) (by omega)]; omega)]
    by_cases htj : t < j
    · rw [show min t j = t by omega, show t - j = 0 by omega, show min (t + 1) j = t + 1 by omega, show t + 1 - j = 0 by omega]
      conv =>
        lhs
        simp only [zi214_86, zi214_88, zi214_90, zcl1, zlow_0, zlow_1, zlow_2, zlow_3, zlow_4, zfree_0, zfree_i, zfree_r, zfree_n, zfree_d, zfree_f, zfree_s, if_true, if_false, Option.bind_some, Option.toList_some, Option.toList_none, List.cons_append, List.nil_append, List.set_cons_zero, List.set_cons_succ, Bool.false_eq_true, reduceIte, zsw_c, zsw_n, Nat.reduceAdd]
      rw [zi214_92, if_neg (by rw [nI_leP (by omega) (by omega)]; omega)]
      conv =>
        lhs
        simp only [zi214_95, zi214_96, zi214_97, zi214_106, zi214_107, zi214_109, zi214_112, zcl1, zlow_0, zlow_1, zlow_2, zlow_3, zlow_4, zfree_0, zfree_i, zfree_r, zfree_n, zfree_d, zfree_f, zfree_s, if_true, if_false, Option.bind_some, Option.toList_some, Option.toList_none, List.cons_append, List.nil_append, List.set_cons_zero, List.set_cons_succ, Bool.false_eq_true, reduceIte, zsw_c, zsw_n, Nat.reduceAdd, List.length_cons, List.length_nil, Nat.reduceLT, decide_true, Bool.and_true, Bool.and_self, nI_l (show p < 2 ^ 31 by omega), lN_mul, ix_p1]
      rw [show W * p ^ t * (10 - p) ^ 0 * p = W * p ^ (t + 1) * (10 - p) ^ 0 by rw [Nat.pow_zero, Nat.mul_one, Nat.mul_one, Nat.pow_succ, Nat.mul_assoc]]
    · rw [show min t j = j by omega, show min (t + 1) j = j by omega, show t + 1 - j = (t - j) + 1 by omega]
      conv =>
        lhs
        simp only [zi214_86, zi214_88, zi214_90, zcl1, zlow_0, zlow_1, zlow_2, zlow_3, zlow_4, zfree_0, zfree_i, zfree_r, zfree_n, zfree_d, zfree_f, zfree_s, if_true, if_false, Option.bind_some, Option.toList_some, Option.toList_none, List.cons_append, List.nil_append, List.set_cons_zero, List.set_cons_succ, Bool.false_eq_true, reduceIte, zsw_c, zsw_n, Nat.reduceAdd]
      rw [zi214_92, if_pos (by rw [nI_leP (by omega) (by omega)]; omega)]
      conv =>
        lhs
        simp only [zi214_100, zi214_103, zi214_104, zi214_105, zi214_106, zi214_107, zi214_109, zi214_112, zcl1, zlow_0, zlow_1, zlow_2, zlow_3, zlow_4, zfree_0, zfree_i, zfree_r, zfree_n, zfree_d, zfree_f, zfree_s, if_true, if_false, Option.bind_some, Option.toList_some, Option.toList_none, List.cons_append, List.nil_append, List.set_cons_zero, List.set_cons_succ, Bool.false_eq_true, reduceIte, zsw_c, zsw_n, Nat.reduceAdd, List.length_cons, List.length_nil, Nat.reduceLT, decide_true, Bool.and_true, Bool.and_self, nI_l (show p < 2 ^ 31 by omega), t10, lN_mul, ix_p1]
      rw [show W * p ^ j * (10 - p) ^ (t - j) * (10 - p) = W * p ^ j * (10 - p) ^ (t - j + 1) by rw [Nat.pow_succ, Nat.mul_assoc]]
theorem sneM {p nn k : Nat} {wh : Int32} {B : Int64} (hp : p ≤ 10) (hn : nn ≤ 9) (hk : k ≤ nn) : ∀ (m t : Nat) (v12 v13 v14 v15 v16 : Value), t + m = nn + 1 → ∃ u12 u13 u14 : Value, zrun zpp E 214 (67, [.ref 73, .int (nI p), .int (nI nn), .int (nI k), .int wh, .long (lN (wyN nn t)), .retAddr 0, .long (lN (seN p nn k t)), .retAddr 0, .long B, .retAddr 0, .int (nI t), v12, v13, v14, v15, v16], [], h) = zrun zpp E 214 (154, [.ref 73, .int (nI p), .int (nI nn), .int (nI k), .int wh, .long (lN (wyN nn (nn + 1))), .retAddr 0, .long (lN (seN p nn k (nn + 1))), .retAddr 0, .long B, .retAddr 0, .int (nI (nn + 1)), u12, u13, u14, v15, v16], [], h) := by
  intro m
  induction m with
  | zero =>
    intro t v12 v13 v14 v15 v16 ht
    refine ⟨v12, v13, v14, ?_⟩
    rw [show t = nn + 1 by omega]
    conv =>
      lhs
      simp only [zi214_67, zi214_69, zcl1, zlow_0, zlow_1, zlow_2, zlow_3, zlow_4, zfree_0, zfree_i, zfree_r, zfree_n, zfree_d, zfree_f, zfree_s, if_true, if_false, Option.bind_some, Option.toList_some, Option.toList_none, List.cons_append, List.nil_append, List.set_cons_zero, List.set_cons_succ, Bool.false_eq_true, reduceIte, zsw_c, zsw_n, Nat.reduceAdd]
    rw [zi214_70, if_pos (by rw [nI_ltP (by omega) (by omega)]; omega)]
  | succ m ih =>
    intro t v12 v13 v14 v15 v16 ht
    obtain ⟨u12, u13, u14, e1⟩ := ih (t + 1) (.long (lN (wyN nn t * p ^ t * (10 - p) ^ (nn - t)))) (.retAddr 0) (.int (nI nn)) v15 v16 (by omega)
    refine ⟨u12, u13, u14, ?_⟩
    rw [← e1]
    have hw := wyN_lt nn (by omega) t (by omega)
    have hwd : wyN nn t * (nn - t) < 2 ^ 63 := Nat.lt_of_le_of_lt (Nat.mul_le_mul (Nat.le_of_lt hw) (show nn - t ≤ 9 by omega)) (by decide)
    conv =>
      lhs
      simp only [zi214_67, zi214_69, zcl1, zlow_0, zlow_1, zlow_2, zlow_3, zlow_4, zfree_0, zfree_i, zfree_r, zfree_n, zfree_d, zfree_f, zfree_s, if_true, if_false, Option.bind_some, Option.toList_some, Option.toList_none, List.cons_append, List.nil_append, List.set_cons_zero, List.set_cons_succ, Bool.false_eq_true, reduceIte, zsw_c, zsw_n, Nat.reduceAdd]
    rw [zi214_70, if_neg (by rw [nI_ltP (by omega) (by omega)]; omega)]
    have e2 : zrun zpp E 214 (73, [.ref 73, .int (nI p), .int (nI nn), .int (nI k), .int wh, .long (lN (wyN nn t)), .retAddr 0, .long (lN (seN p nn k t)), .retAddr 0, .long B, .retAddr 0, .int (nI t), v12, v13, v14, v15, v16], [], h) = zrun zpp E 214 (80, [.ref 73, .int (nI p), .int (nI nn), .int (nI k), .int wh, .long (lN (wyN nn t)), .retAddr 0, .long (lN (seN p nn k t)), .retAddr 0, .long B, .retAddr 0, .int (nI t), .long (lN (wyN nn t * p ^ (min 0 t) * (10 - p) ^ (0 - t))), .retAddr 0, .int (nI 0), v15, v16], [], h) := by
      rw [show min 0 t = 0 by omega, show 0 - t = 0 by omega, Nat.pow_zero, Nat.pow_zero, Nat.mul_one, Nat.mul_one]
      conv =>
        lhs
        simp only [zi214_73, zi214_75, zi214_77, zi214_78, zcl1, zlow_0, zlow_1, zlow_2, zlow_3, zlow_4, zfree_0, zfree_i, zfree_r, zfree_n, zfree_d, zfree_f, zfree_s, if_true, if_false, Option.bind_some, Option.toList_some, Option.toList_none, List.cons_append, List.nil_append, List.set_cons_zero, List.set_cons_succ, Bool.false_eq_true, reduceIte, zsw_c, zsw_n, Nat.reduceAdd, List.length_cons, List.length_nil, Nat.reduceLT, decide_true, Bool.and_true, Bool.and_self]
      rfl
    rw [e2, sneP hp hn (show t ≤ nn by omega) nn 0 v15 v16 (by omega)]
    have tail : ∀ A, zrun zpp E 214 (130, [.ref 73, .int (nI p), .int (nI nn), .int (nI k), .int wh, .long (lN (wyN nn t)), .retAddr 0, .long (lN (seN p nn k t)), .retAddr 0, .long B, .retAddr 0, .int (nI t), .long (lN (wyN nn t * p ^ t * (10 - p) ^ (nn - t))), .retAddr 0, .int (nI nn), v15, v16], [.long (lN A)], h) = zrun zpp E 214 (67, [.ref 73, .int (nI p), .int (nI nn), .int (nI k), .int wh, .long (lN (wyN nn (t + 1))), .retAddr 0, .long (lN A), .retAddr 0, .long B, .retAddr 0, .int (nI (t + 1)), .long (lN (wyN nn t * p ^ t * (10 - p) ^ (nn - t))), .retAddr 0, .int (nI nn), v15, v16], [], h) := by
      intro A
      conv =>
        lhs
        simp only [zi214_130, zi214_132, zi214_134, zi214_135, zi214_137, zi214_138, zi214_139, zi214_140, zi214_142, zi214_143, zi214_144, zi214_145, zi214_146, zi214_148, zi214_151, zcl1, zlow_0, zlow_1, zlow_2, zlow_3, zlow_4, zfree_0, zfree_i, zfree_r, zfree_n, zfree_d, zfree_f, zfree_s, if_true, if_false, Option.bind_some, Option.toList_some, Option.toList_none, List.cons_append, List.nil_append, List.set_cons_zero, List.set_cons_succ, Bool.false_eq_true, reduceIte, zsw_c, zsw_n, Nat.reduceAdd, List.length_cons, List.length_nil, Nat.reduceLT, decide_true, Bool.and_true, Bool.and_self, pk_sub (show t ≤ nn by omega), ix_p1, nI_l (show nn - t < 2 ^ 31 by omega), nI_l (show t + 1 < 2 ^ 31 by omega), lN_mul, zlNn (show 0 < t + 1 by omega) (show t + 1 < 2 ^ 63 by omega), pk_lDiv hwd (show 0 < t + 1 by omega) (show t + 1 < 2 ^ 63 by omega)]
      rfl
    by_cases hkt : t < k
    · have es : seN p nn k (t + 1) = seN p nn k t + 0 := by
        show seN p nn k t + (if k ≤ t then _ else 0) = _
        rw [if_neg (by omega)]
      rw [es, ← tail]
      conv =>
        lhs
        simp only [zi214_115, zi214_117, zi214_119, zcl1, zlow_0, zlow_1, zlow_2, zlow_3, zlow_4, zfree_0, zfree_i, zfree_r, zfree_n, zfree_d, zfree_f, zfree_s, if_true, if_false, Option.bind_some, Option.toList_some, Option.toList_none, List.cons_append, List.nil_append, List.set_cons_zero, List.set_cons_succ, Bool.false_eq_true, reduceIte, zsw_c, zsw_n, Nat.reduceAdd]
      rw [zi214_120, if_pos (by rw [nI_ltP (by omega) (by omega)]; omega)]
      conv =>
        lhs
        simp only [zi214_128, zi214_129, zcl1, zlow_0, zlow_1, zlow_2, zlow_3, zlow_4, zfree_0, zfree_i, zfree_r, zfree_n, zfree_d, zfree_f, zfree_s, if_true, if_false, Option.bind_some, Option.toList_some, Option.toList_none, List.cons_append, List.nil_append, List.set_cons_zero, List.set_cons_succ, Bool.false_eq_true, reduceIte, zsw_c, zsw_n, Nat.reduceAdd, ← lN0, lN_add]
    · have es : seN p nn k (t + 1) = seN p nn k t + wyN nn t * p ^ t * (10 - p) ^ (nn - t) := by
        show seN p nn k t + (if k ≤ t then _ else 0) = _
        rw [if_pos (by omega)]
      rw [es, ← tail]
      conv =>
        lhs
        simp only [zi214_115, zi214_117, zi214_119, zcl1, zlow_0, zlow_1, zlow_2, zlow_3, zlow_4, zfree_0, zfree_i, zfree_r, zfree_n, zfree_d, zfree_f, zfree_s, if_true, if_false, Option.bind_some, Option.toList_some, Option.toList_none, List.cons_append, List.nil_append, List.set_cons_zero, List.set_cons_succ, Bool.false_eq_true, reduceIte, zsw_c, zsw_n, Nat.reduceAdd]
      rw [zi214_120, if_neg (by rw [nI_ltP (by omega) (by omega)]; omega)]
      conv =>
        lhs
        simp only [zi214_123, zi214_125, zi214_128, zi214_129, zcl1, zlow_0, zlow_1, zlow_2, zlow_3, zlow_4, zfree_0, zfree_i, zfree_r, zfree_n, zfree_d, zfree_f, zfree_s, if_true, if_false, Option.bind_some, Option.toList_some, Option.toList_none, List.cons_append, List.nil_append, List.set_cons_zero, List.set_cons_succ, Bool.false_eq_true, reduceIte, zsw_c, zsw_n, Nat.reduceAdd, lN_add]
theorem sneB {p nn k : Nat} {wh : Int32} {A : Int64} {w5 : Value} (hn : nn ≤ 9) : ∀ (m t : Nat) (v12 v13 v14 v15 v16 : Value), t + m = nn → zrun zpp E 214 (157, [.ref 73, .int (nI p), .int (nI nn), .int (nI k), .int wh, w5, .retAddr 0, .long A, .retAddr 0, .long (lN (10 ^ t)), .retAddr 0, .int (nI t), v12, v13, v14, v15, v16], [], h) = zrun zpp E 214 (177, [.ref 73, .int (nI p), .int (nI nn), .int (nI k), .int wh, w5, .retAddr 0, .long A, .retAddr 0, .long (lN (10 ^ nn)), .retAddr 0, .int (nI nn), v12, v13, v14, v15, v16], [], h) := by
  intro m
  induction m with
  | zero =>
    intro t v12 v13 v14 v15 v16 ht
    rw [show t = nn by omega]
    conv =>
      lhs
      simp only [zi214_157, zi214_159, zcl1, zlow_0, zlow_1, zlow_2, zlow_3, zlow_4, zfree_0, zfree_i, zfree_r, zfree_n, zfree_d, zfree_f, zfree_s, if_true, if_false, Option.bind_some, Option.toList_some, Option.toList_none, List.cons_append, List.nil_append, List.set_cons_zero, List.set_cons_succ, Bool.false_eq_true, reduceIte, zsw_c, zsw_n, Nat.reduceAdd]
    rw [zi214_160, if_pos (by rw [nI_leP (by omega) (by omega)]; omega)]
  | succ m ih =>
    intro t v12 v13 v14 v15 v16 ht
    rw [← ih (t + 1) v12 v13 v14 v15 v16 (by omega)]
    have e10 : lN (10 ^ t) * 10 = lN (10 ^ (t + 1)) := lN_mul (10 ^ t) 10
    conv =>
      lhs
      simp only [zi214_157, zi214_159, zcl1, zlow_0, zlow_1, zlow_2, zlow_3, zlow_4, zfree_0, zfree_i, zfree_r, zfree_n, zfree_d, zfree_f, zfree_s, if_true, if_false, Option.bind_some, Option.toList_some, Option.toList_none, List.cons_append, List.nil_append, List.set_cons_zero, List.set_cons_succ, Bool.false_eq_true, reduceIte, zsw_c, zsw_n, Nat.reduceAdd]
    rw [zi214_160, if_neg (by rw [nI_leP (by omega) (by omega)]; omega)]
    conv =>
      lhs
      simp only [zi214_163, zi214_165, zi214_168, zi214_169, zi214_171, zi214_174, zcl1, zlow_0, zlow_1, zlow_2, zlow_3, zlow_4, zfree_0, zfree_i, zfree_r, zfree_n, zfree_d, zfree_f, zfree_s, if_true, if_false, Option.bind_some, Option.toList_some, Option.toList_none, List.cons_append, List.nil_append, List.set_cons_zero, List.set_cons_succ, Bool.false_eq_true, reduceIte, zsw_c, zsw_n, Nat.reduceAdd, List.length_cons, List.length_nil, Nat.reduceLT, decide_true, Bool.and_true, Bool.and_self, e10, ix_p1]
theorem sneG {p nn k : Nat} {wh : Int32} {A B : Int64} {w5 : Value} : ∀ (Y X : Nat) (v15 v16 : Value), X < 2 ^ 62 → Y < 2 ^ 62 → ∃ u15 u16 : Value, zrun zpp E 214 (185, [.ref 73, .int (nI p), .int (nI nn), .int (nI k), .int wh, w5, .retAddr 0, .long A, .retAddr 0, .long B, .retAddr 0, .long (lN X), .retAddr 0, .long (lN Y), .retAddr 0, v15, v16], [], h) = zrun zpp E 214 (210, [.ref 73, .int (nI p), .int (nI nn), .int (nI k), .int wh, w5, .retAddr 0, .long A, .retAddr 0, .long B, .retAddr 0, .long (lN (Nat.gcd X Y)), .retAddr 0, .long (lN 0), .retAddr 0, u15, u16], [], h) := by
  intro Y
  induction Y using Nat.strongRecOn with
  | _ Y ih =>
    intro X v15 v16 hX hY
    by_cases h0 : Y = 0
    · subst h0
      refine ⟨v15, v16, ?_⟩
      rw [Nat.gcd_zero_right]
      conv =>
        lhs
        simp only [zi214_185, zi214_187, zi214_188, zi214_189, zcl1, zlow_0, zlow_1, zlow_2, zlow_3, zlow_4, zfree_0, zfree_i, zfree_r, zfree_n, zfree_d, zfree_f, zfree_s, if_true, if_false, Option.bind_some, Option.toList_some, Option.toList_none, List.cons_append, List.nil_append, List.set_cons_zero, List.set_cons_succ, Bool.false_eq_true, reduceIte, zsw_c, zsw_n, Nat.reduceAdd, zcmp0 (show 0 < 2 ^ 63 by omega)]
    · have hlt : X % Y < Y := Nat.mod_lt _ (by omega)
      obtain ⟨u15, u16, e1⟩ := ih (X % Y) hlt Y (.long (lN (X % Y))) (.retAddr 0) hY (by omega)
      refine ⟨u15, u16, ?_⟩
      have eg : Nat.gcd X Y = Nat.gcd Y (X % Y) := by rw [Nat.gcd_comm X Y, Nat.gcd_rec Y X, Nat.gcd_comm]
      rw [eg, ← e1]
      conv =>
        lhs
        simp only [zi214_185, zi214_187, zi214_188, zi214_189, zcl1, zlow_0, zlow_1, zlow_2, zlow_3, zlow_4, zfree_0, zfree_i, zfree_r, zfree_n, zfree_d, zfree_f, zfree_s, if_true, if_false, Option.bind_some, Option.toList_some, Option.toList_none, List.cons_append, List.nil_append, List.set_cons_zero, List.set_cons_succ, Bool.false_eq_true, reduceIte, zsw_c, zsw_n, Nat.reduceAdd, zcmp0 (show Y < 2 ^ 63 by omega), eq_false h0]
      conv =>
        lhs
        simp only [zi214_192, zi214_194, zi214_196, zi214_197, zi214_199, zi214_201, zi214_203, zi214_205, zi214_207, zcl1, zlow_0, zlow_1, zlow_2, zlow_3, zlow_4, zfree_0, zfree_i, zfree_r, zfree_n, zfree_d, zfree_f, zfree_s, if_true, if_false, Option.bind_some, Option.toList_some, Option.toList_none, List.cons_append, List.nil_append, List.set_cons_zero, List.set_cons_succ, Bool.false_eq_true, reduceIte, zsw_c, zsw_n, Nat.reduceAdd, List.length_cons, List.length_nil, Nat.reduceLT, decide_true, Bool.and_true, Bool.and_self, zlNn (show 0 < Y by omega) (show Y < 2 ^ 63 by omega), pk_lRem (show X < 2 ^ 63 by omega) (show 0 < Y by omega) (show Y < 2 ^ 63 by omega)]
theorem ok_seen (hJ : J h n) {x z u w : Int32} : OKL E h n 116 214 [.int x, .int z, .int u, .int w] := by
  obtain ⟨y, s, v, sc, N, hJ, h1, hB⟩ := hJ
  have w0 := hJ.md.st 0 rfl (by omega) 0
  have i1 := fun (H : zH) => sp_inI (E := E) (h := H) (u := x.toInt64) (v := 0) (w := 10) (x := x) (a := 0) (b := 10) rfl (by decide) (by decide)
  have i2 := fun (H : zH) => sp_inI (E := E) (h := H) (u := z.toInt64) (v := 0) (w := 9) (x := z) (a := 0) (b := 9) rfl (by decide) (by decide)
  have i3 := fun (H : zH) => sp_inI (E := E) (h := H) (u := u.toInt64) (v := 0) (w := z.toInt64) (x := u) (a := 0) (b := z) rfl (by decide) rfl
  have i4 := fun (H : zH) => sp_inI (E := E) (h := H) (u := w.toInt64) (v := 0) (w := 1) (x := w) (a := 0) (b := 1) rfl (by decide) (by decide)
  have c1 : ((-1000001 : Int64)) = -1000001 := rfl
  rcases zbt_or x 0 10 (by omega) (by omega) with hx | ⟨p, -, hp, rfl, hx⟩
  · have hx : (decide (0 ≤ x) && decide (x ≤ 10)) = false := hx
    refine ⟨-1000001, h, zpf h 73 0 (.int 0), ?_, ?_, hJ.q h1 hB⟩
    · simp only [ze116, zi116_0, zi116_1, zi116_2, zi116_4, zi116_7, zi116_10, zi116_11, zi116_12, zi116_14, zi116_17, zi116_20, zi116_21, zi116_22, zi116_23, zi116_26, zi116_29, zi116_31, zi116_32, zi116_33, zi116_36, zi116_39, zi116_42 (sk := []), zcl1, zlow_0, zlow_1, zlow_2, zlow_3, zlow_4, zfree_0, zfree_i, zfree_r, zfree_n, zfree_d, zfree_f, zfree_s, if_true, if_false, Option.bind_some, Option.toList_some, Option.toList_none, List.cons_append, List.nil_append, List.set_cons_zero, List.set_cons_succ, Bool.false_eq_true, reduceIte, zsw_c, zsw_n, Nat.reduceAdd, sp_within, hx, zb_f, z00]
    · simp only [ze214, zi214_0, zi214_0n, zi214_1, zi214_2, zi214_5, zi214_6, zi214_7, zi214_8, zi214_11, zi214_14, zi214_17, zi214_18, zi214_19, zi214_20, zi214_23, zi214_26, zi214_29, zi214_30, zi214_31, zi214_32, zi214_33, zi214_34, zi214_37, zi214_40, zi214_42, zi214_43, zi214_44, zi214_45, zi214_48, zi214_51, zi214_54 (sk := []), zcl1, zlow_0, zlow_1, zlow_2, zlow_3, zlow_4, zfree_0, zfree_i, zfree_r, zfree_n, zfree_d, zfree_f, zfree_s, if_true, if_false, Option.bind_some, Option.toList_some, Option.toList_none, List.cons_append, List.nil_append, List.set_cons_zero, List.set_cons_succ, Bool.false_eq_true, reduceIte, zsw_c, zsw_n, Nat.reduceAdd, w0, i1, hx, zb_f, z00]
  have hx : (decide (0 ≤ nI p) && decide (nI p ≤ 10)) = true := hx
  rcases zbt_or z 0 9 (by omega) (by omega) with hz | ⟨nn, -, hn, rfl, hz⟩
  · have hz : (decide (0 ≤ z) && decide (z ≤ 9)) = false := hz
    refine ⟨-1000001, h, zpf h 73 0 (.int 0), ?_, ?_, hJ.q h1 hB⟩
    · simp only [ze116, zi116_0, zi116_1, zi116_2, zi116_4, zi116_7, zi116_10, zi116_11, zi116_12, zi116_14, zi116_17, zi116_20, zi116_21, zi116_22, zi116_23, zi116_26, zi116_29, zi116_31, zi116_32, zi116_33, zi116_36, zi116_39, zi116_42 (sk := []), zcl1, zlow_0, zlow_1, zlow_2, zlow_3, zlow_4, zfree_0, zfree_i, zfree_r, zfree_n, zfree_d, zfree_f, zfree_s, if_true, if_false, Option.bind_some, Option.toList_some, Option.toList_none, List.cons_append, List.nil_append, List.set_cons_zero, List.set_cons_succ, Bool.false_eq_true, reduceIte, zsw_c, zsw_n, Nat.reduceAdd, sp_within, hx, zb_t, z10, hz, zb_f, z00]
    · simp only [ze214, zi214_0, zi214_0n, zi214_1, zi214_2, zi214_5, zi214_6, zi214_7, zi214_8, zi214_11, zi214_14, zi214_17, zi214_18, zi214_19, zi214_20, zi214_23, zi214_26, zi214_29, zi214_30, zi214_31, zi214_32, zi214_33, zi214_34, zi214_37, zi214_40, zi214_42, zi214_43, zi214_44, zi214_45, zi214_48, zi214_51, zi214_54 (sk := []), zcl1, zlow_0, zlow_1, zlow_2, zlow_3, zlow_4, zfree_0, zfree_i, zfree_r, zfree_n, zfree_d, zfree_f, zfree_s, if_true, if_false, Option.bind_some, Option.toList_some, Option.toList_none, List.cons_append, List.nil_append, List.set_cons_zero, List.set_cons_succ, Bool.false_eq_true, reduceIte, zsw_c, zsw_n, Nat.reduceAdd, w0, i1, hx, zb_t, z10, i2, hz, zb_f, z00]
  have hz : (decide (0 ≤ nI nn) && decide (nI nn ≤ 9)) = true := hz
  rcases zbt_or u 0 nn (by omega) (by omega) with hu | ⟨k, -, hk, rfl, hu⟩
  · have hu : (decide (0 ≤ u) && decide (u ≤ nI nn)) = false := hu
    refine ⟨-1000001, h, zpf h 73 0 (.int 0), ?_, ?_, hJ.q h1 hB⟩
    · simp only [ze116, zi116_0, zi116_1, zi116_2, zi116_4, zi116_7, zi116_10, zi116_11, zi116_12, zi116_14, zi116_17, zi116_20, zi116_21, zi116_22, zi116_23, zi116_26, zi116_29, zi116_31, zi116_32, zi116_33, zi116_36, zi116_39, zi116_42 (sk := []), zcl1, zlow_0, zlow_1, zlow_2, zlow_3, zlow_4, zfree_0, zfree_i, zfree_r, zfree_n, zfree_d, zfree_f, zfree_s, if_true, if_false, Option.bind_some, Option.toList_some, Option.toList_none, List.cons_append, List.nil_append, List.set_cons_zero, List.set_cons_succ, Bool.false_eq_true, reduceIte, zsw_c, zsw_n, Nat.reduceAdd, sp_within, hx, zb_t, z10, hz, hu, zb_f, z00]
    · simp only [ze214, zi214_0, zi214_0n, zi214_1, zi214_2, zi214_5, zi214_6, zi214_7, zi214_8, zi214_11, zi214_14, zi214_17, zi214_18, zi214_19, zi214_20, zi214_23, zi214_26, zi214_29, zi214_30, zi214_31, zi214_32, zi214_33, zi214_34, zi214_37, zi214_40, zi214_42, zi214_43, zi214_44, zi214_45, zi214_48, zi214_51, zi214_54 (sk := []), zcl1, zlow_0, zlow_1, zlow_2, zlow_3, zlow_4, zfree_0, zfree_i, zfree_r, zfree_n, zfree_d, zfree_f, zfree_s, if_true, if_false, Option.bind_some, Option.toList_some, Option.toList_none, List.cons_append, List.nil_append, List.set_cons_zero, List.set_cons_succ, Bool.false_eq_true, reduceIte, zsw_c, zsw_n, Nat.reduceAdd, w0, i1, hx, zb_t, z10, i2, hz, i3, hu, zb_f, z00]
  have hu : (decide (0 ≤ nI k) && decide (nI k ≤ nI nn)) = true := hu
  rcases zbt_or w 0 1 (by omega) (by omega) with hw | ⟨j, -, hj, rfl, hw⟩
  · have hw : (decide (0 ≤ w) && decide (w ≤ 1)) = false := hw
    refine ⟨-1000001, h, zpf h 73 0 (.int 0), ?_, ?_, hJ.q h1 hB⟩
    · simp only [ze116, zi116_0, zi116_1, zi116_2, zi116_4, zi116_7, zi116_10, zi116_11, zi116_12, zi116_14, zi116_17, zi116_20, zi116_21, zi116_22, zi116_23, zi116_26, zi116_29, zi116_31, zi116_32, zi116_33, zi116_36, zi116_39, zi116_42 (sk := []), zcl1, zlow_0, zlow_1, zlow_2, zlow_3, zlow_4, zfree_0, zfree_i, zfree_r, zfree_n, zfree_d, zfree_f, zfree_s, if_true, if_false, Option.bind_some, Option.toList_some, Option.toList_none, List.cons_append, List.nil_append, List.set_cons_zero, List.set_cons_succ, Bool.false_eq_true, reduceIte, zsw_c, zsw_n, Nat.reduceAdd, sp_within, hx, zb_t, z10, hz, hu, hw, zb_f, z00]
    · simp only [ze214, zi214_0, zi214_0n, zi214_1, zi214_2, zi214_5, zi214_6, zi214_7, zi214_8, zi214_11, zi214_14, zi214_17, zi214_18, zi214_19, zi214_20, zi214_23, zi214_26, zi214_29, zi214_30, zi214_31, zi214_32, zi214_33, zi214_34, zi214_37, zi214_40, zi214_42, zi214_43, zi214_44, zi214_45, zi214_48, zi214_51, zi214_54 (sk := []), zcl1, zlow_0, zlow_1, zlow_2, zlow_3, zlow_4, zfree_0, zfree_i, zfree_r, zfree_n, zfree_d, zfree_f, zfree_s, if_true, if_false, Option.bind_some, Option.toList_some, Option.toList_none, List.cons_append, List.nil_append, List.set_cons_zero, List.set_cons_succ, Bool.false_eq_true, reduceIte, zsw_c, zsw_n, Nat.reduceAdd, w0, i1, hx, zb_t, z10, i2, hz, i3, hu, i4, hw, zb_f, z00]
  have hw : (decide (0 ≤ nI j) && decide (nI j ≤ 1)) = true := hw
  have hA := seN_lt p (by omega) nn (by omega) k (by omega)
  have hT := zten nn (by omega)
  have hE := euN_ok p (by omega) nn (by omega) k (by omega)
  have eC := sneC (E := E) (h := h) (wh := nI j) hp hn hk (nn + 1) 0 (.retAddr 0) (.retAddr 0) (.retAddr 0) (by omega)
  generalize hAA : seN p nn k (nn + 1) = A at *
  have hB0 : 0 < 10 ^ nn := Nat.pow_pos (by omega)
  have hG0 : 0 < Nat.gcd (10 ^ nn) A := Nat.gcd_pos_of_pos_left _ hB0
  have hGl : Nat.gcd (10 ^ nn) A ≤ 10 ^ nn := Nat.gcd_le_left _ hB0
  have eG : Nat.gcd A (10 ^ nn) = Nat.gcd (10 ^ nn) A := Nat.gcd_comm _ _
  have sp := sp_power (E := E) (h := h) (b := 10) (t := nn) (by omega)
  have sp : zcall zpp E 144 [.long 10, .int (nI nn)] h = some (some (.long (lN (10 ^ nn))), h) := sp
  have sd := sp_common (E := E) (h := h) (10 ^ nn) A (by omega) (by omega)
  rw [hE] at sd
  have eC0 : zcall zpp E 116 [.ref 0, .int (nI p), .int (nI nn), .int (nI k), .int (nI j)] h = some (some (.long (lN (if j = 0 then A / Nat.gcd (10 ^ nn) A else 10 ^ nn / Nat.gcd (10 ^ nn) A))), h) := by
    have e0 : zcall zpp E 116 [.ref 0, .int (nI p), .int (nI nn), .int (nI k), .int (nI j)] h = zrun zpp E 116 (52, [.ref 0, .int (nI p), .int (nI nn), .int (nI k), .int (nI j), .long (lN (wyN nn 0)), .retAddr 0, .long (lN (seN p nn k 0)), .retAddr 0, .int (nI 0), .retAddr 0, .retAddr 0, .retAddr 0], [], h) := by
      conv =>
        lhs
        simp only [ze116, zi116_0, zi116_1, zi116_2, zi116_4, zi116_7, zi116_10, zi116_11, zi116_12, zi116_14, zi116_17, zi116_20, zi116_21, zi116_22, zi116_23, zi116_26, zi116_29, zi116_31, zi116_32, zi116_33, zi116_36, zcl1, zlow_0, zlow_1, zlow_2, zlow_3, zlow_4, zfree_0, zfree_i, zfree_r, zfree_n, zfree_d, zfree_f, zfree_s, if_true, if_false, Option.bind_some, Option.toList_some, Option.toList_none, List.cons_append, List.nil_append, List.set_cons_zero, List.set_cons_succ, Bool.false_eq_true, reduceIte, zsw_c, zsw_n, Nat.reduceAdd, sp_within, hx, zb_t, z10, hz, hu, hw]
      conv =>
        lhs
        simp only [zi116_43, zi116_44, zi116_46, zi116_47, zi116_49, zi116_50, zcl1, zlow_0, zlow_1, zlow_2, zlow_3, zlow_4, zfree_0, zfree_i, zfree_r, zfree_n, zfree_d, zfree_f, zfree_s, if_true, if_false, Option.bind_some, Option.toList_some, Option.toList_none, List.cons_append, List.nil_append, List.set_cons_zero, List.set_cons_succ, Bool.false_eq_true, reduceIte, zsw_c, zsw_n, Nat.reduceAdd, List.length_cons, List.length_nil, Nat.reduceLT, decide_true, Bool.and_true, Bool.and_self]
      rfl
    rw [e0, eC]
    obtain rfl | rfl : j = 0 ∨ j = 1 := by omega
    · simp only [zi116_114, zi116_117, zi116_118, zi116_121, zi116_123, zi116_125, zi116_127, zi116_130, zi116_132, zi116_134, zi116_135, zi116_136, zi116_139, zi116_142 (sk := []), zi116_143, zi116_145, zi116_148, zi116_150, zi116_152, zi116_153, zi116_156, zi116_158, zi116_160, zi116_161 (sk := []), zcl1, zlow_0, zlow_1, zlow_2, zlow_3, zlow_4, zfree_0, zfree_i, zfree_r, zfree_n, zfree_d, zfree_f, zfree_s, if_true, if_false, Option.bind_some, Option.toList_some, Option.toList_none, List.cons_append, List.nil_append, List.set_cons_zero, List.set_cons_succ, Bool.false_eq_true, reduceIte, zsw_c, zsw_n, Nat.reduceAdd, List.length_cons, List.length_nil, Nat.reduceLT, decide_true, Bool.and_true, Bool.and_self, sp, sd, zcmp0 (show Nat.gcd (10 ^ nn) A < 2 ^ 63 by omega), eq_false (show ¬ Nat.gcd (10 ^ nn) A = 0 by omega), show (nI 0 = 0) = True by decide, zlNn hG0 (show Nat.gcd (10 ^ nn) A < 2 ^ 63 by omega), pk_lDiv (show A < 2 ^ 63 by omega) hG0 (show Nat.gcd (10 ^ nn) A < 2 ^ 63 by omega)]
    · simp only [zi116_114, zi116_117, zi116_118, zi116_121, zi116_123, zi116_125, zi116_127, zi116_130, zi116_132, zi116_134, zi116_135, zi116_136, zi116_139, zi116_142 (sk := []), zi116_143, zi116_145, zi116_148, zi116_150, zi116_152, zi116_153, zi116_156, zi116_158, zi116_160, zi116_161 (sk := []), zcl1, zlow_0, zlow_1, zlow_2, zlow_3, zlow_4, zfree_0, zfree_i, zfree_r, zfree_n, zfree_d, zfree_f, zfree_s, if_true, if_false, Option.bind_some, Option.toList_some, Option.toList_none, List.cons_append, List.nil_append, List.set_cons_zero, List.set_cons_succ, Bool.false_eq_true, reduceIte, zsw_c, zsw_n, Nat.reduceAdd, List.length_cons, List.length_nil, Nat.reduceLT, decide_true, Bool.and_true, Bool.and_self, sp, sd, zcmp0 (show Nat.gcd (10 ^ nn) A < 2 ^ 63 by omega), eq_false (show ¬ Nat.gcd (10 ^ nn) A = 0 by omega), show (nI 1 = 0) = False by decide, zlNn hG0 (show Nat.gcd (10 ^ nn) A < 2 ^ 63 by omega), pk_lDiv (show 10 ^ nn < 2 ^ 63 by omega) hG0 (show Nat.gcd (10 ^ nn) A < 2 ^ 63 by omega), Nat.one_ne_zero]
  refine ⟨_, h, zpf h 73 0 (.int 0), eC0, ?_, hJ.q h1 hB⟩
  obtain ⟨u12, u13, u14, eM⟩ := sneM (E := E) (h := zpf h 73 0 (.int 0)) (wh := nI j) (B := lN (10 ^ 0)) hp hn hk (nn + 1) 0 (.retAddr 0) (.retAddr 0) (.retAddr 0) (.retAddr 0) (.retAddr 0) (by omega)
  rw [hAA] at eM
  have eBl := sneB (E := E) (h := zpf h 73 0 (.int 0)) (p := p) (k := k) (wh := nI j) (A := lN A) (w5 := .long (lN (wyN nn (nn + 1)))) hn nn 0 u12 u13 u14 (.retAddr 0) (.retAddr 0) (by omega)
  obtain ⟨t15, t16, eGg⟩ := sneG (E := E) (h := zpf h 73 0 (.int 0)) (p := p) (nn := nn) (k := k) (wh := nI j) (A := lN A) (B := lN (10 ^ nn)) (w5 := .long (lN (wyN nn (nn + 1)))) (10 ^ nn) A (.retAddr 0) (.retAddr 0) (by omega) (by omega)
  have e0 : zcall zpp E 214 [.ref 73, .int (nI p), .int (nI nn), .int (nI k), .int (nI j)] h = zrun zpp E 214 (67, [.ref 73, .int (nI p), .int (nI nn), .int (nI k), .int (nI j), .long (lN (wyN nn 0)), .retAddr 0, .long (lN (seN p nn k 0)), .retAddr 0, .long (lN (10 ^ 0)), .retAddr 0, .int (nI 0), .retAddr 0, .retAddr 0, .retAddr 0, .retAddr 0, .retAddr 0], [], zpf h 73 0 (.int 0)) := by
    conv =>
      lhs
      simp only [ze214, zi214_0, zi214_0n, zi214_1, zi214_2, zi214_5, zi214_6, zi214_7, zi214_8, zi214_11, zi214_14, zi214_17, zi214_18, zi214_19, zi214_20, zi214_23, zi214_26, zi214_29, zi214_30, zi214_31, zi214_32, zi214_33, zi214_34, zi214_37, zi214_40, zi214_42, zi214_43, zi214_44, zi214_45, zi214_48, zcl1, zlow_0, zlow_1, zlow_2, zlow_3, zlow_4, zfree_0, zfree_i, zfree_r, zfree_n, zfree_d, zfree_f, zfree_s, if_true, if_false, Option.bind_some, Option.toList_some, Option.toList_none, List.cons_append, List.nil_append, List.set_cons_zero, List.set_cons_succ, Bool.false_eq_true, reduceIte, zsw_c, zsw_n, Nat.reduceAdd, w0, i1, hx, zb_t, z10, i2, hz, i3, hu, i4, hw]
    conv =>
      lhs
      simp only [zi214_55, zi214_56, zi214_58, zi214_59, zi214_61, zi214_62, zi214_64, zi214_65, zcl1, zlow_0, zlow_1, zlow_2, zlow_3, zlow_4, zfree_0, zfree_i, zfree_r, zfree_n, zfree_d, zfree_f, zfree_s, if_true, if_false, Option.bind_some, Option.toList_some, Option.toList_none, List.cons_append, List.nil_append, List.set_cons_zero, List.set_cons_succ, Bool.false_eq_true, reduceIte, zsw_c, zsw_n, Nat.reduceAdd, List.length_cons, List.length_nil, Nat.reduceLT, decide_true, Bool.and_true, Bool.and_self]
    rfl
  have e1 : zrun zpp E 214 (154, [.ref 73, .int (nI p), .int (nI nn), .int (nI k), .int (nI j), .long (lN (wyN nn (nn + 1))), .retAddr 0, .long (lN A), .retAddr 0, .long (lN (10 ^ 0)), .retAddr 0, .int (nI (nn + 1)), u12, u13, u14, .retAddr 0, .retAddr 0], [], zpf h 73 0 (.int 0)) = zrun zpp E 214 (157, [.ref 73, .int (nI p), .int (nI nn), .int (nI k), .int (nI j), .long (lN (wyN nn (nn + 1))), .retAddr 0, .long (lN A), .retAddr 0, .long (lN (10 ^ 0)), .retAddr 0, .int (nI 0), u12, u13, u14, .retAddr 0, .retAddr 0], [], zpf h 73 0 (.int 0)) := by
    conv =>
      lhs
      simp only [zi214_154, zi214_155, zcl1, zlow_0, zlow_1, zlow_2, zlow_3, zlow_4, zfree_0, zfree_i, zfree_r, zfree_n, zfree_d, zfree_f, zfree_s, if_true, if_false, Option.bind_some, Option.toList_some, Option.toList_none, List.cons_append, List.nil_append, List.set_cons_zero, List.set_cons_succ, Bool.false_eq_true, reduceIte, zsw_c, zsw_n, Nat.reduceAdd]
    rfl
  have e2 : zrun zpp E 214 (177, [.ref 73, .int (nI p), .int (nI nn), .int (nI k), .int (nI j), .long (lN (wyN nn (nn + 1))), .retAddr 0, .long (lN A), .retAddr 0, .long (lN (10 ^ nn)), .retAddr 0, .int (nI nn), u12, u13, u14, .retAddr 0, .retAddr 0], [], zpf h 73 0 (.int 0)) = zrun zpp E 214 (185, [.ref 73, .int (nI p), .int (nI nn), .int (nI k), .int (nI j), .long (lN (wyN nn (nn + 1))), .retAddr 0, .long (lN A), .retAddr 0, .long (lN (10 ^ nn)), .retAddr 0, .long (lN A), .retAddr 0, .long (lN (10 ^ nn)), .retAddr 0, .retAddr 0, .retAddr 0], [], zpf h 73 0 (.int 0)) := by
    conv =>
      lhs
      simp only [zi214_177, zi214_179, zi214_181, zi214_183, zcl1, zlow_0, zlow_1, zlow_2, zlow_3, zlow_4, zfree_0, zfree_i, zfree_r, zfree_n, zfree_d, zfree_f, zfree_s, if_true, if_false, Option.bind_some, Option.toList_some, Option.toList_none, List.cons_append, List.nil_append, List.set_cons_zero, List.set_cons_succ, Bool.false_eq_true, reduceIte, zsw_c, zsw_n, Nat.reduceAdd, List.length_cons, List.length_nil, Nat.reduceLT, decide_true, Bool.and_true, Bool.and_self]
  rw [e0, eM, e1, eBl, e2, eGg, eG]
  obtain rfl | rfl : j = 0 ∨ j = 1 := by omega
  · simp only [zi214_210, zi214_212, zi214_215, zi214_217, zi214_220, zi214_222, zi214_224, zi214_225 (sk := []), zcl1, zlow_0, zlow_1, zlow_2, zlow_3, zlow_4, zfree_0, zfree_i, zfree_r, zfree_n, zfree_d, zfree_f, zfree_s, if_true, if_false, Option.bind_some, Option.toList_some, Option.toList_none, List.cons_append, List.nil_append, List.set_cons_zero, List.set_cons_succ, Bool.false_eq_true, reduceIte, zsw_c, zsw_n, Nat.reduceAdd, show (nI 0 = 0) = True by decide, zlNn hG0 (show Nat.gcd (10 ^ nn) A < 2 ^ 63 by omega), pk_lDiv (show A < 2 ^ 63 by omega) hG0 (show Nat.gcd (10 ^ nn) A < 2 ^ 63 by omega)]
  · simp only [zi214_210, zi214_212, zi214_215, zi214_217, zi214_220, zi214_222, zi214_224, zi214_225 (sk := []), zcl1, zlow_0, zlow_1, zlow_2, zlow_3, zlow_4, zfree_0, zfree_i, zfree_r, zfree_n, zfree_d, zfree_f, zfree_s, if_true, if_false, Option.bind_some, Option.toList_some, Option.toList_none, List.cons_append, List.nil_append, List.set_cons_zero, List.set_cons_succ, Bool.false_eq_true, reduceIte, zsw_c, zsw_n, Nat.reduceAdd, show (nI 1 = 0) = False by decide, zlNn hG0 (show Nat.gcd (10 ^ nn) A < 2 ^ 63 by omega), pk_lDiv (show 10 ^ nn < 2 ^ 63 by omega) hG0 (show Nat.gcd (10 ^ nn) A < 2 ^ 63 by omega), Nat.one_ne_zero]
end SEEN
