/-! THE BASE OF REASONING ABOUT RUNS -/
theorem zlow_0 : zlow [] = true := rfl
theorem zcat_le (v : Value) : v.category ≤ 2 := by cases v <;> simp [Value.category]
theorem zlow_1 {v : Value} : zlow [v] = true := by have := zcat_le v; simp [zlow]; omega
theorem zlow_2 {v w : Value} : zlow [v, w] = true := by have := zcat_le v; have := zcat_le w; simp [zlow]; omega
theorem zlow_3 {v w u : Value} : zlow [v, w, u] = true := by have := zcat_le v; have := zcat_le w; have := zcat_le u; simp [zlow]; omega
theorem zlow_4 {v w u t : Value} : zlow [v, w, u, t] = true := by have := zcat_le v; have := zcat_le w; have := zcat_le u; have := zcat_le t; simp [zlow]; omega
theorem zfree_0 {v : Value} {ls : List Value} : zfree (v :: ls) 0 = true := by simp [zfree]
theorem zfree_i {x : Int32} {v : Value} {ls : List Value} : zfree (.int x :: v :: ls) 1 = true := by simp [zfree, Value.category]
theorem zfree_r {x : Nat} {v : Value} {ls : List Value} : zfree (.ref x :: v :: ls) 1 = true := by simp [zfree, Value.category]
theorem zfree_n {v : Value} {ls : List Value} : zfree (.null :: v :: ls) 1 = true := by simp [zfree, Value.category]
theorem zfree_d {x : Nat} {v : Value} {ls : List Value} : zfree (.retAddr x :: v :: ls) 1 = true := by simp [zfree, Value.category]
theorem zfree_f {x : UInt32} {v : Value} {ls : List Value} : zfree (.float x :: v :: ls) 1 = true := by simp [zfree, Value.category]
theorem zfree_s {v w : Value} {ls : List Value} {i : Nat} : zfree (v :: w :: ls) (i + 2) = zfree (w :: ls) (i + 1) := by
  unfold zfree
  simp only [List.length_cons, List.getElem?_cons_succ]
  congr 1
  simp
/-- a boolean as the machine has it -/
def zb (c : Bool) : Int32 := if c then 1 else 0
theorem zb_t : zb true = 1 := rfl
theorem zb_f : zb false = 0 := rfl
theorem zb_0 {c : Bool} : (zb c = 0) = (c = false) := by cases c <;> decide
theorem zb_1 {c : Bool} : (zb c = 1) = (c = true) := by cases c <;> decide
theorem zb_ret {α : Type} {c : Bool} {f : Int32 → Option α} : (if zb c = 0 then f 0 else if zb c = 1 then f 1 else none) = f (zb c) := by cases c <;> rfl
theorem sp_within {E : zE} {x a b : Int32} {h : zH} : zcall zpp E 126 [.int x, .int a, .int b] h = some (some (.int (zb (decide (a ≤ x) && decide (x ≤ b)))), h) := by
  simp only [ze126, zi126_0, zi126_1, zi126_2, zi126_5, zi126_6, zi126_7, zi126_10, zi126_11, zi126_14, zi126_15 (sk := []), zcl1, zlow_0, zlow_1, zlow_2, zlow_3, zlow_4, zfree_0, zfree_i, zfree_r, zfree_n, zfree_d, zfree_f, zfree_s, if_true, if_false, Option.bind_some, Option.toList_some, Option.toList_none, List.cons_append, List.nil_append, List.set_cons_zero, List.set_cons_succ, Bool.false_eq_true, reduceIte, zsw_c, zsw_n, Nat.reduceAdd]
  by_cases h1 : x < a
  · simp [h1, Int32.not_le.mpr h1, zb]
  · by_cases h2 : b < x
    · simp [h1, h2, Int32.not_le.mpr h2, zb]
    · simp [h1, h2, Int32.not_lt.mp h1, Int32.not_lt.mp h2, zb]
