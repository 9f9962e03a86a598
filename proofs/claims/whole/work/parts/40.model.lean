/-! THE MODEL's CELLS -/
def mref (k : Nat) : Option Nat := match k with
  | 2 => some 74
  | 3 => some 75
  | 4 => some 76
  | 5 => some 77
  | 6 => some 78
  | 7 => some 79
  | 9 => some 80
  | 18 => some 81
  | 19 => some 82
  | 20 => some 83
  | 21 => some 84
  | 22 => some 85
  | 23 => some 86
  | _ => none
def mval (s : Nat → Int32) (k : Nat) : Value := match mref k with
  | some a => .ref a
  | none => .int (s k)
def MdO (h : zH) (s : Nat → Int32) : Prop := zcls h 73 = some 11 ∧ ∀ k, k < 25 → zfld [11] h 73 k = some (mval s k)
section MDS
variable {h : zH} {s : Nat → Int32}
theorem MdO.r2 (hM : MdO h s) : zfld [11] h 73 2 = some (.ref 74) := hM.2 2 (by decide)
theorem MdO.r3 (hM : MdO h s) : zfld [11] h 73 3 = some (.ref 75) := hM.2 3 (by decide)
theorem MdO.r4 (hM : MdO h s) : zfld [11] h 73 4 = some (.ref 76) := hM.2 4 (by decide)
theorem MdO.r5 (hM : MdO h s) : zfld [11] h 73 5 = some (.ref 77) := hM.2 5 (by decide)
theorem MdO.r6 (hM : MdO h s) : zfld [11] h 73 6 = some (.ref 78) := hM.2 6 (by decide)
theorem MdO.r7 (hM : MdO h s) : zfld [11] h 73 7 = some (.ref 79) := hM.2 7 (by decide)
theorem MdO.r9 (hM : MdO h s) : zfld [11] h 73 9 = some (.ref 80) := hM.2 9 (by decide)
theorem MdO.r18 (hM : MdO h s) : zfld [11] h 73 18 = some (.ref 81) := hM.2 18 (by decide)
theorem MdO.r19 (hM : MdO h s) : zfld [11] h 73 19 = some (.ref 82) := hM.2 19 (by decide)
theorem MdO.r20 (hM : MdO h s) : zfld [11] h 73 20 = some (.ref 83) := hM.2 20 (by decide)
theorem MdO.r21 (hM : MdO h s) : zfld [11] h 73 21 = some (.ref 84) := hM.2 21 (by decide)
theorem MdO.r22 (hM : MdO h s) : zfld [11] h 73 22 = some (.ref 85) := hM.2 22 (by decide)
theorem MdO.r23 (hM : MdO h s) : zfld [11] h 73 23 = some (.ref 86) := hM.2 23 (by decide)
theorem MdO.i (hM : MdO h s) (k : Nat) (hk : mref k = none) (hl : k < 25) : zfld [11] h 73 k = some (.int (s k)) := by
  rw [hM.2 k hl, mval, hk]
/-- an int field is written -/
theorem MdO.put (hM : MdO h s) (k : Nat) (hk : mref k = none) (hl : k < 25) (v : Int32) : MdO (zpf h 73 k (.int v)) (upd s k v) := by
  refine ⟨by rw [zcls_pf]; exact hM.1, fun j hj => ?_⟩
  by_cases hjk : k = j
  · subst hjk
    rw [zfld_same, hM.i k hk hl, mval, hk]
    simp [upd]
  · rw [zfld_f hjk, hM.2 j hj, mval, mval]
    have : upd s k v j = s j := by unfold upd; rw [if_neg (fun z => hjk z.symm)]
    rw [this]
theorem MdO.st (hM : MdO h s) (k : Nat) (hk : mref k = none) (hl : k < 25) (v : Int32) : zstf [11] 0 h 73 k (.int v) = some (zpf h 73 k (.int v)) := zstf_ok (hM.i k hk hl) zfits_i
end MDS
theorem ix_9 (b : Nat) : (9 : Int32) + 2 * nI b = nI (9 + 2 * b) := by
  rw [show (2 : Int32) * nI b = nI (2 * b) from pk_mul 2 b]
  exact nI_add 9 (2 * b)
theorem ix_65 (b : Nat) : (65 : Int32) + 2 * nI b = nI (65 + 2 * b) := by
  rw [show (2 : Int32) * nI b = nI (2 * b) from pk_mul 2 b]
  exact nI_add 65 (2 * b)
theorem ix_25 (b : Nat) : (25 : Int32) + 4 * nI b = nI (25 + 4 * b) := by
  rw [show (4 : Int32) * nI b = nI (4 * b) from pk_mul 4 b]
  exact nI_add 25 (4 * b)
theorem ix_p1 (b : Nat) : nI b + 1 = nI (b + 1) := nI_1 b
theorem ix_p2 (b : Nat) : nI b + 2 = nI (b + 2) := nI_add b 2
theorem ix_p3 (b : Nat) : nI b + 3 = nI (b + 3) := nI_add b 3
/-- the model's yard -/
def MY (h : zH) (N : Nat → Nat) : Prop := zrow 0 h 77 73 (fun i => nI (N i))
theorem MY.at {h : zH} {N : Nat → Nat} (hY : MY h N) {j k : Nat} (hj : j < 73) (e : j = k) : zarr 0 h 77 (nI j) = some (nI (N k)) := by
  subst e
  exact zarr_at hY hj (by decide)
theorem MY.c {h : zH} {N : Nat → Nat} (hY : MY h N) (j : Nat) (hj : j < 73) {x : Int32} (e : x = nI j) : zarr 0 h 77 x = some (nI (N j)) := by
  subst e
  exact zarr_at hY hj (by decide)
section MS1
variable {E : zE} {h : zH} {s : Nat → Int32} {N : Nat → Nat}
theorem sp_isThere (hM : MdO h s) (hY : MY h N) (h0 : N 0 ≤ 9) : zcall zpp E 172 [.ref 73] h = some (some (.int (zb (decide (0 < N 0)))), h) := by
  have e : (nI (N 0) ≤ 0) = (N 0 ≤ 0) := nI_leP (b := 0) (by omega) (by omega)
  simp only [ze172, zi172_0, zi172_0n, zi172_1, zi172_4, zi172_5, zi172_6, zi172_9, zi172_10, zi172_13, zi172_14 (sk := []), zcl1, zlow_0, zlow_1, zlow_2, zlow_3, zlow_4, zfree_0, zfree_i, zfree_r, zfree_n, zfree_d, zfree_f, zfree_s, if_true, if_false, Option.bind_some, Option.toList_some, Option.toList_none, List.cons_append, List.nil_append, List.set_cons_zero, List.set_cons_succ, Bool.false_eq_true, reduceIte, zsw_c, zsw_n, Nat.reduceAdd, hM.r5, hY.c 0 (by decide) (x := 0) rfl, e, z10, z00]
  by_cases hq : N 0 ≤ 0
  · simp [hq, show ¬ 0 < N 0 by omega, zb]
  · simp [hq, show 0 < N 0 by omega, zb]
theorem zL0 : (0 : Int64) = (0 : Int32).toInt64 := by decide
theorem sp_isBikeM {x : Int32} {u : Int64} (hM : MdO h s) (hY : MY h N) (hu : u = x.toInt64) : zcall zpp E 173 [.ref 73, .long u] h = some (some (.int (zb (zlt x (N 3)))), h) := by
  simp only [ze173, zi173_0, zi173_1, zi173_2, zi173_2n, zi173_3, zi173_6, zi173_7, zi173_8, zi173_9, zi173_10, zi173_11, zi173_14 (sk := []), zcl1, zlow_0, zlow_1, zlow_2, zlow_3, zlow_4, zfree_0, zfree_i, zfree_r, zfree_n, zfree_d, zfree_f, zfree_s, if_true, if_false, Option.bind_some, Option.toList_some, Option.toList_none, List.cons_append, List.nil_append, List.set_cons_zero, List.set_cons_succ, Bool.false_eq_true, reduceIte, zsw_c, zsw_n, Nat.reduceAdd, hM.r5, hY.c 3 (by decide) (x := 3) rfl, sp_inI hu zL0 rfl]
  exact zb_ret (f := fun v => some (some (Value.int v), h))
theorem sp_isLifterM {x : Int32} {u : Int64} (hM : MdO h s) (hY : MY h N) (hu : u = x.toInt64) : zcall zpp E 174 [.ref 73, .long u] h = some (some (.int (zb (zlt x (N 5)))), h) := by
  simp only [ze174, zi174_0, zi174_1, zi174_2, zi174_2n, zi174_3, zi174_6, zi174_7, zi174_8, zi174_9, zi174_10, zi174_11, zi174_14 (sk := []), zcl1, zlow_0, zlow_1, zlow_2, zlow_3, zlow_4, zfree_0, zfree_i, zfree_r, zfree_n, zfree_d, zfree_f, zfree_s, if_true, if_false, Option.bind_some, Option.toList_some, Option.toList_none, List.cons_append, List.nil_append, List.set_cons_zero, List.set_cons_succ, Bool.false_eq_true, reduceIte, zsw_c, zsw_n, Nat.reduceAdd, hM.r5, hY.c 5 (by decide) (x := 5) rfl, sp_inI hu zL0 rfl]
  exact zb_ret (f := fun v => some (some (Value.int v), h))
theorem sp_isHoldM {x : Int32} (hM : MdO h s) (hY : MY h N) : zcall zpp E 175 [.ref 73, .int x] h = some (some (.int (zb (zlt x (N 4)))), h) := by
  simp only [ze175, zi175_0, zi175_1, zi175_2, zi175_3, zi175_3n, zi175_4, zi175_7, zi175_8, zi175_9, zi175_10, zi175_11, zi175_12, zi175_15 (sk := []), zcl1, zlow_0, zlow_1, zlow_2, zlow_3, zlow_4, zfree_0, zfree_i, zfree_r, zfree_n, zfree_d, zfree_f, zfree_s, if_true, if_false, Option.bind_some, Option.toList_some, Option.toList_none, List.cons_append, List.nil_append, List.set_cons_zero, List.set_cons_succ, Bool.false_eq_true, reduceIte, zsw_c, zsw_n, Nat.reduceAdd, hM.r5, hY.c 4 (by decide) (x := 4) rfl, sp_inI rfl zL0 rfl]
  exact zb_ret (f := fun v => some (some (Value.int v), h))
theorem sp_weightOf {b : Nat} (hM : MdO h s) (hY : MY h N) (hb : b < 8) : zcall zpp E 177 [.ref 73, .int (nI b)] h = some (some (.int (nI (N (9 + 2 * b)))), h) := by
  simp only [ze177, zi177_0, zi177_0n, zi177_1, zi177_4, zi177_6, zi177_7, zi177_8, zi177_9, zi177_10, zi177_11 (sk := []), zcl1, zlow_0, zlow_1, zlow_2, zlow_3, zlow_4, zfree_0, zfree_i, zfree_r, zfree_n, zfree_d, zfree_f, zfree_s, if_true, if_false, Option.bind_some, Option.toList_some, Option.toList_none, List.cons_append, List.nil_append, List.set_cons_zero, List.set_cons_succ, Bool.false_eq_true, reduceIte, zsw_c, zsw_n, Nat.reduceAdd, hM.r5, ix_9, hY.at (show 9 + 2 * b < 73 by omega) rfl]
theorem sp_gapOf {b : Nat} (hM : MdO h s) (hY : MY h N) (hb : b < 8) : zcall zpp E 178 [.ref 73, .int (nI b)] h = some (some (.int (nI (N (10 + 2 * b)))), h) := by
  simp only [ze178, zi178_0, zi178_0n, zi178_1, zi178_4, zi178_6, zi178_7, zi178_8, zi178_9, zi178_10, zi178_11, zi178_12, zi178_13 (sk := []), zcl1, zlow_0, zlow_1, zlow_2, zlow_3, zlow_4, zfree_0, zfree_i, zfree_r, zfree_n, zfree_d, zfree_f, zfree_s, if_true, if_false, Option.bind_some, Option.toList_some, Option.toList_none, List.cons_append, List.nil_append, List.set_cons_zero, List.set_cons_succ, Bool.false_eq_true, reduceIte, zsw_c, zsw_n, Nat.reduceAdd, hM.r5, ix_9, ix_p1, hY.at (show 9 + 2 * b + 1 < 73 by omega) (show 9 + 2 * b + 1 = 10 + 2 * b by omega)]
theorem sp_kindOf {b : Nat} (hM : MdO h s) (hY : MY h N) (hb : b < 4) : zcall zpp E 179 [.ref 73, .int (nI b)] h = some (some (.int (nI (N (65 + 2 * b)))), h) := by
  simp only [ze179, zi179_0, zi179_0n, zi179_1, zi179_4, zi179_6, zi179_7, zi179_8, zi179_9, zi179_10, zi179_11 (sk := []), zcl1, zlow_0, zlow_1, zlow_2, zlow_3, zlow_4, zfree_0, zfree_i, zfree_r, zfree_n, zfree_d, zfree_f, zfree_s, if_true, if_false, Option.bind_some, Option.toList_some, Option.toList_none, List.cons_append, List.nil_append, List.set_cons_zero, List.set_cons_succ, Bool.false_eq_true, reduceIte, zsw_c, zsw_n, Nat.reduceAdd, hM.r5, ix_65, hY.at (show 65 + 2 * b < 73 by omega) rfl]
theorem sp_forceOf {b : Nat} (hM : MdO h s) (hY : MY h N) (hb : b < 4) : zcall zpp E 180 [.ref 73, .int (nI b)] h = some (some (.int (nI (N (66 + 2 * b)))), h) := by
  simp only [ze180, zi180_0, zi180_0n, zi180_1, zi180_4, zi180_6, zi180_7, zi180_8, zi180_9, zi180_10, zi180_11, zi180_12, zi180_13 (sk := []), zcl1, zlow_0, zlow_1, zlow_2, zlow_3, zlow_4, zfree_0, zfree_i, zfree_r, zfree_n, zfree_d, zfree_f, zfree_s, if_true, if_false, Option.bind_some, Option.toList_some, Option.toList_none, List.cons_append, List.nil_append, List.set_cons_zero, List.set_cons_succ, Bool.false_eq_true, reduceIte, zsw_c, zsw_n, Nat.reduceAdd, hM.r5, ix_65, ix_p1, hY.at (show 65 + 2 * b + 1 < 73 by omega) (show 65 + 2 * b + 1 = 66 + 2 * b by omega)]
theorem zor_0 {x : Int32} : x ||| 0 = x := Int32.or_zero
theorem sp_above {b : Nat} (hM : MdO h s) (hY : MY h N) (hW : WF N) (hb : b < 8) : zcall zpp E 183 [.ref 73, .int (nI b)] h = some (some (.int (nI (abF N b (N 4)))), h) := by
  have h4 := hW.2.2.2.2.1
  have h3 := hW.2.2.2.1.2
  have hh := hW.2.2.2.2.2.2.2.2.1
  have loop : ∀ (n k : Nat) (v4 : Value), k + n = N 4 → zrun zpp E 183 (4, [.ref 73, .int (nI b), .int (nI (abF N b k)), .int (nI k), v4], [], h) = some (some (.int (nI (abF N b (N 4)))), h) := by
    intro n
    induction n with
    | zero =>
      intro k v4 hk
      simp only [zi183_4, zi183_5, zi183_5n, zi183_6, zi183_9, zi183_10, zcl1, zlow_0, zlow_1, zlow_2, zlow_3, zlow_4, zfree_0, zfree_i, zfree_r, zfree_n, zfree_d, zfree_f, zfree_s, if_true, if_false, Option.bind_some, Option.toList_some, Option.toList_none, List.cons_append, List.nil_append, List.set_cons_zero, List.set_cons_succ, Bool.false_eq_true, reduceIte, zsw_c, zsw_n, Nat.reduceAdd, hM.r5, hY.c 4 (by decide) (x := 4) rfl]
      rw [zi183_11, if_pos (by rw [nI_leP (by omega) (by omega)]; omega)]
      simp only [zi183_69, zi183_70 (sk := []), zcl1, zlow_0, zlow_1, zlow_2, zlow_3, zlow_4, zfree_0, zfree_i, zfree_r, zfree_n, zfree_d, zfree_f, zfree_s, if_true, if_false, Option.bind_some, Option.toList_some, Option.toList_none, List.cons_append, List.nil_append, List.set_cons_zero, List.set_cons_succ, Bool.false_eq_true, reduceIte, zsw_c, zsw_n, Nat.reduceAdd]
      rw [show k = N 4 by omega]
    | succ n ih =>
      intro k v4 hk
      obtain ⟨q1, q2, q3, q4, q5⟩ := hh k (by omega)
      have hlt : abF N b k < 256 := abF_lt (fun j hj => by have := (hh j (by omega)).2.1; omega)
      simp only [zi183_4, zi183_5, zi183_5n, zi183_6, zi183_9, zi183_10, zcl1, zlow_0, zlow_1, zlow_2, zlow_3, zlow_4, zfree_0, zfree_i, zfree_r, zfree_n, zfree_d, zfree_f, zfree_s, if_true, if_false, Option.bind_some, Option.toList_some, Option.toList_none, List.cons_append, List.nil_append, List.set_cons_zero, List.set_cons_succ, Bool.false_eq_true, reduceIte, zsw_c, zsw_n, Nat.reduceAdd, hM.r5, hY.c 4 (by decide) (x := 4) rfl]
      rw [zi183_11, if_neg (by rw [nI_leP (by omega) (by omega)]; omega)]
      simp only [zi183_14, zi183_16, zi183_17, zi183_18, zi183_19, zi183_20, zi183_22, zi183_23, zi183_23n, zi183_24, zi183_27, zi183_29, zi183_30, zi183_33, zi183_33n, zi183_34, zi183_37, zi183_39, zi183_40, zi183_41, zi183_42, zi183_43, zi183_46, zi183_47, zi183_47n, zi183_48, zi183_51, zi183_53, zi183_54, zi183_55, zi183_56, zi183_57, zi183_60, zi183_61, zi183_62, zi183_63, zi183_66, zcl1, zlow_0, zlow_1, zlow_2, zlow_3, zlow_4, zfree_0, zfree_i, zfree_r, zfree_n, zfree_d, zfree_f, zfree_s, if_true, if_false, Option.bind_some, Option.toList_some, Option.toList_none, List.cons_append, List.nil_append, List.set_cons_zero, List.set_cons_succ, Bool.false_eq_true, reduceIte, zsw_c, zsw_n, Nat.reduceAdd, hM.r5, ix_25, hY.at (show 25 + 4 * k < 73 by omega) rfl, ix_p1, ix_p2, hY.at (show 25 + 4 * k + 2 < 73 by omega) (show 25 + 4 * k + 2 = 27 + 4 * k by omega), hY.at (show 25 + 4 * k + 1 < 73 by omega) (show 25 + 4 * k + 1 = 26 + 4 * k by omega), nI_z8 _ (show N (25 + 4 * k) < 256 by omega), nI_eqP (show N (27 + 4 * k) < 2 ^ 31 by omega) (show b < 2 ^ 31 by omega), (zput_k _ hlt _ (show N (26 + 4 * k) < 8 by omega)).1, zor_0]
      have ih1 := ih (k + 1) (.int (nI (25 + 4 * k))) (by omega)
      rw [show abF N b (k + 1) = (if N (25 + 4 * k) = 0 ∧ N (27 + 4 * k) = b then zput (abF N b k) (N (26 + 4 * k)) else abF N b k) from rfl] at ih1
      by_cases c1 : N (25 + 4 * k) = 0
      · by_cases c2 : N (27 + 4 * k) = b
        · rw [if_pos ⟨c1, c2⟩] at ih1
          rw [if_pos c1, if_pos c2]
          exact ih1
        · rw [if_neg (fun z => c2 z.2)] at ih1
          rw [if_pos c1, if_neg c2]
          exact ih1
      · rw [if_neg (fun z => c1 z.1)] at ih1
        rw [if_neg c1]
        exact ih1
  simp only [ze183, zi183_0, zi183_1, zi183_2, zi183_3, zcl1, zlow_0, zlow_1, zlow_2, zlow_3, zlow_4, zfree_0, zfree_i, zfree_r, zfree_n, zfree_d, zfree_f, zfree_s, if_true, if_false, Option.bind_some, Option.toList_some, Option.toList_none, List.cons_append, List.nil_append, List.set_cons_zero, List.set_cons_succ, Bool.false_eq_true, reduceIte, zsw_c, zsw_n, Nat.reduceAdd]
  exact loop (N 4) 0 _ (by omega)
end MS1
