/-! THE COMPONENT's YARD: what changes it -/
section YATS
variable {h : zH} {y : Nat} {F : Nat → Int32} {A : Nat → Nat → Int32} {cr : Nat → Option Nat}
theorem YAt.cls (hY : YAt h y F A cr) : zcls h y = some 9 := hY.1
theorem YAt.i (hY : YAt h y F A cr) (k : Nat) (hk : k < 18 ∧ ¬ (6 ≤ k ∧ k < 14)) : zfld [9] h y k = some (.int (F k)) := by
  rw [hY.2.1 k hk.1, if_neg hk.2]
theorem YAt.r (hY : YAt h y F A cr) (k : Nat) (hk : 6 ≤ k ∧ k < 14) : zfld [9] h y k = some (.ref (y + (k - 5))) := by
  rw [hY.2.1 k (by omega), if_pos hk]
theorem YAt.row (hY : YAt h y F A cr) (j : Nat) (hj : j < 7) : zrow 0 h (y + (j + 1)) (if j < 4 then 8 else 10) (A j) := by
  split
  · exact hY.2.2.1 j (by assumption)
  · exact hY.2.2.2.1 j (by omega) hj
theorem YAt.a (hY : YAt h y F A cr) (j : Nat) {i : Nat} (hj : j < 7) (hi : i < if j < 4 then 8 else 10) : zarr 0 h (y + (j + 1)) (nI i) = some (A j i) := zarr_at (hY.row j hj) hi (by split <;> omega)
theorem YAt.s (hY : YAt h y F A cr) (j : Nat) {i : Nat} {x : Int32} (hj : j < 7) (hi : i < if j < 4 then 8 else 10) : zars 0 h (y + (j + 1)) (nI i) x = some (zpa h (y + (j + 1)) i x) := zars_at (hY.row j hj) hi (by split <;> omega) zfits_i
theorem YAt.w (hY : YAt h y F A cr) (k : Nat) {v : Int32} (hk : k < 18 ∧ ¬ (6 ≤ k ∧ k < 14)) : zstf [9] 0 h y k (.int v) = some (zpf h y k (.int v)) := zstf_ok (hY.i k hk) zfits_i
theorem YAt.pf (hY : YAt h y F A cr) (k : Nat) {v : Int32} (hk : k < 18 ∧ ¬ (6 ≤ k ∧ k < 14)) : YAt (zpf h y k (.int v)) y (upd F k v) A cr := by
  obtain ⟨g1, g2, g3, g4, g, g5, g6⟩ := hY
  refine ⟨zcls_pf.trans g1, fun i hi => ?_, fun j hj => zrow_pf (g3 j hj), fun j hj hj2 => zrow_pf (g4 j hj hj2), g, (zpf_o (by omega)).trans g5, g6⟩
  by_cases hq : k = i
  · subst hq
    rw [zfld_same, g2 k hi, if_neg hk.2, if_neg hk.2]
    simp [upd]
  · rw [zfld_f hq, g2 i hi]
    simp [upd, show i ≠ k from fun z => hq z.symm]
theorem YAt.pa (hY : YAt h y F A cr) (j : Nat) {i : Nat} {v : Int32} (hj : j < 7) : YAt (zpa h (y + (j + 1)) i v) y F (fun j' => if j' = j then upd (A j) i v else A j') cr := by
  obtain ⟨g1, g2, g3, g4, g, g5, g6⟩ := hY
  refine ⟨zcls_pa.trans g1, fun k hk => zfld_pa.trans (g2 k hk), fun j' hj' => ?_, fun j' h4 hj' => ?_, g, (zpa_o (by omega)).trans g5, g6⟩
  · by_cases hq : j' = j
    · subst hq
      simp only [if_true]
      exact zrow_pa (g3 j' hj')
    · simp only [if_neg hq]
      exact zrow_o (by omega) (g3 j' hj')
  · by_cases hq : j' = j
    · subst hq
      simp only [if_true]
      exact zrow_pa (g4 j' h4 hj')
    · simp only [if_neg hq]
      exact zrow_o (by omega) (g4 j' h4 hj')
theorem YAt.keep {h' : zH} (hY : YAt h y F A cr) (ha : ∀ a, y ≤ a → a ≤ y + 8 → h'[a]? = h[a]?) : YAt h' y F A cr := by
  obtain ⟨g1, g2, g3, g4, g, g5, g6⟩ := hY
  have e := ha y (by omega) (by omega)
  exact ⟨(zcls_c e).trans g1, fun k hk => (zfld_c e).trans (g2 k hk), fun j hj => zrow_c (ha _ (by omega) (by omega)) (g3 j hj), fun j h4 hj => zrow_c (ha _ (by omega) (by omega)) (g4 j h4 hj), g, (ha _ (by omega) (by omega)).trans g5, g6⟩
theorem YAt.ext {F' : Nat → Int32} (hY : YAt h y F A cr) (e : ∀ k, k < 18 → ¬ (6 ≤ k ∧ k < 14) → F k = F' k) : YAt h y F' A cr := by
  obtain ⟨g1, g2, g3⟩ := hY
  refine ⟨g1, fun k hk => ?_, g3⟩
  rw [g2 k hk]
  by_cases hq : 6 ≤ k ∧ k < 14
  · rw [if_pos hq, if_pos hq]
  · rw [if_neg hq, if_neg hq, e k hk hq]
end YATS
/-- where a yard's cells are -/
def yP (y a : Nat) : Prop := y ≤ a ∧ a ≤ y + 8
theorem sp_fallsAnewNo {E : zE} {h : zH} {y b : Nat} {N : Nat → Nat} (hW : WF N) (hY : YN h y N) (hb : b < N 3) (hd : (N 8).testBit b = true) : zcall zpp E 82 [.ref y, .int (nI b)] h = some (some (.int 0), h) := by
  have h8 : N 3 ≤ 8 := hW.2.2.2.1.2
  simp only [ze82, zi82_0, zi82_0n, zi82_1, zi82_4, zi82_5, zi82_8, zi82_11, zi82_12 (sk := []), zi82_13, zi82_13n, zi82_14, zi82_14i, zi82_15, zi82_18, zi82_19, zi82_20, zi82_21, zi82_22, zi82_25, zi82_25n, zi82_26, zi82_26i, zi82_27, zi82_30, zi82_31, zi82_32, zi82_35, zi82_36 (sk := []), zcl1, zlow_0, zlow_1, zlow_2, zlow_3, zlow_4, zfree_0, zfree_i, zfree_r, zfree_n, zfree_d, zfree_f, zfree_s, if_true, if_false, Option.bind_some, Option.toList_some, Option.toList_none, List.cons_append, List.nil_append, List.set_cons_zero, List.set_cons_succ, Bool.false_eq_true, reduceIte, zsw_c, zsw_n, Nat.reduceAdd, hY.f15, sp_has8 hW.d8 (show b < 8 by omega), hd, zb_t, z10]
theorem sp_fallsAnew {E : zE} {h : zH} {y b : Nat} {N : Nat → Nat} (hW : WF N) (hY : YN h y N) (hy : y < 87) (hb : b < N 3) (hd : (N 8).testBit b = false) : ∃ h', zcall zpp E 82 [.ref y, .int (nI b)] h = some (some (.int 1), h') ∧ YN h' y (fallN N b) ∧ zsm (fun a => a = y) h h' := by
  have h8 : N 3 ≤ 8 := hW.2.2.2.1.2
  have e15 := fun v => zstf_ok (ty := 0) (v := .int v) hY.f15 zfits_i
  have f17 : ∀ v, zfld [9] (zpf h y 15 v) y 17 = some (.int (nI (N 7))) := fun v => by rw [zfld_f (by decide)]; exact hY.f17
  have e17 := fun v w => zstf_ok (ty := 0) (v := .int w) (f17 v) zfits_i
  have n1 : nI (N 7) + 1 = nI (N 7 + 1) := nI_add (N 7) 1
  refine ⟨zpf (zpf h y 15 (.int (nI (fallN N b 8)))) y 17 (.int (nI (fallN N b 7))), ?_, ?_, ?_⟩
  · simp only [ze82, zi82_0, zi82_0n, zi82_1, zi82_4, zi82_5, zi82_8, zi82_11, zi82_12 (sk := []), zi82_13, zi82_13n, zi82_14, zi82_14i, zi82_15, zi82_18, zi82_19, zi82_20, zi82_21, zi82_22, zi82_25, zi82_25n, zi82_26, zi82_26i, zi82_27, zi82_30, zi82_31, zi82_32, zi82_35, zi82_36 (sk := []), zcl1, zlow_0, zlow_1, zlow_2, zlow_3, zlow_4, zfree_0, zfree_i, zfree_r, zfree_n, zfree_d, zfree_f, zfree_s, if_true, if_false, Option.bind_some, Option.toList_some, Option.toList_none, List.cons_append, List.nil_append, List.set_cons_zero, List.set_cons_succ, Bool.false_eq_true, reduceIte, zsw_c, zsw_n, Nat.reduceAdd, hY.f15, sp_has8 hW.d8 (show b < 8 by omega), hd, zb_f, z00, (zput_k _ hW.d8 b (by omega)).1, e15, f17, n1, e17]
    rfl
  · refine hY.mov ?_ (fun k hk hq => ?_) (fun k h1 h2 => ?_) (fun a h1 h2 => ?_) (fun a h1 c h2 => ?_) (fun i h6 h7 h8 => by simp [fallN, h7, h8])
    · rw [zcls_pf, zcls_pf]; exact hY.cls
    · by_cases k17 : k = 17
      · subst k17; rw [zfld_same, f17]; rfl
      · rw [zfld_f (fun z => k17 z.symm)]
        by_cases k15 : k = 15
        · subst k15; rw [zfld_same, hY.f15]; rfl
        · rw [zfld_f (fun z => k15 z.symm), hY.i k (by omega)]
          have e4 : (fallN N b) 4 = N 4 := rfl
          have els : lsF (fallN N b) (N 4) = lsF N (N 4) := lsF_c (fun i hi => by simp [fallN, show i ≠ 7 by omega, show i ≠ 8 by omega]) _
          unfold yF
          have : k < 6 ∨ k = 14 ∨ k = 16 := by omega
          rcases this with hk6 | rfl | rfl
          · rw [if_pos hk6, if_pos hk6]
            simp [fallN, show k ≠ 7 by omega, show k ≠ 8 by omega]
          · simp only [show ¬ 14 < 6 by omega, if_false, if_true, e4, els]
          · rfl
    · rw [zfld_f (by omega), zfld_f (by omega)]
    · rw [zpf_o (by omega), zpf_o (by omega)]
    · rw [zpf_o (by omega), zpf_o (by omega)]; exact h2
  · exact zsm_pf.tr zsm_pf
/-- cleared: nothing is in it -/
def clrN (N : Nat → Nat) : Nat → Nat := fun i => if 3 ≤ i ∧ i ≤ 8 then 0 else N i
theorem sp_clear {E : zE} {h : zH} {y : Nat} {F : Nat → Int32} {A : Nat → Nat → Int32} {cr : Nat → Option Nat} (hY : YAt h y F A cr) : ∃ h', zcall zpp E 65 [.ref y] h = some (none, h') ∧ zsm (fun a => a = y) h h' ∧ YAt h' y (fun k => if k < 3 then F k else 0) A cr := by
  have Y1 := hY.pf 3 (v := 0) (by omega)
  have Y2 := Y1.pf 4 (v := 0) (by omega)
  have Y3 := Y2.pf 5 (v := 0) (by omega)
  have Y4 := Y3.pf 14 (v := 0) (by omega)
  have Y5 := Y4.pf 15 (v := 0) (by omega)
  have Y6 := Y5.pf 16 (v := 0) (by omega)
  have Y7 := Y6.pf 17 (v := 0) (by omega)
  exact ⟨_, (by
    simp only [ze65, zi65_0, zi65_0n, zi65_1, zi65_2, zi65_5, zi65_5n, zi65_6, zi65_7, zi65_10, zi65_10n, zi65_11, zi65_12, zi65_15, zi65_15n, zi65_16, zi65_17, zi65_20, zi65_20n, zi65_21, zi65_22, zi65_25, zi65_25n, zi65_26, zi65_27, zi65_30, zi65_30n, zi65_31, zi65_32, zi65_35 (sk := []), zcl1, zlow_0, zlow_1, zlow_2, zlow_3, zlow_4, zfree_0, zfree_i, zfree_r, zfree_n, zfree_d, zfree_f, zfree_s, if_true, if_false, Option.bind_some, Option.toList_some, Option.toList_none, List.cons_append, List.nil_append, List.set_cons_zero, List.set_cons_succ, Bool.false_eq_true, reduceIte, zsw_c, zsw_n, Nat.reduceAdd, hY.w 3 (by omega), Y1.w 4 (by omega), Y2.w 5 (by omega), Y3.w 14 (by omega), Y4.w 15 (by omega), Y5.w 16 (by omega), Y6.w 17 (by omega)]), ((((((zsm_pf.tr zsm_pf).tr zsm_pf).tr zsm_pf).tr zsm_pf).tr zsm_pf).tr zsm_pf), Y7.ext (fun k hk hq => by
      have : k < 3 ∨ k = 3 ∨ k = 4 ∨ k = 5 ∨ k = 14 ∨ k = 15 ∨ k = 16 ∨ k = 17 := by omega
      rcases this with hk | rfl | rfl | rfl | rfl | rfl | rfl | rfl
      · simp [upd, hk, show k ≠ 3 by omega, show k ≠ 4 by omega, show k ≠ 5 by omega, show k ≠ 14 by omega, show k ≠ 15 by omega, show k ≠ 16 by omega, show k ≠ 17 by omega]
      all_goals simp [upd])⟩
theorem zhas10 : ∀ d, d < 1024 → ∀ b, b < 10 → (nI d >>> (nI b &&& 31)) &&& 1 = zb (d.testBit b) := by decide +kernel
theorem lsF_lt {N : Nat → Nat} : ∀ n, lsF N n < 2 ^ n
  | 0 => Nat.zero_lt_one
  | n + 1 => by
    have := lsF_lt (N := N) n
    unfold lsF
    rw [Nat.pow_succ]
    split <;> omega
theorem lsF_bit {N : Nat → Nat} : ∀ n k, k < n → (lsF N n).testBit k = decide (N (28 + 4 * k) = 1)
  | 0, k, h => by omega
  | n + 1, k, h => by
    have h1 := lsF_lt (N := N) n
    unfold lsF
    by_cases hq : N (28 + 4 * n) = 1
    · rw [if_pos hq, Nat.add_comm]
      by_cases hk : k = n
      · subst hk
        rw [Nat.testBit_two_pow_add_eq, Nat.testBit_lt_two_pow h1]
        simp [hq]
      · rw [Nat.testBit_two_pow_add_gt (by omega)]
        exact lsF_bit n k (by omega)
    · rw [if_neg hq, Nat.add_zero]
      by_cases hk : k = n
      · subst hk
        rw [Nat.testBit_lt_two_pow h1]
        simp [hq]
      · exact lsF_bit n k (by omega)
theorem lsF_lt10 {N : Nat → Nat} {n : Nat} (hn : n ≤ 10) : lsF N n < 1024 := Nat.lt_of_lt_of_le (lsF_lt n) (show 2 ^ n ≤ 2 ^ 10 from Nat.pow_le_pow_right (by decide) hn)
theorem sp_isLoose {E : zE} {h : zH} {y k : Nat} {N : Nat → Nat} (hY : YN h y N) (h10 : N 4 ≤ 10) (hk : k < N 4) : zcall zpp E 75 [.ref y, .int (nI k)] h = some (some (.int (zb (decide (N (28 + 4 * k) = 1)))), h) := by
  simp only [ze75, zi75_0, zi75_0n, zi75_1, zi75_4, zi75_5, zi75_8 (sk := []), zcl1, zlow_0, zlow_1, zlow_2, zlow_3, zlow_4, zfree_0, zfree_i, zfree_r, zfree_n, zfree_d, zfree_f, zfree_s, if_true, if_false, Option.bind_some, Option.toList_some, Option.toList_none, List.cons_append, List.nil_append, List.set_cons_zero, List.set_cons_succ, Bool.false_eq_true, reduceIte, zsw_c, zsw_n, Nat.reduceAdd, hY.f14, sp_has, zhas10 _ (lsF_lt10 h10) k (by omega), lsF_bit _ _ hk]
  cases decide (N (28 + 4 * k) = 1) <;> rfl
