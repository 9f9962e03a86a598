/-! A YARD IS BUILT: bikes, holds, lifters -/
section YATS2
variable {h : zH} {y : Nat} {F : Nat → Int32} {A : Nat → Nat → Int32} {cr : Nat → Option Nat}
theorem YAt.r6 (hY : YAt h y F A cr) : zfld [9] h y 6 = some (.ref (y + 1)) := hY.r 6 (by omega)
theorem YAt.r7 (hY : YAt h y F A cr) : zfld [9] h y 7 = some (.ref (y + 2)) := hY.r 7 (by omega)
theorem YAt.r8 (hY : YAt h y F A cr) : zfld [9] h y 8 = some (.ref (y + 3)) := hY.r 8 (by omega)
theorem YAt.r9 (hY : YAt h y F A cr) : zfld [9] h y 9 = some (.ref (y + 4)) := hY.r 9 (by omega)
theorem YAt.r10 (hY : YAt h y F A cr) : zfld [9] h y 10 = some (.ref (y + 5)) := hY.r 10 (by omega)
theorem YAt.r11 (hY : YAt h y F A cr) : zfld [9] h y 11 = some (.ref (y + 6)) := hY.r 11 (by omega)
theorem YAt.r12 (hY : YAt h y F A cr) : zfld [9] h y 12 = some (.ref (y + 7)) := hY.r 12 (by omega)
theorem YAt.r13 (hY : YAt h y F A cr) : zfld [9] h y 13 = some (.ref (y + 8)) := hY.r 13 (by omega)
theorem YAt.a0 (hY : YAt h y F A cr) {i : Nat} (hi : i < 8) : zarr 0 h (y + 1) (nI i) = some (A 0 i) := hY.a 0 (by omega) hi
theorem YAt.s0 (hY : YAt h y F A cr) {i : Nat} {x : Int32} (hi : i < 8) : zars 0 h (y + 1) (nI i) x = some (zpa h (y + 1) i x) := hY.s 0 (by omega) hi
theorem YAt.pa0 (hY : YAt h y F A cr) (i : Nat) (v : Int32) : YAt (zpa h (y + 1) i v) y F (fun j' => if j' = 0 then upd (A 0) i v else A j') cr := hY.pa 0 (by omega)
theorem YAt.a1 (hY : YAt h y F A cr) {i : Nat} (hi : i < 8) : zarr 0 h (y + 2) (nI i) = some (A 1 i) := hY.a 1 (by omega) hi
theorem YAt.s1 (hY : YAt h y F A cr) {i : Nat} {x : Int32} (hi : i < 8) : zars 0 h (y + 2) (nI i) x = some (zpa h (y + 2) i x) := hY.s 1 (by omega) hi
theorem YAt.pa1 (hY : YAt h y F A cr) (i : Nat) (v : Int32) : YAt (zpa h (y + 2) i v) y F (fun j' => if j' = 1 then upd (A 1) i v else A j') cr := hY.pa 1 (by omega)
theorem YAt.a2 (hY : YAt h y F A cr) {i : Nat} (hi : i < 8) : zarr 0 h (y + 3) (nI i) = some (A 2 i) := hY.a 2 (by omega) hi
theorem YAt.s2 (hY : YAt h y F A cr) {i : Nat} {x : Int32} (hi : i < 8) : zars 0 h (y + 3) (nI i) x = some (zpa h (y + 3) i x) := hY.s 2 (by omega) hi
theorem YAt.pa2 (hY : YAt h y F A cr) (i : Nat) (v : Int32) : YAt (zpa h (y + 3) i v) y F (fun j' => if j' = 2 then upd (A 2) i v else A j') cr := hY.pa 2 (by omega)
theorem YAt.a3 (hY : YAt h y F A cr) {i : Nat} (hi : i < 8) : zarr 0 h (y + 4) (nI i) = some (A 3 i) := hY.a 3 (by omega) hi
theorem YAt.s3 (hY : YAt h y F A cr) {i : Nat} {x : Int32} (hi : i < 8) : zars 0 h (y + 4) (nI i) x = some (zpa h (y + 4) i x) := hY.s 3 (by omega) hi
theorem YAt.pa3 (hY : YAt h y F A cr) (i : Nat) (v : Int32) : YAt (zpa h (y + 4) i v) y F (fun j' => if j' = 3 then upd (A 3) i v else A j') cr := hY.pa 3 (by omega)
theorem YAt.a4 (hY : YAt h y F A cr) {i : Nat} (hi : i < 10) : zarr 0 h (y + 5) (nI i) = some (A 4 i) := hY.a 4 (by omega) hi
theorem YAt.s4 (hY : YAt h y F A cr) {i : Nat} {x : Int32} (hi : i < 10) : zars 0 h (y + 5) (nI i) x = some (zpa h (y + 5) i x) := hY.s 4 (by omega) hi
theorem YAt.pa4 (hY : YAt h y F A cr) (i : Nat) (v : Int32) : YAt (zpa h (y + 5) i v) y F (fun j' => if j' = 4 then upd (A 4) i v else A j') cr := hY.pa 4 (by omega)
theorem YAt.a5 (hY : YAt h y F A cr) {i : Nat} (hi : i < 10) : zarr 0 h (y + 6) (nI i) = some (A 5 i) := hY.a 5 (by omega) hi
theorem YAt.s5 (hY : YAt h y F A cr) {i : Nat} {x : Int32} (hi : i < 10) : zars 0 h (y + 6) (nI i) x = some (zpa h (y + 6) i x) := hY.s 5 (by omega) hi
theorem YAt.pa5 (hY : YAt h y F A cr) (i : Nat) (v : Int32) : YAt (zpa h (y + 6) i v) y F (fun j' => if j' = 5 then upd (A 5) i v else A j') cr := hY.pa 5 (by omega)
theorem YAt.a6 (hY : YAt h y F A cr) {i : Nat} (hi : i < 10) : zarr 0 h (y + 7) (nI i) = some (A 6 i) := hY.a 6 (by omega) hi
theorem YAt.s6 (hY : YAt h y F A cr) {i : Nat} {x : Int32} (hi : i < 10) : zars 0 h (y + 7) (nI i) x = some (zpa h (y + 7) i x) := hY.s 6 (by omega) hi
theorem YAt.pa6 (hY : YAt h y F A cr) (i : Nat) (v : Int32) : YAt (zpa h (y + 7) i v) y F (fun j' => if j' = 6 then upd (A 6) i v else A j') cr := hY.pa 6 (by omega)
theorem yP0 {x : Nat} : (fun a => a = y) x → yP y x := fun e => by cases e; exact ⟨Nat.le_refl _, by omega⟩
theorem yPj (j : Nat) (hj : j ≤ 8) {x : Nat} : (fun a => a = y + j) x → yP y x := fun e => by cases e; exact ⟨by omega, by omega⟩
theorem zsm_y {f : Nat} {v : Value} : zsm (yP y) h (zpf h y f v) := zsm_pf.wk (fun _ e => yP0 e)
theorem zsm_yj {j i : Nat} {v : Int32} (hj : j ≤ 8) : zsm (yP y) h (zpa h (y + j) i v) := zsm_pa.wk (fun _ e => yPj j hj e)
end YATS2
def bikN (N : Nat → Nat) (w g : Nat) : Nat → Nat := fun i => if i = 3 then N 3 + 1 else if i = 8 then zput (N 8) (N 3) else if i = 9 + 2 * N 3 then w else if i = 10 + 2 * N 3 then g else N i
theorem bikN_s {N : Nat → Nat} {w g i : Nat} (hi : i < 9) (h3 : i ≠ 3) (h8 : i ≠ 8) : bikN N w g i = N i := by
  unfold bikN
  rw [if_neg h3, if_neg h8, if_neg (by omega), if_neg (by omega)]
theorem bikN_w {N : Nat → Nat} {w g b : Nat} : bikN N w g (9 + 2 * b) = if b = N 3 then w else N (9 + 2 * b) := by
  unfold bikN
  rw [if_neg (by omega), if_neg (by omega)]
  by_cases hq : b = N 3
  · rw [if_pos (by omega), if_pos hq]
  · rw [if_neg (by omega), if_neg (by omega), if_neg hq]
theorem bikN_g {N : Nat → Nat} {w g b : Nat} : bikN N w g (10 + 2 * b) = if b = N 3 then g else N (10 + 2 * b) := by
  unfold bikN
  rw [if_neg (by omega), if_neg (by omega), if_neg (by omega)]
  by_cases hq : b = N 3
  · rw [if_pos (by omega), if_pos hq]
  · rw [if_neg (by omega), if_neg hq]
theorem sp_addBike {E : zE} {h : zH} {y w g : Nat} {N : Nat → Nat} (hY : YN h y N) (hn : N 3 < 8) (h4 : N 4 = 0) (h5 : N 5 = 0) (hd : N 8 < 256) : ∃ h', zcall zpp E 66 [.ref y, .int (nI w), .int (nI g)] h = some (none, h') ∧ zsm (yP y) h h' ∧ YN h' y (bikN N w g) := by
  obtain ⟨A, cr, Y0, b1, -, -⟩ := hY
  have Y1 := Y0.pa0 (N 3) (nI w)
  have Y2 := Y1.pa1 (N 3) (nI g)
  have Y3 := Y2.pa2 (N 3) 0
  have Y4 := Y3.pa3 (N 3) 0
  have Y5 := Y4.pf 15 (v := nI (zput (N 8) (N 3))) (by omega)
  have Y6 := Y5.pf 3 (v := nI (N 3 + 1)) (by omega)
  have f0 : zfld [9] _ y 3 = some (.int (nI (N 3))) := Y0.i 3 (by omega)
  have f1 : zfld [9] _ y 3 = some (.int (nI (N 3))) := Y1.i 3 (by omega)
  have f2 : zfld [9] _ y 3 = some (.int (nI (N 3))) := Y2.i 3 (by omega)
  have f3 : zfld [9] _ y 3 = some (.int (nI (N 3))) := Y3.i 3 (by omega)
  have f4 : zfld [9] _ y 3 = some (.int (nI (N 3))) := Y4.i 3 (by omega)
  have f5 : zfld [9] _ y 3 = some (.int (nI (N 3))) := Y5.i 3 (by omega)
  have d4 : zfld [9] _ y 15 = some (.int (nI (N 8))) := Y4.i 15 (by omega)
  have n1 : nI (N 3) + 1 = nI (N 3 + 1) := nI_add (N 3) 1
  have hl := lsF_c (N := N) (N' := bikN N w g)
  refine ⟨zpf (zpf (zpa (zpa (zpa (zpa h (y + 1) (N 3) (nI w)) (y + 2) (N 3) (nI g)) (y + 3) (N 3) 0) (y + 4) (N 3) 0) y 15 (.int (nI (zput (N 8) (N 3))))) y 3 (.int (nI (N 3 + 1))), (by
    simp only [ze66, zi66_0, zi66_0n, zi66_1, zi66_4, zi66_4n, zi66_5, zi66_8, zi66_9, zi66_10, zi66_10n, zi66_11, zi66_14, zi66_14n, zi66_15, zi66_18, zi66_19, zi66_20, zi66_20n, zi66_21, zi66_24, zi66_24n, zi66_25, zi66_28, zi66_29, zi66_30, zi66_30n, zi66_31, zi66_34, zi66_34n, zi66_35, zi66_38, zi66_39, zi66_40, zi66_40n, zi66_41, zi66_41i, zi66_42, zi66_45, zi66_46, zi66_46n, zi66_47, zi66_50, zi66_51, zi66_52, zi66_55, zi66_55n, zi66_56, zi66_56i, zi66_57, zi66_60, zi66_61, zi66_62, zi66_65 (sk := []), zcl1, zlow_0, zlow_1, zlow_2, zlow_3, zlow_4, zfree_0, zfree_i, zfree_r, zfree_n, zfree_d, zfree_f, zfree_s, if_true, if_false, Option.bind_some, Option.toList_some, Option.toList_none, List.cons_append, List.nil_append, List.set_cons_zero, List.set_cons_succ, Bool.false_eq_true, reduceIte, zsw_c, zsw_n, Nat.reduceAdd, Y0.r6, f0, Y0.s0 hn, Y1.r7, f1, Y1.s1 hn, Y2.r8, f2, Y2.s2 hn, Y3.r9, f3, Y3.s3 hn, d4, f4, (zput_k _ hd _ hn).1, Y4.w 15 (by omega), f5, n1, Y5.w 3 (by omega)]
    ), ((((((zsm_yj (j := 1) (by omega)).tr (zsm_yj (j := 2) (by omega))).tr (zsm_yj (j := 3) (by omega))).tr (zsm_yj (j := 4) (by omega))).tr zsm_y).tr zsm_y), ?_⟩
  refine ⟨_, cr, Y6.ext (F' := yF (bikN N w g)) ?_, ?_, ?_, ?_⟩
  · intro k hk hq
    have : k = 0 ∨ k = 1 ∨ k = 2 ∨ k = 3 ∨ k = 4 ∨ k = 5 ∨ k = 14 ∨ k = 15 ∨ k = 16 ∨ k = 17 := by omega
    rcases this with rfl | rfl | rfl | rfl | rfl | rfl | rfl | rfl | rfl | rfl
    · show nI (N 0) = nI (bikN N w g 0); rw [bikN_s (by omega) (by omega) (by omega)]
    · show nI (N 1) = nI (bikN N w g 1); rw [bikN_s (by omega) (by omega) (by omega)]
    · show nI (N 2) = nI (bikN N w g 2); rw [bikN_s (by omega) (by omega) (by omega)]
    · rfl
    · show nI (N 4) = nI (bikN N w g 4); rw [bikN_s (by omega) (by omega) (by omega)]
    · show nI (N 5) = nI (bikN N w g 5); rw [bikN_s (by omega) (by omega) (by omega)]
    · show nI (lsF N (N 4)) = nI (lsF (bikN N w g) (bikN N w g 4)); rw [bikN_s (by omega) (by omega) (by omega), h4]; rfl
    · rfl
    · show nI (N 6) = nI (bikN N w g 6); rw [bikN_s (by omega) (by omega) (by omega)]
    · show nI (N 7) = nI (bikN N w g 7); rw [bikN_s (by omega) (by omega) (by omega)]
  · intro b hb
    have e3 : bikN N w g 3 = N 3 + 1 := rfl
    have e4 : bikN N w g 4 = 0 := (bikN_s (by omega) (by omega) (by omega)).trans h4
    rw [e3] at hb
    rw [e4, bikN_w, bikN_g]
    by_cases hq : b = N 3
    · subst hq
      refine ⟨?_, ?_, ?_, ?_⟩
      · simp [upd]
      · simp [upd]
      · simp [upd]; rfl
      · simp [upd]; rfl
    · obtain ⟨q1, q2, q3, q4⟩ := b1 b (by omega)
      rw [h4] at q3 q4
      refine ⟨?_, ?_, ?_, ?_⟩
      · simpa [upd, hq] using q1
      · simpa [upd, hq] using q2
      · simpa [upd, hq, abF] using q3
      · simpa [upd, hq, caF] using q4
  · intro k hk
    rw [bikN_s (by omega) (by omega) (by omega), h4] at hk
    omega
  · intro k hk
    rw [bikN_s (by omega) (by omega) (by omega), h5] at hk
    omega
