/-! A HOLD IS ADDED -/
theorem abF_cn {N N' : Nat → Nat} {b : Nat} : ∀ n, (∀ i, 25 ≤ i → i < 25 + 4 * n → N' i = N i) → abF N' b n = abF N b n
  | 0, _ => rfl
  | n + 1, h => by
    unfold abF
    rw [abF_cn n (fun i h1 h2 => h i h1 (by omega)), h (25 + 4 * n) (by omega) (by omega), h (26 + 4 * n) (by omega) (by omega), h (27 + 4 * n) (by omega) (by omega)]
theorem caF_cn {N N' : Nat → Nat} {b : Nat} : ∀ n, (∀ i, 25 ≤ i → i < 25 + 4 * n → N' i = N i) → caF N' b n = caF N b n
  | 0, _ => rfl
  | n + 1, h => by
    unfold caF
    rw [caF_cn n (fun i h1 h2 => h i h1 (by omega)), h (25 + 4 * n) (by omega) (by omega), h (26 + 4 * n) (by omega) (by omega), h (27 + 4 * n) (by omega) (by omega), h (28 + 4 * n) (by omega) (by omega)]
theorem lsF_cn {N N' : Nat → Nat} : ∀ n, (∀ i, 25 ≤ i → i < 25 + 4 * n → N' i = N i) → lsF N' n = lsF N n
  | 0, _ => rfl
  | n + 1, h => by
    unfold lsF
    rw [lsF_cn n (fun i h1 h2 => h i h1 (by omega)), h (28 + 4 * n) (by omega) (by omega)]
def holN (N : Nat → Nat) (s a b : Nat) : Nat → Nat := fun i => if i = 4 then N 4 + 1 else if i = 25 + 4 * N 4 then s else if i = 26 + 4 * N 4 then a else if i = 27 + 4 * N 4 then b else if i = 28 + 4 * N 4 then 0 else N i
section HOL
variable {N : Nat → Nat} {s a b : Nat}
theorem hol_4 : holN N s a b 4 = N 4 + 1 := rfl
theorem hol_o {i : Nat} (h4 : i ≠ 4) (hi : i < 25 + 4 * N 4) : holN N s a b i = N i := by
  unfold holN
  rw [if_neg h4, if_neg (by omega), if_neg (by omega), if_neg (by omega), if_neg (by omega)]
theorem hol_l {i : Nat} (h4 : N 4 < 10) (hi : 65 ≤ i) : holN N s a b i = N i := by
  unfold holN
  rw [if_neg (by omega), if_neg (by omega), if_neg (by omega), if_neg (by omega), if_neg (by omega)]
theorem hol_s : holN N s a b (25 + 4 * N 4) = s := by
  unfold holN
  rw [if_neg (by omega), if_pos rfl]
theorem hol_a : holN N s a b (26 + 4 * N 4) = a := by
  unfold holN
  rw [if_neg (by omega), if_neg (by omega), if_pos rfl]
theorem hol_b : holN N s a b (27 + 4 * N 4) = b := by
  unfold holN
  rw [if_neg (by omega), if_neg (by omega), if_neg (by omega), if_pos rfl]
theorem hol_z : holN N s a b (28 + 4 * N 4) = 0 := by
  unfold holN
  rw [if_neg (by omega), if_neg (by omega), if_neg (by omega), if_neg (by omega), if_pos rfl]
theorem hol_ab {x : Nat} : abF (holN N s a b) x (N 4 + 1) = if s = 0 ∧ b = x then zput (abF N x (N 4)) a else abF N x (N 4) := by
  rw [abF, hol_s, hol_a, hol_b, abF_cn (N 4) (fun i h1 h2 => hol_o (by omega) h2)]
theorem hol_ca {x : Nat} : caF (holN N s a b) x (N 4 + 1) = if s = 1 ∧ a = x then zput (caF N x (N 4)) b else if s = 1 ∧ b = x then zput (caF N x (N 4)) a else caF N x (N 4) := by
  rw [caF, hol_s, hol_a, hol_b, hol_z, caF_cn (N 4) (fun i h1 h2 => hol_o (by omega) h2)]
  simp
theorem hol_ls : lsF (holN N s a b) (N 4 + 1) = lsF N (N 4) := by
  rw [lsF, hol_z, lsF_cn (N 4) (fun i h1 h2 => hol_o (by omega) h2)]
  simp
end HOL
/-- the yard with a hold more, from its cells -/
theorem YN_hol {h h' : zH} {y s a b : Nat} {N : Nat → Nat} {A A' : Nat → Nat → Int32} {F : Nat → Int32} {cr : Nat → Option Nat} (Y : YAt h' y F A' cr) (hF : ∀ k, k < 18 → ¬ (6 ≤ k ∧ k < 14) → F k = if k = 4 then nI (N 4 + 1) else yF N k) (hn : N 4 < 10) (hy : y < 70) (hz : zsm (yP y) h h')
    (b1 : ∀ b, b < N 3 → A 0 b = nI (N (9 + 2 * b)) ∧ A 1 b = nI (N (10 + 2 * b)) ∧ A 2 b = nI (abF N b (N 4)) ∧ A 3 b = nI (caF N b (N 4)))
    (b2 : ∀ k, k < N 4 → A 4 k = nI (N (25 + 4 * k)) ∧ A 5 k = nI (N (26 + 4 * k)) ∧ A 6 k = nI (N (27 + 4 * k)))
    (b3 : ∀ w, w < N 5 → ∃ q, cr w = some q ∧ LAt h q (N (65 + 2 * w)) w (N (66 + 2 * w)))
    (h3 : N 3 ≤ 8)
    (e0 : ∀ i, A' 0 i = A 0 i) (e1 : ∀ i, A' 1 i = A 1 i) (e4 : A' 4 = upd (A 4) (N 4) (nI s)) (e5 : A' 5 = upd (A 5) (N 4) (nI a)) (e6 : A' 6 = upd (A 6) (N 4) (nI b))
    (e2 : ∀ x, x < N 3 → A' 2 x = nI (abF (holN N s a b) x (N 4 + 1))) (e3 : ∀ x, x < N 3 → A' 3 x = nI (caF (holN N s a b) x (N 4 + 1))) : YN h' y (holN N s a b) := by
  refine ⟨A', cr, Y.ext (fun k hk hq => ?_), ?_, ?_, ?_⟩
  · rw [hF k hk hq]
    have : k = 0 ∨ k = 1 ∨ k = 2 ∨ k = 3 ∨ k = 4 ∨ k = 5 ∨ k = 14 ∨ k = 15 ∨ k = 16 ∨ k = 17 := by omega
    rcases this with rfl | rfl | rfl | rfl | rfl | rfl | rfl | rfl | rfl | rfl
    · show nI (N 0) = nI (holN N s a b 0); rw [hol_o (by omega) (by omega)]
    · show nI (N 1) = nI (holN N s a b 1); rw [hol_o (by omega) (by omega)]
    · show nI (N 2) = nI (holN N s a b 2); rw [hol_o (by omega) (by omega)]
    · show nI (N 3) = nI (holN N s a b 3); rw [hol_o (by omega) (by omega)]
    · rfl
    · show nI (N 5) = nI (holN N s a b 5); rw [hol_o (by omega) (by omega)]
    · show nI (lsF N (N 4)) = nI (lsF (holN N s a b) (N 4 + 1)); rw [hol_ls]
    · show nI (N 8) = nI (holN N s a b 8); rw [hol_o (by omega) (by omega)]
    · show nI (N 6) = nI (holN N s a b 6); rw [hol_o (by omega) (by omega)]
    · show nI (N 7) = nI (holN N s a b 7); rw [hol_o (by omega) (by omega)]
  · intro x hx
    rw [hol_o (by omega) (by omega)] at hx
    obtain ⟨q1, q2, -, -⟩ := b1 x hx
    rw [hol_4, hol_o (by omega) (by omega), hol_o (by omega) (by omega), e0, e1]
    exact ⟨q1, q2, e2 x hx, e3 x hx⟩
  · intro k hk
    rw [hol_4] at hk
    rw [e4, e5, e6]
    by_cases hq : k = N 4
    · subst hq
      rw [hol_s, hol_a, hol_b]
      simp [upd]
    · rw [hol_o (by omega) (by omega), hol_o (by omega) (by omega), hol_o (by omega) (by omega)]
      simpa [upd, hq] using b2 k (by omega)
  · intro w hw
    rw [hol_o (by omega) (by omega)] at hw
    rw [hol_l hn (by omega), hol_l hn (by omega)]
    obtain ⟨q, q1, q2⟩ := b3 w hw
    exact ⟨q, q1, LAt_c (fun a h1 c h2 => (hz.2 a (fun z => by have := z.2; omega)).trans h2) q2⟩
theorem sp_addHold {E : zE} {h : zH} {y s a b : Nat} {N : Nat → Nat} (hY : YN h y N) (hy : y < 70) (hn : N 4 < 10) (h3 : N 3 ≤ 8) (hs : s ≤ 1) (ha : a < N 3) (hb : b < N 3) (hab : a ≠ b) (hk : ∀ k, k < N 4 → N (26 + 4 * k) < 8 ∧ N (27 + 4 * k) < 8) : ∃ h', zcall zpp E 67 [.ref y, .int (nI s), .int (nI a), .int (nI b)] h = some (none, h') ∧ zsm (yP y) h h' ∧ YN h' y (holN N s a b) := by
  obtain ⟨A, cr, Y0, b1, b2, b3⟩ := hY
  have la : ∀ x, abF N x (N 4) < 256 := fun x => abF_lt (fun k hq => (hk k hq).1)
  have lc : ∀ x, caF N x (N 4) < 256 := fun x => caF_lt (fun k hq => hk k hq)
  have Y1 := Y0.pa4 (N 4) (nI s)
  have Y2 := Y1.pa5 (N 4) (nI a)
  have Y3 := Y2.pa6 (N 4) (nI b)
  have f0 : zfld [9] _ y 4 = some (.int (nI (N 4))) := Y0.i 4 (by omega)
  have f1 : zfld [9] _ y 4 = some (.int (nI (N 4))) := Y1.i 4 (by omega)
  have f2 : zfld [9] _ y 4 = some (.int (nI (N 4))) := Y2.i 4 (by omega)
  have n1 : nI (N 4) + 1 = nI (N 4 + 1) := nI_add (N 4) 1
  obtain rfl | rfl : s = 0 ∨ s = 1 := by omega
  · have Y4 := Y3.pa2 b (nI (zput (abF N b (N 4)) a))
    have f4 : zfld [9] _ y 4 = some (.int (nI (N 4))) := Y4.i 4 (by omega)
    have Y5 := Y4.pf 4 (v := nI (N 4 + 1)) (by omega)
    have c3 : zarr 0 _ (y + 3) (nI b) = some (nI (abF N b (N 4))) := (Y3.a2 (i := b) (by omega)).trans (congrArg some ((b1 b hb).2.2.1))
    have hz : zsm (yP y) h (zpf (zpa (zpa (zpa (zpa h (y + 5) (N 4) (nI 0)) (y + 6) (N 4) (nI a)) (y + 7) (N 4) (nI b)) (y + 3) b (nI (zput (abF N b (N 4)) a))) y 4 (.int (nI (N 4 + 1)))) := ((((zsm_yj (j := 5) (by omega)).tr (zsm_yj (j := 6) (by omega))).tr (zsm_yj (j := 7) (by omega))).tr (zsm_yj (j := 3) (by omega))).tr zsm_y
    have hne : (nI 0 = 1) = False := by decide
    refine ⟨_, ?_, hz, YN_hol Y5 (fun k hk hq => ?_) hn hy hz b1 b2 b3 h3 (fun i => rfl) (fun i => rfl) rfl rfl rfl (fun x hx => ?_) (fun x hx => ?_)⟩
    · simp only [ze67, zi67_0, zi67_0n, zi67_1, zi67_4, zi67_4n, zi67_5, zi67_8, zi67_9, zi67_10, zi67_10n, zi67_11, zi67_14, zi67_14n, zi67_15, zi67_18, zi67_19, zi67_20, zi67_20n, zi67_21, zi67_24, zi67_24n, zi67_25, zi67_28, zi67_29, zi67_30, zi67_31, zi67_32, zi67_35, zi67_35n, zi67_36, zi67_39, zi67_40, zi67_41, zi67_42, zi67_43, zi67_44, zi67_45, zi67_46, zi67_47, zi67_47n, zi67_48, zi67_51, zi67_52, zi67_53, zi67_54, zi67_55, zi67_56, zi67_57, zi67_58, zi67_59, zi67_62, zi67_62n, zi67_63, zi67_66, zi67_67, zi67_68, zi67_69, zi67_70, zi67_71, zi67_72, zi67_73, zi67_74, zi67_74n, zi67_75, zi67_75i, zi67_76, zi67_79, zi67_80, zi67_81, zi67_84 (sk := []), zcl1, zlow_0, zlow_1, zlow_2, zlow_3, zlow_4, zfree_0, zfree_i, zfree_r, zfree_n, zfree_d, zfree_f, zfree_s, if_true, if_false, Option.bind_some, Option.toList_some, Option.toList_none, List.cons_append, List.nil_append, List.set_cons_zero, List.set_cons_succ, Bool.false_eq_true, reduceIte, zsw_c, zsw_n, Nat.reduceAdd, Y0.r10, f0, Y0.s4 hn, Y1.r11, f1, Y1.s5 hn, Y2.r12, f2, Y2.s6 hn, hne, not_false_eq_true, Y3.r8, c3, (zput_k _ (la b) a (by omega)).1, Y3.s2 (show b < 8 by omega), f4, n1, Y4.w 4 (by omega)]
    · simp only [upd]
    · rw [hol_ab]
      obtain ⟨q1, q2, q3, q4⟩ := b1 x hx
      by_cases hq : x = b
      · subst hq
        simp [upd]
      · simp [upd, hq, show ¬ b = x from fun z => hq z.symm, q3]
    · rw [hol_ca]
      obtain ⟨q1, q2, q3, q4⟩ := b1 x hx
      simp [q4]
  · have Y4 := Y3.pa3 a (nI (zput (caF N a (N 4)) b))
    have Y5 := Y4.pa3 b (nI (zput (caF N b (N 4)) a))
    have f5 : zfld [9] _ y 4 = some (.int (nI (N 4))) := Y5.i 4 (by omega)
    have Y6 := Y5.pf 4 (v := nI (N 4 + 1)) (by omega)
    have c3 : zarr 0 _ (y + 4) (nI a) = some (nI (caF N a (N 4))) := (Y3.a3 (i := a) (by omega)).trans (congrArg some ((b1 a ha).2.2.2))
    have c4 : zarr 0 _ (y + 4) (nI b) = some (nI (caF N b (N 4))) := (Y4.a3 (i := b) (by omega)).trans (congrArg some (by
      have := (b1 b hb).2.2.2
      simpa [upd, show ¬ b = a from fun z => hab z.symm] using this))
    have hz : zsm (yP y) h (zpf (zpa (zpa (zpa (zpa (zpa h (y + 5) (N 4) (nI 1)) (y + 6) (N 4) (nI a)) (y + 7) (N 4) (nI b)) (y + 4) a (nI (zput (caF N a (N 4)) b))) (y + 4) b (nI (zput (caF N b (N 4)) a))) y 4 (.int (nI (N 4 + 1)))) := (((((zsm_yj (j := 5) (by omega)).tr (zsm_yj (j := 6) (by omega))).tr (zsm_yj (j := 7) (by omega))).tr (zsm_yj (j := 4) (by omega))).tr (zsm_yj (j := 4) (by omega))).tr zsm_y
    have hne : (nI 1 = 1) = True := by decide
    refine ⟨_, ?_, hz, YN_hol Y6 (fun k hk hq => ?_) hn hy hz b1 b2 b3 h3 (fun i => rfl) (fun i => rfl) rfl rfl rfl (fun x hx => ?_) (fun x hx => ?_)⟩
    · simp only [ze67, zi67_0, zi67_0n, zi67_1, zi67_4, zi67_4n, zi67_5, zi67_8, zi67_9, zi67_10, zi67_10n, zi67_11, zi67_14, zi67_14n, zi67_15, zi67_18, zi67_19, zi67_20, zi67_20n, zi67_21, zi67_24, zi67_24n, zi67_25, zi67_28, zi67_29, zi67_30, zi67_31, zi67_32, zi67_35, zi67_35n, zi67_36, zi67_39, zi67_40, zi67_41, zi67_42, zi67_43, zi67_44, zi67_45, zi67_46, zi67_47, zi67_47n, zi67_48, zi67_51, zi67_52, zi67_53, zi67_54, zi67_55, zi67_56, zi67_57, zi67_58, zi67_59, zi67_62, zi67_62n, zi67_63, zi67_66, zi67_67, zi67_68, zi67_69, zi67_70, zi67_71, zi67_72, zi67_73, zi67_74, zi67_74n, zi67_75, zi67_75i, zi67_76, zi67_79, zi67_80, zi67_81, zi67_84 (sk := []), zcl1, zlow_0, zlow_1, zlow_2, zlow_3, zlow_4, zfree_0, zfree_i, zfree_r, zfree_n, zfree_d, zfree_f, zfree_s, if_true, if_false, Option.bind_some, Option.toList_some, Option.toList_none, List.cons_append, List.nil_append, List.set_cons_zero, List.set_cons_succ, Bool.false_eq_true, reduceIte, zsw_c, zsw_n, Nat.reduceAdd, Y0.r10, f0, Y0.s4 hn, Y1.r11, f1, Y1.s5 hn, Y2.r12, f2, Y2.s6 hn, hne, not_true_eq_false, Y3.r9, c3, (zput_k _ (lc a) b (by omega)).1, Y3.s3 (show a < 8 by omega), Y4.r9, c4, (zput_k _ (lc b) a (by omega)).1, Y4.s3 (show b < 8 by omega), f5, n1, Y5.w 4 (by omega)]
    · simp only [upd]
    · rw [hol_ab]
      obtain ⟨q1, q2, q3, q4⟩ := b1 x hx
      simp [q3]
    · rw [hol_ca]
      obtain ⟨q1, q2, q3, q4⟩ := b1 x hx
      by_cases hq : x = b
      · subst hq
        simp [upd, hab]
      · by_cases hq2 : x = a
        · subst hq2
          simp [upd, hq]
        · simp [upd, hq, hq2, show ¬ b = x from fun z => hq z.symm, show ¬ a = x from fun z => hq2 z.symm, q4]
