/-! A CATCH IS TURNED -/
def turN (N : Nat → Nat) (k : Nat) : Nat → Nat := fun i => if i = 28 + 4 * k then 1 - N i else N i
theorem tur_k {N : Nat → Nat} {k : Nat} : turN N k (28 + 4 * k) = 1 - N (28 + 4 * k) := by
  unfold turN
  rw [if_pos rfl]
theorem tur_o {N : Nat → Nat} {k i : Nat} (h : i ≠ 28 + 4 * k) : turN N k i = N i := by
  unfold turN
  rw [if_neg h]
def cbF (N : Nat → Nat) (b j : Nat) : Nat → Bool
  | 0 => false
  | n + 1 => cbF N b j n || decide (N (25 + 4 * n) = 1 ∧ N (28 + 4 * n) = 0 ∧ ((N (26 + 4 * n) = b ∧ N (27 + 4 * n) = j) ∨ (N (27 + 4 * n) = b ∧ N (26 + 4 * n) = j)))
theorem caF_cb {N : Nat → Nat} {b j : Nat} (hj : j < 8) : ∀ n, (∀ k, k < n → N (26 + 4 * k) < 8 ∧ N (27 + 4 * k) < 8 ∧ N (26 + 4 * k) ≠ N (27 + 4 * k)) → (caF N b n).testBit j = cbF N b j n
  | 0, _ => by simp [caF, cbF]
  | n + 1, h => by
    have ih := caF_cb (N := N) (b := b) hj n (fun k hk => h k (by omega))
    have hn := h n (by omega)
    have la : caF N b n < 256 := caF_lt (fun k hk => ⟨(h k (by omega)).1, (h k (by omega)).2.1⟩)
    unfold caF cbF
    rw [← ih]
    by_cases c0 : N (25 + 4 * n) = 1
    · by_cases c9 : N (28 + 4 * n) = 0
      · simp only [c0, c9, true_and]
        by_cases c1 : N (26 + 4 * n) = b
        · have c2 : ¬ N (27 + 4 * n) = b := fun z => hn.2.2 (c1.trans z.symm)
          rw [if_pos c1, zput_bit _ la _ hn.2.1 j hj]
          by_cases c3 : N (27 + 4 * n) = j
          · simp [c1, c3]
          · have : ¬ j = N (27 + 4 * n) := fun z => c3 z.symm
            simp [c1, c2, c3, this]
        · rw [if_neg c1]
          by_cases c2 : N (27 + 4 * n) = b
          · rw [if_pos c2, zput_bit _ la _ hn.1 j hj]
            by_cases c3 : N (26 + 4 * n) = j
            · simp [c2, c3]
            · have : ¬ j = N (26 + 4 * n) := fun z => c3 z.symm
              simp [c1, c2, c3, this]
          · rw [if_neg c2]
            simp [c1, c2]
      · simp [c9]
    · simp [c0]
/-- the two of hold k -/
abbrev twoN (N : Nat → Nat) (k b j : Nat) : Prop := (N (26 + 4 * k) = b ∧ N (27 + 4 * k) = j) ∨ (N (27 + 4 * k) = b ∧ N (26 + 4 * k) = j)
/-- what a turned catch changes, and what it doesn't -/
theorem cbF_turn {N : Nat → Nat} {k b j : Nat} (hs : N (25 + 4 * k) = 1) (hl : N (28 + 4 * k) ≤ 1) : ∀ n, (∀ i l, i < n → l < n → i ≠ l → N (25 + 4 * i) = 1 → N (25 + 4 * l) = 1 → twoN N i b j → ¬ twoN N l b j) →
    cbF (turN N k) b j n = if k < n ∧ twoN N k b j then (! cbF N b j n) else cbF N b j n
  | 0, _ => by simp [cbF]
  | n + 1, h => by
    have ih := cbF_turn (N := N) (k := k) (b := b) (j := j) hs hl n (fun i l hi hl' => h i l (by omega) (by omega))
    unfold cbF
    rw [tur_o (by omega), tur_o (i := 26 + 4 * n) (by omega), tur_o (i := 27 + 4 * n) (by omega)]
    by_cases hk : k = n
    · subst hk
      rw [tur_k, ih, if_neg (fun z => absurd z.1 (by omega))]
      by_cases ht : twoN N k b j
      · have hz : cbF N b j k = false := by
          have : ∀ m, m ≤ k → cbF N b j m = false := by
            intro m
            induction m with
            | zero => intro _; rfl
            | succ m im =>
              intro hm
              unfold cbF
              rw [im (by omega)]
              simp only [Bool.false_or, decide_eq_false_iff_not]
              intro hc
              exact h m k (by omega) (by omega) (by omega) hc.1 hs hc.2.2 ht
          exact this k (Nat.le_refl _)
        rw [if_pos ⟨by omega, ht⟩, hz]
        unfold twoN at ht
        simp only [Bool.false_or, hs, ht, and_true, true_and]
        obtain hc | hc : N (28 + 4 * k) = 0 ∨ N (28 + 4 * k) = 1 := by omega
        · simp [hc]
        · simp [hc]
      · rw [if_neg (fun z => ht z.2)]
        unfold twoN at ht
        simp [ht]
    · rw [tur_o (show 28 + 4 * n ≠ 28 + 4 * k by omega), ih]
      by_cases ht : k < n ∧ twoN N k b j
      · rw [if_pos ht, if_pos ⟨by omega, ht.2⟩]
        have : ¬ (N (25 + 4 * n) = 1 ∧ N (28 + 4 * n) = 0 ∧ ((N (26 + 4 * n) = b ∧ N (27 + 4 * n) = j) ∨ (N (27 + 4 * n) = b ∧ N (26 + 4 * n) = j))) := fun hc => h k n (by omega) (by omega) hk hs hc.1 ht.2 hc.2.2
        simp [this]
      · rw [if_neg ht, if_neg (fun z => ht ⟨by omega, z.2⟩)]
theorem ztog_x : ∀ d, d < 1024 → ∀ b, b < 10 → ztog d b = d ^^^ 2 ^ b := by decide +kernel
theorem ztog_bit {d b j : Nat} (hd : d < 1024) (hb : b < 10) : (ztog d b).testBit j = (d.testBit j ^^ decide (b = j)) := by
  rw [ztog_x d hd b hb, Nat.testBit_xor, Nat.testBit_two_pow]
theorem ztog10 : ∀ d, d < 1024 → ∀ k, k < 10 → nI d ^^^ (1 <<< (nI k &&& 31)) = nI (ztog d k) := by decide +kernel
theorem lsF_turn {N : Nat → Nat} {k n : Nat} (hl : N (28 + 4 * k) ≤ 1) (hk : k < n) (hn : n ≤ 10) : lsF (turN N k) n = ztog (lsF N n) k := by
  apply Nat.eq_of_testBit_eq
  intro j
  rw [ztog_bit (lsF_lt10 hn) (by omega)]
  by_cases hj : j < n
  · rw [lsF_bit _ _ hj, lsF_bit _ _ hj]
    by_cases hq : k = j
    · subst hq
      rw [tur_k]
      obtain hc | hc : N (28 + 4 * k) = 0 ∨ N (28 + 4 * k) = 1 := by omega
      · simp [hc]
      · simp [hc]
    · rw [tur_o (by omega)]
      simp [hq]
  · have e : ∀ M : Nat → Nat, (lsF M n).testBit j = false := fun M => Nat.testBit_lt_two_pow (Nat.lt_of_lt_of_le (lsF_lt n) (Nat.pow_le_pow_right (by decide) (by omega)))
    rw [e, e]
    simp [show ¬ k = j by omega]
theorem WF.two {N : Nat → Nat} (hW : WF N) {b j : Nat} : ∀ i l, i < N 4 → l < N 4 → i ≠ l → N (25 + 4 * i) = 1 → N (25 + 4 * l) = 1 → twoN N i b j → ¬ twoN N l b j := by
  intro i l hi hl hn s1 s2 h1 h2
  have hu := hW.2.2.2.2.2.2.2.2.2.1
  unfold twoN at h1 h2
  by_cases hq : l < i
  · have := hu i l hi hq (s1.trans s2.symm)
    omega
  · have := hu l i hl (by omega) (s2.trans s1.symm)
    omega
theorem caF_turn {N : Nat → Nat} {k b : Nat} (hW : WF N) (hk : k < N 4) (hs : N (25 + 4 * k) = 1) : caF (turN N k) b (N 4) = if b = N (26 + 4 * k) then ztog (caF N b (N 4)) (N (27 + 4 * k)) else if b = N (27 + 4 * k) then ztog (caF N b (N 4)) (N (26 + 4 * k)) else caF N b (N 4) := by
  have hh := hW.2.2.2.2.2.2.2.2.1
  have h8 := hW.2.2.2.1.2
  have hb : ∀ i, i < N 4 → N (26 + 4 * i) < 8 ∧ N (27 + 4 * i) < 8 ∧ N (26 + 4 * i) ≠ N (27 + 4 * i) := fun i hi => by have := hh i hi; exact ⟨by omega, by omega, this.2.2.2.1⟩
  have hb' : ∀ i, i < N 4 → turN N k (26 + 4 * i) < 8 ∧ turN N k (27 + 4 * i) < 8 ∧ turN N k (26 + 4 * i) ≠ turN N k (27 + 4 * i) := fun i hi => by rw [tur_o (by omega), tur_o (by omega)]; exact hb i hi
  have hl : N (28 + 4 * k) ≤ 1 := by have := hh k hk; omega
  have l1 : caF N b (N 4) < 256 := caF_lt (fun i hi => ⟨(hb i hi).1, (hb i hi).2.1⟩)
  have l2 : caF (turN N k) b (N 4) < 256 := caF_lt (fun i hi => ⟨(hb' i hi).1, (hb' i hi).2.1⟩)
  have hbk := hb k hk
  have key : ∀ j, j < 8 → (caF (turN N k) b (N 4)).testBit j = if twoN N k b j then (! (caF N b (N 4)).testBit j) else (caF N b (N 4)).testBit j := by
    intro j hj
    rw [caF_cb hj _ hb', caF_cb hj _ hb, cbF_turn hs hl _ hW.two]
    simp only [hk, true_and]
  split
  · rename_i hq
    refine zext8 l2 (ztog_k _ l1 _ hbk.2.1).2 (fun j hj => ?_)
    rw [key j hj, ztog_bit (by omega) (by omega)]
    unfold twoN
    by_cases c : N (27 + 4 * k) = j
    · rw [if_pos (Or.inl ⟨hq.symm, c⟩)]; simp [c]
    · rw [if_neg (fun z => by omega)]; simp [c]
  · rename_i hq
    split
    · rename_i hq2
      refine zext8 l2 (ztog_k _ l1 _ hbk.1).2 (fun j hj => ?_)
      rw [key j hj, ztog_bit (by omega) (by omega)]
      unfold twoN
      by_cases c : N (26 + 4 * k) = j
      · rw [if_pos (Or.inr ⟨hq2.symm, c⟩)]; simp [c]
      · rw [if_neg (fun z => by omega)]; simp [c]
    · rename_i hq2
      refine zext8 l2 l1 (fun j hj => ?_)
      rw [key j hj]
      unfold twoN
      rw [if_neg (fun z => by omega)]
theorem sp_turn {E : zE} {h : zH} {y k : Nat} {N : Nat → Nat} (hW : WF N) (hY : YN h y N) (hy : y < 70) (hk : k < N 4) (hs : N (25 + 4 * k) = 1) : ∃ h', zcall zpp E 76 [.ref y, .int (nI k)] h = some (none, h') ∧ zsm (yP y) h h' ∧ YN h' y (turN N k) := by
  have hh := hW.2.2.2.2.2.2.2.2.1
  have h3 := hW.2.2.2.1.2
  have h10 := hW.2.2.2.2.1
  have hb : ∀ i, i < N 4 → N (26 + 4 * i) < 8 ∧ N (27 + 4 * i) < 8 := fun i hi => by have := hh i hi; exact ⟨by omega, by omega⟩
  have hl : N (28 + 4 * k) ≤ 1 := by have := hh k hk; omega
  have hkk := hh k hk
  have lc : ∀ x, caF N x (N 4) < 256 := fun x => caF_lt hb
  have hY' := hY
  obtain ⟨A, cr, Y0, b1, b2, b3⟩ := hY
  have Y1 := Y0.pf 14 (v := nI (ztog (lsF N (N 4)) k)) (by omega)
  have Y2 := Y1.pa3 (N (26 + 4 * k)) (nI (ztog (caF N (N (26 + 4 * k)) (N 4)) (N (27 + 4 * k))))
  have Y3 := Y2.pa3 (N (27 + 4 * k)) (nI (ztog (caF N (N (27 + 4 * k)) (N 4)) (N (26 + 4 * k))))
  have f0 : zfld [9] _ y 14 = some (.int (nI (lsF N (N 4)))) := Y0.i 14 (by omega)
  have u1 : zarr 0 _ (y + 6) (nI k) = some (nI (N (26 + 4 * k))) := (Y1.a5 (i := k) (by omega)).trans (congrArg some ((b2 k hk).2.1))
  have l1 : zarr 0 _ (y + 7) (nI k) = some (nI (N (27 + 4 * k))) := (Y1.a6 (i := k) (by omega)).trans (congrArg some ((b2 k hk).2.2))
  have u2 : zarr 0 _ (y + 6) (nI k) = some (nI (N (26 + 4 * k))) := (Y2.a5 (i := k) (by omega)).trans (congrArg some ((b2 k hk).2.1))
  have l2 : zarr 0 _ (y + 7) (nI k) = some (nI (N (27 + 4 * k))) := (Y2.a6 (i := k) (by omega)).trans (congrArg some ((b2 k hk).2.2))
  have c1 : zarr 0 _ (y + 4) (nI (N (26 + 4 * k))) = some (nI (caF N (N (26 + 4 * k)) (N 4))) := (Y1.a3 (i := N (26 + 4 * k)) (by omega)).trans (congrArg some ((b1 _ (by omega)).2.2.2))
  have c2 : zarr 0 _ (y + 4) (nI (N (27 + 4 * k))) = some (nI (caF N (N (27 + 4 * k)) (N 4))) := (Y2.a3 (i := N (27 + 4 * k)) (by omega)).trans (congrArg some (by
    have := (b1 (N (27 + 4 * k)) (by omega)).2.2.2
    simpa [upd, show ¬ N (27 + 4 * k) = N (26 + 4 * k) from fun z => hkk.2.2.2.1 z.symm] using this))
  have hz : zsm (yP y) h (zpa (zpa (zpf h y 14 (.int (nI (ztog (lsF N (N 4)) k)))) (y + 4) (N (26 + 4 * k)) (nI (ztog (caF N (N (26 + 4 * k)) (N 4)) (N (27 + 4 * k))))) (y + 4) (N (27 + 4 * k)) (nI (ztog (caF N (N (27 + 4 * k)) (N 4)) (N (26 + 4 * k))))) := (zsm_y.tr (zsm_yj (j := 4) (by omega))).tr (zsm_yj (j := 4) (by omega))
  have tl : lsF (turN N k) (N 4) = ztog (lsF N (N 4)) k := lsF_turn hl hk h10
  have ts : ∀ i, i < 25 → turN N k i = N i := fun i hi => tur_o (by omega)
  refine ⟨_, ?_, hz, _, cr, Y3.ext (fun i hi hq => ?_), ?_, ?_, ?_⟩
  · simp only [ze76, zi76_0, zi76_0n, zi76_1, zi76_1i, zi76_2, zi76_5, zi76_6, zi76_7, zi76_8, zi76_9, zi76_12, zi76_12n, zi76_13, zi76_16, zi76_16n, zi76_17, zi76_20, zi76_21, zi76_22, zi76_23, zi76_24, zi76_25, zi76_25n, zi76_26, zi76_29, zi76_30, zi76_31, zi76_32, zi76_33, zi76_34, zi76_34n, zi76_35, zi76_38, zi76_38n, zi76_39, zi76_42, zi76_43, zi76_44, zi76_45, zi76_46, zi76_47, zi76_47n, zi76_48, zi76_51, zi76_52, zi76_53, zi76_54, zi76_55, zi76_56 (sk := []), zcl1, zlow_0, zlow_1, zlow_2, zlow_3, zlow_4, zfree_0, zfree_i, zfree_r, zfree_n, zfree_d, zfree_f, zfree_s, if_true, if_false, Option.bind_some, Option.toList_some, Option.toList_none, List.cons_append, List.nil_append, List.set_cons_zero, List.set_cons_succ, Bool.false_eq_true, reduceIte, zsw_c, zsw_n, Nat.reduceAdd, f0, ztog10 _ (lsF_lt10 h10) k (by omega), Y0.w 14 (by omega), Y1.r9, Y1.r11, u1, c1, Y1.r12, l1, (ztog_k _ (lc _) _ (hb k hk).2).1, Y1.s3 (hb k hk).1, Y2.r9, Y2.r12, l2, c2, Y2.r11, u2, (ztog_k _ (lc _) _ (hb k hk).1).1, Y2.s3 (hb k hk).2]
  · have : i = 0 ∨ i = 1 ∨ i = 2 ∨ i = 3 ∨ i = 4 ∨ i = 5 ∨ i = 14 ∨ i = 15 ∨ i = 16 ∨ i = 17 := by omega
    rcases this with rfl | rfl | rfl | rfl | rfl | rfl | rfl | rfl | rfl | rfl
    · show nI (N 0) = nI (turN N k 0); rw [ts 0 (by omega)]
    · show nI (N 1) = nI (turN N k 1); rw [ts 1 (by omega)]
    · show nI (N 2) = nI (turN N k 2); rw [ts 2 (by omega)]
    · show nI (N 3) = nI (turN N k 3); rw [ts 3 (by omega)]
    · show nI (N 4) = nI (turN N k 4); rw [ts 4 (by omega)]
    · show nI (N 5) = nI (turN N k 5); rw [ts 5 (by omega)]
    · show nI (ztog (lsF N (N 4)) k) = nI (lsF (turN N k) (turN N k 4)); rw [ts 4 (by omega), tl]
    · show nI (N 8) = nI (turN N k 8); rw [ts 8 (by omega)]
    · show nI (N 6) = nI (turN N k 6); rw [ts 6 (by omega)]
    · show nI (N 7) = nI (turN N k 7); rw [ts 7 (by omega)]
  · intro x hx
    rw [ts 3 (by omega)] at hx
    have hab : abF (turN N k) x (N 4) = abF N x (N 4) := by
      have : ∀ n, abF (turN N k) x n = abF N x n := by
        intro n
        induction n with
        | zero => rfl
        | succ n ih =>
          unfold abF
          rw [ih, tur_o (by omega), tur_o (i := 26 + 4 * n) (by omega), tur_o (i := 27 + 4 * n) (by omega)]
      exact this _
    rw [ts 4 (by omega), hab, caF_turn hW hk hs, ts (9 + 2 * x) (by omega), ts (10 + 2 * x) (by omega)]
    obtain ⟨q1, q2, q3, q4⟩ := b1 x hx
    refine ⟨q1, q2, q3, ?_⟩
    by_cases e1 : x = N (26 + 4 * k)
    · have e2 : ¬ x = N (27 + 4 * k) := fun z => hkk.2.2.2.1 (e1.symm.trans z)
      rw [if_pos e1]
      simp only [if_true, upd, if_neg e2, if_pos e1]
      rw [e1]
    · rw [if_neg e1]
      by_cases e2 : x = N (27 + 4 * k)
      · rw [if_pos e2]
        simp only [if_true, upd, if_pos e2]
        rw [e2]
      · rw [if_neg e2]
        simp only [if_true, upd, if_neg e2, if_neg e1]
        exact q4
  · intro i hi
    rw [ts 4 (by omega)] at hi
    rw [tur_o (by omega), tur_o (by omega), tur_o (by omega)]
    exact b2 i hi
  · intro w hw
    rw [ts 5 (by omega)] at hw
    rw [tur_o (by omega), tur_o (by omega)]
    obtain ⟨q, q1, q2⟩ := b3 w hw
    exact ⟨q, q1, LAt_c (fun a h1 c h2 => (hz.2 a (fun z => by have := z.2; omega)).trans h2) q2⟩
