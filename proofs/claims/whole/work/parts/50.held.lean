/-! WHETHER TWO ARE HELD TOGETHER ALREADY -/
def heF (N : Nat → Nat) (s a b : Nat) : Nat → Bool
  | 0 => false
  | n + 1 => heF N s a b n || decide (N (25 + 4 * n) = s ∧ ((N (26 + 4 * n) = a ∧ N (27 + 4 * n) = b) ∨ (N (26 + 4 * n) = b ∧ N (27 + 4 * n) = a)))
theorem he_ab {N : Nat → Nat} {a b : Nat} (ha : a < 8) (hb : b < 8) : ∀ n, (∀ k, k < n → N (26 + 4 * k) < 8 ∧ N (27 + 4 * k) < 8) → ((abF N a n).testBit b || (abF N b n).testBit a) = heF N 0 a b n
  | 0, _ => by simp [abF, heF]
  | n + 1, h => by
    have ih := he_ab (N := N) ha hb n (fun k hk => h k (by omega))
    have hn := h n (by omega)
    have la : abF N a n < 256 := abF_lt (fun k hk => (h k (by omega)).1)
    have lb : abF N b n < 256 := abF_lt (fun k hk => (h k (by omega)).1)
    unfold abF heF
    rw [← ih]
    by_cases c0 : N (25 + 4 * n) = 0
    · by_cases c1 : N (27 + 4 * n) = a
      · by_cases c2 : N (27 + 4 * n) = b
        · rw [if_pos ⟨c0, c1⟩, if_pos ⟨c0, c2⟩, zput_bit _ la _ hn.1 b hb, zput_bit _ lb _ hn.1 a ha]
          have : a = b := c1.symm.trans c2
          subst this
          by_cases c3 : N (26 + 4 * n) = a
          · simp [c0, c1, c3]
          · have : ¬ a = N (26 + 4 * n) := fun z => c3 z.symm
            simp [c0, c1, c3, this]
        · rw [if_pos ⟨c0, c1⟩, if_neg (fun z => c2 z.2), zput_bit _ la _ hn.1 b hb]
          by_cases c3 : N (26 + 4 * n) = b
          · simp [c0, c1, c3]
          · have : ¬ b = N (26 + 4 * n) := fun z => c3 z.symm
            have : ¬ a = b := fun z => c2 (c1.trans z)
            simp [c0, c1, c3, *]
      · by_cases c2 : N (27 + 4 * n) = b
        · rw [if_neg (fun z => c1 z.2), if_pos ⟨c0, c2⟩, zput_bit _ lb _ hn.1 a ha]
          by_cases c3 : N (26 + 4 * n) = a
          · simp [c0, c2, c3]
          · have : ¬ a = N (26 + 4 * n) := fun z => c3 z.symm
            have : ¬ b = a := fun z => c1 (c2.trans z)
            simp [c0, c2, c3, *]
        · rw [if_neg (fun z => c1 z.2), if_neg (fun z => c2 z.2)]
          simp [c1, c2]
    · rw [if_neg (fun z => c0 z.1), if_neg (fun z => c0 z.1)]
      simp [c0]
theorem he_ca {N : Nat → Nat} {a b : Nat} (ha : a < 8) (hb : b < 8) (hab : a ≠ b) : ∀ n, (∀ k, k < n → N (26 + 4 * k) < 8 ∧ N (27 + 4 * k) < 8 ∧ N (28 + 4 * k) = 0) → ((caF N a n).testBit b || (caF N b n).testBit a) = heF N 1 a b n
  | 0, _ => by simp [caF, heF]
  | n + 1, h => by
    have ih := he_ca (N := N) ha hb hab n (fun k hk => h k (by omega))
    have hn := h n (by omega)
    have la : caF N a n < 256 := caF_lt (fun k hk => ⟨(h k (by omega)).1, (h k (by omega)).2.1⟩)
    have lb : caF N b n < 256 := caF_lt (fun k hk => ⟨(h k (by omega)).1, (h k (by omega)).2.1⟩)
    have hba : b ≠ a := fun z => hab z.symm
    unfold caF heF
    rw [← ih]
    simp only [hn.2.2, true_and]
    by_cases c0 : N (25 + 4 * n) = 1
    · simp only [c0, true_and]
      by_cases c1 : N (26 + 4 * n) = a
      · have c1b : ¬ N (26 + 4 * n) = b := fun z => hab (c1.symm.trans z)
        rw [if_pos c1, if_neg c1b, zput_bit _ la _ hn.2.1 b hb]
        by_cases c2 : N (27 + 4 * n) = b
        · rw [if_pos c2, zput_bit _ lb _ hn.1 a ha]
          simp [c1, c2]
        · rw [if_neg c2]
          have : ¬ b = N (27 + 4 * n) := fun z => c2 z.symm
          simp [c1, c2, hab, *]
      · rw [if_neg c1]
        by_cases c2 : N (26 + 4 * n) = b
        · rw [if_pos c2, zput_bit _ lb _ hn.2.1 a ha]
          by_cases c3 : N (27 + 4 * n) = a
          · rw [if_pos c3, zput_bit _ la _ hn.1 b hb]
            simp [c2, c3]
          · rw [if_neg c3]
            have : ¬ a = N (27 + 4 * n) := fun z => c3 z.symm
            simp [c2, c3, hba, *]
        · rw [if_neg c2]
          have n1 : ¬ a = N (26 + 4 * n) := fun z => c1 z.symm
          have n2 : ¬ b = N (26 + 4 * n) := fun z => c2 z.symm
          by_cases c3 : N (27 + 4 * n) = a
          · have c3b : ¬ N (27 + 4 * n) = b := fun z => hab (c3.symm.trans z)
            rw [if_pos c3, if_neg c3b, zput_bit _ la _ hn.1 b hb]
            simp [c1, c2, n1, n2]
          · rw [if_neg c3]
            by_cases c4 : N (27 + 4 * n) = b
            · rw [if_pos c4, zput_bit _ lb _ hn.1 a ha]
              simp [c1, c2, n1, n2]
            · rw [if_neg c4]
              simp [c1, c2]
    · simp [c0]
theorem sp_isHeld {E : zE} {h : zH} {y s a b : Nat} {N : Nat → Nat} (hY : YN h y N) (h3 : N 3 ≤ 8) (hs : s ≤ 1) (ha : a < N 3) (hb : b < N 3) (hab : a ≠ b) (hk : ∀ k, k < N 4 → N (26 + 4 * k) < 8 ∧ N (27 + 4 * k) < 8 ∧ N (28 + 4 * k) = 0) : zcall zpp E 74 [.ref y, .int (nI s), .int (nI a), .int (nI b)] h = some (some (.int (zb (heF N s a b (N 4)))), h) := by
  have la : ∀ x, abF N x (N 4) < 256 := fun x => abF_lt (fun k hq => (hk k hq).1)
  have lc : ∀ x, caF N x (N 4) < 256 := fun x => caF_lt (fun k hq => ⟨(hk k hq).1, (hk k hq).2.1⟩)
  obtain rfl | rfl : s = 0 ∨ s = 1 := by omega
  · have hne : (nI 0 = 1) = False := by decide
    simp only [ze74, zi74_0, zi74_1, zi74_2, zi74_5, zi74_5n, zi74_6, zi74_9, zi74_12, zi74_12n, zi74_13, zi74_16, zi74_16n, zi74_18, zi74_18n, zi74_20, zi74_21, zi74_22, zi74_23, zi74_26, zi74_29, zi74_29n, zi74_31, zi74_32, zi74_33, zi74_34, zi74_37, zi74_40, zi74_41, zi74_44, zi74_45 (sk := []), zcl1, zlow_0, zlow_1, zlow_2, zlow_3, zlow_4, zfree_0, zfree_i, zfree_r, zfree_n, zfree_d, zfree_f, zfree_s, if_true, if_false, Option.bind_some, Option.toList_some, Option.toList_none, List.cons_append, List.nil_append, List.set_cons_zero, List.set_cons_succ, Bool.false_eq_true, reduceIte, zsw_c, zsw_n, Nat.reduceAdd, hne, not_false_eq_true, hY.r8, hY.ab ha h3, hY.ab hb h3, sp_has8 (la a) (show b < 8 by omega), sp_has8 (la b) (show a < 8 by omega), zb_0, z10, z00]
    rw [← he_ab (show a < 8 by omega) (show b < 8 by omega) _ (fun k hq => ⟨(hk k hq).1, (hk k hq).2.1⟩)]
    cases (abF N a (N 4)).testBit b <;> cases (abF N b (N 4)).testBit a <;> simp [zb]
  · have hne : (nI 1 = 1) = True := by decide
    simp only [ze74, zi74_0, zi74_1, zi74_2, zi74_5, zi74_5n, zi74_6, zi74_9, zi74_12, zi74_12n, zi74_13, zi74_16, zi74_16n, zi74_18, zi74_18n, zi74_20, zi74_21, zi74_22, zi74_23, zi74_26, zi74_29, zi74_29n, zi74_31, zi74_32, zi74_33, zi74_34, zi74_37, zi74_40, zi74_41, zi74_44, zi74_45 (sk := []), zcl1, zlow_0, zlow_1, zlow_2, zlow_3, zlow_4, zfree_0, zfree_i, zfree_r, zfree_n, zfree_d, zfree_f, zfree_s, if_true, if_false, Option.bind_some, Option.toList_some, Option.toList_none, List.cons_append, List.nil_append, List.set_cons_zero, List.set_cons_succ, Bool.false_eq_true, reduceIte, zsw_c, zsw_n, Nat.reduceAdd, hne, not_true_eq_false, hY.r9, hY.ca ha h3, hY.ca hb h3, sp_has8 (lc a) (show b < 8 by omega), sp_has8 (lc b) (show a < 8 by omega), zb_0, z10, z00]
    rw [← he_ca (show a < 8 by omega) (show b < 8 by omega) hab _ hk]
    cases (caF N a (N 4)).testBit b <;> cases (caF N b (N 4)).testBit a <;> simp [zb]
