/-! THE TEXT: what is read is a yard -/
def NI (N : Nat → Nat) : Prop :=
  (1 ≤ N 0 ∧ N 0 ≤ 9) ∧ N 1 ≤ 9 ∧ N 2 ≤ 20 ∧ N 3 ≤ 8 ∧ N 4 ≤ 10 ∧ N 5 ≤ 4 ∧ N 8 + 1 = 2 ^ N 3 ∧
  (∀ b, b < N 3 → (1 ≤ N (9 + 2 * b) ∧ N (9 + 2 * b) ≤ 30) ∧ 1 ≤ N (10 + 2 * b) ∧ N (10 + 2 * b) ≤ 20) ∧
  (∀ k, k < N 4 → N (25 + 4 * k) ≤ 1 ∧ N (26 + 4 * k) < N 3 ∧ N (27 + 4 * k) < N 3 ∧ N (26 + 4 * k) ≠ N (27 + 4 * k)) ∧
  (∀ k j, k < N 4 → j < k → N (25 + 4 * k) = N (25 + 4 * j) → ¬ (N (26 + 4 * k) = N (26 + 4 * j) ∧ N (27 + 4 * k) = N (27 + 4 * j)) ∧ ¬ (N (26 + 4 * k) = N (27 + 4 * j) ∧ N (27 + 4 * k) = N (26 + 4 * j))) ∧
  (∀ w, w < N 5 → (1 ≤ N (65 + 2 * w) ∧ N (65 + 2 * w) ≤ 5) ∧ 1 ≤ N (66 + 2 * w) ∧ N (66 + 2 * w) ≤ 40) ∧
  ∀ j, j < 10 → N (28 + 4 * j) = 0
theorem zpow8 : ∀ k : Nat, k < 9 → 2 ^ k ≤ 256 := by decide
theorem zput_f : ∀ b : Nat, b < 8 → zput (2 ^ b - 1) b + 1 = 2 ^ (b + 1) := by decide
theorem zall_b : ∀ n : Nat, n < 9 → ∀ b : Nat, b < n → (2 ^ n - 1).testBit b = true := by decide
theorem NI.d {N : Nat → Nat} (h : NI N) : N 8 < 256 := by
  have h1 := h.2.2.2.2.2.2.1
  have h2 := zpow8 (N 3) (by have := h.2.2.2.1; omega)
  omega
theorem NI.wf {N : Nat → Nat} (h : NI N) (h1 : 1 ≤ N 3) : WF N ∧ WL N := by
  obtain ⟨a0, a1, a2, a3, a4, a5, a8, ab, ak, ad, al, az⟩ := h
  refine ⟨⟨a0, a1, a2, ⟨h1, a3⟩, a4, a5, by omega, ab, fun k hk => ?_, ad, al⟩, fun _ b hb => ?_⟩
  · obtain ⟨c1, c2, c3, c4⟩ := ak k hk
    exact ⟨c1, c2, c3, c4, by rw [az k (by omega)]; omega⟩
  · rw [show N 8 = 2 ^ N 3 - 1 by omega]
    exact zall_b _ (by omega) b hb
theorem NI.hh {N : Nat → Nat} (h : NI N) : ∀ j, j < N 4 → N (25 + 4 * j) ≤ 1 ∧ N (26 + 4 * j) < N 3 ∧ N (27 + 4 * j) < N 3 ∧ N (26 + 4 * j) ≠ N (27 + 4 * j) ∧ N (28 + 4 * j) = 0 := by
  obtain ⟨a0, a1, a2, a3, a4, a5, a8, ab, ak, ad, al, az⟩ := h
  intro j hj
  obtain ⟨c1, c2, c3, c4⟩ := ak j hj
  exact ⟨c1, c2, c3, c4, az j (by omega)⟩
theorem NI.bik {N : Nat → Nat} {w g : Nat} (h : NI N) (h3 : N 3 < 8) (h4 : N 4 = 0) (h5 : N 5 = 0) (hw : 1 ≤ w ∧ w ≤ 30) (hg : 1 ≤ g ∧ g ≤ 20) : NI (bikN N w g) := by
  obtain ⟨a0, a1, a2, a3, a4, a5, a8, ab, ak, ad, al, az⟩ := h
  have e : ∀ i, i < 9 → i ≠ 3 → i ≠ 8 → bikN N w g i = N i := fun i q1 q2 q3 => bikN_s q1 q2 q3
  have e3 : bikN N w g 3 = N 3 + 1 := rfl
  have e8 : bikN N w g 8 = zput (N 8) (N 3) := rfl
  unfold NI
  rw [e 0 (by omega) (by omega) (by omega), e 1 (by omega) (by omega) (by omega), e 2 (by omega) (by omega) (by omega), e 4 (by omega) (by omega) (by omega), e 5 (by omega) (by omega) (by omega), e3, e8]
  refine ⟨a0, a1, a2, by omega, a4, a5, ?_, fun b hb => ?_, fun k hk => by omega, fun k j hk => by omega, fun w hk => by omega, fun j hj => ?_⟩
  · rw [show N 8 = 2 ^ N 3 - 1 by omega]
    exact zput_f _ h3
  · rw [bikN_w, bikN_g]
    by_cases hq : b = N 3
    · rw [if_pos hq, if_pos hq]; exact ⟨hw, hg⟩
    · rw [if_neg hq, if_neg hq]; exact ab b (by omega)
  · rw [← az j hj]
    unfold bikN
    rw [if_neg (by omega), if_neg (by omega), if_neg (by omega), if_neg (by omega)]
theorem he_no {N : Nat → Nat} {s a b : Nat} : ∀ n, heF N s a b n = false → ∀ j, j < n → N (25 + 4 * j) = s → ¬ (N (26 + 4 * j) = a ∧ N (27 + 4 * j) = b) ∧ ¬ (N (26 + 4 * j) = b ∧ N (27 + 4 * j) = a)
  | 0, _, j, hj, _ => by omega
  | n + 1, h, j, hj, hs => by
    unfold heF at h
    rw [Bool.or_eq_false_iff, decide_eq_false_iff_not] at h
    by_cases hq : j = n
    · subst hq
      exact ⟨fun z => h.2 ⟨hs, Or.inl z⟩, fun z => h.2 ⟨hs, Or.inr z⟩⟩
    · exact he_no n h.1 j (by omega) hs
theorem hol_O {N : Nat → Nat} {s a b i : Nat} (h4 : i ≠ 4) (hi : i < 25 + 4 * N 4 ∨ 28 + 4 * N 4 < i) : holN N s a b i = N i := by
  unfold holN
  rw [if_neg h4, if_neg (by omega), if_neg (by omega), if_neg (by omega), if_neg (by omega)]
theorem NI.hol {N : Nat → Nat} {s a b : Nat} (h : NI N) (h4 : N 4 < 10) (h5 : N 5 = 0) (hs : s ≤ 1) (ha : a < N 3) (hb : b < N 3) (hab : a ≠ b) (hh : heF N s a b (N 4) = false) : NI (holN N s a b) := by
  obtain ⟨a0, a1, a2, a3, a4, a5, a8, ab, ak, ad, al, az⟩ := h
  have e4 : holN N s a b 4 = N 4 + 1 := rfl
  unfold NI
  rw [hol_O (i := 0) (by omega) (by omega), hol_O (i := 1) (by omega) (by omega), hol_O (i := 2) (by omega) (by omega), hol_O (i := 3) (by omega) (by omega), hol_O (i := 5) (by omega) (by omega), hol_O (i := 8) (by omega) (by omega), e4]
  have o : ∀ k, k < N 4 → holN N s a b (25 + 4 * k) = N (25 + 4 * k) ∧ holN N s a b (26 + 4 * k) = N (26 + 4 * k) ∧ holN N s a b (27 + 4 * k) = N (27 + 4 * k) := fun k hk => ⟨hol_O (by omega) (by omega), hol_O (by omega) (by omega), hol_O (by omega) (by omega)⟩
  refine ⟨a0, a1, a2, a3, by omega, a5, a8, fun b hb => ?_, fun k hk => ?_, fun k j hk hj => ?_, fun w hk => by omega, fun j hj => ?_⟩
  · rw [hol_O (by omega) (by omega), hol_O (by omega) (by omega)]; exact ab b hb
  · by_cases hq : k = N 4
    · subst hq
      rw [hol_s, hol_a, hol_b]
      exact ⟨hs, ha, hb, hab⟩
    · obtain ⟨o1, o2, o3⟩ := o k (by omega)
      rw [o1, o2, o3]
      exact ak k (by omega)
  · obtain ⟨p1, p2, p3⟩ := o j (by omega)
    by_cases hq : k = N 4
    · subst hq
      rw [hol_s, hol_a, hol_b, p1, p2, p3]
      intro z
      obtain ⟨z1, z2⟩ := he_no _ hh j hj z.symm
      exact ⟨fun y => z1 ⟨y.1.symm, y.2.symm⟩, fun y => z2 ⟨y.2.symm, y.1.symm⟩⟩
    · obtain ⟨o1, o2, o3⟩ := o k (by omega)
      rw [o1, o2, o3, p1, p2, p3]
      exact ad k j (by omega) hj
  · by_cases hq : j = N 4
    · subst hq; exact hol_z
    · rw [hol_O (by omega) (by omega)]; exact az j hj
theorem lif_O {N : Nat → Nat} {kd fo i : Nat} (h5 : i ≠ 5) (hi : i < 65 + 2 * N 5 ∨ 66 + 2 * N 5 < i) : lifN N kd fo i = N i := by
  unfold lifN
  rw [if_neg h5, if_neg (by omega), if_neg (by omega)]
theorem NI.lif {N : Nat → Nat} {kd fo : Nat} (h : NI N) (h5 : N 5 < 4) (hk : 1 ≤ kd ∧ kd ≤ 5) (hf : 1 ≤ fo ∧ fo ≤ 40) : NI (lifN N kd fo) := by
  obtain ⟨a0, a1, a2, a3, a4, a5, a8, ab, ak, ad, al, az⟩ := h
  have e5 : lifN N kd fo 5 = N 5 + 1 := rfl
  unfold NI
  rw [lif_O (i := 0) (by omega) (by omega), lif_O (i := 1) (by omega) (by omega), lif_O (i := 2) (by omega) (by omega), lif_O (i := 3) (by omega) (by omega), lif_O (i := 4) (by omega) (by omega), lif_O (i := 8) (by omega) (by omega), e5]
  have o : ∀ k, k < N 4 → lifN N kd fo (25 + 4 * k) = N (25 + 4 * k) ∧ lifN N kd fo (26 + 4 * k) = N (26 + 4 * k) ∧ lifN N kd fo (27 + 4 * k) = N (27 + 4 * k) := fun k hk => ⟨lif_O (by omega) (by omega), lif_O (by omega) (by omega), lif_O (by omega) (by omega)⟩
  refine ⟨a0, a1, a2, a3, a4, by omega, a8, fun b hb => ?_, fun k hk => ?_, fun k j hk hj => ?_, fun w hw => ?_, fun j hj => ?_⟩
  · rw [lif_O (by omega) (by omega), lif_O (by omega) (by omega)]; exact ab b hb
  · obtain ⟨o1, o2, o3⟩ := o k hk
    rw [o1, o2, o3]
    exact ak k hk
  · obtain ⟨p1, p2, p3⟩ := o j (by omega)
    obtain ⟨o1, o2, o3⟩ := o k hk
    rw [o1, o2, o3, p1, p2, p3]
    exact ad k j hk hj
  · by_cases hq : w = N 5
    · subst hq
      rw [lif_k, lif_f]
      exact ⟨hk, hf⟩
    · rw [lif_O (by omega) (by omega), lif_O (by omega) (by omega)]
      exact al w (by omega)
  · rw [lif_O (by omega) (by omega)]; exact az j hj
section EIN
variable {t : Nat → Nat} {L : Nat} {N : Nat → Nat}
theorem sgB_in {c q : Nat} {e : Sum (Nat × Nat) Nat} (h : sgB t L c e = .inr q) : ∃ p, e = .inr p ∧ sgN t L c p = true ∧ q = p + 1 := by
  cases e with
  | inl x => cases h
  | inr p =>
    unfold sgB at h
    dsimp only at h
    split at h
    · rename_i z; cases h; exact ⟨p, rfl, z, rfl⟩
    · cases h
theorem nmB_in {lo hi q : Nat} {e : Sum (Nat × Nat) Nat} (h : nmB t L lo hi e = .inr q) : ∃ p, e = .inr p ∧ nmF t L lo hi p = 0 ∧ q = tkX t L p := by
  cases e with
  | inl x => cases h
  | inr p =>
    unfold nmB at h
    dsimp only at h
    split at h
    · rename_i z; cases h; exact ⟨p, rfl, z, rfl⟩
    · cases h
theorem bkE_ni {p q : Nat} (h : NI N) (h4 : N 4 = 0) (h5 : N 5 = 0) (e : bkE t L N p = .inr q) : N 3 < 8 ∧ NI (bkN t L N p) := by
  unfold bkE at e
  split at e
  · cases e
  · rename_i h8
    have h3 := h.2.2.2.1
    obtain ⟨p1, e, -, -⟩ := sgB_in e
    obtain ⟨p2, e, n1, -⟩ := nmB_in e
    obtain ⟨p3, e, -, q3⟩ := sgB_in e
    obtain ⟨p4, e, n2, q4⟩ := nmB_in e
    cases e
    subst q4 q3
    exact ⟨by omega, h.bik (by omega) h4 h5 (nm_in n2).2 (nm_in n1).2⟩
theorem hdE_ni {p q so : Nat} (h : NI N) (h3 : 1 ≤ N 3) (h5 : N 5 = 0) (hso : so ≤ 1) (e : hdE t L so N p = .inr q) : N 4 < 10 ∧ NI (hdN t L so N p) := by
  unfold hdE at e
  split at e
  · cases e
  · rename_i h10
    have h4 := h.2.2.2.2.1
    split at e
    · cases e
    · rename_i q1 e1
      obtain ⟨p3, e2, -, q3⟩ := sgB_in e1
      obtain ⟨p4, e3, n2, q4⟩ := nmB_in e2
      cases e3
      subst q4 q3
      split at e
      · rename_i hF
        unfold hdF at hF
        split at hF
        · rename_i n3
          split at hF
          · omega
          · rename_i nn
            have va := (nm_in n2).2
            have vb := (nm_in n3).2
            refine ⟨by omega, h.hol (by omega) h5 hso (by omega) (by omega) (fun z => nn (Or.inl z)) ?_⟩
            cases hq : heF N so (tkV t L (p + 1)) (tkV t L (tkX t L (p + 1) + 1)) (N 4)
            · rfl
            · exact absurd (Or.inr hq) nn
        · rename_i n3
          exact absurd hF n3
      · cases e
theorem lfE_ni {p q kd : Nat} (h : NI N) (hkd : 1 ≤ kd ∧ kd ≤ 5) (e : lfE t L N p = .inr q) : N 5 < 4 ∧ NI (lfN t L kd N p) := by
  unfold lfE at e
  split at e
  · cases e
  · rename_i h8
    have h5 := h.2.2.2.2.2.1
    obtain ⟨p1, e, -, -⟩ := sgB_in e
    obtain ⟨p2, e, n1, -⟩ := nmB_in e
    cases e
    exact ⟨by omega, h.lif (by omega) hkd (nm_in n1).2⟩
end EIN
