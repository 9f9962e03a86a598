/-! WHICH NEVER COME UP -/
def smF (N : Nat → Nat) (s b c : Nat) : Nat → Bool
  | 0 => false
  | n + 1 => smF N s b c n || (s.testBit n && manN (N (65 + 2 * n)) (N (66 + 2 * n)) (N (9 + 2 * b)) c)
theorem smF_iff {N : Nat → Nat} {s b c : Nat} : ∀ {n : Nat}, smF N s b c n = true ↔ ∃ w, w < n ∧ s.testBit w = true ∧ manN (N (65 + 2 * w)) (N (66 + 2 * w)) (N (9 + 2 * b)) c = true
  | 0 => ⟨fun z => (by cases z), fun ⟨w, hw, _⟩ => absurd hw (by omega)⟩
  | n + 1 => by
    unfold smF
    rw [Bool.or_eq_true, Bool.and_eq_true, smF_iff]
    constructor
    · rintro (⟨w, hw, h1⟩ | h1)
      · exact ⟨w, by omega, h1⟩
      · exact ⟨n, by omega, h1⟩
    · rintro ⟨w, hw, h1⟩
      by_cases e : w = n
      · subst e; exact Or.inr h1
      · exact Or.inl ⟨w, by omega, h1⟩
/-- the component's steps -/
def lbS (N : Nat → Nat) (s L b : Nat) : Nat := if (freeN N L b && smF N s b (catN N L b) (N 5)) = true then zclr L b else L
def lbI (N : Nat → Nat) (s L : Nat) : Nat → Nat
  | 0 => L
  | n + 1 => lbS N s (lbI N s L n) n
def lbO (N : Nat → Nat) (s L : Nat) : Nat → Nat
  | 0 => L
  | n + 1 => lbI N s (lbO N s L n) (N 3)
/-- the model's steps -/
def stS (N : Nat → Nat) (s w L b : Nat) : Nat := if (s.testBit w && canN N (N (65 + 2 * w)) (N (66 + 2 * w)) L b) = true then zclr L b else L
def stB (N : Nat → Nat) (s w L : Nat) : Nat → Nat
  | 0 => L
  | n + 1 => stS N s w (stB N s w L n) n
def stW (N : Nat → Nat) (s L : Nat) : Nat → Nat
  | 0 => L
  | n + 1 => stB N s n (stW N s L n) (N 3)
def stO (N : Nat → Nat) (s L : Nat) : Nat → Nat
  | 0 => L
  | n + 1 => stW N s (stO N s L n) (N 5)
def okN (N : Nat → Nat) (s L b : Nat) : Prop := ∃ w, w < N 5 ∧ s.testBit w = true ∧ canN N (N (65 + 2 * w)) (N (66 + 2 * w)) L b = true
theorem okN_iff {N : Nat → Nat} {s L b : Nat} : okN N s L b ↔ (freeN N L b && smF N s b (catN N L b) (N 5)) = true := by
  rw [Bool.and_eq_true, smF_iff]
  constructor
  · rintro ⟨w, h1, h2, h3⟩
    unfold canN at h3
    rw [Bool.and_eq_true] at h3
    exact ⟨h3.1, w, h1, h2, h3.2⟩
  · rintro ⟨h0, w, h1, h2, h3⟩
    exact ⟨w, h1, h2, by unfold canN; rw [h0, h3]; rfl⟩
def sub8 (A B : Nat) : Prop := ∀ j, j < 8 → A.testBit j = true → B.testBit j = true
theorem sub8.rf (A : Nat) : sub8 A A := fun _ _ h => h
theorem sub8.tr {A B C : Nat} (h : sub8 A B) (g : sub8 B C) : sub8 A C := fun j hj z => g j hj (h j hj z)
theorem ctF_mono {N : Nat → Nat} {A B b : Nat} (hs : sub8 A B) : ∀ {n : Nat}, (∀ k, k < n → N (26 + 4 * k) < 8 ∧ N (27 + 4 * k) < 8) → ctF N A b n ≤ ctF N B b n
  | 0, _ => Nat.le_refl _
  | n + 1, hl => by
    have ih := ctF_mono (N := N) (b := b) hs (n := n) (fun k hk => hl k (by omega))
    have h1 := hl n (by omega)
    unfold ctF
    by_cases c : N (25 + 4 * n) = 1 ∧ N (28 + 4 * n) = 0 ∧ ((N (26 + 4 * n) = b ∧ A.testBit (N (27 + 4 * n)) = true) ∨ (N (27 + 4 * n) = b ∧ A.testBit (N (26 + 4 * n)) = true))
    · have c' : N (25 + 4 * n) = 1 ∧ N (28 + 4 * n) = 0 ∧ ((N (26 + 4 * n) = b ∧ B.testBit (N (27 + 4 * n)) = true) ∨ (N (27 + 4 * n) = b ∧ B.testBit (N (26 + 4 * n)) = true)) := by
        refine ⟨c.1, c.2.1, ?_⟩
        rcases c.2.2 with z | z
        · exact Or.inl ⟨z.1, hs _ h1.2 z.2⟩
        · exact Or.inr ⟨z.1, hs _ h1.1 z.2⟩
      rw [if_pos c, if_pos c']
      omega
    · rw [if_neg c]
      omega
theorem okN_mono {N : Nat → Nat} (hW : WF N) {s A B b : Nat} (hA : A < 256) (hB : B < 256) (hs : sub8 A B) (hb : b < 8) (hAb : A.testBit b = true) (h : okN N s B b) : okN N s A b := by
  have h3 := hW.2.2.2.1.2
  have hh := hW.2.2.2.2.2.2.2.2.1
  obtain ⟨w, h1, h2, h4⟩ := h
  refine ⟨w, h1, h2, ?_⟩
  unfold canN at h4 ⊢
  rw [Bool.and_eq_true] at h4 ⊢
  have hl : ∀ k, k < N 4 → N (26 + 4 * k) < 8 ∧ N (27 + 4 * k) < 8 := fun k hk => by have := hh k hk; omega
  have hab : abF N b (N 4) < 256 := abF_lt (fun k hk => (hl k hk).1)
  constructor
  · have := h4.1
    unfold freeN at this ⊢
    rw [Bool.and_eq_true, decide_eq_true_eq] at this ⊢
    refine ⟨hAb, zext8 (zand_k _ hab A hA) (by omega) (fun j hj => ?_)⟩
    rw [Nat.testBit_and, Nat.zero_testBit]
    cases hq : (abF N b (N 4)).testBit j
    · rfl
    · cases hq2 : A.testBit j
      · rfl
      · have z := congrArg (fun x => x.testBit j) this.2
        simp only [Nat.testBit_and, Nat.zero_testBit] at z
        rw [hq, hs j hj hq2] at z
        cases z
  · have hcat : catN N A b ≤ catN N B b := by
      unfold catN
      rw [hAb, hs b hb hAb]
      exact ctF_mono hs hl
    have := h4.2
    unfold manN at this ⊢
    simp only [Bool.and_eq_true, Bool.or_eq_true, decide_eq_true_eq] at this ⊢
    refine ⟨this.1, ?_⟩
    rcases this.2 with z | z
    · exact Or.inl z
    · exact Or.inr (by omega)
def stuckN (N : Nat → Nat) (s X : Nat) : Prop := ∀ b, b < N 3 → ¬ okN N s X b
def invN (N : Nat → Nat) (s D L : Nat) : Prop := L < 256 ∧ sub8 L D ∧ ∀ X, X < 256 → sub8 X D → stuckN N s X → sub8 X L
theorem zclr_lt {L b : Nat} (hL : L < 256) (hb : b < 8) : zclr L b < 256 := Nat.lt_of_le_of_lt (zclr_k L hL b hb).2 hL
theorem inv_step {N : Nat → Nat} (hW : WF N) {s D L b : Nat} (hb : b < N 3) (hI : invN N s D L) (hok : okN N s L b) : invN N s D (zclr L b) := by
  have h3 := hW.2.2.2.1.2
  obtain ⟨h1, h2, h4⟩ := hI
  refine ⟨zclr_lt h1 (by omega), fun j hj z => ?_, fun X hX hXD hst j hj z => ?_⟩
  · rw [zclr_bit L h1 b (by omega) j hj, Bool.and_eq_true] at z
    exact h2 j hj z.1
  · rw [zclr_bit L h1 b (by omega) j hj, Bool.and_eq_true, decide_eq_true_eq]
    refine ⟨h4 X hX hXD hst j hj z, fun e => ?_⟩
    subst e
    exact hst j hb (okN_mono hW hX h1 (h4 X hX hXD hst) hj z hok)
theorem okN_bit {N : Nat → Nat} {s L b : Nat} (h : okN N s L b) : L.testBit b = true := by
  obtain ⟨w, -, -, h1⟩ := h
  unfold canN freeN at h1
  simp only [Bool.and_eq_true] at h1
  exact h1.1.1
theorem zpc_clr : ∀ d, d < 256 → ∀ b, b < 8 → zpc (zclr d b) = if d.testBit b then zpc d - 1 else zpc d := by decide +kernel
theorem zpc_pos : ∀ d, d < 256 → ∀ b, b < 8 → d.testBit b = true → 1 ≤ zpc d := by decide +kernel
theorem zpc_zero : ∀ d, d < 256 → zpc d = 0 → d = 0 := by decide +kernel
theorem zpc_pow : ∀ n, n ≤ 8 → ∀ d, d < 2 ^ n → zpc d ≤ n := by decide +kernel
/-- a round: what it keeps, and that it moves where something can -/
def roundN (N : Nat → Nat) (s D L L' : Nat) (P : Nat → Prop) : Prop := invN N s D L' ∧ zpc L' ≤ zpc L ∧ ((∀ b, P b → ¬ okN N s L b) → L' = L) ∧ ((∃ b, P b ∧ okN N s L b) → zpc L' < zpc L)
theorem lbI_ok {N : Nat → Nat} (hW : WF N) {s D L : Nat} (hI : invN N s D L) : ∀ n, n ≤ N 3 → roundN N s D L (lbI N s L n) (fun b => b < n)
  | 0, _ => ⟨hI, Nat.le_refl _, fun _ => rfl, fun ⟨b, h, _⟩ => absurd h (by omega)⟩
  | n + 1, hn => by
    have h3 := hW.2.2.2.1.2
    obtain ⟨i1, i2, i3, i4⟩ := lbI_ok hW hI n (by omega)
    unfold lbI lbS
    by_cases c : (freeN N (lbI N s L n) n && smF N s n (catN N (lbI N s L n) n) (N 5)) = true
    · rw [if_pos c]
      have hok := okN_iff.mpr c
      have hbit := okN_bit hok
      have hp := zpc_pos _ i1.1 n (by omega) hbit
      have hz : zpc (zclr (lbI N s L n) n) < zpc L := by rw [zpc_clr _ i1.1 n (by omega), hbit, if_pos rfl]; omega
      refine ⟨inv_step hW (by omega) i1 hok, by omega, fun hno => ?_, fun _ => hz⟩
      have e := i3 (fun b hb => hno b (by omega))
      rw [e] at hok
      exact absurd hok (hno n (by omega))
    · rw [if_neg c]
      refine ⟨i1, i2, fun hno => i3 (fun b hb => hno b (by omega)), fun ⟨b, hb, hok⟩ => ?_⟩
      by_cases hex : ∃ b, b < n ∧ okN N s L b
      · exact i4 hex
      · have e := i3 (fun b hb z => hex ⟨b, hb, z⟩)
        by_cases eb : b = n
        · subst eb
          rw [e] at c
          exact absurd (okN_iff.mp hok) c
        · exact absurd ⟨b, by omega, hok⟩ hex
theorem lbO_ok {N : Nat → Nat} (hW : WF N) {s D : Nat} (hD : D < 2 ^ N 3) : ∀ n, invN N s D (lbO N s D n) ∧ (stuckN N s (lbO N s D n) ∨ zpc (lbO N s D n) + n ≤ zpc D)
  | 0 => by
    have h8 : D < 256 := Nat.lt_of_lt_of_le hD (show 2 ^ N 3 ≤ 2 ^ 8 from Nat.pow_le_pow_right (by decide) hW.2.2.2.1.2)
    exact ⟨⟨h8, sub8.rf _, fun X _ h _ => h⟩, Or.inr (Nat.le_refl _)⟩
  | n + 1 => by
    obtain ⟨h1, h2⟩ := lbO_ok hW (s := s) hD n
    obtain ⟨i1, i2, i3, i4⟩ := lbI_ok hW h1 (N 3) (Nat.le_refl _)
    unfold lbO
    refine ⟨i1, ?_⟩
    by_cases hst : stuckN N s (lbO N s D n)
    · rw [i3 hst]
      exact Or.inl hst
    · have hex : ∃ b, b < N 3 ∧ okN N s (lbO N s D n) b := Classical.byContradiction fun z => hst (fun b hb ho => z ⟨b, hb, ho⟩)
      have := i4 hex
      rcases h2 with z | z
      · exact absurd z hst
      · exact Or.inr (by omega)
theorem stuck_0 {N : Nat → Nat} {s : Nat} : stuckN N s 0 := fun b _ h => by
  have := okN_bit h
  rw [Nat.zero_testBit] at this
  cases this
theorem stB_ok {N : Nat → Nat} (hW : WF N) {s D L w : Nat} (hw : w < N 5) (hI : invN N s D L) : ∀ n, n ≤ N 3 → invN N s D (stB N s w L n) ∧ zpc (stB N s w L n) ≤ zpc L ∧ ((∀ b, b < n → ¬ (s.testBit w && canN N (N (65 + 2 * w)) (N (66 + 2 * w)) L b) = true) → stB N s w L n = L) ∧ ((∃ b, b < n ∧ (s.testBit w && canN N (N (65 + 2 * w)) (N (66 + 2 * w)) L b) = true) → zpc (stB N s w L n) < zpc L)
  | 0, _ => ⟨hI, Nat.le_refl _, fun _ => rfl, fun ⟨b, h, _⟩ => absurd h (by omega)⟩
  | n + 1, hn => by
    have h3 := hW.2.2.2.1.2
    obtain ⟨i1, i2, i3, i4⟩ := stB_ok hW hw hI n (by omega)
    unfold stB stS
    by_cases c : (s.testBit w && canN N (N (65 + 2 * w)) (N (66 + 2 * w)) (stB N s w L n) n) = true
    · rw [if_pos c]
      have hok : okN N s (stB N s w L n) n := ⟨w, hw, (Bool.and_eq_true _ _ ▸ c).1, (Bool.and_eq_true _ _ ▸ c).2⟩
      have hbit := okN_bit hok
      have hp := zpc_pos _ i1.1 n (by omega) hbit
      have hz : zpc (zclr (stB N s w L n) n) < zpc L := by rw [zpc_clr _ i1.1 n (by omega), hbit, if_pos rfl]; omega
      refine ⟨inv_step hW (by omega) i1 hok, by omega, fun hno => ?_, fun _ => hz⟩
      have e := i3 (fun b hb => hno b (by omega))
      rw [e] at c
      exact absurd c (hno n (by omega))
    · rw [if_neg c]
      refine ⟨i1, i2, fun hno => i3 (fun b hb => hno b (by omega)), fun ⟨b, hb, hok⟩ => ?_⟩
      by_cases hex : ∃ b, b < n ∧ (s.testBit w && canN N (N (65 + 2 * w)) (N (66 + 2 * w)) L b) = true
      · exact i4 hex
      · have e := i3 (fun b hb z => hex ⟨b, hb, z⟩)
        by_cases eb : b = n
        · subst eb
          rw [e] at c
          exact absurd hok c
        · exact absurd ⟨b, by omega, hok⟩ hex
theorem stW_ok {N : Nat → Nat} (hW : WF N) {s D L : Nat} (hI : invN N s D L) : ∀ n, n ≤ N 5 → invN N s D (stW N s L n) ∧ zpc (stW N s L n) ≤ zpc L ∧ ((∀ w b, w < n → b < N 3 → ¬ (s.testBit w && canN N (N (65 + 2 * w)) (N (66 + 2 * w)) L b) = true) → stW N s L n = L) ∧ ((∃ w b, w < n ∧ b < N 3 ∧ (s.testBit w && canN N (N (65 + 2 * w)) (N (66 + 2 * w)) L b) = true) → zpc (stW N s L n) < zpc L)
  | 0, _ => ⟨hI, Nat.le_refl _, fun _ => rfl, fun ⟨w, b, h, _⟩ => absurd h (by omega)⟩
  | n + 1, hn => by
    obtain ⟨i1, i2, i3, i4⟩ := stW_ok hW hI n (by omega)
    obtain ⟨j1, j2, j3, j4⟩ := stB_ok hW (show n < N 5 by omega) i1 (N 3) (Nat.le_refl _)
    unfold stW
    refine ⟨j1, by omega, fun hno => ?_, fun ⟨w, b, hw, hb, hok⟩ => ?_⟩
    · have e := i3 (fun w b hw hb => hno w b (by omega) hb)
      rw [e] at j3 ⊢
      exact j3 (fun b hb => hno n b (by omega) hb)
    · by_cases hex : ∃ w b, w < n ∧ b < N 3 ∧ (s.testBit w && canN N (N (65 + 2 * w)) (N (66 + 2 * w)) L b) = true
      · have := i4 hex
        omega
      · have e := i3 (fun w b hw hb z => hex ⟨w, b, hw, hb, z⟩)
        rw [e] at j4 ⊢
        refine j4 ⟨b, hb, ?_⟩
        by_cases ew : w = n
        · subst ew; exact hok
        · exact absurd ⟨w, b, by omega, hb, hok⟩ hex
theorem stO_ok {N : Nat → Nat} (hW : WF N) {s D : Nat} (hD : D < 2 ^ N 3) : ∀ n, invN N s D (stO N s D n) ∧ (stuckN N s (stO N s D n) ∨ zpc (stO N s D n) + n ≤ zpc D)
  | 0 => by
    have h8 : D < 256 := Nat.lt_of_lt_of_le hD (show 2 ^ N 3 ≤ 2 ^ 8 from Nat.pow_le_pow_right (by decide) hW.2.2.2.1.2)
    exact ⟨⟨h8, sub8.rf _, fun X _ h _ => h⟩, Or.inr (Nat.le_refl _)⟩
  | n + 1 => by
    obtain ⟨h1, h2⟩ := stO_ok hW (s := s) hD n
    obtain ⟨i1, i2, i3, i4⟩ := stW_ok hW h1 (N 5) (Nat.le_refl _)
    unfold stO
    refine ⟨i1, ?_⟩
    by_cases hst : stuckN N s (stO N s D n)
    · rw [i3 (fun w b hw hb z => hst b hb ⟨w, hw, (Bool.and_eq_true _ _ ▸ z).1, (Bool.and_eq_true _ _ ▸ z).2⟩)]
      exact Or.inl hst
    · have hex : ∃ b, b < N 3 ∧ okN N s (stO N s D n) b := Classical.byContradiction fun z => hst (fun b hb ho => z ⟨b, hb, ho⟩)
      obtain ⟨b, hb, w, q1, q2, q3⟩ := hex
      have := i4 ⟨w, b, q1, hb, by rw [q2, q3]; rfl⟩
      rcases h2 with z | z
      · exact absurd z hst
      · exact Or.inr (by omega)
/-- both stay with the same -/
theorem left_eq {N : Nat → Nat} (hW : WF N) {s D : Nat} (hD : D < 2 ^ N 3) : lbO N s D (N 3) = stO N s D 8 := by
  have h3 := hW.2.2.2.1.2
  have hpc := zpc_pow (N 3) h3 D hD
  obtain ⟨a1, a2⟩ := lbO_ok hW (s := s) hD (N 3)
  obtain ⟨b1, b2⟩ := stO_ok hW (s := s) hD 8
  have sa : stuckN N s (lbO N s D (N 3)) := by
    rcases a2 with z | z
    · exact z
    · rw [zpc_zero _ a1.1 (by omega)]; exact stuck_0
  have sb : stuckN N s (stO N s D 8) := by
    rcases b2 with z | z
    · exact z
    · rw [zpc_zero _ b1.1 (by omega)]; exact stuck_0
  refine zext8 a1.1 b1.1 (fun j hj => ?_)
  have h1 := b1.2.2 _ a1.1 a1.2.1 sa j hj
  have h2 := a1.2.2 _ b1.1 b1.2.1 sb j hj
  cases hq : (lbO N s D (N 3)).testBit j
  · cases hq2 : (stO N s D 8).testBit j
    · rfl
    · rw [h2 hq2] at hq; cases hq
  · rw [h1 hq]
