/-! LAYERS: both ways -/
theorem zpc_sub {A B : Nat} (hA : A < 256) (hB : B < 256) (hs : sub8 A B) (hn : A ≠ B) : zpc A < zpc B := by
  have hex : ∃ j, j < 8 ∧ A.testBit j = false ∧ B.testBit j = true := by
    refine Classical.byContradiction (fun hc => hn (zext8 hA hB (fun j hj => ?_)))
    cases h1 : A.testBit j
    · cases h2 : B.testBit j
      · rfl
      · exact absurd ⟨j, hj, h1, h2⟩ hc
    · rw [hs j hj h1]
  have le : ∀ j, j < 8 → (if A.testBit j = true then 1 else 0) ≤ (if B.testBit j = true then 1 else 0 : Nat) := by
    intro j hj
    cases h1 : A.testBit j
    · simp
    · rw [hs j hj h1]; simp
  have l0 := le 0 (by omega)
  have l1 := le 1 (by omega)
  have l2 := le 2 (by omega)
  have l3 := le 3 (by omega)
  have l4 := le 4 (by omega)
  have l5 := le 5 (by omega)
  have l6 := le 6 (by omega)
  have l7 := le 7 (by omega)
  obtain ⟨j, hj, h1, h2⟩ := hex
  have lt : (if A.testBit j = true then 1 else 0) < (if B.testBit j = true then 1 else 0 : Nat) := by rw [h1, h2]; decide
  unfold zpc
  match j, hj with
  | 0, _ => omega
  | 1, _ => omega
  | 2, _ => omega
  | 3, _ => omega
  | 4, _ => omega
  | 5, _ => omega
  | 6, _ => omega
  | 7, _ => omega
theorem zand_0 {a d : Nat} (ha : a < 256) (hd : d < 256) : a &&& d = 0 ↔ ∀ j, j < 8 → a.testBit j = true → d.testBit j = false := by
  constructor
  · intro h j _ hj
    have : (a &&& d).testBit j = false := by rw [h]; exact Nat.zero_testBit j
    rw [Nat.testBit_and, hj, Bool.true_and] at this
    exact this
  · intro h
    refine zext8 (zand_k _ ha _ hd) (by omega) (fun j hj => ?_)
    rw [Nat.testBit_and, Nat.zero_testBit]
    cases hq : a.testBit j
    · rfl
    · rw [h j hj hq]; rfl
theorem zsub_P {a b : Nat} (ha : a < 256) : (nI a &&& (nI b ^^^ -1) = 0) = (∀ j, j < 8 → a.testBit j = true → b.testBit j = true) := by
  have key : ∀ i, i < 32 → (nI a &&& (nI b ^^^ -1)).toBitVec.getLsbD i = (a.testBit i && !b.testBit i) := by
    intro i hi
    show (BitVec.ofNat 32 a &&& (BitVec.ofNat 32 b ^^^ BitVec.allOnes 32)).getLsbD i = _
    rw [BitVec.getLsbD_and, BitVec.getLsbD_xor, BitVec.getLsbD_ofNat, BitVec.getLsbD_ofNat, BitVec.getLsbD_allOnes, decide_eq_true hi]
    cases a.testBit i <;> cases b.testBit i <;> rfl
  apply propext
  constructor
  · intro h j hj h1
    have := key j (by omega)
    rw [h, h1] at this
    cases hb : b.testBit j
    · rw [hb] at this
      have z : (0 : Int32).toBitVec.getLsbD j = false := BitVec.getLsbD_zero
      rw [z] at this
      cases this
    · rfl
  · intro h
    apply Int32.toBitVec_inj.1
    apply BitVec.eq_of_getLsbD_eq
    intro i hi
    rw [key i hi]
    show _ = (0#32).getLsbD i
    rw [BitVec.getLsbD_zero]
    by_cases h8 : i < 8
    · cases h1 : a.testBit i
      · rfl
      · rw [h i h8 h1]; rfl
    · rw [Nat.testBit_lt_two_pow (Nat.lt_of_lt_of_le ha (show 2 ^ 8 ≤ 2 ^ i from Nat.pow_le_pow_right (by decide) (by omega)))]
      rfl
section LYM
variable {N : Nat → Nat}
theorem abF_bitlt (hW : WF N) {b j : Nat} (hj : j < 8) : ∀ n, n ≤ N 4 → (abF N b n).testBit j = true → j < N 3
  | 0, _, h => by simp [abF] at h
  | n + 1, hn, h => by
    have h3 := hW.2.2.2.1.2
    have hl : abF N b n < 256 := abF_lt (fun k hk => by have := (hW.hd (k := k) (by omega)).2.1; omega)
    have hq := (hW.hd (k := n) (by omega)).2.1
    unfold abF at h
    split at h
    · rw [zput_bit _ hl _ (by omega) j hj, Bool.or_eq_true, decide_eq_true_eq] at h
      rcases h with h | h
      · exact abF_bitlt hW hj n (by omega) h
      · omega
    · exact abF_bitlt hW hj n (by omega) h
theorem abF_l (hW : WF N) {b : Nat} : abF N b (N 4) < 256 := abF_lt (fun k hk => by have := (hW.hd hk).2.1; have := hW.2.2.2.1.2; omega)
theorem free_iff (hW : WF N) {d b : Nat} (hd : d < 256) : freeN N d b = true ↔ d.testBit b = true ∧ ∀ j, j < 8 → (abF N b (N 4)).testBit j = true → d.testBit j = false := by
  unfold freeN
  rw [Bool.and_eq_true, decide_eq_true_eq, zand_0 (abF_l hW) hd]
theorem wfF_bit {d : Nat} (hd : d < 256) : ∀ m, m ≤ 8 → ∀ j, j < 8 → (wfF N d m).testBit j = (d.testBit j && !(decide (j < m) && freeN N d j))
  | 0, _, j, _ => by simp [wfF]
  | m + 1, hm, j, hj => by
    have ih := wfF_bit hd m (by omega) j hj
    unfold wfF
    cases hf : freeN N d m
    · simp only [Bool.false_eq_true, if_false]
      rw [ih]
      by_cases e : j = m
      · subst e; rw [hf]; simp
      · rw [show decide (j < m + 1) = decide (j < m) from decide_eq_decide.mpr (by omega)]
    · simp only [if_true]
      rw [zclr_bit _ (wfF_lt hd m (by omega)) m (by omega) j hj, ih]
      by_cases e : j = m
      · subst e; rw [hf]; simp
      · rw [show decide (j < m + 1) = decide (j < m) from decide_eq_decide.mpr (by omega), decide_eq_true e, Bool.and_true]
/-- what is left behind t takings away -/
def plF (N : Nat → Nat) (d : Nat) : Nat → Nat
  | 0 => d
  | t + 1 => wfF N (plF N d t) (N 3)
theorem plF_lt (hW : WF N) {d : Nat} (hd : d < 256) : ∀ t, plF N d t < 256
  | 0 => hd
  | t + 1 => wfF_lt (plF_lt hW hd t) _ hW.2.2.2.1.2
def levN (N : Nat → Nat) (d b t : Nat) : Prop := freeN N (plF N d t) b = true
theorem pl_bit (hW : WF N) {d : Nat} (hd : d < 256) {j : Nat} (hj : j < N 3) (t : Nat) : (plF N d (t + 1)).testBit j = ((plF N d t).testBit j && !freeN N (plF N d t) j) := by
  have h3 := hW.2.2.2.1.2
  show (wfF N (plF N d t) (N 3)).testBit j = _
  rw [wfF_bit (plF_lt hW hd t) _ h3 j (by omega), decide_eq_true hj, Bool.true_and]
theorem pl_mono (hW : WF N) {d : Nat} (hd : d < 256) {j : Nat} (hj : j < N 3) {t : Nat} : ∀ u, (plF N d (t + u)).testBit j = true → (plF N d t).testBit j = true
  | 0, h => h
  | u + 1, h => by
    rw [← Nat.add_assoc, pl_bit hW hd hj, Bool.and_eq_true] at h
    exact pl_mono hW hd hj u h.1
theorem pl_sub8 (hW : WF N) {d : Nat} (hd : d < 2 ^ N 3) (hd8 : d < 256) (t : Nat) : sub8 (plF N d (t + 1)) (plF N d t) := by
  intro j hj h
  have h3 := hW.2.2.2.1.2
  have h : (wfF N (plF N d t) (N 3)).testBit j = true := h
  rw [wfF_bit (plF_lt hW hd8 t) _ h3 j hj, Bool.and_eq_true] at h
  exact h.1
theorem lev_bit {d b t : Nat} (h : levN N d b t) : (plF N d t).testBit b = true := by
  unfold levN freeN at h
  rw [Bool.and_eq_true] at h
  exact h.1
theorem lev_out (hW : WF N) {d b t : Nat} (hd : d < 256) (hb : b < N 3) (h : levN N d b t) {u : Nat} (hu : t < u) : (plF N d u).testBit b = false := by
  cases hq : (plF N d u).testBit b
  · rfl
  · have := pl_mono hW hd hb (t := t + 1) (u - (t + 1)) (by rw [show t + 1 + (u - (t + 1)) = u by omega]; exact hq)
    rw [pl_bit hW hd hb, show freeN N (plF N d t) b = true from h] at this
    simp at this
theorem lev_uniq (hW : WF N) {d b t u : Nat} (hd : d < 256) (hb : b < N 3) (h : levN N d b t) (g : levN N d b u) : t = u := by
  have a := fun z => lev_out hW hd hb h (u := u) z
  have c := fun z => lev_out hW hd hb g (u := t) z
  rw [lev_bit g] at a
  rw [lev_bit h] at c
  have a' : ¬ t < u := fun z => by cases a z
  have c' : ¬ u < t := fun z => by cases c z
  omega
/-- taken away at some time -/
theorem lev_ex (hW : WF N) {d b : Nat} (hd : d < 256) (hb : b < N 3) (h0 : d.testBit b = true) : ∀ T, (plF N d T).testBit b = false → ∃ t, t < T ∧ levN N d b t
  | 0, h => by rw [show plF N d 0 = d from rfl, h0] at h; cases h
  | T + 1, h => by
    cases hq : (plF N d T).testBit b
    · obtain ⟨t, h1, h2⟩ := lev_ex hW hd hb h0 T hq
      exact ⟨t, by omega, h2⟩
    · rw [pl_bit hW hd hb, hq] at h
      refine ⟨T, by omega, ?_⟩
      unfold levN
      cases hf : freeN N (plF N d T) b
      · rw [hf] at h; simp at h
      · rfl
theorem lev_small (hW : WF N) {d b T : Nat} (hd : d < 2 ^ N 3) (hd8 : d < 256) (hb : b < N 3) (h : levN N d b T) : T < N 3 := by
  have h3 := hW.2.2.2.1.2
  have st : ∀ t, plF N d (t + 1) = plF N d t → ∀ u, plF N d (t + u) = plF N d t := by
    intro t e u
    induction u with
    | zero => rfl
    | succ u ih =>
      show wfF N (plF N d (t + u)) (N 3) = _
      rw [ih]
      exact e
  have hc : ∀ t, t ≤ T → zpc (plF N d t) + t ≤ zpc d := by
    intro t
    induction t with
    | zero => intro _; exact Nat.le_refl _
    | succ t ih =>
      intro ht
      have hne : plF N d (t + 1) ≠ plF N d t := by
        intro e
        have e1 := st t e (T - t)
        have e2 := st t e (T + 1 - t)
        rw [show t + (T - t) = T by omega] at e1
        rw [show t + (T + 1 - t) = T + 1 by omega] at e2
        have a := lev_bit h
        have c := lev_out hW hd8 hb h (u := T + 1) (by omega)
        rw [e2, ← e1, a] at c
        cases c
      have := zpc_sub (plF_lt hW hd8 (t + 1)) (plF_lt hW hd8 t) (pl_sub8 hW hd hd8 t) hne
      have := ih (by omega)
      omega
  have h1 := hc T (Nat.le_refl _)
  have h2 := zpc_pos _ (plF_lt hW hd8 T) b (by omega) (lev_bit h)
  have h4 := zpc_pow (N 3) h3 d hd
  omega
/-- a layer by those above -/
theorem lev_mk (hW : WF N) {d k T : Nat} (hd8 : d < 256) (hk : k < N 3) (h0 : d.testBit k = true) (ha : ∀ j, j < 8 → (abF N k (N 4)).testBit j = true → d.testBit j = true → ∃ t, t < T ∧ levN N d j t) (hm : T = 0 ∨ ∃ j, j < 8 ∧ (abF N k (N 4)).testBit j = true ∧ levN N d j (T - 1)) : levN N d k T := by
  have hin : ∀ t, t ≤ T → (plF N d t).testBit k = true := by
    intro t
    induction t with
    | zero => intro _; exact h0
    | succ t ih =>
      intro ht
      rw [pl_bit hW hd8 hk, ih (by omega), Bool.true_and, Bool.not_eq_true']
      cases hf : freeN N (plF N d t) k
      · rfl
      · obtain ⟨-, hz⟩ := (free_iff hW (plF_lt hW hd8 t)).mp hf
        rcases hm with hm | ⟨j, hj, h1, h2⟩
        · omega
        · have h3 := hz j hj h1
          have := pl_mono hW hd8 (abF_bitlt hW hj _ (Nat.le_refl _) h1) (t := t) (T - 1 - t) (by rw [show t + (T - 1 - t) = T - 1 by omega]; exact lev_bit h2)
          rw [h3] at this
          cases this
  refine (free_iff hW (plF_lt hW hd8 T)).mpr ⟨hin T (Nat.le_refl _), fun j hj h1 => ?_⟩
  have hj3 := abF_bitlt hW hj _ (Nat.le_refl _) h1
  cases hq : (plF N d T).testBit j
  · rfl
  · have h2 := pl_mono hW hd8 hj3 (t := 0) T (by rw [Nat.zero_add]; exact hq)
    obtain ⟨t, g1, g2⟩ := ha j hj h1 h2
    rw [lev_out hW hd8 hj3 g2 g1] at hq
    cases hq
/-- those above a layer have smaller ones -/
theorem lev_ab (hW : WF N) {d k T : Nat} (hd8 : d < 256) (h : levN N d k T) {j : Nat} (hj : j < 8) (h1 : (abF N k (N 4)).testBit j = true) (h2 : d.testBit j = true) : ∃ t, t < T ∧ levN N d j t :=
  lev_ex hW hd8 (abF_bitlt hW hj _ (Nat.le_refl _) h1) h2 T (((free_iff hW (plF_lt hW hd8 T)).mp h).2 j hj h1)
/-- the component's layer -/
theorem ly_ok (hW : WF N) {d b : Nat} (hd8 : d < 256) (hb : b < N 3) : ∀ n t, (∀ T, lyF N b n (plF N d t) t = some T → levN N d b T) ∧ (lyF N b n (plF N d t) t = none → ∀ T, t ≤ T → T < t + n → ¬ levN N d b T)
  | 0, t => ⟨fun T h => (by cases h), fun _ T h1 h2 => by omega⟩
  | n + 1, t => by
    obtain ⟨i1, i2⟩ := ly_ok hW hd8 hb n (t + 1)
    have e : lyF N b (n + 1) (plF N d t) t = if (plF N d t).testBit b = true then (if freeN N (plF N d t) b = true then some t else lyF N b n (plF N d (t + 1)) (t + 1)) else none := rfl
    rw [e]
    cases hq : (plF N d t).testBit b
    · simp only [Bool.false_eq_true, if_false]
      refine ⟨fun T h => (by cases h), fun _ T h1 h2 hL => ?_⟩
      have := pl_mono hW hd8 hb (t := t) (T - t) (by rw [show t + (T - t) = T by omega]; exact lev_bit hL)
      rw [hq] at this
      cases this
    · cases hf : freeN N (plF N d t) b
      · simp only [Bool.false_eq_true, if_false, if_true]
        refine ⟨i1, fun h T h1 h2 hL => ?_⟩
        by_cases hT : T = t
        · subst hT
          unfold levN at hL
          rw [hf] at hL
          cases hL
        · exact i2 h T (by omega) (by omega) hL
      · simp only [if_true]
        exact ⟨fun T h => by cases h; exact hf, fun h => by cases h⟩
end LYM
