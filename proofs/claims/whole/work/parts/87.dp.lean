/-! THE LEAST ROWS OF LIFTS: by falls and seconds, the first of the least -/
def plt (x y : Nat × Nat) : Bool := decide (x.1 < y.1 ∨ (x.1 = y.1 ∧ x.2 < y.2))
def dpS (cur : Option ((Nat × Nat) × Nat)) (cand : Option (Nat × Nat)) (k : Nat) : Option ((Nat × Nat) × Nat) := match cand with
  | none => cur
  | some c => match cur with
    | none => some (c, k)
    | some p => if plt c p.1 = true then some (c, k) else some p
def dpB (cv : Nat → Nat → Option (Nat × Nat)) (w : Nat) : Nat → Option ((Nat × Nat) × Nat) → Option ((Nat × Nat) × Nat)
  | 0, cur => cur
  | b + 1, cur => dpS (dpB cv w b cur) (cv w b) (10 * w + b)
def dpW (cv : Nat → Nat → Option (Nat × Nat)) (nb : Nat) : Nat → Option ((Nat × Nat) × Nat)
  | 0 => none
  | w + 1 => dpB cv w nb (dpW cv nb w)
/-- what a row of lifts that begins with w and b comes to -/
def cvN (N : Nat → Nat) (S : Nat) (g : Bool) (T : Nat → Option (Nat × Nat)) (d w b : Nat) : Option (Nat × Nat) := if (S.testBit w && canN N (N (65 + 2 * w)) (N (66 + 2 * w)) d b) = true then (match T (zclr d b) with
    | none => none
    | some p => some (p.1 + (if g = true then falK (N (65 + 2 * w)) (catN N d b) else 0), p.2 + secK N (N (65 + 2 * w)) (N (9 + 2 * b)) (catN N d b))) else none
def dpT (N : Nat → Nat) (S : Nat) (g : Bool) : Nat → Nat → Option (Nat × Nat)
  | 0, d => if d = 0 then some (0, 0) else none
  | f + 1, d => if d = 0 then some (0, 0) else (dpW (fun w b => cvN N S g (dpT N S g f) d w b) (N 3) (N 5)).map Prod.fst
def TT (N : Nat → Nat) (S : Nat) (g : Bool) (d : Nat) : Option (Nat × Nat) := dpT N S g d d
theorem zclr_l : ∀ d, d < 256 → ∀ b, b < 8 → d.testBit b = true → zclr d b < d := by decide +kernel
theorem canN_bit {N : Nat → Nat} {kd fo d b : Nat} (h : canN N kd fo d b = true) : d.testBit b = true := by
  unfold canN freeN at h
  rw [Bool.and_eq_true, Bool.and_eq_true] at h
  exact h.1.1
theorem cvN_c {N : Nat → Nat} {S : Nat} {g : Bool} {T T' : Nat → Option (Nat × Nat)} {d w b : Nat} (hd : d < 256) (hb : b < 8) (e : ∀ r, r < d → T r = T' r) : cvN N S g T d w b = cvN N S g T' d w b := by
  unfold cvN
  split
  · rename_i h
    rw [Bool.and_eq_true] at h
    rw [e _ (zclr_l d hd b hb (canN_bit h.2))]
  · rfl
theorem dpB_c {cv cv' : Nat → Nat → Option (Nat × Nat)} {w : Nat} {cur : Option ((Nat × Nat) × Nat)} : ∀ n, (∀ b, b < n → cv w b = cv' w b) → dpB cv w n cur = dpB cv' w n cur
  | 0, _ => rfl
  | n + 1, h => by
    show dpS _ _ _ = dpS _ _ _
    rw [dpB_c n (fun b hb => h b (by omega)), h n (by omega)]
theorem dpW_c {cv cv' : Nat → Nat → Option (Nat × Nat)} {nb : Nat} : ∀ n, (∀ w b, w < n → b < nb → cv w b = cv' w b) → dpW cv nb n = dpW cv' nb n
  | 0, _ => rfl
  | n + 1, h => by
    show dpB _ _ _ _ = dpB _ _ _ _
    rw [dpW_c n (fun w b h1 h2 => h w b (by omega) h2), dpB_c nb (fun b hb => h n b (by omega) hb)]
theorem dpT_eq {N : Nat → Nat} {S : Nat} {g : Bool} (h3 : N 3 ≤ 8) : ∀ f d, d < 256 → d ≤ f → dpT N S g f d = TT N S g d := by
  intro f
  induction f using Nat.strongRecOn with
  | _ f ih =>
    intro d hd hdf
    match f, d, ih, hd, hdf with
    | 0, d, _, _, hdf =>
      have : d = 0 := by omega
      subst this
      rfl
    | f + 1, 0, _, _, _ => rfl
    | f + 1, d + 1, ih, hd, hdf =>
      show (if d + 1 = 0 then some (0, 0) else (dpW (fun w b => cvN N S g (dpT N S g f) (d + 1) w b) (N 3) (N 5)).map Prod.fst) = (if d + 1 = 0 then some (0, 0) else (dpW (fun w b => cvN N S g (dpT N S g d) (d + 1) w b) (N 3) (N 5)).map Prod.fst)
      rw [if_neg (by omega), if_neg (by omega)]
      congr 1
      refine dpW_c _ (fun w b _ hb => cvN_c hd (by omega) (fun r hr => ?_))
      rw [ih f (by omega) r (by omega) (by omega), ih d (by omega) r (by omega) (by omega)]
theorem TT_0 {N : Nat → Nat} {S : Nat} {g : Bool} : TT N S g 0 = some (0, 0) := rfl
theorem TT_s {N : Nat → Nat} {S : Nat} {g : Bool} (h3 : N 3 ≤ 8) {d : Nat} (hd : d < 256) (h0 : 0 < d) : TT N S g d = (dpW (fun w b => cvN N S g (TT N S g) d w b) (N 3) (N 5)).map Prod.fst := by
  match d, hd, h0 with
  | d + 1, hd, _ =>
    show (if d + 1 = 0 then some (0, 0) else (dpW (fun w b => cvN N S g (dpT N S g d) (d + 1) w b) (N 3) (N 5)).map Prod.fst) = _
    rw [if_neg (by omega)]
    congr 1
    exact dpW_c _ (fun w b _ hb => cvN_c hd (by omega) (fun r hr => dpT_eq h3 d r (by omega) (by omega)))
/-- the least of those that were looked at, and the first of them -/
def bstP (cv : Nat → Nat → Option (Nat × Nat)) (Q : Nat → Nat → Prop) (cur : Option ((Nat × Nat) × Nat)) : Prop := (cur = none → ∀ w b, Q w b → cv w b = none) ∧ ∀ m k, cur = some (m, k) → ∃ w b, Q w b ∧ k = 10 * w + b ∧ cv w b = some m ∧ (∀ w' b' m', Q w' b' → cv w' b' = some m' → plt m' m = false) ∧ ∀ w' b', Q w' b' → (w' < w ∨ (w' = w ∧ b' < b)) → cv w' b' ≠ some m
theorem plt_rf (m : Nat × Nat) : plt m m = false := by
  unfold plt
  rw [decide_eq_false]
  omega
theorem plt_tr {a b c : Nat × Nat} (h1 : plt a b = false) (h2 : plt c b = true) : plt a c = false := by
  unfold plt at *
  rw [decide_eq_false_iff_not] at h1 ⊢
  rw [decide_eq_true_eq] at h2
  omega
theorem bst_step {cv : Nat → Nat → Option (Nat × Nat)} {Q : Nat → Nat → Prop} {cur : Option ((Nat × Nat) × Nat)} {w b : Nat} (hQ : ∀ w' b', Q w' b' → w' < w ∨ (w' = w ∧ b' < b)) (h : bstP cv Q cur) : bstP cv (fun w' b' => Q w' b' ∨ (w' = w ∧ b' = b)) (dpS cur (cv w b) (10 * w + b)) := by
  obtain ⟨h1, h2⟩ := h
  unfold dpS
  cases hc : cv w b with
  | none =>
    refine ⟨fun e w' b' hq => ?_, fun m k e => ?_⟩
    · rcases hq with hq | ⟨rfl, rfl⟩
      · exact h1 e w' b' hq
      · exact hc
    · obtain ⟨w1, b1, q1, q2, q3, q4, q5⟩ := h2 m k e
      refine ⟨w1, b1, Or.inl q1, q2, q3, fun w' b' m' hq e' => ?_, fun w' b' hq hl => ?_⟩
      · rcases hq with hq | ⟨rfl, rfl⟩
        · exact q4 w' b' m' hq e'
        · rw [hc] at e'; cases e'
      · rcases hq with hq | ⟨rfl, rfl⟩
        · exact q5 w' b' hq hl
        · rw [hc]; exact fun z => by cases z
  | some c =>
    cases cur with
    | none =>
      refine ⟨fun e => (by cases e), fun m k e => ?_⟩
      cases e
      refine ⟨w, b, Or.inr ⟨rfl, rfl⟩, rfl, hc, fun w' b' m' hq e' => ?_, fun w' b' hq hl => ?_⟩
      · rcases hq with hq | ⟨rfl, rfl⟩
        · rw [h1 rfl w' b' hq] at e'; cases e'
        · rw [hc] at e'; cases e'; exact plt_rf _
      · rcases hq with hq | ⟨rfl, rfl⟩
        · rw [h1 rfl w' b' hq]; exact fun z => by cases z
        · omega
    | some p =>
      obtain ⟨m0, k0⟩ := p
      obtain ⟨w1, b1, q1, q2, q3, q4, q5⟩ := h2 m0 k0 rfl
      dsimp only
      cases hp : plt c m0
      · rw [if_neg (by decide)]
        refine ⟨fun e => (by cases e), fun m k e => ?_⟩
        cases e
        refine ⟨w1, b1, Or.inl q1, q2, q3, fun w' b' m' hq e' => ?_, fun w' b' hq hl => ?_⟩
        · rcases hq with hq | ⟨rfl, rfl⟩
          · exact q4 w' b' m' hq e'
          · rw [hc] at e'; cases e'; exact hp
        · rcases hq with hq | ⟨rfl, rfl⟩
          · exact q5 w' b' hq hl
          · have := hQ w1 b1 q1
            omega
      · rw [if_pos rfl]
        refine ⟨fun e => (by cases e), fun m k e => ?_⟩
        cases e
        refine ⟨w, b, Or.inr ⟨rfl, rfl⟩, rfl, hc, fun w' b' m' hq e' => ?_, fun w' b' hq hl => ?_⟩
        · rcases hq with hq | ⟨rfl, rfl⟩
          · exact plt_tr (q4 w' b' m' hq e') hp
          · rw [hc] at e'; cases e'; exact plt_rf _
        · rcases hq with hq | ⟨rfl, rfl⟩
          · intro z
            have := q4 w' b' _ hq z
            rw [hp] at this
            cases this
          · omega
theorem bst_c {cv : Nat → Nat → Option (Nat × Nat)} {Q Q' : Nat → Nat → Prop} {cur : Option ((Nat × Nat) × Nat)} (h : bstP cv Q cur) (e : ∀ w b, Q w b ↔ Q' w b) : bstP cv Q' cur := by
  rw [show Q' = Q from funext (fun w => funext (fun b => propext (e w b).symm))]
  exact h
theorem dpB_ok {cv : Nat → Nat → Option (Nat × Nat)} {nb w : Nat} {cur : Option ((Nat × Nat) × Nat)} (h : bstP cv (fun w' b' => w' < w ∧ b' < nb) cur) : ∀ n, n ≤ nb → bstP cv (fun w' b' => (w' < w ∧ b' < nb) ∨ (w' = w ∧ b' < n)) (dpB cv w n cur)
  | 0, _ => bst_c h (fun w' b' => by omega)
  | n + 1, hn => bst_c (bst_step (w := w) (b := n) (fun w' b' hq => by omega) (dpB_ok h n (by omega))) (fun w' b' => by omega)
theorem dpW_ok {cv : Nat → Nat → Option (Nat × Nat)} {nb : Nat} : ∀ n, bstP cv (fun w b => w < n ∧ b < nb) (dpW cv nb n)
  | 0 => ⟨fun _ w b h => by omega, fun m k e => by cases e⟩
  | n + 1 => bst_c (dpB_ok (dpW_ok n) nb (Nat.le_refl _)) (fun w b => by omega)
/-- how large they are -/
theorem TT_bd {N : Nat → Nat} (hW : WF N) {S : Nat} {g : Bool} : ∀ d, d < 256 → ∀ m, TT N S g d = some m → m.1 ≤ 10 * zpc d ∧ m.2 ≤ 255 * zpc d := by
  have h3 := hW.2.2.2.1.2
  intro d
  induction d using Nat.strongRecOn with
  | _ d ih =>
    intro hd m hm
    by_cases h0 : d = 0
    · subst h0
      rw [TT_0] at hm
      cases hm
      exact ⟨Nat.zero_le _, Nat.zero_le _⟩
    · rw [TT_s h3 hd (by omega)] at hm
      cases hq : dpW (fun w b => cvN N S g (TT N S g) d w b) (N 3) (N 5) with
      | none => rw [hq] at hm; cases hm
      | some p =>
        obtain ⟨m0, k⟩ := p
        rw [hq] at hm
        cases hm
        obtain ⟨w, b, ⟨-, hb⟩, -, hc, -⟩ := (dpW_ok (cv := fun w b => cvN N S g (TT N S g) d w b) (nb := N 3) (N 5)).2 _ k hq
        dsimp only at hc
        unfold cvN at hc
        split at hc
        · rename_i hs
          rw [Bool.and_eq_true] at hs
          have hbit := canN_bit hs.2
          have hl := zclr_l d hd b (by omega) hbit
          cases hT : TT N S g (zclr d b) with
          | none => rw [hT] at hc; cases hc
          | some r =>
            rw [hT] at hc
            obtain ⟨i1, i2⟩ := ih _ hl (by omega) r hT
            have hz := zpc_clr d hd b (by omega)
            rw [hbit] at hz
            have hz : zpc (zclr d b) = zpc d - 1 := hz
            have hp := zpc_pos d hd b (by omega) hbit
            have hcl := catN_le hW.2.2.2.2.1 (d := d) (b := b)
            have hsl := secK_lt (kd := N (65 + 2 * w)) hW (hW.bk hb).1.2 hcl
            have hfl : falK (N (65 + 2 * w)) (catN N d b) ≤ 10 := by
              unfold falK
              split
              · exact hcl
              · omega
            dsimp only at hc
            cases hc
            refine ⟨?_, ?_⟩
            · show r.1 + _ ≤ _
              split
              · omega
              · omega
            · show r.2 + _ ≤ _
              omega
        · cases hc
theorem TT_b2 {N : Nat → Nat} (hW : WF N) {S : Nat} {g : Bool} {d : Nat} (hd : d < 256) {m : Nat × Nat} (h : TT N S g d = some m) : m.1 ≤ 80 ∧ m.2 ≤ 2040 := by
  have := TT_bd hW d hd m h
  have := (zbc_k d hd).2
  omega
/-- without falls there are none -/
theorem TT_f0 {N : Nat → Nat} (hW : WF N) {S : Nat} : ∀ d, d < 256 → ∀ m, TT N S false d = some m → m.1 = 0 := by
  have h3 := hW.2.2.2.1.2
  intro d
  induction d using Nat.strongRecOn with
  | _ d ih =>
    intro hd m hm
    by_cases h0 : d = 0
    · subst h0
      rw [TT_0] at hm
      cases hm
      rfl
    · rw [TT_s h3 hd (by omega)] at hm
      cases hq : dpW (fun w b => cvN N S false (TT N S false) d w b) (N 3) (N 5) with
      | none => rw [hq] at hm; cases hm
      | some p =>
        obtain ⟨m0, k⟩ := p
        rw [hq] at hm
        cases hm
        obtain ⟨w, b, ⟨-, hb⟩, -, hc, -⟩ := (dpW_ok (cv := fun w b => cvN N S false (TT N S false) d w b) (nb := N 3) (N 5)).2 _ k hq
        dsimp only at hc
        unfold cvN at hc
        split at hc
        · rename_i hs
          rw [Bool.and_eq_true] at hs
          have hl := zclr_l d hd b (by omega) (canN_bit hs.2)
          cases hT : TT N S false (zclr d b) with
          | none => rw [hT] at hc; cases hc
          | some r =>
            rw [hT] at hc
            dsimp only at hc
            cases hc
            have := ih _ hl (by omega) r hT
            show r.1 + _ = 0
            rw [this, if_neg (by decide)]
        · cases hc
def enc (K : Nat) (p : Nat × Nat) : Nat := K * p.1 + p.2
theorem enc_lt {K : Nat} {a b : Nat × Nat} (ha : a.2 < K) (hb : b.2 < K) : enc K a < enc K b ↔ plt a b = true := by
  unfold enc plt
  rw [decide_eq_true_eq]
  constructor
  · intro h
    rcases Nat.lt_trichotomy a.1 b.1 with h1 | h1 | h1
    · exact Or.inl h1
    · rw [h1] at h
      exact Or.inr ⟨h1, by omega⟩
    · have : K * (b.1 + 1) ≤ K * a.1 := Nat.mul_le_mul_left K h1
      rw [Nat.mul_add] at this
      omega
  · intro h
    rcases h with h | ⟨h1, h2⟩
    · have : K * (a.1 + 1) ≤ K * b.1 := Nat.mul_le_mul_left K h
      rw [Nat.mul_add] at this
      omega
    · rw [h1]
      omega
theorem enc_eq {K : Nat} {a b : Nat × Nat} (ha : a.2 < K) (hb : b.2 < K) (h : enc K a = enc K b) : a = b := by
  have h1 := enc_lt ha hb
  have h2 := enc_lt hb ha
  unfold plt at h1 h2
  rw [decide_eq_true_eq] at h1 h2
  have e1 : ¬ (a.1 < b.1 ∨ (a.1 = b.1 ∧ a.2 < b.2)) := fun z => by have := h1.mpr z; omega
  have e2 : ¬ (b.1 < a.1 ∨ (b.1 = a.1 ∧ b.2 < a.2)) := fun z => by have := h2.mpr z; omega
  exact Prod.ext (by omega) (by omega)
