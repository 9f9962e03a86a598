/-! THE ABSTRACT YARD: 73 numbers N. 0 reach 1 loose 2 note 3 bikes 4 holds 5 lifters 6 seconds 7 falls 8 down; 9+2b weight 10+2b gap; 25+4k sort 26+4k a 27+4k b 28+4k loose; 65+2w kind 66+2w force -/
/-- who lies on b, of the first n holds -/
def abF (N : Nat → Nat) (b : Nat) : Nat → Nat
  | 0 => 0
  | n + 1 => if N (25 + 4 * n) = 0 ∧ N (27 + 4 * n) = b then zput (abF N b n) (N (26 + 4 * n)) else abF N b n
/-- whom b is caught with, of the first n holds -/
def caF (N : Nat → Nat) (b : Nat) : Nat → Nat
  | 0 => 0
  | n + 1 => if N (25 + 4 * n) = 1 ∧ N (28 + 4 * n) = 0 ∧ N (26 + 4 * n) = b then zput (caF N b n) (N (27 + 4 * n)) else if N (25 + 4 * n) = 1 ∧ N (28 + 4 * n) = 0 ∧ N (27 + 4 * n) = b then zput (caF N b n) (N (26 + 4 * n)) else caF N b n
/-- how many of the first n holds catch b with one of d -/
def ctF (N : Nat → Nat) (d b : Nat) : Nat → Nat
  | 0 => 0
  | n + 1 => ctF N d b n + (if N (25 + 4 * n) = 1 ∧ N (28 + 4 * n) = 0 ∧ ((N (26 + 4 * n) = b ∧ d.testBit (N (27 + 4 * n)) = true) ∨ (N (27 + 4 * n) = b ∧ d.testBit (N (26 + 4 * n)) = true)) then 1 else 0)
/-- the loose ones of the first n holds -/
def lsF (N : Nat → Nat) : Nat → Nat
  | 0 => 0
  | n + 1 => lsF N n + (if N (28 + 4 * n) = 1 then 2 ^ n else 0)
def freeN (N : Nat → Nat) (d b : Nat) : Bool := d.testBit b && decide (abF N b (N 4) &&& d = 0)
def catN (N : Nat → Nat) (d b : Nat) : Nat := if d.testBit b then ctF N d b (N 4) else 0
def manN (kd fo w c : Nat) : Bool := decide (w ≤ if kd = 3 then 2 * fo else fo) && (decide (kd < 4) || decide (c = 0))
def canN (N : Nat → Nat) (kd fo d b : Nat) : Bool := freeN N d b && manN kd fo (N (9 + 2 * b)) (catN N d b)
def secK (N : Nat → Nat) (kd w c : Nat) : Nat := if kd = 1 then w + 3 * c else if kd = 2 then w + N 1 * c else if kd = 3 then (w + 3 * c) / 2 else if kd = 4 then w / 2 else w / 2 + N 2
def falK (kd c : Nat) : Nat := if kd = 1 ∨ kd = 3 then c else 0
/-- a yard that was read, as it can be -/
def WF (N : Nat → Nat) : Prop :=
  (1 ≤ N 0 ∧ N 0 ≤ 9) ∧ N 1 ≤ 9 ∧ N 2 ≤ 20 ∧ (1 ≤ N 3 ∧ N 3 ≤ 8) ∧ N 4 ≤ 10 ∧ N 5 ≤ 4 ∧ N 8 < 2 ^ N 3 ∧
  (∀ b, b < N 3 → (1 ≤ N (9 + 2 * b) ∧ N (9 + 2 * b) ≤ 30) ∧ 1 ≤ N (10 + 2 * b) ∧ N (10 + 2 * b) ≤ 20) ∧
  (∀ k, k < N 4 → N (25 + 4 * k) ≤ 1 ∧ N (26 + 4 * k) < N 3 ∧ N (27 + 4 * k) < N 3 ∧ N (26 + 4 * k) ≠ N (27 + 4 * k) ∧ N (28 + 4 * k) ≤ N (25 + 4 * k)) ∧
  (∀ k j, k < N 4 → j < k → N (25 + 4 * k) = N (25 + 4 * j) → ¬ (N (26 + 4 * k) = N (26 + 4 * j) ∧ N (27 + 4 * k) = N (27 + 4 * j)) ∧ ¬ (N (26 + 4 * k) = N (27 + 4 * j) ∧ N (27 + 4 * k) = N (26 + 4 * j))) ∧
  (∀ w, w < N 5 → (1 ≤ N (65 + 2 * w) ∧ N (65 + 2 * w) ≤ 5) ∧ 1 ≤ N (66 + 2 * w) ∧ N (66 + 2 * w) ≤ 40)
/-- no yard was read -/
def WZ (N : Nat → Nat) : Prop := ∀ i, i < 73 → N i = 0
theorem zput_lt {d b : Nat} (hd : d < 256) (hb : b < 8) : zput d b < 256 := (zput_k d hd b hb).2
theorem abF_lt {N : Nat → Nat} {b : Nat} : ∀ {n : Nat}, (∀ k, k < n → N (26 + 4 * k) < 8) → abF N b n < 256
  | 0, _ => Nat.zero_lt_succ _
  | n + 1, h => by
    have ih := abF_lt (N := N) (b := b) (n := n) (fun k hk => h k (by omega))
    unfold abF
    split
    · exact zput_lt ih (h n (by omega))
    · exact ih
theorem caF_lt {N : Nat → Nat} {b : Nat} : ∀ {n : Nat}, (∀ k, k < n → N (26 + 4 * k) < 8 ∧ N (27 + 4 * k) < 8) → caF N b n < 256
  | 0, _ => Nat.zero_lt_succ _
  | n + 1, h => by
    have ih := caF_lt (N := N) (b := b) (n := n) (fun k hk => h k (by omega))
    unfold caF
    split
    · exact zput_lt ih (h n (by omega)).2
    · split
      · exact zput_lt ih (h n (by omega)).1
      · exact ih
/-- zpc as a sum: one more bit -/
theorem zpc_put : ∀ x, x < 256 → ∀ d, d < 256 → ∀ j, j < 8 → x.testBit j = false → zpc (zput x j &&& d) = zpc (x &&& d) + (if d.testBit j then 1 else 0) := by
  intro x hx d hd j hj hxj
  have hb : ∀ i, i < 8 → (zput x j &&& d).testBit i = ((x &&& d).testBit i || (decide (i = j) && d.testBit i)) := by
    intro i hi
    rw [Nat.testBit_and, Nat.testBit_and, zput_bit x hx j hj i hi]
    cases x.testBit i <;> cases d.testBit i <;> simp
  have hz : (x &&& d).testBit j = false := by rw [Nat.testBit_and, hxj]; rfl
  unfold zpc
  rw [hb 0 (by omega), hb 1 (by omega), hb 2 (by omega), hb 3 (by omega), hb 4 (by omega), hb 5 (by omega), hb 6 (by omega), hb 7 (by omega)]
  generalize hA : (x &&& d) = A at hz ⊢
  match j, hj with
  | 0, _ => rw [hz]; cases d.testBit 0 <;> simp <;> omega
  | 1, _ => rw [hz]; cases d.testBit 1 <;> simp <;> omega
  | 2, _ => rw [hz]; cases d.testBit 2 <;> simp <;> omega
  | 3, _ => rw [hz]; cases d.testBit 3 <;> simp <;> omega
  | 4, _ => rw [hz]; cases d.testBit 4 <;> simp <;> omega
  | 5, _ => rw [hz]; cases d.testBit 5 <;> simp <;> omega
  | 6, _ => rw [hz]; cases d.testBit 6 <;> simp <;> omega
  | 7, _ => rw [hz]; cases d.testBit 7 <;> simp <;> omega
/-- a partner that stands in the set comes of a hold -/
theorem caF_bit {N : Nat → Nat} {b j : Nat} (hj : j < 8) : ∀ {n : Nat}, (∀ k, k < n → N (26 + 4 * k) < 8 ∧ N (27 + 4 * k) < 8) → (caF N b n).testBit j = true → ∃ k, k < n ∧ N (25 + 4 * k) = 1 ∧ N (28 + 4 * k) = 0 ∧ ((N (26 + 4 * k) = b ∧ N (27 + 4 * k) = j) ∨ (N (27 + 4 * k) = b ∧ N (26 + 4 * k) = j))
  | 0, _, h => by simp [caF] at h
  | n + 1, hl, h => by
    have hlt := caF_lt (N := N) (b := b) (n := n) (fun k hk => hl k (by omega))
    have ih : (caF N b n).testBit j = true → _ := caF_bit hj (n := n) (fun k hk => hl k (by omega))
    have up : (caF N b n).testBit j = true → ∃ k, k < n + 1 ∧ N (25 + 4 * k) = 1 ∧ N (28 + 4 * k) = 0 ∧ ((N (26 + 4 * k) = b ∧ N (27 + 4 * k) = j) ∨ (N (27 + 4 * k) = b ∧ N (26 + 4 * k) = j)) := by
      intro h1
      obtain ⟨k, hk, hr⟩ := ih h1
      exact ⟨k, by omega, hr⟩
    unfold caF at h
    split at h
    · rename_i hc
      rw [zput_bit _ hlt _ (hl n (by omega)).2 j hj, Bool.or_eq_true, decide_eq_true_eq] at h
      rcases h with h | h
      · exact up h
      · exact ⟨n, by omega, hc.1, hc.2.1, Or.inl ⟨hc.2.2, h.symm⟩⟩
    · split at h
      · rename_i hc
        rw [zput_bit _ hlt _ (hl n (by omega)).1 j hj, Bool.or_eq_true, decide_eq_true_eq] at h
        rcases h with h | h
        · exact up h
        · exact ⟨n, by omega, hc.1, hc.2.1, Or.inr ⟨hc.2.2, h.symm⟩⟩
      · exact up h
/-- the sets count as the holds do -/
theorem cat_eq {N : Nat → Nat} (hW : WF N) {d b : Nat} (hd : d < 256) : ∀ n, n ≤ N 4 → zpc (caF N b n &&& d) = ctF N d b n := by
  obtain ⟨-, -, -, ⟨-, h3⟩, h4, -, -, -, hh, hu, -⟩ := hW
  have hl : ∀ k, k < N 4 → N (26 + 4 * k) < 8 ∧ N (27 + 4 * k) < 8 := fun k hk => ⟨by have := (hh k hk).2.1; omega, by have := (hh k hk).2.2.1; omega⟩
  intro n
  induction n with
  | zero => intro _; simp [caF, ctF, zpc]
  | succ n ih =>
    intro hn
    have ihn := ih (by omega)
    have hlt := caF_lt (N := N) (b := b) (n := n) (fun k hk => hl k (by omega))
    have hkn := hl n (by omega)
    have hne := (hh n (by omega)).2.2.2.1
    unfold caF ctF
    by_cases c1 : N (25 + 4 * n) = 1 ∧ N (28 + 4 * n) = 0 ∧ N (26 + 4 * n) = b
    · rw [if_pos c1]
      have hnb : (caF N b n).testBit (N (27 + 4 * n)) = false := by
        cases hq : (caF N b n).testBit (N (27 + 4 * n)) with
        | false => rfl
        | true =>
          obtain ⟨k, hk, q1, q2, q3⟩ := caF_bit hkn.2 (n := n) (fun k hk => hl k (by omega)) hq
          have := hu n k (by omega) hk (by rw [c1.1, q1])
          rcases q3 with q3 | q3
          · exact absurd ⟨by rw [c1.2.2, q3.1], q3.2.symm⟩ this.1
          · exact absurd ⟨by rw [c1.2.2, q3.1], q3.2.symm⟩ this.2
      rw [zpc_put _ hlt d hd _ hkn.2 hnb, ihn]
      congr 1
      by_cases hq : d.testBit (N (27 + 4 * n)) = true
      · rw [if_pos hq, if_pos ⟨c1.1, c1.2.1, Or.inl ⟨c1.2.2, hq⟩⟩]
      · rw [if_neg hq, if_neg]
        rintro ⟨-, -, ⟨-, z⟩ | ⟨z, -⟩⟩
        · exact hq z
        · exact hne (c1.2.2.trans z.symm)
    · rw [if_neg c1]
      by_cases c2 : N (25 + 4 * n) = 1 ∧ N (28 + 4 * n) = 0 ∧ N (27 + 4 * n) = b
      · rw [if_pos c2]
        have hnb : (caF N b n).testBit (N (26 + 4 * n)) = false := by
          cases hq : (caF N b n).testBit (N (26 + 4 * n)) with
          | false => rfl
          | true =>
            obtain ⟨k, hk, q1, q2, q3⟩ := caF_bit hkn.1 (n := n) (fun k hk => hl k (by omega)) hq
            have := hu n k (by omega) hk (by rw [c2.1, q1])
            rcases q3 with q3 | q3
            · exact absurd ⟨q3.2.symm, by rw [c2.2.2, q3.1]⟩ this.2
            · exact absurd ⟨q3.2.symm, by rw [c2.2.2, q3.1]⟩ this.1
        rw [zpc_put _ hlt d hd _ hkn.1 hnb, ihn]
        congr 1
        by_cases hq : d.testBit (N (26 + 4 * n)) = true
        · rw [if_pos hq, if_pos ⟨c2.1, c2.2.1, Or.inr ⟨c2.2.2, hq⟩⟩]
        · rw [if_neg hq, if_neg]
          rintro ⟨-, -, ⟨z, -⟩ | ⟨-, z⟩⟩
          · exact c1 ⟨c2.1, c2.2.1, z⟩
          · exact hq z
      · rw [if_neg c2, ihn, if_neg, Nat.add_zero]
        rintro ⟨z1, z2, ⟨z, -⟩ | ⟨z, -⟩⟩
        · exact c1 ⟨z1, z2, z⟩
        · exact c2 ⟨z1, z2, z⟩
