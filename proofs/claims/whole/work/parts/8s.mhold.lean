/-! THE TEXT: the model reads a hold -/
section MHO
variable {E : zE} {h : zH} {sc T : Nat → Int32} {t : Nat → Nat} {L p : Nat} {N : Nat → Nat}
theorem tk3_lt (h3 : tkK t L p = 3) : tkV t L p < 100 := by
  have hk := h3
  unfold tkK at hk
  split at hk
  · omega
  · split at hk
    · omega
    · split at hk
      · rename_i q1 q2 q3
        split at hk
        · rename_i q4
          unfold tkV
          rw [q3, if_pos rfl]
          exact (ac_vl (by omega) q3 q4).2
        · omega
      · split at hk <;> omega
/-- the model's own test between the two numbers -/
def hdT (t : Nat → Nat) (L so : Nat) (N : Nat → Nat) (a : Nat) (e : Sum (Nat × Nat) Nat) : Sum (Nat × Nat) Nat := match e with
  | .inl x => .inl x
  | .inr q => if tkK t L q = 3 ∧ (tkV t L q = a ∨ heF N so a (tkV t L q) (N 4) = true) then .inl (2, q) else .inr q
theorem hdT_eq {so a q : Nat} : nmB t L 0 (N 3 - 1) (hdT t L so N a (.inr q)) = if hdF t L so N a q = 0 then .inr (tkX t L q) else .inl (hdF t L so N a q, q) := by
  unfold hdT
  dsimp only
  by_cases k3 : tkK t L q = 3
  · by_cases hh : tkV t L q = a ∨ heF N so a (tkV t L q) (N 4) = true
    · rw [if_pos ⟨k3, hh⟩]
      have e2 : hdF t L so N a q = 2 := by
        unfold hdF
        by_cases hn : nmF t L 0 (N 3 - 1) q = 0
        · rw [if_pos hn, if_pos]
          rcases hh with z | z
          · exact Or.inl z.symm
          · exact Or.inr z
        · rw [if_neg hn]
          unfold nmF at hn ⊢
          rw [if_pos k3] at hn ⊢
          split
          · rename_i z; rw [if_pos z] at hn; exact absurd rfl hn
          · rfl
      rw [e2]
      rfl
    · rw [if_neg (fun z => hh z.2)]
      have e2 : hdF t L so N a q = nmF t L 0 (N 3 - 1) q := by
        unfold hdF
        by_cases hn : nmF t L 0 (N 3 - 1) q = 0
        · rw [if_pos hn, hn, if_neg]
          intro z
          rcases z with z | z
          · exact hh (Or.inl z.symm)
          · exact hh (Or.inr z)
        · rw [if_neg hn]
      rw [e2]
      rfl
  · rw [if_neg (fun z => k3 z.1)]
    have hn : ¬ nmF t L 0 (N 3 - 1) q = 0 := by unfold nmF; rw [if_neg k3]; decide
    have e2 : hdF t L so N a q = nmF t L 0 (N 3 - 1) q := by unfold hdF; rw [if_neg hn]
    rw [e2]
    rfl
end MHO
