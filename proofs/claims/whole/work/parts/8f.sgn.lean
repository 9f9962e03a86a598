/-! THE TEXT: signs and numbers of both -/
def sgN (t : Nat → Nat) (L c p : Nat) : Bool := decide (p < L) && decide (t p = c)
def nmF (t : Nat → Nat) (L lo hi p : Nat) : Nat := if tkK t L p = 3 then (if lo ≤ tkV t L p ∧ tkV t L p ≤ hi then 0 else 2) else 1
/-- a letter or a sign -/
def isS (c : Nat) : Prop := ltr c = true ∨ c = 44 ∨ c = 59
theorem isS_nf {c : Nat} (h : isS c) : fig c = false ∧ 44 ≤ c ∧ c ≤ 122 ∧ c ≠ 48 := by
  rcases h with h | h | h
  · unfold ltr at h
    rw [Bool.and_eq_true, decide_eq_true_eq, decide_eq_true_eq] at h
    refine ⟨?_, by omega, by omega, by omega⟩
    unfold fig
    rw [decide_eq_false (show ¬ c ≤ 57 by omega), Bool.and_false]
  · subst h; exact ⟨rfl, by omega, by omega, by omega⟩
  · subst h; exact ⟨rfl, by omega, by omega, by omega⟩
section SGN
variable {t : Nat → Nat} {L : Nat} {T : Nat → Int32}
theorem tkC_sg (hT : tpO T t L) {c p : Nat} (hc : isS c) : (tkC t L p = nI c) = (sgN t L c p = true) := by
  have hn := isS_nf hc
  apply propext
  unfold tkC sgN
  by_cases hp : L ≤ p
  · rw [if_pos hp, decide_eq_false (by omega), Bool.false_and]
    constructor
    · intro z
      exact absurd z.symm (by rw [show (-1 : Int32) = -1 from rfl]; intro q; have := nI_pos (n := c) (by omega); rw [q] at this; exact this (by decide))
    · intro z; cases z
  · obtain ⟨t1, -⟩ := hT p (by omega)
    rw [if_neg hp, decide_eq_true (by omega), Bool.true_and, decide_eq_true_eq]
    by_cases hf : fig (t p) = true
    · rw [if_pos hf]
      have hne : t p ≠ c := fun z => by rw [z, hn.1] at hf; cases hf
      constructor
      · intro z
        split at z
        · rw [show (48 : Int32) = nI 48 from rfl, nI_eqP (by omega) (by omega)] at z
          omega
        · rw [show (0 : Int32) = nI 0 from rfl, nI_eqP (by omega) (by omega)] at z
          omega
      · intro z; exact absurd z hne
    · rw [if_neg hf]
      by_cases hs : ltr (t p) = true ∨ t p = 44 ∨ t p = 59
      · rw [if_pos hs, nI_eqP (by omega) (by omega)]
      · rw [if_neg hs]
        constructor
        · intro z
          rw [show (0 : Int32) = nI 0 from rfl, nI_eqP (by omega) (by omega)] at z
          omega
        · intro z
          rw [z] at hs
          exact absurd hc hs
theorem tkC_48 (hT : tpO T t L) {p : Nat} : (tkC t L p = 48) = (tkK t L p = 3) := by
  apply propext
  unfold tkC tkK
  by_cases hp : L ≤ p
  · rw [if_pos hp, if_pos hp]
    constructor
    · intro z; exact absurd z (by decide)
    · intro z; omega
  · obtain ⟨t1, -⟩ := hT p (by omega)
    rw [if_neg hp, if_neg hp]
    by_cases hf : fig (t p) = true
    · rw [if_pos hf, fig_ltr hf, if_neg (show ¬ (false = true) by decide), if_pos hf]
      by_cases h2 : rnN t L p - p ≤ 2
      · rw [if_pos h2, if_pos h2]; simp
      · rw [if_neg h2, if_neg h2]
        constructor
        · intro z; exact absurd z (by decide)
        · intro z; omega
    · rw [if_neg hf]
      have h48 : t p ≠ 48 := fun z => by rw [z] at hf; exact hf rfl
      constructor
      · intro z
        split at z
        · rw [show (48 : Int32) = nI 48 from rfl, nI_eqP (by omega) (by omega)] at z
          omega
        · exact absurd z (by decide)
      · intro z
        split at z
        · omega
        · split at z <;> omega
theorem sg_tk {c p : Nat} (hc : isS c) (h : sgN t L c p = true) : p < L ∧ t p = c ∧ tkX t L p = p + 1 ∧ tkV t L p = c ∧ fig (t p) = false := by
  have hn := isS_nf hc
  unfold sgN at h
  rw [Bool.and_eq_true, decide_eq_true_eq, decide_eq_true_eq] at h
  refine ⟨h.1, h.2, ?_, ?_, by rw [h.2]; exact hn.1⟩
  · unfold tkX
    rw [if_neg (by omega), h.2, hn.1, if_neg (by decide)]
  · unfold tkV
    rw [h.2, hn.1, if_neg (by decide)]
/-- by kind and value: a letter -/
theorem sg_l (hT : tpO T t L) {c p : Nat} (hc : ltr c = true) : (tkK t L p = 2 ∧ tkV t L p = c) ↔ sgN t L c p = true := by
  have hn := isS_nf (Or.inl hc)
  constructor
  · rintro ⟨h1, h2⟩
    unfold tkK at h1
    split at h1
    · omega
    · split at h1
      · rename_i hp hl
        have hf : fig (t p) = false := by
          cases hq : fig (t p)
          · rfl
          · rw [fig_ltr hq] at hl; cases hl
        unfold tkV at h2
        rw [hf, if_neg (by decide)] at h2
        unfold sgN
        rw [decide_eq_true (by omega), decide_eq_true h2]
        rfl
      · split at h1
        · split at h1 <;> omega
        · split at h1 <;> omega
  · intro h
    obtain ⟨h1, h2, h3, h4, h5⟩ := sg_tk (Or.inl hc) h
    refine ⟨?_, h4⟩
    unfold tkK
    rw [if_neg (by omega), h2, hc, if_pos rfl]
/-- a sign -/
theorem sg_s (hT : tpO T t L) {c p : Nat} (hc : c = 44 ∨ c = 59) : (tkK t L p = 4 ∧ tkV t L p = c) ↔ sgN t L c p = true := by
  have hs : isS c := Or.inr hc
  have hn := isS_nf hs
  have hl : ltr c = false := by rcases hc with rfl | rfl <;> rfl
  constructor
  · rintro ⟨h1, h2⟩
    unfold tkK at h1
    split at h1
    · omega
    · split at h1
      · omega
      · split at h1
        · split at h1 <;> omega
        · rename_i hp _ hf
          have hf : fig (t p) = false := by simpa using hf
          unfold tkV at h2
          rw [hf, if_neg (by decide)] at h2
          unfold sgN
          rw [decide_eq_true (by omega), decide_eq_true h2]
          rfl
  · intro h
    obtain ⟨h1, h2, h3, h4, h5⟩ := sg_tk hs h
    refine ⟨?_, h4⟩
    unfold tkK
    rw [if_neg (by omega), h2, hl, if_neg (by decide), hn.1, if_neg (by decide), if_pos hc]
end SGN
section RDN
variable {E : zE} {h : zH} {r T : Nat → Int32} {t : Nat → Nat} {L : Nat}
/-- the reader stands before p -/
def RB (h : zH) (r T : Nat → Int32) (L p : Nat) : Prop := RD h r T ∧ r 1 = nI L ∧ r 3 = nI p
theorem RB.keep {h' : zH} {p : Nat} (hB : RB h r T L p) (e2 : h'[2]? = h[2]?) (e3 : h'[3]? = h[3]?) : RB h' r T L p := ⟨hB.1.keep e2 e3, hB.2⟩
theorem sp_refuse (hR : RD h r T) (k : Int32) : zcall zpp E 47 [.ref 2, .int k] h = some (some (.int 0), zpf h 2 2 (.int k)) := by
  simp only [ze47, zi47_0, zi47_0n, zi47_1, zi47_2, zi47_5, zi47_6 (sk := []), zcl1, zlow_0, zlow_1, zlow_2, zlow_3, zlow_4, zfree_0, zfree_i, zfree_r, zfree_n, zfree_d, zfree_f, zfree_s, if_true, if_false, Option.bind_some, Option.toList_some, Option.toList_none, List.cons_append, List.nil_append, List.set_cons_zero, List.set_cons_succ, Bool.false_eq_true, reduceIte, zsw_c, zsw_n, Nat.reduceAdd, hR.st 2 (by omega) (by omega), z00]
theorem sp_sign {c p : Nat} (hL : L ≤ 120) (hp : p ≤ L) (hT : tpO T t L) (hc : isS c) (hB : RB h r T L p) : ∃ h' r', zcall zpp E 45 [.ref 2, .int (nI c)] h = some (some (.int (zb (sgN t L c p))), h') ∧ RB h' r' T L (tkX t L p) ∧ r' 4 = nI p ∧ r' 5 = tkC t L p ∧ r' 2 = (if sgN t L c p = true then r 2 else 1) ∧ zsm (fun a => a = 2) h h' := by
  have c1 : zsel 5 [5, 48] = some 48 := rfl
  have c2 : zsel 5 [5, 47] = some 47 := rfl
  obtain ⟨h1, r1, a1, a2, a3, a4, a5, a6, a7, -, a9⟩ := sp_advance (E := E) hL hp hT hB.1 hB.2.1 hB.2.2
  have f5 := a2.i 5 (by omega) (by omega)
  rw [a7] at f5
  have e1 : zcall zpp E 45 [.ref 2, .int (nI c)] h = zrun zpp E 45 (9, [.ref 2, .int (nI c)], [.int (nI c), .int (tkC t L p)], h1) := by
    conv =>
      lhs
      simp only [ze45, zi45_0, zi45_0n, zi45_1, zi45_4, zi45_4n, zi45_5, zi45_8, zcl1, zlow_0, zlow_1, zlow_2, zlow_3, zlow_4, zfree_0, zfree_i, zfree_r, zfree_n, zfree_d, zfree_f, zfree_s, if_true, if_false, Option.bind_some, Option.toList_some, Option.toList_none, List.cons_append, List.nil_append, List.set_cons_zero, List.set_cons_succ, Bool.false_eq_true, reduceIte, zsw_c, zsw_n, Nat.reduceAdd, hB.1.1, c1, a1, f5]
  cases hs : sgN t L c p
  · refine ⟨_, _, ?_, ⟨a2.put 2 (by omega) (by omega) 1, a3, a5⟩, a6, a7, rfl, a9.tr zsm_pf⟩
    rw [e1, zi45_9, if_neg (by rw [tkC_sg hT hc, hs]; decide)]
    simp only [zi45_12, zi45_12n, zi45_13, zi45_14, zi45_17, zi45_20, zi45_21, zi45_24, zi45_25 (sk := []), zcl1, zlow_0, zlow_1, zlow_2, zlow_3, zlow_4, zfree_0, zfree_i, zfree_r, zfree_n, zfree_d, zfree_f, zfree_s, if_true, if_false, Option.bind_some, Option.toList_some, Option.toList_none, List.cons_append, List.nil_append, List.set_cons_zero, List.set_cons_succ, Bool.false_eq_true, reduceIte, zsw_c, zsw_n, Nat.reduceAdd, a2.1, c2, sp_refuse a2, z00, zb_f]
  · refine ⟨h1, r1, ?_, ⟨a2, a3, a5⟩, a6, a7, by rw [if_pos rfl]; exact a4, a9⟩
    rw [e1, zi45_9, if_pos (by rw [tkC_sg hT hc, hs])]
    simp only [zi45_12, zi45_12n, zi45_13, zi45_14, zi45_17, zi45_20, zi45_21, zi45_24, zi45_25 (sk := []), zcl1, zlow_0, zlow_1, zlow_2, zlow_3, zlow_4, zfree_0, zfree_i, zfree_r, zfree_n, zfree_d, zfree_f, zfree_s, if_true, if_false, Option.bind_some, Option.toList_some, Option.toList_none, List.cons_append, List.nil_append, List.set_cons_zero, List.set_cons_succ, Bool.false_eq_true, reduceIte, zsw_c, zsw_n, Nat.reduceAdd, z10, zb_t]
theorem sp_number {lo hi p : Nat} (hL : L ≤ 120) (hp : p ≤ L) (hT : tpO T t L) (hlo : lo < 1000) (hhi : hi < 1000) (hB : RB h r T L p) : ∃ h' r', zcall zpp E 46 [.ref 2, .int (nI lo), .int (nI hi)] h = some (some (.int (zb (decide (nmF t L lo hi p = 0)))), h') ∧ RB h' r' T L (tkX t L p) ∧ r' 4 = nI p ∧ r' 5 = tkC t L p ∧ r' 2 = (if nmF t L lo hi p = 0 then r 2 else nI (nmF t L lo hi p)) ∧ (nmF t L lo hi p = 0 → r' 6 = nI (tkV t L p)) ∧ zsm (fun a => a = 2) h h' := by
  have c1 : zsel 5 [5, 48] = some 48 := rfl
  have c2 : zsel 5 [5, 47] = some 47 := rfl
  obtain ⟨h1, r1, a1, a2, a3, a4, a5, a6, a7, a8, a9⟩ := sp_advance (E := E) hL hp hT hB.1 hB.2.1 hB.2.2
  have f5 := a2.i 5 (by omega) (by omega)
  rw [a7] at f5
  have e1 : zcall zpp E 46 [.ref 2, .int (nI lo), .int (nI hi)] h = zrun zpp E 46 (10, [.ref 2, .int (nI lo), .int (nI hi)], [.int 48, .int (tkC t L p)], h1) := by
    conv =>
      lhs
      simp only [ze46, zi46_0, zi46_0n, zi46_1, zi46_4, zi46_4n, zi46_5, zi46_8, zcl1, zlow_0, zlow_1, zlow_2, zlow_3, zlow_4, zfree_0, zfree_i, zfree_r, zfree_n, zfree_d, zfree_f, zfree_s, if_true, if_false, Option.bind_some, Option.toList_some, Option.toList_none, List.cons_append, List.nil_append, List.set_cons_zero, List.set_cons_succ, Bool.false_eq_true, reduceIte, zsw_c, zsw_n, Nat.reduceAdd, hB.1.1, c1, a1, f5]
  by_cases h3 : tkK t L p = 3
  · have f6 := a2.i 6 (by omega) (by omega)
    rw [a8 h3] at f6
    have hv : tkV t L p < 100 := by
      have hk := h3
      unfold tkK at hk
      split at hk
      · omega
      · split at hk
        · omega
        · split at hk
          · rename_i q1 q2 q3
            split at hk
            · rename_i q4
              unfold tkV
              rw [q3, if_pos rfl]
              exact (ac_vl (by omega) q3 q4).2
            · omega
          · split at hk <;> omega
    have ew : (decide (nI lo ≤ nI (tkV t L p)) && decide (nI (tkV t L p) ≤ nI hi)) = decide (lo ≤ tkV t L p ∧ tkV t L p ≤ hi) := by
      rw [show decide (nI lo ≤ nI (tkV t L p)) = decide (lo ≤ tkV t L p) from decide_eq_decide.mpr (nI_leI (by omega) (by omega)), show decide (nI (tkV t L p) ≤ nI hi) = decide (tkV t L p ≤ hi) from decide_eq_decide.mpr (nI_leI (by omega) (by omega)), Bool.decide_and]
    by_cases hr : lo ≤ tkV t L p ∧ tkV t L p ≤ hi
    · have e0 : nmF t L lo hi p = 0 := by unfold nmF; rw [if_pos h3, if_pos hr]
      rw [e0]
      refine ⟨h1, r1, ?_, ⟨a2, a3, a5⟩, a6, a7, by rw [if_pos rfl]; exact a4, fun _ => a8 h3, a9⟩
      rw [e1, zi46_10, if_pos (by rw [tkC_48 hT]; exact h3)]
      simp only [zi46_13, zi46_13n, zi46_14, zi46_15, zi46_18 (sk := []), zi46_19, zi46_19n, zi46_20, zi46_23, zi46_24, zi46_25, zi46_28, zi46_31, zi46_31n, zi46_32, zi46_33, zi46_36, zi46_39, zi46_40, zi46_43, zi46_44 (sk := []), zcl1, zlow_0, zlow_1, zlow_2, zlow_3, zlow_4, zfree_0, zfree_i, zfree_r, zfree_n, zfree_d, zfree_f, zfree_s, if_true, if_false, Option.bind_some, Option.toList_some, Option.toList_none, List.cons_append, List.nil_append, List.set_cons_zero, List.set_cons_succ, Bool.false_eq_true, reduceIte, zsw_c, zsw_n, Nat.reduceAdd, f6, sp_within, ew, decide_eq_true hr, zb_t, z10, decide_true]
    · have e0 : nmF t L lo hi p = 2 := by unfold nmF; rw [if_pos h3, if_neg hr]
      rw [e0]
      refine ⟨_, _, ?_, ⟨a2.put 2 (by omega) (by omega) 2, a3, a5⟩, a6, a7, rfl, fun z => by omega, a9.tr zsm_pf⟩
      rw [e1, zi46_10, if_pos (by rw [tkC_48 hT]; exact h3)]
      simp only [zi46_13, zi46_13n, zi46_14, zi46_15, zi46_18 (sk := []), zi46_19, zi46_19n, zi46_20, zi46_23, zi46_24, zi46_25, zi46_28, zi46_31, zi46_31n, zi46_32, zi46_33, zi46_36, zi46_39, zi46_40, zi46_43, zi46_44 (sk := []), zcl1, zlow_0, zlow_1, zlow_2, zlow_3, zlow_4, zfree_0, zfree_i, zfree_r, zfree_n, zfree_d, zfree_f, zfree_s, if_true, if_false, Option.bind_some, Option.toList_some, Option.toList_none, List.cons_append, List.nil_append, List.set_cons_zero, List.set_cons_succ, Bool.false_eq_true, reduceIte, zsw_c, zsw_n, Nat.reduceAdd, f6, sp_within, ew, decide_eq_false hr, zb_f, z00, a2.1, c2, sp_refuse a2]
      rfl
  · have e0 : nmF t L lo hi p = 1 := by unfold nmF; rw [if_neg h3]
    rw [e0]
    refine ⟨_, _, ?_, ⟨a2.put 2 (by omega) (by omega) 1, a3, a5⟩, a6, a7, rfl, fun z => by omega, a9.tr zsm_pf⟩
    rw [e1, zi46_10, if_neg (by rw [tkC_48 hT]; exact h3)]
    simp only [zi46_13, zi46_13n, zi46_14, zi46_15, zi46_18 (sk := []), zcl1, zlow_0, zlow_1, zlow_2, zlow_3, zlow_4, zfree_0, zfree_i, zfree_r, zfree_n, zfree_d, zfree_f, zfree_s, if_true, if_false, Option.bind_some, Option.toList_some, Option.toList_none, List.cons_append, List.nil_append, List.set_cons_zero, List.set_cons_succ, Bool.false_eq_true, reduceIte, zsw_c, zsw_n, Nat.reduceAdd, a2.1, c2, sp_refuse a2]
    rfl
theorem sp_endPart {p : Nat} (hL : L ≤ 120) (hp : p ≤ L) (hT : tpO T t L) (hB : RB h r T L p) : ∃ h' r', zcall zpp E 44 [.ref 2] h = some (some (.int (zb (sgN t L 59 p))), h') ∧ RD h' r' T ∧ r' 1 = nI L ∧ (sgN t L 59 p = true → r' 2 = r 2 ∧ r' 3 = nI (tkX t L (p + 1)) ∧ r' 4 = nI (p + 1) ∧ r' 5 = tkC t L (p + 1)) ∧ (sgN t L 59 p = false → r' 2 = 1 ∧ r' 4 = nI p) ∧ zsm (fun a => a = 2) h h' := by
  have c1 : zsel 5 [5, 45] = some 45 := rfl
  have c2 : zsel 5 [5, 48] = some 48 := rfl
  have hc : isS 59 := Or.inr (Or.inr rfl)
  obtain ⟨h1, r1, a1, a2, a3, a4, a5, a6⟩ := sp_sign (E := E) (c := 59) hL hp hT hc hB
  have a1 : zcall zpp E 45 [.ref 2, .int 59] h = some (some (.int (zb (sgN t L 59 p))), h1) := a1
  cases hs : sgN t L 59 p
  · rw [hs] at a1 a5
    refine ⟨h1, r1, ?_, a2.1, a2.2.1, fun z => (by cases z), fun _ => ⟨a5, a3⟩, a6⟩
    simp only [ze44, zi44_0, zi44_0n, zi44_1, zi44_3, zi44_6, zi44_9, zi44_10 (sk := []), zi44_11, zi44_11n, zi44_12, zi44_15, zi44_16 (sk := []), zcl1, zlow_0, zlow_1, zlow_2, zlow_3, zlow_4, zfree_0, zfree_i, zfree_r, zfree_n, zfree_d, zfree_f, zfree_s, if_true, if_false, Option.bind_some, Option.toList_some, Option.toList_none, List.cons_append, List.nil_append, List.set_cons_zero, List.set_cons_succ, Bool.false_eq_true, reduceIte, zsw_c, zsw_n, Nat.reduceAdd, hB.1.1, c1, a1, zb_f, z00]
  · rw [hs] at a1 a5
    obtain ⟨q1, -, q3, -, -⟩ := sg_tk hc hs
    rw [q3] at a2
    obtain ⟨h2, r2, b1, b2, b3, b4, b5, b6, b7, -, b9⟩ := sp_advance (E := E) (p := p + 1) hL (by omega) hT a2.1 a2.2.1 a2.2.2
    refine ⟨h2, r2, ?_, b2, b3, fun _ => ⟨b4.trans a5, b5, b6, b7⟩, fun z => (by cases z), a6.tr b9⟩
    simp only [ze44, zi44_0, zi44_0n, zi44_1, zi44_3, zi44_6, zi44_9, zi44_10 (sk := []), zi44_11, zi44_11n, zi44_12, zi44_15, zi44_16 (sk := []), zcl1, zlow_0, zlow_1, zlow_2, zlow_3, zlow_4, zfree_0, zfree_i, zfree_r, zfree_n, zfree_d, zfree_f, zfree_s, if_true, if_false, Option.bind_some, Option.toList_some, Option.toList_none, List.cons_append, List.nil_append, List.set_cons_zero, List.set_cons_succ, Bool.false_eq_true, reduceIte, zsw_c, zsw_n, Nat.reduceAdd, hB.1.1, c1, a1, zb_t, z10, a2.1.1, c2, b1]
end RDN
