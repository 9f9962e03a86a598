/-! THE TEXT: what the model must find -/
def sgB (t : Nat → Nat) (L c : Nat) (e : Sum (Nat × Nat) Nat) : Sum (Nat × Nat) Nat := match e with
  | .inl x => .inl x
  | .inr p => if sgN t L c p = true then .inr (p + 1) else .inl (1, p)
def nmB (t : Nat → Nat) (L lo hi : Nat) (e : Sum (Nat × Nat) Nat) : Sum (Nat × Nat) Nat := match e with
  | .inl x => .inl x
  | .inr p => if nmF t L lo hi p = 0 then .inr (tkX t L p) else .inl (nmF t L lo hi p, p)
def muB (t : Nat → Nat) (L : Nat) (c : Bool) (e : Sum (Nat × Nat) Nat) : Sum (Nat × Nat) Nat := match e with
  | .inl x => .inl x
  | .inr p => if c = true then .inr (tkX t L p) else .inl (1, p)
def sgE (t : Nat → Nat) (L c : Nat) (e : Sum (Nat × Nat) Nat) : Bool := match e with
  | .inl _ => false
  | .inr p => sgN t L c p
def scQ (sc sc' : Nat → Int32) : Prop := ∀ k, k < 11 ∨ 16 < k → sc' k = sc k
theorem scQ.rf (sc : Nat → Int32) : scQ sc sc := fun _ _ => rfl
theorem scQ.tr {a b c : Nat → Int32} (h : scQ a b) (g : scQ b c) : scQ a c := fun k hk => (g k hk).trans (h k hk)
def stQ (t : Nat → Nat) (L : Nat) (sc : Nat → Int32) (e : Sum (Nat × Nat) Nat) : Prop := match e with
  | .inl x => sc 15 = nI x.1 ∧ sc 16 = nI x.2 ∧ (1 ≤ x.1 ∧ x.1 ≤ 3) ∧ x.2 ≤ L
  | .inr p => p ≤ L ∧ sc 15 = 0 ∧ sc 11 = nI (tkX t L p) ∧ sc 12 = nI p ∧ sc 13 = nI (tkK t L p) ∧ (2 ≤ tkK t L p → sc 14 = nI (tkV t L p))
def MS (h : zH) (sc T : Nat → Int32) (t : Nat → Nat) (L : Nat) (e : Sum (Nat × Nat) Nat) : Prop := MdO h sc ∧ zrow 0 h 80 120 T ∧ sc 10 = nI L ∧ stQ t L sc e
section MSS
variable {E : zE} {h : zH} {sc T : Nat → Int32} {t : Nat → Nat} {L : Nat} {e : Sum (Nat × Nat) Nat}
theorem MS.keep {h' : zH} (hS : MS h sc T t L e) (e1 : h'[73]? = h[73]?) (e2 : h'[80]? = h[80]?) : MS h' sc T t L e := ⟨hS.1.keep e1, zrow_c e2 hS.2.1, hS.2.2⟩
/-- a call that changes the model's own cell alone -/
def mS (E : zE) (M : Nat) (as : List Value) (h : zH) (sc T : Nat → Int32) (t : Nat → Nat) (L : Nat) (o : Option Value) (e : Sum (Nat × Nat) Nat) : Prop := ∃ h' sc', zcall zpp E M as h = some (o, h') ∧ MS h' sc' T t L e ∧ scQ sc sc' ∧ zsm (fun a => a = 73) h h'
theorem sp_bad {k : Nat} (hk : 1 ≤ k ∧ k ≤ 3) (hS : MS h sc T t L e) : mS E 157 [.ref 73, .int (nI k)] h sc T t L none (match e with | .inl x => .inl x | .inr p => .inl (k, p)) := by
  obtain ⟨h1, h2, h3, h4⟩ := hS
  cases e with
  | inl x =>
    have f15 := h1.i 15 rfl (by omega)
    rw [h4.1] at f15
    have ne : ¬ nI x.1 = 0 := nI_ne0 (by have := h4.2.2.1; omega) (by have := h4.2.2.1; omega)
    refine ⟨h, sc, ?_, ⟨h1, h2, h3, h4⟩, scQ.rf sc, zsm.rf h⟩
    simp only [ze157, zi157_0, zi157_0n, zi157_1, zi157_4, zi157_7, zi157_7n, zi157_8, zi157_9, zi157_12, zi157_12n, zi157_13, zi157_13n, zi157_14, zi157_17, zi157_20 (sk := []), zcl1, zlow_0, zlow_1, zlow_2, zlow_3, zlow_4, zfree_0, zfree_i, zfree_r, zfree_n, zfree_d, zfree_f, zfree_s, if_true, if_false, Option.bind_some, Option.toList_some, Option.toList_none, List.cons_append, List.nil_append, List.set_cons_zero, List.set_cons_succ, Bool.false_eq_true, reduceIte, zsw_c, zsw_n, Nat.reduceAdd, f15, eq_false ne]
  | inr p =>
    obtain ⟨hp, q15, q11, q12, q13, q14⟩ := h4
    have f15 := h1.i 15 rfl (by omega)
    rw [q15] at f15
    have M1 := h1.put 15 rfl (by omega) (nI k)
    have f12 : zfld [11] (zpf h 73 15 (.int (nI k))) 73 12 = some (.int (nI p)) := by
      rw [M1.i 12 rfl (by omega)]
      exact congrArg _ (congrArg _ q12)
    have M2 := M1.put 16 rfl (by omega) (nI p)
    refine ⟨_, _, ?_, ⟨M2, zrow_pf (zrow_pf h2), h3, rfl, rfl, hk, hp⟩, fun j hj => by unfold upd; rw [if_neg (by omega), if_neg (by omega)], zsm_pf.tr zsm_pf⟩
    simp only [ze157, zi157_0, zi157_0n, zi157_1, zi157_4, zi157_7, zi157_7n, zi157_8, zi157_9, zi157_12, zi157_12n, zi157_13, zi157_13n, zi157_14, zi157_17, zi157_20 (sk := []), zcl1, zlow_0, zlow_1, zlow_2, zlow_3, zlow_4, zfree_0, zfree_i, zfree_r, zfree_n, zfree_d, zfree_f, zfree_s, if_true, if_false, Option.bind_some, Option.toList_some, Option.toList_none, List.cons_append, List.nil_append, List.set_cons_zero, List.set_cons_succ, Bool.false_eq_true, reduceIte, zsw_c, zsw_n, Nat.reduceAdd, f15, z00, h1.st 15 rfl (by omega), f12, M1.st 16 rfl (by omega)]
theorem sp_must {c : Bool} (hL : L ≤ 120) (hT : tpO T t L) (hS : MS h sc T t L e) : mS E 159 [.ref 73, .int (zb c)] h sc T t L none (muB t L c e) := by
  have c1 : zsel 11 [11, 157] = some 157 := rfl
  have c2 : zsel 11 [11, 158] = some 158 := rfl
  cases e with
  | inl x =>
    obtain ⟨h', sc', b1, b2, b3, b4⟩ := sp_bad (E := E) (k := 1) (by omega) hS
    have b1 : zcall zpp E 157 [.ref 73, .int 1] h = some (none, h') := b1
    have hS' := hS
    obtain ⟨h1, h2, h3, h4⟩ := hS
    have f15 := h1.i 15 rfl (by omega)
    rw [h4.1] at f15
    have ne : ¬ nI x.1 = 0 := nI_ne0 (by have := h4.2.2.1; omega) (by have := h4.2.2.1; omega)
    have b2 : MS h' sc' T t L (.inl x) := b2
    have g15 := b2.1.i 15 rfl (by omega)
    rw [b2.2.2.2.1] at g15
    cases c
    · refine ⟨h', sc', ?_, b2, b3, b4⟩
      simp only [ze159, zi159_0, zi159_1, zi159_4, zi159_4n, zi159_5, zi159_6, zi159_9, zi159_9n, zi159_10, zi159_13, zi159_16, zi159_16n, zi159_17, zi159_20 (sk := []), zcl1, zlow_0, zlow_1, zlow_2, zlow_3, zlow_4, zfree_0, zfree_i, zfree_r, zfree_n, zfree_d, zfree_f, zfree_s, if_true, if_false, Option.bind_some, Option.toList_some, Option.toList_none, List.cons_append, List.nil_append, List.set_cons_zero, List.set_cons_succ, Bool.false_eq_true, reduceIte, zsw_c, zsw_n, Nat.reduceAdd, zb_f, z00, h1.1, c1, b1, g15, eq_false ne]
    · refine ⟨h, sc, ?_, hS', scQ.rf sc, zsm.rf h⟩
      simp only [ze159, zi159_0, zi159_1, zi159_4, zi159_4n, zi159_5, zi159_6, zi159_9, zi159_9n, zi159_10, zi159_13, zi159_16, zi159_16n, zi159_17, zi159_20 (sk := []), zcl1, zlow_0, zlow_1, zlow_2, zlow_3, zlow_4, zfree_0, zfree_i, zfree_r, zfree_n, zfree_d, zfree_f, zfree_s, if_true, if_false, Option.bind_some, Option.toList_some, Option.toList_none, List.cons_append, List.nil_append, List.set_cons_zero, List.set_cons_succ, Bool.false_eq_true, reduceIte, zsw_c, zsw_n, Nat.reduceAdd, zb_t, z10, f15, eq_false ne]
  | inr p =>
    obtain ⟨h1, h2, h3, hp, q15, q11, q12, q13, q14⟩ := hS
    have f15 := h1.i 15 rfl (by omega)
    rw [q15] at f15
    cases c
    · obtain ⟨h', sc', b1, b2, b3, b4⟩ := sp_bad (E := E) (k := 1) (by omega) (⟨h1, h2, h3, hp, q15, q11, q12, q13, q14⟩ : MS h sc T t L (.inr p))
      have b1 : zcall zpp E 157 [.ref 73, .int 1] h = some (none, h') := b1
      have b2 : MS h' sc' T t L (.inl (1, p)) := b2
      have g15 := b2.1.i 15 rfl (by omega)
      rw [b2.2.2.2.1] at g15
      refine ⟨h', sc', ?_, b2, b3, b4⟩
      simp only [ze159, zi159_0, zi159_1, zi159_4, zi159_4n, zi159_5, zi159_6, zi159_9, zi159_9n, zi159_10, zi159_13, zi159_16, zi159_16n, zi159_17, zi159_20 (sk := []), zcl1, zlow_0, zlow_1, zlow_2, zlow_3, zlow_4, zfree_0, zfree_i, zfree_r, zfree_n, zfree_d, zfree_f, zfree_s, if_true, if_false, Option.bind_some, Option.toList_some, Option.toList_none, List.cons_append, List.nil_append, List.set_cons_zero, List.set_cons_succ, Bool.false_eq_true, reduceIte, zsw_c, zsw_n, Nat.reduceAdd, zb_f, z00, h1.1, c1, b1, g15, show (nI 1 = 0) = False by decide]
    · obtain ⟨h', sc', a1, a2, a3, a4, a5, a6, a7, a8⟩ := sp_next (E := E) hL (tkX_le hp).2 hT h1 h2 h3 q11
      refine ⟨h', sc', ?_, ⟨a2, zrow_c (a8.2 80 (by omega)) h2, (a7 10 (by omega) (by omega) (by omega) (by omega)).trans h3, (tkX_le hp).2, (a7 15 (by omega) (by omega) (by omega) (by omega)).trans q15, a3, a4, a5, a6⟩, fun j hj => a7 j (by omega) (by omega) (by omega) (by omega), a8⟩
      simp only [ze159, zi159_0, zi159_1, zi159_4, zi159_4n, zi159_5, zi159_6, zi159_9, zi159_9n, zi159_10, zi159_13, zi159_16, zi159_16n, zi159_17, zi159_20 (sk := []), zcl1, zlow_0, zlow_1, zlow_2, zlow_3, zlow_4, zfree_0, zfree_i, zfree_r, zfree_n, zfree_d, zfree_f, zfree_s, if_true, if_false, Option.bind_some, Option.toList_some, Option.toList_none, List.cons_append, List.nil_append, List.set_cons_zero, List.set_cons_succ, Bool.false_eq_true, reduceIte, zsw_c, zsw_n, Nat.reduceAdd, zb_t, z10, f15, z00, h1.1, c2, a1]
theorem sp_isLetter {c : Nat} (hT : tpO T t L) (hc : ltr c = true) (hS : MS h sc T t L e) : zcall zpp E 160 [.ref 73, .int (nI c)] h = some (some (.int (zb (sgE t L c e))), h) := by
  obtain ⟨h1, h2, h3, h4⟩ := hS
  have hcn := isS_nf (Or.inl hc)
  cases e with
  | inl x =>
    have f15 := h1.i 15 rfl (by omega)
    rw [h4.1] at f15
    have ne : ¬ nI x.1 = 0 := nI_ne0 (by have := h4.2.2.1; omega) (by have := h4.2.2.1; omega)
    simp only [ze160, zi160_0, zi160_0n, zi160_1, zi160_4, zi160_7, zi160_7n, zi160_8, zi160_11, zi160_12, zi160_15, zi160_15n, zi160_16, zi160_19, zi160_20, zi160_23, zi160_24, zi160_27, zi160_28 (sk := []), zcl1, zlow_0, zlow_1, zlow_2, zlow_3, zlow_4, zfree_0, zfree_i, zfree_r, zfree_n, zfree_d, zfree_f, zfree_s, if_true, if_false, Option.bind_some, Option.toList_some, Option.toList_none, List.cons_append, List.nil_append, List.set_cons_zero, List.set_cons_succ, Bool.false_eq_true, reduceIte, zsw_c, zsw_n, Nat.reduceAdd, f15, eq_false ne, sgE, zb_f, z00]
  | inr p =>
    obtain ⟨hp, q15, q11, q12, q13, q14⟩ := h4
    have f15 := h1.i 15 rfl (by omega)
    rw [q15] at f15
    have f13 := h1.i 13 rfl (by omega)
    rw [q13] at f13
    have hk4 : tkK t L p ≤ 4 := by
      unfold tkK
      split
      · omega
      · split
        · omega
        · split
          · split <;> omega
          · split <;> omega
    have e2 : (nI (tkK t L p) = 2) = (tkK t L p = 2) := by rw [show (2 : Int32) = nI 2 from rfl, nI_eqP (by omega) (by omega)]
    show _ = some (some (Value.int (zb (sgN t L c p))), h)
    by_cases hk : tkK t L p = 2
    · have f14 := h1.i 14 rfl (by omega)
      rw [q14 (by omega)] at f14
      have hv : tkV t L p < 256 := by
        have hk' := hk
        unfold tkK at hk'
        split at hk'
        · omega
        · split at hk'
          · rename_i z1 z2
            have hf : fig (t p) = false := by
              cases hq : fig (t p)
              · rfl
              · rw [fig_ltr hq] at z2; cases z2
            unfold tkV
            rw [hf, if_neg (by decide)]
            exact (hT p (by omega)).1
          · split at hk'
            · split at hk' <;> omega
            · split at hk' <;> omega
      have ev : (nI (tkV t L p) = nI c) = (tkV t L p = c) := nI_eqP (by omega) (by omega)
      by_cases hvc : tkV t L p = c
      · rw [(sg_l hT hc).mp ⟨hk, hvc⟩]
        simp only [ze160, zi160_0, zi160_0n, zi160_1, zi160_4, zi160_7, zi160_7n, zi160_8, zi160_11, zi160_12, zi160_15, zi160_15n, zi160_16, zi160_19, zi160_20, zi160_23, zi160_24, zi160_27, zi160_28 (sk := []), zcl1, zlow_0, zlow_1, zlow_2, zlow_3, zlow_4, zfree_0, zfree_i, zfree_r, zfree_n, zfree_d, zfree_f, zfree_s, if_true, if_false, Option.bind_some, Option.toList_some, Option.toList_none, List.cons_append, List.nil_append, List.set_cons_zero, List.set_cons_succ, Bool.false_eq_true, reduceIte, zsw_c, zsw_n, Nat.reduceAdd, f15, z00, f13, e2, eq_true hk, not_true_eq_false, f14, ev, eq_true hvc, zb_t, z10]
      · have : sgN t L c p = false := by
          cases hq : sgN t L c p
          · rfl
          · exact absurd ((sg_l hT hc).mpr hq).2 hvc
        rw [this]
        simp only [ze160, zi160_0, zi160_0n, zi160_1, zi160_4, zi160_7, zi160_7n, zi160_8, zi160_11, zi160_12, zi160_15, zi160_15n, zi160_16, zi160_19, zi160_20, zi160_23, zi160_24, zi160_27, zi160_28 (sk := []), zcl1, zlow_0, zlow_1, zlow_2, zlow_3, zlow_4, zfree_0, zfree_i, zfree_r, zfree_n, zfree_d, zfree_f, zfree_s, if_true, if_false, Option.bind_some, Option.toList_some, Option.toList_none, List.cons_append, List.nil_append, List.set_cons_zero, List.set_cons_succ, Bool.false_eq_true, reduceIte, zsw_c, zsw_n, Nat.reduceAdd, f15, z00, f13, e2, eq_true hk, not_true_eq_false, f14, ev, eq_false hvc, not_false_eq_true, zb_f]
    · have : sgN t L c p = false := by
        cases hq : sgN t L c p
        · rfl
        · exact absurd ((sg_l hT hc).mpr hq).1 hk
      rw [this]
      simp only [ze160, zi160_0, zi160_0n, zi160_1, zi160_4, zi160_7, zi160_7n, zi160_8, zi160_11, zi160_12, zi160_15, zi160_15n, zi160_16, zi160_19, zi160_20, zi160_23, zi160_24, zi160_27, zi160_28 (sk := []), zcl1, zlow_0, zlow_1, zlow_2, zlow_3, zlow_4, zfree_0, zfree_i, zfree_r, zfree_n, zfree_d, zfree_f, zfree_s, if_true, if_false, Option.bind_some, Option.toList_some, Option.toList_none, List.cons_append, List.nil_append, List.set_cons_zero, List.set_cons_succ, Bool.false_eq_true, reduceIte, zsw_c, zsw_n, Nat.reduceAdd, f15, z00, f13, e2, eq_false hk, not_false_eq_true, zb_f]
theorem sp_mustSign {c : Nat} (hL : L ≤ 120) (hT : tpO T t L) (hc : c = 44 ∨ c = 59) (hS : MS h sc T t L e) : mS E 162 [.ref 73, .int (nI c)] h sc T t L none (sgB t L c e) := by
  have c1 : zsel 11 [11, 159] = some 159 := rfl
  have hs : isS c := Or.inr hc
  have hcn := isS_nf hs
  have h1 := hS.1
  have f13 := h1.i 13 rfl (by omega)
  have f14 := h1.i 14 rfl (by omega)
  -- by what is found
  have go : ∀ b : Bool, zcall zpp E 162 [.ref 73, .int (nI c)] h = (zcall zpp E 159 [.ref 73, .int (zb b)] h).bind (fun r => some (none, r.2)) → muB t L b e = sgB t L c e → mS E 162 [.ref 73, .int (nI c)] h sc T t L none (sgB t L c e) := by
    intro b e1 e2
    obtain ⟨h', sc', a1, a2, a3, a4⟩ := sp_must (E := E) (c := b) hL hT hS
    rw [e2] at a2
    refine ⟨h', sc', ?_, a2, a3, a4⟩
    rw [e1, a1]
    rfl
  have run : ∀ b : Bool, zb b = (if sc 13 = 4 then (if sc 14 = nI c then 1 else 0) else 0) → zcall zpp E 162 [.ref 73, .int (nI c)] h = (zcall zpp E 159 [.ref 73, .int (zb b)] h).bind (fun r => some (none, r.2)) := by
    intro b hb
    obtain ⟨h', sc', a1, a2, a3, a4⟩ := sp_must (E := E) (c := b) hL hT hS
    rw [a1]
    show _ = some (none, h')
    by_cases q1 : sc 13 = 4
    · by_cases q2 : sc 14 = nI c
      · rw [if_pos q1, if_pos q2] at hb
        rw [hb] at a1
        simp only [ze162, zi162_0, zi162_0n, zi162_1, zi162_1n, zi162_2, zi162_5, zi162_6, zi162_9, zi162_9n, zi162_10, zi162_13, zi162_14, zi162_17, zi162_18, zi162_21, zi162_22, zi162_25 (sk := []), zcl1, zlow_0, zlow_1, zlow_2, zlow_3, zlow_4, zfree_0, zfree_i, zfree_r, zfree_n, zfree_d, zfree_f, zfree_s, if_true, if_false, Option.bind_some, Option.toList_some, Option.toList_none, List.cons_append, List.nil_append, List.set_cons_zero, List.set_cons_succ, Bool.false_eq_true, reduceIte, zsw_c, zsw_n, Nat.reduceAdd, f13, eq_true q1, not_true_eq_false, f14, eq_true q2, h1.1, c1, a1]
      · rw [if_pos q1, if_neg q2] at hb
        rw [hb] at a1
        simp only [ze162, zi162_0, zi162_0n, zi162_1, zi162_1n, zi162_2, zi162_5, zi162_6, zi162_9, zi162_9n, zi162_10, zi162_13, zi162_14, zi162_17, zi162_18, zi162_21, zi162_22, zi162_25 (sk := []), zcl1, zlow_0, zlow_1, zlow_2, zlow_3, zlow_4, zfree_0, zfree_i, zfree_r, zfree_n, zfree_d, zfree_f, zfree_s, if_true, if_false, Option.bind_some, Option.toList_some, Option.toList_none, List.cons_append, List.nil_append, List.set_cons_zero, List.set_cons_succ, Bool.false_eq_true, reduceIte, zsw_c, zsw_n, Nat.reduceAdd, f13, eq_true q1, not_true_eq_false, f14, eq_false q2, not_false_eq_true, h1.1, c1, a1]
    · rw [if_neg q1] at hb
      rw [hb] at a1
      simp only [ze162, zi162_0, zi162_0n, zi162_1, zi162_1n, zi162_2, zi162_5, zi162_6, zi162_9, zi162_9n, zi162_10, zi162_13, zi162_14, zi162_17, zi162_18, zi162_21, zi162_22, zi162_25 (sk := []), zcl1, zlow_0, zlow_1, zlow_2, zlow_3, zlow_4, zfree_0, zfree_i, zfree_r, zfree_n, zfree_d, zfree_f, zfree_s, if_true, if_false, Option.bind_some, Option.toList_some, Option.toList_none, List.cons_append, List.nil_append, List.set_cons_zero, List.set_cons_succ, Bool.false_eq_true, reduceIte, zsw_c, zsw_n, Nat.reduceAdd, f13, eq_false q1, not_false_eq_true, h1.1, c1, a1]
  cases e with
  | inl x =>
    by_cases q1 : sc 13 = 4
    · by_cases q2 : sc 14 = nI c
      · exact go true (run true (by rw [if_pos q1, if_pos q2]; rfl)) rfl
      · exact go false (run false (by rw [if_pos q1, if_neg q2]; rfl)) rfl
    · exact go false (run false (by rw [if_neg q1]; rfl)) rfl
  | inr p =>
    obtain ⟨hp, q15, q11, q12, q13, q14⟩ := hS.2.2.2
    have hk4 : tkK t L p ≤ 4 := by
      unfold tkK
      split
      · omega
      · split
        · omega
        · split
          · split <;> omega
          · split <;> omega
    have e4 : (sc 13 = 4) = (tkK t L p = 4) := by rw [q13, show (4 : Int32) = nI 4 from rfl, nI_eqP (by omega) (by omega)]
    have hm : ∀ b, b = sgN t L c p → muB t L b (.inr p) = sgB t L c (.inr p) := by
      intro b hb
      show (if b = true then Sum.inr (tkX t L p) else Sum.inl (1, p)) = (if sgN t L c p = true then Sum.inr (p + 1) else Sum.inl (1, p))
      rw [hb]
      by_cases hq : sgN t L c p = true
      · rw [if_pos hq, if_pos hq, (sg_tk hs hq).2.2.1]
      · rw [if_neg hq, if_neg hq]
    by_cases hk : tkK t L p = 4
    · have hv : tkV t L p < 256 := by
        have hk' := hk
        unfold tkK at hk'
        split at hk'
        · omega
        · split at hk'
          · omega
          · split at hk'
            · split at hk' <;> omega
            · rename_i z1 _ z3
              have hf : fig (t p) = false := by simpa using z3
              unfold tkV
              rw [hf, if_neg (by decide)]
              exact (hT p (by omega)).1
      have ev : (sc 14 = nI c) = (tkV t L p = c) := by rw [q14 (by omega), nI_eqP (by omega) (by omega)]
      by_cases hvc : tkV t L p = c
      · have hq := (sg_s hT hc).mp ⟨hk, hvc⟩
        exact go true (run true (by rw [if_pos (by rw [e4]; exact hk), if_pos (by rw [ev]; exact hvc)]; rfl)) (hm true hq.symm)
      · have hq : sgN t L c p = false := by
          cases hq : sgN t L c p
          · rfl
          · exact absurd ((sg_s hT hc).mpr hq).2 hvc
        exact go false (run false (by rw [if_pos (by rw [e4]; exact hk), if_neg (by rw [ev]; exact hvc)]; rfl)) (hm false hq.symm)
    · have hq : sgN t L c p = false := by
        cases hq : sgN t L c p
        · rfl
        · exact absurd ((sg_s hT hc).mpr hq).1 hk
      exact go false (run false (by rw [if_neg (by rw [e4]; exact hk)]; rfl)) (hm false hq.symm)
theorem sp_numberM {lo hi : Nat} (hL : L ≤ 120) (hT : tpO T t L) (hlo : lo < 1000) (hhi : hi < 1000) (hS : MS h sc T t L e) : ∃ v : Nat, mS E 161 [.ref 73, .int (nI lo), .int (nI hi)] h sc T t L (some (.int (nI v))) (nmB t L lo hi e) ∧ (∀ p, e = .inr p → nmF t L lo hi p = 0 → v = tkV t L p) := by
  have c1 : zsel 11 [11, 157] = some 157 := rfl
  have c2 : zsel 11 [11, 159] = some 159 := rfl
  cases e with
  | inl x =>
    have h1 := hS.1
    have h4 := hS.2.2.2
    have f15 := h1.i 15 rfl (by omega)
    rw [h4.1] at f15
    have ne : ¬ nI x.1 = 0 := nI_ne0 (by have := h4.2.2.1; omega) (by have := h4.2.2.1; omega)
    obtain ⟨h', sc', a1, a2, a3, a4⟩ := sp_must (E := E) (c := true) hL hT hS
    have a1 : zcall zpp E 159 [.ref 73, .int 1] h = some (none, h') := a1
    refine ⟨lo, ⟨h', sc', ?_, a2, a3, a4⟩, fun p hp => by cases hp⟩
    simp only [ze161, zi161_0, zi161_0n, zi161_1, zi161_4, zi161_7, zi161_7n, zi161_8, zi161_11, zi161_12, zi161_15, zi161_15n, zi161_16, zi161_17, zi161_20, zi161_20n, zi161_21, zi161_24, zi161_27, zi161_27n, zi161_28, zi161_31, zi161_32, zi161_33, zi161_34, zi161_35, zi161_36, zi161_39, zi161_42, zi161_42n, zi161_43, zi161_44, zi161_47, zi161_47n, zi161_48, zi161_51, zi161_54, zi161_54n, zi161_55, zi161_58, zi161_61, zi161_62, zi161_63, zi161_63n, zi161_64, zi161_65, zi161_68, zi161_69 (sk := []), zcl1, zlow_0, zlow_1, zlow_2, zlow_3, zlow_4, zfree_0, zfree_i, zfree_r, zfree_n, zfree_d, zfree_f, zfree_s, if_true, if_false, Option.bind_some, Option.toList_some, Option.toList_none, List.cons_append, List.nil_append, List.set_cons_zero, List.set_cons_succ, Bool.false_eq_true, reduceIte, zsw_c, zsw_n, Nat.reduceAdd, f15, eq_false ne, h1.1, c2, a1]
  | inr p =>
    have h1 := hS.1
    obtain ⟨hp, q15, q11, q12, q13, q14⟩ := hS.2.2.2
    have f15 := h1.i 15 rfl (by omega)
    rw [q15] at f15
    have f13 := h1.i 13 rfl (by omega)
    rw [q13] at f13
    have hk4 : tkK t L p ≤ 4 := by
      unfold tkK
      split
      · omega
      · split
        · omega
        · split
          · split <;> omega
          · split <;> omega
    have e3 : (nI (tkK t L p) = 3) = (tkK t L p = 3) := by rw [show (3 : Int32) = nI 3 from rfl, nI_eqP (by omega) (by omega)]
    -- refused
    have bd : ∀ k, 1 ≤ k → k ≤ 2 → nmF t L lo hi p = k → (∀ h1', zcall zpp E 157 [.ref 73, .int (nI k)] h = some (none, h1') → ∀ sc1, MdO h1' sc1 → sc1 15 = nI k → ∀ h2', zcall zpp E 159 [.ref 73, .int 1] h1' = some (none, h2') → zcall zpp E 161 [.ref 73, .int (nI lo), .int (nI hi)] h = some (some (.int (nI lo)), h2')) → ∃ v : Nat, mS E 161 [.ref 73, .int (nI lo), .int (nI hi)] h sc T t L (some (.int (nI v))) (nmB t L lo hi (.inr p)) ∧ (∀ p', Sum.inr p = Sum.inr (α := Nat × Nat) p' → nmF t L lo hi p' = 0 → v = tkV t L p') := by
      intro k k1 k2 hn hrun
      obtain ⟨h1', sc1, b1, b2, b3, b4⟩ := sp_bad (E := E) (k := k) (by omega) hS
      have b2 : MS h1' sc1 T t L (.inl (k, p)) := b2
      obtain ⟨h2', sc2, d1, d2, d3, d4⟩ := sp_must (E := E) (c := true) hL hT b2
      have d1 : zcall zpp E 159 [.ref 73, .int 1] h1' = some (none, h2') := d1
      refine ⟨lo, ⟨h2', sc2, hrun h1' b1 sc1 b2.1 b2.2.2.2.1 h2' d1, ?_, b3.tr d3, b4.tr d4⟩, fun p' hp' hz => by cases hp'; omega⟩
      have : nmB t L lo hi (.inr p) = .inl (k, p) := by
        show (if nmF t L lo hi p = 0 then _ else _) = _
        rw [hn, if_neg (by omega)]
      rw [this]
      exact d2
    by_cases hk : tkK t L p = 3
    · have f14 := h1.i 14 rfl (by omega)
      rw [q14 (by omega)] at f14
      have hv : tkV t L p < 100 := by
        have hk' := hk
        unfold tkK at hk'
        split at hk'
        · omega
        · split at hk'
          · omega
          · split at hk'
            · rename_i z1 z2 z3
              split at hk'
              · rename_i z4
                unfold tkV
                rw [z3, if_pos rfl]
                exact (ac_vl (by omega) z3 z4).2
              · omega
            · split at hk' <;> omega
      have i1 := fun (H : zH) => sp_inI (E := E) (h := H) (u := (nI (tkV t L p)).toInt64) (v := (nI lo).toInt64) (w := (nI hi).toInt64) (x := nI (tkV t L p)) (a := nI lo) (b := nI hi) rfl rfl rfl
      have ew : (decide (nI lo ≤ nI (tkV t L p)) && decide (nI (tkV t L p) ≤ nI hi)) = decide (lo ≤ tkV t L p ∧ tkV t L p ≤ hi) := by
        rw [show decide (nI lo ≤ nI (tkV t L p)) = decide (lo ≤ tkV t L p) from decide_eq_decide.mpr (nI_leI (by omega) (by omega)), show decide (nI (tkV t L p) ≤ nI hi) = decide (tkV t L p ≤ hi) from decide_eq_decide.mpr (nI_leI (by omega) (by omega)), Bool.decide_and]
      by_cases hr : lo ≤ tkV t L p ∧ tkV t L p ≤ hi
      · have e0 : nmF t L lo hi p = 0 := by unfold nmF; rw [if_pos hk, if_pos hr]
        obtain ⟨h', sc', a1, a2, a3, a4⟩ := sp_must (E := E) (c := true) hL hT hS
        have a1 : zcall zpp E 159 [.ref 73, .int 1] h = some (none, h') := a1
        refine ⟨tkV t L p, ⟨h', sc', ?_, ?_, a3, a4⟩, fun p' hp' _ => by cases hp'; rfl⟩
        · simp only [ze161, zi161_0, zi161_0n, zi161_1, zi161_4, zi161_7, zi161_7n, zi161_8, zi161_11, zi161_12, zi161_15, zi161_15n, zi161_16, zi161_17, zi161_20, zi161_20n, zi161_21, zi161_24, zi161_27, zi161_27n, zi161_28, zi161_31, zi161_32, zi161_33, zi161_34, zi161_35, zi161_36, zi161_39, zi161_42, zi161_42n, zi161_43, zi161_44, zi161_47, zi161_47n, zi161_48, zi161_51, zi161_54, zi161_54n, zi161_55, zi161_58, zi161_61, zi161_62, zi161_63, zi161_63n, zi161_64, zi161_65, zi161_68, zi161_69 (sk := []), zcl1, zlow_0, zlow_1, zlow_2, zlow_3, zlow_4, zfree_0, zfree_i, zfree_r, zfree_n, zfree_d, zfree_f, zfree_s, if_true, if_false, Option.bind_some, Option.toList_some, Option.toList_none, List.cons_append, List.nil_append, List.set_cons_zero, List.set_cons_succ, Bool.false_eq_true, reduceIte, zsw_c, zsw_n, Nat.reduceAdd, f15, z00, f13, e3, eq_true hk, f14, i1, ew, decide_eq_true hr, zb_t, z10, h1.1, c2, a1]
        · have : nmB t L lo hi (.inr p) = .inr (tkX t L p) := by
            show (if nmF t L lo hi p = 0 then _ else _) = _
            rw [if_pos e0]
          rw [this]
          exact a2
      · have e0 : nmF t L lo hi p = 2 := by unfold nmF; rw [if_pos hk, if_neg hr]
        refine bd 2 (by omega) (by omega) e0 (fun h1' b1 sc1 M1 g15 h2' d1 => ?_)
        have g := M1.i 15 rfl (by omega)
        rw [g15] at g
        have b1 : zcall zpp E 157 [.ref 73, .int 2] h = some (none, h1') := b1
        simp only [ze161, zi161_0, zi161_0n, zi161_1, zi161_4, zi161_7, zi161_7n, zi161_8, zi161_11, zi161_12, zi161_15, zi161_15n, zi161_16, zi161_17, zi161_20, zi161_20n, zi161_21, zi161_24, zi161_27, zi161_27n, zi161_28, zi161_31, zi161_32, zi161_33, zi161_34, zi161_35, zi161_36, zi161_39, zi161_42, zi161_42n, zi161_43, zi161_44, zi161_47, zi161_47n, zi161_48, zi161_51, zi161_54, zi161_54n, zi161_55, zi161_58, zi161_61, zi161_62, zi161_63, zi161_63n, zi161_64, zi161_65, zi161_68, zi161_69 (sk := []), zcl1, zlow_0, zlow_1, zlow_2, zlow_3, zlow_4, zfree_0, zfree_i, zfree_r, zfree_n, zfree_d, zfree_f, zfree_s, if_true, if_false, Option.bind_some, Option.toList_some, Option.toList_none, List.cons_append, List.nil_append, List.set_cons_zero, List.set_cons_succ, Bool.false_eq_true, reduceIte, zsw_c, zsw_n, Nat.reduceAdd, f15, z00, f13, e3, eq_true hk, f14, i1, ew, decide_eq_false hr, zb_f, h1.1, c1, b1, g, show (nI 2 = 0) = False by decide, M1.1, c2, d1]
    · have e0 : nmF t L lo hi p = 1 := by unfold nmF; rw [if_neg hk]
      refine bd 1 (by omega) (by omega) e0 (fun h1' b1 sc1 M1 g15 h2' d1 => ?_)
      have g := M1.i 15 rfl (by omega)
      rw [g15] at g
      have b1 : zcall zpp E 157 [.ref 73, .int 1] h = some (none, h1') := b1
      simp only [ze161, zi161_0, zi161_0n, zi161_1, zi161_4, zi161_7, zi161_7n, zi161_8, zi161_11, zi161_12, zi161_15, zi161_15n, zi161_16, zi161_17, zi161_20, zi161_20n, zi161_21, zi161_24, zi161_27, zi161_27n, zi161_28, zi161_31, zi161_32, zi161_33, zi161_34, zi161_35, zi161_36, zi161_39, zi161_42, zi161_42n, zi161_43, zi161_44, zi161_47, zi161_47n, zi161_48, zi161_51, zi161_54, zi161_54n, zi161_55, zi161_58, zi161_61, zi161_62, zi161_63, zi161_63n, zi161_64, zi161_65, zi161_68, zi161_69 (sk := []), zcl1, zlow_0, zlow_1, zlow_2, zlow_3, zlow_4, zfree_0, zfree_i, zfree_r, zfree_n, zfree_d, zfree_f, zfree_s, if_true, if_false, Option.bind_some, Option.toList_some, Option.toList_none, List.cons_append, List.nil_append, List.set_cons_zero, List.set_cons_succ, Bool.false_eq_true, reduceIte, zsw_c, zsw_n, Nat.reduceAdd, f15, z00, f13, e3, eq_false hk, h1.1, c1, b1, g, show (nI 1 = 0) = False by decide, M1.1, c2, d1]
end MSS
