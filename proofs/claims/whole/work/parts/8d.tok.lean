/-! THE TEXT: its tokens -/
def fig (c : Nat) : Bool := decide (48 ≤ c) && decide (c ≤ 57)
def ltr (c : Nat) : Bool := decide (97 ≤ c) && decide (c ≤ 122)
def runN (t : Nat → Nat) (L : Nat) : Nat → Nat → Nat
  | 0, p => p
  | f + 1, p => if p < L ∧ fig (t p) = true then runN t L f (p + 1) else p
def rnN (t : Nat → Nat) (L p : Nat) : Nat := runN t L (L - p) p
theorem rn_eq (t : Nat → Nat) (L p : Nat) : rnN t L p = if p < L ∧ fig (t p) = true then rnN t L (p + 1) else p := by
  unfold rnN
  by_cases h : p < L
  · rw [show L - p = (L - (p + 1)) + 1 by omega]
    rfl
  · rw [show L - p = 0 by omega, if_neg (fun z => h z.1)]
    rfl
theorem rn_le (t : Nat → Nat) (L : Nat) : ∀ m p, p + m = L → p ≤ rnN t L p ∧ rnN t L p ≤ L
  | 0, p, h => by
    rw [rn_eq, if_neg (fun z => by omega)]
    omega
  | m + 1, p, h => by
    rw [rn_eq]
    split
    · have := rn_le t L m (p + 1) (by omega)
      omega
    · omega
/-- kind, value, what follows -/
def tkK (t : Nat → Nat) (L p : Nat) : Nat := if L ≤ p then 1 else if ltr (t p) = true then 2 else if fig (t p) = true then (if rnN t L p - p ≤ 2 then 3 else 0) else if t p = 44 ∨ t p = 59 then 4 else 0
def vlN (t : Nat → Nat) (L p : Nat) : Nat := if rnN t L p = p + 1 then t p - 48 else 10 * (t p - 48) + (t (p + 1) - 48)
def tkV (t : Nat → Nat) (L p : Nat) : Nat := if fig (t p) = true then vlN t L p else t p
def tkX (t : Nat → Nat) (L p : Nat) : Nat := if L ≤ p then p else if fig (t p) = true then rnN t L p else p + 1
def tkC (t : Nat → Nat) (L p : Nat) : Int32 := if L ≤ p then -1 else if fig (t p) = true then (if rnN t L p - p ≤ 2 then 48 else 0) else if ltr (t p) = true ∨ t p = 44 ∨ t p = 59 then nI (t p) else 0
theorem tkX_le {t : Nat → Nat} {L p : Nat} (h : p ≤ L) : p ≤ tkX t L p ∧ tkX t L p ≤ L := by
  unfold tkX
  split
  · omega
  · split
    · exact rn_le t L (L - p) p (by omega)
    · omega
theorem fig_ltr {c : Nat} (h : fig c = true) : ltr c = false := by
  unfold fig at h
  rw [Bool.and_eq_true, decide_eq_true_eq, decide_eq_true_eq] at h
  unfold ltr
  rw [decide_eq_false (by omega)]
  rfl
section RDS
variable {E : zE} {h : zH} {r T : Nat → Int32} {t : Nat → Nat} {L : Nat}
theorem RD.i (hR : RD h r T) (k : Nat) (h1 : 1 ≤ k) (h2 : k < 7) : zfld [5] h 2 k = some (.int (r k)) := hR.2.2.1 k h1 h2
theorem RD.st (hR : RD h r T) (k : Nat) (h1 : 1 ≤ k) (h2 : k < 7) (v : Int32) : zstf [5] 0 h 2 k (.int v) = some (zpf h 2 k (.int v)) := zstf_ok (hR.i k h1 h2) zfits_i
theorem RD.put (hR : RD h r T) (k : Nat) (h1 : 1 ≤ k) (h2 : k < 7) (v : Int32) : RD (zpf h 2 k (.int v)) (upd r k v) T := by
  refine ⟨zcls_pf.trans hR.1, (zfld_f (by omega)).trans hR.2.1, fun j j1 j2 => ?_, zrow_pf hR.2.2.2⟩
  by_cases hjk : j = k
  · subst hjk
    rw [zfld_same, hR.i j j1 j2]
    unfold upd
    rw [if_pos rfl]
    rfl
  · rw [zfld_f (fun z => hjk z.symm), hR.i j j1 j2]
    unfold upd
    rw [if_neg hjk]
/-- the tape holds letters -/
def tpO (T : Nat → Int32) (t : Nat → Nat) (L : Nat) : Prop := ∀ j, j < L → t j < 256 ∧ T j = nI (t j)
theorem fig_y {c : Nat} (hc : c < 256) (hf : fig c = true) : (nI c < (48 : Int32)) = False ∧ ((57 : Int32) < nI c) = False := by
  unfold fig at hf
  rw [Bool.and_eq_true, decide_eq_true_eq, decide_eq_true_eq] at hf
  refine ⟨eq_false ?_, eq_false ?_⟩
  · rw [show (48 : Int32) = nI 48 from rfl, nI_ltP (by omega) (by omega)]
    omega
  · rw [show (57 : Int32) = nI 57 from rfl, nI_ltP (by omega) (by omega)]
    omega
theorem fig_n {c : Nat} (hc : c < 256) (hf : fig c = false) : (nI c < (48 : Int32)) = True ∨ ((nI c < (48 : Int32)) = False ∧ ((57 : Int32) < nI c) = True) := by
  by_cases h1 : c < 48
  · exact Or.inl (eq_true (by rw [show (48 : Int32) = nI 48 from rfl, nI_ltP (by omega) (by omega)]; exact h1))
  · refine Or.inr ⟨eq_false (by rw [show (48 : Int32) = nI 48 from rfl, nI_ltP (by omega) (by omega)]; exact h1), eq_true ?_⟩
    rw [show (57 : Int32) = nI 57 from rfl, nI_ltP (by omega) (by omega)]
    refine Classical.byContradiction (fun h2 => ?_)
    have : fig c = true := by
      unfold fig
      rw [Bool.and_eq_true, decide_eq_true_eq, decide_eq_true_eq]
      omega
    rw [this] at hf
    cases hf
/-- figures gathered, as the component does it -/
def acN (t : Nat → Nat) (p : Nat) : Nat → Nat
  | 0 => 0
  | k + 1 => min (acN t p k * 10 + t (p + k) - 48) 1000
theorem acN_le (t : Nat → Nat) (p : Nat) : ∀ k, acN t p k ≤ 1000
  | 0 => Nat.zero_le _
  | k + 1 => Nat.min_le_right _ _
theorem sp_advNum {p : Nat} (hL : L ≤ 120) (hp : p < L) (hT : tpO T t L) (hf : fig (t p) = true) (hR : RD h r T) (h1 : r 1 = nI L) (h3 : r 3 = nI p) (h4 : r 4 = nI p) : ∃ h' r', zcall zpp E 49 [.ref 2] h = some (none, h') ∧ RD h' r' T ∧ r' 1 = nI L ∧ r' 2 = r 2 ∧ r' 3 = nI (rnN t L p) ∧ r' 4 = nI p ∧ r' 5 = (if rnN t L p - p ≤ 2 then 48 else 0) ∧ r' 6 = nI (acN t p (rnN t L p - p)) ∧ zsm (fun a => a = 2) h h' := by
  have tail : ∀ (k : Nat) (H : zH) (r : Nat → Int32), p + k ≤ 120 → RD H r T → r 3 = nI (p + k) → r 4 = nI p → zrun zpp E 49 (87, [.ref 2], [], H) = some (none, zpf H 2 5 (.int (if k ≤ 2 then 48 else 0))) := by
    intro k H r hk hR h3 h4
    have f3 := hR.i 3 (by omega) (by omega)
    rw [h3] at f3
    have f4 := hR.i 4 (by omega) (by omega)
    rw [h4] at f4
    have ed : nI (p + k) - nI p = nI k := by rw [pk_sub (by omega), Nat.add_sub_cancel_left]
    have e1 : zrun zpp E 49 (87, [.ref 2], [], H) = zrun zpp E 49 (98, [.ref 2], [.int 2, .int (nI k), .ref 2], H) := by
      conv =>
        lhs
        simp only [zi49_87, zi49_87n, zi49_88, zi49_88n, zi49_89, zi49_92, zi49_92n, zi49_93, zi49_96, zi49_97, zcl1, zlow_0, zlow_1, zlow_2, zlow_3, zlow_4, zfree_0, zfree_i, zfree_r, zfree_n, zfree_d, zfree_f, zfree_s, if_true, if_false, Option.bind_some, Option.toList_some, Option.toList_none, List.cons_append, List.nil_append, List.set_cons_zero, List.set_cons_succ, Bool.false_eq_true, reduceIte, zsw_c, zsw_n, Nat.reduceAdd, f3, f4, ed]
    rw [e1]
    by_cases hk2 : k ≤ 2
    · rw [if_pos hk2, zi49_98, if_neg (by rw [show (2 : Int32) = nI 2 from rfl, nI_ltP (by omega) (by omega)]; omega)]
      simp only [zi49_101, zi49_103, zi49_106, zi49_107, zi49_110 (sk := []), zcl1, zlow_0, zlow_1, zlow_2, zlow_3, zlow_4, zfree_0, zfree_i, zfree_r, zfree_n, zfree_d, zfree_f, zfree_s, if_true, if_false, Option.bind_some, Option.toList_some, Option.toList_none, List.cons_append, List.nil_append, List.set_cons_zero, List.set_cons_succ, Bool.false_eq_true, reduceIte, zsw_c, zsw_n, Nat.reduceAdd, hR.st 5 (by omega) (by omega)]
    · rw [if_neg hk2, zi49_98, if_pos (by rw [show (2 : Int32) = nI 2 from rfl, nI_ltP (by omega) (by omega)]; omega)]
      simp only [zi49_101, zi49_103, zi49_106, zi49_107, zi49_110 (sk := []), zcl1, zlow_0, zlow_1, zlow_2, zlow_3, zlow_4, zfree_0, zfree_i, zfree_r, zfree_n, zfree_d, zfree_f, zfree_s, if_true, if_false, Option.bind_some, Option.toList_some, Option.toList_none, List.cons_append, List.nil_append, List.set_cons_zero, List.set_cons_succ, Bool.false_eq_true, reduceIte, zsw_c, zsw_n, Nat.reduceAdd, hR.st 5 (by omega) (by omega)]
  have fin : ∀ (k : Nat) (H : zH) (r : Nat → Int32), p + k ≤ L → rnN t L p = p + k → RD H r T → r 1 = nI L → r 3 = nI (p + k) → r 4 = nI p → r 6 = nI (acN t p k) → zrun zpp E 49 (5, [.ref 2], [], H) = zrun zpp E 49 (87, [.ref 2], [], H) → ∃ h' r', zrun zpp E 49 (5, [.ref 2], [], H) = some (none, h') ∧ RD h' r' T ∧ r' 1 = nI L ∧ r' 2 = r 2 ∧ r' 3 = nI (rnN t L p) ∧ r' 4 = nI p ∧ r' 5 = (if rnN t L p - p ≤ 2 then 48 else 0) ∧ r' 6 = nI (acN t p (rnN t L p - p)) ∧ zsm (fun a => a = 2) H h' := by
    intro k H r hk en hR h1 h3 h4 h6 e
    refine ⟨_, _, e.trans (tail k H r (by omega) hR h3 h4), hR.put 5 (by omega) (by omega) _, h1, rfl, by rw [en]; exact h3, h4, ?_, ?_, zsm_pf⟩
    · rw [en, Nat.add_sub_cancel_left]
      rfl
    · rw [en, Nat.add_sub_cancel_left]
      exact h6
  have loop : ∀ (m k : Nat) (H : zH) (r : Nat → Int32), p + k + m = L → rnN t L p = rnN t L (p + k) → RD H r T → r 1 = nI L → r 3 = nI (p + k) → r 4 = nI p → r 6 = nI (acN t p k) → ∃ h' r', zrun zpp E 49 (5, [.ref 2], [], H) = some (none, h') ∧ RD h' r' T ∧ r' 1 = nI L ∧ r' 2 = r 2 ∧ r' 3 = nI (rnN t L p) ∧ r' 4 = nI p ∧ r' 5 = (if rnN t L p - p ≤ 2 then 48 else 0) ∧ r' 6 = nI (acN t p (rnN t L p - p)) ∧ zsm (fun a => a = 2) H h' := by
    intro m
    induction m with
    | zero =>
      intro k H r hk hn hR h1 h3 h4 h6
      have f1 := hR.i 1 (by omega) (by omega)
      rw [h1] at f1
      have f3 := hR.i 3 (by omega) (by omega)
      rw [h3] at f3
      refine fin k H r (by omega) (by rw [hn, rn_eq, if_neg (fun z => by omega)]) hR h1 h3 h4 h6 ?_
      conv =>
        lhs
        simp only [zi49_5, zi49_5n, zi49_6, zi49_9, zi49_9n, zi49_10, zcl1, zlow_0, zlow_1, zlow_2, zlow_3, zlow_4, zfree_0, zfree_i, zfree_r, zfree_n, zfree_d, zfree_f, zfree_s, if_true, if_false, Option.bind_some, Option.toList_some, Option.toList_none, List.cons_append, List.nil_append, List.set_cons_zero, List.set_cons_succ, Bool.false_eq_true, reduceIte, zsw_c, zsw_n, Nat.reduceAdd, f1, f3]
      rw [zi49_13, if_pos (by rw [nI_leP (by omega) (by omega)]; omega)]
    | succ m ih =>
      intro k H r hk hn hR h1 h3 h4 h6
      have f1 := hR.i 1 (by omega) (by omega)
      rw [h1] at f1
      have f3 := hR.i 3 (by omega) (by omega)
      rw [h3] at f3
      have f6 := hR.i 6 (by omega) (by omega)
      rw [h6] at f6
      obtain ⟨t1, t2⟩ := hT (p + k) (by omega)
      have g := zarr_at (j := p + k) hR.2.2.2 (by omega) (by omega)
      rw [t2] at g
      have e0 : zrun zpp E 49 (5, [.ref 2], [], H) = zrun zpp E 49 (16, [.ref 2], [], H) := by
        conv =>
          lhs
          simp only [zi49_5, zi49_5n, zi49_6, zi49_9, zi49_9n, zi49_10, zcl1, zlow_0, zlow_1, zlow_2, zlow_3, zlow_4, zfree_0, zfree_i, zfree_r, zfree_n, zfree_d, zfree_f, zfree_s, if_true, if_false, Option.bind_some, Option.toList_some, Option.toList_none, List.cons_append, List.nil_append, List.set_cons_zero, List.set_cons_succ, Bool.false_eq_true, reduceIte, zsw_c, zsw_n, Nat.reduceAdd, f1, f3]
        rw [zi49_13, if_neg (by rw [nI_leP (by omega) (by omega)]; omega)]
      cases hf2 : fig (t (p + k))
      · refine fin k H r (by omega) (by rw [hn, rn_eq, if_neg (fun z => by rw [hf2] at z; cases z.2)]) hR h1 h3 h4 h6 ?_
        rw [e0]
        rcases fig_n t1 hf2 with q1 | ⟨q1, q2⟩
        · conv =>
            lhs
            simp only [zi49_16, zi49_16n, zi49_17, zi49_20, zi49_20n, zi49_21, zi49_24, zi49_25, zi49_27, zi49_30, zi49_30n, zi49_31, zi49_34, zi49_34n, zi49_35, zi49_38, zi49_39, zi49_41, zcl1, zlow_0, zlow_1, zlow_2, zlow_3, zlow_4, zfree_0, zfree_i, zfree_r, zfree_n, zfree_d, zfree_f, zfree_s, if_true, if_false, Option.bind_some, Option.toList_some, Option.toList_none, List.cons_append, List.nil_append, List.set_cons_zero, List.set_cons_succ, Bool.false_eq_true, reduceIte, zsw_c, zsw_n, Nat.reduceAdd, hR.2.1, f3, g, q1]
        · conv =>
            lhs
            simp only [zi49_16, zi49_16n, zi49_17, zi49_20, zi49_20n, zi49_21, zi49_24, zi49_25, zi49_27, zi49_30, zi49_30n, zi49_31, zi49_34, zi49_34n, zi49_35, zi49_38, zi49_39, zi49_41, zcl1, zlow_0, zlow_1, zlow_2, zlow_3, zlow_4, zfree_0, zfree_i, zfree_r, zfree_n, zfree_d, zfree_f, zfree_s, if_true, if_false, Option.bind_some, Option.toList_some, Option.toList_none, List.cons_append, List.nil_append, List.set_cons_zero, List.set_cons_succ, Bool.false_eq_true, reduceIte, zsw_c, zsw_n, Nat.reduceAdd, hR.2.1, f3, g, q1, q2]
      · have hb := acN_le t p k
        have h48 : 48 ≤ t (p + k) := by
          unfold fig at hf2
          rw [Bool.and_eq_true, decide_eq_true_eq] at hf2
          exact hf2.1
        have ev : nI (acN t p k) * 10 + nI (t (p + k)) - 48 = nI (acN t p k * 10 + t (p + k) - 48) := by
          rw [show nI (acN t p k) * (10 : Int32) = nI (acN t p k * 10) from pk_mul _ 10, nI_add]
          exact pk_sub (b := 48) (by omega)
        have em : (if (1000 : Int32) < nI (acN t p k * 10 + t (p + k) - 48) then 1000 else nI (acN t p k * 10 + t (p + k) - 48)) = nI (acN t p (k + 1)) := zmin_nI (b := 1000) (by omega) (by omega)
        have R1 := hR.put 6 (by omega) (by omega) (nI (acN t p (k + 1)))
        have g3 : zfld [5] (zpf H 2 6 (.int (nI (acN t p (k + 1))))) 2 3 = some (.int (nI (p + k))) := (zfld_f (by decide)).trans f3
        have R2 := R1.put 3 (by omega) (by omega) (nI (p + k + 1))
        obtain ⟨h', r', a1, a2, a3, a4, a5, a6, a7, a8, a9⟩ := ih (k + 1) _ _ (by omega) (by rw [hn, rn_eq, if_pos ⟨by omega, hf2⟩]; rfl) R2 h1 rfl h4 rfl
        refine ⟨h', r', ?_, a2, a3, a4, a5, a6, a7, a8, (zsm_pf.tr zsm_pf).tr a9⟩
        rw [e0, ← a1]
        conv =>
          lhs
          simp only [zi49_16, zi49_16n, zi49_17, zi49_20, zi49_20n, zi49_21, zi49_24, zi49_25, zi49_27, zi49_30, zi49_30n, zi49_31, zi49_34, zi49_34n, zi49_35, zi49_38, zi49_39, zi49_41, zi49_44, zi49_44n, zi49_45, zi49_45n, zi49_46, zi49_49, zi49_51, zi49_52, zi49_52n, zi49_53, zi49_56, zi49_56n, zi49_57, zi49_60, zi49_61, zi49_62, zi49_64, zi49_65, zi49_68, zi49_71, zi49_74, zi49_74n, zi49_75, zi49_75i, zi49_76, zi49_79, zi49_80, zi49_81, zi49_84, zcl1, zlow_0, zlow_1, zlow_2, zlow_3, zlow_4, zfree_0, zfree_i, zfree_r, zfree_n, zfree_d, zfree_f, zfree_s, if_true, if_false, Option.bind_some, Option.toList_some, Option.toList_none, List.cons_append, List.nil_append, List.set_cons_zero, List.set_cons_succ, Bool.false_eq_true, reduceIte, zsw_c, zsw_n, Nat.reduceAdd, hR.2.1, f3, g, (fig_y t1 hf2).1, (fig_y t1 hf2).2, f6, ev, em, hR.st 6 (by omega) (by omega), g3, ix_p1, R1.st 3 (by omega) (by omega)]
  have R0 := hR.put 6 (by omega) (by omega) 0
  obtain ⟨h', r', a1, a2, a3, a4, a5, a6, a7, a8, a9⟩ := loop (L - p) 0 (zpf h 2 6 (.int 0)) (upd r 6 0) (by omega) rfl R0 h1 h3 h4 rfl
  refine ⟨h', r', ?_, a2, a3, a4, a5, a6, a7, a8, zsm_pf.tr a9⟩
  rw [← a1]
  conv =>
    lhs
    simp only [ze49, zi49_0, zi49_0n, zi49_1, zi49_2, zcl1, zlow_0, zlow_1, zlow_2, zlow_3, zlow_4, zfree_0, zfree_i, zfree_r, zfree_n, zfree_d, zfree_f, zfree_s, if_true, if_false, Option.bind_some, Option.toList_some, Option.toList_none, List.cons_append, List.nil_append, List.set_cons_zero, List.set_cons_succ, Bool.false_eq_true, reduceIte, zsw_c, zsw_n, Nat.reduceAdd, hR.st 6 (by omega) (by omega)]
theorem ac_vl {p : Nat} (hp : p < L) (hf : fig (t p) = true) (h2 : rnN t L p - p ≤ 2) : acN t p (rnN t L p - p) = vlN t L p ∧ vlN t L p < 100 := by
  have hd : ∀ c, fig c = true → 48 ≤ c ∧ c ≤ 57 := fun c h => by
    unfold fig at h
    rw [Bool.and_eq_true, decide_eq_true_eq, decide_eq_true_eq] at h
    exact h
  have h0 := hd _ hf
  have e1 : rnN t L p = rnN t L (p + 1) := by
    have := rn_eq t L p
    rw [if_pos ⟨hp, hf⟩] at this
    exact this
  have hle := rn_le t L (L - (p + 1)) (p + 1) (by omega)
  unfold vlN
  by_cases h1 : rnN t L p = p + 1
  · rw [if_pos h1, h1, Nat.add_sub_cancel_left]
    refine ⟨?_, by omega⟩
    show min (0 * 10 + t (p + 0) - 48) 1000 = _
    rw [Nat.add_zero]
    omega
  · have h3 : rnN t L p = p + 2 := by omega
    have hf1 : fig (t (p + 1)) = true := by
      have := rn_eq t L (p + 1)
      cases hq : fig (t (p + 1))
      · rw [if_neg (fun z => by rw [hq] at z; cases z.2)] at this
        omega
      · rfl
    have h4 := hd _ hf1
    rw [if_neg h1, h3, Nat.add_sub_cancel_left]
    refine ⟨?_, by omega⟩
    show min (min (0 * 10 + t (p + 0) - 48) 1000 * 10 + t (p + 1) - 48) 1000 = _
    rw [Nat.add_zero]
    omega
theorem sp_advance {p : Nat} (hL : L ≤ 120) (hp : p ≤ L) (hT : tpO T t L) (hR : RD h r T) (h1 : r 1 = nI L) (h3 : r 3 = nI p) : ∃ h' r', zcall zpp E 48 [.ref 2] h = some (none, h') ∧ RD h' r' T ∧ r' 1 = nI L ∧ r' 2 = r 2 ∧ r' 3 = nI (tkX t L p) ∧ r' 4 = nI p ∧ r' 5 = tkC t L p ∧ (tkK t L p = 3 → r' 6 = nI (tkV t L p)) ∧ zsm (fun a => a = 2) h h' := by
  have f1 := hR.i 1 (by omega) (by omega)
  rw [h1] at f1
  have f3 := hR.i 3 (by omega) (by omega)
  rw [h3] at f3
  have c1 : zsel 5 [5, 49] = some 49 := rfl
  have R1 := hR.put 4 (by omega) (by omega) (nI p)
  have g1 : zfld [5] (zpf h 2 4 (.int (nI p))) 2 1 = some (.int (nI L)) := (zfld_f (by decide)).trans f1
  have g3 : zfld [5] (zpf h 2 4 (.int (nI p))) 2 3 = some (.int (nI p)) := (zfld_f (by decide)).trans f3
  have e0 : zcall zpp E 48 [.ref 2] h = zrun zpp E 48 (16, [.ref 2, .retAddr 0, .retAddr 0], [.int (nI L), .int (nI p)], zpf h 2 4 (.int (nI p))) := by
    conv =>
      lhs
      simp only [ze48, zi48_0, zi48_0n, zi48_1, zi48_1n, zi48_2, zi48_5, zi48_8, zi48_8n, zi48_9, zi48_12, zi48_12n, zi48_13, zcl1, zlow_0, zlow_1, zlow_2, zlow_3, zlow_4, zfree_0, zfree_i, zfree_r, zfree_n, zfree_d, zfree_f, zfree_s, if_true, if_false, Option.bind_some, Option.toList_some, Option.toList_none, List.cons_append, List.nil_append, List.set_cons_zero, List.set_cons_succ, Bool.false_eq_true, reduceIte, zsw_c, zsw_n, Nat.reduceAdd, f3, hR.st 4 (by omega) (by omega), g3, g1]
  by_cases hpL : L ≤ p
  · refine ⟨_, _, ?_, R1.put 5 (by omega) (by omega) (-1), h1, rfl, ?_, rfl, ?_, fun hk => ?_, zsm_pf.tr zsm_pf⟩
    · rw [e0, zi48_16, if_neg (by rw [nI_ltP (by omega) (by omega)]; omega)]
      simp only [zi48_19, zi48_19n, zi48_20, zi48_21, zi48_24 (sk := []), zcl1, zlow_0, zlow_1, zlow_2, zlow_3, zlow_4, zfree_0, zfree_i, zfree_r, zfree_n, zfree_d, zfree_f, zfree_s, if_true, if_false, Option.bind_some, Option.toList_some, Option.toList_none, List.cons_append, List.nil_append, List.set_cons_zero, List.set_cons_succ, Bool.false_eq_true, reduceIte, zsw_c, zsw_n, Nat.reduceAdd, R1.st 5 (by omega) (by omega)]
    · unfold tkX
      rw [if_pos hpL]
      exact h3
    · unfold tkC
      rw [if_pos hpL]
      rfl
    · unfold tkK at hk
      rw [if_pos hpL] at hk
      omega
  · obtain ⟨t1, t2⟩ := hT p (by omega)
    have g := zarr_at (j := p) R1.2.2.2 (by omega) (by omega)
    rw [t2] at g
    have e1n : fig (t p) = false → zcall zpp E 48 [.ref 2] h = zrun zpp E 48 (52, [.ref 2, .int (nI (t p)), .retAddr 0], [], zpf h 2 4 (.int (nI p))) := by
      intro hf
      rw [e0, zi48_16, if_pos (by rw [nI_ltP (by omega) (by omega)]; omega)]
      rcases fig_n t1 hf with q1 | ⟨q1, q2⟩
      · conv =>
          lhs
          simp only [zi48_25, zi48_25n, zi48_26, zi48_29, zi48_29n, zi48_30, zi48_33, zi48_34, zi48_35, zi48_36, zi48_38, zi48_41, zi48_42, zi48_44, zcl1, zlow_0, zlow_1, zlow_2, zlow_3, zlow_4, zfree_0, zfree_i, zfree_r, zfree_n, zfree_d, zfree_f, zfree_s, if_true, if_false, Option.bind_some, Option.toList_some, Option.toList_none, List.cons_append, List.nil_append, List.set_cons_zero, List.set_cons_succ, Bool.false_eq_true, reduceIte, zsw_c, zsw_n, Nat.reduceAdd, R1.2.1, g3, g, q1]
      · conv =>
          lhs
          simp only [zi48_25, zi48_25n, zi48_26, zi48_29, zi48_29n, zi48_30, zi48_33, zi48_34, zi48_35, zi48_36, zi48_38, zi48_41, zi48_42, zi48_44, zcl1, zlow_0, zlow_1, zlow_2, zlow_3, zlow_4, zfree_0, zfree_i, zfree_r, zfree_n, zfree_d, zfree_f, zfree_s, if_true, if_false, Option.bind_some, Option.toList_some, Option.toList_none, List.cons_append, List.nil_append, List.set_cons_zero, List.set_cons_succ, Bool.false_eq_true, reduceIte, zsw_c, zsw_n, Nat.reduceAdd, R1.2.1, g3, g, q1, q2]
    have e1y : fig (t p) = true → zcall zpp E 48 [.ref 2] h = zrun zpp E 48 (47, [.ref 2, .int (nI (t p)), .retAddr 0], [], zpf h 2 4 (.int (nI p))) := by
      intro hf
      rw [e0, zi48_16, if_pos (by rw [nI_ltP (by omega) (by omega)]; omega)]
      conv =>
        lhs
        simp only [zi48_25, zi48_25n, zi48_26, zi48_29, zi48_29n, zi48_30, zi48_33, zi48_34, zi48_35, zi48_36, zi48_38, zi48_41, zi48_42, zi48_44, zcl1, zlow_0, zlow_1, zlow_2, zlow_3, zlow_4, zfree_0, zfree_i, zfree_r, zfree_n, zfree_d, zfree_f, zfree_s, if_true, if_false, Option.bind_some, Option.toList_some, Option.toList_none, List.cons_append, List.nil_append, List.set_cons_zero, List.set_cons_succ, Bool.false_eq_true, reduceIte, zsw_c, zsw_n, Nat.reduceAdd, R1.2.1, g3, g, (fig_y t1 hf).1, (fig_y t1 hf).2]
    cases hf : fig (t p)
    · -- one letter
      have R2 := R1.put 3 (by omega) (by omega) (nI (p + 1))
      have ew : (decide ((97 : Int32) ≤ nI (t p)) && decide (nI (t p) ≤ 122)) = ltr (t p) := by
        unfold ltr
        rw [show (97 : Int32) = nI 97 from rfl, show (122 : Int32) = nI 122 from rfl]
        congr 1
        · exact decide_eq_decide.mpr (nI_leI (by omega) (by omega))
        · exact decide_eq_decide.mpr (nI_leI (by omega) (by omega))
      have e44 : (nI (t p) = 44) = (t p = 44) := by rw [show (44 : Int32) = nI 44 from rfl, nI_eqP (by omega) (by omega)]
      have e59 : (nI (t p) = 59) = (t p = 59) := by rw [show (59 : Int32) = nI 59 from rfl, nI_eqP (by omega) (by omega)]
      have eC : tkC t L p = if ltr (t p) = true ∨ t p = 44 ∨ t p = 59 then nI (t p) else 0 := by
        unfold tkC
        rw [if_neg hpL, hf, if_neg (by decide)]
      refine ⟨_, _, ?_, R2.put 5 (by omega) (by omega) (tkC t L p), h1, rfl, ?_, rfl, rfl, fun hk => ?_, (zsm_pf.tr zsm_pf).tr zsm_pf⟩
      · rw [e1n hf, eC]
        cases hl : ltr (t p)
        · by_cases h44 : t p = 44
          · rw [if_pos (Or.inr (Or.inl h44))]
            simp only [zi48_52, zi48_52n, zi48_53, zi48_53i, zi48_54, zi48_57, zi48_58, zi48_59, zi48_62, zi48_63, zi48_65, zi48_67, zi48_70, zi48_73, zi48_74, zi48_76, zi48_79, zi48_80, zi48_82, zi48_85, zi48_86, zi48_89, zi48_90, zi48_91, zi48_91n, zi48_92, zi48_93, zi48_96, zi48_97, zi48_100, zi48_101, zi48_104 (sk := []), zcl1, zlow_0, zlow_1, zlow_2, zlow_3, zlow_4, zfree_0, zfree_i, zfree_r, zfree_n, zfree_d, zfree_f, zfree_s, if_true, if_false, Option.bind_some, Option.toList_some, Option.toList_none, List.cons_append, List.nil_append, List.set_cons_zero, List.set_cons_succ, Bool.false_eq_true, reduceIte, zsw_c, zsw_n, Nat.reduceAdd, zb_f, z00, g3, ix_p1, R1.st 3 (by omega) (by omega), sp_within, ew, hl, e44, eq_true h44, z10, R2.st 5 (by omega) (by omega)]
          · by_cases h59 : t p = 59
            · rw [if_pos (Or.inr (Or.inr h59))]
              simp only [zi48_52, zi48_52n, zi48_53, zi48_53i, zi48_54, zi48_57, zi48_58, zi48_59, zi48_62, zi48_63, zi48_65, zi48_67, zi48_70, zi48_73, zi48_74, zi48_76, zi48_79, zi48_80, zi48_82, zi48_85, zi48_86, zi48_89, zi48_90, zi48_91, zi48_91n, zi48_92, zi48_93, zi48_96, zi48_97, zi48_100, zi48_101, zi48_104 (sk := []), zcl1, zlow_0, zlow_1, zlow_2, zlow_3, zlow_4, zfree_0, zfree_i, zfree_r, zfree_n, zfree_d, zfree_f, zfree_s, if_true, if_false, Option.bind_some, Option.toList_some, Option.toList_none, List.cons_append, List.nil_append, List.set_cons_zero, List.set_cons_succ, Bool.false_eq_true, reduceIte, zsw_c, zsw_n, Nat.reduceAdd, zb_f, z00, g3, ix_p1, R1.st 3 (by omega) (by omega), sp_within, ew, hl, e44, eq_false h44, e59, eq_true h59, not_true_eq_false, z10, R2.st 5 (by omega) (by omega)]
            · rw [if_neg (fun z => by rcases z with z | z | z; cases z; exact h44 z; exact h59 z)]
              simp only [zi48_52, zi48_52n, zi48_53, zi48_53i, zi48_54, zi48_57, zi48_58, zi48_59, zi48_62, zi48_63, zi48_65, zi48_67, zi48_70, zi48_73, zi48_74, zi48_76, zi48_79, zi48_80, zi48_82, zi48_85, zi48_86, zi48_89, zi48_90, zi48_91, zi48_91n, zi48_92, zi48_93, zi48_96, zi48_97, zi48_100, zi48_101, zi48_104 (sk := []), zcl1, zlow_0, zlow_1, zlow_2, zlow_3, zlow_4, zfree_0, zfree_i, zfree_r, zfree_n, zfree_d, zfree_f, zfree_s, if_true, if_false, Option.bind_some, Option.toList_some, Option.toList_none, List.cons_append, List.nil_append, List.set_cons_zero, List.set_cons_succ, Bool.false_eq_true, reduceIte, zsw_c, zsw_n, Nat.reduceAdd, zb_f, z00, g3, ix_p1, R1.st 3 (by omega) (by omega), sp_within, ew, hl, e44, eq_false h44, e59, eq_false h59, not_false_eq_true, R2.st 5 (by omega) (by omega)]
        · rw [if_pos (Or.inl rfl)]
          simp only [zi48_52, zi48_52n, zi48_53, zi48_53i, zi48_54, zi48_57, zi48_58, zi48_59, zi48_62, zi48_63, zi48_65, zi48_67, zi48_70, zi48_73, zi48_74, zi48_76, zi48_79, zi48_80, zi48_82, zi48_85, zi48_86, zi48_89, zi48_90, zi48_91, zi48_91n, zi48_92, zi48_93, zi48_96, zi48_97, zi48_100, zi48_101, zi48_104 (sk := []), zcl1, zlow_0, zlow_1, zlow_2, zlow_3, zlow_4, zfree_0, zfree_i, zfree_r, zfree_n, zfree_d, zfree_f, zfree_s, if_true, if_false, Option.bind_some, Option.toList_some, Option.toList_none, List.cons_append, List.nil_append, List.set_cons_zero, List.set_cons_succ, Bool.false_eq_true, reduceIte, zsw_c, zsw_n, Nat.reduceAdd, zb_f, z00, g3, ix_p1, R1.st 3 (by omega) (by omega), sp_within, ew, hl, zb_t, z10, R2.st 5 (by omega) (by omega)]
      · unfold tkX
        rw [if_neg hpL, hf, if_neg (by decide)]
        rfl
      · unfold tkK at hk
        rw [if_neg hpL, hf] at hk
        split at hk
        · omega
        · rw [if_neg (by decide)] at hk
          split at hk <;> omega
    · obtain ⟨h', r', a1, a2, a3, a4, a5, a6, a7, a8, a9⟩ := sp_advNum (E := E) hL (by omega) hT hf R1 h1 h3 rfl
      refine ⟨h', r', ?_, a2, a3, a4, ?_, a6, ?_, fun hk => ?_, zsm_pf.tr a9⟩
      · rw [e1y hf]
        simp only [zi48_47, zi48_47n, zi48_48, zi48_51 (sk := []), zcl1, zlow_0, zlow_1, zlow_2, zlow_3, zlow_4, zfree_0, zfree_i, zfree_r, zfree_n, zfree_d, zfree_f, zfree_s, if_true, if_false, Option.bind_some, Option.toList_some, Option.toList_none, List.cons_append, List.nil_append, List.set_cons_zero, List.set_cons_succ, Bool.false_eq_true, reduceIte, zsw_c, zsw_n, Nat.reduceAdd, R1.1, c1, a1]
      · unfold tkX
        rw [if_neg hpL, hf, if_pos rfl]
        exact a5
      · unfold tkC
        rw [if_neg hpL, hf, if_pos rfl]
        exact a7
      · have h2 : rnN t L p - p ≤ 2 := by
          unfold tkK at hk
          rw [if_neg hpL, fig_ltr hf, if_neg (by decide), hf, if_pos rfl] at hk
          split at hk
          · assumption
          · omega
        rw [a8, (ac_vl (by omega) hf h2).1]
        unfold tkV
        rw [hf, if_pos rfl]
end RDS
