/-! THE TEXT: the component's loops -/
def bksE (t : Nat → Nat) (L : Nat) : Nat → (Nat → Nat) → Nat → Sum (Nat × Nat) Nat × (Nat → Nat)
  | 0, N, p => (.inr p, N)
  | f + 1, N, p => if sgN t L 107 p = true then (match bkE t L N p with | .inl x => (.inl x, N) | .inr q => bksE t L f (bkN t L N p) q) else (.inr p, N)
def soF (t : Nat → Nat) (L p : Nat) : Nat := if sgN t L 111 p = true then 0 else 1
def hdsE (t : Nat → Nat) (L : Nat) : Nat → (Nat → Nat) → Nat → Sum (Nat × Nat) Nat × (Nat → Nat)
  | 0, N, p => (.inr p, N)
  | f + 1, N, p => if sgN t L 111 p = true ∨ sgN t L 99 p = true then (match hdE t L (soF t L p) N p with | .inl x => (.inl x, N) | .inr q => hdsE t L f (hdN t L (soF t L p) N p) q) else (.inr p, N)
def kdF (t : Nat → Nat) (L p : Nat) : Nat := if sgN t L 116 p = true then 1 else if sgN t L 102 p = true then 2 else if sgN t L 112 p = true then 3 else if sgN t L 103 p = true then 4 else if sgN t L 110 p = true then 5 else 0
def lfsE (t : Nat → Nat) (L : Nat) : Nat → (Nat → Nat) → Nat → Sum (Nat × Nat) Nat × (Nat → Nat)
  | 0, N, p => (.inr p, N)
  | f + 1, N, p => if kdF t L p = 0 then (.inr p, N) else (match lfE t L N p with | .inl x => (.inl x, N) | .inr q => lfsE t L f (lfN t L (kdF t L p) N p) q)
section LPS
variable {E : zE} {h0 h : zH} {r0 r T : Nat → Int32} {t : Nat → Nat} {L s k p : Nat} {N : Nat → Nat}
theorem kdF_le : kdF t L p ≤ 5 := by
  unfold kdF
  split
  · omega
  · split
    · omega
    · split
      · omega
      · split
        · omega
        · split <;> omega
theorem kdF_sg (h : kdF t L p ≠ 0) : ∃ c, ltr c = true ∧ sgN t L c p = true := by
  unfold kdF at h
  split at h
  · exact ⟨116, rfl, by assumption⟩
  · split at h
    · exact ⟨102, rfl, by assumption⟩
    · split at h
      · exact ⟨112, rfl, by assumption⟩
      · split at h
        · exact ⟨103, rfl, by assumption⟩
        · split at h
          · exact ⟨110, rfl, by assumption⟩
          · omega
theorem sp_kindTold (hT : tpO T t L) (hR : RD h r T) (h5 : r 5 = tkC t L p) : zcall zpp E 43 [.ref 2] h = some (some (.int (nI (kdF t L p))), h) := by
  have f5 := hR.i 5 (by omega) (by omega)
  rw [h5] at f5
  have g : ∀ c, ltr c = true → (tkC t L p = nI c) = (sgN t L c p = true) := fun c hc => tkC_sg hT (Or.inl hc)
  have g1 : (tkC t L p = Int32.ofInt 116) = (sgN t L 116 p = true) := g 116 rfl
  have g2 : (tkC t L p = Int32.ofInt 102) = (sgN t L 102 p = true) := g 102 rfl
  have g3 : (tkC t L p = Int32.ofInt 112) = (sgN t L 112 p = true) := g 112 rfl
  have g4 : (tkC t L p = Int32.ofInt 103) = (sgN t L 103 p = true) := g 103 rfl
  have g5 : (tkC t L p = Int32.ofInt 110) = (sgN t L 110 p = true) := g 110 rfl
  have run : zcall zpp E 43 [.ref 2] h = zrun zpp E 43 (4, [.ref 2], [.int (tkC t L p)], h) := by
    conv =>
      lhs
      simp only [ze43, zi43_0, zi43_0n, zi43_1, zcl1, zlow_0, zlow_1, zlow_2, zlow_3, zlow_4, zfree_0, zfree_i, zfree_r, zfree_n, zfree_d, zfree_f, zfree_s, if_true, if_false, Option.bind_some, Option.toList_some, Option.toList_none, List.cons_append, List.nil_append, List.set_cons_zero, List.set_cons_succ, Bool.false_eq_true, reduceIte, zsw_c, zsw_n, Nat.reduceAdd, f5]
  rw [run]
  unfold kdF
  by_cases c1 : sgN t L 116 p = true
  · rw [if_pos c1, show tkC t L p = 116 from g1.mpr c1]
    simp only [zi43_0, zi43_0n, zi43_1, zi43_4, zi43_80, zi43_81 (sk := []), zi43_82, zi43_83 (sk := []), zi43_84, zi43_85 (sk := []), zi43_86, zi43_87 (sk := []), zi43_88, zi43_89 (sk := []), zi43_90, zi43_91 (sk := []), zcl1, zlow_0, zlow_1, zlow_2, zlow_3, zlow_4, zfree_0, zfree_i, zfree_r, zfree_n, zfree_d, zfree_f, zfree_s, if_true, if_false, Option.bind_some, Option.toList_some, Option.toList_none, List.cons_append, List.nil_append, List.set_cons_zero, List.set_cons_succ, Bool.false_eq_true, reduceIte, zsw_c, zsw_n, Nat.reduceAdd, zsw]
    rfl
  by_cases c2 : sgN t L 102 p = true
  · rw [if_neg c1, if_pos c2, show tkC t L p = 102 from g2.mpr c2]
    simp only [zi43_0, zi43_0n, zi43_1, zi43_4, zi43_80, zi43_81 (sk := []), zi43_82, zi43_83 (sk := []), zi43_84, zi43_85 (sk := []), zi43_86, zi43_87 (sk := []), zi43_88, zi43_89 (sk := []), zi43_90, zi43_91 (sk := []), zcl1, zlow_0, zlow_1, zlow_2, zlow_3, zlow_4, zfree_0, zfree_i, zfree_r, zfree_n, zfree_d, zfree_f, zfree_s, if_true, if_false, Option.bind_some, Option.toList_some, Option.toList_none, List.cons_append, List.nil_append, List.set_cons_zero, List.set_cons_succ, Bool.false_eq_true, reduceIte, zsw_c, zsw_n, Nat.reduceAdd, zsw]
    rfl
  by_cases c3 : sgN t L 112 p = true
  · rw [if_neg c1, if_neg c2, if_pos c3, show tkC t L p = 112 from g3.mpr c3]
    simp only [zi43_0, zi43_0n, zi43_1, zi43_4, zi43_80, zi43_81 (sk := []), zi43_82, zi43_83 (sk := []), zi43_84, zi43_85 (sk := []), zi43_86, zi43_87 (sk := []), zi43_88, zi43_89 (sk := []), zi43_90, zi43_91 (sk := []), zcl1, zlow_0, zlow_1, zlow_2, zlow_3, zlow_4, zfree_0, zfree_i, zfree_r, zfree_n, zfree_d, zfree_f, zfree_s, if_true, if_false, Option.bind_some, Option.toList_some, Option.toList_none, List.cons_append, List.nil_append, List.set_cons_zero, List.set_cons_succ, Bool.false_eq_true, reduceIte, zsw_c, zsw_n, Nat.reduceAdd, zsw]
    rfl
  by_cases c4 : sgN t L 103 p = true
  · rw [if_neg c1, if_neg c2, if_neg c3, if_pos c4, show tkC t L p = 103 from g4.mpr c4]
    simp only [zi43_0, zi43_0n, zi43_1, zi43_4, zi43_80, zi43_81 (sk := []), zi43_82, zi43_83 (sk := []), zi43_84, zi43_85 (sk := []), zi43_86, zi43_87 (sk := []), zi43_88, zi43_89 (sk := []), zi43_90, zi43_91 (sk := []), zcl1, zlow_0, zlow_1, zlow_2, zlow_3, zlow_4, zfree_0, zfree_i, zfree_r, zfree_n, zfree_d, zfree_f, zfree_s, if_true, if_false, Option.bind_some, Option.toList_some, Option.toList_none, List.cons_append, List.nil_append, List.set_cons_zero, List.set_cons_succ, Bool.false_eq_true, reduceIte, zsw_c, zsw_n, Nat.reduceAdd, zsw]
    rfl
  by_cases c5 : sgN t L 110 p = true
  · rw [if_neg c1, if_neg c2, if_neg c3, if_neg c4, if_pos c5, show tkC t L p = 110 from g5.mpr c5]
    simp only [zi43_0, zi43_0n, zi43_1, zi43_4, zi43_80, zi43_81 (sk := []), zi43_82, zi43_83 (sk := []), zi43_84, zi43_85 (sk := []), zi43_86, zi43_87 (sk := []), zi43_88, zi43_89 (sk := []), zi43_90, zi43_91 (sk := []), zcl1, zlow_0, zlow_1, zlow_2, zlow_3, zlow_4, zfree_0, zfree_i, zfree_r, zfree_n, zfree_d, zfree_f, zfree_s, if_true, if_false, Option.bind_some, Option.toList_some, Option.toList_none, List.cons_append, List.nil_append, List.set_cons_zero, List.set_cons_succ, Bool.false_eq_true, reduceIte, zsw_c, zsw_n, Nat.reduceAdd, zsw]
    rfl
  rw [if_neg c1, if_neg c2, if_neg c3, if_neg c4, if_neg c5]
  simp only [zi43_0, zi43_0n, zi43_1, zi43_4, zi43_80, zi43_81 (sk := []), zi43_82, zi43_83 (sk := []), zi43_84, zi43_85 (sk := []), zi43_86, zi43_87 (sk := []), zi43_88, zi43_89 (sk := []), zi43_90, zi43_91 (sk := []), zcl1, zlow_0, zlow_1, zlow_2, zlow_3, zlow_4, zfree_0, zfree_i, zfree_r, zfree_n, zfree_d, zfree_f, zfree_s, if_true, if_false, Option.bind_some, Option.toList_some, Option.toList_none, List.cons_append, List.nil_append, List.set_cons_zero, List.set_cons_succ, Bool.false_eq_true, reduceIte, zsw_c, zsw_n, Nat.reduceAdd, zsw, g1, g2, g3, g4, g5, eq_false c1, eq_false c2, eq_false c3, eq_false c4, eq_false c5, ite_self]
  rfl
end LPS
theorem cBikesL {E : zE} {h0 : zH} {r0 T : Nat → Int32} {t : Nat → Nat} {L s k : Nat} (hL : L ≤ 120) (hT : tpO T t L) (hs : 16 ≤ s ∧ s < 34) : ∀ (f : Nat) (N : Nat → Nat) (p : Nat) (h : zH) (r : Nat → Int32), f + N 3 = 9 → NI N → N 4 = 0 → N 5 = 0 → RC h0 h r0 r T t L s k N (.inr p) → ∃ h' r', zrun zpp E 37 (9, [.ref 2, .ref s, .int 1, .int (nI (N 3))], [], h) = some (some (.int (zb (isR (bksE t L f N p).1))), h') ∧ RC h0 h' r0 r' T t L s k (bksE t L f N p).2 (bksE t L f N p).1
  | 0, N, p, h, r, hf, hN, h4, h5, hC => by have := hN.2.2.2.1; omega
  | f + 1, N, p, h, r, hf, hN, h4, h5, hC => by
    have c1 : zsel 5 [5, 38] = some 38 := rfl
    have h3 := hN.2.2.2.1
    have ng : ¬ (8 : Int32) < nI (N 3) := by rw [show (8 : Int32) = nI 8 from rfl, nI_ltP (by omega) (by omega)]; omega
    have hR := hC.1
    have f5 := hR.i 5 (by omega) (by omega)
    rw [show r 5 = tkC t L p from hC.2.2.2.2.2.2.2.1] at f5
    have g : (tkC t L p = 107) = (sgN t L 107 p = true) := tkC_sg hT (Or.inl (show ltr 107 = true from rfl))
    unfold bksE
    by_cases hk : sgN t L 107 p = true
    · rw [if_pos hk]
      obtain ⟨ha, ra, a1, a2⟩ := cBike (E := E) hL hT hs hk h3 h4 h5 hN.d hC
      have run : zrun zpp E 37 (9, [.ref 2, .ref s, .int 1, .int (nI (N 3))], [], h) = zrun zpp E 37 (9, [.ref 2, .ref s, .int (zb (isR (bkE t L N p))), .int (nI (N 3 + 1))], [], ha) := by
        conv =>
          lhs
          simp only [zi37_9, zi37_10, zi37_12, zi37_15, zi37_16, zi37_19, zi37_19n, zi37_20, zi37_23, zi37_25, zcl1, zlow_0, zlow_1, zlow_2, zlow_3, zlow_4, zfree_0, zfree_i, zfree_r, zfree_n, zfree_d, zfree_f, zfree_s, if_true, if_false, Option.bind_some, Option.toList_some, Option.toList_none, List.cons_append, List.nil_append, List.set_cons_zero, List.set_cons_succ, Bool.false_eq_true, reduceIte, zsw_c, zsw_n, Nat.reduceAdd, eq_false ng, z10, f5, g, eq_true hk, a1, zi37_48, zi37_49, show nI (N 3) + 1 = nI (N 3 + 1) from nI_add _ _]
        exact zi37_52
      cases hb : bkE t L N p with
      | inl x =>
        rw [hb] at a2
        refine ⟨ha, ra, ?_, a2⟩
        rw [run, hb]
        by_cases hg : (8 : Int32) < nI (N 3 + 1)
        · simp only [zi37_9, zi37_10, zi37_12, zi37_15, zi37_16, zi37_19, zi37_19n, zi37_20, zi37_23, zi37_25, zi37_55, zi37_56 (sk := []), zcl1, zlow_0, zlow_1, zlow_2, zlow_3, zlow_4, zfree_0, zfree_i, zfree_r, zfree_n, zfree_d, zfree_f, zfree_s, if_true, if_false, Option.bind_some, Option.toList_some, Option.toList_none, List.cons_append, List.nil_append, List.set_cons_zero, List.set_cons_succ, Bool.false_eq_true, reduceIte, zsw_c, zsw_n, Nat.reduceAdd, eq_true hg, isR, zb_f, z00]
        · simp only [zi37_9, zi37_10, zi37_12, zi37_15, zi37_16, zi37_19, zi37_19n, zi37_20, zi37_23, zi37_25, zi37_55, zi37_56 (sk := []), zcl1, zlow_0, zlow_1, zlow_2, zlow_3, zlow_4, zfree_0, zfree_i, zfree_r, zfree_n, zfree_d, zfree_f, zfree_s, if_true, if_false, Option.bind_some, Option.toList_some, Option.toList_none, List.cons_append, List.nil_append, List.set_cons_zero, List.set_cons_succ, Bool.false_eq_true, reduceIte, zsw_c, zsw_n, Nat.reduceAdd, eq_false hg, isR, zb_f, z00]
      | inr q =>
        rw [hb] at a2
        obtain ⟨b1, b2⟩ := bkE_ni hN h4 h5 hb
        have e3 : bkN t L N p 3 = N 3 + 1 := rfl
        obtain ⟨hz, rz, z1, z2⟩ := cBikesL hL hT hs f (bkN t L N p) q ha ra (by rw [e3]; omega) b2 (by unfold bkN; rw [bikN_s (by omega) (by omega) (by omega)]; exact h4) (by unfold bkN; rw [bikN_s (by omega) (by omega) (by omega)]; exact h5) a2
        refine ⟨hz, rz, ?_, z2⟩
        rw [run, hb, ← z1, e3]
        rfl
    · rw [if_neg hk]
      refine ⟨h, r, ?_, hC⟩
      simp only [zi37_9, zi37_10, zi37_12, zi37_15, zi37_16, zi37_19, zi37_19n, zi37_20, zi37_23, zi37_25, zi37_55, zi37_56 (sk := []), zcl1, zlow_0, zlow_1, zlow_2, zlow_3, zlow_4, zfree_0, zfree_i, zfree_r, zfree_n, zfree_d, zfree_f, zfree_s, if_true, if_false, Option.bind_some, Option.toList_some, Option.toList_none, List.cons_append, List.nil_append, List.set_cons_zero, List.set_cons_succ, Bool.false_eq_true, reduceIte, zsw_c, zsw_n, Nat.reduceAdd, eq_false ng, z10, f5, g, eq_false hk, isR, zb_t]
theorem cHoldsL {E : zE} {h0 : zH} {r0 T : Nat → Int32} {t : Nat → Nat} {L s k : Nat} (hL : L ≤ 120) (hT : tpO T t L) (hs : 16 ≤ s ∧ s < 34) : ∀ (f : Nat) (N : Nat → Nat) (p : Nat) (h : zH) (r : Nat → Int32), f + N 4 = 11 → NI N → 1 ≤ N 3 → N 5 = 0 → RC h0 h r0 r T t L s k N (.inr p) → ∃ h' r', zrun zpp E 39 (4, [.ref 2, .ref s, .int 1, .int (nI (N 4))], [], h) = some (some (.int (zb (isR (hdsE t L f N p).1))), h') ∧ RC h0 h' r0 r' T t L s k (hdsE t L f N p).2 (hdsE t L f N p).1
  | 0, N, p, h, r, hf, hN, h3, h5, hC => by have := hN.2.2.2.2.1; omega
  | f + 1, N, p, h, r, hf, hN, h3, h5, hC => by
    have c1 : zsel 5 [5, 40] = some 40 := rfl
    have h4 := hN.2.2.2.2.1
    have ng : ¬ (10 : Int32) < nI (N 4) := by rw [show (10 : Int32) = nI 10 from rfl, nI_ltP (by omega) (by omega)]; omega
    have hR := hC.1
    have f5 := hR.i 5 (by omega) (by omega)
    rw [show r 5 = tkC t L p from hC.2.2.2.2.2.2.2.1] at f5
    have g1 : (tkC t L p = 111) = (sgN t L 111 p = true) := tkC_sg hT (Or.inl (show ltr 111 = true from rfl))
    have g2 : (tkC t L p = 99) = (sgN t L 99 p = true) := tkC_sg hT (Or.inl (show ltr 99 = true from rfl))
    unfold hdsE
    by_cases hk : sgN t L 111 p = true ∨ sgN t L 99 p = true
    · rw [if_pos hk]
      have hso : soF t L p ≤ 1 := by unfold soF; split <;> omega
      have hcc : ∃ c, ltr c = true ∧ sgN t L c p = true := by
        rcases hk with z | z
        · exact ⟨111, rfl, z⟩
        · exact ⟨99, rfl, z⟩
      obtain ⟨c, hc1, hc2⟩ := hcc
      obtain ⟨ha, ra, a1, a2⟩ := cHold (E := E) (so := soF t L p) hL hT hs hso hc1 hc2 ⟨h3, hN.2.2.2.1⟩ h4 hN.hh hC
      have run : zrun zpp E 39 (4, [.ref 2, .ref s, .int 1, .int (nI (N 4))], [], h) = zrun zpp E 39 (4, [.ref 2, .ref s, .int (zb (isR (hdE t L (soF t L p) N p))), .int (nI (N 4 + 1))], [], ha) := by
        by_cases hq : sgN t L 111 p = true
        · have e0 : soF t L p = 0 := if_pos hq
          rw [e0] at a1
          have a1 : ∀ x2 x3 : Value, zrun zpp E 39 (48, [.ref 2, .ref s, x2, x3], [.int 0, .ref s, .ref 2], h) = _ := a1
          rw [e0]
          conv =>
            lhs
            simp only [zi39_4, zi39_5, zi39_7, zi39_10, zi39_11, zi39_14, zi39_14n, zi39_15, zi39_18, zi39_20, zi39_23, zi39_23n, zi39_24, zi39_27, zi39_29, zi39_32, zi39_32n, zi39_33, zi39_33n, zi39_34, zi39_34n, zi39_35, zi39_38, zi39_40, zi39_43, zi39_44, zi39_47, zcl1, zlow_0, zlow_1, zlow_2, zlow_3, zlow_4, zfree_0, zfree_i, zfree_r, zfree_n, zfree_d, zfree_f, zfree_s, if_true, if_false, Option.bind_some, Option.toList_some, Option.toList_none, List.cons_append, List.nil_append, List.set_cons_zero, List.set_cons_succ, Bool.false_eq_true, reduceIte, zsw_c, zsw_n, Nat.reduceAdd, eq_false ng, z10, f5, g1, eq_true hq, a1, zi39_66, zi39_67, show nI (N 4) + 1 = nI (N 4 + 1) from nI_add _ _]
          exact zi39_70
        · have e0 : soF t L p = 1 := if_neg hq
          have hq2 : sgN t L 99 p = true := by
            rcases hk with z | z
            · exact absurd z hq
            · exact z
          rw [e0] at a1
          have a1 : ∀ x2 x3 : Value, zrun zpp E 39 (48, [.ref 2, .ref s, x2, x3], [.int 1, .ref s, .ref 2], h) = _ := a1
          rw [e0]
          conv =>
            lhs
            simp only [zi39_4, zi39_5, zi39_7, zi39_10, zi39_11, zi39_14, zi39_14n, zi39_15, zi39_18, zi39_20, zi39_23, zi39_23n, zi39_24, zi39_27, zi39_29, zi39_32, zi39_32n, zi39_33, zi39_33n, zi39_34, zi39_34n, zi39_35, zi39_38, zi39_40, zi39_43, zi39_44, zi39_47, zcl1, zlow_0, zlow_1, zlow_2, zlow_3, zlow_4, zfree_0, zfree_i, zfree_r, zfree_n, zfree_d, zfree_f, zfree_s, if_true, if_false, Option.bind_some, Option.toList_some, Option.toList_none, List.cons_append, List.nil_append, List.set_cons_zero, List.set_cons_succ, Bool.false_eq_true, reduceIte, zsw_c, zsw_n, Nat.reduceAdd, eq_false ng, z10, f5, g1, eq_false hq, g2, eq_true hq2, a1, zi39_66, zi39_67, show nI (N 4) + 1 = nI (N 4 + 1) from nI_add _ _]
          exact zi39_70
      cases hb : hdE t L (soF t L p) N p with
      | inl x =>
        rw [hb] at a2
        refine ⟨ha, ra, ?_, a2⟩
        rw [run, hb]
        by_cases hg : (10 : Int32) < nI (N 4 + 1)
        · simp only [zi39_4, zi39_5, zi39_7, zi39_10, zi39_11, zi39_14, zi39_14n, zi39_15, zi39_18, zi39_20, zi39_23, zi39_23n, zi39_24, zi39_27, zi39_29, zi39_73, zi39_74 (sk := []), zcl1, zlow_0, zlow_1, zlow_2, zlow_3, zlow_4, zfree_0, zfree_i, zfree_r, zfree_n, zfree_d, zfree_f, zfree_s, if_true, if_false, Option.bind_some, Option.toList_some, Option.toList_none, List.cons_append, List.nil_append, List.set_cons_zero, List.set_cons_succ, Bool.false_eq_true, reduceIte, zsw_c, zsw_n, Nat.reduceAdd, eq_true hg, isR, zb_f, z00]
        · simp only [zi39_4, zi39_5, zi39_7, zi39_10, zi39_11, zi39_14, zi39_14n, zi39_15, zi39_18, zi39_20, zi39_23, zi39_23n, zi39_24, zi39_27, zi39_29, zi39_73, zi39_74 (sk := []), zcl1, zlow_0, zlow_1, zlow_2, zlow_3, zlow_4, zfree_0, zfree_i, zfree_r, zfree_n, zfree_d, zfree_f, zfree_s, if_true, if_false, Option.bind_some, Option.toList_some, Option.toList_none, List.cons_append, List.nil_append, List.set_cons_zero, List.set_cons_succ, Bool.false_eq_true, reduceIte, zsw_c, zsw_n, Nat.reduceAdd, eq_false hg, isR, zb_f, z00]
      | inr q =>
        rw [hb] at a2
        obtain ⟨b1, b2⟩ := hdE_ni hN h3 h5 hso hb
        have e4 : hdN t L (soF t L p) N p 4 = N 4 + 1 := rfl
        obtain ⟨hz, rz, z1, z2⟩ := cHoldsL hL hT hs f (hdN t L (soF t L p) N p) q ha ra (by rw [e4]; omega) b2 (by unfold hdN; rw [hol_O (by omega) (by omega)]; exact h3) (by unfold hdN; rw [hol_O (by omega) (by omega)]; exact h5) a2
        refine ⟨hz, rz, ?_, z2⟩
        rw [run, hb, ← z1, e4]
        rfl
    · rw [if_neg hk]
      refine ⟨h, r, ?_, hC⟩
      have n1 : ¬ sgN t L 111 p = true := fun z => hk (Or.inl z)
      have n2 : ¬ sgN t L 99 p = true := fun z => hk (Or.inr z)
      simp only [zi39_4, zi39_5, zi39_7, zi39_10, zi39_11, zi39_14, zi39_14n, zi39_15, zi39_18, zi39_20, zi39_23, zi39_23n, zi39_24, zi39_27, zi39_29, zi39_73, zi39_74 (sk := []), zcl1, zlow_0, zlow_1, zlow_2, zlow_3, zlow_4, zfree_0, zfree_i, zfree_r, zfree_n, zfree_d, zfree_f, zfree_s, if_true, if_false, Option.bind_some, Option.toList_some, Option.toList_none, List.cons_append, List.nil_append, List.set_cons_zero, List.set_cons_succ, Bool.false_eq_true, reduceIte, zsw_c, zsw_n, Nat.reduceAdd, eq_false ng, z10, f5, g1, g2, eq_false n1, eq_false n2, isR, zb_t]
/-- lifters, up to the end of the loop -/
theorem cLiftersL {E : zE} {h0 : zH} {r0 T : Nat → Int32} {t : Nat → Nat} {L s : Nat} (hL : L ≤ 120) (hT : tpO T t L) (hs : 16 ≤ s ∧ s < 34) (h81 : 87 ≤ h0.length) : ∀ (f : Nat) (N : Nat → Nat) (p : Nat) (h : zH) (r : Nat → Int32) (w4 : Value), f + N 5 = 5 → NI N → 1 ≤ N 3 → RC h0 h r0 r T t L s (N 5) N (.inr p) → ∃ h' r' i' w', zrun zpp E 41 (4, [.ref 2, .ref s, .int 1, .int (nI (N 5)), w4], [], h) = zrun zpp E 41 (64, [.ref 2, .ref s, .int (zb (isR (lfsE t L f N p).1)), .int i', w'], [], h') ∧ RC h0 h' r0 r' T t L s 5 (lfsE t L f N p).2 (lfsE t L f N p).1
  | 0, N, p, h, r, w4, hf, hN, h3, hC => by have := hN.2.2.2.2.2.1; omega
  | f + 1, N, p, h, r, w4, hf, hN, h3, hC => by
    have c2 : zsel 5 [5, 43] = some 43 := rfl
    have up : ∀ {H : zH} {R : Nat → Int32} {M : Nat → Nat} {e : Sum (Nat × Nat) Nat} {j : Nat}, j ≤ 5 → RC h0 H r0 R T t L s j M e → RC h0 H r0 R T t L s 5 M e := fun {H R M e j} hj z => ⟨z.1, z.2.1, ⟨z.2.2.1.1, z.2.2.1.2.1, by have := z.2.2.1.2.2.1; omega, by have := z.2.2.1.2.2.2; omega⟩, z.2.2.2⟩
    have h5 := hN.2.2.2.2.2.1
    have ng : ¬ (4 : Int32) < nI (N 5) := by rw [show (4 : Int32) = nI 4 from rfl, nI_ltP (by omega) (by omega)]; omega
    have hR := hC.1
    have kt := sp_kindTold (E := E) hT hR hC.2.2.2.2.2.2.2.1
    unfold lfsE
    have hk5 := kdF_le (t := t) (L := L) (p := p)
    by_cases hk : kdF t L p = 0
    · rw [if_pos hk]
      refine ⟨h, r, nI (N 5), w4, ?_, up (by omega) hC⟩
      rw [hk] at kt
      conv =>
        lhs
        simp only [zi41_4, zi41_5, zi41_6, zi41_9, zi41_10, zi41_13, zi41_13n, zi41_14, zi41_17, zcl1, zlow_0, zlow_1, zlow_2, zlow_3, zlow_4, zfree_0, zfree_i, zfree_r, zfree_n, zfree_d, zfree_f, zfree_s, if_true, if_false, Option.bind_some, Option.toList_some, Option.toList_none, List.cons_append, List.nil_append, List.set_cons_zero, List.set_cons_succ, Bool.false_eq_true, reduceIte, zsw_c, zsw_n, Nat.reduceAdd, eq_false ng, z10, hR.1, c2, kt, show (nI 0 = 0) = True by decide]
      rfl
    · rw [if_neg hk]
      obtain ⟨c, hc1, hc2⟩ := kdF_sg hk
      have nk : ¬ nI (kdF t L p) = 0 := nI_ne0 (by omega) (by omega)
      obtain ⟨ha, ra, a1, a2⟩ := cLifter (E := E) (kd := kdF t L p) hL hT hs (by omega) hc1 hc2 hN.2.2.2.1 hN.2.2.2.2.1 h5 h81 hC
      have run : zrun zpp E 41 (4, [.ref 2, .ref s, .int 1, .int (nI (N 5)), w4], [], h) = zrun zpp E 41 (4, [.ref 2, .ref s, .int (zb (isR (lfE t L N p))), .int (nI (N 5 + 1)), .int (nI (kdF t L p))], [], ha) := by
        conv =>
          lhs
          simp only [zi41_4, zi41_5, zi41_6, zi41_9, zi41_10, zi41_13, zi41_13n, zi41_14, zi41_17, zi41_20, zi41_20n, zi41_21, zi41_24, zcl1, zlow_0, zlow_1, zlow_2, zlow_3, zlow_4, zfree_0, zfree_i, zfree_r, zfree_n, zfree_d, zfree_f, zfree_s, if_true, if_false, Option.bind_some, Option.toList_some, Option.toList_none, List.cons_append, List.nil_append, List.set_cons_zero, List.set_cons_succ, Bool.false_eq_true, reduceIte, zsw_c, zsw_n, Nat.reduceAdd, eq_false ng, z10, hR.1, c2, kt, eq_false nk, a1, zi41_58, show nI (N 5) + 1 = nI (N 5 + 1) from nI_add _ _]
        exact zi41_61
      cases hb : lfE t L N p with
      | inl x =>
        rw [hb] at a2
        refine ⟨ha, ra, nI (N 5 + 1), .int (nI (kdF t L p)), ?_, up (by omega) a2⟩
        rw [run, hb]
        by_cases hg : (4 : Int32) < nI (N 5 + 1)
        · conv =>
            lhs
            simp only [zi41_4, zi41_5, zi41_6, zi41_9, zi41_10, zcl1, zlow_0, zlow_1, zlow_2, zlow_3, zlow_4, zfree_0, zfree_i, zfree_r, zfree_n, zfree_d, zfree_f, zfree_s, if_true, if_false, Option.bind_some, Option.toList_some, Option.toList_none, List.cons_append, List.nil_append, List.set_cons_zero, List.set_cons_succ, Bool.false_eq_true, reduceIte, zsw_c, zsw_n, Nat.reduceAdd, eq_true hg, isR, zb_f, z00]
          rfl
        · conv =>
            lhs
            simp only [zi41_4, zi41_5, zi41_6, zi41_9, zi41_10, zcl1, zlow_0, zlow_1, zlow_2, zlow_3, zlow_4, zfree_0, zfree_i, zfree_r, zfree_n, zfree_d, zfree_f, zfree_s, if_true, if_false, Option.bind_some, Option.toList_some, Option.toList_none, List.cons_append, List.nil_append, List.set_cons_zero, List.set_cons_succ, Bool.false_eq_true, reduceIte, zsw_c, zsw_n, Nat.reduceAdd, eq_false hg, isR, zb_f, z00]
          rfl
      | inr q =>
        rw [hb] at a2
        obtain ⟨b1, b2⟩ := lfE_ni hN (show 1 ≤ kdF t L p ∧ kdF t L p ≤ 5 by omega) hb
        have e5 : lfN t L (kdF t L p) N p 5 = N 5 + 1 := rfl
        obtain ⟨hz, rz, iz, wz, z1, z2⟩ := cLiftersL hL hT hs h81 f (lfN t L (kdF t L p) N p) q ha ra (.int (nI (kdF t L p))) (by rw [e5]; omega) b2 (by unfold lfN; rw [lif_O (by omega) (by omega)]; exact h3) (by rw [e5]; exact a2)
        refine ⟨hz, rz, iz, wz, ?_, z2⟩
        rw [run, hb, ← z1, e5]
        rfl
