/-! THE TEXT: the model's loops -/
/-- from a head to the next, in the model's yard -/
def mL (E : zE) (a b : Nat) (v : Value) (h : zH) (sc T : Nat → Int32) (t : Nat → Nat) (L : Nat) (e : Sum (Nat × Nat) Nat × (Nat → Nat)) : Prop := ∃ h' sc', zrun zpp E 171 (a, [.ref 73, v], [], h) = zrun zpp E 171 (b, [.ref 73, v], [], h') ∧ MS h' sc' T t L e.1 ∧ MF h' e.2 e.1 ∧ scQ sc sc' ∧ zsm fP h h'
theorem mBikesX {E : zE} {h : zH} {sc T : Nat → Int32} {t : Nat → Nat} {L : Nat} {v : Value} {x : Nat × Nat} {N : Nat → Nat} (hT : tpO T t L) (hS : MS h sc T t L (.inl x)) (hF : FX h) : mL E 111 127 v h sc T t L (.inl x, N) := by
  have c1 : zsel 11 [11, 160] = some 160 := rfl
  have l0 : zcall zpp E 160 [.ref 73, .int 107] h = some (some (.int 0), h) := sp_isLetter (E := E) (c := 107) hT rfl hS
  refine ⟨h, sc, ?_, hS, hF, scQ.rf sc, zsm.rf h⟩
  conv =>
    lhs
    simp only [zi171_111, zi171_111n, zi171_112, zi171_114, zi171_117, zcl1, zlow_0, zlow_1, zlow_2, zlow_3, zlow_4, zfree_0, zfree_i, zfree_r, zfree_n, zfree_d, zfree_f, zfree_s, if_true, if_false, Option.bind_some, Option.toList_some, Option.toList_none, List.cons_append, List.nil_append, List.set_cons_zero, List.set_cons_succ, Bool.false_eq_true, reduceIte, zsw_c, zsw_n, Nat.reduceAdd, hS.1.1, c1, l0, z00]
theorem mHoldsX {E : zE} {h : zH} {sc T : Nat → Int32} {t : Nat → Nat} {L : Nat} {v : Value} {x : Nat × Nat} {N : Nat → Nat} (hT : tpO T t L) (hS : MS h sc T t L (.inl x)) (hF : FX h) : mL E 127 152 v h sc T t L (.inl x, N) := by
  have c1 : zsel 11 [11, 160] = some 160 := rfl
  have l0 : zcall zpp E 160 [.ref 73, .int 111] h = some (some (.int 0), h) := sp_isLetter (E := E) (c := 111) hT rfl hS
  have l1 : zcall zpp E 160 [.ref 73, .int 99] h = some (some (.int 0), h) := sp_isLetter (E := E) (c := 99) hT rfl hS
  refine ⟨h, sc, ?_, hS, hF, scQ.rf sc, zsm.rf h⟩
  conv =>
    lhs
    simp only [zi171_127, zi171_127n, zi171_128, zi171_130, zi171_133, zi171_136, zi171_136n, zi171_137, zi171_139, zi171_142, zcl1, zlow_0, zlow_1, zlow_2, zlow_3, zlow_4, zfree_0, zfree_i, zfree_r, zfree_n, zfree_d, zfree_f, zfree_s, if_true, if_false, Option.bind_some, Option.toList_some, Option.toList_none, List.cons_append, List.nil_append, List.set_cons_zero, List.set_cons_succ, Bool.false_eq_true, reduceIte, zsw_c, zsw_n, Nat.reduceAdd, hS.1.1, c1, l0, l1, z00]
theorem mLiftersX {E : zE} {h : zH} {sc T : Nat → Int32} {t : Nat → Nat} {L : Nat} {v : Value} {x : Nat × Nat} {N : Nat → Nat} (hS : MS h sc T t L (.inl x)) (hF : FX h) : mL E 152 186 v h sc T t L (.inl x, N) := by
  obtain ⟨f, n⟩ := hS.f15l
  refine ⟨h, sc, ?_, hS, hF, scQ.rf sc, zsm.rf h⟩
  conv =>
    lhs
    simp only [zi171_152, zi171_152n, zi171_153, zi171_156, zcl1, zlow_0, zlow_1, zlow_2, zlow_3, zlow_4, zfree_0, zfree_i, zfree_r, zfree_n, zfree_d, zfree_f, zfree_s, if_true, if_false, Option.bind_some, Option.toList_some, Option.toList_none, List.cons_append, List.nil_append, List.set_cons_zero, List.set_cons_succ, Bool.false_eq_true, reduceIte, zsw_c, zsw_n, Nat.reduceAdd, f, eq_false n]
theorem mBikesL {E : zE} {T : Nat → Int32} {t : Nat → Nat} {L : Nat} {v : Value} (hL : L ≤ 120) (hT : tpO T t L) : ∀ (f : Nat) (N : Nat → Nat) (p : Nat) (h : zH) (sc : Nat → Int32), f + N 3 = 9 → NI N → N 4 = 0 → N 5 = 0 → MS h sc T t L (.inr p) → FR h N → mL E 111 127 v h sc T t L (bksE t L f N p)
  | 0, N, p, h, sc, hf, hN, h4, h5, hS, hF => by have := hN.2.2.2.1; omega
  | f + 1, N, p, h, sc, hf, hN, h4, h5, hS, hF => by
    have c1 : zsel 11 [11, 160] = some 160 := rfl
    have c2 : zsel 11 [11, 167] = some 167 := rfl
    have l0 : zcall zpp E 160 [.ref 73, .int 107] h = some (some (.int (zb (sgN t L 107 p))), h) := sp_isLetter (E := E) (c := 107) hT rfl hS
    unfold bksE
    by_cases hk : sgN t L 107 p = true
    · rw [if_pos hk]
      rw [hk] at l0
      obtain ⟨ha, sa, a1, a2, a3, a4, a5⟩ := mBike (E := E) hL hT hk hN.2.2.2.1 hS hF
      have run : zrun zpp E 171 (111, [.ref 73, v], [], h) = zrun zpp E 171 (111, [.ref 73, v], [], ha) := by
        conv =>
          lhs
          simp only [zi171_111, zi171_111n, zi171_112, zi171_114, zi171_117, zi171_120, zi171_120n, zi171_121, zcl1, zlow_0, zlow_1, zlow_2, zlow_3, zlow_4, zfree_0, zfree_i, zfree_r, zfree_n, zfree_d, zfree_f, zfree_s, if_true, if_false, Option.bind_some, Option.toList_some, Option.toList_none, List.cons_append, List.nil_append, List.set_cons_zero, List.set_cons_succ, Bool.false_eq_true, reduceIte, zsw_c, zsw_n, Nat.reduceAdd, hS.1.1, c1, l0, zb_t, z10, c2, a1]
        exact zi171_124
      cases hb : bkE t L N p with
      | inl x =>
        rw [hb] at a2 a3
        obtain ⟨hz, sz, z1, z2, z3, z4, z5⟩ := mBikesX (E := E) (v := v) (N := N) hT a2 a3
        exact ⟨hz, sz, run.trans z1, z2, z3, a4.tr z4, a5.tr z5⟩
      | inr q =>
        rw [hb] at a2 a3
        obtain ⟨b1, b2⟩ := bkE_ni hN h4 h5 hb
        have e3 : bkN t L N p 3 = N 3 + 1 := rfl
        obtain ⟨hz, sz, z1, z2, z3, z4, z5⟩ := mBikesL (E := E) (v := v) hL hT f (bkN t L N p) q ha sa (by rw [e3]; omega) b2 (by unfold bkN; rw [bikN_s (by omega) (by omega) (by omega)]; exact h4) (by unfold bkN; rw [bikN_s (by omega) (by omega) (by omega)]; exact h5) a2 a3
        exact ⟨hz, sz, run.trans z1, z2, z3, a4.tr z4, a5.tr z5⟩
    · rw [if_neg hk]
      have hk' : sgN t L 107 p = false := by simpa using hk
      rw [hk'] at l0
      refine ⟨h, sc, ?_, hS, hF, scQ.rf sc, zsm.rf h⟩
      conv =>
        lhs
        simp only [zi171_111, zi171_111n, zi171_112, zi171_114, zi171_117, zcl1, zlow_0, zlow_1, zlow_2, zlow_3, zlow_4, zfree_0, zfree_i, zfree_r, zfree_n, zfree_d, zfree_f, zfree_s, if_true, if_false, Option.bind_some, Option.toList_some, Option.toList_none, List.cons_append, List.nil_append, List.set_cons_zero, List.set_cons_succ, Bool.false_eq_true, reduceIte, zsw_c, zsw_n, Nat.reduceAdd, hS.1.1, c1, l0, zb_f, z00]
theorem mHoldsL {E : zE} {T : Nat → Int32} {t : Nat → Nat} {L : Nat} {v : Value} (hL : L ≤ 120) (hT : tpO T t L) : ∀ (f : Nat) (N : Nat → Nat) (p : Nat) (h : zH) (sc : Nat → Int32), f + N 4 = 11 → NI N → 1 ≤ N 3 → N 5 = 0 → MS h sc T t L (.inr p) → FR h N → mL E 127 152 v h sc T t L (hdsE t L f N p)
  | 0, N, p, h, sc, hf, hN, h3, h5, hS, hF => by have := hN.2.2.2.2.1; omega
  | f + 1, N, p, h, sc, hf, hN, h3, h5, hS, hF => by
    have c1 : zsel 11 [11, 160] = some 160 := rfl
    have c2 : zsel 11 [11, 169] = some 169 := rfl
    have l0 : zcall zpp E 160 [.ref 73, .int 111] h = some (some (.int (zb (sgN t L 111 p))), h) := sp_isLetter (E := E) (c := 111) hT rfl hS
    have l1 : zcall zpp E 160 [.ref 73, .int 99] h = some (some (.int (zb (sgN t L 99 p))), h) := sp_isLetter (E := E) (c := 99) hT rfl hS
    unfold hdsE
    by_cases hk : sgN t L 111 p = true ∨ sgN t L 99 p = true
    · rw [if_pos hk]
      obtain ⟨ha, sa, a1, a2, a3, a4, a5⟩ := mHold (E := E) hL hT hk hN h3 hS hF
      have run : zrun zpp E 171 (127, [.ref 73, v], [], h) = zrun zpp E 171 (127, [.ref 73, v], [], ha) := by
        by_cases hq : sgN t L 111 p = true
        · rw [hq] at l0
          conv =>
            lhs
            simp only [zi171_127, zi171_127n, zi171_128, zi171_130, zi171_133, zi171_136, zi171_136n, zi171_137, zi171_139, zi171_142, zi171_145, zi171_145n, zi171_146, zcl1, zlow_0, zlow_1, zlow_2, zlow_3, zlow_4, zfree_0, zfree_i, zfree_r, zfree_n, zfree_d, zfree_f, zfree_s, if_true, if_false, Option.bind_some, Option.toList_some, Option.toList_none, List.cons_append, List.nil_append, List.set_cons_zero, List.set_cons_succ, Bool.false_eq_true, reduceIte, zsw_c, zsw_n, Nat.reduceAdd, hS.1.1, c1, l0, zb_t, z10, c2, a1]
          exact zi171_149
        · have hq' : sgN t L 111 p = false := by simpa using hq
          have hq2 : sgN t L 99 p = true := by
            rcases hk with z | z
            · exact absurd z hq
            · exact z
          rw [hq'] at l0
          rw [hq2] at l1
          conv =>
            lhs
            simp only [zi171_127, zi171_127n, zi171_128, zi171_130, zi171_133, zi171_136, zi171_136n, zi171_137, zi171_139, zi171_142, zi171_145, zi171_145n, zi171_146, zcl1, zlow_0, zlow_1, zlow_2, zlow_3, zlow_4, zfree_0, zfree_i, zfree_r, zfree_n, zfree_d, zfree_f, zfree_s, if_true, if_false, Option.bind_some, Option.toList_some, Option.toList_none, List.cons_append, List.nil_append, List.set_cons_zero, List.set_cons_succ, Bool.false_eq_true, reduceIte, zsw_c, zsw_n, Nat.reduceAdd, hS.1.1, c1, l0, l1, zb_t, zb_f, z00, z10, c2, a1]
          exact zi171_149
      cases hb : hdE t L (soF t L p) N p with
      | inl x =>
        rw [hb] at a2 a3
        obtain ⟨hz, sz, z1, z2, z3, z4, z5⟩ := mHoldsX (E := E) (v := v) (N := N) hT a2 a3
        exact ⟨hz, sz, run.trans z1, z2, z3, a4.tr z4, a5.tr z5⟩
      | inr q =>
        rw [hb] at a2 a3
        obtain ⟨b1, b2⟩ := hdE_ni hN h3 h5 soF_le hb
        have e4 : hdN t L (soF t L p) N p 4 = N 4 + 1 := rfl
        obtain ⟨hz, sz, z1, z2, z3, z4, z5⟩ := mHoldsL (E := E) (v := v) hL hT f (hdN t L (soF t L p) N p) q ha sa (by rw [e4]; omega) b2 (by unfold hdN; rw [hol_O (by omega) (by omega)]; exact h3) (by unfold hdN; rw [hol_O (by omega) (by omega)]; exact h5) a2 a3
        exact ⟨hz, sz, run.trans z1, z2, z3, a4.tr z4, a5.tr z5⟩
    · rw [if_neg hk]
      have n1 : sgN t L 111 p = false := by cases hq : sgN t L 111 p; rfl; exact absurd (Or.inl hq) hk
      have n2 : sgN t L 99 p = false := by cases hq : sgN t L 99 p; rfl; exact absurd (Or.inr hq) hk
      rw [n1] at l0
      rw [n2] at l1
      refine ⟨h, sc, ?_, hS, hF, scQ.rf sc, zsm.rf h⟩
      conv =>
        lhs
        simp only [zi171_127, zi171_127n, zi171_128, zi171_130, zi171_133, zi171_136, zi171_136n, zi171_137, zi171_139, zi171_142, zcl1, zlow_0, zlow_1, zlow_2, zlow_3, zlow_4, zfree_0, zfree_i, zfree_r, zfree_n, zfree_d, zfree_f, zfree_s, if_true, if_false, Option.bind_some, Option.toList_some, Option.toList_none, List.cons_append, List.nil_append, List.set_cons_zero, List.set_cons_succ, Bool.false_eq_true, reduceIte, zsw_c, zsw_n, Nat.reduceAdd, hS.1.1, c1, l0, l1, zb_f, z00]
