/-! THE TEXT: the model's loop over lifters -/
theorem tkK_4 {t : Nat → Nat} {L p : Nat} : tkK t L p ≤ 4 := by
  unfold tkK
  split
  · omega
  · split
    · omega
    · split
      · split <;> omega
      · split <;> omega
theorem mLiftersL {E : zE} {T : Nat → Int32} {t : Nat → Nat} {L : Nat} {v : Value} (hL : L ≤ 120) (hT : tpO T t L) : ∀ (f : Nat) (N : Nat → Nat) (p : Nat) (h : zH) (sc : Nat → Int32), f + N 5 = 5 → NI N → MS h sc T t L (.inr p) → FR h N → mL E 152 186 v h sc T t L (lfsE t L f N p)
  | 0, N, p, h, sc, hf, hN, hS, hF => by have := hN.2.2.2.2.2.1; omega
  | f + 1, N, p, h, sc, hf, hN, hS, hF => by
    have c2 : zsel 11 [11, 170] = some 170 := rfl
    have fa := hS.f15r
    have f13 := hS.1.i 13 rfl (by omega)
    rw [hS.2.2.2.2.2.2.2.1] at f13
    have h4 := tkK_4 (t := t) (L := L) (p := p)
    have e13 : (nI (tkK t L p) = 2) = (tkK t L p = 2) := by
      rw [show (2 : Int32) = nI 2 from rfl]
      exact nI_eqP (by omega) (by omega)
    unfold lfsE
    by_cases k2 : tkK t L p = 2
    · obtain ⟨kv, kl⟩ := kd_let hT k2
      have f14 := hS.1.i 14 rfl (by omega)
      rw [hS.2.2.2.2.2.2.2.2 (by omega)] at f14
      have kb := sp_kindBy (E := E) (h := h) kl
      rw [← kv] at kb
      by_cases hk : kdF t L p = 0
      · rw [if_pos hk]
        rw [if_pos hk] at kb
        refine ⟨h, sc, ?_, hS, hF, scQ.rf sc, zsm.rf h⟩
        conv =>
          lhs
          simp only [zi171_152, zi171_152n, zi171_153, zi171_156, zi171_159, zi171_159n, zi171_160, zi171_163, zi171_164, zi171_167, zi171_167n, zi171_168, zi171_171, zi171_174, zi171_176, zcl1, zlow_0, zlow_1, zlow_2, zlow_3, zlow_4, zfree_0, zfree_i, zfree_r, zfree_n, zfree_d, zfree_f, zfree_s, if_true, if_false, Option.bind_some, Option.toList_some, Option.toList_none, List.cons_append, List.nil_append, List.set_cons_zero, List.set_cons_succ, Bool.false_eq_true, reduceIte, zsw_c, zsw_n, Nat.reduceAdd, fa, z00, f13, e13, eq_true k2, f14, kb]
      · rw [if_neg hk]
        rw [if_neg hk] at kb
        have hk5 := kdF_le (t := t) (L := L) (p := p)
        have ne : ¬ nI (kdF t L p) = -1000000 := by
          have := nI_pos (n := kdF t L p) (by omega)
          intro q
          rw [q] at this
          exact this (by decide)
        obtain ⟨ha, sa, a1, a2, a3, a4, a5⟩ := mLifter (E := E) hL hT hk hN.2.2.2.2.2.1 hS hF
        have run : zrun zpp E 171 (152, [.ref 73, v], [], h) = zrun zpp E 171 (152, [.ref 73, v], [], ha) := by
          conv =>
            lhs
            simp only [zi171_152, zi171_152n, zi171_153, zi171_156, zi171_159, zi171_159n, zi171_160, zi171_163, zi171_164, zi171_167, zi171_167n, zi171_168, zi171_171, zi171_174, zi171_176, zi171_179, zi171_179n, zi171_180, zcl1, zlow_0, zlow_1, zlow_2, zlow_3, zlow_4, zfree_0, zfree_i, zfree_r, zfree_n, zfree_d, zfree_f, zfree_s, if_true, if_false, Option.bind_some, Option.toList_some, Option.toList_none, List.cons_append, List.nil_append, List.set_cons_zero, List.set_cons_succ, Bool.false_eq_true, reduceIte, zsw_c, zsw_n, Nat.reduceAdd, fa, z00, f13, e13, eq_true k2, f14, kb, eq_false ne, hS.1.1, c2, a1]
          exact zi171_183
        cases hb : lfE t L N p with
        | inl x =>
          rw [hb] at a2 a3
          obtain ⟨hz, sz, z1, z2, z3, z4, z5⟩ := mLiftersX (E := E) (v := v) (N := N) a2 a3
          exact ⟨hz, sz, run.trans z1, z2, z3, a4.tr z4, a5.tr z5⟩
        | inr q =>
          rw [hb] at a2 a3
          obtain ⟨b1, b2⟩ := lfE_ni hN (show 1 ≤ kdF t L p ∧ kdF t L p ≤ 5 by omega) hb
          have e5 : lfN t L (kdF t L p) N p 5 = N 5 + 1 := rfl
          obtain ⟨hz, sz, z1, z2, z3, z4, z5⟩ := mLiftersL (E := E) (v := v) hL hT f (lfN t L (kdF t L p) N p) q ha sa (by rw [e5]; omega) b2 a2 a3
          exact ⟨hz, sz, run.trans z1, z2, z3, a4.tr z4, a5.tr z5⟩
    · rw [if_pos (kd_no hT k2)]
      refine ⟨h, sc, ?_, hS, hF, scQ.rf sc, zsm.rf h⟩
      conv =>
        lhs
        simp only [zi171_152, zi171_152n, zi171_153, zi171_156, zi171_159, zi171_159n, zi171_160, zi171_163, zi171_164, zcl1, zlow_0, zlow_1, zlow_2, zlow_3, zlow_4, zfree_0, zfree_i, zfree_r, zfree_n, zfree_d, zfree_f, zfree_s, if_true, if_false, Option.bind_some, Option.toList_some, Option.toList_none, List.cons_append, List.nil_append, List.set_cons_zero, List.set_cons_succ, Bool.false_eq_true, reduceIte, zsw_c, zsw_n, Nat.reduceAdd, fa, z00, f13, e13, eq_false k2]
