/-! THE LONGEST RUN, AND WHICH GAPS TO WIDEN -/
def lgR (N : Nat → Nat) (w : Nat) : Nat → Nat
  | 0 => 1
  | k + 1 => if N (10 + 2 * k) ≤ N 0 ∧ w.testBit k = false then lgR N w k + 1 else 1
def lgM (N : Nat → Nat) (w : Nat) : Nat → Nat
  | 0 => 1
  | k + 1 => if lgM N w k < lgR N w (k + 1) then lgR N w (k + 1) else lgM N w k
theorem lgR_le {N : Nat → Nat} {w : Nat} : ∀ k, lgR N w k ≤ k + 1
  | 0 => Nat.le_refl _
  | k + 1 => by
    have := lgR_le (N := N) (w := w) k
    unfold lgR
    split <;> omega
theorem lgM_le {N : Nat → Nat} {w : Nat} : ∀ k, lgM N w k ≤ k + 1
  | 0 => Nat.le_refl _
  | k + 1 => by
    have := lgM_le (N := N) (w := w) k
    have := lgR_le (N := N) (w := w) (k + 1)
    unfold lgM
    split <;> omega
theorem sp_longestRun {E : zE} {h : zH} {y w : Nat} {N : Nat → Nat} (hW : WF N) (hY : YN h y N) (hw : w < 256) : zcall zpp E 88 [.ref y, .int (nI w)] h = some (some (.int (nI (lgM N w (N 3 - 1)))), h) := by
  have h3 := hW.2.2.2.1.2
  have h31 := hW.2.2.2.1.1
  have h0 := hW.1.2
  have hg := fun k hk => (hW.2.2.2.2.2.2.2.1 k hk).2.2
  have loop : ∀ (n k : Nat) (v5 : Value), k + n = N 3 - 1 → zrun zpp E 88 (7, [.ref y, .int (nI w), .int (nI (lgM N w k)), .int (nI (lgR N w k)), .int (nI (k + 1)), v5], [], h) = some (some (.int (nI (lgM N w (N 3 - 1)))), h) := by
    intro n
    induction n with
    | zero =>
      intro k v5 hk
      simp only [zi88_7, zi88_9, zi88_9n, zi88_10, zcl1, zlow_0, zlow_1, zlow_2, zlow_3, zlow_4, zfree_0, zfree_i, zfree_r, zfree_n, zfree_d, zfree_f, zfree_s, if_true, if_false, Option.bind_some, Option.toList_some, Option.toList_none, List.cons_append, List.nil_append, List.set_cons_zero, List.set_cons_succ, Bool.false_eq_true, reduceIte, zsw_c, zsw_n, Nat.reduceAdd, hY.f3]
      rw [zi88_13, if_pos (by rw [nI_leP (by omega) (by omega)]; omega)]
      simp only [zi88_75, zi88_76 (sk := []), zcl1, zlow_0, zlow_1, zlow_2, zlow_3, zlow_4, zfree_0, zfree_i, zfree_r, zfree_n, zfree_d, zfree_f, zfree_s, if_true, if_false, Option.bind_some, Option.toList_some, Option.toList_none, List.cons_append, List.nil_append, List.set_cons_zero, List.set_cons_succ, Bool.false_eq_true, reduceIte, zsw_c, zsw_n, Nat.reduceAdd]
      rw [show k = N 3 - 1 by omega]
    | succ n ih =>
      intro k v5 hk
      simp only [zi88_7, zi88_9, zi88_9n, zi88_10, zcl1, zlow_0, zlow_1, zlow_2, zlow_3, zlow_4, zfree_0, zfree_i, zfree_r, zfree_n, zfree_d, zfree_f, zfree_s, if_true, if_false, Option.bind_some, Option.toList_some, Option.toList_none, List.cons_append, List.nil_append, List.set_cons_zero, List.set_cons_succ, Bool.false_eq_true, reduceIte, zsw_c, zsw_n, Nat.reduceAdd, hY.f3]
      rw [zi88_13, if_neg (by rw [nI_leP (by omega) (by omega)]; omega)]
      have hgp := hg k (by omega)
      have hr := lgR_le (N := N) (w := w) k
      have hm := lgM_le (N := N) (w := w) k
      have ih1 := ih (k + 1)
      rw [show lgM N w (k + 1) = (if lgM N w k < lgR N w (k + 1) then lgR N w (k + 1) else lgM N w k) from rfl] at ih1
      have er : lgR N w (k + 1) = (if N (10 + 2 * k) ≤ N 0 ∧ w.testBit k = false then lgR N w k + 1 else 1) := rfl
      have eI : ∀ a b : Nat, (if a < b then nI b else nI a) = nI (if a < b then b else a) := fun a b => by split <;> rfl
      by_cases c : N (10 + 2 * k) ≤ N 0
      · have c2 : ¬ nI (N 0) < nI (N (10 + 2 * k)) := by rw [nI_ltP (by omega) (by omega)]; omega
        cases hq : w.testBit k
        · rw [if_pos ⟨c, hq⟩] at er
          rw [er] at ih1
          simp only [zi88_16, zi88_16n, zi88_17, zi88_20, zi88_22, zi88_23, zi88_24, zi88_25, zi88_25n, zi88_26, zi88_29, zi88_32, zi88_33, zi88_35, zi88_36, zi88_37, zi88_40, zi88_43, zi88_44, zi88_47, zi88_48, zi88_50, zi88_52, zi88_55, zi88_56, zi88_57, zi88_58, zi88_61, zi88_62, zi88_63, zi88_64, zi88_65, zi88_68, zi88_69, zi88_72, zcl1, zlow_0, zlow_1, zlow_2, zlow_3, zlow_4, zfree_0, zfree_i, zfree_r, zfree_n, zfree_d, zfree_f, zfree_s, if_true, if_false, Option.bind_some, Option.toList_some, Option.toList_none, List.cons_append, List.nil_append, List.set_cons_zero, List.set_cons_succ, Bool.false_eq_true, reduceIte, zsw_c, zsw_n, Nat.reduceAdd, hY.r7, nI_pred, hY.g (show k < N 3 by omega) h3, hY.f0, c2, sp_has8 hw (show k < 8 by omega), hq, zb_f, z00, z10, if_true, if_false, ix_p1, nI_ltP (show lgM N w k < 2 ^ 31 by omega) (show lgR N w k + 1 < 2 ^ 31 by omega), eI]
          exact ih1 _ (by omega)
        · rw [if_neg (by rw [hq]; simp)] at er
          rw [er] at ih1
          simp only [zi88_16, zi88_16n, zi88_17, zi88_20, zi88_22, zi88_23, zi88_24, zi88_25, zi88_25n, zi88_26, zi88_29, zi88_32, zi88_33, zi88_35, zi88_36, zi88_37, zi88_40, zi88_43, zi88_44, zi88_47, zi88_48, zi88_50, zi88_52, zi88_55, zi88_56, zi88_57, zi88_58, zi88_61, zi88_62, zi88_63, zi88_64, zi88_65, zi88_68, zi88_69, zi88_72, zcl1, zlow_0, zlow_1, zlow_2, zlow_3, zlow_4, zfree_0, zfree_i, zfree_r, zfree_n, zfree_d, zfree_f, zfree_s, if_true, if_false, Option.bind_some, Option.toList_some, Option.toList_none, List.cons_append, List.nil_append, List.set_cons_zero, List.set_cons_succ, Bool.false_eq_true, reduceIte, zsw_c, zsw_n, Nat.reduceAdd, hY.r7, nI_pred, hY.g (show k < N 3 by omega) h3, hY.f0, c2, sp_has8 hw (show k < 8 by omega), hq, zb_t, z00, z10, if_true, if_false, ix_p1]
          rw [show (1 : Int32) = nI 1 from rfl]
          simp only [nI_ltP (show lgM N w k < 2 ^ 31 by omega) (show 1 < 2 ^ 31 by omega), eI]
          exact ih1 _ (by omega)
      · have c2 : nI (N 0) < nI (N (10 + 2 * k)) := by rw [nI_ltP (by omega) (by omega)]; omega
        rw [if_neg (fun z => c z.1)] at er
        rw [er] at ih1
        simp only [zi88_16, zi88_16n, zi88_17, zi88_20, zi88_22, zi88_23, zi88_24, zi88_25, zi88_25n, zi88_26, zi88_29, zi88_32, zi88_33, zi88_35, zi88_36, zi88_37, zi88_40, zi88_43, zi88_44, zi88_47, zi88_48, zi88_50, zi88_52, zi88_55, zi88_56, zi88_57, zi88_58, zi88_61, zi88_62, zi88_63, zi88_64, zi88_65, zi88_68, zi88_69, zi88_72, zcl1, zlow_0, zlow_1, zlow_2, zlow_3, zlow_4, zfree_0, zfree_i, zfree_r, zfree_n, zfree_d, zfree_f, zfree_s, if_true, if_false, Option.bind_some, Option.toList_some, Option.toList_none, List.cons_append, List.nil_append, List.set_cons_zero, List.set_cons_succ, Bool.false_eq_true, reduceIte, zsw_c, zsw_n, Nat.reduceAdd, hY.r7, nI_pred, hY.g (show k < N 3 by omega) h3, hY.f0, c2, z00, z10, if_true, if_false, ix_p1]
        rw [show (1 : Int32) = nI 1 from rfl]
        simp only [nI_ltP (show lgM N w k < 2 ^ 31 by omega) (show 1 < 2 ^ 31 by omega), eI]
        exact ih1 _ (by omega)
  simp only [ze88, zi88_0, zi88_1, zi88_2, zi88_3, zi88_4, zi88_5, zcl1, zlow_0, zlow_1, zlow_2, zlow_3, zlow_4, zfree_0, zfree_i, zfree_r, zfree_n, zfree_d, zfree_f, zfree_s, if_true, if_false, Option.bind_some, Option.toList_some, Option.toList_none, List.cons_append, List.nil_append, List.set_cons_zero, List.set_cons_succ, Bool.false_eq_true, reduceIte, zsw_c, zsw_n, Nat.reduceAdd]
  exact loop (N 3 - 1) 0 _ (by omega)
theorem sp_longest {E : zE} {h : zH} {s : Nat → Int32} {N : Nat → Nat} {w : Nat} (hM : MdO h s) (hY : MY h N) (hW : WF N) (hw : w < 256) : zcall zpp E 210 [.ref 73, .int (nI w)] h = some (some (.int (nI (lgM N w (N 3 - 1)))), h) := by
  have h3 := hW.2.2.2.1.2
  have h31 := hW.2.2.2.1.1
  have h0 := hW.1.2
  have hg := fun k hk => (hW.2.2.2.2.2.2.2.1 k hk).2.2
  have hsl : zsel 11 [11, 178] = some 178 := rfl
  have loop : ∀ (n k : Nat), k + n = N 3 - 1 → zrun zpp E 210 (7, [.ref 73, .int (nI w), .int (nI (lgM N w k)), .int (nI (lgR N w k)), .int (nI k)], [], h) = some (some (.int (nI (lgM N w (N 3 - 1)))), h) := by
    intro n
    induction n with
    | zero =>
      intro k hk
      simp only [zi210_7, zi210_9, zi210_9n, zi210_10, zi210_13, zi210_14, zi210_15, zi210_16, zcl1, zlow_0, zlow_1, zlow_2, zlow_3, zlow_4, zfree_0, zfree_i, zfree_r, zfree_n, zfree_d, zfree_f, zfree_s, if_true, if_false, Option.bind_some, Option.toList_some, Option.toList_none, List.cons_append, List.nil_append, List.set_cons_zero, List.set_cons_succ, Bool.false_eq_true, reduceIte, zsw_c, zsw_n, Nat.reduceAdd, hM.r5, hY.c 3 (by decide) (x := 3) rfl, ix_m1 h31]
      rw [zi210_17, if_pos (by rw [nI_leP (by omega) (by omega)]; omega)]
      simp only [zi210_69, zi210_70 (sk := []), zcl1, zlow_0, zlow_1, zlow_2, zlow_3, zlow_4, zfree_0, zfree_i, zfree_r, zfree_n, zfree_d, zfree_f, zfree_s, if_true, if_false, Option.bind_some, Option.toList_some, Option.toList_none, List.cons_append, List.nil_append, List.set_cons_zero, List.set_cons_succ, Bool.false_eq_true, reduceIte, zsw_c, zsw_n, Nat.reduceAdd]
      rw [show k = N 3 - 1 by omega]
    | succ n ih =>
      intro k hk
      simp only [zi210_7, zi210_9, zi210_9n, zi210_10, zi210_13, zi210_14, zi210_15, zi210_16, zcl1, zlow_0, zlow_1, zlow_2, zlow_3, zlow_4, zfree_0, zfree_i, zfree_r, zfree_n, zfree_d, zfree_f, zfree_s, if_true, if_false, Option.bind_some, Option.toList_some, Option.toList_none, List.cons_append, List.nil_append, List.set_cons_zero, List.set_cons_succ, Bool.false_eq_true, reduceIte, zsw_c, zsw_n, Nat.reduceAdd, hM.r5, hY.c 3 (by decide) (x := 3) rfl, ix_m1 h31]
      rw [zi210_17, if_neg (by rw [nI_leP (by omega) (by omega)]; omega)]
      have hgp := hg k (by omega)
      have hr := lgR_le (N := N) (w := w) k
      have hm := lgM_le (N := N) (w := w) k
      have hgg := sp_gapOf (E := E) hM hY (show k < 8 by omega)
      have ih1 := ih (k + 1)
      have er : lgR N w (k + 1) = (if N (10 + 2 * k) ≤ N 0 ∧ w.testBit k = false then lgR N w k + 1 else 1) := rfl
      have fin : ∀ r : Nat, lgR N w (k + 1) = r → r < 2 ^ 31 → (if nI r ≤ nI (lgM N w k) then zrun zpp E 210 (7, [.ref 73, .int (nI w), .int (nI (lgM N w k)), .int (nI r), .int (nI (k + 1))], [], h) else zrun zpp E 210 (7, [.ref 73, .int (nI w), .int (nI r), .int (nI r), .int (nI (k + 1))], [], h)) = some (some (.int (nI (lgM N w (N 3 - 1)))), h) := by
        intro r hr1 hr2
        simp only [nI_leP hr2 (show lgM N w k < 2 ^ 31 by omega)]
        have ih2 := ih1 (by omega)
        rw [show lgM N w (k + 1) = (if lgM N w k < lgR N w (k + 1) then lgR N w (k + 1) else lgM N w k) from rfl, hr1] at ih2
        by_cases c : r ≤ lgM N w k
        · rw [if_pos c]
          rw [if_neg (by omega)] at ih2
          exact ih2
        · rw [if_neg c]
          rw [if_pos (by omega)] at ih2
          exact ih2
      by_cases c : N (10 + 2 * k) ≤ N 0
      · have c2 : ¬ nI (N 0) < nI (N (10 + 2 * k)) := by rw [nI_ltP (by omega) (by omega)]; omega
        cases hq : w.testBit k
        · rw [if_pos ⟨c, hq⟩] at er
          simp only [zi210_20, zi210_20n, zi210_21, zi210_23, zi210_26, zi210_26n, zi210_27, zi210_30, zi210_31, zi210_32, zi210_35, zi210_36, zi210_38, zi210_41, zi210_44, zi210_45, zi210_46, zi210_47, zi210_50, zi210_51, zi210_52, zi210_53, zi210_54, zi210_57, zi210_58, zi210_61, zi210_62, zi210_63, zi210_66, zcl1, zlow_0, zlow_1, zlow_2, zlow_3, zlow_4, zfree_0, zfree_i, zfree_r, zfree_n, zfree_d, zfree_f, zfree_s, if_true, if_false, Option.bind_some, Option.toList_some, Option.toList_none, List.cons_append, List.nil_append, List.set_cons_zero, List.set_cons_succ, Bool.false_eq_true, reduceIte, zsw_c, zsw_n, Nat.reduceAdd, hM.1, hsl, hgg, hM.r5, hY.c 0 (by decide) (x := 0) rfl, c2, sp_hasM8 hw (show k < 8 by omega), hq, zb_f, z00, z10, if_true, if_false, ix_p1]
          exact fin _ er (by omega)
        · rw [if_neg (by rw [hq]; simp)] at er
          simp only [zi210_20, zi210_20n, zi210_21, zi210_23, zi210_26, zi210_26n, zi210_27, zi210_30, zi210_31, zi210_32, zi210_35, zi210_36, zi210_38, zi210_41, zi210_44, zi210_45, zi210_46, zi210_47, zi210_50, zi210_51, zi210_52, zi210_53, zi210_54, zi210_57, zi210_58, zi210_61, zi210_62, zi210_63, zi210_66, zcl1, zlow_0, zlow_1, zlow_2, zlow_3, zlow_4, zfree_0, zfree_i, zfree_r, zfree_n, zfree_d, zfree_f, zfree_s, if_true, if_false, Option.bind_some, Option.toList_some, Option.toList_none, List.cons_append, List.nil_append, List.set_cons_zero, List.set_cons_succ, Bool.false_eq_true, reduceIte, zsw_c, zsw_n, Nat.reduceAdd, hM.1, hsl, hgg, hM.r5, hY.c 0 (by decide) (x := 0) rfl, c2, sp_hasM8 hw (show k < 8 by omega), hq, zb_t, z00, z10, if_true, if_false, ix_p1]
          exact fin 1 er (by omega)
      · have c2 : nI (N 0) < nI (N (10 + 2 * k)) := by rw [nI_ltP (by omega) (by omega)]; omega
        rw [if_neg (fun z => c z.1)] at er
        simp only [zi210_20, zi210_20n, zi210_21, zi210_23, zi210_26, zi210_26n, zi210_27, zi210_30, zi210_31, zi210_32, zi210_35, zi210_36, zi210_38, zi210_41, zi210_44, zi210_45, zi210_46, zi210_47, zi210_50, zi210_51, zi210_52, zi210_53, zi210_54, zi210_57, zi210_58, zi210_61, zi210_62, zi210_63, zi210_66, zcl1, zlow_0, zlow_1, zlow_2, zlow_3, zlow_4, zfree_0, zfree_i, zfree_r, zfree_n, zfree_d, zfree_f, zfree_s, if_true, if_false, Option.bind_some, Option.toList_some, Option.toList_none, List.cons_append, List.nil_append, List.set_cons_zero, List.set_cons_succ, Bool.false_eq_true, reduceIte, zsw_c, zsw_n, Nat.reduceAdd, hM.1, hsl, hgg, hM.r5, hY.c 0 (by decide) (x := 0) rfl, c2, z00, z10, if_true, if_false, ix_p1]
        exact fin 1 er (by omega)
  simp only [ze210, zi210_0, zi210_1, zi210_2, zi210_3, zi210_4, zi210_5, zcl1, zlow_0, zlow_1, zlow_2, zlow_3, zlow_4, zfree_0, zfree_i, zfree_r, zfree_n, zfree_d, zfree_f, zfree_s, if_true, if_false, Option.bind_some, Option.toList_some, Option.toList_none, List.cons_append, List.nil_append, List.set_cons_zero, List.set_cons_succ, Bool.false_eq_true, reduceIte, zsw_c, zsw_n, Nat.reduceAdd]
  exact loop (N 3 - 1) 0 (by omega)
/-- the component's choice: downwards, as few or fewer -/
def wdC (N : Nat → Nat) (m : Nat) : Nat → Nat → Nat
  | b, 0 => b
  | b, n + 1 => wdC N m (if zpc n ≤ zpc b ∧ lgM N n (N 3 - 1) ≤ m then n else b) n
/-- the model's choice: upwards, fewer -/
def wdM (N : Nat → Nat) (m : Nat) : Nat → Option Nat
  | 0 => none
  | n + 1 => match wdM N m n with
    | none => if lgM N n (N 3 - 1) ≤ m then some n else none
    | some b => if zpc n < zpc b ∧ lgM N n (N 3 - 1) ≤ m then some n else some b
theorem wdM_ok {N : Nat → Nat} {m : Nat} : ∀ n, (wdM N m n = none → ∀ t, t < n → ¬ lgM N t (N 3 - 1) ≤ m) ∧ ∀ b, wdM N m n = some b → b < n ∧ lgM N b (N 3 - 1) ≤ m ∧ ∀ t, t < n → lgM N t (N 3 - 1) ≤ m → zpc b < zpc t ∨ (zpc b = zpc t ∧ b ≤ t)
  | 0 => ⟨fun _ t ht => absurd ht (by omega), fun b hb => (by cases hb)⟩
  | n + 1 => by
    obtain ⟨h1, h2⟩ := wdM_ok (N := N) (m := m) n
    unfold wdM
    cases hq : wdM N m n with
    | none =>
      rw [hq] at h1
      by_cases c : lgM N n (N 3 - 1) ≤ m
      · simp only [c, and_self, if_true]
        refine ⟨fun z => (by cases z), fun b hb => ?_⟩
        cases hb
        refine ⟨by omega, c, fun t ht hok => ?_⟩
        by_cases e : t = n
        · subst e; exact Or.inr ⟨rfl, Nat.le_refl _⟩
        · exact absurd hok (h1 rfl t (by omega))
      · simp only [c, if_false]
        refine ⟨fun _ t ht => ?_, fun b hb => (by cases hb)⟩
        by_cases e : t = n
        · subst e; exact c
        · exact h1 rfl t (by omega)
    | some b0 =>
      obtain ⟨g1, g2, g3⟩ := h2 b0 hq
      by_cases c : zpc n < zpc b0 ∧ lgM N n (N 3 - 1) ≤ m
      · simp only [c, and_self, if_true]
        refine ⟨fun z => (by cases z), fun b hb => ?_⟩
        cases hb
        refine ⟨by omega, c.2, fun t ht hok => ?_⟩
        by_cases e : t = n
        · subst e; exact Or.inr ⟨rfl, Nat.le_refl _⟩
        · rcases g3 t (by omega) hok with z | z
          · exact Or.inl (by omega)
          · exact Or.inl (by omega)
      · simp only [c, if_false]
        refine ⟨fun z => (by cases z), fun b hb => ?_⟩
        cases hb
        refine ⟨by omega, g2, fun t ht hok => ?_⟩
        by_cases e : t = n
        · subst e
          have : ¬ zpc t < zpc b0 := fun z => c ⟨z, hok⟩
          by_cases e2 : zpc b0 = zpc t
          · exact Or.inr ⟨e2, by omega⟩
          · exact Or.inl (by omega)
        · exact g3 t (by omega) hok
theorem wdC_ok {N : Nat → Nat} {m M : Nat} : ∀ n b, n ≤ b → b < M → lgM N b (N 3 - 1) ≤ m → (∀ t, n ≤ t → t < M → lgM N t (N 3 - 1) ≤ m → zpc b < zpc t ∨ (zpc b = zpc t ∧ b ≤ t)) → (wdC N m b n < M ∧ lgM N (wdC N m b n) (N 3 - 1) ≤ m ∧ ∀ t, t < M → lgM N t (N 3 - 1) ≤ m → zpc (wdC N m b n) < zpc t ∨ (zpc (wdC N m b n) = zpc t ∧ wdC N m b n ≤ t))
  | 0, b, _, h2, h3, h4 => ⟨h2, h3, fun t ht hok => h4 t (by omega) ht hok⟩
  | n + 1, b, h1, h2, h3, h4 => by
    unfold wdC
    by_cases c : zpc n ≤ zpc b ∧ lgM N n (N 3 - 1) ≤ m
    · rw [if_pos c]
      refine wdC_ok n n (Nat.le_refl _) (by omega) c.2 (fun t ht hM hok => ?_)
      by_cases e : t = n
      · subst e; exact Or.inr ⟨rfl, Nat.le_refl _⟩
      · rcases h4 t (by omega) hM hok with z | z
        · exact Or.inl (by omega)
        · by_cases e2 : zpc n = zpc t
          · exact Or.inr ⟨e2, by omega⟩
          · exact Or.inl (by omega)
    · rw [if_neg c]
      refine wdC_ok n b (by omega) h2 h3 (fun t ht hM hok => ?_)
      by_cases e : t = n
      · subst e
        have : ¬ zpc t ≤ zpc b := fun z => c ⟨z, hok⟩
        exact Or.inl (by omega)
      · exact h4 t (by omega) hM hok
theorem lgM_full {N : Nat → Nat} {n : Nat} : ∀ k, k ≤ n → lgR N (2 ^ n - 1) k = 1 ∧ lgM N (2 ^ n - 1) k = 1
  | 0, _ => ⟨rfl, rfl⟩
  | k + 1, h => by
    obtain ⟨h1, h2⟩ := lgM_full (N := N) (n := n) k (by omega)
    have hb : (2 ^ n - 1).testBit k = true := by rw [Nat.testBit_two_pow_sub_one]; exact decide_eq_true (by omega)
    have e : lgR N (2 ^ n - 1) (k + 1) = 1 := by
      unfold lgR
      rw [if_neg (by rw [hb]; simp)]
    refine ⟨e, ?_⟩
    unfold lgM
    rw [e, h2]
    rfl
/-- both choose the same -/
theorem wd_eq {N : Nat → Nat} {m n : Nat} (hn : N 3 - 1 = n) (hm : 1 ≤ m) : wdM N m (2 ^ n) = some (wdC N m (2 ^ n - 1) (2 ^ n - 1)) := by
  have hp : 0 < 2 ^ n := Nat.two_pow_pos n
  have hf : lgM N (2 ^ n - 1) (N 3 - 1) ≤ m := by rw [hn, (lgM_full n (Nat.le_refl _)).2]; exact hm
  obtain ⟨c1, c2, c3⟩ := wdC_ok (N := N) (m := m) (M := 2 ^ n) (2 ^ n - 1) (2 ^ n - 1) (Nat.le_refl _) (by omega) hf (fun t h1 h2 _ => Or.inr ⟨by rw [show t = 2 ^ n - 1 by omega], by omega⟩)
  obtain ⟨m1, m2⟩ := wdM_ok (N := N) (m := m) (2 ^ n)
  cases hq : wdM N m (2 ^ n) with
  | none => exact absurd hf (m1 hq _ (by omega))
  | some b =>
    obtain ⟨q1, q2, q3⟩ := m2 b hq
    have a1 := c3 b q1 q2
    have a2 := q3 _ c1 c2
    congr 1
    omega
