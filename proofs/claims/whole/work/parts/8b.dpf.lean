/-! THE FIRST OF THE LEAST -/
section DPF
variable {E : zE} {h : zH} {y s : Nat} {v : Int32} {N : Nat → Nat} {S : Nat} {g : Bool}
/-- does a row that costs the least begin so -/
def bbN (N : Nat → Nat) (S : Nat) (g : Bool) (w b : Nat) : Bool := freeN N (N 8) b && decide (coN N g w b (catN N (N 8) b) + eF (TT N S g (zclr (N 8) b)) = eF (TT N S g (N 8)))
theorem sp_begins {w b : Nat} (hC : CO h y s v) (hY : YN h y N) (hW : WF N) (hR : RCt N S g h (N 8 + 1)) (hw : w < N 5) (hb : b < N 3) : zcall zpp E 143 [.ref 0, .int (nI w), .int (nI b), .int (zb g)] h = some (some (.int (zb (bbN N S g w b))), h) := by
  have h3 := hW.2.2.2.1.2
  have hd8 := hW.d8
  have c1 : zsel 9 [9, 77] = some 77 := rfl
  have c2 : zsel 9 [9, 79] = some 79 := rfl
  have c3 : zsel 10 [10, 140] = some 140 := rfl
  obtain ⟨q, q1, q2⟩ := hR
  unfold bbN
  cases hf : freeN N (N 8) b
  · simp only [ze143, zi143_0, zi143_0n, zi143_1, zi143_4, zi143_5, zi143_5n, zi143_6, zi143_9, zi143_12, zi143_15, zi143_18, zi143_19 (sk := []), zi143_20, zi143_20n, zi143_21, zi143_22, zi143_23, zi143_23n, zi143_24, zi143_27, zi143_28, zi143_28n, zi143_29, zi143_32, zi143_35, zi143_38, zi143_39, zi143_42, zi143_44, zi143_46, zi143_46n, zi143_47, zi143_50, zi143_50n, zi143_51, zi143_54, zi143_57, zi143_58, zi143_59, zi143_60, zi143_61, zi143_62, zi143_63, zi143_64, zi143_65, zi143_65n, zi143_66, zi143_69, zi143_69n, zi143_70, zi143_73, zi143_76, zi143_77, zi143_80, zi143_81, zi143_84, zi143_85 (sk := []), zcl1, zlow_0, zlow_1, zlow_2, zlow_3, zlow_4, zfree_0, zfree_i, zfree_r, zfree_n, zfree_d, zfree_f, zfree_s, if_true, if_false, Option.bind_some, Option.toList_some, Option.toList_none, List.cons_append, List.nil_append, List.set_cons_zero, List.set_cons_succ, Bool.false_eq_true, reduceIte, zsw_c, zsw_n, Nat.reduceAdd, hC.r7, hY.f15, hY.cls, c1, sp_isFree hW hY hd8 hb, hf, zb_f, z00, Bool.false_and]
  · have hbit : (N 8).testBit b = true := by
      unfold freeN at hf
      rw [Bool.and_eq_true] at hf
      exact hf.1
    have hlt := zclr_l (N 8) hd8 b (by omega) hbit
    have hsub : sub8 (zclr (N 8) b) (N 8) := fun j hj hz => by
      rw [zclr_bit (N 8) hd8 b (by omega) j hj, Bool.and_eq_true] at hz
      exact hz.1
    have g1 := zarr_at (j := zclr (N 8) b) q1 (by omega) (by omega)
    rw [q2 _ (by omega) hsub] at g1
    have g2 := zarr_at (j := N 8) q1 (by omega) (by omega)
    rw [q2 _ (by omega) (sub8.rf _)] at g2
    have hcl := catN_le hW.2.2.2.2.1 (d := N 8) (b := b)
    have b1 := coN_b (g := g) (w := w) hW hb hcl
    have b2 := (eF_b (S := S) (g := g) hW (show zclr (N 8) b < 256 by omega)).1
    have b3 := (eF_b (S := S) (g := g) hW hd8).1
    unfold FAR at b1 b2 b3
    rw [Bool.true_and]
    have e1 : zcall zpp E 143 [.ref 0, .int (nI w), .int (nI b), .int (zb g)] h = zrun zpp E 143 (77, [.ref 0, .int (nI w), .int (nI b), .int (zb g), .int (nI (coN N g w b (catN N (N 8) b)))], [.int (nI (eF (TT N S g (N 8)))), .int (nI (coN N g w b (catN N (N 8) b) + eF (TT N S g (zclr (N 8) b))))], h) := by
      conv =>
        lhs
        simp only [ze143, zi143_0, zi143_0n, zi143_1, zi143_4, zi143_5, zi143_5n, zi143_6, zi143_9, zi143_12, zi143_15, zi143_18, zi143_19 (sk := []), zi143_20, zi143_20n, zi143_21, zi143_22, zi143_23, zi143_23n, zi143_24, zi143_27, zi143_28, zi143_28n, zi143_29, zi143_32, zi143_35, zi143_38, zi143_39, zi143_42, zi143_44, zi143_46, zi143_46n, zi143_47, zi143_50, zi143_50n, zi143_51, zi143_54, zi143_57, zi143_58, zi143_59, zi143_60, zi143_61, zi143_62, zi143_63, zi143_64, zi143_65, zi143_65n, zi143_66, zi143_69, zi143_69n, zi143_70, zi143_73, zi143_76, zcl1, zlow_0, zlow_1, zlow_2, zlow_3, zlow_4, zfree_0, zfree_i, zfree_r, zfree_n, zfree_d, zfree_f, zfree_s, if_true, if_false, Option.bind_some, Option.toList_some, Option.toList_none, List.cons_append, List.nil_append, List.set_cons_zero, List.set_cons_succ, Bool.false_eq_true, reduceIte, zsw_c, zsw_n, Nat.reduceAdd, hC.r7, hY.f15, hY.cls, c1, sp_isFree hW hY hd8 hb, hf, zb_t, z10, c2, sp_catches hW hY hd8 hb, hC.1, c3, sp_costOf hC hY hW hw hb hcl, hC.r6, (zclr_k (N 8) hd8 b (show b < 8 by omega)).1, g1, nI_add, g2]
    rw [e1]
    by_cases he : coN N g w b (catN N (N 8) b) + eF (TT N S g (zclr (N 8) b)) = eF (TT N S g (N 8))
    · rw [zi143_77, if_pos (by rw [nI_eqP (by omega) (by omega)]; exact he), decide_eq_true he]
      simp only [zi143_80, zi143_81, zi143_84, zi143_85 (sk := []), zcl1, zlow_0, zlow_1, zlow_2, zlow_3, zlow_4, zfree_0, zfree_i, zfree_r, zfree_n, zfree_d, zfree_f, zfree_s, if_true, if_false, Option.bind_some, Option.toList_some, Option.toList_none, List.cons_append, List.nil_append, List.set_cons_zero, List.set_cons_succ, Bool.false_eq_true, reduceIte, zsw_c, zsw_n, Nat.reduceAdd, zb_t, z10]
    · rw [zi143_77, if_neg (by rw [nI_eqP (by omega) (by omega)]; exact he), decide_eq_false he]
      simp only [zi143_80, zi143_81, zi143_84, zi143_85 (sk := []), zcl1, zlow_0, zlow_1, zlow_2, zlow_3, zlow_4, zfree_0, zfree_i, zfree_r, zfree_n, zfree_d, zfree_f, zfree_s, if_true, if_false, Option.bind_some, Option.toList_some, Option.toList_none, List.cons_append, List.nil_append, List.set_cons_zero, List.set_cons_succ, Bool.false_eq_true, reduceIte, zsw_c, zsw_n, Nat.reduceAdd, zb_f, z00]
theorem fiP {w : Nat} (hC : CO h y s v) (hY : YN h y N) (hW : WF N) (hS : S < 256) (hR : RCt N S g h (N 8 + 1)) (hw : w < N 5) : ∀ (m b : Nat), b + m = N 3 → (∀ b', b ≤ b' → b' < N 3 → S.testBit w = true → bbN N S g w b' = false) → ∃ v4, zrun zpp E 142 (16, [.ref 0, .int (nI S), .int (zb g), .int (nI w), .int (nI b)], [], h) = zrun zpp E 142 (61, [.ref 0, .int (nI S), .int (zb g), .int (nI w), v4], [], h) := by
  have h3 := hW.2.2.2.1.2
  have h5 := hW.2.2.2.2.2.1
  have c1 : zsel 10 [10, 143] = some 143 := rfl
  intro m
  induction m with
  | zero =>
    intro b hb hn
    refine ⟨.int (nI b), ?_⟩
    cases hs : S.testBit w
    · conv =>
        lhs
        simp only [zi142_16, zi142_17, zi142_18, zi142_21, zcl1, zlow_0, zlow_1, zlow_2, zlow_3, zlow_4, zfree_0, zfree_i, zfree_r, zfree_n, zfree_d, zfree_f, zfree_s, if_true, if_false, Option.bind_some, Option.toList_some, Option.toList_none, List.cons_append, List.nil_append, List.set_cons_zero, List.set_cons_succ, Bool.false_eq_true, reduceIte, zsw_c, zsw_n, Nat.reduceAdd, sp_has8 hS (show w < 8 by omega), hs, zb_f, z00]
    · conv =>
        lhs
        simp only [zi142_16, zi142_17, zi142_18, zi142_21, zi142_24, zi142_26, zi142_26n, zi142_27, zi142_30, zcl1, zlow_0, zlow_1, zlow_2, zlow_3, zlow_4, zfree_0, zfree_i, zfree_r, zfree_n, zfree_d, zfree_f, zfree_s, if_true, if_false, Option.bind_some, Option.toList_some, Option.toList_none, List.cons_append, List.nil_append, List.set_cons_zero, List.set_cons_succ, Bool.false_eq_true, reduceIte, zsw_c, zsw_n, Nat.reduceAdd, sp_has8 hS (show w < 8 by omega), hs, zb_t, z10, hC.r7, hY.f3]
      rw [zi142_33, if_pos (by rw [nI_leP (by omega) (by omega)]; omega)]
  | succ m ih =>
    intro b hb hn
    cases hs : S.testBit w
    · refine ⟨.int (nI b), ?_⟩
      conv =>
        lhs
        simp only [zi142_16, zi142_17, zi142_18, zi142_21, zcl1, zlow_0, zlow_1, zlow_2, zlow_3, zlow_4, zfree_0, zfree_i, zfree_r, zfree_n, zfree_d, zfree_f, zfree_s, if_true, if_false, Option.bind_some, Option.toList_some, Option.toList_none, List.cons_append, List.nil_append, List.set_cons_zero, List.set_cons_succ, Bool.false_eq_true, reduceIte, zsw_c, zsw_n, Nat.reduceAdd, sp_has8 hS (show w < 8 by omega), hs, zb_f, z00]
    · obtain ⟨v4, e1⟩ := ih (b + 1) (by omega) (fun b' h1 h2 h4 => hn b' (by omega) h2 h4)
      refine ⟨v4, ?_⟩
      rw [← e1]
      conv =>
        lhs
        simp only [zi142_16, zi142_17, zi142_18, zi142_21, zi142_24, zi142_26, zi142_26n, zi142_27, zi142_30, zcl1, zlow_0, zlow_1, zlow_2, zlow_3, zlow_4, zfree_0, zfree_i, zfree_r, zfree_n, zfree_d, zfree_f, zfree_s, if_true, if_false, Option.bind_some, Option.toList_some, Option.toList_none, List.cons_append, List.nil_append, List.set_cons_zero, List.set_cons_succ, Bool.false_eq_true, reduceIte, zsw_c, zsw_n, Nat.reduceAdd, sp_has8 hS (show w < 8 by omega), hs, zb_t, z10, hC.r7, hY.f3]
      rw [zi142_33, if_neg (by rw [nI_leP (by omega) (by omega)]; omega)]
      conv =>
        lhs
        simp only [zi142_36, zi142_36n, zi142_37, zi142_38, zi142_40, zi142_41, zi142_44, zi142_47, zi142_49, zi142_50, zi142_51, zi142_53, zi142_54 (sk := []), zi142_55, zi142_58, zcl1, zlow_0, zlow_1, zlow_2, zlow_3, zlow_4, zfree_0, zfree_i, zfree_r, zfree_n, zfree_d, zfree_f, zfree_s, if_true, if_false, Option.bind_some, Option.toList_some, Option.toList_none, List.cons_append, List.nil_append, List.set_cons_zero, List.set_cons_succ, Bool.false_eq_true, reduceIte, zsw_c, zsw_n, Nat.reduceAdd, hC.1, c1, sp_begins hC hY hW hR hw (show b < N 3 by omega), hn b (by omega) (by omega) hs, zb_f, z00, ix_p1]
theorem fiH {w b1 : Nat} (hC : CO h y s v) (hY : YN h y N) (hW : WF N) (hS : S < 256) (hR : RCt N S g h (N 8 + 1)) (hw : w < N 5) (hb1 : b1 < N 3) (hs : S.testBit w = true) (h1 : bbN N S g w b1 = true) : ∀ (m b : Nat), b + m = b1 → (∀ b', b ≤ b' → b' < b1 → bbN N S g w b' = false) → zrun zpp E 142 (16, [.ref 0, .int (nI S), .int (zb g), .int (nI w), .int (nI b)], [], h) = some (some (.int (nI (10 * w + b1))), h) := by
  have h3 := hW.2.2.2.1.2
  have h5 := hW.2.2.2.2.2.1
  have c1 : zsel 10 [10, 143] = some 143 := rfl
  have e10 : ∀ b, (10 : Int32) * nI w + nI b = nI (10 * w + b) := fun b => by rw [show (10 : Int32) * nI w = nI (10 * w) from pk_mul 10 w, nI_add]
  intro m
  induction m with
  | zero =>
    intro b hb hn
    have eb : b = b1 := by omega
    subst eb
    simp only [zi142_16, zi142_17, zi142_18, zi142_21, zi142_24, zi142_26, zi142_26n, zi142_27, zi142_30, zcl1, zlow_0, zlow_1, zlow_2, zlow_3, zlow_4, zfree_0, zfree_i, zfree_r, zfree_n, zfree_d, zfree_f, zfree_s, if_true, if_false, Option.bind_some, Option.toList_some, Option.toList_none, List.cons_append, List.nil_append, List.set_cons_zero, List.set_cons_succ, Bool.false_eq_true, reduceIte, zsw_c, zsw_n, Nat.reduceAdd, sp_has8 hS (show w < 8 by omega), hs, zb_t, z10, hC.r7, hY.f3]
    rw [zi142_33, if_neg (by rw [nI_leP (by omega) (by omega)]; omega)]
    simp only [zi142_36, zi142_36n, zi142_37, zi142_38, zi142_40, zi142_41, zi142_44, zi142_47, zi142_49, zi142_50, zi142_51, zi142_53, zi142_54 (sk := []), zcl1, zlow_0, zlow_1, zlow_2, zlow_3, zlow_4, zfree_0, zfree_i, zfree_r, zfree_n, zfree_d, zfree_f, zfree_s, if_true, if_false, Option.bind_some, Option.toList_some, Option.toList_none, List.cons_append, List.nil_append, List.set_cons_zero, List.set_cons_succ, Bool.false_eq_true, reduceIte, zsw_c, zsw_n, Nat.reduceAdd, hC.1, c1, sp_begins hC hY hW hR hw hb1, h1, zb_t, z10, e10]
  | succ m ih =>
    intro b hb hn
    rw [← ih (b + 1) (by omega) (fun b' q1 q2 => hn b' (by omega) q2)]
    conv =>
      lhs
      simp only [zi142_16, zi142_17, zi142_18, zi142_21, zi142_24, zi142_26, zi142_26n, zi142_27, zi142_30, zcl1, zlow_0, zlow_1, zlow_2, zlow_3, zlow_4, zfree_0, zfree_i, zfree_r, zfree_n, zfree_d, zfree_f, zfree_s, if_true, if_false, Option.bind_some, Option.toList_some, Option.toList_none, List.cons_append, List.nil_append, List.set_cons_zero, List.set_cons_succ, Bool.false_eq_true, reduceIte, zsw_c, zsw_n, Nat.reduceAdd, sp_has8 hS (show w < 8 by omega), hs, zb_t, z10, hC.r7, hY.f3]
    rw [zi142_33, if_neg (by rw [nI_leP (by omega) (by omega)]; omega)]
    conv =>
      lhs
      simp only [zi142_36, zi142_36n, zi142_37, zi142_38, zi142_40, zi142_41, zi142_44, zi142_47, zi142_49, zi142_50, zi142_51, zi142_53, zi142_54 (sk := []), zi142_55, zi142_58, zcl1, zlow_0, zlow_1, zlow_2, zlow_3, zlow_4, zfree_0, zfree_i, zfree_r, zfree_n, zfree_d, zfree_f, zfree_s, if_true, if_false, Option.bind_some, Option.toList_some, Option.toList_none, List.cons_append, List.nil_append, List.set_cons_zero, List.set_cons_succ, Bool.false_eq_true, reduceIte, zsw_c, zsw_n, Nat.reduceAdd, hC.1, c1, sp_begins hC hY hW hR hw (show b < N 3 by omega), hn b (by omega) (by omega), zb_f, z00, ix_p1]
theorem sp_firstLift (hC : CO h y s v) (hY : YN h y N) (hW : WF N) (hS : S < 256) (hR : RCt N S g h (N 8 + 1)) (hT : eF (TT N S g (N 8)) < FAR) : zcall zpp E 142 [.ref 0, .int (nI S), .int (zb g)] h = some (some (.int (if N 8 = 0 then -1000000 else eK (FBN N S g (N 8)))), h) := by
  have h3 := hW.2.2.2.1.2
  have h5 := hW.2.2.2.2.2.1
  have hd8 := hW.d8
  have e0 : zcall zpp E 142 [.ref 0, .int (nI S), .int (zb g)] h = zrun zpp E 142 (2, [.ref 0, .int (nI S), .int (zb g), .int (nI 0), .retAddr 0], [], h) := by
    conv =>
      lhs
      simp only [ze142, zi142_0, zi142_1, zcl1, zlow_0, zlow_1, zlow_2, zlow_3, zlow_4, zfree_0, zfree_i, zfree_r, zfree_n, zfree_d, zfree_f, zfree_s, if_true, if_false, Option.bind_some, Option.toList_some, Option.toList_none, List.cons_append, List.nil_append, List.set_cons_zero, List.set_cons_succ, Bool.false_eq_true, reduceIte, zsw_c, zsw_n, Nat.reduceAdd]
    rfl
  rw [e0]
  -- past the lifters before w1
  have pass : ∀ (w1 : Nat), w1 ≤ N 5 → (∀ w b, w < w1 → b < N 3 → S.testBit w = true → bbN N S g w b = false) → ∀ (m w : Nat) (v4 : Value), w + m = w1 → ∃ v4', zrun zpp E 142 (2, [.ref 0, .int (nI S), .int (zb g), .int (nI w), v4], [], h) = zrun zpp E 142 (2, [.ref 0, .int (nI S), .int (zb g), .int (nI w1), v4'], [], h) := by
    intro w1 hw1 hn m
    induction m with
    | zero =>
      intro w v4 hw
      rw [show w = w1 by omega]
      exact ⟨v4, rfl⟩
    | succ m ih =>
      intro w v4 hw
      obtain ⟨u4, a1⟩ := fiP (E := E) hC hY hW hS hR (show w < N 5 by omega) (N 3) 0 (by omega) (fun b' _ h2 h4 => hn w b' (by omega) h2 h4)
      obtain ⟨t4, a2⟩ := ih (w + 1) u4 (by omega)
      refine ⟨t4, ?_⟩
      rw [← a2]
      have e3 : zrun zpp E 142 (61, [.ref 0, .int (nI S), .int (zb g), .int (nI w), u4], [], h) = zrun zpp E 142 (2, [.ref 0, .int (nI S), .int (zb g), .int (nI (w + 1)), u4], [], h) := by
        conv =>
          lhs
          simp only [zi142_61, zi142_64, zcl1, zlow_0, zlow_1, zlow_2, zlow_3, zlow_4, zfree_0, zfree_i, zfree_r, zfree_n, zfree_d, zfree_f, zfree_s, if_true, if_false, Option.bind_some, Option.toList_some, Option.toList_none, List.cons_append, List.nil_append, List.set_cons_zero, List.set_cons_succ, Bool.false_eq_true, reduceIte, zsw_c, zsw_n, Nat.reduceAdd, ix_p1]
      rw [← e3, ← a1]
      conv =>
        lhs
        simp only [zi142_2, zi142_3, zi142_3n, zi142_4, zi142_7, zcl1, zlow_0, zlow_1, zlow_2, zlow_3, zlow_4, zfree_0, zfree_i, zfree_r, zfree_n, zfree_d, zfree_f, zfree_s, if_true, if_false, Option.bind_some, Option.toList_some, Option.toList_none, List.cons_append, List.nil_append, List.set_cons_zero, List.set_cons_succ, Bool.false_eq_true, reduceIte, zsw_c, zsw_n, Nat.reduceAdd, hC.r7, hY.f5]
      rw [zi142_10, if_neg (by rw [nI_leP (by omega) (by omega)]; omega)]
      conv =>
        lhs
        simp only [zi142_13, zi142_14, zcl1, zlow_0, zlow_1, zlow_2, zlow_3, zlow_4, zfree_0, zfree_i, zfree_r, zfree_n, zfree_d, zfree_f, zfree_s, if_true, if_false, Option.bind_some, Option.toList_some, Option.toList_none, List.cons_append, List.nil_append, List.set_cons_zero, List.set_cons_succ, Bool.false_eq_true, reduceIte, zsw_c, zsw_n, Nat.reduceAdd]
      rfl
  by_cases h0 : N 8 = 0
  · rw [if_pos h0]
    obtain ⟨u4, a1⟩ := pass (N 5) (Nat.le_refl _) (fun w b _ _ _ => by
      unfold bbN freeN
      rw [h0, Nat.zero_testBit]
      rfl) (N 5) 0 (.retAddr 0) (by omega)
    rw [a1]
    simp only [zi142_2, zi142_3, zi142_3n, zi142_4, zi142_7, zcl1, zlow_0, zlow_1, zlow_2, zlow_3, zlow_4, zfree_0, zfree_i, zfree_r, zfree_n, zfree_d, zfree_f, zfree_s, if_true, if_false, Option.bind_some, Option.toList_some, Option.toList_none, List.cons_append, List.nil_append, List.set_cons_zero, List.set_cons_succ, Bool.false_eq_true, reduceIte, zsw_c, zsw_n, Nat.reduceAdd, hC.r7, hY.f5]
    rw [zi142_10, if_pos (by rw [nI_leP (by omega) (by omega)]; omega)]
    simp only [zi142_67, zi142_69 (sk := []), zcl1, zlow_0, zlow_1, zlow_2, zlow_3, zlow_4, zfree_0, zfree_i, zfree_r, zfree_n, zfree_d, zfree_f, zfree_s, if_true, if_false, Option.bind_some, Option.toList_some, Option.toList_none, List.cons_append, List.nil_append, List.set_cons_zero, List.set_cons_succ, Bool.false_eq_true, reduceIte, zsw_c, zsw_n, Nat.reduceAdd]
  · rw [if_neg h0]
    obtain ⟨p, p1, p2, p3⟩ := (eF_b (S := S) (g := g) hW hd8).2 hT
    have hTs := TT_s (N := N) (S := S) (g := g) h3 hd8 (by omega)
    obtain ⟨b1, b2⟩ := dpW_ok (cv := fun w b => cvN N S g (TT N S g) (N 8) w b) (nb := N 3) (N 5)
    have key : ∀ w b, b < N 3 → S.testBit w = true → (bbN N S g w b = true ↔ cvN N S g (TT N S g) (N 8) w b = some p) := by
      intro w b hb hs
      unfold bbN
      rw [Bool.and_eq_true, decide_eq_true_eq, cv_iff hW hd8 hb hs hT]
      constructor
      · rintro ⟨m, m1, m2⟩
        have hmb := cvN_bd hW hd8 hb m1
        rw [p2] at m2
        rw [m1, enc_eq (by omega) (by omega) m2]
      · intro e
        exact ⟨p, e, p2.symm⟩
    unfold FBN
    cases hq : dpW (fun w b => cvN N S g (TT N S g) (N 8) w b) (N 3) (N 5) with
    | none => rw [hTs, hq] at p1; cases p1
    | some pp =>
      obtain ⟨m, k⟩ := pp
      rw [hTs, hq] at p1
      have em : m = p := Option.some.inj p1
      obtain ⟨w, b, ⟨hw, hb⟩, ek, q3, q4, q5⟩ := b2 m k hq
      dsimp only at q3 q4 q5
      rw [em] at q3 q5
      have hs : S.testBit w = true := by
        unfold cvN at q3
        split at q3
        · rename_i z; rw [Bool.and_eq_true] at z; exact z.1
        · cases q3
      have fls : ∀ w' b', b' < N 3 → w' < N 5 → (w' < w ∨ (w' = w ∧ b' < b)) → S.testBit w' = true → bbN N S g w' b' = false := by
        intro w' b' hb' hw' hl hs'
        cases hz : bbN N S g w' b'
        · rfl
        · exact absurd ((key w' b' hb' hs').mp hz) (q5 w' b' ⟨hw', hb'⟩ hl)
      obtain ⟨u4, a1⟩ := pass w (by omega) (fun w' b' h1 h2 h4 => fls w' b' h2 (by omega) (Or.inl h1) h4) w 0 (.retAddr 0) (by omega)
      have a2 := fiH (E := E) hC hY hW hS hR hw hb hs ((key w b hb hs).mpr q3) b 0 (by omega) (fun b' _ h2 => fls w b' (by omega) hw (Or.inr ⟨rfl, h2⟩) hs)
      rw [a1]
      show _ = some (some (Value.int (nI k)), h)
      rw [ek, ← a2]
      conv =>
        lhs
        simp only [zi142_2, zi142_3, zi142_3n, zi142_4, zi142_7, zcl1, zlow_0, zlow_1, zlow_2, zlow_3, zlow_4, zfree_0, zfree_i, zfree_r, zfree_n, zfree_d, zfree_f, zfree_s, if_true, if_false, Option.bind_some, Option.toList_some, Option.toList_none, List.cons_append, List.nil_append, List.set_cons_zero, List.set_cons_succ, Bool.false_eq_true, reduceIte, zsw_c, zsw_n, Nat.reduceAdd, hC.r7, hY.f5]
      rw [zi142_10, if_neg (by rw [nI_leP (by omega) (by omega)]; omega)]
      conv =>
        lhs
        simp only [zi142_13, zi142_14, zcl1, zlow_0, zlow_1, zlow_2, zlow_3, zlow_4, zfree_0, zfree_i, zfree_r, zfree_n, zfree_d, zfree_f, zfree_s, if_true, if_false, Option.bind_some, Option.toList_some, Option.toList_none, List.cons_append, List.nil_append, List.set_cons_zero, List.set_cons_succ, Bool.false_eq_true, reduceIte, zsw_c, zsw_n, Nat.reduceAdd]
      rfl
end DPF
