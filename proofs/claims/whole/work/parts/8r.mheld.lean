/-! THE TEXT: the model asks whether two are held already -/
section MHD
variable {E : zE} {h : zH} {sc T : Nat → Int32} {t : Nat → Nat} {L p : Nat} {N : Nat → Nat}
theorem lcmp0 {a b : Nat} (ha : a < 2 ^ 31) (hb : b < 2 ^ 31) : (lg_cmp (nI a).toInt64 (nI b).toInt64 = 0) = (a = b) := by
  rw [lg_cmp_eq, ← Int64.toInt_inj, Int32.toInt_toInt64, Int32.toInt_toInt64, nI_toInt ha, nI_toInt hb]
  exact propext ⟨fun z => by omega, fun z => by omega⟩
theorem sp_isHeldM {so a b : Nat} (hso : so ≤ 1) (ha : a < 256) (hb : b < 256) (h4 : N 4 ≤ 10) (hH : ∀ j, j < N 4 → N (25 + 4 * j) ≤ 1 ∧ N (26 + 4 * j) < 256 ∧ N (27 + 4 * j) < 256) (hM : MdO h sc) (hF : FR h N) : zcall zpp E 168 [.ref 73, .int (nI so), .int (nI a), .long (nI b).toInt64] h = some (some (.int (zb (heF N so a b (N 4)))), h) := by
  have at4 := hF.c 4 (by omega) (by omega) (x := 4) rfl
  have loop : ∀ (n k : Nat) (v7 : Value), k + n = N 4 → zrun zpp E 168 (6, [.ref 73, .int (nI so), .int (nI a), .long (nI b).toInt64, .retAddr 0, .int (zb (heF N so a b k)), .int (nI k), v7], [], h) = some (some (.int (zb (heF N so a b (N 4)))), h) := by
    intro n
    induction n with
    | zero =>
      intro k v7 hk
      have e : k = N 4 := by omega
      simp only [zi168_6, zi168_8, zi168_8n, zi168_9, zi168_12, zi168_13, zcl1, zlow_0, zlow_1, zlow_2, zlow_3, zlow_4, zfree_0, zfree_i, zfree_r, zfree_n, zfree_d, zfree_f, zfree_s, if_true, if_false, Option.bind_some, Option.toList_some, Option.toList_none, List.cons_append, List.nil_append, List.set_cons_zero, List.set_cons_succ, Bool.false_eq_true, reduceIte, zsw_c, zsw_n, Nat.reduceAdd, hM.r6, at4]
      rw [zi168_14, if_pos (by rw [nI_leP (by omega) (by omega)]; omega)]
      simp only [zi168_111, zi168_113 (sk := []), zcl1, zlow_0, zlow_1, zlow_2, zlow_3, zlow_4, zfree_0, zfree_i, zfree_r, zfree_n, zfree_d, zfree_f, zfree_s, if_true, if_false, Option.bind_some, Option.toList_some, Option.toList_none, List.cons_append, List.nil_append, List.set_cons_zero, List.set_cons_succ, Bool.false_eq_true, reduceIte, zsw_c, zsw_n, Nat.reduceAdd]
      rw [e]
      exact zb_ret (f := fun v => some (some (Value.int v), h))
    | succ n ih =>
      intro k v7 hk
      obtain ⟨q1, q2, q3⟩ := hH k (by omega)
      have ih1 := ih (k + 1) (.int (nI (25 + 4 * k))) (by omega)
      have g0 := hF.c (25 + 4 * k) (by omega) (by omega) (x := nI (25 + 4 * k)) rfl
      have g1 := hF.c (26 + 4 * k) (by omega) (by omega) (x := nI (25 + 4 * k + 1)) (congrArg nI (by omega))
      have g2 := hF.c (27 + 4 * k) (by omega) (by omega) (x := nI (25 + 4 * k + 2)) (congrArg nI (by omega))
      have eh : heF N so a b (k + 1) = (heF N so a b k || decide (N (25 + 4 * k) = so ∧ ((N (26 + 4 * k) = a ∧ N (27 + 4 * k) = b) ∨ (N (26 + 4 * k) = b ∧ N (27 + 4 * k) = a)))) := rfl
      simp only [zi168_6, zi168_8, zi168_8n, zi168_9, zi168_12, zi168_13, zcl1, zlow_0, zlow_1, zlow_2, zlow_3, zlow_4, zfree_0, zfree_i, zfree_r, zfree_n, zfree_d, zfree_f, zfree_s, if_true, if_false, Option.bind_some, Option.toList_some, Option.toList_none, List.cons_append, List.nil_append, List.set_cons_zero, List.set_cons_succ, Bool.false_eq_true, reduceIte, zsw_c, zsw_n, Nat.reduceAdd, hM.r6, at4]
      rw [zi168_14, if_neg (by rw [nI_leP (by omega) (by omega)]; omega)]
      have t1 : (nI (N (25 + 4 * k)) = nI so) = (N (25 + 4 * k) = so) := nI_eqP (by omega) (by omega)
      have t2 : (nI (N (26 + 4 * k)) = nI a) = (N (26 + 4 * k) = a) := nI_eqP (by omega) (by omega)
      have t3 : (nI (N (27 + 4 * k)) = nI a) = (N (27 + 4 * k) = a) := nI_eqP (by omega) (by omega)
      have t4 : (lg_cmp (nI (N (27 + 4 * k))).toInt64 (nI b).toInt64 = 0) = (N (27 + 4 * k) = b) := lcmp0 (by omega) (by omega)
      have t5 : (lg_cmp (nI (N (26 + 4 * k))).toInt64 (nI b).toInt64 = 0) = (N (26 + 4 * k) = b) := lcmp0 (by omega) (by omega)
      have back : ∀ w : Int32, w = zb (heF N so a b (k + 1)) → zrun zpp E 168 (103, [.ref 73, .int (nI so), .int (nI a), .long (nI b).toInt64, .retAddr 0, .int (zb (heF N so a b k)), .int (nI k), .int (nI (25 + 4 * k))], [.int w], h) = some (some (.int (zb (heF N so a b (N 4)))), h) := by
        intro w hw
        subst hw
        rw [← ih1]
        conv =>
          lhs
          simp only [zi168_103, zi168_105, zcl1, zlow_0, zlow_1, zlow_2, zlow_3, zlow_4, zfree_0, zfree_i, zfree_r, zfree_n, zfree_d, zfree_f, zfree_s, if_true, if_false, Option.bind_some, Option.toList_some, Option.toList_none, List.cons_append, List.nil_append, List.set_cons_zero, List.set_cons_succ, Bool.false_eq_true, reduceIte, zsw_c, zsw_n, Nat.reduceAdd, ix_p1]
        exact zi168_108
      cases hq : heF N so a b k
      · rw [hq] at back eh
        by_cases c1 : N (25 + 4 * k) = so
        · by_cases c2 : N (26 + 4 * k) = a ∧ N (27 + 4 * k) = b
          · have e1 : heF N so a b (k + 1) = true := by rw [eh, decide_eq_true ⟨c1, Or.inl c2⟩]; rfl
            refine Eq.trans ?_ (back 1 (by rw [e1]; rfl))
            conv =>
              lhs
              simp only [zi168_17, zi168_19, zi168_20, zi168_22, zi168_23, zi168_24, zi168_26, zi168_28, zi168_31, zi168_31n, zi168_32, zi168_35, zi168_37, zi168_38, zi168_39, zi168_42, zi168_42n, zi168_43, zi168_46, zi168_48, zi168_49, zi168_50, zi168_51, zi168_52, zi168_55, zi168_55n, zi168_56, zi168_59, zi168_61, zi168_62, zi168_63, zi168_64, zi168_65, zi168_66, zi168_67, zi168_70, zi168_70n, zi168_71, zi168_74, zi168_76, zi168_77, zi168_78, zi168_79, zi168_80, zi168_81, zi168_82, zi168_85, zi168_85n, zi168_86, zi168_89, zi168_91, zi168_92, zi168_93, zi168_94, zi168_95, zi168_98, zi168_99, zcl1, zlow_0, zlow_1, zlow_2, zlow_3, zlow_4, zfree_0, zfree_i, zfree_r, zfree_n, zfree_d, zfree_f, zfree_s, if_true, if_false, Option.bind_some, Option.toList_some, Option.toList_none, List.cons_append, List.nil_append, List.set_cons_zero, List.set_cons_succ, Bool.false_eq_true, reduceIte, zsw_c, zsw_n, Nat.reduceAdd, ix_25, zb_f, z00, hM.r6, g0, t1, eq_true c1, ix_p1, ix_p2, g1, t2, eq_true c2.1, g2, t4, eq_true c2.2]
            rfl
          · by_cases c3 : N (26 + 4 * k) = b ∧ N (27 + 4 * k) = a
            · have e1 : heF N so a b (k + 1) = true := by rw [eh, decide_eq_true ⟨c1, Or.inr c3⟩]; rfl
              refine Eq.trans ?_ (back 1 (by rw [e1]; rfl))
              by_cases c4 : N (26 + 4 * k) = a
              · have c5 : ¬ N (27 + 4 * k) = b := fun z => c2 ⟨c4, z⟩
                conv =>
                  lhs
                  simp only [zi168_17, zi168_19, zi168_20, zi168_22, zi168_23, zi168_24, zi168_26, zi168_28, zi168_31, zi168_31n, zi168_32, zi168_35, zi168_37, zi168_38, zi168_39, zi168_42, zi168_42n, zi168_43, zi168_46, zi168_48, zi168_49, zi168_50, zi168_51, zi168_52, zi168_55, zi168_55n, zi168_56, zi168_59, zi168_61, zi168_62, zi168_63, zi168_64, zi168_65, zi168_66, zi168_67, zi168_70, zi168_70n, zi168_71, zi168_74, zi168_76, zi168_77, zi168_78, zi168_79, zi168_80, zi168_81, zi168_82, zi168_85, zi168_85n, zi168_86, zi168_89, zi168_91, zi168_92, zi168_93, zi168_94, zi168_95, zi168_98, zi168_99, zcl1, zlow_0, zlow_1, zlow_2, zlow_3, zlow_4, zfree_0, zfree_i, zfree_r, zfree_n, zfree_d, zfree_f, zfree_s, if_true, if_false, Option.bind_some, Option.toList_some, Option.toList_none, List.cons_append, List.nil_append, List.set_cons_zero, List.set_cons_succ, Bool.false_eq_true, reduceIte, zsw_c, zsw_n, Nat.reduceAdd, ix_25, zb_f, z00, hM.r6, g0, t1, eq_true c1, ix_p1, ix_p2, g1, t2, eq_true c4, g2, t4, eq_false c5, t5, eq_true c3.1, t3, eq_true c3.2]
                rfl
              · conv =>
                  lhs
                  simp only [zi168_17, zi168_19, zi168_20, zi168_22, zi168_23, zi168_24, zi168_26, zi168_28, zi168_31, zi168_31n, zi168_32, zi168_35, zi168_37, zi168_38, zi168_39, zi168_42, zi168_42n, zi168_43, zi168_46, zi168_48, zi168_49, zi168_50, zi168_51, zi168_52, zi168_55, zi168_55n, zi168_56, zi168_59, zi168_61, zi168_62, zi168_63, zi168_64, zi168_65, zi168_66, zi168_67, zi168_70, zi168_70n, zi168_71, zi168_74, zi168_76, zi168_77, zi168_78, zi168_79, zi168_80, zi168_81, zi168_82, zi168_85, zi168_85n, zi168_86, zi168_89, zi168_91, zi168_92, zi168_93, zi168_94, zi168_95, zi168_98, zi168_99, zcl1, zlow_0, zlow_1, zlow_2, zlow_3, zlow_4, zfree_0, zfree_i, zfree_r, zfree_n, zfree_d, zfree_f, zfree_s, if_true, if_false, Option.bind_some, Option.toList_some, Option.toList_none, List.cons_append, List.nil_append, List.set_cons_zero, List.set_cons_succ, Bool.false_eq_true, reduceIte, zsw_c, zsw_n, Nat.reduceAdd, ix_25, zb_f, z00, hM.r6, g0, t1, eq_true c1, ix_p1, ix_p2, g1, t2, eq_false c4, g2, t5, eq_true c3.1, t3, eq_true c3.2]
                rfl
            · have e1 : heF N so a b (k + 1) = false := by
                rw [eh, decide_eq_false (fun z => by rcases z.2 with y | y; exact c2 y; exact c3 y)]; rfl
              refine Eq.trans ?_ (back 0 (by rw [e1]; rfl))
              by_cases c4 : N (26 + 4 * k) = a
              · have c5 : ¬ N (27 + 4 * k) = b := fun z => c2 ⟨c4, z⟩
                by_cases c6 : N (26 + 4 * k) = b
                · have c7 : ¬ N (27 + 4 * k) = a := fun z => c3 ⟨c6, z⟩
                  conv =>
                    lhs
                    simp only [zi168_17, zi168_19, zi168_20, zi168_22, zi168_23, zi168_24, zi168_26, zi168_28, zi168_31, zi168_31n, zi168_32, zi168_35, zi168_37, zi168_38, zi168_39, zi168_42, zi168_42n, zi168_43, zi168_46, zi168_48, zi168_49, zi168_50, zi168_51, zi168_52, zi168_55, zi168_55n, zi168_56, zi168_59, zi168_61, zi168_62, zi168_63, zi168_64, zi168_65, zi168_66, zi168_67, zi168_70, zi168_70n, zi168_71, zi168_74, zi168_76, zi168_77, zi168_78, zi168_79, zi168_80, zi168_81, zi168_82, zi168_85, zi168_85n, zi168_86, zi168_89, zi168_91, zi168_92, zi168_93, zi168_94, zi168_95, zi168_98, zi168_99, zi168_102, zcl1, zlow_0, zlow_1, zlow_2, zlow_3, zlow_4, zfree_0, zfree_i, zfree_r, zfree_n, zfree_d, zfree_f, zfree_s, if_true, if_false, Option.bind_some, Option.toList_some, Option.toList_none, List.cons_append, List.nil_append, List.set_cons_zero, List.set_cons_succ, Bool.false_eq_true, reduceIte, zsw_c, zsw_n, Nat.reduceAdd, ix_25, zb_f, z00, hM.r6, g0, t1, eq_true c1, ix_p1, ix_p2, g1, t2, eq_true c4, g2, t4, eq_false c5, t5, eq_true c6, t3, eq_false c7]
                  rfl
                · conv =>
                    lhs
                    simp only [zi168_17, zi168_19, zi168_20, zi168_22, zi168_23, zi168_24, zi168_26, zi168_28, zi168_31, zi168_31n, zi168_32, zi168_35, zi168_37, zi168_38, zi168_39, zi168_42, zi168_42n, zi168_43, zi168_46, zi168_48, zi168_49, zi168_50, zi168_51, zi168_52, zi168_55, zi168_55n, zi168_56, zi168_59, zi168_61, zi168_62, zi168_63, zi168_64, zi168_65, zi168_66, zi168_67, zi168_70, zi168_70n, zi168_71, zi168_74, zi168_76, zi168_77, zi168_78, zi168_79, zi168_80, zi168_81, zi168_82, zi168_85, zi168_85n, zi168_86, zi168_89, zi168_91, zi168_92, zi168_93, zi168_94, zi168_95, zi168_98, zi168_99, zi168_102, zcl1, zlow_0, zlow_1, zlow_2, zlow_3, zlow_4, zfree_0, zfree_i, zfree_r, zfree_n, zfree_d, zfree_f, zfree_s, if_true, if_false, Option.bind_some, Option.toList_some, Option.toList_none, List.cons_append, List.nil_append, List.set_cons_zero, List.set_cons_succ, Bool.false_eq_true, reduceIte, zsw_c, zsw_n, Nat.reduceAdd, ix_25, zb_f, z00, hM.r6, g0, t1, eq_true c1, ix_p1, ix_p2, g1, t2, eq_true c4, g2, t4, eq_false c5, t5, eq_false c6]
                  rfl
              · by_cases c6 : N (26 + 4 * k) = b
                · have c7 : ¬ N (27 + 4 * k) = a := fun z => c3 ⟨c6, z⟩
                  conv =>
                    lhs
                    simp only [zi168_17, zi168_19, zi168_20, zi168_22, zi168_23, zi168_24, zi168_26, zi168_28, zi168_31, zi168_31n, zi168_32, zi168_35, zi168_37, zi168_38, zi168_39, zi168_42, zi168_42n, zi168_43, zi168_46, zi168_48, zi168_49, zi168_50, zi168_51, zi168_52, zi168_55, zi168_55n, zi168_56, zi168_59, zi168_61, zi168_62, zi168_63, zi168_64, zi168_65, zi168_66, zi168_67, zi168_70, zi168_70n, zi168_71, zi168_74, zi168_76, zi168_77, zi168_78, zi168_79, zi168_80, zi168_81, zi168_82, zi168_85, zi168_85n, zi168_86, zi168_89, zi168_91, zi168_92, zi168_93, zi168_94, zi168_95, zi168_98, zi168_99, zi168_102, zcl1, zlow_0, zlow_1, zlow_2, zlow_3, zlow_4, zfree_0, zfree_i, zfree_r, zfree_n, zfree_d, zfree_f, zfree_s, if_true, if_false, Option.bind_some, Option.toList_some, Option.toList_none, List.cons_append, List.nil_append, List.set_cons_zero, List.set_cons_succ, Bool.false_eq_true, reduceIte, zsw_c, zsw_n, Nat.reduceAdd, ix_25, zb_f, z00, hM.r6, g0, t1, eq_true c1, ix_p1, ix_p2, g1, t2, eq_false c4, g2, t5, eq_true c6, t3, eq_false c7]
                  rfl
                · conv =>
                    lhs
                    simp only [zi168_17, zi168_19, zi168_20, zi168_22, zi168_23, zi168_24, zi168_26, zi168_28, zi168_31, zi168_31n, zi168_32, zi168_35, zi168_37, zi168_38, zi168_39, zi168_42, zi168_42n, zi168_43, zi168_46, zi168_48, zi168_49, zi168_50, zi168_51, zi168_52, zi168_55, zi168_55n, zi168_56, zi168_59, zi168_61, zi168_62, zi168_63, zi168_64, zi168_65, zi168_66, zi168_67, zi168_70, zi168_70n, zi168_71, zi168_74, zi168_76, zi168_77, zi168_78, zi168_79, zi168_80, zi168_81, zi168_82, zi168_85, zi168_85n, zi168_86, zi168_89, zi168_91, zi168_92, zi168_93, zi168_94, zi168_95, zi168_98, zi168_99, zi168_102, zcl1, zlow_0, zlow_1, zlow_2, zlow_3, zlow_4, zfree_0, zfree_i, zfree_r, zfree_n, zfree_d, zfree_f, zfree_s, if_true, if_false, Option.bind_some, Option.toList_some, Option.toList_none, List.cons_append, List.nil_append, List.set_cons_zero, List.set_cons_succ, Bool.false_eq_true, reduceIte, zsw_c, zsw_n, Nat.reduceAdd, ix_25, zb_f, z00, hM.r6, g0, t1, eq_true c1, ix_p1, ix_p2, g1, t2, eq_false c4, t5, eq_false c6]
                  rfl
        · have e1 : heF N so a b (k + 1) = false := by rw [eh, decide_eq_false (fun z => c1 z.1)]; rfl
          refine Eq.trans ?_ (back 0 (by rw [e1]; rfl))
          conv =>
            lhs
            simp only [zi168_17, zi168_19, zi168_20, zi168_22, zi168_23, zi168_24, zi168_26, zi168_28, zi168_31, zi168_31n, zi168_32, zi168_35, zi168_37, zi168_38, zi168_39, zi168_42, zi168_42n, zi168_43, zi168_46, zi168_48, zi168_49, zi168_50, zi168_51, zi168_52, zi168_55, zi168_55n, zi168_56, zi168_59, zi168_61, zi168_62, zi168_63, zi168_64, zi168_65, zi168_66, zi168_67, zi168_70, zi168_70n, zi168_71, zi168_74, zi168_76, zi168_77, zi168_78, zi168_79, zi168_80, zi168_81, zi168_82, zi168_85, zi168_85n, zi168_86, zi168_89, zi168_91, zi168_92, zi168_93, zi168_94, zi168_95, zi168_98, zi168_99, zi168_102, zcl1, zlow_0, zlow_1, zlow_2, zlow_3, zlow_4, zfree_0, zfree_i, zfree_r, zfree_n, zfree_d, zfree_f, zfree_s, if_true, if_false, Option.bind_some, Option.toList_some, Option.toList_none, List.cons_append, List.nil_append, List.set_cons_zero, List.set_cons_succ, Bool.false_eq_true, reduceIte, zsw_c, zsw_n, Nat.reduceAdd, ix_25, zb_f, z00, hM.r6, g0, t1, eq_false c1]
          rfl
      · rw [hq] at back eh
        have e1 : heF N so a b (k + 1) = true := by rw [eh]; rfl
        refine Eq.trans ?_ (back 1 (by rw [e1]; rfl))
        conv =>
          lhs
          simp only [zi168_17, zi168_19, zi168_20, zi168_22, zi168_23, zi168_24, zi168_26, zi168_28, zi168_31, zi168_31n, zi168_32, zi168_35, zi168_37, zi168_38, zi168_39, zi168_42, zi168_42n, zi168_43, zi168_46, zi168_48, zi168_49, zi168_50, zi168_51, zi168_52, zi168_55, zi168_55n, zi168_56, zi168_59, zi168_61, zi168_62, zi168_63, zi168_64, zi168_65, zi168_66, zi168_67, zi168_70, zi168_70n, zi168_71, zi168_74, zi168_76, zi168_77, zi168_78, zi168_79, zi168_80, zi168_81, zi168_82, zi168_85, zi168_85n, zi168_86, zi168_89, zi168_91, zi168_92, zi168_93, zi168_94, zi168_95, zi168_98, zi168_99, zcl1, zlow_0, zlow_1, zlow_2, zlow_3, zlow_4, zfree_0, zfree_i, zfree_r, zfree_n, zfree_d, zfree_f, zfree_s, if_true, if_false, Option.bind_some, Option.toList_some, Option.toList_none, List.cons_append, List.nil_append, List.set_cons_zero, List.set_cons_succ, Bool.false_eq_true, reduceIte, zsw_c, zsw_n, Nat.reduceAdd, ix_25, zb_t, z10]
        rfl
  have l0 := loop (N 4) 0 (.retAddr 0) (by omega)
  rw [← l0]
  conv =>
    lhs
    simp only [ze168, zi168_0, zi168_1, zi168_3, zi168_4, zcl1, zlow_0, zlow_1, zlow_2, zlow_3, zlow_4, zfree_0, zfree_i, zfree_r, zfree_n, zfree_d, zfree_f, zfree_s, if_true, if_false, Option.bind_some, Option.toList_some, Option.toList_none, List.cons_append, List.nil_append, List.set_cons_zero, List.set_cons_succ, Bool.false_eq_true, reduceIte, zsw_c, zsw_n, Nat.reduceAdd]
  rfl
end MHD
