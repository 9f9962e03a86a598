section MS2
variable {E : zE} {h : zH} {s : Nat → Int32} {N : Nat → Nat}
theorem sp_isFreeM {d b : Nat} (hM : MdO h s) (hY : MY h N) (hW : WF N) (hd : d < 256) (hb : b < N 3) : zcall zpp E 184 [.ref 73, .int (nI d), .int (nI b)] h = some (some (.int (zb (freeN N d b))), h) := by
  have h8 : N 3 ≤ 8 := hW.2.2.2.1.2
  have hab : abF N b (N 4) < 256 := abF_lt (fun k hk => by have := (hW.2.2.2.2.2.2.2.2.1 k hk).2.1; omega)
  have hsel : zsel 11 [11, 183] = some 183 := rfl
  simp only [ze184, zi184_0, zi184_1, zi184_2, zi184_5, zi184_8, zi184_8n, zi184_9, zi184_10, zi184_13, zi184_14, zi184_15, zi184_18, zi184_19, zi184_22, zi184_23 (sk := []), zcl1, zlow_0, zlow_1, zlow_2, zlow_3, zlow_4, zfree_0, zfree_i, zfree_r, zfree_n, zfree_d, zfree_f, zfree_s, if_true, if_false, Option.bind_some, Option.toList_some, Option.toList_none, List.cons_append, List.nil_append, List.set_cons_zero, List.set_cons_succ, Bool.false_eq_true, reduceIte, zsw_c, zsw_n, Nat.reduceAdd, sp_hasM8 hd (show b < 8 by omega), hM.1, hsel, sp_above hM hY hW (show b < 8 by omega), zand_nI, zb_0, nI_z8 _ (zand_k _ hab d hd), z10, z01, z00, z11]
  unfold freeN
  cases d.testBit b
  · simp [zb]
  · by_cases hq : abF N b (N 4) &&& d = 0
    · simp [hq, zb]
    · simp [hq, zb]
theorem sp_catchesM {d b : Nat} (hM : MdO h s) (hY : MY h N) (hW : WF N) (hd : d < 256) (hb : b < N 3) : zcall zpp E 185 [.ref 73, .int (nI d), .int (nI b)] h = some (some (.int (nI (catN N d b))), h) := by
  have h4 := hW.2.2.2.2.1
  have h3 := hW.2.2.2.1.2
  have hh := hW.2.2.2.2.2.2.2.2.1
  have loop : ∀ (n k : Nat) (v5 v6 : Value), k + n = N 4 → zrun zpp E 185 (5, [.ref 73, .int (nI d), .int (nI b), .int (nI (ctF N d b k)), .int (nI k), v5, v6], [], h) = some (some (.int (nI (catN N d b))), h) := by
    intro n
    induction n with
    | zero =>
      intro k v5 v6 hk
      simp only [zi185_5, zi185_7, zi185_7n, zi185_8, zi185_11, zi185_12, zcl1, zlow_0, zlow_1, zlow_2, zlow_3, zlow_4, zfree_0, zfree_i, zfree_r, zfree_n, zfree_d, zfree_f, zfree_s, if_true, if_false, Option.bind_some, Option.toList_some, Option.toList_none, List.cons_append, List.nil_append, List.set_cons_zero, List.set_cons_succ, Bool.false_eq_true, reduceIte, zsw_c, zsw_n, Nat.reduceAdd, hM.r5, hY.c 4 (by decide) (x := 4) rfl]
      rw [zi185_13, if_pos (by rw [nI_leP (by omega) (by omega)]; omega)]
      simp only [zi185_132, zi185_133, zi185_134, zi185_137, zi185_140, zi185_141, zi185_144, zi185_145 (sk := []), zcl1, zlow_0, zlow_1, zlow_2, zlow_3, zlow_4, zfree_0, zfree_i, zfree_r, zfree_n, zfree_d, zfree_f, zfree_s, if_true, if_false, Option.bind_some, Option.toList_some, Option.toList_none, List.cons_append, List.nil_append, List.set_cons_zero, List.set_cons_succ, Bool.false_eq_true, reduceIte, zsw_c, zsw_n, Nat.reduceAdd, sp_hasM8 hd (show b < 8 by omega), zb_0]
      rw [show k = N 4 by omega]
      unfold catN
      cases d.testBit b <;> rfl
    | succ n ih =>
      intro k v5 v6 hk
      obtain ⟨q1, q2, q3, q4, q5⟩ := hh k (by omega)
      have a0 := hY.at (show 25 + 4 * k < 73 by omega) rfl
      have a1 := hY.at (show 25 + 4 * k + 1 < 73 by omega) (show 25 + 4 * k + 1 = 26 + 4 * k by omega)
      have a2 := hY.at (show 25 + 4 * k + 2 < 73 by omega) (show 25 + 4 * k + 2 = 27 + 4 * k by omega)
      have a3 := hY.at (show 25 + 4 * k + 3 < 73 by omega) (show 25 + 4 * k + 3 = 28 + 4 * k by omega)
      have e1 : (nI (N (25 + 4 * k)) = 1) = (N (25 + 4 * k) = 1) := nI_eqP (b := 1) (by omega) (by omega)
      simp only [zi185_5, zi185_7, zi185_7n, zi185_8, zi185_11, zi185_12, zcl1, zlow_0, zlow_1, zlow_2, zlow_3, zlow_4, zfree_0, zfree_i, zfree_r, zfree_n, zfree_d, zfree_f, zfree_s, if_true, if_false, Option.bind_some, Option.toList_some, Option.toList_none, List.cons_append, List.nil_append, List.set_cons_zero, List.set_cons_succ, Bool.false_eq_true, reduceIte, zsw_c, zsw_n, Nat.reduceAdd, hM.r5, hY.c 4 (by decide) (x := 4) rfl]
      rw [zi185_13, if_neg (by rw [nI_leP (by omega) (by omega)]; omega)]
      have ih1 := fun v5 v6 => ih (k + 1) v5 v6 (by omega)
      rw [show ctF N d b (k + 1) = ctF N d b k + (if N (25 + 4 * k) = 1 ∧ N (28 + 4 * k) = 0 ∧ ((N (26 + 4 * k) = b ∧ d.testBit (N (27 + 4 * k)) = true) ∨ (N (27 + 4 * k) = b ∧ d.testBit (N (26 + 4 * k)) = true)) then 1 else 0) from rfl] at ih1
      have z0 : ∀ x : Nat, nI x + 0 = nI x := fun x => nI_add x 0
      simp only [zi185_16, zi185_18, zi185_19, zi185_21, zi185_22, zi185_23, zi185_25, zi185_25n, zi185_26, zi185_29, zi185_31, zi185_32, zi185_33, zi185_36, zi185_36n, zi185_37, zi185_40, zi185_42, zi185_43, zi185_44, zi185_45, zi185_48, zi185_49, zi185_52, zi185_53, zi185_55, zi185_56, zi185_58, zi185_61, zi185_61n, zi185_62, zi185_65, zi185_67, zi185_68, zi185_69, zi185_70, zi185_71, zi185_74, zi185_75, zi185_75n, zi185_76, zi185_79, zi185_81, zi185_82, zi185_83, zi185_84, zi185_87, zi185_90, zi185_90n, zi185_91, zi185_94, zi185_96, zi185_97, zi185_98, zi185_99, zi185_100, zi185_103, zi185_104, zi185_104n, zi185_105, zi185_108, zi185_110, zi185_111, zi185_112, zi185_113, zi185_116, zi185_119, zi185_120, zi185_123, zi185_124, zi185_125, zi185_126, zi185_129, zcl1, zlow_0, zlow_1, zlow_2, zlow_3, zlow_4, zfree_0, zfree_i, zfree_r, zfree_n, zfree_d, zfree_f, zfree_s, if_true, if_false, Option.bind_some, Option.toList_some, Option.toList_none, List.cons_append, List.nil_append, List.set_cons_zero, List.set_cons_succ, Bool.false_eq_true, reduceIte, zsw_c, zsw_n, Nat.reduceAdd, hM.r5, ix_25, ix_p1, ix_p2, ix_p3, a0, a1, a2, a3, e1, nI_z8 _ (show N (28 + 4 * k) < 256 by omega), nI_eqP (show N (26 + 4 * k) < 2 ^ 31 by omega) (show b < 2 ^ 31 by omega), nI_eqP (show N (27 + 4 * k) < 2 ^ 31 by omega) (show b < 2 ^ 31 by omega), sp_hasM8 hd (show N (27 + 4 * k) < 8 by omega), sp_hasM8 hd (show N (26 + 4 * k) < 8 by omega), zb_0, z10, z00, z0]
      by_cases c1 : N (25 + 4 * k) = 1
      · by_cases c2 : N (28 + 4 * k) = 0
        · by_cases c3 : N (26 + 4 * k) = b
          · by_cases c4 : d.testBit (N (27 + 4 * k)) = true
            · rw [if_pos ⟨c1, c2, Or.inl ⟨c3, c4⟩⟩] at ih1
              simp only [c1, c2, c3, c4, if_true, Bool.true_eq_false, if_false]
              exact ih1 _ _
            · have c5 : ¬ N (27 + 4 * k) = b := fun z => q4 (c3.trans z.symm)
              rw [if_neg (by rintro ⟨-, -, ⟨-, z⟩ | ⟨z, -⟩⟩ <;> first | exact c4 z | exact c5 z)] at ih1
              have c4' : d.testBit (N (27 + 4 * k)) = false := by simpa using c4
              simp only [c1, c2, c3, c5, c4', if_true, if_false]
              exact ih1 _ _
          · by_cases c5 : N (27 + 4 * k) = b
            · by_cases c6 : d.testBit (N (26 + 4 * k)) = true
              · rw [if_pos ⟨c1, c2, Or.inr ⟨c5, c6⟩⟩] at ih1
                simp only [c1, c2, c3, c5, c6, if_true, Bool.true_eq_false, if_false]
                exact ih1 _ _
              · rw [if_neg (by rintro ⟨-, -, ⟨z, -⟩ | ⟨-, z⟩⟩ <;> first | exact c3 z | exact c6 z)] at ih1
                have c6' : d.testBit (N (26 + 4 * k)) = false := by simpa using c6
                simp only [c1, c2, c3, c5, c6', if_true, if_false]
                exact ih1 _ _
            · rw [if_neg (by rintro ⟨-, -, ⟨z, -⟩ | ⟨z, -⟩⟩ <;> first | exact c3 z | exact c5 z)] at ih1
              simp only [c1, c2, c3, c5, if_true, if_false]
              exact ih1 _ _
        · rw [if_neg (by rintro ⟨-, z, -⟩; exact c2 z)] at ih1
          simp only [c1, c2, if_true, if_false]
          exact ih1 _ _
      · rw [if_neg (by rintro ⟨z, -⟩; exact c1 z)] at ih1
        simp only [c1, if_true, if_false]
        exact ih1 _ _
  simp only [ze185, zi185_0, zi185_1, zi185_2, zi185_3, zcl1, zlow_0, zlow_1, zlow_2, zlow_3, zlow_4, zfree_0, zfree_i, zfree_r, zfree_n, zfree_d, zfree_f, zfree_s, if_true, if_false, Option.bind_some, Option.toList_some, Option.toList_none, List.cons_append, List.nil_append, List.set_cons_zero, List.set_cons_succ, Bool.false_eq_true, reduceIte, zsw_c, zsw_n, Nat.reduceAdd]
  exact loop (N 4) 0 _ _ (by omega)
theorem sp_can {kd fo d b : Nat} (hM : MdO h s) (hY : MY h N) (hW : WF N) (hd : d < 256) (hb : b < N 3) (hk : 1 ≤ kd ∧ kd ≤ 5) (hf : fo ≤ 40) : zcall zpp E 186 [.ref 73, .int (nI kd), .int (nI fo), .int (nI d), .int (nI b)] h = some (some (.int (zb (canN N kd fo d b))), h) := by
  have h8 : N 3 ≤ 8 := hW.2.2.2.1.2
  have hw := (hW.2.2.2.2.2.2.2.1 b hb).1.2
  have s1 : zsel 11 [11, 184] = some 184 := rfl
  have s2 : zsel 11 [11, 177] = some 177 := rfl
  have s3 : zsel 11 [11, 185] = some 185 := rfl
  have e3 : (nI kd = 3) = (kd = 3) := nI_eqP (b := 3) (by omega) (by omega)
  have e4 : (nI kd < 4) = (kd < 4) := nI_ltP (b := 4) (by omega) (by omega)
  have h2 : (2 : Int32) * nI fo = nI (2 * fo) := pk_mul 2 fo
  have hc := catN_le hW.2.2.2.2.1 (d := d) (b := b)
  simp only [ze186, zi186_0, zi186_0n, zi186_1, zi186_2, zi186_4, zi186_7, zi186_10, zi186_10n, zi186_11, zi186_13, zi186_16, zi186_17, zi186_18, zi186_21, zi186_22, zi186_23, zi186_24, zi186_27, zi186_28, zi186_31, zi186_32, zi186_33, zi186_36, zi186_36n, zi186_37, zi186_38, zi186_40, zi186_43, zi186_46, zi186_47, zi186_50, zi186_51 (sk := []), zcl1, zlow_0, zlow_1, zlow_2, zlow_3, zlow_4, zfree_0, zfree_i, zfree_r, zfree_n, zfree_d, zfree_f, zfree_s, if_true, if_false, Option.bind_some, Option.toList_some, Option.toList_none, List.cons_append, List.nil_append, List.set_cons_zero, List.set_cons_succ, Bool.false_eq_true, reduceIte, zsw_c, zsw_n, Nat.reduceAdd, hM.1, s1, s2, s3, sp_isFreeM hM hY hW hd hb, sp_weightOf hM hY (show b < 8 by omega), sp_catchesM hM hY hW hd hb, e3, e4, h2, nI_ltP (show 2 * fo < 2 ^ 31 by omega) (show N (9 + 2 * b) < 2 ^ 31 by omega), nI_ltP (show fo < 2 ^ 31 by omega) (show N (9 + 2 * b) < 2 ^ 31 by omega), nI_z8 _ (show catN N d b < 256 by omega), zb_0, z10, z00]
  unfold canN manN
  cases freeN N d b
  · simp [zb]
  · by_cases c3 : kd = 3
    · subst c3
      by_cases c1 : 2 * fo < N (9 + 2 * b)
      · simp [c1, zb]
      · simp [c1, zb]
    · by_cases c1 : fo < N (9 + 2 * b)
      · simp [c1, c3, zb, show ¬ N (9 + 2 * b) ≤ fo by omega]
      · by_cases c4 : kd < 4
        · simp [c1, c3, c4, zb]
        · by_cases c5 : catN N d b = 0
          · simp [c1, c3, c4, c5, zb]
          · simp [c1, c3, c4, c5, zb]
theorem sp_takesBy {kd d b : Nat} (hM : MdO h s) (hY : MY h N) (hW : WF N) (hd : d < 256) (hb : b < N 3) (hk : 1 ≤ kd ∧ kd ≤ 5) : zcall zpp E 187 [.ref 73, .int (nI kd), .int (nI d), .int (nI b)] h = some (some (.int (nI (secK N kd (N (9 + 2 * b)) (catN N d b)))), h) := by
  have h8 : N 3 ≤ 8 := hW.2.2.2.1.2
  have hw := (hW.2.2.2.2.2.2.2.1 b hb).1.2
  have s2 : zsel 11 [11, 177] = some 177 := rfl
  have s3 : zsel 11 [11, 185] = some 185 := rfl
  have hc := catN_le hW.2.2.2.2.1 (d := d) (b := b)
  have m3 : (3 : Int32) * nI (catN N d b) = nI (3 * catN N d b) := pk_mul 3 _
  have d2 : ∀ x : Nat, x < 2 ^ 31 → nI x / (2 : Int32) = nI (x / 2) := fun x hx => pk_div (d := 2) hx (by omega) (by omega)
  obtain rfl | rfl | rfl | rfl | rfl : kd = 1 ∨ kd = 2 ∨ kd = 3 ∨ kd = 4 ∨ kd = 5 := by omega
  · have t1 : (nI 1 = 1) = True := by decide
    simp only [ze187, zi187_0, zi187_0n, zi187_1, zi187_2, zi187_3, zi187_6, zi187_8, zi187_8n, zi187_9, zi187_10, zi187_13, zi187_15, zi187_16, zi187_48, zi187_50, zi187_51, zi187_53, zi187_54, zi187_55 (sk := []), zi187_56, zi187_58, zi187_58n, zi187_59, zi187_62, zi187_63, zi187_64, zi187_66, zi187_67, zi187_68 (sk := []), zi187_69, zi187_71, zi187_72, zi187_74, zi187_75, zi187_76, zi187_77, zi187_78 (sk := []), zi187_79, zi187_81, zi187_82, zi187_83 (sk := []), zi187_84, zi187_86, zi187_87, zi187_88, zi187_88n, zi187_89, zi187_92, zi187_93, zi187_94, zi187_95 (sk := []), zcl1, zlow_0, zlow_1, zlow_2, zlow_3, zlow_4, zfree_0, zfree_i, zfree_r, zfree_n, zfree_d, zfree_f, zfree_s, if_true, if_false, Option.bind_some, Option.toList_some, Option.toList_none, List.cons_append, List.nil_append, List.set_cons_zero, List.set_cons_succ, Bool.false_eq_true, reduceIte, zsw_c, zsw_n, Nat.reduceAdd, hM.1, s2, s3, sp_weightOf hM hY (show b < 8 by omega), sp_catchesM hM hY hW hd hb, ci_1, t1, m3, nI_add]
    rfl
  · have t1 : (nI 2 = 1) = False := by decide
    have t2 : (nI 2 = 2) = True := by decide
    simp only [ze187, zi187_0, zi187_0n, zi187_1, zi187_2, zi187_3, zi187_6, zi187_8, zi187_8n, zi187_9, zi187_10, zi187_13, zi187_15, zi187_16, zi187_48, zi187_50, zi187_51, zi187_53, zi187_54, zi187_55 (sk := []), zi187_56, zi187_58, zi187_58n, zi187_59, zi187_62, zi187_63, zi187_64, zi187_66, zi187_67, zi187_68 (sk := []), zi187_69, zi187_71, zi187_72, zi187_74, zi187_75, zi187_76, zi187_77, zi187_78 (sk := []), zi187_79, zi187_81, zi187_82, zi187_83 (sk := []), zi187_84, zi187_86, zi187_87, zi187_88, zi187_88n, zi187_89, zi187_92, zi187_93, zi187_94, zi187_95 (sk := []), zcl1, zlow_0, zlow_1, zlow_2, zlow_3, zlow_4, zfree_0, zfree_i, zfree_r, zfree_n, zfree_d, zfree_f, zfree_s, if_true, if_false, Option.bind_some, Option.toList_some, Option.toList_none, List.cons_append, List.nil_append, List.set_cons_zero, List.set_cons_succ, Bool.false_eq_true, reduceIte, zsw_c, zsw_n, Nat.reduceAdd, hM.1, s2, s3, sp_weightOf hM hY (show b < 8 by omega), sp_catchesM hM hY hW hd hb, ci_1, ci_2, t1, t2, hM.r5, hY.c 1 (by decide) (x := 1) rfl, pk_mul, nI_add]
    rfl
  · have t1 : (nI 3 = 1) = False := by decide
    have t2 : (nI 3 = 2) = False := by decide
    have t3 : (nI 3 = 3) = True := by decide
    simp only [ze187, zi187_0, zi187_0n, zi187_1, zi187_2, zi187_3, zi187_6, zi187_8, zi187_8n, zi187_9, zi187_10, zi187_13, zi187_15, zi187_16, zi187_48, zi187_50, zi187_51, zi187_53, zi187_54, zi187_55 (sk := []), zi187_56, zi187_58, zi187_58n, zi187_59, zi187_62, zi187_63, zi187_64, zi187_66, zi187_67, zi187_68 (sk := []), zi187_69, zi187_71, zi187_72, zi187_74, zi187_75, zi187_76, zi187_77, zi187_78 (sk := []), zi187_79, zi187_81, zi187_82, zi187_83 (sk := []), zi187_84, zi187_86, zi187_87, zi187_88, zi187_88n, zi187_89, zi187_92, zi187_93, zi187_94, zi187_95 (sk := []), zcl1, zlow_0, zlow_1, zlow_2, zlow_3, zlow_4, zfree_0, zfree_i, zfree_r, zfree_n, zfree_d, zfree_f, zfree_s, if_true, if_false, Option.bind_some, Option.toList_some, Option.toList_none, List.cons_append, List.nil_append, List.set_cons_zero, List.set_cons_succ, Bool.false_eq_true, reduceIte, zsw_c, zsw_n, Nat.reduceAdd, hM.1, s2, s3, sp_weightOf hM hY (show b < 8 by omega), sp_catchesM hM hY hW hd hb, ci_1, ci_2, ci_3, t1, t2, t3, m3, nI_add, z2_ne, d2 _ (show N (9 + 2 * b) + 3 * catN N d b < 2 ^ 31 by omega)]
    rfl
  · have t1 : (nI 4 = 1) = False := by decide
    have t2 : (nI 4 = 2) = False := by decide
    have t3 : (nI 4 = 3) = False := by decide
    have t4 : (nI 4 = 4) = True := by decide
    simp only [ze187, zi187_0, zi187_0n, zi187_1, zi187_2, zi187_3, zi187_6, zi187_8, zi187_8n, zi187_9, zi187_10, zi187_13, zi187_15, zi187_16, zi187_48, zi187_50, zi187_51, zi187_53, zi187_54, zi187_55 (sk := []), zi187_56, zi187_58, zi187_58n, zi187_59, zi187_62, zi187_63, zi187_64, zi187_66, zi187_67, zi187_68 (sk := []), zi187_69, zi187_71, zi187_72, zi187_74, zi187_75, zi187_76, zi187_77, zi187_78 (sk := []), zi187_79, zi187_81, zi187_82, zi187_83 (sk := []), zi187_84, zi187_86, zi187_87, zi187_88, zi187_88n, zi187_89, zi187_92, zi187_93, zi187_94, zi187_95 (sk := []), zcl1, zlow_0, zlow_1, zlow_2, zlow_3, zlow_4, zfree_0, zfree_i, zfree_r, zfree_n, zfree_d, zfree_f, zfree_s, if_true, if_false, Option.bind_some, Option.toList_some, Option.toList_none, List.cons_append, List.nil_append, List.set_cons_zero, List.set_cons_succ, Bool.false_eq_true, reduceIte, zsw_c, zsw_n, Nat.reduceAdd, hM.1, s2, s3, sp_weightOf hM hY (show b < 8 by omega), sp_catchesM hM hY hW hd hb, ci_1, ci_2, ci_3, ci_4, t1, t2, t3, t4, z2_ne, d2 _ (show N (9 + 2 * b) < 2 ^ 31 by omega)]
    rfl
  · have t1 : (nI 5 = 1) = False := by decide
    have t2 : (nI 5 = 2) = False := by decide
    have t3 : (nI 5 = 3) = False := by decide
    have t4 : (nI 5 = 4) = False := by decide
    simp only [ze187, zi187_0, zi187_0n, zi187_1, zi187_2, zi187_3, zi187_6, zi187_8, zi187_8n, zi187_9, zi187_10, zi187_13, zi187_15, zi187_16, zi187_48, zi187_50, zi187_51, zi187_53, zi187_54, zi187_55 (sk := []), zi187_56, zi187_58, zi187_58n, zi187_59, zi187_62, zi187_63, zi187_64, zi187_66, zi187_67, zi187_68 (sk := []), zi187_69, zi187_71, zi187_72, zi187_74, zi187_75, zi187_76, zi187_77, zi187_78 (sk := []), zi187_79, zi187_81, zi187_82, zi187_83 (sk := []), zi187_84, zi187_86, zi187_87, zi187_88, zi187_88n, zi187_89, zi187_92, zi187_93, zi187_94, zi187_95 (sk := []), zcl1, zlow_0, zlow_1, zlow_2, zlow_3, zlow_4, zfree_0, zfree_i, zfree_r, zfree_n, zfree_d, zfree_f, zfree_s, if_true, if_false, Option.bind_some, Option.toList_some, Option.toList_none, List.cons_append, List.nil_append, List.set_cons_zero, List.set_cons_succ, Bool.false_eq_true, reduceIte, zsw_c, zsw_n, Nat.reduceAdd, hM.1, s2, s3, sp_weightOf hM hY (show b < 8 by omega), sp_catchesM hM hY hW hd hb, ci_1, ci_2, ci_3, ci_4, t1, t2, t3, t4, z2_ne, d2 _ (show N (9 + 2 * b) < 2 ^ 31 by omega), hM.r5, hY.c 2 (by decide) (x := 2) rfl, nI_add]
    rfl
theorem sp_fallsBy {kd d b : Nat} (hM : MdO h s) (hY : MY h N) (hW : WF N) (hd : d < 256) (hb : b < N 3) (hk : 1 ≤ kd ∧ kd ≤ 5) : zcall zpp E 188 [.ref 73, .int (nI kd), .int (nI d), .int (nI b)] h = some (some (.int (nI (falK kd (catN N d b)))), h) := by
  have s3 : zsel 11 [11, 185] = some 185 := rfl
  have e1 : (nI kd = 1) = (kd = 1) := nI_eqP (b := 1) (by omega) (by omega)
  have e3 : (nI kd = 3) = (kd = 3) := nI_eqP (b := 3) (by omega) (by omega)
  simp only [ze188, zi188_0, zi188_1, zi188_2, zi188_5, zi188_6, zi188_7, zi188_10, zi188_10n, zi188_11, zi188_12, zi188_13, zi188_16, zi188_19, zi188_20 (sk := []), zcl1, zlow_0, zlow_1, zlow_2, zlow_3, zlow_4, zfree_0, zfree_i, zfree_r, zfree_n, zfree_d, zfree_f, zfree_s, if_true, if_false, Option.bind_some, Option.toList_some, Option.toList_none, List.cons_append, List.nil_append, List.set_cons_zero, List.set_cons_succ, Bool.false_eq_true, reduceIte, zsw_c, zsw_n, Nat.reduceAdd, hM.1, s3, sp_catchesM hM hY hW hd hb, e1, e3]
  unfold falK
  by_cases c1 : kd = 1
  · simp [c1]
  · by_cases c3 : kd = 3
    · simp [c3]
    · simp [c1, c3, nI]
theorem sp_bits {d : Nat} (hd : d < 256) : zcall zpp E 182 [.int (nI d)] h = some (some (.int (nI (zpc d))), h) := by
  have t : ∀ k, k < 8 → (nI k = nI k) := fun _ _ => rfl
  have b0 := zhas_k d hd 0 (by omega)
  have b1 := zhas_k d hd 1 (by omega)
  have b2 := zhas_k d hd 2 (by omega)
  have b3 := zhas_k d hd 3 (by omega)
  have b4 := zhas_k d hd 4 (by omega)
  have b5 := zhas_k d hd 5 (by omega)
  have b6 := zhas_k d hd 6 (by omega)
  have b7 := zhas_k d hd 7 (by omega)
  have step : ∀ (k : Nat) (x : Int32), k < 8 → zrun zpp E 182 (4, [.int (nI d), .int x, .int (nI k)], [], h) = zrun zpp E 182 (4, [.int (nI d), .int (x + zb (d.testBit k)), .int (nI (k + 1))], [], h) := by
    intro k x hk
    have hc : ¬ (8 : Int32) ≤ nI k := by rw [show (8 : Int32) = nI 8 from rfl, nI_leP (by omega) (by omega)]; omega
    conv => lhs; simp only [zi182_4, zi182_5, zcl1, zlow_0, zlow_1, zlow_2, zlow_3, zlow_4, zfree_0, zfree_i, zfree_r, zfree_n, zfree_d, zfree_f, zfree_s, if_true, if_false, Option.bind_some, Option.toList_some, Option.toList_none, List.cons_append, List.nil_append, List.set_cons_zero, List.set_cons_succ, Bool.false_eq_true, reduceIte, zsw_c, zsw_n, Nat.reduceAdd]
    rw [zi182_7, if_neg hc]
    simp only [zi182_10, zi182_11, zi182_12, zi182_13, zi182_14, zi182_15, zi182_16, zi182_17, zi182_18, zi182_21, zcl1, zlow_0, zlow_1, zlow_2, zlow_3, zlow_4, zfree_0, zfree_i, zfree_r, zfree_n, zfree_d, zfree_f, zfree_s, if_true, if_false, Option.bind_some, Option.toList_some, Option.toList_none, List.cons_append, List.nil_append, List.set_cons_zero, List.set_cons_succ, Bool.false_eq_true, reduceIte, zsw_c, zsw_n, Nat.reduceAdd, zhas_k d hd k hk, ix_p1]
  simp only [ze182, zi182_0, zi182_1, zi182_2, zi182_3, zcl1, zlow_0, zlow_1, zlow_2, zlow_3, zlow_4, zfree_0, zfree_i, zfree_r, zfree_n, zfree_d, zfree_f, zfree_s, if_true, if_false, Option.bind_some, Option.toList_some, Option.toList_none, List.cons_append, List.nil_append, List.set_cons_zero, List.set_cons_succ, Bool.false_eq_true, reduceIte, zsw_c, zsw_n, Nat.reduceAdd]
  rw [show (0 : Int32) = nI 0 from rfl, step 0 _ (by omega), step 1 _ (by omega), step 2 _ (by omega), step 3 _ (by omega), step 4 _ (by omega), step 5 _ (by omega), step 6 _ (by omega), step 7 _ (by omega)]
  simp only [zi182_4, zi182_5, zcl1, zlow_0, zlow_1, zlow_2, zlow_3, zlow_4, zfree_0, zfree_i, zfree_r, zfree_n, zfree_d, zfree_f, zfree_s, if_true, if_false, Option.bind_some, Option.toList_some, Option.toList_none, List.cons_append, List.nil_append, List.set_cons_zero, List.set_cons_succ, Bool.false_eq_true, reduceIte, zsw_c, zsw_n, Nat.reduceAdd]
  rw [zi182_7, if_pos (by decide)]
  simp only [zi182_24, zi182_25 (sk := []), zcl1, zlow_0, zlow_1, zlow_2, zlow_3, zlow_4, zfree_0, zfree_i, zfree_r, zfree_n, zfree_d, zfree_f, zfree_s, if_true, if_false, Option.bind_some, Option.toList_some, Option.toList_none, List.cons_append, List.nil_append, List.set_cons_zero, List.set_cons_succ, Bool.false_eq_true, reduceIte, zsw_c, zsw_n, Nat.reduceAdd]
  have zbn : ∀ c : Bool, zb c = nI (if c = true then 1 else 0) := by intro c; cases c <;> rfl
  simp only [zbn, nI_add, Nat.zero_add]
  rfl
end MS2
