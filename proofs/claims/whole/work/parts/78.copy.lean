/-! COPY OF BOTH; FEED -/
theorem zcpa_gen {h : zH} {p q i j n : Nat} {f g : Nat → Int32} (hp : zrow 0 h p 40 f) (hq : zrow 0 h q 40 g) (hi : i + n ≤ 40) (hj : j + n ≤ 40) : ∃ h', zcpa h p q (nI i) (nI j) (nI n) = some h' ∧ zrow 0 h' q 40 (fun t => if j ≤ t ∧ t < j + n then f (i + (t - j)) else g t) ∧ zsm (fun y => y = q) h h' := by
  obtain ⟨f0, p1, p2⟩ := hp
  obtain ⟨g0, q1, q2⟩ := hq
  refine ⟨h.set q (.inr (.inl (0, 40, va_cpy f0 g0 i j n))), ?_, ⟨_, List.getElem?_set_self (List.getElem?_eq_some_iff.mp q1).1, fun t ht => ?_⟩, ⟨by simp, zsl_set q1 (by simp [zsz])⟩, fun x hx => List.getElem?_set_ne (fun z => hx z.symm)⟩
  · unfold zcpa
    rw [p1, q1]
    simp only [nI_clamp (show n < 2 ^ 31 by omega), nI_clamp (show i < 2 ^ 31 by omega), nI_clamp (show j < 2 ^ 31 by omega)]
    rw [if_neg]
    intro hz
    rcases hz with hz | hz | hz | hz | hz
    · exact absurd hz (nI_pos (by omega))
    · exact absurd hz (nI_pos (by omega))
    · exact absurd hz (nI_pos (by omega))
    · omega
    · omega
  · show va_cpy f0 g0 i j n t = if j ≤ t ∧ t < j + n then f (i + (t - j)) else g t
    unfold va_cpy
    by_cases hc : j ≤ t ∧ t < j + n
    · rw [if_pos hc, if_pos hc]
      exact p2 _ (by omega)
    · rw [if_neg hc, if_neg hc]
      exact q2 t ht
section COPY
variable {E : zE} {h : zH} {n : Nat}
theorem cpL {sc lm mn im : Nat → Int32} {a b i j m : Nat} {up : Bool} (hb : b < 8) (ha : a < 8) (hi : i + m ≤ 40) (hj : j + m ≤ 40) (hup : up = decide (j ≤ i)) : ∀ (c k : Nat) (H : zH) (f : Nat → Int32) (v8 : Value), k + c = m → MdO H sc → ML H lm mn f → (∀ t, t < 320 → f t = if up = true then (if 40 * b + j ≤ t ∧ t < 40 * b + j + k then im (40 * a + i + (t - (40 * b + j))) else im t) else (if 40 * b + j + (m - k) ≤ t ∧ t < 40 * b + j + m then im (40 * a + i + (t - (40 * b + j))) else im t)) →
    ∃ H', zrun zpp E 154 (143, [.ref 73, .int (nI a), .int (nI i), .int (nI b), .int (nI j), .int (nI m), .int (zb up), .int (nI k), v8], [], H) = some (some (.int (nI m)), H') ∧ MdO H' sc ∧ ML H' lm mn (fun t => if 40 * b + j ≤ t ∧ t < 40 * b + j + m then im (40 * a + i + (t - (40 * b + j))) else im t) ∧ zsm (fun x => x = 76) H H' := by
  intro c
  induction c with
  | zero =>
    intro k H f v8 hk hM hL hf
    have ek : k = m := by omega
    subst ek
    refine ⟨H, ?_, hM, ⟨hL.1, hL.2.1, zrow_ext hL.2.2 (fun t ht => ?_)⟩, zsm.rf H⟩
    · simp only [zi154_143, zi154_145, zcl1, zlow_0, zlow_1, zlow_2, zlow_3, zlow_4, zfree_0, zfree_i, zfree_r, zfree_n, zfree_d, zfree_f, zfree_s, if_true, if_false, Option.bind_some, Option.toList_some, Option.toList_none, List.cons_append, List.nil_append, List.set_cons_zero, List.set_cons_succ, Bool.false_eq_true, reduceIte, zsw_c, zsw_n, Nat.reduceAdd]
      rw [zi154_147, if_pos (by rw [nI_leP (by omega) (by omega)]; omega)]
      simp only [zi154_204, zi154_206 (sk := []), zcl1, zlow_0, zlow_1, zlow_2, zlow_3, zlow_4, zfree_0, zfree_i, zfree_r, zfree_n, zfree_d, zfree_f, zfree_s, if_true, if_false, Option.bind_some, Option.toList_some, Option.toList_none, List.cons_append, List.nil_append, List.set_cons_zero, List.set_cons_succ, Bool.false_eq_true, reduceIte, zsw_c, zsw_n, Nat.reduceAdd]
    · rw [hf t ht]
      cases up
      · rw [if_neg (by decide), Nat.sub_self, Nat.add_zero]
      · rw [if_pos rfl]
  | succ c ih =>
    intro k H f v8 hk hM hL hf
    have hd : zrun zpp E 154 (143, [.ref 73, .int (nI a), .int (nI i), .int (nI b), .int (nI j), .int (nI m), .int (zb up), .int (nI k), v8], [], H) = zrun zpp E 154 (150, [.ref 73, .int (nI a), .int (nI i), .int (nI b), .int (nI j), .int (nI m), .int (zb up), .int (nI k), v8], [], H) := by
      conv =>
        lhs
        simp only [zi154_143, zi154_145, zcl1, zlow_0, zlow_1, zlow_2, zlow_3, zlow_4, zfree_0, zfree_i, zfree_r, zfree_n, zfree_d, zfree_f, zfree_s, if_true, if_false, Option.bind_some, Option.toList_some, Option.toList_none, List.cons_append, List.nil_append, List.set_cons_zero, List.set_cons_succ, Bool.false_eq_true, reduceIte, zsw_c, zsw_n, Nat.reduceAdd]
      rw [zi154_147, if_neg (by rw [nI_leP (by omega) (by omega)]; omega)]
    have step : ∀ at', at' < m → (up = true → at' = k) → (up = false → at' = m - 1 - k) → zrun zpp E 154 (150, [.ref 73, .int (nI a), .int (nI i), .int (nI b), .int (nI j), .int (nI m), .int (zb up), .int (nI k), v8], [], H) = zrun zpp E 154 (169, [.ref 73, .int (nI a), .int (nI i), .int (nI b), .int (nI j), .int (nI m), .int (zb up), .int (nI k), .int (nI at')], [], H) → ∃ H', zrun zpp E 154 (143, [.ref 73, .int (nI a), .int (nI i), .int (nI b), .int (nI j), .int (nI m), .int (zb up), .int (nI k), v8], [], H) = some (some (.int (nI m)), H') ∧ MdO H' sc ∧ ML H' lm mn (fun t => if 40 * b + j ≤ t ∧ t < 40 * b + j + m then im (40 * a + i + (t - (40 * b + j))) else im t) ∧ zsm (fun x => x = 76) H H' := by
      intro at' h1 h2 h3 e
      have g := zarr_at (j := 40 * a + i + at') hL.2.2 (by omega) (by omega)
      have ev : f (40 * a + i + at') = im (40 * a + i + at') := by
        rw [hf _ (by omega)]
        cases up
        · have q := h3 rfl
          have hij : i < j := by
            have := hup.symm
            rw [decide_eq_false_iff_not] at this
            omega
          rw [if_neg (by decide), if_neg]
          intro z
          by_cases hab : a = b
          · subst hab; omega
          · omega
        · have q := h2 rfl
          have hij : j ≤ i := of_decide_eq_true hup.symm
          rw [if_pos rfl, if_neg]
          intro z
          by_cases hab : a = b
          · subst hab; omega
          · omega
      rw [ev] at g
      have w := zars_at (j := 40 * b + j + at') (x := im (40 * a + i + at')) hL.2.2 (by omega) (by omega) zfits_i
      obtain ⟨H', e1, q1, q2, q3⟩ := ih (k + 1) (zpa H 76 (40 * b + j + at') (im (40 * a + i + at'))) (upd f (40 * b + j + at') (im (40 * a + i + at'))) (.int (nI at')) (by omega) hM.pa ⟨zrow_o (by omega) hL.1, zrow_o (by omega) hL.2.1, zrow_pa hL.2.2⟩ (fun t ht => by
        unfold upd
        by_cases hta : t = 40 * b + j + at'
        · subst hta
          rw [if_pos rfl, show 40 * b + j + at' - (40 * b + j) = at' by omega]
          cases up
          · have q := h3 rfl
            rw [if_neg (by decide), if_pos (by omega)]
          · have q := h2 rfl
            rw [if_pos rfl, if_pos (by omega)]
        · rw [if_neg hta, hf t ht]
          cases up
          · have q := h3 rfl
            simp only [Bool.false_eq_true, if_false]
            by_cases hc : 40 * b + j + (m - k) ≤ t ∧ t < 40 * b + j + m
            · rw [if_pos hc, if_pos (by omega)]
            · rw [if_neg hc, if_neg (by omega)]
          · have q := h2 rfl
            rw [if_pos rfl, if_pos rfl]
            by_cases hc : 40 * b + j ≤ t ∧ t < 40 * b + j + k
            · rw [if_pos hc, if_pos (by omega)]
            · rw [if_neg hc, if_neg (by omega)])
      refine ⟨H', ?_, q1, q2, zsm_pa.tr q3⟩
      rw [hd, e, ← e1]
      conv =>
        lhs
        simp only [zi154_169, zi154_169n, zi154_170, zi154_173, zi154_175, zi154_176, zi154_177, zi154_179, zi154_180, zi154_182, zi154_183, zi154_183n, zi154_184, zi154_187, zi154_189, zi154_190, zi154_191, zi154_192, zi154_193, zi154_195, zi154_196, zi154_197, zi154_198, zi154_201, zcl1, zlow_0, zlow_1, zlow_2, zlow_3, zlow_4, zfree_0, zfree_i, zfree_r, zfree_n, zfree_d, zfree_f, zfree_s, if_true, if_false, Option.bind_some, Option.toList_some, Option.toList_none, List.cons_append, List.nil_append, List.set_cons_zero, List.set_cons_succ, Bool.false_eq_true, reduceIte, zsw_c, zsw_n, Nat.reduceAdd, hM.r4, ix_40, nI_add, g, w, ix_p1]
    cases up
    · refine step (m - 1 - k) (by omega) (fun z => by cases z) (fun _ => rfl) ?_
      conv =>
        lhs
        simp only [zi154_150, zi154_152, zi154_155, zi154_157, zi154_160, zi154_162, zi154_163, zi154_164, zi154_166, zi154_167, zcl1, zlow_0, zlow_1, zlow_2, zlow_3, zlow_4, zfree_0, zfree_i, zfree_r, zfree_n, zfree_d, zfree_f, zfree_s, if_true, if_false, Option.bind_some, Option.toList_some, Option.toList_none, List.cons_append, List.nil_append, List.set_cons_zero, List.set_cons_succ, Bool.false_eq_true, reduceIte, zsw_c, zsw_n, Nat.reduceAdd, zb_f, z00, ix_m1 (show 1 ≤ m by omega), pk_sub (show k ≤ m - 1 by omega)]
      rfl
    · refine step k (by omega) (fun _ => rfl) (fun z => by cases z) ?_
      conv =>
        lhs
        simp only [zi154_150, zi154_152, zi154_155, zi154_157, zi154_160, zi154_162, zi154_163, zi154_164, zi154_166, zi154_167, zcl1, zlow_0, zlow_1, zlow_2, zlow_3, zlow_4, zfree_0, zfree_i, zfree_r, zfree_n, zfree_d, zfree_f, zfree_s, if_true, if_false, Option.bind_some, Option.toList_some, Option.toList_none, List.cons_append, List.nil_append, List.set_cons_zero, List.set_cons_succ, Bool.false_eq_true, reduceIte, zsw_c, zsw_n, Nat.reduceAdd, zb_t, z10]
      rfl
theorem ok_copy (hJ : J h n) {x k z w c : Int32} : OK E h n 92 154 [.int x, .int k, .int z, .int w, .int c] := by
  obtain ⟨y, s, v, sc, N, hJ, h1, hB⟩ := hJ
  obtain ⟨hA, th, ln, sz, it, lm, im, r1, r2, r3, r4, r5, r6⟩ := hJ.row
  have c1 : zsel 10 [10, 128] = some 128 := rfl
  have c2 : zsel 10 [10, 130] = some 130 := rfl
  have c3 : zsel 10 [10, 131] = some 131 := rfl
  have c4 : zsel 6 [6, 53] = some 53 := rfl
  have m1 : zsel 11 [11, 150] = some 150 := rfl
  have w0 := hJ.md.st 0 rfl (by omega) 0
  rcases zlt_or x (n := 8) (by omega) with hx | ⟨a, ha, rfl⟩
  · rcases zlt_or z (n := 8) (by omega) with hz | ⟨b, hb, rfl⟩
    · refine ⟨(-1000001), h, _, ?_, ?_, hJ.q h1 hB⟩
      · simp only [ze92, zi92_0, zi92_0n, zi92_1, zi92_2, zi92_5, zi92_5n, zi92_7, zi92_7n, zi92_8, zi92_9, zi92_12, zi92_12n, zi92_14, zi92_14n, zi92_16, zi92_16n, zi92_19, zi92_19n, zi92_21, zi92_21n, zi92_24, zi92_26 (sk := []), zi92_27, zi92_27n, zi92_29, zi92_32, zi92_35, zi92_35n, zi92_37, zi92_40, zi92_43, zi92_43n, zi92_44, zi92_45, zi92_48 (sk := []), zi92_49, zi92_49n, zi92_51, zi92_54, zi92_54n, zi92_56, zi92_59, zi92_62, zi92_62n, zi92_63, zi92_64, zi92_67 (sk := []), zi92_68, zi92_68n, zi92_70, zi92_71, zi92_73, zi92_76, zi92_79, zi92_79n, zi92_81, zi92_83, zi92_85, zi92_88, zi92_91, zi92_91n, zi92_92, zi92_93, zi92_96 (sk := []), zi92_97, zi92_97n, zi92_99, zi92_102, zi92_103, zi92_103n, zi92_105, zi92_108, zi92_110, zi92_112 (sk := []), zi92_115, zi92_115n, zi92_116, zi92_118, zi92_121 (sk := []), zcl1, zlow_0, zlow_1, zlow_2, zlow_3, zlow_4, zfree_0, zfree_i, zfree_r, zfree_n, zfree_d, zfree_f, zfree_s, if_true, if_false, Option.bind_some, Option.toList_some, Option.toList_none, List.cons_append, List.nil_append, List.set_cons_zero, List.set_cons_succ, Bool.false_eq_true, reduceIte, zsw_c, zsw_n, Nat.reduceAdd, hJ.co.1, c1, sp_rowAtNo hx, sp_rowAtNo hz]
      · simp only [ze154, zi154_0, zi154_0n, zi154_1, zi154_2, zi154_5, zi154_6, zi154_9, zi154_12, zi154_13, zi154_16, zi154_19, zi154_21 (sk := []), zcl1, zlow_0, zlow_1, zlow_2, zlow_3, zlow_4, zfree_0, zfree_i, zfree_r, zfree_n, zfree_d, zfree_f, zfree_s, if_true, if_false, Option.bind_some, Option.toList_some, Option.toList_none, List.cons_append, List.nil_append, List.set_cons_zero, List.set_cons_succ, Bool.false_eq_true, reduceIte, zsw_c, zsw_n, Nat.reduceAdd, w0, sp_isRow, hx, zb_f, z00]
    · refine ⟨(-1000001), h, _, ?_, ?_, hJ.q h1 hB⟩
      · simp only [ze92, zi92_0, zi92_0n, zi92_1, zi92_2, zi92_5, zi92_5n, zi92_7, zi92_7n, zi92_8, zi92_9, zi92_12, zi92_12n, zi92_14, zi92_14n, zi92_16, zi92_16n, zi92_19, zi92_19n, zi92_21, zi92_21n, zi92_24, zi92_26 (sk := []), zi92_27, zi92_27n, zi92_29, zi92_32, zi92_35, zi92_35n, zi92_37, zi92_40, zi92_43, zi92_43n, zi92_44, zi92_45, zi92_48 (sk := []), zi92_49, zi92_49n, zi92_51, zi92_54, zi92_54n, zi92_56, zi92_59, zi92_62, zi92_62n, zi92_63, zi92_64, zi92_67 (sk := []), zi92_68, zi92_68n, zi92_70, zi92_71, zi92_73, zi92_76, zi92_79, zi92_79n, zi92_81, zi92_83, zi92_85, zi92_88, zi92_91, zi92_91n, zi92_92, zi92_93, zi92_96 (sk := []), zi92_97, zi92_97n, zi92_99, zi92_102, zi92_103, zi92_103n, zi92_105, zi92_108, zi92_110, zi92_112 (sk := []), zi92_115, zi92_115n, zi92_116, zi92_118, zi92_121 (sk := []), zcl1, zlow_0, zlow_1, zlow_2, zlow_3, zlow_4, zfree_0, zfree_i, zfree_r, zfree_n, zfree_d, zfree_f, zfree_s, if_true, if_false, Option.bind_some, Option.toList_some, Option.toList_none, List.cons_append, List.nil_append, List.set_cons_zero, List.set_cons_succ, Bool.false_eq_true, reduceIte, zsw_c, zsw_n, Nat.reduceAdd, hJ.co.1, c1, sp_rowAtNo hx, sp_rowAt hJ.co hA hb]
      · simp only [ze154, zi154_0, zi154_0n, zi154_1, zi154_2, zi154_5, zi154_6, zi154_9, zi154_12, zi154_13, zi154_16, zi154_19, zi154_21 (sk := []), zcl1, zlow_0, zlow_1, zlow_2, zlow_3, zlow_4, zfree_0, zfree_i, zfree_r, zfree_n, zfree_d, zfree_f, zfree_s, if_true, if_false, Option.bind_some, Option.toList_some, Option.toList_none, List.cons_append, List.nil_append, List.set_cons_zero, List.set_cons_succ, Bool.false_eq_true, reduceIte, zsw_c, zsw_n, Nat.reduceAdd, w0, sp_isRow, hx, zb_f, z00]
  have ha8 : zlt (nI a) 8 = true := by rw [zlt_nI (by omega) (by omega)]; simp [ha]
  rcases zlt_or z (n := 8) (by omega) with hz | ⟨b, hb, rfl⟩
  · refine ⟨(-1000001), h, _, ?_, ?_, hJ.q h1 hB⟩
    · simp only [ze92, zi92_0, zi92_0n, zi92_1, zi92_2, zi92_5, zi92_5n, zi92_7, zi92_7n, zi92_8, zi92_9, zi92_12, zi92_12n, zi92_14, zi92_14n, zi92_16, zi92_16n, zi92_19, zi92_19n, zi92_21, zi92_21n, zi92_24, zi92_26 (sk := []), zi92_27, zi92_27n, zi92_29, zi92_32, zi92_35, zi92_35n, zi92_37, zi92_40, zi92_43, zi92_43n, zi92_44, zi92_45, zi92_48 (sk := []), zi92_49, zi92_49n, zi92_51, zi92_54, zi92_54n, zi92_56, zi92_59, zi92_62, zi92_62n, zi92_63, zi92_64, zi92_67 (sk := []), zi92_68, zi92_68n, zi92_70, zi92_71, zi92_73, zi92_76, zi92_79, zi92_79n, zi92_81, zi92_83, zi92_85, zi92_88, zi92_91, zi92_91n, zi92_92, zi92_93, zi92_96 (sk := []), zi92_97, zi92_97n, zi92_99, zi92_102, zi92_103, zi92_103n, zi92_105, zi92_108, zi92_110, zi92_112 (sk := []), zi92_115, zi92_115n, zi92_116, zi92_118, zi92_121 (sk := []), zcl1, zlow_0, zlow_1, zlow_2, zlow_3, zlow_4, zfree_0, zfree_i, zfree_r, zfree_n, zfree_d, zfree_f, zfree_s, if_true, if_false, Option.bind_some, Option.toList_some, Option.toList_none, List.cons_append, List.nil_append, List.set_cons_zero, List.set_cons_succ, Bool.false_eq_true, reduceIte, zsw_c, zsw_n, Nat.reduceAdd, hJ.co.1, c1, sp_rowAt hJ.co hA ha, sp_rowAtNo hz]
    · simp only [ze154, zi154_0, zi154_0n, zi154_1, zi154_2, zi154_5, zi154_6, zi154_9, zi154_12, zi154_13, zi154_16, zi154_19, zi154_21 (sk := []), zcl1, zlow_0, zlow_1, zlow_2, zlow_3, zlow_4, zfree_0, zfree_i, zfree_r, zfree_n, zfree_d, zfree_f, zfree_s, if_true, if_false, Option.bind_some, Option.toList_some, Option.toList_none, List.cons_append, List.nil_append, List.set_cons_zero, List.set_cons_succ, Bool.false_eq_true, reduceIte, zsw_c, zsw_n, Nat.reduceAdd, w0, sp_isRow, ha8, zb_t, z10, hz, zb_f, z00]
  have hb8 : zlt (nI b) 8 = true := by rw [zlt_nI (by omega) (by omega)]; simp [hb]
  have Ra := r1 a ha
  have Rb := r1 b hb
  have la := r3 a ha
  have lb := r3 b hb
  have sa := r6 a ha
  have sb := r6 b hb
  -- a finding q of both
  have fnd : ∀ q : Int32, zcall zpp E 92 [.ref 0, .int (nI a), .int k, .int (nI b), .int w, .int c] h = some (some (.int (-1000010 - q)), zpf h 0 9 (.int q)) → (∀ (H : zH) (sc2 : Nat → Int32), MdO H sc2 → ML H lm (fun i => nI (sz i)) im → zrun zpp E 154 (27, [.ref 73, .int (nI a), .int k, .int (nI b), .int w, .int c, .retAddr 0, .retAddr 0, .retAddr 0], [], H) = some (some (.int (-1000010 - q)), zpf H 73 1 (.int q))) → OK E h n 92 154 [.int (nI a), .int k, .int (nI b), .int w, .int c] := by
    intro q e1 e2
    have C1 := hJ.c9 q
    have w0' := C1.md.st 0 rfl (by omega) 0
    have M1 := C1.md.put 0 rfl (by omega) 0
    have w1 := M1.st 1 rfl (by omega) 0
    have M2 := M1.put 1 rfl (by omega) 0
    refine ⟨_, _, _, e1, ?_, hJ.f2 hB q⟩
    rw [← e2 _ _ M2 r2.pf.pf.pf]
    conv =>
      lhs
      simp only [ze154, zi154_0, zi154_0n, zi154_1, zi154_2, zi154_5, zi154_6, zi154_9, zi154_12, zi154_13, zi154_16, zi154_19, zi154_21 (sk := []), zi154_22, zi154_22n, zi154_23, zi154_24, zcl1, zlow_0, zlow_1, zlow_2, zlow_3, zlow_4, zfree_0, zfree_i, zfree_r, zfree_n, zfree_d, zfree_f, zfree_s, if_true, if_false, Option.bind_some, Option.toList_some, Option.toList_none, List.cons_append, List.nil_append, List.set_cons_zero, List.set_cons_succ, Bool.false_eq_true, reduceIte, zsw_c, zsw_n, Nat.reduceAdd, w0', sp_isRow, ha8, hb8, zb_t, z10, w1]
  cases hta : th a
  · rw [hta] at Ra la
    rw [if_neg (by decide)] at la
    have R1 : zfld [6] h (34 + 2 * a) 1 = some (.int 0) := Ra.2.2.1
    refine fnd 1 ?_ (fun H sc2 M2 L2 => ?_)
    · simp only [ze92, zi92_0, zi92_0n, zi92_1, zi92_2, zi92_5, zi92_5n, zi92_7, zi92_7n, zi92_8, zi92_9, zi92_12, zi92_12n, zi92_14, zi92_14n, zi92_16, zi92_16n, zi92_19, zi92_19n, zi92_21, zi92_21n, zi92_24, zi92_26 (sk := []), zi92_27, zi92_27n, zi92_29, zi92_32, zi92_35, zi92_35n, zi92_37, zi92_40, zi92_43, zi92_43n, zi92_44, zi92_45, zi92_48 (sk := []), zi92_49, zi92_49n, zi92_51, zi92_54, zi92_54n, zi92_56, zi92_59, zi92_62, zi92_62n, zi92_63, zi92_64, zi92_67 (sk := []), zi92_68, zi92_68n, zi92_70, zi92_71, zi92_73, zi92_76, zi92_79, zi92_79n, zi92_81, zi92_83, zi92_85, zi92_88, zi92_91, zi92_91n, zi92_92, zi92_93, zi92_96 (sk := []), zi92_97, zi92_97n, zi92_99, zi92_102, zi92_103, zi92_103n, zi92_105, zi92_108, zi92_110, zi92_112 (sk := []), zi92_115, zi92_115n, zi92_116, zi92_118, zi92_121 (sk := []), zcl1, zlow_0, zlow_1, zlow_2, zlow_3, zlow_4, zfree_0, zfree_i, zfree_r, zfree_n, zfree_d, zfree_f, zfree_s, if_true, if_false, Option.bind_some, Option.toList_some, Option.toList_none, List.cons_append, List.nil_append, List.set_cons_zero, List.set_cons_succ, Bool.false_eq_true, reduceIte, zsw_c, zsw_n, Nat.reduceAdd, hJ.co.1, c1, sp_rowAt hJ.co hA ha, sp_rowAt hJ.co hA hb, R1, z00, c2, sp_found hJ.co]
    · have g := zarr_at L2.1 ha (by omega)
      rw [la] at g
      simp only [zi154_27, zi154_27n, zi154_28, zi154_31, zi154_32, zi154_33, zi154_36, zi154_36n, zi154_37, zi154_40, zi154_41, zi154_42, zi154_45, zi154_45n, zi154_46, zi154_47, zi154_50 (sk := []), zcl1, zlow_0, zlow_1, zlow_2, zlow_3, zlow_4, zfree_0, zfree_i, zfree_r, zfree_n, zfree_d, zfree_f, zfree_s, if_true, if_false, Option.bind_some, Option.toList_some, Option.toList_none, List.cons_append, List.nil_append, List.set_cons_zero, List.set_cons_succ, Bool.false_eq_true, reduceIte, zsw_c, zsw_n, Nat.reduceAdd, M2.r2, g, show ((-1 : Int32) < 0) = True by decide, M2.1, m1, sp_finding M2]
  rw [hta] at Ra la
  rw [if_pos rfl] at la
  have R1 : zfld [6] h (34 + 2 * a) 1 = some (.int 1) := Ra.2.2.1
  cases htb : th b
  · rw [htb] at Rb lb
    rw [if_neg (by decide)] at lb
    have R2 : zfld [6] h (34 + 2 * b) 1 = some (.int 0) := Rb.2.2.1
    refine fnd 1 ?_ (fun H sc2 M2 L2 => ?_)
    · simp only [ze92, zi92_0, zi92_0n, zi92_1, zi92_2, zi92_5, zi92_5n, zi92_7, zi92_7n, zi92_8, zi92_9, zi92_12, zi92_12n, zi92_14, zi92_14n, zi92_16, zi92_16n, zi92_19, zi92_19n, zi92_21, zi92_21n, zi92_24, zi92_26 (sk := []), zi92_27, zi92_27n, zi92_29, zi92_32, zi92_35, zi92_35n, zi92_37, zi92_40, zi92_43, zi92_43n, zi92_44, zi92_45, zi92_48 (sk := []), zi92_49, zi92_49n, zi92_51, zi92_54, zi92_54n, zi92_56, zi92_59, zi92_62, zi92_62n, zi92_63, zi92_64, zi92_67 (sk := []), zi92_68, zi92_68n, zi92_70, zi92_71, zi92_73, zi92_76, zi92_79, zi92_79n, zi92_81, zi92_83, zi92_85, zi92_88, zi92_91, zi92_91n, zi92_92, zi92_93, zi92_96 (sk := []), zi92_97, zi92_97n, zi92_99, zi92_102, zi92_103, zi92_103n, zi92_105, zi92_108, zi92_110, zi92_112 (sk := []), zi92_115, zi92_115n, zi92_116, zi92_118, zi92_121 (sk := []), zcl1, zlow_0, zlow_1, zlow_2, zlow_3, zlow_4, zfree_0, zfree_i, zfree_r, zfree_n, zfree_d, zfree_f, zfree_s, if_true, if_false, Option.bind_some, Option.toList_some, Option.toList_none, List.cons_append, List.nil_append, List.set_cons_zero, List.set_cons_succ, Bool.false_eq_true, reduceIte, zsw_c, zsw_n, Nat.reduceAdd, hJ.co.1, c1, sp_rowAt hJ.co hA ha, sp_rowAt hJ.co hA hb, R1, z10, R2, z00, c2, sp_found hJ.co]
    · have g := zarr_at L2.1 ha (by omega)
      rw [la] at g
      have g2 := zarr_at L2.1 hb (by omega)
      rw [lb] at g2
      simp only [zi154_27, zi154_27n, zi154_28, zi154_31, zi154_32, zi154_33, zi154_36, zi154_36n, zi154_37, zi154_40, zi154_41, zi154_42, zi154_45, zi154_45n, zi154_46, zi154_47, zi154_50 (sk := []), zcl1, zlow_0, zlow_1, zlow_2, zlow_3, zlow_4, zfree_0, zfree_i, zfree_r, zfree_n, zfree_d, zfree_f, zfree_s, if_true, if_false, Option.bind_some, Option.toList_some, Option.toList_none, List.cons_append, List.nil_append, List.set_cons_zero, List.set_cons_succ, Bool.false_eq_true, reduceIte, zsw_c, zsw_n, Nat.reduceAdd, M2.r2, g, g2, zpos_012 (r5 a ha), show ((0 : Int32) ≤ -1) = False by decide, M2.1, m1, sp_finding M2]
  rw [htb] at Rb lb
  rw [if_pos rfl] at lb
  have R2 : zfld [6] h (34 + 2 * b) 1 = some (.int 1) := Rb.2.2.1
  by_cases hl : ¬ ln a = ln b
  · refine fnd 5 ?_ (fun H sc2 M2 L2 => ?_)
    · simp only [ze92, zi92_0, zi92_0n, zi92_1, zi92_2, zi92_5, zi92_5n, zi92_7, zi92_7n, zi92_8, zi92_9, zi92_12, zi92_12n, zi92_14, zi92_14n, zi92_16, zi92_16n, zi92_19, zi92_19n, zi92_21, zi92_21n, zi92_24, zi92_26 (sk := []), zi92_27, zi92_27n, zi92_29, zi92_32, zi92_35, zi92_35n, zi92_37, zi92_40, zi92_43, zi92_43n, zi92_44, zi92_45, zi92_48 (sk := []), zi92_49, zi92_49n, zi92_51, zi92_54, zi92_54n, zi92_56, zi92_59, zi92_62, zi92_62n, zi92_63, zi92_64, zi92_67 (sk := []), zi92_68, zi92_68n, zi92_70, zi92_71, zi92_73, zi92_76, zi92_79, zi92_79n, zi92_81, zi92_83, zi92_85, zi92_88, zi92_91, zi92_91n, zi92_92, zi92_93, zi92_96 (sk := []), zi92_97, zi92_97n, zi92_99, zi92_102, zi92_103, zi92_103n, zi92_105, zi92_108, zi92_110, zi92_112 (sk := []), zi92_115, zi92_115n, zi92_116, zi92_118, zi92_121 (sk := []), zcl1, zlow_0, zlow_1, zlow_2, zlow_3, zlow_4, zfree_0, zfree_i, zfree_r, zfree_n, zfree_d, zfree_f, zfree_s, if_true, if_false, Option.bind_some, Option.toList_some, Option.toList_none, List.cons_append, List.nil_append, List.set_cons_zero, List.set_cons_succ, Bool.false_eq_true, reduceIte, zsw_c, zsw_n, Nat.reduceAdd, hJ.co.1, c1, sp_rowAt hJ.co hA ha, sp_rowAt hJ.co hA hb, R1, z10, R2, Ra.2.2.2.1, Rb.2.2.2.1, eq_false hl, c2, sp_found hJ.co]
    · have g := zarr_at L2.1 ha (by omega)
      rw [la] at g
      have g2 := zarr_at L2.1 hb (by omega)
      rw [lb] at g2
      simp only [zi154_27, zi154_27n, zi154_28, zi154_31, zi154_32, zi154_33, zi154_36, zi154_36n, zi154_37, zi154_40, zi154_41, zi154_42, zi154_45, zi154_45n, zi154_46, zi154_47, zi154_50 (sk := []), zi154_51, zi154_51n, zi154_52, zi154_55, zi154_56, zi154_57, zi154_57n, zi154_58, zi154_61, zi154_62, zi154_63, zi154_66, zi154_66n, zi154_67, zi154_68, zi154_71 (sk := []), zcl1, zlow_0, zlow_1, zlow_2, zlow_3, zlow_4, zfree_0, zfree_i, zfree_r, zfree_n, zfree_d, zfree_f, zfree_s, if_true, if_false, Option.bind_some, Option.toList_some, Option.toList_none, List.cons_append, List.nil_append, List.set_cons_zero, List.set_cons_succ, Bool.false_eq_true, reduceIte, zsw_c, zsw_n, Nat.reduceAdd, M2.r2, g, g2, zpos_012 (r5 a ha), zpos_012 (r5 b hb), eq_false hl, M2.1, m1, sp_finding M2]
  have hl : ln a = ln b := Classical.not_not.mp hl
  have l1 : ∀ {x y : Int32}, (x < y) = ¬ y ≤ x := fun {x y} => propext Int32.not_le.symm
  have sps := fun i n => sp_spans (E := E) (i := i) (n := n) Ra
  have spt := fun i n => sp_spans (E := E) (i := i) (n := n) Rb
  have pre : ∀ (H : zH) (sc2 : Nat → Int32), MdO H sc2 → ML H lm (fun i => nI (sz i)) im → zrun zpp E 154 (27, [.ref 73, .int (nI a), .int k, .int (nI b), .int w, .int c, .retAddr 0, .retAddr 0, .retAddr 0], [], H) = zrun zpp E 154 (72, [.ref 73, .int (nI a), .int k, .int (nI b), .int w, .int c, .retAddr 0, .retAddr 0, .retAddr 0], [], H) := by
    intro H sc2 M2 L2
    have g := zarr_at L2.1 ha (by omega)
    rw [la] at g
    have g2 := zarr_at L2.1 hb (by omega)
    rw [lb] at g2
    conv =>
      lhs
      simp only [zi154_27, zi154_27n, zi154_28, zi154_31, zi154_32, zi154_33, zi154_36, zi154_36n, zi154_37, zi154_40, zi154_41, zi154_42, zi154_45, zi154_45n, zi154_46, zi154_47, zi154_50 (sk := []), zi154_51, zi154_51n, zi154_52, zi154_55, zi154_56, zi154_57, zi154_57n, zi154_58, zi154_61, zi154_62, zi154_63, zcl1, zlow_0, zlow_1, zlow_2, zlow_3, zlow_4, zfree_0, zfree_i, zfree_r, zfree_n, zfree_d, zfree_f, zfree_s, if_true, if_false, Option.bind_some, Option.toList_some, Option.toList_none, List.cons_append, List.nil_append, List.set_cons_zero, List.set_cons_succ, Bool.false_eq_true, reduceIte, zsw_c, zsw_n, Nat.reduceAdd, M2.r2, g, g2, zpos_012 (r5 a ha), zpos_012 (r5 b hb), eq_true hl]
  cases hs : (spB (sz a) k c && spB (sz b) w c)
  · refine fnd 2 ?_ (fun H sc2 M2 L2 => ?_)
    · simp only [ze92, zi92_0, zi92_0n, zi92_1, zi92_2, zi92_5, zi92_5n, zi92_7, zi92_7n, zi92_8, zi92_9, zi92_12, zi92_12n, zi92_14, zi92_14n, zi92_16, zi92_16n, zi92_19, zi92_19n, zi92_21, zi92_21n, zi92_24, zi92_26 (sk := []), zi92_27, zi92_27n, zi92_29, zi92_32, zi92_35, zi92_35n, zi92_37, zi92_40, zi92_43, zi92_43n, zi92_44, zi92_45, zi92_48 (sk := []), zi92_49, zi92_49n, zi92_51, zi92_54, zi92_54n, zi92_56, zi92_59, zi92_62, zi92_62n, zi92_63, zi92_64, zi92_67 (sk := []), zi92_68, zi92_68n, zi92_70, zi92_71, zi92_73, zi92_76, zi92_79, zi92_79n, zi92_81, zi92_83, zi92_85, zi92_88, zi92_91, zi92_91n, zi92_92, zi92_93, zi92_96 (sk := []), zi92_97, zi92_97n, zi92_99, zi92_102, zi92_103, zi92_103n, zi92_105, zi92_108, zi92_110, zi92_112 (sk := []), zi92_115, zi92_115n, zi92_116, zi92_118, zi92_121 (sk := []), zcl1, zlow_0, zlow_1, zlow_2, zlow_3, zlow_4, zfree_0, zfree_i, zfree_r, zfree_n, zfree_d, zfree_f, zfree_s, if_true, if_false, Option.bind_some, Option.toList_some, Option.toList_none, List.cons_append, List.nil_append, List.set_cons_zero, List.set_cons_succ, Bool.false_eq_true, reduceIte, zsw_c, zsw_n, Nat.reduceAdd, hJ.co.1, c1, sp_rowAt hJ.co hA ha, sp_rowAt hJ.co hA hb, R1, z10, R2, Ra.2.2.2.1, Rb.2.2.2.1, eq_true hl, Ra.1, Rb.1, c4, sps, spt, c2, sp_found hJ.co]
      cases hs1 : spB (sz a) k c
      · simp only [zb_f, z00, if_true]
      · rw [hs1, Bool.true_and] at hs
        rw [hs]
        simp only [zb_f, zb_t, z10, z00, if_true, if_false]
    · have g := zarr_at L2.2.1 ha (by omega)
      have g2 := zarr_at L2.2.1 hb (by omega)
      rw [pre H sc2 M2 L2]
      by_cases k0 : k < 0
      · simp only [zi154_72, zi154_73, zi154_76, zi154_78, zi154_81, zi154_83, zi154_86, zi154_87, zi154_88, zi154_90, zi154_91, zi154_92, zi154_92n, zi154_93, zi154_96, zi154_97, zi154_98, zi154_99, zi154_100, zi154_103, zi154_105, zi154_106, zi154_108, zi154_109, zi154_110, zi154_110n, zi154_111, zi154_114, zi154_115, zi154_116, zi154_117, zi154_118, zi154_121, zi154_121n, zi154_122, zi154_123, zi154_126 (sk := []), zcl1, zlow_0, zlow_1, zlow_2, zlow_3, zlow_4, zfree_0, zfree_i, zfree_r, zfree_n, zfree_d, zfree_f, zfree_s, if_true, if_false, Option.bind_some, Option.toList_some, Option.toList_none, List.cons_append, List.nil_append, List.set_cons_zero, List.set_cons_succ, Bool.false_eq_true, reduceIte, zsw_c, zsw_n, Nat.reduceAdd, eq_true k0, M2.1, m1, sp_finding M2]
      by_cases w0' : w < 0
      · simp only [zi154_72, zi154_73, zi154_76, zi154_78, zi154_81, zi154_83, zi154_86, zi154_87, zi154_88, zi154_90, zi154_91, zi154_92, zi154_92n, zi154_93, zi154_96, zi154_97, zi154_98, zi154_99, zi154_100, zi154_103, zi154_105, zi154_106, zi154_108, zi154_109, zi154_110, zi154_110n, zi154_111, zi154_114, zi154_115, zi154_116, zi154_117, zi154_118, zi154_121, zi154_121n, zi154_122, zi154_123, zi154_126 (sk := []), zcl1, zlow_0, zlow_1, zlow_2, zlow_3, zlow_4, zfree_0, zfree_i, zfree_r, zfree_n, zfree_d, zfree_f, zfree_s, if_true, if_false, Option.bind_some, Option.toList_some, Option.toList_none, List.cons_append, List.nil_append, List.set_cons_zero, List.set_cons_succ, Bool.false_eq_true, reduceIte, zsw_c, zsw_n, Nat.reduceAdd, eq_false k0, eq_true w0', M2.1, m1, sp_finding M2]
      by_cases c0 : c < 0
      · simp only [zi154_72, zi154_73, zi154_76, zi154_78, zi154_81, zi154_83, zi154_86, zi154_87, zi154_88, zi154_90, zi154_91, zi154_92, zi154_92n, zi154_93, zi154_96, zi154_97, zi154_98, zi154_99, zi154_100, zi154_103, zi154_105, zi154_106, zi154_108, zi154_109, zi154_110, zi154_110n, zi154_111, zi154_114, zi154_115, zi154_116, zi154_117, zi154_118, zi154_121, zi154_121n, zi154_122, zi154_123, zi154_126 (sk := []), zcl1, zlow_0, zlow_1, zlow_2, zlow_3, zlow_4, zfree_0, zfree_i, zfree_r, zfree_n, zfree_d, zfree_f, zfree_s, if_true, if_false, Option.bind_some, Option.toList_some, Option.toList_none, List.cons_append, List.nil_append, List.set_cons_zero, List.set_cons_succ, Bool.false_eq_true, reduceIte, zsw_c, zsw_n, Nat.reduceAdd, eq_false k0, eq_false w0', eq_true c0, M2.1, m1, sp_finding M2]
      cases hs1 : spB (sz a) k c
      · simp only [zi154_72, zi154_73, zi154_76, zi154_78, zi154_81, zi154_83, zi154_86, zi154_87, zi154_88, zi154_90, zi154_91, zi154_92, zi154_92n, zi154_93, zi154_96, zi154_97, zi154_98, zi154_99, zi154_100, zi154_103, zi154_105, zi154_106, zi154_108, zi154_109, zi154_110, zi154_110n, zi154_111, zi154_114, zi154_115, zi154_116, zi154_117, zi154_118, zi154_121, zi154_121n, zi154_122, zi154_123, zi154_126 (sk := []), zcl1, zlow_0, zlow_1, zlow_2, zlow_3, zlow_4, zfree_0, zfree_i, zfree_r, zfree_n, zfree_d, zfree_f, zfree_s, if_true, if_false, Option.bind_some, Option.toList_some, Option.toList_none, List.cons_append, List.nil_append, List.set_cons_zero, List.set_cons_succ, Bool.false_eq_true, reduceIte, zsw_c, zsw_n, Nat.reduceAdd, eq_false k0, eq_false w0', eq_false c0, M2.r3, g, lspg sa (Int32.not_lt.mp k0) (Int32.not_lt.mp c0), hs1, M2.1, m1, sp_finding M2]
      · rw [hs1, Bool.true_and] at hs
        simp only [zi154_72, zi154_73, zi154_76, zi154_78, zi154_81, zi154_83, zi154_86, zi154_87, zi154_88, zi154_90, zi154_91, zi154_92, zi154_92n, zi154_93, zi154_96, zi154_97, zi154_98, zi154_99, zi154_100, zi154_103, zi154_105, zi154_106, zi154_108, zi154_109, zi154_110, zi154_110n, zi154_111, zi154_114, zi154_115, zi154_116, zi154_117, zi154_118, zi154_121, zi154_121n, zi154_122, zi154_123, zi154_126 (sk := []), zcl1, zlow_0, zlow_1, zlow_2, zlow_3, zlow_4, zfree_0, zfree_i, zfree_r, zfree_n, zfree_d, zfree_f, zfree_s, if_true, if_false, Option.bind_some, Option.toList_some, Option.toList_none, List.cons_append, List.nil_append, List.set_cons_zero, List.set_cons_succ, Bool.false_eq_true, reduceIte, zsw_c, zsw_n, Nat.reduceAdd, eq_false k0, eq_false w0', eq_false c0, M2.r3, g, g2, lspg sa (Int32.not_lt.mp k0) (Int32.not_lt.mp c0), hs1, lsp sb (Int32.not_lt.mp w0') (Int32.not_lt.mp c0), hs, Bool.true_eq_false, M2.1, m1, sp_finding M2]
  rw [Bool.and_eq_true] at hs
  obtain ⟨hs1, hs2⟩ := hs
  rcases spB_or (sz a) k c sa with q | ⟨i, m, him, rfl, rfl⟩
  · rw [hs1] at q; cases q
  rcases spB_or (sz b) w (nI m) sb with q | ⟨j, m', hjm, rfl, e'⟩
  · rw [hs2] at q; cases q
  rw [nI_eqP (by omega) (by omega)] at e'
  subst e'
  have Ia : zfld [6] h (34 + 2 * a) 0 = some (.ref (35 + 2 * a)) := by rw [Ra.2.1, show 34 + 2 * a + 1 = 35 + 2 * a by omega]
  have Ib : zfld [6] h (34 + 2 * b) 0 = some (.ref (35 + 2 * b)) := by rw [Rb.2.1, show 34 + 2 * b + 1 = 35 + 2 * b by omega]
  have Wa : zrow 0 h (35 + 2 * a) 40 (it a) := by have := Ra.2.2.2.2.2; rw [show 34 + 2 * a + 1 = 35 + 2 * a by omega] at this; exact this
  have Wb : zrow 0 h (35 + 2 * b) 40 (it b) := by have := Rb.2.2.2.2.2; rw [show 34 + 2 * b + 1 = 35 + 2 * b by omega] at this; exact this
  obtain ⟨hr, er, Wr, zr⟩ := zcpa_gen (i := i) (j := j) (n := m) Wa Wb (by omega) (by omega)
  have C1 := hJ.co.keep (zr.2 0 (by omega))
  have ec : zcall zpp E 92 [.ref 0, .int (nI a), .int (nI i), .int (nI b), .int (nI j), .int (nI m)] h = some (some (.int (nI m)), zpf hr 0 9 (.int 0)) := by
    simp only [ze92, zi92_0, zi92_0n, zi92_1, zi92_2, zi92_5, zi92_5n, zi92_7, zi92_7n, zi92_8, zi92_9, zi92_12, zi92_12n, zi92_14, zi92_14n, zi92_16, zi92_16n, zi92_19, zi92_19n, zi92_21, zi92_21n, zi92_24, zi92_26 (sk := []), zi92_27, zi92_27n, zi92_29, zi92_32, zi92_35, zi92_35n, zi92_37, zi92_40, zi92_43, zi92_43n, zi92_44, zi92_45, zi92_48 (sk := []), zi92_49, zi92_49n, zi92_51, zi92_54, zi92_54n, zi92_56, zi92_59, zi92_62, zi92_62n, zi92_63, zi92_64, zi92_67 (sk := []), zi92_68, zi92_68n, zi92_70, zi92_71, zi92_73, zi92_76, zi92_79, zi92_79n, zi92_81, zi92_83, zi92_85, zi92_88, zi92_91, zi92_91n, zi92_92, zi92_93, zi92_96 (sk := []), zi92_97, zi92_97n, zi92_99, zi92_102, zi92_103, zi92_103n, zi92_105, zi92_108, zi92_110, zi92_112 (sk := []), zi92_115, zi92_115n, zi92_116, zi92_118, zi92_121 (sk := []), zcl1, zlow_0, zlow_1, zlow_2, zlow_3, zlow_4, zfree_0, zfree_i, zfree_r, zfree_n, zfree_d, zfree_f, zfree_s, if_true, if_false, Option.bind_some, Option.toList_some, Option.toList_none, List.cons_append, List.nil_append, List.set_cons_zero, List.set_cons_succ, Bool.false_eq_true, reduceIte, zsw_c, zsw_n, Nat.reduceAdd, hJ.co.1, c1, sp_rowAt hJ.co hA ha, sp_rowAt hJ.co hA hb, R1, z10, R2, Ra.2.2.2.1, Rb.2.2.2.1, eq_true hl, Ra.1, Rb.1, c4, sps, spt, hs1, hs2, zb_t, Ia, Ib, er, C1.1, c3, sp_clean C1]
  have zc : zsm (fun a => a = 0 ∨ (34 ≤ a ∧ a ≤ 49)) h (zpf hr 0 9 (.int 0)) := (zr.wk (fun b e => by cases e; omega)).tr (zsm_pf.wk (fun b e => by cases e; omega))
  have Cq : CO (zpf hr 0 9 (.int 0)) y s 0 := C1.put 0
  have Rf : RW (zpf hr 0 9 (.int 0)) (34 + 2 * b) (zb (th b)) (ln b) (nI (sz b)) (fun t => if j ≤ t ∧ t < j + m then it a (i + (t - j)) else it b t) := by
    have K := (r1 b hb)
    have e0 : (zpf hr 0 9 (.int 0))[34 + 2 * b]? = h[34 + 2 * b]? := (zpf_o (by omega)).trans (zr.2 _ (by omega))
    obtain ⟨u1, u2, u3, u4, u5, u6⟩ := K
    refine ⟨(zcls_c e0).trans u1, (zfld_c e0).trans u2, (zfld_c e0).trans u3, (zfld_c e0).trans u4, (zfld_c e0).trans u5, ?_⟩
    rw [show 34 + 2 * b + 1 = 35 + 2 * b by omega]
    exact zrow_pf Wr
  have Ro : ∀ t, t < 8 → t ≠ b → RW (zpf hr 0 9 (.int 0)) (34 + 2 * t) (zb (th t)) (ln t) (nI (sz t)) (it t) := fun t ht htb => ((r1 t ht).keep (zr.2 _ (by omega)) (zr.2 _ (by omega))).keep (zpf_o (by omega)) (zpf_o (by omega))
  have Mc : MdO (zpf hr 0 9 (.int 0)) sc := hJ.md.keep (zc.2 73 (by omega))
  have Lc : ML (zpf hr 0 9 (.int 0)) lm (fun i => nI (sz i)) im := r2.keep (fun b h1 h2 => zc.2 b (by omega))
  have Ac : RA (zpf hr 0 9 (.int 0)) := hA.keep (zc.2 1 (by omega))
  generalize zpf hr 0 9 (.int 0) = hq at *
  have v0 := Mc.st 0 rfl (by omega) 0
  have M1 := Mc.put 0 rfl (by omega) 0
  have v1 := M1.st 1 rfl (by omega) 0
  have M2 := M1.put 1 rfl (by omega) 0
  have L2 : ML (zpf (zpf hq 73 0 (.int 0)) 73 1 (.int 0)) lm (fun i => nI (sz i)) im := Lc.pf.pf
  obtain ⟨H, e, q1, q2, q3⟩ := cpL (E := E) (a := a) (b := b) (i := i) (j := j) (m := m) (im := im) hb ha (by omega) (by omega) rfl m 0 _ im (.retAddr 0) (by omega) M2 L2 (fun t ht => by
    split
    · rw [if_neg (by omega)]
    · rw [if_neg (by omega)])
  have em : zcall zpp E 154 [.ref 73, .int (nI a), .int (nI i), .int (nI b), .int (nI j), .int (nI m)] hq = some (some (.int (nI m)), H) := by
    rw [← e]
    have e1 : zcall zpp E 154 [.ref 73, .int (nI a), .int (nI i), .int (nI b), .int (nI j), .int (nI m)] hq = zrun zpp E 154 (27, [.ref 73, .int (nI a), .int (nI i), .int (nI b), .int (nI j), .int (nI m), .retAddr 0, .retAddr 0, .retAddr 0], [], zpf (zpf hq 73 0 (.int 0)) 73 1 (.int 0)) := by
      conv =>
        lhs
        simp only [ze154, zi154_0, zi154_0n, zi154_1, zi154_2, zi154_5, zi154_6, zi154_9, zi154_12, zi154_13, zi154_16, zi154_19, zi154_21 (sk := []), zi154_22, zi154_22n, zi154_23, zi154_24, zcl1, zlow_0, zlow_1, zlow_2, zlow_3, zlow_4, zfree_0, zfree_i, zfree_r, zfree_n, zfree_d, zfree_f, zfree_s, if_true, if_false, Option.bind_some, Option.toList_some, Option.toList_none, List.cons_append, List.nil_append, List.set_cons_zero, List.set_cons_succ, Bool.false_eq_true, reduceIte, zsw_c, zsw_n, Nat.reduceAdd, v0, sp_isRow, ha8, hb8, zb_t, z10, v1]
    rw [e1, pre _ _ M2 L2]
    have g := zarr_at L2.2.1 ha (by omega)
    have g2 := zarr_at L2.2.1 hb (by omega)
    have p1 : ¬ nI i < 0 := nI_pos (by omega)
    have p2 : ¬ nI j < 0 := nI_pos (by omega)
    have p3 : ¬ nI m < 0 := nI_pos (by omega)
    conv =>
      lhs
      simp only [zi154_72, zi154_73, zi154_76, zi154_78, zi154_81, zi154_83, zi154_86, zi154_87, zi154_88, zi154_90, zi154_91, zi154_92, zi154_92n, zi154_93, zi154_96, zi154_97, zi154_98, zi154_99, zi154_100, zi154_103, zi154_105, zi154_106, zi154_108, zi154_109, zi154_110, zi154_110n, zi154_111, zi154_114, zi154_115, zi154_116, zi154_117, zi154_118, zi154_127, zi154_128, zcl1, zlow_0, zlow_1, zlow_2, zlow_3, zlow_4, zfree_0, zfree_i, zfree_r, zfree_n, zfree_d, zfree_f, zfree_s, if_true, if_false, Option.bind_some, Option.toList_some, Option.toList_none, List.cons_append, List.nil_append, List.set_cons_zero, List.set_cons_succ, Bool.false_eq_true, reduceIte, zsw_c, zsw_n, Nat.reduceAdd, eq_false p1, eq_false p2, eq_false p3, M2.r3, g, g2, lspg sa (Int32.not_lt.mp p1) (Int32.not_lt.mp p3), hs1, lsp sb (Int32.not_lt.mp p2) (Int32.not_lt.mp p3), hs2, Bool.true_eq_false]
    by_cases hij : j ≤ i
    · rw [zi154_130, if_neg (by rw [nI_ltP (by omega) (by omega)]; omega), decide_eq_true hij]
      conv =>
        lhs
        simp only [zi154_133, zi154_134, zi154_137, zi154_138, zi154_140, zi154_141, zcl1, zlow_0, zlow_1, zlow_2, zlow_3, zlow_4, zfree_0, zfree_i, zfree_r, zfree_n, zfree_d, zfree_f, zfree_s, if_true, if_false, Option.bind_some, Option.toList_some, Option.toList_none, List.cons_append, List.nil_append, List.set_cons_zero, List.set_cons_succ, Bool.false_eq_true, reduceIte, zsw_c, zsw_n, Nat.reduceAdd]
      rfl
    · rw [zi154_130, if_pos (by rw [nI_ltP (by omega) (by omega)]; omega), decide_eq_false hij]
      conv =>
        lhs
        simp only [zi154_133, zi154_134, zi154_137, zi154_138, zi154_140, zi154_141, zcl1, zlow_0, zlow_1, zlow_2, zlow_3, zlow_4, zfree_0, zfree_i, zfree_r, zfree_n, zfree_d, zfree_f, zfree_s, if_true, if_false, Option.bind_some, Option.toList_some, Option.toList_none, List.cons_append, List.nil_append, List.set_cons_zero, List.set_cons_succ, Bool.false_eq_true, reduceIte, zsw_c, zsw_n, Nat.reduceAdd]
      rfl
  have z2 : zsm mP hq H := ((zsm_pf.wk (fun x e => by cases e; exact ⟨by omega, by omega⟩)).tr (zsm_pf.wk (fun x e => by cases e; exact ⟨by omega, by omega⟩))).tr (q3.wk (fun x e => by cases e; exact ⟨by omega, by omega⟩))
  have zrf := zc.fr (fun a e => by omega)
  have z2f := z2.fr (fun a e => by unfold mP at e; omega)
  refine ⟨_, _, _, ec, em, y, s, 0, _, N, hJ.rowd ((zrf.wk (fun a e => by omega)).tr (z2f.wk (fun a e => by unfold mP at e; omega))) (Cq.keep (z2.2 0 (by unfold mP; omega))) q1 (fun k k0 k1 => by unfold upd; rw [if_neg k1, if_neg k0]) ?_, rfl, ((hB.sm zc).sm z2).up (by omega)⟩
  refine ⟨Ac.keep (z2.2 1 (by unfold mP; omega)), th, ln, sz, fun t => if t = b then (fun t => if j ≤ t ∧ t < j + m then it a (i + (t - j)) else it b t) else it t, lm, _, fun t ht => ?_, q2, r3, fun t ht u u40 => ?_, r5, r6⟩
  · show RW _ (34 + 2 * t) _ _ _ (if t = b then (fun t => if j ≤ t ∧ t < j + m then it a (i + (t - j)) else it b t) else it t)
    by_cases htb : t = b
    · subst htb
      rw [if_pos rfl]
      exact Rf.keep (z2.2 _ (by unfold mP; omega)) (z2.2 _ (by unfold mP; omega))
    · rw [if_neg htb]
      exact (Ro t ht htb).keep (z2.2 _ (by unfold mP; omega)) (z2.2 _ (by unfold mP; omega))
  · show (if 40 * b + j ≤ 40 * t + u ∧ 40 * t + u < 40 * b + j + m then im (40 * a + i + (40 * t + u - (40 * b + j))) else im (40 * t + u)) = (if t = b then (fun t => if j ≤ t ∧ t < j + m then it a (i + (t - j)) else it b t) else it t) u
    by_cases htb : t = b
    · subst htb
      rw [if_pos rfl]
      show _ = if j ≤ u ∧ u < j + m then it a (i + (u - j)) else it t u
      by_cases hc : j ≤ u ∧ u < j + m
      · rw [if_pos hc, if_pos (by omega), ← r4 a ha (i + (u - j)) (by omega)]
        congr 1
        omega
      · rw [if_neg hc, if_neg (by omega)]
        exact r4 t ht u u40
    · rw [if_neg htb, if_neg (by omega)]
      exact r4 t ht u u40
theorem ok_feed (hJ : J h n) {x : Int32} : OK E h n 94 156 [.int x] := by
  obtain ⟨y, s, v, sc, N, hJ, h1, hB⟩ := hJ
  obtain ⟨r, T, tl, hR, hT, t1, t2, t3, t4, t5⟩ := hJ.tape
  have w0 := hJ.md.st 0 rfl (by omega) 0
  have M1 := hJ.md.put 0 rfl (by omega) 0
  have c1 : zsel 5 [5, 34] = some 34 := rfl
  have i1 := fun (H : zH) => sp_inI (E := E) (h := H) (u := x.toInt64) (v := 0) (w := 255) (x := x) (a := 0) (b := 255) rfl (by decide) (by decide)
  have f1 : zfld [5] h 2 1 = some (.int (nI tl)) := by rw [hR.2.2.1 1 (by omega) (by omega), t2]
  rcases zbt_or x 0 255 (by omega) (by omega) with hx | ⟨c, -, hc, rfl, hx⟩
  · have hx : (decide (0 ≤ x) && decide (x ≤ 255)) = false := hx
    refine ⟨(-1000001), h, _, ?_, ?_, hJ.q h1 hB⟩
    · simp only [ze94, zi94_0, zi94_1, zi94_2, zi94_5, zi94_8, zi94_11, zi94_13 (sk := []), zi94_14, zi94_14n, zi94_15, zi94_18, zi94_19, zi94_22, zi94_25, zi94_25n, zi94_26, zi94_29, zi94_32, zi94_35, zi94_37 (sk := []), zcl1, zlow_0, zlow_1, zlow_2, zlow_3, zlow_4, zfree_0, zfree_i, zfree_r, zfree_n, zfree_d, zfree_f, zfree_s, if_true, if_false, Option.bind_some, Option.toList_some, Option.toList_none, List.cons_append, List.nil_append, List.set_cons_zero, List.set_cons_succ, Bool.false_eq_true, reduceIte, zsw_c, zsw_n, Nat.reduceAdd, sp_within, hx, zb_f, z00]
    · simp only [ze156, zi156_0, zi156_0n, zi156_1, zi156_2, zi156_5, zi156_6, zi156_7, zi156_8, zi156_11, zi156_14, zi156_17, zi156_19 (sk := []), zi156_20, zi156_20n, zi156_21, zi156_24, zi156_26, zi156_29, zi156_31 (sk := []), zi156_32, zi156_32n, zi156_33, zi156_36, zi156_36n, zi156_37, zi156_40, zi156_41, zi156_42, zi156_42n, zi156_43, zi156_43i, zi156_44, zi156_47, zi156_48, zi156_49, zi156_52, zi156_52n, zi156_53, zi156_56 (sk := []), zcl1, zlow_0, zlow_1, zlow_2, zlow_3, zlow_4, zfree_0, zfree_i, zfree_r, zfree_n, zfree_d, zfree_f, zfree_s, if_true, if_false, Option.bind_some, Option.toList_some, Option.toList_none, List.cons_append, List.nil_append, List.set_cons_zero, List.set_cons_succ, Bool.false_eq_true, reduceIte, zsw_c, zsw_n, Nat.reduceAdd, w0, i1, hx, zb_f, z00]
  have hx : (decide (0 ≤ nI c) && decide (nI c ≤ 255)) = true := hx
  by_cases ht : tl = 120
  · subst ht
    have f10 : zfld [11] (zpf h 73 0 (.int 0)) 73 10 = some (.int (nI 120)) := by rw [M1.i 10 rfl (by omega)]; exact congrArg _ (congrArg _ t3)
    have e34 : zcall zpp E 34 [.ref 2, .int (nI c)] h = some (some (.int 0), h) := by
      simp only [ze34, zi34_0, zi34_0n, zi34_1, zi34_4, zi34_6, zi34_9, zi34_10 (sk := []), zi34_11, zi34_11n, zi34_12, zi34_15, zi34_15n, zi34_16, zi34_19, zi34_20, zi34_21, zi34_21n, zi34_22, zi34_22i, zi34_23, zi34_26, zi34_27, zi34_28, zi34_31, zi34_32 (sk := []), zcl1, zlow_0, zlow_1, zlow_2, zlow_3, zlow_4, zfree_0, zfree_i, zfree_r, zfree_n, zfree_d, zfree_f, zfree_s, if_true, if_false, Option.bind_some, Option.toList_some, Option.toList_none, List.cons_append, List.nil_append, List.set_cons_zero, List.set_cons_succ, Bool.false_eq_true, reduceIte, zsw_c, zsw_n, Nat.reduceAdd, f1, show (nI 120 < 120) = False by decide]
    refine ⟨(-1000003), h, _, ?_, ?_, hJ.q h1 hB⟩
    · simp only [ze94, zi94_0, zi94_1, zi94_2, zi94_5, zi94_8, zi94_11, zi94_13 (sk := []), zi94_14, zi94_14n, zi94_15, zi94_18, zi94_19, zi94_22, zi94_25, zi94_25n, zi94_26, zi94_29, zi94_32, zi94_35, zi94_37 (sk := []), zcl1, zlow_0, zlow_1, zlow_2, zlow_3, zlow_4, zfree_0, zfree_i, zfree_r, zfree_n, zfree_d, zfree_f, zfree_s, if_true, if_false, Option.bind_some, Option.toList_some, Option.toList_none, List.cons_append, List.nil_append, List.set_cons_zero, List.set_cons_succ, Bool.false_eq_true, reduceIte, zsw_c, zsw_n, Nat.reduceAdd, sp_within, hx, zb_t, z10, hJ.co.r1, hR.1, c1, e34, z00]
    · simp only [ze156, zi156_0, zi156_0n, zi156_1, zi156_2, zi156_5, zi156_6, zi156_7, zi156_8, zi156_11, zi156_14, zi156_17, zi156_19 (sk := []), zi156_20, zi156_20n, zi156_21, zi156_24, zi156_26, zi156_29, zi156_31 (sk := []), zi156_32, zi156_32n, zi156_33, zi156_36, zi156_36n, zi156_37, zi156_40, zi156_41, zi156_42, zi156_42n, zi156_43, zi156_43i, zi156_44, zi156_47, zi156_48, zi156_49, zi156_52, zi156_52n, zi156_53, zi156_56 (sk := []), zcl1, zlow_0, zlow_1, zlow_2, zlow_3, zlow_4, zfree_0, zfree_i, zfree_r, zfree_n, zfree_d, zfree_f, zfree_s, if_true, if_false, Option.bind_some, Option.toList_some, Option.toList_none, List.cons_append, List.nil_append, List.set_cons_zero, List.set_cons_succ, Bool.false_eq_true, reduceIte, zsw_c, zsw_n, Nat.reduceAdd, w0, i1, hx, zb_t, z10, f10, show (nI 120 = 120) = True by decide]
  have w3 := zars_at (j := tl) (x := nI c) hR.2.2.2 (by omega) (by omega) zfits_i
  have g1 : zfld [5] (zpa h 3 tl (nI c)) 2 1 = some (.int (nI tl)) := zfld_pa.trans f1
  have w4 := zstf_ok (ty := 0) (v := .int (nI (tl + 1))) g1 zfits_i
  have lt : nI tl < 120 := by rw [show (120 : Int32) = nI 120 from rfl, nI_ltP (by omega) (by omega)]; omega
  have e34 : zcall zpp E 34 [.ref 2, .int (nI c)] h = some (some (.int 1), zpf (zpa h 3 tl (nI c)) 2 1 (.int (nI (tl + 1)))) := by
    simp only [ze34, zi34_0, zi34_0n, zi34_1, zi34_4, zi34_6, zi34_9, zi34_10 (sk := []), zi34_11, zi34_11n, zi34_12, zi34_15, zi34_15n, zi34_16, zi34_19, zi34_20, zi34_21, zi34_21n, zi34_22, zi34_22i, zi34_23, zi34_26, zi34_27, zi34_28, zi34_31, zi34_32 (sk := []), zcl1, zlow_0, zlow_1, zlow_2, zlow_3, zlow_4, zfree_0, zfree_i, zfree_r, zfree_n, zfree_d, zfree_f, zfree_s, if_true, if_false, Option.bind_some, Option.toList_some, Option.toList_none, List.cons_append, List.nil_append, List.set_cons_zero, List.set_cons_succ, Bool.false_eq_true, reduceIte, zsw_c, zsw_n, Nat.reduceAdd, f1, eq_true lt, hR.2.1, w3, g1, ix_p1, w4]
    rfl
  have zc : zsm (fun a => a = 2 ∨ a = 3) h (zpf (zpa h 3 tl (nI c)) 2 1 (.int (nI (tl + 1)))) := (zsm_pa.wk (fun a e => Or.inr e)).tr (zsm_pf.wk (fun a e => Or.inl e))
  have RD2 : RD (zpf (zpa h 3 tl (nI c)) 2 1 (.int (nI (tl + 1)))) (upd r 1 (nI (tl + 1))) (upd T tl (nI c)) := by
    refine ⟨zcls_pf.trans (zcls_pa.trans hR.1), (zfld_f (by decide)).trans (zfld_pa.trans hR.2.1), fun k k1 k7 => ?_, zrow_pf (zrow_pa hR.2.2.2)⟩
    by_cases hk : k = 1
    · subst hk
      rw [zfld_same, g1]
      rfl
    · rw [zfld_f (fun z => hk z.symm), zfld_pa, hR.2.2.1 k k1 k7]
      unfold upd
      rw [if_neg hk]
  have f1' : zfld [5] (zpf (zpa h 3 tl (nI c)) 2 1 (.int (nI (tl + 1)))) 2 1 = some (.int (nI (tl + 1))) := RD2.2.2.1 1 (by omega) (by omega)
  have C1 := hJ.co.keep (zc.2 0 (by omega))
  have ec : zcall zpp E 94 [.ref 0, .int (nI c)] h = some (some (.int (nI (tl + 1))), zpf (zpa h 3 tl (nI c)) 2 1 (.int (nI (tl + 1)))) := by
    simp only [ze94, zi94_0, zi94_1, zi94_2, zi94_5, zi94_8, zi94_11, zi94_13 (sk := []), zi94_14, zi94_14n, zi94_15, zi94_18, zi94_19, zi94_22, zi94_25, zi94_25n, zi94_26, zi94_29, zi94_32, zi94_35, zi94_37 (sk := []), zcl1, zlow_0, zlow_1, zlow_2, zlow_3, zlow_4, zfree_0, zfree_i, zfree_r, zfree_n, zfree_d, zfree_f, zfree_s, if_true, if_false, Option.bind_some, Option.toList_some, Option.toList_none, List.cons_append, List.nil_append, List.set_cons_zero, List.set_cons_succ, Bool.false_eq_true, reduceIte, zsw_c, zsw_n, Nat.reduceAdd, sp_within, hx, zb_t, z10, hJ.co.r1, hR.1, c1, e34, C1.r1, f1']
  have Mc := hJ.md.keep (zc.2 73 (by omega))
  have Tc : zrow 0 _ 80 120 T := zrow_c (zc.2 80 (by omega)) hT
  generalize zpf (zpa h 3 tl (nI c)) 2 1 (.int (nI (tl + 1))) = hr at *
  have v0 := Mc.st 0 rfl (by omega) 0
  have M2 := Mc.put 0 rfl (by omega) 0
  have f10 : zfld [11] (zpf hr 73 0 (.int 0)) 73 10 = some (.int (nI tl)) := by rw [M2.i 10 rfl (by omega)]; exact congrArg _ (congrArg _ t3)
  have v3 := zars_at (j := tl) (x := nI c) (zrow_pf (a := 73) (f' := 0) (v := .int 0) Tc) (by omega) (by omega) zfits_i
  have M3 : MdO (zpa (zpf hr 73 0 (.int 0)) 80 tl (nI c)) (upd sc 0 0) := M2.pa
  have f10' : zfld [11] (zpa (zpf hr 73 0 (.int 0)) 80 tl (nI c)) 73 10 = some (.int (nI tl)) := zfld_pa.trans f10
  have v4 := M3.st 10 rfl (by omega) (nI (tl + 1))
  have M4 := M3.put 10 rfl (by omega) (nI (tl + 1))
  have f10'' : zfld [11] (zpf (zpa (zpf hr 73 0 (.int 0)) 80 tl (nI c)) 73 10 (.int (nI (tl + 1)))) 73 10 = some (.int (nI (tl + 1))) := M4.i 10 rfl (by omega)
  have ne : ¬ nI tl = 120 := by rw [show (120 : Int32) = nI 120 from rfl, nI_eqP (by omega) (by omega)]; omega
  have em : zcall zpp E 156 [.ref 73, .int (nI c)] hr = some (some (.int (nI (tl + 1))), zpf (zpa (zpf hr 73 0 (.int 0)) 80 tl (nI c)) 73 10 (.int (nI (tl + 1)))) := by
    simp only [ze156, zi156_0, zi156_0n, zi156_1, zi156_2, zi156_5, zi156_6, zi156_7, zi156_8, zi156_11, zi156_14, zi156_17, zi156_19 (sk := []), zi156_20, zi156_20n, zi156_21, zi156_24, zi156_26, zi156_29, zi156_31 (sk := []), zi156_32, zi156_32n, zi156_33, zi156_36, zi156_36n, zi156_37, zi156_40, zi156_41, zi156_42, zi156_42n, zi156_43, zi156_43i, zi156_44, zi156_47, zi156_48, zi156_49, zi156_52, zi156_52n, zi156_53, zi156_56 (sk := []), zcl1, zlow_0, zlow_1, zlow_2, zlow_3, zlow_4, zfree_0, zfree_i, zfree_r, zfree_n, zfree_d, zfree_f, zfree_s, if_true, if_false, Option.bind_some, Option.toList_some, Option.toList_none, List.cons_append, List.nil_append, List.set_cons_zero, List.set_cons_succ, Bool.false_eq_true, reduceIte, zsw_c, zsw_n, Nat.reduceAdd, v0, i1, hx, zb_t, z10, f10, eq_false ne, M2.r9, v3, f10', ix_p1, v4, f10'']
  have z2 : zsm (fun a => a = 73 ∨ a = 80) hr (zpf (zpa (zpf hr 73 0 (.int 0)) 80 tl (nI c)) 73 10 (.int (nI (tl + 1)))) := ((zsm_pf.wk (fun a e => Or.inl e)).tr (zsm_pa.wk (fun a e => Or.inr e))).tr (zsm_pf.wk (fun a e => Or.inl e))
  have hz : fr (fun a => a = 2 ∨ a = 3 ∨ a = 73 ∨ a = 80) h (zpf (zpa (zpf hr 73 0 (.int 0)) 80 tl (nI c)) 73 10 (.int (nI (tl + 1)))) := ((zc.fr (fun a e => by omega)).wk (fun a e => by omega)).tr ((z2.fr (fun a e => by omega)).wk (fun a e => by omega))
  have hy := hJ.ys
  unfold yys at hy
  refine ⟨_, _, _, ec, em, y, s, v, upd (upd sc 0 0) 10 (nI (tl + 1)), N, ⟨hJ.ys, hJ.co.keep (hz.1 _ (by omega) (by omega)), M4, hJ.row.keep hz (fun a ha => by omega), ?_, hJ.img.keep hz (fun a ha => by omega), hJ.act.keep hz (fun a ha => by omega), hJ.tr.keep hz (fun a ha => by omega), hJ.scr.keep hz (fun a ha => by omega), hJ.yc.keep hz (by omega) (fun a h1 h2 => by omega), hJ.my.keep (hz.1 _ (by omega) (by omega)), hJ.wg, hJ.sp.keep hz (by omega) (fun a h1 h2 => by omega)⟩, h1, ((hB.sm zc).sm z2).up (by omega)⟩
  refine ⟨upd r 1 (nI (tl + 1)), upd T tl (nI c), tl + 1, RD2.keep (z2.2 2 (by omega)) (z2.2 3 (by omega)), zrow_pf (zrow_pa (zrow_pf Tc)), by omega, rfl, rfl, t4, fun j hj => ?_⟩
  unfold upd
  by_cases hjt : j = tl
  · rw [if_pos hjt]
    exact ⟨c, by omega, rfl⟩
  · rw [if_neg hjt]
    exact t5 j (by omega)
end COPY
