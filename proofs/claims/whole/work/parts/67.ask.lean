/-! QUESTIONS: the same answers -/
theorem qs_0_0 : (nI 0 = Int32.ofInt 0) = True := by decide
theorem qs_0_1 : (nI 0 = Int32.ofInt 1) = False := by decide
theorem qs_0_2 : (nI 0 = Int32.ofInt 2) = False := by decide
theorem qs_0_3 : (nI 0 = Int32.ofInt 3) = False := by decide
theorem qs_0_4 : (nI 0 = Int32.ofInt 4) = False := by decide
theorem qs_0_5 : (nI 0 = Int32.ofInt 5) = False := by decide
theorem qs_0_6 : (nI 0 = Int32.ofInt 6) = False := by decide
theorem qs_0_7 : (nI 0 = Int32.ofInt 7) = False := by decide
theorem qs_1_0 : (nI 1 = Int32.ofInt 0) = False := by decide
theorem qs_1_1 : (nI 1 = Int32.ofInt 1) = True := by decide
theorem qs_1_2 : (nI 1 = Int32.ofInt 2) = False := by decide
theorem qs_1_3 : (nI 1 = Int32.ofInt 3) = False := by decide
theorem qs_1_4 : (nI 1 = Int32.ofInt 4) = False := by decide
theorem qs_1_5 : (nI 1 = Int32.ofInt 5) = False := by decide
theorem qs_1_6 : (nI 1 = Int32.ofInt 6) = False := by decide
theorem qs_1_7 : (nI 1 = Int32.ofInt 7) = False := by decide
theorem qs_2_0 : (nI 2 = Int32.ofInt 0) = False := by decide
theorem qs_2_1 : (nI 2 = Int32.ofInt 1) = False := by decide
theorem qs_2_2 : (nI 2 = Int32.ofInt 2) = True := by decide
theorem qs_2_3 : (nI 2 = Int32.ofInt 3) = False := by decide
theorem qs_2_4 : (nI 2 = Int32.ofInt 4) = False := by decide
theorem qs_2_5 : (nI 2 = Int32.ofInt 5) = False := by decide
theorem qs_2_6 : (nI 2 = Int32.ofInt 6) = False := by decide
theorem qs_2_7 : (nI 2 = Int32.ofInt 7) = False := by decide
theorem qs_3_0 : (nI 3 = Int32.ofInt 0) = False := by decide
theorem qs_3_1 : (nI 3 = Int32.ofInt 1) = False := by decide
theorem qs_3_2 : (nI 3 = Int32.ofInt 2) = False := by decide
theorem qs_3_3 : (nI 3 = Int32.ofInt 3) = True := by decide
theorem qs_3_4 : (nI 3 = Int32.ofInt 4) = False := by decide
theorem qs_3_5 : (nI 3 = Int32.ofInt 5) = False := by decide
theorem qs_3_6 : (nI 3 = Int32.ofInt 6) = False := by decide
theorem qs_3_7 : (nI 3 = Int32.ofInt 7) = False := by decide
theorem qs_4_0 : (nI 4 = Int32.ofInt 0) = False := by decide
theorem qs_4_1 : (nI 4 = Int32.ofInt 1) = False := by decide
theorem qs_4_2 : (nI 4 = Int32.ofInt 2) = False := by decide
theorem qs_4_3 : (nI 4 = Int32.ofInt 3) = False := by decide
theorem qs_4_4 : (nI 4 = Int32.ofInt 4) = True := by decide
theorem qs_4_5 : (nI 4 = Int32.ofInt 5) = False := by decide
theorem qs_4_6 : (nI 4 = Int32.ofInt 6) = False := by decide
theorem qs_4_7 : (nI 4 = Int32.ofInt 7) = False := by decide
theorem qs_5_0 : (nI 5 = Int32.ofInt 0) = False := by decide
theorem qs_5_1 : (nI 5 = Int32.ofInt 1) = False := by decide
theorem qs_5_2 : (nI 5 = Int32.ofInt 2) = False := by decide
theorem qs_5_3 : (nI 5 = Int32.ofInt 3) = False := by decide
theorem qs_5_4 : (nI 5 = Int32.ofInt 4) = False := by decide
theorem qs_5_5 : (nI 5 = Int32.ofInt 5) = True := by decide
theorem qs_5_6 : (nI 5 = Int32.ofInt 6) = False := by decide
theorem qs_5_7 : (nI 5 = Int32.ofInt 7) = False := by decide
section ASK
variable {E : zE} {h : zH} {n y s : Nat} {v : Int32} {sc : Nat → Int32} {N : Nat → Nat}
theorem JJ.q (hJ : JJ h y s v sc N) (h1 : sc 1 = v) (hB : Bd h n) : J (zpf h 73 0 (.int 0)) (n + 1) :=
  ⟨y, s, v, _, N, hJ.mi 0 rfl (by omega) 0 (by omega) (by omega) (by omega) (by omega), h1, (hB.sm zsm_pf).up (by omega)⟩
/-- a finding of both -/
theorem JJ.f (hJ : JJ h y s v sc N) (hB : Bd h n) (w : Int32) : J (zpf (zpf (zpf h 0 9 (.int w)) 73 0 (.int 0)) 73 1 (.int w)) (n + 1) :=
  ⟨y, s, w, _, N, ((hJ.c9 w).mi 0 rfl (by omega) 0 (by omega) (by omega) (by omega) (by omega)).mi 1 rfl (by omega) w (by omega) (by omega) (by omega) (by omega), rfl, (((hB.sm zsm_pf).sm zsm_pf).sm zsm_pf).up (by omega)⟩
theorem JJ.f2 (hJ : JJ h y s v sc N) (hB : Bd h n) (w : Int32) : J (zpf (zpf (zpf (zpf h 0 9 (.int w)) 73 0 (.int 0)) 73 1 (.int 0)) 73 1 (.int w)) (n + 1) :=
  ⟨y, s, w, _, N, (((hJ.c9 w).mi 0 rfl (by omega) 0 (by omega) (by omega) (by omega) (by omega)).mi 1 rfl (by omega) 0 (by omega) (by omega) (by omega) (by omega)).mi 1 rfl (by omega) w (by omega) (by omega) (by omega) (by omega), rfl, ((((hB.sm zsm_pf).sm zsm_pf).sm zsm_pf).sm zsm_pf).up (by omega)⟩
theorem ok_fault (hJ : J h n) : OK E h n 96 165 [] := by
  obtain ⟨y, s, v, sc, N, hJ, h1, hB⟩ := hJ
  obtain ⟨r, T, tl, hR, -, -, -, -, h2, -⟩ := hJ.tape
  refine ⟨(sc 17), h, zpf h 73 0 (.int 0), ?_, ?_, hJ.q h1 hB⟩
  · simp only [ze96, zi96_0, zi96_0n, zi96_1, zi96_4, zi96_7 (sk := []), zcl1, zlow_0, zlow_1, zlow_2, zlow_3, zlow_4, zfree_0, zfree_i, zfree_r, zfree_n, zfree_d, zfree_f, zfree_s, if_true, if_false, Option.bind_some, Option.toList_some, Option.toList_none, List.cons_append, List.nil_append, List.set_cons_zero, List.set_cons_succ, Bool.false_eq_true, reduceIte, zsw_c, zsw_n, Nat.reduceAdd, hJ.co.r1, hR.2.2.1 2 (by omega) (by omega), h2]
  · have M1 := hJ.md.put 0 rfl (by omega) 0
    have f : zfld [11] (zpf h 73 0 (.int 0)) 73 17 = some (.int (sc 17)) := M1.i 17 rfl (by omega)
    simp only [ze165, zi165_0, zi165_0n, zi165_1, zi165_2, zi165_5, zi165_5n, zi165_6, zi165_9 (sk := []), zcl1, zlow_0, zlow_1, zlow_2, zlow_3, zlow_4, zfree_0, zfree_i, zfree_r, zfree_n, zfree_d, zfree_f, zfree_s, if_true, if_false, Option.bind_some, Option.toList_some, Option.toList_none, List.cons_append, List.nil_append, List.set_cons_zero, List.set_cons_succ, Bool.false_eq_true, reduceIte, zsw_c, zsw_n, Nat.reduceAdd, hJ.md.st 0 rfl (by omega) 0, f]
theorem ok_status (hJ : J h n) : OK E h n 125 229 [] := by
  obtain ⟨y, s, v, sc, N, hJ, h1, hB⟩ := hJ
  refine ⟨v, h, zpf h 73 0 (.int 0), ?_, ?_, hJ.q h1 hB⟩
  · simp only [ze125, zi125_0, zi125_0n, zi125_1, zi125_4 (sk := []), zcl1, zlow_0, zlow_1, zlow_2, zlow_3, zlow_4, zfree_0, zfree_i, zfree_r, zfree_n, zfree_d, zfree_f, zfree_s, if_true, if_false, Option.bind_some, Option.toList_some, Option.toList_none, List.cons_append, List.nil_append, List.set_cons_zero, List.set_cons_succ, Bool.false_eq_true, reduceIte, zsw_c, zsw_n, Nat.reduceAdd, hJ.co.2.2]
  · have M1 := hJ.md.put 0 rfl (by omega) 0
    have f : zfld [11] (zpf h 73 0 (.int 0)) 73 1 = some (.int (sc 1)) := M1.i 1 rfl (by omega)
    simp only [ze229, zi229_0, zi229_0n, zi229_1, zi229_2, zi229_5, zi229_5n, zi229_6, zi229_9 (sk := []), zcl1, zlow_0, zlow_1, zlow_2, zlow_3, zlow_4, zfree_0, zfree_i, zfree_r, zfree_n, zfree_d, zfree_f, zfree_s, if_true, if_false, Option.bind_some, Option.toList_some, Option.toList_none, List.cons_append, List.nil_append, List.set_cons_zero, List.set_cons_succ, Bool.false_eq_true, reduceIte, zsw_c, zsw_n, Nat.reduceAdd, hJ.md.st 0 rfl (by omega) 0, f, h1]
theorem ok_trace (hJ : J h n) {x : Int32} : OK E h n 123 227 [.int x] := by
  obtain ⟨y, s, v, sc, N, hJ, h1, hB⟩ := hJ
  obtain ⟨tn, k, t, hT, hR, h2, h3⟩ := hJ.tr
  have M1 := hJ.md.put 0 rfl (by omega) 0
  have w0 := hJ.md.st 0 rfl (by omega) 0
  have f : zfld [11] (zpf h 73 0 (.int 0)) 73 24 = some (.int (sc 24)) := M1.i 24 rfl (by omega)
  have R1 := zrow_pf (a := 73) (f' := 0) (v := .int 0) hR
  have i2 := fun (H : zH) => sp_inI (E := E) (h := H) (u := x.toInt64) (v := 0) (w := (nI tn - 1).toInt64) (x := x) (a := 0) (b := nI tn - 1) rfl (by decide) rfl
  rw [h2] at f
  rcases zlt_or x (n := tn) (by omega) with hx | ⟨i, hi, rfl⟩
  · unfold zlt at hx
    refine ⟨(-1000000), h, zpf h 73 0 (.int 0), ?_, ?_, hJ.q h1 hB⟩
    · simp only [ze123, zi123_0, zi123_1, zi123_2, zi123_2n, zi123_3, zi123_6, zi123_9, zi123_10, zi123_11, zi123_14, zi123_17, zi123_17n, zi123_18, zi123_21, zi123_24, zi123_25, zi123_26, zi123_29, zi123_31 (sk := []), zcl1, zlow_0, zlow_1, zlow_2, zlow_3, zlow_4, zfree_0, zfree_i, zfree_r, zfree_n, zfree_d, zfree_f, zfree_s, if_true, if_false, Option.bind_some, Option.toList_some, Option.toList_none, List.cons_append, List.nil_append, List.set_cons_zero, List.set_cons_succ, Bool.false_eq_true, reduceIte, zsw_c, zsw_n, Nat.reduceAdd, hJ.co.r4, hT.2.2.1, sp_within, hx, zb_f, z00]
    · simp only [ze227, zi227_0, zi227_0n, zi227_1, zi227_2, zi227_5, zi227_6, zi227_7, zi227_8, zi227_8n, zi227_9, zi227_12, zi227_13, zi227_14, zi227_15, zi227_18, zi227_21, zi227_21n, zi227_22, zi227_25, zi227_26, zi227_27, zi227_30, zi227_32 (sk := []), zcl1, zlow_0, zlow_1, zlow_2, zlow_3, zlow_4, zfree_0, zfree_i, zfree_r, zfree_n, zfree_d, zfree_f, zfree_s, if_true, if_false, Option.bind_some, Option.toList_some, Option.toList_none, List.cons_append, List.nil_append, List.set_cons_zero, List.set_cons_succ, Bool.false_eq_true, reduceIte, zsw_c, zsw_n, Nat.reduceAdd, w0, f, i2, hx, zb_f, z00]
  · have hx : zlt (nI i) tn = true := by rw [zlt_nI (by omega) (by omega)]; simp [hi]
    unfold zlt at hx
    refine ⟨(t i), h, zpf h 73 0 (.int 0), ?_, ?_, hJ.q h1 hB⟩
    · simp only [ze123, zi123_0, zi123_1, zi123_2, zi123_2n, zi123_3, zi123_6, zi123_9, zi123_10, zi123_11, zi123_14, zi123_17, zi123_17n, zi123_18, zi123_21, zi123_24, zi123_25, zi123_26, zi123_29, zi123_31 (sk := []), zcl1, zlow_0, zlow_1, zlow_2, zlow_3, zlow_4, zfree_0, zfree_i, zfree_r, zfree_n, zfree_d, zfree_f, zfree_s, if_true, if_false, Option.bind_some, Option.toList_some, Option.toList_none, List.cons_append, List.nil_append, List.set_cons_zero, List.set_cons_succ, Bool.false_eq_true, reduceIte, zsw_c, zsw_n, Nat.reduceAdd, hJ.co.r4, hT.2.2.1, sp_within, hx, zb_t, z10, hT.2.1, zarr_at hT.2.2.2.2 (show i < 16 by omega) (by omega)]
    · simp only [ze227, zi227_0, zi227_0n, zi227_1, zi227_2, zi227_5, zi227_6, zi227_7, zi227_8, zi227_8n, zi227_9, zi227_12, zi227_13, zi227_14, zi227_15, zi227_18, zi227_21, zi227_21n, zi227_22, zi227_25, zi227_26, zi227_27, zi227_30, zi227_32 (sk := []), zcl1, zlow_0, zlow_1, zlow_2, zlow_3, zlow_4, zfree_0, zfree_i, zfree_r, zfree_n, zfree_d, zfree_f, zfree_s, if_true, if_false, Option.bind_some, Option.toList_some, Option.toList_none, List.cons_append, List.nil_append, List.set_cons_zero, List.set_cons_succ, Bool.false_eq_true, reduceIte, zsw_c, zsw_n, Nat.reduceAdd, w0, f, i2, hx, zb_t, z10, M1.r23, zarr_at R1 (show i < 16 by omega) (by omega)]
theorem ix_p0 (b : Nat) : nI b + 0 = nI (b + 0) := nI_add b 0
/-- how many -/
def cntB (f : Nat → Bool) : Nat → Nat
  | 0 => 0
  | n + 1 => cntB f n + (if f n = true then 1 else 0)
theorem sp_rowsThere {th : Nat → Bool} {ln : Nat → Int32} {sz : Nat → Nat} {it : Nat → Nat → Int32} (hC : CO h y s v) (hA : RA h) (hR : ∀ i, i < 8 → RW h (34 + 2 * i) (zb (th i)) (ln i) (nI (sz i)) (it i)) : zcall zpp E 129 [.ref 0] h = some (some (.int (nI (cntB th 8))), h) := by
  obtain ⟨g, g1, g2⟩ := hA
  have loop : ∀ (m k : Nat), k + m = 8 → zrun zpp E 129 (4, [.ref 0, .int (nI (cntB th k)), .int (nI k)], [], h) = some (some (.int (nI (cntB th 8))), h) := by
    intro m
    induction m with
    | zero =>
      intro k hk
      simp only [zi129_4, zi129_5, zcl1, zlow_0, zlow_1, zlow_2, zlow_3, zlow_4, zfree_0, zfree_i, zfree_r, zfree_n, zfree_d, zfree_f, zfree_s, if_true, if_false, Option.bind_some, Option.toList_some, Option.toList_none, List.cons_append, List.nil_append, List.set_cons_zero, List.set_cons_succ, Bool.false_eq_true, reduceIte, zsw_c, zsw_n, Nat.reduceAdd]
      rw [zi129_7, if_pos (by rw [show (8 : Int32) = nI 8 from rfl, nI_leP (by omega) (by omega)]; omega)]
      simp only [zi129_36, zi129_37 (sk := []), zcl1, zlow_0, zlow_1, zlow_2, zlow_3, zlow_4, zfree_0, zfree_i, zfree_r, zfree_n, zfree_d, zfree_f, zfree_s, if_true, if_false, Option.bind_some, Option.toList_some, Option.toList_none, List.cons_append, List.nil_append, List.set_cons_zero, List.set_cons_succ, Bool.false_eq_true, reduceIte, zsw_c, zsw_n, Nat.reduceAdd]
      rw [show k = 8 by omega]
    | succ m ih =>
      intro k hk
      have ha : zara h 1 (nI k) = some (.ref (34 + 2 * k)) := by
        unfold zara
        rw [g1]
        simp only [zix_nI (show k < 8 by omega) (by omega), nI_clamp (show k < 2 ^ 31 by omega), g2 k (by omega), zart]
        rfl
      have ih1 := ih (k + 1) (by omega)
      rw [show cntB th (k + 1) = cntB th k + (if th k = true then 1 else 0) from rfl] at ih1
      simp only [zi129_4, zi129_5, zcl1, zlow_0, zlow_1, zlow_2, zlow_3, zlow_4, zfree_0, zfree_i, zfree_r, zfree_n, zfree_d, zfree_f, zfree_s, if_true, if_false, Option.bind_some, Option.toList_some, Option.toList_none, List.cons_append, List.nil_append, List.set_cons_zero, List.set_cons_succ, Bool.false_eq_true, reduceIte, zsw_c, zsw_n, Nat.reduceAdd]
      rw [zi129_7, if_neg (by rw [show (8 : Int32) = nI 8 from rfl, nI_leP (by omega) (by omega)]; omega)]
      cases ht : th k
      · rw [ht, if_neg (by decide)] at ih1
        have hr := (hR k (by omega)).2.2.1
        rw [ht] at hr
        simp only [zi129_10, zi129_11, zi129_11n, zi129_12, zi129_15, zi129_16, zi129_17, zi129_20, zi129_23, zi129_24, zi129_27, zi129_28, zi129_29, zi129_30, zi129_33, zcl1, zlow_0, zlow_1, zlow_2, zlow_3, zlow_4, zfree_0, zfree_i, zfree_r, zfree_n, zfree_d, zfree_f, zfree_s, if_true, if_false, Option.bind_some, Option.toList_some, Option.toList_none, List.cons_append, List.nil_append, List.set_cons_zero, List.set_cons_succ, Bool.false_eq_true, reduceIte, zsw_c, zsw_n, Nat.reduceAdd, hC.r0, ha, hr, zb_f, z00, nI_add, ix_p1, show (0 : Int32) = nI 0 from rfl]
        exact ih1
      · rw [ht, if_pos rfl] at ih1
        have hr := (hR k (by omega)).2.2.1
        rw [ht] at hr
        simp only [zi129_10, zi129_11, zi129_11n, zi129_12, zi129_15, zi129_16, zi129_17, zi129_20, zi129_23, zi129_24, zi129_27, zi129_28, zi129_29, zi129_30, zi129_33, zcl1, zlow_0, zlow_1, zlow_2, zlow_3, zlow_4, zfree_0, zfree_i, zfree_r, zfree_n, zfree_d, zfree_f, zfree_s, if_true, if_false, Option.bind_some, Option.toList_some, Option.toList_none, List.cons_append, List.nil_append, List.set_cons_zero, List.set_cons_succ, Bool.false_eq_true, reduceIte, zsw_c, zsw_n, Nat.reduceAdd, hC.r0, ha, hr, zb_t, z10, ix_p1]
        exact ih1
  simp only [ze129, zi129_0, zi129_1, zi129_2, zi129_3, zcl1, zlow_0, zlow_1, zlow_2, zlow_3, zlow_4, zfree_0, zfree_i, zfree_r, zfree_n, zfree_d, zfree_f, zfree_s, if_true, if_false, Option.bind_some, Option.toList_some, Option.toList_none, List.cons_append, List.nil_append, List.set_cons_zero, List.set_cons_succ, Bool.false_eq_true, reduceIte, zsw_c, zsw_n, Nat.reduceAdd]
  exact loop 8 0 (by omega)
theorem zpos_012 {x : Int32} (h : x = 0 ∨ x = 1 ∨ x = 2) : (x < 0) = False ∧ (0 ≤ x) = True := by
  rcases h with rfl | rfl | rfl <;> decide
theorem ok_count (hJ : J h n) {x : Int32} : OK E h n 124 228 [.int x] := by
  obtain ⟨y, s, v, sc, N, hJ, h1, hB⟩ := hJ
  have M1 := hJ.md.put 0 rfl (by omega) 0
  have w0 := hJ.md.st 0 rfl (by omega) 0
  have Y1 : MY (zpf h 73 0 (.int 0)) N := hJ.my.keep (zpf_o (by omega))
  obtain ⟨hA, th, ln, sz, it, lm, im, r1, r2, r3, r4, r5, r6⟩ := hJ.row
  have L1 : ML (zpf h 73 0 (.int 0)) lm (fun i => nI (sz i)) im := r2.pf
  have hsel : zsel 10 [10, 129] = some 129 := rfl
  by_cases c0 : x = Int32.ofInt 0
  · refine ⟨(nI (cntB th 8)), h, zpf h 73 0 (.int 0), ?_, ?_, hJ.q h1 hB⟩
    · simp only [ze124, zi124_0, zi124_1, zi124_48, zi124_48n, zi124_49, zi124_52 (sk := []), zi124_53, zi124_53n, zi124_54, zi124_57, zi124_60 (sk := []), zi124_61, zi124_61n, zi124_62, zi124_65, zi124_68 (sk := []), zi124_69, zi124_69n, zi124_70, zi124_73, zi124_76 (sk := []), zi124_77, zi124_77n, zi124_78, zi124_81, zi124_84 (sk := []), zi124_85, zi124_85n, zi124_86, zi124_89, zi124_92 (sk := []), zi124_93, zi124_93n, zi124_94, zi124_97, zi124_100 (sk := []), zi124_101, zi124_101n, zi124_102, zi124_105, zi124_108 (sk := []), zi124_109, zi124_111 (sk := []), zcl1, zlow_0, zlow_1, zlow_2, zlow_3, zlow_4, zfree_0, zfree_i, zfree_r, zfree_n, zfree_d, zfree_f, zfree_s, if_true, if_false, Option.bind_some, Option.toList_some, Option.toList_none, List.cons_append, List.nil_append, List.set_cons_zero, List.set_cons_succ, Bool.false_eq_true, reduceIte, zsw_c, zsw_n, Nat.reduceAdd, eq_true c0, hJ.co.1, hsel, sp_rowsThere hJ.co hA r1]
    · have loop : ∀ (m k : Nat), k + m = 8 → zrun zpp E 228 (58, [.ref 73, .int x, .int (nI (cntB th k)), .int (nI k)], [], zpf h 73 0 (.int 0)) = some (some (.int (nI (cntB th 8))), zpf h 73 0 (.int 0)) := by
        intro m
        induction m with
        | zero =>
          intro k hk
          simp only [zi228_58, zi228_59, zcl1, zlow_0, zlow_1, zlow_2, zlow_3, zlow_4, zfree_0, zfree_i, zfree_r, zfree_n, zfree_d, zfree_f, zfree_s, if_true, if_false, Option.bind_some, Option.toList_some, Option.toList_none, List.cons_append, List.nil_append, List.set_cons_zero, List.set_cons_succ, Bool.false_eq_true, reduceIte, zsw_c, zsw_n, Nat.reduceAdd]
          rw [zi228_61, if_pos (by rw [show (8 : Int32) = nI 8 from rfl, nI_leP (by omega) (by omega)]; omega)]
          simp only [zi228_87, zi228_88 (sk := []), zcl1, zlow_0, zlow_1, zlow_2, zlow_3, zlow_4, zfree_0, zfree_i, zfree_r, zfree_n, zfree_d, zfree_f, zfree_s, if_true, if_false, Option.bind_some, Option.toList_some, Option.toList_none, List.cons_append, List.nil_append, List.set_cons_zero, List.set_cons_succ, Bool.false_eq_true, reduceIte, zsw_c, zsw_n, Nat.reduceAdd]
          rw [show k = 8 by omega]
        | succ m ih =>
          intro k hk
          have ih1 := ih (k + 1) (by omega)
          rw [show cntB th (k + 1) = cntB th k + (if th k = true then 1 else 0) from rfl] at ih1
          simp only [zi228_58, zi228_59, zcl1, zlow_0, zlow_1, zlow_2, zlow_3, zlow_4, zfree_0, zfree_i, zfree_r, zfree_n, zfree_d, zfree_f, zfree_s, if_true, if_false, Option.bind_some, Option.toList_some, Option.toList_none, List.cons_append, List.nil_append, List.set_cons_zero, List.set_cons_succ, Bool.false_eq_true, reduceIte, zsw_c, zsw_n, Nat.reduceAdd]
          rw [zi228_61, if_neg (by rw [show (8 : Int32) = nI 8 from rfl, nI_leP (by omega) (by omega)]; omega)]
          have hl := r3 k (by omega)
          cases ht : th k
          · rw [ht, if_neg (by decide)] at ih1 hl
            have q : ((-1 : Int32) < 0) = True := by decide
            have q' : ((0 : Int32) ≤ -1) = False := by decide
            simp only [zi228_64, zi228_65, zi228_65n, zi228_66, zi228_69, zi228_70, zi228_71, zi228_74, zi228_75, zi228_78, zi228_79, zi228_80, zi228_81, zi228_84, zcl1, zlow_0, zlow_1, zlow_2, zlow_3, zlow_4, zfree_0, zfree_i, zfree_r, zfree_n, zfree_d, zfree_f, zfree_s, if_true, if_false, Option.bind_some, Option.toList_some, Option.toList_none, List.cons_append, List.nil_append, List.set_cons_zero, List.set_cons_succ, Bool.false_eq_true, reduceIte, zsw_c, zsw_n, Nat.reduceAdd, M1.r2, zarr_at L1.1 (show k < 8 by omega) (by omega), hl, q, q', ix_p1, ix_p0]
            exact ih1
          · rw [ht, if_pos rfl] at ih1 hl
            simp only [zi228_64, zi228_65, zi228_65n, zi228_66, zi228_69, zi228_70, zi228_71, zi228_74, zi228_75, zi228_78, zi228_79, zi228_80, zi228_81, zi228_84, zcl1, zlow_0, zlow_1, zlow_2, zlow_3, zlow_4, zfree_0, zfree_i, zfree_r, zfree_n, zfree_d, zfree_f, zfree_s, if_true, if_false, Option.bind_some, Option.toList_some, Option.toList_none, List.cons_append, List.nil_append, List.set_cons_zero, List.set_cons_succ, Bool.false_eq_true, reduceIte, zsw_c, zsw_n, Nat.reduceAdd, M1.r2, zarr_at L1.1 (show k < 8 by omega) (by omega), hl, zpos_012 (r5 k (by omega)), ix_p1]
            exact ih1
      simp only [ze228, zi228_0, zi228_0n, zi228_1, zi228_2, zi228_5, zi228_6, zi228_7, zi228_8, zi228_56, zi228_57, zcl1, zlow_0, zlow_1, zlow_2, zlow_3, zlow_4, zfree_0, zfree_i, zfree_r, zfree_n, zfree_d, zfree_f, zfree_s, if_true, if_false, Option.bind_some, Option.toList_some, Option.toList_none, List.cons_append, List.nil_append, List.set_cons_zero, List.set_cons_succ, Bool.false_eq_true, reduceIte, zsw_c, zsw_n, Nat.reduceAdd, w0, eq_true c0]
      exact loop 8 0 (by omega)
  by_cases c1 : x = Int32.ofInt 1
  · refine ⟨(nI (N 3)), h, zpf h 73 0 (.int 0), ?_, ?_, hJ.q h1 hB⟩
    · simp only [ze124, zi124_0, zi124_1, zi124_48, zi124_48n, zi124_49, zi124_52 (sk := []), zi124_53, zi124_53n, zi124_54, zi124_57, zi124_60 (sk := []), zi124_61, zi124_61n, zi124_62, zi124_65, zi124_68 (sk := []), zi124_69, zi124_69n, zi124_70, zi124_73, zi124_76 (sk := []), zi124_77, zi124_77n, zi124_78, zi124_81, zi124_84 (sk := []), zi124_85, zi124_85n, zi124_86, zi124_89, zi124_92 (sk := []), zi124_93, zi124_93n, zi124_94, zi124_97, zi124_100 (sk := []), zi124_101, zi124_101n, zi124_102, zi124_105, zi124_108 (sk := []), zi124_109, zi124_111 (sk := []), zcl1, zlow_0, zlow_1, zlow_2, zlow_3, zlow_4, zfree_0, zfree_i, zfree_r, zfree_n, zfree_d, zfree_f, zfree_s, if_true, if_false, Option.bind_some, Option.toList_some, Option.toList_none, List.cons_append, List.nil_append, List.set_cons_zero, List.set_cons_succ, Bool.false_eq_true, reduceIte, zsw_c, zsw_n, Nat.reduceAdd, eq_false c0, eq_true c1, hJ.co.r7, hJ.yn.f3]
    · simp only [ze228, zi228_0, zi228_0n, zi228_1, zi228_2, zi228_5, zi228_6, zi228_7, zi228_8, zi228_56, zi228_57, zi228_58, zi228_59, zi228_61, zi228_64, zi228_65, zi228_65n, zi228_66, zi228_69, zi228_70, zi228_71, zi228_74, zi228_75, zi228_78, zi228_79, zi228_80, zi228_81, zi228_84, zi228_87, zi228_88 (sk := []), zi228_89, zi228_89n, zi228_90, zi228_93, zi228_94, zi228_95 (sk := []), zi228_96, zi228_96n, zi228_97, zi228_100, zi228_101, zi228_102 (sk := []), zi228_103, zi228_103n, zi228_104, zi228_107, zi228_108, zi228_109 (sk := []), zi228_110, zi228_110n, zi228_111, zi228_114, zi228_116, zi228_117 (sk := []), zi228_118, zi228_118n, zi228_119, zi228_122, zi228_124, zi228_125 (sk := []), zi228_126, zi228_126n, zi228_127, zi228_130 (sk := []), zi228_131, zi228_131n, zi228_132, zi228_135 (sk := []), zi228_136, zi228_138 (sk := []), zcl1, zlow_0, zlow_1, zlow_2, zlow_3, zlow_4, zfree_0, zfree_i, zfree_r, zfree_n, zfree_d, zfree_f, zfree_s, if_true, if_false, Option.bind_some, Option.toList_some, Option.toList_none, List.cons_append, List.nil_append, List.set_cons_zero, List.set_cons_succ, Bool.false_eq_true, reduceIte, zsw_c, zsw_n, Nat.reduceAdd, w0, eq_false c0, eq_true c1, M1.r5, Y1.c 3 (by omega) (x := 3) rfl]
  by_cases c2 : x = Int32.ofInt 2
  · refine ⟨(nI (N 4)), h, zpf h 73 0 (.int 0), ?_, ?_, hJ.q h1 hB⟩
    · simp only [ze124, zi124_0, zi124_1, zi124_48, zi124_48n, zi124_49, zi124_52 (sk := []), zi124_53, zi124_53n, zi124_54, zi124_57, zi124_60 (sk := []), zi124_61, zi124_61n, zi124_62, zi124_65, zi124_68 (sk := []), zi124_69, zi124_69n, zi124_70, zi124_73, zi124_76 (sk := []), zi124_77, zi124_77n, zi124_78, zi124_81, zi124_84 (sk := []), zi124_85, zi124_85n, zi124_86, zi124_89, zi124_92 (sk := []), zi124_93, zi124_93n, zi124_94, zi124_97, zi124_100 (sk := []), zi124_101, zi124_101n, zi124_102, zi124_105, zi124_108 (sk := []), zi124_109, zi124_111 (sk := []), zcl1, zlow_0, zlow_1, zlow_2, zlow_3, zlow_4, zfree_0, zfree_i, zfree_r, zfree_n, zfree_d, zfree_f, zfree_s, if_true, if_false, Option.bind_some, Option.toList_some, Option.toList_none, List.cons_append, List.nil_append, List.set_cons_zero, List.set_cons_succ, Bool.false_eq_true, reduceIte, zsw_c, zsw_n, Nat.reduceAdd, eq_false c0, eq_false c1, eq_true c2, hJ.co.r7, hJ.yn.f4]
    · simp only [ze228, zi228_0, zi228_0n, zi228_1, zi228_2, zi228_5, zi228_6, zi228_7, zi228_8, zi228_56, zi228_57, zi228_58, zi228_59, zi228_61, zi228_64, zi228_65, zi228_65n, zi228_66, zi228_69, zi228_70, zi228_71, zi228_74, zi228_75, zi228_78, zi228_79, zi228_80, zi228_81, zi228_84, zi228_87, zi228_88 (sk := []), zi228_89, zi228_89n, zi228_90, zi228_93, zi228_94, zi228_95 (sk := []), zi228_96, zi228_96n, zi228_97, zi228_100, zi228_101, zi228_102 (sk := []), zi228_103, zi228_103n, zi228_104, zi228_107, zi228_108, zi228_109 (sk := []), zi228_110, zi228_110n, zi228_111, zi228_114, zi228_116, zi228_117 (sk := []), zi228_118, zi228_118n, zi228_119, zi228_122, zi228_124, zi228_125 (sk := []), zi228_126, zi228_126n, zi228_127, zi228_130 (sk := []), zi228_131, zi228_131n, zi228_132, zi228_135 (sk := []), zi228_136, zi228_138 (sk := []), zcl1, zlow_0, zlow_1, zlow_2, zlow_3, zlow_4, zfree_0, zfree_i, zfree_r, zfree_n, zfree_d, zfree_f, zfree_s, if_true, if_false, Option.bind_some, Option.toList_some, Option.toList_none, List.cons_append, List.nil_append, List.set_cons_zero, List.set_cons_succ, Bool.false_eq_true, reduceIte, zsw_c, zsw_n, Nat.reduceAdd, w0, eq_false c0, eq_false c1, eq_true c2, M1.r5, Y1.c 4 (by omega) (x := 4) rfl]
  by_cases c3 : x = Int32.ofInt 3
  · refine ⟨(nI (N 5)), h, zpf h 73 0 (.int 0), ?_, ?_, hJ.q h1 hB⟩
    · simp only [ze124, zi124_0, zi124_1, zi124_48, zi124_48n, zi124_49, zi124_52 (sk := []), zi124_53, zi124_53n, zi124_54, zi124_57, zi124_60 (sk := []), zi124_61, zi124_61n, zi124_62, zi124_65, zi124_68 (sk := []), zi124_69, zi124_69n, zi124_70, zi124_73, zi124_76 (sk := []), zi124_77, zi124_77n, zi124_78, zi124_81, zi124_84 (sk := []), zi124_85, zi124_85n, zi124_86, zi124_89, zi124_92 (sk := []), zi124_93, zi124_93n, zi124_94, zi124_97, zi124_100 (sk := []), zi124_101, zi124_101n, zi124_102, zi124_105, zi124_108 (sk := []), zi124_109, zi124_111 (sk := []), zcl1, zlow_0, zlow_1, zlow_2, zlow_3, zlow_4, zfree_0, zfree_i, zfree_r, zfree_n, zfree_d, zfree_f, zfree_s, if_true, if_false, Option.bind_some, Option.toList_some, Option.toList_none, List.cons_append, List.nil_append, List.set_cons_zero, List.set_cons_succ, Bool.false_eq_true, reduceIte, zsw_c, zsw_n, Nat.reduceAdd, eq_false c0, eq_false c1, eq_false c2, eq_true c3, hJ.co.r7, hJ.yn.f5]
    · simp only [ze228, zi228_0, zi228_0n, zi228_1, zi228_2, zi228_5, zi228_6, zi228_7, zi228_8, zi228_56, zi228_57, zi228_58, zi228_59, zi228_61, zi228_64, zi228_65, zi228_65n, zi228_66, zi228_69, zi228_70, zi228_71, zi228_74, zi228_75, zi228_78, zi228_79, zi228_80, zi228_81, zi228_84, zi228_87, zi228_88 (sk := []), zi228_89, zi228_89n, zi228_90, zi228_93, zi228_94, zi228_95 (sk := []), zi228_96, zi228_96n, zi228_97, zi228_100, zi228_101, zi228_102 (sk := []), zi228_103, zi228_103n, zi228_104, zi228_107, zi228_108, zi228_109 (sk := []), zi228_110, zi228_110n, zi228_111, zi228_114, zi228_116, zi228_117 (sk := []), zi228_118, zi228_118n, zi228_119, zi228_122, zi228_124, zi228_125 (sk := []), zi228_126, zi228_126n, zi228_127, zi228_130 (sk := []), zi228_131, zi228_131n, zi228_132, zi228_135 (sk := []), zi228_136, zi228_138 (sk := []), zcl1, zlow_0, zlow_1, zlow_2, zlow_3, zlow_4, zfree_0, zfree_i, zfree_r, zfree_n, zfree_d, zfree_f, zfree_s, if_true, if_false, Option.bind_some, Option.toList_some, Option.toList_none, List.cons_append, List.nil_append, List.set_cons_zero, List.set_cons_succ, Bool.false_eq_true, reduceIte, zsw_c, zsw_n, Nat.reduceAdd, w0, eq_false c0, eq_false c1, eq_false c2, eq_true c3, M1.r5, Y1.c 5 (by omega) (x := 5) rfl]
  by_cases c4 : x = Int32.ofInt 4
  · refine ⟨(nI (N 6)), h, zpf h 73 0 (.int 0), ?_, ?_, hJ.q h1 hB⟩
    · simp only [ze124, zi124_0, zi124_1, zi124_48, zi124_48n, zi124_49, zi124_52 (sk := []), zi124_53, zi124_53n, zi124_54, zi124_57, zi124_60 (sk := []), zi124_61, zi124_61n, zi124_62, zi124_65, zi124_68 (sk := []), zi124_69, zi124_69n, zi124_70, zi124_73, zi124_76 (sk := []), zi124_77, zi124_77n, zi124_78, zi124_81, zi124_84 (sk := []), zi124_85, zi124_85n, zi124_86, zi124_89, zi124_92 (sk := []), zi124_93, zi124_93n, zi124_94, zi124_97, zi124_100 (sk := []), zi124_101, zi124_101n, zi124_102, zi124_105, zi124_108 (sk := []), zi124_109, zi124_111 (sk := []), zcl1, zlow_0, zlow_1, zlow_2, zlow_3, zlow_4, zfree_0, zfree_i, zfree_r, zfree_n, zfree_d, zfree_f, zfree_s, if_true, if_false, Option.bind_some, Option.toList_some, Option.toList_none, List.cons_append, List.nil_append, List.set_cons_zero, List.set_cons_succ, Bool.false_eq_true, reduceIte, zsw_c, zsw_n, Nat.reduceAdd, eq_false c0, eq_false c1, eq_false c2, eq_false c3, eq_true c4, hJ.co.r7, hJ.yn.f16]
    · simp only [ze228, zi228_0, zi228_0n, zi228_1, zi228_2, zi228_5, zi228_6, zi228_7, zi228_8, zi228_56, zi228_57, zi228_58, zi228_59, zi228_61, zi228_64, zi228_65, zi228_65n, zi228_66, zi228_69, zi228_70, zi228_71, zi228_74, zi228_75, zi228_78, zi228_79, zi228_80, zi228_81, zi228_84, zi228_87, zi228_88 (sk := []), zi228_89, zi228_89n, zi228_90, zi228_93, zi228_94, zi228_95 (sk := []), zi228_96, zi228_96n, zi228_97, zi228_100, zi228_101, zi228_102 (sk := []), zi228_103, zi228_103n, zi228_104, zi228_107, zi228_108, zi228_109 (sk := []), zi228_110, zi228_110n, zi228_111, zi228_114, zi228_116, zi228_117 (sk := []), zi228_118, zi228_118n, zi228_119, zi228_122, zi228_124, zi228_125 (sk := []), zi228_126, zi228_126n, zi228_127, zi228_130 (sk := []), zi228_131, zi228_131n, zi228_132, zi228_135 (sk := []), zi228_136, zi228_138 (sk := []), zcl1, zlow_0, zlow_1, zlow_2, zlow_3, zlow_4, zfree_0, zfree_i, zfree_r, zfree_n, zfree_d, zfree_f, zfree_s, if_true, if_false, Option.bind_some, Option.toList_some, Option.toList_none, List.cons_append, List.nil_append, List.set_cons_zero, List.set_cons_succ, Bool.false_eq_true, reduceIte, zsw_c, zsw_n, Nat.reduceAdd, w0, eq_false c0, eq_false c1, eq_false c2, eq_false c3, eq_true c4, M1.r5, Y1.c 6 (by omega) (x := 6) rfl]
  by_cases c5 : x = Int32.ofInt 5
  · refine ⟨(nI (N 7)), h, zpf h 73 0 (.int 0), ?_, ?_, hJ.q h1 hB⟩
    · simp only [ze124, zi124_0, zi124_1, zi124_48, zi124_48n, zi124_49, zi124_52 (sk := []), zi124_53, zi124_53n, zi124_54, zi124_57, zi124_60 (sk := []), zi124_61, zi124_61n, zi124_62, zi124_65, zi124_68 (sk := []), zi124_69, zi124_69n, zi124_70, zi124_73, zi124_76 (sk := []), zi124_77, zi124_77n, zi124_78, zi124_81, zi124_84 (sk := []), zi124_85, zi124_85n, zi124_86, zi124_89, zi124_92 (sk := []), zi124_93, zi124_93n, zi124_94, zi124_97, zi124_100 (sk := []), zi124_101, zi124_101n, zi124_102, zi124_105, zi124_108 (sk := []), zi124_109, zi124_111 (sk := []), zcl1, zlow_0, zlow_1, zlow_2, zlow_3, zlow_4, zfree_0, zfree_i, zfree_r, zfree_n, zfree_d, zfree_f, zfree_s, if_true, if_false, Option.bind_some, Option.toList_some, Option.toList_none, List.cons_append, List.nil_append, List.set_cons_zero, List.set_cons_succ, Bool.false_eq_true, reduceIte, zsw_c, zsw_n, Nat.reduceAdd, eq_false c0, eq_false c1, eq_false c2, eq_false c3, eq_false c4, eq_true c5, hJ.co.r7, hJ.yn.f17]
    · simp only [ze228, zi228_0, zi228_0n, zi228_1, zi228_2, zi228_5, zi228_6, zi228_7, zi228_8, zi228_56, zi228_57, zi228_58, zi228_59, zi228_61, zi228_64, zi228_65, zi228_65n, zi228_66, zi228_69, zi228_70, zi228_71, zi228_74, zi228_75, zi228_78, zi228_79, zi228_80, zi228_81, zi228_84, zi228_87, zi228_88 (sk := []), zi228_89, zi228_89n, zi228_90, zi228_93, zi228_94, zi228_95 (sk := []), zi228_96, zi228_96n, zi228_97, zi228_100, zi228_101, zi228_102 (sk := []), zi228_103, zi228_103n, zi228_104, zi228_107, zi228_108, zi228_109 (sk := []), zi228_110, zi228_110n, zi228_111, zi228_114, zi228_116, zi228_117 (sk := []), zi228_118, zi228_118n, zi228_119, zi228_122, zi228_124, zi228_125 (sk := []), zi228_126, zi228_126n, zi228_127, zi228_130 (sk := []), zi228_131, zi228_131n, zi228_132, zi228_135 (sk := []), zi228_136, zi228_138 (sk := []), zcl1, zlow_0, zlow_1, zlow_2, zlow_3, zlow_4, zfree_0, zfree_i, zfree_r, zfree_n, zfree_d, zfree_f, zfree_s, if_true, if_false, Option.bind_some, Option.toList_some, Option.toList_none, List.cons_append, List.nil_append, List.set_cons_zero, List.set_cons_succ, Bool.false_eq_true, reduceIte, zsw_c, zsw_n, Nat.reduceAdd, w0, eq_false c0, eq_false c1, eq_false c2, eq_false c3, eq_false c4, eq_true c5, M1.r5, Y1.c 7 (by omega) (x := 7) rfl]
  by_cases c6 : x = Int32.ofInt 6
  · obtain ⟨A, R, W, m, a1, a2, a3, -⟩ := hJ.act
    have f : zfld [11] (zpf h 73 0 (.int 0)) 73 8 = some (.int (sc 8)) := M1.i 8 rfl (by omega)
    refine ⟨(nI A), h, zpf h 73 0 (.int 0), ?_, ?_, hJ.q h1 hB⟩
    · simp only [ze124, zi124_0, zi124_1, zi124_48, zi124_48n, zi124_49, zi124_52 (sk := []), zi124_53, zi124_53n, zi124_54, zi124_57, zi124_60 (sk := []), zi124_61, zi124_61n, zi124_62, zi124_65, zi124_68 (sk := []), zi124_69, zi124_69n, zi124_70, zi124_73, zi124_76 (sk := []), zi124_77, zi124_77n, zi124_78, zi124_81, zi124_84 (sk := []), zi124_85, zi124_85n, zi124_86, zi124_89, zi124_92 (sk := []), zi124_93, zi124_93n, zi124_94, zi124_97, zi124_100 (sk := []), zi124_101, zi124_101n, zi124_102, zi124_105, zi124_108 (sk := []), zi124_109, zi124_111 (sk := []), zcl1, zlow_0, zlow_1, zlow_2, zlow_3, zlow_4, zfree_0, zfree_i, zfree_r, zfree_n, zfree_d, zfree_f, zfree_s, if_true, if_false, Option.bind_some, Option.toList_some, Option.toList_none, List.cons_append, List.nil_append, List.set_cons_zero, List.set_cons_succ, Bool.false_eq_true, reduceIte, zsw_c, zsw_n, Nat.reduceAdd, eq_false c0, eq_false c1, eq_false c2, eq_false c3, eq_false c4, eq_false c5, eq_true c6, hJ.co.r3, a3.kept]
    · simp only [ze228, zi228_0, zi228_0n, zi228_1, zi228_2, zi228_5, zi228_6, zi228_7, zi228_8, zi228_56, zi228_57, zi228_58, zi228_59, zi228_61, zi228_64, zi228_65, zi228_65n, zi228_66, zi228_69, zi228_70, zi228_71, zi228_74, zi228_75, zi228_78, zi228_79, zi228_80, zi228_81, zi228_84, zi228_87, zi228_88 (sk := []), zi228_89, zi228_89n, zi228_90, zi228_93, zi228_94, zi228_95 (sk := []), zi228_96, zi228_96n, zi228_97, zi228_100, zi228_101, zi228_102 (sk := []), zi228_103, zi228_103n, zi228_104, zi228_107, zi228_108, zi228_109 (sk := []), zi228_110, zi228_110n, zi228_111, zi228_114, zi228_116, zi228_117 (sk := []), zi228_118, zi228_118n, zi228_119, zi228_122, zi228_124, zi228_125 (sk := []), zi228_126, zi228_126n, zi228_127, zi228_130 (sk := []), zi228_131, zi228_131n, zi228_132, zi228_135 (sk := []), zi228_136, zi228_138 (sk := []), zcl1, zlow_0, zlow_1, zlow_2, zlow_3, zlow_4, zfree_0, zfree_i, zfree_r, zfree_n, zfree_d, zfree_f, zfree_s, if_true, if_false, Option.bind_some, Option.toList_some, Option.toList_none, List.cons_append, List.nil_append, List.set_cons_zero, List.set_cons_succ, Bool.false_eq_true, reduceIte, zsw_c, zsw_n, Nat.reduceAdd, w0, eq_false c0, eq_false c1, eq_false c2, eq_false c3, eq_false c4, eq_false c5, eq_true c6, f, a2]
  by_cases c7 : x = Int32.ofInt 7
  · obtain ⟨r, T, tl, hR, -, -, t1, t2, -⟩ := hJ.tape
    have f : zfld [11] (zpf h 73 0 (.int 0)) 73 10 = some (.int (sc 10)) := M1.i 10 rfl (by omega)
    refine ⟨(nI tl), h, zpf h 73 0 (.int 0), ?_, ?_, hJ.q h1 hB⟩
    · simp only [ze124, zi124_0, zi124_1, zi124_48, zi124_48n, zi124_49, zi124_52 (sk := []), zi124_53, zi124_53n, zi124_54, zi124_57, zi124_60 (sk := []), zi124_61, zi124_61n, zi124_62, zi124_65, zi124_68 (sk := []), zi124_69, zi124_69n, zi124_70, zi124_73, zi124_76 (sk := []), zi124_77, zi124_77n, zi124_78, zi124_81, zi124_84 (sk := []), zi124_85, zi124_85n, zi124_86, zi124_89, zi124_92 (sk := []), zi124_93, zi124_93n, zi124_94, zi124_97, zi124_100 (sk := []), zi124_101, zi124_101n, zi124_102, zi124_105, zi124_108 (sk := []), zi124_109, zi124_111 (sk := []), zcl1, zlow_0, zlow_1, zlow_2, zlow_3, zlow_4, zfree_0, zfree_i, zfree_r, zfree_n, zfree_d, zfree_f, zfree_s, if_true, if_false, Option.bind_some, Option.toList_some, Option.toList_none, List.cons_append, List.nil_append, List.set_cons_zero, List.set_cons_succ, Bool.false_eq_true, reduceIte, zsw_c, zsw_n, Nat.reduceAdd, eq_false c0, eq_false c1, eq_false c2, eq_false c3, eq_false c4, eq_false c5, eq_false c6, eq_true c7, hJ.co.r1, hR.2.2.1 1 (by omega) (by omega), t1]
    · simp only [ze228, zi228_0, zi228_0n, zi228_1, zi228_2, zi228_5, zi228_6, zi228_7, zi228_8, zi228_56, zi228_57, zi228_58, zi228_59, zi228_61, zi228_64, zi228_65, zi228_65n, zi228_66, zi228_69, zi228_70, zi228_71, zi228_74, zi228_75, zi228_78, zi228_79, zi228_80, zi228_81, zi228_84, zi228_87, zi228_88 (sk := []), zi228_89, zi228_89n, zi228_90, zi228_93, zi228_94, zi228_95 (sk := []), zi228_96, zi228_96n, zi228_97, zi228_100, zi228_101, zi228_102 (sk := []), zi228_103, zi228_103n, zi228_104, zi228_107, zi228_108, zi228_109 (sk := []), zi228_110, zi228_110n, zi228_111, zi228_114, zi228_116, zi228_117 (sk := []), zi228_118, zi228_118n, zi228_119, zi228_122, zi228_124, zi228_125 (sk := []), zi228_126, zi228_126n, zi228_127, zi228_130 (sk := []), zi228_131, zi228_131n, zi228_132, zi228_135 (sk := []), zi228_136, zi228_138 (sk := []), zcl1, zlow_0, zlow_1, zlow_2, zlow_3, zlow_4, zfree_0, zfree_i, zfree_r, zfree_n, zfree_d, zfree_f, zfree_s, if_true, if_false, Option.bind_some, Option.toList_some, Option.toList_none, List.cons_append, List.nil_append, List.set_cons_zero, List.set_cons_succ, Bool.false_eq_true, reduceIte, zsw_c, zsw_n, Nat.reduceAdd, w0, eq_false c0, eq_false c1, eq_false c2, eq_false c3, eq_false c4, eq_false c5, eq_false c6, eq_true c7, f, t2]
  refine ⟨(-1000001), h, zpf h 73 0 (.int 0), ?_, ?_, hJ.q h1 hB⟩
  · simp only [ze124, zi124_0, zi124_1, zi124_48, zi124_48n, zi124_49, zi124_52 (sk := []), zi124_53, zi124_53n, zi124_54, zi124_57, zi124_60 (sk := []), zi124_61, zi124_61n, zi124_62, zi124_65, zi124_68 (sk := []), zi124_69, zi124_69n, zi124_70, zi124_73, zi124_76 (sk := []), zi124_77, zi124_77n, zi124_78, zi124_81, zi124_84 (sk := []), zi124_85, zi124_85n, zi124_86, zi124_89, zi124_92 (sk := []), zi124_93, zi124_93n, zi124_94, zi124_97, zi124_100 (sk := []), zi124_101, zi124_101n, zi124_102, zi124_105, zi124_108 (sk := []), zi124_109, zi124_111 (sk := []), zcl1, zlow_0, zlow_1, zlow_2, zlow_3, zlow_4, zfree_0, zfree_i, zfree_r, zfree_n, zfree_d, zfree_f, zfree_s, if_true, if_false, Option.bind_some, Option.toList_some, Option.toList_none, List.cons_append, List.nil_append, List.set_cons_zero, List.set_cons_succ, Bool.false_eq_true, reduceIte, zsw_c, zsw_n, Nat.reduceAdd, eq_false c0, eq_false c1, eq_false c2, eq_false c3, eq_false c4, eq_false c5, eq_false c6, eq_false c7]
  · simp only [ze228, zi228_0, zi228_0n, zi228_1, zi228_2, zi228_5, zi228_6, zi228_7, zi228_8, zi228_56, zi228_57, zi228_58, zi228_59, zi228_61, zi228_64, zi228_65, zi228_65n, zi228_66, zi228_69, zi228_70, zi228_71, zi228_74, zi228_75, zi228_78, zi228_79, zi228_80, zi228_81, zi228_84, zi228_87, zi228_88 (sk := []), zi228_89, zi228_89n, zi228_90, zi228_93, zi228_94, zi228_95 (sk := []), zi228_96, zi228_96n, zi228_97, zi228_100, zi228_101, zi228_102 (sk := []), zi228_103, zi228_103n, zi228_104, zi228_107, zi228_108, zi228_109 (sk := []), zi228_110, zi228_110n, zi228_111, zi228_114, zi228_116, zi228_117 (sk := []), zi228_118, zi228_118n, zi228_119, zi228_122, zi228_124, zi228_125 (sk := []), zi228_126, zi228_126n, zi228_127, zi228_130 (sk := []), zi228_131, zi228_131n, zi228_132, zi228_135 (sk := []), zi228_136, zi228_138 (sk := []), zcl1, zlow_0, zlow_1, zlow_2, zlow_3, zlow_4, zfree_0, zfree_i, zfree_r, zfree_n, zfree_d, zfree_f, zfree_s, if_true, if_false, Option.bind_some, Option.toList_some, Option.toList_none, List.cons_append, List.nil_append, List.set_cons_zero, List.set_cons_succ, Bool.false_eq_true, reduceIte, zsw_c, zsw_n, Nat.reduceAdd, w0, eq_false c0, eq_false c1, eq_false c2, eq_false c3, eq_false c4, eq_false c5, eq_false c6, eq_false c7]
end ASK
