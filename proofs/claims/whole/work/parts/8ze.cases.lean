/-! THE LAW: its calls, one by one (printed by gen/cases.py) -/
theorem zstf_cls {h H : zH} {f ty : Nat} {v : Value} (e : zstf [11] ty h 73 f v = some H) : zcls h 73 = some 11 := by
  unfold zstf at e
  unfold zcls
  cases hc : h[73]? with
  | none => rw [hc] at e; cases e
  | some c =>
    rw [hc] at e
    cases c with
    | inr q => cases e
    | inl p =>
      obtain ⟨c, fs⟩ := p
      by_cases h11 : c = 11
      · rw [h11]
      · have z : [11].contains c = false := by simp [h11]
        have e : (if ([11].contains c && zfits ty v && decide (f < fs.length)) = true then some (h.set 73 (.inl (c, fs.set f v))) else none) = some H := e
        rw [z, Bool.false_and, Bool.false_and, if_neg (by decide)] at e
        cases e
theorem lcmp_s {x : Int64} : (lg_cmp x x = 0) = True := by
  rw [lg_cmp_eq, eq_self]
def LC (E : zE) (n i : Nat) (q : Option zR) : Prop := ∃ h2, q = zrun zpp E 0 (1301, [.float 0, .ref 0, .ref 73, .int (nI i)], [], h2) ∧ J h2 (n + 1)
theorem nI_pk (a b : Nat) : nI a + nI b = nI (a + b) := nI_add a b
theorem lx_1 {E : zE} {i : Nat} (hE : E.1 ≤ 384) (hi : i + 6 ≤ E.1) : zix (nI i + 1) E.1 = true ∧ (nI i + 1).toNatClampNeg = i + 1 := by
  rw [show (1 : Int32) = nI 1 from rfl, nI_pk]
  exact ⟨zix_nI (by omega) (by omega), nI_clamp (by omega)⟩
theorem lx_2 {E : zE} {i : Nat} (hE : E.1 ≤ 384) (hi : i + 6 ≤ E.1) : zix (nI i + 2) E.1 = true ∧ (nI i + 2).toNatClampNeg = i + 2 := by
  rw [show (2 : Int32) = nI 2 from rfl, nI_pk]
  exact ⟨zix_nI (by omega) (by omega), nI_clamp (by omega)⟩
theorem lx_3 {E : zE} {i : Nat} (hE : E.1 ≤ 384) (hi : i + 6 ≤ E.1) : zix (nI i + 3) E.1 = true ∧ (nI i + 3).toNatClampNeg = i + 3 := by
  rw [show (3 : Int32) = nI 3 from rfl, nI_pk]
  exact ⟨zix_nI (by omega) (by omega), nI_clamp (by omega)⟩
theorem lx_4 {E : zE} {i : Nat} (hE : E.1 ≤ 384) (hi : i + 6 ≤ E.1) : zix (nI i + 4) E.1 = true ∧ (nI i + 4).toNatClampNeg = i + 4 := by
  rw [show (4 : Int32) = nI 4 from rfl, nI_pk]
  exact ⟨zix_nI (by omega) (by omega), nI_clamp (by omega)⟩
theorem lx_5 {E : zE} {i : Nat} (hE : E.1 ≤ 384) (hi : i + 6 ≤ E.1) : zix (nI i + 5) E.1 = true ∧ (nI i + 5).toNatClampNeg = i + 5 := by
  rw [show (5 : Int32) = nI 5 from rfl, nI_pk]
  exact ⟨zix_nI (by omega) (by omega), nI_clamp (by omega)⟩
section LCS
variable {E : zE} {h : zH} {n i : Nat}
theorem m11_152 {r : zR} {x1 : Int32} {x2 : Int32} {x3 : Int32} (e : zcall zpp E 152 [.ref 73, .int x1, .int x2, .int x3] h = some r) : zcls h 73 = some 11 := by
  cases hz : zstf [11] 0 h 73 0 (.int 0) with
  | some H => exact zstf_cls hz
  | none =>
    have q : zcall zpp E 152 [.ref 73, .int x1, .int x2, .int x3] h = none := by
      simp only [ze152, zi152_0, zi152_0n, zi152_1, zi152_2, zcl1, zlow_0, zlow_1, zlow_2, zlow_3, zlow_4, zfree_0, zfree_i, zfree_r, zfree_n, zfree_d, zfree_f, zfree_s, if_true, if_false, Option.bind_some, Option.toList_some, Option.toList_none, List.cons_append, List.nil_append, List.set_cons_zero, List.set_cons_succ, Bool.false_eq_true, reduceIte, zsw_c, zsw_n, Nat.reduceAdd, hz, Option.bind_none]
    rw [q] at e
    cases e
theorem lc_row (hE : E.1 ≤ 384) (hi : i + 6 ≤ E.1) (c0 : zcls h 0 = some 10) (O : OK E h n 90 152 [.int (E.2 (i + 1)), .int (E.2 (i + 2)), .int (E.2 (i + 3))]) : LC E n i (zrun zpp E 0 (192, [.float 0, .ref 0, .ref 73, .int (nI i)], [], h)) := by
  obtain ⟨r, h1, h2, a1, a2, a3⟩ := O
  have c1 : zsel 10 [10, 90] = some 90 := rfl
  have c2 : zsel 11 [11, 152] = some 152 := rfl
  refine ⟨h2, ?_, a3⟩
  conv =>
    lhs
    simp only [zi0_192, zi0_192n, zi0_192f, zi0_193, zi0_193n, zi0_193f, zi0_194, zi0_195, zi0_196, zi0_197, zi0_198, zi0_198n, zi0_198f, zi0_199, zi0_200, zi0_201, zi0_202, zi0_203, zi0_203n, zi0_203f, zi0_204, zi0_205, zi0_206, zi0_207, zi0_208, zi0_211, zi0_211n, zi0_211f, zi0_212, zi0_212n, zi0_212f, zi0_213, zi0_214, zi0_215, zi0_216, zi0_217, zi0_217n, zi0_217f, zi0_218, zi0_219, zi0_220, zi0_221, zi0_222, zi0_222n, zi0_222f, zi0_223, zi0_224, zi0_225, zi0_226, zi0_227, zi0_230, zcl1, zlow_0, zlow_1, zlow_2, zlow_3, zlow_4, zfree_0, zfree_i, zfree_r, zfree_n, zfree_d, zfree_f, zfree_s, if_true, if_false, Option.bind_some, Option.toList_some, Option.toList_none, List.cons_append, List.nil_append, List.set_cons_zero, List.set_cons_succ, Bool.false_eq_true, reduceIte, zsw_c, zsw_n, Nat.reduceAdd, (lx_1 hE hi).1, (lx_1 hE hi).2, (lx_2 hE hi).1, (lx_2 hE hi).2, (lx_3 hE hi).1, (lx_3 hE hi).2, c0, c1, a1, m11_152 a2, c2, a2, eq_self]
theorem m11_153 {r : zR} {x1 : Int32} {x2 : Int32} {x3 : Int32} (e : zcall zpp E 153 [.ref 73, .int x1, .int x2, .int x3] h = some r) : zcls h 73 = some 11 := by
  cases hz : zstf [11] 0 h 73 0 (.int 0) with
  | some H => exact zstf_cls hz
  | none =>
    have q : zcall zpp E 153 [.ref 73, .int x1, .int x2, .int x3] h = none := by
      simp only [ze153, zi153_0, zi153_0n, zi153_1, zi153_2, zcl1, zlow_0, zlow_1, zlow_2, zlow_3, zlow_4, zfree_0, zfree_i, zfree_r, zfree_n, zfree_d, zfree_f, zfree_s, if_true, if_false, Option.bind_some, Option.toList_some, Option.toList_none, List.cons_append, List.nil_append, List.set_cons_zero, List.set_cons_succ, Bool.false_eq_true, reduceIte, zsw_c, zsw_n, Nat.reduceAdd, hz, Option.bind_none]
    rw [q] at e
    cases e
theorem lc_set (hE : E.1 ≤ 384) (hi : i + 6 ≤ E.1) (c0 : zcls h 0 = some 10) (O : OK E h n 91 153 [.int (E.2 (i + 1)), .int (E.2 (i + 2)), .int (E.2 (i + 3))]) : LC E n i (zrun zpp E 0 (235, [.float 0, .ref 0, .ref 73, .int (nI i)], [], h)) := by
  obtain ⟨r, h1, h2, a1, a2, a3⟩ := O
  have c1 : zsel 10 [10, 91] = some 91 := rfl
  have c2 : zsel 11 [11, 153] = some 153 := rfl
  refine ⟨h2, ?_, a3⟩
  conv =>
    lhs
    simp only [zi0_235, zi0_235n, zi0_235f, zi0_236, zi0_236n, zi0_236f, zi0_237, zi0_238, zi0_239, zi0_240, zi0_241, zi0_241n, zi0_241f, zi0_242, zi0_243, zi0_244, zi0_245, zi0_246, zi0_246n, zi0_246f, zi0_247, zi0_248, zi0_249, zi0_250, zi0_251, zi0_254, zi0_254n, zi0_254f, zi0_255, zi0_255n, zi0_255f, zi0_256, zi0_257, zi0_258, zi0_259, zi0_260, zi0_260n, zi0_260f, zi0_261, zi0_262, zi0_263, zi0_264, zi0_265, zi0_265n, zi0_265f, zi0_266, zi0_267, zi0_268, zi0_269, zi0_270, zi0_273, zcl1, zlow_0, zlow_1, zlow_2, zlow_3, zlow_4, zfree_0, zfree_i, zfree_r, zfree_n, zfree_d, zfree_f, zfree_s, if_true, if_false, Option.bind_some, Option.toList_some, Option.toList_none, List.cons_append, List.nil_append, List.set_cons_zero, List.set_cons_succ, Bool.false_eq_true, reduceIte, zsw_c, zsw_n, Nat.reduceAdd, (lx_1 hE hi).1, (lx_1 hE hi).2, (lx_2 hE hi).1, (lx_2 hE hi).2, (lx_3 hE hi).1, (lx_3 hE hi).2, c0, c1, a1, m11_153 a2, c2, a2, eq_self]
theorem m11_154 {r : zR} {x1 : Int32} {x2 : Int32} {x3 : Int32} {x4 : Int32} {x5 : Int32} (e : zcall zpp E 154 [.ref 73, .int x1, .int x2, .int x3, .int x4, .int x5] h = some r) : zcls h 73 = some 11 := by
  cases hz : zstf [11] 0 h 73 0 (.int 0) with
  | some H => exact zstf_cls hz
  | none =>
    have q : zcall zpp E 154 [.ref 73, .int x1, .int x2, .int x3, .int x4, .int x5] h = none := by
      simp only [ze154, zi154_0, zi154_0n, zi154_1, zi154_2, zcl1, zlow_0, zlow_1, zlow_2, zlow_3, zlow_4, zfree_0, zfree_i, zfree_r, zfree_n, zfree_d, zfree_f, zfree_s, if_true, if_false, Option.bind_some, Option.toList_some, Option.toList_none, List.cons_append, List.nil_append, List.set_cons_zero, List.set_cons_succ, Bool.false_eq_true, reduceIte, zsw_c, zsw_n, Nat.reduceAdd, hz, Option.bind_none]
    rw [q] at e
    cases e
theorem lc_copy (hE : E.1 ≤ 384) (hi : i + 6 ≤ E.1) (c0 : zcls h 0 = some 10) (O : OK E h n 92 154 [.int (E.2 (i + 1)), .int (E.2 (i + 2)), .int (E.2 (i + 3)), .int (E.2 (i + 4)), .int (E.2 (i + 5))]) : LC E n i (zrun zpp E 0 (278, [.float 0, .ref 0, .ref 73, .int (nI i)], [], h)) := by
  obtain ⟨r, h1, h2, a1, a2, a3⟩ := O
  have c1 : zsel 10 [10, 92] = some 92 := rfl
  have c2 : zsel 11 [11, 154] = some 154 := rfl
  refine ⟨h2, ?_, a3⟩
  conv =>
    lhs
    simp only [zi0_278, zi0_278n, zi0_278f, zi0_279, zi0_279n, zi0_279f, zi0_280, zi0_281, zi0_282, zi0_283, zi0_284, zi0_284n, zi0_284f, zi0_285, zi0_286, zi0_287, zi0_288, zi0_289, zi0_289n, zi0_289f, zi0_290, zi0_291, zi0_292, zi0_293, zi0_294, zi0_294n, zi0_294f, zi0_295, zi0_296, zi0_297, zi0_298, zi0_299, zi0_299n, zi0_299f, zi0_300, zi0_301, zi0_302, zi0_303, zi0_304, zi0_307, zi0_307n, zi0_307f, zi0_308, zi0_308n, zi0_308f, zi0_309, zi0_310, zi0_311, zi0_312, zi0_313, zi0_313n, zi0_313f, zi0_314, zi0_315, zi0_316, zi0_317, zi0_318, zi0_318n, zi0_318f, zi0_319, zi0_320, zi0_321, zi0_322, zi0_323, zi0_323n, zi0_323f, zi0_324, zi0_325, zi0_326, zi0_327, zi0_328, zi0_328n, zi0_328f, zi0_329, zi0_330, zi0_331, zi0_332, zi0_333, zi0_336, zcl1, zlow_0, zlow_1, zlow_2, zlow_3, zlow_4, zfree_0, zfree_i, zfree_r, zfree_n, zfree_d, zfree_f, zfree_s, if_true, if_false, Option.bind_some, Option.toList_some, Option.toList_none, List.cons_append, List.nil_append, List.set_cons_zero, List.set_cons_succ, Bool.false_eq_true, reduceIte, zsw_c, zsw_n, Nat.reduceAdd, (lx_1 hE hi).1, (lx_1 hE hi).2, (lx_2 hE hi).1, (lx_2 hE hi).2, (lx_3 hE hi).1, (lx_3 hE hi).2, (lx_4 hE hi).1, (lx_4 hE hi).2, (lx_5 hE hi).1, (lx_5 hE hi).2, c0, c1, a1, m11_154 a2, c2, a2, eq_self]
theorem m11_155 {r : zR} {x1 : Int32} (e : zcall zpp E 155 [.ref 73, .int x1] h = some r) : zcls h 73 = some 11 := by
  cases hz : zstf [11] 0 h 73 0 (.int 0) with
  | some H => exact zstf_cls hz
  | none =>
    have q : zcall zpp E 155 [.ref 73, .int x1] h = none := by
      simp only [ze155, zi155_0, zi155_0n, zi155_1, zi155_2, zcl1, zlow_0, zlow_1, zlow_2, zlow_3, zlow_4, zfree_0, zfree_i, zfree_r, zfree_n, zfree_d, zfree_f, zfree_s, if_true, if_false, Option.bind_some, Option.toList_some, Option.toList_none, List.cons_append, List.nil_append, List.set_cons_zero, List.set_cons_succ, Bool.false_eq_true, reduceIte, zsw_c, zsw_n, Nat.reduceAdd, hz, Option.bind_none]
    rw [q] at e
    cases e
theorem lc_drop (hE : E.1 ≤ 384) (hi : i + 6 ≤ E.1) (c0 : zcls h 0 = some 10) (O : OK E h n 93 155 [.int (E.2 (i + 1))]) : LC E n i (zrun zpp E 0 (341, [.float 0, .ref 0, .ref 73, .int (nI i)], [], h)) := by
  obtain ⟨r, h1, h2, a1, a2, a3⟩ := O
  have c1 : zsel 10 [10, 93] = some 93 := rfl
  have c2 : zsel 11 [11, 155] = some 155 := rfl
  refine ⟨h2, ?_, a3⟩
  conv =>
    lhs
    simp only [zi0_341, zi0_341n, zi0_341f, zi0_342, zi0_342n, zi0_342f, zi0_343, zi0_344, zi0_345, zi0_346, zi0_347, zi0_350, zi0_350n, zi0_350f, zi0_351, zi0_351n, zi0_351f, zi0_352, zi0_353, zi0_354, zi0_355, zi0_356, zi0_359, zcl1, zlow_0, zlow_1, zlow_2, zlow_3, zlow_4, zfree_0, zfree_i, zfree_r, zfree_n, zfree_d, zfree_f, zfree_s, if_true, if_false, Option.bind_some, Option.toList_some, Option.toList_none, List.cons_append, List.nil_append, List.set_cons_zero, List.set_cons_succ, Bool.false_eq_true, reduceIte, zsw_c, zsw_n, Nat.reduceAdd, (lx_1 hE hi).1, (lx_1 hE hi).2, c0, c1, a1, m11_155 a2, c2, a2, eq_self]
theorem m11_156 {r : zR} {x1 : Int32} (e : zcall zpp E 156 [.ref 73, .int x1] h = some r) : zcls h 73 = some 11 := by
  cases hz : zstf [11] 0 h 73 0 (.int 0) with
  | some H => exact zstf_cls hz
  | none =>
    have q : zcall zpp E 156 [.ref 73, .int x1] h = none := by
      simp only [ze156, zi156_0, zi156_0n, zi156_1, zi156_2, zcl1, zlow_0, zlow_1, zlow_2, zlow_3, zlow_4, zfree_0, zfree_i, zfree_r, zfree_n, zfree_d, zfree_f, zfree_s, if_true, if_false, Option.bind_some, Option.toList_some, Option.toList_none, List.cons_append, List.nil_append, List.set_cons_zero, List.set_cons_succ, Bool.false_eq_true, reduceIte, zsw_c, zsw_n, Nat.reduceAdd, hz, Option.bind_none]
    rw [q] at e
    cases e
theorem lc_feed (hE : E.1 ≤ 384) (hi : i + 6 ≤ E.1) (c0 : zcls h 0 = some 10) (O : OK E h n 94 156 [.int (E.2 (i + 1))]) : LC E n i (zrun zpp E 0 (364, [.float 0, .ref 0, .ref 73, .int (nI i)], [], h)) := by
  obtain ⟨r, h1, h2, a1, a2, a3⟩ := O
  have c1 : zsel 10 [10, 94] = some 94 := rfl
  have c2 : zsel 11 [11, 156] = some 156 := rfl
  refine ⟨h2, ?_, a3⟩
  conv =>
    lhs
    simp only [zi0_364, zi0_364n, zi0_364f, zi0_365, zi0_365n, zi0_365f, zi0_366, zi0_367, zi0_368, zi0_369, zi0_370, zi0_373, zi0_373n, zi0_373f, zi0_374, zi0_374n, zi0_374f, zi0_375, zi0_376, zi0_377, zi0_378, zi0_379, zi0_382, zcl1, zlow_0, zlow_1, zlow_2, zlow_3, zlow_4, zfree_0, zfree_i, zfree_r, zfree_n, zfree_d, zfree_f, zfree_s, if_true, if_false, Option.bind_some, Option.toList_some, Option.toList_none, List.cons_append, List.nil_append, List.set_cons_zero, List.set_cons_succ, Bool.false_eq_true, reduceIte, zsw_c, zsw_n, Nat.reduceAdd, (lx_1 hE hi).1, (lx_1 hE hi).2, c0, c1, a1, m11_156 a2, c2, a2, eq_self]
theorem m11_171 {r : zR} (e : zcall zpp E 171 [.ref 73] h = some r) : zcls h 73 = some 11 := by
  cases hz : zstf [11] 0 h 73 0 (.int 0) with
  | some H => exact zstf_cls hz
  | none =>
    have q : zcall zpp E 171 [.ref 73] h = none := by
      simp only [ze171, zi171_0, zi171_0n, zi171_1, zi171_2, zcl1, zlow_0, zlow_1, zlow_2, zlow_3, zlow_4, zfree_0, zfree_i, zfree_r, zfree_n, zfree_d, zfree_f, zfree_s, if_true, if_false, Option.bind_some, Option.toList_some, Option.toList_none, List.cons_append, List.nil_append, List.set_cons_zero, List.set_cons_succ, Bool.false_eq_true, reduceIte, zsw_c, zsw_n, Nat.reduceAdd, hz, Option.bind_none]
    rw [q] at e
    cases e
theorem lc_yard (hE : E.1 ≤ 384) (hi : i + 6 ≤ E.1) (c0 : zcls h 0 = some 10) (O : OK E h n 95 171 []) : LC E n i (zrun zpp E 0 (387, [.float 0, .ref 0, .ref 73, .int (nI i)], [], h)) := by
  obtain ⟨r, h1, h2, a1, a2, a3⟩ := O
  have c1 : zsel 10 [10, 95] = some 95 := rfl
  have c2 : zsel 11 [11, 171] = some 171 := rfl
  refine ⟨h2, ?_, a3⟩
  conv =>
    lhs
    simp only [zi0_387, zi0_387n, zi0_387f, zi0_388, zi0_391, zi0_391n, zi0_391f, zi0_392, zi0_395, zcl1, zlow_0, zlow_1, zlow_2, zlow_3, zlow_4, zfree_0, zfree_i, zfree_r, zfree_n, zfree_d, zfree_f, zfree_s, if_true, if_false, Option.bind_some, Option.toList_some, Option.toList_none, List.cons_append, List.nil_append, List.set_cons_zero, List.set_cons_succ, Bool.false_eq_true, reduceIte, zsw_c, zsw_n, Nat.reduceAdd, c0, c1, a1, m11_171 a2, c2, a2, eq_self]
theorem m11_165 {r : zR} (e : zcall zpp E 165 [.ref 73] h = some r) : zcls h 73 = some 11 := by
  cases hz : zstf [11] 0 h 73 0 (.int 0) with
  | some H => exact zstf_cls hz
  | none =>
    have q : zcall zpp E 165 [.ref 73] h = none := by
      simp only [ze165, zi165_0, zi165_0n, zi165_1, zi165_2, zcl1, zlow_0, zlow_1, zlow_2, zlow_3, zlow_4, zfree_0, zfree_i, zfree_r, zfree_n, zfree_d, zfree_f, zfree_s, if_true, if_false, Option.bind_some, Option.toList_some, Option.toList_none, List.cons_append, List.nil_append, List.set_cons_zero, List.set_cons_succ, Bool.false_eq_true, reduceIte, zsw_c, zsw_n, Nat.reduceAdd, hz, Option.bind_none]
    rw [q] at e
    cases e
theorem lc_fault (hE : E.1 ≤ 384) (hi : i + 6 ≤ E.1) (c0 : zcls h 0 = some 10) (O : OK E h n 96 165 []) : LC E n i (zrun zpp E 0 (400, [.float 0, .ref 0, .ref 73, .int (nI i)], [], h)) := by
  obtain ⟨r, h1, h2, a1, a2, a3⟩ := O
  have c1 : zsel 10 [10, 96] = some 96 := rfl
  have c2 : zsel 11 [11, 165] = some 165 := rfl
  refine ⟨h2, ?_, a3⟩
  conv =>
    lhs
    simp only [zi0_400, zi0_400n, zi0_400f, zi0_401, zi0_404, zi0_404n, zi0_404f, zi0_405, zi0_408, zcl1, zlow_0, zlow_1, zlow_2, zlow_3, zlow_4, zfree_0, zfree_i, zfree_r, zfree_n, zfree_d, zfree_f, zfree_s, if_true, if_false, Option.bind_some, Option.toList_some, Option.toList_none, List.cons_append, List.nil_append, List.set_cons_zero, List.set_cons_succ, Bool.false_eq_true, reduceIte, zsw_c, zsw_n, Nat.reduceAdd, c0, c1, a1, m11_165 a2, c2, a2, eq_self]
theorem m11_194 {r : zR} (e : zcall zpp E 194 [.ref 73] h = some r) : zcls h 73 = some 11 := by
  cases hz : zstf [11] 0 h 73 0 (.int 0) with
  | some H => exact zstf_cls hz
  | none =>
    have q : zcall zpp E 194 [.ref 73] h = none := by
      simp only [ze194, zi194_0, zi194_0n, zi194_1, zi194_2, zcl1, zlow_0, zlow_1, zlow_2, zlow_3, zlow_4, zfree_0, zfree_i, zfree_r, zfree_n, zfree_d, zfree_f, zfree_s, if_true, if_false, Option.bind_some, Option.toList_some, Option.toList_none, List.cons_append, List.nil_append, List.set_cons_zero, List.set_cons_succ, Bool.false_eq_true, reduceIte, zsw_c, zsw_n, Nat.reduceAdd, hz, Option.bind_none]
    rw [q] at e
    cases e
theorem lc_undo (hE : E.1 ≤ 384) (hi : i + 6 ≤ E.1) (c0 : zcls h 0 = some 10) (O : OK E h n 97 194 []) : LC E n i (zrun zpp E 0 (413, [.float 0, .ref 0, .ref 73, .int (nI i)], [], h)) := by
  obtain ⟨r, h1, h2, a1, a2, a3⟩ := O
  have c1 : zsel 10 [10, 97] = some 97 := rfl
  have c2 : zsel 11 [11, 194] = some 194 := rfl
  refine ⟨h2, ?_, a3⟩
  conv =>
    lhs
    simp only [zi0_413, zi0_413n, zi0_413f, zi0_414, zi0_417, zi0_417n, zi0_417f, zi0_418, zi0_421, zcl1, zlow_0, zlow_1, zlow_2, zlow_3, zlow_4, zfree_0, zfree_i, zfree_r, zfree_n, zfree_d, zfree_f, zfree_s, if_true, if_false, Option.bind_some, Option.toList_some, Option.toList_none, List.cons_append, List.nil_append, List.set_cons_zero, List.set_cons_succ, Bool.false_eq_true, reduceIte, zsw_c, zsw_n, Nat.reduceAdd, c0, c1, a1, m11_194 a2, c2, a2, eq_self]
theorem m11_190 {r : zR} {x1 : Int32} {x2 : Int32} (e : zcall zpp E 190 [.ref 73, .int x1, .int x2] h = some r) : zcls h 73 = some 11 := by
  cases hz : zstf [11] 0 h 73 0 (.int 0) with
  | some H => exact zstf_cls hz
  | none =>
    have q : zcall zpp E 190 [.ref 73, .int x1, .int x2] h = none := by
      simp only [ze190, zi190_0, zi190_0n, zi190_1, zi190_2, zcl1, zlow_0, zlow_1, zlow_2, zlow_3, zlow_4, zfree_0, zfree_i, zfree_r, zfree_n, zfree_d, zfree_f, zfree_s, if_true, if_false, Option.bind_some, Option.toList_some, Option.toList_none, List.cons_append, List.nil_append, List.set_cons_zero, List.set_cons_succ, Bool.false_eq_true, reduceIte, zsw_c, zsw_n, Nat.reduceAdd, hz, Option.bind_none]
    rw [q] at e
    cases e
theorem lc_lift (hE : E.1 ≤ 384) (hi : i + 6 ≤ E.1) (c0 : zcls h 0 = some 10) (O : OK E h n 98 190 [.int (E.2 (i + 1)), .int (E.2 (i + 2))]) : LC E n i (zrun zpp E 0 (426, [.float 0, .ref 0, .ref 73, .int (nI i)], [], h)) := by
  obtain ⟨r, h1, h2, a1, a2, a3⟩ := O
  have c1 : zsel 10 [10, 98] = some 98 := rfl
  have c2 : zsel 11 [11, 190] = some 190 := rfl
  refine ⟨h2, ?_, a3⟩
  conv =>
    lhs
    simp only [zi0_426, zi0_426n, zi0_426f, zi0_427, zi0_427n, zi0_427f, zi0_428, zi0_429, zi0_430, zi0_431, zi0_432, zi0_432n, zi0_432f, zi0_433, zi0_434, zi0_435, zi0_436, zi0_437, zi0_440, zi0_440n, zi0_440f, zi0_441, zi0_441n, zi0_441f, zi0_442, zi0_443, zi0_444, zi0_445, zi0_446, zi0_446n, zi0_446f, zi0_447, zi0_448, zi0_449, zi0_450, zi0_451, zi0_454, zcl1, zlow_0, zlow_1, zlow_2, zlow_3, zlow_4, zfree_0, zfree_i, zfree_r, zfree_n, zfree_d, zfree_f, zfree_s, if_true, if_false, Option.bind_some, Option.toList_some, Option.toList_none, List.cons_append, List.nil_append, List.set_cons_zero, List.set_cons_succ, Bool.false_eq_true, reduceIte, zsw_c, zsw_n, Nat.reduceAdd, (lx_1 hE hi).1, (lx_1 hE hi).2, (lx_2 hE hi).1, (lx_2 hE hi).2, c0, c1, a1, m11_190 a2, c2, a2, eq_self]
theorem m11_191 {r : zR} {x1 : Int32} (e : zcall zpp E 191 [.ref 73, .int x1] h = some r) : zcls h 73 = some 11 := by
  cases hz : zstf [11] 0 h 73 0 (.int 0) with
  | some H => exact zstf_cls hz
  | none =>
    have q : zcall zpp E 191 [.ref 73, .int x1] h = none := by
      simp only [ze191, zi191_0, zi191_0n, zi191_1, zi191_2, zcl1, zlow_0, zlow_1, zlow_2, zlow_3, zlow_4, zfree_0, zfree_i, zfree_r, zfree_n, zfree_d, zfree_f, zfree_s, if_true, if_false, Option.bind_some, Option.toList_some, Option.toList_none, List.cons_append, List.nil_append, List.set_cons_zero, List.set_cons_succ, Bool.false_eq_true, reduceIte, zsw_c, zsw_n, Nat.reduceAdd, hz, Option.bind_none]
    rw [q] at e
    cases e
theorem lc_loosen (hE : E.1 ≤ 384) (hi : i + 6 ≤ E.1) (c0 : zcls h 0 = some 10) (O : OK E h n 99 191 [.int (E.2 (i + 1))]) : LC E n i (zrun zpp E 0 (459, [.float 0, .ref 0, .ref 73, .int (nI i)], [], h)) := by
  obtain ⟨r, h1, h2, a1, a2, a3⟩ := O
  have c1 : zsel 10 [10, 99] = some 99 := rfl
  have c2 : zsel 11 [11, 191] = some 191 := rfl
  refine ⟨h2, ?_, a3⟩
  conv =>
    lhs
    simp only [zi0_459, zi0_459n, zi0_459f, zi0_460, zi0_460n, zi0_460f, zi0_461, zi0_462, zi0_463, zi0_464, zi0_465, zi0_468, zi0_468n, zi0_468f, zi0_469, zi0_469n, zi0_469f, zi0_470, zi0_471, zi0_472, zi0_473, zi0_474, zi0_477, zcl1, zlow_0, zlow_1, zlow_2, zlow_3, zlow_4, zfree_0, zfree_i, zfree_r, zfree_n, zfree_d, zfree_f, zfree_s, if_true, if_false, Option.bind_some, Option.toList_some, Option.toList_none, List.cons_append, List.nil_append, List.set_cons_zero, List.set_cons_succ, Bool.false_eq_true, reduceIte, zsw_c, zsw_n, Nat.reduceAdd, (lx_1 hE hi).1, (lx_1 hE hi).2, c0, c1, a1, m11_191 a2, c2, a2, eq_self]
theorem m11_192 {r : zR} {x1 : Int32} (e : zcall zpp E 192 [.ref 73, .int x1] h = some r) : zcls h 73 = some 11 := by
  cases hz : zstf [11] 0 h 73 0 (.int 0) with
  | some H => exact zstf_cls hz
  | none =>
    have q : zcall zpp E 192 [.ref 73, .int x1] h = none := by
      simp only [ze192, zi192_0, zi192_0n, zi192_1, zi192_2, zcl1, zlow_0, zlow_1, zlow_2, zlow_3, zlow_4, zfree_0, zfree_i, zfree_r, zfree_n, zfree_d, zfree_f, zfree_s, if_true, if_false, Option.bind_some, Option.toList_some, Option.toList_none, List.cons_append, List.nil_append, List.set_cons_zero, List.set_cons_succ, Bool.false_eq_true, reduceIte, zsw_c, zsw_n, Nat.reduceAdd, hz, Option.bind_none]
    rw [q] at e
    cases e
theorem lc_fall (hE : E.1 ≤ 384) (hi : i + 6 ≤ E.1) (c0 : zcls h 0 = some 10) (O : OK E h n 100 192 [.int (E.2 (i + 1))]) : LC E n i (zrun zpp E 0 (482, [.float 0, .ref 0, .ref 73, .int (nI i)], [], h)) := by
  obtain ⟨r, h1, h2, a1, a2, a3⟩ := O
  have c1 : zsel 10 [10, 100] = some 100 := rfl
  have c2 : zsel 11 [11, 192] = some 192 := rfl
  refine ⟨h2, ?_, a3⟩
  conv =>
    lhs
    simp only [zi0_482, zi0_482n, zi0_482f, zi0_483, zi0_483n, zi0_483f, zi0_484, zi0_485, zi0_486, zi0_487, zi0_488, zi0_491, zi0_491n, zi0_491f, zi0_492, zi0_492n, zi0_492f, zi0_493, zi0_494, zi0_495, zi0_496, zi0_497, zi0_500, zcl1, zlow_0, zlow_1, zlow_2, zlow_3, zlow_4, zfree_0, zfree_i, zfree_r, zfree_n, zfree_d, zfree_f, zfree_s, if_true, if_false, Option.bind_some, Option.toList_some, Option.toList_none, List.cons_append, List.nil_append, List.set_cons_zero, List.set_cons_succ, Bool.false_eq_true, reduceIte, zsw_c, zsw_n, Nat.reduceAdd, (lx_1 hE hi).1, (lx_1 hE hi).2, c0, c1, a1, m11_192 a2, c2, a2, eq_self]
theorem m11_193 {r : zR} {x1 : Int32} {x2 : Int32} (e : zcall zpp E 193 [.ref 73, .int x1, .int x2] h = some r) : zcls h 73 = some 11 := by
  cases hz : zstf [11] 0 h 73 0 (.int 0) with
  | some H => exact zstf_cls hz
  | none =>
    have q : zcall zpp E 193 [.ref 73, .int x1, .int x2] h = none := by
      simp only [ze193, zi193_0, zi193_0n, zi193_1, zi193_2, zcl1, zlow_0, zlow_1, zlow_2, zlow_3, zlow_4, zfree_0, zfree_i, zfree_r, zfree_n, zfree_d, zfree_f, zfree_s, if_true, if_false, Option.bind_some, Option.toList_some, Option.toList_none, List.cons_append, List.nil_append, List.set_cons_zero, List.set_cons_succ, Bool.false_eq_true, reduceIte, zsw_c, zsw_n, Nat.reduceAdd, hz, Option.bind_none]
    rw [q] at e
    cases e
theorem lc_space (hE : E.1 ≤ 384) (hi : i + 6 ≤ E.1) (c0 : zcls h 0 = some 10) (O : OK E h n 101 193 [.int (E.2 (i + 1)), .int (E.2 (i + 2))]) : LC E n i (zrun zpp E 0 (505, [.float 0, .ref 0, .ref 73, .int (nI i)], [], h)) := by
  obtain ⟨r, h1, h2, a1, a2, a3⟩ := O
  have c1 : zsel 10 [10, 101] = some 101 := rfl
  have c2 : zsel 11 [11, 193] = some 193 := rfl
  refine ⟨h2, ?_, a3⟩
  conv =>
    lhs
    simp only [zi0_505, zi0_505n, zi0_505f, zi0_506, zi0_506n, zi0_506f, zi0_507, zi0_508, zi0_509, zi0_510, zi0_511, zi0_511n, zi0_511f, zi0_512, zi0_513, zi0_514, zi0_515, zi0_516, zi0_519, zi0_519n, zi0_519f, zi0_520, zi0_520n, zi0_520f, zi0_521, zi0_522, zi0_523, zi0_524, zi0_525, zi0_525n, zi0_525f, zi0_526, zi0_527, zi0_528, zi0_529, zi0_530, zi0_533, zcl1, zlow_0, zlow_1, zlow_2, zlow_3, zlow_4, zfree_0, zfree_i, zfree_r, zfree_n, zfree_d, zfree_f, zfree_s, if_true, if_false, Option.bind_some, Option.toList_some, Option.toList_none, List.cons_append, List.nil_append, List.set_cons_zero, List.set_cons_succ, Bool.false_eq_true, reduceIte, zsw_c, zsw_n, Nat.reduceAdd, (lx_1 hE hi).1, (lx_1 hE hi).2, (lx_2 hE hi).1, (lx_2 hE hi).2, c0, c1, a1, m11_193 a2, c2, a2, eq_self]
end LCS
