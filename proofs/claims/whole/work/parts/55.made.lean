/-! THE COMPONENT IS MADE -/
theorem zx120 : zix 120 65536 = true := by decide
theorem zn120 : (120 : Int32).toNatClampNeg = 120 := by decide
theorem zx40 : zix 40 65536 = true := by decide
theorem zn40 : (40 : Int32).toNatClampNeg = 40 := by decide
theorem zx16 : zix 16 65536 = true := by decide
theorem zn16 : (16 : Int32).toNatClampNeg = 16 := by decide
theorem zx24 : zix 24 65536 = true := by decide
theorem zn24 : (24 : Int32).toNatClampNeg = 24 := by decide
theorem zx64 : zix 64 65536 = true := by decide
theorem zn64 : (64 : Int32).toNatClampNeg = 64 := by decide
theorem zx256 : zix 256 65536 = true := by decide
theorem zn256 : (256 : Int32).toNatClampNeg = 256 := by decide
theorem zx6 : zix 6 65536 = true := by decide
theorem zn6 : (6 : Int32).toNatClampNeg = 6 := by decide
theorem zx2 : zix 2 65536 = true := by decide
theorem zn2 : (2 : Int32).toNatClampNeg = 2 := by decide
theorem sp_newRow {E : zE} {h : zH} : zcall zpp E 51 [.ref h.length] (h ++ [.inl (6, zborn 6)]) = some (none, h ++ [.inl (6, [.ref (h.length + 1), .int 0, .int 0, .int 0]), row0 40]) := by
  have hb : zborn 6 = [.null, .int 0, .int 0, .int 0] := rfl
  have hc : [6].contains 6 = true := rfl
  have l0 : ∀ a0 a1 a2 a3 : Value, 0 < [a0, a1, a2, a3].length := by intros; exact Nat.zero_lt_succ _
  rw [hb]
  simp only [ze51, zi51_0, zi51_0n, zi51_1, zi51_4, zi51_4n, zi51_5, zi51_7, zi51_9, zi51_12 (sk := []), zcl1, zlow_0, zlow_1, zlow_2, zlow_3, zlow_4, zfree_0, zfree_i, zfree_r, zfree_n, zfree_d, zfree_f, zfree_s, if_true, if_false, Option.bind_some, Option.toList_some, Option.toList_none, List.cons_append, List.nil_append, List.set_cons_zero, List.set_cons_succ, Bool.false_eq_true, reduceIte, zsw_c, zsw_n, Nat.reduceAdd, zx40, zn40, List.append_assoc, List.cons_append, List.nil_append, List.length_append, List.length_cons, List.length_nil, zstf_k hc zfits_r (l0 _ _ _ _)]
  rfl
theorem sp_newTrace {E : zE} {h : zH} : zcall zpp E 61 [.ref h.length] (h ++ [.inl (8, zborn 8)]) = some (none, h ++ [.inl (8, [.ref (h.length + 1), .int 0, .int 0]), row0 16]) := by
  have hb : zborn 8 = [.null, .int 0, .int 0] := rfl
  have hc : [8].contains 8 = true := rfl
  have l0 : ∀ a0 a1 a2 : Value, 0 < [a0, a1, a2].length := by intros; exact Nat.zero_lt_succ _
  rw [hb]
  simp only [ze61, zi61_0, zi61_0n, zi61_1, zi61_4, zi61_4n, zi61_5, zi61_7, zi61_9, zi61_12 (sk := []), zcl1, zlow_0, zlow_1, zlow_2, zlow_3, zlow_4, zfree_0, zfree_i, zfree_r, zfree_n, zfree_d, zfree_f, zfree_s, if_true, if_false, Option.bind_some, Option.toList_some, Option.toList_none, List.cons_append, List.nil_append, List.set_cons_zero, List.set_cons_succ, Bool.false_eq_true, reduceIte, zsw_c, zsw_n, Nat.reduceAdd, zx16, zn16, List.append_assoc, List.cons_append, List.nil_append, List.length_append, List.length_cons, List.length_nil, zstf_k hc zfits_r (l0 _ _ _)]
  rfl
theorem sp_newReader {E : zE} {h : zH} : zcall zpp E 33 [.ref h.length] (h ++ [.inl (5, zborn 5)]) = some (none, h ++ [.inl (5, [.ref (h.length + 1), .int 0, .int 0, .int 0, .int 0, .int 0, .int 0]), row0 120]) := by
  have hb : zborn 5 = [.null, .int 0, .int 0, .int 0, .int 0, .int 0, .int 0] := rfl
  have hc : [5].contains 5 = true := rfl
  have l0 : ∀ a0 a1 a2 a3 a4 a5 a6 : Value, 0 < [a0, a1, a2, a3, a4, a5, a6].length := by intros; exact Nat.zero_lt_succ _
  rw [hb]
  simp only [ze33, zi33_0, zi33_0n, zi33_1, zi33_4, zi33_4n, zi33_5, zi33_7, zi33_9, zi33_12 (sk := []), zcl1, zlow_0, zlow_1, zlow_2, zlow_3, zlow_4, zfree_0, zfree_i, zfree_r, zfree_n, zfree_d, zfree_f, zfree_s, if_true, if_false, Option.bind_some, Option.toList_some, Option.toList_none, List.cons_append, List.nil_append, List.set_cons_zero, List.set_cons_succ, Bool.false_eq_true, reduceIte, zsw_c, zsw_n, Nat.reduceAdd, zx120, zn120, List.append_assoc, List.cons_append, List.nil_append, List.length_append, List.length_cons, List.length_nil, zstf_k hc zfits_r (l0 _ _ _ _ _ _ _)]
  rfl
theorem sp_newActs {E : zE} {h : zH} : zcall zpp E 1 [.ref h.length] (h ++ [.inl (0, zborn 0)]) = some (none, h ++ [.inl (0, [.ref (h.length + 1), .ref (h.length + 2), .ref (h.length + 3), .ref (h.length + 4), .ref (h.length + 5), .int 0]), row0 24, row0 24, row0 24, row0 24, row0 24]) := by
  have hb : zborn 0 = [.null, .null, .null, .null, .null, .int 0] := rfl
  have hc : [0].contains 0 = true := rfl
  have l6 : ∀ f, f < 6 → ∀ a0 a1 a2 a3 a4 a5 : Value, f < [a0, a1, a2, a3, a4, a5].length := fun f hf => by intros; exact hf
  rw [hb]
  simp only [ze1, zi1_0, zi1_0n, zi1_1, zi1_4, zi1_4n, zi1_5, zi1_7, zi1_9, zi1_12, zi1_12n, zi1_13, zi1_15, zi1_17, zi1_20, zi1_20n, zi1_21, zi1_23, zi1_25, zi1_28, zi1_28n, zi1_29, zi1_31, zi1_33, zi1_36, zi1_36n, zi1_37, zi1_39, zi1_41, zi1_44 (sk := []), zcl1, zlow_0, zlow_1, zlow_2, zlow_3, zlow_4, zfree_0, zfree_i, zfree_r, zfree_n, zfree_d, zfree_f, zfree_s, if_true, if_false, Option.bind_some, Option.toList_some, Option.toList_none, List.cons_append, List.nil_append, List.set_cons_zero, List.set_cons_succ, Bool.false_eq_true, reduceIte, zsw_c, zsw_n, Nat.reduceAdd, zx24, zn24, List.append_assoc, List.cons_append, List.nil_append, List.length_append, List.length_cons, List.length_nil, zstf_k hc zfits_r (l6 0 (by omega) _ _ _ _ _ _), zstf_k hc zfits_r (l6 1 (by omega) _ _ _ _ _ _), zstf_k hc zfits_r (l6 2 (by omega) _ _ _ _ _ _), zstf_k hc zfits_r (l6 3 (by omega) _ _ _ _ _ _), zstf_k hc zfits_r (l6 4 (by omega) _ _ _ _ _ _)]
  rfl
section MADE
variable {E : zE} {t : zH} {fs : List Value} {x : Value}
theorem zstf_a {r : zH} {f : Nat} {v : Value} (hl : fs.length = 11) (h2 : zfits 2 v = true) (h3 : f < 11) : zstf [10] 2 (.inl (10, fs) :: (t ++ r)) 0 f v = some (.inl (10, fs.set f v) :: (t ++ r)) := by
  unfold zstf
  have hc : [10].contains 10 = true := rfl
  simp only [List.getElem?_cons_zero, hc, h2, hl, h3, decide_true, Bool.and_true, if_true]
  rfl
theorem mk0 (hl : fs.length = 11) : zrun zpp E 89 (4, [.ref 0, x], [], .inl (10, fs) :: t) = zrun zpp E 89 (13, [.ref 0, x], [], .inl (10, fs.set 0 (.ref (t.length + 1))) :: (t ++ [.inr (.inr (2, 8, fun _ => none))])) := by
  simp only [zi89_4, zi89_4n, zi89_5, zi89_7, zi89_10, zcl1, zlow_0, zlow_1, zlow_2, zlow_3, zlow_4, zfree_0, zfree_i, zfree_r, zfree_n, zfree_d, zfree_f, zfree_s, if_true, if_false, Option.bind_some, Option.toList_some, Option.toList_none, List.cons_append, List.nil_append, List.set_cons_zero, List.set_cons_succ, Bool.false_eq_true, reduceIte, zsw_c, zsw_n, Nat.reduceAdd, zx8, zn8, zstf_a hl zfits_r (show 0 < 11 by omega)]
  rfl
theorem mk1 (hl : fs.length = 11) : zrun zpp E 89 (13, [.ref 0, x], [], .inl (10, fs) :: t) = zrun zpp E 89 (24, [.ref 0, x], [], .inl (10, fs.set 1 (.ref (t.length + 1))) :: (t ++ [.inl (5, [.ref (t.length + 2), .int 0, .int 0, .int 0, .int 0, .int 0, .int 0]), row0 120])) := by
  have e1 : zcls (.inl (10, fs) :: (t ++ [.inl (5, zborn 5)])) (List.length (.inl (10, fs) :: t : zH)) = some 5 := zcls_end (h := .inl (10, fs) :: t)
  have e2 : zcall zpp E 33 [.ref (List.length (.inl (10, fs) :: t : zH))] (.inl (10, fs) :: (t ++ [.inl (5, zborn 5)])) = some (none, .inl (10, fs) :: (t ++ [.inl (5, [.ref (t.length + 2), .int 0, .int 0, .int 0, .int 0, .int 0, .int 0]), row0 120])) := sp_newReader (h := .inl (10, fs) :: t)
  simp only [zi89_13, zi89_13n, zi89_14, zi89_17, zi89_17i, zi89_18, zi89_21, zcl1, zlow_0, zlow_1, zlow_2, zlow_3, zlow_4, zfree_0, zfree_i, zfree_r, zfree_n, zfree_d, zfree_f, zfree_s, if_true, if_false, Option.bind_some, Option.toList_some, Option.toList_none, List.cons_append, List.nil_append, List.set_cons_zero, List.set_cons_succ, Bool.false_eq_true, reduceIte, zsw_c, zsw_n, Nat.reduceAdd, e1, e2, zstf_a hl zfits_r (show 1 < 11 by omega)]
  rfl
theorem mk2 (hl : fs.length = 11) : zrun zpp E 89 (24, [.ref 0, x], [], .inl (10, fs) :: t) = zrun zpp E 89 (32, [.ref 0, x], [], .inl (10, fs.set 2 (.ref (t.length + 1))) :: (t ++ [.inr (.inr (3, 2, fun _ => none))])) := by
  simp only [zi89_24, zi89_24n, zi89_25, zi89_26, zi89_29, zcl1, zlow_0, zlow_1, zlow_2, zlow_3, zlow_4, zfree_0, zfree_i, zfree_r, zfree_n, zfree_d, zfree_f, zfree_s, if_true, if_false, Option.bind_some, Option.toList_some, Option.toList_none, List.cons_append, List.nil_append, List.set_cons_zero, List.set_cons_succ, Bool.false_eq_true, reduceIte, zsw_c, zsw_n, Nat.reduceAdd, zx2, zn2, zstf_a hl zfits_r (show 2 < 11 by omega)]
  rfl
theorem mk3 (hl : fs.length = 11) : zrun zpp E 89 (32, [.ref 0, x], [], .inl (10, fs) :: t) = zrun zpp E 89 (43, [.ref 0, x], [], .inl (10, fs.set 3 (.ref (t.length + 1))) :: (t ++ [.inl (0, [.ref (t.length + 2), .ref (t.length + 3), .ref (t.length + 4), .ref (t.length + 5), .ref (t.length + 6), .int 0]), row0 24, row0 24, row0 24, row0 24, row0 24])) := by
  have e1 : zcls (.inl (10, fs) :: (t ++ [.inl (0, zborn 0)])) (List.length (.inl (10, fs) :: t : zH)) = some 0 := zcls_end (h := .inl (10, fs) :: t)
  have e2 : zcall zpp E 1 [.ref (List.length (.inl (10, fs) :: t : zH))] (.inl (10, fs) :: (t ++ [.inl (0, zborn 0)])) = some (none, .inl (10, fs) :: (t ++ [.inl (0, [.ref (t.length + 2), .ref (t.length + 3), .ref (t.length + 4), .ref (t.length + 5), .ref (t.length + 6), .int 0]), row0 24, row0 24, row0 24, row0 24, row0 24])) := sp_newActs (h := .inl (10, fs) :: t)
  simp only [zi89_32, zi89_32n, zi89_33, zi89_36, zi89_36i, zi89_37, zi89_40, zcl1, zlow_0, zlow_1, zlow_2, zlow_3, zlow_4, zfree_0, zfree_i, zfree_r, zfree_n, zfree_d, zfree_f, zfree_s, if_true, if_false, Option.bind_some, Option.toList_some, Option.toList_none, List.cons_append, List.nil_append, List.set_cons_zero, List.set_cons_succ, Bool.false_eq_true, reduceIte, zsw_c, zsw_n, Nat.reduceAdd, e1, e2, zstf_a hl zfits_r (show 3 < 11 by omega)]
  rfl
theorem mk4 (hl : fs.length = 11) : zrun zpp E 89 (43, [.ref 0, x], [], .inl (10, fs) :: t) = zrun zpp E 89 (54, [.ref 0, x], [], .inl (10, fs.set 4 (.ref (t.length + 1))) :: (t ++ [.inl (8, [.ref (t.length + 2), .int 0, .int 0]), row0 16])) := by
  have e1 : zcls (.inl (10, fs) :: (t ++ [.inl (8, zborn 8)])) (List.length (.inl (10, fs) :: t : zH)) = some 8 := zcls_end (h := .inl (10, fs) :: t)
  have e2 : zcall zpp E 61 [.ref (List.length (.inl (10, fs) :: t : zH))] (.inl (10, fs) :: (t ++ [.inl (8, zborn 8)])) = some (none, .inl (10, fs) :: (t ++ [.inl (8, [.ref (t.length + 2), .int 0, .int 0]), row0 16])) := sp_newTrace (h := .inl (10, fs) :: t)
  simp only [zi89_43, zi89_43n, zi89_44, zi89_47, zi89_47i, zi89_48, zi89_51, zcl1, zlow_0, zlow_1, zlow_2, zlow_3, zlow_4, zfree_0, zfree_i, zfree_r, zfree_n, zfree_d, zfree_f, zfree_s, if_true, if_false, Option.bind_some, Option.toList_some, Option.toList_none, List.cons_append, List.nil_append, List.set_cons_zero, List.set_cons_succ, Bool.false_eq_true, reduceIte, zsw_c, zsw_n, Nat.reduceAdd, e1, e2, zstf_a hl zfits_r (show 4 < 11 by omega)]
  rfl
theorem mkG (hl : fs.length = 11) : zrun zpp E 89 (54, [.ref 0, x], [], .inl (10, fs) :: t) = zrun zpp E 89 (63, [.ref 0, x], [], .inl (10, fs.set 10 (.ref (t.length + 1))) :: (t ++ [.inr (.inr (4, 6, fun _ => none))])) := by
  simp only [zi89_54, zi89_54n, zi89_55, zi89_57, zi89_60, zcl1, zlow_0, zlow_1, zlow_2, zlow_3, zlow_4, zfree_0, zfree_i, zfree_r, zfree_n, zfree_d, zfree_f, zfree_s, if_true, if_false, Option.bind_some, Option.toList_some, Option.toList_none, List.cons_append, List.nil_append, List.set_cons_zero, List.set_cons_succ, Bool.false_eq_true, reduceIte, zsw_c, zsw_n, Nat.reduceAdd, zx6, zn6, zstf_a hl zfits_r (show 10 < 11 by omega)]
  rfl
theorem mk5 (hl : fs.length = 11) : zrun zpp E 89 (63, [.ref 0, x], [], .inl (10, fs) :: t) = zrun zpp E 89 (71, [.ref 0, x], [], .inl (10, fs.set 5 (.ref (t.length + 1))) :: (t ++ [row0 64])) := by
  simp only [zi89_63, zi89_63n, zi89_64, zi89_66, zi89_68, zcl1, zlow_0, zlow_1, zlow_2, zlow_3, zlow_4, zfree_0, zfree_i, zfree_r, zfree_n, zfree_d, zfree_f, zfree_s, if_true, if_false, Option.bind_some, Option.toList_some, Option.toList_none, List.cons_append, List.nil_append, List.set_cons_zero, List.set_cons_succ, Bool.false_eq_true, reduceIte, zsw_c, zsw_n, Nat.reduceAdd, zx64, zn64, zstf_a hl zfits_r (show 5 < 11 by omega)]
  rfl
theorem mk6 (hl : fs.length = 11) : zrun zpp E 89 (71, [.ref 0, x], [], .inl (10, fs) :: t) = zrun zpp E 89 (80, [.ref 0, x], [], .inl (10, fs.set 6 (.ref (t.length + 1))) :: (t ++ [row0 256])) := by
  simp only [zi89_71, zi89_71n, zi89_72, zi89_75, zi89_77, zcl1, zlow_0, zlow_1, zlow_2, zlow_3, zlow_4, zfree_0, zfree_i, zfree_r, zfree_n, zfree_d, zfree_f, zfree_s, if_true, if_false, Option.bind_some, Option.toList_some, Option.toList_none, List.cons_append, List.nil_append, List.set_cons_zero, List.set_cons_succ, Bool.false_eq_true, reduceIte, zsw_c, zsw_n, Nat.reduceAdd, zx256, zn256, zstf_a hl zfits_r (show 6 < 11 by omega)]
  rfl
theorem mk7 (hl : fs.length = 11) : zrun zpp E 89 (80, [.ref 0, x], [], .inl (10, fs) :: t) = zrun zpp E 89 (91, [.ref 0, x], [], .inl (10, fs.set 7 (.ref (t.length + 1))) :: (t ++ yard0 (t.length + 1))) := by
  have e1 : zcls (.inl (10, fs) :: (t ++ [.inl (9, zborn 9)])) (List.length (.inl (10, fs) :: t : zH)) = some 9 := zcls_end (h := .inl (10, fs) :: t)
  have e2 : zcall zpp E 64 [.ref (List.length (.inl (10, fs) :: t : zH))] (.inl (10, fs) :: (t ++ [.inl (9, zborn 9)])) = some (none, .inl (10, fs) :: (t ++ yard0 (t.length + 1))) := sp_newY (h := .inl (10, fs) :: t)
  simp only [zi89_80, zi89_80n, zi89_81, zi89_84, zi89_84i, zi89_85, zi89_88, zcl1, zlow_0, zlow_1, zlow_2, zlow_3, zlow_4, zfree_0, zfree_i, zfree_r, zfree_n, zfree_d, zfree_f, zfree_s, if_true, if_false, Option.bind_some, Option.toList_some, Option.toList_none, List.cons_append, List.nil_append, List.set_cons_zero, List.set_cons_succ, Bool.false_eq_true, reduceIte, zsw_c, zsw_n, Nat.reduceAdd, e1, e2, zstf_a hl zfits_r (show 7 < 11 by omega)]
  rfl
theorem mk8 (hl : fs.length = 11) : zrun zpp E 89 (91, [.ref 0, x], [], .inl (10, fs) :: t) = zrun zpp E 89 (102, [.ref 0, x], [], .inl (10, fs.set 8 (.ref (t.length + 1))) :: (t ++ yard0 (t.length + 1))) := by
  have e1 : zcls (.inl (10, fs) :: (t ++ [.inl (9, zborn 9)])) (List.length (.inl (10, fs) :: t : zH)) = some 9 := zcls_end (h := .inl (10, fs) :: t)
  have e2 : zcall zpp E 64 [.ref (List.length (.inl (10, fs) :: t : zH))] (.inl (10, fs) :: (t ++ [.inl (9, zborn 9)])) = some (none, .inl (10, fs) :: (t ++ yard0 (t.length + 1))) := sp_newY (h := .inl (10, fs) :: t)
  simp only [zi89_91, zi89_91n, zi89_92, zi89_95, zi89_95i, zi89_96, zi89_99, zcl1, zlow_0, zlow_1, zlow_2, zlow_3, zlow_4, zfree_0, zfree_i, zfree_r, zfree_n, zfree_d, zfree_f, zfree_s, if_true, if_false, Option.bind_some, Option.toList_some, Option.toList_none, List.cons_append, List.nil_append, List.set_cons_zero, List.set_cons_succ, Bool.false_eq_true, reduceIte, zsw_c, zsw_n, Nat.reduceAdd, e1, e2, zstf_a hl zfits_r (show 8 < 11 by omega)]
  rfl
end MADE
