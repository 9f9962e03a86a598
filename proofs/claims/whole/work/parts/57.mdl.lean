/-! THE MODEL, NEW: its cells -/
theorem zx320 : zix 320 65536 = true := by decide
theorem zn320 : (320 : Int32).toNatClampNeg = 320 := by decide
theorem zx73 : zix 73 65536 = true := by decide
theorem zn73 : (73 : Int32).toNatClampNeg = 73 := by decide
theorem zx1752 : zix 1752 65536 = true := by decide
theorem zn1752 : (1752 : Int32).toNatClampNeg = 1752 := by decide
theorem zx146 : zix 146 65536 = true := by decide
theorem zn146 : (146 : Int32).toNatClampNeg = 146 := by decide
theorem zars_k {h : zH} {c : zC} {f : Nat → Int32} {x v : Int32} (k : Nat) (hx : x = nI k) (hk : k < 8) : zars 0 (h ++ [c, .inr (.inl (0, 8, f))]) (h.length + 1) x v = some (h ++ [c, .inr (.inl (0, 8, upd f k v))]) := by
  subst hx
  have e : (h ++ [c, .inr (.inl (0, 8, f))])[h.length + 1]? = some (.inr (.inl (0, 8, f))) := by
    rw [List.getElem?_append_right (by omega), show h.length + 1 - h.length = 1 by omega]
    rfl
  unfold zars
  rw [e]
  simp only [beq_self_eq_true, zix_nI (show k < 8 from hk) (by omega), zfits_i, Bool.and_self, if_true, nI_clamp (show k < 2 ^ 31 by omega)]
  rw [List.set_append_right _ _ (by omega), show h.length + 1 - h.length = 1 by omega]
  rfl
def mod0 (m : Nat) : zH := [.inl (11, [.int 0, .int 0, .ref (m + 1), .ref (m + 2), .ref (m + 3), .ref (m + 4), .ref (m + 5), .ref (m + 6), .int 0, .ref (m + 7), .int 0, .int 0, .int 0, .int 0, .int 0, .int 0, .int 0, .int 0, .ref (m + 8), .ref (m + 9), .ref (m + 10), .ref (m + 11), .ref (m + 12), .ref (m + 13), .int 0]), .inr (.inl (0, 8, (upd (upd (upd (upd (upd (upd (upd (upd (fun _ => 0) 0 (-1)) 1 (-1)) 2 (-1)) 3 (-1)) 4 (-1)) 5 (-1)) 6 (-1)) 7 (-1)))), row0 8, row0 320, row0 73, row0 73, row0 1752, row0 120, row0 256, row0 256, row0 8, .inr (.inl (1, 2, fun _ => 0)), row0 146, row0 16]
section MADE3
variable {E : zE} {h t : zH} {fs : List Value}
theorem ml0 (hl : fs.length = 25) : zrun zpp E 148 (4, [.ref h.length], [], h ++ [.inl (11, fs)]) = zrun zpp E 148 (46, [.ref h.length], [], h ++ [.inl (11, fs.set 2 (.ref (h.length + 1))), .inr (.inl (0, 8, (upd (upd (upd (upd (upd (upd (upd (upd (fun _ => 0) 0 (-1)) 1 (-1)) 2 (-1)) 3 (-1)) 4 (-1)) 5 (-1)) 6 (-1)) 7 (-1))))]) := by
  have hc : [11].contains 11 = true := rfl
  conv => lhs; simp only [zi148_4, zi148_4n, zi148_5, zi148_7, zi148_9, zi148_9i, zi148_10, zi148_11, zi148_12, zi148_13, zi148_13i, zi148_14, zi148_15, zi148_16, zi148_17, zi148_17i, zi148_18, zi148_19, zi148_20, zi148_21, zi148_21i, zi148_22, zi148_23, zi148_24, zi148_25, zi148_25i, zi148_26, zi148_27, zi148_28, zi148_29, zi148_29i, zi148_30, zi148_31, zi148_32, zi148_33, zi148_33i, zi148_34, zi148_36, zi148_37, zi148_38, zi148_38i, zi148_39, zi148_41, zi148_42, zi148_43, zcl1, zlow_0, zlow_1, zlow_2, zlow_3, zlow_4, zfree_0, zfree_i, zfree_r, zfree_n, zfree_d, zfree_f, zfree_s, if_true, if_false, Option.bind_some, Option.toList_some, Option.toList_none, List.cons_append, List.nil_append, List.set_cons_zero, List.set_cons_succ, Bool.false_eq_true, reduceIte, zsw_c, zsw_n, Nat.reduceAdd, zx8, zn8, List.append_assoc, List.cons_append, List.nil_append, List.length_append, List.length_cons, List.length_nil, zars_k 0 (show (0 : Int32) = nI 0 from rfl) (by omega), zars_k 1 (show (1 : Int32) = nI 1 from rfl) (by omega), zars_k 2 (show (2 : Int32) = nI 2 from rfl) (by omega), zars_k 3 (show (3 : Int32) = nI 3 from rfl) (by omega), zars_k 4 (show (4 : Int32) = nI 4 from rfl) (by omega), zars_k 5 (show (5 : Int32) = nI 5 from rfl) (by omega), zars_k 6 (show (6 : Int32) = nI 6 from rfl) (by omega), zars_k 7 (show (7 : Int32) = nI 7 from rfl) (by omega), zstf_k hc zfits_r (show 2 < fs.length by omega)]
theorem ml1 (hl : fs.length = 25) : zrun zpp E 148 (46, [.ref h.length], [], h ++ (.inl (11, fs) :: t)) = zrun zpp E 148 (54, [.ref h.length], [], h ++ (.inl (11, fs.set 3 (.ref (h.length + (t.length + 1)))) :: (t ++ [.inr (.inl (0, 8, fun _ => 0))]))) := by
  have hc : [11].contains 11 = true := rfl
  conv => lhs; simp only [zi148_46, zi148_46n, zi148_47, zi148_49, zi148_51, zcl1, zlow_0, zlow_1, zlow_2, zlow_3, zlow_4, zfree_0, zfree_i, zfree_r, zfree_n, zfree_d, zfree_f, zfree_s, if_true, if_false, Option.bind_some, Option.toList_some, Option.toList_none, List.cons_append, List.nil_append, List.set_cons_zero, List.set_cons_succ, Bool.false_eq_true, reduceIte, zsw_c, zsw_n, Nat.reduceAdd, zx8, zn8, List.append_assoc, List.cons_append, List.length_append, List.length_cons, zstf_k hc zfits_r (show 3 < fs.length by omega)]
theorem ml2 (hl : fs.length = 25) : zrun zpp E 148 (54, [.ref h.length], [], h ++ (.inl (11, fs) :: t)) = zrun zpp E 148 (63, [.ref h.length], [], h ++ (.inl (11, fs.set 4 (.ref (h.length + (t.length + 1)))) :: (t ++ [.inr (.inl (0, 320, fun _ => 0))]))) := by
  have hc : [11].contains 11 = true := rfl
  conv => lhs; simp only [zi148_54, zi148_54n, zi148_55, zi148_58, zi148_60, zcl1, zlow_0, zlow_1, zlow_2, zlow_3, zlow_4, zfree_0, zfree_i, zfree_r, zfree_n, zfree_d, zfree_f, zfree_s, if_true, if_false, Option.bind_some, Option.toList_some, Option.toList_none, List.cons_append, List.nil_append, List.set_cons_zero, List.set_cons_succ, Bool.false_eq_true, reduceIte, zsw_c, zsw_n, Nat.reduceAdd, zx320, zn320, List.append_assoc, List.cons_append, List.length_append, List.length_cons, zstf_k hc zfits_r (show 4 < fs.length by omega)]
theorem ml3 (hl : fs.length = 25) : zrun zpp E 148 (63, [.ref h.length], [], h ++ (.inl (11, fs) :: t)) = zrun zpp E 148 (71, [.ref h.length], [], h ++ (.inl (11, fs.set 5 (.ref (h.length + (t.length + 1)))) :: (t ++ [.inr (.inl (0, 73, fun _ => 0))]))) := by
  have hc : [11].contains 11 = true := rfl
  conv => lhs; simp only [zi148_63, zi148_63n, zi148_64, zi148_66, zi148_68, zcl1, zlow_0, zlow_1, zlow_2, zlow_3, zlow_4, zfree_0, zfree_i, zfree_r, zfree_n, zfree_d, zfree_f, zfree_s, if_true, if_false, Option.bind_some, Option.toList_some, Option.toList_none, List.cons_append, List.nil_append, List.set_cons_zero, List.set_cons_succ, Bool.false_eq_true, reduceIte, zsw_c, zsw_n, Nat.reduceAdd, zx73, zn73, List.append_assoc, List.cons_append, List.length_append, List.length_cons, zstf_k hc zfits_r (show 5 < fs.length by omega)]
theorem ml4 (hl : fs.length = 25) : zrun zpp E 148 (71, [.ref h.length], [], h ++ (.inl (11, fs) :: t)) = zrun zpp E 148 (79, [.ref h.length], [], h ++ (.inl (11, fs.set 6 (.ref (h.length + (t.length + 1)))) :: (t ++ [.inr (.inl (0, 73, fun _ => 0))]))) := by
  have hc : [11].contains 11 = true := rfl
  conv => lhs; simp only [zi148_71, zi148_71n, zi148_72, zi148_74, zi148_76, zcl1, zlow_0, zlow_1, zlow_2, zlow_3, zlow_4, zfree_0, zfree_i, zfree_r, zfree_n, zfree_d, zfree_f, zfree_s, if_true, if_false, Option.bind_some, Option.toList_some, Option.toList_none, List.cons_append, List.nil_append, List.set_cons_zero, List.set_cons_succ, Bool.false_eq_true, reduceIte, zsw_c, zsw_n, Nat.reduceAdd, zx73, zn73, List.append_assoc, List.cons_append, List.length_append, List.length_cons, zstf_k hc zfits_r (show 6 < fs.length by omega)]
theorem ml5 (hl : fs.length = 25) : zrun zpp E 148 (79, [.ref h.length], [], h ++ (.inl (11, fs) :: t)) = zrun zpp E 148 (88, [.ref h.length], [], h ++ (.inl (11, fs.set 7 (.ref (h.length + (t.length + 1)))) :: (t ++ [.inr (.inl (0, 1752, fun _ => 0))]))) := by
  have hc : [11].contains 11 = true := rfl
  conv => lhs; simp only [zi148_79, zi148_79n, zi148_80, zi148_83, zi148_85, zcl1, zlow_0, zlow_1, zlow_2, zlow_3, zlow_4, zfree_0, zfree_i, zfree_r, zfree_n, zfree_d, zfree_f, zfree_s, if_true, if_false, Option.bind_some, Option.toList_some, Option.toList_none, List.cons_append, List.nil_append, List.set_cons_zero, List.set_cons_succ, Bool.false_eq_true, reduceIte, zsw_c, zsw_n, Nat.reduceAdd, zx1752, zn1752, List.append_assoc, List.cons_append, List.length_append, List.length_cons, zstf_k hc zfits_r (show 7 < fs.length by omega)]
theorem ml6 (hl : fs.length = 25) : zrun zpp E 148 (88, [.ref h.length], [], h ++ (.inl (11, fs) :: t)) = zrun zpp E 148 (96, [.ref h.length], [], h ++ (.inl (11, fs.set 9 (.ref (h.length + (t.length + 1)))) :: (t ++ [.inr (.inl (0, 120, fun _ => 0))]))) := by
  have hc : [11].contains 11 = true := rfl
  conv => lhs; simp only [zi148_88, zi148_88n, zi148_89, zi148_91, zi148_93, zcl1, zlow_0, zlow_1, zlow_2, zlow_3, zlow_4, zfree_0, zfree_i, zfree_r, zfree_n, zfree_d, zfree_f, zfree_s, if_true, if_false, Option.bind_some, Option.toList_some, Option.toList_none, List.cons_append, List.nil_append, List.set_cons_zero, List.set_cons_succ, Bool.false_eq_true, reduceIte, zsw_c, zsw_n, Nat.reduceAdd, zx120, zn120, List.append_assoc, List.cons_append, List.length_append, List.length_cons, zstf_k hc zfits_r (show 9 < fs.length by omega)]
theorem ml7 (hl : fs.length = 25) : zrun zpp E 148 (96, [.ref h.length], [], h ++ (.inl (11, fs) :: t)) = zrun zpp E 148 (105, [.ref h.length], [], h ++ (.inl (11, fs.set 18 (.ref (h.length + (t.length + 1)))) :: (t ++ [.inr (.inl (0, 256, fun _ => 0))]))) := by
  have hc : [11].contains 11 = true := rfl
  conv => lhs; simp only [zi148_96, zi148_96n, zi148_97, zi148_100, zi148_102, zcl1, zlow_0, zlow_1, zlow_2, zlow_3, zlow_4, zfree_0, zfree_i, zfree_r, zfree_n, zfree_d, zfree_f, zfree_s, if_true, if_false, Option.bind_some, Option.toList_some, Option.toList_none, List.cons_append, List.nil_append, List.set_cons_zero, List.set_cons_succ, Bool.false_eq_true, reduceIte, zsw_c, zsw_n, Nat.reduceAdd, zx256, zn256, List.append_assoc, List.cons_append, List.length_append, List.length_cons, zstf_k hc zfits_r (show 18 < fs.length by omega)]
theorem ml8 (hl : fs.length = 25) : zrun zpp E 148 (105, [.ref h.length], [], h ++ (.inl (11, fs) :: t)) = zrun zpp E 148 (114, [.ref h.length], [], h ++ (.inl (11, fs.set 19 (.ref (h.length + (t.length + 1)))) :: (t ++ [.inr (.inl (0, 256, fun _ => 0))]))) := by
  have hc : [11].contains 11 = true := rfl
  conv => lhs; simp only [zi148_105, zi148_105n, zi148_106, zi148_109, zi148_111, zcl1, zlow_0, zlow_1, zlow_2, zlow_3, zlow_4, zfree_0, zfree_i, zfree_r, zfree_n, zfree_d, zfree_f, zfree_s, if_true, if_false, Option.bind_some, Option.toList_some, Option.toList_none, List.cons_append, List.nil_append, List.set_cons_zero, List.set_cons_succ, Bool.false_eq_true, reduceIte, zsw_c, zsw_n, Nat.reduceAdd, zx256, zn256, List.append_assoc, List.cons_append, List.length_append, List.length_cons, zstf_k hc zfits_r (show 19 < fs.length by omega)]
theorem ml9 (hl : fs.length = 25) : zrun zpp E 148 (114, [.ref h.length], [], h ++ (.inl (11, fs) :: t)) = zrun zpp E 148 (122, [.ref h.length], [], h ++ (.inl (11, fs.set 20 (.ref (h.length + (t.length + 1)))) :: (t ++ [.inr (.inl (0, 8, fun _ => 0))]))) := by
  have hc : [11].contains 11 = true := rfl
  conv => lhs; simp only [zi148_114, zi148_114n, zi148_115, zi148_117, zi148_119, zcl1, zlow_0, zlow_1, zlow_2, zlow_3, zlow_4, zfree_0, zfree_i, zfree_r, zfree_n, zfree_d, zfree_f, zfree_s, if_true, if_false, Option.bind_some, Option.toList_some, Option.toList_none, List.cons_append, List.nil_append, List.set_cons_zero, List.set_cons_succ, Bool.false_eq_true, reduceIte, zsw_c, zsw_n, Nat.reduceAdd, zx8, zn8, List.append_assoc, List.cons_append, List.length_append, List.length_cons, zstf_k hc zfits_r (show 20 < fs.length by omega)]
theorem ml10 (hl : fs.length = 25) : zrun zpp E 148 (122, [.ref h.length], [], h ++ (.inl (11, fs) :: t)) = zrun zpp E 148 (129, [.ref h.length], [], h ++ (.inl (11, fs.set 21 (.ref (h.length + (t.length + 1)))) :: (t ++ [.inr (.inl (1, 2, fun _ => 0))]))) := by
  have hc : [11].contains 11 = true := rfl
  conv => lhs; simp only [zi148_122, zi148_122n, zi148_123, zi148_124, zi148_126, zcl1, zlow_0, zlow_1, zlow_2, zlow_3, zlow_4, zfree_0, zfree_i, zfree_r, zfree_n, zfree_d, zfree_f, zfree_s, if_true, if_false, Option.bind_some, Option.toList_some, Option.toList_none, List.cons_append, List.nil_append, List.set_cons_zero, List.set_cons_succ, Bool.false_eq_true, reduceIte, zsw_c, zsw_n, Nat.reduceAdd, zx2, zn2, List.append_assoc, List.cons_append, List.length_append, List.length_cons, zstf_k hc zfits_r (show 21 < fs.length by omega)]
theorem ml11 (hl : fs.length = 25) : zrun zpp E 148 (129, [.ref h.length], [], h ++ (.inl (11, fs) :: t)) = zrun zpp E 148 (138, [.ref h.length], [], h ++ (.inl (11, fs.set 22 (.ref (h.length + (t.length + 1)))) :: (t ++ [.inr (.inl (0, 146, fun _ => 0))]))) := by
  have hc : [11].contains 11 = true := rfl
  conv => lhs; simp only [zi148_129, zi148_129n, zi148_130, zi148_133, zi148_135, zcl1, zlow_0, zlow_1, zlow_2, zlow_3, zlow_4, zfree_0, zfree_i, zfree_r, zfree_n, zfree_d, zfree_f, zfree_s, if_true, if_false, Option.bind_some, Option.toList_some, Option.toList_none, List.cons_append, List.nil_append, List.set_cons_zero, List.set_cons_succ, Bool.false_eq_true, reduceIte, zsw_c, zsw_n, Nat.reduceAdd, zx146, zn146, List.append_assoc, List.cons_append, List.length_append, List.length_cons, zstf_k hc zfits_r (show 22 < fs.length by omega)]
theorem ml12 (hl : fs.length = 25) : zrun zpp E 148 (138, [.ref h.length], [], h ++ (.inl (11, fs) :: t)) = zrun zpp E 148 (146, [.ref h.length], [], h ++ (.inl (11, fs.set 23 (.ref (h.length + (t.length + 1)))) :: (t ++ [.inr (.inl (0, 16, fun _ => 0))]))) := by
  have hc : [11].contains 11 = true := rfl
  conv => lhs; simp only [zi148_138, zi148_138n, zi148_139, zi148_141, zi148_143, zcl1, zlow_0, zlow_1, zlow_2, zlow_3, zlow_4, zfree_0, zfree_i, zfree_r, zfree_n, zfree_d, zfree_f, zfree_s, if_true, if_false, Option.bind_some, Option.toList_some, Option.toList_none, List.cons_append, List.nil_append, List.set_cons_zero, List.set_cons_succ, Bool.false_eq_true, reduceIte, zsw_c, zsw_n, Nat.reduceAdd, zx16, zn16, List.append_assoc, List.cons_append, List.length_append, List.length_cons, zstf_k hc zfits_r (show 23 < fs.length by omega)]
end MADE3
theorem sp_new148 {E : zE} {h : zH} : zcall zpp E 148 [.ref h.length] (h ++ [.inl (11, zborn 11)]) = some (none, h ++ mod0 h.length) := by
  have q : zrun zpp E 148 (4, [.ref h.length], [], h ++ [.inl (11, zborn 11)]) = zrun zpp E 148 (146, [.ref h.length], [], h ++ mod0 h.length) := ((ml0 rfl).trans ((ml1 rfl).trans ((ml2 rfl).trans ((ml3 rfl).trans ((ml4 rfl).trans ((ml5 rfl).trans ((ml6 rfl).trans ((ml7 rfl).trans ((ml8 rfl).trans ((ml9 rfl).trans ((ml10 rfl).trans ((ml11 rfl).trans (ml12 rfl)))))))))))))
  simp only [ze148, zi148_0, zi148_0n, zi148_1, zcl1, zlow_0, zlow_1, zlow_2, zlow_3, zlow_4, zfree_0, zfree_i, zfree_r, zfree_n, zfree_d, zfree_f, zfree_s, if_true, if_false, Option.bind_some, Option.toList_some, Option.toList_none, List.cons_append, List.nil_append, List.set_cons_zero, List.set_cons_succ, Bool.false_eq_true, reduceIte, zsw_c, zsw_n, Nat.reduceAdd]
  rw [q]
  simp only [zi148_146 (sk := []), zcl1, zlow_0, zlow_1, zlow_2, zlow_3, zlow_4, zfree_0, zfree_i, zfree_r, zfree_n, zfree_d, zfree_f, zfree_s, if_true, if_false, Option.bind_some, Option.toList_some, Option.toList_none, List.cons_append, List.nil_append, List.set_cons_zero, List.set_cons_succ, Bool.false_eq_true, reduceIte, zsw_c, zsw_n, Nat.reduceAdd]
/-- both, new -/
def new0 : zH := mkD ++ mod0 73
theorem new0_len : new0.length = 87 := by decide
theorem new0_sl : zsl new0 ≤ 10000 := by decide +kernel
theorem law0 {E : zE} : zrun zpp E 0 (0, [.float 0, .retAddr 0, .retAddr 0, .retAddr 0], [], []) = zrun zpp E 0 (18, [.float 0, .ref 0, .ref 73, .int 0], [], new0) := by
  have e1 : zcls [.inl (10, zborn 10)] 0 = some 10 := rfl
  have e2 : zcls (mkD ++ [.inl (11, zborn 11)]) mkD.length = some 11 := zcls_end
  have hm : mkD.length = 73 := by decide
  have e3 := sp_new148 (E := E) (h := mkD)
  rw [hm] at e2 e3
  have z1 : zfree [.float 0, .retAddr 0, .retAddr 0, .retAddr 0] 1 = true := rfl
  have z2 : zfree [.float 0, .ref 0, .retAddr 0, .retAddr 0] 2 = true := rfl
  have z3 : zfree [.float 0, .ref 0, .ref 73, .retAddr 0] 3 = true := rfl
  conv => lhs; simp only [zi0_0, zi0_3, zi0_3i, zi0_4, zi0_7, zi0_7n, zi0_8, zi0_11, zi0_11i, zi0_12, zi0_15, zi0_15n, zi0_16, zi0_17, zcl1, zlow_0, zlow_1, zlow_2, zlow_3, zlow_4, zfree_0, zfree_i, zfree_r, zfree_n, zfree_d, zfree_f, zfree_s, if_true, if_false, Option.bind_some, Option.toList_some, Option.toList_none, List.cons_append, List.nil_append, List.set_cons_zero, List.set_cons_succ, Bool.false_eq_true, reduceIte, zsw_c, zsw_n, Nat.reduceAdd, List.nil_append, List.length_nil, e1, sp_new89, hm, e2, e3, z1, z2, z3]
  rfl
