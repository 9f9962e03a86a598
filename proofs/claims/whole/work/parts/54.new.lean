/-! WHAT IS NEW -/
theorem zstf_k {h t : zH} {cs : List Nat} {c ty f : Nat} {fs : List Value} {v : Value} (h1 : cs.contains c = true) (h2 : zfits ty v = true) (h3 : f < fs.length) : zstf cs ty (h ++ (.inl (c, fs) :: t)) h.length f v = some (h ++ (.inl (c, fs.set f v) :: t)) := by
  unfold zstf
  rw [List.getElem?_append_right (Nat.le_refl _), Nat.sub_self]
  simp only [List.getElem?_cons_zero, h1, h2, h3, decide_true, Bool.and_true, if_true]
  rw [List.set_append_right _ _ (Nat.le_refl _), Nat.sub_self]
  rfl
def row0 (n : Nat) : zC := .inr (.inl (0, n, fun _ => 0))
def yard0 (y : Nat) : zH := [.inl (9, [.int 0, .int 0, .int 0, .int 0, .int 0, .int 0, .ref (y + 1), .ref (y + 2), .ref (y + 3), .ref (y + 4), .ref (y + 5), .ref (y + 6), .ref (y + 7), .ref (y + 8), .int 0, .int 0, .int 0, .int 0]), row0 8, row0 8, row0 8, row0 8, row0 10, row0 10, row0 10, .inr (.inr (4, 4, fun _ => none))]
theorem zx8 : zix 8 65536 = true := by decide
theorem zx10 : zix 10 65536 = true := by decide
theorem zx4 : zix 4 65536 = true := by decide
theorem zn8 : (8 : Int32).toNatClampNeg = 8 := by decide
theorem zn10 : (10 : Int32).toNatClampNeg = 10 := by decide
theorem zn4 : (4 : Int32).toNatClampNeg = 4 := by decide
theorem sp_newY {E : zE} {h : zH} : zcall zpp E 64 [.ref h.length] (h ++ [.inl (9, zborn 9)]) = some (none, h ++ yard0 h.length) := by
  have hb : zborn 9 = [.int 0, .int 0, .int 0, .int 0, .int 0, .int 0, .null, .null, .null, .null, .null, .null, .null, .null, .int 0, .int 0, .int 0, .int 0] := rfl
  have hc : [9].contains 9 = true := rfl
  have l18 : ∀ f, f < 18 → ∀ a0 a1 a2 a3 a4 a5 a6 a7 a8 a9 a10 a11 a12 a13 a14 a15 a16 a17 : Value, f < [a0, a1, a2, a3, a4, a5, a6, a7, a8, a9, a10, a11, a12, a13, a14, a15, a16, a17].length := fun f hf => by intros; exact hf
  rw [hb]
  simp only [ze64, zi64_0, zi64_0n, zi64_1, zi64_4, zi64_4n, zi64_5, zi64_7, zi64_9, zi64_12, zi64_12n, zi64_13, zi64_15, zi64_17, zi64_20, zi64_20n, zi64_21, zi64_23, zi64_25, zi64_28, zi64_28n, zi64_29, zi64_31, zi64_33, zi64_36, zi64_36n, zi64_37, zi64_39, zi64_41, zi64_44, zi64_44n, zi64_45, zi64_47, zi64_49, zi64_52, zi64_52n, zi64_53, zi64_55, zi64_57, zi64_60, zi64_60n, zi64_61, zi64_62, zi64_65, zi64_68 (sk := []), zcl1, zlow_0, zlow_1, zlow_2, zlow_3, zlow_4, zfree_0, zfree_i, zfree_r, zfree_n, zfree_d, zfree_f, zfree_s, if_true, if_false, Option.bind_some, Option.toList_some, Option.toList_none, List.cons_append, List.nil_append, List.set_cons_zero, List.set_cons_succ, Bool.false_eq_true, reduceIte, zsw_c, zsw_n, Nat.reduceAdd, zx8, zx10, zx4, zn8, zn10, zn4, List.append_assoc, List.cons_append, List.nil_append, List.length_append, List.length_cons, List.length_nil, zstf_k hc zfits_r (l18 6 (by omega) _ _ _ _ _ _ _ _ _ _ _ _ _ _ _ _ _ _), zstf_k hc zfits_r (l18 7 (by omega) _ _ _ _ _ _ _ _ _ _ _ _ _ _ _ _ _ _), zstf_k hc zfits_r (l18 8 (by omega) _ _ _ _ _ _ _ _ _ _ _ _ _ _ _ _ _ _), zstf_k hc zfits_r (l18 9 (by omega) _ _ _ _ _ _ _ _ _ _ _ _ _ _ _ _ _ _), zstf_k hc zfits_r (l18 10 (by omega) _ _ _ _ _ _ _ _ _ _ _ _ _ _ _ _ _ _), zstf_k hc zfits_r (l18 11 (by omega) _ _ _ _ _ _ _ _ _ _ _ _ _ _ _ _ _ _), zstf_k hc zfits_r (l18 12 (by omega) _ _ _ _ _ _ _ _ _ _ _ _ _ _ _ _ _ _), zstf_k hc zfits_r (l18 13 (by omega) _ _ _ _ _ _ _ _ _ _ _ _ _ _ _ _ _ _)]
  rfl
