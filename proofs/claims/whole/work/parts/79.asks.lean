/-! ASK: what lifters answer, and which bodies began -/
def tup (t : Nat → Int32) (tn : Nat) : List Int32 → Nat → Int32
  | [] => t
  | b :: l => tup (upd t tn b) (tn + 1) l
theorem tup_app (t : Nat → Int32) (tn : Nat) (a b : List Int32) : tup t tn (a ++ b) = tup (tup t tn a) (tn + a.length) b := by
  induction a generalizing t tn with
  | nil => rfl
  | cons x a ih =>
    show tup (upd t tn x) (tn + 1) (a ++ b) = tup (tup (upd t tn x) (tn + 1) a) (tn + (a.length + 1)) b
    rw [ih, show tn + (a.length + 1) = tn + 1 + a.length by omega]
def tP (x : Nat) : Prop := x = 11 ∨ x = 12
section ASKC
variable {E : zE} {h : zH} {q kd num fo tn M : Nat} {k : Int32} {t : Nat → Int32}
theorem TC.lk (hL : LAt h q kd num fo) {h' : zH} (hz : zsm tP h h') : LAt h' q kd num fo := LAt_c (fun a h1 c e => (hz.2 a (by unfold tP; omega)).trans e) hL
theorem sp_enter (hT : TC h (nI tn) k t) (hn : tn < 16) (b : Int32) : ∃ h', zcall zpp E 63 [.ref 11, .int b] h = some (none, h') ∧ TC h' (nI (tn + 1)) k (upd t tn b) ∧ zsm tP h h' := by
  obtain ⟨h1, h2, h3, h4, h5⟩ := hT
  have w := zars_at (j := tn) (x := b) h5 hn (by omega) zfits_i
  have f1 : zfld [8] (zpa h 12 tn b) 11 1 = some (.int (nI tn)) := zfld_pa.trans h3
  have w2 := zstf_ok (ty := 0) (v := .int (nI (tn + 1))) f1 zfits_i
  have ne : ¬ (16 : Int32) ≤ nI tn := by rw [show (16 : Int32) = nI 16 from rfl, nI_leP (by omega) (by omega)]; omega
  refine ⟨zpf (zpa h 12 tn b) 11 1 (.int (nI (tn + 1))), ?_, ⟨zcls_pf.trans (zcls_pa.trans h1), (zfld_f (by decide)).trans (zfld_pa.trans h2), ?_, (zfld_f (by decide)).trans (zfld_pa.trans h4), zrow_pf (zrow_pa h5)⟩, (zsm_pa.wk (fun a e => Or.inr e)).tr (zsm_pf.wk (fun a e => Or.inl e))⟩
  · simp only [ze63, zi63_0, zi63_0n, zi63_1, zi63_4, zi63_6, zi63_9, zi63_9n, zi63_10, zi63_13, zi63_13n, zi63_14, zi63_17, zi63_18, zi63_19, zi63_19n, zi63_20, zi63_20i, zi63_21, zi63_24, zi63_25, zi63_26, zi63_29 (sk := []), zcl1, zlow_0, zlow_1, zlow_2, zlow_3, zlow_4, zfree_0, zfree_i, zfree_r, zfree_n, zfree_d, zfree_f, zfree_s, if_true, if_false, Option.bind_some, Option.toList_some, Option.toList_none, List.cons_append, List.nil_append, List.set_cons_zero, List.set_cons_succ, Bool.false_eq_true, reduceIte, zsw_c, zsw_n, Nat.reduceAdd, h3, eq_false ne, h2, w, f1, ix_p1, w2]
  · rw [zfld_same, f1]; rfl
def CSz (E : zE) (h : zH) (q M : Nat) (k : Int32) (tn : Nat) (t : Nat → Int32) (l : List Int32) (r : Int32) : Prop := ∃ h', zcall zpp E M [.ref q, .ref 11] h = some (some (.int r), h') ∧ TC h' (nI (tn + l.length)) k (tup t tn l) ∧ zsm tP h h'
theorem cs22 (hT : TC h (nI tn) k t) (hL : LAt h q kd num fo) (hn : tn + 1 ≤ 16) : CSz E h q 22 k tn t [10] (nI fo) := by
  obtain ⟨h1, e1, T1, z1⟩ := sp_enter (E := E) hT (by omega) 10
  have L1 := TC.lk hL z1
  have hs : zsel 8 [8, 63] = some 63 := rfl
  refine ⟨h1, ?_, T1, z1⟩
  simp only [ze22, zi22_0, zi22_0n, zi22_1, zi22_3, zi22_6, zi22_6n, zi22_7, zi22_10 (sk := []), zcl1, zlow_0, zlow_1, zlow_2, zlow_3, zlow_4, zfree_0, zfree_i, zfree_r, zfree_n, zfree_d, zfree_f, zfree_s, if_true, if_false, Option.bind_some, Option.toList_some, Option.toList_none, List.cons_append, List.nil_append, List.set_cons_zero, List.set_cons_succ, Bool.false_eq_true, reduceIte, zsw_c, zsw_n, Nat.reduceAdd, hT.1, hs, e1, L1.2.2.2]
theorem cs23 (hT : TC h (nI tn) k t) (hL : LAt h q kd num fo) (hn : tn + 1 ≤ 16) : CSz E h q 23 k tn t [20] (nI num) := by
  obtain ⟨h1, e1, T1, z1⟩ := sp_enter (E := E) hT (by omega) 20
  have L1 := TC.lk hL z1
  have hs : zsel 8 [8, 63] = some 63 := rfl
  refine ⟨h1, ?_, T1, z1⟩
  simp only [ze23, zi23_0, zi23_0n, zi23_1, zi23_3, zi23_6, zi23_6n, zi23_7, zi23_10 (sk := []), zcl1, zlow_0, zlow_1, zlow_2, zlow_3, zlow_4, zfree_0, zfree_i, zfree_r, zfree_n, zfree_d, zfree_f, zfree_s, if_true, if_false, Option.bind_some, Option.toList_some, Option.toList_none, List.cons_append, List.nil_append, List.set_cons_zero, List.set_cons_succ, Bool.false_eq_true, reduceIte, zsw_c, zsw_n, Nat.reduceAdd, hT.1, hs, e1, L1.2.2.1]
theorem cs60 (hT : TC h (nI tn) k t) (hL : LAt h q kd num fo) (hn : tn + 2 ≤ 16) : CSz E h q 60 k tn t [21, 20] (nI num + k) := by
  obtain ⟨h1, e1, T1, z1⟩ := sp_enter (E := E) hT (by omega) 21
  have L1 := TC.lk hL z1
  obtain ⟨h2, e2, T2, z2⟩ := cs23 (E := E) T1 L1 (by omega)
  have hs : zsel 8 [8, 63] = some 63 := rfl
  refine ⟨h2, ?_, T2, z1.tr z2⟩
  simp only [ze60, zi60_0, zi60_0n, zi60_1, zi60_3, zi60_6, zi60_6n, zi60_7, zi60_7n, zi60_8, zi60_11, zi60_11n, zi60_12, zi60_15, zi60_16 (sk := []), zcl1, zlow_0, zlow_1, zlow_2, zlow_3, zlow_4, zfree_0, zfree_i, zfree_r, zfree_n, zfree_d, zfree_f, zfree_s, if_true, if_false, Option.bind_some, Option.toList_some, Option.toList_none, List.cons_append, List.nil_append, List.set_cons_zero, List.set_cons_succ, Bool.false_eq_true, reduceIte, zsw_c, zsw_n, Nat.reduceAdd, hT.1, hs, e1, L1.2.1, e2, T2.2.2.2.1]
theorem cs12 (hT : TC h (nI tn) k t) (hL : LAt h q kd num fo) (hn : tn + 3 ≤ 16) : CSz E h q 12 k tn t [24, 21, 20] (2 * (nI num + k)) := by
  obtain ⟨h1, e1, T1, z1⟩ := sp_enter (E := E) hT (by omega) 24
  have L1 := TC.lk hL z1
  obtain ⟨h2, e2, T2, z2⟩ := cs60 (E := E) T1 L1 (by omega)
  have hs : zsel 8 [8, 63] = some 63 := rfl
  refine ⟨h2, ?_, T2, z1.tr z2⟩
  simp only [ze12, zi12_0, zi12_0n, zi12_1, zi12_3, zi12_6, zi12_7, zi12_7n, zi12_8, zi12_8n, zi12_9, zi12_12, zi12_13 (sk := []), zcl1, zlow_0, zlow_1, zlow_2, zlow_3, zlow_4, zfree_0, zfree_i, zfree_r, zfree_n, zfree_d, zfree_f, zfree_s, if_true, if_false, Option.bind_some, Option.toList_some, Option.toList_none, List.cons_append, List.nil_append, List.set_cons_zero, List.set_cons_succ, Bool.false_eq_true, reduceIte, zsw_c, zsw_n, Nat.reduceAdd, hT.1, hs, e1, L1.2.1, e2]
theorem cs32 (hT : TC h (nI tn) k t) (hL : LAt h q kd num fo) (hn : tn + 3 ≤ 16) : CSz E h q 32 k tn t [22, 21, 20] (nI num + k - 1000) := by
  obtain ⟨h1, e1, T1, z1⟩ := sp_enter (E := E) hT (by omega) 22
  have L1 := TC.lk hL z1
  obtain ⟨h2, e2, T2, z2⟩ := cs60 (E := E) T1 L1 (by omega)
  have hs : zsel 8 [8, 63] = some 63 := rfl
  refine ⟨h2, ?_, T2, z1.tr z2⟩
  simp only [ze32, zi32_0, zi32_0n, zi32_1, zi32_3, zi32_6, zi32_6n, zi32_7, zi32_7n, zi32_8, zi32_11, zi32_14, zi32_15 (sk := []), zcl1, zlow_0, zlow_1, zlow_2, zlow_3, zlow_4, zfree_0, zfree_i, zfree_r, zfree_n, zfree_d, zfree_f, zfree_s, if_true, if_false, Option.bind_some, Option.toList_some, Option.toList_none, List.cons_append, List.nil_append, List.set_cons_zero, List.set_cons_succ, Bool.false_eq_true, reduceIte, zsw_c, zsw_n, Nat.reduceAdd, hT.1, hs, e1, L1.2.1, e2]
theorem cs17 (hT : TC h (nI tn) k t) (hL : LAt h q kd num fo) (hn : tn + 2 ≤ 16) : CSz E h q 17 k tn t [13, 10] (nI fo - 100) := by
  obtain ⟨h1, e1, T1, z1⟩ := sp_enter (E := E) hT (by omega) 13
  have L1 := TC.lk hL z1
  obtain ⟨h2, e2, T2, z2⟩ := cs22 (E := E) T1 L1 (by omega)
  have hs : zsel 8 [8, 63] = some 63 := rfl
  refine ⟨h2, ?_, T2, z1.tr z2⟩
  simp only [ze17, zi17_0, zi17_0n, zi17_1, zi17_3, zi17_6, zi17_6n, zi17_7, zi17_7n, zi17_8, zi17_11, zi17_13, zi17_14 (sk := []), zcl1, zlow_0, zlow_1, zlow_2, zlow_3, zlow_4, zfree_0, zfree_i, zfree_r, zfree_n, zfree_d, zfree_f, zfree_s, if_true, if_false, Option.bind_some, Option.toList_some, Option.toList_none, List.cons_append, List.nil_append, List.set_cons_zero, List.set_cons_succ, Bool.false_eq_true, reduceIte, zsw_c, zsw_n, Nat.reduceAdd, hT.1, hs, e1, L1.2.1, e2]
theorem cs27 (hT : TC h (nI tn) k t) (hL : LAt h q kd num fo) (hn : tn + 3 ≤ 16) : CSz E h q 27 k tn t [14, 13, 10] (2 * (nI fo - 100)) := by
  obtain ⟨h1, e1, T1, z1⟩ := sp_enter (E := E) hT (by omega) 14
  have L1 := TC.lk hL z1
  obtain ⟨h2, e2, T2, z2⟩ := cs17 (E := E) T1 L1 (by omega)
  have hs : zsel 8 [8, 63] = some 63 := rfl
  refine ⟨h2, ?_, T2, z1.tr z2⟩
  simp only [ze27, zi27_0, zi27_0n, zi27_1, zi27_3, zi27_6, zi27_7, zi27_7n, zi27_8, zi27_8n, zi27_9, zi27_12, zi27_13 (sk := []), zcl1, zlow_0, zlow_1, zlow_2, zlow_3, zlow_4, zfree_0, zfree_i, zfree_r, zfree_n, zfree_d, zfree_f, zfree_s, if_true, if_false, Option.bind_some, Option.toList_some, Option.toList_none, List.cons_append, List.nil_append, List.set_cons_zero, List.set_cons_succ, Bool.false_eq_true, reduceIte, zsw_c, zsw_n, Nat.reduceAdd, hT.1, hs, e1, L1.2.1, e2]
/-- size of those that lift from above, mark by their kind -/
theorem cs59 {lm : List Int32} {rm : Int32} (hT : TC h (nI tn) k t) (hL : LAt h q kd num fo) (hn : tn + 2 ≤ 16) (hs2 : zsel (kcls kd) [7, 60, 1, 12, 4, 32] = some M) (hm : ∀ h' tn' t', tn' = tn + 2 → TC h' (nI tn') k t' → LAt h' q kd num fo → CSz E h' q M k tn' t' lm rm) : CSz E h q 59 k tn t (11 :: 10 :: lm) (nI fo + rm) := by
  obtain ⟨h1, e1, T1, z1⟩ := sp_enter (E := E) hT (by omega) 11
  have L1 := TC.lk hL z1
  obtain ⟨h2, e2, T2, z2⟩ := cs22 (E := E) T1 L1 (by omega)
  have L2 := TC.lk L1 z2
  obtain ⟨h3, e3, T3, z3⟩ := hm h2 (tn + 2) _ rfl T2 L2
  have hs : zsel 8 [8, 63] = some 63 := rfl
  refine ⟨h3, ?_, ?_, (z1.tr z2).tr z3⟩
  · simp only [ze59, zi59_0, zi59_0n, zi59_1, zi59_3, zi59_6, zi59_6n, zi59_7, zi59_7n, zi59_8, zi59_11, zi59_11n, zi59_12, zi59_12n, zi59_13, zi59_16, zi59_17 (sk := []), zcl1, zlow_0, zlow_1, zlow_2, zlow_3, zlow_4, zfree_0, zfree_i, zfree_r, zfree_n, zfree_d, zfree_f, zfree_s, if_true, if_false, Option.bind_some, Option.toList_some, Option.toList_none, List.cons_append, List.nil_append, List.set_cons_zero, List.set_cons_succ, Bool.false_eq_true, reduceIte, zsw_c, zsw_n, Nat.reduceAdd, hT.1, hs, e1, L1.2.1, e2, L2.2.1, hs2, e3]
  · rw [show tn + (11 :: 10 :: lm).length = tn + 2 + lm.length by simp only [List.length_cons]; omega]
    exact T3
theorem cs11 {lm : List Int32} {rm : Int32} (hT : TC h (nI tn) k t) (hL : LAt h q kd num fo) (hn : tn + 1 ≤ 16) (hm : ∀ h' tn' t', tn' = tn + 1 → TC h' (nI tn') k t' → LAt h' q kd num fo → CSz E h' q 59 k tn' t' lm rm) : CSz E h q 11 k tn t (12 :: lm) (0 - rm) := by
  obtain ⟨h1, e1, T1, z1⟩ := sp_enter (E := E) hT (by omega) 12
  have L1 := TC.lk hL z1
  obtain ⟨h3, e3, T3, z3⟩ := hm h1 (tn + 1) _ rfl T1 L1
  have hs : zsel 8 [8, 63] = some 63 := rfl
  refine ⟨h3, ?_, ?_, z1.tr z3⟩
  · simp only [ze11, zi11_0, zi11_0n, zi11_1, zi11_3, zi11_6, zi11_7, zi11_7n, zi11_8, zi11_8n, zi11_9, zi11_12, zi11_13 (sk := []), zcl1, zlow_0, zlow_1, zlow_2, zlow_3, zlow_4, zfree_0, zfree_i, zfree_r, zfree_n, zfree_d, zfree_f, zfree_s, if_true, if_false, Option.bind_some, Option.toList_some, Option.toList_none, List.cons_append, List.nil_append, List.set_cons_zero, List.set_cons_succ, Bool.false_eq_true, reduceIte, zsw_c, zsw_n, Nat.reduceAdd, hT.1, hs, e1, L1.2.1, e3]
  · rw [show tn + (12 :: lm).length = tn + 1 + lm.length by simp only [List.length_cons]; omega]
    exact T3
theorem cs18 {lm : List Int32} {rm : Int32} (hT : TC h (nI tn) k t) (hL : LAt h q kd num fo) (hn : tn + 2 ≤ 16) (hs2 : zsel (kcls kd) [2, 17, 3, 27] = some M) (hm : ∀ h' tn' t', tn' = tn + 2 → TC h' (nI tn') k t' → LAt h' q kd num fo → CSz E h' q M k tn' t' lm rm) : CSz E h q 18 k tn t (23 :: 20 :: lm) (nI num - rm) := by
  obtain ⟨h1, e1, T1, z1⟩ := sp_enter (E := E) hT (by omega) 23
  have L1 := TC.lk hL z1
  obtain ⟨h2, e2, T2, z2⟩ := cs23 (E := E) T1 L1 (by omega)
  have L2 := TC.lk L1 z2
  obtain ⟨h3, e3, T3, z3⟩ := hm h2 (tn + 2) _ rfl T2 L2
  have hs : zsel 8 [8, 63] = some 63 := rfl
  refine ⟨h3, ?_, ?_, (z1.tr z2).tr z3⟩
  · simp only [ze18, zi18_0, zi18_0n, zi18_1, zi18_3, zi18_6, zi18_6n, zi18_7, zi18_7n, zi18_8, zi18_11, zi18_11n, zi18_12, zi18_12n, zi18_13, zi18_16, zi18_17 (sk := []), zcl1, zlow_0, zlow_1, zlow_2, zlow_3, zlow_4, zfree_0, zfree_i, zfree_r, zfree_n, zfree_d, zfree_f, zfree_s, if_true, if_false, Option.bind_some, Option.toList_some, Option.toList_none, List.cons_append, List.nil_append, List.set_cons_zero, List.set_cons_succ, Bool.false_eq_true, reduceIte, zsw_c, zsw_n, Nat.reduceAdd, hT.1, hs, e1, L1.2.1, e2, L2.2.1, hs2, e3]
  · rw [show tn + (23 :: 20 :: lm).length = tn + 2 + lm.length by simp only [List.length_cons]; omega]
    exact T3
/-- bodies of mark and of size, by the kind -/
def mkL (kd : Nat) : List Int32 := if kd = 1 then [21, 20] else if kd = 2 then [24, 21, 20] else if kd = 3 then [22, 21, 20] else if kd = 4 then [23, 20, 13, 10] else [23, 20, 14, 13, 10]
def mkV (kd num fo : Nat) (k : Int32) : Int32 := if kd = 1 then nI num + k else if kd = 2 then 2 * (nI num + k) else if kd = 3 then nI num + k - 1000 else if kd = 4 then nI num - (nI fo - 100) else nI num - 2 * (nI fo - 100)
def szL (kd : Nat) : List Int32 := if kd = 1 then [11, 10, 21, 20] else if kd = 2 then [12, 11, 10, 24, 21, 20] else if kd = 3 then [11, 10, 22, 21, 20] else if kd = 4 then [13, 10] else [14, 13, 10]
def szV (kd num fo : Nat) (k : Int32) : Int32 := if kd = 1 then nI fo + (nI num + k) else if kd = 2 then 0 - (nI fo + 2 * (nI num + k)) else if kd = 3 then nI fo + (nI num + k - 1000) else if kd = 4 then nI fo - 100 else 2 * (nI fo - 100)
def mkM (kd : Nat) : Nat := if kd = 1 then 60 else if kd = 2 then 12 else if kd = 3 then 32 else 18
def szM (kd : Nat) : Nat := if kd = 1 then 59 else if kd = 2 then 11 else if kd = 3 then 59 else if kd = 4 then 17 else 27
theorem cs_mark (hT : TC h (nI 0) k t) (hL : LAt h q kd num fo) (hk : 1 ≤ kd ∧ kd ≤ 5) : CSz E h q (mkM kd) k 0 t (mkL kd) (mkV kd num fo k) := by
  obtain rfl | rfl | rfl | rfl | rfl : kd = 1 ∨ kd = 2 ∨ kd = 3 ∨ kd = 4 ∨ kd = 5 := by omega
  · exact cs60 hT hL (by omega)
  · exact cs12 hT hL (by omega)
  · exact cs32 hT hL (by omega)
  · exact cs18 (M := 17) (lm := [13, 10]) hT hL (by omega) rfl (fun h' tn' t' e T L => cs17 T L (by omega))
  · exact cs18 (M := 27) (lm := [14, 13, 10]) hT hL (by omega) rfl (fun h' tn' t' e T L => cs27 T L (by omega))
theorem cs_size (hT : TC h (nI 0) k t) (hL : LAt h q kd num fo) (hk : 1 ≤ kd ∧ kd ≤ 5) : CSz E h q (szM kd) k 0 t (szL kd) (szV kd num fo k) := by
  obtain rfl | rfl | rfl | rfl | rfl : kd = 1 ∨ kd = 2 ∨ kd = 3 ∨ kd = 4 ∨ kd = 5 := by omega
  · exact cs59 (M := 60) (lm := [21, 20]) hT hL (by omega) rfl (fun h' tn' t' e T L => cs60 T L (by omega))
  · exact cs11 (lm := [11, 10, 24, 21, 20]) hT hL (by omega) (fun h' tn' t' e T L => cs59 (M := 12) (lm := [24, 21, 20]) T L (by omega) rfl (fun h'' tn'' t'' e' T' L' => cs12 T' L' (by omega)))
  · exact cs59 (M := 32) (lm := [22, 21, 20]) hT hL (by omega) rfl (fun h' tn' t' e T L => cs32 T L (by omega))
  · exact cs17 hT hL (by omega)
  · exact cs27 hT hL (by omega)
end ASKC
section ASKM
variable {E : zE} {N : Nat → Nat} {w : Nat}
def uP (x : Nat) : Prop := x = 73 ∨ x = 86
/-- the model's trace -/
def MT (H : zH) (sc : Nat → Int32) (N : Nat → Nat) (tn : Nat) (t : Nat → Int32) : Prop := MdO H (upd sc 24 (nI tn)) ∧ MY H N ∧ zrow 0 H 86 16 t
theorem sp_began {H : zH} {sc t : Nat → Int32} {tn : Nat} (hT : MT H sc N tn t) (hn : tn < 16) (b : Int32) : ∃ H', zcall zpp E 221 [.ref 73, .int b] H = some (none, H') ∧ MT H' sc N (tn + 1) (upd t tn b) ∧ zsm uP H H' := by
  obtain ⟨h1, h2, h3⟩ := hT
  have f : zfld [11] H 73 24 = some (.int (nI tn)) := h1.i 24 rfl (by omega)
  have w1 := zars_at (j := tn) (x := b) h3 hn (by omega) zfits_i
  have M1 : MdO (zpa H 86 tn b) (upd sc 24 (nI tn)) := h1.pa
  have f1 : zfld [11] (zpa H 86 tn b) 73 24 = some (.int (nI tn)) := M1.i 24 rfl (by omega)
  have w2 := M1.st 24 rfl (by omega) (nI (tn + 1))
  have M2 := M1.put 24 rfl (by omega) (nI (tn + 1))
  have ne : ¬ (16 : Int32) ≤ nI tn := by rw [show (16 : Int32) = nI 16 from rfl, nI_leP (by omega) (by omega)]; omega
  have eu : upd (upd sc 24 (nI tn)) 24 (nI (tn + 1)) = upd sc 24 (nI (tn + 1)) := by
    funext j
    unfold upd
    split <;> rfl
  rw [eu] at M2
  refine ⟨_, ?_, ⟨M2, (h2.keep (zpa_o (by omega))).keep (zpf_o (by omega)), zrow_pf (zrow_pa h3)⟩, (zsm_pa.wk (fun a e => Or.inr e)).tr (zsm_pf.wk (fun a e => Or.inl e))⟩
  simp only [ze221, zi221_0, zi221_0n, zi221_1, zi221_4, zi221_6, zi221_9, zi221_9n, zi221_10, zi221_13, zi221_13n, zi221_14, zi221_17, zi221_18, zi221_19, zi221_19n, zi221_20, zi221_20i, zi221_21, zi221_24, zi221_25, zi221_26, zi221_29 (sk := []), zcl1, zlow_0, zlow_1, zlow_2, zlow_3, zlow_4, zfree_0, zfree_i, zfree_r, zfree_n, zfree_d, zfree_f, zfree_s, if_true, if_false, Option.bind_some, Option.toList_some, Option.toList_none, List.cons_append, List.nil_append, List.set_cons_zero, List.set_cons_succ, Bool.false_eq_true, reduceIte, zsw_c, zsw_n, Nat.reduceAdd, f, eq_false ne, h1.r23, w1, f1, ix_p1, w2]
def MSz (E : zE) (N : Nat → Nat) (H : zH) (sc : Nat → Int32) (w M tn : Nat) (t : Nat → Int32) (l : List Int32) (r : Int32) : Prop := ∃ H', zcall zpp E M [.ref 73, .int (nI w)] H = some (some (.int r), H') ∧ MT H' sc N (tn + l.length) (tup t tn l) ∧ zsm uP H H'
section
variable {H : zH} {sc t : Nat → Int32} {tn : Nat}
theorem ms222 (hT : MT H sc N tn t) (hw : w < 4) (hn : tn + 1 ≤ 16) : MSz E N H sc w 222 tn t [10] (nI (N (66 + 2 * w))) := by
  obtain ⟨H1, e1, T1, z1⟩ := sp_began (E := E) hT (by omega) 10
  have m1 : zsel 11 [11, 221] = some 221 := rfl
  have m2 : zsel 11 [11, 180] = some 180 := rfl
  refine ⟨H1, ?_, T1, z1⟩
  simp only [ze222, zi222_0, zi222_0n, zi222_1, zi222_3, zi222_6, zi222_6n, zi222_7, zi222_8, zi222_11 (sk := []), zcl1, zlow_0, zlow_1, zlow_2, zlow_3, zlow_4, zfree_0, zfree_i, zfree_r, zfree_n, zfree_d, zfree_f, zfree_s, if_true, if_false, Option.bind_some, Option.toList_some, Option.toList_none, List.cons_append, List.nil_append, List.set_cons_zero, List.set_cons_succ, Bool.false_eq_true, reduceIte, zsw_c, zsw_n, Nat.reduceAdd, hT.1.1, m1, e1, T1.1.1, m2, sp_forceOf T1.1 T1.2.1 hw]
theorem ms223 (hT : MT H sc N tn t) (hw : w < 4) (hk : N (65 + 2 * w) = 4 ∨ N (65 + 2 * w) = 5) (hn : tn + 3 ≤ 16) : MSz E N H sc w 223 tn t (szL (N (65 + 2 * w))) (szV (N (65 + 2 * w)) w (N (66 + 2 * w)) 0) := by
  have m1 : zsel 11 [11, 221] = some 221 := rfl
  have m2 : zsel 11 [11, 179] = some 179 := rfl
  have m3 : zsel 11 [11, 222] = some 222 := rfl
  have k := sp_kindOf (E := E) hT.1 hT.2.1 hw
  rcases hk with hk | hk
  · rw [hk] at k ⊢
    obtain ⟨H1, e1, T1, z1⟩ := sp_began (E := E) hT (by omega) 13
    obtain ⟨H2, e2, T2, z2⟩ := ms222 (E := E) T1 hw (by omega)
    refine ⟨H2, ?_, T2, z1.tr z2⟩
    simp only [ze223, zi223_0, zi223_0n, zi223_1, zi223_2, zi223_5, zi223_6, zi223_9, zi223_10, zi223_13, zi223_14, zi223_15, zi223_16, zi223_19, zi223_19n, zi223_20, zi223_22, zi223_25, zi223_25n, zi223_26, zi223_28, zi223_31, zi223_31n, zi223_32, zi223_33, zi223_36, zi223_38, zi223_39, zi223_40, zi223_41, zi223_44, zi223_45, zi223_46, zi223_47, zi223_50, zi223_51 (sk := []), zcl1, zlow_0, zlow_1, zlow_2, zlow_3, zlow_4, zfree_0, zfree_i, zfree_r, zfree_n, zfree_d, zfree_f, zfree_s, if_true, if_false, Option.bind_some, Option.toList_some, Option.toList_none, List.cons_append, List.nil_append, List.set_cons_zero, List.set_cons_succ, Bool.false_eq_true, reduceIte, zsw_c, zsw_n, Nat.reduceAdd, hT.1.1, m2, k, show (nI 4 = 5) = False by decide, not_false_eq_true, z00, m1, e1, T1.1.1, m3, e2]
    rfl
  · rw [hk] at k ⊢
    obtain ⟨H0, e0, T0, z0⟩ := sp_began (E := E) hT (by omega) 14
    obtain ⟨H1, e1, T1, z1⟩ := sp_began (E := E) T0 (by omega) 13
    obtain ⟨H2, e2, T2, z2⟩ := ms222 (E := E) T1 hw (by omega)
    refine ⟨H2, ?_, T2, (z0.tr z1).tr z2⟩
    simp only [ze223, zi223_0, zi223_0n, zi223_1, zi223_2, zi223_5, zi223_6, zi223_9, zi223_10, zi223_13, zi223_14, zi223_15, zi223_16, zi223_19, zi223_19n, zi223_20, zi223_22, zi223_25, zi223_25n, zi223_26, zi223_28, zi223_31, zi223_31n, zi223_32, zi223_33, zi223_36, zi223_38, zi223_39, zi223_40, zi223_41, zi223_44, zi223_45, zi223_46, zi223_47, zi223_50, zi223_51 (sk := []), zcl1, zlow_0, zlow_1, zlow_2, zlow_3, zlow_4, zfree_0, zfree_i, zfree_r, zfree_n, zfree_d, zfree_f, zfree_s, if_true, if_false, Option.bind_some, Option.toList_some, Option.toList_none, List.cons_append, List.nil_append, List.set_cons_zero, List.set_cons_succ, Bool.false_eq_true, reduceIte, zsw_c, zsw_n, Nat.reduceAdd, hT.1.1, m2, k, show (nI 5 = 5) = True by decide, not_true_eq_false, z10, m1, e0, T0.1.1, e1, T1.1.1, m3, e2]
    rfl
theorem ms224 (hW : WF N) (hT : MT H sc N tn t) (hw : w < N 5) (hn : tn + 5 ≤ 16) : MSz E N H sc w 224 tn t (mkL (N (65 + 2 * w))) (mkV (N (65 + 2 * w)) w (N (66 + 2 * w)) (nI (zpc (N 8)))) := by
  have h5 := hW.2.2.2.2.2.1
  have m1 : zsel 11 [11, 221] = some 221 := rfl
  have m2 : zsel 11 [11, 179] = some 179 := rfl
  have m3 : zsel 11 [11, 223] = some 223 := rfl
  have hk := (hW.kf hw).1
  have k := sp_kindOf (E := E) hT.1 hT.2.1 (show w < 4 by omega)
  by_cases hg : 4 ≤ N (65 + 2 * w)
  · obtain ⟨H1, e1, T1, z1⟩ := sp_began (E := E) hT (by omega) 23
    obtain ⟨H2, e2, T2, z2⟩ := sp_began (E := E) T1 (by omega) 20
    obtain ⟨H3, e3, T3, z3⟩ := ms223 (E := E) T2 (show w < 4 by omega) (by omega) (by omega)
    have lt : ¬ nI (N (65 + 2 * w)) < 4 := by rw [show (4 : Int32) = nI 4 from rfl, nI_ltP (by omega) (by omega)]; omega
    have hk45 : N (65 + 2 * w) = 4 ∨ N (65 + 2 * w) = 5 := by omega
    refine ⟨H3, ?_, ?_, (z1.tr z2).tr z3⟩
    · simp only [ze224, zi224_0, zi224_0n, zi224_1, zi224_2, zi224_5, zi224_6, zi224_7, zi224_8, zi224_11, zi224_11n, zi224_12, zi224_14, zi224_17, zi224_17n, zi224_18, zi224_20, zi224_23, zi224_24, zi224_24n, zi224_25, zi224_26, zi224_29, zi224_30 (sk := []), zi224_31, zi224_32, zi224_33, zi224_36, zi224_36n, zi224_37, zi224_38, zi224_39, zi224_42, zi224_44, zi224_47, zi224_49, zi224_52, zi224_52n, zi224_53, zi224_55, zi224_58, zi224_58n, zi224_59, zi224_61, zi224_64, zi224_65, zi224_65n, zi224_66, zi224_69, zi224_71, zi224_72, zi224_75, zi224_76, zi224_77, zi224_78, zi224_79, zi224_82, zi224_83, zi224_86, zi224_87, zi224_88, zi224_91, zi224_92, zi224_95, zi224_96, zi224_99, zi224_100, zi224_101, zi224_102 (sk := []), zcl1, zlow_0, zlow_1, zlow_2, zlow_3, zlow_4, zfree_0, zfree_i, zfree_r, zfree_n, zfree_d, zfree_f, zfree_s, if_true, if_false, Option.bind_some, Option.toList_some, Option.toList_none, List.cons_append, List.nil_append, List.set_cons_zero, List.set_cons_succ, Bool.false_eq_true, reduceIte, zsw_c, zsw_n, Nat.reduceAdd, hT.1.1, m2, k, eq_false lt, m1, e1, T1.1.1, e2, T2.1.1, m3, e3]
      rcases hk45 with e | e
      · rw [e]; rfl
      · rw [e]; rfl
    · rcases hk45 with e | e
      · rw [e] at T3 ⊢; exact T3
      · rw [e] at T3 ⊢; exact T3
  · have lt : nI (N (65 + 2 * w)) < 4 := by rw [show (4 : Int32) = nI 4 from rfl, nI_ltP (by omega) (by omega)]; omega
    have hd := hW.d8
    have r8 := fun (H : zH) (sc : Nat → Int32) (hM : MdO H sc) (hY : MY H N) => hY.c 8 (by omega) (x := 8) rfl
    obtain hk1 | hk1 | hk1 : N (65 + 2 * w) = 1 ∨ N (65 + 2 * w) = 2 ∨ N (65 + 2 * w) = 3 := by omega
    · rw [hk1] at k lt ⊢
      obtain ⟨H1, e1, T1, z1⟩ := sp_began (E := E) hT (by omega) 21
      obtain ⟨H2, e2, T2, z2⟩ := sp_began (E := E) T1 (by omega) 20
      refine ⟨H2, ?_, T2, z1.tr z2⟩
      simp only [ze224, zi224_0, zi224_0n, zi224_1, zi224_2, zi224_5, zi224_6, zi224_7, zi224_8, zi224_11, zi224_11n, zi224_12, zi224_14, zi224_17, zi224_17n, zi224_18, zi224_20, zi224_23, zi224_24, zi224_24n, zi224_25, zi224_26, zi224_29, zi224_30 (sk := []), zi224_31, zi224_32, zi224_33, zi224_36, zi224_36n, zi224_37, zi224_38, zi224_39, zi224_42, zi224_44, zi224_47, zi224_49, zi224_52, zi224_52n, zi224_53, zi224_55, zi224_58, zi224_58n, zi224_59, zi224_61, zi224_64, zi224_65, zi224_65n, zi224_66, zi224_69, zi224_71, zi224_72, zi224_75, zi224_76, zi224_77, zi224_78, zi224_79, zi224_82, zi224_83, zi224_86, zi224_87, zi224_88, zi224_91, zi224_92, zi224_95, zi224_96, zi224_99, zi224_100, zi224_101, zi224_102 (sk := []), zcl1, zlow_0, zlow_1, zlow_2, zlow_3, zlow_4, zfree_0, zfree_i, zfree_r, zfree_n, zfree_d, zfree_f, zfree_s, if_true, if_false, Option.bind_some, Option.toList_some, Option.toList_none, List.cons_append, List.nil_append, List.set_cons_zero, List.set_cons_succ, Bool.false_eq_true, reduceIte, zsw_c, zsw_n, Nat.reduceAdd, hT.1.1, m2, k, eq_true lt, show (nI 1 = 1) = True by decide, not_true_eq_false, m1, e1, T1.1.1, e2, T2.1.r5, T2.2.1.c 8 (by omega) (x := 8) rfl, sp_bits hd]
      rfl
    · rw [hk1] at k lt ⊢
      obtain ⟨H0, e0, T0, z0⟩ := sp_began (E := E) hT (by omega) 24
      obtain ⟨H1, e1, T1, z1⟩ := sp_began (E := E) T0 (by omega) 21
      obtain ⟨H2, e2, T2, z2⟩ := sp_began (E := E) T1 (by omega) 20
      refine ⟨H2, ?_, T2, (z0.tr z1).tr z2⟩
      simp only [ze224, zi224_0, zi224_0n, zi224_1, zi224_2, zi224_5, zi224_6, zi224_7, zi224_8, zi224_11, zi224_11n, zi224_12, zi224_14, zi224_17, zi224_17n, zi224_18, zi224_20, zi224_23, zi224_24, zi224_24n, zi224_25, zi224_26, zi224_29, zi224_30 (sk := []), zi224_31, zi224_32, zi224_33, zi224_36, zi224_36n, zi224_37, zi224_38, zi224_39, zi224_42, zi224_44, zi224_47, zi224_49, zi224_52, zi224_52n, zi224_53, zi224_55, zi224_58, zi224_58n, zi224_59, zi224_61, zi224_64, zi224_65, zi224_65n, zi224_66, zi224_69, zi224_71, zi224_72, zi224_75, zi224_76, zi224_77, zi224_78, zi224_79, zi224_82, zi224_83, zi224_86, zi224_87, zi224_88, zi224_91, zi224_92, zi224_95, zi224_96, zi224_99, zi224_100, zi224_101, zi224_102 (sk := []), zcl1, zlow_0, zlow_1, zlow_2, zlow_3, zlow_4, zfree_0, zfree_i, zfree_r, zfree_n, zfree_d, zfree_f, zfree_s, if_true, if_false, Option.bind_some, Option.toList_some, Option.toList_none, List.cons_append, List.nil_append, List.set_cons_zero, List.set_cons_succ, Bool.false_eq_true, reduceIte, zsw_c, zsw_n, Nat.reduceAdd, hT.1.1, m2, k, eq_true lt, show (nI 2 = 1) = False by decide, show (nI 2 = 3) = False by decide, not_false_eq_true, m1, e0, T0.1.1, e1, T1.1.1, e2, T2.1.r5, T2.2.1.c 8 (by omega) (x := 8) rfl, sp_bits hd]
      rfl
    · rw [hk1] at k lt ⊢
      obtain ⟨H0, e0, T0, z0⟩ := sp_began (E := E) hT (by omega) 22
      obtain ⟨H1, e1, T1, z1⟩ := sp_began (E := E) T0 (by omega) 21
      obtain ⟨H2, e2, T2, z2⟩ := sp_began (E := E) T1 (by omega) 20
      refine ⟨H2, ?_, T2, (z0.tr z1).tr z2⟩
      simp only [ze224, zi224_0, zi224_0n, zi224_1, zi224_2, zi224_5, zi224_6, zi224_7, zi224_8, zi224_11, zi224_11n, zi224_12, zi224_14, zi224_17, zi224_17n, zi224_18, zi224_20, zi224_23, zi224_24, zi224_24n, zi224_25, zi224_26, zi224_29, zi224_30 (sk := []), zi224_31, zi224_32, zi224_33, zi224_36, zi224_36n, zi224_37, zi224_38, zi224_39, zi224_42, zi224_44, zi224_47, zi224_49, zi224_52, zi224_52n, zi224_53, zi224_55, zi224_58, zi224_58n, zi224_59, zi224_61, zi224_64, zi224_65, zi224_65n, zi224_66, zi224_69, zi224_71, zi224_72, zi224_75, zi224_76, zi224_77, zi224_78, zi224_79, zi224_82, zi224_83, zi224_86, zi224_87, zi224_88, zi224_91, zi224_92, zi224_95, zi224_96, zi224_99, zi224_100, zi224_101, zi224_102 (sk := []), zcl1, zlow_0, zlow_1, zlow_2, zlow_3, zlow_4, zfree_0, zfree_i, zfree_r, zfree_n, zfree_d, zfree_f, zfree_s, if_true, if_false, Option.bind_some, Option.toList_some, Option.toList_none, List.cons_append, List.nil_append, List.set_cons_zero, List.set_cons_succ, Bool.false_eq_true, reduceIte, zsw_c, zsw_n, Nat.reduceAdd, hT.1.1, m2, k, eq_true lt, show (nI 3 = 1) = False by decide, show (nI 3 = 3) = True by decide, not_false_eq_true, not_true_eq_false, m1, e0, T0.1.1, e1, T1.1.1, e2, T2.1.r5, T2.2.1.c 8 (by omega) (x := 8) rfl, sp_bits hd]
      rfl
theorem ms225 (hW : WF N) (hT : MT H sc N tn t) (hw : w < N 5) (hn : tn + 8 ≤ 16) : MSz E N H sc w 225 tn t (szL (N (65 + 2 * w))) (szV (N (65 + 2 * w)) w (N (66 + 2 * w)) (nI (zpc (N 8)))) := by
  have h5 := hW.2.2.2.2.2.1
  have m1 : zsel 11 [11, 221] = some 221 := rfl
  have m2 : zsel 11 [11, 179] = some 179 := rfl
  have m3 : zsel 11 [11, 223] = some 223 := rfl
  have m4 : zsel 11 [11, 222] = some 222 := rfl
  have m5 : zsel 11 [11, 224] = some 224 := rfl
  have hk := (hW.kf hw).1
  have k := sp_kindOf (E := E) hT.1 hT.2.1 (show w < 4 by omega)
  by_cases hg : 4 ≤ N (65 + 2 * w)
  · obtain ⟨H3, e3, T3, z3⟩ := ms223 (E := E) hT (show w < 4 by omega) (by omega) (by omega)
    have lt : ¬ nI (N (65 + 2 * w)) < 4 := by rw [show (4 : Int32) = nI 4 from rfl, nI_ltP (by omega) (by omega)]; omega
    have hk45 : N (65 + 2 * w) = 4 ∨ N (65 + 2 * w) = 5 := by omega
    refine ⟨H3, ?_, T3, z3⟩
    simp only [ze225, zi225_0, zi225_0n, zi225_1, zi225_2, zi225_5, zi225_6, zi225_7, zi225_8, zi225_11, zi225_11n, zi225_12, zi225_13, zi225_16 (sk := []), zi225_17, zi225_18, zi225_19, zi225_22, zi225_22n, zi225_23, zi225_25, zi225_28, zi225_28n, zi225_29, zi225_31, zi225_34, zi225_34n, zi225_35, zi225_36, zi225_39, zi225_40, zi225_41, zi225_41n, zi225_42, zi225_43, zi225_46, zi225_47, zi225_48, zi225_49, zi225_50, zi225_53, zi225_54, zi225_55, zi225_58, zi225_59 (sk := []), zcl1, zlow_0, zlow_1, zlow_2, zlow_3, zlow_4, zfree_0, zfree_i, zfree_r, zfree_n, zfree_d, zfree_f, zfree_s, if_true, if_false, Option.bind_some, Option.toList_some, Option.toList_none, List.cons_append, List.nil_append, List.set_cons_zero, List.set_cons_succ, Bool.false_eq_true, reduceIte, zsw_c, zsw_n, Nat.reduceAdd, hT.1.1, m2, k, eq_false lt, m3, e3]
    rcases hk45 with e | e
    · rw [e]; rfl
    · rw [e]; rfl
  · have lt : nI (N (65 + 2 * w)) < 4 := by rw [show (4 : Int32) = nI 4 from rfl, nI_ltP (by omega) (by omega)]; omega
    obtain hk1 | hk1 | hk1 : N (65 + 2 * w) = 1 ∨ N (65 + 2 * w) = 2 ∨ N (65 + 2 * w) = 3 := by omega
    · obtain ⟨H1, e1, T1, z1⟩ := sp_began (E := E) hT (by omega) 11
      obtain ⟨H2, e2, T2, z2⟩ := ms222 (E := E) T1 (show w < 4 by omega) (by omega)
      obtain ⟨H3, e3, T3, z3⟩ := ms224 (E := E) hW T2 hw (by simp only [List.length_cons, List.length_nil]; omega)
      rw [hk1] at k lt T3 e3 ⊢
      refine ⟨H3, ?_, T3, (z1.tr z2).tr z3⟩
      simp only [ze225, zi225_0, zi225_0n, zi225_1, zi225_2, zi225_5, zi225_6, zi225_7, zi225_8, zi225_11, zi225_11n, zi225_12, zi225_13, zi225_16 (sk := []), zi225_17, zi225_18, zi225_19, zi225_22, zi225_22n, zi225_23, zi225_25, zi225_28, zi225_28n, zi225_29, zi225_31, zi225_34, zi225_34n, zi225_35, zi225_36, zi225_39, zi225_40, zi225_41, zi225_41n, zi225_42, zi225_43, zi225_46, zi225_47, zi225_48, zi225_49, zi225_50, zi225_53, zi225_54, zi225_55, zi225_58, zi225_59 (sk := []), zcl1, zlow_0, zlow_1, zlow_2, zlow_3, zlow_4, zfree_0, zfree_i, zfree_r, zfree_n, zfree_d, zfree_f, zfree_s, if_true, if_false, Option.bind_some, Option.toList_some, Option.toList_none, List.cons_append, List.nil_append, List.set_cons_zero, List.set_cons_succ, Bool.false_eq_true, reduceIte, zsw_c, zsw_n, Nat.reduceAdd, hT.1.1, m2, k, eq_true lt, show (nI 1 = 2) = False by decide, not_false_eq_true, m1, e1, T1.1.1, m4, e2, T2.1.1, m5, e3]
      rfl
    · obtain ⟨H0, e0, T0, z0⟩ := sp_began (E := E) hT (by omega) 12
      obtain ⟨H1, e1, T1, z1⟩ := sp_began (E := E) T0 (by omega) 11
      obtain ⟨H2, e2, T2, z2⟩ := ms222 (E := E) T1 (show w < 4 by omega) (by omega)
      obtain ⟨H3, e3, T3, z3⟩ := ms224 (E := E) hW T2 hw (by simp only [List.length_cons, List.length_nil]; omega)
      rw [hk1] at k lt T3 e3 ⊢
      refine ⟨H3, ?_, T3, ((z0.tr z1).tr z2).tr z3⟩
      have ng : ∀ x : Int32, -x = 0 - x := fun x => (Int32.zero_sub x).symm
      simp only [ze225, zi225_0, zi225_0n, zi225_1, zi225_2, zi225_5, zi225_6, zi225_7, zi225_8, zi225_11, zi225_11n, zi225_12, zi225_13, zi225_16 (sk := []), zi225_17, zi225_18, zi225_19, zi225_22, zi225_22n, zi225_23, zi225_25, zi225_28, zi225_28n, zi225_29, zi225_31, zi225_34, zi225_34n, zi225_35, zi225_36, zi225_39, zi225_40, zi225_41, zi225_41n, zi225_42, zi225_43, zi225_46, zi225_47, zi225_48, zi225_49, zi225_50, zi225_53, zi225_54, zi225_55, zi225_58, zi225_59 (sk := []), zcl1, zlow_0, zlow_1, zlow_2, zlow_3, zlow_4, zfree_0, zfree_i, zfree_r, zfree_n, zfree_d, zfree_f, zfree_s, if_true, if_false, Option.bind_some, Option.toList_some, Option.toList_none, List.cons_append, List.nil_append, List.set_cons_zero, List.set_cons_succ, Bool.false_eq_true, reduceIte, zsw_c, zsw_n, Nat.reduceAdd, hT.1.1, m2, k, eq_true lt, show (nI 2 = 2) = True by decide, not_true_eq_false, m1, e0, T0.1.1, e1, T1.1.1, m4, e2, T2.1.1, m5, e3, ng]
      rfl
    · obtain ⟨H1, e1, T1, z1⟩ := sp_began (E := E) hT (by omega) 11
      obtain ⟨H2, e2, T2, z2⟩ := ms222 (E := E) T1 (show w < 4 by omega) (by omega)
      obtain ⟨H3, e3, T3, z3⟩ := ms224 (E := E) hW T2 hw (by simp only [List.length_cons, List.length_nil]; omega)
      rw [hk1] at k lt T3 e3 ⊢
      refine ⟨H3, ?_, T3, (z1.tr z2).tr z3⟩
      simp only [ze225, zi225_0, zi225_0n, zi225_1, zi225_2, zi225_5, zi225_6, zi225_7, zi225_8, zi225_11, zi225_11n, zi225_12, zi225_13, zi225_16 (sk := []), zi225_17, zi225_18, zi225_19, zi225_22, zi225_22n, zi225_23, zi225_25, zi225_28, zi225_28n, zi225_29, zi225_31, zi225_34, zi225_34n, zi225_35, zi225_36, zi225_39, zi225_40, zi225_41, zi225_41n, zi225_42, zi225_43, zi225_46, zi225_47, zi225_48, zi225_49, zi225_50, zi225_53, zi225_54, zi225_55, zi225_58, zi225_59 (sk := []), zcl1, zlow_0, zlow_1, zlow_2, zlow_3, zlow_4, zfree_0, zfree_i, zfree_r, zfree_n, zfree_d, zfree_f, zfree_s, if_true, if_false, Option.bind_some, Option.toList_some, Option.toList_none, List.cons_append, List.nil_append, List.set_cons_zero, List.set_cons_succ, Bool.false_eq_true, reduceIte, zsw_c, zsw_n, Nat.reduceAdd, hT.1.1, m2, k, eq_true lt, show (nI 3 = 2) = False by decide, not_false_eq_true, m1, e1, T1.1.1, m4, e2, T2.1.1, m5, e3]
      rfl
end
end ASKM
