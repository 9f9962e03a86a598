/-! LIFTERS ARE MADE -/
theorem zat_end {h : zH} {c : zC} : (h ++ [c])[h.length]? = some c := by
  rw [List.getElem?_append_right (Nat.le_refl _), Nat.sub_self]
  rfl
theorem zat_old {h : zH} {c : zC} {a : Nat} (ha : a < h.length) : (h ++ [c])[a]? = h[a]? := List.getElem?_append_left ha
theorem zstf_end {h : zH} {cs : List Nat} {c ty f : Nat} {fs : List Value} {v : Value} (h1 : cs.contains c = true) (h2 : zfits ty v = true) (h3 : f < fs.length) : zstf cs ty (h ++ [.inl (c, fs)]) h.length f v = some (h ++ [.inl (c, fs.set f v)]) := by
  unfold zstf
  rw [zat_end]
  simp only [h1, h2, h3, decide_true, Bool.and_true, if_true]
  rw [List.set_append_right _ _ (Nat.le_refl _), Nat.sub_self]
  rfl
theorem zcls_end {h : zH} {c : Nat} {fs : List Value} : zcls (h ++ [.inl (c, fs)]) h.length = some c := by
  unfold zcls
  rw [zat_end]
theorem sp_new19 {E : zE} {h : zH} {c : Nat} {a b : Int32} (hc : [1, 2, 3, 4, 7].contains c = true) : zcall zpp E 19 [.ref h.length, .int a, .int b] (h ++ [.inl (c, [.int 0, .int 0])]) = some (none, h ++ [.inl (c, [.int a, .int b])]) := by
  simp only [ze19, zi19_0, zi19_0n, zi19_1, zi19_4, zi19_4n, zi19_5, zi19_6, zi19_9, zi19_9n, zi19_10, zi19_11, zi19_14 (sk := []), zcl1, zlow_0, zlow_1, zlow_2, zlow_3, zlow_4, zfree_0, zfree_i, zfree_r, zfree_n, zfree_d, zfree_f, zfree_s, if_true, if_false, Option.bind_some, Option.toList_some, Option.toList_none, List.cons_append, List.nil_append, List.set_cons_zero, List.set_cons_succ, Bool.false_eq_true, reduceIte, zsw_c, zsw_n, Nat.reduceAdd, zstf_end (fs := [.int 0, .int 0]) hc (zfits_i (x := a)) (show 0 < 2 by omega), zstf_end (fs := [.int a, .int 0]) hc (zfits_i (x := b)) (show 1 < 2 by omega)]
theorem sp_new55 {E : zE} {h : zH} {c : Nat} {a b : Int32} (hc : [1, 2, 3, 4, 7].contains c = true) : zcall zpp E 55 [.ref h.length, .int a, .int b] (h ++ [.inl (c, [.int 0, .int 0])]) = some (none, h ++ [.inl (c, [.int a, .int b])]) := by
  simp only [ze55, zi55_0, zi55_0n, zi55_1, zi55_2, zi55_3, zi55_6 (sk := []), zcl1, zlow_0, zlow_1, zlow_2, zlow_3, zlow_4, zfree_0, zfree_i, zfree_r, zfree_n, zfree_d, zfree_f, zfree_s, if_true, if_false, Option.bind_some, Option.toList_some, Option.toList_none, List.cons_append, List.nil_append, List.set_cons_zero, List.set_cons_succ, Bool.false_eq_true, reduceIte, zsw_c, zsw_n, Nat.reduceAdd, zcls_end, sp_new19 hc]
theorem sp_new7 {E : zE} {h : zH} {c : Nat} {a b : Int32} (hc : [1, 2, 3, 4, 7].contains c = true) : zcall zpp E 7 [.ref h.length, .int a, .int b] (h ++ [.inl (c, [.int 0, .int 0])]) = some (none, h ++ [.inl (c, [.int a, .int b])]) := by
  simp only [ze7, zi7_0, zi7_0n, zi7_1, zi7_2, zi7_3, zi7_6 (sk := []), zcl1, zlow_0, zlow_1, zlow_2, zlow_3, zlow_4, zfree_0, zfree_i, zfree_r, zfree_n, zfree_d, zfree_f, zfree_s, if_true, if_false, Option.bind_some, Option.toList_some, Option.toList_none, List.cons_append, List.nil_append, List.set_cons_zero, List.set_cons_succ, Bool.false_eq_true, reduceIte, zsw_c, zsw_n, Nat.reduceAdd, zcls_end, sp_new55 hc, sp_new19 hc]
theorem sp_new28 {E : zE} {h : zH} {c : Nat} {a b : Int32} (hc : [1, 2, 3, 4, 7].contains c = true) : zcall zpp E 28 [.ref h.length, .int a, .int b] (h ++ [.inl (c, [.int 0, .int 0])]) = some (none, h ++ [.inl (c, [.int a, .int b])]) := by
  simp only [ze28, zi28_0, zi28_0n, zi28_1, zi28_2, zi28_3, zi28_6 (sk := []), zcl1, zlow_0, zlow_1, zlow_2, zlow_3, zlow_4, zfree_0, zfree_i, zfree_r, zfree_n, zfree_d, zfree_f, zfree_s, if_true, if_false, Option.bind_some, Option.toList_some, Option.toList_none, List.cons_append, List.nil_append, List.set_cons_zero, List.set_cons_succ, Bool.false_eq_true, reduceIte, zsw_c, zsw_n, Nat.reduceAdd, zcls_end, sp_new55 hc, sp_new19 hc]
theorem sp_new13 {E : zE} {h : zH} {c : Nat} {a b : Int32} (hc : [1, 2, 3, 4, 7].contains c = true) : zcall zpp E 13 [.ref h.length, .int a, .int b] (h ++ [.inl (c, [.int 0, .int 0])]) = some (none, h ++ [.inl (c, [.int a, .int b])]) := by
  simp only [ze13, zi13_0, zi13_0n, zi13_1, zi13_2, zi13_3, zi13_6 (sk := []), zcl1, zlow_0, zlow_1, zlow_2, zlow_3, zlow_4, zfree_0, zfree_i, zfree_r, zfree_n, zfree_d, zfree_f, zfree_s, if_true, if_false, Option.bind_some, Option.toList_some, Option.toList_none, List.cons_append, List.nil_append, List.set_cons_zero, List.set_cons_succ, Bool.false_eq_true, reduceIte, zsw_c, zsw_n, Nat.reduceAdd, zcls_end, sp_new55 hc, sp_new19 hc]
theorem sp_new24 {E : zE} {h : zH} {c : Nat} {a b : Int32} (hc : [1, 2, 3, 4, 7].contains c = true) : zcall zpp E 24 [.ref h.length, .int a, .int b] (h ++ [.inl (c, [.int 0, .int 0])]) = some (none, h ++ [.inl (c, [.int a, .int b])]) := by
  simp only [ze24, zi24_0, zi24_0n, zi24_1, zi24_2, zi24_3, zi24_6 (sk := []), zcl1, zlow_0, zlow_1, zlow_2, zlow_3, zlow_4, zfree_0, zfree_i, zfree_r, zfree_n, zfree_d, zfree_f, zfree_s, if_true, if_false, Option.bind_some, Option.toList_some, Option.toList_none, List.cons_append, List.nil_append, List.set_cons_zero, List.set_cons_succ, Bool.false_eq_true, reduceIte, zsw_c, zsw_n, Nat.reduceAdd, zcls_end, sp_new13 hc, sp_new55 hc, sp_new19 hc]
theorem sp_lifterOf {E : zE} {h : zH} {kd : Nat} {a b : Int32} (hk : 1 ≤ kd ∧ kd ≤ 5) : zcall zpp E 146 [.int (nI kd), .int a, .int b] h = some (some (.ref h.length), h ++ [.inl (kcls kd, [.int a, .int b])]) := by
  have e7 : zborn 7 = [.int 0, .int 0] := rfl
  have e1 : zborn 1 = [.int 0, .int 0] := rfl
  have e4 : zborn 4 = [.int 0, .int 0] := rfl
  have e2 : zborn 2 = [.int 0, .int 0] := rfl
  have e3 : zborn 3 = [.int 0, .int 0] := rfl
  obtain rfl | rfl | rfl | rfl | rfl : kd = 1 ∨ kd = 2 ∨ kd = 3 ∨ kd = 4 ∨ kd = 5 := by omega
  · have q : (nI 1 = Int32.ofInt 1) = True := by decide
    simp only [ze146, zi146_0, zi146_1, zi146_32, zi146_35, zi146_35i, zi146_36, zi146_37, zi146_38, zi146_41 (sk := []), zi146_41n (sk := []), zi146_42, zi146_45, zi146_45i, zi146_46, zi146_47, zi146_48, zi146_51 (sk := []), zi146_51n (sk := []), zi146_52, zi146_55, zi146_55i, zi146_56, zi146_57, zi146_58, zi146_61 (sk := []), zi146_61n (sk := []), zi146_62, zi146_65, zi146_65i, zi146_66, zi146_67, zi146_68, zi146_71 (sk := []), zi146_71n (sk := []), zi146_72, zi146_75, zi146_75i, zi146_76, zi146_77, zi146_78, zi146_81 (sk := []), zi146_81n (sk := []), zcl1, zlow_0, zlow_1, zlow_2, zlow_3, zlow_4, zfree_0, zfree_i, zfree_r, zfree_n, zfree_d, zfree_f, zfree_s, if_true, if_false, Option.bind_some, Option.toList_some, Option.toList_none, List.cons_append, List.nil_append, List.set_cons_zero, List.set_cons_succ, Bool.false_eq_true, reduceIte, zsw_c, zsw_n, Nat.reduceAdd, q, e7, zcls_end, sp_new55 (c := 7) rfl]
    rfl
  · have q1 : (nI 2 = Int32.ofInt 1) = False := by decide
    have q2 : (nI 2 = Int32.ofInt 2) = True := by decide
    simp only [ze146, zi146_0, zi146_1, zi146_32, zi146_35, zi146_35i, zi146_36, zi146_37, zi146_38, zi146_41 (sk := []), zi146_41n (sk := []), zi146_42, zi146_45, zi146_45i, zi146_46, zi146_47, zi146_48, zi146_51 (sk := []), zi146_51n (sk := []), zi146_52, zi146_55, zi146_55i, zi146_56, zi146_57, zi146_58, zi146_61 (sk := []), zi146_61n (sk := []), zi146_62, zi146_65, zi146_65i, zi146_66, zi146_67, zi146_68, zi146_71 (sk := []), zi146_71n (sk := []), zi146_72, zi146_75, zi146_75i, zi146_76, zi146_77, zi146_78, zi146_81 (sk := []), zi146_81n (sk := []), zcl1, zlow_0, zlow_1, zlow_2, zlow_3, zlow_4, zfree_0, zfree_i, zfree_r, zfree_n, zfree_d, zfree_f, zfree_s, if_true, if_false, Option.bind_some, Option.toList_some, Option.toList_none, List.cons_append, List.nil_append, List.set_cons_zero, List.set_cons_succ, Bool.false_eq_true, reduceIte, zsw_c, zsw_n, Nat.reduceAdd, q1, q2, e1, zcls_end, sp_new7 (c := 1) rfl]
    rfl
  · have q1 : (nI 3 = Int32.ofInt 1) = False := by decide
    have q2 : (nI 3 = Int32.ofInt 2) = False := by decide
    have q3 : (nI 3 = Int32.ofInt 3) = True := by decide
    simp only [ze146, zi146_0, zi146_1, zi146_32, zi146_35, zi146_35i, zi146_36, zi146_37, zi146_38, zi146_41 (sk := []), zi146_41n (sk := []), zi146_42, zi146_45, zi146_45i, zi146_46, zi146_47, zi146_48, zi146_51 (sk := []), zi146_51n (sk := []), zi146_52, zi146_55, zi146_55i, zi146_56, zi146_57, zi146_58, zi146_61 (sk := []), zi146_61n (sk := []), zi146_62, zi146_65, zi146_65i, zi146_66, zi146_67, zi146_68, zi146_71 (sk := []), zi146_71n (sk := []), zi146_72, zi146_75, zi146_75i, zi146_76, zi146_77, zi146_78, zi146_81 (sk := []), zi146_81n (sk := []), zcl1, zlow_0, zlow_1, zlow_2, zlow_3, zlow_4, zfree_0, zfree_i, zfree_r, zfree_n, zfree_d, zfree_f, zfree_s, if_true, if_false, Option.bind_some, Option.toList_some, Option.toList_none, List.cons_append, List.nil_append, List.set_cons_zero, List.set_cons_succ, Bool.false_eq_true, reduceIte, zsw_c, zsw_n, Nat.reduceAdd, q1, q2, q3, e4, zcls_end, sp_new28 (c := 4) rfl]
    rfl
  · have q1 : (nI 4 = Int32.ofInt 1) = False := by decide
    have q2 : (nI 4 = Int32.ofInt 2) = False := by decide
    have q3 : (nI 4 = Int32.ofInt 3) = False := by decide
    have q4 : (nI 4 = Int32.ofInt 4) = True := by decide
    simp only [ze146, zi146_0, zi146_1, zi146_32, zi146_35, zi146_35i, zi146_36, zi146_37, zi146_38, zi146_41 (sk := []), zi146_41n (sk := []), zi146_42, zi146_45, zi146_45i, zi146_46, zi146_47, zi146_48, zi146_51 (sk := []), zi146_51n (sk := []), zi146_52, zi146_55, zi146_55i, zi146_56, zi146_57, zi146_58, zi146_61 (sk := []), zi146_61n (sk := []), zi146_62, zi146_65, zi146_65i, zi146_66, zi146_67, zi146_68, zi146_71 (sk := []), zi146_71n (sk := []), zi146_72, zi146_75, zi146_75i, zi146_76, zi146_77, zi146_78, zi146_81 (sk := []), zi146_81n (sk := []), zcl1, zlow_0, zlow_1, zlow_2, zlow_3, zlow_4, zfree_0, zfree_i, zfree_r, zfree_n, zfree_d, zfree_f, zfree_s, if_true, if_false, Option.bind_some, Option.toList_some, Option.toList_none, List.cons_append, List.nil_append, List.set_cons_zero, List.set_cons_succ, Bool.false_eq_true, reduceIte, zsw_c, zsw_n, Nat.reduceAdd, q1, q2, q3, q4, e2, zcls_end, sp_new13 (c := 2) rfl]
    rfl
  · have q1 : (nI 5 = Int32.ofInt 1) = False := by decide
    have q2 : (nI 5 = Int32.ofInt 2) = False := by decide
    have q3 : (nI 5 = Int32.ofInt 3) = False := by decide
    have q4 : (nI 5 = Int32.ofInt 4) = False := by decide
    simp only [ze146, zi146_0, zi146_1, zi146_32, zi146_35, zi146_35i, zi146_36, zi146_37, zi146_38, zi146_41 (sk := []), zi146_41n (sk := []), zi146_42, zi146_45, zi146_45i, zi146_46, zi146_47, zi146_48, zi146_51 (sk := []), zi146_51n (sk := []), zi146_52, zi146_55, zi146_55i, zi146_56, zi146_57, zi146_58, zi146_61 (sk := []), zi146_61n (sk := []), zi146_62, zi146_65, zi146_65i, zi146_66, zi146_67, zi146_68, zi146_71 (sk := []), zi146_71n (sk := []), zi146_72, zi146_75, zi146_75i, zi146_76, zi146_77, zi146_78, zi146_81 (sk := []), zi146_81n (sk := []), zcl1, zlow_0, zlow_1, zlow_2, zlow_3, zlow_4, zfree_0, zfree_i, zfree_r, zfree_n, zfree_d, zfree_f, zfree_s, if_true, if_false, Option.bind_some, Option.toList_some, Option.toList_none, List.cons_append, List.nil_append, List.set_cons_zero, List.set_cons_succ, Bool.false_eq_true, reduceIte, zsw_c, zsw_n, Nat.reduceAdd, q1, q2, q3, q4, e3, zcls_end, sp_new24 (c := 3) rfl]
    rfl
/-- a row of references: its new item -/
def zpo (h : zH) (a i : Nat) (o : Option Nat) : zH := match h[a]? with
  | some (.inr (.inr (t, n, f))) => h.set a (.inr (.inr (t, n, va_up f i o)))
  | _ => h
theorem zpo_len {h : zH} {a i : Nat} {o : Option Nat} : (zpo h a i o).length = h.length := by
  unfold zpo
  split <;> simp
theorem zpo_o {h : zH} {a b i : Nat} {o : Option Nat} (hn : a ≠ b) : (zpo h a i o)[b]? = h[b]? := by
  unfold zpo
  split
  · rw [List.getElem?_set_ne hn]
  · rfl
theorem zpo_at {h : zH} {a i t n : Nat} {o : Option Nat} {f : Nat → Option Nat} (e : h[a]? = some (.inr (.inr (t, n, f)))) : (zpo h a i o)[a]? = some (.inr (.inr (t, n, va_up f i o))) := by
  unfold zpo
  rw [e]
  exact List.getElem?_set_self (List.getElem?_eq_some_iff.mp e).1
theorem zpo_sl {h : zH} {a i : Nat} {o : Option Nat} : zsl (zpo h a i o) = zsl h := by
  unfold zpo
  split
  · rename_i t n f hq
    exact zsl_set hq (by simp [zsz])
  · rfl
theorem zsm_po {h : zH} {a i : Nat} {o : Option Nat} : zsm (fun x => x = a) h (zpo h a i o) := ⟨⟨zpo_len, zpo_sl⟩, fun x hx => zpo_o (fun z => hx z.symm)⟩
theorem zaro_at {h : zH} {a i t n c v : Nat} {f : Nat → Option Nat} {fs : List Value} (e : h[a]? = some (.inr (.inr (t, n, f)))) (ev : h[v]? = some (.inl (c, fs))) (hm : zmay t c = true) (hi : i < n) (hn : n < 2 ^ 31) : zaro h a (nI i) (.ref v) = some (zpo h a i (some v)) := by
  unfold zaro zpo
  dsimp only
  rw [e, ev]
  simp only [hm, zix_nI hi hn, Bool.and_self, if_true, nI_clamp (show i < 2 ^ 31 by omega)]
theorem zaro_null {h : zH} {a i t n : Nat} {f : Nat → Option Nat} (e : h[a]? = some (.inr (.inr (t, n, f)))) (hm : zart t = true) (hi : i < n) (hn : n < 2 ^ 31) : zaro h a (nI i) .null = some (zpo h a i none) := by
  unfold zaro zpo
  dsimp only
  rw [e]
  simp only [hm, zix_nI hi hn, Bool.and_self, if_true, nI_clamp (show i < 2 ^ 31 by omega)]
theorem YAt.po {h : zH} {y i : Nat} {F : Nat → Int32} {A : Nat → Nat → Int32} {cr : Nat → Option Nat} {o : Option Nat} (hY : YAt h y F A cr) : YAt (zpo h (y + 8) i o) y F A (va_up cr i o) := by
  obtain ⟨g1, g2, g3, g4, g, g5, g6⟩ := hY
  refine ⟨(zcls_c (zpo_o (by omega))).trans g1, fun k hk => (zfld_c (zpo_o (by omega))).trans (g2 k hk), fun j hj => zrow_c (zpo_o (by omega)) (g3 j hj), fun j h4 hj => zrow_c (zpo_o (by omega)) (g4 j h4 hj), _, zpo_at g5, fun k hk => ?_⟩
  unfold va_up
  split
  · rfl
  · exact g6 k hk
theorem YAt.len {h : zH} {y : Nat} {F : Nat → Int32} {A : Nat → Nat → Int32} {cr : Nat → Option Nat} (hY : YAt h y F A cr) : y + 8 < h.length := by
  obtain ⟨g1, g2, g3, g4, g, g5, g6⟩ := hY
  exact (List.getElem?_eq_some_iff.mp g5).1
theorem YAt.app {h : zH} {y : Nat} {F : Nat → Int32} {A : Nat → Nat → Int32} {cr : Nat → Option Nat} {c : zC} (hY : YAt h y F A cr) : YAt (h ++ [c]) y F A cr := hY.keep (fun a _ h2 => zat_old (by have := hY.len; omega))
def lifN (N : Nat → Nat) (kd fo : Nat) : Nat → Nat := fun i => if i = 5 then N 5 + 1 else if i = 65 + 2 * N 5 then kd else if i = 66 + 2 * N 5 then fo else N i
theorem lif_o {N : Nat → Nat} {kd fo i : Nat} (h5 : i ≠ 5) (hi : i < 65 + 2 * N 5) : lifN N kd fo i = N i := by
  unfold lifN
  rw [if_neg h5, if_neg (by omega), if_neg (by omega)]
theorem lif_k {N : Nat → Nat} {kd fo : Nat} : lifN N kd fo (65 + 2 * N 5) = kd := by
  unfold lifN
  rw [if_neg (by omega), if_pos rfl]
theorem lif_f {N : Nat → Nat} {kd fo : Nat} : lifN N kd fo (66 + 2 * N 5) = fo := by
  unfold lifN
  rw [if_neg (by omega), if_neg (by omega), if_pos rfl]
theorem sp_addLifter {E : zE} {h : zH} {y kd fo : Nat} {N : Nat → Nat} (hY : YN h y N) (hy : y < 70) (hl : 87 ≤ h.length) (hk : 1 ≤ kd ∧ kd ≤ 5) (hn : N 5 < 4) (h3 : N 3 ≤ 8) (h4 : N 4 ≤ 10) : ∃ h', zcall zpp E 68 [.ref y, .ref h.length] (h ++ [.inl (kcls kd, [.int (nI (N 5)), .int (nI fo)])]) = some (none, h') ∧ zsm (yP y) (h ++ [.inl (kcls kd, [.int (nI (N 5)), .int (nI fo)])]) h' ∧ YN h' y (lifN N kd fo) := by
  obtain ⟨A, cr, Y0, b1, b2, b3⟩ := hY
  obtain ⟨g, c8, -⟩ := Y0.app (c := .inl (kcls kd, [.int (nI (N 5)), .int (nI fo)])) |>.2.2.2.2
  have Y1 := Y0.app (c := .inl (kcls kd, [.int (nI (N 5)), .int (nI fo)]))
  have Y2 := Y1.po (i := N 5) (o := some h.length)
  have Y3 := Y2.pf 5 (v := nI (N 5 + 1)) (by omega)
  have f1 : zfld [9] _ y 5 = some (.int (nI (N 5))) := Y1.i 5 (by omega)
  have f2 : zfld [9] _ y 5 = some (.int (nI (N 5))) := Y2.i 5 (by omega)
  have n1 : nI (N 5) + 1 = nI (N 5 + 1) := nI_add (N 5) 1
  have hm : zmay 4 (kcls kd) = true := by
    obtain rfl | rfl | rfl | rfl | rfl : kd = 1 ∨ kd = 2 ∨ kd = 3 ∨ kd = 4 ∨ kd = 5 := by omega
    all_goals rfl
  have hz : zsm (yP y) (h ++ [.inl (kcls kd, [.int (nI (N 5)), .int (nI fo)])]) (zpf (zpo (h ++ [.inl (kcls kd, [.int (nI (N 5)), .int (nI fo)])]) (y + 8) (N 5) (some h.length)) y 5 (.int (nI (N 5 + 1)))) := (zsm_po.wk (fun _ e => yPj 8 (by omega) e)).tr zsm_y
  refine ⟨_, ?_, hz, _, _, Y3.ext (fun k hk hq => ?_), ?_, ?_, ?_⟩
  · simp only [ze68, zi68_0, zi68_0n, zi68_1, zi68_4, zi68_4n, zi68_5, zi68_8, zi68_8n, zi68_9, zi68_10, zi68_10n, zi68_11, zi68_11i, zi68_12, zi68_15, zi68_16, zi68_17, zi68_20 (sk := []), zcl1, zlow_0, zlow_1, zlow_2, zlow_3, zlow_4, zfree_0, zfree_i, zfree_r, zfree_n, zfree_d, zfree_f, zfree_s, if_true, if_false, Option.bind_some, Option.toList_some, Option.toList_none, List.cons_append, List.nil_append, List.set_cons_zero, List.set_cons_succ, Bool.false_eq_true, reduceIte, zsw_c, zsw_n, Nat.reduceAdd, Y1.r13, f1, zaro_at c8 zat_end hm hn (by omega), f2, n1, Y2.w 5 (by omega)]
  · have : k = 0 ∨ k = 1 ∨ k = 2 ∨ k = 3 ∨ k = 4 ∨ k = 5 ∨ k = 14 ∨ k = 15 ∨ k = 16 ∨ k = 17 := by omega
    rcases this with rfl | rfl | rfl | rfl | rfl | rfl | rfl | rfl | rfl | rfl
    · show nI (N 0) = nI (lifN N kd fo 0); rw [lif_o (by omega) (by omega)]
    · show nI (N 1) = nI (lifN N kd fo 1); rw [lif_o (by omega) (by omega)]
    · show nI (N 2) = nI (lifN N kd fo 2); rw [lif_o (by omega) (by omega)]
    · show nI (N 3) = nI (lifN N kd fo 3); rw [lif_o (by omega) (by omega)]
    · show nI (N 4) = nI (lifN N kd fo 4); rw [lif_o (by omega) (by omega)]
    · rfl
    · show nI (lsF N (N 4)) = nI (lsF (lifN N kd fo) (lifN N kd fo 4)); rw [lif_o (by omega) (by omega), lsF_cn _ (fun i h1 h2 => lif_o (by omega) (by omega))]
    · show nI (N 8) = nI (lifN N kd fo 8); rw [lif_o (by omega) (by omega)]
    · show nI (N 6) = nI (lifN N kd fo 6); rw [lif_o (by omega) (by omega)]
    · show nI (N 7) = nI (lifN N kd fo 7); rw [lif_o (by omega) (by omega)]
  · intro x hx
    rw [lif_o (by omega) (by omega)] at hx
    rw [lif_o (i := 4) (by omega) (by omega), abF_cn _ (fun i h1 h2 => lif_o (by omega) (by omega)), caF_cn _ (fun i h1 h2 => lif_o (by omega) (by omega)), lif_o (by omega) (by omega), lif_o (by omega) (by omega)]
    exact b1 x hx
  · intro k hk
    rw [lif_o (by omega) (by omega)] at hk
    rw [lif_o (by omega) (by omega), lif_o (by omega) (by omega), lif_o (by omega) (by omega)]
    exact b2 k hk
  · intro w hw
    have e5 : lifN N kd fo 5 = N 5 + 1 := rfl
    rw [e5] at hw
    have hK : ∀ a, 87 ≤ a → ∀ c, (h ++ [.inl (kcls kd, [.int (nI (N 5)), .int (nI fo)])])[a]? = some c → (zpf (zpo (h ++ [.inl (kcls kd, [.int (nI (N 5)), .int (nI fo)])]) (y + 8) (N 5) (some h.length)) y 5 (.int (nI (N 5 + 1))))[a]? = some c := fun a h1 c h2 => (hz.2 a (fun z => by have := z.2; omega)).trans h2
    by_cases hq : w = N 5
    · subst hq
      rw [lif_k, lif_f]
      refine ⟨h.length, by simp [va_up], LAt_c hK ⟨hl, zcls_end, ?_, ?_⟩⟩
      · unfold zfld
        rw [zat_end]
        obtain rfl | rfl | rfl | rfl | rfl : kd = 1 ∨ kd = 2 ∨ kd = 3 ∨ kd = 4 ∨ kd = 5 := by omega
        all_goals rfl
      · unfold zfld
        rw [zat_end]
        obtain rfl | rfl | rfl | rfl | rfl : kd = 1 ∨ kd = 2 ∨ kd = 3 ∨ kd = 4 ∨ kd = 5 := by omega
        all_goals rfl
    · rw [lif_o (by omega) (by omega), lif_o (by omega) (by omega)]
      obtain ⟨q, q1, q2⟩ := b3 w (by omega)
      refine ⟨q, by simp [va_up, hq, q1], LAt_c hK (LAt_c (fun a h1 c h2 => ?_) q2)⟩
      rw [zat_old (List.getElem?_eq_some_iff.mp h2).1]
      exact h2
