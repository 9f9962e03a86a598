/-! ROWS OF BOTH -/
def spB (sz : Nat) (i n : Int32) : Bool := decide (0 ≤ i) && decide (0 ≤ n) && decide (i ≤ nI sz) && decide (n ≤ nI sz - i)
theorem spB_or (sz : Nat) (i n : Int32) (hs : sz ≤ 40) : spB sz i n = false ∨ ∃ a b, a + b ≤ sz ∧ i = nI a ∧ n = nI b := by
  cases hq : spB sz i n with
  | false => exact Or.inl rfl
  | true =>
    right
    unfold spB at hq
    simp only [Bool.and_eq_true, decide_eq_true_eq] at hq
    obtain ⟨⟨⟨h1, h2⟩, h3⟩, h4⟩ := hq
    obtain ⟨a, ha, rfl⟩ := nI_of (x := i) (fun z => absurd h1 (Int32.not_le.mpr z))
    obtain ⟨b, hb, rfl⟩ := nI_of (x := n) (fun z => absurd h2 (Int32.not_le.mpr z))
    rw [nI_leP ha (by omega)] at h3
    rw [pk_sub h3, nI_leP hb (by omega)] at h4
    exact ⟨a, b, by omega, rfl, rfl⟩
theorem spB_t {sz a b : Nat} (hs : sz ≤ 40) (h : a + b ≤ sz) : spB sz (nI a) (nI b) = true := by
  unfold spB
  have h1 : (0 : Int32) ≤ nI a := nI_pos' (by omega)
  have h2 : (0 : Int32) ≤ nI b := nI_pos' (by omega)
  have h3 : nI a ≤ nI sz := by rw [nI_leP (by omega) (by omega)]; omega
  have h4 : nI b ≤ nI sz - nI a := by rw [pk_sub (by omega), nI_leP (by omega) (by omega)]; omega
  simp [h1, h2, h3, h4]
/-- the model's way to say so -/
theorem lsp {i n : Int32} {sz : Nat} (hs : sz ≤ 40) (h0 : 0 ≤ i) (h1 : 0 ≤ n) : (lg_cmp (i.toInt64 + n.toInt64) (nI sz).toInt64 ≤ 0) = (spB sz i n = true) := by
  obtain ⟨a, ha, rfl⟩ := nI_of (x := i) (fun z => absurd h0 (Int32.not_le.mpr z))
  obtain ⟨b, hb, rfl⟩ := nI_of (x := n) (fun z => absurd h1 (Int32.not_le.mpr z))
  have key : (lg_cmp ((nI a).toInt64 + (nI b).toInt64) (nI sz).toInt64 ≤ 0) ↔ a + b ≤ sz := by
    rw [lg_cmp_le, Int64.le_iff_toInt_le, lg_i2l_add, Int32.toInt_toInt64, nI_toInt ha, nI_toInt hb, nI_toInt (by omega)]
    omega
  apply propext
  rw [key]
  constructor
  · intro h
    exact spB_t hs h
  · intro h
    rcases spB_or sz (nI a) (nI b) hs with z | ⟨a', b', z, e1, e2⟩
    · rw [z] at h; cases h
    · rw [nI_eqP ha (by omega)] at e1
      rw [nI_eqP hb (by omega)] at e2
      omega
theorem lspg {i n : Int32} {sz : Nat} (hs : sz ≤ 40) (h0 : 0 ≤ i) (h1 : 0 ≤ n) : (0 < lg_cmp (i.toInt64 + n.toInt64) (nI sz).toInt64) = (spB sz i n = false) := by
  have := lsp hs h0 h1
  apply propext
  rw [← Int32.not_le, this]
  cases spB sz i n <;> simp
theorem spB_n {sz : Nat} {i n : Int32} (h : ¬ (0 ≤ i ∧ 0 ≤ n)) : spB sz i n = false := by
  unfold spB
  by_cases h1 : 0 ≤ i
  · have h2 : ¬ 0 ≤ n := fun z => h ⟨h1, z⟩
    simp [h2]
  · simp [h1]
section ROWS
variable {E : zE} {h : zH} {n : Nat}
theorem sp_spans {a sz : Nat} {th ln i n : Int32} {it : Nat → Int32} (hR : RW h a th ln (nI sz) it) : zcall zpp E 53 [.ref a, .int i, .int n] h = some (some (.int (zb (spB sz i n))), h) := by
  have l1 : ∀ {x y : Int32}, (x < y) = ¬ y ≤ x := fun {x y} => propext Int32.not_le.symm
  simp only [ze53, zi53_0, zi53_1, zi53_4, zi53_5, zi53_8, zi53_9, zi53_9n, zi53_10, zi53_13, zi53_16, zi53_17, zi53_17n, zi53_18, zi53_21, zi53_22, zi53_23, zi53_26, zi53_27, zi53_30, zi53_31 (sk := []), zcl1, zlow_0, zlow_1, zlow_2, zlow_3, zlow_4, zfree_0, zfree_i, zfree_r, zfree_n, zfree_d, zfree_f, zfree_s, if_true, if_false, Option.bind_some, Option.toList_some, Option.toList_none, List.cons_append, List.nil_append, List.set_cons_zero, List.set_cons_succ, Bool.false_eq_true, reduceIte, zsw_c, zsw_n, Nat.reduceAdd, hR.2.2.2.2.1, l1]
  unfold spB
  by_cases c1 : 0 ≤ i <;> by_cases c2 : 0 ≤ n <;> by_cases c3 : i ≤ nI sz <;> by_cases c4 : n ≤ nI sz - i <;> simp [c1, c2, c3, c4, zb]
theorem JJ.rowd {h2 : zH} {y s : Nat} {v v' : Int32} {sc sc' : Nat → Int32} {N : Nat → Nat} (hJ : JJ h y s v sc N) (hz : fr (fun a => a = 0 ∨ (34 ≤ a ∧ a ≤ 49) ∨ (73 ≤ a ∧ a ≤ 76)) h h2) (hC : CO h2 y s v') (hM : MdO h2 sc') (hs : ∀ k, k ≠ 0 → k ≠ 1 → sc' k = sc k) (hR : JRow h2) : JJ h2 y s v' sc' N := by
  have hy := hJ.ys
  unfold yys at hy
  refine ⟨hJ.ys, hC, hM, hR, ?_, hJ.img.keep hz (fun a ha => by omega), ?_, ?_, hJ.scr.keep hz (fun a ha => by omega), hJ.yc.keep hz (by omega) (fun a h1 h2 => by omega), hJ.my.keep (hz.1 _ (by omega) (by omega)), hJ.wg, hJ.sp.keep hz (by omega) (fun a h1 h2 => by omega)⟩
  · rw [hs 10 (by omega) (by omega), hs 17 (by omega) (by omega)]
    exact hJ.tape.keep hz (fun a ha => by omega)
  · rw [hs 8 (by omega) (by omega)]
    exact hJ.act.keep hz (fun a ha => by omega)
  · rw [hs 24 (by omega) (by omega)]
    exact hJ.tr.keep hz (fun a ha => by omega)
theorem ok_row (hJ : J h n) {x l m : Int32} : OK E h n 90 152 [.int x, .int l, .int m] := by
  obtain ⟨y, s, v, sc, N, hJ, h1, hB⟩ := hJ
  obtain ⟨hA, th, ln, sz, it, lm, im, r1, r2, r3, r4, r5, r6⟩ := hJ.row
  have no : (zlt x 8 = false ∨ (decide (0 ≤ l) && decide (l ≤ 2)) = false ∨ ¬ m ≤ 40) → OK E h n 90 152 [.int x, .int l, .int m] := fun hx => ⟨_, _, _, sp_rowNo hJ.co hA hx, sp_mrowNo hJ.md hx, hJ.q h1 hB⟩
  rcases zlt_or x (n := 8) (by omega) with hx | ⟨i, hi, rfl⟩
  · exact no (Or.inl hx)
  cases hl : (decide (0 ≤ l) && decide (l ≤ 2))
  · exact no (Or.inr (Or.inl hl))
  by_cases hm : ¬ m ≤ 40
  · exact no (Or.inr (Or.inr hm))
  have hm : m ≤ 40 := Classical.not_not.mp hm
  by_cases h0 : ¬ 0 ≤ m
  · have C1 := hJ.c9 4
    obtain ⟨H, e, M2, z⟩ := sp_mrowNeg (E := E) C1.md hi hl hm h0
    have C2 := C1.mi 0 rfl (by omega) 0 (by omega) (by omega) (by omega) (by omega)
    refine ⟨_, _, _, sp_rowNeg hJ.co hA hi hl hm h0, e, y, s, 4, _, N, C1.rowd ((z.fr (fun a e => by omega)).wk (fun a e => by omega)) (C1.co.keep (z.2 0 (by omega))) M2 (fun k k0 k1 => by unfold upd; rw [if_neg k1, if_neg k1, if_neg k0]) (C1.row.keep (z.fr (fun a e => by omega)) (fun a e => by omega)), rfl, ((hB.sm zsm_pf).sm z).up (by omega)⟩
  have h0 : 0 ≤ m := Classical.not_not.mp h0
  obtain ⟨mm, hmm, rfl⟩ := nI_of (x := m) (fun z => absurd h0 (Int32.not_le.mpr z))
  have hm40 : mm ≤ 40 := by rw [show (40 : Int32) = nI 40 from rfl, nI_leP hmm (by omega)] at hm; exact hm
  have hl3 : l = 0 ∨ l = 1 ∨ l = 2 := by
    rcases zbt_or l 0 2 (by omega) (by omega) with z | ⟨j, -, j2, rfl, -⟩
    · have z : (decide (0 ≤ l) && decide (l ≤ 2)) = false := z
      rw [hl] at z; cases z
    · obtain rfl | rfl | rfl : j = 0 ∨ j = 1 ∨ j = 2 := by omega
      · exact Or.inl rfl
      · exact Or.inr (Or.inl rfl)
      · exact Or.inr (Or.inr rfl)
  obtain ⟨hr, er, Wr, Cr, zr⟩ := sp_rowYes (E := E) hJ.co hA hi hl hm h0 (r1 i hi)
  have Mc : MdO hr sc := hJ.md.keep (zr.2 73 (by unfold rP; omega))
  have Lc : ML hr lm (fun i => nI (sz i)) im := r2.keep (fun a h1 h2 => zr.2 a (by unfold rP; omega))
  obtain ⟨H, e, M2, L2, z2⟩ := sp_mrowYes (E := E) Mc Lc hi hl hm h0
  have zrf := zr.fr (fun a e => by unfold rP at e; omega)
  have z2f := z2.fr (fun a e => by unfold mP at e; omega)
  refine ⟨_, _, _, er, e, y, s, 0, _, N, hJ.rowd ((zrf.wk (fun a e => by unfold rP at e; omega)).tr (z2f.wk (fun a e => by unfold mP at e; omega))) (Cr.keep (z2.2 0 (by unfold mP; omega))) M2 (fun k k0 k1 => by unfold upd; rw [if_neg k1, if_neg k0]) ?_, rfl, ((hB.sm zr).sm z2).up (by omega)⟩
  refine ⟨(hA.keep (zr.2 1 (by unfold rP; omega))).keep (z2.2 1 (by unfold mP; omega)), fun j => if j = i then true else th j, fun j => if j = i then l else ln j, fun j => if j = i then mm else sz j, fun j => if j = i then (fun _ => 0) else it j, upd lm i l, mclr im i, fun j hj => ?_, ⟨L2.1, zrow_ext L2.2.1 (fun j hj => ?_), L2.2.2⟩, fun j hj => ?_, fun j hj t ht => ?_, fun j hj => ?_, fun j hj => ?_⟩
  · show RW H (34 + 2 * j) (zb (if j = i then true else th j)) (if j = i then l else ln j) (nI (if j = i then mm else sz j)) (if j = i then (fun _ => 0) else it j)
    by_cases hji : j = i
    · subst hji
      rw [if_pos rfl, if_pos rfl, if_pos rfl, if_pos rfl]
      exact Wr.keep (z2.2 _ (by unfold mP; omega)) (z2.2 _ (by unfold mP; omega))
    · rw [if_neg hji, if_neg hji, if_neg hji, if_neg hji]
      exact ((r1 j hj).keep (zr.2 _ (by unfold rP; omega)) (zr.2 _ (by unfold rP; omega))).keep (z2.2 _ (by unfold mP; omega)) (z2.2 _ (by unfold mP; omega))
  · show upd (fun i => nI (sz i)) i (nI mm) j = nI (if j = i then mm else sz j)
    unfold upd
    split <;> rfl
  · show upd lm i l j = if (if j = i then true else th j) = true then (if j = i then l else ln j) else -1
    unfold upd
    by_cases hji : j = i
    · rw [if_pos hji, if_pos hji, if_pos hji, if_pos rfl]
    · rw [if_neg hji, if_neg hji, if_neg hji]
      exact r3 j hj
  · show mclr im i (40 * j + t) = (if j = i then (fun _ => 0) else it j) t
    unfold mclr
    by_cases hji : j = i
    · rw [if_pos hji, if_pos (by omega)]
    · rw [if_neg hji, if_neg (by omega)]
      exact r4 j hj t ht
  · show (if j = i then l else ln j) = 0 ∨ (if j = i then l else ln j) = 1 ∨ (if j = i then l else ln j) = 2
    split
    · exact hl3
    · exact r5 j hj
  · show (if j = i then mm else sz j) ≤ 40
    split
    · exact hm40
    · exact r6 j hj
theorem ok_drop (hJ : J h n) {x : Int32} : OK E h n 93 155 [.int x] := by
  obtain ⟨y, s, v, sc, N, hJ, h1, hB⟩ := hJ
  obtain ⟨hA, th, ln, sz, it, lm, im, r1, r2, r3, r4, r5, r6⟩ := hJ.row
  have m1 : zsel 11 [11, 150] = some 150 := rfl
  rcases zlt_or x (n := 8) (by omega) with hx | ⟨i, hi, rfl⟩
  · have w0 := hJ.md.st 0 rfl (by omega) 0
    refine ⟨_, _, _, sp_dropNo hJ.co hx, ?_, hJ.q h1 hB⟩
    simp only [ze155, zi155_0, zi155_0n, zi155_1, zi155_2, zi155_5, zi155_6, zi155_9, zi155_12, zi155_14 (sk := []), zi155_15, zi155_15n, zi155_16, zi155_17, zi155_20, zi155_20n, zi155_21, zi155_24, zi155_25, zi155_26, zi155_29, zi155_29n, zi155_30, zi155_31, zi155_34 (sk := []), zi155_35, zi155_35n, zi155_36, zi155_39, zi155_40, zi155_41, zi155_42, zi155_42n, zi155_43, zi155_46, zi155_47, zi155_48 (sk := []), zcl1, zlow_0, zlow_1, zlow_2, zlow_3, zlow_4, zfree_0, zfree_i, zfree_r, zfree_n, zfree_d, zfree_f, zfree_s, if_true, if_false, Option.bind_some, Option.toList_some, Option.toList_none, List.cons_append, List.nil_append, List.set_cons_zero, List.set_cons_succ, Bool.false_eq_true, reduceIte, zsw_c, zsw_n, Nat.reduceAdd, w0, sp_isRow, hx, zb_f, z00]
  have h8 : zlt (nI i) 8 = true := by rw [zlt_nI (by omega) (by omega)]; simp [hi]
  have R := r1 i hi
  have l3 := r3 i hi
  cases ht : th i
  · rw [ht] at R l3
    rw [if_neg (by decide)] at l3
    have C1 := hJ.c9 1
    have w0 := C1.md.st 0 rfl (by omega) 0
    have M1 := C1.md.put 0 rfl (by omega) 0
    have w1 := M1.st 1 rfl (by omega) 0
    have M2 := M1.put 1 rfl (by omega) 0
    have L2 : ML (zpf (zpf (zpf h 0 9 (.int 1)) 73 0 (.int 0)) 73 1 (.int 0)) lm (fun i => nI (sz i)) im := r2.pf.pf.pf
    have g := zarr_at L2.1 hi (by omega)
    rw [l3] at g
    refine ⟨_, _, _, sp_dropNone hJ.co hA hi R, ?_, hJ.f2 hB 1⟩
    have q : (-1000010 : Int32) - 1 = -1000011 := by decide
    simp only [ze155, zi155_0, zi155_0n, zi155_1, zi155_2, zi155_5, zi155_6, zi155_9, zi155_12, zi155_14 (sk := []), zi155_15, zi155_15n, zi155_16, zi155_17, zi155_20, zi155_20n, zi155_21, zi155_24, zi155_25, zi155_26, zi155_29, zi155_29n, zi155_30, zi155_31, zi155_34 (sk := []), zi155_35, zi155_35n, zi155_36, zi155_39, zi155_40, zi155_41, zi155_42, zi155_42n, zi155_43, zi155_46, zi155_47, zi155_48 (sk := []), zcl1, zlow_0, zlow_1, zlow_2, zlow_3, zlow_4, zfree_0, zfree_i, zfree_r, zfree_n, zfree_d, zfree_f, zfree_s, if_true, if_false, Option.bind_some, Option.toList_some, Option.toList_none, List.cons_append, List.nil_append, List.set_cons_zero, List.set_cons_succ, Bool.false_eq_true, reduceIte, zsw_c, zsw_n, Nat.reduceAdd, w0, sp_isRow, h8, zb_t, z10, w1, M2.r2, g, show ((0 : Int32) ≤ -1) = False by decide, M2.1, m1, sp_finding M2, q]
  · rw [ht] at R l3
    rw [if_pos rfl] at l3
    obtain ⟨hr, er, Wr, Cr, zr⟩ := sp_dropYes (E := E) hJ.co hA hi R
    have Mc : MdO hr sc := hJ.md.keep (zr.2 73 (by unfold rP; omega))
    have Lc : ML hr lm (fun i => nI (sz i)) im := r2.keep (fun a h1 h2 => zr.2 a (by unfold rP; omega))
    have w0 := Mc.st 0 rfl (by omega) 0
    have M1 := Mc.put 0 rfl (by omega) 0
    have w1 := M1.st 1 rfl (by omega) 0
    have M2 := M1.put 1 rfl (by omega) 0
    have L2 : ML (zpf (zpf hr 73 0 (.int 0)) 73 1 (.int 0)) lm (fun i => nI (sz i)) im := Lc.pf.pf
    have g := zarr_at L2.1 hi (by omega)
    rw [l3] at g
    have w2 := zars_at (x := -1) L2.1 hi (by omega) zfits_i
    have M3 : MdO (zpa (zpf (zpf hr 73 0 (.int 0)) 73 1 (.int 0)) 74 i (-1)) _ := M2.pa
    have L3 : ML (zpa (zpf (zpf hr 73 0 (.int 0)) 73 1 (.int 0)) 74 i (-1)) (upd lm i (-1)) (fun i => nI (sz i)) im := ⟨zrow_pa L2.1, zrow_o (by omega) L2.2.1, zrow_o (by omega) L2.2.2⟩
    have g2 := zarr_at L3.2.1 hi (by omega)
    have em : zcall zpp E 155 [.ref 73, .int (nI i)] hr = some (some (.int (nI (sz i))), zpa (zpf (zpf hr 73 0 (.int 0)) 73 1 (.int 0)) 74 i (-1)) := by
      simp only [ze155, zi155_0, zi155_0n, zi155_1, zi155_2, zi155_5, zi155_6, zi155_9, zi155_12, zi155_14 (sk := []), zi155_15, zi155_15n, zi155_16, zi155_17, zi155_20, zi155_20n, zi155_21, zi155_24, zi155_25, zi155_26, zi155_29, zi155_29n, zi155_30, zi155_31, zi155_34 (sk := []), zi155_35, zi155_35n, zi155_36, zi155_39, zi155_40, zi155_41, zi155_42, zi155_42n, zi155_43, zi155_46, zi155_47, zi155_48 (sk := []), zcl1, zlow_0, zlow_1, zlow_2, zlow_3, zlow_4, zfree_0, zfree_i, zfree_r, zfree_n, zfree_d, zfree_f, zfree_s, if_true, if_false, Option.bind_some, Option.toList_some, Option.toList_none, List.cons_append, List.nil_append, List.set_cons_zero, List.set_cons_succ, Bool.false_eq_true, reduceIte, zsw_c, zsw_n, Nat.reduceAdd, w0, sp_isRow, h8, zb_t, z10, w1, M2.r2, g, zpos_012 (r5 i hi), w2, M3.r3, g2]
    have z2 : zsm mP hr (zpa (zpf (zpf hr 73 0 (.int 0)) 73 1 (.int 0)) 74 i (-1)) := ((zsm_pf.wk (fun x e => by cases e; exact ⟨by omega, by omega⟩)).tr (zsm_pf.wk (fun x e => by cases e; exact ⟨by omega, by omega⟩))).tr (zsm_pa.wk (fun x e => by cases e; exact ⟨by omega, by omega⟩))
    have zrf := zr.fr (fun a e => by unfold rP at e; omega)
    have z2f := z2.fr (fun a e => by unfold mP at e; omega)
    refine ⟨_, _, _, er, em, y, s, 0, _, N, hJ.rowd ((zrf.wk (fun a e => by unfold rP at e; omega)).tr (z2f.wk (fun a e => by unfold mP at e; omega))) (Cr.keep (z2.2 0 (by unfold mP; omega))) M3 (fun k k0 k1 => by unfold upd; rw [if_neg k1, if_neg k0]) ?_, rfl, ((hB.sm zr).sm z2).up (by omega)⟩
    refine ⟨(hA.keep (zr.2 1 (by unfold rP; omega))).keep (z2.2 1 (by unfold mP; omega)), fun j => if j = i then false else th j, ln, sz, it, upd lm i (-1), im, fun j hj => ?_, L3, fun j hj => ?_, r4, r5, r6⟩
    · show RW _ (34 + 2 * j) (zb (if j = i then false else th j)) _ _ _
      by_cases hji : j = i
      · subst hji
        rw [if_pos rfl]
        exact Wr.keep (z2.2 _ (by unfold mP; omega)) (z2.2 _ (by unfold mP; omega))
      · rw [if_neg hji]
        exact ((r1 j hj).keep (zr.2 _ (by unfold rP; omega)) (zr.2 _ (by unfold rP; omega))).keep (z2.2 _ (by unfold mP; omega)) (z2.2 _ (by unfold mP; omega))
    · show upd lm i (-1) j = if (if j = i then false else th j) = true then ln j else -1
      unfold upd
      by_cases hji : j = i
      · rw [if_pos hji, if_pos hji, if_neg (by decide)]
      · rw [if_neg hji, if_neg hji]
        exact r3 j hj
theorem spB_1 {sz : Nat} {i : Int32} (hs : sz ≤ 40) : spB sz i 1 = zlt i sz := by
  rcases zlt_or i (n := sz) (by omega) with hx | ⟨a, ha, rfl⟩
  · rw [hx]
    rcases spB_or sz i 1 hs with z | ⟨a, b, z, rfl, e⟩
    · exact z
    · rw [show (1 : Int32) = nI 1 from rfl, nI_eqP (by omega) (by omega)] at e
      rw [zlt_nI (by omega) (by omega), decide_eq_false_iff_not] at hx
      omega
  · rw [zlt_nI (by omega) (by omega), decide_eq_true ha]
    exact spB_t (b := 1) hs (by omega)
def cutV (l v : Int32) : Int32 := if l = 0 then v.toInt8.toInt32 else if l = 1 then v.toInt16.toInt32 else v
theorem ok_set (hJ : J h n) {x k w : Int32} : OK E h n 91 153 [.int x, .int k, .int w] := by
  obtain ⟨y, s, v, sc, N, hJ, h1, hB⟩ := hJ
  obtain ⟨hA, th, ln, sz, it, lm, im, r1, r2, r3, r4, r5, r6⟩ := hJ.row
  have c1 : zsel 10 [10, 128] = some 128 := rfl
  have c2 : zsel 10 [10, 130] = some 130 := rfl
  have c3 : zsel 10 [10, 131] = some 131 := rfl
  have c4 : zsel 6 [6, 53] = some 53 := rfl
  have c5 : zsel 6 [6, 54] = some 54 := rfl
  have m1 : zsel 11 [11, 150] = some 150 := rfl
  rcases zlt_or x (n := 8) (by omega) with hx | ⟨i, hi, rfl⟩
  · have w0 := hJ.md.st 0 rfl (by omega) 0
    refine ⟨(-1000001), h, _, ?_, ?_, hJ.q h1 hB⟩
    · simp only [ze91, zi91_0, zi91_0n, zi91_1, zi91_2, zi91_5, zi91_5n, zi91_7, zi91_7n, zi91_9, zi91_9n, zi91_12, zi91_14 (sk := []), zi91_15, zi91_15n, zi91_17, zi91_20, zi91_23, zi91_23n, zi91_24, zi91_25, zi91_28 (sk := []), zi91_29, zi91_29n, zi91_31, zi91_32, zi91_33, zi91_36, zi91_39, zi91_39n, zi91_40, zi91_41, zi91_44 (sk := []), zi91_45, zi91_45n, zi91_47, zi91_50, zi91_51, zi91_51n, zi91_53, zi91_54, zi91_57, zi91_58, zi91_58n, zi91_59, zi91_59n, zi91_61, zi91_64, zi91_65, zi91_66, zi91_69 (sk := []), zcl1, zlow_0, zlow_1, zlow_2, zlow_3, zlow_4, zfree_0, zfree_i, zfree_r, zfree_n, zfree_d, zfree_f, zfree_s, if_true, if_false, Option.bind_some, Option.toList_some, Option.toList_none, List.cons_append, List.nil_append, List.set_cons_zero, List.set_cons_succ, Bool.false_eq_true, reduceIte, zsw_c, zsw_n, Nat.reduceAdd, hJ.co.1, c1, sp_rowAtNo hx]
    · simp only [ze153, zi153_0, zi153_0n, zi153_1, zi153_2, zi153_5, zi153_6, zi153_9, zi153_12, zi153_14 (sk := []), zi153_15, zi153_15n, zi153_16, zi153_17, zi153_20, zi153_20n, zi153_21, zi153_24, zi153_25, zi153_26, zi153_29, zi153_29n, zi153_30, zi153_31, zi153_34 (sk := []), zi153_35, zi153_36, zi153_37, zi153_38, zi153_38n, zi153_39, zi153_42, zi153_43, zi153_44, zi153_45, zi153_46, zi153_47, zi153_50, zi153_53, zi153_53n, zi153_54, zi153_55, zi153_58 (sk := []), zi153_59, zi153_59n, zi153_60, zi153_63, zi153_65, zi153_66, zi153_67, zi153_68, zi153_69, zi153_69n, zi153_70, zi153_73, zi153_74, zi153_75, zi153_78, zi153_79, zi153_80, zi153_83, zi153_83n, zi153_84, zi153_87, zi153_88, zi153_89, zi153_90, zi153_93, zi153_94, zi153_95, zi153_98, zi153_99, zi153_100, zi153_100n, zi153_101, zi153_104, zi153_106, zi153_107, zi153_108, zi153_109, zi153_110, zi153_111 (sk := []), zcl1, zlow_0, zlow_1, zlow_2, zlow_3, zlow_4, zfree_0, zfree_i, zfree_r, zfree_n, zfree_d, zfree_f, zfree_s, if_true, if_false, Option.bind_some, Option.toList_some, Option.toList_none, List.cons_append, List.nil_append, List.set_cons_zero, List.set_cons_succ, Bool.false_eq_true, reduceIte, zsw_c, zsw_n, Nat.reduceAdd, w0, sp_isRow, hx, zb_f, z00]
  have h8 : zlt (nI i) 8 = true := by rw [zlt_nI (by omega) (by omega)]; simp [hi]
  have R := r1 i hi
  have l3 := r3 i hi
  have s40 := r6 i hi
  cases ht : th i
  · rw [ht] at R l3
    rw [if_neg (by decide)] at l3
    have R1 : zfld [6] h (34 + 2 * i) 1 = some (.int 0) := R.2.2.1
    have C1 := hJ.c9 1
    have w0 := C1.md.st 0 rfl (by omega) 0
    have M1 := C1.md.put 0 rfl (by omega) 0
    have w1 := M1.st 1 rfl (by omega) 0
    have M2 := M1.put 1 rfl (by omega) 0
    have L2 : ML (zpf (zpf (zpf h 0 9 (.int 1)) 73 0 (.int 0)) 73 1 (.int 0)) lm (fun i => nI (sz i)) im := r2.pf.pf.pf
    have g := zarr_at L2.1 hi (by omega)
    rw [l3] at g
    refine ⟨(-1000010 - 1), zpf h 0 9 (.int 1), _, ?_, ?_, hJ.f2 hB 1⟩
    · simp only [ze91, zi91_0, zi91_0n, zi91_1, zi91_2, zi91_5, zi91_5n, zi91_7, zi91_7n, zi91_9, zi91_9n, zi91_12, zi91_14 (sk := []), zi91_15, zi91_15n, zi91_17, zi91_20, zi91_23, zi91_23n, zi91_24, zi91_25, zi91_28 (sk := []), zi91_29, zi91_29n, zi91_31, zi91_32, zi91_33, zi91_36, zi91_39, zi91_39n, zi91_40, zi91_41, zi91_44 (sk := []), zi91_45, zi91_45n, zi91_47, zi91_50, zi91_51, zi91_51n, zi91_53, zi91_54, zi91_57, zi91_58, zi91_58n, zi91_59, zi91_59n, zi91_61, zi91_64, zi91_65, zi91_66, zi91_69 (sk := []), zcl1, zlow_0, zlow_1, zlow_2, zlow_3, zlow_4, zfree_0, zfree_i, zfree_r, zfree_n, zfree_d, zfree_f, zfree_s, if_true, if_false, Option.bind_some, Option.toList_some, Option.toList_none, List.cons_append, List.nil_append, List.set_cons_zero, List.set_cons_succ, Bool.false_eq_true, reduceIte, zsw_c, zsw_n, Nat.reduceAdd, hJ.co.1, c1, sp_rowAt hJ.co hA hi, R1, z00, c2, sp_found hJ.co]
    · simp only [ze153, zi153_0, zi153_0n, zi153_1, zi153_2, zi153_5, zi153_6, zi153_9, zi153_12, zi153_14 (sk := []), zi153_15, zi153_15n, zi153_16, zi153_17, zi153_20, zi153_20n, zi153_21, zi153_24, zi153_25, zi153_26, zi153_29, zi153_29n, zi153_30, zi153_31, zi153_34 (sk := []), zi153_35, zi153_36, zi153_37, zi153_38, zi153_38n, zi153_39, zi153_42, zi153_43, zi153_44, zi153_45, zi153_46, zi153_47, zi153_50, zi153_53, zi153_53n, zi153_54, zi153_55, zi153_58 (sk := []), zi153_59, zi153_59n, zi153_60, zi153_63, zi153_65, zi153_66, zi153_67, zi153_68, zi153_69, zi153_69n, zi153_70, zi153_73, zi153_74, zi153_75, zi153_78, zi153_79, zi153_80, zi153_83, zi153_83n, zi153_84, zi153_87, zi153_88, zi153_89, zi153_90, zi153_93, zi153_94, zi153_95, zi153_98, zi153_99, zi153_100, zi153_100n, zi153_101, zi153_104, zi153_106, zi153_107, zi153_108, zi153_109, zi153_110, zi153_111 (sk := []), zcl1, zlow_0, zlow_1, zlow_2, zlow_3, zlow_4, zfree_0, zfree_i, zfree_r, zfree_n, zfree_d, zfree_f, zfree_s, if_true, if_false, Option.bind_some, Option.toList_some, Option.toList_none, List.cons_append, List.nil_append, List.set_cons_zero, List.set_cons_succ, Bool.false_eq_true, reduceIte, zsw_c, zsw_n, Nat.reduceAdd, w0, sp_isRow, h8, zb_t, z10, w1, M2.r2, g, show ((0 : Int32) ≤ -1) = False by decide, M2.1, m1, sp_finding M2]
  rw [ht] at R l3
  rw [if_pos rfl] at l3
  have R1 : zfld [6] h (34 + 2 * i) 1 = some (.int 1) := R.2.2.1
  have R0 : zfld [6] h (34 + 2 * i) 0 = some (.ref (35 + 2 * i)) := by rw [R.2.1, show 34 + 2 * i + 1 = 35 + 2 * i by omega]
  rcases zlt_or k (n := sz i) (by omega) with hk | ⟨a, ha, rfl⟩
  · have C1 := hJ.c9 2
    have w0 := C1.md.st 0 rfl (by omega) 0
    have M1 := C1.md.put 0 rfl (by omega) 0
    have w1 := M1.st 1 rfl (by omega) 0
    have M2 := M1.put 1 rfl (by omega) 0
    have L2 : ML (zpf (zpf (zpf h 0 9 (.int 2)) 73 0 (.int 0)) 73 1 (.int 0)) lm (fun i => nI (sz i)) im := r2.pf.pf.pf
    have g := zarr_at L2.1 hi (by omega)
    rw [l3] at g
    have g2 := zarr_at L2.2.1 hi (by omega)
    have i2 := fun (H : zH) => sp_inI (E := E) (h := H) (u := k.toInt64) (v := 0) (w := (nI (sz i) - 1).toInt64) (x := k) (a := 0) (b := nI (sz i) - 1) rfl (by decide) rfl
    have hk' := hk
    unfold zlt at hk'
    refine ⟨(-1000010 - 2), zpf h 0 9 (.int 2), _, ?_, ?_, hJ.f2 hB 2⟩
    · simp only [ze91, zi91_0, zi91_0n, zi91_1, zi91_2, zi91_5, zi91_5n, zi91_7, zi91_7n, zi91_9, zi91_9n, zi91_12, zi91_14 (sk := []), zi91_15, zi91_15n, zi91_17, zi91_20, zi91_23, zi91_23n, zi91_24, zi91_25, zi91_28 (sk := []), zi91_29, zi91_29n, zi91_31, zi91_32, zi91_33, zi91_36, zi91_39, zi91_39n, zi91_40, zi91_41, zi91_44 (sk := []), zi91_45, zi91_45n, zi91_47, zi91_50, zi91_51, zi91_51n, zi91_53, zi91_54, zi91_57, zi91_58, zi91_58n, zi91_59, zi91_59n, zi91_61, zi91_64, zi91_65, zi91_66, zi91_69 (sk := []), zcl1, zlow_0, zlow_1, zlow_2, zlow_3, zlow_4, zfree_0, zfree_i, zfree_r, zfree_n, zfree_d, zfree_f, zfree_s, if_true, if_false, Option.bind_some, Option.toList_some, Option.toList_none, List.cons_append, List.nil_append, List.set_cons_zero, List.set_cons_succ, Bool.false_eq_true, reduceIte, zsw_c, zsw_n, Nat.reduceAdd, hJ.co.1, c1, sp_rowAt hJ.co hA hi, R1, z10, R.1, c4, sp_spans R, spB_1 s40, hk, zb_f, z00, c2, sp_found hJ.co]
    · simp only [ze153, zi153_0, zi153_0n, zi153_1, zi153_2, zi153_5, zi153_6, zi153_9, zi153_12, zi153_14 (sk := []), zi153_15, zi153_15n, zi153_16, zi153_17, zi153_20, zi153_20n, zi153_21, zi153_24, zi153_25, zi153_26, zi153_29, zi153_29n, zi153_30, zi153_31, zi153_34 (sk := []), zi153_35, zi153_36, zi153_37, zi153_38, zi153_38n, zi153_39, zi153_42, zi153_43, zi153_44, zi153_45, zi153_46, zi153_47, zi153_50, zi153_53, zi153_53n, zi153_54, zi153_55, zi153_58 (sk := []), zi153_59, zi153_59n, zi153_60, zi153_63, zi153_65, zi153_66, zi153_67, zi153_68, zi153_69, zi153_69n, zi153_70, zi153_73, zi153_74, zi153_75, zi153_78, zi153_79, zi153_80, zi153_83, zi153_83n, zi153_84, zi153_87, zi153_88, zi153_89, zi153_90, zi153_93, zi153_94, zi153_95, zi153_98, zi153_99, zi153_100, zi153_100n, zi153_101, zi153_104, zi153_106, zi153_107, zi153_108, zi153_109, zi153_110, zi153_111 (sk := []), zcl1, zlow_0, zlow_1, zlow_2, zlow_3, zlow_4, zfree_0, zfree_i, zfree_r, zfree_n, zfree_d, zfree_f, zfree_s, if_true, if_false, Option.bind_some, Option.toList_some, Option.toList_none, List.cons_append, List.nil_append, List.set_cons_zero, List.set_cons_succ, Bool.false_eq_true, reduceIte, zsw_c, zsw_n, Nat.reduceAdd, w0, sp_isRow, h8, zb_t, z10, w1, M2.r2, g, zpos_012 (r5 i hi), M2.r3, g2, i2, hk', zb_f, z00, M2.1, m1, sp_finding M2]
  have hk : zlt (nI a) (sz i) = true := by rw [zlt_nI (by omega) (by omega)]; simp [ha]
  have Rr : zrow 0 h (35 + 2 * i) 40 (it i) := by have := R.2.2.2.2.2; rw [show 34 + 2 * i + 1 = 35 + 2 * i by omega] at this; exact this
  have wc := zars_at (j := a) (x := cutV (ln i) w) Rr (by omega) (by omega) zfits_i
  have Rp : RW (zpa h (35 + 2 * i) a (cutV (ln i) w)) (34 + 2 * i) (zb true) (ln i) (nI (sz i)) (upd (it i) a (cutV (ln i) w)) := by
    have := R.put (j := a) (v := cutV (ln i) w)
    rw [show 34 + 2 * i + 1 = 35 + 2 * i by omega] at this
    exact this
  have Cp : CO (zpa h (35 + 2 * i) a (cutV (ln i) w)) y s v := hJ.co.keep (zpa_o (by omega))
  have Rq : zrow 0 (zpa h (35 + 2 * i) a (cutV (ln i) w)) (35 + 2 * i) 40 (upd (it i) a (cutV (ln i) w)) := zrow_pa Rr
  have gq := zarr_at (j := a) Rq (by omega) (by omega)
  rw [show upd (it i) a (cutV (ln i) w) a = cutV (ln i) w by unfold upd; rw [if_pos rfl]] at gq
  have R0' : zfld [6] (zpa h (35 + 2 * i) a (cutV (ln i) w)) (34 + 2 * i) 0 = some (.ref (35 + 2 * i)) := zfld_pa.trans R0
  have ec : zcall zpp E 91 [.ref 0, .int (nI i), .int (nI a), .int w] h = some (some (.int (cutV (ln i) w)), zpf (zpa h (35 + 2 * i) a (cutV (ln i) w)) 0 9 (.int 0)) := by
    have sc' := sp_cut (E := E) (v := w) R (r5 i hi)
    have sc' : zcall zpp E 54 [.ref (34 + 2 * i), .int w] h = some (some (.int (cutV (ln i) w)), h) := sc'
    simp only [ze91, zi91_0, zi91_0n, zi91_1, zi91_2, zi91_5, zi91_5n, zi91_7, zi91_7n, zi91_9, zi91_9n, zi91_12, zi91_14 (sk := []), zi91_15, zi91_15n, zi91_17, zi91_20, zi91_23, zi91_23n, zi91_24, zi91_25, zi91_28 (sk := []), zi91_29, zi91_29n, zi91_31, zi91_32, zi91_33, zi91_36, zi91_39, zi91_39n, zi91_40, zi91_41, zi91_44 (sk := []), zi91_45, zi91_45n, zi91_47, zi91_50, zi91_51, zi91_51n, zi91_53, zi91_54, zi91_57, zi91_58, zi91_58n, zi91_59, zi91_59n, zi91_61, zi91_64, zi91_65, zi91_66, zi91_69 (sk := []), zcl1, zlow_0, zlow_1, zlow_2, zlow_3, zlow_4, zfree_0, zfree_i, zfree_r, zfree_n, zfree_d, zfree_f, zfree_s, if_true, if_false, Option.bind_some, Option.toList_some, Option.toList_none, List.cons_append, List.nil_append, List.set_cons_zero, List.set_cons_succ, Bool.false_eq_true, reduceIte, zsw_c, zsw_n, Nat.reduceAdd, hJ.co.1, c1, sp_rowAt hJ.co hA hi, R1, z10, R.1, c4, sp_spans R, spB_1 s40, hk, zb_t, R0, c5, sc', wc, R0', gq, Cp.1, c3, sp_clean Cp]
  have zc : zsm (fun a => a = 0 ∨ (34 ≤ a ∧ a ≤ 49)) h (zpf (zpa h (35 + 2 * i) a (cutV (ln i) w)) 0 9 (.int 0)) := (zsm_pa.wk (fun b e => by cases e; omega)).tr (zsm_pf.wk (fun b e => by cases e; omega))
  have Cq : CO (zpf (zpa h (35 + 2 * i) a (cutV (ln i) w)) 0 9 (.int 0)) y s 0 := Cp.put 0
  have Rf : RW (zpf (zpa h (35 + 2 * i) a (cutV (ln i) w)) 0 9 (.int 0)) (34 + 2 * i) (zb true) (ln i) (nI (sz i)) (upd (it i) a (cutV (ln i) w)) := Rp.keep (zpf_o (by omega)) (zpf_o (by omega))
  have Ro : ∀ j, j < 8 → j ≠ i → RW (zpf (zpa h (35 + 2 * i) a (cutV (ln i) w)) 0 9 (.int 0)) (34 + 2 * j) (zb (th j)) (ln j) (nI (sz j)) (it j) := fun j hj hji => ((r1 j hj).keep (zpa_o (by omega)) (zpa_o (by omega))).keep (zpf_o (by omega)) (zpf_o (by omega))
  have Mc : MdO (zpf (zpa h (35 + 2 * i) a (cutV (ln i) w)) 0 9 (.int 0)) sc := hJ.md.keep (zc.2 73 (by omega))
  have Lc : ML (zpf (zpa h (35 + 2 * i) a (cutV (ln i) w)) 0 9 (.int 0)) lm (fun i => nI (sz i)) im := r2.keep (fun b h1 h2 => zc.2 b (by omega))
  have Ac : RA (zpf (zpa h (35 + 2 * i) a (cutV (ln i) w)) 0 9 (.int 0)) := hA.keep (zc.2 1 (by omega))
  generalize zpf (zpa h (35 + 2 * i) a (cutV (ln i) w)) 0 9 (.int 0) = hr at *
  have w0 := Mc.st 0 rfl (by omega) 0
  have M1 := Mc.put 0 rfl (by omega) 0
  have w1 := M1.st 1 rfl (by omega) 0
  have M2 := M1.put 1 rfl (by omega) 0
  have L2 : ML (zpf (zpf hr 73 0 (.int 0)) 73 1 (.int 0)) lm (fun i => nI (sz i)) im := Lc.pf.pf
  have g := zarr_at L2.1 hi (by omega)
  rw [l3] at g
  have g2 := zarr_at L2.2.1 hi (by omega)
  have i2 := fun (H : zH) => sp_inI (E := E) (h := H) (u := (nI a).toInt64) (v := 0) (w := (nI (sz i) - 1).toInt64) (x := nI a) (a := 0) (b := nI (sz i) - 1) rfl (by decide) rfl
  have hk' := hk
  unfold zlt at hk'
  have w2 := zars_at (j := 40 * i + a) (x := cutV (ln i) w) L2.2.2 (by omega) (by omega) zfits_i
  have L3 : ML (zpa (zpf (zpf hr 73 0 (.int 0)) 73 1 (.int 0)) 76 (40 * i + a) (cutV (ln i) w)) lm (fun i => nI (sz i)) (upd im (40 * i + a) (cutV (ln i) w)) := ⟨zrow_o (by omega) L2.1, zrow_o (by omega) L2.2.1, zrow_pa L2.2.2⟩
  have M3 : MdO (zpa (zpf (zpf hr 73 0 (.int 0)) 73 1 (.int 0)) 76 (40 * i + a) (cutV (ln i) w)) _ := M2.pa
  have g3 := zarr_at (j := 40 * i + a) L3.2.2 (by omega) (by omega)
  rw [show upd im (40 * i + a) (cutV (ln i) w) (40 * i + a) = cutV (ln i) w by unfold upd; rw [if_pos rfl]] at g3
  have em : zcall zpp E 153 [.ref 73, .int (nI i), .int (nI a), .int w] hr = some (some (.int (cutV (ln i) w)), zpa (zpf (zpf hr 73 0 (.int 0)) 73 1 (.int 0)) 76 (40 * i + a) (cutV (ln i) w)) := by
    have e1 : zcall zpp E 153 [.ref 73, .int (nI i), .int (nI a), .int w] hr = zrun zpp E 153 (99, [.ref 73, .int (nI i), .int (nI a), .int w], [.int (cutV (ln i) w), .int (nI (40 * i + a)), .ref 76], zpf (zpf hr 73 0 (.int 0)) 73 1 (.int 0)) := by
      conv =>
        lhs
        simp only [ze153, zi153_0, zi153_0n, zi153_1, zi153_2, zi153_5, zi153_6, zi153_9, zi153_12, zi153_14 (sk := []), zi153_15, zi153_15n, zi153_16, zi153_17, zi153_20, zi153_20n, zi153_21, zi153_24, zi153_25, zi153_26, zi153_29, zi153_29n, zi153_30, zi153_31, zi153_34 (sk := []), zi153_35, zi153_36, zi153_37, zi153_38, zi153_38n, zi153_39, zi153_42, zi153_43, zi153_44, zi153_45, zi153_46, zi153_47, zi153_50, zi153_53, zi153_53n, zi153_54, zi153_55, zi153_58 (sk := []), zi153_59, zi153_59n, zi153_60, zi153_63, zi153_65, zi153_66, zi153_67, zi153_68, zi153_69, zi153_69n, zi153_70, zi153_73, zi153_74, zi153_75, zi153_78, zi153_79, zi153_80, zi153_83, zi153_83n, zi153_84, zi153_87, zi153_88, zi153_89, zi153_90, zi153_93, zi153_94, zi153_95, zi153_98, zcl1, zlow_0, zlow_1, zlow_2, zlow_3, zlow_4, zfree_0, zfree_i, zfree_r, zfree_n, zfree_d, zfree_f, zfree_s, if_true, if_false, Option.bind_some, Option.toList_some, Option.toList_none, List.cons_append, List.nil_append, List.set_cons_zero, List.set_cons_succ, Bool.false_eq_true, reduceIte, zsw_c, zsw_n, Nat.reduceAdd, w0, sp_isRow, h8, zb_t, z10, w1, M2.r2, g, zpos_012 (r5 i hi), M2.r3, g2, i2, hk', M2.r4, ix_40]
      unfold cutV
      rcases r5 i hi with e | e | e
      · rw [e]; rfl
      · rw [e]; rfl
      · rw [e]; rfl
    rw [e1]
    simp only [zi153_99, zi153_100, zi153_100n, zi153_101, zi153_104, zi153_106, zi153_107, zi153_108, zi153_109, zi153_110, zi153_111 (sk := []), zcl1, zlow_0, zlow_1, zlow_2, zlow_3, zlow_4, zfree_0, zfree_i, zfree_r, zfree_n, zfree_d, zfree_f, zfree_s, if_true, if_false, Option.bind_some, Option.toList_some, Option.toList_none, List.cons_append, List.nil_append, List.set_cons_zero, List.set_cons_succ, Bool.false_eq_true, reduceIte, zsw_c, zsw_n, Nat.reduceAdd, w2, M3.r4, ix_40, g3]
  have z2 : zsm mP hr (zpa (zpf (zpf hr 73 0 (.int 0)) 73 1 (.int 0)) 76 (40 * i + a) (cutV (ln i) w)) := ((zsm_pf.wk (fun x e => by cases e; exact ⟨by omega, by omega⟩)).tr (zsm_pf.wk (fun x e => by cases e; exact ⟨by omega, by omega⟩))).tr (zsm_pa.wk (fun x e => by cases e; exact ⟨by omega, by omega⟩))
  have zrf := zc.fr (fun a e => by omega)
  have z2f := z2.fr (fun a e => by unfold mP at e; omega)
  refine ⟨_, _, _, ec, em, y, s, 0, _, N, hJ.rowd ((zrf.wk (fun a e => by omega)).tr (z2f.wk (fun a e => by unfold mP at e; omega))) (Cq.keep (z2.2 0 (by unfold mP; omega))) M3 (fun k k0 k1 => by unfold upd; rw [if_neg k1, if_neg k0]) ?_, rfl, ((hB.sm zc).sm z2).up (by omega)⟩
  refine ⟨Ac.keep (z2.2 1 (by unfold mP; omega)), th, ln, sz, fun j => if j = i then upd (it i) a (cutV (ln i) w) else it j, lm, upd im (40 * i + a) (cutV (ln i) w), fun j hj => ?_, L3, r3, fun j hj t t40 => ?_, r5, r6⟩
  · show RW _ (34 + 2 * j) _ _ _ (if j = i then upd (it i) a (cutV (ln i) w) else it j)
    by_cases hji : j = i
    · subst hji
      rw [if_pos rfl, ht]
      exact Rf.keep (z2.2 _ (by unfold mP; omega)) (z2.2 _ (by unfold mP; omega))
    · rw [if_neg hji]
      exact (Ro j hj hji).keep (z2.2 _ (by unfold mP; omega)) (z2.2 _ (by unfold mP; omega))
  · show upd im (40 * i + a) (cutV (ln i) w) (40 * j + t) = (if j = i then upd (it i) a (cutV (ln i) w) else it j) t
    by_cases hji : j = i
    · subst hji
      rw [if_pos rfl]
      unfold upd
      by_cases hta : t = a
      · rw [if_pos hta, if_pos (by omega)]
      · rw [if_neg hta, if_neg (by omega)]
        exact r4 j hj t t40
    · rw [if_neg hji]
      unfold upd
      rw [if_neg (by omega)]
      exact r4 j hj t t40
end ROWS
