/-! THE COMPONENT's OWN CELL AND ITS ROWS' ROW; THE MODEL's FINDING -/
def cref (y s k : Nat) : Nat := match k with
  | 0 => 1
  | 1 => 2
  | 2 => 4
  | 3 => 5
  | 4 => 11
  | 5 => 14
  | 6 => 15
  | 7 => y
  | 8 => s
  | _ => 13
def CO (h : zH) (y s : Nat) (v : Int32) : Prop := zcls h 0 = some 10 ∧ (∀ k, k < 9 ∨ k = 10 → zfld [10] h 0 k = some (.ref (cref y s k))) ∧ zfld [10] h 0 9 = some (.int v)
def RA (h : zH) : Prop := ∃ g, h[1]? = some (.inr (.inr (2, 8, g))) ∧ ∀ i, i < 8 → g i = some (34 + 2 * i)
section COS
variable {E : zE} {h : zH} {y s : Nat} {v : Int32}
theorem CO.r0 (hC : CO h y s v) : zfld [10] h 0 0 = some (.ref 1) := hC.2.1 0 (by omega)
theorem CO.r1 (hC : CO h y s v) : zfld [10] h 0 1 = some (.ref 2) := hC.2.1 1 (by omega)
theorem CO.r2 (hC : CO h y s v) : zfld [10] h 0 2 = some (.ref 4) := hC.2.1 2 (by omega)
theorem CO.r3 (hC : CO h y s v) : zfld [10] h 0 3 = some (.ref 5) := hC.2.1 3 (by omega)
theorem CO.r4 (hC : CO h y s v) : zfld [10] h 0 4 = some (.ref 11) := hC.2.1 4 (by omega)
theorem CO.r5 (hC : CO h y s v) : zfld [10] h 0 5 = some (.ref 14) := hC.2.1 5 (by omega)
theorem CO.r6 (hC : CO h y s v) : zfld [10] h 0 6 = some (.ref 15) := hC.2.1 6 (by omega)
theorem CO.r7 (hC : CO h y s v) : zfld [10] h 0 7 = some (.ref y) := hC.2.1 7 (by omega)
theorem CO.r8 (hC : CO h y s v) : zfld [10] h 0 8 = some (.ref s) := hC.2.1 8 (by omega)
theorem CO.r10 (hC : CO h y s v) : zfld [10] h 0 10 = some (.ref 13) := hC.2.1 10 (by omega)
theorem CO.keep {h' : zH} (hC : CO h y s v) (e : h'[0]? = h[0]?) : CO h' y s v := ⟨(zcls_c e).trans hC.1, fun k hk => (zfld_c e).trans (hC.2.1 k hk), (zfld_c e).trans hC.2.2⟩
theorem CO.put (hC : CO h y s v) (w : Int32) : CO (zpf h 0 9 (.int w)) y s w := by
  refine ⟨zcls_pf.trans hC.1, fun k hk => (zfld_f (by omega)).trans (hC.2.1 k hk), ?_⟩
  rw [zfld_same, hC.2.2]
  rfl
theorem sp_found (hC : CO h y s v) (w : Int32) : zcall zpp E 130 [.ref 0, .int w] h = some (some (.int (-1000010 - w)), zpf h 0 9 (.int w)) := by
  simp only [ze130, zi130_0, zi130_0n, zi130_1, zi130_2, zi130_5, zi130_8, zi130_9, zi130_10 (sk := []), zcl1, zlow_0, zlow_1, zlow_2, zlow_3, zlow_4, zfree_0, zfree_i, zfree_r, zfree_n, zfree_d, zfree_f, zfree_s, if_true, if_false, Option.bind_some, Option.toList_some, Option.toList_none, List.cons_append, List.nil_append, List.set_cons_zero, List.set_cons_succ, Bool.false_eq_true, reduceIte, zsw_c, zsw_n, Nat.reduceAdd, zstf_ok (ty := 0) (v := .int w) hC.2.2 zfits_i]
theorem sp_clean (hC : CO h y s v) (w : Int32) : zcall zpp E 131 [.ref 0, .int w] h = some (some (.int w), zpf h 0 9 (.int 0)) := by
  simp only [ze131, zi131_0, zi131_0n, zi131_1, zi131_2, zi131_5, zi131_6 (sk := []), zcl1, zlow_0, zlow_1, zlow_2, zlow_3, zlow_4, zfree_0, zfree_i, zfree_r, zfree_n, zfree_d, zfree_f, zfree_s, if_true, if_false, Option.bind_some, Option.toList_some, Option.toList_none, List.cons_append, List.nil_append, List.set_cons_zero, List.set_cons_succ, Bool.false_eq_true, reduceIte, zsw_c, zsw_n, Nat.reduceAdd, zstf_ok (ty := 0) (v := .int 0) hC.2.2 zfits_i]
theorem z8le {x : Int32} : (decide (0 ≤ x) && decide (x ≤ 7)) = zlt x 8 := rfl
theorem sp_rowAtNo {x : Int32} (hx : zlt x 8 = false) : zcall zpp E 128 [.ref 0, .int x] h = some (some .null, h) := by
  simp only [ze128, zi128_0, zi128_1, zi128_2, zi128_4, zi128_7, zi128_10, zi128_10n, zi128_11, zi128_14, zi128_15, zi128_16, zi128_19, zi128_20 (sk := []), zi128_20n (sk := []), zcl1, zlow_0, zlow_1, zlow_2, zlow_3, zlow_4, zfree_0, zfree_i, zfree_r, zfree_n, zfree_d, zfree_f, zfree_s, if_true, if_false, Option.bind_some, Option.toList_some, Option.toList_none, List.cons_append, List.nil_append, List.set_cons_zero, List.set_cons_succ, Bool.false_eq_true, reduceIte, zsw_c, zsw_n, Nat.reduceAdd, sp_within, z8le, hx, zb_f, z00]
theorem sp_rowAt {i : Nat} (hC : CO h y s v) (hR : RA h) (hi : i < 8) : zcall zpp E 128 [.ref 0, .int (nI i)] h = some (some (.ref (34 + 2 * i)), h) := by
  obtain ⟨g, h1, h2⟩ := hR
  have hx : zlt (nI i) 8 = true := by rw [zlt_nI (by omega) (by omega)]; simp [hi]
  have ha : zara h 1 (nI i) = some (.ref (34 + 2 * i)) := by
    unfold zara
    rw [h1]
    simp only [zix_nI hi (by omega), nI_clamp (show i < 2 ^ 31 by omega), h2 i hi, zart]
    rfl
  simp only [ze128, zi128_0, zi128_1, zi128_2, zi128_4, zi128_7, zi128_10, zi128_10n, zi128_11, zi128_14, zi128_15, zi128_16, zi128_19, zi128_20 (sk := []), zi128_20n (sk := []), zcl1, zlow_0, zlow_1, zlow_2, zlow_3, zlow_4, zfree_0, zfree_i, zfree_r, zfree_n, zfree_d, zfree_f, zfree_s, if_true, if_false, Option.bind_some, Option.toList_some, Option.toList_none, List.cons_append, List.nil_append, List.set_cons_zero, List.set_cons_succ, Bool.false_eq_true, reduceIte, zsw_c, zsw_n, Nat.reduceAdd, sp_within, z8le, hx, zb_t, z10, hC.r0, ha]
theorem sp_finding {s : Nat → Int32} (hM : MdO h s) (w : Int32) : zcall zpp E 150 [.ref 73, .int w] h = some (some (.int (-1000010 - w)), zpf h 73 1 (.int w)) := by
  simp only [ze150, zi150_0, zi150_0n, zi150_1, zi150_2, zi150_5, zi150_7, zi150_8, zi150_9 (sk := []), zcl1, zlow_0, zlow_1, zlow_2, zlow_3, zlow_4, zfree_0, zfree_i, zfree_r, zfree_n, zfree_d, zfree_f, zfree_s, if_true, if_false, Option.bind_some, Option.toList_some, Option.toList_none, List.cons_append, List.nil_append, List.set_cons_zero, List.set_cons_succ, Bool.false_eq_true, reduceIte, zsw_c, zsw_n, Nat.reduceAdd, zstf_ok (ty := 0) (v := .int w) (hM.i 1 rfl (by omega)) zfits_i]
theorem sp_isRow {x : Int32} : zcall zpp E 151 [.int x] h = some (some (.int (zb (zlt x 8))), h) := by
  simp only [ze151, zi151_0, zi151_1, zi151_2, zi151_3, zi151_6, zi151_9 (sk := []), zcl1, zlow_0, zlow_1, zlow_2, zlow_3, zlow_4, zfree_0, zfree_i, zfree_r, zfree_n, zfree_d, zfree_f, zfree_s, if_true, if_false, Option.bind_some, Option.toList_some, Option.toList_none, List.cons_append, List.nil_append, List.set_cons_zero, List.set_cons_succ, Bool.false_eq_true, reduceIte, zsw_c, zsw_n, Nat.reduceAdd, sp_inI (u := x.toInt64) (v := 0) (w := 7) (x := x) (a := 0) (b := 7) rfl (by decide) (by decide), z8le]
  cases zlt x 8 <;> simp [zb]
end COS
