/-! THE COMPONENT's YARD: its cells, and the abstract yard -/
def YAt (h : zH) (y : Nat) (F : Nat → Int32) (A : Nat → Nat → Int32) (cr : Nat → Option Nat) : Prop :=
  zcls h y = some 9 ∧ (∀ k, k < 18 → zfld [9] h y k = some (if 6 ≤ k ∧ k < 14 then .ref (y + (k - 5)) else .int (F k))) ∧
  (∀ j, j < 4 → zrow 0 h (y + (j + 1)) 8 (A j)) ∧ (∀ j, 4 ≤ j → j < 7 → zrow 0 h (y + (j + 1)) 10 (A j)) ∧ ∃ g, h[y + 8]? = some (.inr (.inr (4, 4, g))) ∧ ∀ i, i < 4 → g i = cr i
/-- the class of a kind of lifter -/
def kcls (kd : Nat) : Nat := if kd = 1 then 7 else if kd = 2 then 1 else if kd = 3 then 4 else if kd = 4 then 2 else 3
def LA0 (h : zH) (q kd num fo : Nat) : Prop := zcls h q = some (kcls kd) ∧ zfld [1, 2, 3, 4, 7] h q 0 = some (.int (nI num)) ∧ zfld [1, 2, 3, 4, 7] h q 1 = some (.int (nI fo))
/-- a lifter of a crew: made after the rest -/
def LAt (h : zH) (q kd num fo : Nat) : Prop := 87 ≤ q ∧ LA0 h q kd num fo
def yF (N : Nat → Nat) (k : Nat) : Int32 := nI (if k < 6 then N k else if k = 14 then lsF N (N 4) else if k = 15 then N 8 else if k = 16 then N 6 else N 7)
def YN (h : zH) (y : Nat) (N : Nat → Nat) : Prop := ∃ A cr, YAt h y (yF N) A cr ∧
  (∀ b, b < N 3 → A 0 b = nI (N (9 + 2 * b)) ∧ A 1 b = nI (N (10 + 2 * b)) ∧ A 2 b = nI (abF N b (N 4)) ∧ A 3 b = nI (caF N b (N 4))) ∧
  (∀ k, k < N 4 → A 4 k = nI (N (25 + 4 * k)) ∧ A 5 k = nI (N (26 + 4 * k)) ∧ A 6 k = nI (N (27 + 4 * k))) ∧
  ∀ w, w < N 5 → ∃ q, cr w = some q ∧ LAt h q (N (65 + 2 * w)) w (N (66 + 2 * w))
section YNS
variable {h : zH} {y : Nat} {N : Nat → Nat}
theorem YN.cls (hY : YN h y N) : zcls h y = some 9 := by obtain ⟨A, cr, ⟨h1, -⟩, -⟩ := hY; exact h1
theorem YN.i (hY : YN h y N) (k : Nat) (hk : k < 6 ∨ (14 ≤ k ∧ k < 18)) : zfld [9] h y k = some (.int (yF N k)) := by
  obtain ⟨A, cr, ⟨-, h1, -⟩, -⟩ := hY
  rw [h1 k (by omega), if_neg (by omega)]
theorem YN.f0 (hY : YN h y N) : zfld [9] h y 0 = some (.int (nI (N 0))) := hY.i 0 (by omega)
theorem YN.f1 (hY : YN h y N) : zfld [9] h y 1 = some (.int (nI (N 1))) := hY.i 1 (by omega)
theorem YN.f2 (hY : YN h y N) : zfld [9] h y 2 = some (.int (nI (N 2))) := hY.i 2 (by omega)
theorem YN.f3 (hY : YN h y N) : zfld [9] h y 3 = some (.int (nI (N 3))) := hY.i 3 (by omega)
theorem YN.f4 (hY : YN h y N) : zfld [9] h y 4 = some (.int (nI (N 4))) := hY.i 4 (by omega)
theorem YN.f5 (hY : YN h y N) : zfld [9] h y 5 = some (.int (nI (N 5))) := hY.i 5 (by omega)
theorem YN.f14 (hY : YN h y N) : zfld [9] h y 14 = some (.int (nI (lsF N (N 4)))) := hY.i 14 (by omega)
theorem YN.f15 (hY : YN h y N) : zfld [9] h y 15 = some (.int (nI (N 8))) := hY.i 15 (by omega)
theorem YN.f16 (hY : YN h y N) : zfld [9] h y 16 = some (.int (nI (N 6))) := hY.i 16 (by omega)
theorem YN.f17 (hY : YN h y N) : zfld [9] h y 17 = some (.int (nI (N 7))) := hY.i 17 (by omega)
theorem YN.r (hY : YN h y N) (k : Nat) (hk : 6 ≤ k ∧ k < 14) : zfld [9] h y k = some (.ref (y + (k - 5))) := by
  obtain ⟨A, cr, ⟨-, h1, -⟩, -⟩ := hY
  rw [h1 k (by omega), if_pos (by omega)]
theorem YN.r6 (hY : YN h y N) : zfld [9] h y 6 = some (.ref (y + 1)) := hY.r 6 (by omega)
theorem YN.r7 (hY : YN h y N) : zfld [9] h y 7 = some (.ref (y + 2)) := hY.r 7 (by omega)
theorem YN.r8 (hY : YN h y N) : zfld [9] h y 8 = some (.ref (y + 3)) := hY.r 8 (by omega)
theorem YN.r9 (hY : YN h y N) : zfld [9] h y 9 = some (.ref (y + 4)) := hY.r 9 (by omega)
theorem YN.r10 (hY : YN h y N) : zfld [9] h y 10 = some (.ref (y + 5)) := hY.r 10 (by omega)
theorem YN.r11 (hY : YN h y N) : zfld [9] h y 11 = some (.ref (y + 6)) := hY.r 11 (by omega)
theorem YN.r12 (hY : YN h y N) : zfld [9] h y 12 = some (.ref (y + 7)) := hY.r 12 (by omega)
theorem YN.r13 (hY : YN h y N) : zfld [9] h y 13 = some (.ref (y + 8)) := hY.r 13 (by omega)
theorem YN.w (hY : YN h y N) {b : Nat} (hb : b < N 3) (h8 : N 3 ≤ 8) : zarr 0 h (y + 1) (nI b) = some (nI (N (9 + 2 * b))) := by
  obtain ⟨A, cr, ⟨-, -, h1, -⟩, h2, -⟩ := hY
  rw [← (h2 b hb).1]
  exact zarr_at (h1 0 (by omega)) (by omega) (by omega)
theorem YN.g (hY : YN h y N) {b : Nat} (hb : b < N 3) (h8 : N 3 ≤ 8) : zarr 0 h (y + 2) (nI b) = some (nI (N (10 + 2 * b))) := by
  obtain ⟨A, cr, ⟨-, -, h1, -⟩, h2, -⟩ := hY
  rw [← (h2 b hb).2.1]
  exact zarr_at (h1 1 (by omega)) (by omega) (by omega)
theorem YN.ab (hY : YN h y N) {b : Nat} (hb : b < N 3) (h8 : N 3 ≤ 8) : zarr 0 h (y + 3) (nI b) = some (nI (abF N b (N 4))) := by
  obtain ⟨A, cr, ⟨-, -, h1, -⟩, h2, -⟩ := hY
  rw [← (h2 b hb).2.2.1]
  exact zarr_at (h1 2 (by omega)) (by omega) (by omega)
theorem YN.ca (hY : YN h y N) {b : Nat} (hb : b < N 3) (h8 : N 3 ≤ 8) : zarr 0 h (y + 4) (nI b) = some (nI (caF N b (N 4))) := by
  obtain ⟨A, cr, ⟨-, -, h1, -⟩, h2, -⟩ := hY
  rw [← (h2 b hb).2.2.2]
  exact zarr_at (h1 3 (by omega)) (by omega) (by omega)
theorem YN.hs (hY : YN h y N) {k : Nat} (hk : k < N 4) (h8 : N 4 ≤ 10) : zarr 0 h (y + 5) (nI k) = some (nI (N (25 + 4 * k))) := by
  obtain ⟨A, cr, ⟨-, -, -, h1, -⟩, -, h2, -⟩ := hY
  rw [← (h2 k hk).1]
  exact zarr_at (h1 4 (by omega) (by omega)) (by omega) (by omega)
theorem YN.ha (hY : YN h y N) {k : Nat} (hk : k < N 4) (h8 : N 4 ≤ 10) : zarr 0 h (y + 6) (nI k) = some (nI (N (26 + 4 * k))) := by
  obtain ⟨A, cr, ⟨-, -, -, h1, -⟩, -, h2, -⟩ := hY
  rw [← (h2 k hk).2.1]
  exact zarr_at (h1 5 (by omega) (by omega)) (by omega) (by omega)
theorem YN.hb (hY : YN h y N) {k : Nat} (hk : k < N 4) (h8 : N 4 ≤ 10) : zarr 0 h (y + 7) (nI k) = some (nI (N (27 + 4 * k))) := by
  obtain ⟨A, cr, ⟨-, -, -, h1, -⟩, -, h2, -⟩ := hY
  rw [← (h2 k hk).2.2]
  exact zarr_at (h1 6 (by omega) (by omega)) (by omega) (by omega)
theorem YN.cr (hY : YN h y N) {w : Nat} (hw : w < N 5) (h4 : N 5 ≤ 4) : ∃ q, zara h (y + 8) (nI w) = some (.ref q) ∧ LAt h q (N (65 + 2 * w)) w (N (66 + 2 * w)) := by
  obtain ⟨A, cr, ⟨-, -, -, -, g, h1, h2⟩, -, -, h3⟩ := hY
  obtain ⟨q, hq, hL⟩ := h3 w hw
  refine ⟨q, ?_, hL⟩
  unfold zara
  rw [h1]
  simp only [zix_nI (show w < 4 by omega) (by omega), nI_clamp (show w < 2 ^ 31 by omega), h2 w (by omega), hq, zart]
  rfl
end YNS
theorem zand_nI (a b : Nat) : nI a &&& nI b = nI (a &&& b) := by
  apply Int32.toBitVec_inj.1
  show BitVec.ofNat 32 a &&& BitVec.ofNat 32 b = BitVec.ofNat 32 (a &&& b)
  apply BitVec.eq_of_getLsbD_eq
  intro i hi
  simp [BitVec.getLsbD_ofNat, hi, Nat.testBit_and]
/-! small methods -/
theorem z10 : ((1 : Int32) = 0) = False := by decide
theorem z01 : ((0 : Int32) = 1) = False := by decide
theorem z00 : ((0 : Int32) = 0) = True := by decide
theorem z11 : ((1 : Int32) = 1) = True := by decide
theorem nI_z8 : ∀ x, x < 256 → (nI x = 0) = (x = 0) := by
  have h : ∀ x, x < 256 → (nI x = 0 ↔ x = 0) := by decide +kernel
  exact fun x hx => propext (h x hx)
theorem nI_ltP {a b : Nat} (ha : a < 2 ^ 31) (hb : b < 2 ^ 31) : (nI a < nI b) = (a < b) := propext (nI_ltI ha hb)
theorem nI_leP {a b : Nat} (ha : a < 2 ^ 31) (hb : b < 2 ^ 31) : (nI a ≤ nI b) = (a ≤ b) := propext (nI_leI ha hb)
theorem nI_eqP {a b : Nat} (ha : a < 2 ^ 31) (hb : b < 2 ^ 31) : (nI a = nI b) = (a = b) := propext (nI_eq ha hb)
theorem zbool {b c : Bool} (h : b = c) : zb b = zb c := by rw [h]
theorem zres {b : Bool} {v : Int32} {h : zH} (hv : v = zb b) : (some (some (Value.int v), h) : Option zR) = some (some (.int (zb b)), h) := by rw [hv]
theorem sp_isFree {E : zE} {h : zH} {y d b : Nat} {N : Nat → Nat} (hW : WF N) (hY : YN h y N) (hd : d < 256) (hb : b < N 3) : zcall zpp E 77 [.ref y, .int (nI b), .int (nI d)] h = some (some (.int (zb (freeN N d b))), h) := by
  have h8 : N 3 ≤ 8 := hW.2.2.2.1.2
  have hab : abF N b (N 4) < 256 := abF_lt (fun k hk => by have := (hW.2.2.2.2.2.2.2.2.1 k hk).2.1; omega)
  simp only [ze77, zi77_0, zi77_1, zi77_2, zi77_5, zi77_8, zi77_8n, zi77_9, zi77_12, zi77_13, zi77_14, zi77_15, zi77_16, zi77_19, zi77_20, zi77_23, zi77_24 (sk := []), zcl1, zlow_0, zlow_1, zlow_2, zlow_3, zlow_4, zfree_0, zfree_i, zfree_r, zfree_n, zfree_d, zfree_f, zfree_s, if_true, if_false, Option.bind_some, Option.toList_some, Option.toList_none, List.cons_append, List.nil_append, List.set_cons_zero, List.set_cons_succ, Bool.false_eq_true, reduceIte, zsw_c, zsw_n, Nat.reduceAdd, sp_has8 hd (show b < 8 by omega), hY.r8, hY.ab hb h8, zand_nI, zb_0, nI_z8 _ (zand_k _ hab d hd), z10, z01, z00, z11]
  unfold freeN
  cases d.testBit b
  · simp [zb]
  · by_cases hq : abF N b (N 4) &&& d = 0
    · simp [hq, zb]
    · simp [hq, zb]
theorem sp_catches {E : zE} {h : zH} {y d b : Nat} {N : Nat → Nat} (hW : WF N) (hY : YN h y N) (hd : d < 256) (hb : b < N 3) : zcall zpp E 79 [.ref y, .int (nI b), .int (nI d)] h = some (some (.int (nI (catN N d b))), h) := by
  have h8 : N 3 ≤ 8 := hW.2.2.2.1.2
  have hca : caF N b (N 4) < 256 := caF_lt (fun k hk => by have := (hW.2.2.2.2.2.2.2.2.1 k hk); omega)
  have hz : caF N b (N 4) &&& d < 256 := zand_k _ hca d hd
  simp only [ze79, zi79_0, zi79_1, zi79_2, zi79_5, zi79_8, zi79_8n, zi79_9, zi79_12, zi79_13, zi79_14, zi79_15, zi79_16, zi79_19, zi79_22, zi79_23 (sk := []), zcl1, zlow_0, zlow_1, zlow_2, zlow_3, zlow_4, zfree_0, zfree_i, zfree_r, zfree_n, zfree_d, zfree_f, zfree_s, if_true, if_false, Option.bind_some, Option.toList_some, Option.toList_none, List.cons_append, List.nil_append, List.set_cons_zero, List.set_cons_succ, Bool.false_eq_true, reduceIte, zsw_c, zsw_n, Nat.reduceAdd, sp_has8 hd (show b < 8 by omega), hY.r9, hY.ca hb h8, zand_nI, zb_0, sp_bitCount, (zbc_k _ hz).1]
  unfold catN
  rw [← cat_eq hW hd (N 4) (Nat.le_refl _)]
  cases d.testBit b <;> simp [nI]
theorem sp_man0 {E : zE} {h : zH} {q kd num fo w c : Nat} (hL : LA0 h q kd num fo) (hf : fo ≤ 40) (hw : w ≤ 30) : zcall zpp E 20 [.ref q, .int (nI w), .int (nI c)] h = some (some (.int (zb (decide (w ≤ fo)))), h) := by
  simp only [ze20, zi20_0, zi20_1, zi20_1n, zi20_2, zi20_5, zi20_8, zi20_9, zi20_12, zi20_13 (sk := []), zcl1, zlow_0, zlow_1, zlow_2, zlow_3, zlow_4, zfree_0, zfree_i, zfree_r, zfree_n, zfree_d, zfree_f, zfree_s, if_true, if_false, Option.bind_some, Option.toList_some, Option.toList_none, List.cons_append, List.nil_append, List.set_cons_zero, List.set_cons_succ, Bool.false_eq_true, reduceIte, zsw_c, zsw_n, Nat.reduceAdd, hL.2.2, nI_ltP (show fo < 2 ^ 31 by omega) (show w < 2 ^ 31 by omega), z10, z00]
  by_cases hq : fo < w
  · simp [hq, zb]
  · simp [hq, zb]
theorem sp_man3 {E : zE} {h : zH} {q kd num fo w c : Nat} (hL : LA0 h q kd num fo) (hf : fo ≤ 40) (hw : w ≤ 30) (hc : zfld [4] h q 1 = some (.int (nI fo))) : zcall zpp E 30 [.ref q, .int (nI w), .int (nI c)] h = some (some (.int (zb (decide (w ≤ 2 * fo)))), h) := by
  have h2 : (2 : Int32) * nI fo = nI (2 * fo) := pk_mul 2 fo
  simp only [ze30, zi30_0, zi30_1, zi30_2, zi30_2n, zi30_3, zi30_6, zi30_7, zi30_10, zi30_11, zi30_14, zi30_15 (sk := []), zcl1, zlow_0, zlow_1, zlow_2, zlow_3, zlow_4, zfree_0, zfree_i, zfree_r, zfree_n, zfree_d, zfree_f, zfree_s, if_true, if_false, Option.bind_some, Option.toList_some, Option.toList_none, List.cons_append, List.nil_append, List.set_cons_zero, List.set_cons_succ, Bool.false_eq_true, reduceIte, zsw_c, zsw_n, Nat.reduceAdd, hc, h2, nI_ltP (show 2 * fo < 2 ^ 31 by omega) (show w < 2 ^ 31 by omega), z10, z00]
  by_cases hq : 2 * fo < w
  · simp [hq, zb]
  · simp [hq, zb]
theorem sp_man4 {E : zE} {h : zH} {q kd num fo w c : Nat} (hL : LA0 h q kd num fo) (hf : fo ≤ 40) (hw : w ≤ 30) (hc8 : c ≤ 10) (hc : zfld [2, 3] h q 1 = some (.int (nI fo))) : zcall zpp E 15 [.ref q, .int (nI w), .int (nI c)] h = some (some (.int (zb (decide (w ≤ fo) && decide (c = 0)))), h) := by
  simp only [ze15, zi15_0, zi15_1, zi15_4, zi15_5, zi15_5n, zi15_6, zi15_9, zi15_12, zi15_13, zi15_16, zi15_17 (sk := []), zcl1, zlow_0, zlow_1, zlow_2, zlow_3, zlow_4, zfree_0, zfree_i, zfree_r, zfree_n, zfree_d, zfree_f, zfree_s, if_true, if_false, Option.bind_some, Option.toList_some, Option.toList_none, List.cons_append, List.nil_append, List.set_cons_zero, List.set_cons_succ, Bool.false_eq_true, reduceIte, zsw_c, zsw_n, Nat.reduceAdd, hc, nI_z8 c (by omega), nI_ltP (show fo < 2 ^ 31 by omega) (show w < 2 ^ 31 by omega), z10, z00]
  by_cases hq : fo < w
  · by_cases hz : c = 0 <;> simp [hq, hz, zb]
  · by_cases hz : c = 0 <;> simp [hq, hz, zb]
/-- a field of an object, by a shorter list of kinds -/
theorem zfld_sub {cs cs' : List Nat} {h : zH} {a f c : Nat} {v : Value} (e : zfld cs h a f = some v) (hc : zcls h a = some c) (hm : cs'.contains c = true) : zfld cs' h a f = some v := by
  obtain ⟨c', fs, h1, h2, h3⟩ := zfld_inv e
  unfold zcls at hc
  rw [h1] at hc
  cases hc
  unfold zfld
  rw [h1]
  dsimp only
  rw [if_pos hm]
  exact h3
/-- a call by a lifter's kind -/
theorem vc_manages {E : zE} {h : zH} {q kd num fo w c M nx : Nat} {ls sk : List Value} (hL : LA0 h q kd num fo) (hk : 1 ≤ kd ∧ kd ≤ 5) (hf : fo ≤ 40) (hw : w ≤ 30) (hc : c ≤ 10) : (zcls h q).bind (fun d => (zsel d [1, 20, 2, 15, 3, 15, 4, 30, 7, 20]).bind (fun M' => (zcall zpp E M' [.ref q, .int (nI w), .int (nI c)] h).bind (fun r => zrun zpp E M (nx, ls, r.1.toList ++ sk, r.2)))) = zrun zpp E M (nx, ls, .int (zb (manN kd fo w c)) :: sk, h) := by
  have hcl := hL.1
  obtain rfl | rfl | rfl | rfl | rfl : kd = 1 ∨ kd = 2 ∨ kd = 3 ∨ kd = 4 ∨ kd = 5 := by omega
  · rw [hcl]
    show (zcall zpp E 20 _ h).bind _ = _
    rw [(sp_man0 hL hf hw)]
    simp [manN]
  · rw [hcl]
    show (zcall zpp E 20 _ h).bind _ = _
    rw [(sp_man0 hL hf hw)]
    simp [manN]
  · rw [hcl]
    show (zcall zpp E 30 _ h).bind _ = _
    rw [(sp_man3 hL hf hw (zfld_sub hL.2.2 hcl rfl))]
    simp [manN]
  · rw [hcl]
    show (zcall zpp E 15 _ h).bind _ = _
    rw [(sp_man4 hL hf hw hc (zfld_sub hL.2.2 hcl rfl))]
    simp [manN]
  · rw [hcl]
    show (zcall zpp E 15 _ h).bind _ = _
    rw [(sp_man4 hL hf hw hc (zfld_sub hL.2.2 hcl rfl))]
    simp [manN]
