/-! WHO LIFTED -/
/-- told lifts, bike and seconds, by a kind -/
def wgN (N : Nat → Nat) (kd fo : Nat) (bf : Nat → Nat) (tf : Nat → Int32) : Nat → Nat → Nat → Bool
  | 0, _, _ => true
  | m + 1, k, d => if canN N kd fo d (bf k) = true ∧ nI (secK N kd (N (9 + 2 * bf k)) (catN N d (bf k))) = tf k then wgN N kd fo bf tf m (k + 1) (zclr d (bf k)) else false
def wsN (N : Nat → Nat) (fo : Nat) (bf : Nat → Nat) (tf : Nat → Int32) (nn : Nat) : Nat → Nat
  | 0 => 0
  | k + 1 => if wgN N (k + 1) fo bf tf nn 0 (N 8) = true then zput (wsN N fo bf tf nn k) (k + 1) else wsN N fo bf tf nn k
theorem wsN_lt {N : Nat → Nat} {fo : Nat} {bf : Nat → Nat} {tf : Nat → Int32} {nn : Nat} : ∀ k, k ≤ 7 → wsN N fo bf tf nn k < 256
  | 0, _ => by unfold wsN; omega
  | k + 1, h => by
    have ih := wsN_lt (N := N) (fo := fo) (bf := bf) (tf := tf) (nn := nn) k (by omega)
    unfold wsN
    split
    · exact zput_lt ih (by omega)
    · exact ih
theorem ix_i2 (i k : Nat) : nI i + (2 : Int32) * nI k = nI (i + 2 * k) := by
  rw [show (2 : Int32) * nI k = nI (2 * k) from pk_mul 2 k, nI_add]
section WHO
variable {E : zE} {y s : Nat} {v : Int32} {sc : Nat → Int32} {N : Nat → Nat}
theorem whoC {a i nn q kd num fo : Nat} {th ln sz : Int32} {it : Nat → Int32} {bf : Nat → Nat} (hq : 68 ≤ q) (hs : s < 34 ∧ 16 ≤ s) (ha : 34 ≤ a ∧ a < 86) (hi : i + 2 * nn ≤ 40) (hk : 1 ≤ kd ∧ kd ≤ 5) (hf : fo ≤ 40) (hb : ∀ k, k < nn → bf k < N 3 ∧ it (i + 2 * k) = nI (bf k)) : ∀ (m k : Nat) (P : Nat → Nat) (h : zH) (v6 : Value), k + m = nn → CO h y s v → RW h a th ln sz it → WF P → smN P N → YN h s P → LA0 h q kd num fo → ∃ h', zrun zpp E 136 (14, [.ref 0, .ref q, .ref a, .int (nI i), .int (nI nn), .int (nI k), v6], [], h) = some (some (.int (zb (wgN N kd fo bf (fun k => it (i + 2 * k + 1)) m k (P 8)))), h') ∧ (∃ Q, YN h' s Q) ∧ zsm (fun b => b = s) h h' := by
  have c1 : zsel 9 [9, 81] = some 81 := rfl
  intro m
  induction m with
  | zero =>
    intro k P h v6 hk' hC hR hP hN hY hL
    refine ⟨h, ?_, ⟨P, hY⟩, zsm.rf h⟩
    simp only [zi136_14, zi136_16, zcl1, zlow_0, zlow_1, zlow_2, zlow_3, zlow_4, zfree_0, zfree_i, zfree_r, zfree_n, zfree_d, zfree_f, zfree_s, if_true, if_false, Option.bind_some, Option.toList_some, Option.toList_none, List.cons_append, List.nil_append, List.set_cons_zero, List.set_cons_succ, Bool.false_eq_true, reduceIte, zsw_c, zsw_n, Nat.reduceAdd]
    rw [zi136_18, if_pos (by rw [nI_leP (by omega) (by omega)]; omega)]
    simp only [zi136_75, zi136_76 (sk := []), zcl1, zlow_0, zlow_1, zlow_2, zlow_3, zlow_4, zfree_0, zfree_i, zfree_r, zfree_n, zfree_d, zfree_f, zfree_s, if_true, if_false, Option.bind_some, Option.toList_some, Option.toList_none, List.cons_append, List.nil_append, List.set_cons_zero, List.set_cons_succ, Bool.false_eq_true, reduceIte, zsw_c, zsw_n, Nat.reduceAdd, wgN, zb_t, z10]
  | succ m ih =>
    intro k P h v6 hk' hC hR hP hN hY hL
    obtain ⟨hbk, ebk⟩ := hb k (by omega)
    have e3 : P 3 = N 3 := hN 3 (by omega) (by omega) (by omega)
    have g := zarr_at (j := i + 2 * k) hR.2.2.2.2.2 (by omega) (by omega)
    rw [ebk] at g
    have hd : zrun zpp E 136 (14, [.ref 0, .ref q, .ref a, .int (nI i), .int (nI nn), .int (nI k), v6], [], h) = zrun zpp E 136 (21, [.ref 0, .ref q, .ref a, .int (nI i), .int (nI nn), .int (nI k), v6], [], h) := by
      conv =>
        lhs
        simp only [zi136_14, zi136_16, zcl1, zlow_0, zlow_1, zlow_2, zlow_3, zlow_4, zfree_0, zfree_i, zfree_r, zfree_n, zfree_d, zfree_f, zfree_s, if_true, if_false, Option.bind_some, Option.toList_some, Option.toList_none, List.cons_append, List.nil_append, List.set_cons_zero, List.set_cons_succ, Bool.false_eq_true, reduceIte, zsw_c, zsw_n, Nat.reduceAdd]
      rw [zi136_18, if_neg (by rw [nI_leP (by omega) (by omega)]; omega)]
    rw [hd]
    have hcN := hN.can kd fo (P 8) (bf k)
    have ew : wgN N kd fo bf (fun k => it (i + 2 * k + 1)) (m + 1) k (P 8) = if canN N kd fo (P 8) (bf k) = true ∧ nI (secK N kd (N (9 + 2 * bf k)) (catN N (P 8) (bf k))) = it (i + 2 * k + 1) then wgN N kd fo bf (fun k => it (i + 2 * k + 1)) m (k + 1) (zclr (P 8) (bf k)) else false := rfl
    cases hc : canN P kd fo (P 8) (bf k)
    · rw [hc] at hcN
      rw [ew, if_neg (fun z => by rw [← hcN] at z; cases z.1)]
      refine ⟨h, ?_, ⟨P, hY⟩, zsm.rf h⟩
      simp only [zi136_21, zi136_21n, zi136_22, zi136_25, zi136_25n, zi136_26, zi136_26n, zi136_27, zi136_30, zi136_31, zi136_32, zi136_34, zi136_35, zi136_36, zi136_37, zi136_40, zi136_42, zi136_44, zi136_46, zi136_49, zi136_51, zi136_51n, zi136_52, zi136_55, zi136_56, zi136_57, zi136_59, zi136_60, zi136_61, zi136_62, zi136_63, zi136_64, zi136_67, zi136_68 (sk := []), zcl1, zlow_0, zlow_1, zlow_2, zlow_3, zlow_4, zfree_0, zfree_i, zfree_r, zfree_n, zfree_d, zfree_f, zfree_s, if_true, if_false, Option.bind_some, Option.toList_some, Option.toList_none, List.cons_append, List.nil_append, List.set_cons_zero, List.set_cons_succ, Bool.false_eq_true, reduceIte, zsw_c, zsw_n, Nat.reduceAdd, hC.r8, hR.2.1, ix_i2, g, hY.cls, c1, sp_raiseNo hP hY hL hk hf (show bf k < P 3 by omega) hc, qnn, zb_f, z00]
    · rw [hc] at hcN
      obtain ⟨h1, er, Yr, zr⟩ := sp_raise (E := E) hP hY (by omega) hL (by omega) hk hf (show bf k < P 3 by omega) hc
      have esec : secK P kd (P (9 + 2 * bf k)) (catN P (P 8) (bf k)) = secK N kd (N (9 + 2 * bf k)) (catN N (P 8) (bf k)) := by rw [hN.sec, hN.cat, hN (9 + 2 * bf k) (by omega) (by omega) (by omega)]
      have hsl := secK_lt (kd := kd) hP (hP.bk (show bf k < P 3 by omega)).1.2 (catN_le hP.2.2.2.2.1 (d := P 8) (b := bf k))
      rw [esec] at er hsl
      have C1 := hC.keep (zr.2 0 (by omega))
      have R1 := hR.keep (zr.2 _ (by omega)) (zr.2 _ (by omega))
      have g1 := zarr_at (j := i + 2 * k + 1) R1.2.2.2.2.2 (by omega) (by omega)
      have e0 : zrun zpp E 136 (21, [.ref 0, .ref q, .ref a, .int (nI i), .int (nI nn), .int (nI k), v6], [], h) = zrun zpp E 136 (64, [.ref 0, .ref q, .ref a, .int (nI i), .int (nI nn), .int (nI k), .int (nI (secK N kd (N (9 + 2 * bf k)) (catN N (P 8) (bf k))))], [.int (it (i + 2 * k + 1)), .int (nI (secK N kd (N (9 + 2 * bf k)) (catN N (P 8) (bf k))))], h1) := by
        conv =>
          lhs
          simp only [zi136_21, zi136_21n, zi136_22, zi136_25, zi136_25n, zi136_26, zi136_26n, zi136_27, zi136_30, zi136_31, zi136_32, zi136_34, zi136_35, zi136_36, zi136_37, zi136_40, zi136_42, zi136_44, zi136_46, zi136_49, zi136_51, zi136_51n, zi136_52, zi136_55, zi136_56, zi136_57, zi136_59, zi136_60, zi136_61, zi136_62, zi136_63, zcl1, zlow_0, zlow_1, zlow_2, zlow_3, zlow_4, zfree_0, zfree_i, zfree_r, zfree_n, zfree_d, zfree_f, zfree_s, if_true, if_false, Option.bind_some, Option.toList_some, Option.toList_none, List.cons_append, List.nil_append, List.set_cons_zero, List.set_cons_succ, Bool.false_eq_true, reduceIte, zsw_c, zsw_n, Nat.reduceAdd, hC.r8, hR.2.1, ix_i2, g, hY.cls, c1, er, qnb _ hsl, R1.2.1, ix_p1, g1]
      rw [e0, ew]
      by_cases ht : nI (secK N kd (N (9 + 2 * bf k)) (catN N (P 8) (bf k))) = it (i + 2 * k + 1)
      · rw [if_pos ⟨hcN.symm, ht⟩, zi136_64, if_pos ht]
        have L1 := LA0_c (zr.2 q (by omega)) hL
        obtain ⟨h2, e2, Q2, z2⟩ := ih (k + 1) (liftN P kd (bf k)) h1 (.int (nI (secK N kd (N (9 + 2 * bf k)) (catN N (P 8) (bf k))))) (by omega) C1 R1 (hP.lift (by omega)) (hN.lift kd _) Yr L1
        refine ⟨h2, ?_, Q2, zr.tr z2⟩
        rw [show (liftN P kd (bf k)) 8 = zclr (P 8) (bf k) from rfl] at e2
        rw [← e2]
        conv =>
          lhs
          simp only [zi136_69, zi136_72, zcl1, zlow_0, zlow_1, zlow_2, zlow_3, zlow_4, zfree_0, zfree_i, zfree_r, zfree_n, zfree_d, zfree_f, zfree_s, if_true, if_false, Option.bind_some, Option.toList_some, Option.toList_none, List.cons_append, List.nil_append, List.set_cons_zero, List.set_cons_succ, Bool.false_eq_true, reduceIte, zsw_c, zsw_n, Nat.reduceAdd, ix_p1]
      · rw [if_neg (fun z => ht z.2), zi136_64, if_neg ht]
        refine ⟨h1, ?_, ⟨_, Yr⟩, zr⟩
        simp only [zi136_67, zi136_68 (sk := []), zcl1, zlow_0, zlow_1, zlow_2, zlow_3, zlow_4, zfree_0, zfree_i, zfree_r, zfree_n, zfree_d, zfree_f, zfree_s, if_true, if_false, Option.bind_some, Option.toList_some, Option.toList_none, List.cons_append, List.nil_append, List.set_cons_zero, List.set_cons_succ, Bool.false_eq_true, reduceIte, zsw_c, zsw_n, Nat.reduceAdd, zb_f, z00]
theorem sp_liftsAs {h : zH} {a i nn q kd num fo : Nat} {th ln sz : Int32} {it : Nat → Int32} {bf : Nat → Nat} (hq : 68 ≤ q) (hys : yys y s) (ha : 34 ≤ a ∧ a ≤ 48) (hi : i + 2 * nn ≤ 40) (hk : 1 ≤ kd ∧ kd ≤ 5) (hf : fo ≤ 40) (hb : ∀ k, k < nn → bf k < N 3 ∧ it (i + 2 * k) = nI (bf k)) (hC : CO h y s v) (hR : RW h a th ln sz it) (hW : WF N) (hY : YC h y N) (hS : SP h s) (hL : LA0 h q kd num fo) : ∃ h', zcall zpp E 136 [.ref 0, .ref q, .ref a, .int (nI i), .int (nI nn)] h = some (some (.int (zb (wgN N kd fo bf (fun k => it (i + 2 * k + 1)) nn 0 (N 8)))), h') ∧ SP h' s ∧ zsm (yP s) h h' := by
  unfold yys at hys
  have c5 : zsel 9 [9, 69] = some 69 := rfl
  obtain ⟨hb', eb, zbm, Yb⟩ := sp_becomeN (E := E) hS hY (by unfold far; omega) (by omega) hW.2.2.2.2.2.1
  have Cb : CO hb' y s v := hC.keep (zbm.2 0 (by unfold yP; omega))
  have Rb := hR.keep (zbm.2 _ (by unfold yP; omega)) (zbm.2 _ (by unfold yP; omega))
  have Lb : LA0 hb' q kd num fo := LA0_c (zbm.2 q (by unfold yP; omega)) hL
  obtain ⟨h', e, ⟨Q, YQ⟩, z⟩ := whoC (E := E) (N := N) (bf := bf) hq (by omega) (by omega) hi hk hf hb nn 0 N hb' (.retAddr 0) (by omega) Cb Rb hW (fun _ _ _ _ => rfl) Yb.1 Lb
  refine ⟨h', ?_, YC.sp (N := Q) ⟨YQ, Yb.2.sm z (by omega) (fun a e => by cases e; omega) (by omega)⟩, zbm.tr (z.wk (fun a e => by cases e; exact ⟨by omega, by omega⟩))⟩
  rw [← e]
  conv =>
    lhs
    simp only [ze136, zi136_0, zi136_0n, zi136_1, zi136_4, zi136_4n, zi136_5, zi136_8, zi136_11, zi136_12, zcl1, zlow_0, zlow_1, zlow_2, zlow_3, zlow_4, zfree_0, zfree_i, zfree_r, zfree_n, zfree_d, zfree_f, zfree_s, if_true, if_false, Option.bind_some, Option.toList_some, Option.toList_none, List.cons_append, List.nil_append, List.set_cons_zero, List.set_cons_succ, Bool.false_eq_true, reduceIte, zsw_c, zsw_n, Nat.reduceAdd, hC.r8, hC.r7, (show zcls h s = some 9 from by obtain ⟨⟨F, A, cr, Ya⟩, -⟩ := hS; exact Ya.1), c5, eb]
  rfl
/-- the component's loop over the kinds -/
theorem GU.put {h : zH} {k : Nat} {w : Int32} (hG : GU h) (hk : 1 ≤ k ∧ k ≤ 5) : GU (zpf h (67 + k) 1 (.int w)) := by
  obtain ⟨g, g1, g2⟩ := hG
  refine ⟨g, (zpf_o (by omega)).trans g1, fun j j1 j5 => ?_⟩
  obtain ⟨a1, a2, a3, x, a4⟩ := g2 j j1 j5
  by_cases hj : j = k
  · subst hj
    refine ⟨a1, zcls_pf.trans a2, (zfld_f (by omega)).trans a3, w, ?_⟩
    rw [zfld_same, a4]
    rfl
  · have e := zpf_o (h := h) (f := 1) (v := .int w) (show 67 + k ≠ 67 + j by omega)
    exact ⟨a1, (zcls_c e).trans a2, (zfld_c e).trans a3, x, (zfld_c e).trans a4⟩
theorem whoK {a i nn q kd0 num fo : Nat} {x1 x2 th ln sz : Int32} {it : Nat → Int32} {bf : Nat → Nat} (hys : yys y s) (ha : 34 ≤ a ∧ a ≤ 48) (hi : i + 2 * nn ≤ 40) (hf : fo ≤ 40) (hb : ∀ k, k < nn → bf k < N 3 ∧ it (i + 2 * k) = nI (bf k)) (hW : WF N) : ∀ (m k : Nat) (h : zH), k + m = 5 → CO h y s v → GU h → RW h a th ln sz it → YC h y N → SP h s → LAt h q kd0 num fo → ∃ h', zrun zpp E 115 (121, [.ref 0, .int x1, .int x2, .int (nI i), .int (nI nn), .ref q, .ref a, .int (nI (wsN N fo bf (fun k => it (i + 2 * k + 1)) nn k)), .int (nI (k + 1))], [], h) = some (some (.int (nI (wsN N fo bf (fun k => it (i + 2 * k + 1)) nn 5))), zpf h' 0 9 (.int 0)) ∧ CO h' y s v ∧ SP h' s ∧ GU h' ∧ zsm (fun a => yP s a ∨ (68 ≤ a ∧ a ≤ 72)) h h' := by
  have c1 : zsel 10 [10, 136] = some 136 := rfl
  have c2 : zsel 10 [10, 131] = some 131 := rfl
  have hys' := hys
  unfold yys at hys'
  intro m
  induction m with
  | zero =>
    intro k h hk hC hG hR hY hS hL
    refine ⟨h, ?_, hC, hS, hG, zsm.rf h⟩
    rw [show k = 5 by omega]
    simp only [zi115_121, zi115_123, zcl1, zlow_0, zlow_1, zlow_2, zlow_3, zlow_4, zfree_0, zfree_i, zfree_r, zfree_n, zfree_d, zfree_f, zfree_s, if_true, if_false, Option.bind_some, Option.toList_some, Option.toList_none, List.cons_append, List.nil_append, List.set_cons_zero, List.set_cons_succ, Bool.false_eq_true, reduceIte, zsw_c, zsw_n, Nat.reduceAdd]
    rw [zi115_124, if_pos (by decide)]
    simp only [zi115_180, zi115_180n, zi115_181, zi115_183, zi115_186 (sk := []), zcl1, zlow_0, zlow_1, zlow_2, zlow_3, zlow_4, zfree_0, zfree_i, zfree_r, zfree_n, zfree_d, zfree_f, zfree_s, if_true, if_false, Option.bind_some, Option.toList_some, Option.toList_none, List.cons_append, List.nil_append, List.set_cons_zero, List.set_cons_succ, Bool.false_eq_true, reduceIte, zsw_c, zsw_n, Nat.reduceAdd, hC.1, c2, sp_clean hC]
  | succ m ih =>
    intro k h hk hC hG hR hY hS hL
    have hlt := wsN_lt (N := N) (fo := fo) (bf := bf) (tf := fun k => it (i + 2 * k + 1)) (nn := nn) k (by omega)
    have eh : zrun zpp E 115 (121, [.ref 0, .int x1, .int x2, .int (nI i), .int (nI nn), .ref q, .ref a, .int (nI (wsN N fo bf (fun k => it (i + 2 * k + 1)) nn k)), .int (nI (k + 1))], [], h) = zrun zpp E 115 (127, [.ref 0, .int x1, .int x2, .int (nI i), .int (nI nn), .ref q, .ref a, .int (nI (wsN N fo bf (fun k => it (i + 2 * k + 1)) nn k)), .int (nI (k + 1))], [], h) := by
      conv =>
        lhs
        simp only [zi115_121, zi115_123, zcl1, zlow_0, zlow_1, zlow_2, zlow_3, zlow_4, zfree_0, zfree_i, zfree_r, zfree_n, zfree_d, zfree_f, zfree_s, if_true, if_false, Option.bind_some, Option.toList_some, Option.toList_none, List.cons_append, List.nil_append, List.set_cons_zero, List.set_cons_succ, Bool.false_eq_true, reduceIte, zsw_c, zsw_n, Nat.reduceAdd]
      rw [zi115_124, if_neg (by rw [show (5 : Int32) = nI 5 from rfl, nI_ltP (by omega) (by omega)]; omega)]
    have hk1 : 1 ≤ k + 1 ∧ k + 1 ≤ 5 := by omega
    have hq := hL.1
    -- as whom it is tried
    have ga : ∀ H : zH, GU H → zara H 13 (nI (k + 1)) = some (.ref (67 + (k + 1))) := by
      intro H hH
      obtain ⟨g, g1, g2⟩ := hH
      unfold zara
      rw [g1]
      simp only [zix_nI (show k + 1 < 6 by omega) (by omega), nI_clamp (show k + 1 < 2 ^ 31 by omega), (g2 (k + 1) hk1.1 hk1.2).1, zart]
      rfl
    have GA := hG.put (w := nI fo) hk1
    obtain ⟨g, g1, g2⟩ := hG
    obtain ⟨a1, a2, a3, x, a4⟩ := g2 (k + 1) hk1.1 hk1.2
    have w1 := zstf_ok (ty := 0) (v := .int (nI fo)) a4 zfits_i
    have zA : zsm (fun a => yP s a ∨ (68 ≤ a ∧ a ≤ 72)) h (zpf h (67 + (k + 1)) 1 (.int (nI fo))) := zsm_pf.wk (fun b e => Or.inr (by omega))
    have fA := zA.fr (fun a e => by unfold yP at e; omega)
    have LA : LA0 (zpf h (67 + (k + 1)) 1 (.int (nI fo))) (67 + (k + 1)) (k + 1) 0 fo := by
      refine ⟨zcls_pf.trans a2, (zfld_f (by omega)).trans a3, ?_⟩
      rw [zfld_same, a4]
      rfl
    have CA : CO (zpf h (67 + (k + 1)) 1 (.int (nI fo))) y s v := hC.keep (zpf_o (by omega))
    have RA' : RW (zpf h (67 + (k + 1)) 1 (.int (nI fo))) a th ln sz it := hR.keep (zpf_o (by omega)) (zpf_o (by omega))
    have YA : YC (zpf h (67 + (k + 1)) 1 (.int (nI fo))) y N := hY.keep fA (by omega) (fun a _ _ => by unfold yP; omega)
    have SA : SP (zpf h (67 + (k + 1)) 1 (.int (nI fo))) s := hS.keep (P := fun a => 68 ≤ a ∧ a ≤ 72) ((zsm_pf.wk (fun b e => by omega)).fr (fun a e => by omega)) (by omega) (fun a _ _ => by omega)
    obtain ⟨h1, e1, S1, z1⟩ := sp_liftsAs (E := E) (by omega) hys ha hi hk1 hf hb CA RA' hW YA SA LA
    have zB : zsm (fun a => yP s a ∨ (68 ≤ a ∧ a ≤ 72)) h h1 := zA.tr (z1.wk (fun a e => Or.inl e))
    have f1 := zB.fr (fun a e => by unfold yP at e; omega)
    have G1 : GU h1 := GA.keep (z1.fr (fun a e => by unfold yP at e; omega)) (fun a ha => by unfold yP; omega)
    obtain ⟨h2, e2, C2, S2, G2, z2⟩ := ih (k + 1) h1 (by omega) (hC.keep (f1.1 0 (by omega) (by unfold yP; omega))) G1 (hR.keep (f1.1 _ (by omega) (by unfold yP; omega)) (f1.1 _ (by omega) (by unfold yP; omega))) (hY.keep f1 (by omega) (fun a h1 h2 => by unfold yP; omega)) S1 (LAt_c f1.2 hL)
    refine ⟨h2, ?_, C2, S2, G2, zB.tr z2⟩
    rw [← e2, eh]
    have ew : wsN N fo bf (fun k => it (i + 2 * k + 1)) nn (k + 1) = if wgN N (k + 1) fo bf (fun k => it (i + 2 * k + 1)) nn 0 (N 8) = true then zput (wsN N fo bf (fun k => it (i + 2 * k + 1)) nn k) (k + 1) else wsN N fo bf (fun k => it (i + 2 * k + 1)) nn k := rfl
    rw [ew]
    conv =>
      lhs
      simp only [zi115_127, zi115_127n, zi115_128, zi115_131, zi115_133, zi115_134, zi115_134n, zi115_136, zi115_139, zi115_142, zi115_144, zi115_144n, zi115_145, zi115_145n, zi115_146, zi115_149, zi115_151, zi115_152, zi115_152n, zi115_154, zi115_155, zi115_157, zi115_160, zi115_163, zi115_164, zi115_166, zi115_167, zi115_170, zi115_171, zi115_172, zi115_174, zi115_177, zcl1, zlow_0, zlow_1, zlow_2, zlow_3, zlow_4, zfree_0, zfree_i, zfree_r, zfree_n, zfree_d, zfree_f, zfree_s, if_true, if_false, Option.bind_some, Option.toList_some, Option.toList_none, List.cons_append, List.nil_append, List.set_cons_zero, List.set_cons_succ, Bool.false_eq_true, reduceIte, zsw_c, zsw_n, Nat.reduceAdd, hC.r10, ga h ⟨g, g1, g2⟩, hL.2.2.2, w1, CA.r10, ga _ GA, CA.1, c1, e1, (zput_k _ hlt (k + 1) (by omega)).1, zor_0, ix_p1]
    cases wgN N (k + 1) fo bf (fun k => it (i + 2 * k + 1)) nn 0 (N 8) <;> rfl
/-- the model's lifts of one kind -/
theorem whoM {h : zH} {w r i nn kd S : Nat} {lm mn im : Nat → Int32} {bf : Nat → Nat} (hM : MdO h sc) (hY : MY h N) (hW : WF N) (hL : ML h lm mn im) (hr : r < 8) (hi : i + 2 * nn ≤ 40) (hk : 1 ≤ kd ∧ kd ≤ 5) (hw : w < N 5) (hb : ∀ k, k < nn → bf k < N 3 ∧ im (40 * r + (i + 2 * k)) = nI (bf k)) : ∀ (m k d : Nat) (v10 : Value), k + m = nn → d < 256 → ∃ (d' k' v10' : Value), zrun zpp E 213 (156, [.ref 73, .int (nI w), .int (nI r), .int (nI i), .int (nI nn), .int (nI S), .int (nI kd), .int (nI d), .int 1, .int (nI k), v10], [], h) = zrun zpp E 213 (259, [.ref 73, .int (nI w), .int (nI r), .int (nI i), .int (nI nn), .int (nI S), .int (nI kd), d', .int (zb (wgN N kd (N (66 + 2 * w)) bf (fun k => im (40 * r + (i + 2 * k + 1))) m k d)), k', v10'], [], h) := by
  have h5 := hW.2.2.2.2.2.1
  have h3 := hW.2.2.2.1.2
  have m4 : zsel 11 [11, 180] = some 180 := rfl
  have m5 : zsel 11 [11, 186] = some 186 := rfl
  have m6 : zsel 11 [11, 187] = some 187 := rfl
  intro m
  induction m with
  | zero =>
    intro k d v10 hk' hd
    refine ⟨.int (nI d), .int (nI k), v10, ?_⟩
    conv =>
      lhs
      simp only [zi213_156, zi213_158, zcl1, zlow_0, zlow_1, zlow_2, zlow_3, zlow_4, zfree_0, zfree_i, zfree_r, zfree_n, zfree_d, zfree_f, zfree_s, if_true, if_false, Option.bind_some, Option.toList_some, Option.toList_none, List.cons_append, List.nil_append, List.set_cons_zero, List.set_cons_succ, Bool.false_eq_true, reduceIte, zsw_c, zsw_n, Nat.reduceAdd]
    rw [zi213_160, if_pos (by rw [nI_leP (by omega) (by omega)]; omega)]
    rfl
  | succ m ih =>
    intro k d v10 hk' hd
    obtain ⟨hbk, ebk⟩ := hb k (by omega)
    have hf := (hW.kf hw).2
    have g := zarr_at (j := 40 * r + (i + 2 * k)) hL.2.2 (by omega) (by omega)
    rw [ebk] at g
    have g1 := zarr_at (j := 40 * r + (i + 2 * k + 1)) hL.2.2 (by omega) (by omega)
    have eix : (40 : Int32) * nI r + nI i + 2 * nI k = nI (40 * r + (i + 2 * k)) := by rw [ix_40, ix_i2, show 40 * r + i + 2 * k = 40 * r + (i + 2 * k) by omega]
    have eix1 : nI (40 * r + (i + 2 * k)) + 1 = nI (40 * r + (i + 2 * k + 1)) := by rw [ix_p1]; rfl
    have hd0 : zrun zpp E 213 (156, [.ref 73, .int (nI w), .int (nI r), .int (nI i), .int (nI nn), .int (nI S), .int (nI kd), .int (nI d), .int 1, .int (nI k), v10], [], h) = zrun zpp E 213 (201, [.ref 73, .int (nI w), .int (nI r), .int (nI i), .int (nI nn), .int (nI S), .int (nI kd), .int (nI d), .int 1, .int (nI k), .int (nI (bf k))], [.int (zb (canN N kd (N (66 + 2 * w)) d (bf k)))], h) := by
      conv =>
        lhs
        simp only [zi213_156, zi213_158, zcl1, zlow_0, zlow_1, zlow_2, zlow_3, zlow_4, zfree_0, zfree_i, zfree_r, zfree_n, zfree_d, zfree_f, zfree_s, if_true, if_false, Option.bind_some, Option.toList_some, Option.toList_none, List.cons_append, List.nil_append, List.set_cons_zero, List.set_cons_succ, Bool.false_eq_true, reduceIte, zsw_c, zsw_n, Nat.reduceAdd]
      rw [zi213_160, if_neg (by rw [nI_leP (by omega) (by omega)]; omega)]
      conv =>
        lhs
        simp only [zi213_163, zi213_165, zi213_168, zi213_168n, zi213_169, zi213_172, zi213_174, zi213_175, zi213_176, zi213_177, zi213_178, zi213_179, zi213_181, zi213_182, zi213_183, zi213_184, zi213_186, zi213_186n, zi213_187, zi213_189, zi213_189n, zi213_190, zi213_191, zi213_194, zi213_196, zi213_198, zcl1, zlow_0, zlow_1, zlow_2, zlow_3, zlow_4, zfree_0, zfree_i, zfree_r, zfree_n, zfree_d, zfree_f, zfree_s, if_true, if_false, Option.bind_some, Option.toList_some, Option.toList_none, List.cons_append, List.nil_append, List.set_cons_zero, List.set_cons_succ, Bool.false_eq_true, reduceIte, zsw_c, zsw_n, Nat.reduceAdd, z10, hM.r4, eix, g, hM.1, m4, sp_forceOf hM hY (show w < 4 by omega), m5, sp_can hM hY hW hd hbk hk hf]
    have hcl := (zclr_k _ hd (bf k) (show bf k < 8 by omega)).1
    have ew : wgN N kd (N (66 + 2 * w)) bf (fun k => im (40 * r + (i + 2 * k + 1))) (m + 1) k d = if canN N kd (N (66 + 2 * w)) d (bf k) = true ∧ nI (secK N kd (N (9 + 2 * bf k)) (catN N d (bf k))) = im (40 * r + (i + 2 * k + 1)) then wgN N kd (N (66 + 2 * w)) bf (fun k => im (40 * r + (i + 2 * k + 1))) m (k + 1) (zclr d (bf k)) else false := rfl
    -- it isn't: the loop ends
    have out : zrun zpp E 213 (240, [.ref 73, .int (nI w), .int (nI r), .int (nI i), .int (nI nn), .int (nI S), .int (nI kd), .int (nI d), .int 1, .int (nI k), .int (nI (bf k))], [.int 0], h) = zrun zpp E 213 (259, [.ref 73, .int (nI w), .int (nI r), .int (nI i), .int (nI nn), .int (nI S), .int (nI kd), .int (nI (zclr d (bf k))), .int (zb false), .int (nI (k + 1)), .int (nI (bf k))], [], h) := by
      conv =>
        lhs
        simp only [zi213_240, zi213_242, zi213_244, zi213_245, zi213_247, zi213_248, zi213_249, zi213_250, zi213_251, zi213_253, zi213_256, zcl1, zlow_0, zlow_1, zlow_2, zlow_3, zlow_4, zfree_0, zfree_i, zfree_r, zfree_n, zfree_d, zfree_f, zfree_s, if_true, if_false, Option.bind_some, Option.toList_some, Option.toList_none, List.cons_append, List.nil_append, List.set_cons_zero, List.set_cons_succ, Bool.false_eq_true, reduceIte, zsw_c, zsw_n, Nat.reduceAdd, hcl, ix_p1]
      conv =>
        lhs
        simp only [zi213_156, zi213_158, zcl1, zlow_0, zlow_1, zlow_2, zlow_3, zlow_4, zfree_0, zfree_i, zfree_r, zfree_n, zfree_d, zfree_f, zfree_s, if_true, if_false, Option.bind_some, Option.toList_some, Option.toList_none, List.cons_append, List.nil_append, List.set_cons_zero, List.set_cons_succ, Bool.false_eq_true, reduceIte, zsw_c, zsw_n, Nat.reduceAdd]
      rw [zi213_160]
      by_cases hkn : nn ≤ k + 1
      · rw [if_pos (by rw [nI_leP (by omega) (by omega)]; exact hkn)]
        rfl
      · rw [if_neg (by rw [nI_leP (by omega) (by omega)]; exact hkn)]
        conv =>
          lhs
          simp only [zi213_163, zi213_165, zcl1, zlow_0, zlow_1, zlow_2, zlow_3, zlow_4, zfree_0, zfree_i, zfree_r, zfree_n, zfree_d, zfree_f, zfree_s, if_true, if_false, Option.bind_some, Option.toList_some, Option.toList_none, List.cons_append, List.nil_append, List.set_cons_zero, List.set_cons_succ, Bool.false_eq_true, reduceIte, zsw_c, zsw_n, Nat.reduceAdd, z00]
        rfl
    cases hc : canN N kd (N (66 + 2 * w)) d (bf k)
    · refine ⟨.int (nI (zclr d (bf k))), .int (nI (k + 1)), .int (nI (bf k)), ?_⟩
      rw [ew, if_neg (fun z => by rw [hc] at z; cases z.1), ← out, hd0, hc]
      conv =>
        lhs
        simp only [zi213_201, zi213_239, zcl1, zlow_0, zlow_1, zlow_2, zlow_3, zlow_4, zfree_0, zfree_i, zfree_r, zfree_n, zfree_d, zfree_f, zfree_s, if_true, if_false, Option.bind_some, Option.toList_some, Option.toList_none, List.cons_append, List.nil_append, List.set_cons_zero, List.set_cons_succ, Bool.false_eq_true, reduceIte, zsw_c, zsw_n, Nat.reduceAdd, zb_f, z00]
    · have e1 : zrun zpp E 213 (201, [.ref 73, .int (nI w), .int (nI r), .int (nI i), .int (nI nn), .int (nI S), .int (nI kd), .int (nI d), .int 1, .int (nI k), .int (nI (bf k))], [.int (zb true)], h) = zrun zpp E 213 (232, [.ref 73, .int (nI w), .int (nI r), .int (nI i), .int (nI nn), .int (nI S), .int (nI kd), .int (nI d), .int 1, .int (nI k), .int (nI (bf k))], [.int (im (40 * r + (i + 2 * k + 1))), .int (nI (secK N kd (N (9 + 2 * bf k)) (catN N d (bf k))))], h) := by
        conv =>
          lhs
          simp only [zi213_201, zi213_204, zi213_204n, zi213_205, zi213_207, zi213_209, zi213_211, zi213_214, zi213_214n, zi213_215, zi213_218, zi213_220, zi213_221, zi213_222, zi213_223, zi213_224, zi213_225, zi213_227, zi213_228, zi213_229, zi213_230, zi213_231, zcl1, zlow_0, zlow_1, zlow_2, zlow_3, zlow_4, zfree_0, zfree_i, zfree_r, zfree_n, zfree_d, zfree_f, zfree_s, if_true, if_false, Option.bind_some, Option.toList_some, Option.toList_none, List.cons_append, List.nil_append, List.set_cons_zero, List.set_cons_succ, Bool.false_eq_true, reduceIte, zsw_c, zsw_n, Nat.reduceAdd, zb_t, z10, hM.1, m6, sp_takesBy hM hY hW hd hbk hk, hM.r4, eix, eix1, g1]
      by_cases ht : nI (secK N kd (N (9 + 2 * bf k)) (catN N d (bf k))) = im (40 * r + (i + 2 * k + 1))
      · obtain ⟨d', k', u10, e2⟩ := ih (k + 1) (zclr d (bf k)) (.int (nI (bf k))) (by omega) (zclr_lt hd (by omega))
        refine ⟨d', k', u10, ?_⟩
        rw [ew, if_pos ⟨hc, ht⟩, ← e2, hd0, hc, e1, zi213_232, if_pos ht]
        conv =>
          lhs
          simp only [zi213_235, zi213_236, zi213_239, zi213_240, zi213_242, zi213_244, zi213_245, zi213_247, zi213_248, zi213_249, zi213_250, zi213_251, zi213_253, zi213_256, zcl1, zlow_0, zlow_1, zlow_2, zlow_3, zlow_4, zfree_0, zfree_i, zfree_r, zfree_n, zfree_d, zfree_f, zfree_s, if_true, if_false, Option.bind_some, Option.toList_some, Option.toList_none, List.cons_append, List.nil_append, List.set_cons_zero, List.set_cons_succ, Bool.false_eq_true, reduceIte, zsw_c, zsw_n, Nat.reduceAdd, hcl, ix_p1]
      · refine ⟨.int (nI (zclr d (bf k))), .int (nI (k + 1)), .int (nI (bf k)), ?_⟩
        rw [ew, if_neg (fun z => ht z.2), ← out, hd0, hc, e1, zi213_232, if_neg ht]
        conv =>
          lhs
          simp only [zi213_239, zcl1, zlow_0, zlow_1, zlow_2, zlow_3, zlow_4, zfree_0, zfree_i, zfree_r, zfree_n, zfree_d, zfree_f, zfree_s, if_true, if_false, Option.bind_some, Option.toList_some, Option.toList_none, List.cons_append, List.nil_append, List.set_cons_zero, List.set_cons_succ, Bool.false_eq_true, reduceIte, zsw_c, zsw_n, Nat.reduceAdd]
theorem whoN {h : zH} {w r i nn : Nat} {lm mn im : Nat → Int32} {bf : Nat → Nat} (hM : MdO h sc) (hY : MY h N) (hW : WF N) (hL : ML h lm mn im) (hr : r < 8) (hi : i + 2 * nn ≤ 40) (hw : w < N 5) (hb : ∀ k, k < nn → bf k < N 3 ∧ im (40 * r + (i + 2 * k)) = nI (bf k)) : ∀ (m k : Nat) (v7 v8 v9 v10 : Value), k + m = 5 → zrun zpp E 213 (135, [.ref 73, .int (nI w), .int (nI r), .int (nI i), .int (nI nn), .int (nI (wsN N (N (66 + 2 * w)) bf (fun k => im (40 * r + (i + 2 * k + 1))) nn k)), .int (nI (k + 1)), v7, v8, v9, v10], [], h) = some (some (.int (nI (wsN N (N (66 + 2 * w)) bf (fun k => im (40 * r + (i + 2 * k + 1))) nn 5))), h) := by
  intro m
  induction m with
  | zero =>
    intro k v7 v8 v9 v10 hk
    rw [show k = 5 by omega]
    simp only [zi213_135, zi213_137, zcl1, zlow_0, zlow_1, zlow_2, zlow_3, zlow_4, zfree_0, zfree_i, zfree_r, zfree_n, zfree_d, zfree_f, zfree_s, if_true, if_false, Option.bind_some, Option.toList_some, Option.toList_none, List.cons_append, List.nil_append, List.set_cons_zero, List.set_cons_succ, Bool.false_eq_true, reduceIte, zsw_c, zsw_n, Nat.reduceAdd]
    rw [zi213_138, if_pos (by decide)]
    simp only [zi213_283, zi213_285 (sk := []), zcl1, zlow_0, zlow_1, zlow_2, zlow_3, zlow_4, zfree_0, zfree_i, zfree_r, zfree_n, zfree_d, zfree_f, zfree_s, if_true, if_false, Option.bind_some, Option.toList_some, Option.toList_none, List.cons_append, List.nil_append, List.set_cons_zero, List.set_cons_succ, Bool.false_eq_true, reduceIte, zsw_c, zsw_n, Nat.reduceAdd]
  | succ m ih =>
    intro k v7 v8 v9 v10 hk
    have hlt := wsN_lt (N := N) (fo := N (66 + 2 * w)) (bf := bf) (tf := fun k => im (40 * r + (i + 2 * k + 1))) (nn := nn) k (by omega)
    obtain ⟨d', k', u10, e1⟩ := whoM (E := E) (kd := k + 1) (S := wsN N (N (66 + 2 * w)) bf (fun k => im (40 * r + (i + 2 * k + 1))) nn k) hM hY hW hL hr hi (by omega) hw hb nn 0 (N 8) v10 (by omega) hW.d8
    have ew : wsN N (N (66 + 2 * w)) bf (fun k => im (40 * r + (i + 2 * k + 1))) nn (k + 1) = if wgN N (k + 1) (N (66 + 2 * w)) bf (fun k => im (40 * r + (i + 2 * k + 1))) nn 0 (N 8) = true then zput (wsN N (N (66 + 2 * w)) bf (fun k => im (40 * r + (i + 2 * k + 1))) nn k) (k + 1) else wsN N (N (66 + 2 * w)) bf (fun k => im (40 * r + (i + 2 * k + 1))) nn k := rfl
    have ih1 := ih (k + 1) d' (.int (zb (wgN N (k + 1) (N (66 + 2 * w)) bf (fun k => im (40 * r + (i + 2 * k + 1))) nn 0 (N 8)))) k' u10 (by omega)
    rw [← ih1, ew]
    conv =>
      lhs
      simp only [zi213_135, zi213_137, zcl1, zlow_0, zlow_1, zlow_2, zlow_3, zlow_4, zfree_0, zfree_i, zfree_r, zfree_n, zfree_d, zfree_f, zfree_s, if_true, if_false, Option.bind_some, Option.toList_some, Option.toList_none, List.cons_append, List.nil_append, List.set_cons_zero, List.set_cons_succ, Bool.false_eq_true, reduceIte, zsw_c, zsw_n, Nat.reduceAdd]
    rw [zi213_138, if_neg (by rw [show (5 : Int32) = nI 5 from rfl, nI_ltP (by omega) (by omega)]; omega)]
    have e2 : zrun zpp E 213 (141, [.ref 73, .int (nI w), .int (nI r), .int (nI i), .int (nI nn), .int (nI (wsN N (N (66 + 2 * w)) bf (fun k => im (40 * r + (i + 2 * k + 1))) nn k)), .int (nI (k + 1)), v7, v8, v9, v10], [], h) = zrun zpp E 213 (156, [.ref 73, .int (nI w), .int (nI r), .int (nI i), .int (nI nn), .int (nI (wsN N (N (66 + 2 * w)) bf (fun k => im (40 * r + (i + 2 * k + 1))) nn k)), .int (nI (k + 1)), .int (nI (N 8)), .int 1, .int (nI 0), v10], [], h) := by
      conv =>
        lhs
        simp only [zi213_141, zi213_141n, zi213_142, zi213_145, zi213_147, zi213_148, zi213_150, zi213_151, zi213_153, zi213_154, zcl1, zlow_0, zlow_1, zlow_2, zlow_3, zlow_4, zfree_0, zfree_i, zfree_r, zfree_n, zfree_d, zfree_f, zfree_s, if_true, if_false, Option.bind_some, Option.toList_some, Option.toList_none, List.cons_append, List.nil_append, List.set_cons_zero, List.set_cons_succ, Bool.false_eq_true, reduceIte, zsw_c, zsw_n, Nat.reduceAdd, hM.r5, hY.c 8 (by decide) (x := 8) rfl]
      rfl
    rw [e2, e1]
    conv =>
      lhs
      simp only [zi213_259, zi213_261, zi213_263, zi213_266, zi213_267, zi213_269, zi213_270, zi213_273, zi213_274, zi213_275, zi213_277, zi213_280, zcl1, zlow_0, zlow_1, zlow_2, zlow_3, zlow_4, zfree_0, zfree_i, zfree_r, zfree_n, zfree_d, zfree_f, zfree_s, if_true, if_false, Option.bind_some, Option.toList_some, Option.toList_none, List.cons_append, List.nil_append, List.set_cons_zero, List.set_cons_succ, Bool.false_eq_true, reduceIte, zsw_c, zsw_n, Nat.reduceAdd, (zput_k _ hlt (k + 1) (by omega)).1, zor_0, ix_p1]
    cases wgN N (k + 1) (N (66 + 2 * w)) bf (fun k => im (40 * r + (i + 2 * k + 1))) nn 0 (N 8) <;> rfl

/-- the bikes told, by both -/
theorem whoV {h : zH} {a i nn : Nat} {x1 x2 th ln sz : Int32} {it : Nat → Int32} {q : Value} (hC : CO h y s v) (hY : YN h y N) (hR : RW h a th ln sz it) (hi : i + 2 * nn ≤ 40) : ∀ (m k : Nat) (v8 : Value), k + m = nn → ((∀ j, k ≤ j → j < nn → zlt (it (i + 2 * j)) (N 3) = true) → zrun zpp E 115 (77, [.ref 0, .int x1, .int x2, .int (nI i), .int (nI nn), q, .ref a, .int (nI k), v8], [], h) = zrun zpp E 115 (115, [.ref 0, .int x1, .int x2, .int (nI i), .int (nI nn), q, .ref a, .int (nI nn), v8], [], h)) ∧ ((∃ j, k ≤ j ∧ j < nn ∧ zlt (it (i + 2 * j)) (N 3) = false) → zrun zpp E 115 (77, [.ref 0, .int x1, .int x2, .int (nI i), .int (nI nn), q, .ref a, .int (nI k), v8], [], h) = some (some (.int (-1000001)), h)) := by
  have c1 : zsel 9 [9, 71] = some 71 := rfl
  intro m
  induction m with
  | zero =>
    intro k v8 hk
    refine ⟨fun _ => ?_, fun ⟨j, j1, j2, _⟩ => by omega⟩
    rw [show k = nn by omega]
    conv =>
      lhs
      simp only [zi115_77, zi115_79, zcl1, zlow_0, zlow_1, zlow_2, zlow_3, zlow_4, zfree_0, zfree_i, zfree_r, zfree_n, zfree_d, zfree_f, zfree_s, if_true, if_false, Option.bind_some, Option.toList_some, Option.toList_none, List.cons_append, List.nil_append, List.set_cons_zero, List.set_cons_succ, Bool.false_eq_true, reduceIte, zsw_c, zsw_n, Nat.reduceAdd]
    rw [zi115_81, if_pos (by rw [nI_leP (by omega) (by omega)]; omega)]
  | succ m ih =>
    intro k v8 hk
    obtain ⟨i1, i2⟩ := ih (k + 1) v8 (by omega)
    have g := zarr_at (j := i + 2 * k) hR.2.2.2.2.2 (by omega) (by omega)
    have hd : zrun zpp E 115 (77, [.ref 0, .int x1, .int x2, .int (nI i), .int (nI nn), q, .ref a, .int (nI k), v8], [], h) = zrun zpp E 115 (84, [.ref 0, .int x1, .int x2, .int (nI i), .int (nI nn), q, .ref a, .int (nI k), v8], [], h) := by
      conv =>
        lhs
        simp only [zi115_77, zi115_79, zcl1, zlow_0, zlow_1, zlow_2, zlow_3, zlow_4, zfree_0, zfree_i, zfree_r, zfree_n, zfree_d, zfree_f, zfree_s, if_true, if_false, Option.bind_some, Option.toList_some, Option.toList_none, List.cons_append, List.nil_append, List.set_cons_zero, List.set_cons_succ, Bool.false_eq_true, reduceIte, zsw_c, zsw_n, Nat.reduceAdd]
      rw [zi115_81, if_neg (by rw [nI_leP (by omega) (by omega)]; omega)]
    refine ⟨fun ha => ?_, fun ⟨j, j1, j2, j3⟩ => ?_⟩
    · rw [← i1 (fun j h1 h2 => ha j (by omega) h2), hd]
      conv =>
        lhs
        simp only [zi115_84, zi115_84n, zi115_85, zi115_88, zi115_88n, zi115_90, zi115_93, zi115_94, zi115_95, zi115_97, zi115_98, zi115_99, zi115_100, zi115_103, zi115_106, zi115_108 (sk := []), zi115_109, zi115_112, zcl1, zlow_0, zlow_1, zlow_2, zlow_3, zlow_4, zfree_0, zfree_i, zfree_r, zfree_n, zfree_d, zfree_f, zfree_s, if_true, if_false, Option.bind_some, Option.toList_some, Option.toList_none, List.cons_append, List.nil_append, List.set_cons_zero, List.set_cons_succ, Bool.false_eq_true, reduceIte, zsw_c, zsw_n, Nat.reduceAdd, hC.r7, hR.2.1, ix_i2, g, hY.cls, c1, sp_hasBike hY, ha k (by omega) (by omega), zb_t, z10, ix_p1]
    · rw [hd]
      cases hz : zlt (it (i + 2 * k)) (N 3)
      · simp only [zi115_84, zi115_84n, zi115_85, zi115_88, zi115_88n, zi115_90, zi115_93, zi115_94, zi115_95, zi115_97, zi115_98, zi115_99, zi115_100, zi115_103, zi115_106, zi115_108 (sk := []), zi115_109, zi115_112, zcl1, zlow_0, zlow_1, zlow_2, zlow_3, zlow_4, zfree_0, zfree_i, zfree_r, zfree_n, zfree_d, zfree_f, zfree_s, if_true, if_false, Option.bind_some, Option.toList_some, Option.toList_none, List.cons_append, List.nil_append, List.set_cons_zero, List.set_cons_succ, Bool.false_eq_true, reduceIte, zsw_c, zsw_n, Nat.reduceAdd, hC.r7, hR.2.1, ix_i2, g, hY.cls, c1, sp_hasBike hY, hz, zb_f, z00]
      · rw [← i2 ⟨j, by
          by_cases hjk : j = k
          · subst hjk; rw [hz] at j3; cases j3
          · omega, j2, j3⟩]
        conv =>
          lhs
          simp only [zi115_84, zi115_84n, zi115_85, zi115_88, zi115_88n, zi115_90, zi115_93, zi115_94, zi115_95, zi115_97, zi115_98, zi115_99, zi115_100, zi115_103, zi115_106, zi115_108 (sk := []), zi115_109, zi115_112, zcl1, zlow_0, zlow_1, zlow_2, zlow_3, zlow_4, zfree_0, zfree_i, zfree_r, zfree_n, zfree_d, zfree_f, zfree_s, if_true, if_false, Option.bind_some, Option.toList_some, Option.toList_none, List.cons_append, List.nil_append, List.set_cons_zero, List.set_cons_succ, Bool.false_eq_true, reduceIte, zsw_c, zsw_n, Nat.reduceAdd, hC.r7, hR.2.1, ix_i2, g, hY.cls, c1, sp_hasBike hY, hz, zb_t, z10, ix_p1]
theorem whoW {h : zH} {w r i nn : Nat} {lm mn im : Nat → Int32} (hM : MdO h sc) (hY : MY h N) (hL : ML h lm mn im) (hr : r < 8) (hi : i + 2 * nn ≤ 40) : ∀ (m k : Nat) (v6 v7 v8 v9 v10 : Value), k + m = nn → ((∀ j, k ≤ j → j < nn → zlt (im (40 * r + (i + 2 * j))) (N 3) = true) → zrun zpp E 213 (84, [.ref 73, .int (nI w), .int (nI r), .int (nI i), .int (nI nn), .int (nI k), v6, v7, v8, v9, v10], [], h) = zrun zpp E 213 (124, [.ref 73, .int (nI w), .int (nI r), .int (nI i), .int (nI nn), .int (nI nn), v6, v7, v8, v9, v10], [], h)) ∧ ((∃ j, k ≤ j ∧ j < nn ∧ zlt (im (40 * r + (i + 2 * j))) (N 3) = false) → zrun zpp E 213 (84, [.ref 73, .int (nI w), .int (nI r), .int (nI i), .int (nI nn), .int (nI k), v6, v7, v8, v9, v10], [], h) = some (some (.int (-1000001)), h)) := by
  have m1 : zsel 11 [11, 173] = some 173 := rfl
  intro m
  induction m with
  | zero =>
    intro k v6 v7 v8 v9 v10 hk
    refine ⟨fun _ => ?_, fun ⟨j, j1, j2, _⟩ => by omega⟩
    rw [show k = nn by omega]
    conv =>
      lhs
      simp only [zi213_84, zi213_86, zcl1, zlow_0, zlow_1, zlow_2, zlow_3, zlow_4, zfree_0, zfree_i, zfree_r, zfree_n, zfree_d, zfree_f, zfree_s, if_true, if_false, Option.bind_some, Option.toList_some, Option.toList_none, List.cons_append, List.nil_append, List.set_cons_zero, List.set_cons_succ, Bool.false_eq_true, reduceIte, zsw_c, zsw_n, Nat.reduceAdd]
    rw [zi213_88, if_pos (by rw [nI_leP (by omega) (by omega)]; omega)]
  | succ m ih =>
    intro k v6 v7 v8 v9 v10 hk
    obtain ⟨i1, i2⟩ := ih (k + 1) v6 v7 v8 v9 v10 (by omega)
    have g := zarr_at (j := 40 * r + (i + 2 * k)) hL.2.2 (by omega) (by omega)
    have eix : (40 : Int32) * nI r + nI i + 2 * nI k = nI (40 * r + (i + 2 * k)) := by rw [ix_40, ix_i2, show 40 * r + i + 2 * k = 40 * r + (i + 2 * k) by omega]
    have hd : zrun zpp E 213 (84, [.ref 73, .int (nI w), .int (nI r), .int (nI i), .int (nI nn), .int (nI k), v6, v7, v8, v9, v10], [], h) = zrun zpp E 213 (91, [.ref 73, .int (nI w), .int (nI r), .int (nI i), .int (nI nn), .int (nI k), v6, v7, v8, v9, v10], [], h) := by
      conv =>
        lhs
        simp only [zi213_84, zi213_86, zcl1, zlow_0, zlow_1, zlow_2, zlow_3, zlow_4, zfree_0, zfree_i, zfree_r, zfree_n, zfree_d, zfree_f, zfree_s, if_true, if_false, Option.bind_some, Option.toList_some, Option.toList_none, List.cons_append, List.nil_append, List.set_cons_zero, List.set_cons_succ, Bool.false_eq_true, reduceIte, zsw_c, zsw_n, Nat.reduceAdd]
      rw [zi213_88, if_neg (by rw [nI_leP (by omega) (by omega)]; omega)]
    refine ⟨fun ha => ?_, fun ⟨j, j1, j2, j3⟩ => ?_⟩
    · rw [← i1 (fun j h1 h2 => ha j (by omega) h2), hd]
      conv =>
        lhs
        simp only [zi213_91, zi213_91n, zi213_92, zi213_92n, zi213_93, zi213_96, zi213_98, zi213_99, zi213_100, zi213_101, zi213_102, zi213_103, zi213_105, zi213_106, zi213_107, zi213_108, zi213_109, zi213_112, zi213_115, zi213_117 (sk := []), zi213_118, zi213_121, zcl1, zlow_0, zlow_1, zlow_2, zlow_3, zlow_4, zfree_0, zfree_i, zfree_r, zfree_n, zfree_d, zfree_f, zfree_s, if_true, if_false, Option.bind_some, Option.toList_some, Option.toList_none, List.cons_append, List.nil_append, List.set_cons_zero, List.set_cons_succ, Bool.false_eq_true, reduceIte, zsw_c, zsw_n, Nat.reduceAdd, hM.r4, eix, g, hM.1, m1, sp_isBikeM hM hY rfl, ha k (by omega) (by omega), zb_t, z10, ix_p1]
    · rw [hd]
      cases hz : zlt (im (40 * r + (i + 2 * k))) (N 3)
      · simp only [zi213_91, zi213_91n, zi213_92, zi213_92n, zi213_93, zi213_96, zi213_98, zi213_99, zi213_100, zi213_101, zi213_102, zi213_103, zi213_105, zi213_106, zi213_107, zi213_108, zi213_109, zi213_112, zi213_115, zi213_117 (sk := []), zi213_118, zi213_121, zcl1, zlow_0, zlow_1, zlow_2, zlow_3, zlow_4, zfree_0, zfree_i, zfree_r, zfree_n, zfree_d, zfree_f, zfree_s, if_true, if_false, Option.bind_some, Option.toList_some, Option.toList_none, List.cons_append, List.nil_append, List.set_cons_zero, List.set_cons_succ, Bool.false_eq_true, reduceIte, zsw_c, zsw_n, Nat.reduceAdd, hM.r4, eix, g, hM.1, m1, sp_isBikeM hM hY rfl, hz, zb_f, z00]
      · rw [← i2 ⟨j, by
          by_cases hjk : j = k
          · subst hjk; rw [hz] at j3; cases j3
          · omega, j2, j3⟩]
        conv =>
          lhs
          simp only [zi213_91, zi213_91n, zi213_92, zi213_92n, zi213_93, zi213_96, zi213_98, zi213_99, zi213_100, zi213_101, zi213_102, zi213_103, zi213_105, zi213_106, zi213_107, zi213_108, zi213_109, zi213_112, zi213_115, zi213_117 (sk := []), zi213_118, zi213_121, zcl1, zlow_0, zlow_1, zlow_2, zlow_3, zlow_4, zfree_0, zfree_i, zfree_r, zfree_n, zfree_d, zfree_f, zfree_s, if_true, if_false, Option.bind_some, Option.toList_some, Option.toList_none, List.cons_append, List.nil_append, List.set_cons_zero, List.set_cons_succ, Bool.false_eq_true, reduceIte, zsw_c, zsw_n, Nat.reduceAdd, hM.r4, eix, g, hM.1, m1, sp_isBikeM hM hY rfl, hz, zb_t, z10, ix_p1]
theorem ok_who {h : zH} {n : Nat} (hJ : J h n) {x r z u : Int32} : OK E h n 115 213 [.int x, .int r, .int z, .int u] := by
  obtain ⟨y, s, v, sc, N, hJ, h1, hB⟩ := hJ
  obtain ⟨hA, th, ln, sz, it, lm, im, r1, r2, r3, r4, r5, r6⟩ := hJ.row
  have M1 := hJ.md.put 0 rfl (by omega) 0
  have w0 := hJ.md.st 0 rfl (by omega) 0
  have Y1 : MY (zpf h 73 0 (.int 0)) N := hJ.my.keep (zpf_o (by omega))
  have hy := hJ.ys
  unfold yys at hy
  have c0 : zsel 9 [9, 73] = some 73 := rfl
  have c1 : zsel 10 [10, 128] = some 128 := rfl
  have c2 : zsel 10 [10, 130] = some 130 := rfl
  have c4 : zsel 6 [6, 53] = some 53 := rfl
  have m0 : zsel 11 [11, 174] = some 174 := rfl
  have m1 : zsel 11 [11, 150] = some 150 := rfl
  have i1 := fun (H : zH) => sp_inI (E := E) (h := H) (u := u.toInt64) (v := 1) (w := 8) (x := u) (a := 1) (b := 8) rfl (by decide) (by decide)
  have h5 := hJ.wg.h5
  rcases zlt_or x (n := N 5) (by omega) with hx | ⟨w, hw, rfl⟩
  · refine ⟨(-1000001), h, zpf h 73 0 (.int 0), ?_, ?_, hJ.q h1 hB⟩
    · rcases zlt_or r (n := 8) (by omega) with hr | ⟨i, hi, rfl⟩
      · simp only [ze115, zi115_0, zi115_0n, zi115_1, zi115_4, zi115_5, zi115_8, zi115_8n, zi115_10, zi115_10n, zi115_11, zi115_12, zi115_15, zi115_15n, zi115_17, zi115_17n, zi115_19, zi115_19n, zi115_22, zi115_22n, zi115_24, zi115_24n, zi115_27, zi115_29, zi115_30, zi115_32, zi115_35, zi115_38, zi115_40 (sk := []), zcl1, zlow_0, zlow_1, zlow_2, zlow_3, zlow_4, zfree_0, zfree_i, zfree_r, zfree_n, zfree_d, zfree_f, zfree_s, if_true, if_false, Option.bind_some, Option.toList_some, Option.toList_none, List.cons_append, List.nil_append, List.set_cons_zero, List.set_cons_succ, Bool.false_eq_true, reduceIte, zsw_c, zsw_n, Nat.reduceAdd, hJ.co.r7, hJ.yn.cls, c0, sp_lifterNo hJ.yn hx, hJ.co.1, c1, sp_rowAtNo hr]
      · simp only [ze115, zi115_0, zi115_0n, zi115_1, zi115_4, zi115_5, zi115_8, zi115_8n, zi115_10, zi115_10n, zi115_11, zi115_12, zi115_15, zi115_15n, zi115_17, zi115_17n, zi115_19, zi115_19n, zi115_22, zi115_22n, zi115_24, zi115_24n, zi115_27, zi115_29, zi115_30, zi115_32, zi115_35, zi115_38, zi115_40 (sk := []), zcl1, zlow_0, zlow_1, zlow_2, zlow_3, zlow_4, zfree_0, zfree_i, zfree_r, zfree_n, zfree_d, zfree_f, zfree_s, if_true, if_false, Option.bind_some, Option.toList_some, Option.toList_none, List.cons_append, List.nil_append, List.set_cons_zero, List.set_cons_succ, Bool.false_eq_true, reduceIte, zsw_c, zsw_n, Nat.reduceAdd, hJ.co.r7, hJ.yn.cls, c0, sp_lifterNo hJ.yn hx, hJ.co.1, c1, sp_rowAt hJ.co hA hi]
    · simp only [ze213, zi213_0, zi213_0n, zi213_1, zi213_2, zi213_5, zi213_5n, zi213_6, zi213_7, zi213_8, zi213_11, zi213_14, zi213_15, zi213_18, zi213_21, zi213_23, zi213_24, zi213_25, zi213_28, zi213_31, zi213_34, zi213_36 (sk := []), zcl1, zlow_0, zlow_1, zlow_2, zlow_3, zlow_4, zfree_0, zfree_i, zfree_r, zfree_n, zfree_d, zfree_f, zfree_s, if_true, if_false, Option.bind_some, Option.toList_some, Option.toList_none, List.cons_append, List.nil_append, List.set_cons_zero, List.set_cons_succ, Bool.false_eq_true, reduceIte, zsw_c, zsw_n, Nat.reduceAdd, w0, M1.1, m0, sp_isLifterM M1 Y1 rfl, hx, zb_f, z00]
  have hW := hJ.wg.wf (i := 5) (by omega) (by omega)
  have hx : zlt (nI w) (N 5) = true := by rw [zlt_nI (by omega) (by omega)]; simp [hw]
  obtain ⟨q, e, hL⟩ := sp_lifterAt (E := E) hJ.yn h5 hw
  rcases zlt_or r (n := 8) (by omega) with hr | ⟨i, hi, rfl⟩
  · refine ⟨(-1000001), h, zpf h 73 0 (.int 0), ?_, ?_, hJ.q h1 hB⟩
    · simp only [ze115, zi115_0, zi115_0n, zi115_1, zi115_4, zi115_5, zi115_8, zi115_8n, zi115_10, zi115_10n, zi115_11, zi115_12, zi115_15, zi115_15n, zi115_17, zi115_17n, zi115_19, zi115_19n, zi115_22, zi115_22n, zi115_24, zi115_24n, zi115_27, zi115_29, zi115_30, zi115_32, zi115_35, zi115_38, zi115_40 (sk := []), zcl1, zlow_0, zlow_1, zlow_2, zlow_3, zlow_4, zfree_0, zfree_i, zfree_r, zfree_n, zfree_d, zfree_f, zfree_s, if_true, if_false, Option.bind_some, Option.toList_some, Option.toList_none, List.cons_append, List.nil_append, List.set_cons_zero, List.set_cons_succ, Bool.false_eq_true, reduceIte, zsw_c, zsw_n, Nat.reduceAdd, hJ.co.r7, hJ.yn.cls, c0, e, hJ.co.1, c1, sp_rowAtNo hr]
    · simp only [ze213, zi213_0, zi213_0n, zi213_1, zi213_2, zi213_5, zi213_5n, zi213_6, zi213_7, zi213_8, zi213_11, zi213_14, zi213_15, zi213_18, zi213_21, zi213_23, zi213_24, zi213_25, zi213_28, zi213_31, zi213_34, zi213_36 (sk := []), zcl1, zlow_0, zlow_1, zlow_2, zlow_3, zlow_4, zfree_0, zfree_i, zfree_r, zfree_n, zfree_d, zfree_f, zfree_s, if_true, if_false, Option.bind_some, Option.toList_some, Option.toList_none, List.cons_append, List.nil_append, List.set_cons_zero, List.set_cons_succ, Bool.false_eq_true, reduceIte, zsw_c, zsw_n, Nat.reduceAdd, w0, M1.1, m0, sp_isLifterM M1 Y1 rfl, hx, zb_t, z10, sp_isRow, hr, zb_f, z00]
  have h8 : zlt (nI i) 8 = true := by rw [zlt_nI (by omega) (by omega)]; simp [hi]
  rcases zbt_or u 1 8 (by omega) (by omega) with hu | ⟨nn, hn1, hn8, rfl, hu⟩
  · have hu : (decide (1 ≤ u) && decide (u ≤ 8)) = false := hu
    refine ⟨(-1000001), h, zpf h 73 0 (.int 0), ?_, ?_, hJ.q h1 hB⟩
    · simp only [ze115, zi115_0, zi115_0n, zi115_1, zi115_4, zi115_5, zi115_8, zi115_8n, zi115_10, zi115_10n, zi115_11, zi115_12, zi115_15, zi115_15n, zi115_17, zi115_17n, zi115_19, zi115_19n, zi115_22, zi115_22n, zi115_24, zi115_24n, zi115_27, zi115_29, zi115_30, zi115_32, zi115_35, zi115_38, zi115_40 (sk := []), zcl1, zlow_0, zlow_1, zlow_2, zlow_3, zlow_4, zfree_0, zfree_i, zfree_r, zfree_n, zfree_d, zfree_f, zfree_s, if_true, if_false, Option.bind_some, Option.toList_some, Option.toList_none, List.cons_append, List.nil_append, List.set_cons_zero, List.set_cons_succ, Bool.false_eq_true, reduceIte, zsw_c, zsw_n, Nat.reduceAdd, hJ.co.r7, hJ.yn.cls, c0, e, hJ.co.1, c1, sp_rowAt hJ.co hA hi, sp_within, hu, zb_f, z00]
    · simp only [ze213, zi213_0, zi213_0n, zi213_1, zi213_2, zi213_5, zi213_5n, zi213_6, zi213_7, zi213_8, zi213_11, zi213_14, zi213_15, zi213_18, zi213_21, zi213_23, zi213_24, zi213_25, zi213_28, zi213_31, zi213_34, zi213_36 (sk := []), zcl1, zlow_0, zlow_1, zlow_2, zlow_3, zlow_4, zfree_0, zfree_i, zfree_r, zfree_n, zfree_d, zfree_f, zfree_s, if_true, if_false, Option.bind_some, Option.toList_some, Option.toList_none, List.cons_append, List.nil_append, List.set_cons_zero, List.set_cons_succ, Bool.false_eq_true, reduceIte, zsw_c, zsw_n, Nat.reduceAdd, w0, M1.1, m0, sp_isLifterM M1 Y1 rfl, hx, zb_t, z10, sp_isRow, h8, i1, hu, zb_f, z00]
  have hu : (decide (1 ≤ nI nn) && decide (nI nn ≤ 8)) = true := hu
  have R := r1 i hi
  have l3 := r3 i hi
  have s40 := r6 i hi
  have preC : zcall zpp E 115 [.ref 0, .int (nI w), .int (nI i), .int z, .int (nI nn)] h = zrun zpp E 115 (41, [.ref 0, .int (nI w), .int (nI i), .int z, .int (nI nn), .ref q, .ref (34 + 2 * i), .retAddr 0, .retAddr 0], [], h) := by
    conv =>
      lhs
      simp only [ze115, zi115_0, zi115_0n, zi115_1, zi115_4, zi115_5, zi115_8, zi115_8n, zi115_10, zi115_10n, zi115_11, zi115_12, zi115_15, zi115_15n, zi115_17, zi115_17n, zi115_19, zi115_19n, zi115_22, zi115_22n, zi115_24, zi115_24n, zi115_27, zi115_29, zi115_30, zi115_32, zi115_35, zi115_38, zi115_40 (sk := []), zcl1, zlow_0, zlow_1, zlow_2, zlow_3, zlow_4, zfree_0, zfree_i, zfree_r, zfree_n, zfree_d, zfree_f, zfree_s, if_true, if_false, Option.bind_some, Option.toList_some, Option.toList_none, List.cons_append, List.nil_append, List.set_cons_zero, List.set_cons_succ, Bool.false_eq_true, reduceIte, zsw_c, zsw_n, Nat.reduceAdd, hJ.co.r7, hJ.yn.cls, c0, e, hJ.co.1, c1, sp_rowAt hJ.co hA hi, sp_within, hu, zb_t, z10]
  have preM : ∀ (H : zH) (sc2 : Nat → Int32), MdO H sc2 → MY H N → zcall zpp E 213 [.ref 73, .int (nI w), .int (nI i), .int z, .int (nI nn)] H = zrun zpp E 213 (37, [.ref 73, .int (nI w), .int (nI i), .int z, .int (nI nn), .retAddr 0, .retAddr 0, .retAddr 0, .retAddr 0, .retAddr 0, .retAddr 0], [], zpf H 73 0 (.int 0)) := by
    intro H sc2 hM hY
    have w0' := hM.st 0 rfl (by omega) 0
    have M1' := hM.put 0 rfl (by omega) 0
    have Y1' : MY (zpf H 73 0 (.int 0)) N := hY.keep (zpf_o (by omega))
    conv =>
      lhs
      simp only [ze213, zi213_0, zi213_0n, zi213_1, zi213_2, zi213_5, zi213_5n, zi213_6, zi213_7, zi213_8, zi213_11, zi213_14, zi213_15, zi213_18, zi213_21, zi213_23, zi213_24, zi213_25, zi213_28, zi213_31, zcl1, zlow_0, zlow_1, zlow_2, zlow_3, zlow_4, zfree_0, zfree_i, zfree_r, zfree_n, zfree_d, zfree_f, zfree_s, if_true, if_false, Option.bind_some, Option.toList_some, Option.toList_none, List.cons_append, List.nil_append, List.set_cons_zero, List.set_cons_succ, Bool.false_eq_true, reduceIte, zsw_c, zsw_n, Nat.reduceAdd, w0', M1'.1, m0, sp_isLifterM M1' Y1' rfl, hx, zb_t, z10, sp_isRow, h8, i1, hu]
  have e2n : (2 : Int32) * nI nn = nI (2 * nn) := pk_mul 2 nn
  have p2 : (0 : Int32) ≤ nI (2 * nn) := nI_pos' (by omega)
  cases ht : th i
  · rw [ht] at R l3
    rw [if_neg (by decide)] at l3
    have R1 : zfld [6] h (34 + 2 * i) 1 = some (.int 0) := R.2.2.1
    have C1 := hJ.c9 1
    have N1 := C1.md.put 0 rfl (by omega) 0
    have L2 : ML (zpf (zpf h 0 9 (.int 1)) 73 0 (.int 0)) lm (fun i => nI (sz i)) im := r2.pf.pf
    have g := zarr_at L2.1 hi (by omega)
    rw [l3] at g
    refine ⟨(-1000010 - 1), zpf h 0 9 (.int 1), _, ?_, ?_, hJ.f hB 1⟩
    · rw [preC]
      simp only [zi115_41, zi115_41n, zi115_43, zi115_46, zi115_49, zi115_49n, zi115_50, zi115_51, zi115_54 (sk := []), zi115_55, zi115_55n, zi115_57, zi115_58, zi115_59, zi115_61, zi115_62, zi115_65, zi115_68, zi115_68n, zi115_69, zi115_70, zi115_73 (sk := []), zcl1, zlow_0, zlow_1, zlow_2, zlow_3, zlow_4, zfree_0, zfree_i, zfree_r, zfree_n, zfree_d, zfree_f, zfree_s, if_true, if_false, Option.bind_some, Option.toList_some, Option.toList_none, List.cons_append, List.nil_append, List.set_cons_zero, List.set_cons_succ, Bool.false_eq_true, reduceIte, zsw_c, zsw_n, Nat.reduceAdd, R1, z00, hJ.co.1, c2, sp_found hJ.co]
    · rw [preM _ _ C1.md C1.my]
      simp only [zi213_37, zi213_37n, zi213_38, zi213_41, zi213_42, zi213_43, zi213_46, zi213_46n, zi213_47, zi213_48, zi213_51 (sk := []), zi213_52, zi213_53, zi213_56, zi213_57, zi213_58, zi213_59, zi213_61, zi213_62, zi213_63, zi213_64, zi213_64n, zi213_65, zi213_68, zi213_69, zi213_70, zi213_71, zi213_72, zi213_75, zi213_75n, zi213_76, zi213_77, zi213_80 (sk := []), zcl1, zlow_0, zlow_1, zlow_2, zlow_3, zlow_4, zfree_0, zfree_i, zfree_r, zfree_n, zfree_d, zfree_f, zfree_s, if_true, if_false, Option.bind_some, Option.toList_some, Option.toList_none, List.cons_append, List.nil_append, List.set_cons_zero, List.set_cons_succ, Bool.false_eq_true, reduceIte, zsw_c, zsw_n, Nat.reduceAdd, N1.r2, g, show ((0 : Int32) ≤ -1) = False by decide, N1.1, m1, sp_finding N1]
  rw [ht] at R l3
  rw [if_pos rfl] at l3
  have R1 : zfld [6] h (34 + 2 * i) 1 = some (.int 1) := R.2.2.1
  rcases spB_or (sz i) z (nI (2 * nn)) s40 with hs | ⟨a, n2, hab, rfl, e'⟩
  · have C1 := hJ.c9 2
    have N1 := C1.md.put 0 rfl (by omega) 0
    have L2 : ML (zpf (zpf h 0 9 (.int 2)) 73 0 (.int 0)) lm (fun i => nI (sz i)) im := r2.pf.pf
    have g := zarr_at L2.1 hi (by omega)
    rw [l3] at g
    have g2 := zarr_at L2.2.1 hi (by omega)
    refine ⟨(-1000010 - 2), zpf h 0 9 (.int 2), _, ?_, ?_, hJ.f hB 2⟩
    · rw [preC]
      simp only [zi115_41, zi115_41n, zi115_43, zi115_46, zi115_49, zi115_49n, zi115_50, zi115_51, zi115_54 (sk := []), zi115_55, zi115_55n, zi115_57, zi115_58, zi115_59, zi115_61, zi115_62, zi115_65, zi115_68, zi115_68n, zi115_69, zi115_70, zi115_73 (sk := []), zcl1, zlow_0, zlow_1, zlow_2, zlow_3, zlow_4, zfree_0, zfree_i, zfree_r, zfree_n, zfree_d, zfree_f, zfree_s, if_true, if_false, Option.bind_some, Option.toList_some, Option.toList_none, List.cons_append, List.nil_append, List.set_cons_zero, List.set_cons_succ, Bool.false_eq_true, reduceIte, zsw_c, zsw_n, Nat.reduceAdd, R1, z10, e2n, R.1, c4, sp_spans R, hs, zb_f, z00, hJ.co.1, c2, sp_found hJ.co]
    · rw [preM _ _ C1.md C1.my]
      by_cases k0 : z < 0
      · simp only [zi213_37, zi213_37n, zi213_38, zi213_41, zi213_42, zi213_43, zi213_46, zi213_46n, zi213_47, zi213_48, zi213_51 (sk := []), zi213_52, zi213_53, zi213_56, zi213_57, zi213_58, zi213_59, zi213_61, zi213_62, zi213_63, zi213_64, zi213_64n, zi213_65, zi213_68, zi213_69, zi213_70, zi213_71, zi213_72, zi213_75, zi213_75n, zi213_76, zi213_77, zi213_80 (sk := []), zcl1, zlow_0, zlow_1, zlow_2, zlow_3, zlow_4, zfree_0, zfree_i, zfree_r, zfree_n, zfree_d, zfree_f, zfree_s, if_true, if_false, Option.bind_some, Option.toList_some, Option.toList_none, List.cons_append, List.nil_append, List.set_cons_zero, List.set_cons_succ, Bool.false_eq_true, reduceIte, zsw_c, zsw_n, Nat.reduceAdd, N1.r2, g, zpos_012 (r5 i hi), eq_true k0, N1.1, m1, sp_finding N1]
      · simp only [zi213_37, zi213_37n, zi213_38, zi213_41, zi213_42, zi213_43, zi213_46, zi213_46n, zi213_47, zi213_48, zi213_51 (sk := []), zi213_52, zi213_53, zi213_56, zi213_57, zi213_58, zi213_59, zi213_61, zi213_62, zi213_63, zi213_64, zi213_64n, zi213_65, zi213_68, zi213_69, zi213_70, zi213_71, zi213_72, zi213_75, zi213_75n, zi213_76, zi213_77, zi213_80 (sk := []), zcl1, zlow_0, zlow_1, zlow_2, zlow_3, zlow_4, zfree_0, zfree_i, zfree_r, zfree_n, zfree_d, zfree_f, zfree_s, if_true, if_false, Option.bind_some, Option.toList_some, Option.toList_none, List.cons_append, List.nil_append, List.set_cons_zero, List.set_cons_succ, Bool.false_eq_true, reduceIte, zsw_c, zsw_n, Nat.reduceAdd, N1.r2, g, zpos_012 (r5 i hi), eq_false k0, e2n, N1.r3, g2, lsp s40 (Int32.not_lt.mp k0) p2, hs, N1.1, m1, sp_finding N1]
  rw [nI_eqP (by omega) (by omega)] at e'
  subst e'
  have hs := spB_t s40 hab
  have p0 : ¬ nI a < 0 := nI_pos (by omega)
  have preC2 : zcall zpp E 115 [.ref 0, .int (nI w), .int (nI i), .int (nI a), .int (nI nn)] h = zrun zpp E 115 (77, [.ref 0, .int (nI w), .int (nI i), .int (nI a), .int (nI nn), .ref q, .ref (34 + 2 * i), .int (nI 0), .retAddr 0], [], h) := by
    rw [preC]
    conv =>
      lhs
      simp only [zi115_41, zi115_41n, zi115_43, zi115_46, zi115_49, zi115_49n, zi115_50, zi115_51, zi115_54 (sk := []), zi115_55, zi115_55n, zi115_57, zi115_58, zi115_59, zi115_61, zi115_62, zi115_65, zi115_68, zi115_68n, zi115_69, zi115_70, zi115_73 (sk := []), zi115_74, zi115_75, zcl1, zlow_0, zlow_1, zlow_2, zlow_3, zlow_4, zfree_0, zfree_i, zfree_r, zfree_n, zfree_d, zfree_f, zfree_s, if_true, if_false, Option.bind_some, Option.toList_some, Option.toList_none, List.cons_append, List.nil_append, List.set_cons_zero, List.set_cons_succ, Bool.false_eq_true, reduceIte, zsw_c, zsw_n, Nat.reduceAdd, R1, z10, e2n, R.1, c4, sp_spans R, hs, zb_t]
    rfl
  have preM2 : ∀ (H : zH) (sc2 : Nat → Int32), MdO H sc2 → MY H N → ML H lm (fun i => nI (sz i)) im → zcall zpp E 213 [.ref 73, .int (nI w), .int (nI i), .int (nI a), .int (nI nn)] H = zrun zpp E 213 (84, [.ref 73, .int (nI w), .int (nI i), .int (nI a), .int (nI nn), .int (nI 0), .retAddr 0, .retAddr 0, .retAddr 0, .retAddr 0, .retAddr 0], [], zpf H 73 0 (.int 0)) := by
    intro H sc2 hM hY hL2
    have N1 := hM.put 0 rfl (by omega) 0
    have L2 : ML (zpf H 73 0 (.int 0)) lm (fun i => nI (sz i)) im := hL2.pf
    have g := zarr_at L2.1 hi (by omega)
    rw [l3] at g
    have g2 := zarr_at L2.2.1 hi (by omega)
    rw [preM H sc2 hM hY]
    conv =>
      lhs
      simp only [zi213_37, zi213_37n, zi213_38, zi213_41, zi213_42, zi213_43, zi213_46, zi213_46n, zi213_47, zi213_48, zi213_51 (sk := []), zi213_52, zi213_53, zi213_56, zi213_57, zi213_58, zi213_59, zi213_61, zi213_62, zi213_63, zi213_64, zi213_64n, zi213_65, zi213_68, zi213_69, zi213_70, zi213_71, zi213_72, zi213_75, zi213_75n, zi213_76, zi213_77, zi213_80 (sk := []), zi213_81, zi213_82, zcl1, zlow_0, zlow_1, zlow_2, zlow_3, zlow_4, zfree_0, zfree_i, zfree_r, zfree_n, zfree_d, zfree_f, zfree_s, if_true, if_false, Option.bind_some, Option.toList_some, Option.toList_none, List.cons_append, List.nil_append, List.set_cons_zero, List.set_cons_succ, Bool.false_eq_true, reduceIte, zsw_c, zsw_n, Nat.reduceAdd, N1.r2, g, zpos_012 (r5 i hi), eq_false p0, e2n, N1.r3, g2, lsp s40 (Int32.not_lt.mp p0) p2, hs]
    rfl
  have eI : ∀ j, j < nn → im (40 * i + (a + 2 * j)) = it i (a + 2 * j) := fun j hj => r4 i hi _ (by omega)
  have eI1 : ∀ j, j < nn → im (40 * i + (a + 2 * j + 1)) = it i (a + 2 * j + 1) := fun j hj => r4 i hi _ (by omega)
  by_cases hall : ∀ j, j < nn → zlt (it i (a + 2 * j)) (N 3) = true
  · have hbf : ∃ bf : Nat → Nat, ∀ k, k < nn → bf k < N 3 ∧ it i (a + 2 * k) = nI (bf k) := by
      have : ∀ k, ∃ b, k < nn → b < N 3 ∧ it i (a + 2 * k) = nI b := by
        intro k
        by_cases hk : k < nn
        · rcases zlt_or (it i (a + 2 * k)) (n := N 3) (by have := hW.2.2.2.1.2; omega) with hf | ⟨b, hb, eb⟩
          · rw [hall k hk] at hf; cases hf
          · exact ⟨b, fun _ => ⟨hb, eb⟩⟩
        · exact ⟨0, fun z => absurd z hk⟩
      exact ⟨fun k => Classical.choose (this k), fun k => Classical.choose_spec (this k)⟩
    obtain ⟨bf, hbf⟩ := hbf
    have eV := (whoV (E := E) (x1 := nI w) (x2 := nI i) (q := .ref q) hJ.co hJ.yn R (show a + 2 * nn ≤ 40 by omega) nn 0 (.retAddr 0) (by omega)).1 (fun j _ hj => hall j hj)
    obtain ⟨hq, eq, Cq, Sq, Gq, zq⟩ := whoK (E := E) (x1 := nI w) (x2 := nI i) (a := 34 + 2 * i) (i := a) (nn := nn) (bf := bf) hJ.ys (by omega) (by omega) (hW.kf hw).2 hbf hW 5 0 h (by omega) hJ.co hJ.img.1.2 R hJ.yc hJ.sp hL
    have fq := zq.fr (fun a e => by unfold yP at e; omega)
    have ec : zcall zpp E 115 [.ref 0, .int (nI w), .int (nI i), .int (nI a), .int (nI nn)] h = some (some (.int (nI (wsN N (N (66 + 2 * w)) bf (fun k => it i (a + 2 * k + 1)) nn 5))), zpf hq 0 9 (.int 0)) := by
      rw [preC2, eV, ← eq]
      conv =>
        lhs
        simp only [zi115_115, zi115_116, zi115_118, zi115_119, zcl1, zlow_0, zlow_1, zlow_2, zlow_3, zlow_4, zfree_0, zfree_i, zfree_r, zfree_n, zfree_d, zfree_f, zfree_s, if_true, if_false, Option.bind_some, Option.toList_some, Option.toList_none, List.cons_append, List.nil_append, List.set_cons_zero, List.set_cons_succ, Bool.false_eq_true, reduceIte, zsw_c, zsw_n, Nat.reduceAdd]
      rfl
    have Jq := (hJ.guise fq Sq Gq).c9 0
    have L0 : ML hq lm (fun i => nI (sz i)) im := r2.keep (fun a h1 h2 => fq.1 a (by omega) (by unfold yP; omega))
    have Lq : ML (zpf hq 0 9 (.int 0)) lm (fun i => nI (sz i)) im := L0.pf
    have N1 := Jq.md.put 0 rfl (by omega) 0
    have Z1 : MY (zpf (zpf hq 0 9 (.int 0)) 73 0 (.int 0)) N := Jq.my.keep (zpf_o (by omega))
    have L1 : ML (zpf (zpf hq 0 9 (.int 0)) 73 0 (.int 0)) lm (fun i => nI (sz i)) im := Lq.pf
    have eW := (whoW (E := E) (w := w) (i := a) N1 Z1 L1 hi (show a + 2 * nn ≤ 40 by omega) nn 0 (.retAddr 0) (.retAddr 0) (.retAddr 0) (.retAddr 0) (.retAddr 0) (by omega)).1 (fun j _ hj => by rw [eI j hj]; exact hall j hj)
    have v1 := N1.st 1 rfl (by omega) 0
    have N2 := N1.put 1 rfl (by omega) 0
    have Z2 : MY (zpf (zpf (zpf hq 0 9 (.int 0)) 73 0 (.int 0)) 73 1 (.int 0)) N := Z1.keep (zpf_o (by omega))
    have L2 : ML (zpf (zpf (zpf hq 0 9 (.int 0)) 73 0 (.int 0)) 73 1 (.int 0)) lm (fun i => nI (sz i)) im := L1.pf
    have eN := whoN (E := E) (w := w) (r := i) (i := a) (nn := nn) (bf := bf) N2 Z2 hW L2 hi (by omega) hw (fun k hk => by rw [eI k hk]; exact hbf k hk) 5 0 (.retAddr 0) (.retAddr 0) (.retAddr 0) (.retAddr 0) (by omega)
    have eT : ∀ kd m k d, k + m ≤ nn → wgN N kd (N (66 + 2 * w)) bf (fun k => im (40 * i + (a + 2 * k + 1))) m k d = wgN N kd (N (66 + 2 * w)) bf (fun k => it i (a + 2 * k + 1)) m k d := by
      intro kd m
      induction m with
      | zero => intro k d _; rfl
      | succ m ih =>
        intro k d hk
        show (if _ ∧ _ = im (40 * i + (a + 2 * k + 1)) then _ else _) = (if _ ∧ _ = it i (a + 2 * k + 1) then _ else _)
        have e1 := eI1 k (by omega)
        simp only [e1, ih (k + 1) (zclr d (bf k)) (by omega)]
    have eS : ∀ k, wsN N (N (66 + 2 * w)) bf (fun k => im (40 * i + (a + 2 * k + 1))) nn k = wsN N (N (66 + 2 * w)) bf (fun k => it i (a + 2 * k + 1)) nn k := by
      intro k
      induction k with
      | zero => rfl
      | succ k ih =>
        show (if _ then _ else _) = (if _ then _ else _)
        rw [ih, eT _ nn 0 _ (by omega)]
    have em : zcall zpp E 213 [.ref 73, .int (nI w), .int (nI i), .int (nI a), .int (nI nn)] (zpf hq 0 9 (.int 0)) = some (some (.int (nI (wsN N (N (66 + 2 * w)) bf (fun k => it i (a + 2 * k + 1)) nn 5))), zpf (zpf (zpf hq 0 9 (.int 0)) 73 0 (.int 0)) 73 1 (.int 0)) := by
      rw [← eS 5, ← eN, preM2 _ _ Jq.md Jq.my Lq, eW]
      conv =>
        lhs
        simp only [zi213_124, zi213_124n, zi213_125, zi213_126, zi213_129, zi213_130, zi213_132, zi213_133, zcl1, zlow_0, zlow_1, zlow_2, zlow_3, zlow_4, zfree_0, zfree_i, zfree_r, zfree_n, zfree_d, zfree_f, zfree_s, if_true, if_false, Option.bind_some, Option.toList_some, Option.toList_none, List.cons_append, List.nil_append, List.set_cons_zero, List.set_cons_succ, Bool.false_eq_true, reduceIte, zsw_c, zsw_n, Nat.reduceAdd, v1]
      rfl
    refine ⟨_, _, _, ec, em, y, s, 0, _, N, (Jq.mi 0 rfl (by omega) 0 (by omega) (by omega) (by omega) (by omega)).mi 1 rfl (by omega) 0 (by omega) (by omega) (by omega) (by omega), rfl, ?_⟩
    unfold Bd at hB ⊢
    rw [zpf_len, zpf_len, zpf_len, zpf_sl, zpf_sl, zpf_sl, zq.1.1, zq.1.2]
    omega
  · have hex : ∃ j, 0 ≤ j ∧ j < nn ∧ zlt (it i (a + 2 * j)) (N 3) = false := by
      refine Classical.byContradiction (fun hc => hall (fun j hj => ?_))
      cases hq : zlt (it i (a + 2 * j)) (N 3)
      · exact absurd ⟨j, by omega, hj, hq⟩ hc
      · rfl
    have eV := (whoV (E := E) (x1 := nI w) (x2 := nI i) (q := .ref q) hJ.co hJ.yn R (show a + 2 * nn ≤ 40 by omega) nn 0 (.retAddr 0) (by omega)).2 hex
    have L1 : ML (zpf h 73 0 (.int 0)) lm (fun i => nI (sz i)) im := r2.pf
    obtain ⟨j, j0, j1, j2⟩ := hex
    have eW := (whoW (E := E) (w := w) (i := a) M1 Y1 L1 hi (show a + 2 * nn ≤ 40 by omega) nn 0 (.retAddr 0) (.retAddr 0) (.retAddr 0) (.retAddr 0) (.retAddr 0) (by omega)).2 ⟨j, j0, j1, by rw [eI j j1]; exact j2⟩
    refine ⟨(-1000001), h, zpf h 73 0 (.int 0), ?_, ?_, hJ.q h1 hB⟩
    · rw [preC2, eV]
    · rw [preM2 _ _ hJ.md hJ.my r2, eW]
end WHO
