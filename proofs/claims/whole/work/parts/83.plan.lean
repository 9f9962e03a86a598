/-! PLANS LOOKED AT -/
def smN (P N : Nat → Nat) : Prop := ∀ i, i ≠ 6 → i ≠ 7 → i ≠ 8 → P i = N i
section SMN
variable {P N : Nat → Nat}
theorem smN.free (h : smN P N) (d b : Nat) : freeN P d b = freeN N d b := by
  unfold freeN
  rw [h 4 (by omega) (by omega) (by omega), abF_c (fun i hi => h i (by omega) (by omega) (by omega))]
theorem smN.cat (h : smN P N) (d b : Nat) : catN P d b = catN N d b := by
  unfold catN
  rw [h 4 (by omega) (by omega) (by omega), ctF_c (fun i hi => h i (by omega) (by omega) (by omega))]
theorem smN.can (h : smN P N) (kd fo d b : Nat) : canN P kd fo d b = canN N kd fo d b := by
  unfold canN
  rw [h.free, h.cat, h (9 + 2 * b) (by omega) (by omega) (by omega)]
theorem smN.sec (h : smN P N) (kd w c : Nat) : secK P kd w c = secK N kd w c := by
  unfold secK
  rw [h 1 (by omega) (by omega) (by omega), h 2 (by omega) (by omega) (by omega)]
theorem smN.lift (h : smN P N) (kd b : Nat) : smN (liftN P kd b) N := fun i h6 h7 h8 => by
  unfold liftN
  rw [if_neg h6, if_neg h7, if_neg h8]
  exact h i h6 h7 h8
theorem smN.fall (h : smN P N) (b : Nat) : smN (fallN P b) N := fun i h6 h7 h8 => by
  unfold fallN
  rw [if_neg h7, if_neg h8]
  exact h i h6 h7 h8
end SMN
/-- one told lift, if it can be -/
def psN (N P : Nat → Nat) (x : Int32) : Option (Nat → Nat) := if 0 ≤ x ∧ x.toNatClampNeg / 10 < N 5 ∧ x.toNatClampNeg % 10 < N 3 ∧ canN N (N (65 + 2 * (x.toNatClampNeg / 10))) (N (66 + 2 * (x.toNatClampNeg / 10))) (P 8) (x.toNatClampNeg % 10) = true then some (liftN P (N (65 + 2 * (x.toNatClampNeg / 10))) (x.toNatClampNeg % 10)) else none
def pgN (N : Nat → Nat) (f : Nat → Int32) : Nat → Nat → (Nat → Nat) → Nat × (Nat → Nat)
  | 0, k, P => (k, P)
  | m + 1, k, P => match psN N P (f k) with
    | some Q => pgN N f m (k + 1) Q
    | none => (k, P)
theorem z10n : ((10 : Int32) = 0) = False := by decide
theorem zdiv10 {v : Nat} (hv : v < 2 ^ 31) : nI v / 10 = nI (v / 10) := pk_div (d := 10) hv (by omega) (by omega)
theorem zrem10 {v : Nat} (hv : v < 2 ^ 31) : nI v - nI (v / 10) * 10 = nI (v % 10) := by
  have := pk_rem (d := 10) hv (by omega) (by omega)
  rw [pk_div hv (by omega) (by omega)] at this
  exact this
section PLAN
variable {E : zE} {h : zH} {n y s : Nat} {v : Int32} {sc : Nat → Int32} {N P : Nat → Nat}
theorem sp_follows {x : Int32} (hC : CO h y s v) (hs : s < 70) (hP : WF P) (hN : smN P N) (hY : YN h s P) : (psN N P x = none ∧ zcall zpp E 135 [.ref 0, .int x] h = some (some (.int 0), h)) ∨ ∃ Q h', psN N P x = some Q ∧ zcall zpp E 135 [.ref 0, .int x] h = some (some (.int 1), h') ∧ YN h' s Q ∧ WF Q ∧ smN Q N ∧ zsm (fun a => a = s) h h' := by
  have c1 : zsel 9 [9, 73] = some 73 := rfl
  have c2 : zsel 9 [9, 71] = some 71 := rfl
  have c3 : zsel 9 [9, 81] = some 81 := rfl
  have e3 : P 3 = N 3 := hN 3 (by omega) (by omega) (by omega)
  have e5 : P 5 = N 5 := hN 5 (by omega) (by omega) (by omega)
  have h5 := hP.2.2.2.2.2.1
  have h3 := hP.2.2.2.1.2
  by_cases x0 : 0 ≤ x
  · obtain ⟨w, hw, rfl⟩ := nI_of (x := x) (fun z => absurd x0 (Int32.not_le.mpr z))
    have cl := nI_clamp hw
    unfold psN
    rw [cl]
    rcases zlt_or (nI (w / 10)) (n := P 5) (by omega) with hl | ⟨j, hj, ej⟩
    · left
      have hn : ¬ w / 10 < N 5 := fun z => by
        rw [zlt_nI (by omega) (by omega), e5, decide_eq_true z] at hl
        cases hl
      refine ⟨if_neg (fun z => hn z.2.1), ?_⟩
      simp only [ze135, zi135_0, zi135_1, zi135_4, zi135_5 (sk := []), zi135_6, zi135_6n, zi135_7, zi135_10, zi135_11, zi135_13, zi135_14, zi135_17, zi135_17n, zi135_18, zi135_18n, zi135_19, zi135_19n, zi135_22, zi135_22n, zi135_23, zi135_26, zi135_27, zi135_29, zi135_30, zi135_33, zi135_36, zi135_36n, zi135_37, zi135_40, zi135_40n, zi135_41, zi135_42, zi135_44, zi135_45, zi135_48, zi135_50, zi135_53, zi135_54, zi135_57, zi135_58 (sk := []), zcl1, zlow_0, zlow_1, zlow_2, zlow_3, zlow_4, zfree_0, zfree_i, zfree_r, zfree_n, zfree_d, zfree_f, zfree_s, if_true, if_false, Option.bind_some, Option.toList_some, Option.toList_none, List.cons_append, List.nil_append, List.set_cons_zero, List.set_cons_succ, Bool.false_eq_true, reduceIte, zsw_c, zsw_n, Nat.reduceAdd, eq_true x0, hC.r8, z10n, zdiv10 hw, hY.cls, c1, sp_lifterNo hY hl]
    · rw [nI_eqP (by omega) (by omega)] at ej
      subst ej
      obtain ⟨q, e, hL⟩ := sp_lifterAt (E := E) hY h5 hj
      rcases zlt_or (nI (w % 10)) (n := P 3) (by omega) with hl | ⟨b, hb, eb⟩
      · left
        have hn : ¬ w % 10 < N 3 := fun z => by
          rw [zlt_nI (by omega) (by omega), e3, decide_eq_true z] at hl
          cases hl
        refine ⟨if_neg (fun z => hn z.2.2.1), ?_⟩
        simp only [ze135, zi135_0, zi135_1, zi135_4, zi135_5 (sk := []), zi135_6, zi135_6n, zi135_7, zi135_10, zi135_11, zi135_13, zi135_14, zi135_17, zi135_17n, zi135_18, zi135_18n, zi135_19, zi135_19n, zi135_22, zi135_22n, zi135_23, zi135_26, zi135_27, zi135_29, zi135_30, zi135_33, zi135_36, zi135_36n, zi135_37, zi135_40, zi135_40n, zi135_41, zi135_42, zi135_44, zi135_45, zi135_48, zi135_50, zi135_53, zi135_54, zi135_57, zi135_58 (sk := []), zcl1, zlow_0, zlow_1, zlow_2, zlow_3, zlow_4, zfree_0, zfree_i, zfree_r, zfree_n, zfree_d, zfree_f, zfree_s, if_true, if_false, Option.bind_some, Option.toList_some, Option.toList_none, List.cons_append, List.nil_append, List.set_cons_zero, List.set_cons_succ, Bool.false_eq_true, reduceIte, zsw_c, zsw_n, Nat.reduceAdd, eq_true x0, hC.r8, z10n, zdiv10 hw, zrem10 hw, hY.cls, c1, e, c2, sp_hasBike hY, hl, zb_f, z00]
      · rw [nI_eqP (by omega) (by omega)] at eb
        rw [eb]
        have hl : zlt (nI b) (P 3) = true := by rw [zlt_nI (by omega) (by omega)]; simp [hb]
        have hk := hP.kf hj
        have k65 : P (65 + 2 * (w / 10)) = N (65 + 2 * (w / 10)) := hN _ (by omega) (by omega) (by omega)
        have k66 : P (66 + 2 * (w / 10)) = N (66 + 2 * (w / 10)) := hN _ (by omega) (by omega) (by omega)
        have hcN := hN.can (N (65 + 2 * (w / 10))) (N (66 + 2 * (w / 10))) (P 8) b
        rw [k65, k66] at hL hk
        cases hc : canN P (N (65 + 2 * (w / 10))) (N (66 + 2 * (w / 10))) (P 8) b
        · left
          rw [hc] at hcN
          refine ⟨if_neg (fun z => by rw [← hcN] at z; cases z.2.2.2), ?_⟩
          simp only [ze135, zi135_0, zi135_1, zi135_4, zi135_5 (sk := []), zi135_6, zi135_6n, zi135_7, zi135_10, zi135_11, zi135_13, zi135_14, zi135_17, zi135_17n, zi135_18, zi135_18n, zi135_19, zi135_19n, zi135_22, zi135_22n, zi135_23, zi135_26, zi135_27, zi135_29, zi135_30, zi135_33, zi135_36, zi135_36n, zi135_37, zi135_40, zi135_40n, zi135_41, zi135_42, zi135_44, zi135_45, zi135_48, zi135_50, zi135_53, zi135_54, zi135_57, zi135_58 (sk := []), zcl1, zlow_0, zlow_1, zlow_2, zlow_3, zlow_4, zfree_0, zfree_i, zfree_r, zfree_n, zfree_d, zfree_f, zfree_s, if_true, if_false, Option.bind_some, Option.toList_some, Option.toList_none, List.cons_append, List.nil_append, List.set_cons_zero, List.set_cons_succ, Bool.false_eq_true, reduceIte, zsw_c, zsw_n, Nat.reduceAdd, eq_true x0, hC.r8, z10n, zdiv10 hw, zrem10 hw, eb, hY.cls, c1, e, c2, sp_hasBike hY, hl, zb_t, z10, c3, sp_raiseNo hP hY hL.2 hk.1 hk.2 hb hc, qnn, z00]
        · right
          rw [hc] at hcN
          obtain ⟨h', er, Yr, zr⟩ := sp_raise (E := E) hP hY (by omega) hL.2 (by have := hL.1; omega) hk.1 hk.2 hb hc
          have hsl := secK_lt (kd := N (65 + 2 * (w / 10))) hP (hP.bk hb).1.2 (catN_le hP.2.2.2.2.1 (d := P 8) (b := b))
          refine ⟨_, h', if_pos ⟨x0, by omega, by omega, hcN.symm⟩, ?_, Yr, hP.lift hb, hN.lift _ b, zr⟩
          simp only [ze135, zi135_0, zi135_1, zi135_4, zi135_5 (sk := []), zi135_6, zi135_6n, zi135_7, zi135_10, zi135_11, zi135_13, zi135_14, zi135_17, zi135_17n, zi135_18, zi135_18n, zi135_19, zi135_19n, zi135_22, zi135_22n, zi135_23, zi135_26, zi135_27, zi135_29, zi135_30, zi135_33, zi135_36, zi135_36n, zi135_37, zi135_40, zi135_40n, zi135_41, zi135_42, zi135_44, zi135_45, zi135_48, zi135_50, zi135_53, zi135_54, zi135_57, zi135_58 (sk := []), zcl1, zlow_0, zlow_1, zlow_2, zlow_3, zlow_4, zfree_0, zfree_i, zfree_r, zfree_n, zfree_d, zfree_f, zfree_s, if_true, if_false, Option.bind_some, Option.toList_some, Option.toList_none, List.cons_append, List.nil_append, List.set_cons_zero, List.set_cons_succ, Bool.false_eq_true, reduceIte, zsw_c, zsw_n, Nat.reduceAdd, eq_true x0, hC.r8, z10n, zdiv10 hw, zrem10 hw, eb, hY.cls, c1, e, c2, sp_hasBike hY, hl, zb_t, z10, c3, er, qnb _ hsl]
  · left
    refine ⟨if_neg (fun z => x0 z.1), ?_⟩
    simp only [ze135, zi135_0, zi135_1, zi135_4, zi135_5 (sk := []), zi135_6, zi135_6n, zi135_7, zi135_10, zi135_11, zi135_13, zi135_14, zi135_17, zi135_17n, zi135_18, zi135_18n, zi135_19, zi135_19n, zi135_22, zi135_22n, zi135_23, zi135_26, zi135_27, zi135_29, zi135_30, zi135_33, zi135_36, zi135_36n, zi135_37, zi135_40, zi135_40n, zi135_41, zi135_42, zi135_44, zi135_45, zi135_48, zi135_50, zi135_53, zi135_54, zi135_57, zi135_58 (sk := []), zcl1, zlow_0, zlow_1, zlow_2, zlow_3, zlow_4, zfree_0, zfree_i, zfree_r, zfree_n, zfree_d, zfree_f, zfree_s, if_true, if_false, Option.bind_some, Option.toList_some, Option.toList_none, List.cons_append, List.nil_append, List.set_cons_zero, List.set_cons_succ, Bool.false_eq_true, reduceIte, zsw_c, zsw_n, Nat.reduceAdd, eq_false x0, z00]
theorem planC {a i nn : Nat} {x th ln sz k4 : Int32} {it : Nat → Int32} (hs : s < 34 ∧ 16 ≤ s) (ha : 34 ≤ a) (hi : i + nn ≤ 40) : ∀ (m k : Nat) (P : Nat → Nat) (h : zH), k + m = nn → CO h y s v → RW h a th ln sz it → WF P → smN P N → YN h s P → ∃ h', zrun zpp E 114 (92, [.ref 0, .int x, .int (nI i), .int (nI nn), .int k4, .ref a, .int (nI k)], [], h) = zrun zpp E 114 (121, [.ref 0, .int x, .int (nI i), .int (nI nn), .int k4, .ref a, .int (nI (pgN N (fun j => it (i + j)) m k P).1)], [], h') ∧ YN h' s (pgN N (fun j => it (i + j)) m k P).2 ∧ zsm (fun b => b = s) h h' := by
  have c1 : zsel 10 [10, 135] = some 135 := rfl
  intro m
  induction m with
  | zero =>
    intro k P h hk hC hR hP hN hY
    refine ⟨h, ?_, hY, zsm.rf h⟩
    conv =>
      lhs
      simp only [zi114_92, zi114_94, zcl1, zlow_0, zlow_1, zlow_2, zlow_3, zlow_4, zfree_0, zfree_i, zfree_r, zfree_n, zfree_d, zfree_f, zfree_s, if_true, if_false, Option.bind_some, Option.toList_some, Option.toList_none, List.cons_append, List.nil_append, List.set_cons_zero, List.set_cons_succ, Bool.false_eq_true, reduceIte, zsw_c, zsw_n, Nat.reduceAdd]
    rw [zi114_95, if_pos (by rw [nI_leP (by omega) (by omega)]; omega)]
    rfl
  | succ m ih =>
    intro k P h hk hC hR hP hN hY
    have hd : zrun zpp E 114 (92, [.ref 0, .int x, .int (nI i), .int (nI nn), .int k4, .ref a, .int (nI k)], [], h) = zrun zpp E 114 (98, [.ref 0, .int x, .int (nI i), .int (nI nn), .int k4, .ref a, .int (nI k)], [], h) := by
      conv =>
        lhs
        simp only [zi114_92, zi114_94, zcl1, zlow_0, zlow_1, zlow_2, zlow_3, zlow_4, zfree_0, zfree_i, zfree_r, zfree_n, zfree_d, zfree_f, zfree_s, if_true, if_false, Option.bind_some, Option.toList_some, Option.toList_none, List.cons_append, List.nil_append, List.set_cons_zero, List.set_cons_succ, Bool.false_eq_true, reduceIte, zsw_c, zsw_n, Nat.reduceAdd]
      rw [zi114_95, if_neg (by rw [nI_leP (by omega) (by omega)]; omega)]
    have g := zarr_at (j := i + k) hR.2.2.2.2.2 (by omega) (by omega)
    rcases sp_follows (E := E) (x := it (i + k)) hC (by omega) hP hN hY with ⟨e, ec⟩ | ⟨Q, h1, e, ec, Y1, W1, N1, z1⟩
    · have ep : pgN N (fun j => it (i + j)) (m + 1) k P = (k, P) := by
        show (match psN N P (it (i + k)) with | some Q => _ | none => _) = _
        rw [e]
      rw [ep]
      refine ⟨h, ?_, hY, zsm.rf h⟩
      rw [hd]
      conv =>
        lhs
        simp only [zi114_98, zi114_98n, zi114_99, zi114_99n, zi114_101, zi114_104, zi114_105, zi114_107, zi114_108, zi114_109, zi114_112, zcl1, zlow_0, zlow_1, zlow_2, zlow_3, zlow_4, zfree_0, zfree_i, zfree_r, zfree_n, zfree_d, zfree_f, zfree_s, if_true, if_false, Option.bind_some, Option.toList_some, Option.toList_none, List.cons_append, List.nil_append, List.set_cons_zero, List.set_cons_succ, Bool.false_eq_true, reduceIte, zsw_c, zsw_n, Nat.reduceAdd, hR.2.1, nI_add, g, hC.1, c1, ec, z00]
    · have ep : pgN N (fun j => it (i + j)) (m + 1) k P = pgN N (fun j => it (i + j)) m (k + 1) Q := by
        show (match psN N P (it (i + k)) with | some Q => _ | none => _) = _
        rw [e]
      rw [ep]
      obtain ⟨h2, e2, Y2, z2⟩ := ih (k + 1) Q h1 (by omega) (hC.keep (z1.2 0 (by omega))) (hR.keep (z1.2 _ (by omega)) (z1.2 _ (by omega))) W1 N1 Y1
      refine ⟨h2, ?_, Y2, z1.tr z2⟩
      rw [← e2, hd]
      conv =>
        lhs
        simp only [zi114_98, zi114_98n, zi114_99, zi114_99n, zi114_101, zi114_104, zi114_105, zi114_107, zi114_108, zi114_109, zi114_112, zi114_115, zi114_118, zcl1, zlow_0, zlow_1, zlow_2, zlow_3, zlow_4, zfree_0, zfree_i, zfree_r, zfree_n, zfree_d, zfree_f, zfree_s, if_true, if_false, Option.bind_some, Option.toList_some, Option.toList_none, List.cons_append, List.nil_append, List.set_cons_zero, List.set_cons_succ, Bool.false_eq_true, reduceIte, zsw_c, zsw_n, Nat.reduceAdd, hR.2.1, nI_add, g, hC.1, c1, ec, z10, ix_p1]
theorem planM {r i nn : Nat} {k4 : Int32} {lm mn im : Nat → Int32} (hM : MdO h sc) (hY : MY h N) (hW : WF N) (hL : ML h lm mn im) (hr : r < 8) (hi : i + nn ≤ 40) : ∀ (m k a c : Nat) (P : Nat → Nat) (v11 v12 v13 : Value), k + m = nn → WF P → smN P N → P 6 = N 6 + a → P 7 = N 7 + c → ∃ (a' c' : Nat) (d' g' kk v11' v12' v13' : Value), zrun zpp E 212 (120, [.ref 73, .int (nI r), .int (nI i), .int (nI nn), .int k4, .int (nI (P 8)), .int (nI a), .int (nI c), .int (nI k), .int 1, .int (nI k), v11, v12, v13], [], h) = zrun zpp E 212 (279, [.ref 73, .int (nI r), .int (nI i), .int (nI nn), .int k4, d', .int (nI a'), .int (nI c'), .int (nI (pgN N (fun j => im (40 * r + (i + j))) m k P).1), g', kk, v11', v12', v13'], [], h) ∧ (pgN N (fun j => im (40 * r + (i + j))) m k P).2 6 = N 6 + a' ∧ (pgN N (fun j => im (40 * r + (i + j))) m k P).2 7 = N 7 + c' := by
  have h5 := hW.2.2.2.2.2.1
  have h3 := hW.2.2.2.1.2
  have m1 : zsel 11 [11, 174] = some 174 := rfl
  have m2 : zsel 11 [11, 173] = some 173 := rfl
  have m3 : zsel 11 [11, 179] = some 179 := rfl
  have m4 : zsel 11 [11, 180] = some 180 := rfl
  have m5 : zsel 11 [11, 186] = some 186 := rfl
  have m6 : zsel 11 [11, 187] = some 187 := rfl
  have m7 : zsel 11 [11, 188] = some 188 := rfl
  intro m
  induction m with
  | zero =>
    intro k a c P v11 v12 v13 hk hP hN e6 e7
    refine ⟨a, c, .int (nI (P 8)), .int 1, .int (nI k), v11, v12, v13, ?_, e6, e7⟩
    conv =>
      lhs
      simp only [zi212_120, zi212_122, zcl1, zlow_0, zlow_1, zlow_2, zlow_3, zlow_4, zfree_0, zfree_i, zfree_r, zfree_n, zfree_d, zfree_f, zfree_s, if_true, if_false, Option.bind_some, Option.toList_some, Option.toList_none, List.cons_append, List.nil_append, List.set_cons_zero, List.set_cons_succ, Bool.false_eq_true, reduceIte, zsw_c, zsw_n, Nat.reduceAdd]
    rw [zi212_123, if_pos (by rw [nI_leP (by omega) (by omega)]; omega)]
    rfl
  | succ m ih =>
    intro k a c P v11 v12 v13 hk hP hN e6 e7
    have g := zarr_at (j := 40 * r + i + k) hL.2.2 (by omega) (by omega)
    rw [show 40 * r + i + k = 40 * r + (i + k) by omega] at g
    have eix : (40 : Int32) * nI r + nI i + nI k = nI (40 * r + (i + k)) := by rw [ix_40, nI_add, show 40 * r + i + k = 40 * r + (i + k) by omega]
    have hd : zrun zpp E 212 (120, [.ref 73, .int (nI r), .int (nI i), .int (nI nn), .int k4, .int (nI (P 8)), .int (nI a), .int (nI c), .int (nI k), .int 1, .int (nI k), v11, v12, v13], [], h) = zrun zpp E 212 (161, [.ref 73, .int (nI r), .int (nI i), .int (nI nn), .int k4, .int (nI (P 8)), .int (nI a), .int (nI c), .int (nI k), .int 1, .int (nI k), .int (im (40 * r + (i + k))), .int (im (40 * r + (i + k)) / 10), .int (im (40 * r + (i + k)) - im (40 * r + (i + k)) / 10 * 10)], [], h) := by
      conv =>
        lhs
        simp only [zi212_120, zi212_122, zcl1, zlow_0, zlow_1, zlow_2, zlow_3, zlow_4, zfree_0, zfree_i, zfree_r, zfree_n, zfree_d, zfree_f, zfree_s, if_true, if_false, Option.bind_some, Option.toList_some, Option.toList_none, List.cons_append, List.nil_append, List.set_cons_zero, List.set_cons_succ, Bool.false_eq_true, reduceIte, zsw_c, zsw_n, Nat.reduceAdd]
      rw [zi212_123, if_neg (by rw [nI_leP (by omega) (by omega)]; omega)]
      conv =>
        lhs
        simp only [zi212_126, zi212_128, zi212_131, zi212_131n, zi212_132, zi212_135, zi212_137, zi212_138, zi212_139, zi212_140, zi212_141, zi212_143, zi212_144, zi212_145, zi212_147, zi212_149, zi212_151, zi212_152, zi212_154, zi212_156, zi212_158, zi212_159, zcl1, zlow_0, zlow_1, zlow_2, zlow_3, zlow_4, zfree_0, zfree_i, zfree_r, zfree_n, zfree_d, zfree_f, zfree_s, if_true, if_false, Option.bind_some, Option.toList_some, Option.toList_none, List.cons_append, List.nil_append, List.set_cons_zero, List.set_cons_succ, Bool.false_eq_true, reduceIte, zsw_c, zsw_n, Nat.reduceAdd, z10, hM.r4, eix, g, z10n]
    -- a lift that can not be
    have no : psN N P (im (40 * r + (i + k))) = none → zrun zpp E 212 (161, [.ref 73, .int (nI r), .int (nI i), .int (nI nn), .int k4, .int (nI (P 8)), .int (nI a), .int (nI c), .int (nI k), .int 1, .int (nI k), .int (im (40 * r + (i + k))), .int (im (40 * r + (i + k)) / 10), .int (im (40 * r + (i + k)) - im (40 * r + (i + k)) / 10 * 10)], [], h) = zrun zpp E 212 (213, [.ref 73, .int (nI r), .int (nI i), .int (nI nn), .int k4, .int (nI (P 8)), .int (nI a), .int (nI c), .int (nI k), .int 1, .int (nI k), .int (im (40 * r + (i + k))), .int (im (40 * r + (i + k)) / 10), .int (im (40 * r + (i + k)) - im (40 * r + (i + k)) / 10 * 10)], [], h) → ∃ (a' c' : Nat) (d' g' kk v11' v12' v13' : Value), zrun zpp E 212 (120, [.ref 73, .int (nI r), .int (nI i), .int (nI nn), .int k4, .int (nI (P 8)), .int (nI a), .int (nI c), .int (nI k), .int 1, .int (nI k), v11, v12, v13], [], h) = zrun zpp E 212 (279, [.ref 73, .int (nI r), .int (nI i), .int (nI nn), .int k4, d', .int (nI a'), .int (nI c'), .int (nI (pgN N (fun j => im (40 * r + (i + j))) (m + 1) k P).1), g', kk, v11', v12', v13'], [], h) ∧ (pgN N (fun j => im (40 * r + (i + j))) (m + 1) k P).2 6 = N 6 + a' ∧ (pgN N (fun j => im (40 * r + (i + j))) (m + 1) k P).2 7 = N 7 + c' := by
      intro e er
      have ep : pgN N (fun j => im (40 * r + (i + j))) (m + 1) k P = (k, P) := by
        show (match psN N P (im (40 * r + (i + k))) with | some Q => _ | none => _) = _
        rw [e]
      rw [ep]
      refine ⟨a, c, .int (nI (P 8)), .int 0, .int (nI (k + 1)), .int (im (40 * r + (i + k))), .int (im (40 * r + (i + k)) / 10), .int (im (40 * r + (i + k)) - im (40 * r + (i + k)) / 10 * 10), ?_, e6, e7⟩
      rw [hd, er]
      conv =>
        lhs
        simp only [zi212_213, zi212_214, zi212_216, zi212_218, zi212_273, zi212_276, zcl1, zlow_0, zlow_1, zlow_2, zlow_3, zlow_4, zfree_0, zfree_i, zfree_r, zfree_n, zfree_d, zfree_f, zfree_s, if_true, if_false, Option.bind_some, Option.toList_some, Option.toList_none, List.cons_append, List.nil_append, List.set_cons_zero, List.set_cons_succ, Bool.false_eq_true, reduceIte, zsw_c, zsw_n, Nat.reduceAdd, z00, ix_p1]
      conv =>
        lhs
        simp only [zi212_120, zi212_122, zcl1, zlow_0, zlow_1, zlow_2, zlow_3, zlow_4, zfree_0, zfree_i, zfree_r, zfree_n, zfree_d, zfree_f, zfree_s, if_true, if_false, Option.bind_some, Option.toList_some, Option.toList_none, List.cons_append, List.nil_append, List.set_cons_zero, List.set_cons_succ, Bool.false_eq_true, reduceIte, zsw_c, zsw_n, Nat.reduceAdd]
      rw [zi212_123]
      by_cases hkn : nn ≤ k + 1
      · rw [if_pos (by rw [nI_leP (by omega) (by omega)]; exact hkn)]
      · rw [if_neg (by rw [nI_leP (by omega) (by omega)]; exact hkn)]
        conv =>
          lhs
          simp only [zi212_126, zi212_128, zcl1, zlow_0, zlow_1, zlow_2, zlow_3, zlow_4, zfree_0, zfree_i, zfree_r, zfree_n, zfree_d, zfree_f, zfree_s, if_true, if_false, Option.bind_some, Option.toList_some, Option.toList_none, List.cons_append, List.nil_append, List.set_cons_zero, List.set_cons_succ, Bool.false_eq_true, reduceIte, zsw_c, zsw_n, Nat.reduceAdd, z00]
    have m15 : ∀ x : Int32, (x < 0) = ¬ 0 ≤ x := fun x => propext Int32.not_le.symm
    by_cases x0 : 0 ≤ im (40 * r + (i + k))
    · obtain ⟨w, hw, ew⟩ := nI_of (x := im (40 * r + (i + k))) (fun z => absurd x0 (Int32.not_le.mpr z))
      rw [ew] at hd no x0
      have cl := nI_clamp hw
      rw [zdiv10 hw, zrem10 hw] at hd no
      rcases zlt_or (nI (w / 10)) (n := N 5) (by omega) with hl | ⟨j, hj, ej⟩
      · refine no ?_ ?_
        · unfold psN
          rw [cl]
          exact if_neg (fun z => by rw [zlt_nI (by omega) (by omega), decide_eq_true z.2.1] at hl; cases hl)
        · conv =>
            lhs
            simp only [zi212_161, zi212_163, zi212_166, zi212_166n, zi212_167, zi212_169, zi212_170, zi212_173, zi212_176, zi212_176n, zi212_177, zi212_179, zi212_180, zi212_183, zi212_186, zi212_186n, zi212_187, zi212_187n, zi212_188, zi212_190, zi212_193, zi212_193n, zi212_194, zi212_196, zi212_199, zi212_201, zi212_203, zi212_206, zcl1, zlow_0, zlow_1, zlow_2, zlow_3, zlow_4, zfree_0, zfree_i, zfree_r, zfree_n, zfree_d, zfree_f, zfree_s, if_true, if_false, Option.bind_some, Option.toList_some, Option.toList_none, List.cons_append, List.nil_append, List.set_cons_zero, List.set_cons_succ, Bool.false_eq_true, reduceIte, zsw_c, zsw_n, Nat.reduceAdd, m15, eq_true x0, not_true_eq_false, hM.1, m1, sp_isLifterM hM hY rfl, hl, zb_f, z00]
      rw [nI_eqP (by omega) (by omega)] at ej
      subst ej
      have hl1 : zlt (nI (w / 10)) (N 5) = true := by rw [zlt_nI (by omega) (by omega)]; simp [hj]
      rcases zlt_or (nI (w % 10)) (n := N 3) (by omega) with hl | ⟨b, hb, eb⟩
      · refine no ?_ ?_
        · unfold psN
          rw [cl]
          exact if_neg (fun z => by rw [zlt_nI (by omega) (by omega), decide_eq_true z.2.2.1] at hl; cases hl)
        · conv =>
            lhs
            simp only [zi212_161, zi212_163, zi212_166, zi212_166n, zi212_167, zi212_169, zi212_170, zi212_173, zi212_176, zi212_176n, zi212_177, zi212_179, zi212_180, zi212_183, zi212_186, zi212_186n, zi212_187, zi212_187n, zi212_188, zi212_190, zi212_193, zi212_193n, zi212_194, zi212_196, zi212_199, zi212_201, zi212_203, zi212_206, zcl1, zlow_0, zlow_1, zlow_2, zlow_3, zlow_4, zfree_0, zfree_i, zfree_r, zfree_n, zfree_d, zfree_f, zfree_s, if_true, if_false, Option.bind_some, Option.toList_some, Option.toList_none, List.cons_append, List.nil_append, List.set_cons_zero, List.set_cons_succ, Bool.false_eq_true, reduceIte, zsw_c, zsw_n, Nat.reduceAdd, m15, eq_true x0, not_true_eq_false, hM.1, m1, sp_isLifterM hM hY rfl, hl1, zb_t, z10, m2, sp_isBikeM hM hY rfl, hl, zb_f, z00]
      rw [nI_eqP (by omega) (by omega)] at eb
      have hl2 : zlt (nI (w % 10)) (N 3) = true := by rw [zlt_nI (by omega) (by omega)]; simp [eb, hb]
      have hb' : w % 10 < N 3 := by omega
      have hk' := hW.kf hj
      have hd8 := hP.d8
      cases hc : canN N (N (65 + 2 * (w / 10))) (N (66 + 2 * (w / 10))) (P 8) (w % 10)
      · refine no ?_ ?_
        · unfold psN
          rw [cl]
          exact if_neg (fun z => by rw [hc] at z; cases z.2.2.2)
        · conv =>
            lhs
            simp only [zi212_161, zi212_163, zi212_166, zi212_166n, zi212_167, zi212_169, zi212_170, zi212_173, zi212_176, zi212_176n, zi212_177, zi212_179, zi212_180, zi212_183, zi212_186, zi212_186n, zi212_187, zi212_187n, zi212_188, zi212_190, zi212_193, zi212_193n, zi212_194, zi212_196, zi212_199, zi212_201, zi212_203, zi212_206, zcl1, zlow_0, zlow_1, zlow_2, zlow_3, zlow_4, zfree_0, zfree_i, zfree_r, zfree_n, zfree_d, zfree_f, zfree_s, if_true, if_false, Option.bind_some, Option.toList_some, Option.toList_none, List.cons_append, List.nil_append, List.set_cons_zero, List.set_cons_succ, Bool.false_eq_true, reduceIte, zsw_c, zsw_n, Nat.reduceAdd, m15, eq_true x0, not_true_eq_false, hM.1, m1, sp_isLifterM hM hY rfl, hl1, zb_t, z10, m2, sp_isBikeM hM hY rfl, hl2, m3, m4, m5, sp_kindOf hM hY (show w / 10 < 4 by omega), sp_forceOf hM hY (show w / 10 < 4 by omega), sp_can hM hY hW hd8 hb' hk'.1 hk'.2, hc, zb_f, z00]
      have es : psN N P (nI w) = some (liftN P (N (65 + 2 * (w / 10))) (w % 10)) := by
        unfold psN
        rw [cl]
        exact if_pos ⟨x0, hj, hb', hc⟩
      have ep : pgN N (fun j => im (40 * r + (i + j))) (m + 1) k P = pgN N (fun j => im (40 * r + (i + j))) m (k + 1) (liftN P (N (65 + 2 * (w / 10))) (w % 10)) := by
        show (match psN N P (im (40 * r + (i + k))) with | some Q => _ | none => _) = _
        rw [ew, es]
      rw [ep]
      have s3 : P 3 = N 3 := hN 3 (by omega) (by omega) (by omega)
      have l8 : (liftN P (N (65 + 2 * (w / 10))) (w % 10)) 8 = zclr (P 8) (w % 10) := rfl
      have l6 : (liftN P (N (65 + 2 * (w / 10))) (w % 10)) 6 = N 6 + (a + secK N (N (65 + 2 * (w / 10))) (N (9 + 2 * (w % 10))) (catN N (P 8) (w % 10))) := by
        show P 6 + secK P _ (P (9 + 2 * (w % 10))) (catN P (P 8) (w % 10)) = _
        rw [hN.sec, hN.cat, hN (9 + 2 * (w % 10)) (by omega) (by omega) (by omega), e6, Nat.add_assoc]
      have l7 : (liftN P (N (65 + 2 * (w / 10))) (w % 10)) 7 = N 7 + (c + falK (N (65 + 2 * (w / 10))) (catN N (P 8) (w % 10))) := by
        show P 7 + falK _ (catN P (P 8) (w % 10)) = _
        rw [hN.cat, e7, Nat.add_assoc]
      obtain ⟨a', c', d', g', kk, u11, u12, u13, e1, q6, q7⟩ := ih (k + 1) _ _ (liftN P (N (65 + 2 * (w / 10))) (w % 10)) (.int (nI w)) (.int (nI (w / 10))) (.int (nI (w % 10))) (by omega) (hP.lift (by rw [s3]; exact hb')) (hN.lift _ _) l6 l7
      refine ⟨a', c', d', g', kk, u11, u12, u13, ?_, q6, q7⟩
      rw [← e1, hd, l8]
      have e2 : zrun zpp E 212 (161, [.ref 73, .int (nI r), .int (nI i), .int (nI nn), .int k4, .int (nI (P 8)), .int (nI a), .int (nI c), .int (nI k), .int 1, .int (nI k), .int (nI w), .int (nI (w / 10)), .int (nI (w % 10))], [], h) = zrun zpp E 212 (221, [.ref 73, .int (nI r), .int (nI i), .int (nI nn), .int k4, .int (nI (P 8)), .int (nI a), .int (nI c), .int (nI k), .int 1, .int (nI k), .int (nI w), .int (nI (w / 10)), .int (nI (w % 10))], [], h) := by
        conv =>
          lhs
          simp only [zi212_161, zi212_163, zi212_166, zi212_166n, zi212_167, zi212_169, zi212_170, zi212_173, zi212_176, zi212_176n, zi212_177, zi212_179, zi212_180, zi212_183, zi212_186, zi212_186n, zi212_187, zi212_187n, zi212_188, zi212_190, zi212_193, zi212_193n, zi212_194, zi212_196, zi212_199, zi212_201, zi212_203, zi212_206, zi212_209, zi212_210, zi212_213, zi212_214, zi212_216, zi212_218, zcl1, zlow_0, zlow_1, zlow_2, zlow_3, zlow_4, zfree_0, zfree_i, zfree_r, zfree_n, zfree_d, zfree_f, zfree_s, if_true, if_false, Option.bind_some, Option.toList_some, Option.toList_none, List.cons_append, List.nil_append, List.set_cons_zero, List.set_cons_succ, Bool.false_eq_true, reduceIte, zsw_c, zsw_n, Nat.reduceAdd, m15, eq_true x0, not_true_eq_false, hM.1, m1, sp_isLifterM hM hY rfl, hl1, zb_t, z10, m2, sp_isBikeM hM hY rfl, hl2, m3, m4, m5, sp_kindOf hM hY (show w / 10 < 4 by omega), sp_forceOf hM hY (show w / 10 < 4 by omega), sp_can hM hY hW hd8 hb' hk'.1 hk'.2, hc]
      rw [e2]
      conv =>
        lhs
        simp only [zi212_221, zi212_223, zi212_223n, zi212_224, zi212_224n, zi212_225, zi212_227, zi212_230, zi212_232, zi212_234, zi212_237, zi212_238, zi212_240, zi212_242, zi212_242n, zi212_243, zi212_243n, zi212_244, zi212_246, zi212_249, zi212_251, zi212_253, zi212_256, zi212_257, zi212_259, zi212_261, zi212_262, zi212_264, zi212_265, zi212_266, zi212_267, zi212_268, zi212_270, zi212_273, zi212_276, zcl1, zlow_0, zlow_1, zlow_2, zlow_3, zlow_4, zfree_0, zfree_i, zfree_r, zfree_n, zfree_d, zfree_f, zfree_s, if_true, if_false, Option.bind_some, Option.toList_some, Option.toList_none, List.cons_append, List.nil_append, List.set_cons_zero, List.set_cons_succ, Bool.false_eq_true, reduceIte, zsw_c, zsw_n, Nat.reduceAdd, hM.1, m3, m6, m7, sp_kindOf hM hY (show w / 10 < 4 by omega), sp_takesBy hM hY hW hd8 hb' hk'.1, sp_fallsBy hM hY hW hd8 hb' hk'.1, nI_add, (zclr_k _ hd8 _ (show w % 10 < 8 by omega)).1, ix_p1]
    · refine no ?_ ?_
      · unfold psN
        exact if_neg (fun z => x0 z.1)
      · conv =>
          lhs
          simp only [zi212_161, zi212_163, zi212_166, zi212_166n, zi212_167, zi212_169, zi212_170, zi212_173, zi212_176, zi212_176n, zi212_177, zi212_179, zi212_180, zi212_183, zi212_186, zi212_186n, zi212_187, zi212_187n, zi212_188, zi212_190, zi212_193, zi212_193n, zi212_194, zi212_196, zi212_199, zi212_201, zi212_203, zi212_206, zcl1, zlow_0, zlow_1, zlow_2, zlow_3, zlow_4, zfree_0, zfree_i, zfree_r, zfree_n, zfree_d, zfree_f, zfree_s, if_true, if_false, Option.bind_some, Option.toList_some, Option.toList_none, List.cons_append, List.nil_append, List.set_cons_zero, List.set_cons_succ, Bool.false_eq_true, reduceIte, zsw_c, zsw_n, Nat.reduceAdd, m15, eq_false x0, not_false_eq_true]

theorem sp_spent0 {Q : Nat → Nat} {a : Nat} (hC : CO h y s v) (hY : YN h y N) (hS : YN h s Q) (e6 : Q 6 = N 6 + a) : zcall zpp E 133 [.ref 0, .int 0] h = some (some (.int (nI a)), h) := by
  have f := hS.f16
  rw [e6] at f
  simp only [ze133, zi133_0, zi133_1, zi133_4, zi133_4n, zi133_5, zi133_8, zi133_11, zi133_11n, zi133_12, zi133_15, zi133_18, zi133_19, zi133_22, zi133_22n, zi133_23, zi133_26, zi133_29, zi133_29n, zi133_30, zi133_33, zi133_36, zi133_37 (sk := []), zcl1, zlow_0, zlow_1, zlow_2, zlow_3, zlow_4, zfree_0, zfree_i, zfree_r, zfree_n, zfree_d, zfree_f, zfree_s, if_true, if_false, Option.bind_some, Option.toList_some, Option.toList_none, List.cons_append, List.nil_append, List.set_cons_zero, List.set_cons_succ, Bool.false_eq_true, reduceIte, zsw_c, zsw_n, Nat.reduceAdd, z00, hC.r8, hC.r7, f, hY.f16, pk_sub (show N 6 ≤ N 6 + a by omega), Nat.add_sub_cancel_left]
theorem sp_spent1 {Q : Nat → Nat} {c : Nat} (hC : CO h y s v) (hY : YN h y N) (hS : YN h s Q) (e7 : Q 7 = N 7 + c) : zcall zpp E 133 [.ref 0, .int 1] h = some (some (.int (nI c)), h) := by
  have f := hS.f17
  rw [e7] at f
  simp only [ze133, zi133_0, zi133_1, zi133_4, zi133_4n, zi133_5, zi133_8, zi133_11, zi133_11n, zi133_12, zi133_15, zi133_18, zi133_19, zi133_22, zi133_22n, zi133_23, zi133_26, zi133_29, zi133_29n, zi133_30, zi133_33, zi133_36, zi133_37 (sk := []), zcl1, zlow_0, zlow_1, zlow_2, zlow_3, zlow_4, zfree_0, zfree_i, zfree_r, zfree_n, zfree_d, zfree_f, zfree_s, if_true, if_false, Option.bind_some, Option.toList_some, Option.toList_none, List.cons_append, List.nil_append, List.set_cons_zero, List.set_cons_succ, Bool.false_eq_true, reduceIte, zsw_c, zsw_n, Nat.reduceAdd, z10, hC.r8, hC.r7, f, hY.f17, pk_sub (show N 7 ≤ N 7 + c by omega), Nat.add_sub_cancel_left]
theorem ok_plan (hJ : J h n) {x k z w : Int32} : OK E h n 114 212 [.int x, .int k, .int z, .int w] := by
  obtain ⟨y, s, v, sc, N, hJ, h1, hB⟩ := hJ
  obtain ⟨hA, th, ln, sz, it, lm, im, r1, r2, r3, r4, r5, r6⟩ := hJ.row
  have M1 := hJ.md.put 0 rfl (by omega) 0
  have w0 := hJ.md.st 0 rfl (by omega) 0
  have Y1 : MY (zpf h 73 0 (.int 0)) N := hJ.my.keep (zpf_o (by omega))
  have hy := hJ.ys
  unfold yys at hy
  have c0 : zsel 9 [9, 70] = some 70 := rfl
  have c1 : zsel 10 [10, 128] = some 128 := rfl
  have c2 : zsel 10 [10, 130] = some 130 := rfl
  have c3 : zsel 10 [10, 131] = some 131 := rfl
  have c4 : zsel 6 [6, 53] = some 53 := rfl
  have c5 : zsel 9 [9, 69] = some 69 := rfl
  have c6 : zsel 10 [10, 133] = some 133 := rfl
  have m0 : zsel 11 [11, 172] = some 172 := rfl
  have m1 : zsel 11 [11, 150] = some 150 := rfl
  have i1 := fun (H : zH) => sp_inI (E := E) (h := H) (u := z.toInt64) (v := 0) (w := 40) (x := z) (a := 0) (b := 40) rfl (by decide) (by decide)
  have i2 := fun (H : zH) => sp_inI (E := E) (h := H) (u := w.toInt64) (v := 0) (w := 2) (x := w) (a := 0) (b := 2) rfl (by decide) (by decide)
  rcases hJ.wg.cs with ⟨d1, d2, -⟩ | ⟨d1, d2, hW, -⟩
  · refine ⟨(-1000002), h, zpf h 73 0 (.int 0), ?_, ?_, hJ.q h1 hB⟩
    · simp only [ze114, zi114_0, zi114_0n, zi114_1, zi114_4, zi114_7, zi114_10, zi114_12 (sk := []), zi114_13, zi114_13n, zi114_14, zi114_15, zi114_18, zi114_18n, zi114_20, zi114_20n, zi114_22, zi114_22n, zi114_25, zi114_26, zi114_27, zi114_29, zi114_32, zi114_35, zi114_37, zi114_38, zi114_39, zi114_42, zi114_45, zi114_47 (sk := []), zcl1, zlow_0, zlow_1, zlow_2, zlow_3, zlow_4, zfree_0, zfree_i, zfree_r, zfree_n, zfree_d, zfree_f, zfree_s, if_true, if_false, Option.bind_some, Option.toList_some, Option.toList_none, List.cons_append, List.nil_append, List.set_cons_zero, List.set_cons_succ, Bool.false_eq_true, reduceIte, zsw_c, zsw_n, Nat.reduceAdd, hJ.co.r7, hJ.yn.cls, c0, sp_isRead hJ.wg.h3 hJ.yn, d1, zb_f, z00]
    · simp only [ze212, zi212_0, zi212_0n, zi212_1, zi212_2, zi212_5, zi212_5n, zi212_6, zi212_9, zi212_12, zi212_14 (sk := []), zi212_15, zi212_16, zi212_19, zi212_22, zi212_23, zi212_24, zi212_25, zi212_28, zi212_31, zi212_34, zi212_36, zi212_37, zi212_38, zi212_41, zi212_44, zi212_47, zi212_49 (sk := []), zcl1, zlow_0, zlow_1, zlow_2, zlow_3, zlow_4, zfree_0, zfree_i, zfree_r, zfree_n, zfree_d, zfree_f, zfree_s, if_true, if_false, Option.bind_some, Option.toList_some, Option.toList_none, List.cons_append, List.nil_append, List.set_cons_zero, List.set_cons_succ, Bool.false_eq_true, reduceIte, zsw_c, zsw_n, Nat.reduceAdd, w0, M1.1, m0, sp_isThere M1 Y1 hJ.wg.h0, d2, zb_f, z00]
  have h3 := hW.2.2.2.1.2
  rcases zlt_or x (n := 8) (by omega) with hx | ⟨i, hi, rfl⟩
  · refine ⟨(-1000001), h, zpf h 73 0 (.int 0), ?_, ?_, hJ.q h1 hB⟩
    · simp only [ze114, zi114_0, zi114_0n, zi114_1, zi114_4, zi114_7, zi114_10, zi114_12 (sk := []), zi114_13, zi114_13n, zi114_14, zi114_15, zi114_18, zi114_18n, zi114_20, zi114_20n, zi114_22, zi114_22n, zi114_25, zi114_26, zi114_27, zi114_29, zi114_32, zi114_35, zi114_37, zi114_38, zi114_39, zi114_42, zi114_45, zi114_47 (sk := []), zcl1, zlow_0, zlow_1, zlow_2, zlow_3, zlow_4, zfree_0, zfree_i, zfree_r, zfree_n, zfree_d, zfree_f, zfree_s, if_true, if_false, Option.bind_some, Option.toList_some, Option.toList_none, List.cons_append, List.nil_append, List.set_cons_zero, List.set_cons_succ, Bool.false_eq_true, reduceIte, zsw_c, zsw_n, Nat.reduceAdd, hJ.co.r7, hJ.yn.cls, c0, sp_isRead hJ.wg.h3 hJ.yn, d1, zb_t, z10, hJ.co.1, c1, sp_rowAtNo hx]
    · simp only [ze212, zi212_0, zi212_0n, zi212_1, zi212_2, zi212_5, zi212_5n, zi212_6, zi212_9, zi212_12, zi212_14 (sk := []), zi212_15, zi212_16, zi212_19, zi212_22, zi212_23, zi212_24, zi212_25, zi212_28, zi212_31, zi212_34, zi212_36, zi212_37, zi212_38, zi212_41, zi212_44, zi212_47, zi212_49 (sk := []), zcl1, zlow_0, zlow_1, zlow_2, zlow_3, zlow_4, zfree_0, zfree_i, zfree_r, zfree_n, zfree_d, zfree_f, zfree_s, if_true, if_false, Option.bind_some, Option.toList_some, Option.toList_none, List.cons_append, List.nil_append, List.set_cons_zero, List.set_cons_succ, Bool.false_eq_true, reduceIte, zsw_c, zsw_n, Nat.reduceAdd, w0, M1.1, m0, sp_isThere M1 Y1 hJ.wg.h0, d2, zb_t, z10, sp_isRow, hx, zb_f, z00]
  have h8 : zlt (nI i) 8 = true := by rw [zlt_nI (by omega) (by omega)]; simp [hi]
  cases hz : (decide (0 ≤ z) && decide (z ≤ 40))
  · refine ⟨(-1000001), h, zpf h 73 0 (.int 0), ?_, ?_, hJ.q h1 hB⟩
    · simp only [ze114, zi114_0, zi114_0n, zi114_1, zi114_4, zi114_7, zi114_10, zi114_12 (sk := []), zi114_13, zi114_13n, zi114_14, zi114_15, zi114_18, zi114_18n, zi114_20, zi114_20n, zi114_22, zi114_22n, zi114_25, zi114_26, zi114_27, zi114_29, zi114_32, zi114_35, zi114_37, zi114_38, zi114_39, zi114_42, zi114_45, zi114_47 (sk := []), zcl1, zlow_0, zlow_1, zlow_2, zlow_3, zlow_4, zfree_0, zfree_i, zfree_r, zfree_n, zfree_d, zfree_f, zfree_s, if_true, if_false, Option.bind_some, Option.toList_some, Option.toList_none, List.cons_append, List.nil_append, List.set_cons_zero, List.set_cons_succ, Bool.false_eq_true, reduceIte, zsw_c, zsw_n, Nat.reduceAdd, hJ.co.r7, hJ.yn.cls, c0, sp_isRead hJ.wg.h3 hJ.yn, d1, zb_t, z10, hJ.co.1, c1, sp_rowAt hJ.co hA hi, sp_within, hz, zb_f, z00]
    · simp only [ze212, zi212_0, zi212_0n, zi212_1, zi212_2, zi212_5, zi212_5n, zi212_6, zi212_9, zi212_12, zi212_14 (sk := []), zi212_15, zi212_16, zi212_19, zi212_22, zi212_23, zi212_24, zi212_25, zi212_28, zi212_31, zi212_34, zi212_36, zi212_37, zi212_38, zi212_41, zi212_44, zi212_47, zi212_49 (sk := []), zcl1, zlow_0, zlow_1, zlow_2, zlow_3, zlow_4, zfree_0, zfree_i, zfree_r, zfree_n, zfree_d, zfree_f, zfree_s, if_true, if_false, Option.bind_some, Option.toList_some, Option.toList_none, List.cons_append, List.nil_append, List.set_cons_zero, List.set_cons_succ, Bool.false_eq_true, reduceIte, zsw_c, zsw_n, Nat.reduceAdd, w0, M1.1, m0, sp_isThere M1 Y1 hJ.wg.h0, d2, zb_t, z10, sp_isRow, h8, i1, hz, zb_f, z00]
  rcases zbt_or w 0 2 (by omega) (by omega) with hw | ⟨j, -, hj, rfl, hw⟩
  · have hw : (decide (0 ≤ w) && decide (w ≤ 2)) = false := hw
    refine ⟨(-1000001), h, zpf h 73 0 (.int 0), ?_, ?_, hJ.q h1 hB⟩
    · simp only [ze114, zi114_0, zi114_0n, zi114_1, zi114_4, zi114_7, zi114_10, zi114_12 (sk := []), zi114_13, zi114_13n, zi114_14, zi114_15, zi114_18, zi114_18n, zi114_20, zi114_20n, zi114_22, zi114_22n, zi114_25, zi114_26, zi114_27, zi114_29, zi114_32, zi114_35, zi114_37, zi114_38, zi114_39, zi114_42, zi114_45, zi114_47 (sk := []), zcl1, zlow_0, zlow_1, zlow_2, zlow_3, zlow_4, zfree_0, zfree_i, zfree_r, zfree_n, zfree_d, zfree_f, zfree_s, if_true, if_false, Option.bind_some, Option.toList_some, Option.toList_none, List.cons_append, List.nil_append, List.set_cons_zero, List.set_cons_succ, Bool.false_eq_true, reduceIte, zsw_c, zsw_n, Nat.reduceAdd, hJ.co.r7, hJ.yn.cls, c0, sp_isRead hJ.wg.h3 hJ.yn, d1, zb_t, z10, hJ.co.1, c1, sp_rowAt hJ.co hA hi, sp_within, hz, hw, zb_f, z00]
    · simp only [ze212, zi212_0, zi212_0n, zi212_1, zi212_2, zi212_5, zi212_5n, zi212_6, zi212_9, zi212_12, zi212_14 (sk := []), zi212_15, zi212_16, zi212_19, zi212_22, zi212_23, zi212_24, zi212_25, zi212_28, zi212_31, zi212_34, zi212_36, zi212_37, zi212_38, zi212_41, zi212_44, zi212_47, zi212_49 (sk := []), zcl1, zlow_0, zlow_1, zlow_2, zlow_3, zlow_4, zfree_0, zfree_i, zfree_r, zfree_n, zfree_d, zfree_f, zfree_s, if_true, if_false, Option.bind_some, Option.toList_some, Option.toList_none, List.cons_append, List.nil_append, List.set_cons_zero, List.set_cons_succ, Bool.false_eq_true, reduceIte, zsw_c, zsw_n, Nat.reduceAdd, w0, M1.1, m0, sp_isThere M1 Y1 hJ.wg.h0, d2, zb_t, z10, sp_isRow, h8, i1, hz, i2, hw, zb_f, z00]
  have hw : (decide (0 ≤ nI j) && decide (nI j ≤ 2)) = true := hw
  have z0 : 0 ≤ z := by
    rw [Bool.and_eq_true, decide_eq_true_eq] at hz
    exact hz.1
  have R := r1 i hi
  have l3 := r3 i hi
  have s40 := r6 i hi
  have preC : zcall zpp E 114 [.ref 0, .int (nI i), .int k, .int z, .int (nI j)] h = zrun zpp E 114 (48, [.ref 0, .int (nI i), .int k, .int z, .int (nI j), .ref (34 + 2 * i), .retAddr 0], [], h) := by
    conv =>
      lhs
      simp only [ze114, zi114_0, zi114_0n, zi114_1, zi114_4, zi114_7, zi114_10, zi114_12 (sk := []), zi114_13, zi114_13n, zi114_14, zi114_15, zi114_18, zi114_18n, zi114_20, zi114_20n, zi114_22, zi114_22n, zi114_25, zi114_26, zi114_27, zi114_29, zi114_32, zi114_35, zi114_37, zi114_38, zi114_39, zi114_42, zi114_45, zi114_47 (sk := []), zcl1, zlow_0, zlow_1, zlow_2, zlow_3, zlow_4, zfree_0, zfree_i, zfree_r, zfree_n, zfree_d, zfree_f, zfree_s, if_true, if_false, Option.bind_some, Option.toList_some, Option.toList_none, List.cons_append, List.nil_append, List.set_cons_zero, List.set_cons_succ, Bool.false_eq_true, reduceIte, zsw_c, zsw_n, Nat.reduceAdd, hJ.co.r7, hJ.yn.cls, c0, sp_isRead hJ.wg.h3 hJ.yn, d1, zb_t, z10, hJ.co.1, c1, sp_rowAt hJ.co hA hi, sp_within, hz, hw]
  have preM : ∀ (H : zH) (sc2 : Nat → Int32), MdO H sc2 → MY H N → zcall zpp E 212 [.ref 73, .int (nI i), .int k, .int z, .int (nI j)] H = zrun zpp E 212 (50, [.ref 73, .int (nI i), .int k, .int z, .int (nI j), .retAddr 0, .retAddr 0, .retAddr 0, .retAddr 0, .retAddr 0, .retAddr 0, .retAddr 0, .retAddr 0, .retAddr 0], [], zpf H 73 0 (.int 0)) := by
    intro H sc2 hM hY
    have w0' := hM.st 0 rfl (by omega) 0
    have M1' := hM.put 0 rfl (by omega) 0
    have Y1' : MY (zpf H 73 0 (.int 0)) N := hY.keep (zpf_o (by omega))
    conv =>
      lhs
      simp only [ze212, zi212_0, zi212_0n, zi212_1, zi212_2, zi212_5, zi212_5n, zi212_6, zi212_9, zi212_12, zi212_14 (sk := []), zi212_15, zi212_16, zi212_19, zi212_22, zi212_23, zi212_24, zi212_25, zi212_28, zi212_31, zi212_34, zi212_36, zi212_37, zi212_38, zi212_41, zi212_44, zcl1, zlow_0, zlow_1, zlow_2, zlow_3, zlow_4, zfree_0, zfree_i, zfree_r, zfree_n, zfree_d, zfree_f, zfree_s, if_true, if_false, Option.bind_some, Option.toList_some, Option.toList_none, List.cons_append, List.nil_append, List.set_cons_zero, List.set_cons_succ, Bool.false_eq_true, reduceIte, zsw_c, zsw_n, Nat.reduceAdd, w0', M1'.1, m0, sp_isThere M1' Y1' hJ.wg.h0, d2, zb_t, z10, sp_isRow, h8, i1, hz, i2, hw]
  cases ht : th i
  · rw [ht] at R l3
    rw [if_neg (by decide)] at l3
    have R1 : zfld [6] h (34 + 2 * i) 1 = some (.int 0) := R.2.2.1
    have C1 := hJ.c9 1
    have N1 := C1.md.put 0 rfl (by omega) 0
    have L2 : ML (zpf (zpf h 0 9 (.int 1)) 73 0 (.int 0)) lm (fun i => nI (sz i)) im := r2.pf.pf
    have g := zarr_at L2.1 hi (by omega)
    rw [l3] at g
    refine ⟨(-1000010 - 1), zpf h 0 9 (.int 1), _, ?_, ?_, hJ.f hB 1⟩
    · rw [preC]
      simp only [zi114_48, zi114_48n, zi114_50, zi114_53, zi114_56, zi114_56n, zi114_57, zi114_58, zi114_61 (sk := []), zi114_62, zi114_62n, zi114_64, zi114_65, zi114_66, zi114_69, zi114_72, zi114_72n, zi114_73, zi114_74, zi114_77 (sk := []), zcl1, zlow_0, zlow_1, zlow_2, zlow_3, zlow_4, zfree_0, zfree_i, zfree_r, zfree_n, zfree_d, zfree_f, zfree_s, if_true, if_false, Option.bind_some, Option.toList_some, Option.toList_none, List.cons_append, List.nil_append, List.set_cons_zero, List.set_cons_succ, Bool.false_eq_true, reduceIte, zsw_c, zsw_n, Nat.reduceAdd, R1, z00, hJ.co.1, c2, sp_found hJ.co]
    · rw [preM _ _ C1.md C1.my]
      simp only [zi212_50, zi212_50n, zi212_51, zi212_54, zi212_55, zi212_56, zi212_59, zi212_59n, zi212_60, zi212_61, zi212_64 (sk := []), zi212_65, zi212_66, zi212_69, zi212_70, zi212_71, zi212_72, zi212_73, zi212_74, zi212_74n, zi212_75, zi212_78, zi212_79, zi212_80, zi212_81, zi212_82, zi212_85, zi212_85n, zi212_86, zi212_87, zi212_90 (sk := []), zcl1, zlow_0, zlow_1, zlow_2, zlow_3, zlow_4, zfree_0, zfree_i, zfree_r, zfree_n, zfree_d, zfree_f, zfree_s, if_true, if_false, Option.bind_some, Option.toList_some, Option.toList_none, List.cons_append, List.nil_append, List.set_cons_zero, List.set_cons_succ, Bool.false_eq_true, reduceIte, zsw_c, zsw_n, Nat.reduceAdd, N1.r2, g, show ((0 : Int32) ≤ -1) = False by decide, N1.1, m1, sp_finding N1]
  rw [ht] at R l3
  rw [if_pos rfl] at l3
  have R1 : zfld [6] h (34 + 2 * i) 1 = some (.int 1) := R.2.2.1
  rcases spB_or (sz i) k z s40 with hs | ⟨a, nn, hab, rfl, rfl⟩
  · have C1 := hJ.c9 2
    have N1 := C1.md.put 0 rfl (by omega) 0
    have L2 : ML (zpf (zpf h 0 9 (.int 2)) 73 0 (.int 0)) lm (fun i => nI (sz i)) im := r2.pf.pf
    have g := zarr_at L2.1 hi (by omega)
    rw [l3] at g
    have g2 := zarr_at L2.2.1 hi (by omega)
    refine ⟨(-1000010 - 2), zpf h 0 9 (.int 2), _, ?_, ?_, hJ.f hB 2⟩
    · rw [preC]
      simp only [zi114_48, zi114_48n, zi114_50, zi114_53, zi114_56, zi114_56n, zi114_57, zi114_58, zi114_61 (sk := []), zi114_62, zi114_62n, zi114_64, zi114_65, zi114_66, zi114_69, zi114_72, zi114_72n, zi114_73, zi114_74, zi114_77 (sk := []), zcl1, zlow_0, zlow_1, zlow_2, zlow_3, zlow_4, zfree_0, zfree_i, zfree_r, zfree_n, zfree_d, zfree_f, zfree_s, if_true, if_false, Option.bind_some, Option.toList_some, Option.toList_none, List.cons_append, List.nil_append, List.set_cons_zero, List.set_cons_succ, Bool.false_eq_true, reduceIte, zsw_c, zsw_n, Nat.reduceAdd, R1, z10, R.1, c4, sp_spans R, hs, zb_f, z00, hJ.co.1, c2, sp_found hJ.co]
    · rw [preM _ _ C1.md C1.my]
      by_cases k0 : k < 0
      · simp only [zi212_50, zi212_50n, zi212_51, zi212_54, zi212_55, zi212_56, zi212_59, zi212_59n, zi212_60, zi212_61, zi212_64 (sk := []), zi212_65, zi212_66, zi212_69, zi212_70, zi212_71, zi212_72, zi212_73, zi212_74, zi212_74n, zi212_75, zi212_78, zi212_79, zi212_80, zi212_81, zi212_82, zi212_85, zi212_85n, zi212_86, zi212_87, zi212_90 (sk := []), zcl1, zlow_0, zlow_1, zlow_2, zlow_3, zlow_4, zfree_0, zfree_i, zfree_r, zfree_n, zfree_d, zfree_f, zfree_s, if_true, if_false, Option.bind_some, Option.toList_some, Option.toList_none, List.cons_append, List.nil_append, List.set_cons_zero, List.set_cons_succ, Bool.false_eq_true, reduceIte, zsw_c, zsw_n, Nat.reduceAdd, N1.r2, g, zpos_012 (r5 i hi), eq_true k0, N1.1, m1, sp_finding N1]
      · simp only [zi212_50, zi212_50n, zi212_51, zi212_54, zi212_55, zi212_56, zi212_59, zi212_59n, zi212_60, zi212_61, zi212_64 (sk := []), zi212_65, zi212_66, zi212_69, zi212_70, zi212_71, zi212_72, zi212_73, zi212_74, zi212_74n, zi212_75, zi212_78, zi212_79, zi212_80, zi212_81, zi212_82, zi212_85, zi212_85n, zi212_86, zi212_87, zi212_90 (sk := []), zcl1, zlow_0, zlow_1, zlow_2, zlow_3, zlow_4, zfree_0, zfree_i, zfree_r, zfree_n, zfree_d, zfree_f, zfree_s, if_true, if_false, Option.bind_some, Option.toList_some, Option.toList_none, List.cons_append, List.nil_append, List.set_cons_zero, List.set_cons_succ, Bool.false_eq_true, reduceIte, zsw_c, zsw_n, Nat.reduceAdd, N1.r2, g, zpos_012 (r5 i hi), eq_false k0, N1.r3, g2, lsp s40 (Int32.not_lt.mp k0) z0, hs, N1.1, m1, sp_finding N1]
  have hs := spB_t s40 hab
  obtain ⟨hb, eb, zbm, Yb⟩ := sp_becomeN (E := E) hJ.sp hJ.yc (by unfold far; omega) (by omega) hJ.wg.h5
  have Cb : CO hb y s v := hJ.co.keep (zbm.2 0 (by unfold yP; omega))
  have Rb := R.keep (zbm.2 _ (by unfold yP; omega)) (zbm.2 _ (by unfold yP; omega))
  have Yy : YC hb y N := hJ.yc.keep (zbm.fr (fun a e => by unfold yP at e; omega)) (by omega) (fun a h1 h2 => by unfold yP; omega)
  obtain ⟨hq, eq, Yq, zq⟩ := planC (E := E) (N := N) (x := nI i) (k4 := nI j) (a := 34 + 2 * i) (i := a) (nn := nn) (by omega) (by omega) (by omega) nn 0 N hb (by omega) Cb Rb hW (fun _ _ _ _ => rfl) Yb.1
  have zT : zsm (yP s) h hq := zbm.tr (zq.wk (fun a e => by cases e; exact ⟨by omega, by omega⟩))
  have Cq : CO hq y s v := Cb.keep (zq.2 0 (by omega))
  have Yyq : YN hq y N := Yy.1.keep (fun a h1 h2 => zq.2 a (by omega)) (fun a h1 c e => (zq.2 a (by omega)).trans e)
  have Spq : SP hq s := YC.sp (N := (pgN N (fun j => it i (a + j)) nn 0 N).2) ⟨Yq, Yb.2.sm zq (by omega) (fun a e => by cases e; omega) (by omega)⟩
  have Jq := (hJ.spare (zT.fr (fun a e => by unfold yP at e; omega)) Spq).c9 0
  have zF : zsm (fun a => yP s a ∨ a = 0) h (zpf hq 0 9 (.int 0)) := (zT.wk (fun a e => Or.inl e)).tr (zsm_pf.wk (fun a e => Or.inr e))
  have Mf := Jq.md
  have Yf := Jq.my
  have v0 := Mf.st 0 rfl (by omega) 0
  have N1 := Mf.put 0 rfl (by omega) 0
  have Z1 : MY (zpf (zpf hq 0 9 (.int 0)) 73 0 (.int 0)) N := Yf.keep (zpf_o (by omega))
  have L0 : ML hq lm (fun i => nI (sz i)) im := r2.keep (fun a h1 h2 => zT.2 a (by unfold yP; omega))
  have L1 : ML (zpf (zpf hq 0 9 (.int 0)) 73 0 (.int 0)) lm (fun i => nI (sz i)) im := L0.pf.pf
  have g := zarr_at L1.1 hi (by omega)
  rw [l3] at g
  have g2 := zarr_at L1.2.1 hi (by omega)
  have v1 := N1.st 1 rfl (by omega) 0
  have N2 := N1.put 1 rfl (by omega) 0
  have Z2 : MY (zpf (zpf (zpf hq 0 9 (.int 0)) 73 0 (.int 0)) 73 1 (.int 0)) N := Z1.keep (zpf_o (by omega))
  have L2 : ML (zpf (zpf (zpf hq 0 9 (.int 0)) 73 0 (.int 0)) 73 1 (.int 0)) lm (fun i => nI (sz i)) im := L1.pf
  have p0 : ¬ nI a < 0 := nI_pos (by omega)
  obtain ⟨a', c', d', g', kk, u11, u12, u13, em, q6, q7⟩ := planM (E := E) (r := i) (i := a) (nn := nn) (k4 := nI j) N2 Z2 hW L2 hi (by omega) nn 0 0 0 N (.retAddr 0) (.retAddr 0) (.retAddr 0) (by omega) hW (fun _ _ _ _ => rfl) rfl rfl
  have eG : ∀ m k P, k + m ≤ nn → pgN N (fun j => im (40 * i + (a + j))) m k P = pgN N (fun j => it i (a + j)) m k P := by
    intro m
    induction m with
    | zero => intro k P _; rfl
    | succ m ih =>
      intro k P hk
      show (match psN N P (im (40 * i + (a + k))) with | some Q => _ | none => _) = (match psN N P (it i (a + k)) with | some Q => _ | none => _)
      rw [r4 i hi (a + k) (by omega)]
      cases psN N P (it i (a + k)) with
      | none => rfl
      | some Q => exact ih (k + 1) Q (by omega)
  rw [eG nn 0 N (by omega)] at em q6 q7
  have e0 : zcall zpp E 114 [.ref 0, .int (nI i), .int (nI a), .int (nI nn), .int (nI j)] h = zrun zpp E 114 (121, [.ref 0, .int (nI i), .int (nI a), .int (nI nn), .int (nI j), .ref (34 + 2 * i), .int (nI (pgN N (fun j => it i (a + j)) nn 0 N).1)], [], hq) := by
    rw [← eq, preC]
    conv =>
      lhs
      simp only [zi114_48, zi114_48n, zi114_50, zi114_53, zi114_56, zi114_56n, zi114_57, zi114_58, zi114_61 (sk := []), zi114_62, zi114_62n, zi114_64, zi114_65, zi114_66, zi114_69, zi114_72, zi114_72n, zi114_73, zi114_74, zi114_77 (sk := []), zi114_78, zi114_78n, zi114_79, zi114_82, zi114_82n, zi114_83, zi114_86, zi114_89, zi114_90, zcl1, zlow_0, zlow_1, zlow_2, zlow_3, zlow_4, zfree_0, zfree_i, zfree_r, zfree_n, zfree_d, zfree_f, zfree_s, if_true, if_false, Option.bind_some, Option.toList_some, Option.toList_none, List.cons_append, List.nil_append, List.set_cons_zero, List.set_cons_succ, Bool.false_eq_true, reduceIte, zsw_c, zsw_n, Nat.reduceAdd, R1, z10, R.1, c4, sp_spans R, hs, zb_t, hJ.co.r8, hJ.co.r7, (show zcls h s = some 9 from by obtain ⟨⟨F, A, cr, Ya⟩, -⟩ := hJ.sp; exact Ya.1), c5, eb]
    rfl
  have e1 : zcall zpp E 212 [.ref 73, .int (nI i), .int (nI a), .int (nI nn), .int (nI j)] (zpf hq 0 9 (.int 0)) = zrun zpp E 212 (279, [.ref 73, .int (nI i), .int (nI a), .int (nI nn), .int (nI j), d', .int (nI a'), .int (nI c'), .int (nI (pgN N (fun j => it i (a + j)) nn 0 N).1), g', kk, u11, u12, u13], [], zpf (zpf (zpf hq 0 9 (.int 0)) 73 0 (.int 0)) 73 1 (.int 0)) := by
    rw [← em, preM _ _ Mf Yf]
    conv =>
      lhs
      simp only [zi212_50, zi212_50n, zi212_51, zi212_54, zi212_55, zi212_56, zi212_59, zi212_59n, zi212_60, zi212_61, zi212_64 (sk := []), zi212_65, zi212_66, zi212_69, zi212_70, zi212_71, zi212_72, zi212_73, zi212_74, zi212_74n, zi212_75, zi212_78, zi212_79, zi212_80, zi212_81, zi212_82, zi212_85, zi212_85n, zi212_86, zi212_87, zi212_90 (sk := []), zi212_91, zi212_91n, zi212_92, zi212_93, zi212_96, zi212_96n, zi212_97, zi212_100, zi212_102, zi212_103, zi212_105, zi212_106, zi212_108, zi212_109, zi212_111, zi212_112, zi212_114, zi212_115, zi212_117, zi212_118, zcl1, zlow_0, zlow_1, zlow_2, zlow_3, zlow_4, zfree_0, zfree_i, zfree_r, zfree_n, zfree_d, zfree_f, zfree_s, if_true, if_false, Option.bind_some, Option.toList_some, Option.toList_none, List.cons_append, List.nil_append, List.set_cons_zero, List.set_cons_succ, Bool.false_eq_true, reduceIte, zsw_c, zsw_n, Nat.reduceAdd, N1.r2, g, zpos_012 (r5 i hi), eq_false p0, N1.r3, g2, lsp s40 (Int32.not_lt.mp p0) z0, hs, v1, N2.r5, Z2.c 8 (by decide) (x := 8) rfl]
    rfl
  have fin : J (zpf (zpf (zpf hq 0 9 (.int 0)) 73 0 (.int 0)) 73 1 (.int 0)) (n + 1) := ⟨y, s, 0, _, N, (Jq.mi 0 rfl (by omega) 0 (by omega) (by omega) (by omega) (by omega)).mi 1 rfl (by omega) 0 (by omega) (by omega) (by omega) (by omega), rfl, (((hB.sm zF).sm zsm_pf).sm zsm_pf).up (by omega)⟩
  obtain rfl | rfl | rfl : j = 0 ∨ j = 1 ∨ j = 2 := by omega
  · refine ⟨(nI (pgN N (fun j => it i (a + j)) nn 0 N).1), zpf hq 0 9 (.int 0), _, ?_, ?_, fin⟩
    · rw [e0]
      simp only [zi114_121, zi114_121n, zi114_122, zi114_124, zi114_127, zi114_129, zi114_132, zi114_132n, zi114_133, zi114_135, zi114_136, zi114_137, zi114_140, zi114_143 (sk := []), zcl1, zlow_0, zlow_1, zlow_2, zlow_3, zlow_4, zfree_0, zfree_i, zfree_r, zfree_n, zfree_d, zfree_f, zfree_s, if_true, if_false, Option.bind_some, Option.toList_some, Option.toList_none, List.cons_append, List.nil_append, List.set_cons_zero, List.set_cons_succ, Bool.false_eq_true, reduceIte, zsw_c, zsw_n, Nat.reduceAdd, show (nI 0 = 0) = True by decide, Cq.1, c3, sp_clean Cq]
    · rw [e1]
      simp only [zi212_279, zi212_281, zi212_284, zi212_286, zi212_289, zi212_291, zi212_292, zi212_295, zi212_297, zi212_300, zi212_302 (sk := []), zcl1, zlow_0, zlow_1, zlow_2, zlow_3, zlow_4, zfree_0, zfree_i, zfree_r, zfree_n, zfree_d, zfree_f, zfree_s, if_true, if_false, Option.bind_some, Option.toList_some, Option.toList_none, List.cons_append, List.nil_append, List.set_cons_zero, List.set_cons_succ, Bool.false_eq_true, reduceIte, zsw_c, zsw_n, Nat.reduceAdd, show (nI 0 = 0) = True by decide]
  · refine ⟨(nI a'), zpf hq 0 9 (.int 0), _, ?_, ?_, fin⟩
    · rw [e0]
      simp only [zi114_121, zi114_121n, zi114_122, zi114_124, zi114_127, zi114_129, zi114_132, zi114_132n, zi114_133, zi114_135, zi114_136, zi114_137, zi114_140, zi114_143 (sk := []), zcl1, zlow_0, zlow_1, zlow_2, zlow_3, zlow_4, zfree_0, zfree_i, zfree_r, zfree_n, zfree_d, zfree_f, zfree_s, if_true, if_false, Option.bind_some, Option.toList_some, Option.toList_none, List.cons_append, List.nil_append, List.set_cons_zero, List.set_cons_succ, Bool.false_eq_true, reduceIte, zsw_c, zsw_n, Nat.reduceAdd, show (nI 1 = 0) = False by decide, show nI 1 - 1 = 0 by decide, Cq.1, c6, sp_spent0 Cq Yyq Yq q6, c3, sp_clean Cq]
    · rw [e1]
      simp only [zi212_279, zi212_281, zi212_284, zi212_286, zi212_289, zi212_291, zi212_292, zi212_295, zi212_297, zi212_300, zi212_302 (sk := []), zcl1, zlow_0, zlow_1, zlow_2, zlow_3, zlow_4, zfree_0, zfree_i, zfree_r, zfree_n, zfree_d, zfree_f, zfree_s, if_true, if_false, Option.bind_some, Option.toList_some, Option.toList_none, List.cons_append, List.nil_append, List.set_cons_zero, List.set_cons_succ, Bool.false_eq_true, reduceIte, zsw_c, zsw_n, Nat.reduceAdd, show (nI 1 = 0) = False by decide, show (nI 1 = 1) = True by decide]
  · refine ⟨(nI c'), zpf hq 0 9 (.int 0), _, ?_, ?_, fin⟩
    · rw [e0]
      simp only [zi114_121, zi114_121n, zi114_122, zi114_124, zi114_127, zi114_129, zi114_132, zi114_132n, zi114_133, zi114_135, zi114_136, zi114_137, zi114_140, zi114_143 (sk := []), zcl1, zlow_0, zlow_1, zlow_2, zlow_3, zlow_4, zfree_0, zfree_i, zfree_r, zfree_n, zfree_d, zfree_f, zfree_s, if_true, if_false, Option.bind_some, Option.toList_some, Option.toList_none, List.cons_append, List.nil_append, List.set_cons_zero, List.set_cons_succ, Bool.false_eq_true, reduceIte, zsw_c, zsw_n, Nat.reduceAdd, show (nI 2 = 0) = False by decide, show nI 2 - 1 = 1 by decide, Cq.1, c6, sp_spent1 Cq Yyq Yq q7, c3, sp_clean Cq]
    · rw [e1]
      simp only [zi212_279, zi212_281, zi212_284, zi212_286, zi212_289, zi212_291, zi212_292, zi212_295, zi212_297, zi212_300, zi212_302 (sk := []), zcl1, zlow_0, zlow_1, zlow_2, zlow_3, zlow_4, zfree_0, zfree_i, zfree_r, zfree_n, zfree_d, zfree_f, zfree_s, if_true, if_false, Option.bind_some, Option.toList_some, Option.toList_none, List.cons_append, List.nil_append, List.set_cons_zero, List.set_cons_succ, Bool.false_eq_true, reduceIte, zsw_c, zsw_n, Nat.reduceAdd, show (nI 2 = 0) = False by decide, show (nI 2 = 1) = False by decide]
end PLAN
