/-! WHAT CHANGES A YARD -/
/-- the same cells but those of P -/
def zsm (P : Nat → Prop) (h h' : zH) : Prop := (h'.length = h.length ∧ zsl h' = zsl h) ∧ ∀ a, ¬ P a → h'[a]? = h[a]?
theorem zsm.rf {P : Nat → Prop} (h : zH) : zsm P h h := ⟨⟨rfl, rfl⟩, fun _ _ => rfl⟩
theorem zsm.tr {P : Nat → Prop} {a b c : zH} (h : zsm P a b) (g : zsm P b c) : zsm P a c := ⟨⟨g.1.1.trans h.1.1, g.1.2.trans h.1.2⟩, fun x hx => (g.2 x hx).trans (h.2 x hx)⟩
theorem zsm.wk {P Q : Nat → Prop} {a b : zH} (h : zsm P a b) (hq : ∀ x, P x → Q x) : zsm Q a b := ⟨h.1, fun x hx => h.2 x (fun z => hx (hq x z))⟩
theorem zpf_sl {h : zH} {a f : Nat} {v : Value} : zsl (zpf h a f v) = zsl h := by
  unfold zpf
  split
  · rename_i c fs hq
    exact zsl_set hq (by simp [zsz])
  · rfl
theorem zpa_sl {h : zH} {a i : Nat} {v : Int32} : zsl (zpa h a i v) = zsl h := by
  unfold zpa
  split
  · rename_i t n f hq
    exact zsl_set hq (by simp [zsz])
  · rfl
theorem zsm_pf {h : zH} {a f : Nat} {v : Value} : zsm (fun x => x = a) h (zpf h a f v) := ⟨⟨zpf_len, zpf_sl⟩, fun x hx => zpf_o (fun z => hx z.symm)⟩
theorem zsm_pa {h : zH} {a i : Nat} {v : Int32} : zsm (fun x => x = a) h (zpa h a i v) := ⟨⟨zpa_len, zpa_sl⟩, fun x hx => zpa_o (fun z => hx z.symm)⟩
theorem abF_c {N N' : Nat → Nat} {b : Nat} (h : ∀ i, 25 ≤ i → N' i = N i) : ∀ n, abF N' b n = abF N b n
  | 0 => rfl
  | n + 1 => by
    unfold abF
    rw [abF_c h n, h (25 + 4 * n) (by omega), h (26 + 4 * n) (by omega), h (27 + 4 * n) (by omega)]
theorem caF_c {N N' : Nat → Nat} {b : Nat} (h : ∀ i, 25 ≤ i → N' i = N i) : ∀ n, caF N' b n = caF N b n
  | 0 => rfl
  | n + 1 => by
    unfold caF
    rw [caF_c h n, h (25 + 4 * n) (by omega), h (26 + 4 * n) (by omega), h (27 + 4 * n) (by omega), h (28 + 4 * n) (by omega)]
theorem ctF_c {N N' : Nat → Nat} {d b : Nat} (h : ∀ i, 25 ≤ i → N' i = N i) : ∀ n, ctF N' d b n = ctF N d b n
  | 0 => rfl
  | n + 1 => by
    unfold ctF
    rw [ctF_c h n, h (25 + 4 * n) (by omega), h (26 + 4 * n) (by omega), h (27 + 4 * n) (by omega), h (28 + 4 * n) (by omega)]
theorem lsF_c {N N' : Nat → Nat} (h : ∀ i, 25 ≤ i → N' i = N i) : ∀ n, lsF N' n = lsF N n
  | 0 => rfl
  | n + 1 => by
    unfold lsF
    rw [lsF_c h n, h (28 + 4 * n) (by omega)]
theorem LA0_c {h h' : zH} {q kd num fo : Nat} (e : h'[q]? = h[q]?) (hL : LA0 h q kd num fo) : LA0 h' q kd num fo := ⟨(zcls_c e).trans hL.1, (zfld_c e).trans hL.2.1, (zfld_c e).trans hL.2.2⟩
theorem LAt_c {h h' : zH} {q kd num fo : Nat} (e : ∀ a, 87 ≤ a → ∀ c, h[a]? = some c → h'[a]? = some c) (hL : LAt h q kd num fo) : LAt h' q kd num fo := by
  obtain ⟨h1, h2, h3, h4⟩ := hL
  obtain ⟨c, fs, q1, -, -⟩ := zfld_inv h3
  have e' : h'[q]? = h[q]? := (e q h1 _ q1).trans q1.symm
  exact ⟨h1, (zcls_c e').trans h2, (zfld_c e').trans h3, (zfld_c e').trans h4⟩
/-- a yard whose numbers of time, falls, down and gaps have changed -/
theorem YN.mov {h h' : zH} {y : Nat} {N N' : Nat → Nat} (hY : YN h y N) (hc : zcls h' y = some 9) (hf : ∀ k, k < 18 → ¬ (6 ≤ k ∧ k < 14) → zfld [9] h' y k = some (.int (yF N' k))) (hr : ∀ k, 6 ≤ k → k < 14 → zfld [9] h' y k = zfld [9] h y k) (ha : ∀ a, y < a → a ≤ y + 8 → h'[a]? = h[a]?) (hl : ∀ a, 87 ≤ a → ∀ c, h[a]? = some c → h'[a]? = some c) (hN : ∀ i, i ≠ 6 → i ≠ 7 → i ≠ 8 → N' i = N i) : YN h' y N' := by
  have hN3 : N' 3 = N 3 := hN 3 (by decide) (by decide) (by decide)
  have hN4 : N' 4 = N 4 := hN 4 (by decide) (by decide) (by decide)
  have hN5 : N' 5 = N 5 := hN 5 (by decide) (by decide) (by decide)
  have h25 : ∀ i, 25 ≤ i → N' i = N i := fun i hi => hN i (by omega) (by omega) (by omega)
  obtain ⟨A, cr, ⟨g1, g2, g3, g4, g, g5, g6⟩, b1, b2, b3⟩ := hY
  refine ⟨A, cr, ⟨hc, fun k hk => ?_, fun j hj => zrow_c (ha _ (by omega) (by omega)) (g3 j hj), fun j hj hj2 => zrow_c (ha _ (by omega) (by omega)) (g4 j hj hj2), g, (ha _ (by omega) (by omega)).trans g5, g6⟩, ?_, ?_, ?_⟩
  · by_cases hq : 6 ≤ k ∧ k < 14
    · rw [if_pos hq, hr k hq.1 hq.2, g2 k hk, if_pos hq]
    · rw [if_neg hq]
      exact hf k hk hq
  · intro b hb
    rw [hN3] at hb
    obtain ⟨q1, q2, q3, q4⟩ := b1 b hb
    rw [hN4, abF_c h25, caF_c h25, hN _ (by omega) (by omega) (by omega), hN _ (by omega) (by omega) (by omega)]
    exact ⟨q1, q2, q3, q4⟩
  · intro k hk
    rw [hN4] at hk
    rw [h25 _ (by omega), h25 _ (by omega), h25 _ (by omega)]
    exact b2 k hk
  · intro w hw
    rw [hN5] at hw
    obtain ⟨q, q1, q2⟩ := b3 w hw
    rw [h25 _ (by omega), h25 _ (by omega)]
    exact ⟨q, q1, LAt_c hl q2⟩
/-- nothing of a yard was touched -/
theorem YN.keep {h h' : zH} {y : Nat} {N : Nat → Nat} (hY : YN h y N) (ha : ∀ a, y ≤ a → a ≤ y + 8 → h'[a]? = h[a]?) (hl : ∀ a, 87 ≤ a → ∀ c, h[a]? = some c → h'[a]? = some c) : YN h' y N := by
  have e := ha y (by omega) (by omega)
  refine hY.mov ((zcls_c e).trans hY.cls) (fun k hk hq => ?_) (fun k _ _ => zfld_c e) (fun a h1 h2 => ha a (by omega) h2) hl (fun i _ _ _ => rfl)
  rw [zfld_c e]
  exact hY.i k (by omega)
/-- what a yard is behind a lift -/
def liftN (N : Nat → Nat) (kd b : Nat) : Nat → Nat := fun i => if i = 6 then N 6 + secK N kd (N (9 + 2 * b)) (catN N (N 8) b) else if i = 7 then N 7 + falK kd (catN N (N 8) b) else if i = 8 then zclr (N 8) b else N i
def fallN (N : Nat → Nat) (b : Nat) : Nat → Nat := fun i => if i = 7 then N 7 + 1 else if i = 8 then zput (N 8) b else N i
theorem WF.d8 {N : Nat → Nat} (hW : WF N) : N 8 < 256 := Nat.lt_of_lt_of_le hW.2.2.2.2.2.2.1 (show 2 ^ N 3 ≤ 2 ^ 8 from Nat.pow_le_pow_right (by decide) hW.2.2.2.1.2)
theorem zclr_pow : ∀ n, n ≤ 8 → ∀ d, d < 2 ^ n → ∀ b, b < n → zclr d b < 2 ^ n ∧ zput d b < 2 ^ n := by decide +kernel
theorem WF.mov {N N' : Nat → Nat} (hW : WF N) (hN : ∀ i, i ≠ 6 → i ≠ 7 → i ≠ 8 → N' i = N i) (h8 : N' 8 < 2 ^ N 3) : WF N' := by
  obtain ⟨a1, a2, a3, a4, a5, a6, a7, a8, a9, a10, a11⟩ := hW
  have e : ∀ i, 9 ≤ i → N' i = N i := fun i hi => hN i (by omega) (by omega) (by omega)
  have e0 := hN 0 (by decide) (by decide) (by decide)
  have e1 := hN 1 (by decide) (by decide) (by decide)
  have e2 := hN 2 (by decide) (by decide) (by decide)
  have e3 := hN 3 (by decide) (by decide) (by decide)
  have e4 := hN 4 (by decide) (by decide) (by decide)
  have e5 := hN 5 (by decide) (by decide) (by decide)
  refine ⟨by rw [e0]; exact a1, by rw [e1]; exact a2, by rw [e2]; exact a3, by rw [e3]; exact a4, by rw [e4]; exact a5, by rw [e5]; exact a6, by rw [e3]; exact h8, fun b hb => ?_, fun k hk => ?_, fun k j hk hj => ?_, fun w hw => ?_⟩
  · rw [e3] at hb
    rw [e _ (by omega), e _ (by omega)]
    exact a8 b hb
  · rw [e4] at hk
    rw [e3, e _ (by omega), e _ (by omega), e _ (by omega), e _ (by omega)]
    exact a9 k hk
  · rw [e4] at hk
    rw [e (25 + 4 * k) (by omega), e (25 + 4 * j) (by omega), e (26 + 4 * k) (by omega), e (26 + 4 * j) (by omega), e (27 + 4 * k) (by omega), e (27 + 4 * j) (by omega)]
    exact a10 k j hk hj
  · rw [e5] at hw
    rw [e _ (by omega), e _ (by omega)]
    exact a11 w hw
theorem WF.lift {N : Nat → Nat} (hW : WF N) {kd b : Nat} (hb : b < N 3) : WF (liftN N kd b) := hW.mov (fun i h6 h7 h8 => by simp [liftN, h6, h7, h8]) (by
  have := (zclr_pow (N 3) hW.2.2.2.1.2 (N 8) hW.2.2.2.2.2.2.1 b hb).1
  simpa [liftN] using this)
theorem WF.fall {N : Nat → Nat} (hW : WF N) {b : Nat} (hb : b < N 3) : WF (fallN N b) := hW.mov (fun i h6 h7 h8 => by simp [fallN, h7, h8]) (by
  have := (zclr_pow (N 3) hW.2.2.2.1.2 (N 8) hW.2.2.2.2.2.2.1 b hb).2
  simpa [fallN] using this)
theorem sp_raiseNo {E : zE} {h : zH} {y q kd num fo b : Nat} {N : Nat → Nat} (hW : WF N) (hY : YN h y N) (hL : LA0 h q kd num fo) (hk : 1 ≤ kd ∧ kd ≤ 5) (hf : fo ≤ 40) (hb : b < N 3) (hc : canN N kd fo (N 8) b = false) : zcall zpp E 81 [.ref y, .ref q, .int (nI b)] h = some (some (.int (-1000000)), h) := by
  have hsel : zsel 9 [9, 80] = some 80 := rfl
  simp only [ze81, zi81_0, zi81_0n, zi81_1, zi81_1n, zi81_2, zi81_3, zi81_6, zi81_9, zi81_11 (sk := []), zi81_12, zi81_12n, zi81_13, zi81_14, zi81_14n, zi81_15, zi81_18, zi81_21, zi81_22, zi81_22n, zi81_23, zi81_23n, zi81_24, zi81_27, zi81_28, zi81_29, zi81_30, zi81_30n, zi81_31, zi81_34, zi81_36, zi81_36n, zi81_37, zi81_37i, zi81_38, zi81_41, zi81_43, zi81_44, zi81_47, zi81_47n, zi81_48, zi81_48i, zi81_49, zi81_52, zi81_52n, zi81_53, zi81_54, zi81_57, zi81_58, zi81_61, zi81_61n, zi81_62, zi81_62i, zi81_63, zi81_66, zi81_67, zi81_68, zi81_69, zi81_70, zi81_71, zi81_72, zi81_75, zi81_77 (sk := []), zcl1, zlow_0, zlow_1, zlow_2, zlow_3, zlow_4, zfree_0, zfree_i, zfree_r, zfree_n, zfree_d, zfree_f, zfree_s, if_true, if_false, Option.bind_some, Option.toList_some, Option.toList_none, List.cons_append, List.nil_append, List.set_cons_zero, List.set_cons_succ, Bool.false_eq_true, reduceIte, zsw_c, zsw_n, Nat.reduceAdd, hY.cls, hsel, sp_canRaise hW hY hL hk hf hb, hc, zb_f, z00]
theorem sp_raise {E : zE} {h : zH} {y q kd num fo b : Nat} {N : Nat → Nat} (hW : WF N) (hY : YN h y N) (hy : y < 87) (hL : LA0 h q kd num fo) (hq81 : q ≠ y) (hk : 1 ≤ kd ∧ kd ≤ 5) (hf : fo ≤ 40) (hb : b < N 3) (hc : canN N kd fo (N 8) b = true) : ∃ h', zcall zpp E 81 [.ref y, .ref q, .int (nI b)] h = some (some (.int (nI (secK N kd (N (9 + 2 * b)) (catN N (N 8) b)))), h') ∧ YN h' y (liftN N kd b) ∧ zsm (fun a => a = y) h h' := by
  have h8 : N 3 ≤ 8 := hW.2.2.2.1.2
  have hd : N 8 < 256 := hW.d8
  have hw := (hW.2.2.2.2.2.2.2.1 b hb).1.2
  have hcle := catN_le hW.2.2.2.2.1 (d := N 8) (b := b)
  have hsel : zsel 9 [9, 80] = some 80 := rfl
  have hsel2 : zsel 9 [9, 79] = some 79 := rfl
  have hL1 : ∀ v, LA0 (zpf h y 16 v) q kd num fo := fun v => LA0_c (zpf_o (fun z => hq81 z.symm)) hL
  have e16 := fun v => zstf_ok (ty := 0) (v := .int v) hY.f16 zfits_i
  have f17 : ∀ v, zfld [9] (zpf h y 16 v) y 17 = some (.int (nI (N 7))) := fun v => by rw [zfld_f (by decide)]; exact hY.f17
  have e17 := fun v w => zstf_ok (ty := 0) (v := .int w) (f17 v) zfits_i
  have f15 : ∀ v w, zfld [9] (zpf (zpf h y 16 v) y 17 w) y 15 = some (.int (nI (N 8))) := fun v w => by rw [zfld_f (by decide), zfld_f (by decide)]; exact hY.f15
  have e15 := fun v w u => zstf_ok (ty := 0) (v := .int u) (f15 v w) zfits_i
  refine ⟨zpf (zpf (zpf h y 16 (.int (nI (liftN N kd b 6)))) y 17 (.int (nI (liftN N kd b 7)))) y 15 (.int (nI (liftN N kd b 8))), ?_, ?_, ?_⟩
  · simp only [ze81, zi81_0, zi81_0n, zi81_1, zi81_1n, zi81_2, zi81_3, zi81_6, zi81_9, zi81_11 (sk := []), zi81_12, zi81_12n, zi81_13, zi81_14, zi81_14n, zi81_15, zi81_18, zi81_21, zi81_22, zi81_22n, zi81_23, zi81_23n, zi81_24, zi81_27, zi81_28, zi81_29, zi81_30, zi81_30n, zi81_31, zi81_34, zi81_36, zi81_36n, zi81_37, zi81_37i, zi81_38, zi81_41, zi81_43, zi81_44, zi81_47, zi81_47n, zi81_48, zi81_48i, zi81_49, zi81_52, zi81_52n, zi81_53, zi81_54, zi81_57, zi81_58, zi81_61, zi81_61n, zi81_62, zi81_62i, zi81_63, zi81_66, zi81_67, zi81_68, zi81_69, zi81_70, zi81_71, zi81_72, zi81_75, zi81_77 (sk := []), zcl1, zlow_0, zlow_1, zlow_2, zlow_3, zlow_4, zfree_0, zfree_i, zfree_r, zfree_n, zfree_d, zfree_f, zfree_s, if_true, if_false, Option.bind_some, Option.toList_some, Option.toList_none, List.cons_append, List.nil_append, List.set_cons_zero, List.set_cons_succ, Bool.false_eq_true, reduceIte, zsw_c, zsw_n, Nat.reduceAdd, hY.cls, hsel, hsel2, sp_canRaise hW hY hL hk hf hb, hc, zb_t, z10, hY.f15, sp_catches hW hY hd hb, hY.r6, hY.w hb h8, vc_seconds hY hL hk hw hcle, hY.f16, nI_add, e16, f17, vc_falls (hL1 _) hk, e17, f15, (zclr_k _ hd b (by omega)).1, e15]
    rfl
  · refine hY.mov ?_ (fun k hk hq => ?_) (fun k h1 h2 => ?_) (fun a h1 h2 => ?_) (fun a h1 c h2 => ?_) (fun i h6 h7 h8 => by simp [liftN, h6, h7, h8])
    · rw [zcls_pf, zcls_pf, zcls_pf]; exact hY.cls
    · by_cases k15 : k = 15
      · subst k15; rw [zfld_same, f15]; rfl
      · rw [zfld_f (fun z => k15 z.symm)]
        by_cases k17 : k = 17
        · subst k17; rw [zfld_same, f17]; rfl
        · rw [zfld_f (fun z => k17 z.symm)]
          by_cases k16 : k = 16
          · subst k16; rw [zfld_same, hY.f16]; rfl
          · rw [zfld_f (fun z => k16 z.symm), hY.i k (by omega)]
            have : k < 6 ∨ k = 14 := by omega
            have e4 : (liftN N kd b) 4 = N 4 := rfl
            have els : lsF (liftN N kd b) (N 4) = lsF N (N 4) := lsF_c (fun i hi => by simp [liftN, show i ≠ 6 by omega, show i ≠ 7 by omega, show i ≠ 8 by omega]) _
            unfold yF
            rcases this with hk6 | rfl
            · rw [if_pos hk6, if_pos hk6]
              simp [liftN, show k ≠ 6 by omega, show k ≠ 7 by omega, show k ≠ 8 by omega]
            · simp only [show ¬ 14 < 6 by omega, if_false, if_true, e4, els]
    · rw [zfld_f (by omega), zfld_f (by omega), zfld_f (by omega)]
    · rw [zpf_o (by omega), zpf_o (by omega), zpf_o (by omega)]
    · rw [zpf_o (by omega), zpf_o (by omega), zpf_o (by omega)]; exact h2
  · exact (zsm_pf.tr zsm_pf).tr zsm_pf
