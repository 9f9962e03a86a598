/-! THE COMPONENT's LEAST ROWS -/
def FAR : Nat := 268435456
def coN (N : Nat → Nat) (g : Bool) (w b c : Nat) : Nat := if manN (N (65 + 2 * w)) (N (66 + 2 * w)) (N (9 + 2 * b)) c = true then (if g = true then falK (N (65 + 2 * w)) c * 4096 + secK N (N (65 + 2 * w)) (N (9 + 2 * b)) c else secK N (N (65 + 2 * w)) (N (9 + 2 * b)) c) else FAR
def llN (N : Nat → Nat) (S : Nat) (g : Bool) (b c : Nat) : Nat → Nat
  | 0 => FAR
  | w + 1 => if S.testBit w = true then min (llN N S g b c w) (coN N g w b c) else llN N S g b c w
def eF (o : Option (Nat × Nat)) : Nat := match o with
  | none => FAR
  | some p => enc 4096 p
def lrN (N : Nat → Nat) (S : Nat) (g : Bool) (d : Nat) : Nat → Nat
  | 0 => FAR
  | b + 1 => if freeN N d b = true then min (lrN N S g d b) (llN N S g b (catN N d b) (N 5) + eF (TT N S g (zclr d b))) else lrN N S g d b
section DPC
variable {N : Nat → Nat} {S : Nat} {g : Bool}
theorem coN_b (hW : WF N) {w b c : Nat} (hb : b < N 3) (hc : c ≤ 10) : coN N g w b c ≤ FAR := by
  have hs := secK_lt (kd := N (65 + 2 * w)) hW (hW.bk hb).1.2 hc
  have hf : falK (N (65 + 2 * w)) c ≤ 10 := by unfold falK; split <;> omega
  unfold coN FAR
  split
  · split <;> omega
  · omega
theorem llN_b {b c : Nat} : ∀ n, llN N S g b c n ≤ FAR
  | 0 => Nat.le_refl _
  | n + 1 => by
    have := llN_b (b := b) (c := c) n
    unfold llN
    split <;> omega
theorem llN_le {b c : Nat} : ∀ n w, w < n → S.testBit w = true → llN N S g b c n ≤ coN N g w b c
  | 0, w, h, _ => by omega
  | n + 1, w, h, hs => by
    unfold llN
    by_cases hwn : w = n
    · subst hwn
      rw [if_pos hs]
      omega
    · have := llN_le (b := b) (c := c) n w (by omega) hs
      split <;> omega
theorem llN_at {b c : Nat} : ∀ n, llN N S g b c n = FAR ∨ ∃ w, w < n ∧ S.testBit w = true ∧ llN N S g b c n = coN N g w b c
  | 0 => Or.inl rfl
  | n + 1 => by
    have ih := llN_at (b := b) (c := c) n
    unfold llN
    split
    · rename_i hs
      by_cases hm : llN N S g b c n ≤ coN N g n b c
      · rw [Nat.min_eq_left hm]
        rcases ih with ih | ⟨w, h1, h2, h3⟩
        · exact Or.inl ih
        · exact Or.inr ⟨w, by omega, h2, h3⟩
      · rw [Nat.min_eq_right (by omega)]
        exact Or.inr ⟨n, by omega, hs, rfl⟩
    · rcases ih with ih | ⟨w, h1, h2, h3⟩
      · exact Or.inl ih
      · exact Or.inr ⟨w, by omega, h2, h3⟩
theorem lrN_b {d : Nat} : ∀ n, lrN N S g d n ≤ FAR
  | 0 => Nat.le_refl _
  | n + 1 => by
    have := lrN_b (d := d) n
    unfold lrN
    split <;> omega
theorem lrN_le {d : Nat} : ∀ n b, b < n → freeN N d b = true → lrN N S g d n ≤ llN N S g b (catN N d b) (N 5) + eF (TT N S g (zclr d b))
  | 0, b, h, _ => by omega
  | n + 1, b, h, hs => by
    unfold lrN
    by_cases hbn : b = n
    · subst hbn
      rw [if_pos hs]
      omega
    · have := lrN_le (d := d) n b (by omega) hs
      split <;> omega
theorem lrN_at {d : Nat} : ∀ n, lrN N S g d n = FAR ∨ ∃ b, b < n ∧ freeN N d b = true ∧ lrN N S g d n = llN N S g b (catN N d b) (N 5) + eF (TT N S g (zclr d b))
  | 0 => Or.inl rfl
  | n + 1 => by
    have ih := lrN_at (d := d) n
    unfold lrN
    split
    · rename_i hs
      by_cases hm : lrN N S g d n ≤ llN N S g n (catN N d n) (N 5) + eF (TT N S g (zclr d n))
      · rw [Nat.min_eq_left hm]
        rcases ih with ih | ⟨w, h1, h2, h3⟩
        · exact Or.inl ih
        · exact Or.inr ⟨w, by omega, h2, h3⟩
      · rw [Nat.min_eq_right (by omega)]
        exact Or.inr ⟨n, by omega, hs, rfl⟩
    · rcases ih with ih | ⟨w, h1, h2, h3⟩
      · exact Or.inl ih
      · exact Or.inr ⟨w, by omega, h2, h3⟩
theorem eF_b (hW : WF N) {d : Nat} (hd : d < 256) : eF (TT N S g d) ≤ FAR ∧ (eF (TT N S g d) < FAR → ∃ p, TT N S g d = some p ∧ eF (TT N S g d) = enc 4096 p ∧ p.2 ≤ 2040) := by
  cases hT : TT N S g d with
  | none => exact ⟨Nat.le_refl _, fun z => absurd z (Nat.lt_irrefl _)⟩
  | some p =>
    have := TT_b2 hW hd hT
    refine ⟨?_, fun _ => ⟨p, rfl, rfl, this.2⟩⟩
    show enc 4096 p ≤ FAR
    unfold enc FAR
    omega
/-- a candidate, as the component counts it -/
theorem cv_iff (hW : WF N) {d w b : Nat} (hd : d < 256) (hb : b < N 3) (hs : S.testBit w = true) {X : Nat} (hX : X < FAR) : (freeN N d b = true ∧ coN N g w b (catN N d b) + eF (TT N S g (zclr d b)) = X) ↔ ∃ m, cvN N S g (TT N S g) d w b = some m ∧ enc 4096 m = X := by
  have h3 := hW.2.2.2.1.2
  have hr : zclr d b < 256 := Nat.lt_of_le_of_lt (zclr_k d hd b (by omega)).2 hd
  obtain ⟨e1, e2⟩ := eF_b (S := S) (g := g) hW hr
  constructor
  · rintro ⟨hf, hx⟩
    have hm : manN (N (65 + 2 * w)) (N (66 + 2 * w)) (N (9 + 2 * b)) (catN N d b) = true := by
      cases hq : manN (N (65 + 2 * w)) (N (66 + 2 * w)) (N (9 + 2 * b)) (catN N d b)
      · unfold coN at hx
        rw [hq, if_neg (by decide)] at hx
        omega
      · rfl
    obtain ⟨p, p1, p2, p3⟩ := e2 (by omega)
    have hc : canN N (N (65 + 2 * w)) (N (66 + 2 * w)) d b = true := by unfold canN; rw [hf, hm]; rfl
    refine ⟨_, by unfold cvN; rw [hs, hc, p1]; rfl, ?_⟩
    unfold coN at hx
    rw [hm, if_pos rfl, p2] at hx
    rw [← hx]
    unfold enc
    dsimp only
    cases g
    · rw [if_neg (by decide), if_neg (by decide)]
      omega
    · rw [if_pos rfl, if_pos rfl]
      omega
  · rintro ⟨m, hm, hx⟩
    unfold cvN at hm
    split at hm
    · rename_i hc
      rw [Bool.and_eq_true] at hc
      have hc2 := hc.2
      unfold canN at hc2
      rw [Bool.and_eq_true] at hc2
      cases hT : TT N S g (zclr d b) with
      | none => rw [hT] at hm; cases hm
      | some p =>
        rw [hT] at hm
        dsimp only at hm
        cases hm
        refine ⟨hc2.1, ?_⟩
        unfold coN
        rw [hc2.2, if_pos rfl, ← hx]
        show _ + enc 4096 p = _
        unfold enc
        dsimp only
        cases g
        · rw [if_neg (by decide), if_neg (by decide)]
          omega
        · rw [if_pos rfl, if_pos rfl]
          omega
    · cases hm
theorem lr_eq (hW : WF N) {d : Nat} (hd : d < 256) (h0 : 0 < d) : lrN N S g d (N 3) = eF (TT N S g d) := by
  have h3 := hW.2.2.2.1.2
  have hT := TT_s (N := N) (S := S) (g := g) h3 hd h0
  obtain ⟨b1, b2⟩ := dpW_ok (cv := fun w b => cvN N S g (TT N S g) d w b) (nb := N 3) (N 5)
  have hX := lrN_b (N := N) (S := S) (g := g) (d := d) (N 3)
  -- a value below FAR is a candidate's
  have low : lrN N S g d (N 3) < FAR → ∃ w b m, w < N 5 ∧ b < N 3 ∧ cvN N S g (TT N S g) d w b = some m ∧ enc 4096 m = lrN N S g d (N 3) := by
    intro hl
    rcases lrN_at (N := N) (S := S) (g := g) (d := d) (N 3) with e | ⟨b, hb, hf, e⟩
    · omega
    · rcases llN_at (N := N) (S := S) (g := g) (b := b) (c := catN N d b) (N 5) with e' | ⟨w, hw, hs, e'⟩
      · omega
      · rw [e'] at e
        obtain ⟨m, m1, m2⟩ := (cv_iff hW hd hb hs hl).mp ⟨hf, e.symm⟩
        exact ⟨w, b, m, hw, hb, m1, m2⟩
  cases hq : dpW (fun w b => cvN N S g (TT N S g) d w b) (N 3) (N 5) with
  | none =>
    rw [hT, hq]
    show _ = FAR
    refine Nat.le_antisymm hX (Nat.not_lt.mp (fun hl => ?_))
    obtain ⟨w, b, m, hw, hb, m1, m2⟩ := low hl
    have := b1 hq w b ⟨hw, hb⟩
    dsimp only at this
    rw [this] at m1
    cases m1
  | some pp =>
    obtain ⟨m, k⟩ := pp
    obtain ⟨w, b, ⟨hw, hb⟩, -, q3, q4, -⟩ := b2 m k hq
    dsimp only at q3 q4
    rw [hT, hq]
    show _ = enc 4096 m
    have hmb := cvN_bd hW hd hb q3
    have hme : enc 4096 m < FAR := by unfold enc FAR; omega
    have hs : S.testBit w = true := by
      unfold cvN at q3
      split at q3
      · rename_i z; rw [Bool.and_eq_true] at z; exact z.1
      · cases q3
    obtain ⟨hf, hx⟩ := (cv_iff hW hd hb hs hme).mpr ⟨m, q3, rfl⟩
    have u1 := lrN_le (N := N) (S := S) (g := g) (d := d) (N 3) b hb hf
    have u2 := llN_le (N := N) (S := S) (g := g) (b := b) (c := catN N d b) (N 5) w hw hs
    refine Nat.le_antisymm (by omega) ?_
    obtain ⟨w', b', m', hw', hb', m1, m2⟩ := low (by omega)
    have hn := q4 w' b' m' ⟨hw', hb'⟩ m1
    have hmb' := cvN_bd hW hd hb' m1
    have := enc_lt (K := 4096) (a := m') (b := m) (by omega) (by omega)
    rw [hn] at this
    have : ¬ enc 4096 m' < enc 4096 m := fun z => by cases this.mp z
    omega
theorem zpc_7 : ∀ x, x < 256 → ∀ b, b < 8 → x.testBit b = false → zpc x ≤ 7 := by decide +kernel
theorem zpc_and : ∀ {x d : Nat}, x < 256 → d < 256 → zpc (x &&& d) ≤ zpc x := by
  intro x d hx hd
  by_cases e : x &&& d = x
  · rw [e]; exact Nat.le_refl _
  · refine Nat.le_of_lt (zpc_sub (zand_k _ hx _ hd) hx (fun j _ h => ?_) e)
    rw [Nat.testBit_and, Bool.and_eq_true] at h
    exact h.1
theorem caF_7 (hW : WF N) {b : Nat} (hb : b < N 3) : caF N b (N 4) < 256 ∧ zpc (caF N b (N 4)) ≤ 7 := by
  have h3 := hW.2.2.2.1.2
  have hl : ∀ k, k < N 4 → N (26 + 4 * k) < 8 ∧ N (27 + 4 * k) < 8 := fun k hk => by have := hW.hd hk; omega
  refine ⟨caF_lt hl, zpc_7 _ (caF_lt hl) b (by omega) ?_⟩
  cases hq : (caF N b (N 4)).testBit b
  · rfl
  · obtain ⟨k, hk, -, -, h⟩ := caF_bit (show b < 8 by omega) hl hq
    have := (hW.hd hk).2.2.2.1
    omega
theorem catN_7 (hW : WF N) {d b : Nat} (hd : d < 256) (hb : b < N 3) : catN N d b ≤ zpc (caF N b (N 4)) := by
  unfold catN
  split
  · rw [← cat_eq hW hd (N 4) (Nat.le_refl _)]
    exact zpc_and (caF_7 hW hb).1 hd
  · exact Nat.zero_le _
end DPC
theorem zmin_nI {a b : Nat} (ha : a < 2 ^ 31) (hb : b < 2 ^ 31) : (if nI b < nI a then nI b else nI a) = nI (min a b) := by
  by_cases h : b < a
  · rw [if_pos (by rw [nI_ltP hb ha]; exact h), Nat.min_eq_right (by omega)]
  · rw [if_neg (by rw [nI_ltP hb ha]; exact h), Nat.min_eq_left (by omega)]
section DPD
variable {E : zE} {h : zH} {y s : Nat} {v : Int32} {N : Nat → Nat} {S : Nat} {g : Bool}
theorem sp_costOf {w b c : Nat} (hC : CO h y s v) (hY : YN h y N) (hW : WF N) (hw : w < N 5) (hb : b < N 3) (hc : c ≤ 10) : zcall zpp E 140 [.ref 0, .int (nI w), .int (nI b), .int (nI c), .int (zb g)] h = some (some (.int (nI (coN N g w b c))), h) := by
  have h3 := hW.2.2.2.1.2
  have c1 : zsel 9 [9, 73] = some 73 := rfl
  obtain ⟨q, e, hL⟩ := sp_lifterAt (E := E) hY hW.2.2.2.2.2.1 hw
  have hk := hW.kf hw
  have hwt := (hW.bk hb).1.2
  have e4 : ∀ x, nI x * (4096 : Int32) = nI (x * 4096) := fun x => pk_mul x 4096
  unfold coN
  cases hm : manN (N (65 + 2 * w)) (N (66 + 2 * w)) (N (9 + 2 * b)) c
  · rw [if_neg (by decide)]
    simp only [ze140, zi140_0, zi140_0n, zi140_1, zi140_4, zi140_5, zi140_8, zi140_8n, zi140_10, zi140_10n, zi140_12, zi140_12n, zi140_15, zi140_15n, zi140_17, zi140_17n, zi140_18, zi140_21, zi140_24, zi140_25, zi140_26, zi140_27, zi140_30, zi140_33, zi140_35 (sk := []), zi140_36, zi140_36n, zi140_38, zi140_38n, zi140_39, zi140_42, zi140_45, zi140_46, zi140_47, zi140_48, zi140_48n, zi140_49, zi140_52, zi140_55, zi140_57, zi140_59, zi140_62, zi140_62n, zi140_64, zi140_65, zi140_68, zi140_71, zi140_72, zi140_74, zi140_75, zi140_78, zi140_80 (sk := []), zcl1, zlow_0, zlow_1, zlow_2, zlow_3, zlow_4, zfree_0, zfree_i, zfree_r, zfree_n, zfree_d, zfree_f, zfree_s, if_true, if_false, Option.bind_some, Option.toList_some, Option.toList_none, List.cons_append, List.nil_append, List.set_cons_zero, List.set_cons_succ, Bool.false_eq_true, reduceIte, zsw_c, zsw_n, Nat.reduceAdd, hC.r7, hY.cls, c1, e, hY.r6, hY.w hb h3, vc_manages hL.2 hk.1 hk.2 hwt hc, hm, zb_f, z00]
    rfl
  · rw [if_pos rfl]
    cases g
    · rw [if_neg (by decide)]
      simp only [ze140, zi140_0, zi140_0n, zi140_1, zi140_4, zi140_5, zi140_8, zi140_8n, zi140_10, zi140_10n, zi140_12, zi140_12n, zi140_15, zi140_15n, zi140_17, zi140_17n, zi140_18, zi140_21, zi140_24, zi140_25, zi140_26, zi140_27, zi140_30, zi140_33, zi140_35 (sk := []), zi140_36, zi140_36n, zi140_38, zi140_38n, zi140_39, zi140_42, zi140_45, zi140_46, zi140_47, zi140_48, zi140_48n, zi140_49, zi140_52, zi140_55, zi140_57, zi140_59, zi140_62, zi140_62n, zi140_64, zi140_65, zi140_68, zi140_71, zi140_72, zi140_74, zi140_75, zi140_78, zi140_80 (sk := []), zcl1, zlow_0, zlow_1, zlow_2, zlow_3, zlow_4, zfree_0, zfree_i, zfree_r, zfree_n, zfree_d, zfree_f, zfree_s, if_true, if_false, Option.bind_some, Option.toList_some, Option.toList_none, List.cons_append, List.nil_append, List.set_cons_zero, List.set_cons_succ, Bool.false_eq_true, reduceIte, zsw_c, zsw_n, Nat.reduceAdd, hC.r7, hY.cls, c1, e, hY.r6, hY.w hb h3, vc_manages hL.2 hk.1 hk.2 hwt hc, hm, zb_t, z10, vc_seconds hY hL.2 hk.1 hwt hc, zb_f, z00]
    · rw [if_pos rfl]
      have e1 : zcall zpp E 140 [.ref 0, .int (nI w), .int (nI b), .int (nI c), .int (zb true)] h = zrun zpp E 140 (68, [.ref 0, .int (nI w), .int (nI b), .int (nI c), .int (zb true), .ref q, .int (nI (secK N (N (65 + 2 * w)) (N (9 + 2 * b)) c))], [.int (nI (falK (N (65 + 2 * w)) c))], h) := by
        conv =>
          lhs
          simp only [ze140, zi140_0, zi140_0n, zi140_1, zi140_4, zi140_5, zi140_8, zi140_8n, zi140_10, zi140_10n, zi140_12, zi140_12n, zi140_15, zi140_15n, zi140_17, zi140_17n, zi140_18, zi140_21, zi140_24, zi140_25, zi140_26, zi140_27, zi140_30, zi140_33, zi140_35 (sk := []), zi140_36, zi140_36n, zi140_38, zi140_38n, zi140_39, zi140_42, zi140_45, zi140_46, zi140_47, zi140_48, zi140_48n, zi140_49, zi140_52, zi140_55, zi140_57, zi140_59, zi140_62, zi140_62n, zi140_64, zi140_65, zcl1, zlow_0, zlow_1, zlow_2, zlow_3, zlow_4, zfree_0, zfree_i, zfree_r, zfree_n, zfree_d, zfree_f, zfree_s, if_true, if_false, Option.bind_some, Option.toList_some, Option.toList_none, List.cons_append, List.nil_append, List.set_cons_zero, List.set_cons_succ, Bool.false_eq_true, reduceIte, zsw_c, zsw_n, Nat.reduceAdd, hC.r7, hY.cls, c1, e, hY.r6, hY.w hb h3, vc_manages hL.2 hk.1 hk.2 hwt hc, hm, zb_t, z10, vc_seconds hY hL.2 hk.1 hwt hc, vc_falls hL.2 hk.1]
        rfl
      rw [e1]
      simp only [zi140_68, zi140_71, zi140_72, zi140_74, zi140_75, zi140_78, zi140_80 (sk := []), zcl1, zlow_0, zlow_1, zlow_2, zlow_3, zlow_4, zfree_0, zfree_i, zfree_r, zfree_n, zfree_d, zfree_f, zfree_s, if_true, if_false, Option.bind_some, Option.toList_some, Option.toList_none, List.cons_append, List.nil_append, List.set_cons_zero, List.set_cons_succ, Bool.false_eq_true, reduceIte, zsw_c, zsw_n, Nat.reduceAdd, e4, nI_add]
theorem sp_leastLift {b c : Nat} (hC : CO h y s v) (hY : YN h y N) (hW : WF N) (hS : S < 256) (hb : b < N 3) (hc : c ≤ 10) : zcall zpp E 139 [.ref 0, .int (nI S), .int (nI b), .int (nI c), .int (zb g)] h = some (some (.int (nI (llN N S g b c (N 5)))), h) := by
  have h5 := hW.2.2.2.2.2.1
  have c1 : zsel 10 [10, 140] = some 140 := rfl
  have loop : ∀ (m w : Nat), w + m = N 5 → zrun zpp E 139 (7, [.ref 0, .int (nI S), .int (nI b), .int (nI c), .int (zb g), .int (nI (llN N S g b c w)), .int (nI w)], [], h) = some (some (.int (nI (llN N S g b c (N 5)))), h) := by
    intro m
    induction m with
    | zero =>
      intro w hw
      simp only [zi139_7, zi139_9, zi139_9n, zi139_10, zi139_13, zcl1, zlow_0, zlow_1, zlow_2, zlow_3, zlow_4, zfree_0, zfree_i, zfree_r, zfree_n, zfree_d, zfree_f, zfree_s, if_true, if_false, Option.bind_some, Option.toList_some, Option.toList_none, List.cons_append, List.nil_append, List.set_cons_zero, List.set_cons_succ, Bool.false_eq_true, reduceIte, zsw_c, zsw_n, Nat.reduceAdd, hC.r7, hY.f5]
      rw [zi139_16, if_pos (by rw [nI_leP (by omega) (by omega)]; omega)]
      simp only [zi139_51, zi139_53 (sk := []), zcl1, zlow_0, zlow_1, zlow_2, zlow_3, zlow_4, zfree_0, zfree_i, zfree_r, zfree_n, zfree_d, zfree_f, zfree_s, if_true, if_false, Option.bind_some, Option.toList_some, Option.toList_none, List.cons_append, List.nil_append, List.set_cons_zero, List.set_cons_succ, Bool.false_eq_true, reduceIte, zsw_c, zsw_n, Nat.reduceAdd]
      rw [show w = N 5 by omega]
    | succ m ih =>
      intro w hw
      rw [← ih (w + 1) (by omega)]
      have hl := llN_b (N := N) (S := S) (g := g) (b := b) (c := c) w
      have hco := coN_b (g := g) (w := w) hW hb hc
      have e1 : llN N S g b c (w + 1) = if S.testBit w = true then min (llN N S g b c w) (coN N g w b c) else llN N S g b c w := rfl
      rw [e1]
      conv =>
        lhs
        simp only [zi139_7, zi139_9, zi139_9n, zi139_10, zi139_13, zcl1, zlow_0, zlow_1, zlow_2, zlow_3, zlow_4, zfree_0, zfree_i, zfree_r, zfree_n, zfree_d, zfree_f, zfree_s, if_true, if_false, Option.bind_some, Option.toList_some, Option.toList_none, List.cons_append, List.nil_append, List.set_cons_zero, List.set_cons_succ, Bool.false_eq_true, reduceIte, zsw_c, zsw_n, Nat.reduceAdd, hC.r7, hY.f5]
      rw [zi139_16, if_neg (by rw [nI_leP (by omega) (by omega)]; omega)]
      cases hs : S.testBit w
      · rw [if_neg (by decide)]
        conv =>
          lhs
          simp only [zi139_19, zi139_20, zi139_22, zi139_25, zi139_45, zi139_48, zcl1, zlow_0, zlow_1, zlow_2, zlow_3, zlow_4, zfree_0, zfree_i, zfree_r, zfree_n, zfree_d, zfree_f, zfree_s, if_true, if_false, Option.bind_some, Option.toList_some, Option.toList_none, List.cons_append, List.nil_append, List.set_cons_zero, List.set_cons_succ, Bool.false_eq_true, reduceIte, zsw_c, zsw_n, Nat.reduceAdd, sp_has8 hS (show w < 8 by omega), hs, zb_f, z00, ix_p1]
      · rw [if_pos rfl]
        conv =>
          lhs
          simp only [zi139_19, zi139_20, zi139_22, zi139_25, zi139_28, zi139_30, zi139_30n, zi139_31, zi139_33, zi139_34, zi139_35, zi139_37, zi139_40, zi139_43, zi139_45, zi139_48, zcl1, zlow_0, zlow_1, zlow_2, zlow_3, zlow_4, zfree_0, zfree_i, zfree_r, zfree_n, zfree_d, zfree_f, zfree_s, if_true, if_false, Option.bind_some, Option.toList_some, Option.toList_none, List.cons_append, List.nil_append, List.set_cons_zero, List.set_cons_succ, Bool.false_eq_true, reduceIte, zsw_c, zsw_n, Nat.reduceAdd, sp_has8 hS (show w < 8 by omega), hs, zb_t, z10, hC.1, c1, sp_costOf hC hY hW (show w < N 5 by omega) hb hc, zmin_nI (show llN N S g b c w < 2 ^ 31 by unfold FAR at hl; omega) (show coN N g w b c < 2 ^ 31 by unfold FAR at hco; omega), ix_p1]
  rw [← loop (N 5) 0 (by omega)]
  conv =>
    lhs
    simp only [ze139, zi139_0, zi139_2, zi139_4, zi139_5, zcl1, zlow_0, zlow_1, zlow_2, zlow_3, zlow_4, zfree_0, zfree_i, zfree_r, zfree_n, zfree_d, zfree_f, zfree_s, if_true, if_false, Option.bind_some, Option.toList_some, Option.toList_none, List.cons_append, List.nil_append, List.set_cons_zero, List.set_cons_succ, Bool.false_eq_true, reduceIte, zsw_c, zsw_n, Nat.reduceAdd]
  rfl
/-- the tables -/
def LCt (N : Nat → Nat) (S : Nat) (g : Bool) (h : zH) : Prop := ∃ f, zrow 0 h 14 64 f ∧ ∀ b c, b < N 3 → c ≤ zpc (caF N b (N 4)) → f (8 * b + c) = nI (llN N S g b c (N 5))
def RCt (N : Nat → Nat) (S : Nat) (g : Bool) (h : zH) (D : Nat) : Prop := ∃ f, zrow 0 h 15 256 f ∧ ∀ r, r < D → sub8 r (N 8) → f r = nI (eF (TT N S g r))
theorem ix_8 (b c : Nat) : nI b * (8 : Int32) + nI c = nI (8 * b + c) := by
  rw [show nI b * (8 : Int32) = nI (b * 8) from pk_mul b 8, nI_add, Nat.mul_comm]
theorem sp_leastRest {d : Nat} (hC : CO h y s v) (hY : YN h y N) (hW : WF N) (hL : LCt N S g h) (hR : RCt N S g h d) (hd : d < 256) (hs : sub8 d (N 8)) : zcall zpp E 141 [.ref 0, .int (nI d)] h = some (some (.int (nI (lrN N S g d (N 3)))), h) := by
  have h3 := hW.2.2.2.1.2
  have c1 : zsel 9 [9, 77] = some 77 := rfl
  have c2 : zsel 9 [9, 79] = some 79 := rfl
  obtain ⟨f, f1, f2⟩ := hL
  obtain ⟨q, q1, q2⟩ := hR
  have loop : ∀ (m b : Nat) (v4 : Value), b + m = N 3 → zrun zpp E 141 (5, [.ref 0, .int (nI d), .int (nI (lrN N S g d b)), .int (nI b), v4], [], h) = some (some (.int (nI (lrN N S g d (N 3)))), h) := by
    intro m
    induction m with
    | zero =>
      intro b v4 hb
      simp only [zi141_5, zi141_6, zi141_6n, zi141_7, zi141_10, zcl1, zlow_0, zlow_1, zlow_2, zlow_3, zlow_4, zfree_0, zfree_i, zfree_r, zfree_n, zfree_d, zfree_f, zfree_s, if_true, if_false, Option.bind_some, Option.toList_some, Option.toList_none, List.cons_append, List.nil_append, List.set_cons_zero, List.set_cons_succ, Bool.false_eq_true, reduceIte, zsw_c, zsw_n, Nat.reduceAdd, hC.r7, hY.f3]
      rw [zi141_13, if_pos (by rw [nI_leP (by omega) (by omega)]; omega)]
      simp only [zi141_75, zi141_76 (sk := []), zcl1, zlow_0, zlow_1, zlow_2, zlow_3, zlow_4, zfree_0, zfree_i, zfree_r, zfree_n, zfree_d, zfree_f, zfree_s, if_true, if_false, Option.bind_some, Option.toList_some, Option.toList_none, List.cons_append, List.nil_append, List.set_cons_zero, List.set_cons_succ, Bool.false_eq_true, reduceIte, zsw_c, zsw_n, Nat.reduceAdd]
      rw [show b = N 3 by omega]
    | succ m ih =>
      intro b v4 hb
      have e1 : lrN N S g d (b + 1) = if freeN N d b = true then min (lrN N S g d b) (llN N S g b (catN N d b) (N 5) + eF (TT N S g (zclr d b))) else lrN N S g d b := rfl
      have hd0 : zrun zpp E 141 (5, [.ref 0, .int (nI d), .int (nI (lrN N S g d b)), .int (nI b), v4], [], h) = zrun zpp E 141 (16, [.ref 0, .int (nI d), .int (nI (lrN N S g d b)), .int (nI b), v4], [], h) := by
        conv =>
          lhs
          simp only [zi141_5, zi141_6, zi141_6n, zi141_7, zi141_10, zcl1, zlow_0, zlow_1, zlow_2, zlow_3, zlow_4, zfree_0, zfree_i, zfree_r, zfree_n, zfree_d, zfree_f, zfree_s, if_true, if_false, Option.bind_some, Option.toList_some, Option.toList_none, List.cons_append, List.nil_append, List.set_cons_zero, List.set_cons_succ, Bool.false_eq_true, reduceIte, zsw_c, zsw_n, Nat.reduceAdd, hC.r7, hY.f3]
        rw [zi141_13, if_neg (by rw [nI_leP (by omega) (by omega)]; omega)]
      cases hf : freeN N d b
      · rw [hf, if_neg (by decide)] at e1
        rw [hd0, ← ih (b + 1) v4 (by omega), e1]
        conv =>
          lhs
          simp only [zi141_16, zi141_16n, zi141_17, zi141_20, zi141_21, zi141_22, zi141_25, zi141_69, zi141_72, zcl1, zlow_0, zlow_1, zlow_2, zlow_3, zlow_4, zfree_0, zfree_i, zfree_r, zfree_n, zfree_d, zfree_f, zfree_s, if_true, if_false, Option.bind_some, Option.toList_some, Option.toList_none, List.cons_append, List.nil_append, List.set_cons_zero, List.set_cons_succ, Bool.false_eq_true, reduceIte, zsw_c, zsw_n, Nat.reduceAdd, hC.r7, hY.cls, c1, sp_isFree hW hY hd (show b < N 3 by omega), hf, zb_f, z00, ix_p1]
      · rw [hf, if_pos rfl] at e1
        have hbit : d.testBit b = true := by
          unfold freeN at hf
          rw [Bool.and_eq_true] at hf
          exact hf.1
        have hlt := zclr_l d hd b (by omega) hbit
        have hc7 := catN_7 hW hd (show b < N 3 by omega)
        have h77 := (caF_7 hW (show b < N 3 by omega)).2
        have g1 := zarr_at (j := 8 * b + catN N d b) f1 (by omega) (by omega)
        rw [f2 b _ (by omega) hc7] at g1
        have hsub : sub8 (zclr d b) (N 8) := fun j hj hz => by
          rw [zclr_bit d hd b (by omega) j hj, Bool.and_eq_true] at hz
          exact hs j hj hz.1
        have g2 := zarr_at (j := zclr d b) q1 (by omega) (by omega)
        rw [q2 _ hlt hsub] at g2
        have hl := lrN_b (N := N) (S := S) (g := g) (d := d) b
        have hl2 := llN_b (N := N) (S := S) (g := g) (b := b) (c := catN N d b) (N 5)
        have he := (eF_b (S := S) (g := g) hW (show zclr d b < 256 by omega)).1
        unfold FAR at hl hl2 he
        rw [hd0, ← ih (b + 1) (.int (nI (llN N S g b (catN N d b) (N 5)))) (by omega), e1]
        conv =>
          lhs
          simp only [zi141_16, zi141_16n, zi141_17, zi141_20, zi141_21, zi141_22, zi141_25, zi141_28, zi141_28n, zi141_29, zi141_32, zi141_33, zi141_35, zi141_36, zi141_36n, zi141_37, zi141_40, zi141_41, zi141_42, zi141_45, zi141_46, zi141_47, zi141_49, zi141_50, zi141_52, zi141_52n, zi141_53, zi141_56, zi141_57, zi141_58, zi141_59, zi141_60, zi141_61, zi141_62, zi141_63, zi141_64, zi141_65, zi141_68, zi141_69, zi141_72, zcl1, zlow_0, zlow_1, zlow_2, zlow_3, zlow_4, zfree_0, zfree_i, zfree_r, zfree_n, zfree_d, zfree_f, zfree_s, if_true, if_false, Option.bind_some, Option.toList_some, Option.toList_none, List.cons_append, List.nil_append, List.set_cons_zero, List.set_cons_succ, Bool.false_eq_true, reduceIte, zsw_c, zsw_n, Nat.reduceAdd, hC.r7, hY.cls, c1, sp_isFree hW hY hd (show b < N 3 by omega), hf, zb_t, z10, hC.r5, c2, sp_catches hW hY hd (show b < N 3 by omega), ix_8, g1, hC.r6, (zclr_k d hd b (show b < 8 by omega)).1, g2, nI_add, zmin_nI (show lrN N S g d b < 2 ^ 31 by omega) (show llN N S g b (catN N d b) (N 5) + eF (TT N S g (zclr d b)) < 2 ^ 31 by omega), ix_p1]
  rw [← loop (N 3) 0 (.retAddr 0) (by omega)]
  conv =>
    lhs
    simp only [ze141, zi141_0, zi141_2, zi141_3, zi141_4, zcl1, zlow_0, zlow_1, zlow_2, zlow_3, zlow_4, zfree_0, zfree_i, zfree_r, zfree_n, zfree_d, zfree_f, zfree_s, if_true, if_false, Option.bind_some, Option.toList_some, Option.toList_none, List.cons_append, List.nil_append, List.set_cons_zero, List.set_cons_succ, Bool.false_eq_true, reduceIte, zsw_c, zsw_n, Nat.reduceAdd]
  rfl

end DPD
