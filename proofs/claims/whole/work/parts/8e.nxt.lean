/-! THE TEXT: the model's tokens -/
def mvN (t : Nat → Nat) (p k : Nat) : Nat := if k = 1 then t p - 48 else 10 * (t p - 48) + (t (p + 1) - 48)
section NXT
variable {E : zE} {T : Nat → Int32} {t : Nat → Nat} {L : Nat}
/-- what is kept of the model's numbers while it reads on -/
def scK (sc sc' : Nat → Int32) : Prop := ∀ k, k ≠ 11 → k ≠ 12 → k ≠ 13 → k ≠ 14 → sc' k = sc k
theorem scK.tr {a b c : Nat → Int32} (h : scK a b) (g : scK b c) : scK a c := fun k h1 h2 h3 h4 => (g k h1 h2 h3 h4).trans (h k h1 h2 h3 h4)
theorem scK_u {sc : Nat → Int32} {j : Nat} {v : Int32} (hj : j = 11 ∨ j = 12 ∨ j = 13 ∨ j = 14) : scK sc (upd sc j v) := fun k h1 h2 h3 h4 => by
  unfold upd
  rw [if_neg (by omega)]
theorem nxtL {p : Nat} (hL : L ≤ 120) (hp : p < L) (hT : tpO T t L) (hf : fig (t p) = true) : ∀ (m k : Nat) (H : zH) (sc : Nat → Int32), p + k + m = L → 1 ≤ k → rnN t L p = rnN t L (p + k) → (2 ≤ k → fig (t (p + 1)) = true) → MdO H sc → zrow 0 H 80 120 T → sc 10 = nI L → sc 11 = nI (p + k) → sc 12 = nI p → sc 14 = nI (mvN t p k) → ∃ h' sc', zrun zpp E 158 (165, [.ref 73], [], H) = some (none, h') ∧ MdO h' sc' ∧ sc' 11 = nI (rnN t L p) ∧ sc' 12 = nI p ∧ sc' 13 = nI (if rnN t L p - p ≤ 2 then 3 else 0) ∧ sc' 14 = nI (mvN t p (rnN t L p - p)) ∧ scK sc sc' ∧ zsm (fun a => a = 73) H h' := by
  have h48 : ∀ c, fig c = true → 48 ≤ c ∧ c ≤ 57 := fun c h => by
    unfold fig at h
    rw [Bool.and_eq_true, decide_eq_true_eq, decide_eq_true_eq] at h
    exact h
  have fin : ∀ (k : Nat) (H : zH) (sc : Nat → Int32), p + k ≤ L → rnN t L p = p + k → MdO H sc → sc 11 = nI (p + k) → sc 12 = nI p → sc 14 = nI (mvN t p k) → zrun zpp E 158 (165, [.ref 73], [], H) = zrun zpp E 158 (255, [.ref 73], [], H) → ∃ h' sc', zrun zpp E 158 (165, [.ref 73], [], H) = some (none, h') ∧ MdO h' sc' ∧ sc' 11 = nI (rnN t L p) ∧ sc' 12 = nI p ∧ sc' 13 = nI (if rnN t L p - p ≤ 2 then 3 else 0) ∧ sc' 14 = nI (mvN t p (rnN t L p - p)) ∧ scK sc sc' ∧ zsm (fun a => a = 73) H h' := by
    intro k H sc hk en hM h11 h12 h14 e
    have f11 := hM.i 11 rfl (by omega)
    rw [h11] at f11
    have f12 := hM.i 12 rfl (by omega)
    rw [h12] at f12
    have ed : nI (p + k) - nI p = nI k := by rw [pk_sub (by omega), Nat.add_sub_cancel_left]
    have e1 : zrun zpp E 158 (255, [.ref 73], [], H) = some (none, zpf H 73 13 (.int (nI (if k ≤ 2 then 3 else 0)))) := by
      have e2 : zrun zpp E 158 (255, [.ref 73], [], H) = zrun zpp E 158 (266, [.ref 73], [.int 2, .int (nI k), .ref 73], H) := by
        conv =>
          lhs
          simp only [zi158_255, zi158_255n, zi158_256, zi158_256n, zi158_257, zi158_260, zi158_260n, zi158_261, zi158_264, zi158_265, zcl1, zlow_0, zlow_1, zlow_2, zlow_3, zlow_4, zfree_0, zfree_i, zfree_r, zfree_n, zfree_d, zfree_f, zfree_s, if_true, if_false, Option.bind_some, Option.toList_some, Option.toList_none, List.cons_append, List.nil_append, List.set_cons_zero, List.set_cons_succ, Bool.false_eq_true, reduceIte, zsw_c, zsw_n, Nat.reduceAdd, f11, f12, ed]
      rw [e2]
      by_cases hk2 : k ≤ 2
      · rw [if_pos hk2, zi158_266, if_pos (by rw [show (2 : Int32) = nI 2 from rfl, nI_leP (by omega) (by omega)]; omega)]
        simp only [zi158_269, zi158_270, zi158_273, zi158_274, zi158_277 (sk := []), zcl1, zlow_0, zlow_1, zlow_2, zlow_3, zlow_4, zfree_0, zfree_i, zfree_r, zfree_n, zfree_d, zfree_f, zfree_s, if_true, if_false, Option.bind_some, Option.toList_some, Option.toList_none, List.cons_append, List.nil_append, List.set_cons_zero, List.set_cons_succ, Bool.false_eq_true, reduceIte, zsw_c, zsw_n, Nat.reduceAdd, hM.st 13 rfl (by omega)]
        rfl
      · rw [if_neg hk2, zi158_266, if_neg (by rw [show (2 : Int32) = nI 2 from rfl, nI_leP (by omega) (by omega)]; omega)]
        simp only [zi158_269, zi158_270, zi158_273, zi158_274, zi158_277 (sk := []), zcl1, zlow_0, zlow_1, zlow_2, zlow_3, zlow_4, zfree_0, zfree_i, zfree_r, zfree_n, zfree_d, zfree_f, zfree_s, if_true, if_false, Option.bind_some, Option.toList_some, Option.toList_none, List.cons_append, List.nil_append, List.set_cons_zero, List.set_cons_succ, Bool.false_eq_true, reduceIte, zsw_c, zsw_n, Nat.reduceAdd, hM.st 13 rfl (by omega)]
        rfl
    refine ⟨_, _, e.trans e1, hM.put 13 rfl (by omega) _, by rw [en]; exact h11, h12, ?_, ?_, scK_u (by omega), zsm_pf⟩
    · rw [en, Nat.add_sub_cancel_left]
      rfl
    · rw [en, Nat.add_sub_cancel_left]
      exact h14
  intro m
  induction m with
  | zero =>
    intro k H sc hk k1 hn hf1 hM hR h10 h11 h12 h14
    have f10 := hM.i 10 rfl (by omega)
    rw [h10] at f10
    have f11 := hM.i 11 rfl (by omega)
    rw [h11] at f11
    refine fin k H sc (by omega) (by rw [hn, rn_eq, if_neg (fun z => by omega)]) hM h11 h12 h14 ?_
    conv =>
      lhs
      simp only [zi158_165, zi158_165n, zi158_166, zi158_169, zi158_169n, zi158_170, zcl1, zlow_0, zlow_1, zlow_2, zlow_3, zlow_4, zfree_0, zfree_i, zfree_r, zfree_n, zfree_d, zfree_f, zfree_s, if_true, if_false, Option.bind_some, Option.toList_some, Option.toList_none, List.cons_append, List.nil_append, List.set_cons_zero, List.set_cons_succ, Bool.false_eq_true, reduceIte, zsw_c, zsw_n, Nat.reduceAdd, f10, f11]
    rw [zi158_173, if_pos (by rw [nI_leP (by omega) (by omega)]; omega)]
  | succ m ih =>
    intro k H sc hk k1 hn hf1 hM hR h10 h11 h12 h14
    have f10 := hM.i 10 rfl (by omega)
    rw [h10] at f10
    have f11 := hM.i 11 rfl (by omega)
    rw [h11] at f11
    have f12 := hM.i 12 rfl (by omega)
    rw [h12] at f12
    have f14 := hM.i 14 rfl (by omega)
    rw [h14] at f14
    obtain ⟨t1, t2⟩ := hT (p + k) (by omega)
    have g := zarr_at (j := p + k) hR (by omega) (by omega)
    rw [t2] at g
    have i48 := fun (H : zH) => sp_inI (E := E) (h := H) (u := (nI (t (p + k))).toInt64) (v := 48) (w := 57) (x := nI (t (p + k))) (a := 48) (b := 57) rfl (by decide) (by decide)
    have ef : (decide ((48 : Int32) ≤ nI (t (p + k))) && decide (nI (t (p + k)) ≤ 57)) = fig (t (p + k)) := by
      unfold fig
      rw [show (48 : Int32) = nI 48 from rfl, show (57 : Int32) = nI 57 from rfl]
      congr 1
      · exact decide_eq_decide.mpr (nI_leI (by omega) (by omega))
      · exact decide_eq_decide.mpr (nI_leI (by omega) (by omega))
    have e0 : zrun zpp E 158 (165, [.ref 73], [], H) = zrun zpp E 158 (195, [.ref 73], [.int (zb (fig (t (p + k))))], H) := by
      conv =>
        lhs
        simp only [zi158_165, zi158_165n, zi158_166, zi158_169, zi158_169n, zi158_170, zcl1, zlow_0, zlow_1, zlow_2, zlow_3, zlow_4, zfree_0, zfree_i, zfree_r, zfree_n, zfree_d, zfree_f, zfree_s, if_true, if_false, Option.bind_some, Option.toList_some, Option.toList_none, List.cons_append, List.nil_append, List.set_cons_zero, List.set_cons_succ, Bool.false_eq_true, reduceIte, zsw_c, zsw_n, Nat.reduceAdd, f10, f11]
      rw [zi158_173, if_neg (by rw [nI_leP (by omega) (by omega)]; omega)]
      conv =>
        lhs
        simp only [zi158_176, zi158_176n, zi158_177, zi158_180, zi158_180n, zi158_181, zi158_184, zi158_185, zi158_186, zi158_189, zi158_192, zcl1, zlow_0, zlow_1, zlow_2, zlow_3, zlow_4, zfree_0, zfree_i, zfree_r, zfree_n, zfree_d, zfree_f, zfree_s, if_true, if_false, Option.bind_some, Option.toList_some, Option.toList_none, List.cons_append, List.nil_append, List.set_cons_zero, List.set_cons_succ, Bool.false_eq_true, reduceIte, zsw_c, zsw_n, Nat.reduceAdd, hM.r9, f11, g, i48, ef]
    cases hf2 : fig (t (p + k))
    · refine fin k H sc (by omega) (by rw [hn, rn_eq, if_neg (fun z => by rw [hf2] at z; cases z.2)]) hM h11 h12 h14 ?_
      rw [e0, hf2]
      conv =>
        lhs
        simp only [zi158_195, zcl1, zlow_0, zlow_1, zlow_2, zlow_3, zlow_4, zfree_0, zfree_i, zfree_r, zfree_n, zfree_d, zfree_f, zfree_s, if_true, if_false, Option.bind_some, Option.toList_some, Option.toList_none, List.cons_append, List.nil_append, List.set_cons_zero, List.set_cons_succ, Bool.false_eq_true, reduceIte, zsw_c, zsw_n, Nat.reduceAdd, zb_f, z00]
    · have hc := h48 _ hf2
      have h0 := h48 _ hf
      have ed : nI (p + k) - nI p = nI k := by rw [pk_sub (by omega), Nat.add_sub_cancel_left]
      have en : rnN t L p = rnN t L (p + (k + 1)) := by rw [hn, rn_eq, if_pos ⟨by omega, hf2⟩]; rfl
      -- the value's next
      have stp : ∀ x : Nat, x = mvN t p (k + 1) → zrun zpp E 158 (198, [.ref 73], [], H) = zrun zpp E 158 (239, [.ref 73], [.int (nI x), .ref 73], H) → ∃ h' sc', zrun zpp E 158 (165, [.ref 73], [], H) = some (none, h') ∧ MdO h' sc' ∧ sc' 11 = nI (rnN t L p) ∧ sc' 12 = nI p ∧ sc' 13 = nI (if rnN t L p - p ≤ 2 then 3 else 0) ∧ sc' 14 = nI (mvN t p (rnN t L p - p)) ∧ scK sc sc' ∧ zsm (fun a => a = 73) H h' := by
        intro x hx e1
        have M1 := hM.put 14 rfl (by omega) (nI x)
        have g11 : zfld [11] (zpf H 73 14 (.int (nI x))) 73 11 = some (.int (nI (p + k))) := (zfld_f (by decide)).trans f11
        have M2 := M1.put 11 rfl (by omega) (nI (p + k + 1))
        obtain ⟨h', sc', a1, a2, a3, a4, a5, a6, a7, a8⟩ := ih (k + 1) _ _ (by omega) (by omega) en (fun hk2 => by
          by_cases hk1 : k = 1
          · subst hk1; exact hf2
          · exact hf1 (by omega)) M2 (zrow_pf (zrow_pf hR)) h10 rfl h12 (by rw [← hx]; rfl)
        refine ⟨h', sc', ?_, a2, a3, a4, a5, a6, ((scK_u (by omega)).tr (scK_u (by omega))).tr a7, (zsm_pf.tr zsm_pf).tr a8⟩
        rw [e0, hf2, ← a1]
        have e2 : zrun zpp E 158 (195, [.ref 73], [.int (zb true)], H) = zrun zpp E 158 (198, [.ref 73], [], H) := by
          conv =>
            lhs
            simp only [zi158_195, zcl1, zlow_0, zlow_1, zlow_2, zlow_3, zlow_4, zfree_0, zfree_i, zfree_r, zfree_n, zfree_d, zfree_f, zfree_s, if_true, if_false, Option.bind_some, Option.toList_some, Option.toList_none, List.cons_append, List.nil_append, List.set_cons_zero, List.set_cons_succ, Bool.false_eq_true, reduceIte, zsw_c, zsw_n, Nat.reduceAdd, zb_t, z10]
        rw [e2, e1]
        conv =>
          lhs
          simp only [zi158_239, zi158_242, zi158_242n, zi158_243, zi158_243i, zi158_244, zi158_247, zi158_248, zi158_249, zi158_252, zcl1, zlow_0, zlow_1, zlow_2, zlow_3, zlow_4, zfree_0, zfree_i, zfree_r, zfree_n, zfree_d, zfree_f, zfree_s, if_true, if_false, Option.bind_some, Option.toList_some, Option.toList_none, List.cons_append, List.nil_append, List.set_cons_zero, List.set_cons_succ, Bool.false_eq_true, reduceIte, zsw_c, zsw_n, Nat.reduceAdd, hM.st 14 rfl (by omega), g11, ix_p1, M1.st 11 rfl (by omega)]
      have e1 : zrun zpp E 158 (198, [.ref 73], [], H) = zrun zpp E 158 (209, [.ref 73], [.int 2, .int (nI k), .ref 73], H) := by
        conv =>
          lhs
          simp only [zi158_198, zi158_198n, zi158_199, zi158_199n, zi158_200, zi158_203, zi158_203n, zi158_204, zi158_207, zi158_208, zcl1, zlow_0, zlow_1, zlow_2, zlow_3, zlow_4, zfree_0, zfree_i, zfree_r, zfree_n, zfree_d, zfree_f, zfree_s, if_true, if_false, Option.bind_some, Option.toList_some, Option.toList_none, List.cons_append, List.nil_append, List.set_cons_zero, List.set_cons_succ, Bool.false_eq_true, reduceIte, zsw_c, zsw_n, Nat.reduceAdd, f11, f12, ed]
      by_cases hk1 : k = 1
      · subst hk1
        have h14' : zfld [11] H 73 14 = some (.int (nI (t p - 48))) := f14
        have ev : (10 : Int32) * nI (t p - 48) + nI (t (p + 1)) - 48 = nI (10 * (t p - 48) + (t (p + 1) - 48)) := by
          rw [show (10 : Int32) * nI (t p - 48) = nI (10 * (t p - 48)) from pk_mul 10 _, nI_add]
          rw [show (48 : Int32) = nI 48 from rfl, pk_sub (by omega), show 10 * (t p - 48) + t (p + 1) - 48 = 10 * (t p - 48) + (t (p + 1) - 48) by omega]
        refine stp (10 * (t p - 48) + (t (p + 1) - 48)) rfl ?_
        rw [e1, zi158_209, if_neg (by decide)]
        conv =>
          lhs
          simp only [zi158_212, zi158_214, zi158_214n, zi158_215, zi158_218, zi158_219, zi158_219n, zi158_220, zi158_223, zi158_223n, zi158_224, zi158_227, zi158_228, zi158_229, zi158_231, zi158_232, zcl1, zlow_0, zlow_1, zlow_2, zlow_3, zlow_4, zfree_0, zfree_i, zfree_r, zfree_n, zfree_d, zfree_f, zfree_s, if_true, if_false, Option.bind_some, Option.toList_some, Option.toList_none, List.cons_append, List.nil_append, List.set_cons_zero, List.set_cons_succ, Bool.false_eq_true, reduceIte, zsw_c, zsw_n, Nat.reduceAdd, h14', hM.r9, f11, g, ev]
      · refine stp (mvN t p k) (by unfold mvN; rw [if_neg hk1, if_neg (by omega)]) ?_
        rw [e1, zi158_209, if_pos (by rw [show (2 : Int32) = nI 2 from rfl, nI_leP (by omega) (by omega)]; omega)]
        conv =>
          lhs
          simp only [zi158_235, zi158_235n, zi158_236, zcl1, zlow_0, zlow_1, zlow_2, zlow_3, zlow_4, zfree_0, zfree_i, zfree_r, zfree_n, zfree_d, zfree_f, zfree_s, if_true, if_false, Option.bind_some, Option.toList_some, Option.toList_none, List.cons_append, List.nil_append, List.set_cons_zero, List.set_cons_succ, Bool.false_eq_true, reduceIte, zsw_c, zsw_n, Nat.reduceAdd, f14]
theorem sp_next {h : zH} {sc : Nat → Int32} {p : Nat} (hL : L ≤ 120) (hp : p ≤ L) (hT : tpO T t L) (hM : MdO h sc) (hR : zrow 0 h 80 120 T) (h10 : sc 10 = nI L) (h11 : sc 11 = nI p) : ∃ h' sc', zcall zpp E 158 [.ref 73] h = some (none, h') ∧ MdO h' sc' ∧ sc' 11 = nI (tkX t L p) ∧ sc' 12 = nI p ∧ sc' 13 = nI (tkK t L p) ∧ (2 ≤ tkK t L p → sc' 14 = nI (tkV t L p)) ∧ scK sc sc' ∧ zsm (fun a => a = 73) h h' := by
  have f10 := hM.i 10 rfl (by omega)
  rw [h10] at f10
  have f11 := hM.i 11 rfl (by omega)
  rw [h11] at f11
  have M1 := hM.put 12 rfl (by omega) (nI p)
  have g10 : zfld [11] (zpf h 73 12 (.int (nI p))) 73 10 = some (.int (nI L)) := (zfld_f (by decide)).trans f10
  have g11 : zfld [11] (zpf h 73 12 (.int (nI p))) 73 11 = some (.int (nI p)) := (zfld_f (by decide)).trans f11
  have e0 : zcall zpp E 158 [.ref 73] h = zrun zpp E 158 (17, [.ref 73], [.int (nI L), .int (nI p), .ref 73], zpf h 73 12 (.int (nI p))) := by
    conv =>
      lhs
      simp only [ze158, zi158_0, zi158_0n, zi158_1, zi158_1n, zi158_2, zi158_5, zi158_8, zi158_8n, zi158_9, zi158_9n, zi158_10, zi158_13, zi158_13n, zi158_14, zcl1, zlow_0, zlow_1, zlow_2, zlow_3, zlow_4, zfree_0, zfree_i, zfree_r, zfree_n, zfree_d, zfree_f, zfree_s, if_true, if_false, Option.bind_some, Option.toList_some, Option.toList_none, List.cons_append, List.nil_append, List.set_cons_zero, List.set_cons_succ, Bool.false_eq_true, reduceIte, zsw_c, zsw_n, Nat.reduceAdd, f11, hM.st 12 rfl (by omega), g11, g10]
  -- token k and value x laid, the place that follows y
  have lay : ∀ (x : Int32) (k y : Nat), zrun zpp E 158 (17, [.ref 73], [.int (nI L), .int (nI p), .ref 73], zpf h 73 12 (.int (nI p))) = zrun zpp E 158 (118, [.ref 73], [.int (nI k), .ref 73], zpf (zpf h 73 12 (.int (nI p))) 73 14 (.int x)) → (L ≤ p → y = p) → (p < L → y = p + 1) → k ≤ 4 → ∃ sc4, zcall zpp E 158 [.ref 73] h = zrun zpp E 158 (151, [.ref 73], [.int 3, .int (nI k)], zpf (zpf (zpf (zpf h 73 12 (.int (nI p))) 73 14 (.int x)) 73 13 (.int (nI k))) 73 11 (.int (nI y))) ∧ MdO (zpf (zpf (zpf (zpf h 73 12 (.int (nI p))) 73 14 (.int x)) 73 13 (.int (nI k))) 73 11 (.int (nI y))) sc4 ∧ sc4 11 = nI y ∧ sc4 12 = nI p ∧ sc4 13 = nI k ∧ sc4 14 = x ∧ scK sc sc4 := by
    intro x k y e hy1 hy2 hk
    have M2 := M1.put 14 rfl (by omega) x
    have M3 := M2.put 13 rfl (by omega) (nI k)
    have M4 := M3.put 11 rfl (by omega) (nI y)
    have q11 : zfld [11] (zpf (zpf (zpf h 73 12 (.int (nI p))) 73 14 (.int x)) 73 13 (.int (nI k))) 73 11 = some (.int (nI p)) := (zfld_f (by decide)).trans ((zfld_f (by decide)).trans g11)
    have q10 : zfld [11] (zpf (zpf (zpf h 73 12 (.int (nI p))) 73 14 (.int x)) 73 13 (.int (nI k))) 73 10 = some (.int (nI L)) := (zfld_f (by decide)).trans ((zfld_f (by decide)).trans g10)
    have q13 : zfld [11] (zpf (zpf (zpf (zpf h 73 12 (.int (nI p))) 73 14 (.int x)) 73 13 (.int (nI k))) 73 11 (.int (nI y))) 73 13 = some (.int (nI k)) := M4.i 13 rfl (by omega)
    refine ⟨_, ?_, M4, rfl, rfl, rfl, rfl, (((scK_u (by omega)).tr (scK_u (by omega))).tr (scK_u (by omega))).tr (scK_u (by omega))⟩
    rw [e0, e]
    have e1 : zrun zpp E 158 (118, [.ref 73], [.int (nI k), .ref 73], zpf (zpf h 73 12 (.int (nI p))) 73 14 (.int x)) = zrun zpp E 158 (134, [.ref 73], [.int (nI L), .int (nI p), .int (nI p), .ref 73], zpf (zpf (zpf h 73 12 (.int (nI p))) 73 14 (.int x)) 73 13 (.int (nI k))) := by
      conv =>
        lhs
        simp only [zi158_118, zi158_121, zi158_121n, zi158_122, zi158_122i, zi158_123, zi158_126, zi158_126n, zi158_127, zi158_130, zi158_130n, zi158_131, zcl1, zlow_0, zlow_1, zlow_2, zlow_3, zlow_4, zfree_0, zfree_i, zfree_r, zfree_n, zfree_d, zfree_f, zfree_s, if_true, if_false, Option.bind_some, Option.toList_some, Option.toList_none, List.cons_append, List.nil_append, List.set_cons_zero, List.set_cons_succ, Bool.false_eq_true, reduceIte, zsw_c, zsw_n, Nat.reduceAdd, M2.st 13 rfl (by omega), q11, q10]
    rw [e1]
    by_cases hpL : L ≤ p
    · rw [zi158_134, if_pos (by rw [nI_leP (by omega) (by omega)]; omega)]
      have ey := hy1 hpL
      subst ey
      have w11 : zstf [11] 0 (zpf (zpf (zpf h 73 12 (.int (nI y))) 73 14 (.int x)) 73 13 (.int (nI k))) 73 11 (.int (nI (y + 0))) = some (zpf (zpf (zpf (zpf h 73 12 (.int (nI y))) 73 14 (.int x)) 73 13 (.int (nI k))) 73 11 (.int (nI y))) := M3.st 11 rfl (by omega) _
      conv =>
        lhs
        simp only [zi158_141, zi158_142, zi158_143, zi158_146, zi158_146n, zi158_147, zi158_150, zcl1, zlow_0, zlow_1, zlow_2, zlow_3, zlow_4, zfree_0, zfree_i, zfree_r, zfree_n, zfree_d, zfree_f, zfree_s, if_true, if_false, Option.bind_some, Option.toList_some, Option.toList_none, List.cons_append, List.nil_append, List.set_cons_zero, List.set_cons_succ, Bool.false_eq_true, reduceIte, zsw_c, zsw_n, Nat.reduceAdd, ix_p0, w11, q13]
    · rw [zi158_134, if_neg (by rw [nI_leP (by omega) (by omega)]; omega)]
      have ey := hy2 (by omega)
      subst ey
      conv =>
        lhs
        simp only [zi158_137, zi158_138, zi158_141, zi158_142, zi158_143, zi158_146, zi158_146n, zi158_147, zi158_150, zcl1, zlow_0, zlow_1, zlow_2, zlow_3, zlow_4, zfree_0, zfree_i, zfree_r, zfree_n, zfree_d, zfree_f, zfree_s, if_true, if_false, Option.bind_some, Option.toList_some, Option.toList_none, List.cons_append, List.nil_append, List.set_cons_zero, List.set_cons_succ, Bool.false_eq_true, reduceIte, zsw_c, zsw_n, Nat.reduceAdd, ix_p1, M3.st 11 rfl (by omega), q13]
  by_cases hpL : L ≤ p
  · have epL : p = L := by omega
    have M2 := M1.put 14 rfl (by omega) (-1000000)
    have q11 : zfld [11] (zpf (zpf h 73 12 (.int (nI p))) 73 14 (.int (-1000000))) 73 11 = some (.int (nI p)) := (zfld_f (by decide)).trans g11
    have q10 : zfld [11] (zpf (zpf h 73 12 (.int (nI p))) 73 14 (.int (-1000000))) 73 10 = some (.int (nI L)) := (zfld_f (by decide)).trans g10
    have eq1 : nI p = nI L := by rw [epL]
    have eK : tkK t L p = 1 := by unfold tkK; rw [if_pos hpL]
    obtain ⟨sc4, a1, a2, a3, a4, a5, a6, a7⟩ := lay (-1000000) 1 p (by
      rw [zi158_17, if_pos (by rw [nI_leP (by omega) (by omega)]; omega)]
      conv =>
        lhs
        simp only [zi158_32, zi158_34, zi158_37, zi158_37n, zi158_38, zi158_38n, zi158_39, zi158_42, zi158_42n, zi158_43, zi158_46, zi158_49, zi158_50, zcl1, zlow_0, zlow_1, zlow_2, zlow_3, zlow_4, zfree_0, zfree_i, zfree_r, zfree_n, zfree_d, zfree_f, zfree_s, if_true, if_false, Option.bind_some, Option.toList_some, Option.toList_none, List.cons_append, List.nil_append, List.set_cons_zero, List.set_cons_succ, Bool.false_eq_true, reduceIte, zsw_c, zsw_n, Nat.reduceAdd, M1.st 14 rfl (by omega), q11, q10, eq_true eq1, not_true_eq_false]
      rfl) (fun _ => rfl) (fun z => by omega) (by omega)
    refine ⟨_, sc4, ?_, a2, ?_, a4, by rw [eK]; exact a5, fun z => by omega, a7, ((zsm_pf.tr zsm_pf).tr zsm_pf).tr zsm_pf⟩
    · rw [a1]
      simp only [zi158_151, zi158_277 (sk := []), zcl1, zlow_0, zlow_1, zlow_2, zlow_3, zlow_4, zfree_0, zfree_i, zfree_r, zfree_n, zfree_d, zfree_f, zfree_s, if_true, if_false, Option.bind_some, Option.toList_some, Option.toList_none, List.cons_append, List.nil_append, List.set_cons_zero, List.set_cons_succ, Bool.false_eq_true, reduceIte, zsw_c, zsw_n, Nat.reduceAdd, show (nI 1 = 3) = False by decide, not_false_eq_true]
    · unfold tkX
      rw [if_pos hpL]
      exact a3
  · obtain ⟨t1, t2⟩ := hT p (by omega)
    have g := zarr_at (j := p) (zrow_pf (a := 73) (f' := 12) (v := .int (nI p)) hR) (by omega) (by omega)
    rw [t2] at g
    have q11 : zfld [11] (zpf (zpf h 73 12 (.int (nI p))) 73 14 (.int (nI (t p)))) 73 11 = some (.int (nI p)) := (zfld_f (by decide)).trans g11
    have q10 : zfld [11] (zpf (zpf h 73 12 (.int (nI p))) 73 14 (.int (nI (t p)))) 73 10 = some (.int (nI L)) := (zfld_f (by decide)).trans g10
    have M2 := M1.put 14 rfl (by omega) (nI (t p))
    have q14 : zfld [11] (zpf (zpf h 73 12 (.int (nI p))) 73 14 (.int (nI (t p)))) 73 14 = some (.int (nI (t p))) := M2.i 14 rfl (by omega)
    have ne : ¬ nI p = nI L := by rw [nI_eqP (by omega) (by omega)]; omega
    have i97 := fun (H : zH) => sp_inI (E := E) (h := H) (u := (nI (t p)).toInt64) (v := 97) (w := 122) (x := nI (t p)) (a := 97) (b := 122) rfl (by decide) (by decide)
    have i48 := fun (H : zH) => sp_inI (E := E) (h := H) (u := (nI (t p)).toInt64) (v := 48) (w := 57) (x := nI (t p)) (a := 48) (b := 57) rfl (by decide) (by decide)
    have ef : (decide ((48 : Int32) ≤ nI (t p)) && decide (nI (t p) ≤ 57)) = fig (t p) := by
      unfold fig
      rw [show (48 : Int32) = nI 48 from rfl, show (57 : Int32) = nI 57 from rfl]
      congr 1
      · exact decide_eq_decide.mpr (nI_leI (by omega) (by omega))
      · exact decide_eq_decide.mpr (nI_leI (by omega) (by omega))
    have el : (decide ((97 : Int32) ≤ nI (t p)) && decide (nI (t p) ≤ 122)) = ltr (t p) := by
      unfold ltr
      rw [show (97 : Int32) = nI 97 from rfl, show (122 : Int32) = nI 122 from rfl]
      congr 1
      · exact decide_eq_decide.mpr (nI_leI (by omega) (by omega))
      · exact decide_eq_decide.mpr (nI_leI (by omega) (by omega))
    have e44 : (nI (t p) = 44) = (t p = 44) := by rw [show (44 : Int32) = nI 44 from rfl, nI_eqP (by omega) (by omega)]
    have e59 : (nI (t p) = 59) = (t p = 59) := by rw [show (59 : Int32) = nI 59 from rfl, nI_eqP (by omega) (by omega)]
    have e2 : zrun zpp E 158 (17, [.ref 73], [.int (nI L), .int (nI p), .ref 73], zpf h 73 12 (.int (nI p))) = zrun zpp E 158 (67, [.ref 73], [.int (zb (ltr (t p))), .ref 73], zpf (zpf h 73 12 (.int (nI p))) 73 14 (.int (nI (t p)))) := by
      rw [zi158_17, if_neg (by rw [nI_leP (by omega) (by omega)]; omega)]
      conv =>
        lhs
        simp only [zi158_20, zi158_20n, zi158_21, zi158_24, zi158_24n, zi158_25, zi158_28, zi158_29, zi158_32, zi158_34, zi158_37, zi158_37n, zi158_38, zi158_38n, zi158_39, zi158_42, zi158_42n, zi158_43, zi158_46, zi158_49, zi158_50, zi158_53, zi158_53n, zi158_54, zi158_57, zi158_58, zi158_61, zi158_64, zcl1, zlow_0, zlow_1, zlow_2, zlow_3, zlow_4, zfree_0, zfree_i, zfree_r, zfree_n, zfree_d, zfree_f, zfree_s, if_true, if_false, Option.bind_some, Option.toList_some, Option.toList_none, List.cons_append, List.nil_append, List.set_cons_zero, List.set_cons_succ, Bool.false_eq_true, reduceIte, zsw_c, zsw_n, Nat.reduceAdd, M1.r9, g11, g, M1.st 14 rfl (by omega), q11, q10, eq_false ne, not_false_eq_true, q14, i97, el]
    -- a token of one letter
    have one : ∀ k, k ≤ 4 → k ≠ 3 → zrun zpp E 158 (17, [.ref 73], [.int (nI L), .int (nI p), .ref 73], zpf h 73 12 (.int (nI p))) = zrun zpp E 158 (118, [.ref 73], [.int (nI k), .ref 73], zpf (zpf h 73 12 (.int (nI p))) 73 14 (.int (nI (t p)))) → tkK t L p = k → fig (t p) = false → ∃ h' sc', zcall zpp E 158 [.ref 73] h = some (none, h') ∧ MdO h' sc' ∧ sc' 11 = nI (tkX t L p) ∧ sc' 12 = nI p ∧ sc' 13 = nI (tkK t L p) ∧ (2 ≤ tkK t L p → sc' 14 = nI (tkV t L p)) ∧ scK sc sc' ∧ zsm (fun a => a = 73) h h' := by
      intro k hk k3 e ek hf
      obtain ⟨sc4, a1, a2, a3, a4, a5, a6, a7⟩ := lay (nI (t p)) k (p + 1) e (fun z => absurd z hpL) (fun _ => rfl) hk
      have n3 : ¬ nI k = 3 := by rw [show (3 : Int32) = nI 3 from rfl, nI_eqP (by omega) (by omega)]; exact k3
      refine ⟨_, sc4, ?_, a2, ?_, a4, by rw [ek]; exact a5, fun _ => ?_, a7, ((zsm_pf.tr zsm_pf).tr zsm_pf).tr zsm_pf⟩
      · rw [a1]
        simp only [zi158_151, zi158_277 (sk := []), zcl1, zlow_0, zlow_1, zlow_2, zlow_3, zlow_4, zfree_0, zfree_i, zfree_r, zfree_n, zfree_d, zfree_f, zfree_s, if_true, if_false, Option.bind_some, Option.toList_some, Option.toList_none, List.cons_append, List.nil_append, List.set_cons_zero, List.set_cons_succ, Bool.false_eq_true, reduceIte, zsw_c, zsw_n, Nat.reduceAdd, eq_false n3, not_false_eq_true]
      · unfold tkX
        rw [if_neg hpL, hf, if_neg (by decide)]
        exact a3
      · unfold tkV
        rw [hf, if_neg (by decide)]
        exact a6
    cases hl : ltr (t p)
    · cases hf : fig (t p)
      · by_cases h44 : t p = 44
        · refine one 4 (by omega) (by omega) ?_ (by unfold tkK; rw [if_neg hpL, hl, if_neg (by decide), hf, if_neg (by decide), if_pos (Or.inl h44)]) hf
          rw [e2, hl]
          conv =>
            lhs
            simp only [zi158_67, zi158_70, zi158_71, zi158_74, zi158_74n, zi158_75, zi158_78, zi158_79, zi158_82, zi158_85, zi158_88, zi158_91, zi158_92, zi158_95, zi158_95n, zi158_96, zi158_99, zi158_101, zi158_104, zi158_104n, zi158_105, zi158_108, zi158_110, zi158_113, zi158_114, zcl1, zlow_0, zlow_1, zlow_2, zlow_3, zlow_4, zfree_0, zfree_i, zfree_r, zfree_n, zfree_d, zfree_f, zfree_s, if_true, if_false, Option.bind_some, Option.toList_some, Option.toList_none, List.cons_append, List.nil_append, List.set_cons_zero, List.set_cons_succ, Bool.false_eq_true, reduceIte, zsw_c, zsw_n, Nat.reduceAdd, zb_f, z00, q14, i48, ef, hf, e44, eq_true h44]
          rfl
        · by_cases h59 : t p = 59
          · refine one 4 (by omega) (by omega) ?_ (by unfold tkK; rw [if_neg hpL, hl, if_neg (by decide), hf, if_neg (by decide), if_pos (Or.inr h59)]) hf
            rw [e2, hl]
            conv =>
              lhs
              simp only [zi158_67, zi158_70, zi158_71, zi158_74, zi158_74n, zi158_75, zi158_78, zi158_79, zi158_82, zi158_85, zi158_88, zi158_91, zi158_92, zi158_95, zi158_95n, zi158_96, zi158_99, zi158_101, zi158_104, zi158_104n, zi158_105, zi158_108, zi158_110, zi158_113, zi158_114, zcl1, zlow_0, zlow_1, zlow_2, zlow_3, zlow_4, zfree_0, zfree_i, zfree_r, zfree_n, zfree_d, zfree_f, zfree_s, if_true, if_false, Option.bind_some, Option.toList_some, Option.toList_none, List.cons_append, List.nil_append, List.set_cons_zero, List.set_cons_succ, Bool.false_eq_true, reduceIte, zsw_c, zsw_n, Nat.reduceAdd, zb_f, z00, q14, i48, ef, hf, e44, eq_false h44, e59, eq_true h59, not_true_eq_false]
            rfl
          · refine one 0 (by omega) (by omega) ?_ (by unfold tkK; rw [if_neg hpL, hl, if_neg (by decide), hf, if_neg (by decide), if_neg (fun z => by omega)]) hf
            rw [e2, hl]
            conv =>
              lhs
              simp only [zi158_67, zi158_70, zi158_71, zi158_74, zi158_74n, zi158_75, zi158_78, zi158_79, zi158_82, zi158_85, zi158_88, zi158_91, zi158_92, zi158_95, zi158_95n, zi158_96, zi158_99, zi158_101, zi158_104, zi158_104n, zi158_105, zi158_108, zi158_110, zi158_113, zi158_114, zi158_117, zcl1, zlow_0, zlow_1, zlow_2, zlow_3, zlow_4, zfree_0, zfree_i, zfree_r, zfree_n, zfree_d, zfree_f, zfree_s, if_true, if_false, Option.bind_some, Option.toList_some, Option.toList_none, List.cons_append, List.nil_append, List.set_cons_zero, List.set_cons_succ, Bool.false_eq_true, reduceIte, zsw_c, zsw_n, Nat.reduceAdd, zb_f, z00, q14, i48, ef, hf, e44, eq_false h44, e59, eq_false h59, not_false_eq_true]
            rfl
      · obtain ⟨sc4, a1, a2, a3, a4, a5, a6, a7⟩ := lay (nI (t p)) 3 (p + 1) (by
          rw [e2, hl]
          conv =>
            lhs
            simp only [zi158_67, zi158_70, zi158_71, zi158_74, zi158_74n, zi158_75, zi158_78, zi158_79, zi158_82, zi158_85, zi158_88, zi158_91, zi158_92, zcl1, zlow_0, zlow_1, zlow_2, zlow_3, zlow_4, zfree_0, zfree_i, zfree_r, zfree_n, zfree_d, zfree_f, zfree_s, if_true, if_false, Option.bind_some, Option.toList_some, Option.toList_none, List.cons_append, List.nil_append, List.set_cons_zero, List.set_cons_succ, Bool.false_eq_true, reduceIte, zsw_c, zsw_n, Nat.reduceAdd, zb_f, z00, q14, i48, ef, hf, zb_t, z10]
          rfl) (fun z => absurd z hpL) (fun _ => rfl) (by omega)
        have hd : 48 ≤ t p := by
          unfold fig at hf
          rw [Bool.and_eq_true, decide_eq_true_eq] at hf
          exact hf.1
        have q := a2.i 14 rfl (by omega)
        rw [a6] at q
        have M5 := a2.put 14 rfl (by omega) (nI (t p - 48))
        have ev : nI (t p) - 48 = nI (t p - 48) := pk_sub (b := 48) hd
        obtain ⟨h', sc', b1, b2, b3, b4, b5, b6, b7, b8⟩ := nxtL (E := E) hL (show p < L by omega) hT hf (L - (p + 1)) 1 _ _ (by omega) (by omega) (by
          have := rn_eq t L p
          rw [if_pos ⟨by omega, hf⟩] at this
          exact this) (fun z => by omega) M5 (zrow_pf (zrow_pf (zrow_pf (zrow_pf (zrow_pf hR))))) (by show upd sc4 14 _ 10 = _; exact (a7 10 (by omega) (by omega) (by omega) (by omega)).trans h10) a3 a4 rfl
        have eK : tkK t L p = if rnN t L p - p ≤ 2 then 3 else 0 := by
          unfold tkK
          rw [if_neg hpL, hl, if_neg (by decide), hf, if_pos rfl]
        refine ⟨h', sc', ?_, b2, ?_, b4, by rw [eK]; exact b5, fun hk => ?_, a7.tr ((scK_u (by omega)).tr b7), ((((zsm_pf.tr zsm_pf).tr zsm_pf).tr zsm_pf).tr zsm_pf).tr b8⟩
        · rw [a1, ← b1]
          conv =>
            lhs
            simp only [zi158_151, zi158_154, zi158_154n, zi158_155, zi158_155i, zi158_156, zi158_159, zi158_161, zi158_162, zcl1, zlow_0, zlow_1, zlow_2, zlow_3, zlow_4, zfree_0, zfree_i, zfree_r, zfree_n, zfree_d, zfree_f, zfree_s, if_true, if_false, Option.bind_some, Option.toList_some, Option.toList_none, List.cons_append, List.nil_append, List.set_cons_zero, List.set_cons_succ, Bool.false_eq_true, reduceIte, zsw_c, zsw_n, Nat.reduceAdd, show (nI 3 = 3) = True by decide, not_true_eq_false, q, ev, a2.st 14 rfl (by omega)]
        · unfold tkX
          rw [if_neg hpL, hf, if_pos rfl]
          exact b3
        · have h2 : rnN t L p - p ≤ 2 := by
            rw [eK] at hk
            split at hk
            · assumption
            · omega
          rw [b6]
          unfold tkV vlN mvN
          rw [hf, if_pos rfl]
          have hle := rn_le t L (L - (p + 1)) (p + 1) (by omega)
          have e1 := rn_eq t L p
          rw [if_pos ⟨by omega, hf⟩] at e1
          by_cases h1 : rnN t L p = p + 1
          · rw [if_pos h1, if_pos (by omega)]
          · rw [if_neg h1, if_neg (by omega)]
    · have hf : fig (t p) = false := by
        cases hq : fig (t p)
        · rfl
        · rw [fig_ltr hq] at hl; cases hl
      refine one 2 (by omega) (by omega) ?_ (by unfold tkK; rw [if_neg hpL, hl, if_pos rfl]) hf
      rw [e2, hl]
      conv =>
        lhs
        simp only [zi158_67, zi158_70, zi158_71, zcl1, zlow_0, zlow_1, zlow_2, zlow_3, zlow_4, zfree_0, zfree_i, zfree_r, zfree_n, zfree_d, zfree_f, zfree_s, if_true, if_false, Option.bind_some, Option.toList_some, Option.toList_none, List.cons_append, List.nil_append, List.set_cons_zero, List.set_cons_succ, Bool.false_eq_true, reduceIte, zsw_c, zsw_n, Nat.reduceAdd, zb_t, z10]
      rfl
end NXT
