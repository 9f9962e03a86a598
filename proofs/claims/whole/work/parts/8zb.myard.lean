/-! THE TEXT: the model's yard, whole -/
def yA (t : Nat → Nat) (L : Nat) : Int32 := match (ydE t L).1 with
  | .inl x => -1000100 - nI x.2
  | .inr _ => nI ((ydE t L).2 3)
theorem yd_en {t : Nat → Nat} {L : Nat} : enE L (ydL t L).1 = (ydE t L).1 := by
  unfold ydE
  cases e : (ydL t L).1 with
  | inl x => rw [bd_l e]; rfl
  | inr q =>
    rw [bd_r e]
    unfold enE enS
    by_cases hq : L ≤ q
    · rw [if_pos hq]
      exact if_pos hq
    · rw [if_neg hq]
      exact if_neg hq
section MYD
variable {E : zE} {h : zH} {sc T : Nat → Int32} {t : Nat → Nat} {L : Nat}
def yM (h h' : zH) (sc sc' : Nat → Int32) (e : Sum (Nat × Nat) Nat × (Nat → Nat)) : Prop := match e.1 with
  | .inl x => sc' 17 = nI x.1 ∧ sc' 8 = sc 8 ∧ zsm fP h h'
  | .inr _ => sc' 17 = sc 17 ∧ sc' 8 = 0 ∧ MY h' e.2 ∧ zsm (fun a => fP a ∨ a = 77) h h'
theorem nI_one {n d : Nat} (h : d + 1 = 2 ^ n) (hd : d < 256) : nI (2 ^ n) - 1 = nI d := by
  rw [← h, show (1 : Int32) = nI 1 from rfl, pk_sub (by omega), Nat.add_sub_cancel]
theorem mYard (hL : L ≤ 120) (hT : tpO T t L) (hM : MdO h sc) (hZ : zrow 0 h 80 120 T) (h10 : sc 10 = nI L) (hF : FX h) {g : Nat → Int32} (hg : zrow 0 h 77 73 g) : ∃ h' sc', zcall zpp E 171 [.ref 73] h = some (some (.int (yA t L)), h') ∧ MdO h' sc' ∧ (∀ k, (k < 10 ∧ k ≠ 0 ∧ k ≠ 8) ∨ 17 < k → sc' k = sc k) ∧ sc' 10 = 0 ∧ FX h' ∧ yM h h' sc sc' (ydE t L) := by
  have c1 : zsel 11 [11, 163] = some 163 := rfl
  have c2 : zsel 11 [11, 164] = some 164 := rfl
  have w0 := hM.st 0 rfl (by omega) (v := 0)
  have M0 := hM.put 0 rfl (by omega) 0
  have z0 : zsm (fun a => a = 73) h (zpf h 73 0 (.int 0)) := zsm_pf
  obtain ⟨h1, s1, a1, a2, a3, a4⟩ := mBegin (E := E) hL hT M0 (zrow_c (z0.2 80 (by omega)) hZ) h10
  obtain ⟨h2, b1, b2, b3, b4⟩ := mClear (E := E) a2 ((hF.k z0).k a4)
  obtain ⟨h3, s3, d1, d2, d3, d4, d5⟩ := mRead (E := E) (v := .int 73) hL hT b2 b3
  obtain ⟨h4, s4, f1, f2, f3, f4, f5, f6⟩ := mFailed (E := E) d2
  rw [yd_en] at f1 f5
  have z4 : zsm fP h h4 := (((z0.tr a4).wk (fun a e => fP67 e)).tr b4).tr (d5.tr (f6.wk (fun a e => fP67 e)))
  have u0 : ∀ k, k ≠ 0 → upd sc 0 0 k = sc k := fun k hk => by unfold upd; rw [if_neg hk]
  have s14 : ∀ k, k < 10 ∨ 17 < k → k ≠ 0 → s4 k = sc k := fun k hk h0 => by
    rw [f3 k hk, d4 k (by omega), a3 k (by omega), u0 k h0]
  have run : zcall zpp E 171 [.ref 73] h = zrun zpp E 171 (190, [.ref 73, .int 73], [.int (zb (!isR (ydE t L).1))], h4) := by
    have r0 : zcall zpp E 171 [.ref 73] h = zrun zpp E 171 (11, [.ref 73, .int 0], [], h1) := by
      conv =>
        lhs
        simp only [ze171, zi171_0, zi171_0n, zi171_1, zi171_2, zi171_5, zi171_5n, zi171_6, zi171_9, zi171_10, zcl1, zlow_0, zlow_1, zlow_2, zlow_3, zlow_4, zfree_0, zfree_i, zfree_r, zfree_n, zfree_d, zfree_f, zfree_s, if_true, if_false, Option.bind_some, Option.toList_some, Option.toList_none, List.cons_append, List.nil_append, List.set_cons_zero, List.set_cons_succ, Bool.false_eq_true, reduceIte, zsw_c, zsw_n, Nat.reduceAdd, w0, M0.1, c1, a1]
    rw [r0, b1, d1]
    conv =>
      lhs
      simp only [zi171_186, zi171_186n, zi171_187, zcl1, zlow_0, zlow_1, zlow_2, zlow_3, zlow_4, zfree_0, zfree_i, zfree_r, zfree_n, zfree_d, zfree_f, zfree_s, if_true, if_false, Option.bind_some, Option.toList_some, Option.toList_none, List.cons_append, List.nil_append, List.set_cons_zero, List.set_cons_succ, Bool.false_eq_true, reduceIte, zsw_c, zsw_n, Nat.reduceAdd, d2.1.1, c2, f1]
  have F4 : FX h4 := by
    cases e : (ydL t L).1 with
    | inl x =>
      rw [e] at d3
      have d3 : FX h3 := d3
      exact FX.k d3 f6
    | inr q =>
      rw [e] at d3
      have d3 : FR h3 (ydL t L).2 := d3
      exact FX.k (FW.x d3) f6
  cases e : (ydE t L).1 with
  | inl x =>
    rw [e] at run f5
    refine ⟨h4, s4, ?_, f2, fun k hk => s14 k (by omega) (by omega), f4, F4, ?_⟩
    · rw [run, show zb (!isR (.inl x)) = 1 from rfl]
      have f16 := f2.i 16 rfl (by omega)
      rw [f5.2] at f16
      unfold yA
      rw [e]
      simp only [zi171_190, zi171_193, zi171_195, zi171_195n, zi171_196, zi171_199, zi171_200 (sk := []), zcl1, zlow_0, zlow_1, zlow_2, zlow_3, zlow_4, zfree_0, zfree_i, zfree_r, zfree_n, zfree_d, zfree_f, zfree_s, if_true, if_false, Option.bind_some, Option.toList_some, Option.toList_none, List.cons_append, List.nil_append, List.set_cons_zero, List.set_cons_succ, Bool.false_eq_true, reduceIte, zsw_c, zsw_n, Nat.reduceAdd, z10, f16]
    · unfold yM
      rw [e]
      exact ⟨f5.1, s14 8 (by omega) (by omega), z4⟩
  | inr q =>
    obtain ⟨n1, n2, n3, n4, n5⟩ := ydE_ni e
    rw [e] at run f5
    rw [n1] at d3
    have d3 : FR h3 (ydL t L).2 := d3
    have F4 : FR h4 (ydL t L).2 := d3.k f6
    generalize hN : (ydL t L).2 = N at *
    have w8 := f2.st 8 rfl (by omega) (v := 0)
    have M5 := f2.put 8 rfl (by omega) 0
    have F5 : FR (zpf h4 73 8 (.int 0)) N := zrow_c (zpf_o (by omega)) F4
    have g3 := F5.c 3 (by omega) (by omega) (x := 3) rfl
    have v8 : nI (2 ^ N 3) - 1 = nI (N 8) := nI_one n4.2.2.2.2.2.2.1 n4.d
    have N3 : N 3 ≤ 8 := n4.2.2.2.1
    have F6 : FW (zpa (zpf h4 73 8 (.int 0)) 78 8 (nI (N 8))) N := (FW.put F5 8 (N 8)).ext (fun i _ => by
      by_cases hi : i = 8
      · subst hi; exact nup_s
      · rw [nup_o hi, nup_o hi])
    have w72 := FW.s F5 8 (by omega) (x := 8) (v := nI (N 8)) rfl
    have hg6 : zrow 0 (zpa (zpf h4 73 8 (.int 0)) 78 8 (nI (N 8))) 77 73 g := zrow_o (by omega) (zrow_c (zpf_o (by omega)) (zrow_c (z4.2 77 (by unfold fP; omega)) hg))
    obtain ⟨h7, k1, k2, k3⟩ := mCopyL (E := E) (N := N) 73 0 g _ (by omega) (fun j hj => by omega) hg6 F6 (M5.pa (a := 78) (j := 8) (v := nI (N 8)))
    rw [show nI 0 = (0 : Int32) from rfl] at k1
    have M7 : MdO h7 (upd s4 8 0) := (M5.pa (a := 78) (j := 8) (v := nI (N 8))).keep (k3.2 73 (by omega))
    refine ⟨h7, upd s4 8 0, ?_, M7, fun k hk => ?_, f4, ⟨_, zrow_c (k3.2 78 (by omega)) F6⟩, ?_⟩
    · unfold yA
      rw [run, e, n2, show zb (!isR (.inr q)) = 0 from rfl]
      refine Eq.trans ?_ k1
      conv =>
        lhs
        simp only [zi171_190, zi171_193, zi171_195, zi171_195n, zi171_196, zi171_199, zi171_200 (sk := []), zi171_201, zi171_201n, zi171_202, zi171_203, zi171_206, zi171_206n, zi171_207, zi171_210, zi171_212, zi171_213, zi171_213n, zi171_214, zi171_217, zi171_218, zi171_219, zi171_220, zi171_221, zi171_222, zi171_223, zi171_224, zcl1, zlow_0, zlow_1, zlow_2, zlow_3, zlow_4, zfree_0, zfree_i, zfree_r, zfree_n, zfree_d, zfree_f, zfree_s, if_true, if_false, Option.bind_some, Option.toList_some, Option.toList_none, List.cons_append, List.nil_append, List.set_cons_zero, List.set_cons_succ, Bool.false_eq_true, reduceIte, zsw_c, zsw_n, Nat.reduceAdd, z00, w8, M5.r6, g3, zbit_16 (N 3) (by omega), v8, w72]
    · unfold upd
      rw [if_neg (by omega)]
      exact s14 k (by omega) (by omega)
    · unfold yM
      rw [e, n2]
      refine ⟨?_, rfl, k2, ?_⟩
      · have f5 : s4 17 = s3 17 := f5
        show s4 17 = sc 17
        rw [f5, d4 17 (by omega), a3 17 (by omega), u0 17 (by omega)]
      · exact ((z4.wk (fun a e => Or.inl e)).tr (zsm_pf.wk (fun a e => Or.inl (fP67 e)))).tr ((zsm_pa.wk (fun a e => Or.inl (fP72 e))).tr (k3.wk (fun a e => Or.inr e)))
end MYD
