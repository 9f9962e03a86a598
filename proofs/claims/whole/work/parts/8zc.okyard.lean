/-! THE TEXT: yard, both -/
theorem CO.swap {h : zH} {y s : Nat} {v : Int32} (hC : CO h y s v) : CO (zpf (zpf h 0 7 (.ref s)) 0 8 (.ref y)) s y v := by
  refine ⟨zcls_pf.trans (zcls_pf.trans hC.1), fun k hk => ?_, (zfld_f (by omega)).trans ((zfld_f (by omega)).trans hC.2.2)⟩
  by_cases h8 : k = 8
  · subst h8
    rw [zfld_same, zfld_f (by omega), hC.r8]
    rfl
  · rw [zfld_f (by omega)]
    by_cases h7 : k = 7
    · subst h7
      rw [zfld_same, hC.r7]
      rfl
    · rw [zfld_f (by omega), hC.2.1 k hk]
      match k, hk, h8, h7 with
      | 0, _, _, _ => rfl
      | 1, _, _, _ => rfl
      | 2, _, _, _ => rfl
      | 3, _, _, _ => rfl
      | 4, _, _, _ => rfl
      | 5, _, _, _ => rfl
      | 6, _, _, _ => rfl
      | 10, _, _, _ => rfl
      | 9, hk, _, _ => omega
      | (k + 11), hk, _, _ => omega
def yzP (s a : Nat) : Prop := a = 0 ∨ a = 2 ∨ aP a ∨ yP s a
def yzR (h h' : zH) : Prop := h.length ≤ h'.length ∧ h'.length ≤ h.length + 5 ∧ zsl h' ≤ zsl h + 10
def yC (h h' : zH) (y s : Nat) (v : Int32) (r r' : Nat → Int32) (R : Nat → Nat → Int32) (e : Sum (Nat × Nat) Nat × (Nat → Nat)) : Prop := match e.1 with
  | .inl x => r' 2 = nI x.1 ∧ SP h' s ∧ fr (fun a => a = 2 ∨ yP s a) h h'
  | .inr _ => r' 2 = r 2 ∧ YC h' s e.2 ∧ CO h' s y v ∧ AC h' 0 R ∧ fr (yzP s) h h'
section OKY
variable {E : zE} {h : zH} {y s A L n : Nat} {v : Int32} {r T : Nat → Int32} {t : Nat → Nat} {R : Nat → Nat → Int32}
theorem cYard (hy : yys y s) (hL : L ≤ 120) (hT : tpO T t L) (h81 : 87 ≤ h.length) (hC : CO h y s v) (hR : RD h r T) (h1 : r 1 = nI L) (hS : SP h s) (hA : AC h A R) : ∃ h' r', zcall zpp E 95 [.ref 0] h = some (some (.int (yA t L)), h') ∧ RD h' r' T ∧ r' 1 = 0 ∧ yzR h h' ∧ yC h h' y s v r r' R (ydE t L) := by
  have c1 : zsel 5 [5, 35] = some 35 := rfl
  have c2 : zsel 0 [0, 2] = some 2 := rfl
  unfold yys at hy
  obtain ⟨h1', r', a1, a2, a3, a4, a5⟩ := cReads (E := E) hL hT (by omega) h81 hR h1 hS
  have C1 : CO h1' y s v := hC.keep (a4.1.1 0 (by omega) (by unfold yP; omega))
  cases e : (ydE t L).1 with
  | inl x =>
    unfold rE at a5
    rw [e] at a1 a5
    refine ⟨h1', r', ?_, a2, a3, ⟨a4.2.1, a4.2.2.1, a4.2.2.2⟩, ?_⟩
    · have f4 := a2.2.2.1 4 (by omega) (by omega)
      rw [a5.2.1] at f4
      unfold yA
      rw [e]
      simp only [ze95, zi95_0, zi95_0n, zi95_1, zi95_4, zi95_4n, zi95_5, zi95_8, zi95_11, zi95_12, zi95_13, zi95_16, zi95_18, zi95_18n, zi95_19, zi95_22, zi95_25, zi95_26 (sk := []), zi95_27, zi95_27n, zi95_28, zi95_31, zi95_31n, zi95_32, zi95_32n, zi95_33, zi95_33n, zi95_34, zi95_37, zi95_40, zi95_40n, zi95_41, zi95_41n, zi95_42, zi95_45, zi95_45n, zi95_46, zi95_49, zi95_52, zi95_52n, zi95_53, zi95_56, zi95_59 (sk := []), zcl1, zlow_0, zlow_1, zlow_2, zlow_3, zlow_4, zfree_0, zfree_i, zfree_r, zfree_n, zfree_d, zfree_f, zfree_s, if_true, if_false, Option.bind_some, Option.toList_some, Option.toList_none, List.cons_append, List.nil_append, List.set_cons_zero, List.set_cons_succ, Bool.false_eq_true, reduceIte, zsw_c, zsw_n, Nat.reduceAdd, hC.r1, hC.r8, hR.1, c1, a1, isR, zb_f, z00, C1.r1, f4]
    · unfold yC
      rw [e]
      exact ⟨a5.1, a5.2.2, a4.1⟩
  | inr q =>
    unfold rE at a5
    rw [e] at a1 a5
    have w7 := zstf_ok (ty := 2) (v := .ref s) C1.r7 zfits_r
    have f8 : zfld [10] (zpf h1' 0 7 (.ref s)) 0 8 = some (.ref s) := (zfld_f (by omega)).trans C1.r8
    have w8 := zstf_ok (ty := 2) (v := .ref y) f8 zfits_r
    have C2 := C1.swap
    have z2 : zsm (fun a => a = 0) h1' (zpf (zpf h1' 0 7 (.ref s)) 0 8 (.ref y)) := zsm_pf.tr zsm_pf
    have A1 : AC h1' A R := hA.keep (fun a ha => a4.1.1 a (by unfold aP at ha; omega) (by unfold aP at ha; unfold yP; omega))
    have A2 : AC (zpf (zpf h1' 0 7 (.ref s)) 0 8 (.ref y)) A R := A1.keep (fun a ha => z2.2 a (by unfold aP at ha; omega))
    obtain ⟨h3, b1, b2, b3⟩ := sp_forget (E := E) A2
    have C3 : CO h3 s y v := C2.keep (b3.2 0 (by unfold aP; omega))
    have R3 : RD h3 r' T := (a2.keep (z2.2 2 (by omega)) (z2.2 3 (by omega))).keep (b3.2 2 (by unfold aP; omega)) (b3.2 3 (by unfold aP; omega))
    have f2 : fr (yzP s) h1' (zpf (zpf h1' 0 7 (.ref s)) 0 8 (.ref y)) := (z2.fr (fun a e => by cases e; omega)).wk (fun a e => Or.inl e)
    have f3 : fr (yzP s) (zpf (zpf h1' 0 7 (.ref s)) 0 8 (.ref y)) h3 := (b3.fr (fun a e => by unfold aP at e; omega)).wk (fun a e => Or.inr (Or.inr (Or.inl e)))
    have Y3 : YC h3 s (ydE t L).2 := (a5.2.keep (z2.fr (fun a e => by cases e; omega)) (by omega) (fun a g1 g2 => by omega)).keep (b3.fr (fun a e => by unfold aP at e; omega)) (by omega) (fun a g1 g2 => by unfold aP; omega)
    have F1 : fr (yzP s) h h1' := a4.1.wk (fun a e => e.elim (fun z => Or.inr (Or.inl z)) (fun z => Or.inr (Or.inr (Or.inr z))))
    refine ⟨h3, r', ?_, R3, a3, ?_, ?_⟩
    · unfold yA
      rw [e]
      simp only [ze95, zi95_0, zi95_0n, zi95_1, zi95_4, zi95_4n, zi95_5, zi95_8, zi95_11, zi95_12, zi95_13, zi95_16, zi95_18, zi95_18n, zi95_19, zi95_22, zi95_25, zi95_26 (sk := []), zi95_27, zi95_27n, zi95_28, zi95_31, zi95_31n, zi95_32, zi95_32n, zi95_33, zi95_33n, zi95_34, zi95_37, zi95_40, zi95_40n, zi95_41, zi95_41n, zi95_42, zi95_45, zi95_45n, zi95_46, zi95_49, zi95_52, zi95_52n, zi95_53, zi95_56, zi95_59 (sk := []), zcl1, zlow_0, zlow_1, zlow_2, zlow_3, zlow_4, zfree_0, zfree_i, zfree_r, zfree_n, zfree_d, zfree_f, zfree_s, if_true, if_false, Option.bind_some, Option.toList_some, Option.toList_none, List.cons_append, List.nil_append, List.set_cons_zero, List.set_cons_succ, Bool.false_eq_true, reduceIte, zsw_c, zsw_n, Nat.reduceAdd, hC.r1, hC.r8, hR.1, c1, a1, isR, zb_t, z10, C1.r7, C1.r8, w7, w8, C2.r3, A2.1, c2, b1, C3.r7, Y3.1.f3]
    · unfold yzR
      rw [b3.1.1, b3.1.2, z2.1.1, z2.1.2]
      exact ⟨a4.2.1, a4.2.2.1, a4.2.2.2⟩
    · unfold yC
      rw [e]
      exact ⟨a5.1, Y3, C3, b2, (F1.tr f2).tr f3⟩
theorem ok_yard (hJ : J h n) : OK E h n 95 171 [] := by
  obtain ⟨y, s, v, sc, N, hJ, hv, hB⟩ := hJ
  have hy := hJ.ys
  obtain ⟨r, T, L, t1, t2, t3, t4, t5, t6, t7⟩ := hJ.tape
  obtain ⟨t, hT⟩ : ∃ t, tpO T t L := ⟨fun j => if hj : j < L then Classical.choose (t7 j hj) else 0, fun j hj => by
    simp only [dif_pos hj]
    exact Classical.choose_spec (t7 j hj)⟩
  obtain ⟨A, R, W, m, k1, k2, k3, k4, k5⟩ := hJ.act
  obtain ⟨h1, r', a1, a2, a3, a4, a5⟩ := cYard (E := E) hy t3 hT hB.1 hJ.co t1 t4 hJ.sp k3
  have F1 : fr (yzP s) h h1 := by
    unfold yC at a5
    split at a5
    · exact a5.2.2.wk (fun a e => e.elim (fun z => Or.inr (Or.inl z)) (fun z => Or.inr (Or.inr (Or.inr z))))
    · exact a5.2.2.2.2
  unfold yys at hy
  have nz : ∀ a, 73 ≤ a → ¬ yzP s a := fun a ha => by unfold yzP aP yP; omega
  have M1 : MdO h1 sc := hJ.md.keep (F1.1 73 (by omega) (nz 73 (by omega)))
  have Z1 : zrow 0 h1 80 120 T := zrow_c (F1.1 80 (by omega) (nz 80 (by omega))) t2
  have X1 : FX h1 := by
    obtain ⟨-, -, ⟨f, hf⟩, -⟩ := hJ.scr
    exact ⟨f, zrow_c (F1.1 78 (by omega) (nz 78 (by omega))) hf⟩
  have Y1 : MY h1 N := hJ.my.keep (F1.1 77 (by omega) (nz 77 (by omega)))
  obtain ⟨h2, s2, b1, b2, b3, b4, b5, b6⟩ := mYard (E := E) t3 hT M1 Z1 t5 X1 Y1
  refine ⟨_, h1, h2, a1, b1, ?_⟩
  have F2 : fr (fun a => fP a ∨ a = 77) h1 h2 := by
    unfold yM at b6
    split at b6
    · exact (b6.2.2.fr (fun a e => by unfold fP at e; omega)).wk (fun a e => Or.inl e)
    · exact b6.2.2.2.fr (fun a e => by unfold fP at e; omega)
  have L2 : h2.length = h1.length ∧ zsl h2 = zsl h1 := by
    unfold yM at b6
    split at b6
    · exact b6.2.2.1
    · exact b6.2.2.2.1
  have B2 : Bd h2 (n + 1) := by
    unfold Bd at hB ⊢
    unfold yzR at a4
    omega
  have F : fr (fun a => yzP s a ∨ fP a ∨ a = 77) h h2 := (F1.wk (fun a e => Or.inl e)).tr (F2.wk (fun a e => Or.inr e))
  have R2 : RD h2 r' T := a2.keep (F2.1 2 (by omega) (by unfold fP; omega)) (F2.1 3 (by omega) (by unfold fP; omega))
  have S2 : JScr h2 := by
    obtain ⟨⟨f1, g1⟩, ⟨f2, g2⟩, -, ⟨f4, g4⟩, ⟨f5, g5⟩, f6, g6⟩ := hJ.scr
    exact ⟨⟨f1, zrow_c (F.1 _ (by omega) (by unfold yzP aP yP fP; omega)) g1⟩, ⟨f2, zrow_c (F.1 _ (by omega) (by unfold yzP aP yP fP; omega)) g2⟩, b5, ⟨f4, zrow_c (F.1 _ (by omega) (by unfold yzP aP yP fP; omega)) g4⟩, ⟨f5, zrow_c (F.1 _ (by omega) (by unfold yzP aP yP fP; omega)) g5⟩, f6, zrow_c (F.1 _ (by omega) (by unfold yzP aP yP fP; omega)) g6⟩
  have Tr2 : JTr h2 (s2 24) := by
    rw [b3 24 (by omega)]
    exact hJ.tr.keep F (fun a ha => by unfold yzP aP yP fP; omega)
  have Ro2 : JRow h2 := hJ.row.keep F (fun a ha => by unfold yzP aP yP fP; omega)
  have Im2 : JImg h2 := hJ.img.keep F (fun a ha => by unfold yzP aP yP fP; omega)
  have Z2 : zrow 0 h2 80 120 T := zrow_c (F2.1 80 (by omega) (by unfold fP; omega)) Z1
  have v2 : s2 1 = v := (b3 1 (by omega)).trans hv
  unfold yC at a5
  unfold yM at b6
  cases e : (ydE t L).1 with
  | inl x =>
    rw [e] at a5 b6
    have G1 := a5.2.2
    have G2 : fr fP h1 h2 := b6.2.2.fr (fun a e => by unfold fP at e; omega)
    have G : fr (fun a => (a = 2 ∨ yP s a) ∨ fP a) h h2 := (G1.wk (fun a e => Or.inl e)).tr (G2.wk (fun a e => Or.inr e))
    refine ⟨y, s, v, s2, N, ⟨hJ.ys, hJ.co.keep (G.1 0 (by omega) (by unfold yP fP; omega)), b2, Ro2, ⟨r', T, 0, R2, Z2, by omega, a3, b4, a5.1.trans b6.1.symm, fun j hj => by omega⟩, Im2, ?_, Tr2, S2, hJ.yc.keep G (by omega) (fun a g1 g2 => by unfold yP fP; omega), hJ.my.keep (G.1 77 (by omega) (by unfold yP fP; omega)), hJ.wg, a5.2.1.keep G2 (by omega) (fun a g1 g2 => by unfold fP; omega)⟩, v2, B2⟩
    rw [b6.2.1]
    exact hJ.act.keep G (fun a ha => by unfold yP fP; omega)
  | inr q =>
    obtain ⟨n1, n2, n3, n4, n5⟩ := ydE_ni e
    rw [e] at a5 b6
    have g2 : ∀ a, a < 73 → ¬ (fP a ∨ a = 77) := fun a ha => by unfold fP; omega
    refine ⟨s, y, v, s2, (ydE t L).2, ⟨by unfold yys; omega, a5.2.2.1.keep (F2.1 0 (by omega) (g2 0 (by omega))), b2, Ro2, ⟨r', T, 0, R2, Z2, by omega, a3, b4, (a5.1.trans t6).trans b6.1.symm, fun j hj => by omega⟩, Im2, ?_, Tr2, S2, a5.2.1.keep F2 (by omega) (fun a e1 e2 => g2 a (by omega)), b6.2.2.1, Or.inl (by rw [n2]; exact n4.wf n5), ?_⟩, v2, B2⟩
    · refine ⟨0, R, fun _ => (ydE t L).2, m, by omega, b6.2.1, a5.2.2.2.1.keep (fun a ha => F2.1 a (by unfold aP at ha; omega) (g2 a (by unfold aP at ha; omega))), zrow_c (F.1 79 (by omega) (by unfold yzP aP yP fP; omega)) k4, rfl, fun j hj => by omega⟩
    · exact hJ.yc.sp.keep F (by omega) (fun a g1 g2 => by unfold yzP aP yP fP; omega)
end OKY
