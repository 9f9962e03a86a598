/-! UNDO, IMAGE, RESTORE -/
theorem ztog_c : ∀ d, d < 256 → ∀ b, b < 8 → d.testBit b = true → ztog (zclr d b) b = d := by decide +kernel
theorem ztog_p : ∀ d, d < 256 → ∀ b, b < 8 → d.testBit b = false → ztog (zput d b) b = d := by decide +kernel
def yQ (y a : Nat) : Prop := yP y a ∧ a ≠ y + 8
section UNDO
variable {E : zE} {h : zH} {n : Nat}
theorem sp_takesBack {y A : Nat} {R : Nat → Nat → Int32} {P N : Nat → Nat} (hA : AC h (A + 1) R) (h24 : A + 1 ≤ 24) (hY : YN h y N) (hy : 16 ≤ y ∧ y < 70) (hW : WF N) (hP : WF P) (l : lk (R 0 A) (R 1 A) (R 2 A) (R 3 A) (R 4 A) P N) : ∃ h', zcall zpp E 6 [.ref 5, .ref y] h = some (some (.int 1), h') ∧ AC h' A R ∧ YN h' y P ∧ zsm (fun a => a = 5 ∨ yQ y a) h h' := by
  obtain ⟨dS, dF, q1, q2, q3, q4, q⟩ := l
  have k0 : (0 < nI (A + 1)) = True := eq_true (by rw [show (0 : Int32) = nI 0 from rfl, nI_ltP (by omega) (by omega)]; omega)
  have k0' : (nI (A + 1) ≤ 0) = False := eq_false (by rw [show (0 : Int32) = nI 0 from rfl, nI_leP (by omega) (by omega)]; omega)
  have A1 := hA.pf A
  have w1 := hA.w (nI A)
  have Y1 : YN (zpf h 5 5 (.int (nI A))) y N := hY.keep (fun a h1 h2 => zpf_o (by omega)) (fun a h1 c h2 => (zpf_o (by omega)).trans h2)
  have z1 : zsm (fun a => a = 5 ∨ yQ y a) h (zpf h 5 5 (.int (nI A))) := zsm_pf.wk (fun a e => Or.inl e)
  have Y2 := Y1.put (by omega) 16 6 (by omega) (P 6)
  have w2 := zstf_ok (ty := 0) (v := .int (nI (P 6))) Y1.f16 zfits_i
  have A2 : AC (zpf (zpf h 5 5 (.int (nI A))) y 16 (.int (nI (P 6)))) A R := A1.keep (fun a ha => zpf_o (by unfold aP at ha; omega))
  have z2 : zsm (fun a => a = 5 ∨ yQ y a) h (zpf (zpf h 5 5 (.int (nI A))) y 16 (.int (nI (P 6)))) := z1.tr (zsm_pf.wk (fun a e => Or.inr (by cases e; exact ⟨⟨by omega, by omega⟩, by omega⟩)))
  have e6 : nI (N 6) - R 3 A = nI (P 6) := by rw [q1, q3, pk_sub (by omega), Nat.add_sub_cancel]
  have e7 : nI (N 7) - R 4 A = nI (P 7) := by rw [q2, q4, pk_sub (by omega), Nat.add_sub_cancel]
  have f17 := Y2.f17
  rw [nup_o (by omega)] at f17
  have Y3 := Y2.put (by omega) 17 7 (by omega) (P 7)
  have w3 := zstf_ok (ty := 0) (v := .int (nI (P 7))) f17 zfits_i
  have A3 : AC (zpf (zpf (zpf h 5 5 (.int (nI A))) y 16 (.int (nI (P 6)))) y 17 (.int (nI (P 7)))) A R := A2.keep (fun a ha => zpf_o (by unfold aP at ha; omega))
  have z3 : zsm (fun a => a = 5 ∨ yQ y a) h (zpf (zpf (zpf h 5 5 (.int (nI A))) y 16 (.int (nI (P 6)))) y 17 (.int (nI (P 7)))) := z2.tr (zsm_pf.wk (fun a e => Or.inr (by cases e; exact ⟨⟨by omega, by omega⟩, by omega⟩)))
  have W3 : WF (nup (nup N 6 (P 6)) 7 (P 7)) := hW.mov (fun i h6 h7 h8 => by rw [nup_o h7, nup_o h6]) (by rw [nup_o (by omega), nup_o (by omega)]; exact hW.2.2.2.2.2.2.1)
  have o : ∀ i, i ≠ 6 → i ≠ 7 → nup (nup N 6 (P 6)) 7 (P 7) i = N i := fun i h6 h7 => by rw [nup_o h7, nup_o h6]
  have o6 : nup (nup N 6 (P 6)) 7 (P 7) 6 = P 6 := by rw [nup_o (by omega), nup_s]
  have o7 : nup (nup N 6 (P 6)) 7 (P 7) 7 = P 7 := nup_s
  have run : zcall zpp E 6 [.ref 5, .ref y] h = zrun zpp E 6 (64, [.ref 5, .ref y], [.int (R 0 A)], zpf (zpf (zpf h 5 5 (.int (nI A))) y 16 (.int (nI (P 6)))) y 17 (.int (nI (P 7)))) := by
    conv =>
      lhs
      simp only [ze6, zi6_0, zi6_0n, zi6_1, zi6_4, zi6_7, zi6_8 (sk := []), zi6_9, zi6_9n, zi6_10, zi6_10i, zi6_11, zi6_14, zi6_15, zi6_16, zi6_19, zi6_19n, zi6_20, zi6_20i, zi6_21, zi6_24, zi6_24n, zi6_25, zi6_28, zi6_28n, zi6_29, zi6_32, zi6_33, zi6_34, zi6_37, zi6_37n, zi6_38, zi6_38i, zi6_39, zi6_42, zi6_42n, zi6_43, zi6_46, zi6_46n, zi6_47, zi6_50, zi6_51, zi6_52, zi6_55, zi6_55n, zi6_56, zi6_59, zi6_59n, zi6_60, zi6_63, zcl1, zlow_0, zlow_1, zlow_2, zlow_3, zlow_4, zfree_0, zfree_i, zfree_r, zfree_n, zfree_d, zfree_f, zfree_s, if_true, if_false, Option.bind_some, Option.toList_some, Option.toList_none, List.cons_append, List.nil_append, List.set_cons_zero, List.set_cons_succ, Bool.false_eq_true, reduceIte, zsw_c, zsw_n, Nat.reduceAdd, hA.kept, k0, k0', ix_m1 (show 1 ≤ A + 1 by omega), Nat.add_sub_cancel, w1, Y1.f16, A1.r3, A1.kept, A1.g 3 (by omega) (show A < 24 by omega) (a := 9) (by omega), e6, w2, f17, A2.r4, A2.kept, A2.g 4 (by omega) (show A < 24 by omega) (a := 10) (by omega), e7, w3, A3.r0, A3.kept, A3.g 0 (by omega) (show A < 24 by omega) (a := 6) (by omega)]
  generalize zpf (zpf (zpf h 5 5 (.int (nI A))) y 16 (.int (nI (P 6)))) y 17 (.int (nI (P 7))) = h3 at *
  generalize hN2 : nup (nup N 6 (P 6)) 7 (P 7) = N2 at *
  have g1 := A3.g 1 (by omega) (show A < 24 by omega) (a := 7) (by omega)
  have d256 := hP.d8
  have P3 := hP.2.2.2.1.2
  have P4 := hP.2.2.2.2.1
  rcases q with ⟨s0, b, hb, t1, t2, t3, t4⟩ | ⟨s0, b, hb, t1, t2, t3, t4⟩ | ⟨s0, k, hk, t1, t2, t3, t4, t5⟩ | ⟨s0, b, hb, t1, t2, t3, t4⟩
  · have f15 := Y3.f15
    rw [o 8 (by omega) (by omega), t3] at f15
    have Y4 := Y3.put (by omega) 15 8 (by omega) (P 8)
    have w4 := zstf_ok (ty := 0) (v := .int (nI (P 8))) f15 zfits_i
    have e8 : nI (zclr (P 8) b) ^^^ (1 <<< (nI b &&& 31)) = nI (P 8) := by rw [(ztog_k _ (zclr_lt d256 (by omega)) b (by omega)).1, ztog_c _ d256 b (by omega) t2]
    rw [s0] at run
    rw [t1] at g1
    refine ⟨zpf h3 y 15 (.int (nI (P 8))), ?_, A3.keep (fun a ha => zpf_o (by unfold aP at ha; omega)), ?_, z3.tr (zsm_pf.wk (fun a e => Or.inr (by cases e; exact ⟨⟨by omega, by omega⟩, by omega⟩)))⟩
    · rw [run]
      simp only [zi6_64, zi6_92, zi6_92n, zi6_93, zi6_93i, zi6_94, zi6_97, zi6_98, zi6_98n, zi6_99, zi6_102, zi6_102n, zi6_103, zi6_106, zi6_107, zi6_108, zi6_109, zi6_112, zi6_115, zi6_115n, zi6_116, zi6_116n, zi6_117, zi6_120, zi6_120n, zi6_121, zi6_124, zi6_125, zi6_128, zi6_131, zi6_131n, zi6_132, zi6_135, zi6_135n, zi6_136, zi6_139, zi6_139n, zi6_140, zi6_143, zi6_144, zi6_144n, zi6_145, zi6_148, zi6_148n, zi6_149, zi6_152, zi6_153, zi6_154, zi6_155 (sk := []), zcl1, zlow_0, zlow_1, zlow_2, zlow_3, zlow_4, zfree_0, zfree_i, zfree_r, zfree_n, zfree_d, zfree_f, zfree_s, if_true, if_false, Option.bind_some, Option.toList_some, Option.toList_none, List.cons_append, List.nil_append, List.set_cons_zero, List.set_cons_succ, Bool.false_eq_true, reduceIte, zsw_c, zsw_n, Nat.reduceAdd, show ((0 : Int32) = Int32.ofInt 0) = True by decide, f15, A3.r1, A3.kept, g1, e8, w4, z10]
    · have eP : nup N2 8 (P 8) = P := by
        funext i
        by_cases h8 : i = 8
        · subst h8; exact nup_s
        · rw [nup_o h8]
          by_cases h6 : i = 6
          · subst h6; exact o6
          · by_cases h7 : i = 7
            · subst h7; exact o7
            · rw [o i h6 h7, t4 i h6 h7 h8]
      rw [eP] at Y4
      exact Y4
  · have f15 := Y3.f15
    rw [o 8 (by omega) (by omega), t3] at f15
    have Y4 := Y3.put (by omega) 15 8 (by omega) (P 8)
    have w4 := zstf_ok (ty := 0) (v := .int (nI (P 8))) f15 zfits_i
    have e8 : nI (zput (P 8) b) ^^^ (1 <<< (nI b &&& 31)) = nI (P 8) := by rw [(ztog_k _ (zput_lt d256 (by omega)) b (by omega)).1, ztog_p _ d256 b (by omega) t2]
    rw [s0] at run
    rw [t1] at g1
    refine ⟨zpf h3 y 15 (.int (nI (P 8))), ?_, A3.keep (fun a ha => zpf_o (by unfold aP at ha; omega)), ?_, z3.tr (zsm_pf.wk (fun a e => Or.inr (by cases e; exact ⟨⟨by omega, by omega⟩, by omega⟩)))⟩
    · rw [run]
      simp only [zi6_64, zi6_92, zi6_92n, zi6_93, zi6_93i, zi6_94, zi6_97, zi6_98, zi6_98n, zi6_99, zi6_102, zi6_102n, zi6_103, zi6_106, zi6_107, zi6_108, zi6_109, zi6_112, zi6_115, zi6_115n, zi6_116, zi6_116n, zi6_117, zi6_120, zi6_120n, zi6_121, zi6_124, zi6_125, zi6_128, zi6_131, zi6_131n, zi6_132, zi6_135, zi6_135n, zi6_136, zi6_139, zi6_139n, zi6_140, zi6_143, zi6_144, zi6_144n, zi6_145, zi6_148, zi6_148n, zi6_149, zi6_152, zi6_153, zi6_154, zi6_155 (sk := []), zcl1, zlow_0, zlow_1, zlow_2, zlow_3, zlow_4, zfree_0, zfree_i, zfree_r, zfree_n, zfree_d, zfree_f, zfree_s, if_true, if_false, Option.bind_some, Option.toList_some, Option.toList_none, List.cons_append, List.nil_append, List.set_cons_zero, List.set_cons_succ, Bool.false_eq_true, reduceIte, zsw_c, zsw_n, Nat.reduceAdd, show ((2 : Int32) = Int32.ofInt 0) = False by decide, show ((2 : Int32) = Int32.ofInt 1) = False by decide, show ((2 : Int32) = Int32.ofInt 2) = True by decide, f15, A3.r1, A3.kept, g1, e8, w4, z10]
    · have eP : nup N2 8 (P 8) = P := by
        funext i
        by_cases h8 : i = 8
        · subst h8; exact nup_s
        · rw [nup_o h8]
          by_cases h6 : i = 6
          · subst h6; exact o6
          · by_cases h7 : i = 7
            · subst h7; exact o7
            · rw [o i h6 h7, t4 i h6 h7 h8]
      rw [eP] at Y4
      exact Y4
  · have n4 : N2 4 = P 4 := by rw [o 4 (by omega) (by omega), t5 4 (by omega) (by omega) (by omega)]
    have n25 : N2 (25 + 4 * k) = 1 := by rw [o _ (by omega) (by omega), t5 _ (by omega) (by omega) (by omega), t2]
    obtain ⟨h4, e4, z4, Y4⟩ := sp_turn (E := E) W3 Y3 (by omega) (by rw [n4]; exact hk) n25
    obtain ⟨h4', e4', z4'⟩ := sp_turnX (E := E) W3 Y3 (by omega) (by rw [n4]; exact hk) n25
    rw [e4] at e4'
    cases e4'
    have hsel : zsel 9 [9, 76] = some 76 := rfl
    rw [s0] at run
    rw [t1] at g1
    refine ⟨h4, ?_, A3.keep (fun a ha => z4.2 a (by unfold aP at ha; unfold yP; omega)), ?_, z3.tr (z4'.wk (fun a e => Or.inr (by unfold yQ yP; omega)))⟩
    · rw [run]
      simp only [zi6_64, zi6_92, zi6_92n, zi6_93, zi6_93i, zi6_94, zi6_97, zi6_98, zi6_98n, zi6_99, zi6_102, zi6_102n, zi6_103, zi6_106, zi6_107, zi6_108, zi6_109, zi6_112, zi6_115, zi6_115n, zi6_116, zi6_116n, zi6_117, zi6_120, zi6_120n, zi6_121, zi6_124, zi6_125, zi6_128, zi6_131, zi6_131n, zi6_132, zi6_135, zi6_135n, zi6_136, zi6_139, zi6_139n, zi6_140, zi6_143, zi6_144, zi6_144n, zi6_145, zi6_148, zi6_148n, zi6_149, zi6_152, zi6_153, zi6_154, zi6_155 (sk := []), zcl1, zlow_0, zlow_1, zlow_2, zlow_3, zlow_4, zfree_0, zfree_i, zfree_r, zfree_n, zfree_d, zfree_f, zfree_s, if_true, if_false, Option.bind_some, Option.toList_some, Option.toList_none, List.cons_append, List.nil_append, List.set_cons_zero, List.set_cons_succ, Bool.false_eq_true, reduceIte, zsw_c, zsw_n, Nat.reduceAdd, show ((1 : Int32) = Int32.ofInt 0) = False by decide, show ((1 : Int32) = Int32.ofInt 1) = True by decide, A3.r1, A3.kept, g1, Y3.cls, hsel, e4, z10]
    · have eP : turN N2 k = P := by
        funext i
        by_cases h8 : i = 28 + 4 * k
        · subst h8
          rw [tur_k, o _ (by omega) (by omega), t4, t3]
        · rw [tur_o h8]
          by_cases h6 : i = 6
          · subst h6; exact o6
          · by_cases h7 : i = 7
            · subst h7; exact o7
            · rw [o i h6 h7, t5 i h6 h7 h8]
      rw [eP] at Y4
      exact Y4
  · have n3 : N2 3 = P 3 := by rw [o 3 (by omega) (by omega), t4 3 (by omega) (by omega) (by omega)]
    have Y4 := Y3.gap (b := b) (by omega) (by rw [n3]; exact P3) (by rw [n3]; exact hb) (P (10 + 2 * b))
    have w4 : zars 0 h3 (y + 2) (nI b) (nI (P (10 + 2 * b))) = some (zpa h3 (y + 2) b (nI (P (10 + 2 * b)))) := by
      obtain ⟨A, cr, Y, -⟩ := Y3
      exact Y.s 1 (by omega) (by rw [if_pos (by omega)]; omega)
    have g2 := A3.g 2 (by omega) (show A < 24 by omega) (a := 8) (by omega)
    rw [t2] at g2
    rw [s0] at run
    rw [t1] at g1
    refine ⟨zpa h3 (y + 2) b (nI (P (10 + 2 * b))), ?_, A3.keep (fun a ha => zpa_o (by unfold aP at ha; omega)), ?_, z3.tr (zsm_pa.wk (fun a e => Or.inr (by cases e; exact ⟨⟨by omega, by omega⟩, by omega⟩)))⟩
    · rw [run]
      simp only [zi6_64, zi6_92, zi6_92n, zi6_93, zi6_93i, zi6_94, zi6_97, zi6_98, zi6_98n, zi6_99, zi6_102, zi6_102n, zi6_103, zi6_106, zi6_107, zi6_108, zi6_109, zi6_112, zi6_115, zi6_115n, zi6_116, zi6_116n, zi6_117, zi6_120, zi6_120n, zi6_121, zi6_124, zi6_125, zi6_128, zi6_131, zi6_131n, zi6_132, zi6_135, zi6_135n, zi6_136, zi6_139, zi6_139n, zi6_140, zi6_143, zi6_144, zi6_144n, zi6_145, zi6_148, zi6_148n, zi6_149, zi6_152, zi6_153, zi6_154, zi6_155 (sk := []), zcl1, zlow_0, zlow_1, zlow_2, zlow_3, zlow_4, zfree_0, zfree_i, zfree_r, zfree_n, zfree_d, zfree_f, zfree_s, if_true, if_false, Option.bind_some, Option.toList_some, Option.toList_none, List.cons_append, List.nil_append, List.set_cons_zero, List.set_cons_succ, Bool.false_eq_true, reduceIte, zsw_c, zsw_n, Nat.reduceAdd, show ((3 : Int32) = Int32.ofInt 0) = False by decide, show ((3 : Int32) = Int32.ofInt 1) = False by decide, show ((3 : Int32) = Int32.ofInt 2) = False by decide, Y3.r7, A3.r1, A3.kept, g1, A3.r2, g2, w4, z10]
    · have eP : nup N2 (10 + 2 * b) (P (10 + 2 * b)) = P := by
        funext i
        by_cases h8 : i = 10 + 2 * b
        · subst h8; exact nup_s
        · rw [nup_o h8]
          by_cases h6 : i = 6
          · subst h6; exact o6
          · by_cases h7 : i = 7
            · subst h7; exact o7
            · rw [o i h6 h7, t4 i h6 h7 h8]
      rw [eP] at Y4
      exact Y4
theorem undL {sc m : Nat → Int32} {A : Nat} {P : Nat → Nat} (hA : A < 24) (hs : sc 8 = nI A) (hP : ∀ i, i < 73 → m (73 * A + i) = nI (P i)) : ∀ (c j : Nat) (H : zH) (g : Nat → Int32), j + c = 73 → MdO H sc → zrow 0 H 79 1752 m → zrow 0 H 77 73 g → (∀ i, i < j → g i = nI (P i)) → ∃ H', zrun zpp E 194 (27, [.ref 73, .int (nI j)], [], H) = some (some (.int (nI A)), H') ∧ MdO H' sc ∧ MY H' P ∧ zsm (fun x => x = 77) H H' := by
  intro c
  induction c with
  | zero =>
    intro j H g hj hM hm hg hgi
    have f8 : zfld [11] H 73 8 = some (.int (nI A)) := by rw [hM.i 8 rfl (by omega), hs]
    refine ⟨H, ?_, hM, zrow_ext hg (fun i hi => hgi i (by omega)), zsm.rf H⟩
    simp only [zi194_27, zi194_28, zcl1, zlow_0, zlow_1, zlow_2, zlow_3, zlow_4, zfree_0, zfree_i, zfree_r, zfree_n, zfree_d, zfree_f, zfree_s, if_true, if_false, Option.bind_some, Option.toList_some, Option.toList_none, List.cons_append, List.nil_append, List.set_cons_zero, List.set_cons_succ, Bool.false_eq_true, reduceIte, zsw_c, zsw_n, Nat.reduceAdd]
    rw [zi194_30, if_pos (by rw [show (73 : Int32) = nI 73 from rfl, nI_leP (by omega) (by omega)]; omega)]
    simp only [zi194_59, zi194_59n, zi194_60, zi194_63 (sk := []), zcl1, zlow_0, zlow_1, zlow_2, zlow_3, zlow_4, zfree_0, zfree_i, zfree_r, zfree_n, zfree_d, zfree_f, zfree_s, if_true, if_false, Option.bind_some, Option.toList_some, Option.toList_none, List.cons_append, List.nil_append, List.set_cons_zero, List.set_cons_succ, Bool.false_eq_true, reduceIte, zsw_c, zsw_n, Nat.reduceAdd, f8]
  | succ c ih =>
    intro j H g hj hM hm hg hgi
    have f8 : zfld [11] H 73 8 = some (.int (nI A)) := by rw [hM.i 8 rfl (by omega), hs]
    have r := zarr_at (j := 73 * A + j) hm (by omega) (by omega)
    rw [hP j (by omega)] at r
    have w := zars_at (j := j) (x := nI (P j)) hg (by omega) (by omega) zfits_i
    obtain ⟨H', e, q1, q2, q3⟩ := ih (j + 1) (zpa H 77 j (nI (P j))) (upd g j (nI (P j))) (by omega) hM.pa (zrow_o (by omega) hm) (zrow_pa hg) (fun i hi => by
      unfold upd
      by_cases hij : i = j
      · subst hij; rw [if_pos rfl]
      · rw [if_neg hij]; exact hgi i (by omega))
    refine ⟨H', ?_, q1, q2, zsm_pa.tr q3⟩
    rw [← e]
    conv =>
      lhs
      simp only [zi194_27, zi194_28, zcl1, zlow_0, zlow_1, zlow_2, zlow_3, zlow_4, zfree_0, zfree_i, zfree_r, zfree_n, zfree_d, zfree_f, zfree_s, if_true, if_false, Option.bind_some, Option.toList_some, Option.toList_none, List.cons_append, List.nil_append, List.set_cons_zero, List.set_cons_succ, Bool.false_eq_true, reduceIte, zsw_c, zsw_n, Nat.reduceAdd]
    rw [zi194_30, if_neg (by rw [show (73 : Int32) = nI 73 from rfl, nI_leP (by omega) (by omega)]; omega)]
    conv =>
      lhs
      simp only [zi194_33, zi194_33n, zi194_34, zi194_37, zi194_38, zi194_38n, zi194_39, zi194_42, zi194_44, zi194_44n, zi194_45, zi194_48, zi194_49, zi194_50, zi194_51, zi194_52, zi194_53, zi194_56, zcl1, zlow_0, zlow_1, zlow_2, zlow_3, zlow_4, zfree_0, zfree_i, zfree_r, zfree_n, zfree_d, zfree_f, zfree_s, if_true, if_false, Option.bind_some, Option.toList_some, Option.toList_none, List.cons_append, List.nil_append, List.set_cons_zero, List.set_cons_succ, Bool.false_eq_true, reduceIte, zsw_c, zsw_n, Nat.reduceAdd, hM.r5, hM.r7, f8, ix_73, r, w, ix_p1]
theorem ok_undo (hJ : J h n) : OK E h n 97 194 [] := by
  obtain ⟨y, s, v, sc, N, hJ, h1, hB⟩ := hJ
  have hy := hJ.ys
  unfold yys at hy
  have c1 : zsel 0 [0, 6] = some 6 := rfl
  obtain ⟨A, R, V, m, a1, a2, a3, a4, a5, a6⟩ := hJ.act
  cases A with
  | zero =>
    have M1 := hJ.md.put 0 rfl (by omega) 0
    have w0 := hJ.md.st 0 rfl (by omega) 0
    have f8 : zfld [11] (zpf h 73 0 (.int 0)) 73 8 = some (.int (nI 0)) := by rw [M1.i 8 rfl (by omega)]; exact congrArg _ (congrArg _ a2)
    have e6 : zcall zpp E 6 [.ref 5, .ref y] h = some (some (.int 0), h) := by
      simp only [ze6, zi6_0, zi6_0n, zi6_1, zi6_4, zi6_7, zi6_8 (sk := []), zcl1, zlow_0, zlow_1, zlow_2, zlow_3, zlow_4, zfree_0, zfree_i, zfree_r, zfree_n, zfree_d, zfree_f, zfree_s, if_true, if_false, Option.bind_some, Option.toList_some, Option.toList_none, List.cons_append, List.nil_append, List.set_cons_zero, List.set_cons_succ, Bool.false_eq_true, reduceIte, zsw_c, zsw_n, Nat.reduceAdd, a3.kept, show (0 < nI 0) = False by decide, show (nI 0 ≤ 0) = True by decide]
    refine ⟨(-1000002), h, zpf h 73 0 (.int 0), ?_, ?_, hJ.q h1 hB⟩
    · simp only [ze97, zi97_0, zi97_0n, zi97_1, zi97_4, zi97_4n, zi97_5, zi97_8, zi97_11, zi97_14, zi97_14n, zi97_15, zi97_18, zi97_21, zi97_24, zi97_26 (sk := []), zcl1, zlow_0, zlow_1, zlow_2, zlow_3, zlow_4, zfree_0, zfree_i, zfree_r, zfree_n, zfree_d, zfree_f, zfree_s, if_true, if_false, Option.bind_some, Option.toList_some, Option.toList_none, List.cons_append, List.nil_append, List.set_cons_zero, List.set_cons_succ, Bool.false_eq_true, reduceIte, zsw_c, zsw_n, Nat.reduceAdd, hJ.co.r3, hJ.co.r7, a3.1, c1, e6, z00]
    · simp only [ze194, zi194_0, zi194_0n, zi194_1, zi194_2, zi194_5, zi194_5n, zi194_6, zi194_9, zi194_12, zi194_14 (sk := []), zcl1, zlow_0, zlow_1, zlow_2, zlow_3, zlow_4, zfree_0, zfree_i, zfree_r, zfree_n, zfree_d, zfree_f, zfree_s, if_true, if_false, Option.bind_some, Option.toList_some, Option.toList_none, List.cons_append, List.nil_append, List.set_cons_zero, List.set_cons_succ, Bool.false_eq_true, reduceIte, zsw_c, zsw_n, Nat.reduceAdd, w0, f8, show (nI 0 = 0) = True by decide]
  | succ A =>
    obtain ⟨⟨pf, pl⟩, l, hm⟩ := a6 A (by omega)
    rw [a5] at l
    have hN3 : N 3 = V A 3 := by
      obtain ⟨dS, dF, -, -, -, -, ⟨-, b, -, -, -, -, t⟩ | ⟨-, b, -, -, -, -, t⟩ | ⟨-, k, -, -, -, -, -, t⟩ | ⟨-, b, -, -, -, -, t⟩⟩ := l
      · exact t 3 (by omega) (by omega) (by omega)
      · exact t 3 (by omega) (by omega) (by omega)
      · exact t 3 (by omega) (by omega) (by omega)
      · exact t 3 (by omega) (by omega) (by omega)
    have hW := hJ.wg.wf (i := 3) (by omega) (by rw [hN3]; exact pf.2.2.2.1.1)
    obtain ⟨hr, er, A1, Yr, zr⟩ := sp_takesBack (E := E) a3 a1 hJ.yn (by omega) hW pf l
    have C1 := hJ.co.keep (zr.2 0 (by unfold yQ yP; omega))
    have Cr : CR hr y := hJ.yc.2.sm zr (by omega) (fun a e => by unfold yQ yP at e; omega) (by unfold yQ; omega)
    have Mc : MdO hr sc := hJ.md.keep (zr.2 73 (by unfold yQ yP; omega))
    have mc : zrow 0 hr 79 1752 m := zrow_c (zr.2 79 (by unfold yQ yP; omega)) a4
    have gc : MY hr N := hJ.my.keep (zr.2 77 (by unfold yQ yP; omega))
    have v0 := Mc.st 0 rfl (by omega) 0
    have M2 := Mc.put 0 rfl (by omega) 0
    have f8 : zfld [11] (zpf hr 73 0 (.int 0)) 73 8 = some (.int (nI (A + 1))) := by rw [M2.i 8 rfl (by omega)]; exact congrArg _ (congrArg _ a2)
    have v8 := M2.st 8 rfl (by omega) (nI A)
    have M3 := M2.put 8 rfl (by omega) (nI A)
    obtain ⟨H, e, q1, q2, q3⟩ := undL (E := E) (A := A) (P := V A) (m := m) (by omega) (show upd (upd sc 0 0) 8 (nI A) 8 = nI A from rfl) hm 73 0 _ _ (by omega) M3 (zrow_pf (zrow_pf mc)) (zrow_pf (zrow_pf gc)) (fun i hi => by omega)
    have ne : (nI (A + 1) = 0) = False := eq_false (by rw [show (0 : Int32) = nI 0 from rfl, nI_eqP (by omega) (by omega)]; omega)
    refine ⟨(nI A), hr, H, ?_, ?_, y, s, v, _, V A, hJ.acted (sc' := upd (upd sc 0 0) 8 (nI A)) ?_ q1 (fun k hk h0 => by unfold upd; rw [if_neg hk, if_neg h0]) ?_ ?_ q2 (Or.inl ⟨pf, pl⟩), h1, ((((hB.sm zr).sm zsm_pf).sm zsm_pf).sm q3).up (by omega)⟩
    · simp only [ze97, zi97_0, zi97_0n, zi97_1, zi97_4, zi97_4n, zi97_5, zi97_8, zi97_11, zi97_14, zi97_14n, zi97_15, zi97_18, zi97_21, zi97_24, zi97_26 (sk := []), zcl1, zlow_0, zlow_1, zlow_2, zlow_3, zlow_4, zfree_0, zfree_i, zfree_r, zfree_n, zfree_d, zfree_f, zfree_s, if_true, if_false, Option.bind_some, Option.toList_some, Option.toList_none, List.cons_append, List.nil_append, List.set_cons_zero, List.set_cons_succ, Bool.false_eq_true, reduceIte, zsw_c, zsw_n, Nat.reduceAdd, hJ.co.r3, hJ.co.r7, a3.1, c1, er, z10, C1.r3, A1.kept]
    · have e0 : zcall zpp E 194 [.ref 73] hr = zrun zpp E 194 (27, [.ref 73, .int (nI 0)], [], zpf (zpf hr 73 0 (.int 0)) 73 8 (.int (nI A))) := by
        conv =>
          lhs
          simp only [ze194, zi194_0, zi194_0n, zi194_1, zi194_2, zi194_5, zi194_5n, zi194_6, zi194_9, zi194_12, zi194_14 (sk := []), zi194_15, zi194_15n, zi194_16, zi194_16i, zi194_17, zi194_20, zi194_21, zi194_22, zi194_25, zi194_26, zcl1, zlow_0, zlow_1, zlow_2, zlow_3, zlow_4, zfree_0, zfree_i, zfree_r, zfree_n, zfree_d, zfree_f, zfree_s, if_true, if_false, Option.bind_some, Option.toList_some, Option.toList_none, List.cons_append, List.nil_append, List.set_cons_zero, List.set_cons_succ, Bool.false_eq_true, reduceIte, zsw_c, zsw_n, Nat.reduceAdd, v0, f8, ne, ix_m1 (show 1 ≤ A + 1 by omega), Nat.add_sub_cancel, v8]
        rfl
      rw [e0, e]
    · have z1 := zr.fr (fun a e => by unfold yQ yP at e; omega)
      have z2 : fr (fun a => yP y a ∨ aP a ∨ a = 73 ∨ a = 77 ∨ a = 79) hr H := (((fr_pf (by omega)).wk (fun a e => Or.inr (Or.inr (Or.inl e)))).tr ((fr_pf (by omega)).wk (fun a e => Or.inr (Or.inr (Or.inl e))))).tr ((q3.fr (fun a e => by omega)).wk (fun a e => Or.inr (Or.inr (Or.inr (Or.inl e)))))
      exact (z1.wk (fun a e => by
        rcases e with e | e
        · exact Or.inr (Or.inl (by unfold aP; omega))
        · exact Or.inl e.1)).tr z2
    · refine ⟨A, R, V, m, by omega, rfl, A1.keep (fun a ha => ?_), ?_, rfl, fun j hj => a6 j (by omega)⟩
      · rw [q3.2 a (by unfold aP at ha; omega), zpf_o (by unfold aP at ha; omega), zpf_o (by unfold aP at ha; omega)]
      · exact zrow_c (q3.2 79 (by omega)) (zrow_pf (zrow_pf mc))
    · have z2 : fr (fun a => a = 73 ∨ a = 77) hr H := (((fr_pf (by omega)).wk (fun a e => Or.inl e)).tr ((fr_pf (by omega)).wk (fun a e => Or.inl e))).tr ((q3.fr (fun a e => by omega)).wk (fun a e => Or.inr e))
      exact YC.keep ⟨Yr, Cr⟩ z2 (by omega) (fun a h1 h2 => by omega)
end UNDO
