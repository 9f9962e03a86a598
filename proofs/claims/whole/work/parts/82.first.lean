/-! WHICH FELL FIRST -/
def telN (f : Nat → Int32) (d : Nat) : Nat → Bool
  | 0 => true
  | n + 1 => telN f d n && decide (f n = zb (d.testBit n))
theorem telN_f {f : Nat → Int32} {d k : Nat} : ∀ m, telN f d k = false → telN f d (k + m) = false
  | 0, h => h
  | m + 1, h => by
    show (telN f d (k + m) && _) = false
    rw [telN_f m h]
    rfl
def fsN (N : Nat → Nat) (f : Nat → Int32) (w : Nat) : Nat → Nat
  | 0 => 0
  | b + 1 => if telN f (fellN N b w) (N 3) = true then zput (fsN N f w b) b else fsN N f w b
theorem fsN_lt {N : Nat → Nat} {f : Nat → Int32} {w : Nat} : ∀ b, b ≤ 8 → fsN N f w b < 256
  | 0, _ => by unfold fsN; omega
  | b + 1, h => by
    have ih := fsN_lt (N := N) (f := f) (w := w) b (by omega)
    unfold fsN
    split
    · exact zput_lt ih (by omega)
    · exact ih
theorem rgt_l {N : Nat → Nat} : ∀ n d b, d < 256 → b + n ≤ 8 → rgt N d b n < 256
  | 0, d, b, h, _ => by unfold rgt; exact h
  | n + 1, d, b, h, hb => by
    unfold rgt
    split
    · exact rgt_l n _ _ (zput_lt h (by omega)) (by omega)
    · exact h
theorem lft_l {N : Nat → Nat} : ∀ b d, d < 256 → b ≤ 8 → lft N d b < 256
  | 0, d, h, _ => by unfold lft; exact h
  | b + 1, d, h, hb => by
    unfold lft
    split
    · exact lft_l b _ (zput_lt h (by omega)) (by omega)
    · exact h
theorem fellN_l {N : Nat → Nat} (h3 : N 3 ≤ 8) {b w : Nat} (hb : b < N 3) : fellN N b w < 256 := by
  unfold fellN
  have := zpow_lt b (by omega)
  split
  · exact rgt_l _ _ _ this (by omega)
  · exact lft_l _ _ this (by omega)
theorem zor_nI (a b : Nat) : nI a ||| nI b = nI (a ||| b) := by
  apply Int32.toBitVec_inj.1
  show BitVec.ofNat 32 a ||| BitVec.ofNat 32 b = BitVec.ofNat 32 (a ||| b)
  apply BitVec.eq_of_getLsbD_eq
  intro i hi
  simp [BitVec.getLsbD_ofNat, hi, Nat.testBit_or]
theorem zbit_16 : ∀ b, b < 16 → (1 : Int32) <<< (nI b &&& 31) = nI (2 ^ b) := by decide +kernel
theorem zor_p : ∀ d, d < 256 → ∀ b, b < 8 → d ||| 2 ^ b = zput d b := by decide +kernel
theorem zor_8 : ∀ d, d < 256 → ∀ b, b < 8 → 256 * d ||| 2 ^ (b + 8) = 256 * zput d b := by decide +kernel
theorem zor_16 {l r b : Nat} (hr : r < 256) (hb : b < 8) : (256 * l + r) ||| 2 ^ b = 256 * l + zput r b := by
  have e1 : 2 ^ 8 * l + r = 2 ^ 8 * l ||| r := Nat.two_pow_add_eq_or_of_lt hr l
  have e2 : 2 ^ 8 * l + zput r b = 2 ^ 8 * l ||| zput r b := Nat.two_pow_add_eq_or_of_lt (zput_lt hr hb) l
  show (2 ^ 8 * l + r) ||| 2 ^ b = 2 ^ 8 * l + zput r b
  rw [e1, e2, Nat.or_assoc, zor_p r hr b hb]
section FIR
variable {E : zE} {h : zH} {n y s : Nat} {v : Int32} {sc : Nat → Int32} {N : Nat → Nat}
theorem sp_tells {a i d : Nat} {th ln sz : Int32} {it : Nat → Int32} (hC : CO h y s v) (hY : YN h y N) (h3 : N 3 ≤ 8) (hR : RW h a th ln sz it) (hi : i + N 3 ≤ 40) (hd : d < 256) : zcall zpp E 134 [.ref 0, .ref a, .int (nI i), .int (nI d)] h = some (some (.int (zb (telN (fun k => it (i + k)) d (N 3)))), h) := by
  have loop : ∀ (m k : Nat), k + m = N 3 → telN (fun k => it (i + k)) d k = true → zrun zpp E 134 (3, [.ref 0, .ref a, .int (nI i), .int (nI d), .int (nI k)], [], h) = some (some (.int (zb (telN (fun k => it (i + k)) d (N 3)))), h) := by
    intro m
    induction m with
    | zero =>
      intro k hk ht
      simp only [zi134_3, zi134_5, zi134_5n, zi134_6, zi134_9, zcl1, zlow_0, zlow_1, zlow_2, zlow_3, zlow_4, zfree_0, zfree_i, zfree_r, zfree_n, zfree_d, zfree_f, zfree_s, if_true, if_false, Option.bind_some, Option.toList_some, Option.toList_none, List.cons_append, List.nil_append, List.set_cons_zero, List.set_cons_succ, Bool.false_eq_true, reduceIte, zsw_c, zsw_n, Nat.reduceAdd, hC.r7, hY.f3]
      rw [zi134_12, if_pos (by rw [nI_leP (by omega) (by omega)]; omega)]
      rw [← show k = N 3 by omega, ht]
      simp only [zi134_49, zi134_50 (sk := []), zcl1, zlow_0, zlow_1, zlow_2, zlow_3, zlow_4, zfree_0, zfree_i, zfree_r, zfree_n, zfree_d, zfree_f, zfree_s, if_true, if_false, Option.bind_some, Option.toList_some, Option.toList_none, List.cons_append, List.nil_append, List.set_cons_zero, List.set_cons_succ, Bool.false_eq_true, reduceIte, zsw_c, zsw_n, Nat.reduceAdd, zb_t, z10]
    | succ m ih =>
      intro k hk ht
      simp only [zi134_3, zi134_5, zi134_5n, zi134_6, zi134_9, zcl1, zlow_0, zlow_1, zlow_2, zlow_3, zlow_4, zfree_0, zfree_i, zfree_r, zfree_n, zfree_d, zfree_f, zfree_s, if_true, if_false, Option.bind_some, Option.toList_some, Option.toList_none, List.cons_append, List.nil_append, List.set_cons_zero, List.set_cons_succ, Bool.false_eq_true, reduceIte, zsw_c, zsw_n, Nat.reduceAdd, hC.r7, hY.f3]
      rw [zi134_12, if_neg (by rw [nI_leP (by omega) (by omega)]; omega)]
      have g := zarr_at (j := i + k) hR.2.2.2.2.2 (by omega) (by omega)
      have e1 : zrun zpp E 134 (15, [.ref 0, .ref a, .int (nI i), .int (nI d), .int (nI k)], [], h) = zrun zpp E 134 (38, [.ref 0, .ref a, .int (nI i), .int (nI d), .int (nI k)], [.int (zb (d.testBit k)), .int (it (i + k))], h) := by
        conv =>
          lhs
          simp only [zi134_15, zi134_15n, zi134_16, zi134_19, zi134_20, zi134_22, zi134_23, zi134_24, zi134_25, zi134_27, zi134_30, zi134_33, zi134_34, zi134_37, zcl1, zlow_0, zlow_1, zlow_2, zlow_3, zlow_4, zfree_0, zfree_i, zfree_r, zfree_n, zfree_d, zfree_f, zfree_s, if_true, if_false, Option.bind_some, Option.toList_some, Option.toList_none, List.cons_append, List.nil_append, List.set_cons_zero, List.set_cons_succ, Bool.false_eq_true, reduceIte, zsw_c, zsw_n, Nat.reduceAdd, hR.2.1, nI_add, g, sp_has8 hd (show k < 8 by omega)]
        cases d.testBit k <;> rfl
      rw [e1]
      by_cases hq : it (i + k) = zb (d.testBit k)
      · have t1 : telN (fun k => it (i + k)) d (k + 1) = true := by
          show (telN (fun k => it (i + k)) d k && decide (it (i + k) = zb (d.testBit k))) = true
          rw [ht, decide_eq_true hq]
          rfl
        rw [zi134_38, if_pos hq]
        simp only [zi134_43, zi134_46, zcl1, zlow_0, zlow_1, zlow_2, zlow_3, zlow_4, zfree_0, zfree_i, zfree_r, zfree_n, zfree_d, zfree_f, zfree_s, if_true, if_false, Option.bind_some, Option.toList_some, Option.toList_none, List.cons_append, List.nil_append, List.set_cons_zero, List.set_cons_succ, Bool.false_eq_true, reduceIte, zsw_c, zsw_n, Nat.reduceAdd, ix_p1]
        exact ih (k + 1) (by omega) t1
      · have t1 : telN (fun k => it (i + k)) d (k + 1) = false := by
          show (telN (fun k => it (i + k)) d k && decide (it (i + k) = zb (d.testBit k))) = false
          rw [decide_eq_false hq, Bool.and_false]
        have t2 := telN_f m t1
        rw [show k + 1 + m = N 3 by omega] at t2
        rw [zi134_38, if_neg hq, t2]
        simp only [zi134_41, zi134_42 (sk := []), zcl1, zlow_0, zlow_1, zlow_2, zlow_3, zlow_4, zfree_0, zfree_i, zfree_r, zfree_n, zfree_d, zfree_f, zfree_s, if_true, if_false, Option.bind_some, Option.toList_some, Option.toList_none, List.cons_append, List.nil_append, List.set_cons_zero, List.set_cons_succ, Bool.false_eq_true, reduceIte, zsw_c, zsw_n, Nat.reduceAdd, zb_f, z00]
  simp only [ze134, zi134_0, zi134_1, zcl1, zlow_0, zlow_1, zlow_2, zlow_3, zlow_4, zfree_0, zfree_i, zfree_r, zfree_n, zfree_d, zfree_f, zfree_s, if_true, if_false, Option.bind_some, Option.toList_some, Option.toList_none, List.cons_append, List.nil_append, List.set_cons_zero, List.set_cons_succ, Bool.false_eq_true, reduceIte, zsw_c, zsw_n, Nat.reduceAdd]
  exact loop (N 3) 0 (by omega) rfl
theorem firC {a i : Nat} {x th ln sz : Int32} {it : Nat → Int32} (hC : CO h y s v) (hY : YN h y N) (hW : WF N) (hR : RW h a th ln sz it) (hi : i + N 3 ≤ 40) : ∀ (m b : Nat), b + m = N 3 → zrun zpp E 112 (69, [.ref 0, .int x, .int (nI i), .ref a, .int (nI (fsN N (fun k => it (i + k)) 1 b)), .int (nI (fsN N (fun k => it (i + k)) 0 b)), .int (nI b)], [], h) = some (some (.int (nI (256 * fsN N (fun k => it (i + k)) 0 (N 3) + fsN N (fun k => it (i + k)) 1 (N 3)))), zpf h 0 9 (.int 0)) := by
  have h3 := hW.2.2.2.1.2
  have c1 : zsel 9 [9, 87] = some 87 := rfl
  have c2 : zsel 10 [10, 134] = some 134 := rfl
  have c3 : zsel 10 [10, 131] = some 131 := rfl
  intro m
  induction m with
  | zero =>
    intro b hb
    simp only [zi112_69, zi112_71, zi112_71n, zi112_72, zi112_75, zcl1, zlow_0, zlow_1, zlow_2, zlow_3, zlow_4, zfree_0, zfree_i, zfree_r, zfree_n, zfree_d, zfree_f, zfree_s, if_true, if_false, Option.bind_some, Option.toList_some, Option.toList_none, List.cons_append, List.nil_append, List.set_cons_zero, List.set_cons_succ, Bool.false_eq_true, reduceIte, zsw_c, zsw_n, Nat.reduceAdd, hC.r7, hY.f3]
    rw [zi112_78, if_pos (by rw [nI_leP (by omega) (by omega)]; omega)]
    simp only [zi112_151, zi112_151n, zi112_152, zi112_154, zi112_157, zi112_159, zi112_160, zi112_161, zi112_164 (sk := []), zcl1, zlow_0, zlow_1, zlow_2, zlow_3, zlow_4, zfree_0, zfree_i, zfree_r, zfree_n, zfree_d, zfree_f, zfree_s, if_true, if_false, Option.bind_some, Option.toList_some, Option.toList_none, List.cons_append, List.nil_append, List.set_cons_zero, List.set_cons_succ, Bool.false_eq_true, reduceIte, zsw_c, zsw_n, Nat.reduceAdd, show ∀ x, (256 : Int32) * nI x = nI (256 * x) from fun x => pk_mul 256 x, nI_add, hC.1, c3, sp_clean hC]
    rw [show b = N 3 by omega, Nat.add_comm]
  | succ m ih =>
    intro b hb
    have l1 := fsN_lt (N := N) (f := fun k => it (i + k)) (w := 1) b (by omega)
    have l0 := fsN_lt (N := N) (f := fun k => it (i + k)) (w := 0) b (by omega)
    rw [← ih (b + 1) (by omega)]
    conv =>
      lhs
      simp only [zi112_69, zi112_71, zi112_71n, zi112_72, zi112_75, zcl1, zlow_0, zlow_1, zlow_2, zlow_3, zlow_4, zfree_0, zfree_i, zfree_r, zfree_n, zfree_d, zfree_f, zfree_s, if_true, if_false, Option.bind_some, Option.toList_some, Option.toList_none, List.cons_append, List.nil_append, List.set_cons_zero, List.set_cons_succ, Bool.false_eq_true, reduceIte, zsw_c, zsw_n, Nat.reduceAdd, hC.r7, hY.f3]
    rw [zi112_78, if_neg (by rw [nI_leP (by omega) (by omega)]; omega)]
    have s1 := sp_tells (E := E) (d := fellN N b 1) hC hY h3 hR hi (fellN_l h3 (by omega))
    have s0 := sp_tells (E := E) (d := fellN N b 0) hC hY h3 hR hi (fellN_l h3 (by omega))
    have g1 : zcall zpp E 87 [.ref y, .int (nI b), .int 1] h = some (some (.int (nI (fellN N b 1))), h) := sp_goDown (w := 1) hW hY (by omega) (by omega)
    have g0 : zcall zpp E 87 [.ref y, .int (nI b), .int 0] h = some (some (.int (nI (fellN N b 0))), h) := sp_goDown (w := 0) hW hY (by omega) (by omega)
    have e1 : fsN N (fun k => it (i + k)) 1 (b + 1) = if telN (fun k => it (i + k)) (fellN N b 1) (N 3) = true then zput (fsN N (fun k => it (i + k)) 1 b) b else fsN N (fun k => it (i + k)) 1 b := rfl
    have e0 : fsN N (fun k => it (i + k)) 0 (b + 1) = if telN (fun k => it (i + k)) (fellN N b 0) (N 3) = true then zput (fsN N (fun k => it (i + k)) 0 b) b else fsN N (fun k => it (i + k)) 0 b := rfl
    rw [e1, e0]
    conv =>
      lhs
      simp only [zi112_81, zi112_83, zi112_83n, zi112_84, zi112_84n, zi112_85, zi112_86, zi112_86n, zi112_87, zi112_90, zi112_92, zi112_93, zi112_96, zi112_99, zi112_102, zi112_103, zi112_105, zi112_106, zi112_109, zi112_110, zi112_111, zi112_113, zi112_115, zi112_115n, zi112_116, zi112_116n, zi112_117, zi112_118, zi112_118n, zi112_119, zi112_122, zi112_124, zi112_125, zi112_128, zi112_131, zi112_134, zi112_135, zi112_137, zi112_138, zi112_141, zi112_142, zi112_143, zi112_145, zi112_148, zcl1, zlow_0, zlow_1, zlow_2, zlow_3, zlow_4, zfree_0, zfree_i, zfree_r, zfree_n, zfree_d, zfree_f, zfree_s, if_true, if_false, Option.bind_some, Option.toList_some, Option.toList_none, List.cons_append, List.nil_append, List.set_cons_zero, List.set_cons_succ, Bool.false_eq_true, reduceIte, zsw_c, zsw_n, Nat.reduceAdd, hC.r7, hY.cls, c1, g1, g0, hC.1, c2, s1, s0, (zput_k _ l1 b (show b < 8 by omega)).1, (zput_k _ l0 b (show b < 8 by omega)).1, zor_0, ix_p1]
    cases telN (fun k => it (i + k)) (fellN N b 1) (N 3) <;> cases telN (fun k => it (i + k)) (fellN N b 0) (N 3) <;> rfl
/-- the model's inner loop -/
theorem firK {r i S w b d : Nat} {lm mn im : Nat → Int32} (hM : MdO h sc) (hY : MY h N) (hL : ML h lm mn im) (hr : r < 8) (h3 : N 3 ≤ 8) (hi : i + N 3 ≤ 40) (hd : d < 256) : ∀ (m k : Nat), k + m = N 3 → zrun zpp E 209 (117, [.ref 73, .int (nI r), .int (nI i), .int (nI S), .int (nI w), .int (nI b), .int (nI d), .int (zb (telN (fun k => im (40 * r + (i + k))) d k)), .int (nI k)], [], h) = zrun zpp E 209 (170, [.ref 73, .int (nI r), .int (nI i), .int (nI S), .int (nI w), .int (nI b), .int (nI d), .int (zb (telN (fun k => im (40 * r + (i + k))) d (N 3))), .int (nI (N 3))], [], h) := by
  intro m
  induction m with
  | zero =>
    intro k hk
    rw [show k = N 3 by omega]
    conv =>
      lhs
      simp only [zi209_117, zi209_119, zi209_119n, zi209_120, zi209_123, zi209_124, zcl1, zlow_0, zlow_1, zlow_2, zlow_3, zlow_4, zfree_0, zfree_i, zfree_r, zfree_n, zfree_d, zfree_f, zfree_s, if_true, if_false, Option.bind_some, Option.toList_some, Option.toList_none, List.cons_append, List.nil_append, List.set_cons_zero, List.set_cons_succ, Bool.false_eq_true, reduceIte, zsw_c, zsw_n, Nat.reduceAdd, hM.r5, hY.c 3 (by decide) (x := 3) rfl]
    rw [zi209_125, if_pos (by rw [nI_leP (by omega) (by omega)]; omega)]
  | succ m ih =>
    intro k hk
    rw [← ih (k + 1) (by omega)]
    conv =>
      lhs
      simp only [zi209_117, zi209_119, zi209_119n, zi209_120, zi209_123, zi209_124, zcl1, zlow_0, zlow_1, zlow_2, zlow_3, zlow_4, zfree_0, zfree_i, zfree_r, zfree_n, zfree_d, zfree_f, zfree_s, if_true, if_false, Option.bind_some, Option.toList_some, Option.toList_none, List.cons_append, List.nil_append, List.set_cons_zero, List.set_cons_succ, Bool.false_eq_true, reduceIte, zsw_c, zsw_n, Nat.reduceAdd, hM.r5, hY.c 3 (by decide) (x := 3) rfl]
    rw [zi209_125, if_neg (by rw [nI_leP (by omega) (by omega)]; omega)]
    have e1 : telN (fun k => im (40 * r + (i + k))) d (k + 1) = (telN (fun k => im (40 * r + (i + k))) d k && decide (im (40 * r + (i + k)) = zb (d.testBit k))) := rfl
    rw [e1]
    have g := zarr_at (j := 40 * r + i + k) hL.2.2 (by omega) (by omega)
    rw [show 40 * r + i + k = 40 * r + (i + k) by omega] at g
    have eix : (40 : Int32) * nI r + nI i + nI k = nI (40 * r + (i + k)) := by rw [ix_40, nI_add, show 40 * r + i + k = 40 * r + (i + k) by omega]
    cases ht : telN (fun k => im (40 * r + (i + k))) d k
    · conv =>
        lhs
        simp only [zi209_128, zi209_130, zi209_161, zi209_162, zi209_164, zi209_167, zcl1, zlow_0, zlow_1, zlow_2, zlow_3, zlow_4, zfree_0, zfree_i, zfree_r, zfree_n, zfree_d, zfree_f, zfree_s, if_true, if_false, Option.bind_some, Option.toList_some, Option.toList_none, List.cons_append, List.nil_append, List.set_cons_zero, List.set_cons_succ, Bool.false_eq_true, reduceIte, zsw_c, zsw_n, Nat.reduceAdd, zb_f, z00, ix_p1]
      rfl
    · conv =>
        lhs
        simp only [zi209_128, zi209_130, zi209_133, zi209_133n, zi209_134, zi209_137, zi209_139, zi209_140, zi209_141, zi209_142, zi209_143, zi209_145, zi209_146, zi209_147, zi209_149, zi209_151, zi209_152, zi209_153, zcl1, zlow_0, zlow_1, zlow_2, zlow_3, zlow_4, zfree_0, zfree_i, zfree_r, zfree_n, zfree_d, zfree_f, zfree_s, if_true, if_false, Option.bind_some, Option.toList_some, Option.toList_none, List.cons_append, List.nil_append, List.set_cons_zero, List.set_cons_succ, Bool.false_eq_true, reduceIte, zsw_c, zsw_n, Nat.reduceAdd, zb_t, z10, hM.r4, eix, g, zhas_k _ hd _ (show k < 8 by omega)]
      by_cases hq : im (40 * r + (i + k)) = zb (d.testBit k)
      · rw [zi209_154, if_pos hq, decide_eq_true hq]
        conv =>
          lhs
          simp only [zi209_157, zi209_158, zi209_161, zi209_162, zi209_164, zi209_167, zcl1, zlow_0, zlow_1, zlow_2, zlow_3, zlow_4, zfree_0, zfree_i, zfree_r, zfree_n, zfree_d, zfree_f, zfree_s, if_true, if_false, Option.bind_some, Option.toList_some, Option.toList_none, List.cons_append, List.nil_append, List.set_cons_zero, List.set_cons_succ, Bool.false_eq_true, reduceIte, zsw_c, zsw_n, Nat.reduceAdd, ix_p1]
        rfl
      · rw [zi209_154, if_neg hq, decide_eq_false hq]
        conv =>
          lhs
          simp only [zi209_157, zi209_158, zi209_161, zi209_162, zi209_164, zi209_167, zcl1, zlow_0, zlow_1, zlow_2, zlow_3, zlow_4, zfree_0, zfree_i, zfree_r, zfree_n, zfree_d, zfree_f, zfree_s, if_true, if_false, Option.bind_some, Option.toList_some, Option.toList_none, List.cons_append, List.nil_append, List.set_cons_zero, List.set_cons_succ, Bool.false_eq_true, reduceIte, zsw_c, zsw_n, Nat.reduceAdd, ix_p1]
        rfl
/-- what the model has gathered before b, on way w -/
def fgN (N : Nat → Nat) (f : Nat → Int32) (w b : Nat) : Nat := if w = 0 then 256 * fsN N f 0 b else 256 * fsN N f 0 (N 3) + fsN N f 1 b
theorem firB {r i w : Nat} {lm mn im : Nat → Int32} (hM : MdO h sc) (hY : MY h N) (hW : WF N) (hL : ML h lm mn im) (hr : r < 8) (hi : i + N 3 ≤ 40) (hw : w = 0 ∨ w = 1) : ∀ (m b : Nat) (v6 v7 v8 : Value), b + m = N 3 → ∃ v5' v6' v7' v8' : Value, zrun zpp E 209 (90, [.ref 73, .int (nI r), .int (nI i), .int (nI (fgN N (fun k => im (40 * r + (i + k))) w b)), .int (nI w), .int (nI b), v6, v7, v8], [], h) = zrun zpp E 209 (205, [.ref 73, .int (nI r), .int (nI i), .int (nI (fgN N (fun k => im (40 * r + (i + k))) w (N 3))), .int (nI w), v5', v6', v7', v8'], [], h) := by
  have h3 := hW.2.2.2.1.2
  have m1 : zsel 11 [11, 207] = some 207 := rfl
  intro m
  induction m with
  | zero =>
    intro b v6 v7 v8 hb
    refine ⟨.int (nI b), v6, v7, v8, ?_⟩
    rw [show b = N 3 by omega]
    conv =>
      lhs
      simp only [zi209_90, zi209_92, zi209_92n, zi209_93, zi209_96, zi209_97, zcl1, zlow_0, zlow_1, zlow_2, zlow_3, zlow_4, zfree_0, zfree_i, zfree_r, zfree_n, zfree_d, zfree_f, zfree_s, if_true, if_false, Option.bind_some, Option.toList_some, Option.toList_none, List.cons_append, List.nil_append, List.set_cons_zero, List.set_cons_succ, Bool.false_eq_true, reduceIte, zsw_c, zsw_n, Nat.reduceAdd, hM.r5, hY.c 3 (by decide) (x := 3) rfl]
    rw [zi209_98, if_pos (by rw [nI_leP (by omega) (by omega)]; omega)]
  | succ m ih =>
    intro b v6 v7 v8 hb
    have l0 := fsN_lt (N := N) (f := fun k => im (40 * r + (i + k))) (w := 0) b (by omega)
    have l1 := fsN_lt (N := N) (f := fun k => im (40 * r + (i + k))) (w := 1) b (by omega)
    have hd := fellN_l (w := w) h3 (show b < N 3 by omega)
    obtain ⟨u5, u6, u7, u8, e1⟩ := ih (b + 1) (.int (nI (fellN N b w))) (.int (zb (telN (fun k => im (40 * r + (i + k))) (fellN N b w) (N 3)))) (.int (nI (N 3))) (by omega)
    refine ⟨u5, u6, u7, u8, ?_⟩
    rw [← e1]
    have e2 : zrun zpp E 209 (90, [.ref 73, .int (nI r), .int (nI i), .int (nI (fgN N (fun k => im (40 * r + (i + k))) w b)), .int (nI w), .int (nI b), v6, v7, v8], [], h) = zrun zpp E 209 (117, [.ref 73, .int (nI r), .int (nI i), .int (nI (fgN N (fun k => im (40 * r + (i + k))) w b)), .int (nI w), .int (nI b), .int (nI (fellN N b w)), .int (zb (telN (fun k => im (40 * r + (i + k))) (fellN N b w) 0)), .int (nI 0)], [], h) := by
      conv =>
        lhs
        simp only [zi209_90, zi209_92, zi209_92n, zi209_93, zi209_96, zi209_97, zcl1, zlow_0, zlow_1, zlow_2, zlow_3, zlow_4, zfree_0, zfree_i, zfree_r, zfree_n, zfree_d, zfree_f, zfree_s, if_true, if_false, Option.bind_some, Option.toList_some, Option.toList_none, List.cons_append, List.nil_append, List.set_cons_zero, List.set_cons_succ, Bool.false_eq_true, reduceIte, zsw_c, zsw_n, Nat.reduceAdd, hM.r5, hY.c 3 (by decide) (x := 3) rfl]
      rw [zi209_98, if_neg (by rw [nI_leP (by omega) (by omega)]; omega)]
      conv =>
        lhs
        simp only [zi209_101, zi209_101n, zi209_102, zi209_104, zi209_106, zi209_109, zi209_111, zi209_112, zi209_114, zi209_115, zcl1, zlow_0, zlow_1, zlow_2, zlow_3, zlow_4, zfree_0, zfree_i, zfree_r, zfree_n, zfree_d, zfree_f, zfree_s, if_true, if_false, Option.bind_some, Option.toList_some, Option.toList_none, List.cons_append, List.nil_append, List.set_cons_zero, List.set_cons_succ, Bool.false_eq_true, reduceIte, zsw_c, zsw_n, Nat.reduceAdd, hM.1, m1, sp_fellBy hM hY hW (show b < N 3 by omega) (show w ≤ 1 by omega)]
      rfl
    rw [e2, firK hM hY hL hr h3 hi hd (N 3) 0 (by omega)]
    cases ht : telN (fun k => im (40 * r + (i + k))) (fellN N b w) (N 3)
    · have ef : fgN N (fun k => im (40 * r + (i + k))) w (b + 1) = fgN N (fun k => im (40 * r + (i + k))) w b := by
        unfold fgN
        rcases hw with rfl | rfl
        · rw [if_pos rfl, if_pos rfl]
          show 256 * (if _ then _ else _) = _
          rw [ht, if_neg (by decide)]
        · rw [if_neg (by decide), if_neg (by decide)]
          show _ + (if _ then _ else _) = _
          rw [ht, if_neg (by decide)]
      rw [ef]
      conv =>
        lhs
        simp only [zi209_170, zi209_171, zi209_173, zi209_196, zi209_197, zi209_198, zi209_199, zi209_202, zcl1, zlow_0, zlow_1, zlow_2, zlow_3, zlow_4, zfree_0, zfree_i, zfree_r, zfree_n, zfree_d, zfree_f, zfree_s, if_true, if_false, Option.bind_some, Option.toList_some, Option.toList_none, List.cons_append, List.nil_append, List.set_cons_zero, List.set_cons_succ, Bool.false_eq_true, reduceIte, zsw_c, zsw_n, Nat.reduceAdd, zb_f, z00, zor_0, ix_p1]
      rfl
    · have ef : nI (fgN N (fun k => im (40 * r + (i + k))) w b) ||| nI (2 ^ (b + if w = 1 then 0 else 8)) = nI (fgN N (fun k => im (40 * r + (i + k))) w (b + 1)) := by
        rw [zor_nI]
        unfold fgN
        rcases hw with rfl | rfl
        · rw [if_pos rfl, if_pos rfl, if_neg (by decide), zor_8 _ l0 b (by omega)]
          show _ = nI (256 * (if _ then _ else _))
          rw [ht, if_pos rfl]
        · rw [if_neg (show ¬ (1 : Nat) = 0 by decide), if_neg (show ¬ (1 : Nat) = 0 by decide), if_pos rfl, Nat.add_zero, zor_16 l1 (by omega)]
          show _ = nI (_ + (if _ then _ else _))
          rw [ht, if_pos rfl]
      rw [← ef]
      rcases hw with rfl | rfl
      · conv =>
          lhs
          simp only [zi209_170, zi209_171, zi209_173, zi209_176, zi209_177, zi209_179, zi209_181, zi209_182, zi209_185, zi209_186, zi209_189, zi209_191, zi209_192, zi209_193, zi209_196, zi209_197, zi209_198, zi209_199, zi209_202, zcl1, zlow_0, zlow_1, zlow_2, zlow_3, zlow_4, zfree_0, zfree_i, zfree_r, zfree_n, zfree_d, zfree_f, zfree_s, if_true, if_false, Option.bind_some, Option.toList_some, Option.toList_none, List.cons_append, List.nil_append, List.set_cons_zero, List.set_cons_succ, Bool.false_eq_true, reduceIte, zsw_c, zsw_n, Nat.reduceAdd, zb_t, z10, show (nI 0 = 1) = False by decide, not_false_eq_true, show ∀ x, nI x + 8 = nI (x + 8) from fun x => nI_add x 8, zbit_16 (b + 8) (by omega), ix_p1]
        rfl
      · conv =>
          lhs
          simp only [zi209_170, zi209_171, zi209_173, zi209_176, zi209_177, zi209_179, zi209_181, zi209_182, zi209_185, zi209_186, zi209_189, zi209_191, zi209_192, zi209_193, zi209_196, zi209_197, zi209_198, zi209_199, zi209_202, zcl1, zlow_0, zlow_1, zlow_2, zlow_3, zlow_4, zfree_0, zfree_i, zfree_r, zfree_n, zfree_d, zfree_f, zfree_s, if_true, if_false, Option.bind_some, Option.toList_some, Option.toList_none, List.cons_append, List.nil_append, List.set_cons_zero, List.set_cons_succ, Bool.false_eq_true, reduceIte, zsw_c, zsw_n, Nat.reduceAdd, zb_t, z10, show (nI 1 = 1) = True by decide, not_true_eq_false, ix_p0, zbit_16 (b + 0) (by omega), ix_p1]
        rfl
theorem ok_first (hJ : J h n) {x k : Int32} : OK E h n 112 209 [.int x, .int k] := by
  obtain ⟨y, s, v, sc, N, hJ, h1, hB⟩ := hJ
  obtain ⟨hA, th, ln, sz, it, lm, im, r1, r2, r3, r4, r5, r6⟩ := hJ.row
  have M1 := hJ.md.put 0 rfl (by omega) 0
  have w0 := hJ.md.st 0 rfl (by omega) 0
  have Y1 : MY (zpf h 73 0 (.int 0)) N := hJ.my.keep (zpf_o (by omega))
  have c0 : zsel 9 [9, 70] = some 70 := rfl
  have c1 : zsel 10 [10, 128] = some 128 := rfl
  have c2 : zsel 10 [10, 130] = some 130 := rfl
  have c4 : zsel 6 [6, 53] = some 53 := rfl
  have m0 : zsel 11 [11, 172] = some 172 := rfl
  have m1 : zsel 11 [11, 150] = some 150 := rfl
  rcases hJ.wg.cs with ⟨d1, d2, -⟩ | ⟨d1, d2, hW, -⟩
  · refine ⟨(-1000002), h, zpf h 73 0 (.int 0), ?_, ?_, hJ.q h1 hB⟩
    · simp only [ze112, zi112_0, zi112_0n, zi112_1, zi112_4, zi112_7, zi112_10, zi112_12 (sk := []), zi112_13, zi112_13n, zi112_14, zi112_15, zi112_18, zi112_18n, zi112_19, zi112_19n, zi112_20, zi112_20n, zi112_23, zi112_25 (sk := []), zcl1, zlow_0, zlow_1, zlow_2, zlow_3, zlow_4, zfree_0, zfree_i, zfree_r, zfree_n, zfree_d, zfree_f, zfree_s, if_true, if_false, Option.bind_some, Option.toList_some, Option.toList_none, List.cons_append, List.nil_append, List.set_cons_zero, List.set_cons_succ, Bool.false_eq_true, reduceIte, zsw_c, zsw_n, Nat.reduceAdd, hJ.co.r7, hJ.yn.cls, c0, sp_isRead hJ.wg.h3 hJ.yn, d1, zb_f, z00]
    · simp only [ze209, zi209_0, zi209_0n, zi209_1, zi209_2, zi209_5, zi209_5n, zi209_6, zi209_9, zi209_12, zi209_14 (sk := []), zi209_15, zi209_16, zi209_19, zi209_22, zi209_24 (sk := []), zcl1, zlow_0, zlow_1, zlow_2, zlow_3, zlow_4, zfree_0, zfree_i, zfree_r, zfree_n, zfree_d, zfree_f, zfree_s, if_true, if_false, Option.bind_some, Option.toList_some, Option.toList_none, List.cons_append, List.nil_append, List.set_cons_zero, List.set_cons_succ, Bool.false_eq_true, reduceIte, zsw_c, zsw_n, Nat.reduceAdd, w0, M1.1, m0, sp_isThere M1 Y1 hJ.wg.h0, d2, zb_f, z00]
  have h3 := hW.2.2.2.1.2
  rcases zlt_or x (n := 8) (by omega) with hx | ⟨i, hi, rfl⟩
  · refine ⟨(-1000001), h, zpf h 73 0 (.int 0), ?_, ?_, hJ.q h1 hB⟩
    · simp only [ze112, zi112_0, zi112_0n, zi112_1, zi112_4, zi112_7, zi112_10, zi112_12 (sk := []), zi112_13, zi112_13n, zi112_14, zi112_15, zi112_18, zi112_18n, zi112_19, zi112_19n, zi112_20, zi112_20n, zi112_23, zi112_25 (sk := []), zcl1, zlow_0, zlow_1, zlow_2, zlow_3, zlow_4, zfree_0, zfree_i, zfree_r, zfree_n, zfree_d, zfree_f, zfree_s, if_true, if_false, Option.bind_some, Option.toList_some, Option.toList_none, List.cons_append, List.nil_append, List.set_cons_zero, List.set_cons_succ, Bool.false_eq_true, reduceIte, zsw_c, zsw_n, Nat.reduceAdd, hJ.co.r7, hJ.yn.cls, c0, sp_isRead hJ.wg.h3 hJ.yn, d1, zb_t, z10, hJ.co.1, c1, sp_rowAtNo hx]
    · simp only [ze209, zi209_0, zi209_0n, zi209_1, zi209_2, zi209_5, zi209_5n, zi209_6, zi209_9, zi209_12, zi209_14 (sk := []), zi209_15, zi209_16, zi209_19, zi209_22, zi209_24 (sk := []), zcl1, zlow_0, zlow_1, zlow_2, zlow_3, zlow_4, zfree_0, zfree_i, zfree_r, zfree_n, zfree_d, zfree_f, zfree_s, if_true, if_false, Option.bind_some, Option.toList_some, Option.toList_none, List.cons_append, List.nil_append, List.set_cons_zero, List.set_cons_succ, Bool.false_eq_true, reduceIte, zsw_c, zsw_n, Nat.reduceAdd, w0, M1.1, m0, sp_isThere M1 Y1 hJ.wg.h0, d2, zb_t, z10, sp_isRow, hx, zb_f, z00]
  have h8 : zlt (nI i) 8 = true := by rw [zlt_nI (by omega) (by omega)]; simp [hi]
  have R := r1 i hi
  have l3 := r3 i hi
  have s40 := r6 i hi
  cases ht : th i
  · rw [ht] at R l3
    rw [if_neg (by decide)] at l3
    have R1 : zfld [6] h (34 + 2 * i) 1 = some (.int 0) := R.2.2.1
    have C1 := hJ.c9 1
    have v0 := C1.md.st 0 rfl (by omega) 0
    have N1 := C1.md.put 0 rfl (by omega) 0
    have Z1 : MY (zpf (zpf h 0 9 (.int 1)) 73 0 (.int 0)) N := C1.my.keep (zpf_o (by omega))
    have L2 : ML (zpf (zpf h 0 9 (.int 1)) 73 0 (.int 0)) lm (fun i => nI (sz i)) im := r2.pf.pf
    have g := zarr_at L2.1 hi (by omega)
    rw [l3] at g
    refine ⟨(-1000010 - 1), zpf h 0 9 (.int 1), _, ?_, ?_, hJ.f hB 1⟩
    · simp only [ze112, zi112_0, zi112_0n, zi112_1, zi112_4, zi112_7, zi112_10, zi112_12 (sk := []), zi112_13, zi112_13n, zi112_14, zi112_15, zi112_18, zi112_18n, zi112_19, zi112_19n, zi112_20, zi112_20n, zi112_23, zi112_25 (sk := []), zi112_26, zi112_26n, zi112_27, zi112_30, zi112_33, zi112_33n, zi112_34, zi112_35, zi112_38 (sk := []), zi112_39, zi112_39n, zi112_40, zi112_41, zi112_41n, zi112_42, zi112_45, zi112_48, zi112_51, zi112_54, zi112_54n, zi112_55, zi112_56, zi112_59 (sk := []), zcl1, zlow_0, zlow_1, zlow_2, zlow_3, zlow_4, zfree_0, zfree_i, zfree_r, zfree_n, zfree_d, zfree_f, zfree_s, if_true, if_false, Option.bind_some, Option.toList_some, Option.toList_none, List.cons_append, List.nil_append, List.set_cons_zero, List.set_cons_succ, Bool.false_eq_true, reduceIte, zsw_c, zsw_n, Nat.reduceAdd, hJ.co.r7, hJ.yn.cls, c0, sp_isRead hJ.wg.h3 hJ.yn, d1, zb_t, z10, hJ.co.1, c1, sp_rowAt hJ.co hA hi, R1, z00, c2, sp_found hJ.co]
    · simp only [ze209, zi209_0, zi209_0n, zi209_1, zi209_2, zi209_5, zi209_5n, zi209_6, zi209_9, zi209_12, zi209_14 (sk := []), zi209_15, zi209_16, zi209_19, zi209_22, zi209_24 (sk := []), zi209_25, zi209_25n, zi209_26, zi209_29, zi209_30, zi209_31, zi209_34, zi209_34n, zi209_35, zi209_36, zi209_39 (sk := []), zi209_40, zi209_41, zi209_44, zi209_45, zi209_46, zi209_46n, zi209_47, zi209_50, zi209_51, zi209_52, zi209_53, zi209_54, zi209_54n, zi209_55, zi209_58, zi209_59, zi209_60, zi209_61, zi209_62, zi209_65, zi209_65n, zi209_66, zi209_67, zi209_70 (sk := []), zcl1, zlow_0, zlow_1, zlow_2, zlow_3, zlow_4, zfree_0, zfree_i, zfree_r, zfree_n, zfree_d, zfree_f, zfree_s, if_true, if_false, Option.bind_some, Option.toList_some, Option.toList_none, List.cons_append, List.nil_append, List.set_cons_zero, List.set_cons_succ, Bool.false_eq_true, reduceIte, zsw_c, zsw_n, Nat.reduceAdd, v0, N1.1, m0, sp_isThere N1 Z1 hJ.wg.h0, d2, zb_t, z10, sp_isRow, h8, N1.r2, g, show ((0 : Int32) ≤ -1) = False by decide, m1, sp_finding N1]
  rw [ht] at R l3
  rw [if_pos rfl] at l3
  have R1 : zfld [6] h (34 + 2 * i) 1 = some (.int 1) := R.2.2.1
  have p3 : (0 : Int32) ≤ nI (N 3) := nI_pos' (by omega)
  rcases spB_or (sz i) k (nI (N 3)) s40 with hs | ⟨a, b, hab, rfl, e'⟩
  · have C1 := hJ.c9 2
    have v0 := C1.md.st 0 rfl (by omega) 0
    have N1 := C1.md.put 0 rfl (by omega) 0
    have Z1 : MY (zpf (zpf h 0 9 (.int 2)) 73 0 (.int 0)) N := C1.my.keep (zpf_o (by omega))
    have L2 : ML (zpf (zpf h 0 9 (.int 2)) 73 0 (.int 0)) lm (fun i => nI (sz i)) im := r2.pf.pf
    have g := zarr_at L2.1 hi (by omega)
    rw [l3] at g
    have g2 := zarr_at L2.2.1 hi (by omega)
    refine ⟨(-1000010 - 2), zpf h 0 9 (.int 2), _, ?_, ?_, hJ.f hB 2⟩
    · simp only [ze112, zi112_0, zi112_0n, zi112_1, zi112_4, zi112_7, zi112_10, zi112_12 (sk := []), zi112_13, zi112_13n, zi112_14, zi112_15, zi112_18, zi112_18n, zi112_19, zi112_19n, zi112_20, zi112_20n, zi112_23, zi112_25 (sk := []), zi112_26, zi112_26n, zi112_27, zi112_30, zi112_33, zi112_33n, zi112_34, zi112_35, zi112_38 (sk := []), zi112_39, zi112_39n, zi112_40, zi112_41, zi112_41n, zi112_42, zi112_45, zi112_48, zi112_51, zi112_54, zi112_54n, zi112_55, zi112_56, zi112_59 (sk := []), zcl1, zlow_0, zlow_1, zlow_2, zlow_3, zlow_4, zfree_0, zfree_i, zfree_r, zfree_n, zfree_d, zfree_f, zfree_s, if_true, if_false, Option.bind_some, Option.toList_some, Option.toList_none, List.cons_append, List.nil_append, List.set_cons_zero, List.set_cons_succ, Bool.false_eq_true, reduceIte, zsw_c, zsw_n, Nat.reduceAdd, hJ.co.r7, hJ.yn.cls, c0, sp_isRead hJ.wg.h3 hJ.yn, d1, zb_t, z10, hJ.co.1, c1, sp_rowAt hJ.co hA hi, R1, hJ.yn.f3, R.1, c4, sp_spans R, hs, zb_f, z00, c2, sp_found hJ.co]
    · by_cases k0 : k < 0
      · simp only [ze209, zi209_0, zi209_0n, zi209_1, zi209_2, zi209_5, zi209_5n, zi209_6, zi209_9, zi209_12, zi209_14 (sk := []), zi209_15, zi209_16, zi209_19, zi209_22, zi209_24 (sk := []), zi209_25, zi209_25n, zi209_26, zi209_29, zi209_30, zi209_31, zi209_34, zi209_34n, zi209_35, zi209_36, zi209_39 (sk := []), zi209_40, zi209_41, zi209_44, zi209_45, zi209_46, zi209_46n, zi209_47, zi209_50, zi209_51, zi209_52, zi209_53, zi209_54, zi209_54n, zi209_55, zi209_58, zi209_59, zi209_60, zi209_61, zi209_62, zi209_65, zi209_65n, zi209_66, zi209_67, zi209_70 (sk := []), zcl1, zlow_0, zlow_1, zlow_2, zlow_3, zlow_4, zfree_0, zfree_i, zfree_r, zfree_n, zfree_d, zfree_f, zfree_s, if_true, if_false, Option.bind_some, Option.toList_some, Option.toList_none, List.cons_append, List.nil_append, List.set_cons_zero, List.set_cons_succ, Bool.false_eq_true, reduceIte, zsw_c, zsw_n, Nat.reduceAdd, v0, N1.1, m0, sp_isThere N1 Z1 hJ.wg.h0, d2, zb_t, z10, sp_isRow, h8, N1.r2, g, zpos_012 (r5 i hi), eq_true k0, m1, sp_finding N1]
      · simp only [ze209, zi209_0, zi209_0n, zi209_1, zi209_2, zi209_5, zi209_5n, zi209_6, zi209_9, zi209_12, zi209_14 (sk := []), zi209_15, zi209_16, zi209_19, zi209_22, zi209_24 (sk := []), zi209_25, zi209_25n, zi209_26, zi209_29, zi209_30, zi209_31, zi209_34, zi209_34n, zi209_35, zi209_36, zi209_39 (sk := []), zi209_40, zi209_41, zi209_44, zi209_45, zi209_46, zi209_46n, zi209_47, zi209_50, zi209_51, zi209_52, zi209_53, zi209_54, zi209_54n, zi209_55, zi209_58, zi209_59, zi209_60, zi209_61, zi209_62, zi209_65, zi209_65n, zi209_66, zi209_67, zi209_70 (sk := []), zcl1, zlow_0, zlow_1, zlow_2, zlow_3, zlow_4, zfree_0, zfree_i, zfree_r, zfree_n, zfree_d, zfree_f, zfree_s, if_true, if_false, Option.bind_some, Option.toList_some, Option.toList_none, List.cons_append, List.nil_append, List.set_cons_zero, List.set_cons_succ, Bool.false_eq_true, reduceIte, zsw_c, zsw_n, Nat.reduceAdd, v0, N1.1, m0, sp_isThere N1 Z1 hJ.wg.h0, d2, zb_t, z10, sp_isRow, h8, N1.r2, g, zpos_012 (r5 i hi), eq_false k0, N1.r5, Z1.c 3 (by decide) (x := 3) rfl, N1.r3, g2, lsp s40 (Int32.not_lt.mp k0) p3, hs, m1, sp_finding N1]
  rw [nI_eqP (by omega) (by omega)] at e'
  subst e'
  have hs := spB_t s40 hab
  have C1 := hJ.c9 0
  have v0 := C1.md.st 0 rfl (by omega) 0
  have N1 := C1.md.put 0 rfl (by omega) 0
  have Z1 : MY (zpf (zpf h 0 9 (.int 0)) 73 0 (.int 0)) N := C1.my.keep (zpf_o (by omega))
  have L1 : ML (zpf (zpf h 0 9 (.int 0)) 73 0 (.int 0)) lm (fun i => nI (sz i)) im := r2.pf.pf
  have g := zarr_at L1.1 hi (by omega)
  rw [l3] at g
  have g2 := zarr_at L1.2.1 hi (by omega)
  have v1 := N1.st 1 rfl (by omega) 0
  have N2 := N1.put 1 rfl (by omega) 0
  have Z2 : MY (zpf (zpf (zpf h 0 9 (.int 0)) 73 0 (.int 0)) 73 1 (.int 0)) N := Z1.keep (zpf_o (by omega))
  have L2 : ML (zpf (zpf (zpf h 0 9 (.int 0)) 73 0 (.int 0)) 73 1 (.int 0)) lm (fun i => nI (sz i)) im := L1.pf
  have p0 : ¬ nI a < 0 := nI_pos (by omega)
  have eF : (fun k => im (40 * i + (a + k))) = (fun k => if a + k < 40 then it i (a + k) else im (40 * i + (a + k))) := by
    funext k
    split
    · rename_i hk; exact r4 i hi _ hk
    · rfl
  have eT : ∀ (f g : Nat → Int32) (d : Nat) (n : Nat), (∀ j, j < n → f j = g j) → telN f d n = telN g d n := by
    intro f g d n
    induction n with
    | zero => intro _; rfl
    | succ n ih =>
      intro e
      show (telN f d n && decide (f n = _)) = (telN g d n && decide (g n = _))
      rw [ih (fun j hj => e j (by omega)), e n (by omega)]
  have eS : ∀ w b, fsN N (fun k => im (40 * i + (a + k))) w b = fsN N (fun k => it i (a + k)) w b := by
    intro w b
    induction b with
    | zero => rfl
    | succ b ih =>
      show (if _ then _ else _) = (if _ then _ else _)
      rw [ih, eT _ (fun k => it i (a + k)) _ _ (fun j hj => r4 i hi (a + j) (by omega))]
  refine ⟨(nI (256 * fsN N (fun k => it i (a + k)) 0 (N 3) + fsN N (fun k => it i (a + k)) 1 (N 3))), zpf h 0 9 (.int 0), _, ?_, ?_, hJ.f hB 0⟩
  · have e0 : zcall zpp E 112 [.ref 0, .int (nI i), .int (nI a)] h = zrun zpp E 112 (69, [.ref 0, .int (nI i), .int (nI a), .ref (34 + 2 * i), .int (nI (fsN N (fun k => it i (a + k)) 1 0)), .int (nI (fsN N (fun k => it i (a + k)) 0 0)), .int (nI 0)], [], h) := by
      conv =>
        lhs
        simp only [ze112, zi112_0, zi112_0n, zi112_1, zi112_4, zi112_7, zi112_10, zi112_12 (sk := []), zi112_13, zi112_13n, zi112_14, zi112_15, zi112_18, zi112_18n, zi112_19, zi112_19n, zi112_20, zi112_20n, zi112_23, zi112_25 (sk := []), zi112_26, zi112_26n, zi112_27, zi112_30, zi112_33, zi112_33n, zi112_34, zi112_35, zi112_38 (sk := []), zi112_39, zi112_39n, zi112_40, zi112_41, zi112_41n, zi112_42, zi112_45, zi112_48, zi112_51, zi112_54, zi112_54n, zi112_55, zi112_56, zi112_59 (sk := []), zi112_60, zi112_61, zi112_63, zi112_64, zi112_66, zi112_67, zcl1, zlow_0, zlow_1, zlow_2, zlow_3, zlow_4, zfree_0, zfree_i, zfree_r, zfree_n, zfree_d, zfree_f, zfree_s, if_true, if_false, Option.bind_some, Option.toList_some, Option.toList_none, List.cons_append, List.nil_append, List.set_cons_zero, List.set_cons_succ, Bool.false_eq_true, reduceIte, zsw_c, zsw_n, Nat.reduceAdd, hJ.co.r7, hJ.yn.cls, c0, sp_isRead hJ.wg.h3 hJ.yn, d1, zb_t, z10, hJ.co.1, c1, sp_rowAt hJ.co hA hi, R1, hJ.yn.f3, R.1, c4, sp_spans R, hs]
      rfl
    rw [e0]
    exact firC hJ.co hJ.yn hW R (by omega) (N 3) 0 (by omega)
  · obtain ⟨u5, u6, u7, u8, e1⟩ := firB (E := E) (r := i) (i := a) (w := 0) N2 Z2 hW L2 hi (by omega) (Or.inl rfl) (N 3) 0 (.retAddr 0) (.retAddr 0) (.retAddr 0) (by omega)
    obtain ⟨t5, t6, t7, t8, e2⟩ := firB (E := E) (r := i) (i := a) (w := 1) N2 Z2 hW L2 hi (by omega) (Or.inr rfl) (N 3) 0 u6 u7 u8 (by omega)
    have e0 : zcall zpp E 209 [.ref 73, .int (nI i), .int (nI a)] (zpf h 0 9 (.int 0)) = zrun zpp E 209 (90, [.ref 73, .int (nI i), .int (nI a), .int (nI (fgN N (fun k => im (40 * i + (a + k))) 0 0)), .int (nI 0), .int (nI 0), .retAddr 0, .retAddr 0, .retAddr 0], [], zpf (zpf (zpf h 0 9 (.int 0)) 73 0 (.int 0)) 73 1 (.int 0)) := by
      conv =>
        lhs
        simp only [ze209, zi209_0, zi209_0n, zi209_1, zi209_2, zi209_5, zi209_5n, zi209_6, zi209_9, zi209_12, zi209_14 (sk := []), zi209_15, zi209_16, zi209_19, zi209_22, zi209_24 (sk := []), zi209_25, zi209_25n, zi209_26, zi209_29, zi209_30, zi209_31, zi209_34, zi209_34n, zi209_35, zi209_36, zi209_39 (sk := []), zi209_40, zi209_41, zi209_44, zi209_45, zi209_46, zi209_46n, zi209_47, zi209_50, zi209_51, zi209_52, zi209_53, zi209_54, zi209_54n, zi209_55, zi209_58, zi209_59, zi209_60, zi209_61, zi209_62, zi209_65, zi209_65n, zi209_66, zi209_67, zi209_70 (sk := []), zi209_71, zi209_71n, zi209_72, zi209_73, zi209_76, zi209_77, zi209_78, zi209_79, zi209_81, zi209_83, zi209_84, zi209_87, zi209_88, zcl1, zlow_0, zlow_1, zlow_2, zlow_3, zlow_4, zfree_0, zfree_i, zfree_r, zfree_n, zfree_d, zfree_f, zfree_s, if_true, if_false, Option.bind_some, Option.toList_some, Option.toList_none, List.cons_append, List.nil_append, List.set_cons_zero, List.set_cons_succ, Bool.false_eq_true, reduceIte, zsw_c, zsw_n, Nat.reduceAdd, v0, N1.1, m0, sp_isThere N1 Z1 hJ.wg.h0, d2, zb_t, z10, sp_isRow, h8, N1.r2, g, zpos_012 (r5 i hi), eq_false p0, N1.r5, Z1.c 3 (by decide) (x := 3) rfl, N1.r3, g2, lsp s40 (Int32.not_lt.mp p0) p3, hs, v1, show ((2 : Int32) ≤ 0) = False by decide]
      rfl
    have e3 : zrun zpp E 209 (205, [.ref 73, .int (nI i), .int (nI a), .int (nI (fgN N (fun k => im (40 * i + (a + k))) 0 (N 3))), .int (nI 0), u5, u6, u7, u8], [], zpf (zpf (zpf h 0 9 (.int 0)) 73 0 (.int 0)) 73 1 (.int 0)) = zrun zpp E 209 (90, [.ref 73, .int (nI i), .int (nI a), .int (nI (fgN N (fun k => im (40 * i + (a + k))) 1 0)), .int (nI 1), .int (nI 0), u6, u7, u8], [], zpf (zpf (zpf h 0 9 (.int 0)) 73 0 (.int 0)) 73 1 (.int 0)) := by
      conv =>
        lhs
        simp only [zi209_205, zi209_208, zi209_81, zi209_83, zi209_84, zi209_87, zi209_88, zcl1, zlow_0, zlow_1, zlow_2, zlow_3, zlow_4, zfree_0, zfree_i, zfree_r, zfree_n, zfree_d, zfree_f, zfree_s, if_true, if_false, Option.bind_some, Option.toList_some, Option.toList_none, List.cons_append, List.nil_append, List.set_cons_zero, List.set_cons_succ, Bool.false_eq_true, reduceIte, zsw_c, zsw_n, Nat.reduceAdd, show nI 0 + 1 = 1 by decide, show ((2 : Int32) ≤ 1) = False by decide]
      rfl
    rw [e0, e1, e3, e2]
    simp only [zi209_205, zi209_208, zi209_81, zi209_83, zi209_84, zi209_211, zi209_212 (sk := []), zcl1, zlow_0, zlow_1, zlow_2, zlow_3, zlow_4, zfree_0, zfree_i, zfree_r, zfree_n, zfree_d, zfree_f, zfree_s, if_true, if_false, Option.bind_some, Option.toList_some, Option.toList_none, List.cons_append, List.nil_append, List.set_cons_zero, List.set_cons_succ, Bool.false_eq_true, reduceIte, zsw_c, zsw_n, Nat.reduceAdd, show nI 1 + 1 = 2 by decide, show ((2 : Int32) ≤ 2) = True by decide]
    unfold fgN
    rw [if_neg (by decide), eS, eS]
end FIR
