/-! row, the model's, as it should be -/
section ROWM2
variable {E : zE} {h : zH} {s : Nat → Int32} {ln mn it : Nat → Int32}
def mclr (it : Nat → Int32) (i : Nat) : Nat → Int32 := fun j => if 40 * i ≤ j ∧ j < 40 * i + 40 then 0 else it j
theorem sp_mrowYes {i : Nat} {l n : Int32} (hM : MdO h s) (hL : ML h ln mn it) (hi : i < 8) (hl : (decide (0 ≤ l) && decide (l ≤ 2)) = true) (hn : n ≤ 40) (h0 : 0 ≤ n) : ∃ h', zcall zpp E 152 [.ref 73, .int (nI i), .int l, .int n] h = some (some (.int n), h') ∧ MdO h' (upd (upd s 0 0) 1 0) ∧ ML h' (upd ln i l) (upd mn i n) (mclr it i) ∧ zsm mP h h' := by
  have w0 := hM.st 0 rfl (by omega) 0
  have M1 := hM.put 0 rfl (by omega) 0
  have w1 := M1.st 1 rfl (by omega) 0
  have M2 := M1.put 1 rfl (by omega) 0
  have i2 := fun (H : zH) => sp_inI (E := E) (h := H) (u := l.toInt64) (v := 0) (w := 2) (x := l) (a := 0) (b := 2) rfl (by decide) (by decide)
  have h1 : zlt (nI i) 8 = true := by rw [zlt_nI (by omega) (by omega)]; simp [hi]
  have L2 : ML (zpf (zpf h 73 0 (.int 0)) 73 1 (.int 0)) ln mn it := hL.pf.pf
  have s3 := zars_at (x := l) L2.1 hi (by omega) zfits_i
  have M3 := M2.pa (a := 74) (j := i) (v := l)
  have r4 := zrow_o (a := 74) (j := i) (x := l) (by omega) L2.2.1
  have s4 := zars_at (x := n) r4 hi (by omega) zfits_i
  have M4 := M3.pa (a := 75) (j := i) (v := n)
  have L4 : ML (zpa (zpa (zpf (zpf h 73 0 (.int 0)) 73 1 (.int 0)) 74 i l) 75 i n) (upd ln i l) (upd mn i n) it := ⟨zrow_o (by omega) (zrow_pa L2.1), zrow_pa r4, zrow_o (by omega) (zrow_o (by omega) L2.2.2)⟩
  have z4 : zsm mP h (zpa (zpa (zpf (zpf h 73 0 (.int 0)) 73 1 (.int 0)) 74 i l) 75 i n) := (((zsm_pf.wk (fun x e => by cases e; exact ⟨by omega, by omega⟩)).tr (zsm_pf.wk (fun x e => by cases e; exact ⟨by omega, by omega⟩))).tr (zsm_pa.wk (fun x e => by cases e; exact ⟨by omega, by omega⟩))).tr (zsm_pa.wk (fun x e => by cases e; exact ⟨by omega, by omega⟩))
  have loop : ∀ (m k : Nat) (H : zH) (f : Nat → Int32), k + m = 40 → MdO H (upd (upd s 0 0) 1 0) → ML H (upd ln i l) (upd mn i n) f → (∀ j, j < 320 → f j = if 40 * i ≤ j ∧ j < 40 * i + k then 0 else it j) → zsm mP h H → ∃ h', zrun zpp E 152 (65, [.ref 73, .int (nI i), .int l, .int n, .int (nI k)], [], H) = some (some (.int n), h') ∧ MdO h' (upd (upd s 0 0) 1 0) ∧ ML h' (upd ln i l) (upd mn i n) (mclr it i) ∧ zsm mP h h' := by
    intro m
    induction m with
    | zero =>
      intro k H f hk hM hL hf hz
      refine ⟨H, ?_, hM, ⟨hL.1, hL.2.1, zrow_ext hL.2.2 (fun j hj => ?_)⟩, hz⟩
      · simp only [zi152_65, zi152_67, zcl1, zlow_0, zlow_1, zlow_2, zlow_3, zlow_4, zfree_0, zfree_i, zfree_r, zfree_n, zfree_d, zfree_f, zfree_s, if_true, if_false, Option.bind_some, Option.toList_some, Option.toList_none, List.cons_append, List.nil_append, List.set_cons_zero, List.set_cons_succ, Bool.false_eq_true, reduceIte, zsw_c, zsw_n, Nat.reduceAdd]
        rw [zi152_69, if_pos (by rw [show (40 : Int32) = nI 40 from rfl, nI_leP (by omega) (by omega)]; omega)]
        simp only [zi152_91, zi152_92 (sk := []), zcl1, zlow_0, zlow_1, zlow_2, zlow_3, zlow_4, zfree_0, zfree_i, zfree_r, zfree_n, zfree_d, zfree_f, zfree_s, if_true, if_false, Option.bind_some, Option.toList_some, Option.toList_none, List.cons_append, List.nil_append, List.set_cons_zero, List.set_cons_succ, Bool.false_eq_true, reduceIte, zsw_c, zsw_n, Nat.reduceAdd]
      · rw [hf j hj, show k = 40 by omega]
        rfl
    | succ m ih =>
      intro k H f hk hM hL hf hz
      obtain ⟨h', e, q⟩ := ih (k + 1) (zpa H 76 (40 * i + k) 0) (upd f (40 * i + k) 0) (by omega) hM.pa ⟨zrow_o (by omega) hL.1, zrow_o (by omega) hL.2.1, zrow_pa hL.2.2⟩ (fun j hj => by
        unfold upd
        by_cases hq : j = 40 * i + k
        · rw [if_pos hq, if_pos (by omega)]
        · rw [if_neg hq, hf j hj]
          by_cases hq2 : 40 * i ≤ j ∧ j < 40 * i + k
          · rw [if_pos hq2, if_pos (by omega)]
          · rw [if_neg hq2, if_neg (by omega)]) (hz.tr (zsm_pa.wk (fun x e => by cases e; exact ⟨by omega, by omega⟩)))
      refine ⟨h', ?_, q⟩
      simp only [zi152_65, zi152_67, zcl1, zlow_0, zlow_1, zlow_2, zlow_3, zlow_4, zfree_0, zfree_i, zfree_r, zfree_n, zfree_d, zfree_f, zfree_s, if_true, if_false, Option.bind_some, Option.toList_some, Option.toList_none, List.cons_append, List.nil_append, List.set_cons_zero, List.set_cons_succ, Bool.false_eq_true, reduceIte, zsw_c, zsw_n, Nat.reduceAdd]
      rw [zi152_69, if_neg (by rw [show (40 : Int32) = nI 40 from rfl, nI_leP (by omega) (by omega)]; omega)]
      simp only [zi152_72, zi152_72n, zi152_73, zi152_76, zi152_78, zi152_79, zi152_80, zi152_82, zi152_83, zi152_84, zi152_85, zi152_88, zcl1, zlow_0, zlow_1, zlow_2, zlow_3, zlow_4, zfree_0, zfree_i, zfree_r, zfree_n, zfree_d, zfree_f, zfree_s, if_true, if_false, Option.bind_some, Option.toList_some, Option.toList_none, List.cons_append, List.nil_append, List.set_cons_zero, List.set_cons_succ, Bool.false_eq_true, reduceIte, zsw_c, zsw_n, Nat.reduceAdd, hM.r4, ix_40, zars_at hL.2.2 (show 40 * i + k < 320 by omega) (by omega) (zfits_i (x := 0)), ix_p1]
      exact e
  obtain ⟨h', e, q⟩ := loop 40 0 _ it (by omega) M4 L4 (fun j hj => by rw [if_neg (by omega)]) z4
  refine ⟨h', ?_, q⟩
  simp only [ze152, zi152_0, zi152_0n, zi152_1, zi152_2, zi152_5, zi152_6, zi152_9, zi152_12, zi152_13, zi152_14, zi152_15, zi152_18, zi152_21, zi152_24, zi152_25, zi152_27, zi152_30, zi152_32 (sk := []), zi152_33, zi152_33n, zi152_34, zi152_35, zi152_38, zi152_39, zi152_42, zi152_42n, zi152_43, zi152_44, zi152_47 (sk := []), zi152_48, zi152_48n, zi152_49, zi152_52, zi152_53, zi152_54, zi152_55, zi152_55n, zi152_56, zi152_59, zi152_60, zi152_61, zi152_62, zi152_63, zcl1, zlow_0, zlow_1, zlow_2, zlow_3, zlow_4, zfree_0, zfree_i, zfree_r, zfree_n, zfree_d, zfree_f, zfree_s, if_true, if_false, Option.bind_some, Option.toList_some, Option.toList_none, List.cons_append, List.nil_append, List.set_cons_zero, List.set_cons_succ, Bool.false_eq_true, reduceIte, zsw_c, zsw_n, Nat.reduceAdd, w0, sp_isRow, h1, zb_t, z10, i2, hl, eq_true hn, w1, eq_true h0, M2.r2, s3, M3.r3, s4]
  exact e
end ROWM2
