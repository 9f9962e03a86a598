/-! THE TEXT: the model's reading from the law to the lifters -/
section MRD
variable {E : zE} {h : zH} {sc T : Nat → Int32} {t : Nat → Nat} {L : Nat} {v : Value}
theorem mTest (hL : L ≤ 120) (hT : tpO T t L) (hS : MS h sc T t L (lwE t L)) (hF : MF h (lwM t L) (lwE t L)) : mL E 97 127 v h sc T t L (ydB t L) := by
  have c1 : zsel 11 [11, 157] = some 157 := rfl
  have c3 : zsel 11 [11, 160] = some 160 := rfl
  have l0 : zcall zpp E 160 [.ref 73, .int 107] h = some (some (.int (zb (sgE t L 107 (lwE t L)))), h) := sp_isLetter (E := E) (c := 107) hT rfl hS
  have no : ∀ {hb : zH}, zcall zpp E 157 [.ref 73, .int 1] h = some (none, hb) → sgE t L 107 (lwE t L) = false → zrun zpp E 171 (97, [.ref 73, v], [], h) = zrun zpp E 171 (111, [.ref 73, v], [], hb) := by
    intro hb b1 z
    rw [z] at l0
    conv =>
      lhs
      simp only [zi171_97, zi171_97n, zi171_98, zi171_100, zi171_103, zi171_106, zi171_106n, zi171_107, zi171_108, zcl1, zlow_0, zlow_1, zlow_2, zlow_3, zlow_4, zfree_0, zfree_i, zfree_r, zfree_n, zfree_d, zfree_f, zfree_s, if_true, if_false, Option.bind_some, Option.toList_some, Option.toList_none, List.cons_append, List.nil_append, List.set_cons_zero, List.set_cons_succ, Bool.false_eq_true, reduceIte, zsw_c, zsw_n, Nat.reduceAdd, hS.1.1, c3, l0, zb_f, z00, c1, b1]
  cases he : lwE t L with
  | inl x =>
    have eB : ydB t L = (.inl x, lwM t L) := bd_l (x := ydW t L) he
    rw [eB]
    rw [he] at hF
    have hF : FX h := hF
    have hS' : MS h sc T t L (.inl x) := he ▸ hS
    obtain ⟨hb, sb, b1, b2, b3, b4⟩ := sp_bad (E := E) (k := 1) (by omega) hS'
    have b2 : MS hb sb T t L (.inl x) := b2
    obtain ⟨hz, sz, z1, z2, z3, z4, z5⟩ := mBikesX (E := E) (v := v) (N := lwM t L) hT b2 (hF.k b4)
    exact ⟨hz, sz, (no b1 (by rw [he]; rfl)).trans z1, z2, z3, b3.tr z4, (b4.wk (fun a e => fP67 e)).tr z5⟩
  | inr p =>
    have eB : ydB t L = bkS t L (lwM t L) p := bd_r (x := ydW t L) he
    obtain ⟨i1, i2, i3, i4⟩ := lw_ni he
    rw [eB]
    unfold bkS
    rw [he] at hF
    have hF : FR h (lwM t L) := hF
    by_cases hk : sgN t L 107 p = true
    · rw [if_pos hk]
      rw [he] at hS
      obtain ⟨hz, sz, z1, z2, z3, z4, z5⟩ := mBikesL (E := E) (v := v) hL hT 9 (lwM t L) p h sc (by omega) i1 i3 i4 hS hF
      refine ⟨hz, sz, Eq.trans ?_ z1, z2, z3, z4, z5⟩
      rw [he, show sgE t L 107 (.inr p) = true from hk] at l0
      conv =>
        lhs
        simp only [zi171_97, zi171_97n, zi171_98, zi171_100, zi171_103, zcl1, zlow_0, zlow_1, zlow_2, zlow_3, zlow_4, zfree_0, zfree_i, zfree_r, zfree_n, zfree_d, zfree_f, zfree_s, if_true, if_false, Option.bind_some, Option.toList_some, Option.toList_none, List.cons_append, List.nil_append, List.set_cons_zero, List.set_cons_succ, Bool.false_eq_true, reduceIte, zsw_c, zsw_n, Nat.reduceAdd, hS.1.1, c3, l0, zb_t, z10]
    · rw [if_neg hk]
      have hk' : sgN t L 107 p = false := by simpa using hk
      have hS' : MS h sc T t L (.inr p) := he ▸ hS
      obtain ⟨hb, sb, b1, b2, b3, b4⟩ := sp_bad (E := E) (k := 1) (by omega) hS'
      have b2 : MS hb sb T t L (.inl (1, p)) := b2
      obtain ⟨hz, sz, z1, z2, z3, z4, z5⟩ := mBikesX (E := E) (v := v) (N := lwM t L) hT b2 (FX.k ⟨_, hF⟩ b4)
      exact ⟨hz, sz, (no b1 (by rw [he]; exact hk')).trans z1, z2, z3, b3.tr z4, (b4.wk (fun a e => fP67 e)).tr z5⟩
theorem mRead (hL : L ≤ 120) (hT : tpO T t L) (hS : MS h sc T t L (.inr 0)) (hF : FW h (fun _ => 0)) : mL E 30 186 v h sc T t L (ydL t L) := by
  obtain ⟨h1, s1, a1, a2, a3, a4, a5⟩ := mLaw (E := E) (v := v) hL hT hS hF
  obtain ⟨h2, s2, b1, b2, b3, b4, b5⟩ := mTest (E := E) (v := v) hL hT a2 a3
  have H : mL E 127 152 v h2 s2 T t L (ydH t L) := by
    unfold ydH
    cases he : (ydB t L).1 with
    | inl x =>
      rw [bd_l he]
      rw [he] at b2 b3
      exact mHoldsX hT b2 b3
    | inr p =>
      rw [bd_r he]
      rw [he] at b2 b3
      obtain ⟨i1, i2, i3, i4⟩ := ydB_ni he
      exact mHoldsL hL hT 11 _ p h2 s2 (by omega) i1 i4 i3 b2 b3
  obtain ⟨h3, s3, d1, d2, d3, d4, d5⟩ := H
  have K : mL E 152 186 v h3 s3 T t L (ydL t L) := by
    unfold ydL
    cases he : (ydH t L).1 with
    | inl x =>
      rw [bd_l he]
      rw [he] at d2 d3
      exact mLiftersX d2 d3
    | inr p =>
      rw [bd_r he]
      rw [he] at d2 d3
      obtain ⟨i1, i2, i3⟩ := ydH_ni he
      exact mLiftersL hL hT 5 _ p h3 s3 (by omega) i1 d2 d3
  obtain ⟨h4, s4, f1, f2, f3, f4, f5⟩ := K
  exact ⟨h4, s4, a1.trans (b1.trans (d1.trans f1)), f2, f3, ((a4.tr b4).tr d4).tr f4, ((a5.tr b5).tr d5).tr f5⟩
end MRD
