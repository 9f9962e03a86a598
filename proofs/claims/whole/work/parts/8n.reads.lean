/-! THE TEXT: the component reads a yard -/
def bkS (t : Nat → Nat) (L : Nat) (N : Nat → Nat) (p : Nat) : Sum (Nat × Nat) Nat × (Nat → Nat) := if sgN t L 107 p = true then bksE t L 9 N p else (.inl (1, p), N)
def enS (L : Nat) (N : Nat → Nat) (q : Nat) : Sum (Nat × Nat) Nat × (Nat → Nat) := if L ≤ q then (.inr q, N) else (.inl (1, q), N)
def bd (x : Sum (Nat × Nat) Nat × (Nat → Nat)) (f : (Nat → Nat) → Nat → Sum (Nat × Nat) Nat × (Nat → Nat)) : Sum (Nat × Nat) Nat × (Nat → Nat) := match x.1 with
  | .inl y => (.inl y, x.2)
  | .inr q => f x.2 q
def ydW (t : Nat → Nat) (L : Nat) : Sum (Nat × Nat) Nat × (Nat → Nat) := (lwE t L, lwM t L)
def ydB (t : Nat → Nat) (L : Nat) : Sum (Nat × Nat) Nat × (Nat → Nat) := bd (ydW t L) (bkS t L)
def ydH (t : Nat → Nat) (L : Nat) : Sum (Nat × Nat) Nat × (Nat → Nat) := bd (ydB t L) (hdsE t L 11)
def ydL (t : Nat → Nat) (L : Nat) : Sum (Nat × Nat) Nat × (Nat → Nat) := bd (ydH t L) (lfsE t L 5)
def ydE (t : Nat → Nat) (L : Nat) : Sum (Nat × Nat) Nat × (Nat → Nat) := bd (ydL t L) (enS L)
theorem bd_l {x : Sum (Nat × Nat) Nat × (Nat → Nat)} {f : (Nat → Nat) → Nat → Sum (Nat × Nat) Nat × (Nat → Nat)} {y : Nat × Nat} (h : x.1 = .inl y) : bd x f = (.inl y, x.2) := by
  unfold bd; rw [h]
theorem bd_r {x : Sum (Nat × Nat) Nat × (Nat → Nat)} {f : (Nat → Nat) → Nat → Sum (Nat × Nat) Nat × (Nat → Nat)} {q : Nat} (h : x.1 = .inr q) : bd x f = f x.2 q := by
  unfold bd; rw [h]
section NIS
variable {t : Nat → Nat} {L : Nat}
theorem tkC_end {T : Nat → Int32} (hT : tpO T t L) {p : Nat} : (tkC t L p = -1) = (L ≤ p) := by
  apply propext
  unfold tkC
  by_cases hp : L ≤ p
  · rw [if_pos hp]; exact ⟨fun _ => hp, fun _ => rfl⟩
  · obtain ⟨t1, -⟩ := hT p (by omega)
    rw [if_neg hp]
    refine ⟨fun z => ?_, fun z => absurd z hp⟩
    have nn : ∀ c : Nat, c < 256 → nI c ≠ -1 := fun c hc q => by
      have := nI_pos (n := c) (by omega)
      rw [q] at this
      exact this (by decide)
    split at z
    · split at z
      · exact absurd z (by decide)
      · exact absurd z (by decide)
    · split at z
      · exact absurd z (nn _ t1)
      · exact absurd z (by decide)
theorem tkK_end {p : Nat} : (tkK t L p = 1) = (L ≤ p) := by
  apply propext
  unfold tkK
  by_cases hp : L ≤ p
  · rw [if_pos hp]; exact ⟨fun _ => hp, fun _ => rfl⟩
  · rw [if_neg hp]
    refine ⟨fun z => ?_, fun z => absurd z hp⟩
    split at z
    · omega
    · split at z
      · split at z <;> omega
      · split at z <;> omega
theorem bks_ni : ∀ (f : Nat) (N : Nat → Nat) (p q : Nat), NI N → N 4 = 0 → N 5 = 0 → (bksE t L f N p).1 = .inr q → NI (bksE t L f N p).2 ∧ (bksE t L f N p).2 4 = 0 ∧ (bksE t L f N p).2 5 = 0 ∧ N 3 ≤ (bksE t L f N p).2 3
  | 0, N, p, q, hN, h4, h5, _ => ⟨hN, h4, h5, Nat.le_refl _⟩
  | f + 1, N, p, q, hN, h4, h5, h => by
    unfold bksE at h ⊢
    by_cases hk : sgN t L 107 p = true
    · rw [if_pos hk] at h ⊢
      cases hb : bkE t L N p with
      | inl x => rw [hb] at h; cases h
      | inr q1 =>
        rw [hb] at h
        obtain ⟨b1, b2⟩ := bkE_ni hN h4 h5 hb
        have e3 : bkN t L N p 3 = N 3 + 1 := rfl
        obtain ⟨i1, i2, i3, i4⟩ := bks_ni f (bkN t L N p) q1 q b2 (by unfold bkN; rw [bikN_s (by omega) (by omega) (by omega)]; exact h4) (by unfold bkN; rw [bikN_s (by omega) (by omega) (by omega)]; exact h5) h
        rw [e3] at i4
        exact ⟨i1, i2, i3, by dsimp only; omega⟩
    · rw [if_neg hk]
      exact ⟨hN, h4, h5, Nat.le_refl _⟩
theorem bkS_ni {N : Nat → Nat} {p q : Nat} (hN : NI N) (h4 : N 4 = 0) (h5 : N 5 = 0) (h : (bkS t L N p).1 = .inr q) : NI (bkS t L N p).2 ∧ (bkS t L N p).2 4 = 0 ∧ (bkS t L N p).2 5 = 0 ∧ 1 ≤ (bkS t L N p).2 3 := by
  unfold bkS at h ⊢
  by_cases hk : sgN t L 107 p = true
  · rw [if_pos hk] at h ⊢
    obtain ⟨i1, i2, i3, -⟩ := bks_ni 9 N p q hN h4 h5 h
    refine ⟨i1, i2, i3, ?_⟩
    have h' : (bksE t L (8 + 1) N p).1 = .inr q := h
    show 1 ≤ (bksE t L (8 + 1) N p).2 3
    unfold bksE at h' ⊢
    rw [if_pos hk] at h' ⊢
    cases hb : bkE t L N p with
    | inl x => rw [hb] at h'; cases h'
    | inr q1 =>
      rw [hb] at h'
      obtain ⟨b1, b2⟩ := bkE_ni hN h4 h5 hb
      have e3 : bkN t L N p 3 = N 3 + 1 := rfl
      obtain ⟨-, -, -, i4⟩ := bks_ni 8 (bkN t L N p) q1 q b2 (by unfold bkN; rw [bikN_s (by omega) (by omega) (by omega)]; exact h4) (by unfold bkN; rw [bikN_s (by omega) (by omega) (by omega)]; exact h5) h'
      rw [e3] at i4
      dsimp only
      omega
  · rw [if_neg hk] at h
    cases h
theorem soF_le {p : Nat} : soF t L p ≤ 1 := by unfold soF; split <;> omega
theorem hds_ni : ∀ (f : Nat) (N : Nat → Nat) (p q : Nat), NI N → 1 ≤ N 3 → N 5 = 0 → (hdsE t L f N p).1 = .inr q → NI (hdsE t L f N p).2 ∧ 1 ≤ (hdsE t L f N p).2 3 ∧ (hdsE t L f N p).2 5 = 0
  | 0, N, p, q, hN, h3, h5, _ => ⟨hN, h3, h5⟩
  | f + 1, N, p, q, hN, h3, h5, h => by
    unfold hdsE at h ⊢
    by_cases hk : sgN t L 111 p = true ∨ sgN t L 99 p = true
    · rw [if_pos hk] at h ⊢
      cases hb : hdE t L (soF t L p) N p with
      | inl x => rw [hb] at h; cases h
      | inr q1 =>
        rw [hb] at h
        obtain ⟨b1, b2⟩ := hdE_ni hN h3 h5 soF_le hb
        exact hds_ni f (hdN t L (soF t L p) N p) q1 q b2 (by unfold hdN; rw [hol_O (by omega) (by omega)]; exact h3) (by unfold hdN; rw [hol_O (by omega) (by omega)]; exact h5) h
    · rw [if_neg hk]
      exact ⟨hN, h3, h5⟩
theorem lfs_ni : ∀ (f : Nat) (N : Nat → Nat) (p q : Nat), NI N → 1 ≤ N 3 → (lfsE t L f N p).1 = .inr q → NI (lfsE t L f N p).2 ∧ 1 ≤ (lfsE t L f N p).2 3
  | 0, N, p, q, hN, h3, _ => ⟨hN, h3⟩
  | f + 1, N, p, q, hN, h3, h => by
    unfold lfsE at h ⊢
    by_cases hk : kdF t L p = 0
    · rw [if_pos hk]
      exact ⟨hN, h3⟩
    · rw [if_neg hk] at h ⊢
      have hk5 := kdF_le (t := t) (L := L) (p := p)
      cases hb : lfE t L N p with
      | inl x => rw [hb] at h; cases h
      | inr q1 =>
        rw [hb] at h
        obtain ⟨b1, b2⟩ := lfE_ni hN (show 1 ≤ kdF t L p ∧ kdF t L p ≤ 5 by omega) hb
        exact lfs_ni f (lfN t L (kdF t L p) N p) q1 q b2 (by unfold lfN; rw [lif_O (by omega) (by omega)]; exact h3) h
theorem lw_ni {q : Nat} (h : lwE t L = .inr q) : NI (lwM t L) ∧ lwM t L 3 = 0 ∧ lwM t L 4 = 0 ∧ lwM t L 5 = 0 := by
  unfold lwE at h
  obtain ⟨p1, e, -, m1⟩ := sgB_in h
  obtain ⟨p2, e, n2, m2⟩ := nmB_in e
  obtain ⟨p3, e, -, m3⟩ := sgB_in e
  obtain ⟨p4, e, n4, m4⟩ := nmB_in e
  obtain ⟨p5, e, -, m5⟩ := sgB_in e
  obtain ⟨p6, e, n6, m6⟩ := nmB_in e
  obtain ⟨p7, e, -, m7⟩ := sgB_in e
  cases e
  subst m7 m6 m5 m4 m3 m2
  have v1 := (nm_in n6).2
  have v2 := (nm_in n4).2
  have v3 := (nm_in n2).2
  refine ⟨⟨v1, v2.2, v3.2, Nat.zero_le _, Nat.zero_le _, Nat.zero_le _, rfl, fun b hb => absurd hb (Nat.not_lt_zero _), fun b hb => absurd hb (Nat.not_lt_zero _), fun b j hb => absurd hb (Nat.not_lt_zero _), fun b hb => absurd hb (Nat.not_lt_zero _), fun j hj => ?_⟩, rfl, rfl, rfl⟩
  unfold lwM lwN
  rw [if_neg (by omega), if_neg (by omega), if_neg (by omega)]
theorem ydB_ni {q : Nat} (h : (ydB t L).1 = .inr q) : NI (ydB t L).2 ∧ (ydB t L).2 4 = 0 ∧ (ydB t L).2 5 = 0 ∧ 1 ≤ (ydB t L).2 3 := by
  unfold ydB at h ⊢
  cases he : (ydW t L).1 with
  | inl x => rw [bd_l he] at h; cases h
  | inr p =>
    rw [bd_r he] at h ⊢
    obtain ⟨a1, a2, a3, a4⟩ := lw_ni (t := t) (L := L) he
    exact bkS_ni a1 a3 a4 h
theorem ydH_ni {q : Nat} (h : (ydH t L).1 = .inr q) : NI (ydH t L).2 ∧ 1 ≤ (ydH t L).2 3 ∧ (ydH t L).2 5 = 0 := by
  unfold ydH at h ⊢
  cases he : (ydB t L).1 with
  | inl x => rw [bd_l he] at h; cases h
  | inr p =>
    rw [bd_r he] at h ⊢
    obtain ⟨a1, a2, a3, a4⟩ := ydB_ni he
    exact hds_ni 11 _ p q a1 a4 a3 h
theorem ydL_ni {q : Nat} (h : (ydL t L).1 = .inr q) : NI (ydL t L).2 ∧ 1 ≤ (ydL t L).2 3 := by
  unfold ydL at h ⊢
  cases he : (ydH t L).1 with
  | inl x => rw [bd_l he] at h; cases h
  | inr p =>
    rw [bd_r he] at h ⊢
    obtain ⟨a1, a2, a3⟩ := ydH_ni he
    exact lfs_ni 5 _ p q a1 a2 h
theorem ydE_ni {q : Nat} (h : (ydE t L).1 = .inr q) : (ydL t L).1 = .inr q ∧ (ydE t L).2 = (ydL t L).2 ∧ L ≤ q ∧ NI (ydL t L).2 ∧ 1 ≤ (ydL t L).2 3 := by
  unfold ydE at h ⊢
  cases he : (ydL t L).1 with
  | inl x => rw [bd_l he] at h; cases h
  | inr p =>
    rw [bd_r he] at h ⊢
    unfold enS at h ⊢
    by_cases hp : L ≤ p
    · rw [if_pos hp] at h ⊢
      cases h
      exact ⟨rfl, rfl, hp, ydL_ni he⟩
    · rw [if_neg hp] at h; cases h
end NIS
section RDS
variable {E : zE} {h0 h : zH} {r0 r T : Nat → Int32} {t : Nat → Nat} {L s k p : Nat} {N : Nat → Nat}
theorem cBikes (hL : L ≤ 120) (hT : tpO T t L) (hs : 16 ≤ s ∧ s < 34) (hN : NI N) (h3 : N 3 = 0) (h4 : N 4 = 0) (h5 : N 5 = 0) (hY : YC h s N) (hC : rL h0 h r0 r T L s (.inr p)) : ∃ h' r', zcall zpp E 37 [.ref 2, .ref s] h = some (some (.int (zb (isR (bkS t L N p).1))), h') ∧ RC h0 h' r0 r' T t L s 0 (bkS t L N p).2 (bkS t L N p).1 := by
  have c1 : zsel 5 [5, 45] = some 45 := rfl
  obtain ⟨hR, h1, hz, hp, q2, q3⟩ := hC
  obtain ⟨ha, ra, a1, a2, a3, a4, a5, a6⟩ := sp_sign (E := E) (c := 107) hL hp hT (Or.inl rfl) ⟨hR, h1, q3⟩
  have a1 : zcall zpp E 45 [.ref 2, .int 107] h = some (some (.int (zb (sgN t L 107 p))), ha) := a1
  have za := hz.sm a6 (by omega) (fun a e => two_P e)
  have Ya := hY.two a6 hs
  have run : zcall zpp E 37 [.ref 2, .ref s] h = zrun zpp E 37 (9, [.ref 2, .ref s, .int (zb (sgN t L 107 p)), .int 0], [], ha) := by
    conv =>
      lhs
      simp only [ze37, zi37_0, zi37_0n, zi37_1, zi37_3, zi37_6, zi37_7, zi37_8, zcl1, zlow_0, zlow_1, zlow_2, zlow_3, zlow_4, zfree_0, zfree_i, zfree_r, zfree_n, zfree_d, zfree_f, zfree_s, if_true, if_false, Option.bind_some, Option.toList_some, Option.toList_none, List.cons_append, List.nil_append, List.set_cons_zero, List.set_cons_succ, Bool.false_eq_true, reduceIte, zsw_c, zsw_n, Nat.reduceAdd, hR.1, c1, a1]
  unfold bkS
  cases n : sgN t L 107 p
  · rw [if_neg (by decide)]
    rw [n] at run a5
    refine ⟨ha, ra, ?_, a2.1, a2.2.1, za, a5, a3, Ya.sp⟩
    rw [run]
    simp only [zi37_9, zi37_10, zi37_12, zi37_15, zi37_16, zi37_19, zi37_19n, zi37_20, zi37_23, zi37_25, zi37_55, zi37_56 (sk := []), zcl1, zlow_0, zlow_1, zlow_2, zlow_3, zlow_4, zfree_0, zfree_i, zfree_r, zfree_n, zfree_d, zfree_f, zfree_s, if_true, if_false, Option.bind_some, Option.toList_some, Option.toList_none, List.cons_append, List.nil_append, List.set_cons_zero, List.set_cons_succ, Bool.false_eq_true, reduceIte, zsw_c, zsw_n, Nat.reduceAdd, zb_f, z00, isR, show ((8 : Int32) < 0) = False by decide]
  · rw [if_pos rfl]
    rw [n] at run a5
    obtain ⟨hb, rb, b1, b2⟩ := cBikesL (E := E) (h0 := h0) (r0 := r0) (k := 0) hL hT hs 9 N p ha ra (by omega) hN h4 h5 ⟨a2.1, a2.2.1, za, hp, a5.trans q2, a2.2.2, a3, a4, Ya⟩
    refine ⟨hb, rb, ?_, b2⟩
    rw [run, ← b1, h3]
    rfl
theorem cHolds (hL : L ≤ 120) (hT : tpO T t L) (hs : 16 ≤ s ∧ s < 34) (hN : NI N) (h3 : 1 ≤ N 3) (h4 : N 4 = 0) (h5 : N 5 = 0) (hC : RC h0 h r0 r T t L s k N (.inr p)) : ∃ h' r', zcall zpp E 39 [.ref 2, .ref s] h = some (some (.int (zb (isR (hdsE t L 11 N p).1))), h') ∧ RC h0 h' r0 r' T t L s k (hdsE t L 11 N p).2 (hdsE t L 11 N p).1 := by
  obtain ⟨hb, rb, b1, b2⟩ := cHoldsL (E := E) hL hT hs 11 N p h r (by omega) hN h3 h5 hC
  refine ⟨hb, rb, ?_, b2⟩
  rw [← b1, h4]
  conv =>
    lhs
    simp only [ze39, zi39_0, zi39_1, zi39_2, zi39_3, zcl1, zlow_0, zlow_1, zlow_2, zlow_3, zlow_4, zfree_0, zfree_i, zfree_r, zfree_n, zfree_d, zfree_f, zfree_s, if_true, if_false, Option.bind_some, Option.toList_some, Option.toList_none, List.cons_append, List.nil_append, List.set_cons_zero, List.set_cons_succ, Bool.false_eq_true, reduceIte, zsw_c, zsw_n, Nat.reduceAdd]
  rfl
theorem cLifters (hL : L ≤ 120) (hT : tpO T t L) (hs : 16 ≤ s ∧ s < 34) (h81 : 87 ≤ h0.length) (hN : NI N) (h3 : 1 ≤ N 3) (h5 : N 5 = 0) (hC : RC h0 h r0 r T t L s 0 N (.inr p)) : ∃ h' r', zcall zpp E 41 [.ref 2, .ref s] h = some (some (.int (zb (isR (bd (lfsE t L 5 N p) (enS L)).1))), h') ∧ RC h0 h' r0 r' T t L s 5 (bd (lfsE t L 5 N p) (enS L)).2 (bd (lfsE t L 5 N p) (enS L)).1 := by
  have c1 : zsel 5 [5, 47] = some 47 := rfl
  obtain ⟨hb, rb, ib, wb, b1, b2⟩ := cLiftersL (E := E) hL hT hs h81 5 N p h r (.retAddr 0) (by omega) hN h3 (by rw [h5]; exact hC)
  have run : zcall zpp E 41 [.ref 2, .ref s] h = zrun zpp E 41 (64, [.ref 2, .ref s, .int (zb (isR (lfsE t L 5 N p).1)), .int ib, wb], [], hb) := by
    rw [← b1, h5]
    conv =>
      lhs
      simp only [ze41, zi41_0, zi41_1, zi41_2, zi41_3, zcl1, zlow_0, zlow_1, zlow_2, zlow_3, zlow_4, zfree_0, zfree_i, zfree_r, zfree_n, zfree_d, zfree_f, zfree_s, if_true, if_false, Option.bind_some, Option.toList_some, Option.toList_none, List.cons_append, List.nil_append, List.set_cons_zero, List.set_cons_succ, Bool.false_eq_true, reduceIte, zsw_c, zsw_n, Nat.reduceAdd]
    rfl
  cases he : (lfsE t L 5 N p).1 with
  | inl x =>
    rw [bd_l he]
    rw [he] at b2 run
    refine ⟨hb, rb, ?_, b2⟩
    rw [run]
    simp only [zi41_64, zi41_65, zi41_68, zi41_68n, zi41_69, zi41_72, zi41_73, zi41_76, zi41_76n, zi41_77, zi41_78, zi41_81, zi41_84, zi41_85, zi41_88, zi41_89 (sk := []), zcl1, zlow_0, zlow_1, zlow_2, zlow_3, zlow_4, zfree_0, zfree_i, zfree_r, zfree_n, zfree_d, zfree_f, zfree_s, if_true, if_false, Option.bind_some, Option.toList_some, Option.toList_none, List.cons_append, List.nil_append, List.set_cons_zero, List.set_cons_succ, Bool.false_eq_true, reduceIte, zsw_c, zsw_n, Nat.reduceAdd, isR, zb_f, z00]
  | inr q =>
    rw [bd_r he]
    rw [he] at b2 run
    obtain ⟨d1, d2, d3, d4, d5, d6, d7, d8, d9⟩ := b2
    have f5 := d1.i 5 (by omega) (by omega)
    rw [d8] at f5
    have g := tkC_end hT (p := q)
    unfold enS
    by_cases hq : L ≤ q
    · rw [if_pos hq]
      refine ⟨hb, rb, ?_, d1, d2, d3, d4, d5, d6, d7, d8, d9⟩
      rw [run]
      simp only [zi41_64, zi41_65, zi41_68, zi41_68n, zi41_69, zi41_72, zi41_73, zi41_76, zi41_76n, zi41_77, zi41_78, zi41_81, zi41_84, zi41_85, zi41_88, zi41_89 (sk := []), zcl1, zlow_0, zlow_1, zlow_2, zlow_3, zlow_4, zfree_0, zfree_i, zfree_r, zfree_n, zfree_d, zfree_f, zfree_s, if_true, if_false, Option.bind_some, Option.toList_some, Option.toList_none, List.cons_append, List.nil_append, List.set_cons_zero, List.set_cons_succ, Bool.false_eq_true, reduceIte, zsw_c, zsw_n, Nat.reduceAdd, isR, zb_t, z10, f5, g, eq_true hq]
    · rw [if_neg hq]
      have zf : zsm (fun a => a = 2) hb (zpf hb 2 2 (.int 1)) := zsm_pf
      refine ⟨_, _, ?_, d1.put 2 (by omega) (by omega) 1, d2, d3.sm zf (by omega) (fun a e => two_P e), rfl, d7, (d9.two zf hs).sp⟩
      rw [run]
      simp only [zi41_64, zi41_65, zi41_68, zi41_68n, zi41_69, zi41_72, zi41_73, zi41_76, zi41_76n, zi41_77, zi41_78, zi41_81, zi41_84, zi41_85, zi41_88, zi41_89 (sk := []), zcl1, zlow_0, zlow_1, zlow_2, zlow_3, zlow_4, zfree_0, zfree_i, zfree_r, zfree_n, zfree_d, zfree_f, zfree_s, if_true, if_false, Option.bind_some, Option.toList_some, Option.toList_none, List.cons_append, List.nil_append, List.set_cons_zero, List.set_cons_succ, Bool.false_eq_true, reduceIte, zsw_c, zsw_n, Nat.reduceAdd, isR, zb_t, zb_f, z10, z00, f5, g, eq_false hq, d1.1, c1, sp_refuse d1]
end RDS
