/-! THE LAW: the loop -/
theorem law_c {P : Option zR → Prop} {x : Int32} {d : Nat} {k : Nat → Option zR} {q : Int × Nat} {r : List (Int × Nat)} (h1 : x = Int32.ofInt q.1 → P (k q.2)) (h2 : P (zsw x d k r)) : P (zsw x d k (q :: r)) := by
  show P (if x = Int32.ofInt q.1 then k q.2 else zsw x d k r)
  split
  · rename_i z; exact h1 z
  · exact h2
theorem J.up {h : zH} {n m : Nat} (hJ : J h n) (hm : n ≤ m) : J h m := by
  obtain ⟨y, s, v, sc, N, h1, h2, h3⟩ := hJ
  exact ⟨y, s, v, sc, N, h1, h2, h3.up hm⟩
theorem J.c0 {h : zH} {n : Nat} (hJ : J h n) : zcls h 0 = some 10 := by
  obtain ⟨y, s, v, sc, N, h1, -⟩ := hJ
  exact h1.co.1
theorem law_sw {E : zE} {h : zH} {n i : Nat} {x : Int32} (hE : E.1 ≤ 384) (hi : i + 6 ≤ E.1) (hJ : J h n) : LC E n i (zrun zpp E 0 (33, [.float 0, .ref 0, .ref 73, .int (nI i)], [.int x], h)) := by
  have c0 := hJ.c0
  rw [zi0_33]
  refine law_c (P := LC E n i) (fun _ => lc_row hE hi c0 (ok_row hJ)) ?_
  refine law_c (P := LC E n i) (fun _ => lc_set hE hi c0 (ok_set hJ)) ?_
  refine law_c (P := LC E n i) (fun _ => lc_copy hE hi c0 (ok_copy hJ)) ?_
  refine law_c (P := LC E n i) (fun _ => lc_drop hE hi c0 (ok_drop hJ)) ?_
  refine law_c (P := LC E n i) (fun _ => lc_feed hE hi c0 (ok_feed hJ)) ?_
  refine law_c (P := LC E n i) (fun _ => lc_yard hE hi c0 (ok_yard hJ)) ?_
  refine law_c (P := LC E n i) (fun _ => lc_fault hE hi c0 (ok_fault hJ)) ?_
  refine law_c (P := LC E n i) (fun _ => lc_undo hE hi c0 (ok_undo hJ)) ?_
  refine law_c (P := LC E n i) (fun _ => lc_lift hE hi c0 (ok_lift hJ)) ?_
  refine law_c (P := LC E n i) (fun _ => lc_loosen hE hi c0 (ok_loosen hJ)) ?_
  refine law_c (P := LC E n i) (fun _ => lc_fall hE hi c0 (ok_fall hJ)) ?_
  refine law_c (P := LC E n i) (fun _ => lc_space hE hi c0 (ok_space hJ)) ?_
  refine law_c (P := LC E n i) (fun _ => lc_bike hE hi c0 (ok_bike hJ)) ?_
  refine law_c (P := LC E n i) (fun _ => lc_hold hE hi c0 (ok_hold hJ)) ?_
  refine law_c (P := LC E n i) (fun _ => lc_takes hE hi c0 (ok_takes hJ)) ?_
  refine law_c (P := LC E n i) (fun _ => lc_stand hE hi c0 (ok_stand hJ)) ?_
  refine law_c (P := LC E n i) (fun _ => lc_soonest hE hi c0 (ok_soonest hJ)) ?_
  refine law_c (P := LC E n i) (fun _ => lc_gentlest hE hi c0 (ok_gentlest hJ)) ?_
  refine law_c (P := LC E n i) (fun _ => lc_never hE hi c0 (ok_never hJ)) ?_
  refine law_c (P := LC E n i) (fun _ => lc_fetch hE hi c0 (ok_fetch hJ)) ?_
  refine law_c (P := LC E n i) (fun _ => lc_layer hE hi c0 (ok_layer hJ)) ?_
  refine law_c (P := LC E n i) (fun _ => lc_fell hE hi c0 (ok_fell hJ)) ?_
  refine law_c (P := LC E n i) (fun _ => lc_first hE hi c0 (ok_first hJ)) ?_
  refine law_c (P := LC E n i) (fun _ => lc_widen hE hi c0 (ok_widen hJ)) ?_
  refine law_c (P := LC E n i) (fun _ => lc_plan hE hi c0 (ok_plan hJ)) ?_
  refine law_c (P := LC E n i) (fun _ => lc_who hE hi c0 (ok_who hJ)) ?_
  refine law_c (P := LC E n i) (fun _ => lc_seen hE hi c0 (ok_seen hJ)) ?_
  refine law_c (P := LC E n i) (fun _ => lc_drawn hE hi c0 (ok_drawn hJ)) ?_
  refine law_c (P := LC E n i) (fun _ => lc_image hE hi c0 (ok_image hJ)) ?_
  refine law_c (P := LC E n i) (fun _ => lc_restore hE hi c0 (ok_restore hJ)) ?_
  refine law_c (P := LC E n i) (fun _ => lc_kind hE hi c0 (ok_kind hJ)) ?_
  refine law_c (P := LC E n i) (fun _ => lc_as hE hi c0 (ok_as hJ)) ?_
  refine law_c (P := LC E n i) (fun _ => lc_ask hE hi c0 (ok_ask hJ)) ?_
  refine law_c (P := LC E n i) (fun _ => lc_trace hE hi c0 (ok_trace hJ)) ?_
  refine law_c (P := LC E n i) (fun _ => lc_count hE hi c0 (ok_count hJ)) ?_
  refine law_c (P := LC E n i) (fun _ => lc_status hE hi c0 (ok_status hJ)) ?_
  exact ⟨h, rfl, hJ.up (Nat.le_succ n)⟩
theorem law_lt : ∀ L, L < 385 → ∀ n, n < 65 → (Int32.ofNat L - 6 < nI (6 * n) ↔ L < 6 * n + 6) := by decide +kernel
theorem law_fr {x : Int32} : zfree [.float 0, .ref 0, .ref 73, .int x] 3 = true := rfl
theorem lawL {E : zE} (hE : E.1 ≤ 384) : ∀ (m n : Nat) (h : zH), n + m = 64 → J h n → ∃ h' k, zrun zpp E 0 (18, [.float 0, .ref 0, .ref 73, .int (nI (6 * n))], [], h) = some (some (.int 1), h') ∧ k ≤ 64 ∧ J h' k := by
  intro m
  induction m with
  | zero =>
    intro n h hn hJ
    refine ⟨h, n, ?_, by omega, hJ⟩
    have z : (Int32.ofNat E.1 - 6 < nI (6 * n)) = True := eq_true ((law_lt E.1 (by omega) n (by omega)).2 (by omega))
    simp only [zi0_18, zi0_19, zi0_19n, zi0_19f, zi0_20, zi0_21, zi0_23, zi0_24, zcl1, zlow_0, zlow_1, zlow_2, zlow_3, zlow_4, zfree_0, zfree_i, zfree_r, zfree_n, zfree_d, zfree_f, zfree_s, if_true, if_false, Option.bind_some, Option.toList_some, Option.toList_none, List.cons_append, List.nil_append, List.set_cons_zero, List.set_cons_succ, Bool.false_eq_true, reduceIte, zsw_c, zsw_n, Nat.reduceAdd, z, zi0_1307, zi0_1308 (sk := []), z10, eq_self]
  | succ m ih =>
    intro n h hn hJ
    by_cases hl : E.1 < 6 * n + 6
    · refine ⟨h, n, ?_, by omega, hJ⟩
      have z : (Int32.ofNat E.1 - 6 < nI (6 * n)) = True := eq_true ((law_lt E.1 (by omega) n (by omega)).2 hl)
      simp only [zi0_18, zi0_19, zi0_19n, zi0_19f, zi0_20, zi0_21, zi0_23, zi0_24, zcl1, zlow_0, zlow_1, zlow_2, zlow_3, zlow_4, zfree_0, zfree_i, zfree_r, zfree_n, zfree_d, zfree_f, zfree_s, if_true, if_false, Option.bind_some, Option.toList_some, Option.toList_none, List.cons_append, List.nil_append, List.set_cons_zero, List.set_cons_succ, Bool.false_eq_true, reduceIte, zsw_c, zsw_n, Nat.reduceAdd, z, zi0_1307, zi0_1308 (sk := []), z10, eq_self]
    · have z : (Int32.ofNat E.1 - 6 < nI (6 * n)) = False := eq_false (fun q => hl ((law_lt E.1 (by omega) n (by omega)).1 q))
      obtain ⟨h2, a1, a2⟩ := law_sw (i := 6 * n) (x := E.2 (6 * n) &&& 63) hE (by omega) hJ
      obtain ⟨h', k, b1, b2, b3⟩ := ih (n + 1) h2 (by omega) a2
      refine ⟨h', k, ?_, b2, b3⟩
      have w1 : zix (nI (6 * n)) E.1 = true := zix_nI (by omega) (by omega)
      have w2 : (nI (6 * n)).toNatClampNeg = 6 * n := nI_clamp (by omega)
      have s1 : zrun zpp E 0 (18, [.float 0, .ref 0, .ref 73, .int (nI (6 * n))], [], h) = zrun zpp E 0 (33, [.float 0, .ref 0, .ref 73, .int (nI (6 * n))], [.int (E.2 (6 * n) &&& 63)], h) := by
        conv =>
          lhs
          simp only [zi0_18, zi0_19, zi0_19n, zi0_19f, zi0_20, zi0_21, zi0_23, zi0_24, zi0_27, zi0_27n, zi0_27f, zi0_28, zi0_29, zi0_30, zi0_32, zcl1, zlow_0, zlow_1, zlow_2, zlow_3, zlow_4, zfree_0, zfree_i, zfree_r, zfree_n, zfree_d, zfree_f, zfree_s, if_true, if_false, Option.bind_some, Option.toList_some, Option.toList_none, List.cons_append, List.nil_append, List.set_cons_zero, List.set_cons_succ, Bool.false_eq_true, reduceIte, zsw_c, zsw_n, Nat.reduceAdd, z, w1, w2, eq_self]
      have s2 : zrun zpp E 0 (1301, [.float 0, .ref 0, .ref 73, .int (nI (6 * n))], [], h2) = zrun zpp E 0 (18, [.float 0, .ref 0, .ref 73, .int (nI (6 * (n + 1)))], [], h2) := by
        rw [zi0_1301, if_pos law_fr, show (6 : Int32) = nI 6 from rfl, nI_pk, show 6 * n + 6 = 6 * (n + 1) by omega]
        exact zi0_1304
      rw [s1, a1, s2, b1]
theorem zlaw_yes : zlaw_ok := by
  intro L xs hL
  obtain ⟨h', k, a1, a2, y, s, v, sc, N, -, -, b1, b2, b3⟩ := lawL (E := (L, xs)) hL 64 0 new0 (by omega) new0_J
  refine ⟨h', law0.trans a1, by omega, by omega⟩
