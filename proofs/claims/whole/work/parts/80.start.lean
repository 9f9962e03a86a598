/-! FROM THE SMALL MACHINE's RUN OF THE LAW TO THE CLAIM -/
theorem zarr_prim {s : State} {args : Array Value} {ty : FieldType} (hp : ∀ C, ty ≠ .object C) (h : (Cond.arrayClass ty).before args s = true) : ∃ cA : ClassId, ArrOfT s cA ty ∧ va_RA s cA ty := by
  obtain ⟨cA, kA, comp, h1, h2, h3⟩ := Cond.arrayClass_spec h
  refine ⟨cA, fun n z => ⟨fun k h => (by cases h), kA, h2, comp, h3⟩, ?_⟩
  cases ty with
  | object C => exact absurd rfl (hp C)
  | _ => exact h1
theorem zarr_ref {s : State} {args : Array Value} {C : String} (h : (Cond.arrayOver (.object C)).before args s = true) : ∃ cA : ClassId, ArrOfT s cA (.object C) ∧ va_RA s cA (.object C) := by
  obtain ⟨comp, cA, kA, h1, h2, h3, h4, h5⟩ := Cond.arrayOver_spec h
  exact ⟨cA, fun n z => ⟨fun k h => (by cases h), kA, h3, comp, h4⟩, kA, comp, h3, h4, h1, h5⟩
theorem z_known {s : State} {b : Nat} (hts : ∀ w ∈ lw_tbl, w.before #[Value.ref b] s = true) (hgv : (Jvm.Cond.and given_1 narrow_1).before #[Value.ref b] s = true) (base : Nat) : ∃ (D : va_G) (cA : Nat → ClassId), zKn (D, base, b, cA) s := by
  have hg := flat_of_before _ hgv
  have hm : ∀ w, w ∈ zmw → w.before #[Value.ref b] s = true := fun w hw => hts w (zmw_in hw)
  have hz : ∀ w, w ∈ zgw → w.before #[Value.ref b] s = true := fun w hw => hts w (List.mem_filter.mp hw).1
  have hcl : ∀ (k : Nat), ∃ (cC : ClassId) (iS : Nat → Nat), ∀ q : vw_C, zcl[k]? = some q → u_Kn s q.1 q.2.1 q.2.2 cC iS := by
    intro k
    cases hk : zcl[k]? with
    | none => exact ⟨0, fun _ => 0, fun q hq => by cases hq⟩
    | some q =>
      have hin : Cond.instantiable q.1 q.2.2 ∈ zmw := by
        have hq := List.mem_of_getElem? hk
        have hall : ∀ q ∈ zcl, Cond.instantiable q.1 q.2.2 ∈ zmw := by decide +kernel
        exact hall q hq
      obtain ⟨cC, iS, h⟩ := u_known hz (zcl_in hk) (hm _ hin)
      exact ⟨cC, iS, fun q' hq' => by cases hq'; exact h⟩
  obtain ⟨c0, a0⟩ := zarr_prim (ty := .int) (fun C h => by cases h) (hm (.arrayClass .int) (by decide +kernel))
  obtain ⟨c1, a1⟩ := zarr_prim (ty := .boolean) (fun C h => by cases h) (hm (.arrayClass .boolean) (by decide +kernel))
  obtain ⟨c2, a2⟩ := zarr_ref (C := RX7) (hm (.arrayOver (.object RX7)) (by decide +kernel))
  obtain ⟨c3, a3⟩ := zarr_ref (C := RX10) (hm (.arrayOver (.object RX10)) (by decide +kernel))
  obtain ⟨c4, a4⟩ := zarr_ref (C := RX3) (hm (.arrayOver (.object RX3)) (by decide +kernel))
  refine ⟨(fun k => (hcl k).choose, fun k => (hcl k).choose_spec.choose), fun k => match k with | 0 => c0 | 1 => c1 | 2 => c2 | 3 => c3 | _ => c4, ⟨fun k q hq => (hcl k).choose_spec.choose_spec q hq, ?_⟩, ?_, ?_⟩
  · intro k q hq
    match k, hq with
    | 0, hq => cases hq; exact a0
    | 1, hq => cases hq; exact a1
    | 2, hq => cases hq; exact a2
    | 3, hq => cases hq; exact a3
    | 4, hq => cases hq; exact a4
    | k + 5, hq => simp at hq
  · intro w hw hs
    have h1 := hts w hw
    unfold zspec at hs
    split at hs
    · exact va_Nw.of rfl h1
    · exact va_Nw.of rfl h1
    · exact va_Nw.of rfl h1
    · exact va_Nw.of rfl h1
    · exact va_AO.of h1
    · cases hs
  · have hall : ∀ q ∈ znc, Cond.not (.castable q.1 q.2) ∈ flatC (Jvm.Cond.and given_1 narrow_1) := by decide +kernel
    intro q hq
    exact va_Nc.of (hg _ (hall q hq))
/-- the law's run, of the small machine -/
def zlaw_ok : Prop := ∀ (L : Nat) (xs : Nat → Int32), L ≤ 384 → ∃ h' : zH, zrun zpp (L, xs) 0 (0, [.float 0, .retAddr 0, .retAddr 0, .retAddr 0], [], []) = some (some (.int 1), h') ∧ h'.length ≤ 600000 ∧ zsl h' ≤ 7302250
theorem z_start (hB : zlaw_ok) {p : Program} {e : Env} {s : State} {m : MethodId} {below : List Frame} {meth : Method} {c : Code} (l : Launch) {b L : Nat} {xs : Nat → Int32} (hL : L ≤ 384) (C0 : lw_At p s m meth c b L xs) : W p l e room_1 s m #[Value.ref b] below meth c s.heap [] 0 0 (lw_Z below #[Value.ref b] s) (entryFrame m ([Value.ref b] : List Value).toArray 4) := by
  obtain ⟨hx, hb, hr, hml, hown, hts, hX, hbl, hlocks, hgv⟩ := C0
  obtain ⟨h', hrun, hlen, hsl⟩ := hB L xs hL
  have hE := zsound_all (L, xs) 0 [] _ _ (by omega) hrun
  obtain ⟨D, cA, hKn⟩ := z_known hts hgv s.heap.size
  have hF : zFx (D, s.heap.size, b, cA) (L, xs) [] (zmi 0).1 (zmi 0).2.1 (zmi 0).2.2.1 (zmi 0).2.2.2.1 p s m #[Value.ref b] meth c := ⟨hx, hb, hml, hr, hown, fun w hw => hts w (List.mem_filter.mp hw).1, fun h => absurd h (by decide), hKn, rfl, fun _ => ⟨hX, hbl, Nat.not_le.mpr hbl⟩⟩
  have hl := lv_entry ([.ref b]) (n := 4) (Nat.le_of_ble_eq_true rfl)
  rw [lg_entry_eq]
  have hLoc : zLoc (D, s.heap.size, b, cA) [.float 0, .retAddr 0, .retAddr 0, .retAddr 0] ((lg_sl ([.ref b]) ++ List.replicate (4 - (lg_sl ([.ref b])).length) Slot.unset).toArray) 4 := by
    refine ⟨hl.1, rfl, hl.2.1, fun i v hi hv => ?_⟩
    match i, hi with
    | 0, hi => cases hi; rfl
    | 1, hi => cases hi; exact absurd rfl hv
    | 2, hi => cases hi; exact absurd rfl hv
    | 3, hi => cases hi; exact absurd rfl hv
    | i + 4, hi => simp at hi
  refine hE.2 (zle.rf _) (D, s.heap.size, b, cA) p l e room_1 s m #[Value.ref b] below meth c (lw_Z below #[Value.ref b] s) hF ⟨by decide, by decide, ?_, ?_⟩ ?_ s.heap [] _ (fun k q h => by simp [zww] at h) va_S.rf hLoc
  · show h'.length - 0 ≤ 600000
    omega
  · show zsl h' - 0 ≤ 7302250
    omega
  · intro pc hz H locs ls hRel hS
    have hd : decode code pc = .ok (.ireturn, 1) := by
      rcases hz with ⟨hd, -⟩ | ⟨hd, -⟩ | ⟨hd, ht, x, hx⟩ | ⟨hd, ⟨n, ht⟩, hv⟩ | ⟨hd, ht, hv⟩
      · exact hd
      · exact hd
      · cases hx
      · cases ht
      · cases hv
    refine va_forget (fun q hq => hS.2.2 q hq) ?_
    refine W.widen (k := 600000) (n := 7302250) (by show h'.length - 0 ≤ 600000; omega) (by show zsl h' - 0 ≤ 7302250; omega) ?_
    exact lw_ret hx hb hr hlocks hd
