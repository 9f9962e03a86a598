/-! FIELDS, ROWS, NEW CELLS -/
section ZH0
variable {p : Program} {l : Launch} {e : Env} {R : Room} {s : State} {m : MethodId} {args : Array Value} {below : List Frame} {meth : Method} {c : Code} {H : Heap} {locs : List Loc} {cells slots : Nat} {Q : State → Prop}
/-- a new cell's place: behind the ones that there are -/
theorem zW_new {G : zG} {h h0 : zH} {q : Nat} {en : va_E} {g : JFrame} (hsz : s.heap.size = G.2.1 + h0.length) (h0l : h0.length ≤ h.length) (hcl : cells = h.length - h0.length + 1) (hP : va_P G.1 zcl (zww G h ++ [(q, en)]) H) (hD : va_D (zAA G) (zww G h ++ [(q, en)])) (kk : q = G.2.1 + h.length → W p l e R s m args below meth c H locs cells slots Q g) : W p l e R s m args below meth c H locs cells slots Q g := by
  intro T hT X
  have hl : (zww G h).length = h.length := by simp [zww]
  have hq : (zww G h ++ [(q, en)])[h.length]? = some (q, en) := by rw [List.getElem?_append_right (by omega), hl]; simp
  have h1 := X.heapSize
  rw [hT] at h1
  have h2 : q < H.size := (hP _ _ hq).lt
  have h3 : G.2.1 ≤ q := hD.2 _ _ hq
  refine kk ?_ T hT X
  by_cases hlt : q < G.2.1 + h.length
  · have hk : q - G.2.1 < h.length := by omega
    have h4 : (zww G h ++ [(q, en)])[q - G.2.1]? = some (q, zce G h[q - G.2.1]) := by
      rw [List.getElem?_append_left (by omega), zww_get (List.getElem?_eq_getElem hk)]
      congr 2
      omega
    have := hD.1 _ _ _ _ h4 hq rfl
    omega
  · omega
end ZH0
section ZH
variable {E : zE} {mi : zMi} {h0 : zH} {k : zK} {r : zR} {pc nx : Nat} {lc sk : List Value} {h9 : zH}
/-- a field's link: plain, of a nest mate, or by a class beneath -/
def zflB (own : String) (ix : Nat) (T : u_T) (f : Nat) : Bool := decide (Cond.fieldLink own ix (T f).1 (T f).2.1 (T f).2.2.1 ∈ zfw) || (decide (Cond.fieldLinkNest own ix (T f).1 (T f).2.1 (T f).2.2.1 "NineDown" ∈ zfw) || (decide (Cond.fieldLink own ix own (T f).2.1 (T f).2.2.1 ∈ zfw) && decide (Cond.sameField own (T f).1 (T f).2.1 (T f).2.2.1 ∈ zfw)))
def zgetB (own : String) (ix f c : Nat) : Bool := match zcl[c]? with
  | some q => decide (f < q.2.2) && zflB own ix q.2.1 f
  | none => false
theorem zs_getf {ix f : Nat} {cs : List Nat} (hk : zSK E mi h0 k) (hd : decode mi.2.1 pc = .ok (.getfield ix, 3)) (hok : cs.all (zgetB mi.1.cls ix f) = true) (hn : pc + 3 = nx) (h : z_getf f cs nx (pc, lc, sk, h9) k = some r) : zEv E mi h0 (pc, lc, sk, h9) r := by
  subst hn
  unfold z_getf at h
  split at h
  · rename_i a sk' hsk
    dsimp only at hsk
    subst hsk
    split at h
    · rename_i ci fs hc
      split at h
      · rename_i hcs
        split at h
        · rename_i v hv
          refine zEv.of (st' := (pc + 3, lc, v :: sk', h9)) (zle.rf _) ?_ (hk _ _ h)
          intro G p l e R s m args below meth c Q h0l hF hR kk H locs ls hRel hS hL
          obtain ⟨hx, hb, hml, hr, hown, hts, hini, hKn, hsz, hscr⟩ := hF
          have hB := List.all_eq_true.mp hok ci (by simpa using hcs)
          unfold zgetB at hB
          split at hB
          · rename_i q hq
            obtain ⟨C, T, N⟩ := q
            simp only [zflB, Bool.and_eq_true, Bool.or_eq_true, decide_eq_true_eq] at hB
            obtain ⟨hfN, hB⟩ := hB
            have hv' : (fs.map (zcv G))[f]? = some (zcv G v) := by rw [List.getElem?_map, hv]; rfl
            have hK := hKn.1
            rcases hB with hB | hB | hB
            · exact va_get (D := G.1) (C := C) (T := T) (N := N) hx hb hts (zcl_in hq) hown hK hRel a (zww_get hc) hq f hfN (hts _ (zfw_g hB rfl)) (fun _ h9 => h9) hv' hd (kk H locs ls hRel hS hL)
            · exact va_getN (D := G.1) (C := C) (T := T) (N := N) hx hb hts (zcl_in hq) hown hK hRel a (zww_get hc) hq f hfN (va_Nw.use rfl (hKn.2.1 _ (zfw_in hB) rfl)) (fun _ h9 => h9) hv' hd (kk H locs ls hRel hS hL)
            · exact va_get (D := G.1) (C := C) (T := T) (N := N) hx hb hts (zcl_in hq) hown hK hRel a (zww_get hc) hq f hfN (hts _ (zfw_g hB.1 rfl)) (fun x hx => u_same (hts _ (zfw_g hB.2 rfl)) x hx) hv' hd (kk H locs ls hRel hS hL)
          · cases hB
        · cases h
      · cases h
    · cases h
  · cases h
/-- a field's sort by its type -/
def ztyB (ty : Nat) (t : FieldType) : Bool := match ty, t with
  | 0, .int => true
  | 1, .boolean => true
  | 2, .object _ => true
  | 2, .array _ => true
  | _, _ => false
theorem zfits_ok {G : zG} {ty : Nat} {t : FieldType} {v : Value} (ht : ztyB ty t = true) (hv : zfits ty v = true) : narrow t (zcv G v) = zcv G v ∧ fits t (zcv G v) = true := by
  unfold ztyB at ht
  split at ht
  · unfold zfits at hv
    split at hv <;> first | cases hv; done | (exact ⟨rfl, rfl⟩) | contradiction
  · unfold zfits at hv
    split at hv <;> first | contradiction | skip
    all_goals first | (simp only [Bool.or_eq_true, decide_eq_true_eq] at hv; rcases hv with rfl | rfl <;> exact ⟨rfl, rfl⟩) | cases hv
  · unfold zfits at hv
    split at hv <;> first | contradiction | exact ⟨rfl, rfl⟩ | cases hv
  · unfold zfits at hv
    split at hv <;> first | contradiction | exact ⟨rfl, rfl⟩ | cases hv
  · cases ht
def zputB (y : MethodName) (ix f ty c : Nat) : Bool := match zcl[c]? with
  | some q => decide (f < q.2.2) && (ztyB ty (zty c f) && (if (q.2.1 f).2.2.2 = true then decide (y.name = "<init>") && (decide ((q.2.1 f).1 = y.cls) && decide (Cond.fieldLink y.cls ix (q.2.1 f).1 (q.2.1 f).2.1 (q.2.1 f).2.2.1 ∈ zfw)) else decide (Cond.fieldLink y.cls ix (q.2.1 f).1 (q.2.1 f).2.1 (q.2.1 f).2.2.1 ∈ zfw) || decide (Cond.fieldLinkNest y.cls ix (q.2.1 f).1 (q.2.1 f).2.1 (q.2.1 f).2.2.1 "NineDown" ∈ zfw)))
  | none => false
theorem zs_putf {ix f ty : Nat} {cs : List Nat} (hk : zSK E mi h0 k) (hd : decode mi.2.1 pc = .ok (.putfield ix, 3)) (hok : cs.all (zputB mi.1 ix f ty) = true) (hn : pc + 3 = nx) (h : z_putf f ty cs nx (pc, lc, sk, h9) k = some r) : zEv E mi h0 (pc, lc, sk, h9) r := by
  subst hn
  unfold z_putf at h
  split at h
  · rename_i v a sk' hsk
    dsimp only at hsk
    subst hsk
    split at h
    · rename_i ci fs hc
      split at h
      · rename_i hcs
        simp only [Bool.and_eq_true, decide_eq_true_eq] at hcs
        refine zEv.of (st' := (pc + 3, lc, sk', h9.set a (.inl (ci, fs.set f v)))) (zle_set hc (by simp [zsz])) ?_ (hk _ _ h)
        intro G p l e R s m args below meth c Q h0l hF hR kk H locs ls hRel hS hL
        obtain ⟨hx, hb, hml, hr, hown, hts, hini, hKn, hsz, hscr⟩ := hF
        have hB := List.all_eq_true.mp hok ci (by simpa using hcs.1.1)
        unfold zputB at hB
        split at hB
        · rename_i q hq
          obtain ⟨C, T, N⟩ := q
          simp only [Bool.and_eq_true, decide_eq_true_eq] at hB
          obtain ⟨hfN, hty, hB⟩ := hB
          have hK := hKn.1
          obtain ⟨hn1, hn2⟩ := zfits_ok (G := G) hty hcs.1.2
          have hwat : ∀ (H1 : Heap) (locs1 : List Loc), va_P G.1 zcl ((zww G h9).set a (G.2.1 + a, .inr (ci, (fs.map (zcv G)).set f (zcv G v)))) H1 → va_D (zAA G) ((zww G h9).set a (G.2.1 + a, .inr (ci, (fs.map (zcv G)).set f (zcv G v)))) → va_S (zAA G) s.heap H1 locs1 → W p l e R s m args below meth c H1 locs1 (h9.length - h0.length) (zsl h9 - zsl h0) Q (F0 m (pc + 3) ls (sk'.map (zcv G))) := by
            intro H1 locs1 hP1 _ hS1
            have h2 := kk H1 locs1 ls (by
              show va_P _ _ _ _
              rw [← zww_set]
              have : zce G (.inl (ci, fs.set f v)) = .inr (ci, (fs.map (zcv G)).set f (zcv G v)) := by simp [zce, List.map_set]
              rw [this]
              exact hP1) hS1 hL
            dsimp only at h2
            rw [List.length_set, zsl_set hc (by simp [zsz])] at h2
            exact h2
          have hfl : f < (fs.map (zcv G)).length := by rw [List.length_map]; exact hcs.2
          have hD : va_D (zAA G) (zww G h9) := zww_D
          split at hB
          · rename_i hfin
            simp only [Bool.and_eq_true, decide_eq_true_eq] at hB
            exact va_putF (D := G.1) (C := C) (T := T) (N := N) hx hb hts (zcl_in hq) (zty ci) (zcl_ty hq).1 (zcl_ty hq).2 hown hK hRel hD hS a (zww_get hc) hq f hfN (hts _ (zfw_g hB.2.2 rfl)) (fun _ h9 => h9) hfin (hini hB.1) hB.2.1 ((zcl_ty hq).1 f hfN) hn1 hn2 hfl hd hwat
          · rename_i hfin
            have hfin : (T f).2.2.2 = false := by simpa using hfin
            simp only [Bool.or_eq_true, decide_eq_true_eq] at hB
            rcases hB with hB | hB
            · exact va_put (D := G.1) (C := C) (T := T) (N := N) hx hb hts (zcl_in hq) (zty ci) (zcl_ty hq).1 (zcl_ty hq).2 hown hK hRel hD hS a (zww_get hc) hq f hfN (hts _ (zfw_g hB rfl)) (fun _ h9 => h9) hfin ((zcl_ty hq).1 f hfN) hn1 hn2 hfl hd hwat
            · exact va_putN (D := G.1) (C := C) (T := T) (N := N) hx hb hts (zcl_in hq) (zty ci) (zcl_ty hq).1 (zcl_ty hq).2 hown hK hRel hD hS a (zww_get hc) hq f hfN (va_Nw.use rfl (hKn.2.1 _ (zfw_in hB) rfl)) (fun _ h9 => h9) hfin ((zcl_ty hq).1 f hfN) hn1 hn2 hfl hd hwat
        · cases hB
      · cases h
    · cases h
  · cases h
end ZH
