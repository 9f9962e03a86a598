section ZN
variable {E : zE} {mi : zMi} {h0 : zH} {k : zK} {r : zR} {pc nx : Nat} {lc sk : List Value} {h9 : zH}
theorem zRA_eq {U : State} {c1 c2 : ClassId} {ty : FieldType} (h1 : va_RA U c1 ty) (h2 : va_RA U c2 ty) : c1 = c2 := by
  cases ty with
  | object C =>
    obtain ⟨_, _, -, -, -, g1⟩ := h1
    obtain ⟨_, _, -, -, -, g2⟩ := h2
    exact Option.some.inj (g1.symm.trans g2)
  | _ => exact Option.some.inj (h1.symm.trans h2)
theorem zK_new {D : va_G} {cl : List vw_C} {tys : List (ClassId × FieldType)} {U : State} {c1 c2 : ClassId} {ty : FieldType} {t : Nat} (h : va_K D cl (tys ++ [(c1, ty)]) U) (ht : tys[t]? = some (c2, ty)) : c1 = c2 := by
  have h1 := (h.2 tys.length (c1, ty) (by simp)).2
  have h2 := (h.2 t (c2, ty) (by rw [List.getElem?_append_left (List.getElem?_eq_some_iff.mp ht).1]; exact ht)).2
  exact zRA_eq h1 h2
theorem zWat_app {G : zG} {p : Program} {l : Launch} {e : Env} {R : Room} {s : State} {m : MethodId} {args : Array Value} {below : List Frame} {meth : Method} {c : Code} {Q : State → Prop} (c1 : zC) {en : va_E} {sk' : List Value} {n : Nat} (hsz : s.heap.size = G.2.1 + h0.length) (h0l : zle h0 h9) (he : zce G c1 = en) (hn : zsz c1 = n) (kk : zWat G mi h0 p l e R s m args below meth c Q (nx, lc, .ref h9.length :: sk', h9 ++ [c1])) {ls : Array Slot} (hL : zLoc G lc ls mi.2.2.1) : ∀ (q : Nat) (H1 : Heap) (locs : List Loc), va_P G.1 zcl (zww G h9 ++ [(q, en)]) H1 → va_D (zAA G) (zww G h9 ++ [(q, en)]) → va_S (zAA G) s.heap H1 locs → W p l e R s m args below meth c H1 locs (h9.length - h0.length + 1) (zsl h9 - zsl h0 + n) Q (F0 m nx ls (.ref q :: sk'.map (zcv G))) := by
  intro q H1 locs hP1 hD1 hS1
  refine zW_new hsz h0l.1 rfl hP1 hD1 (fun hq => ?_)
  subst hq
  subst he
  have h2 := kk H1 locs ls (by
    show va_P _ _ _ _
    dsimp only
    rw [zww_app]
    exact hP1) hS1 hL
  dsimp only at h2
  rw [zsl_app, List.length_append, hn] at h2
  have e1 : h9.length + [c1].length - h0.length = h9.length - h0.length + 1 := by
    have := h0l.1
    simp only [List.length_singleton]
    omega
  have e2 : zsl h9 + n - zsl h0 = zsl h9 - zsl h0 + n := by
    have := h0l.2
    omega
  rw [e1, e2] at h2
  exact h2
theorem zroom_app {h1 : zH} {c1 : zC} {n : Nat} {R : Room} {fr lo : Nat} (h0l : zle h0 h1) (hn : zsz c1 = n) (hR : zRm R fr lo h0 (h1 ++ [c1])) : h1.length - h0.length + 1 ≤ R.cells ∧ zsl h1 - zsl h0 + n ≤ R.slots := by
  obtain ⟨-, -, h2, h3⟩ := hR
  rw [List.length_append, List.length_singleton] at h2
  rw [zsl_app, hn] at h3
  have := h0l.1
  have := h0l.2
  omega
theorem zhA {G : zG} {s : State} (hsz : s.heap.size = G.2.1 + h0.length) : ∀ q, s.heap.size ≤ q → zAA G q := fun q h => by show G.2.1 ≤ q; omega
theorem zs_newa {t : Nat} {at' : ArrayType} (hk : zSK E mi h0 k) (hd : decode mi.2.1 pc = .ok (.newarray at', 2)) (ht : (t = 0 ∧ at' = .int) ∨ (t = 1 ∧ at' = .boolean)) (hw : Cond.arrayClass (newarray.typeOf at') ∈ zmw) (hn : pc + 2 = nx) (h : z_newa t nx (pc, lc, sk, h9) k = some r) : zEv E mi h0 (pc, lc, sk, h9) r := by
  subst hn
  unfold z_newa at h
  split at h
  · rename_i n sk' hsk
    dsimp only at hsk
    subst hsk
    split at h
    · rename_i hix
      have hix' : ¬ n < 0 ∧ n.toNatClampNeg < 65536 := by simpa [zix] using hix
      refine zEv.of (st' := (pc + 2, lc, .ref h9.length :: sk', h9 ++ [.inr (.inl (t, n.toNatClampNeg, fun _ => 0))])) (zle_app _ _) ?_ (hk _ _ h)
      intro G p l e R s m args below meth c Q h0l hF hR kk H locs ls hRel hS hL
      obtain ⟨hx, hb, hml, hr, hown, hts, hini, hKn, hsz, hscr⟩ := hF
      obtain ⟨hc1, hc2⟩ := zroom_app h0l rfl hR
      have hg : Cond.arrayClass (newarray.typeOf at') ∈ zgw := zmw_g hw rfl
      rcases ht with ⟨rfl, rfl⟩ | ⟨rfl, rfl⟩
      · refine va_newa (a0 := (n.toNatClampNeg, .inl (fun _ => 0))) hx hb (hts _ hg) rfl hKn.1 hRel zww_D hS (zhA hsz) (fun cA => rfl) hix'.1 rfl (by show n.toNatClampNeg * 4 ≤ _; omega) hc1 hc2 hd (fun q cA H1 hK1 hP1 hD1 hS1 => ?_)
        have hcA : cA = G.2.2.2 0 := zK_new (t := 0) hK1 rfl
        subst hcA
        exact zWat_app (.inr (.inl (0, n.toNatClampNeg, fun _ => 0))) hsz h0l rfl rfl kk hL q H1 locs hP1 hD1 hS1
      · refine va_newa (a0 := (n.toNatClampNeg, .inl (fun _ => 0))) hx hb (hts _ hg) rfl hKn.1 hRel zww_D hS (zhA hsz) (fun cA => rfl) hix'.1 rfl (by show n.toNatClampNeg * 1 ≤ _; omega) hc1 hc2 hd (fun q cA H1 hK1 hP1 hD1 hS1 => ?_)
        have hcA : cA = G.2.2.2 1 := zK_new (t := 1) hK1 rfl
        subst hcA
        exact zWat_app (.inr (.inl (1, n.toNatClampNeg, fun _ => 0))) hsz h0l rfl rfl kk hL q H1 locs hP1 hD1 hS1
    · cases h
  · cases h
def zartC (t : Nat) : String := match t with
  | 2 => RX7
  | 3 => RX10
  | _ => RX3
theorem zs_newr {t ix : Nat} (hk : zSK E mi h0 k) (hd : decode mi.2.1 pc = .ok (.anewarray ix, 3)) (ht : zart t = true) (hw : Cond.classLink mi.1.cls ix (zartC t) ∈ zmw) (hw2 : Cond.arrayOver (.object (zartC t)) ∈ zmw) (hn : pc + 3 = nx) (h : z_newr t nx (pc, lc, sk, h9) k = some r) : zEv E mi h0 (pc, lc, sk, h9) r := by
  subst hn
  unfold z_newr at h
  split at h
  · rename_i n sk' hsk
    dsimp only at hsk
    subst hsk
    split at h
    · rename_i hix
      have hix' : ¬ n < 0 ∧ n.toNatClampNeg < 65536 := by simpa [zix] using hix
      refine zEv.of (st' := (pc + 3, lc, .ref h9.length :: sk', h9 ++ [.inr (.inr (t, n.toNatClampNeg, fun _ => none))])) (zle_app _ _) ?_ (hk _ _ h)
      intro G p l e R s m args below meth c Q h0l hF hR kk H locs ls hRel hS hL
      obtain ⟨hx, hb, hml, hr, hown, hts, hini, hKn, hsz, hscr⟩ := hF
      obtain ⟨hc1, hc2⟩ := zroom_app h0l rfl hR
      have hao : va_AO (zartC t) s := hKn.2.1 _ (zmw_in hw2) rfl
      have htt : (ztys G.2.2.2)[t]? = some (G.2.2.2 t, .object (zartC t)) := by
        simp only [zart, Bool.or_eq_true, beq_iff_eq] at ht
        rcases ht with rfl | rfl | rfl <;> rfl
      refine va_newq hx hb hown (hts _ (zmw_g hw rfl)) hao hKn.1 hRel zww_D hS (zhA hsz) hix'.1 rfl (by omega) hc1 hc2 hd (fun q cA H1 hK1 hP1 hD1 hS1 => ?_)
      have hcA : cA = G.2.2.2 t := zK_new (t := t) hK1 htt
      subst hcA
      exact zWat_app (.inr (.inr (t, n.toNatClampNeg, fun _ => none))) hsz h0l rfl rfl kk hL q H1 locs hP1 hD1 hS1
    · cases h
  · cases h
/-- a class that is made: its words, and its fields at first -/
def znewB (own : String) (ix c : Nat) : Bool := match zcl[c]? with
  | some q => decide (Cond.classLink own ix q.1 ∈ zmw) && (decide (Cond.instantiable q.1 q.2.2 ∈ zmw) && (decide (Cond.initialized q.1 ∈ zmw) && (decide ((zborn c).length = q.2.2) && (List.range q.2.2).all (fun j => decide (defaultValue (zty c j) = (zborn c).getD j .null)))))
  | none => false
theorem zborn_cv (G : zG) (c : Nat) : (zborn c).map (zcv G) = zborn c := by
  unfold zborn
  split <;> rfl
theorem zs_new {ci ix : Nat} (hk : zSK E mi h0 k) (hd : decode mi.2.1 pc = .ok (.new ix, 3)) (hok : znewB mi.1.cls ix ci = true) (hn : pc + 3 = nx) (h : z_new ci nx (pc, lc, sk, h9) k = some r) : zEv E mi h0 (pc, lc, sk, h9) r := by
  subst hn
  unfold z_new at h
  dsimp only at h
  refine zEv.of (st' := (pc + 3, lc, .ref h9.length :: sk, h9 ++ [.inl (ci, zborn ci)])) (zle_app _ (.inl (ci, zborn ci))) ?_ (hk _ _ h)
  intro G p l e R s m args below meth c Q h0l hF hR kk H locs ls hRel hS hL
  obtain ⟨hx, hb, hml, hr, hown, hts, hini, hKn, hsz, hscr⟩ := hF
  unfold znewB at hok
  split at hok
  · rename_i q hq
    obtain ⟨C, T, N⟩ := q
    simp only [Bool.and_eq_true, decide_eq_true_eq] at hok
    obtain ⟨h1, h2, h3, h4, h5⟩ := hok
    obtain ⟨hc1, hc2⟩ := zroom_app h0l (show zsz (.inl (ci, zborn ci)) = N from h4) hR
    refine va_new (ci := ci) (fs := zborn ci) (C := C) (T := T) (N := N) hx hb hts (zcl_in hq) (zty ci) (zcl_ty hq).1 hown (hts _ (zmw_g h1 rfl)) (hts _ (zmw_g h2 rfl)) (hts _ (zmw_g h3 rfl)) hKn.1 hRel zww_D hS (zhA hsz) hq (fun j hj => ?_) hc1 hc2 hd (fun q H1 hP1 hD1 hS1 => ?_)
    · have h6 := List.all_eq_true.mp h5 j (List.mem_range.mpr hj)
      exact of_decide_eq_true h6
    · exact zWat_app (.inl (ci, zborn ci)) hsz h0l (by simp only [zce, zborn_cv]) h4 kk hL q H1 locs hP1 hD1 hS1
  · cases hok
/-- a class test by the words: yes, itself or castable; no -/
def ziyB (own : String) (ix : Nat) (nm : String) (c : Nat) : Bool := match zcl[c]? with
  | some q => decide (Cond.classLink own ix nm ∈ zmw) && (decide (q.1 = nm) || decide (Cond.castable q.1 nm ∈ zmw))
  | none => false
def zinB (own : String) (ix : Nat) (nm : String) (c : Nat) : Bool := match zcl[c]? with
  | some q => decide (Cond.classLink own ix nm ∈ zmw) && decide ((q.1, nm) ∈ znc)
  | none => false
theorem zs_inst {ix : Nat} {nm : String} {yes no : List Nat} (hk : zSK E mi h0 k) (hd : decode mi.2.1 pc = .ok (.instanceof ix, 3)) (hy : yes.all (ziyB mi.1.cls ix nm) = true) (hno : no.all (zinB mi.1.cls ix nm) = true) (hn : pc + 3 = nx) (h : z_inst yes no nx (pc, lc, sk, h9) k = some r) : zEv E mi h0 (pc, lc, sk, h9) r := by
  subst hn
  unfold z_inst at h
  split at h
  · rename_i a sk' hsk
    dsimp only at hsk
    subst hsk
    split at h
    · rename_i ci fs hc
      split at h
      · rename_i hcs
        refine zEv.of (st' := (pc + 3, lc, .int 1 :: sk', h9)) (zle.rf _) ?_ (hk _ _ h)
        intro G p l e R s m args below meth c Q h0l hF hR kk H locs ls hRel hS hL
        obtain ⟨hx, hb, hml, hr, hown, hts, hini, hKn, hsz, hscr⟩ := hF
        have hB := List.all_eq_true.mp hy ci (by simpa using hcs)
        unfold ziyB at hB
        split at hB
        · rename_i q hq
          simp only [Bool.and_eq_true, Bool.or_eq_true, decide_eq_true_eq] at hB
          obtain ⟨h1, h2⟩ := hB
          have hrec := va_recv hKn.1 hRel hq (zww_get hc)
          rcases h2 with h2 | h2
          · subst h2
            exact va_instS hx hb hown (hts _ (zmw_g h1 rfl)) (hKn.1.1 ci q hq).2 hrec hd (kk H locs ls hRel hS hL)
          · exact va_instY hx hb hown (hts _ (zmw_g h1 rfl)) (hKn.2.1 _ (zmw_in h2) rfl) hrec hd (kk H locs ls hRel hS hL)
        · cases hB
      · split at h
        · rename_i hcs
          refine zEv.of (st' := (pc + 3, lc, .int 0 :: sk', h9)) (zle.rf _) ?_ (hk _ _ h)
          intro G p l e R s m args below meth c Q h0l hF hR kk H locs ls hRel hS hL
          obtain ⟨hx, hb, hml, hr, hown, hts, hini, hKn, hsz, hscr⟩ := hF
          have hB := List.all_eq_true.mp hno ci (by simpa using hcs)
          unfold zinB at hB
          split at hB
          · rename_i q hq
            simp only [Bool.and_eq_true, decide_eq_true_eq] at hB
            obtain ⟨h1, h2⟩ := hB
            exact va_instNo hx hb hown (hts _ (zmw_g h1 rfl)) (hKn.2.2 _ h2) (va_recv hKn.1 hRel hq (zww_get hc)) hd (kk H locs ls hRel hS hL)
          · cases hB
        · cases h
    · cases h
  · cases h
theorem zs_obj {ix : Nat} (hk : zSK E mi h0 k) (hd : decode mi.2.1 pc = .ok (.invokespecial ix, 3)) (hw1 : Cond.methodLink mi.1.cls ix objectInit ∈ zmw) (hw2 : Cond.instanceMethod objectInit ∈ zmw) (hw3 : Cond.code objectInit ⟨#[0xb1]⟩ 1 none ∈ zgw) (hfr : 1 ≤ mi.2.2.2.2.1) (hlo : 20 ≤ mi.2.2.2.2.2) (hn : pc + 3 = nx) (h : z_obj nx (pc, lc, sk, h9) k = some r) : zEv E mi h0 (pc, lc, sk, h9) r := by
  subst hn
  unfold z_obj at h
  split at h
  · rename_i a sk' hsk
    dsimp only at hsk
    subst hsk
    split at h
    · rename_i hlow
      refine zEv.of (st' := (pc + 3, lc, sk', h9)) (zle.rf _) ?_ (hk _ _ h)
      intro G p l e R s m args below meth c Q h0l hF hR kk H locs ls hRel hS hL
      obtain ⟨hx, hb, hml, hr, hown, hts, hini, hKn, hsz, hscr⟩ := hF
      have hs8 : ((sk'.map (zcv G)).map fun v => v.category).sum ≤ 8 := by
        rw [List.map_map, show ((fun v : Value => v.category) ∘ zcv G) = (fun v => v.category) from funext (zcv_cat G)]
        simpa [zlow] using hlow
      have h8 := lv_room (m := m) (pc := pc) (ls := ls) (rest := ((.ref a :: sk').map (zcv G))) hs8
      have := hR.1
      have := hR.2.1
      exact W.objInit hx hb hown (hts _ (zmw_g hw1 rfl)) (hts _ (zmw_g hw2 rfl)) (hts _ hw3) rfl (by rw [hml]; exact hL.1) rfl hd (by omega) (by
        have h9 : 2 * (F0 m pc ls ((.ref a :: sk').map (zcv G))).monitorRoom + (((sk'.map (zcv G)).map fun v => v.category).sum) ≤ 8 := h8
        show 2 * (F0 m pc ls ((.ref a :: sk').map (zcv G))).monitorRoom + (((sk'.map (zcv G)).map fun v => v.category).sum) + 12 ≤ R.locals
        omega) (kk H locs ls hRel hS hL)
    · cases h
  · cases h
theorem zs_copy {ix : Nat} (hk : zSK E mi h0 k) (hd : decode mi.2.1 pc = .ok (.invokestatic ix, 3)) (hw1 : Cond.methodLink mi.1.cls ix arraycopyName ∈ zmw) (hw2 : Cond.native arraycopyName ∈ zmw) (hw3 : Cond.static arraycopyName ∈ zmw) (hw4 : Cond.initialized "java/lang/System" ∈ zmw) (hfr : 1 ≤ mi.2.2.2.2.1) (hlo : 26 ≤ mi.2.2.2.2.2) (hn : pc + 3 = nx) (h : z_copy nx (pc, lc, sk, h9) k = some r) : zEv E mi h0 (pc, lc, sk, h9) r := by
  subst hn
  unfold z_copy at h
  split at h
  · rename_i n dp b sp a sk' hsk
    dsimp only at hsk
    subst hsk
    split at h
    · rename_i n0 f n1 g ha hb'
      split at h
      · cases h
      · rename_i hcs
        simp only [not_or, Bool.not_eq_false] at hcs
        obtain ⟨c1, c2, c3, c4, c5, c6⟩ := hcs
        refine zEv.of (st' := (pc + 3, lc, sk', h9.set b (.inr (.inl (0, n1, va_cpy f g sp.toNatClampNeg dp.toNatClampNeg n.toNatClampNeg))))) (zle_set hb' rfl) ?_ (hk _ _ h)
        intro G p l e R s m args below meth c Q h0l hF hR kk H locs ls hRel hS hL
        obtain ⟨hx, hb, hml, hr, hown, hts, hini, hKn, hsz, hscr⟩ := hF
        have hs8 : ((sk'.map (zcv G)).map fun v => v.category).sum ≤ 8 := by
          rw [List.map_map, show ((fun v : Value => v.category) ∘ zcv G) = (fun v => v.category) from funext (zcv_cat G)]
          simpa [zlow] using c6
        have := hR.1
        have := hR.2.1
        exact va_copyi (ty := .int) hx hb (hml.trans hL.1.symm) hown (hts _ (zmw_g hw1 rfl)) (hts _ (zmw_g hw2 rfl)) (hts _ (zmw_g hw3 rfl)) (hts _ (zmw_g hw4 rfl)) hKn.1 hRel zww_D hS a b 0 0 (zww_get ha) (zww_get hb') rfl rfl rfl c3 c2 c1 (Nat.le_of_not_lt c4) (Nat.le_of_not_lt c5) (fun i _ => rfl) (by omega) (by
          show ((sk'.map (zcv G)).map fun v => v.category).sum + (5 + 2 + 11) ≤ R.locals
          omega) hd (zWat_set (.inr (.inl (0, n1, va_cpy f g sp.toNatClampNeg dp.toNatClampNeg n.toNatClampNeg))) hb' rfl rfl kk hL)
    · cases h
  · cases h
theorem zs_mx {ix : Nat} (hk : zSK E mi h0 k) (hd : decode mi.2.1 pc = .ok (.invokestatic ix, 3)) (hw1 : Cond.methodLink mi.1.cls ix Lib.Math.max.name ∈ zmw) (hw2 : Cond.static Lib.Math.max.name ∈ zmw) (hw3 : Cond.initialized "java/lang/Math" ∈ zmw) (hw4 : Cond.code Lib.Math.max.name Lib.Math.max.code 2 (some .int) ∈ zgw) (hfr : 1 ≤ mi.2.2.2.2.1) (hlo : 21 ≤ mi.2.2.2.2.2) (hn : pc + 3 = nx) (h : z_mm true nx (pc, lc, sk, h9) k = some r) : zEv E mi h0 (pc, lc, sk, h9) r := by
  subst hn
  unfold z_mm at h
  split at h
  · rename_i y x sk' hsk
    dsimp only at hsk
    subst hsk
    split at h
    · rename_i hlow
      simp only [if_true] at h
      refine zEv.of (st' := (pc + 3, lc, .int (if x < y then y else x) :: sk', h9)) (zle.rf _) ?_ (hk _ _ h)
      intro G p l e R s m args below meth c Q h0l hF hR kk H locs ls hRel hS hL
      obtain ⟨hx, hb, hml, hr, hown, hts, hini, hKn, hsz, hscr⟩ := hF
      have hs8 : ((sk'.map (zcv G)).map fun v => v.category).sum ≤ 8 := by
        rw [List.map_map, show ((fun v : Value => v.category) ∘ zcv G) = (fun v => v.category) from funext (zcv_cat G)]
        simpa [zlow] using hlow
      have := hR.1
      have := hR.2.1
      exact va_mmax hx hb (hml.trans hL.1.symm) hown (hts _ (zmw_g hw1 rfl)) (hts _ (zmw_g hw2 rfl)) (hts _ (zmw_g hw3 rfl)) (hts _ hw4) (by omega) (by omega) hR.2.2.1 hR.2.2.2 hd (kk H locs ls hRel hS hL)
    · cases h
  · cases h
theorem zs_mn {ix : Nat} (hk : zSK E mi h0 k) (hd : decode mi.2.1 pc = .ok (.invokestatic ix, 3)) (hw1 : Cond.methodLink mi.1.cls ix Lib.Math.min.name ∈ zmw) (hw2 : Cond.static Lib.Math.min.name ∈ zmw) (hw3 : Cond.initialized "java/lang/Math" ∈ zmw) (hw4 : Cond.code Lib.Math.min.name Lib.Math.min.code 2 (some .int) ∈ zgw) (hfr : 1 ≤ mi.2.2.2.2.1) (hlo : 21 ≤ mi.2.2.2.2.2) (hn : pc + 3 = nx) (h : z_mm false nx (pc, lc, sk, h9) k = some r) : zEv E mi h0 (pc, lc, sk, h9) r := by
  subst hn
  unfold z_mm at h
  split at h
  · rename_i y x sk' hsk
    dsimp only at hsk
    subst hsk
    split at h
    · rename_i hlow
      simp only [Bool.false_eq_true, if_false] at h
      refine zEv.of (st' := (pc + 3, lc, .int (if y < x then y else x) :: sk', h9)) (zle.rf _) ?_ (hk _ _ h)
      intro G p l e R s m args below meth c Q h0l hF hR kk H locs ls hRel hS hL
      obtain ⟨hx, hb, hml, hr, hown, hts, hini, hKn, hsz, hscr⟩ := hF
      have hs8 : ((sk'.map (zcv G)).map fun v => v.category).sum ≤ 8 := by
        rw [List.map_map, show ((fun v : Value => v.category) ∘ zcv G) = (fun v => v.category) from funext (zcv_cat G)]
        simpa [zlow] using hlow
      have := hR.1
      have := hR.2.1
      exact va_mmin hx hb (hml.trans hL.1.symm) hown (hts _ (zmw_g hw1 rfl)) (hts _ (zmw_g hw2 rfl)) (hts _ (zmw_g hw3 rfl)) (hts _ hw4) (by omega) (by omega) hR.2.2.1 hR.2.2.2 hd (kk H locs ls hRel hS hL)
    · cases h
  · cases h
/-! switches -/
theorem zsw_get {x : Int32} {d : Nat} {k : Nat → Option zR} : ∀ {qs : List (Int × Nat)} {r : zR}, zsw x d k qs = some r → (∃ (j : Nat) (q : Int × Nat), qs[j]? = some q ∧ x = Int32.ofInt q.1 ∧ k q.2 = some r) ∨ ((∀ q ∈ qs, ¬ x = Int32.ofInt q.1) ∧ k d = some r)
  | [], r, h => Or.inr ⟨fun _ h => absurd h List.not_mem_nil, h⟩
  | q :: qs, r, h => by
    unfold zsw at h
    split at h
    · rename_i hx
      exact Or.inl ⟨0, q, rfl, hx, h⟩
    · rename_i hx
      rcases zsw_get h with ⟨j, q', h1, h2, h3⟩ | ⟨h1, h2⟩
      · exact Or.inl ⟨j + 1, q', h1, h2, h3⟩
      · exact Or.inr ⟨fun q' hq => by
          rcases List.mem_cons.mp hq with rfl | hq
          · exact hx
          · exact h1 q' hq, h2⟩
theorem zs_tsw {dflt lo hi : Int} {offs : Array Int} {len d : Nat} {ts : List Nat} (hk : zSK E mi h0 k) (hd : decode mi.2.1 pc = .ok (.tableswitch dflt lo hi offs, len)) (hdf : (pc : Int) + dflt = (d : Int)) (hlo : 0 ≤ lo) (hhi : hi = lo + ts.length - 1) (hsm : hi < 2147483648) (hts' : offs.toList = ts.map (fun (t : Nat) => (t : Int) - (pc : Int))) (h : z_sw d (ts.mapIdx (fun j t => (lo + j, t))) (pc, lc, sk, h9) k = some r) : zEv E mi h0 (pc, lc, sk, h9) r := by
  unfold z_sw at h
  split at h
  · rename_i x sk' hsk
    dsimp only at hsk
    subst hsk
    have toI : ∀ z : Int, 0 ≤ z → z < 2147483648 → (Int32.ofInt z).toInt = z := fun z h1 h2 => Int32.toInt_ofInt_of_le (by omega) (by omega)
    rcases zsw_get h with ⟨j, q, hj, hxq, hr⟩ | ⟨hno, hr⟩
    · rw [List.getElem?_mapIdx] at hj
      cases htj : ts[j]? with
      | none => rw [htj] at hj; cases hj
      | some t =>
        rw [htj] at hj
        cases hj
        have hjl := (List.getElem?_eq_some_iff.mp htj).1
        dsimp only at hxq hr
        refine zEv.of (st' := (t, lc, sk', h9)) (zle.rf _) ?_ (hk _ _ hr)
        intro G p l e R s m args below meth c Q h0l hF hR kk H locs ls hRel hS hL
        obtain ⟨hx, hb, -⟩ := hF
        have hxi : x.toInt = lo + j := by rw [hxq]; exact toI _ (by omega) (by omega)
        refine lv_tableIn (off := (t : Int) - (pc : Int)) (tgt := t) hx hb hd (by omega) (by omega) ?_ (by omega) (kk H locs ls hRel hS hL)
        rw [show (x.toInt - lo).toNat = j by omega, ← Array.getElem?_toList, hts', List.getElem?_map, htj]
        rfl
    · refine zEv.of (st' := (d, lc, sk', h9)) (zle.rf _) ?_ (hk _ _ hr)
      intro G p l e R s m args below meth c Q h0l hF hR kk H locs ls hRel hS hL
      obtain ⟨hx, hb, -⟩ := hF
      refine lv_tableOut hx hb hd ?_ hdf (kk H locs ls hRel hS hL)
      by_cases h1 : x.toInt < lo
      · exact Or.inl h1
      · right
        by_cases h2 : hi < x.toInt
        · exact h2
        · exfalso
          have hjl : (x.toInt - lo).toNat < ts.length := by omega
          refine hno (lo + ((x.toInt - lo).toNat : Int), ts[(x.toInt - lo).toNat]) (List.mem_of_getElem? (i := (x.toInt - lo).toNat) ?_) ?_
          · rw [List.getElem?_mapIdx, List.getElem?_eq_getElem hjl]; rfl
          · dsimp only
            rw [show lo + ((x.toInt - lo).toNat : Int) = x.toInt by omega]
            exact (Int32.ofInt_toInt x).symm
  · cases h
/-! returns -/
theorem zEv.end' {v : Option Value} (hz : zisr mi.2.1 mi.2.2.2.1 pc v) : zEv E mi h0 (pc, lc, v.toList, h9) (v, h9) := by
  refine ⟨zle.rf _, fun h0l G p l e R s m args below meth c Q hF hR hQ H locs ls hRel hS hL => ?_⟩
  exact hQ pc hz H locs ls hRel hS
theorem zs_ret (hd : decode mi.2.1 pc = .ok (.ireturn, 1)) (ht : mi.2.2.2.1 = some .int) (h : z_ret (pc, lc, sk, h9) = some r) : zEv E mi h0 (pc, lc, sk, h9) r := by
  unfold z_ret at h
  split at h
  · rename_i x hsk
    dsimp only at hsk
    subst hsk
    cases h
    exact zEv.end' (v := some (.int x)) (Or.inl ⟨hd, ht, x, rfl⟩)
  · cases h
theorem zs_retz (hd : decode mi.2.1 pc = .ok (.ireturn, 1)) (ht : mi.2.2.2.1 = some .boolean) (h : z_retz (pc, lc, sk, h9) = some r) : zEv E mi h0 (pc, lc, sk, h9) r := by
  unfold z_retz at h
  split at h
  · rename_i x hsk
    dsimp only at hsk
    subst hsk
    split at h
    · rename_i hx
      subst hx
      cases h
      exact zEv.end' (v := some (.int 0)) (Or.inr (Or.inl ⟨hd, ht, 0, rfl, Or.inl rfl⟩))
    · split at h
      · rename_i hx
        subst hx
        cases h
        exact zEv.end' (v := some (.int 1)) (Or.inr (Or.inl ⟨hd, ht, 1, rfl, Or.inr rfl⟩))
      · cases h
  · cases h
theorem zs_retl (hd : decode mi.2.1 pc = .ok (.lreturn, 1)) (ht : mi.2.2.2.1 = some .long) (h : z_retl (pc, lc, sk, h9) = some r) : zEv E mi h0 (pc, lc, sk, h9) r := by
  unfold z_retl at h
  split at h
  · rename_i x hsk
    dsimp only at hsk
    subst hsk
    cases h
    exact zEv.end' (v := some (.long x)) (Or.inr (Or.inr (Or.inl ⟨hd, ht, x, rfl⟩)))
  · cases h
theorem zs_reta (hd : decode mi.2.1 pc = .ok (.areturn, 1)) (ht : ∃ n, mi.2.2.2.1 = some (.object n)) (h : z_reta (pc, lc, sk, h9) = some r) : zEv E mi h0 (pc, lc, sk, h9) r := by
  unfold z_reta at h
  split at h
  · rename_i x hsk
    dsimp only at hsk
    subst hsk
    cases h
    exact zEv.end' (v := some (.ref x)) (Or.inr (Or.inr (Or.inr (Or.inl ⟨hd, ht, Or.inr ⟨x, rfl⟩⟩))))
  · rename_i hsk
    dsimp only at hsk
    subst hsk
    cases h
    exact zEv.end' (v := some .null) (Or.inr (Or.inr (Or.inr (Or.inl ⟨hd, ht, Or.inl rfl⟩))))
  · cases h
theorem zs_retv (hd : decode mi.2.1 pc = .ok (.return_, 1)) (ht : mi.2.2.2.1 = none) (h : z_retv (pc, lc, sk, h9) = some r) : zEv E mi h0 (pc, lc, sk, h9) r := by
  unfold z_retv at h
  split at h
  · rename_i hsk
    dsimp only at hsk
    subst hsk
    cases h
    exact zEv.end' (v := none) (Or.inr (Or.inr (Or.inr (Or.inr ⟨hd, ht, rfl⟩))))
  · cases h
end ZN
