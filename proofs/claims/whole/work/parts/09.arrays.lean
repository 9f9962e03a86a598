theorem zasg_self {s : State} {C : String} {cC comp : ClassId} (h : ClassAt s C cC) (h1 : s.vm.findClass C = some comp) : s.vm.assignable comp comp = true := va_asg _ _
theorem zasg_cast {s : State} {C T : String} {comp c0 : ClassId} (h : va_Nw (.castable C T) s) (h1 : s.vm.findClass T = some comp) (h2 : s.vm.findClass C = some c0) : s.vm.assignable c0 comp = true := by
  obtain ⟨c3, t3, w1, w2, w3⟩ := Cond.castable_spec h
  cases w1.symm.trans h2
  cases w2.symm.trans h1
  exact w3
section ZQ
variable {E : zE} {mi : zMi} {h0 : zH} {k : zK} {r : zR} {pc nx : Nat} {lc sk : List Value} {h9 : zH}
theorem zix_in {i : Int32} {n : Nat} (h : zix i n = true) : vp_in i n := by
  simp only [zix, Bool.and_eq_true, Bool.not_eq_true', decide_eq_false_iff_not, decide_eq_true_eq] at h
  intro z
  rcases z with z | z
  · exact h.1 z
  · omega
theorem ztys_0 (cA : Nat → ClassId) : (ztys cA)[0]? = some (cA 0, .int) := rfl
theorem zs_nald {t : Nat} {ins : Instr} (hk : zSK E mi h0 k) (hd : decode mi.2.1 pc = .ok (ins, 1)) (hi : (t = 0 ∧ ins = .iaload) ∨ (t = 1 ∧ ins = .baload)) (hn : pc + 1 = nx) (h : z_nald t nx (pc, lc, sk, h9) k = some r) : zEv E mi h0 (pc, lc, sk, h9) r := by
  subst hn
  unfold z_nald at h
  split at h
  · rename_i i a sk' hsk
    dsimp only at hsk
    subst hsk
    split at h
    · rename_i t' n f hc
      split at h
      · rename_i hcs
        simp only [Bool.and_eq_true, beq_iff_eq] at hcs
        obtain ⟨rfl, hix⟩ := hcs
        refine zEv.of (st' := (pc + 1, lc, .int (f i.toNatClampNeg) :: sk', h9)) (zle.rf _) ?_ (hk _ _ h)
        intro G p l e R s m args below meth c Q h0l hF hR kk H locs ls hRel hS hL
        obtain ⟨hx, hb, hml, hr, hown, hts, hini, hKn, hsz, hscr⟩ := hF
        rcases hi with ⟨rfl, rfl⟩ | ⟨rfl, rfl⟩
        · exact va_iald hx hb hKn.1 hRel a 0 (zww_get hc) rfl (zix_in hix) hd (kk H locs ls hRel hS hL)
        · exact va_zald hx hb hKn.1 hRel a 1 (zww_get hc) rfl (zix_in hix) hd (kk H locs ls hRel hS hL)
      · cases h
    · cases h
  · cases h
theorem zs_sald (hk : zSK E mi h0 k) (hd : decode mi.2.1 pc = .ok (.iaload, 1)) (hlaw : mi.1.cls = "NineDownLaw") (hn : pc + 1 = nx) (h : z_sald E nx (pc, lc, sk, h9) k = some r) : zEv E mi h0 (pc, lc, sk, h9) r := by
  subst hn
  unfold z_sald at h
  split at h
  · rename_i i _ sk' hsk
    dsimp only at hsk
    subst hsk
    split at h
    · rename_i hix
      refine zEv.of (st' := (pc + 1, lc, .int (E.2 i.toNatClampNeg) :: sk', h9)) (zle.rf _) ?_ (hk _ _ h)
      intro G p l e R s m args below meth c Q h0l hF hR kk H locs ls hRel hS hL
      obtain ⟨hx, hb, hml, hr, hown, hts, hini, hKn, hsz, hscr⟩ := hF
      obtain ⟨hX, hbl, hbA⟩ := hscr hlaw
      exact va_sld hx hb hX hbl hbA hS (zix_in hix) hd (kk H locs ls hRel hS hL)
    · cases h
  · cases h
theorem zs_slen (hk : zSK E mi h0 k) (hd : decode mi.2.1 pc = .ok (.arraylength, 1)) (hlaw : mi.1.cls = "NineDownLaw") (hn : pc + 1 = nx) (h : z_slen E nx (pc, lc, sk, h9) k = some r) : zEv E mi h0 (pc, lc, sk, h9) r := by
  subst hn
  unfold z_slen at h
  split at h
  · rename_i _ sk' hsk
    dsimp only at hsk
    subst hsk
    refine zEv.of (st' := (pc + 1, lc, .int (Int32.ofNat E.1) :: sk', h9)) (zle.rf _) ?_ (hk _ _ h)
    intro G p l e R s m args below meth c Q h0l hF hR kk H locs ls hRel hS hL
    obtain ⟨hx, hb, hml, hr, hown, hts, hini, hKn, hsz, hscr⟩ := hF
    obtain ⟨hX, hbl, hbA⟩ := hscr hlaw
    exact va_slen hx hb hX hbl hbA hS hd (kk H locs ls hRel hS hL)
  · cases h
/-- behind a store into a cell -/
theorem zWat_set {G : zG} {p : Program} {l : Launch} {e : Env} {R : Room} {s : State} {m : MethodId} {args : Array Value} {below : List Frame} {meth : Method} {c : Code} {Q : State → Prop} {a : Nat} {c0 : zC} (c1 : zC) {en : va_E} {sk' : List Value} (hc : h9[a]? = some c0) (hz : zsz c1 = zsz c0) (he : zce G c1 = en) (kk : zWat G mi h0 p l e R s m args below meth c Q (nx, lc, sk', h9.set a c1)) {ls : Array Slot} (hL : zLoc G lc ls mi.2.2.1) : ∀ (H1 : Heap) (locs1 : List Loc), va_P G.1 zcl ((zww G h9).set a (G.2.1 + a, en)) H1 → va_D (zAA G) ((zww G h9).set a (G.2.1 + a, en)) → va_S (zAA G) s.heap H1 locs1 → W p l e R s m args below meth c H1 locs1 (h9.length - h0.length) (zsl h9 - zsl h0) Q (F0 m nx ls (sk'.map (zcv G))) := by
  intro H1 locs1 hP1 _ hS1
  have h2 := kk H1 locs1 ls (by
    show va_P _ _ _ _
    rw [← zww_set, he]
    exact hP1) hS1 hL
  dsimp only at h2
  rw [List.length_set, zsl_set hc hz] at h2
  exact h2
theorem zs_nast {t : Nat} {ins : Instr} (hk : zSK E mi h0 k) (hd : decode mi.2.1 pc = .ok (ins, 1)) (hi : (t = 0 ∧ ins = .iastore) ∨ (t = 1 ∧ ins = .bastore)) (hn : pc + 1 = nx) (h : z_nast t nx (pc, lc, sk, h9) k = some r) : zEv E mi h0 (pc, lc, sk, h9) r := by
  subst hn
  unfold z_nast at h
  split at h
  · rename_i x i a sk' hsk
    dsimp only at hsk
    subst hsk
    split at h
    · rename_i t' n f hc
      split at h
      · rename_i hcs
        simp only [Bool.and_eq_true, beq_iff_eq] at hcs
        obtain ⟨⟨rfl, hix⟩, hft⟩ := hcs
        refine zEv.of (st' := (pc + 1, lc, sk', h9.set a (.inr (.inl (t', n, upd f i.toNatClampNeg x))))) (zle_set hc rfl) ?_ (hk _ _ h)
        intro G p l e R s m args below meth c Q h0l hF hR kk H locs ls hRel hS hL
        obtain ⟨hx, hb, hml, hr, hown, hts, hini, hKn, hsz, hscr⟩ := hF
        rcases hi with ⟨rfl, rfl⟩ | ⟨rfl, rfl⟩
        · exact va_iast hx hb hKn.1 hRel zww_D hS a 0 (zww_get hc) rfl (zix_in hix) hd (zWat_set (.inr (.inl (0, n, upd f i.toNatClampNeg x))) hc rfl rfl kk hL)
        · have hxx : vp_nar .boolean x = x := by
            simp only [zfits, Bool.or_eq_true, decide_eq_true_eq] at hft
            rcases hft with rfl | rfl <;> rfl
          exact va_zast hx hb hKn.1 hRel zww_D hS a 1 (zww_get hc) rfl (zix_in hix) hd (zWat_set (.inr (.inl (1, n, upd f i.toNatClampNeg x))) hc rfl (by rw [hxx]; rfl) kk hL)
      · cases h
    · cases h
  · cases h
theorem zcv_rf (G : zG) (o : Option Nat) : zcv G (va_rf o) = va_rf (o.map (fun a => G.2.1 + a)) := by cases o <;> rfl
theorem zs_aald (hk : zSK E mi h0 k) (hd : decode mi.2.1 pc = .ok (.aaload, 1)) (hn : pc + 1 = nx) (h : z_aald nx (pc, lc, sk, h9) k = some r) : zEv E mi h0 (pc, lc, sk, h9) r := by
  subst hn
  unfold z_aald at h
  split at h
  · rename_i i a sk' hsk
    dsimp only at hsk
    subst hsk
    split at h
    · rename_i t n f hc
      split at h
      · rename_i hix
        simp only [zart, Bool.and_eq_true, Bool.or_eq_true, beq_iff_eq] at hix
        obtain ⟨hix, h24⟩ := hix
        refine zEv.of (st' := (pc + 1, lc, va_rf (f i.toNatClampNeg) :: sk', h9)) (zle.rf _) ?_ (hk _ _ h)
        intro G p l e R s m args below meth c Q h0l hF hR kk H locs ls hRel hS hL
        obtain ⟨hx, hb, hml, hr, hown, hts, hini, hKn, hsz, hscr⟩ := hF
        have k2 := kk H locs ls hRel hS hL
        rw [List.map_cons, zcv_rf] at k2
        obtain rfl | rfl | rfl := h24
        · exact va_aldq hx hb hKn.1 hRel a 2 (zww_get hc) rfl (zix_in hix) hd k2
        · exact va_aldq hx hb hKn.1 hRel a 3 (zww_get hc) rfl (zix_in hix) hd k2
        · exact va_aldq hx hb hKn.1 hRel a 4 (zww_get hc) rfl (zix_in hix) hd k2
      · cases h
    · cases h
  · cases h
/-- what may stand in a row of references, by the words -/
theorem zmay_any {G : zG} {s : State} {H : Heap} {h : zH} {t cv v : Nat} {fs : List Value} (hKn : zKn G s) (hP : va_P G.1 zcl (zww G h) H) (hm : zmay t cv = true) (hv : h[v]? = some (.inl (cv, fs))) : ∃ C : String, (ztys G.2.2.2)[t]? = some (G.2.2.2 t, .object C) ∧ va_Any C s H (G.2.1 + v) := by
  have base : ∀ (r : vw_C) (C : String), zcl[cv]? = some r → (∀ comp c0 : ClassId, s.vm.findClass C = some comp → s.vm.findClass r.1 = some c0 → s.vm.assignable c0 comp = true) → va_Any C s H (G.2.1 + v) := fun r C hr hasg => va_rAny hKn.1 hP (zww_get hv) hr hasg
  have refl : ∀ (r : vw_C), zcl[cv]? = some r → va_Any r.1 s H (G.2.1 + v) := by
    intro r hr
    refine base r r.1 hr (fun comp c0 h1 h2 => ?_)
    cases h1.symm.trans h2
    exact zasg_self ((hKn.1.1 cv r hr).2) h1
  have cast : ∀ (r : vw_C), zcl[cv]? = some r → Cond.castable r.1 RX3 ∈ zmw → va_Any RX3 s H (G.2.1 + v) := by
    intro r hr hw
    refine base r RX3 hr (fun comp c0 h1 h2 => ?_)
    exact zasg_cast (hKn.2.1 _ (zmw_in hw) rfl) h1 h2
  unfold zmay at hm
  split at hm
  · simp only [beq_iff_eq] at hm
    subst hm
    exact ⟨RX7, rfl, refl (RX7, TX7, 4) rfl⟩
  · simp only [beq_iff_eq] at hm
    subst hm
    exact ⟨RX10, rfl, refl (RX10, TX10, 18) rfl⟩
  · simp only [Bool.or_eq_true, beq_iff_eq] at hm
    refine ⟨RX3, rfl, ?_⟩
    rcases hm with (((rfl | rfl) | rfl) | rfl) | rfl
    · exact cast (RX1, TX1, 2) rfl (by decide +kernel)
    · exact cast (RX2, TX2, 2) rfl (by decide +kernel)
    · exact cast (RX4, TX4, 2) rfl (by decide +kernel)
    · exact cast (RX5, TX5, 2) rfl (by decide +kernel)
    · exact cast (RX8, TX8, 2) rfl (by decide +kernel)
  · cases hm
theorem zce_up (G : zG) (t n j : Nat) (f : Nat → Option Nat) (o : Option Nat) : zce G (.inr (.inr (t, n, va_up f j o))) = .inl (G.2.2.2 t, n, .inr (.inr (.inr (.inr (va_up (fun j => (f j).map (fun a => G.2.1 + a)) j (o.map (fun a => G.2.1 + a))))))) := by
  have e : (fun i => (va_up f j o i).map (fun a => G.2.1 + a)) = va_up (fun i => (f i).map (fun a => G.2.1 + a)) j (o.map (fun a => G.2.1 + a)) := by
    funext q
    unfold va_up
    split <;> rfl
  simp only [zce, e]
theorem zs_aast (hk : zSK E mi h0 k) (hd : decode mi.2.1 pc = .ok (.aastore, 1)) (hn : pc + 1 = nx) (h : z_aast nx (pc, lc, sk, h9) k = some r) : zEv E mi h0 (pc, lc, sk, h9) r := by
  subst hn
  unfold z_aast at h
  split at h
  · rename_i v i a sk' hsk
    dsimp only at hsk
    subst hsk
    split at h
    · rename_i t n f cv fs hc hv
      split at h
      · rename_i hix
        simp only [Bool.and_eq_true] at hix
        refine zEv.of (st' := (pc + 1, lc, sk', h9.set a (.inr (.inr (t, n, va_up f i.toNatClampNeg (some v)))))) (zle_set hc rfl) ?_ (hk _ _ h)
        intro G p l e R s m args below meth c Q h0l hF hR kk H locs ls hRel hS hL
        obtain ⟨hx, hb, hml, hr, hown, hts, hini, hKn, hsz, hscr⟩ := hF
        obtain ⟨C, ht, hany⟩ := zmay_any hKn hRel hix.2 hv
        exact va_astqM hx hb hKn.1 hRel zww_D hS a t (zww_get hc) ht hany (zix_in hix.1) hd (zWat_set (.inr (.inr (t, n, va_up f i.toNatClampNeg (some v)))) hc rfl (zce_up G t n _ f (some v)) kk hL)
      · cases h
    · cases h
  · rename_i i a sk' hsk
    dsimp only at hsk
    subst hsk
    split at h
    · rename_i t n f hc
      split at h
      · rename_i hix
        simp only [zart, Bool.and_eq_true, Bool.or_eq_true, beq_iff_eq] at hix
        obtain ⟨hix, h24⟩ := hix
        refine zEv.of (st' := (pc + 1, lc, sk', h9.set a (.inr (.inr (t, n, va_up f i.toNatClampNeg none))))) (zle_set hc rfl) ?_ (hk _ _ h)
        intro G p l e R s m args below meth c Q h0l hF hR kk H locs ls hRel hS hL
        obtain ⟨hx, hb, hml, hr, hown, hts, hini, hKn, hsz, hscr⟩ := hF
        obtain rfl | rfl | rfl := h24
        · exact va_astqN hx hb hKn.1 hRel zww_D hS a 2 (zww_get hc) rfl (zix_in hix) hd (zWat_set (.inr (.inr (2, n, va_up f i.toNatClampNeg none))) hc rfl (zce_up G 2 n _ f none) kk hL)
        · exact va_astqN hx hb hKn.1 hRel zww_D hS a 3 (zww_get hc) rfl (zix_in hix) hd (zWat_set (.inr (.inr (3, n, va_up f i.toNatClampNeg none))) hc rfl (zce_up G 3 n _ f none) kk hL)
        · exact va_astqN hx hb hKn.1 hRel zww_D hS a 4 (zww_get hc) rfl (zix_in hix) hd (zWat_set (.inr (.inr (4, n, va_up f i.toNatClampNeg none))) hc rfl (zce_up G 4 n _ f none) kk hL)
      · cases h
    · cases h
  · cases h
end ZQ
