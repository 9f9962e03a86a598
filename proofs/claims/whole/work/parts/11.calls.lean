/-! CALLS -/
abbrev zws (mi : zMi) : List Cond := Cond.code mi.1 mi.2.1 mi.2.2.1 mi.2.2.2.1 :: zgw
def zPc (G : zG) (as : List Value) (h : zH) : Array Value → State → Prop := va_Pc (as.map (zcv G)) (fun U => U.heap.size = G.2.1 + h.length ∧ zRel G h U.heap ∧ zKn G U)
def zQc (G : zG) (r : zR) : Array Value → State → Outcome → State → Prop := fun _ st oc t => (oc = .returned (r.1.map (zcv G)) ∧ zRel G r.2 t.heap) ∧ va_F (zAA G) st t
abbrev zrm (mi : zMi) (h h' : zH) : Room := { frames := mi.2.2.2.2.1, cells := h'.length - h.length, slots := zsl h' - zsl h, locals := mi.2.2.2.2.2 }
def zOK (mi : zMi) (as : List Value) (h : zH) (r : zR) : Prop := zle h r.2 ∧ ∀ (l : Launch) (G : zG), Met l mi.1 (zws mi) (zrm mi h r.2) (zPc G as h) (zQc G r) (r.2.length - h.length) (zsl r.2 - zsl h) (zAA G)
theorem zlay_sl (G : zG) : ∀ (as : List Value), (lg_sl (as.map (zcv G))).length = (zlay as).length ∧ ∀ (i : Nat) (v : Value), (zlay as)[i]? = some v → v ≠ .retAddr 0 → (lg_sl (as.map (zcv G)))[i]? = some (.val (zcv G v))
  | [] => ⟨rfl, fun i v h => by simp [zlay] at h⟩
  | a :: as => by
    obtain ⟨h1, h2⟩ := zlay_sl G as
    have one : a.category = 1 → zlay (a :: as) = a :: zlay as → (lg_sl ((a :: as).map (zcv G))).length = (zlay (a :: as)).length ∧ ∀ (i : Nat) (v : Value), (zlay (a :: as))[i]? = some v → v ≠ .retAddr 0 → (lg_sl ((a :: as).map (zcv G)))[i]? = some (.val (zcv G v)) := by
      intro hc hz
      have e : lg_sl ((a :: as).map (zcv G)) = .val (zcv G a) :: lg_sl (as.map (zcv G)) := by
        simp only [lg_sl, List.map_cons, List.flatMap_cons, zcv_cat, hc]
        rfl
      rw [e, hz]
      refine ⟨by simp [h1], fun i v hi hv => ?_⟩
      cases i with
      | zero => cases hi; rfl
      | succ i => exact h2 i v hi hv
    have two : a.category = 2 → zlay (a :: as) = a :: .retAddr 0 :: zlay as → (lg_sl ((a :: as).map (zcv G))).length = (zlay (a :: as)).length ∧ ∀ (i : Nat) (v : Value), (zlay (a :: as))[i]? = some v → v ≠ .retAddr 0 → (lg_sl ((a :: as).map (zcv G)))[i]? = some (.val (zcv G v)) := by
      intro hc hz
      have e : lg_sl ((a :: as).map (zcv G)) = .val (zcv G a) :: .second :: lg_sl (as.map (zcv G)) := by
        simp only [lg_sl, List.map_cons, List.flatMap_cons, zcv_cat, hc]
        rfl
      rw [e, hz]
      refine ⟨by simp [h1], fun i v hi hv => ?_⟩
      match i, hi with
      | 0, hi => cases hi; rfl
      | 1, hi => cases hi; exact absurd rfl hv
      | i + 2, hi => exact h2 i v hi hv
    cases a with
    | int x => exact one rfl rfl
    | long x => exact two rfl rfl
    | float x => exact one rfl rfl
    | double x => exact two rfl rfl
    | null => exact one rfl rfl
    | ref x => exact one rfl rfl
    | retAddr x => exact one rfl rfl
/-- the walk of a method's body is its contract -/
theorem zOK.of {E : zE} {mi : zMi} {as : List Value} {h : zH} {r : zR} (hlaw : mi.1.cls ≠ "NineDownLaw") (hpl : plainName mi.1.cls = true) (hlen : (zlay as).length ≤ mi.2.2.1) (hE : zEv E mi h (0, zlay as ++ List.replicate (mi.2.2.1 - (zlay as).length) (.retAddr 0), [], h) r) : zOK mi as h r := by
  refine ⟨hE.1, fun l G => Met.ofW (cc := mi.2.1) (maxL := mi.2.2.1) (ret := mi.2.2.2.1) hpl rfl ?_⟩
  intro p e s m args below meth c s₁ B hml hv
  obtain ⟨rfl, hsz, hRel, hKn⟩ := hv
  have hr := B.returns
  have hF : zFx G E h mi.1 mi.2.1 mi.2.2.1 mi.2.2.2.1 p s m (as.map (zcv G)).toArray meth c := ⟨B.exec, B.bytes, hml, hr, findClass_of_methodNamed B.named, fun w hw => atoms_spec (ws := zws mi) B.pre w (List.mem_cons_of_mem _ hw), fun hi => (name_of_methodNamed B.named B.method).1.trans hi, hKn, hsz, fun z => absurd z hlaw⟩
  have hlocks := B.notSynchronized
  have hx := B.exec
  have hb := B.bytes
  have hS : va_S (zAA G) s.heap s.heap [] := va_S.rf
  obtain ⟨z1, z2⟩ := zlay_sl G as
  have hl := lv_entry (as.map (zcv G)) (n := mi.2.2.1) (by rw [z1]; exact hlen)
  rw [lg_entry_eq]
  have hL : zLoc G (zlay as ++ List.replicate (mi.2.2.1 - (zlay as).length) (.retAddr 0)) ((lg_sl (as.map (zcv G)) ++ List.replicate (mi.2.2.1 - (lg_sl (as.map (zcv G))).length) Slot.unset).toArray) mi.2.2.1 := by
    refine ⟨hl.1, by simp; omega, hl.2.1, fun i v hi hv => ?_⟩
    by_cases hil : i < (zlay as).length
    · rw [List.getElem?_append_left hil] at hi
      have h3 := z2 i v hi hv
      simp only [List.getElem?_toArray]
      rw [List.getElem?_append_left (by rw [z1]; exact hil)]
      exact h3
    · rw [List.getElem?_append_right (by omega), List.getElem?_replicate] at hi
      split at hi
      · cases hi; exact absurd rfl hv
      · cases hi
  have K := hE.2 (zle.rf h) G p l e (zrm mi h r.2) s m (as.map (zcv G)).toArray below meth c (MQ below (zQc G r) (as.map (zcv G)).toArray s (r.2.length - h.length) (zsl r.2 - zsl h) (zAA G)) hF ⟨Nat.le_refl _, Nat.le_refl _, Nat.le_refl _, Nat.le_refl _⟩ ?_ s.heap [] _ hRel hS hL
  · dsimp only at K
    rw [Nat.sub_self, Nat.sub_self] at K
    exact K
  · intro pc hz H locs ls hRel' hS'
    have hq : ∀ (o : Option Value), o = r.1.map (zcv G) → ∀ t : State, t.heap = H → s.WarmedH t.vm → zQc G r (as.map (zcv G)).toArray s (.returned o) t := fun o ho t ht hW => ⟨⟨by rw [ho], by rw [ht]; exact hRel'⟩, hS'.F ht⟩
    obtain ⟨v, hh⟩ := r
    dsimp only at hz hq ⊢
    rcases hz with ⟨hd, ht, x, rfl⟩ | ⟨hd, ht, x, rfl, hx01⟩ | ⟨hd, ht, x, rfl⟩ | ⟨hd, ⟨n, ht⟩, hv⟩ | ⟨hd, ht, rfl⟩
    · exact W.iret (v := x) hx hb (hr.trans ht) (hq _ rfl) hS'.2.2 hd
    · exact W.zret (v := x) hx hb (hr.trans ht) (by rcases hx01 with rfl | rfl <;> rfl) (hq _ rfl) hS'.2.2 hd
    · exact W.lret (v := x) hx hb (hr.trans ht) (hq _ rfl) hS'.2.2 hd
    · rcases hv with rfl | ⟨a, rfl⟩
      · exact W.aret (v := .null) hx hb (hr.trans ht) (Or.inl ⟨n, rfl⟩) (Or.inl rfl) (hq _ rfl) hS'.2.2 hd
      · exact W.aret (v := .ref (G.2.1 + a)) hx hb (hr.trans ht) (Or.inl ⟨n, rfl⟩) (Or.inr ⟨_, rfl⟩) (hq _ rfl) hS'.2.2 hd
    · exact W.vret hx hb (hr.trans ht) (hq _ rfl) hS'.2.2 hd
section ZCL
variable {E : zE} {mi mj : zMi} {h0 : zH} {k : zK} {r : zR} {pc nx : Nat} {lc sk rest as : List Value} {h9 : zH} {r' : zR}
theorem zPc_blind {G : zG} : FrameBlind (zPc G as h9) := fun a U g mk q => by
  obtain ⟨q0, q1, q2, q3⟩ := q
  exact ⟨q0, q1, q2, zKn.same (s := U) (U := U.calling g mk a) rfl q3⟩
theorem zPc_at {G : zG} {s : State} {H : Heap} (hH : H.size = G.2.1 + h9.length) (hRel : zRel G h9 H) (hKn : zKn G s) : ∀ U : State, U.heap = H → s.WarmedH U.vm → zPc G as h9 (as.map (zcv G)).toArray U := fun U hU hW => ⟨rfl, by rw [hU]; exact hH, by rw [hU]; exact hRel, zKn.moved hW hKn⟩
theorem zsub8 {G : zG} (h : zlow rest = true) : ((rest.map (zcv G)).map fun v => v.category).sum ≤ 8 := by
  rw [List.map_map, show ((fun v : Value => v.category) ∘ zcv G) = (fun v => v.category) from funext (zcv_cat G)]
  simpa [zlow] using h
theorem zgoodIn (h : Cond.code mj.1 mj.2.1 mj.2.2.1 mj.2.2.2.1 ∈ zgw) : GoodIn zgw (zws mj) := by
  intro w hw
  have hw : w ∈ zgw := by
    rcases List.mem_cons.mp hw with rfl | hw
    · exact h
    · exact hw
  exact ⟨hw, good_of_word (List.mem_filter.mp hw).2⟩
/-- a call, and what is behind it -/
theorem zEv.call (hok : zOK mj as h9 r') (run : ∀ (G : zG) (p : Program) (l : Launch) (e : Env) (R : Room) (s : State) (m : MethodId) (args : Array Value) (below : List Frame) (meth : Method) (c : Code) (H : Heap) (locs : List Loc) (ls : Array Slot) (cells slots : Nat), zFx G E h0 mi.1 mi.2.1 mi.2.2.1 mi.2.2.2.1 p s m args meth c → mi.2.2.2.2.1 ≤ R.frames → mi.2.2.2.2.2 ≤ R.locals → zRel G h9 H → H.size = G.2.1 + h9.length → zLoc G lc ls mi.2.2.1 → cells + (r'.2.length - h9.length) ≤ R.cells ∧ slots + (zsl r'.2 - zsl h9) ≤ R.slots → ∃ a : Array Value, va_Run p l e R s m args below meth c H locs cells slots (r'.2.length - h9.length) (zsl r'.2 - zsl h9) (F0 m pc ls (sk.map (zcv G))) (rest.map (zcv G)) (zQc G r' a) (zAA G)) (h : zEv E mi h0 (pc + 3, lc, r'.1.toList ++ rest, r'.2) r) : zEv E mi h0 (pc, lc, sk, h9) r := by
  refine zEv.of (st' := (pc + 3, lc, r'.1.toList ++ rest, r'.2)) hok.1 ?_ h
  intro G p l e R s m args below meth c Q h0l hF hR kk H locs ls hRel hS hL
  intro T hT X
  have hsz := hF.2.2.2.2.2.2.2.2.1
  have hH : H.size = G.2.1 + h9.length := by
    have h1 := X.heapSize
    rw [hT] at h1
    have h2 := h0l.1
    have h3 : G.2.1 + h9.length ≤ H.size := by
      by_cases hz : h9.length = 0
      · have := hS.1
        dsimp only at h1 h2
        omega
      · have hlt : h9.length - 1 < h9.length := by omega
        have := (hRel _ _ (zww_get (G := G) (List.getElem?_eq_getElem hlt))).lt
        dsimp only at this
        omega
    dsimp only at h1 h2
    omega
  have hle := hok.1
  have hc : (h9.length - h0.length) + (r'.2.length - h9.length) ≤ R.cells ∧ (zsl h9 - zsl h0) + (zsl r'.2 - zsl h9) ≤ R.slots := by
    obtain ⟨-, -, g1, g2⟩ := hR
    have := h0l.1
    have := h0l.2
    have := hle.1
    have := hle.2
    dsimp only at *
    omega
  obtain ⟨a, hrun⟩ := run G p l e R s m args below meth c H locs ls _ _ hF hR.1 hR.2.1 hRel hH hL hc
  obtain ⟨v, st₀, t, T', L, h0', X', hLl, e1, e2, ⟨⟨hv, hrel⟩, hz, hk⟩, st⟩ := hrun T hT X
  cases hv
  rw [h0'] at hz hk
  have hS1 : va_S (zAA G) s.heap T'.heap (locs ++ L) := ⟨Nat.le_trans hS.1 (by rw [e1]; exact hz), fun q h1 h2 => by rw [e1, hk q (Nat.lt_of_lt_of_le h1 hS.1) h2]; exact hS.2.1 q h1 h2, fun q hq => by
    rcases List.mem_append.mp hq with h | h
    · exact hS.2.2 q h
    · exact hLl q h⟩
  have K := kk T'.heap (locs ++ L) ls (by rw [e1]; exact hrel) hS1 hL
  dsimp only at K
  have g1 : r'.2.length - h0.length = (h9.length - h0.length) + (r'.2.length - h9.length) := by
    have := h0l.1
    have := hle.1
    dsimp only at *
    omega
  have g2 : zsl r'.2 - zsl h0 = (zsl h9 - zsl h0) + (zsl r'.2 - zsl h9) := by
    have := h0l.2
    have := hle.2
    dsimp only at *
    omega
  rw [g1, g2] at K
  obtain ⟨t2, a1, b1⟩ := K T' rfl X'
  refine ⟨t2, st t2 ?_, b1⟩
  have e5 : (r'.1.map (zcv G)).toList ++ rest.map (zcv G) = (r'.1.toList ++ rest).map (zcv G) := by
    cases r'.1 <;> simp
  rw [e5]
  exact a1
def zcalB (mi mj : zMi) (n : Nat) : Bool := decide (Cond.initialized mj.1.cls ∈ zmw) && (decide (mj.1.cls ≠ "java/lang/invoke/MethodHandle") && (decide (mj.1.cls ≠ "java/lang/invoke/VarHandle") && (decide ((parseMethodDescriptor mj.1.desc).map (fun d => d.parameters.length) = some n) && (decide (mj.2.2.2.2.1 + 1 ≤ mi.2.2.2.2.1) && decide (8 + (mj.2.2.1 + 11) + mj.2.2.2.2.2 ≤ mi.2.2.2.2.2)))))
theorem zcalB.of {n : Nat} (h : zcalB mi mj n = true) : Cond.initialized mj.1.cls ∈ zmw ∧ mj.1.cls ≠ "java/lang/invoke/MethodHandle" ∧ mj.1.cls ≠ "java/lang/invoke/VarHandle" ∧ (parseMethodDescriptor mj.1.desc).map (fun d => d.parameters.length) = some n ∧ mj.2.2.2.2.1 + 1 ≤ mi.2.2.2.2.1 ∧ 8 + (mj.2.2.1 + 11) + mj.2.2.2.2.2 ≤ mi.2.2.2.2.2 := by
  simpa only [zcalB, Bool.and_eq_true, decide_eq_true_eq] using h
theorem zmap_args {G : zG} {n : Nat} (hn : n ≤ sk.length) : ((sk.take n).reverse.map (zcv G)).reverse ++ (sk.drop n).map (zcv G) = sk.map (zcv G) := by
  rw [← List.map_reverse, List.reverse_reverse, ← List.map_append, List.take_append_drop]
/-- static calls -/
def zstB (mi mj : zMi) (ix n : Nat) : Bool := zcalB mi mj n && (decide (Cond.static mj.1 ∈ zmw) && (decide (Cond.methodLink mi.1.cls ix mj.1 ∈ zmw) || decide (Cond.methodLinkNest mi.1.cls ix mj.1 "NineDown" ∈ zmw)))
theorem zs_inv {M n ix : Nat} {c : zA} (hk : zSK E mi h0 k) (hc : ∀ as h r, c M as h = some r → zOK mj as h r) (hcode : Cond.code mj.1 mj.2.1 mj.2.2.1 mj.2.2.2.1 ∈ zgw) (hd : decode mi.2.1 pc = .ok (.invokestatic ix, 3)) (hok : zstB mi mj ix n = true) (hn : pc + 3 = nx) (h : z_inv n M nx c (pc, lc, sk, h9) k = some r) : zEv E mi h0 (pc, lc, sk, h9) r := by
  subst hn
  unfold z_inv at h
  split at h
  · rename_i hcs
    simp only [Bool.and_eq_true, decide_eq_true_eq] at hcs
    obtain ⟨hnl, hlow⟩ := hcs
    cases hq : c M (sk.take n).reverse h9 with
    | none => rw [hq] at h; cases h
    | some r' =>
      rw [hq] at h
      have hO := hc _ _ _ hq
      refine zEv.call (rest := sk.drop n) hO ?_ (hk _ _ h)
      intro G p l e R s m args below meth c' H locs ls cells slots hF hfr hlo hRel hH hL hroom
      obtain ⟨hx, hb, hml, hr, hown, hts, hini, hKn, hsz, hscr⟩ := hF
      simp only [zstB, Bool.and_eq_true, Bool.or_eq_true, decide_eq_true_eq] at hok
      obtain ⟨hcal, hst, hlk⟩ := hok
      obtain ⟨c1, c2, c3, c4, c5, c6⟩ := zcalB.of hcal
      have hlen : ((sk.take n).reverse.map (zcv G)).length = n := by simp; omega
      rcases hlk with hlk | hlk
      · exact ⟨_, va_runS ⟨hx, hb, hml, hown, hts⟩ (hO.2 l G) ⟨callB_of n hts (zgoodIn hcode) rfl rfl rfl (hts _ (zmw_g c1 rfl)) (hts _ (zmw_g hlk rfl)) ⟨c2, c3, c4⟩ ⟨by dsimp only; omega, by dsimp only; omega⟩, hts _ (zmw_g hst rfl)⟩ ⟨zPc_blind, zPc_at hH hRel hKn⟩ rfl hlen hL.1 (zmap_args hnl).symm (lv_room (zsub8 hlow)) hd hroom⟩
      · exact ⟨_, va_runSN ⟨hx, hb, hml, hown, hts⟩ (hO.2 l G) ⟨va_cnB n hts (zgoodIn hcode) rfl rfl rfl (hKn.2.1 _ (zmw_in hlk) rfl) (hts _ (zmw_g c1 rfl)) ⟨c2, c3, c4⟩ ⟨by dsimp only; omega, by dsimp only; omega⟩, hts _ (zmw_g hst rfl), trivial⟩ ⟨zPc_blind, zPc_at hH hRel hKn⟩ rfl hlen hL.1 (zmap_args hnl).symm (lv_room (zsub8 hlow)) hd hroom⟩
  · cases h
/-- the parts of a call on an object -/
theorem zobj_args {G : zG} {n a : Nat} (hn : n + 1 ≤ sk.length) (ha : sk[n]? = some (.ref a)) : ((sk.take (n + 1)).reverse).map (zcv G) = .ref (G.2.1 + a) :: ((sk.take n).reverse).map (zcv G) ∧ sk.map (zcv G) = (((sk.take n).reverse).map (zcv G)).reverse ++ .ref (G.2.1 + a) :: (sk.drop (n + 1)).map (zcv G) := by
  obtain ⟨hl, he⟩ := List.getElem?_eq_some_iff.mp ha
  have h1 : sk.take (n + 1) = sk.take n ++ [.ref a] := by rw [List.take_succ, ha]; rfl
  have h2 : sk = sk.take n ++ .ref a :: sk.drop (n + 1) := by
    rw [← he]
    simp
  refine ⟨by rw [h1]; simp [zcv], ?_⟩
  conv => lhs; rw [h2]
  rw [List.map_append, List.map_cons, ← List.map_reverse, List.reverse_reverse]
  rfl
theorem zObj {M n : Nat} {a : Nat} {c : zA} (hk : zSK E mi h0 k) (hc : ∀ as h r, c M as h = some r → zOK mj as h r) (ha : sk[n]? = some (.ref a)) (run : ∀ (r' : zR) (G : zG) (p : Program) (l : Launch) (e : Env) (R : Room) (s : State) (m : MethodId) (args : Array Value) (below : List Frame) (meth : Method) (c : Code) (H : Heap) (locs : List Loc) (ls : Array Slot) (cells slots : Nat), Met l mj.1 (zws mj) (zrm mj h9 r'.2) (zPc G (sk.take (n + 1)).reverse h9) (zQc G r') (r'.2.length - h9.length) (zsl r'.2 - zsl h9) (zAA G) → zFx G E h0 mi.1 mi.2.1 mi.2.2.1 mi.2.2.2.1 p s m args meth c → mi.2.2.2.2.1 ≤ R.frames → mi.2.2.2.2.2 ≤ R.locals → zRel G h9 H → (∀ U : State, U.heap = H → s.WarmedH U.vm → zPc G (sk.take (n + 1)).reverse h9 (Value.ref (G.2.1 + a) :: ((sk.take n).reverse).map (zcv G)).toArray U) → (((sk.take n).reverse).map (zcv G)).length = n → ls.size = mi.2.2.1 → sk.map (zcv G) = (((sk.take n).reverse).map (zcv G)).reverse ++ .ref (G.2.1 + a) :: (sk.drop (n + 1)).map (zcv G) → (((sk.drop (n + 1)).map (zcv G)).map fun v => v.category).sum ≤ 8 → cells + (r'.2.length - h9.length) ≤ R.cells ∧ slots + (zsl r'.2 - zsl h9) ≤ R.slots → va_Run p l e R s m args below meth c H locs cells slots (r'.2.length - h9.length) (zsl r'.2 - zsl h9) (F0 m pc ls (sk.map (zcv G))) ((sk.drop (n + 1)).map (zcv G)) (zQc G r' (Value.ref (G.2.1 + a) :: ((sk.take n).reverse).map (zcv G)).toArray) (zAA G)) (h : z_inv (n + 1) M (pc + 3) c (pc, lc, sk, h9) k = some r) : zEv E mi h0 (pc, lc, sk, h9) r := by
  unfold z_inv at h
  split at h
  · rename_i hcs
    simp only [Bool.and_eq_true, decide_eq_true_eq] at hcs
    obtain ⟨hnl, hlow⟩ := hcs
    cases hq : c M (sk.take (n + 1)).reverse h9 with
    | none => rw [hq] at h; cases h
    | some r' =>
      rw [hq] at h
      have hO := hc _ _ _ hq
      refine zEv.call (rest := sk.drop (n + 1)) hO ?_ (hk _ _ h)
      intro G p l e R s m args below meth c' H locs ls cells slots hF hfr hlo hRel hH hL hroom
      obtain ⟨e1, e2⟩ := zobj_args (G := G) hnl ha
      refine ⟨_, run r' G p l e R s m args below meth c' H locs ls cells slots (hO.2 l G) hF hfr hlo hRel ?_ (by simp; omega) hL.1 e2 (zsub8 hlow) hroom⟩
      rw [← e1]
      exact zPc_at hH hRel hF.2.2.2.2.2.2.2.1
  · cases h
/-- calls of a constructor, of a method above -/
def zspB (mi mj : zMi) (ix n : Nat) : Bool := zcalB mi mj n && (decide (Cond.instanceMethod mj.1 ∈ zmw) && ((decide (mj.1.name = "<init>") && (decide (mj.2.2.2.1 = none) && (decide (Cond.methodLink mi.1.cls ix mj.1 ∈ zmw) || decide (Cond.methodLinkNest mi.1.cls ix mj.1 "NineDown" ∈ zmw)))) || (decide (mj.1.name ≠ "<init>") && (decide (Cond.methodLink mi.1.cls ix mj.1 ∈ zmw) && (decide (Cond.sameMethod mj.1.cls mj.1.cls mj.1.name mj.1.desc ∈ zmw) && decide (Cond.superclass mi.1.cls mj.1.cls ∈ zmw))))))
theorem zs_spc {M n ix : Nat} {c : zA} (hk : zSK E mi h0 k) (hc : ∀ as h r, c M as h = some r → zOK mj as h r) (hcode : Cond.code mj.1 mj.2.1 mj.2.2.1 mj.2.2.2.1 ∈ zgw) (hd : decode mi.2.1 pc = .ok (.invokespecial ix, 3)) (hok : zspB mi mj ix n = true) (hn : pc + 3 = nx) (h : z_spc n M nx c (pc, lc, sk, h9) k = some r) : zEv E mi h0 (pc, lc, sk, h9) r := by
  subst hn
  unfold z_spc at h
  split at h
  · rename_i a ha
    split at h
    · rename_i q hq
      obtain ⟨ci, fs⟩ := q
      refine zObj hk hc ha ?_ h
      intro r' G p l e R s m args below meth c' H locs ls cells slots hM hF hfr hlo hRel hPc hlen hls hstk h8 hroom
      obtain ⟨hx, hb, hml, hr, hown, hts, hini, hKn, hsz, hscr⟩ := hF
      simp only [zspB, Bool.and_eq_true, Bool.or_eq_true, decide_eq_true_eq] at hok
      obtain ⟨hcal, hin, hlk⟩ := hok
      obtain ⟨c1, c2, c3, c4, c5, c6⟩ := zcalB.of hcal
      rcases hlk with ⟨hnm, hret, hlk | hlk⟩ | ⟨hnm, hlk, hsm, hsup⟩
      · refine va_runI (bytes := mj.2.1) (maxL := mj.2.2.1) ⟨hx, hb, hml, hown, hts⟩ hM ⟨?_, hnm, hts _ (zmw_g hin rfl)⟩ ⟨zPc_blind, hPc⟩ rfl hlen hls hstk (lv_room h8) hd hroom
        rw [← hret]
        exact callB_of n hts (zgoodIn hcode) rfl rfl rfl (hts _ (zmw_g c1 rfl)) (hts _ (zmw_g hlk rfl)) ⟨c2, c3, c4⟩ ⟨by dsimp only; omega, by dsimp only; omega⟩
      · refine va_runIN (host := "NineDown") (bytes := mj.2.1) (maxL := mj.2.2.1) ⟨hx, hb, hml, hown, hts⟩ hM ⟨?_, hnm, hts _ (zmw_g hin rfl)⟩ ⟨zPc_blind, hPc⟩ rfl hlen hls hstk (lv_room h8) hd hroom
        rw [← hret]
        exact va_cnB n hts (zgoodIn hcode) rfl rfl rfl (hKn.2.1 _ (zmw_in hlk) rfl) (hts _ (zmw_g c1 rfl)) ⟨c2, c3, c4⟩ ⟨by dsimp only; omega, by dsimp only; omega⟩
      · obtain ⟨qc, hqc⟩ : ∃ qc, zcl[ci]? = some qc := by
          obtain ⟨qc, h1, -⟩ := hRel _ _ (zww_get hq)
          exact ⟨qc, h1⟩
        refine va_runSU (hKn.1.1 ci qc hqc).2 ⟨hx, hb, hml, hown, hts⟩ hM ⟨⟨rfl, rfl, by dsimp only; omega, by dsimp only; omega, pay_in hts (zgoodIn hcode), List.mem_cons_self⟩, hts _ (zmw_g hlk rfl), hts _ (zmw_g hsm rfl), hts _ (zmw_g hsup rfl), hts _ (zmw_g hin rfl), hts _ (zmw_g c1 rfl), hts _ hcode, hnm, fun sig h => ?_⟩ ⟨zPc_blind, va_recv hKn.1 hRel hqc (zww_get hq), hPc⟩ rfl hlen hls hstk (lv_room h8) hd hroom
        rw [h] at c4
        exact (Option.some.inj c4).symm
    · cases h
  · cases h
/-- calls by the receiver's class: x is the method that the call names -/
def zviB (mi mj : zMi) (x : MethodName) (abs : Bool) (ix n ci : Nat) : Bool := zcalB mi mj n && (decide (Cond.instanceMethod mj.1 ∈ zmw) && (match zcl[ci]? with
  | some q => (decide (Cond.methodLink mi.1.cls ix mj.1 ∈ zmw) && decide (Cond.selects q.1 mj.1 mj.1 ∈ zsw_l)) || (decide (Cond.methodLink mi.1.cls ix x ∈ zmw) && (decide (Cond.sameMethod x.cls x.cls x.name x.desc ∈ zmw) && (decide (Cond.selects q.1 x mj.1 ∈ zsw_l) && (decide (x.cls ≠ "java/lang/invoke/MethodHandle") && (decide (x.cls ≠ "java/lang/invoke/VarHandle") && (decide ((parseMethodDescriptor x.desc).map (fun d => d.parameters.length) = some n) && (if abs then decide (Cond.declares x ∈ zmw) else decide (Cond.instanceMethod x ∈ zmw))))))))
  | none => false))
theorem zs_vi {M n ix ci a : Nat} {fs : List Value} {c : zA} {x : MethodName} {abs : Bool} (hk : zSK E mi h0 k) (hc : ∀ as h r, c M as h = some r → zOK mj as h r) (hcode : Cond.code mj.1 mj.2.1 mj.2.2.1 mj.2.2.2.1 ∈ zgw) (hx' : abs = false → ∃ b m r, Cond.code x b m r ∈ zgw) (hd : decode mi.2.1 pc = .ok (.invokevirtual ix, 3)) (ha : sk[n]? = some (.ref a)) (hq : h9[a]? = some (.inl (ci, fs))) (hok : zviB mi mj x abs ix n ci = true) (hn : pc + 3 = nx) (h : z_inv (n + 1) M nx c (pc, lc, sk, h9) k = some r) : zEv E mi h0 (pc, lc, sk, h9) r := by
  subst hn
  refine zObj hk hc ha ?_ h
  intro r' G p l e R s m args below meth c' H locs ls cells slots hM hF hfr hlo hRel hPc hlen hls hstk h8 hroom
  obtain ⟨hx, hb, hml, hr, hown, hts, hini, hKn, hsz, hscr⟩ := hF
  unfold zviB at hok
  split at hok
  · rename_i q hqc
    simp only [Bool.and_eq_true, Bool.or_eq_true, decide_eq_true_eq] at hok
    obtain ⟨hcal, hin, hlk⟩ := hok
    obtain ⟨c1, c2, c3, c4, c5, c6⟩ := zcalB.of hcal
    have hrec := va_recv hKn.1 hRel hqc (zww_get hq)
    rcases hlk with ⟨hl1, hl2⟩ | ⟨hl1, hl2, hl3, hl4, hl5, hl6, hl7⟩
    · exact va_runV (C := q.1) ⟨hx, hb, hml, hown, hts⟩ hM ⟨callB_of n hts (zgoodIn hcode) rfl rfl rfl (hts _ (zmw_g c1 rfl)) (hts _ (zmw_g hl1 rfl)) ⟨c2, c3, c4⟩ ⟨by dsimp only; omega, by dsimp only; omega⟩, hts _ (zmw_g hin rfl), hts _ (zsw_g hl2 rfl)⟩ ⟨zPc_blind, hrec, hPc⟩ rfl hlen hls hstk (lv_room h8) hd hroom
    · have hdecl : va_Decl s ⟨x.cls, x.name, x.desc⟩ := by
        cases abs with
        | true =>
          simp only [if_true, decide_eq_true_eq] at hl7
          exact va_Decl.abs (hKn.2.1 _ (zmw_in hl7) rfl)
        | false =>
          simp only [Bool.false_eq_true, if_false, decide_eq_true_eq] at hl7
          obtain ⟨b, m0, r0, hcx⟩ := hx' rfl
          exact va_Decl.of (hts _ (zmw_g hl7 rfl)) (hts _ hcx)
      refine va_runU (C := q.1) (owner := x.cls) (x := x) ⟨hx, hb, hml, hown, hts⟩ hM ⟨⟨rfl, rfl, by dsimp only; omega, by dsimp only; omega, pay_in hts (zgoodIn hcode), List.mem_cons_self⟩, hts _ hcode, hts _ (zmw_g c1 rfl), ⟨hl4, hl5⟩, fun sig h => ?_, hts _ (zmw_g hl1 rfl), hts _ (zmw_g hl2 rfl), hdecl, hts _ (zsw_g hl3 rfl), hts _ (zmw_g hin rfl)⟩ ⟨zPc_blind, hrec, hPc⟩ rfl hlen hls hstk (lv_room h8) hd hroom
      rw [h] at hl6
      exact (Option.some.inj hl6).symm
  · simp at hok
end ZCL
