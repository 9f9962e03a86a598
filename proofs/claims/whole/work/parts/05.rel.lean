/-! THE SMALL MACHINE AND THE MACHINE: a list of cells lies in the heap from 'base' on -/
def zgw : List Cond := lw_tbl.filter goodWord
def zspec : Cond → Bool
  | .fieldLinkNest .. => true
  | .methodLinkNest .. => true
  | .declares _ => true
  | .castable .. => true
  | .arrayOver (.object _) => true
  | _ => false
/-- the kit's numbers, the first cell's place, the script's cell, the rows' classes -/
abbrev zG : Type := va_G × Nat × Nat × (Nat → ClassId)
abbrev ztys (cA : Nat → ClassId) : List (ClassId × FieldType) := [(cA 0, .int), (cA 1, .boolean), (cA 2, .object RX7), (cA 3, .object RX10), (cA 4, .object RX3)]
def zcv (G : zG) : Value → Value
  | .ref a => .ref (G.2.1 + a)
  | .float _ => .ref G.2.2.1
  | v => v
def zce (G : zG) : zC → va_E
  | .inl q => .inr (q.1, q.2.map (zcv G))
  | .inr (.inl q) => .inl (G.2.2.2 q.1, q.2.1, .inl q.2.2)
  | .inr (.inr q) => .inl (G.2.2.2 q.1, q.2.1, .inr (.inr (.inr (.inr (fun j => (q.2.2 j).map (fun a => G.2.1 + a))))))
def zww (G : zG) (h : zH) : va_W := h.mapIdx (fun k c => (G.2.1 + k, zce G c))
def zsz : zC → Nat
  | .inl q => q.2.length
  | .inr (.inl q) => q.2.1
  | .inr (.inr q) => q.2.1
def zsl (h : zH) : Nat := (h.map zsz).sum
def zle (h h' : zH) : Prop := h.length ≤ h'.length ∧ zsl h ≤ zsl h'
theorem zle.rf (h : zH) : zle h h := ⟨Nat.le_refl _, Nat.le_refl _⟩
theorem zle.tr {a b c : zH} (h : zle a b) (g : zle b c) : zle a c := ⟨Nat.le_trans h.1 g.1, Nat.le_trans h.2 g.2⟩
/-- which pairs of classes aren't castable, of those that are asked -/
def znc : List (String × String) := [(RX8, RX1), (RX8, RX5), (RX8, RX2), (RX8, RX4), (RX1, RX5), (RX1, RX2), (RX1, RX4), (RX5, RX1), (RX5, RX2), (RX5, RX4), (RX2, RX8), (RX2, RX1), (RX2, RX5), (RX2, RX4), (RX4, RX8), (RX4, RX1), (RX4, RX5)]
def zKn (G : zG) (U : State) : Prop := va_K G.1 zcl (ztys G.2.2.2) U ∧ (∀ w ∈ lw_tbl, zspec w = true → va_Nw w U) ∧ ∀ q ∈ znc, va_Nc q.1 q.2 U
theorem zspec_moved {w : Cond} (hw : zspec w = true) {s U : State} (hW : s.WarmedH U.vm) (h : va_Nw w s) : va_Nw w U := by
  unfold zspec at hw
  split at hw
  · exact va_Nw.warmF hW h
  · exact va_Nw.warmM hW h
  · exact va_Nw.warmD hW h
  · exact va_Nw.warmC hW h
  · exact va_AO.moved hW.alike h
  · cases hw
theorem zspec_same {w : Cond} {s U : State} (hw : zspec w = true) (hv : s.vm = U.vm) (h : va_Nw w s) : va_Nw w U := by
  unfold zspec at hw
  split at hw
  · exact va_Nw.same rfl hv h
  · exact va_Nw.same rfl hv h
  · exact va_Nw.same rfl hv h
  · exact va_Nw.same rfl hv h
  · exact va_AO.moved (by rw [hv]; exact Vm.Alike.refl _) h
  · cases hw
theorem zKn.moved {G : zG} {s U : State} (hW : s.WarmedH U.vm) (h : zKn G s) : zKn G U := ⟨va_K.moved hW.alike h.1, fun w hw hs => zspec_moved hs hW (h.2.1 w hw hs), fun q hq => va_Nc.moved hW.alike (h.2.2 q hq)⟩
theorem zKn.same {G : zG} {s U : State} (hv : s.vm = U.vm) (h : zKn G s) : zKn G U := ⟨va_K.moved (by rw [hv]; exact Vm.Alike.refl _) h.1, fun w hw hs => zspec_same hs hv (h.2.1 w hw hs), fun q hq => va_Nc.moved (by rw [hv]; exact Vm.Alike.refl _) (h.2.2 q hq)⟩
def zRel (G : zG) (h : zH) (H : Heap) : Prop := va_P G.1 zcl (zww G h) H
abbrev zAA (G : zG) : Nat → Prop := fun q => G.2.1 ≤ q
theorem zww_get {G : zG} {h : zH} {a : Nat} {c : zC} (hc : h[a]? = some c) : (zww G h)[a]? = some (G.2.1 + a, zce G c) := by
  simp [zww, List.getElem?_mapIdx, hc]
theorem zww_D {G : zG} {h : zH} : va_D (zAA G) (zww G h) := by
  have key : ∀ (i : Nat) (p : Nat × va_E), (zww G h)[i]? = some p → p.1 = G.2.1 + i := by
    intro i p hi
    simp only [zww, List.getElem?_mapIdx, Option.map_eq_some_iff] at hi
    obtain ⟨c, -, rfl⟩ := hi
    rfl
  refine ⟨fun i j p q hi hj hpq => ?_, fun k q hk => ?_⟩
  · have h1 := key i p hi
    have h2 := key j q hj
    omega
  · have h1 := key k q hk
    show G.2.1 ≤ q.1
    omega
theorem zww_set {G : zG} {h : zH} {a : Nat} (c : zC) : (zww G h).set a (G.2.1 + a, zce G c) = zww G (h.set a c) := by
  apply List.ext_getElem?
  intro i
  simp only [zww, List.getElem?_set, List.getElem?_mapIdx, List.length_mapIdx]
  by_cases hi : a = i
  · subst hi
    by_cases hl : a < h.length
    · simp [hl]
    · simp [hl]
  · simp [hi]
theorem zww_app {G : zG} {h : zH} (c : zC) : zww G (h ++ [c]) = zww G h ++ [(G.2.1 + h.length, zce G c)] := by
  simp [zww, List.mapIdx_append]
theorem zsl_set {h : zH} {a : Nat} {c0 c : zC} (h0 : h[a]? = some c0) (hz : zsz c = zsz c0) : zsl (h.set a c) = zsl h := by
  unfold zsl
  have : (h.set a c).map zsz = h.map zsz := by
    apply List.ext_getElem?
    intro i
    rw [List.getElem?_map, List.getElem?_map, List.getElem?_set]
    by_cases hi : a = i
    · subst hi
      have hl := (List.getElem?_eq_some_iff.mp h0).1
      rw [h0]
      simp [hl, hz]
    · simp [hi]
  rw [this]
theorem zsl_app (h : zH) (c : zC) : zsl (h ++ [c]) = zsl h + zsz c := by simp [zsl]
theorem zle_set {h : zH} {a : Nat} {c0 c : zC} (h0 : h[a]? = some c0) (hz : zsz c = zsz c0) : zle h (h.set a c) := ⟨by simp, by rw [zsl_set h0 hz]; exact Nat.le_refl _⟩
theorem zle_app (h : zH) (c : zC) : zle h (h ++ [c]) := ⟨by simp, by rw [zsl_app]; omega⟩
theorem zcv_cat (G : zG) (v : Value) : (zcv G v).category = v.category := by cases v <;> rfl
/-- the locals -/
def zLoc (G : zG) (lc : List Value) (ls : Array Slot) (nL : Nat) : Prop := ls.size = nL ∧ lc.length = nL ∧ lv_wf ls ∧ ∀ (i : Nat) (v : Value), lc[i]? = some v → v ≠ .retAddr 0 → ls[i]? = some (.val (zcv G v))
def zLl (G : zG) (lc : List Value) : List (Nat × Value) := (List.range lc.length).filterMap (fun i => match lc[i]? with
  | some v => if v = .retAddr 0 then none else some (i, zcv G v)
  | none => none)
theorem zLl_mem {G : zG} {lc : List Value} {q : Nat × Value} : q ∈ zLl G lc ↔ ∃ v, lc[q.1]? = some v ∧ v ≠ .retAddr 0 ∧ q.2 = zcv G v := by
  unfold zLl
  simp only [List.mem_filterMap, List.mem_range]
  constructor
  · rintro ⟨i, hi, h⟩
    split at h
    · rename_i v hv
      split at h
      · cases h
      · rename_i hn
        cases h
        exact ⟨v, hv, hn, rfl⟩
    · cases h
  · rintro ⟨v, hv, hn, h2⟩
    refine ⟨q.1, (List.getElem?_eq_some_iff.mp hv).1, ?_⟩
    rw [hv]
    simp only [hn, if_false]
    rw [← h2]
theorem zLoc.has {G : zG} {lc : List Value} {ls : Array Slot} {nL : Nat} (h : zLoc G lc ls nL) : lv_has ls nL (zLl G lc) := ⟨h.1, h.2.2.1, fun q hq => by
  obtain ⟨v, h1, h2, h3⟩ := zLl_mem.mp hq
  rw [h3]
  exact h.2.2.2 q.1 v h1 h2⟩
theorem zLoc.at {G : zG} {lc : List Value} {ls : Array Slot} {nL i : Nat} {v : Value} (h : zLoc G lc ls nL) (hi : lc[i]? = some v) (hn : v ≠ .retAddr 0) : ls[i]? = some (.val (zcv G v)) := h.2.2.2 i v hi hn
theorem zLoc.put {G : zG} {lc : List Value} {ls ls' : Array Slot} {nL i : Nat} {v : Value} (h : zLoc G lc ls nL) (hf : zfree lc i = true) (h' : lv_has ls' nL ((i, zcv G v) :: (zLl G lc).filter (fun q => !(q.1 == i) && !(q.1 + 1 == i && q.2.category == 2)))) : zLoc G (lc.set i v) ls' nL := by
  refine ⟨h'.1, by simp [h.2.1], h'.2.1, fun j w hj hw => ?_⟩
  simp only [zfree, Bool.and_eq_true, decide_eq_true_eq] at hf
  by_cases hij : i = j
  · subst hij
    rw [List.getElem?_set_self hf.1] at hj
    cases hj
    exact h'.2.2 (i, zcv G v) List.mem_cons_self
  · rw [List.getElem?_set_ne hij] at hj
    refine h'.2.2 (j, zcv G w) (List.mem_cons_of_mem _ (List.mem_filter.mpr ⟨zLl_mem.mpr ⟨w, hj, hw, rfl⟩, ?_⟩))
    simp only [Bool.and_eq_true, Bool.not_eq_true', beq_eq_false_iff_ne, Bool.and_eq_false_imp, beq_iff_eq]
    refine ⟨fun z => hij z.symm, fun z => ?_⟩
    have h2 := hf.2
    rw [← z] at h2
    simp only [hj] at h2
    rw [zcv_cat]
    simp only [beq_iff_eq] at h2
    omega
theorem zLoc.putl {G : zG} {lc : List Value} {ls ls' : Array Slot} {nL i : Nat} {x : Int64} (h : zLoc G lc ls nL) (hf : zfree lc i = true) (h' : lv_has ls' nL ((i, Value.long x) :: (zLl G lc).filter (fun q => !(q.1 == i) && (!(q.1 == i + 1) && !(q.1 + 1 == i && q.2.category == 2))))) : zLoc G ((lc.set i (.long x)).set (i + 1) (.retAddr 0)) ls' nL := by
  refine ⟨h'.1, by simp [h.2.1], h'.2.1, fun j w hj hw => ?_⟩
  simp only [zfree, Bool.and_eq_true, decide_eq_true_eq] at hf
  by_cases hij1 : i + 1 = j
  · subst hij1
    rw [List.getElem?_set] at hj
    simp only [if_true] at hj
    split at hj
    · cases hj; exact absurd rfl hw
    · cases hj
  · rw [List.getElem?_set_ne hij1] at hj
    by_cases hij : i = j
    · subst hij
      rw [List.getElem?_set_self hf.1] at hj
      cases hj
      exact h'.2.2 (i, Value.long x) List.mem_cons_self
    · rw [List.getElem?_set_ne hij] at hj
      refine h'.2.2 (j, zcv G w) (List.mem_cons_of_mem _ (List.mem_filter.mpr ⟨zLl_mem.mpr ⟨w, hj, hw, rfl⟩, ?_⟩))
      simp only [Bool.and_eq_true, Bool.not_eq_true', beq_eq_false_iff_ne, Bool.and_eq_false_imp, beq_iff_eq]
      refine ⟨fun z => hij z.symm, fun z => hij1 z.symm, fun z => ?_⟩
      have h2 := hf.2
      rw [← z] at h2
      simp only [hj] at h2
      rw [zcv_cat]
      simp only [beq_iff_eq] at h2
      omega
/-! what a method's walk stands on -/
def zFx (G : zG) (E : zE) (h0 : zH) (y : MethodName) (bs : ByteArray) (nL : Nat) (rt : Option FieldType) (p : Program) (s : State) (m : MethodId) (args : Array Value) (meth : Method) (c : Code) : Prop :=
  p.tables.exec = Jvm.exec ∧ c.code = bs ∧ c.maxLocals = nL ∧ meth.sig.returnType = rt ∧ s.vm.findClass y.cls = some m.cls ∧ (∀ w ∈ zgw, w.before args s = true) ∧ (y.name = "<init>" → meth.name = "<init>") ∧ zKn G s ∧ s.heap.size = G.2.1 + h0.length ∧ (y.cls = "NineDownLaw" → va_X G.2.2.1 E.1 E.2 s s.heap ∧ G.2.2.1 < s.heap.size ∧ ¬ G.2.1 ≤ G.2.2.1)
def zRm (R : Room) (fr lo : Nat) (h0 h' : zH) : Prop := fr ≤ R.frames ∧ lo ≤ R.locals ∧ h'.length - h0.length ≤ R.cells ∧ zsl h' - zsl h0 ≤ R.slots
/-- the return instruction of a method at a place, with what it gives -/
def zisr (bs : ByteArray) (rt : Option FieldType) (pc : Nat) (v : Option Value) : Prop :=
  (decode bs pc = .ok (.ireturn, 1) ∧ rt = some .int ∧ ∃ x, v = some (.int x)) ∨ (decode bs pc = .ok (.ireturn, 1) ∧ rt = some .boolean ∧ ∃ x, v = some (.int x) ∧ (x = 0 ∨ x = 1)) ∨ (decode bs pc = .ok (.lreturn, 1) ∧ rt = some .long ∧ ∃ x, v = some (.long x)) ∨ (decode bs pc = .ok (.areturn, 1) ∧ (∃ n, rt = some (.object n)) ∧ (v = some .null ∨ ∃ a, v = some (.ref a))) ∨ (decode bs pc = .ok (.return_, 1) ∧ rt = none ∧ v = none)
abbrev zMi : Type := MethodName × ByteArray × Nat × Option FieldType × Nat × Nat
/-- how far the walk has come, and where it goes on -/
abbrev zWat (G : zG) (mi : zMi) (h0 : zH) (p : Program) (l : Launch) (e : Env) (R : Room) (s : State) (m : MethodId) (args : Array Value) (below : List Frame) (meth : Method) (c : Code) (Q : State → Prop) (st : zS) : Prop :=
  ∀ (H : Heap) (locs : List Loc) (ls : Array Slot), zRel G st.2.2.2 H → va_S (zAA G) s.heap H locs → zLoc G st.2.1 ls mi.2.2.1 → W p l e R s m args below meth c H locs (st.2.2.2.length - h0.length) (zsl st.2.2.2 - zsl h0) Q (F0 m st.1 ls (st.2.2.1.map (zcv G)))
abbrev zRet (G : zG) (mi : zMi) (h0 : zH) (p : Program) (l : Launch) (e : Env) (R : Room) (s : State) (m : MethodId) (args : Array Value) (below : List Frame) (meth : Method) (c : Code) (Q : State → Prop) (r : zR) : Prop :=
  ∀ (pc : Nat), zisr mi.2.1 mi.2.2.2.1 pc r.1 → ∀ (H : Heap) (locs : List Loc) (ls : Array Slot), zRel G r.2 H → va_S (zAA G) s.heap H locs → W p l e R s m args below meth c H locs (r.2.length - h0.length) (zsl r.2 - zsl h0) Q (F0 m pc ls (r.1.toList.map (zcv G)))
/-- from st the method comes to the return with r -/
def zEv (E : zE) (mi : zMi) (h0 : zH) (st : zS) (r : zR) : Prop := zle st.2.2.2 r.2 ∧ (zle h0 st.2.2.2 → ∀ (G : zG) (p : Program) (l : Launch) (e : Env) (R : Room) (s : State) (m : MethodId) (args : Array Value) (below : List Frame) (meth : Method) (c : Code) (Q : State → Prop), zFx G E h0 mi.1 mi.2.1 mi.2.2.1 mi.2.2.2.1 p s m args meth c → zRm R mi.2.2.2.2.1 mi.2.2.2.2.2 h0 r.2 → zRet G mi h0 p l e R s m args below meth c Q r → zWat G mi h0 p l e R s m args below meth c Q st)
/-- one step of the walk -/
abbrev zRow (E : zE) (mi : zMi) (h0 : zH) (st st' : zS) : Prop := ∀ (G : zG) (p : Program) (l : Launch) (e : Env) (R : Room) (s : State) (m : MethodId) (args : Array Value) (below : List Frame) (meth : Method) (c : Code) (Q : State → Prop), zle h0 st.2.2.2 → zFx G E h0 mi.1 mi.2.1 mi.2.2.1 mi.2.2.2.1 p s m args meth c → zRm R mi.2.2.2.2.1 mi.2.2.2.2.2 h0 st'.2.2.2 → zWat G mi h0 p l e R s m args below meth c Q st' → zWat G mi h0 p l e R s m args below meth c Q st
theorem zEv.of {E : zE} {mi : zMi} {h0 : zH} {st st' : zS} {r : zR} (hle : zle st.2.2.2 st'.2.2.2) (row : zRow E mi h0 st st') (h : zEv E mi h0 st' r) : zEv E mi h0 st r := by
  refine ⟨hle.tr h.1, fun h0l G p l e R s m args below meth c Q hF hR hQ => ?_⟩
  refine row G p l e R s m args below meth c Q h0l hF ⟨hR.1, hR.2.1, ?_, ?_⟩ (h.2 (h0l.tr hle) G p l e R s m args below meth c Q hF hR hQ)
  · have h1 := h.1.1
    have h2 := hR.2.2.1
    omega
  · have h1 := h.1.2
    have h2 := hR.2.2.2
    omega
abbrev zSK (E : zE) (mi : zMi) (h0 : zH) (k : zK) : Prop := ∀ st r, k st = some r → zEv E mi h0 st r
