/-! READING AND WRITING THE LIST OF CELLS -/
/-- a field's new value -/
def zpf (h : zH) (a f : Nat) (v : Value) : zH := match h[a]? with
  | some (.inl (c, fs)) => h.set a (.inl (c, fs.set f v))
  | _ => h
/-- a number row's new item -/
def zpa (h : zH) (a i : Nat) (v : Int32) : zH := match h[a]? with
  | some (.inr (.inl (t, n, f))) => h.set a (.inr (.inl (t, n, upd f i v)))
  | _ => h
theorem zpf_len {h : zH} {a f : Nat} {v : Value} : (zpf h a f v).length = h.length := by
  unfold zpf
  split <;> simp
theorem zpa_len {h : zH} {a i : Nat} {v : Int32} : (zpa h a i v).length = h.length := by
  unfold zpa
  split <;> simp
theorem zpf_o {h : zH} {a b f : Nat} {v : Value} (hn : a ≠ b) : (zpf h a f v)[b]? = h[b]? := by
  unfold zpf
  split
  · rw [List.getElem?_set_ne hn]
  · rfl
theorem zpa_o {h : zH} {a b i : Nat} {v : Int32} (hn : a ≠ b) : (zpa h a i v)[b]? = h[b]? := by
  unfold zpa
  split
  · rw [List.getElem?_set_ne hn]
  · rfl
theorem zfld_c {h h' : zH} {a f : Nat} {cs : List Nat} (e : h'[a]? = h[a]?) : zfld cs h' a f = zfld cs h a f := by unfold zfld; rw [e]
theorem zarr_c {h h' : zH} {a t : Nat} {i : Int32} (e : h'[a]? = h[a]?) : zarr t h' a i = zarr t h a i := by unfold zarr; rw [e]
theorem zara_c {h h' : zH} {a : Nat} {i : Int32} (e : h'[a]? = h[a]?) : zara h' a i = zara h a i := by unfold zara; rw [e]
theorem zcls_c {h h' : zH} {a : Nat} (e : h'[a]? = h[a]?) : zcls h' a = zcls h a := by unfold zcls; rw [e]
theorem zpf_at {h : zH} {a f c : Nat} {fs : List Value} {v : Value} (e : h[a]? = some (.inl (c, fs))) : (zpf h a f v)[a]? = some (.inl (c, fs.set f v)) := by
  unfold zpf
  rw [e]
  exact List.getElem?_set_self (List.getElem?_eq_some_iff.mp e).1
theorem zpa_at {h : zH} {a i t n : Nat} {f : Nat → Int32} {v : Int32} (e : h[a]? = some (.inr (.inl (t, n, f)))) : (zpa h a i v)[a]? = some (.inr (.inl (t, n, upd f i v))) := by
  unfold zpa
  rw [e]
  exact List.getElem?_set_self (List.getElem?_eq_some_iff.mp e).1
theorem zfld_inv {h : zH} {a f : Nat} {cs : List Nat} {w : Value} (e : zfld cs h a f = some w) : ∃ c fs, h[a]? = some (.inl (c, fs)) ∧ cs.contains c = true ∧ fs[f]? = some w := by
  unfold zfld at e
  split at e
  · rename_i c fs hc
    split at e
    · rename_i hcs
      exact ⟨c, fs, hc, hcs, e⟩
    · cases e
  · cases e
/-- a field is there, and takes a value: it is written -/
theorem zstf_ok {h : zH} {a f ty : Nat} {cs : List Nat} {v w : Value} (e : zfld cs h a f = some w) (hv : zfits ty v = true) : zstf cs ty h a f v = some (zpf h a f v) := by
  obtain ⟨c, fs, h1, h2, h3⟩ := zfld_inv e
  unfold zstf zpf
  rw [h1]
  simp only [h2, hv, (List.getElem?_eq_some_iff.mp h3).1, decide_true, Bool.and_true, if_true]
theorem zfits_i {x : Int32} : zfits 0 (.int x) = true := rfl
theorem zfits_r {x : Nat} : zfits 2 (.ref x) = true := rfl
theorem zfits_0 : zfits 1 (.int 0) = true := rfl
theorem zfits_1 : zfits 1 (.int 1) = true := rfl
/-- what a field is behind a write of it -/
theorem zfld_same {h : zH} {a f : Nat} {cs : List Nat} {v : Value} : zfld cs (zpf h a f v) a f = (zfld cs h a f).map (fun _ => v) := by
  cases hq : h[a]? with
  | none =>
    have : zpf h a f v = h := by unfold zpf; rw [hq]
    rw [this]; unfold zfld; rw [hq]; rfl
  | some c =>
    match c, hq with
    | .inl (c, fs), hq =>
      unfold zfld
      rw [zpf_at hq, hq]
      dsimp only
      split
      · rw [List.getElem?_set]
        simp only [if_true]
        split
        · rename_i hl
          rw [List.getElem?_eq_getElem hl]; rfl
        · rename_i hl
          rw [List.getElem?_eq_none (by omega)]; rfl
      · rfl
    | .inr q, hq =>
      have : zpf h a f v = h := by unfold zpf; rw [hq]
      rw [this]; unfold zfld; rw [hq]; rfl
theorem zfld_f {h : zH} {a f g : Nat} {cs : List Nat} {v : Value} (hn : f ≠ g) : zfld cs (zpf h a f v) a g = zfld cs h a g := by
  cases hq : h[a]? with
  | none =>
    have : zpf h a f v = h := by unfold zpf; rw [hq]
    rw [this]
  | some c =>
    match c, hq with
    | .inl (c, fs), hq =>
      unfold zfld
      rw [zpf_at hq, hq]
      dsimp only
      rw [List.getElem?_set_ne hn]
    | .inr q, hq =>
      have : zpf h a f v = h := by unfold zpf; rw [hq]
      rw [this]
theorem zfld_a {h : zH} {a b f g : Nat} {cs : List Nat} {v : Value} (hn : a ≠ b) : zfld cs (zpf h a f v) b g = zfld cs h b g := zfld_c (zpf_o hn)
theorem zfld_pa {h : zH} {a b i g : Nat} {cs : List Nat} {v : Int32} : zfld cs (zpa h a i v) b g = zfld cs h b g := by
  by_cases hn : a = b
  · subst hn
    unfold zpa
    split
    · rename_i t n f hq
      unfold zfld
      rw [List.getElem?_set_self (List.getElem?_eq_some_iff.mp hq).1, hq]
    · rfl
  · exact zfld_c (zpa_o hn)
theorem zarr_pf {h : zH} {a b f t : Nat} {i : Int32} {v : Value} : zarr t (zpf h a f v) b i = zarr t h b i := by
  by_cases hn : a = b
  · subst hn
    unfold zpf
    split
    · rename_i c fs hq
      unfold zarr
      rw [List.getElem?_set_self (List.getElem?_eq_some_iff.mp hq).1, hq]
    · rfl
  · exact zarr_c (zpf_o hn)
theorem zara_pf {h : zH} {a b f : Nat} {i : Int32} {v : Value} : zara (zpf h a f v) b i = zara h b i := by
  by_cases hn : a = b
  · subst hn
    unfold zpf
    split
    · rename_i c fs hq
      unfold zara
      rw [List.getElem?_set_self (List.getElem?_eq_some_iff.mp hq).1, hq]
    · rfl
  · exact zara_c (zpf_o hn)
theorem zara_pa {h : zH} {a b j : Nat} {i : Int32} {v : Int32} : zara (zpa h a j v) b i = zara h b i := by
  by_cases hn : a = b
  · subst hn
    unfold zpa
    split
    · rename_i t n f hq
      unfold zara
      rw [List.getElem?_set_self (List.getElem?_eq_some_iff.mp hq).1, hq]
    · rfl
  · exact zara_c (zpa_o hn)
theorem zcls_pf {h : zH} {a b f : Nat} {v : Value} : zcls (zpf h a f v) b = zcls h b := by
  by_cases hn : a = b
  · subst hn
    unfold zpf
    split
    · rename_i c fs hq
      unfold zcls
      rw [List.getElem?_set_self (List.getElem?_eq_some_iff.mp hq).1, hq]
    · rfl
  · exact zcls_c (zpf_o hn)
theorem zcls_pa {h : zH} {a b i : Nat} {v : Int32} : zcls (zpa h a i v) b = zcls h b := by
  by_cases hn : a = b
  · subst hn
    unfold zpa
    split
    · rename_i t n f hq
      unfold zcls
      rw [List.getElem?_set_self (List.getElem?_eq_some_iff.mp hq).1, hq]
    · rfl
  · exact zcls_c (zpa_o hn)
/-- a number row: its length and what it holds -/
def zrow (t : Nat) (h : zH) (a n : Nat) (f : Nat → Int32) : Prop := ∃ g, h[a]? = some (.inr (.inl (t, n, g))) ∧ ∀ j, j < n → g j = f j
theorem zrow_c {t : Nat} {h h' : zH} {a n : Nat} {f : Nat → Int32} (e : h'[a]? = h[a]?) (hr : zrow t h a n f) : zrow t h' a n f := by
  obtain ⟨g, h1, h2⟩ := hr
  exact ⟨g, e.trans h1, h2⟩
theorem zrow_ext {t : Nat} {h : zH} {a n : Nat} {f g : Nat → Int32} (hr : zrow t h a n f) (e : ∀ j, j < n → f j = g j) : zrow t h a n g := by
  obtain ⟨q, h1, h2⟩ := hr
  exact ⟨q, h1, fun j hj => (h2 j hj).trans (e j hj)⟩
theorem zix_nI {j n : Nat} (h : j < n) (hn : n < 2 ^ 31) : zix (nI j) n = true := by
  have h1 := nI_pos (n := j) (by omega)
  simp only [zix, h1, nI_clamp (show j < 2 ^ 31 by omega), h, decide_true, decide_false, Bool.not_false, Bool.and_self]
theorem zarr_at {t : Nat} {h : zH} {a n j : Nat} {f : Nat → Int32} (hr : zrow t h a n f) (hj : j < n) (hn : n < 2 ^ 31) : zarr t h a (nI j) = some (f j) := by
  obtain ⟨g, h1, h2⟩ := hr
  unfold zarr
  rw [h1]
  simp only [beq_self_eq_true, zix_nI hj hn, Bool.and_self, if_true, nI_clamp (show j < 2 ^ 31 by omega), h2 j hj]
theorem zars_at {t : Nat} {h : zH} {a n j : Nat} {f : Nat → Int32} {x : Int32} (hr : zrow t h a n f) (hj : j < n) (hn : n < 2 ^ 31) (hx : zfits t (.int x) = true) : zars t h a (nI j) x = some (zpa h a j x) := by
  obtain ⟨g, h1, h2⟩ := hr
  unfold zars zpa
  rw [h1]
  simp only [beq_self_eq_true, zix_nI hj hn, hx, Bool.and_self, if_true, nI_clamp (show j < 2 ^ 31 by omega)]
theorem zrow_pa {t : Nat} {h : zH} {a n j : Nat} {f : Nat → Int32} {x : Int32} (hr : zrow t h a n f) : zrow t (zpa h a j x) a n (upd f j x) := by
  obtain ⟨g, h1, h2⟩ := hr
  refine ⟨_, zpa_at h1, fun i hi => ?_⟩
  unfold upd
  split
  · rfl
  · exact h2 i hi
theorem zrow_pf {t : Nat} {h : zH} {a b n f' : Nat} {f : Nat → Int32} {v : Value} (hr : zrow t h b n f) : zrow t (zpf h a f' v) b n f := by
  by_cases hn : a = b
  · subst hn
    obtain ⟨g, h1, h2⟩ := hr
    unfold zpf
    rw [h1]
    exact ⟨g, h1, h2⟩
  · exact zrow_c (zpf_o hn) hr
theorem zrow_o {t : Nat} {h : zH} {a b n j : Nat} {f : Nat → Int32} {x : Int32} (hn : a ≠ b) (hr : zrow t h b n f) : zrow t (zpa h a j x) b n f := zrow_c (zpa_o hn) hr
