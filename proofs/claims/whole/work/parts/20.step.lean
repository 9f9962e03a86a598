/-! STEPS AS EQUATIONS, for reasoning about runs -/
def zfld (cs : List Nat) (h : zH) (a f : Nat) : Option Value := match h[a]? with
  | some (.inl (c, fs)) => if cs.contains c = true then fs[f]? else none
  | _ => none
def zstf (cs : List Nat) (ty : Nat) (h : zH) (a f : Nat) (v : Value) : Option zH := match h[a]? with
  | some (.inl (c, fs)) => if (cs.contains c && zfits ty v && decide (f < fs.length)) = true then some (h.set a (.inl (c, fs.set f v))) else none
  | _ => none
def zarr (t : Nat) (h : zH) (a : Nat) (i : Int32) : Option Int32 := match h[a]? with
  | some (.inr (.inl (t', n, f))) => if (t' == t && zix i n) = true then some (f i.toNatClampNeg) else none
  | _ => none
def zars (t : Nat) (h : zH) (a : Nat) (i x : Int32) : Option zH := match h[a]? with
  | some (.inr (.inl (t', n, f))) => if (t' == t && zix i n && zfits t (.int x)) = true then some (h.set a (.inr (.inl (t, n, upd f i.toNatClampNeg x)))) else none
  | _ => none
def zara (h : zH) (a : Nat) (i : Int32) : Option Value := match h[a]? with
  | some (.inr (.inr (t, n, f))) => if (zix i n && zart t) = true then some (va_rf (f i.toNatClampNeg)) else none
  | _ => none
def zaro (h : zH) (a : Nat) (i : Int32) (v : Value) : Option zH := match v with
  | .ref v => match h[a]?, h[v]? with
    | some (.inr (.inr (t, n, f))), some (.inl (c, _)) => if (zix i n && zmay t c) = true then some (h.set a (.inr (.inr (t, n, va_up f i.toNatClampNeg (some v))))) else none
    | _, _ => none
  | .null => match h[a]? with
    | some (.inr (.inr (t, n, f))) => if (zix i n && zart t) = true then some (h.set a (.inr (.inr (t, n, va_up f i.toNatClampNeg none)))) else none
    | _ => none
  | _ => none
def zcls (h : zH) (a : Nat) : Option Nat := match h[a]? with
  | some (.inl (c, _)) => some c
  | _ => none
def zcpa (h : zH) (a b : Nat) (sp dp n : Int32) : Option zH := match h[a]?, h[b]? with
  | some (.inr (.inl (0, n0, f))), some (.inr (.inl (0, n1, g))) =>
    if n < 0 ∨ dp < 0 ∨ sp < 0 ∨ n0 < sp.toNatClampNeg + n.toNatClampNeg ∨ n1 < dp.toNatClampNeg + n.toNatClampNeg then none
    else some (h.set b (.inr (.inl (0, n1, va_cpy f g sp.toNatClampNeg dp.toNatClampNeg n.toNatClampNeg))))
  | _, _ => none
section ZGG
variable {E : zE} {M pc nx : Nat} {im : Int} {inf : List Nat} {ls sk : List Value} {h : zH}
theorem zrun_at {i : zI} (hc : zcode zpp M pc = some i) : zrun zpp E M (pc, ls, sk, h) = zstep E (zcall zpp E) i (pc, ls, sk, h) (zrun zpp E M) := by
  rw [zrun_eq, zgo, hc]
theorem zg_null (hc : zcode zpp M pc = some (.aconst_null, nx, im, inf)) : zrun zpp E M (pc, ls, sk, h) = zrun zpp E M (nx, ls, .null :: sk, h) := zrun_at hc
theorem zg_iconst {n : Int} {v : Int32} (hc : zcode zpp M pc = some (.iconst n, nx, im, inf)) (hv : Int32.ofInt n = v) : zrun zpp E M (pc, ls, sk, h) = zrun zpp E M (nx, ls, .int v :: sk, h) := by rw [← hv]; exact zrun_at hc
theorem zg_bipush {n : Int} {v : Int32} (hc : zcode zpp M pc = some (.bipush n, nx, im, inf)) (hv : Int32.ofInt n = v) : zrun zpp E M (pc, ls, sk, h) = zrun zpp E M (nx, ls, .int v :: sk, h) := by rw [← hv]; exact zrun_at hc
theorem zg_sipush {n : Int} {v : Int32} (hc : zcode zpp M pc = some (.sipush n, nx, im, inf)) (hv : Int32.ofInt n = v) : zrun zpp E M (pc, ls, sk, h) = zrun zpp E M (nx, ls, .int v :: sk, h) := by rw [← hv]; exact zrun_at hc
theorem zg_ldc {ix : Nat} {n : Int} {v : Int32} (hc : zcode zpp M pc = some (.ldc ix, nx, n, inf)) (hv : Int32.ofInt n = v) : zrun zpp E M (pc, ls, sk, h) = zrun zpp E M (nx, ls, .int v :: sk, h) := by rw [← hv]; exact zrun_at hc
theorem zg_ldc_w {ix : Nat} {n : Int} {v : Int32} (hc : zcode zpp M pc = some (.ldc_w ix, nx, n, inf)) (hv : Int32.ofInt n = v) : zrun zpp E M (pc, ls, sk, h) = zrun zpp E M (nx, ls, .int v :: sk, h) := by rw [← hv]; exact zrun_at hc
theorem zg_ldc2_w {ix : Nat} {n : Int} {v : Int64} (hc : zcode zpp M pc = some (.ldc2_w ix, nx, n, inf)) (hv : Int64.ofInt n = v) : zrun zpp E M (pc, ls, sk, h) = zrun zpp E M (nx, ls, .long v :: sk, h) := by rw [← hv]; exact zrun_at hc
theorem zg_lconst {n : Fin 2} {v : Int64} (hc : zcode zpp M pc = some (.lconst n, nx, im, inf)) (hv : Int64.ofNat n = v) : zrun zpp E M (pc, ls, sk, h) = zrun zpp E M (nx, ls, .long v :: sk, h) := by rw [← hv]; exact zrun_at hc
theorem zg_ist {i : Nat} {x : Int32} {ins : Instr} (hc : zcode zpp M pc = some (ins, nx, im, inf)) (hi : ∀ c st k, zstep E c (ins, nx, im, inf) st k = z_ist i nx st k) : zrun zpp E M (pc, ls, .int x :: sk, h) = if zfree ls i = true then zrun zpp E M (nx, ls.set i (.int x), sk, h) else none := by rw [zrun_at hc, hi]; rfl
theorem zg_astr {i : Nat} {x : Nat} {ins : Instr} (hc : zcode zpp M pc = some (ins, nx, im, inf)) (hi : ∀ c st k, zstep E c (ins, nx, im, inf) st k = z_ast i nx st k) : zrun zpp E M (pc, ls, .ref x :: sk, h) = if zfree ls i = true then zrun zpp E M (nx, ls.set i (.ref x), sk, h) else none := by rw [zrun_at hc, hi]; rfl
theorem zg_astn {i : Nat} {ins : Instr} (hc : zcode zpp M pc = some (ins, nx, im, inf)) (hi : ∀ c st k, zstep E c (ins, nx, im, inf) st k = z_ast i nx st k) : zrun zpp E M (pc, ls, .null :: sk, h) = if zfree ls i = true then zrun zpp E M (nx, ls.set i .null, sk, h) else none := by rw [zrun_at hc, hi]; rfl
theorem zg_lst {i : Nat} {x : Int64} {ins : Instr} (hc : zcode zpp M pc = some (ins, nx, im, inf)) (hi : ∀ c st k, zstep E c (ins, nx, im, inf) st k = z_lst i nx st k) : zrun zpp E M (pc, ls, .long x :: sk, h) = if (zfree ls i && decide (i + 1 < ls.length)) = true then zrun zpp E M (nx, (ls.set i (.long x)).set (i + 1) (.retAddr 0), sk, h) else none := by rw [zrun_at hc, hi]; rfl
theorem zg_getf {ix f a : Nat} {cs : List Nat} (hc : zcode zpp M pc = some (.getfield ix, nx, im, f :: cs)) : zrun zpp E M (pc, ls, .ref a :: sk, h) = (zfld cs h a f).bind (fun v => zrun zpp E M (nx, ls, v :: sk, h)) := by
  rw [zrun_at hc]
  simp only [zstep, z_getf, zfld]
  rcases h[a]? with _ | ⟨c, fs⟩ | q
  · rfl
  · dsimp only
    by_cases hcs : cs.contains c = true
    · simp only [hcs, if_true]
      cases fs[f]? <;> rfl
    · simp only [hcs, if_false]
      rfl
  · rfl
theorem zg_putf {ix f ty a : Nat} {cs : List Nat} {v : Value} (hc : zcode zpp M pc = some (.putfield ix, nx, im, f :: ty :: cs)) : zrun zpp E M (pc, ls, v :: .ref a :: sk, h) = (zstf cs ty h a f v).bind (fun h' => zrun zpp E M (nx, ls, sk, h')) := by
  rw [zrun_at hc]
  simp only [zstep, z_putf, zstf]
  rcases h[a]? with _ | ⟨c, fs⟩ | q
  · rfl
  · dsimp only
    split <;> rfl
  · rfl
theorem zg_iald {a : Nat} {i : Int32} (hc : zcode zpp M pc = some (.iaload, nx, 0, inf)) : zrun zpp E M (pc, ls, .int i :: .ref a :: sk, h) = (zarr 0 h a i).bind (fun x => zrun zpp E M (nx, ls, .int x :: sk, h)) := by
  rw [zrun_at hc]
  simp only [zstep, z_nald, zarr]
  rcases h[a]? with _ | q | ⟨t, n, f⟩ | q
  · rfl
  · rfl
  · dsimp only
    split <;> rfl
  · rfl
theorem zg_bald {a : Nat} {i : Int32} (hc : zcode zpp M pc = some (.baload, nx, im, inf)) : zrun zpp E M (pc, ls, .int i :: .ref a :: sk, h) = (zarr 1 h a i).bind (fun x => zrun zpp E M (nx, ls, .int x :: sk, h)) := by
  rw [zrun_at hc]
  simp only [zstep, z_nald, zarr]
  rcases h[a]? with _ | q | ⟨t, n, f⟩ | q
  · rfl
  · rfl
  · dsimp only
    split <;> rfl
  · rfl
theorem zg_sald {i : Int32} {f : UInt32} (hc : zcode zpp M pc = some (.iaload, nx, 1, inf)) : zrun zpp E M (pc, ls, .int i :: .float f :: sk, h) = if zix i E.1 = true then zrun zpp E M (nx, ls, .int (E.2 i.toNatClampNeg) :: sk, h) else none := zrun_at hc
theorem zg_slen {f : UInt32} (hc : zcode zpp M pc = some (.arraylength, nx, im, inf)) : zrun zpp E M (pc, ls, .float f :: sk, h) = zrun zpp E M (nx, ls, .int (Int32.ofNat E.1) :: sk, h) := zrun_at hc
theorem zg_iast {a : Nat} {i x : Int32} (hc : zcode zpp M pc = some (.iastore, nx, im, inf)) : zrun zpp E M (pc, ls, .int x :: .int i :: .ref a :: sk, h) = (zars 0 h a i x).bind (fun h' => zrun zpp E M (nx, ls, sk, h')) := by
  rw [zrun_at hc]
  simp only [zstep, z_nast, zars]
  rcases h[a]? with _ | q | ⟨t, n, f⟩ | q
  · rfl
  · rfl
  · dsimp only
    split <;> rfl
  · rfl
theorem zg_bast {a : Nat} {i x : Int32} (hc : zcode zpp M pc = some (.bastore, nx, im, inf)) : zrun zpp E M (pc, ls, .int x :: .int i :: .ref a :: sk, h) = (zars 1 h a i x).bind (fun h' => zrun zpp E M (nx, ls, sk, h')) := by
  rw [zrun_at hc]
  simp only [zstep, z_nast, zars]
  rcases h[a]? with _ | q | ⟨t, n, f⟩ | q
  · rfl
  · rfl
  · dsimp only
    split <;> rfl
  · rfl
theorem zg_aald {a : Nat} {i : Int32} (hc : zcode zpp M pc = some (.aaload, nx, im, inf)) : zrun zpp E M (pc, ls, .int i :: .ref a :: sk, h) = (zara h a i).bind (fun v => zrun zpp E M (nx, ls, v :: sk, h)) := by
  rw [zrun_at hc]
  simp only [zstep, z_aald, zara]
  rcases h[a]? with _ | q | q | ⟨t, n, f⟩
  · rfl
  · rfl
  · rfl
  · dsimp only
    split <;> rfl
theorem zg_aast {a : Nat} {i : Int32} {v : Value} (hc : zcode zpp M pc = some (.aastore, nx, im, inf)) : zrun zpp E M (pc, ls, v :: .int i :: .ref a :: sk, h) = (zaro h a i v).bind (fun h' => zrun zpp E M (nx, ls, sk, h')) := by
  rw [zrun_at hc]
  cases v with
  | ref v =>
    simp only [zstep, z_aast, zaro]
    rcases h[a]? with _ | q | q | ⟨t, n, f⟩
    · rfl
    · rfl
    · rfl
    · rcases h[v]? with _ | ⟨c, fs⟩ | q
      · rfl
      · dsimp only
        split <;> rfl
      · rfl
  | null =>
    simp only [zstep, z_aast, zaro]
    rcases h[a]? with _ | q | q | ⟨t, n, f⟩
    · rfl
    · rfl
    · rfl
    · dsimp only
      split <;> rfl
  | _ => rfl
theorem zg_newa {n : Int32} (hc : zcode zpp M pc = some (.newarray .int, nx, im, inf)) : zrun zpp E M (pc, ls, .int n :: sk, h) = if zix n 65536 = true then zrun zpp E M (nx, ls, .ref h.length :: sk, h ++ [.inr (.inl (0, n.toNatClampNeg, fun _ => 0))]) else none := zrun_at hc
theorem zg_newb {n : Int32} (hc : zcode zpp M pc = some (.newarray .boolean, nx, im, inf)) : zrun zpp E M (pc, ls, .int n :: sk, h) = if zix n 65536 = true then zrun zpp E M (nx, ls, .ref h.length :: sk, h ++ [.inr (.inl (1, n.toNatClampNeg, fun _ => 0))]) else none := zrun_at hc
theorem zg_newr {n : Int32} {ix t : Nat} (hc : zcode zpp M pc = some (.anewarray ix, nx, im, [t])) : zrun zpp E M (pc, ls, .int n :: sk, h) = if zix n 65536 = true then zrun zpp E M (nx, ls, .ref h.length :: sk, h ++ [.inr (.inr (t, n.toNatClampNeg, fun _ => none))]) else none := zrun_at hc
theorem zg_new {ix c : Nat} (hc : zcode zpp M pc = some (.new ix, nx, im, [c])) : zrun zpp E M (pc, ls, sk, h) = zrun zpp E M (nx, ls, .ref h.length :: sk, h ++ [.inl (c, zborn c)]) := zrun_at hc
theorem zg_inst {ix n a : Nat} {cs : List Nat} (hc : zcode zpp M pc = some (.instanceof ix, nx, im, n :: cs)) : zrun zpp E M (pc, ls, .ref a :: sk, h) = (zcls h a).bind (fun c => if (cs.take n).contains c = true then zrun zpp E M (nx, ls, .int 1 :: sk, h) else if (cs.drop n).contains c = true then zrun zpp E M (nx, ls, .int 0 :: sk, h) else none) := by
  rw [zrun_at hc]
  simp only [zstep, z_inst, zcls]
  rcases h[a]? with _ | ⟨c, fs⟩ | q <;> rfl
theorem zg_obj {ix a : Nat} (hc : zcode zpp M pc = some (.invokespecial ix, nx, 1, inf)) : zrun zpp E M (pc, ls, .ref a :: sk, h) = if zlow sk = true then zrun zpp E M (nx, ls, sk, h) else none := zrun_at hc
theorem zg_copy {ix a b : Nat} {n dp sp : Int32} (hl : zlow sk = true) (hc : zcode zpp M pc = some (.invokestatic ix, nx, 1, inf)) : zrun zpp E M (pc, ls, .int n :: .int dp :: .ref b :: .int sp :: .ref a :: sk, h) = (zcpa h a b sp dp n).bind (fun h' => zrun zpp E M (nx, ls, sk, h')) := by
  rw [zrun_at hc]
  simp only [zstep, z_copy, zcpa, hl]
  rcases h[a]? with _ | q | ⟨t, n0, f⟩ | q
  · rfl
  · rfl
  · rcases t with _ | t
    · rcases h[b]? with _ | q | ⟨t, n1, g⟩ | q
      · rfl
      · rfl
      · rcases t with _ | t
        · simp only [Bool.true_eq_false, or_false]
          split <;> rfl
        · rfl
      · rfl
    · rfl
  · rfl
/-- what a call gives, and the run behind it -/
noncomputable def zcl1 (E : zE) (M nx M' : Nat) (ls sk as : List Value) (h : zH) : Option zR := if zlow sk = true then (zcall zpp E M' as h).bind (fun r => zrun zpp E M (nx, ls, r.1.toList ++ sk, r.2)) else none
theorem zcl1_ok {M' : Nat} {as : List Value} {r : zR} (hl : zlow sk = true) (hc : zcall zpp E M' as h = some r) : zcl1 E M nx M' ls sk as h = zrun zpp E M (nx, ls, r.1.toList ++ sk, r.2) := by
  rw [zcl1, if_pos hl, hc]; rfl
theorem zg_inv {ix n M' : Nat} {as rest : List Value} {inf' : List Nat} (hn : as.length = n) (hc : zcode zpp M pc = some (.invokestatic ix, nx, 0, n :: M' :: inf')) : zrun zpp E M (pc, ls, as.reverse ++ rest, h) = zcl1 E M nx M' ls rest as h := by
  rw [zrun_at hc]
  show z_inv n M' nx _ _ _ = _
  unfold z_inv zcl1
  have h1 : (as.reverse ++ rest).take n = as.reverse := by rw [← hn, ← List.length_reverse, List.take_left]
  have h2 : (as.reverse ++ rest).drop n = rest := by rw [← hn, ← List.length_reverse, List.drop_left]
  have h3 : decide (n ≤ (as.reverse ++ rest).length) = true := by simp; omega
  simp only [h1, h2, h3, List.reverse_reverse, Bool.true_and]
theorem zg_spc {ix n M' a : Nat} {as rest : List Value} {inf' : List Nat} (hn : as.length = n) (hc : zcode zpp M pc = some (.invokespecial ix, nx, 0, n :: M' :: inf')) : zrun zpp E M (pc, ls, as.reverse ++ .ref a :: rest, h) = (zcls h a).bind (fun _ => zcl1 E M nx M' ls rest (.ref a :: as) h) := by
  rw [zrun_at hc]
  show z_spc n M' nx _ _ _ = _
  unfold z_spc zcls
  have h0 : (as.reverse ++ .ref a :: rest)[n]? = some (.ref a) := by rw [List.getElem?_append_right (by simp; omega)]; simp [hn]
  have e : as.reverse ++ .ref a :: rest = (Value.ref a :: as).reverse ++ rest := by simp
  simp only [h0]
  cases hq : h[a]? with
  | none => rfl
  | some c =>
  rcases c with ⟨c, fs⟩ | q
  · show z_inv (n + 1) M' nx _ _ _ = zcl1 E M nx M' ls rest (Value.ref a :: as) h
    unfold z_inv zcl1
    rw [e]
    have h1 : ((Value.ref a :: as).reverse ++ rest).take (n + 1) = (Value.ref a :: as).reverse := by rw [← hn, show as.length + 1 = (Value.ref a :: as).reverse.length by simp, List.take_left]
    have h2 : ((Value.ref a :: as).reverse ++ rest).drop (n + 1) = rest := by rw [← hn, show as.length + 1 = (Value.ref a :: as).reverse.length by simp, List.drop_left]
    have h3 : decide (n + 1 ≤ ((Value.ref a :: as).reverse ++ rest).length) = true := by simp; omega
    simp only [h1, h2, h3, List.reverse_reverse, Bool.true_and]
  · rfl
theorem zg_vir {ix n a : Nat} {ds : List Nat} {as rest : List Value} (hn : as.length = n) (hc : zcode zpp M pc = some (.invokevirtual ix, nx, im, n :: ds)) : zrun zpp E M (pc, ls, as.reverse ++ .ref a :: rest, h) = (zcls h a).bind (fun d => (zsel d ds).bind (fun M' => zcl1 E M nx M' ls rest (.ref a :: as) h)) := by
  rw [zrun_at hc]
  show z_vir n ds nx _ _ _ = _
  unfold z_vir zcls
  have h0 : (as.reverse ++ .ref a :: rest)[n]? = some (.ref a) := by rw [List.getElem?_append_right (by simp; omega)]; simp [hn]
  have e : as.reverse ++ .ref a :: rest = (Value.ref a :: as).reverse ++ rest := by simp
  simp only [h0]
  cases hq : h[a]? with
  | none => rfl
  | some c =>
  rcases c with ⟨d, fs⟩ | q
  · dsimp only
    rw [Option.bind_some]
    cases hs : zsel d ds with
    | none => rfl
    | some M' =>
    show z_inv (n + 1) M' nx _ _ _ = zcl1 E M nx M' ls rest (Value.ref a :: as) h
    unfold z_inv zcl1
    rw [e]
    have h1 : ((Value.ref a :: as).reverse ++ rest).take (n + 1) = (Value.ref a :: as).reverse := by rw [← hn, show as.length + 1 = (Value.ref a :: as).reverse.length by simp, List.take_left]
    have h2 : ((Value.ref a :: as).reverse ++ rest).drop (n + 1) = rest := by rw [← hn, show as.length + 1 = (Value.ref a :: as).reverse.length by simp, List.drop_left]
    have h3 : decide (n + 1 ≤ ((Value.ref a :: as).reverse ++ rest).length) = true := by simp; omega
    simp only [h1, h2, h3, List.reverse_reverse, Bool.true_and]
  · rfl
end ZGG
theorem zsw_n {x : Int32} {d : Nat} {k : Nat → Option zR} : zsw x d k [] = k d := rfl
theorem zsw_c {x : Int32} {d t : Nat} {c : Int} {r : List (Int × Nat)} {k : Nat → Option zR} : zsw x d k ((c, t) :: r) = if x = Int32.ofInt c then k t else zsw x d k r := rfl
theorem zg_tsw {E : zE} {M pc nx d : Nat} {im dflt lo hi : Int} {offs : Array Int} {ts : List Nat} {ls sk : List Value} {h : zH} {x : Int32} (hc : zcode zpp M pc = some (.tableswitch dflt lo hi offs, nx, im, d :: ts)) : zrun zpp E M (pc, ls, .int x :: sk, h) = zsw x d (fun t => zrun zpp E M (t, ls, sk, h)) (ts.mapIdx (fun j t => (lo + j, t))) := zrun_at hc
