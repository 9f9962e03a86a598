/-! THE SMALL MACHINE: one method's frame over a list of cells. A reference is a place in that list. A float stands for the script. -/
abbrev zC : Type := (Nat × List Value) ⊕ ((Nat × Nat × (Nat → Int32)) ⊕ (Nat × Nat × (Nat → Option Nat)))
abbrev zH : Type := List zC
abbrev zS : Type := Nat × List Value × List Value × zH
abbrev zR : Type := Option Value × zH
abbrev zK : Type := zS → Option zR
abbrev zA : Type := Nat → List Value → zH → Option zR
abbrev zI : Type := Instr × Nat × Int × List Nat
abbrev zE : Type := Nat × (Nat → Int32)
abbrev zP : Type := Nat → Nat × List (Option zI)
/-- an int's place in a row: it is one, or there is none -/
def zix (i : Int32) (n : Nat) : Bool := !(decide (i < 0)) && decide (i.toNatClampNeg < n)
def z_push (v : Value) (nx : Nat) (st : zS) (k : zK) : Option zR := k (nx, st.2.1, v :: st.2.2.1, st.2.2.2)
def z_ild (i nx : Nat) (st : zS) (k : zK) : Option zR := match st.2.1[i]? with
  | some (.int x) => k (nx, st.2.1, .int x :: st.2.2.1, st.2.2.2)
  | _ => none
def z_lld (i nx : Nat) (st : zS) (k : zK) : Option zR := match st.2.1[i]? with
  | some (.long x) => k (nx, st.2.1, .long x :: st.2.2.1, st.2.2.2)
  | _ => none
def z_ald (i nx : Nat) (st : zS) (k : zK) : Option zR := match st.2.1[i]? with
  | some (.ref x) => k (nx, st.2.1, .ref x :: st.2.2.1, st.2.2.2)
  | some .null => k (nx, st.2.1, .null :: st.2.2.1, st.2.2.2)
  | some (.float f) => k (nx, st.2.1, .float f :: st.2.2.1, st.2.2.2)
  | _ => none
/-- a local may be written where no long begins one place ahead of it -/
def zfree (ls : List Value) (i : Nat) : Bool := decide (i < ls.length) && (match i with
  | 0 => true
  | j + 1 => match ls[j]? with
    | some v => v.category == 1
    | none => true)
def z_ist (i nx : Nat) (st : zS) (k : zK) : Option zR := match st.2.2.1 with
  | .int x :: sk => if zfree st.2.1 i = true then k (nx, st.2.1.set i (.int x), sk, st.2.2.2) else none
  | _ => none
def z_ast (i nx : Nat) (st : zS) (k : zK) : Option zR := match st.2.2.1 with
  | .ref x :: sk => if zfree st.2.1 i = true then k (nx, st.2.1.set i (.ref x), sk, st.2.2.2) else none
  | .null :: sk => if zfree st.2.1 i = true then k (nx, st.2.1.set i .null, sk, st.2.2.2) else none
  | _ => none
def z_lst (i nx : Nat) (st : zS) (k : zK) : Option zR := match st.2.2.1 with
  | .long x :: sk => if (zfree st.2.1 i && decide (i + 1 < st.2.1.length)) = true then k (nx, (st.2.1.set i (.long x)).set (i + 1) (.retAddr 0), sk, st.2.2.2) else none
  | _ => none
def z_iinc (i : Nat) (n : Int) (nx : Nat) (st : zS) (k : zK) : Option zR := match st.2.1[i]? with
  | some (.int x) => if zfree st.2.1 i = true then k (nx, st.2.1.set i (.int (x + Int32.ofInt n)), st.2.2.1, st.2.2.2) else none
  | _ => none
def z_i2 (f : Int32 → Int32 → Int32) (nx : Nat) (st : zS) (k : zK) : Option zR := match st.2.2.1 with
  | .int y :: .int x :: sk => k (nx, st.2.1, .int (f x y) :: sk, st.2.2.2)
  | _ => none
def z_i1 (f : Int32 → Int32) (nx : Nat) (st : zS) (k : zK) : Option zR := match st.2.2.1 with
  | .int x :: sk => k (nx, st.2.1, .int (f x) :: sk, st.2.2.2)
  | _ => none
def z_id (f : Int32 → Int32 → Int32) (nx : Nat) (st : zS) (k : zK) : Option zR := match st.2.2.1 with
  | .int y :: .int x :: sk => if y = 0 then none else k (nx, st.2.1, .int (f x y) :: sk, st.2.2.2)
  | _ => none
def z_l2 (f : Int64 → Int64 → Int64) (nx : Nat) (st : zS) (k : zK) : Option zR := match st.2.2.1 with
  | .long y :: .long x :: sk => k (nx, st.2.1, .long (f x y) :: sk, st.2.2.2)
  | _ => none
def z_ldv (f : Int64 → Int64 → Int64) (nx : Nat) (st : zS) (k : zK) : Option zR := match st.2.2.1 with
  | .long y :: .long x :: sk => if y = 0 then none else k (nx, st.2.1, .long (f x y) :: sk, st.2.2.2)
  | _ => none
def z_lcmp (nx : Nat) (st : zS) (k : zK) : Option zR := match st.2.2.1 with
  | .long y :: .long x :: sk => k (nx, st.2.1, .int (lg_cmp x y) :: sk, st.2.2.2)
  | _ => none
def z_i2l (nx : Nat) (st : zS) (k : zK) : Option zR := match st.2.2.1 with
  | .int x :: sk => k (nx, st.2.1, .long x.toInt64 :: sk, st.2.2.2)
  | _ => none
def z_l2i (nx : Nat) (st : zS) (k : zK) : Option zR := match st.2.2.1 with
  | .long x :: sk => k (nx, st.2.1, .int x.toInt32 :: sk, st.2.2.2)
  | _ => none
def z_goto (t : Nat) (st : zS) (k : zK) : Option zR := k (t, st.2.1, st.2.2.1, st.2.2.2)
def z_cmp (c : ClassFile.Cond) (t nx : Nat) (st : zS) (k : zK) : Option zR := match st.2.2.1 with
  | .int y :: .int x :: sk => match c with
    | .eq => if x = y then k (t, st.2.1, sk, st.2.2.2) else k (nx, st.2.1, sk, st.2.2.2)
    | .ne => if x = y then k (nx, st.2.1, sk, st.2.2.2) else k (t, st.2.1, sk, st.2.2.2)
    | .lt => if x < y then k (t, st.2.1, sk, st.2.2.2) else k (nx, st.2.1, sk, st.2.2.2)
    | .ge => if y ≤ x then k (t, st.2.1, sk, st.2.2.2) else k (nx, st.2.1, sk, st.2.2.2)
    | .gt => if y < x then k (t, st.2.1, sk, st.2.2.2) else k (nx, st.2.1, sk, st.2.2.2)
    | .le => if x ≤ y then k (t, st.2.1, sk, st.2.2.2) else k (nx, st.2.1, sk, st.2.2.2)
  | _ => none
def z_if (c : ClassFile.Cond) (t nx : Nat) (st : zS) (k : zK) : Option zR := match st.2.2.1 with
  | .int x :: sk => match c with
    | .eq => if x = 0 then k (t, st.2.1, sk, st.2.2.2) else k (nx, st.2.1, sk, st.2.2.2)
    | .ne => if x = 0 then k (nx, st.2.1, sk, st.2.2.2) else k (t, st.2.1, sk, st.2.2.2)
    | .lt => if x < 0 then k (t, st.2.1, sk, st.2.2.2) else k (nx, st.2.1, sk, st.2.2.2)
    | .ge => if 0 ≤ x then k (t, st.2.1, sk, st.2.2.2) else k (nx, st.2.1, sk, st.2.2.2)
    | .gt => if 0 < x then k (t, st.2.1, sk, st.2.2.2) else k (nx, st.2.1, sk, st.2.2.2)
    | .le => if x ≤ 0 then k (t, st.2.1, sk, st.2.2.2) else k (nx, st.2.1, sk, st.2.2.2)
  | _ => none
def z_ifn (t nx : Nat) (st : zS) (k : zK) : Option zR := match st.2.2.1 with
  | .ref _ :: sk => k (nx, st.2.1, sk, st.2.2.2)
  | .null :: sk => k (t, st.2.1, sk, st.2.2.2)
  | _ => none
def z_ifnn (t nx : Nat) (st : zS) (k : zK) : Option zR := match st.2.2.1 with
  | .ref _ :: sk => k (t, st.2.1, sk, st.2.2.2)
  | .null :: sk => k (nx, st.2.1, sk, st.2.2.2)
  | _ => none
/-- a switch: the first key that is it, else the last place -/
def zsw (x : Int32) (d : Nat) (k : Nat → Option zR) : List (Int × Nat) → Option zR
  | [] => k d
  | q :: r => if x = Int32.ofInt q.1 then k q.2 else zsw x d k r
def z_sw (d : Nat) (qs : List (Int × Nat)) (st : zS) (k : zK) : Option zR := match st.2.2.1 with
  | .int x :: sk => zsw x d (fun t => k (t, st.2.1, sk, st.2.2.2)) qs
  | _ => none
def z_dup (nx : Nat) (st : zS) (k : zK) : Option zR := match st.2.2.1 with
  | v :: sk => if v.category = 1 then k (nx, st.2.1, v :: v :: sk, st.2.2.2) else none
  | _ => none
def z_dup2 (nx : Nat) (st : zS) (k : zK) : Option zR := match st.2.2.1 with
  | v :: w :: sk => if v.category = 1 ∧ w.category = 1 then k (nx, st.2.1, v :: w :: v :: w :: sk, st.2.2.2) else none
  | _ => none
def z_dupx (nx : Nat) (st : zS) (k : zK) : Option zR := match st.2.2.1 with
  | v :: w :: sk => if v.category = 1 ∧ w.category = 1 then k (nx, st.2.1, v :: w :: v :: sk, st.2.2.2) else none
  | _ => none
def z_pop (nx : Nat) (st : zS) (k : zK) : Option zR := match st.2.2.1 with
  | v :: sk => if v.category = 1 then k (nx, st.2.1, sk, st.2.2.2) else none
  | _ => none
def z_getf (f : Nat) (cs : List Nat) (nx : Nat) (st : zS) (k : zK) : Option zR := match st.2.2.1 with
  | .ref a :: sk => match st.2.2.2[a]? with
    | some (.inl (c, fs)) => if cs.contains c = true then (match fs[f]? with
      | some v => k (nx, st.2.1, v :: sk, st.2.2.2)
      | none => none) else none
    | _ => none
  | _ => none
/-- what a field of a sort takes: 0 an int, 1 a boolean, 2 a reference -/
def zfits (ty : Nat) (v : Value) : Bool := match ty, v with
  | 0, .int _ => true
  | 1, .int x => decide (x = 0) || decide (x = 1)
  | 2, .ref _ => true
  | 2, .null => true
  | _, _ => false
def z_putf (f ty : Nat) (cs : List Nat) (nx : Nat) (st : zS) (k : zK) : Option zR := match st.2.2.1 with
  | v :: .ref a :: sk => match st.2.2.2[a]? with
    | some (.inl (c, fs)) => if (cs.contains c && zfits ty v && decide (f < fs.length)) = true then k (nx, st.2.1, sk, st.2.2.2.set a (.inl (c, fs.set f v))) else none
    | _ => none
  | _ => none
def z_nald (t nx : Nat) (st : zS) (k : zK) : Option zR := match st.2.2.1 with
  | .int i :: .ref a :: sk => match st.2.2.2[a]? with
    | some (.inr (.inl (t', n, f))) => if (t' == t && zix i n) = true then k (nx, st.2.1, .int (f i.toNatClampNeg) :: sk, st.2.2.2) else none
    | _ => none
  | _ => none
def z_sald (E : zE) (nx : Nat) (st : zS) (k : zK) : Option zR := match st.2.2.1 with
  | .int i :: .float _ :: sk => if zix i E.1 = true then k (nx, st.2.1, .int (E.2 i.toNatClampNeg) :: sk, st.2.2.2) else none
  | _ => none
def z_slen (E : zE) (nx : Nat) (st : zS) (k : zK) : Option zR := match st.2.2.1 with
  | .float _ :: sk => k (nx, st.2.1, .int (Int32.ofNat E.1) :: sk, st.2.2.2)
  | _ => none
def z_nast (t nx : Nat) (st : zS) (k : zK) : Option zR := match st.2.2.1 with
  | .int x :: .int i :: .ref a :: sk => match st.2.2.2[a]? with
    | some (.inr (.inl (t', n, f))) => if (t' == t && zix i n && zfits t (.int x)) = true then k (nx, st.2.1, sk, st.2.2.2.set a (.inr (.inl (t, n, upd f i.toNatClampNeg x)))) else none
    | _ => none
  | _ => none
/-- the sorts of rows of references -/
def zart (t : Nat) : Bool := t == 2 || (t == 3 || t == 4)
def z_aald (nx : Nat) (st : zS) (k : zK) : Option zR := match st.2.2.1 with
  | .int i :: .ref a :: sk => match st.2.2.2[a]? with
    | some (.inr (.inr (t, n, f))) => if (zix i n && zart t) = true then k (nx, st.2.1, va_rf (f i.toNatClampNeg) :: sk, st.2.2.2) else none
    | _ => none
  | _ => none
/-- which kinds of objects a row of a sort may hold -/
def zmay (t c : Nat) : Bool := match t with
  | 2 => c == 6
  | 3 => c == 9
  | 4 => c == 1 || c == 2 || c == 3 || c == 4 || c == 7
  | _ => false
def z_aast (nx : Nat) (st : zS) (k : zK) : Option zR := match st.2.2.1 with
  | .ref v :: .int i :: .ref a :: sk => match st.2.2.2[a]?, st.2.2.2[v]? with
    | some (.inr (.inr (t, n, f))), some (.inl (c, _)) => if (zix i n && zmay t c) = true then k (nx, st.2.1, sk, st.2.2.2.set a (.inr (.inr (t, n, va_up f i.toNatClampNeg (some v))))) else none
    | _, _ => none
  | .null :: .int i :: .ref a :: sk => match st.2.2.2[a]? with
    | some (.inr (.inr (t, n, f))) => if (zix i n && zart t) = true then k (nx, st.2.1, sk, st.2.2.2.set a (.inr (.inr (t, n, va_up f i.toNatClampNeg none)))) else none
    | _ => none
  | _ => none
def z_newa (t nx : Nat) (st : zS) (k : zK) : Option zR := match st.2.2.1 with
  | .int n :: sk => if zix n 65536 = true then k (nx, st.2.1, .ref st.2.2.2.length :: sk, st.2.2.2 ++ [.inr (.inl (t, n.toNatClampNeg, fun _ => 0))]) else none
  | _ => none
def z_newr (t nx : Nat) (st : zS) (k : zK) : Option zR := match st.2.2.1 with
  | .int n :: sk => if zix n 65536 = true then k (nx, st.2.1, .ref st.2.2.2.length :: sk, st.2.2.2 ++ [.inr (.inr (t, n.toNatClampNeg, fun _ => none))]) else none
  | _ => none
/-- the fields of a new object of a kind -/
def zborn (c : Nat) : List Value := match c with
  | 0 => [.null, .null, .null, .null, .null, .int 0]
  | 5 => [.null, .int 0, .int 0, .int 0, .int 0, .int 0, .int 0]
  | 6 => [.null, .int 0, .int 0, .int 0]
  | 8 => [.null, .int 0, .int 0]
  | 9 => [.int 0, .int 0, .int 0, .int 0, .int 0, .int 0, .null, .null, .null, .null, .null, .null, .null, .null, .int 0, .int 0, .int 0, .int 0]
  | 10 => [.null, .null, .null, .null, .null, .null, .null, .null, .null, .int 0, .null]
  | 11 => [.int 0, .int 0, .null, .null, .null, .null, .null, .null, .int 0, .null, .int 0, .int 0, .int 0, .int 0, .int 0, .int 0, .int 0, .int 0, .null, .null, .null, .null, .null, .null, .int 0]
  | _ => [.int 0, .int 0]
def z_new (c nx : Nat) (st : zS) (k : zK) : Option zR := k (nx, st.2.1, .ref st.2.2.2.length :: st.2.2.1, st.2.2.2 ++ [.inl (c, zborn c)])
def z_inst (yes no : List Nat) (nx : Nat) (st : zS) (k : zK) : Option zR := match st.2.2.1 with
  | .ref a :: sk => match st.2.2.2[a]? with
    | some (.inl (c, _)) => if yes.contains c = true then k (nx, st.2.1, .int 1 :: sk, st.2.2.2) else if no.contains c = true then k (nx, st.2.1, .int 0 :: sk, st.2.2.2) else none
    | _ => none
  | _ => none
/-- what lies beneath a call's arguments isn't too much -/
def zlow (sk : List Value) : Bool := decide ((sk.map fun v => v.category).sum ≤ 8)
def z_obj (nx : Nat) (st : zS) (k : zK) : Option zR := match st.2.2.1 with
  | .ref _ :: sk => if zlow sk = true then k (nx, st.2.1, sk, st.2.2.2) else none
  | _ => none
def z_inv (n M nx : Nat) (c : zA) (st : zS) (k : zK) : Option zR :=
  if (decide (n ≤ st.2.2.1.length) && zlow (st.2.2.1.drop n)) = true then (c M (st.2.2.1.take n).reverse st.2.2.2).bind (fun r => k (nx, st.2.1, r.1.toList ++ st.2.2.1.drop n, r.2)) else none
/-- the method by the receiver's kind -/
def zsel (c : Nat) : List Nat → Option Nat
  | d :: M :: r => if c == d then some M else zsel c r
  | _ => none
def z_vir (n : Nat) (ds : List Nat) (nx : Nat) (c : zA) (st : zS) (k : zK) : Option zR := match st.2.2.1[n]? with
  | some (.ref a) => match st.2.2.2[a]? with
    | some (.inl (d, _)) => match zsel d ds with
      | some M => z_inv (n + 1) M nx c st k
      | none => none
    | _ => none
  | _ => none
/-- a call that names its method, on an object: it isn't null -/
def z_spc (n M nx : Nat) (c : zA) (st : zS) (k : zK) : Option zR := match st.2.2.1[n]? with
  | some (.ref a) => match st.2.2.2[a]? with
    | some (.inl _) => z_inv (n + 1) M nx c st k
    | _ => none
  | _ => none
def z_copy (nx : Nat) (st : zS) (k : zK) : Option zR := match st.2.2.1 with
  | .int n :: .int dp :: .ref b :: .int sp :: .ref a :: sk => match st.2.2.2[a]?, st.2.2.2[b]? with
    | some (.inr (.inl (0, n0, f))), some (.inr (.inl (0, n1, g))) =>
      if n < 0 ∨ dp < 0 ∨ sp < 0 ∨ n0 < sp.toNatClampNeg + n.toNatClampNeg ∨ n1 < dp.toNatClampNeg + n.toNatClampNeg ∨ zlow sk = false then none
      else k (nx, st.2.1, sk, st.2.2.2.set b (.inr (.inl (0, n1, va_cpy f g sp.toNatClampNeg dp.toNatClampNeg n.toNatClampNeg))))
    | _, _ => none
  | _ => none
/-- the greater, or the less, of two -/
def z_mm (mx : Bool) (nx : Nat) (st : zS) (k : zK) : Option zR := match st.2.2.1 with
  | .int y :: .int x :: sk => if zlow sk = true then k (nx, st.2.1, .int (if mx = true then (if x < y then y else x) else (if y < x then y else x)) :: sk, st.2.2.2) else none
  | _ => none
def z_ret (st : zS) : Option zR := match st.2.2.1 with
  | [.int x] => some (some (.int x), st.2.2.2)
  | _ => none
def z_retz (st : zS) : Option zR := match st.2.2.1 with
  | [.int x] => if x = 0 then some (some (.int 0), st.2.2.2) else if x = 1 then some (some (.int 1), st.2.2.2) else none
  | _ => none
def z_retl (st : zS) : Option zR := match st.2.2.1 with
  | [.long x] => some (some (.long x), st.2.2.2)
  | _ => none
def z_reta (st : zS) : Option zR := match st.2.2.1 with
  | [.ref x] => some (some (.ref x), st.2.2.2)
  | [.null] => some (some .null, st.2.2.2)
  | _ => none
def z_retv (st : zS) : Option zR := match st.2.2.1 with
  | [] => some (none, st.2.2.2)
  | _ => none
