/-! THE CHECK of an instruction's data against the bytes and the tables' words, and what it gives -/
def zlen : Instr → Nat
  | .bipush _ => 2
  | .sipush _ => 3
  | .ldc _ => 2
  | .ldc_w _ => 3
  | .ldc2_w _ => 3
  | .iload _ => 2
  | .lload _ => 2
  | .aload _ => 2
  | .istore _ => 2
  | .lstore _ => 2
  | .astore _ => 2
  | .iinc _ _ => 3
  | .goto _ => 3
  | .if_icmp _ _ => 3
  | .ifCond _ _ => 3
  | .ifnull _ => 3
  | .ifnonnull _ => 3
  | .getfield _ => 3
  | .putfield _ => 3
  | .newarray _ => 2
  | .anewarray _ => 3
  | .new _ => 3
  | .instanceof _ => 3
  | .invokestatic _ => 3
  | .invokevirtual _ => 3
  | .invokespecial _ => 3
  | _ => 1
/-- the name of a class by its number -/
def zcn (n : Int) : String := match n with
  | 1 => RX1
  | 2 => RX2
  | 4 => RX4
  | 5 => RX5
  | _ => RX8
/-- the method that a call by the receiver names: itself, one without a body, another -/
def zxr (im : Int) (y : MethodName) : MethodName := if im = 0 then y else if im = 1 then ⟨RX3, y.name, y.desc⟩ else (zmi (im.toNat - 2)).1
def zvirB (mi : zMi) (ix n : Nat) (im : Int) : List Nat → Bool
  | d :: M :: r => (decide (0 < M) && (decide (M < 231) && zviB mi (zmi M) (zxr im (zmi M).1) (decide (im = 1)) ix n d)) && zvirB mi ix n im r
  | [] => true
  | [_] => false
def zext (mi : zMi) (pc : Nat) (i : zI) : Bool := match i with
  | (.bipush n, _, _, _) => decide ((Int8.ofInt n).toInt32 = Int32.ofInt n)
  | (.sipush n, _, _, _) => decide ((Int16.ofInt n).toInt32 = Int32.ofInt n)
  | (.ldc ix, _, im, _) => decide (Cond.constant mi.1.cls ix (Int32.ofInt im) ∈ zmw)
  | (.ldc_w ix, _, im, _) => decide (Cond.constant mi.1.cls ix (Int32.ofInt im) ∈ zmw)
  | (.ldc2_w ix, _, im, _) => decide (Cond.constantLong mi.1.cls ix (Int64.ofInt im) ∈ zmw)
  | (.goto off, _, _, [t]) => decide ((pc : Int) + off = (t : Int))
  | (.if_icmp _ off, _, _, [t]) => decide ((pc : Int) + off = (t : Int))
  | (.ifCond _ off, _, _, [t]) => decide ((pc : Int) + off = (t : Int))
  | (.ifnull off, _, _, [t]) => decide ((pc : Int) + off = (t : Int))
  | (.ifnonnull off, _, _, [t]) => decide ((pc : Int) + off = (t : Int))
  | (.tableswitch dflt lo hi offs, _, _, d :: ts) => decide ((pc : Int) + dflt = (d : Int)) && (decide (0 ≤ lo) && (decide (hi = lo + ts.length - 1) && (decide (hi < 2147483648) && decide (offs.toList = ts.map (fun (t : Nat) => (t : Int) - (pc : Int))))))
  | (.lookupswitch .., _, _, _) => false
  | (.getfield ix, _, _, f :: cs) => cs.all (zgetB mi.1.cls ix f)
  | (.putfield ix, _, _, f :: ty :: cs) => cs.all (zputB mi.1 ix f ty)
  | (.iaload, _, 1, _) => decide (mi.1.cls = "NineDownLaw")
  | (.arraylength, _, _, _) => decide (mi.1.cls = "NineDownLaw")
  | (.newarray a, _, _, _) => decide (Cond.arrayClass (newarray.typeOf a) ∈ zmw)
  | (.anewarray ix, _, _, t :: _) => zart t && (decide (Cond.classLink mi.1.cls ix (zartC t) ∈ zmw) && decide (Cond.arrayOver (.object (zartC t)) ∈ zmw))
  | (.new ix, _, _, d :: _) => znewB mi.1.cls ix d
  | (.instanceof ix, _, im, n :: cs) => (cs.take n).all (ziyB mi.1.cls ix (zcn im)) && (cs.drop n).all (zinB mi.1.cls ix (zcn im))
  | (.invokestatic ix, _, 0, n :: M :: _) => decide (0 < M) && (decide (M < 231) && zstB mi (zmi M) ix n)
  | (.invokestatic ix, _, 1, _) => decide (Cond.methodLink mi.1.cls ix arraycopyName ∈ zmw) && (decide (Cond.native arraycopyName ∈ zmw) && (decide (Cond.static arraycopyName ∈ zmw) && (decide (Cond.initialized "java/lang/System" ∈ zmw) && (decide (1 ≤ mi.2.2.2.2.1) && decide (26 ≤ mi.2.2.2.2.2)))))
  | (.invokestatic ix, _, 2, _) => decide (Cond.methodLink mi.1.cls ix Lib.Math.max.name ∈ zmw) && (decide (Cond.static Lib.Math.max.name ∈ zmw) && (decide (Cond.initialized "java/lang/Math" ∈ zmw) && (decide (1 ≤ mi.2.2.2.2.1) && decide (21 ≤ mi.2.2.2.2.2))))
  | (.invokestatic ix, _, 3, _) => decide (Cond.methodLink mi.1.cls ix Lib.Math.min.name ∈ zmw) && (decide (Cond.static Lib.Math.min.name ∈ zmw) && (decide (Cond.initialized "java/lang/Math" ∈ zmw) && (decide (1 ≤ mi.2.2.2.2.1) && decide (21 ≤ mi.2.2.2.2.2))))
  | (.invokevirtual ix, _, im, n :: ds) => (decide (im = 0) || (decide (im = 1) || (decide (0 < im.toNat - 2) && decide (im.toNat - 2 < 231)))) && zvirB mi ix n im ds
  | (.invokespecial ix, _, 0, n :: M :: _) => decide (0 < M) && (decide (M < 231) && zspB mi (zmi M) ix n)
  | (.invokespecial ix, _, 1, _) => decide (Cond.methodLink mi.1.cls ix objectInit ∈ zmw) && (decide (Cond.instanceMethod objectInit ∈ zmw) && (decide (1 ≤ mi.2.2.2.2.1) && decide (20 ≤ mi.2.2.2.2.2)))
  | (.ireturn, _, 0, _) => decide (mi.2.2.2.1 = some .int)
  | (.ireturn, _, 1, _) => decide (mi.2.2.2.1 = some .boolean)
  | (.lreturn, _, _, _) => decide (mi.2.2.2.1 = some .long)
  | (.areturn, _, _, _) => match mi.2.2.2.1 with
    | some (.object _) => true
    | _ => false
  | (.return_, _, _, _) => decide (mi.2.2.2.1 = none)
  | _ => true
def zchk (mi : zMi) (pc : Nat) (i : zI) : Bool := (match i.1 with
  | .tableswitch .. => decide (decode mi.2.1 pc = .ok (i.1, i.2.1 - pc))
  | _ => decide (decode mi.2.1 pc = .ok (i.1, zlen i.1)) && decide (pc + zlen i.1 = i.2.1)) && zext mi pc i
def zchkL (mi : zMi) : Nat → List (Option zI) → Bool
  | _, [] => true
  | pc, none :: r => zchkL mi (pc + 1) r
  | pc, some i :: r => zchk mi pc i && zchkL mi (pc + 1) r
theorem zchkL_at {mi : zMi} : ∀ {l : List (Option zI)} {pc j : Nat} {i : zI}, zchkL mi pc l = true → l[j]? = some (some i) → zchk mi (pc + j) i = true
  | [], pc, j, i, _, h => by simp at h
  | none :: r, pc, 0, i, hc, h => by cases h
  | none :: r, pc, j + 1, i, hc, h => by
    have h1 := zchkL_at (l := r) (pc := pc + 1) (j := j) hc h
    rw [show pc + (j + 1) = pc + 1 + j by omega]
    exact h1
  | some a :: r, pc, 0, i, hc, h => by
    cases h
    simp only [zchkL, Bool.and_eq_true] at hc
    exact hc.1
  | some a :: r, pc, j + 1, i, hc, h => by
    simp only [zchkL, Bool.and_eq_true] at hc
    have h1 := zchkL_at (l := r) (pc := pc + 1) (j := j) hc.2 h
    rw [show pc + (j + 1) = pc + 1 + j by omega]
    exact h1
