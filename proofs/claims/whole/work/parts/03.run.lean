/-! ONE STEP, and a run. The info of an instruction: nx the next place, im a number, inf a list. -/
def zstep (E : zE) (c : zA) (i : zI) (st : zS) (k : zK) : Option zR := match i with
  | (.aconst_null, nx, _, _) => z_push .null nx st k
  | (.iconst n, nx, _, _) => z_push (.int (Int32.ofInt n)) nx st k
  | (.bipush n, nx, _, _) => z_push (.int (Int32.ofInt n)) nx st k
  | (.sipush n, nx, _, _) => z_push (.int (Int32.ofInt n)) nx st k
  | (.ldc _, nx, im, _) => z_push (.int (Int32.ofInt im)) nx st k
  | (.ldc_w _, nx, im, _) => z_push (.int (Int32.ofInt im)) nx st k
  | (.ldc2_w _, nx, im, _) => z_push (.long (Int64.ofInt im)) nx st k
  | (.lconst n, nx, _, _) => z_push (.long (Int64.ofNat n)) nx st k
  | (.iload j, nx, _, _) => z_ild j nx st k
  | (.iload_n j, nx, _, _) => z_ild j.val nx st k
  | (.lload j, nx, _, _) => z_lld j nx st k
  | (.lload_n j, nx, _, _) => z_lld j.val nx st k
  | (.aload j, nx, _, _) => z_ald j nx st k
  | (.aload_n j, nx, _, _) => z_ald j.val nx st k
  | (.istore j, nx, _, _) => z_ist j nx st k
  | (.istore_n j, nx, _, _) => z_ist j.val nx st k
  | (.lstore j, nx, _, _) => z_lst j nx st k
  | (.lstore_n j, nx, _, _) => z_lst j.val nx st k
  | (.astore j, nx, _, _) => z_ast j nx st k
  | (.astore_n j, nx, _, _) => z_ast j.val nx st k
  | (.iinc j n, nx, _, _) => z_iinc j n nx st k
  | (.iadd, nx, _, _) => z_i2 (fun x y => x + y) nx st k
  | (.isub, nx, _, _) => z_i2 (fun x y => x - y) nx st k
  | (.imul, nx, _, _) => z_i2 (fun x y => x * y) nx st k
  | (.iand, nx, _, _) => z_i2 (fun x y => x &&& y) nx st k
  | (.ior, nx, _, _) => z_i2 (fun x y => x ||| y) nx st k
  | (.ixor, nx, _, _) => z_i2 (fun x y => x ^^^ y) nx st k
  | (.ishl, nx, _, _) => z_i2 (fun x y => x <<< (y &&& 31)) nx st k
  | (.ishr, nx, _, _) => z_i2 (fun x y => x >>> (y &&& 31)) nx st k
  | (.iushr, nx, _, _) => z_i2 (fun x y => (x.toUInt32 >>> (y.toUInt32 &&& Int32.toUInt32 31)).toInt32) nx st k
  | (.ineg, nx, _, _) => z_i1 (fun x => -x) nx st k
  | (.i2b, nx, _, _) => z_i1 (fun x => x.toInt8.toInt32) nx st k
  | (.i2s, nx, _, _) => z_i1 (fun x => x.toInt16.toInt32) nx st k
  | (.idiv, nx, _, _) => z_id (fun x y => x / y) nx st k
  | (.irem, nx, _, _) => z_id (fun x y => x - x / y * y) nx st k
  | (.ladd, nx, _, _) => z_l2 (fun x y => x + y) nx st k
  | (.lsub, nx, _, _) => z_l2 (fun x y => x - y) nx st k
  | (.lmul, nx, _, _) => z_l2 (fun x y => x * y) nx st k
  | (.ldiv, nx, _, _) => z_ldv (fun x y => x / y) nx st k
  | (.lrem, nx, _, _) => z_ldv (fun x y => x - x / y * y) nx st k
  | (.lcmp, nx, _, _) => z_lcmp nx st k
  | (.i2l, nx, _, _) => z_i2l nx st k
  | (.l2i, nx, _, _) => z_l2i nx st k
  | (.goto _, _, _, [t]) => z_goto t st k
  | (.if_icmp cd _, nx, _, [t]) => z_cmp cd t nx st k
  | (.ifCond cd _, nx, _, [t]) => z_if cd t nx st k
  | (.ifnull _, nx, _, [t]) => z_ifn t nx st k
  | (.ifnonnull _, nx, _, [t]) => z_ifnn t nx st k
  | (.tableswitch _ lo _ _, _, _, d :: ts) => z_sw d (ts.mapIdx (fun j t => (lo + j, t))) st k
  | (.lookupswitch _ ps, _, _, d :: ts) => z_sw d ((ps.toList.map (fun q => q.1)).zip ts) st k
  | (.dup, nx, _, _) => z_dup nx st k
  | (.dup2, nx, _, _) => z_dup2 nx st k
  | (.dup_x1, nx, _, _) => z_dupx nx st k
  | (.pop, nx, _, _) => z_pop nx st k
  | (.getfield _, nx, _, f :: cs) => z_getf f cs nx st k
  | (.putfield _, nx, _, f :: ty :: cs) => z_putf f ty cs nx st k
  | (.iaload, nx, 0, _) => z_nald 0 nx st k
  | (.iaload, nx, 1, _) => z_sald E nx st k
  | (.baload, nx, _, _) => z_nald 1 nx st k
  | (.arraylength, nx, _, _) => z_slen E nx st k
  | (.iastore, nx, _, _) => z_nast 0 nx st k
  | (.bastore, nx, _, _) => z_nast 1 nx st k
  | (.aaload, nx, _, _) => z_aald nx st k
  | (.aastore, nx, _, _) => z_aast nx st k
  | (.newarray .int, nx, _, _) => z_newa 0 nx st k
  | (.newarray .boolean, nx, _, _) => z_newa 1 nx st k
  | (.anewarray _, nx, _, t :: _) => z_newr t nx st k
  | (.new _, nx, _, d :: _) => z_new d nx st k
  | (.instanceof _, nx, _, n :: cs) => z_inst (cs.take n) (cs.drop n) nx st k
  | (.invokestatic _, nx, 0, n :: M :: _) => z_inv n M nx c st k
  | (.invokestatic _, nx, 1, _) => z_copy nx st k
  | (.invokestatic _, nx, 2, _) => z_mm true nx st k
  | (.invokestatic _, nx, 3, _) => z_mm false nx st k
  | (.invokevirtual _, nx, _, n :: ds) => z_vir n ds nx c st k
  | (.invokespecial _, nx, 0, n :: M :: _) => z_spc n M nx c st k
  | (.invokespecial _, nx, 1, _) => z_obj nx st k
  | (.ireturn, _, 0, _) => z_ret st
  | (.ireturn, _, 1, _) => z_retz st
  | (.lreturn, _, _, _) => z_retl st
  | (.areturn, _, _, _) => z_reta st
  | (.return_, _, _, _) => z_retv st
  | _ => none
/-- the locals at a method's beginning -/
def zlay : List Value → List Value
  | [] => []
  | .long x :: r => .long x :: .retAddr 0 :: zlay r
  | .double x :: r => .double x :: .retAddr 0 :: zlay r
  | v :: r => v :: zlay r
def zin (P : zP) (M : Nat) (as : List Value) (h : zH) : zS := (0, zlay as ++ List.replicate ((P M).1 - (zlay as).length) (.retAddr 0), [], h)
def zcode (P : zP) (M pc : Nat) : Option zI := ((P M).2[pc]?).getD none
def zgo (P : zP) (E : zE) (c : zA) (M : Nat) (k : zK) (st : zS) : Option zR := match zcode P M st.1 with
  | some i => zstep E c i st k
  | none => none
def zrunN (P : zP) (E : zE) : Nat → Nat → zS → Option zR
  | 0, _, _ => none
  | n + 1, M, st => zgo P E (fun M' as h => if (zlay as).length ≤ (P M').1 then zrunN P E n M' (zin P M' as h) else none) M (zrunN P E n M) st
noncomputable def zrun (P : zP) (E : zE) (M : Nat) (st : zS) : Option zR :=
  @dite _ (∃ r n, zrunN P E n M st = some r) (Classical.propDecidable _) (fun h => some h.choose) (fun _ => none)
noncomputable def zcall (P : zP) (E : zE) : zA := fun M as h => if (zlay as).length ≤ (P M).1 then zrun P E M (zin P M as h) else none
/-! each step ends, goes on at one place, or calls and goes on -/
def zNice (f : zA → zK → Option zR) : Prop := (∃ o, ∀ c k, f c k = o) ∨ (∃ st', ∀ c k, f c k = k st') ∨ ∃ (M : Nat) (as : List Value) (h : zH) (g : zR → zS), ∀ c k, f c k = (c M as h).bind (fun r => k (g r))
theorem zNice.o (o : Option zR) : zNice (fun _ _ => o) := Or.inl ⟨o, fun _ _ => rfl⟩
theorem zNice.k (st : zS) : zNice (fun _ k => k st) := Or.inr (Or.inl ⟨st, fun _ _ => rfl⟩)
theorem zNice.i {p : Prop} [Decidable p] {f g : zA → zK → Option zR} (h1 : zNice f) (h2 : zNice g) : zNice (fun c k => if p then f c k else g c k) := by
  by_cases h : p
  · simp only [h, if_true]; exact h1
  · simp only [h, if_false]; exact h2
theorem zNice.b (M : Nat) (as : List Value) (h : zH) (g : zR → zS) : zNice (fun c k => (c M as h).bind (fun r => k (g r))) := Or.inr (Or.inr ⟨M, as, h, g, fun _ _ => rfl⟩)
theorem zn_sw (x : Int32) (d : Nat) (s : Nat → zS) : ∀ qs, zNice (fun _ k => zsw x d (fun t => k (s t)) qs)
  | [] => zNice.k (s d)
  | q :: r => zNice.i (zNice.k (s q.2)) (zn_sw x d s r)
theorem zn_inv (n M nx : Nat) (st : zS) : zNice (fun c k => z_inv n M nx c st k) := by
  unfold z_inv
  exact zNice.i (zNice.b _ _ _ _) (zNice.o _)
theorem zn_push (v : Value) (nx : Nat) (st : zS) : zNice (fun _ k => z_push v nx st k) := by
  unfold z_push
  repeat' split
  all_goals first | exact zNice.k _ | exact zNice.o _ | exact zNice.i (zNice.k _) (zNice.o _) | exact zNice.i (zNice.o _) (zNice.k _) | exact zNice.i (zNice.k _) (zNice.k _) | exact zNice.i (zNice.k _) (zNice.i (zNice.k _) (zNice.o _))
theorem zn_ild (i nx : Nat) (st : zS) : zNice (fun _ k => z_ild i nx st k) := by
  unfold z_ild
  repeat' split
  all_goals first | exact zNice.k _ | exact zNice.o _ | exact zNice.i (zNice.k _) (zNice.o _) | exact zNice.i (zNice.o _) (zNice.k _) | exact zNice.i (zNice.k _) (zNice.k _) | exact zNice.i (zNice.k _) (zNice.i (zNice.k _) (zNice.o _))
theorem zn_lld (i nx : Nat) (st : zS) : zNice (fun _ k => z_lld i nx st k) := by
  unfold z_lld
  repeat' split
  all_goals first | exact zNice.k _ | exact zNice.o _ | exact zNice.i (zNice.k _) (zNice.o _) | exact zNice.i (zNice.o _) (zNice.k _) | exact zNice.i (zNice.k _) (zNice.k _) | exact zNice.i (zNice.k _) (zNice.i (zNice.k _) (zNice.o _))
theorem zn_ald (i nx : Nat) (st : zS) : zNice (fun _ k => z_ald i nx st k) := by
  unfold z_ald
  repeat' split
  all_goals first | exact zNice.k _ | exact zNice.o _ | exact zNice.i (zNice.k _) (zNice.o _) | exact zNice.i (zNice.o _) (zNice.k _) | exact zNice.i (zNice.k _) (zNice.k _) | exact zNice.i (zNice.k _) (zNice.i (zNice.k _) (zNice.o _))
theorem zn_ist (i nx : Nat) (st : zS) : zNice (fun _ k => z_ist i nx st k) := by
  unfold z_ist
  repeat' split
  all_goals first | exact zNice.k _ | exact zNice.o _ | exact zNice.i (zNice.k _) (zNice.o _) | exact zNice.i (zNice.o _) (zNice.k _) | exact zNice.i (zNice.k _) (zNice.k _) | exact zNice.i (zNice.k _) (zNice.i (zNice.k _) (zNice.o _))
theorem zn_ast (i nx : Nat) (st : zS) : zNice (fun _ k => z_ast i nx st k) := by
  unfold z_ast
  repeat' split
  all_goals first | exact zNice.k _ | exact zNice.o _ | exact zNice.i (zNice.k _) (zNice.o _) | exact zNice.i (zNice.o _) (zNice.k _) | exact zNice.i (zNice.k _) (zNice.k _) | exact zNice.i (zNice.k _) (zNice.i (zNice.k _) (zNice.o _))
theorem zn_lst (i nx : Nat) (st : zS) : zNice (fun _ k => z_lst i nx st k) := by
  unfold z_lst
  repeat' split
  all_goals first | exact zNice.k _ | exact zNice.o _ | exact zNice.i (zNice.k _) (zNice.o _) | exact zNice.i (zNice.o _) (zNice.k _) | exact zNice.i (zNice.k _) (zNice.k _) | exact zNice.i (zNice.k _) (zNice.i (zNice.k _) (zNice.o _))
theorem zn_iinc (i : Nat) (n : Int) (nx : Nat) (st : zS) : zNice (fun _ k => z_iinc i n nx st k) := by
  unfold z_iinc
  repeat' split
  all_goals first | exact zNice.k _ | exact zNice.o _ | exact zNice.i (zNice.k _) (zNice.o _) | exact zNice.i (zNice.o _) (zNice.k _) | exact zNice.i (zNice.k _) (zNice.k _) | exact zNice.i (zNice.k _) (zNice.i (zNice.k _) (zNice.o _))
theorem zn_i2 (f : Int32 → Int32 → Int32) (nx : Nat) (st : zS) : zNice (fun _ k => z_i2 f nx st k) := by
  unfold z_i2
  repeat' split
  all_goals first | exact zNice.k _ | exact zNice.o _ | exact zNice.i (zNice.k _) (zNice.o _) | exact zNice.i (zNice.o _) (zNice.k _) | exact zNice.i (zNice.k _) (zNice.k _) | exact zNice.i (zNice.k _) (zNice.i (zNice.k _) (zNice.o _))
theorem zn_i1 (f : Int32 → Int32) (nx : Nat) (st : zS) : zNice (fun _ k => z_i1 f nx st k) := by
  unfold z_i1
  repeat' split
  all_goals first | exact zNice.k _ | exact zNice.o _ | exact zNice.i (zNice.k _) (zNice.o _) | exact zNice.i (zNice.o _) (zNice.k _) | exact zNice.i (zNice.k _) (zNice.k _) | exact zNice.i (zNice.k _) (zNice.i (zNice.k _) (zNice.o _))
theorem zn_id (f : Int32 → Int32 → Int32) (nx : Nat) (st : zS) : zNice (fun _ k => z_id f nx st k) := by
  unfold z_id
  repeat' split
  all_goals first | exact zNice.k _ | exact zNice.o _ | exact zNice.i (zNice.k _) (zNice.o _) | exact zNice.i (zNice.o _) (zNice.k _) | exact zNice.i (zNice.k _) (zNice.k _) | exact zNice.i (zNice.k _) (zNice.i (zNice.k _) (zNice.o _))
theorem zn_l2 (f : Int64 → Int64 → Int64) (nx : Nat) (st : zS) : zNice (fun _ k => z_l2 f nx st k) := by
  unfold z_l2
  repeat' split
  all_goals first | exact zNice.k _ | exact zNice.o _ | exact zNice.i (zNice.k _) (zNice.o _) | exact zNice.i (zNice.o _) (zNice.k _) | exact zNice.i (zNice.k _) (zNice.k _) | exact zNice.i (zNice.k _) (zNice.i (zNice.k _) (zNice.o _))
theorem zn_ldv (f : Int64 → Int64 → Int64) (nx : Nat) (st : zS) : zNice (fun _ k => z_ldv f nx st k) := by
  unfold z_ldv
  repeat' split
  all_goals first | exact zNice.k _ | exact zNice.o _ | exact zNice.i (zNice.k _) (zNice.o _) | exact zNice.i (zNice.o _) (zNice.k _) | exact zNice.i (zNice.k _) (zNice.k _) | exact zNice.i (zNice.k _) (zNice.i (zNice.k _) (zNice.o _))
theorem zn_lcmp (nx : Nat) (st : zS) : zNice (fun _ k => z_lcmp nx st k) := by
  unfold z_lcmp
  repeat' split
  all_goals first | exact zNice.k _ | exact zNice.o _ | exact zNice.i (zNice.k _) (zNice.o _) | exact zNice.i (zNice.o _) (zNice.k _) | exact zNice.i (zNice.k _) (zNice.k _) | exact zNice.i (zNice.k _) (zNice.i (zNice.k _) (zNice.o _))
theorem zn_i2l (nx : Nat) (st : zS) : zNice (fun _ k => z_i2l nx st k) := by
  unfold z_i2l
  repeat' split
  all_goals first | exact zNice.k _ | exact zNice.o _ | exact zNice.i (zNice.k _) (zNice.o _) | exact zNice.i (zNice.o _) (zNice.k _) | exact zNice.i (zNice.k _) (zNice.k _) | exact zNice.i (zNice.k _) (zNice.i (zNice.k _) (zNice.o _))
theorem zn_l2i (nx : Nat) (st : zS) : zNice (fun _ k => z_l2i nx st k) := by
  unfold z_l2i
  repeat' split
  all_goals first | exact zNice.k _ | exact zNice.o _ | exact zNice.i (zNice.k _) (zNice.o _) | exact zNice.i (zNice.o _) (zNice.k _) | exact zNice.i (zNice.k _) (zNice.k _) | exact zNice.i (zNice.k _) (zNice.i (zNice.k _) (zNice.o _))
theorem zn_goto (t : Nat) (st : zS) : zNice (fun _ k => z_goto t st k) := by
  unfold z_goto
  repeat' split
  all_goals first | exact zNice.k _ | exact zNice.o _ | exact zNice.i (zNice.k _) (zNice.o _) | exact zNice.i (zNice.o _) (zNice.k _) | exact zNice.i (zNice.k _) (zNice.k _) | exact zNice.i (zNice.k _) (zNice.i (zNice.k _) (zNice.o _))
theorem zn_cmp (c : ClassFile.Cond) (t nx : Nat) (st : zS) : zNice (fun _ k => z_cmp c t nx st k) := by
  unfold z_cmp
  repeat' split
  all_goals first | exact zNice.k _ | exact zNice.o _ | exact zNice.i (zNice.k _) (zNice.o _) | exact zNice.i (zNice.o _) (zNice.k _) | exact zNice.i (zNice.k _) (zNice.k _) | exact zNice.i (zNice.k _) (zNice.i (zNice.k _) (zNice.o _))
theorem zn_if (c : ClassFile.Cond) (t nx : Nat) (st : zS) : zNice (fun _ k => z_if c t nx st k) := by
  unfold z_if
  repeat' split
  all_goals first | exact zNice.k _ | exact zNice.o _ | exact zNice.i (zNice.k _) (zNice.o _) | exact zNice.i (zNice.o _) (zNice.k _) | exact zNice.i (zNice.k _) (zNice.k _) | exact zNice.i (zNice.k _) (zNice.i (zNice.k _) (zNice.o _))
theorem zn_ifn (t nx : Nat) (st : zS) : zNice (fun _ k => z_ifn t nx st k) := by
  unfold z_ifn
  repeat' split
  all_goals first | exact zNice.k _ | exact zNice.o _ | exact zNice.i (zNice.k _) (zNice.o _) | exact zNice.i (zNice.o _) (zNice.k _) | exact zNice.i (zNice.k _) (zNice.k _) | exact zNice.i (zNice.k _) (zNice.i (zNice.k _) (zNice.o _))
theorem zn_ifnn (t nx : Nat) (st : zS) : zNice (fun _ k => z_ifnn t nx st k) := by
  unfold z_ifnn
  repeat' split
  all_goals first | exact zNice.k _ | exact zNice.o _ | exact zNice.i (zNice.k _) (zNice.o _) | exact zNice.i (zNice.o _) (zNice.k _) | exact zNice.i (zNice.k _) (zNice.k _) | exact zNice.i (zNice.k _) (zNice.i (zNice.k _) (zNice.o _))
theorem zn_dup (nx : Nat) (st : zS) : zNice (fun _ k => z_dup nx st k) := by
  unfold z_dup
  repeat' split
  all_goals first | exact zNice.k _ | exact zNice.o _ | exact zNice.i (zNice.k _) (zNice.o _) | exact zNice.i (zNice.o _) (zNice.k _) | exact zNice.i (zNice.k _) (zNice.k _) | exact zNice.i (zNice.k _) (zNice.i (zNice.k _) (zNice.o _))
theorem zn_dup2 (nx : Nat) (st : zS) : zNice (fun _ k => z_dup2 nx st k) := by
  unfold z_dup2
  repeat' split
  all_goals first | exact zNice.k _ | exact zNice.o _ | exact zNice.i (zNice.k _) (zNice.o _) | exact zNice.i (zNice.o _) (zNice.k _) | exact zNice.i (zNice.k _) (zNice.k _) | exact zNice.i (zNice.k _) (zNice.i (zNice.k _) (zNice.o _))
theorem zn_dupx (nx : Nat) (st : zS) : zNice (fun _ k => z_dupx nx st k) := by
  unfold z_dupx
  repeat' split
  all_goals first | exact zNice.k _ | exact zNice.o _ | exact zNice.i (zNice.k _) (zNice.o _) | exact zNice.i (zNice.o _) (zNice.k _) | exact zNice.i (zNice.k _) (zNice.k _) | exact zNice.i (zNice.k _) (zNice.i (zNice.k _) (zNice.o _))
theorem zn_pop (nx : Nat) (st : zS) : zNice (fun _ k => z_pop nx st k) := by
  unfold z_pop
  repeat' split
  all_goals first | exact zNice.k _ | exact zNice.o _ | exact zNice.i (zNice.k _) (zNice.o _) | exact zNice.i (zNice.o _) (zNice.k _) | exact zNice.i (zNice.k _) (zNice.k _) | exact zNice.i (zNice.k _) (zNice.i (zNice.k _) (zNice.o _))
theorem zn_getf (f : Nat) (cs : List Nat) (nx : Nat) (st : zS) : zNice (fun _ k => z_getf f cs nx st k) := by
  unfold z_getf
  repeat' split
  all_goals first | exact zNice.k _ | exact zNice.o _ | exact zNice.i (zNice.k _) (zNice.o _) | exact zNice.i (zNice.o _) (zNice.k _) | exact zNice.i (zNice.k _) (zNice.k _) | exact zNice.i (zNice.k _) (zNice.i (zNice.k _) (zNice.o _))
theorem zn_putf (f ty : Nat) (cs : List Nat) (nx : Nat) (st : zS) : zNice (fun _ k => z_putf f ty cs nx st k) := by
  unfold z_putf
  repeat' split
  all_goals first | exact zNice.k _ | exact zNice.o _ | exact zNice.i (zNice.k _) (zNice.o _) | exact zNice.i (zNice.o _) (zNice.k _) | exact zNice.i (zNice.k _) (zNice.k _) | exact zNice.i (zNice.k _) (zNice.i (zNice.k _) (zNice.o _))
theorem zn_nald (t nx : Nat) (st : zS) : zNice (fun _ k => z_nald t nx st k) := by
  unfold z_nald
  repeat' split
  all_goals first | exact zNice.k _ | exact zNice.o _ | exact zNice.i (zNice.k _) (zNice.o _) | exact zNice.i (zNice.o _) (zNice.k _) | exact zNice.i (zNice.k _) (zNice.k _) | exact zNice.i (zNice.k _) (zNice.i (zNice.k _) (zNice.o _))
theorem zn_sald (E : zE) (nx : Nat) (st : zS) : zNice (fun _ k => z_sald E nx st k) := by
  unfold z_sald
  repeat' split
  all_goals first | exact zNice.k _ | exact zNice.o _ | exact zNice.i (zNice.k _) (zNice.o _) | exact zNice.i (zNice.o _) (zNice.k _) | exact zNice.i (zNice.k _) (zNice.k _) | exact zNice.i (zNice.k _) (zNice.i (zNice.k _) (zNice.o _))
theorem zn_slen (E : zE) (nx : Nat) (st : zS) : zNice (fun _ k => z_slen E nx st k) := by
  unfold z_slen
  repeat' split
  all_goals first | exact zNice.k _ | exact zNice.o _ | exact zNice.i (zNice.k _) (zNice.o _) | exact zNice.i (zNice.o _) (zNice.k _) | exact zNice.i (zNice.k _) (zNice.k _) | exact zNice.i (zNice.k _) (zNice.i (zNice.k _) (zNice.o _))
theorem zn_nast (t nx : Nat) (st : zS) : zNice (fun _ k => z_nast t nx st k) := by
  unfold z_nast
  repeat' split
  all_goals first | exact zNice.k _ | exact zNice.o _ | exact zNice.i (zNice.k _) (zNice.o _) | exact zNice.i (zNice.o _) (zNice.k _) | exact zNice.i (zNice.k _) (zNice.k _) | exact zNice.i (zNice.k _) (zNice.i (zNice.k _) (zNice.o _))
theorem zn_aald (nx : Nat) (st : zS) : zNice (fun _ k => z_aald nx st k) := by
  unfold z_aald
  repeat' split
  all_goals first | exact zNice.k _ | exact zNice.o _ | exact zNice.i (zNice.k _) (zNice.o _) | exact zNice.i (zNice.o _) (zNice.k _) | exact zNice.i (zNice.k _) (zNice.k _) | exact zNice.i (zNice.k _) (zNice.i (zNice.k _) (zNice.o _))
theorem zn_aast (nx : Nat) (st : zS) : zNice (fun _ k => z_aast nx st k) := by
  unfold z_aast
  repeat' split
  all_goals first | exact zNice.k _ | exact zNice.o _ | exact zNice.i (zNice.k _) (zNice.o _) | exact zNice.i (zNice.o _) (zNice.k _) | exact zNice.i (zNice.k _) (zNice.k _) | exact zNice.i (zNice.k _) (zNice.i (zNice.k _) (zNice.o _))
theorem zn_newa (t nx : Nat) (st : zS) : zNice (fun _ k => z_newa t nx st k) := by
  unfold z_newa
  repeat' split
  all_goals first | exact zNice.k _ | exact zNice.o _ | exact zNice.i (zNice.k _) (zNice.o _) | exact zNice.i (zNice.o _) (zNice.k _) | exact zNice.i (zNice.k _) (zNice.k _) | exact zNice.i (zNice.k _) (zNice.i (zNice.k _) (zNice.o _))
theorem zn_newr (t nx : Nat) (st : zS) : zNice (fun _ k => z_newr t nx st k) := by
  unfold z_newr
  repeat' split
  all_goals first | exact zNice.k _ | exact zNice.o _ | exact zNice.i (zNice.k _) (zNice.o _) | exact zNice.i (zNice.o _) (zNice.k _) | exact zNice.i (zNice.k _) (zNice.k _) | exact zNice.i (zNice.k _) (zNice.i (zNice.k _) (zNice.o _))
theorem zn_new (c nx : Nat) (st : zS) : zNice (fun _ k => z_new c nx st k) := by
  unfold z_new
  repeat' split
  all_goals first | exact zNice.k _ | exact zNice.o _ | exact zNice.i (zNice.k _) (zNice.o _) | exact zNice.i (zNice.o _) (zNice.k _) | exact zNice.i (zNice.k _) (zNice.k _) | exact zNice.i (zNice.k _) (zNice.i (zNice.k _) (zNice.o _))
theorem zn_inst (yes no : List Nat) (nx : Nat) (st : zS) : zNice (fun _ k => z_inst yes no nx st k) := by
  unfold z_inst
  repeat' split
  all_goals first | exact zNice.k _ | exact zNice.o _ | exact zNice.i (zNice.k _) (zNice.o _) | exact zNice.i (zNice.o _) (zNice.k _) | exact zNice.i (zNice.k _) (zNice.k _) | exact zNice.i (zNice.k _) (zNice.i (zNice.k _) (zNice.o _))
theorem zn_obj (nx : Nat) (st : zS) : zNice (fun _ k => z_obj nx st k) := by
  unfold z_obj
  repeat' split
  all_goals first | exact zNice.k _ | exact zNice.o _ | exact zNice.i (zNice.k _) (zNice.o _) | exact zNice.i (zNice.o _) (zNice.k _) | exact zNice.i (zNice.k _) (zNice.k _) | exact zNice.i (zNice.k _) (zNice.i (zNice.k _) (zNice.o _))
theorem zn_copy (nx : Nat) (st : zS) : zNice (fun _ k => z_copy nx st k) := by
  unfold z_copy
  repeat' split
  all_goals first | exact zNice.k _ | exact zNice.o _ | exact zNice.i (zNice.k _) (zNice.o _) | exact zNice.i (zNice.o _) (zNice.k _) | exact zNice.i (zNice.k _) (zNice.k _) | exact zNice.i (zNice.k _) (zNice.i (zNice.k _) (zNice.o _))

theorem zn_mm (mx : Bool) (nx : Nat) (st : zS) : zNice (fun _ k => z_mm mx nx st k) := by
  unfold z_mm
  split
  · exact zNice.i (zNice.k _) (zNice.o _)
  · exact zNice.o _
theorem zn_swz (d : Nat) (qs : List (Int × Nat)) (st : zS) : zNice (fun _ k => z_sw d qs st k) := by
  unfold z_sw
  split
  · exact zn_sw _ _ (fun t => (t, st.2.1, _, st.2.2.2)) qs
  · exact zNice.o _
theorem zn_vir (n : Nat) (ds : List Nat) (nx : Nat) (st : zS) : zNice (fun c k => z_vir n ds nx c st k) := by
  unfold z_vir
  repeat' split
  all_goals first | exact zn_inv _ _ _ _ | exact zNice.o _
theorem zn_spc (n M nx : Nat) (st : zS) : zNice (fun c k => z_spc n M nx c st k) := by
  unfold z_spc
  repeat' split
  all_goals first | exact zn_inv _ _ _ _ | exact zNice.o _
set_option maxHeartbeats 4000000 in
theorem zn_step (E : zE) (i : zI) (st : zS) : zNice (fun c k => zstep E c i st k) := by
  unfold zstep
  split
  all_goals first | exact zNice.o _ | exact zn_push _ _ _ | exact zn_ild _ _ _ | exact zn_lld _ _ _ | exact zn_ald _ _ _ | exact zn_ist _ _ _ | exact zn_lst _ _ _ | exact zn_ast _ _ _ | exact zn_iinc _ _ _ _ | exact zn_i2 _ _ _ | exact zn_i1 _ _ _ | exact zn_id _ _ _ | exact zn_l2 _ _ _ | exact zn_ldv _ _ _ | exact zn_lcmp _ _ | exact zn_i2l _ _ | exact zn_l2i _ _ | exact zn_goto _ _ | exact zn_cmp _ _ _ _ | exact zn_if _ _ _ _ | exact zn_ifn _ _ _ | exact zn_ifnn _ _ _ | exact zn_swz _ _ _ | exact zn_dup _ _ | exact zn_dup2 _ _ | exact zn_dupx _ _ | exact zn_pop _ _ | exact zn_getf _ _ _ _ | exact zn_putf _ _ _ _ _ | exact zn_nald _ _ _ | exact zn_sald _ _ _ | exact zn_slen _ _ _ | exact zn_nast _ _ _ | exact zn_aald _ _ | exact zn_aast _ _ | exact zn_newa _ _ _ | exact zn_newr _ _ _ | exact zn_new _ _ _ | exact zn_inst _ _ _ _ | exact zn_inv _ _ _ _ | exact zn_copy _ _ | exact zn_mm _ _ _ | exact zn_vir _ _ _ _ | exact zn_spc _ _ _ _ | exact zn_obj _ _
theorem zn_go (P : zP) (E : zE) (M : Nat) (st : zS) : zNice (fun c k => zgo P E c M k st) := by
  unfold zgo
  split
  · exact zn_step _ _ _
  · exact zNice.o _
theorem zNice.mono {f : zA → zK → Option zR} (hf : zNice f) {c c' : zA} {k k' : zK} (hc : ∀ M as h r, c M as h = some r → c' M as h = some r) (hk : ∀ st r, k st = some r → k' st = some r) {r : zR} (h : f c k = some r) : f c' k' = some r := by
  rcases hf with ⟨o, ho⟩ | ⟨st, ho⟩ | ⟨M, as, hh, g, ho⟩
  · rw [ho] at h ⊢; exact h
  · rw [ho] at h ⊢; exact hk _ _ h
  · rw [ho] at h ⊢
    cases hq : c M as hh with
    | none => rw [hq] at h; cases h
    | some q =>
      rw [hq] at h
      rw [hc _ _ _ _ hq]
      exact hk _ _ h
theorem zrunN_succ {P : zP} {E : zE} : ∀ {n M : Nat} {st : zS} {r : zR}, zrunN P E n M st = some r → zrunN P E (n + 1) M st = some r := by
  intro n
  induction n with
  | zero => intro M st r h; cases h
  | succ n ih =>
    intro M st r h
    exact (zn_go P E M st).mono (c := fun M' as h => if (zlay as).length ≤ (P M').1 then zrunN P E n M' (zin P M' as h) else none) (k := zrunN P E n M) (fun M' as hh r h => by
      split at h
      · rename_i hl; rw [if_pos hl]; exact ih h
      · cases h) (fun _ _ h => ih h) h
theorem zrunN_le {P : zP} {E : zE} {n m M : Nat} {st : zS} {r : zR} (hl : n ≤ m) (h : zrunN P E n M st = some r) : zrunN P E m M st = some r := by
  induction hl with
  | refl => exact h
  | step _ ih => exact zrunN_succ ih
theorem zrun_iff {P : zP} {E : zE} {M : Nat} {st : zS} {r : zR} : zrun P E M st = some r ↔ ∃ n, zrunN P E n M st = some r := by
  unfold zrun
  constructor
  · intro h
    by_cases hq : ∃ r n, zrunN P E n M st = some r
    · rw [dif_pos hq] at h
      cases h
      exact hq.choose_spec
    · rw [dif_neg hq] at h
      cases h
  · intro ⟨n, hn⟩
    have hq : ∃ r n, zrunN P E n M st = some r := ⟨r, n, hn⟩
    rw [dif_pos hq]
    obtain ⟨m, hm⟩ := hq.choose_spec
    have h1 := zrunN_le (Nat.le_max_left n m) hn
    have h2 := zrunN_le (Nat.le_max_right n m) hm
    rw [h1] at h2
    exact h2.symm
/-- a run is its first step, and the run from there -/
theorem zrun_eq (P : zP) (E : zE) (M : Nat) (st : zS) : zrun P E M st = zgo P E (zcall P E) M (zrun P E M) st := by
  apply Option.ext
  intro r
  rw [zrun_iff]
  have hN := zn_go P E M st
  constructor
  · intro ⟨n, hn⟩
    cases n with
    | zero => cases hn
    | succ n => exact hN.mono (c := fun M' as h => if (zlay as).length ≤ (P M').1 then zrunN P E n M' (zin P M' as h) else none) (k := zrunN P E n M) (fun M' as hh r h => by
        unfold zcall
        split at h
        · rename_i hl; rw [if_pos hl]; exact zrun_iff.mpr ⟨n, h⟩
        · cases h) (fun _ _ h => zrun_iff.mpr ⟨n, h⟩) hn
  · intro h
    rcases hN with ⟨o, ho⟩ | ⟨st', ho⟩ | ⟨M', as, hh, g, ho⟩
    · exact ⟨1, (ho _ _).trans ((ho _ _).symm.trans h)⟩
    · have h := (ho _ _).symm.trans h
      obtain ⟨n, hn⟩ := zrun_iff.mp h
      exact ⟨n + 1, (ho _ _).trans hn⟩
    · have h := (ho _ _).symm.trans h
      cases hq : zcall P E M' as hh with
      | none => rw [hq] at h; cases h
      | some q =>
        rw [hq] at h
        have hl : (zlay as).length ≤ (P M').1 := by
          unfold zcall at hq
          split at hq
          · assumption
          · cases hq
        rw [zcall, if_pos hl] at hq
        obtain ⟨n1, h1⟩ := zrun_iff.mp hq
        obtain ⟨n2, h2⟩ := zrun_iff.mp (show zrun P E M (g q) = some r from h)
        refine ⟨max n1 n2 + 1, (ho _ _).trans ?_⟩
        rw [if_pos hl, zrunN_le (Nat.le_max_left n1 n2) h1]
        exact zrunN_le (Nat.le_max_right n1 n2) h2
/-- k steps, then the run -/
noncomputable def zit (P : zP) (E : zE) (M : Nat) : Nat → zS → Option zR
  | 0, st => zrun P E M st
  | n + 1, st => zgo P E (zcall P E) M (zit P E M n) st
theorem zrun_it (P : zP) (E : zE) (M : Nat) : ∀ (n : Nat) (st : zS), zrun P E M st = zit P E M n st
  | 0, _ => rfl
  | n + 1, st => by
    rw [zrun_eq]
    show _ = zgo P E (zcall P E) M (zit P E M n) st
    rw [show zit P E M n = zrun P E M from funext fun s => (zrun_it P E M n s).symm]
