/-! THE JOINT STATE OF BOTH -/
def WL (N : Nat → Nat) : Prop := N 5 = 0 → ∀ b, b < N 3 → (N 8).testBit b = true
def WG (N : Nat → Nat) : Prop := (WF N ∧ WL N) ∨ WZ N
/-- what may change (P), and the lifters stay -/
def fr (P : Nat → Prop) (h h' : zH) : Prop := (∀ a, a < 87 → ¬ P a → h'[a]? = h[a]?) ∧ ∀ a, 87 ≤ a → ∀ c, h[a]? = some c → h'[a]? = some c
theorem fr.rf {P : Nat → Prop} (h : zH) : fr P h h := ⟨fun _ _ _ => rfl, fun _ _ _ e => e⟩
theorem fr.tr {P : Nat → Prop} {a b c : zH} (h : fr P a b) (g : fr P b c) : fr P a c := ⟨fun x h1 h2 => (g.1 x h1 h2).trans (h.1 x h1 h2), fun x h1 c e => g.2 x h1 c (h.2 x h1 c e)⟩
theorem fr.wk {P Q : Nat → Prop} {a b : zH} (h : fr P a b) (hq : ∀ x, P x → Q x) : fr Q a b := ⟨fun x h1 h2 => h.1 x h1 (fun z => h2 (hq x z)), h.2⟩
theorem zsm.fr {P : Nat → Prop} {h h' : zH} (hz : zsm P h h') (hP : ∀ a, P a → a < 87) : fr P h h' := ⟨fun a _ h2 => hz.2 a h2, fun a h1 _ e => (hz.2 a (fun z => absurd (hP a z) (by omega))).trans e⟩
theorem fr_app {P : Nat → Prop} {h : zH} {c : zC} (hl : 87 ≤ h.length) : fr P h (h ++ [c]) := ⟨fun a h1 _ => zat_old (by omega), fun a _ x e => by rw [zat_old (List.getElem?_eq_some_iff.mp e).1]; exact e⟩
theorem fr_pf {h : zH} {a f : Nat} {v : Value} (ha : a < 87) : fr (fun x => x = a) h (zpf h a f v) := zsm_pf.fr (fun x e => by cases e; exact ha)
theorem fr_pa {h : zH} {a i : Nat} {v : Int32} (ha : a < 87) : fr (fun x => x = a) h (zpa h a i v) := zsm_pa.fr (fun x e => by cases e; exact ha)
/-- the crew's places of a yard -/
def CR (h : zH) (y : Nat) : Prop := ∃ g, h[y + 8]? = some (.inr (.inr (4, 4, g))) ∧ crO h g
def YC (h : zH) (y : Nat) (N : Nat → Nat) : Prop := YN h y N ∧ CR h y
theorem CR.keep {P : Nat → Prop} {h h' : zH} {y : Nat} (hC : CR h y) (hz : fr P h h') (hy : y + 8 < 87) (hp : ¬ P (y + 8)) : CR h' y := by
  obtain ⟨g, h1, h2⟩ := hC
  exact ⟨g, (hz.1 _ hy hp).trans h1, h2.keep hz.2⟩
theorem YC.keep {P : Nat → Prop} {h h' : zH} {y : Nat} {N : Nat → Nat} (hC : YC h y N) (hz : fr P h h') (hy : y + 8 < 87) (hp : ∀ a, y ≤ a → a ≤ y + 8 → ¬ P a) : YC h' y N :=
  ⟨hC.1.keep (fun a h1 h2 => hz.1 a (by omega) (hp a h1 h2)) hz.2, hC.2.keep hz hy (hp _ (by omega) (by omega))⟩
/-- rows -/
def JRow (h : zH) : Prop := RA h ∧ ∃ (th : Nat → Bool) (ln : Nat → Int32) (sz : Nat → Nat) (it : Nat → Nat → Int32) (lm im : Nat → Int32),
  (∀ i, i < 8 → RW h (34 + 2 * i) (zb (th i)) (ln i) (nI (sz i)) (it i)) ∧ ML h lm (fun i => nI (sz i)) im ∧
  (∀ i, i < 8 → lm i = (if th i = true then ln i else -1)) ∧ (∀ i, i < 8 → ∀ j, j < 40 → im (40 * i + j) = it i j) ∧ (∀ i, i < 8 → ln i = 0 ∨ ln i = 1 ∨ ln i = 2) ∧ ∀ i, i < 8 → sz i ≤ 40
theorem RA.keep {h h' : zH} (hR : RA h) (e : h'[1]? = h[1]?) : RA h' := by
  obtain ⟨g, h1, h2⟩ := hR
  exact ⟨g, e.trans h1, h2⟩
theorem ML.keep {h h' : zH} {ln mn it : Nat → Int32} (hL : ML h ln mn it) (e : ∀ a, 74 ≤ a → a ≤ 76 → h'[a]? = h[a]?) : ML h' ln mn it :=
  ⟨zrow_c (e 74 (by omega) (by omega)) hL.1, zrow_c (e 75 (by omega) (by omega)) hL.2.1, zrow_c (e 76 (by omega) (by omega)) hL.2.2⟩
theorem JRow.keep {P : Nat → Prop} {h h' : zH} (hJ : JRow h) (hz : fr P h h') (hp : ∀ a, a = 1 ∨ (34 ≤ a ∧ a ≤ 49) ∨ (74 ≤ a ∧ a ≤ 76) → ¬ P a) : JRow h' := by
  obtain ⟨h1, th, ln, sz, it, lm, im, h2, h3, h4⟩ := hJ
  exact ⟨h1.keep (hz.1 1 (by omega) (hp 1 (by omega))), th, ln, sz, it, lm, im, fun i hi => (h2 i hi).keep (hz.1 _ (by omega) (hp _ (by omega))) (hz.1 _ (by omega) (hp _ (by omega))), h3.keep (fun a g1 g2 => hz.1 a (by omega) (hp a (by omega))), h4⟩
/-- the reader -/
def RD (h : zH) (r T : Nat → Int32) : Prop := zcls h 2 = some 5 ∧ zfld [5] h 2 0 = some (.ref 3) ∧ (∀ k, 1 ≤ k → k < 7 → zfld [5] h 2 k = some (.int (r k))) ∧ zrow 0 h 3 120 T
theorem RD.keep {h h' : zH} {r T : Nat → Int32} (hR : RD h r T) (e2 : h'[2]? = h[2]?) (e3 : h'[3]? = h[3]?) : RD h' r T :=
  ⟨(zcls_c e2).trans hR.1, (zfld_c e2).trans hR.2.1, fun k h1 h2 => (zfld_c e2).trans (hR.2.2.1 k h1 h2), zrow_c e3 hR.2.2.2⟩
def JTape (h : zH) (a b : Int32) : Prop := ∃ (r T : Nat → Int32) (tl : Nat), RD h r T ∧ zrow 0 h 80 120 T ∧ tl ≤ 120 ∧ r 1 = nI tl ∧ a = nI tl ∧ r 2 = b ∧ ∀ j, j < tl → ∃ c : Nat, c < 256 ∧ T j = nI c
theorem JTape.keep {P : Nat → Prop} {h h' : zH} {a b : Int32} (hJ : JTape h a b) (hz : fr P h h') (hp : ∀ a, a = 2 ∨ a = 3 ∨ a = 80 → ¬ P a) : JTape h' a b := by
  obtain ⟨r, T, tl, h1, h2, h3⟩ := hJ
  exact ⟨r, T, tl, h1.keep (hz.1 _ (by omega) (hp _ (by omega))) (hz.1 _ (by omega) (hp _ (by omega))), zrow_c (hz.1 _ (by omega) (hp _ (by omega))) h2, h3⟩
/-- the lifters as whom one is tried -/
def GU (h : zH) : Prop := ∃ g, h[13]? = some (.inr (.inr (4, 6, g))) ∧ ∀ k, 1 ≤ k → k ≤ 5 → g k = some (67 + k) ∧ zcls h (67 + k) = some (kcls k) ∧ zfld [1, 2, 3, 4, 7] h (67 + k) 0 = some (.int 0) ∧ ∃ x, zfld [1, 2, 3, 4, 7] h (67 + k) 1 = some (.int x)
theorem GU.keep {P : Nat → Prop} {h h' : zH} (hG : GU h) (hz : fr P h h') (hp : ∀ a, a = 13 ∨ (68 ≤ a ∧ a ≤ 72) → ¬ P a) : GU h' := by
  obtain ⟨g, g1, g2⟩ := hG
  refine ⟨g, (hz.1 _ (by omega) (hp _ (by omega))).trans g1, fun k k1 k5 => ?_⟩
  obtain ⟨a1, a2, a3, x, a4⟩ := g2 k k1 k5
  have e := hz.1 (67 + k) (by omega) (hp _ (by omega))
  exact ⟨a1, (zcls_c e).trans a2, (zfld_c e).trans a3, x, (zfld_c e).trans a4⟩
/-- images -/
def IA (h : zH) : Prop := ∃ g, h[4]? = some (.inr (.inr (3, 2, g))) ∧ ∀ i, i < 2 → g i = some (50 + 9 * i)
def JImg (h : zH) : Prop := (IA h ∧ GU h) ∧ ∃ (I : Nat → Nat → Nat) (ik kp : Nat → Int32), (∀ k, k < 2 → YC h (50 + 9 * k) (I k) ∧ WG (I k) ∧ ik k = zb (decide (0 < I k 3)) ∧ ∀ i, i < 73 → kp (73 * k + i) = nI (I k i)) ∧ zrow 1 h 84 2 ik ∧ zrow 0 h 85 146 kp
theorem JImg.keep {P : Nat → Prop} {h h' : zH} (hJ : JImg h) (hz : fr P h h') (hp : ∀ a, a = 4 ∨ a = 13 ∨ (50 ≤ a ∧ a ≤ 72) ∨ a = 84 ∨ a = 85 → ¬ P a) : JImg h' := by
  obtain ⟨⟨⟨g, g1, g2⟩, hG⟩, I, ik, kp, h1, h2, h3⟩ := hJ
  exact ⟨⟨⟨g, (hz.1 _ (by omega) (hp _ (by omega))).trans g1, g2⟩, hG.keep hz (fun a ha => hp a (by omega))⟩, I, ik, kp, fun k hk => ⟨(h1 k hk).1.keep hz (by omega) (fun a _ _ => hp a (by omega)), (h1 k hk).2⟩, zrow_c (hz.1 _ (by omega) (hp _ (by omega))) h2, zrow_c (hz.1 _ (by omega) (hp _ (by omega))) h3⟩
/-- one act: the yard before it, and behind it -/
def lk (so th ga se fa : Int32) (P N : Nat → Nat) : Prop := ∃ dS dF, se = nI dS ∧ fa = nI dF ∧ N 6 = P 6 + dS ∧ N 7 = P 7 + dF ∧
  ((so = 0 ∧ ∃ b, b < P 3 ∧ th = nI b ∧ (P 8).testBit b = true ∧ N 8 = zclr (P 8) b ∧ ∀ i, i ≠ 6 → i ≠ 7 → i ≠ 8 → N i = P i) ∨
   (so = 2 ∧ ∃ b, b < P 3 ∧ th = nI b ∧ (P 8).testBit b = false ∧ N 8 = zput (P 8) b ∧ ∀ i, i ≠ 6 → i ≠ 7 → i ≠ 8 → N i = P i) ∨
   (so = 1 ∧ ∃ k, k < P 4 ∧ th = nI k ∧ P (25 + 4 * k) = 1 ∧ P (28 + 4 * k) = 0 ∧ N (28 + 4 * k) = 1 ∧ ∀ i, i ≠ 6 → i ≠ 7 → i ≠ 28 + 4 * k → N i = P i) ∨
   (so = 3 ∧ ∃ b, b < P 3 ∧ th = nI b ∧ ga = nI (P (10 + 2 * b)) ∧ (1 ≤ N (10 + 2 * b) ∧ N (10 + 2 * b) ≤ 20) ∧ ∀ i, i ≠ 6 → i ≠ 7 → i ≠ 10 + 2 * b → N i = P i))
def JAct (h : zH) (N : Nat → Nat) (a : Int32) : Prop := ∃ (A : Nat) (R : Nat → Nat → Int32) (W : Nat → Nat → Nat) (m : Nat → Int32), A ≤ 24 ∧ a = nI A ∧ AC h A R ∧ zrow 0 h 79 1752 m ∧ W A = N ∧
  ∀ j, j < A → (WF (W j) ∧ WL (W j)) ∧ lk (R 0 j) (R 1 j) (R 2 j) (R 3 j) (R 4 j) (W j) (W (j + 1)) ∧ ∀ i, i < 73 → m (73 * j + i) = nI (W j i)
theorem JAct.keep {P : Nat → Prop} {h h' : zH} {N : Nat → Nat} {a : Int32} (hJ : JAct h N a) (hz : fr P h h') (hp : ∀ a, (5 ≤ a ∧ a ≤ 10) ∨ a = 79 → ¬ P a) : JAct h' N a := by
  obtain ⟨A, R, W, m, h1, h2, h3, h4, h5⟩ := hJ
  exact ⟨A, R, W, m, h1, h2, h3.keep (fun a ha => hz.1 a (by unfold aP at ha; omega) (hp a (by unfold aP at ha; omega))), zrow_c (hz.1 _ (by omega) (hp _ (by omega))) h4, h5⟩
/-- the trace -/
def TC (h : zH) (tn k : Int32) (t : Nat → Int32) : Prop := zcls h 11 = some 8 ∧ zfld [8] h 11 0 = some (.ref 12) ∧ zfld [8] h 11 1 = some (.int tn) ∧ zfld [8] h 11 2 = some (.int k) ∧ zrow 0 h 12 16 t
theorem TC.keep {h h' : zH} {tn k : Int32} {t : Nat → Int32} (hT : TC h tn k t) (e1 : h'[11]? = h[11]?) (e2 : h'[12]? = h[12]?) : TC h' tn k t := by
  obtain ⟨h1, h2, h3, h4, h5⟩ := hT
  exact ⟨(zcls_c e1).trans h1, (zfld_c e1).trans h2, (zfld_c e1).trans h3, (zfld_c e1).trans h4, zrow_c e2 h5⟩
def JTr (h : zH) (a : Int32) : Prop := ∃ (tn : Nat) (k : Int32) (t : Nat → Int32), TC h (nI tn) k t ∧ zrow 0 h 86 16 t ∧ a = nI tn ∧ tn ≤ 16
theorem JTr.keep {P : Nat → Prop} {h h' : zH} {a : Int32} (hJ : JTr h a) (hz : fr P h h') (hp : ∀ a, a = 11 ∨ a = 12 ∨ a = 86 → ¬ P a) : JTr h' a := by
  obtain ⟨tn, k, t, h1, h2, h3⟩ := hJ
  exact ⟨tn, k, t, h1.keep (hz.1 _ (by omega) (hp _ (by omega))) (hz.1 _ (by omega) (hp _ (by omega))), zrow_c (hz.1 _ (by omega) (hp _ (by omega))) h2, h3⟩
/-- rows that a call lays anew -/
def JScr (h : zH) : Prop := (∃ f, zrow 0 h 14 64 f) ∧ (∃ f, zrow 0 h 15 256 f) ∧ (∃ f, zrow 0 h 78 73 f) ∧ (∃ f, zrow 0 h 81 256 f) ∧ (∃ f, zrow 0 h 82 256 f) ∧ ∃ f, zrow 0 h 83 8 f
theorem JScr.keep {P : Nat → Prop} {h h' : zH} (hJ : JScr h) (hz : fr P h h') (hp : ∀ a, a = 14 ∨ a = 15 ∨ a = 78 ∨ a = 81 ∨ a = 82 ∨ a = 83 → ¬ P a) : JScr h' := by
  obtain ⟨⟨f1, h1⟩, ⟨f2, h2⟩, ⟨f3, h3⟩, ⟨f4, h4⟩, ⟨f5, h5⟩, f6, h6⟩ := hJ
  exact ⟨⟨f1, zrow_c (hz.1 _ (by omega) (hp _ (by omega))) h1⟩, ⟨f2, zrow_c (hz.1 _ (by omega) (hp _ (by omega))) h2⟩, ⟨f3, zrow_c (hz.1 _ (by omega) (hp _ (by omega))) h3⟩, ⟨f4, zrow_c (hz.1 _ (by omega) (hp _ (by omega))) h4⟩, ⟨f5, zrow_c (hz.1 _ (by omega) (hp _ (by omega))) h5⟩, f6, zrow_c (hz.1 _ (by omega) (hp _ (by omega))) h6⟩
/-- the yards -/
def SP (h : zH) (s : Nat) : Prop := (∃ F A cr, YAt h s F A cr) ∧ CR h s
theorem SP.keep {P : Nat → Prop} {h h' : zH} {s : Nat} (hS : SP h s) (hz : fr P h h') (hy : s + 8 < 87) (hp : ∀ a, s ≤ a → a ≤ s + 8 → ¬ P a) : SP h' s := by
  obtain ⟨⟨F, A, cr, h1⟩, h2⟩ := hS
  exact ⟨⟨F, A, cr, h1.keep (fun a g1 g2 => hz.1 a (by omega) (hp a g1 g2))⟩, h2.keep hz hy (hp _ (by omega) (by omega))⟩
theorem YC.sp {h : zH} {y : Nat} {N : Nat → Nat} (hY : YC h y N) : SP h y := by
  obtain ⟨⟨A, cr, h1, -⟩, h2⟩ := hY
  exact ⟨⟨_, A, cr, h1⟩, h2⟩
def yys (y s : Nat) : Prop := (y = 16 ∧ s = 25) ∨ (y = 25 ∧ s = 16)
theorem MdO.keep {h h' : zH} {sc : Nat → Int32} (hM : MdO h sc) (e : h'[73]? = h[73]?) : MdO h' sc := ⟨(zcls_c e).trans hM.1, fun k hk => (zfld_c e).trans (hM.2 k hk)⟩
theorem MY.keep {h h' : zH} {N : Nat → Nat} (hM : MY h N) (e : h'[77]? = h[77]?) : MY h' N := zrow_c e hM
def JJ (h : zH) (y s : Nat) (v : Int32) (sc : Nat → Int32) (N : Nat → Nat) : Prop := yys y s ∧ CO h y s v ∧ MdO h sc ∧ JRow h ∧ JTape h (sc 10) (sc 17) ∧ JImg h ∧ JAct h N (sc 8) ∧ JTr h (sc 24) ∧ JScr h ∧ YC h y N ∧ MY h N ∧ WG N ∧ SP h s
section JJS
variable {h h' : zH} {y s : Nat} {v : Int32} {sc : Nat → Int32} {N : Nat → Nat}
theorem JJ.ys (hJ : JJ h y s v sc N) : yys y s := hJ.1
theorem JJ.co (hJ : JJ h y s v sc N) : CO h y s v := hJ.2.1
theorem JJ.md (hJ : JJ h y s v sc N) : MdO h sc := hJ.2.2.1
theorem JJ.row (hJ : JJ h y s v sc N) : JRow h := hJ.2.2.2.1
theorem JJ.tape (hJ : JJ h y s v sc N) : JTape h (sc 10) (sc 17) := hJ.2.2.2.2.1
theorem JJ.img (hJ : JJ h y s v sc N) : JImg h := hJ.2.2.2.2.2.1
theorem JJ.act (hJ : JJ h y s v sc N) : JAct h N (sc 8) := hJ.2.2.2.2.2.2.1
theorem JJ.tr (hJ : JJ h y s v sc N) : JTr h (sc 24) := hJ.2.2.2.2.2.2.2.1
theorem JJ.scr (hJ : JJ h y s v sc N) : JScr h := hJ.2.2.2.2.2.2.2.2.1
theorem JJ.yc (hJ : JJ h y s v sc N) : YC h y N := hJ.2.2.2.2.2.2.2.2.2.1
theorem JJ.yn (hJ : JJ h y s v sc N) : YN h y N := hJ.yc.1
theorem JJ.my (hJ : JJ h y s v sc N) : MY h N := hJ.2.2.2.2.2.2.2.2.2.2.1
theorem JJ.wg (hJ : JJ h y s v sc N) : WG N := hJ.2.2.2.2.2.2.2.2.2.2.2.1
theorem JJ.sp (hJ : JJ h y s v sc N) : SP h s := hJ.2.2.2.2.2.2.2.2.2.2.2.2
/-- the component's finding -/
theorem JJ.c9 (hJ : JJ h y s v sc N) (w : Int32) : JJ (zpf h 0 9 (.int w)) y s w sc N := by
  have hz : fr (fun x => x = 0) h (zpf h 0 9 (.int w)) := fr_pf (by omega)
  have hy := hJ.ys
  unfold yys at hy
  exact ⟨hJ.ys, hJ.co.put w, hJ.md.keep (hz.1 _ (by omega) (by omega)), hJ.row.keep hz (fun a ha => by omega), hJ.tape.keep hz (fun a ha => by omega), hJ.img.keep hz (fun a ha => by omega), hJ.act.keep hz (fun a ha => by omega), hJ.tr.keep hz (fun a ha => by omega), hJ.scr.keep hz (fun a ha => by omega), hJ.yc.keep hz (by omega) (fun a h1 h2 => by omega), hJ.my.keep (hz.1 _ (by omega) (by omega)), hJ.wg, hJ.sp.keep hz (by omega) (fun a h1 h2 => by omega)⟩
/-- a number of the model -/
theorem JJ.mi (hJ : JJ h y s v sc N) (k : Nat) (hk : mref k = none) (hl : k < 25) (w : Int32) (h1 : k ≠ 10) (h2 : k ≠ 17) (h3 : k ≠ 8) (h4 : k ≠ 24) : JJ (zpf h 73 k (.int w)) y s v (upd sc k w) N := by
  have hz : fr (fun x => x = 73) h (zpf h 73 k (.int w)) := fr_pf (by omega)
  have hy := hJ.ys
  unfold yys at hy
  have u : ∀ j, k ≠ j → upd sc k w j = sc j := fun j hj => by unfold upd; rw [if_neg (fun z => hj z.symm)]
  refine ⟨hJ.ys, hJ.co.keep (hz.1 _ (by omega) (by omega)), hJ.md.put k hk hl w, hJ.row.keep hz (fun a ha => by omega), ?_, hJ.img.keep hz (fun a ha => by omega), ?_, ?_, hJ.scr.keep hz (fun a ha => by omega), hJ.yc.keep hz (by omega) (fun a h1 h2 => by omega), hJ.my.keep (hz.1 _ (by omega) (by omega)), hJ.wg, hJ.sp.keep hz (by omega) (fun a h1 h2 => by omega)⟩
  · rw [u 10 h1, u 17 h2]; exact hJ.tape.keep hz (fun a ha => by omega)
  · rw [u 8 h3]; exact hJ.act.keep hz (fun a ha => by omega)
  · rw [u 24 h4]; exact hJ.tr.keep hz (fun a ha => by omega)
/-- rows laid anew -/
theorem JJ.lay (hJ : JJ h y s v sc N) (hz : fr (fun a => a = 14 ∨ a = 15 ∨ a = 78 ∨ a = 81 ∨ a = 82 ∨ a = 83) h h') (hS : JScr h') : JJ h' y s v sc N := by
  have hy := hJ.ys
  unfold yys at hy
  exact ⟨hJ.ys, hJ.co.keep (hz.1 _ (by omega) (by omega)), hJ.md.keep (hz.1 _ (by omega) (by omega)), hJ.row.keep hz (fun a ha => by omega), hJ.tape.keep hz (fun a ha => by omega), hJ.img.keep hz (fun a ha => by omega), hJ.act.keep hz (fun a ha => by omega), hJ.tr.keep hz (fun a ha => by omega), hS, hJ.yc.keep hz (by omega) (fun a h1 h2 => by omega), hJ.my.keep (hz.1 _ (by omega) (by omega)), hJ.wg, hJ.sp.keep hz (by omega) (fun a h1 h2 => by omega)⟩
/-- the spare yard -/
theorem JJ.spare (hJ : JJ h y s v sc N) (hz : fr (yP s) h h') (hS : SP h' s) : JJ h' y s v sc N := by
  have hy := hJ.ys
  unfold yys at hy
  unfold yP at hz
  exact ⟨hJ.ys, hJ.co.keep (hz.1 _ (by omega) (by omega)), hJ.md.keep (hz.1 _ (by omega) (by omega)), hJ.row.keep hz (fun a ha => by omega), hJ.tape.keep hz (fun a ha => by omega), hJ.img.keep hz (fun a ha => by omega), hJ.act.keep hz (fun a ha => by omega), hJ.tr.keep hz (fun a ha => by omega), hJ.scr.keep hz (fun a ha => by omega), hJ.yc.keep hz (by omega) (fun a h1 h2 => by omega), hJ.my.keep (hz.1 _ (by omega) (by omega)), hJ.wg, hS⟩
/-- the spare yard and the lifters as whom one is tried -/
theorem JJ.guise (hJ : JJ h y s v sc N) (hz : fr (fun a => yP s a ∨ (68 ≤ a ∧ a ≤ 72)) h h') (hS : SP h' s) (hG : GU h') : JJ h' y s v sc N := by
  have hy := hJ.ys
  unfold yys at hy
  unfold yP at hz
  refine ⟨hJ.ys, hJ.co.keep (hz.1 _ (by omega) (by omega)), hJ.md.keep (hz.1 _ (by omega) (by omega)), hJ.row.keep hz (fun a ha => by omega), hJ.tape.keep hz (fun a ha => by omega), ?_, hJ.act.keep hz (fun a ha => by omega), hJ.tr.keep hz (fun a ha => by omega), hJ.scr.keep hz (fun a ha => by omega), hJ.yc.keep hz (by omega) (fun a h1 h2 => by omega), hJ.my.keep (hz.1 _ (by omega) (by omega)), hJ.wg, hS⟩
  obtain ⟨⟨⟨g, g1, g2⟩, -⟩, I, ik, kp, h1, h2, h3⟩ := hJ.img
  exact ⟨⟨⟨g, (hz.1 _ (by omega) (by omega)).trans g1, g2⟩, hG⟩, I, ik, kp, fun k hk => ⟨(h1 k hk).1.keep hz (by omega) (fun a _ _ => by omega), (h1 k hk).2⟩, zrow_c (hz.1 _ (by omega) (by omega)) h2, zrow_c (hz.1 _ (by omega) (by omega)) h3⟩
/-- the rows -/
theorem JJ.rows (hJ : JJ h y s v sc N) (hz : fr (fun a => a = 1 ∨ (34 ≤ a ∧ a ≤ 49) ∨ (74 ≤ a ∧ a ≤ 76)) h h') (hR : JRow h') : JJ h' y s v sc N := by
  have hy := hJ.ys
  unfold yys at hy
  exact ⟨hJ.ys, hJ.co.keep (hz.1 _ (by omega) (by omega)), hJ.md.keep (hz.1 _ (by omega) (by omega)), hR, hJ.tape.keep hz (fun a ha => by omega), hJ.img.keep hz (fun a ha => by omega), hJ.act.keep hz (fun a ha => by omega), hJ.tr.keep hz (fun a ha => by omega), hJ.scr.keep hz (fun a ha => by omega), hJ.yc.keep hz (by omega) (fun a h1 h2 => by omega), hJ.my.keep (hz.1 _ (by omega) (by omega)), hJ.wg, hJ.sp.keep hz (by omega) (fun a h1 h2 => by omega)⟩
end JJS
/-- the room -/
def Bd (h : zH) (n : Nat) : Prop := 87 ≤ h.length ∧ h.length ≤ 87 + 5 * n ∧ zsl h ≤ 10000 + 100 * n
theorem Bd.sm {P : Nat → Prop} {h h' : zH} {n : Nat} (hB : Bd h n) (hz : zsm P h h') : Bd h' n := by
  unfold Bd at *
  rw [hz.1.1, hz.1.2]
  exact hB
theorem Bd.up {h : zH} {n m : Nat} (hB : Bd h n) (hm : n ≤ m) : Bd h m := by
  unfold Bd at *
  omega
def J (h : zH) (n : Nat) : Prop := ∃ y s v sc N, JJ h y s v sc N ∧ sc 1 = v ∧ Bd h n
/-- one call of both: the same answer -/
def OK (E : zE) (h : zH) (n C M : Nat) (a : List Value) : Prop := ∃ (r : Int32) (h1 h2 : zH), zcall zpp E C (.ref 0 :: a) h = some (some (.int r), h1) ∧ zcall zpp E M (.ref 73 :: a) h1 = some (some (.int r), h2) ∧ J h2 (n + 1)
/-- the same, with a long answer -/
def OKL (E : zE) (h : zH) (n C M : Nat) (a : List Value) : Prop := ∃ (r : Int64) (h1 h2 : zH), zcall zpp E C (.ref 0 :: a) h = some (some (.long r), h1) ∧ zcall zpp E M (.ref 73 :: a) h1 = some (some (.long r), h2) ∧ J h2 (n + 1)
