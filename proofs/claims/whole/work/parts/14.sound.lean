section ZA
variable {E : zE} {mi : zMi} {h0 : zH} {k : zK} {r : zR} {pc : Nat} {lc sk : List Value} {h9 : zH}
theorem zvirB_at {ix n : Nat} {im : Int} {d M : Nat} : ∀ {ds : List Nat}, zvirB mi ix n im ds = true → zsel d ds = some M → (0 < M ∧ M < 231) ∧ zviB mi (zmi M) (zxr im (zmi M).1) (decide (im = 1)) ix n d = true
  | [], _, h => by cases h
  | [_], h, _ => by cases h
  | d' :: M' :: ds, h, hs => by
    simp only [zvirB, Bool.and_eq_true, decide_eq_true_eq] at h
    unfold zsel at hs
    split at hs
    · rename_i hd
      cases hs
      have hd : d = d' := by simpa using hd
      subst hd
      exact ⟨⟨h.1.1, h.1.2.1⟩, h.1.2.2⟩
    · exact zvirB_at h.2 hs
set_option maxHeartbeats 4000000 in
theorem zs_all {c : zA} {i : zI} (hk : zSK E mi h0 k) (hc : ∀ M as h r, 0 < M → M < 231 → c M as h = some r → zOK (zmi M) as h r) (hcw : ∀ M, 0 < M → M < 231 → Cond.code (zmi M).1 (zmi M).2.1 (zmi M).2.2.1 (zmi M).2.2.2.1 ∈ zgw) (hob : Cond.code objectInit ⟨#[0xb1]⟩ 1 none ∈ zgw) (hmx : Cond.code Lib.Math.max.name Lib.Math.max.code 2 (some .int) ∈ zgw) (hmn : Cond.code Lib.Math.min.name Lib.Math.min.code 2 (some .int) ∈ zgw) : zchk mi pc i = true → zstep E c i (pc, lc, sk, h9) k = some r → zEv E mi h0 (pc, lc, sk, h9) r := by
  unfold zstep
  split
  · intro hchk h
    simp only [zchk, zlen, Bool.and_eq_true] at hchk
    exact zs_null hk (of_decide_eq_true hchk.1.1) (of_decide_eq_true hchk.1.2) h
  · intro hchk h
    simp only [zchk, zlen, Bool.and_eq_true] at hchk
    exact zs_iconst hk (of_decide_eq_true hchk.1.1) (of_decide_eq_true hchk.1.2) h
  · intro hchk h
    simp only [zchk, zlen, zext, Bool.and_eq_true] at hchk
    exact zs_bipush hk (of_decide_eq_true hchk.1.1) (of_decide_eq_true hchk.2) (of_decide_eq_true hchk.1.2) h
  · intro hchk h
    simp only [zchk, zlen, zext, Bool.and_eq_true] at hchk
    exact zs_sipush hk (of_decide_eq_true hchk.1.1) (of_decide_eq_true hchk.2) (of_decide_eq_true hchk.1.2) h
  · intro hchk h
    simp only [zchk, zlen, zext, Bool.and_eq_true] at hchk
    exact zs_ldc hk (of_decide_eq_true hchk.1.1) (zmw_g (of_decide_eq_true hchk.2) rfl) (of_decide_eq_true hchk.1.2) h
  · intro hchk h
    simp only [zchk, zlen, zext, Bool.and_eq_true] at hchk
    exact zs_ldcw hk (of_decide_eq_true hchk.1.1) (zmw_g (of_decide_eq_true hchk.2) rfl) (of_decide_eq_true hchk.1.2) h
  · intro hchk h
    simp only [zchk, zlen, zext, Bool.and_eq_true] at hchk
    exact zs_ldc2 hk (of_decide_eq_true hchk.1.1) (zmw_g (of_decide_eq_true hchk.2) rfl) (of_decide_eq_true hchk.1.2) h
  · intro hchk h
    simp only [zchk, zlen, Bool.and_eq_true] at hchk
    exact zs_lconst hk (of_decide_eq_true hchk.1.1) (of_decide_eq_true hchk.1.2) h
  · intro hchk h
    simp only [zchk, zlen, Bool.and_eq_true] at hchk
    exact zs_iload hk (of_decide_eq_true hchk.1.1) (of_decide_eq_true hchk.1.2) h
  · intro hchk h
    simp only [zchk, zlen, Bool.and_eq_true] at hchk
    exact zs_iload_n hk (of_decide_eq_true hchk.1.1) (of_decide_eq_true hchk.1.2) h
  · intro hchk h
    simp only [zchk, zlen, Bool.and_eq_true] at hchk
    exact zs_lload hk (of_decide_eq_true hchk.1.1) (of_decide_eq_true hchk.1.2) h
  · intro hchk h
    simp only [zchk, zlen, Bool.and_eq_true] at hchk
    exact zs_lload_n hk (of_decide_eq_true hchk.1.1) (of_decide_eq_true hchk.1.2) h
  · intro hchk h
    simp only [zchk, zlen, Bool.and_eq_true] at hchk
    exact zs_aload hk (of_decide_eq_true hchk.1.1) (of_decide_eq_true hchk.1.2) h
  · intro hchk h
    simp only [zchk, zlen, Bool.and_eq_true] at hchk
    exact zs_aload_n hk (of_decide_eq_true hchk.1.1) (of_decide_eq_true hchk.1.2) h
  · intro hchk h
    simp only [zchk, zlen, Bool.and_eq_true] at hchk
    exact zs_istore hk (of_decide_eq_true hchk.1.1) (of_decide_eq_true hchk.1.2) h
  · intro hchk h
    simp only [zchk, zlen, Bool.and_eq_true] at hchk
    exact zs_istore_n hk (of_decide_eq_true hchk.1.1) (of_decide_eq_true hchk.1.2) h
  · intro hchk h
    simp only [zchk, zlen, Bool.and_eq_true] at hchk
    exact zs_lstore hk (of_decide_eq_true hchk.1.1) (of_decide_eq_true hchk.1.2) h
  · intro hchk h
    simp only [zchk, zlen, Bool.and_eq_true] at hchk
    exact zs_lstore_n hk (of_decide_eq_true hchk.1.1) (of_decide_eq_true hchk.1.2) h
  · intro hchk h
    simp only [zchk, zlen, Bool.and_eq_true] at hchk
    exact zs_astore hk (of_decide_eq_true hchk.1.1) (of_decide_eq_true hchk.1.2) h
  · intro hchk h
    simp only [zchk, zlen, Bool.and_eq_true] at hchk
    exact zs_astore_n hk (of_decide_eq_true hchk.1.1) (of_decide_eq_true hchk.1.2) h
  · intro hchk h
    simp only [zchk, zlen, Bool.and_eq_true] at hchk
    exact zs_iinc hk (of_decide_eq_true hchk.1.1) (of_decide_eq_true hchk.1.2) h
  · intro hchk h
    simp only [zchk, zlen, Bool.and_eq_true] at hchk
    exact zs_iadd hk (of_decide_eq_true hchk.1.1) (of_decide_eq_true hchk.1.2) h
  · intro hchk h
    simp only [zchk, zlen, Bool.and_eq_true] at hchk
    exact zs_isub hk (of_decide_eq_true hchk.1.1) (of_decide_eq_true hchk.1.2) h
  · intro hchk h
    simp only [zchk, zlen, Bool.and_eq_true] at hchk
    exact zs_imul hk (of_decide_eq_true hchk.1.1) (of_decide_eq_true hchk.1.2) h
  · intro hchk h
    simp only [zchk, zlen, Bool.and_eq_true] at hchk
    exact zs_iand hk (of_decide_eq_true hchk.1.1) (of_decide_eq_true hchk.1.2) h
  · intro hchk h
    simp only [zchk, zlen, Bool.and_eq_true] at hchk
    exact zs_ior hk (of_decide_eq_true hchk.1.1) (of_decide_eq_true hchk.1.2) h
  · intro hchk h
    simp only [zchk, zlen, Bool.and_eq_true] at hchk
    exact zs_ixor hk (of_decide_eq_true hchk.1.1) (of_decide_eq_true hchk.1.2) h
  · intro hchk h
    simp only [zchk, zlen, Bool.and_eq_true] at hchk
    exact zs_ishl hk (of_decide_eq_true hchk.1.1) (of_decide_eq_true hchk.1.2) h
  · intro hchk h
    simp only [zchk, zlen, Bool.and_eq_true] at hchk
    exact zs_ishr hk (of_decide_eq_true hchk.1.1) (of_decide_eq_true hchk.1.2) h
  · intro hchk h
    simp only [zchk, zlen, Bool.and_eq_true] at hchk
    exact zs_iushr hk (of_decide_eq_true hchk.1.1) (of_decide_eq_true hchk.1.2) h
  · intro hchk h
    simp only [zchk, zlen, Bool.and_eq_true] at hchk
    exact zs_ineg hk (of_decide_eq_true hchk.1.1) (of_decide_eq_true hchk.1.2) h
  · intro hchk h
    simp only [zchk, zlen, Bool.and_eq_true] at hchk
    exact zs_i2b hk (of_decide_eq_true hchk.1.1) (of_decide_eq_true hchk.1.2) h
  · intro hchk h
    simp only [zchk, zlen, Bool.and_eq_true] at hchk
    exact zs_i2s hk (of_decide_eq_true hchk.1.1) (of_decide_eq_true hchk.1.2) h
  · intro hchk h
    simp only [zchk, zlen, Bool.and_eq_true] at hchk
    exact zs_idiv hk (of_decide_eq_true hchk.1.1) (of_decide_eq_true hchk.1.2) h
  · intro hchk h
    simp only [zchk, zlen, Bool.and_eq_true] at hchk
    exact zs_irem hk (of_decide_eq_true hchk.1.1) (of_decide_eq_true hchk.1.2) h
  · intro hchk h
    simp only [zchk, zlen, Bool.and_eq_true] at hchk
    exact zs_ladd hk (of_decide_eq_true hchk.1.1) (of_decide_eq_true hchk.1.2) h
  · intro hchk h
    simp only [zchk, zlen, Bool.and_eq_true] at hchk
    exact zs_lsub hk (of_decide_eq_true hchk.1.1) (of_decide_eq_true hchk.1.2) h
  · intro hchk h
    simp only [zchk, zlen, Bool.and_eq_true] at hchk
    exact zs_lmul hk (of_decide_eq_true hchk.1.1) (of_decide_eq_true hchk.1.2) h
  · intro hchk h
    simp only [zchk, zlen, Bool.and_eq_true] at hchk
    exact zs_ldiv hk (of_decide_eq_true hchk.1.1) (of_decide_eq_true hchk.1.2) h
  · intro hchk h
    simp only [zchk, zlen, Bool.and_eq_true] at hchk
    exact zs_lrem hk (of_decide_eq_true hchk.1.1) (of_decide_eq_true hchk.1.2) h
  · intro hchk h
    simp only [zchk, zlen, Bool.and_eq_true] at hchk
    exact zs_lcmp hk (of_decide_eq_true hchk.1.1) (of_decide_eq_true hchk.1.2) h
  · intro hchk h
    simp only [zchk, zlen, Bool.and_eq_true] at hchk
    exact zs_i2l hk (of_decide_eq_true hchk.1.1) (of_decide_eq_true hchk.1.2) h
  · intro hchk h
    simp only [zchk, zlen, Bool.and_eq_true] at hchk
    exact zs_l2i hk (of_decide_eq_true hchk.1.1) (of_decide_eq_true hchk.1.2) h
  · intro hchk h
    simp only [zchk, zlen, zext, Bool.and_eq_true] at hchk
    exact zs_goto hk (of_decide_eq_true hchk.1.1) (of_decide_eq_true hchk.2) h
  · intro hchk h
    simp only [zchk, zlen, zext, Bool.and_eq_true] at hchk
    exact zs_icmp hk (of_decide_eq_true hchk.1.1) (of_decide_eq_true hchk.2) (of_decide_eq_true hchk.1.2) h
  · intro hchk h
    simp only [zchk, zlen, zext, Bool.and_eq_true] at hchk
    exact zs_ifc hk (of_decide_eq_true hchk.1.1) (of_decide_eq_true hchk.2) (of_decide_eq_true hchk.1.2) h
  · intro hchk h
    simp only [zchk, zlen, zext, Bool.and_eq_true] at hchk
    exact zs_ifnull hk (of_decide_eq_true hchk.1.1) (of_decide_eq_true hchk.2) (of_decide_eq_true hchk.1.2) h
  · intro hchk h
    simp only [zchk, zlen, zext, Bool.and_eq_true] at hchk
    exact zs_ifnonnull hk (of_decide_eq_true hchk.1.1) (of_decide_eq_true hchk.2) (of_decide_eq_true hchk.1.2) h
  · intro hchk h
    simp only [zchk, zlen, zext, Bool.and_eq_true] at hchk
    exact zs_tsw hk (of_decide_eq_true hchk.1) (of_decide_eq_true hchk.2.1) (of_decide_eq_true hchk.2.2.1) (of_decide_eq_true hchk.2.2.2.1) (of_decide_eq_true hchk.2.2.2.2.1) (of_decide_eq_true hchk.2.2.2.2.2) h
  · intro hchk h
    simp only [zchk, zlen, zext, Bool.and_eq_true] at hchk
    simp at hchk
  · intro hchk h
    simp only [zchk, zlen, Bool.and_eq_true] at hchk
    exact zs_dup hk (of_decide_eq_true hchk.1.1) (of_decide_eq_true hchk.1.2) h
  · intro hchk h
    simp only [zchk, zlen, Bool.and_eq_true] at hchk
    exact zs_dup2 hk (of_decide_eq_true hchk.1.1) (of_decide_eq_true hchk.1.2) h
  · intro hchk h
    simp only [zchk, zlen, Bool.and_eq_true] at hchk
    exact zs_dupx hk (of_decide_eq_true hchk.1.1) (of_decide_eq_true hchk.1.2) h
  · intro hchk h
    simp only [zchk, zlen, Bool.and_eq_true] at hchk
    exact zs_pop hk (of_decide_eq_true hchk.1.1) (of_decide_eq_true hchk.1.2) h
  · intro hchk h
    simp only [zchk, zlen, zext, Bool.and_eq_true] at hchk
    exact zs_getf hk (of_decide_eq_true hchk.1.1) hchk.2 (of_decide_eq_true hchk.1.2) h
  · intro hchk h
    simp only [zchk, zlen, zext, Bool.and_eq_true] at hchk
    exact zs_putf hk (of_decide_eq_true hchk.1.1) hchk.2 (of_decide_eq_true hchk.1.2) h
  · intro hchk h
    simp only [zchk, zlen, Bool.and_eq_true] at hchk
    exact zs_nald hk (of_decide_eq_true hchk.1.1) (Or.inl ⟨rfl, rfl⟩) (of_decide_eq_true hchk.1.2) h
  · intro hchk h
    simp only [zchk, zlen, zext, Bool.and_eq_true] at hchk
    exact zs_sald hk (of_decide_eq_true hchk.1.1) (of_decide_eq_true hchk.2) (of_decide_eq_true hchk.1.2) h
  · intro hchk h
    simp only [zchk, zlen, Bool.and_eq_true] at hchk
    exact zs_nald hk (of_decide_eq_true hchk.1.1) (Or.inr ⟨rfl, rfl⟩) (of_decide_eq_true hchk.1.2) h
  · intro hchk h
    simp only [zchk, zlen, zext, Bool.and_eq_true] at hchk
    exact zs_slen hk (of_decide_eq_true hchk.1.1) (of_decide_eq_true hchk.2) (of_decide_eq_true hchk.1.2) h
  · intro hchk h
    simp only [zchk, zlen, Bool.and_eq_true] at hchk
    exact zs_nast hk (of_decide_eq_true hchk.1.1) (Or.inl ⟨rfl, rfl⟩) (of_decide_eq_true hchk.1.2) h
  · intro hchk h
    simp only [zchk, zlen, Bool.and_eq_true] at hchk
    exact zs_nast hk (of_decide_eq_true hchk.1.1) (Or.inr ⟨rfl, rfl⟩) (of_decide_eq_true hchk.1.2) h
  · intro hchk h
    simp only [zchk, zlen, Bool.and_eq_true] at hchk
    exact zs_aald hk (of_decide_eq_true hchk.1.1) (of_decide_eq_true hchk.1.2) h
  · intro hchk h
    simp only [zchk, zlen, Bool.and_eq_true] at hchk
    exact zs_aast hk (of_decide_eq_true hchk.1.1) (of_decide_eq_true hchk.1.2) h
  · intro hchk h
    simp only [zchk, zlen, zext, Bool.and_eq_true] at hchk
    exact zs_newa hk (of_decide_eq_true hchk.1.1) (Or.inl ⟨rfl, rfl⟩) (of_decide_eq_true hchk.2) (of_decide_eq_true hchk.1.2) h
  · intro hchk h
    simp only [zchk, zlen, zext, Bool.and_eq_true] at hchk
    exact zs_newa hk (of_decide_eq_true hchk.1.1) (Or.inr ⟨rfl, rfl⟩) (of_decide_eq_true hchk.2) (of_decide_eq_true hchk.1.2) h
  · intro hchk h
    simp only [zchk, zlen, zext, Bool.and_eq_true] at hchk
    exact zs_newr hk (of_decide_eq_true hchk.1.1) hchk.2.1 (of_decide_eq_true hchk.2.2.1) (of_decide_eq_true hchk.2.2.2) (of_decide_eq_true hchk.1.2) h
  · intro hchk h
    simp only [zchk, zlen, zext, Bool.and_eq_true] at hchk
    exact zs_new hk (of_decide_eq_true hchk.1.1) hchk.2 (of_decide_eq_true hchk.1.2) h
  · intro hchk h
    simp only [zchk, zlen, zext, Bool.and_eq_true] at hchk
    exact zs_inst hk (of_decide_eq_true hchk.1.1) hchk.2.1 hchk.2.2 (of_decide_eq_true hchk.1.2) h
  · intro hchk h
    simp only [zchk, zlen, zext, Bool.and_eq_true] at hchk
    exact zs_inv hk (fun as h r => hc _ as h r (of_decide_eq_true hchk.2.1) (of_decide_eq_true hchk.2.2.1)) (hcw _ (of_decide_eq_true hchk.2.1) (of_decide_eq_true hchk.2.2.1)) (of_decide_eq_true hchk.1.1) hchk.2.2.2 (of_decide_eq_true hchk.1.2) h
  · intro hchk h
    simp only [zchk, zlen, zext, Bool.and_eq_true] at hchk
    exact zs_copy hk (of_decide_eq_true hchk.1.1) (of_decide_eq_true hchk.2.1) (of_decide_eq_true hchk.2.2.1) (of_decide_eq_true hchk.2.2.2.1) (of_decide_eq_true hchk.2.2.2.2.1) (of_decide_eq_true hchk.2.2.2.2.2.1) (of_decide_eq_true hchk.2.2.2.2.2.2) (of_decide_eq_true hchk.1.2) h
  · intro hchk h
    simp only [zchk, zlen, zext, Bool.and_eq_true] at hchk
    exact zs_mx hk (of_decide_eq_true hchk.1.1) (of_decide_eq_true hchk.2.1) (of_decide_eq_true hchk.2.2.1) (of_decide_eq_true hchk.2.2.2.1) hmx (of_decide_eq_true hchk.2.2.2.2.1) (of_decide_eq_true hchk.2.2.2.2.2) (of_decide_eq_true hchk.1.2) h
  · intro hchk h
    simp only [zchk, zlen, zext, Bool.and_eq_true] at hchk
    exact zs_mn hk (of_decide_eq_true hchk.1.1) (of_decide_eq_true hchk.2.1) (of_decide_eq_true hchk.2.2.1) (of_decide_eq_true hchk.2.2.2.1) hmn (of_decide_eq_true hchk.2.2.2.2.1) (of_decide_eq_true hchk.2.2.2.2.2) (of_decide_eq_true hchk.1.2) h
  · intro hchk h
    simp only [zchk, zlen, zext, Bool.and_eq_true, Bool.or_eq_true] at hchk
    unfold z_vir at h
    split at h
    · rename_i a ha
      split at h
      · rename_i d fs hq
        split at h
        · rename_i M hsel
          obtain ⟨⟨m1, m2⟩, hvi⟩ := zvirB_at hchk.2.2 hsel
          refine zs_vi hk (fun as h r => hc _ as h r m1 m2) (hcw _ m1 m2) (fun habs => ?_) (of_decide_eq_true hchk.1.1) ha hq hvi (of_decide_eq_true hchk.1.2) h
          rcases hchk.2.1 with h0 | h1 | h2
          · rw [zxr, if_pos (of_decide_eq_true h0)]
            exact ⟨_, _, _, hcw _ m1 m2⟩
          · exact absurd (of_decide_eq_true h1) (of_decide_eq_false habs)
          · rw [zxr]
            split
            · exact ⟨_, _, _, hcw _ m1 m2⟩
            · rw [if_neg (of_decide_eq_false habs)]
              exact ⟨_, _, _, hcw _ (of_decide_eq_true h2.1) (of_decide_eq_true h2.2)⟩
        · cases h
      · cases h
    · cases h
  · intro hchk h
    simp only [zchk, zlen, zext, Bool.and_eq_true] at hchk
    exact zs_spc hk (fun as h r => hc _ as h r (of_decide_eq_true hchk.2.1) (of_decide_eq_true hchk.2.2.1)) (hcw _ (of_decide_eq_true hchk.2.1) (of_decide_eq_true hchk.2.2.1)) (of_decide_eq_true hchk.1.1) hchk.2.2.2 (of_decide_eq_true hchk.1.2) h
  · intro hchk h
    simp only [zchk, zlen, zext, Bool.and_eq_true] at hchk
    exact zs_obj hk (of_decide_eq_true hchk.1.1) (of_decide_eq_true hchk.2.1) (of_decide_eq_true hchk.2.2.1) hob (of_decide_eq_true hchk.2.2.2.1) (of_decide_eq_true hchk.2.2.2.2) (of_decide_eq_true hchk.1.2) h
  · intro hchk h
    simp only [zchk, zlen, zext, Bool.and_eq_true] at hchk
    exact zs_ret (of_decide_eq_true hchk.1.1) (of_decide_eq_true hchk.2) h
  · intro hchk h
    simp only [zchk, zlen, zext, Bool.and_eq_true] at hchk
    exact zs_retz (of_decide_eq_true hchk.1.1) (of_decide_eq_true hchk.2) h
  · intro hchk h
    simp only [zchk, zlen, zext, Bool.and_eq_true] at hchk
    exact zs_retl (of_decide_eq_true hchk.1.1) (of_decide_eq_true hchk.2) h
  · intro hchk h
    simp only [zchk, zlen, zext, Bool.and_eq_true] at hchk
    refine zs_reta (of_decide_eq_true hchk.1.1) ?_ h
    have h2 := hchk.2
    split at h2
    · rename_i n hn
      exact ⟨n, hn⟩
    · cases h2
  · intro hchk h
    simp only [zchk, zlen, zext, Bool.and_eq_true] at hchk
    exact zs_retv (of_decide_eq_true hchk.1.1) (of_decide_eq_true hchk.2) h
  · intro hchk h
    cases h
end ZA
/-- every run of a checked program is the machine's -/
theorem zsound {E : zE} (hall : ∀ M, M < 233 → zchkL (zmi M) 0 (zkL.getD M []) = true) (hcw : ∀ M, 0 < M → M < 231 → Cond.code (zmi M).1 (zmi M).2.1 (zmi M).2.2.1 (zmi M).2.2.2.1 ∈ zgw) (hcn : ∀ M, 0 < M → M < 231 → (zmi M).1.cls ≠ "NineDownLaw" ∧ plainName (zmi M).1.cls = true) (hob : Cond.code objectInit ⟨#[0xb1]⟩ 1 none ∈ zgw) (hmx : Cond.code Lib.Math.max.name Lib.Math.max.code 2 (some .int) ∈ zgw) (hmn : Cond.code Lib.Math.min.name Lib.Math.min.code 2 (some .int) ∈ zgw) : ∀ (n M : Nat) (h0 : zH) (st : zS) (r : zR), M < 233 → zrunN zpp E n M st = some r → zEv E (zmi M) h0 st r := by
  intro n
  induction n with
  | zero => intro M h0 st r _ h; cases h
  | succ n ih =>
    intro M h0 st r hM h
    obtain ⟨pc, lc, sk, h9⟩ := st
    have h : zgo zpp E _ M (zrunN zpp E n M) (pc, lc, sk, h9) = some r := h
    unfold zgo at h
    split at h
    · rename_i i hi
      have hcd : (zkL.getD M [])[pc]? = some (some i) := by
        unfold zcode at hi
        cases hq : (zpp M).2[(pc, lc, sk, h9).1]? with
        | none => rw [hq] at hi; cases hi
        | some q => rw [hq] at hi; simp only [Option.getD_some] at hi; rw [← hi]; exact hq
      have hch := zchkL_at (hall M hM) hcd
      rw [Nat.zero_add] at hch
      refine zs_all (fun st r hh => ih M h0 st r hM hh) (fun M' as h r hp hM' hh => ?_) hcw hob hmx hmn hch h
      split at hh
      · rename_i hl
        exact zOK.of (E := E) (hcn M' hp hM').1 (hcn M' hp hM').2 hl (ih M' h _ r (by omega) hh)
      · cases hh
    · cases h

