/-! SIMPLE INSTRUCTIONS: the small machine does what the machine does -/
section ZR
variable {E : zE} {mi : zMi} {h0 : zH} {k : zK} {r : zR} {pc nx : Nat} {lc sk : List Value} {h9 : zH}
theorem zs_null (hk : zSK E mi h0 k) (hd : decode mi.2.1 pc = .ok (.aconst_null, 1)) (hn : pc + 1 = nx) (h : z_push .null nx (pc, lc, sk, h9) k = some r) : zEv E mi h0 (pc, lc, sk, h9) r := by
  subst hn
  refine zEv.of (st' := (pc + 1, lc, .null :: sk, h9)) (zle.rf _) ?_ (hk _ _ h)
  intro G p l e R s m args below meth c Q h0l hF hR kk H locs ls hRel hS hL
  obtain ⟨hx, hb, hml, hr, hown, hts, -⟩ := hF
  exact lv_null hx hb hd (kk H locs ls hRel hS hL)
theorem zs_iconst {n : Int} (hk : zSK E mi h0 k) (hd : decode mi.2.1 pc = .ok (.iconst n, 1)) (hn : pc + 1 = nx) (h : z_push (.int (Int32.ofInt n)) nx (pc, lc, sk, h9) k = some r) : zEv E mi h0 (pc, lc, sk, h9) r := by
  subst hn
  refine zEv.of (st' := (pc + 1, lc, (.int (Int32.ofInt n)) :: sk, h9)) (zle.rf _) ?_ (hk _ _ h)
  intro G p l e R s m args below meth c Q h0l hF hR kk H locs ls hRel hS hL
  obtain ⟨hx, hb, hml, hr, hown, hts, -⟩ := hF
  exact lv_iconst hx hb hd rfl (kk H locs ls hRel hS hL)
theorem zs_bipush {n : Int} (hk : zSK E mi h0 k) (hd : decode mi.2.1 pc = .ok (.bipush n, 2)) (hv : (Int8.ofInt n).toInt32 = Int32.ofInt n) (hn : pc + 2 = nx) (h : z_push (.int (Int32.ofInt n)) nx (pc, lc, sk, h9) k = some r) : zEv E mi h0 (pc, lc, sk, h9) r := by
  subst hn
  refine zEv.of (st' := (pc + 2, lc, (.int (Int32.ofInt n)) :: sk, h9)) (zle.rf _) ?_ (hk _ _ h)
  intro G p l e R s m args below meth c Q h0l hF hR kk H locs ls hRel hS hL
  obtain ⟨hx, hb, hml, hr, hown, hts, -⟩ := hF
  exact lv_bipush hx hb hd hv (kk H locs ls hRel hS hL)
theorem zs_sipush {n : Int} (hk : zSK E mi h0 k) (hd : decode mi.2.1 pc = .ok (.sipush n, 3)) (hv : (Int16.ofInt n).toInt32 = Int32.ofInt n) (hn : pc + 3 = nx) (h : z_push (.int (Int32.ofInt n)) nx (pc, lc, sk, h9) k = some r) : zEv E mi h0 (pc, lc, sk, h9) r := by
  subst hn
  refine zEv.of (st' := (pc + 3, lc, (.int (Int32.ofInt n)) :: sk, h9)) (zle.rf _) ?_ (hk _ _ h)
  intro G p l e R s m args below meth c Q h0l hF hR kk H locs ls hRel hS hL
  obtain ⟨hx, hb, hml, hr, hown, hts, -⟩ := hF
  exact lv_sipush hx hb hd hv (kk H locs ls hRel hS hL)
theorem zs_ldc {n : Int} {ix : Nat} (hk : zSK E mi h0 k) (hd : decode mi.2.1 pc = .ok (.ldc ix, 2)) (hw : Cond.constant mi.1.cls ix (Int32.ofInt n) ∈ zgw) (hn : pc + 2 = nx) (h : z_push (.int (Int32.ofInt n)) nx (pc, lc, sk, h9) k = some r) : zEv E mi h0 (pc, lc, sk, h9) r := by
  subst hn
  refine zEv.of (st' := (pc + 2, lc, (.int (Int32.ofInt n)) :: sk, h9)) (zle.rf _) ?_ (hk _ _ h)
  intro G p l e R s m args below meth c Q h0l hF hR kk H locs ls hRel hS hL
  obtain ⟨hx, hb, hml, hr, hown, hts, -⟩ := hF
  exact lv_ldc hx hb hown (hts _ hw) hd (kk H locs ls hRel hS hL)
theorem zs_ldcw {n : Int} {ix : Nat} (hk : zSK E mi h0 k) (hd : decode mi.2.1 pc = .ok (.ldc_w ix, 3)) (hw : Cond.constant mi.1.cls ix (Int32.ofInt n) ∈ zgw) (hn : pc + 3 = nx) (h : z_push (.int (Int32.ofInt n)) nx (pc, lc, sk, h9) k = some r) : zEv E mi h0 (pc, lc, sk, h9) r := by
  subst hn
  refine zEv.of (st' := (pc + 3, lc, (.int (Int32.ofInt n)) :: sk, h9)) (zle.rf _) ?_ (hk _ _ h)
  intro G p l e R s m args below meth c Q h0l hF hR kk H locs ls hRel hS hL
  obtain ⟨hx, hb, hml, hr, hown, hts, -⟩ := hF
  exact lv_ldcw hx hb hown (hts _ hw) hd (kk H locs ls hRel hS hL)
theorem zs_ldc2 {n : Int} {ix : Nat} (hk : zSK E mi h0 k) (hd : decode mi.2.1 pc = .ok (.ldc2_w ix, 3)) (hw : Cond.constantLong mi.1.cls ix (Int64.ofInt n) ∈ zgw) (hn : pc + 3 = nx) (h : z_push (.long (Int64.ofInt n)) nx (pc, lc, sk, h9) k = some r) : zEv E mi h0 (pc, lc, sk, h9) r := by
  subst hn
  refine zEv.of (st' := (pc + 3, lc, (.long (Int64.ofInt n)) :: sk, h9)) (zle.rf _) ?_ (hk _ _ h)
  intro G p l e R s m args below meth c Q h0l hF hR kk H locs ls hRel hS hL
  obtain ⟨hx, hb, hml, hr, hown, hts, -⟩ := hF
  exact lv_ldc2 hx hb hown (hts _ hw) hd (kk H locs ls hRel hS hL)
theorem zs_lconst {n : Fin 2} (hk : zSK E mi h0 k) (hd : decode mi.2.1 pc = .ok (.lconst n, 1)) (hn : pc + 1 = nx) (h : z_push (.long (Int64.ofNat n)) nx (pc, lc, sk, h9) k = some r) : zEv E mi h0 (pc, lc, sk, h9) r := by
  subst hn
  refine zEv.of (st' := (pc + 1, lc, (.long (Int64.ofNat n)) :: sk, h9)) (zle.rf _) ?_ (hk _ _ h)
  intro G p l e R s m args below meth c Q h0l hF hR kk H locs ls hRel hS hL
  obtain ⟨hx, hb, hml, hr, hown, hts, -⟩ := hF
  exact lv_lconst hx hb hd rfl (kk H locs ls hRel hS hL)
theorem zs_iload_n {j : Fin 4} (hk : zSK E mi h0 k) (hd : decode mi.2.1 pc = .ok (.iload_n j, 1)) (hn : pc + 1 = nx) (h : z_ild j.val nx (pc, lc, sk, h9) k = some r) : zEv E mi h0 (pc, lc, sk, h9) r := by
  subst hn
  unfold z_ild at h
  split at h
  · rename_i x hx0
    refine zEv.of (st' := (pc + 1, lc, .int x :: sk, h9)) (zle.rf _) ?_ (hk _ _ h)
    intro G p l e R s m args below meth c Q h0l hF hR kk H locs ls hRel hS hL
    obtain ⟨hx, hb, hml, hr, hown, hts, -⟩ := hF
    exact lv_iload_n hx hb hd rfl (hL.at hx0 (by simp)) (kk H locs ls hRel hS hL)
  · cases h
theorem zs_lload_n {j : Fin 4} (hk : zSK E mi h0 k) (hd : decode mi.2.1 pc = .ok (.lload_n j, 1)) (hn : pc + 1 = nx) (h : z_lld j.val nx (pc, lc, sk, h9) k = some r) : zEv E mi h0 (pc, lc, sk, h9) r := by
  subst hn
  unfold z_lld at h
  split at h
  · rename_i x hx0
    refine zEv.of (st' := (pc + 1, lc, .long x :: sk, h9)) (zle.rf _) ?_ (hk _ _ h)
    intro G p l e R s m args below meth c Q h0l hF hR kk H locs ls hRel hS hL
    obtain ⟨hx, hb, hml, hr, hown, hts, -⟩ := hF
    exact lv_lload_n hx hb hd rfl (hL.at hx0 (by simp)) (kk H locs ls hRel hS hL)
  · cases h
theorem zs_aload_n {j : Fin 4} (hk : zSK E mi h0 k) (hd : decode mi.2.1 pc = .ok (.aload_n j, 1)) (hn : pc + 1 = nx) (h : z_ald j.val nx (pc, lc, sk, h9) k = some r) : zEv E mi h0 (pc, lc, sk, h9) r := by
  subst hn
  unfold z_ald at h
  split at h
  · rename_i x hx0
    refine zEv.of (st' := (pc + 1, lc, .ref x :: sk, h9)) (zle.rf _) ?_ (hk _ _ h)
    intro G p l e R s m args below meth c Q h0l hF hR kk H locs ls hRel hS hL
    obtain ⟨hx, hb, hml, hr, hown, hts, -⟩ := hF
    exact lv_aload_n hx hb hd rfl (hL.at hx0 (by simp)) (kk H locs ls hRel hS hL)
  · rename_i hx0
    refine zEv.of (st' := (pc + 1, lc, .null :: sk, h9)) (zle.rf _) ?_ (hk _ _ h)
    intro G p l e R s m args below meth c Q h0l hF hR kk H locs ls hRel hS hL
    obtain ⟨hx, hb, hml, hr, hown, hts, -⟩ := hF
    exact lv_aload_nN hx hb hd rfl (hL.at hx0 (by simp)) (kk H locs ls hRel hS hL)
  · rename_i x hx0
    refine zEv.of (st' := (pc + 1, lc, .float x :: sk, h9)) (zle.rf _) ?_ (hk _ _ h)
    intro G p l e R s m args below meth c Q h0l hF hR kk H locs ls hRel hS hL
    obtain ⟨hx, hb, hml, hr, hown, hts, -⟩ := hF
    exact lv_aload_n hx hb hd rfl (hL.at hx0 (by simp)) (kk H locs ls hRel hS hL)
  · cases h
theorem zs_iload {j : Nat} (hk : zSK E mi h0 k) (hd : decode mi.2.1 pc = .ok (.iload j, 2)) (hn : pc + 2 = nx) (h : z_ild j nx (pc, lc, sk, h9) k = some r) : zEv E mi h0 (pc, lc, sk, h9) r := by
  subst hn
  unfold z_ild at h
  split at h
  · rename_i x hx0
    refine zEv.of (st' := (pc + 2, lc, .int x :: sk, h9)) (zle.rf _) ?_ (hk _ _ h)
    intro G p l e R s m args below meth c Q h0l hF hR kk H locs ls hRel hS hL
    obtain ⟨hx, hb, hml, hr, hown, hts, -⟩ := hF
    exact lv_iload hx hb hd (hL.at hx0 (by simp)) (kk H locs ls hRel hS hL)
  · cases h
theorem zs_lload {j : Nat} (hk : zSK E mi h0 k) (hd : decode mi.2.1 pc = .ok (.lload j, 2)) (hn : pc + 2 = nx) (h : z_lld j nx (pc, lc, sk, h9) k = some r) : zEv E mi h0 (pc, lc, sk, h9) r := by
  subst hn
  unfold z_lld at h
  split at h
  · rename_i x hx0
    refine zEv.of (st' := (pc + 2, lc, .long x :: sk, h9)) (zle.rf _) ?_ (hk _ _ h)
    intro G p l e R s m args below meth c Q h0l hF hR kk H locs ls hRel hS hL
    obtain ⟨hx, hb, hml, hr, hown, hts, -⟩ := hF
    exact lv_lload hx hb hd (hL.at hx0 (by simp)) (kk H locs ls hRel hS hL)
  · cases h
theorem zs_aload {j : Nat} (hk : zSK E mi h0 k) (hd : decode mi.2.1 pc = .ok (.aload j, 2)) (hn : pc + 2 = nx) (h : z_ald j nx (pc, lc, sk, h9) k = some r) : zEv E mi h0 (pc, lc, sk, h9) r := by
  subst hn
  unfold z_ald at h
  split at h
  · rename_i x hx0
    refine zEv.of (st' := (pc + 2, lc, .ref x :: sk, h9)) (zle.rf _) ?_ (hk _ _ h)
    intro G p l e R s m args below meth c Q h0l hF hR kk H locs ls hRel hS hL
    obtain ⟨hx, hb, hml, hr, hown, hts, -⟩ := hF
    exact lv_aload hx hb hd (hL.at hx0 (by simp)) (kk H locs ls hRel hS hL)
  · rename_i hx0
    refine zEv.of (st' := (pc + 2, lc, .null :: sk, h9)) (zle.rf _) ?_ (hk _ _ h)
    intro G p l e R s m args below meth c Q h0l hF hR kk H locs ls hRel hS hL
    obtain ⟨hx, hb, hml, hr, hown, hts, -⟩ := hF
    exact lv_aloadN hx hb hd (hL.at hx0 (by simp)) (kk H locs ls hRel hS hL)
  · rename_i x hx0
    refine zEv.of (st' := (pc + 2, lc, .float x :: sk, h9)) (zle.rf _) ?_ (hk _ _ h)
    intro G p l e R s m args below meth c Q h0l hF hR kk H locs ls hRel hS hL
    obtain ⟨hx, hb, hml, hr, hown, hts, -⟩ := hF
    exact lv_aload hx hb hd (hL.at hx0 (by simp)) (kk H locs ls hRel hS hL)
  · cases h
theorem zs_istore_n {j : Fin 4} (hk : zSK E mi h0 k) (hd : decode mi.2.1 pc = .ok (.istore_n j, 1)) (hn : pc + 1 = nx) (h : z_ist j.val nx (pc, lc, sk, h9) k = some r) : zEv E mi h0 (pc, lc, sk, h9) r := by
  subst hn
  unfold z_ist at h
  split at h
  · rename_i x sk' hsk
    dsimp only at hsk
    subst hsk
    split at h
    · rename_i hf
      refine zEv.of (st' := (pc + 1, lc.set j.val (.int x), sk', h9)) (zle.rf _) ?_ (hk _ _ h)
      intro G p l e R s m args below meth c Q h0l hF hR kk H locs ls hRel hS hL
      obtain ⟨hx, hb, hml, hr, hown, hts, -⟩ := hF
      have hf1 : j.val < lc.length := by simp only [zfree, Bool.and_eq_true, decide_eq_true_eq] at hf; exact hf.1
      exact lv_istore_n hx hb hd rfl hL.has (by rw [← hL.2.1]; exact hf1) rfl (fun ls' hl' => kk H locs ls' hRel hS (hL.put (v := (.int x)) hf hl'))
    · cases h
  · cases h
theorem zs_astore_n {j : Fin 4} (hk : zSK E mi h0 k) (hd : decode mi.2.1 pc = .ok (.astore_n j, 1)) (hn : pc + 1 = nx) (h : z_ast j.val nx (pc, lc, sk, h9) k = some r) : zEv E mi h0 (pc, lc, sk, h9) r := by
  subst hn
  unfold z_ast at h
  split at h
  · rename_i x sk' hsk
    dsimp only at hsk
    subst hsk
    split at h
    · rename_i hf
      refine zEv.of (st' := (pc + 1, lc.set j.val (.ref x), sk', h9)) (zle.rf _) ?_ (hk _ _ h)
      intro G p l e R s m args below meth c Q h0l hF hR kk H locs ls hRel hS hL
      obtain ⟨hx, hb, hml, hr, hown, hts, -⟩ := hF
      have hf1 : j.val < lc.length := by simp only [zfree, Bool.and_eq_true, decide_eq_true_eq] at hf; exact hf.1
      exact lv_astore_n hx hb hd rfl hL.has (by rw [← hL.2.1]; exact hf1) rfl (fun ls' hl' => kk H locs ls' hRel hS (hL.put (v := (.ref x)) hf hl'))
    · cases h
  · rename_i sk' hsk
    dsimp only at hsk
    subst hsk
    split at h
    · rename_i hf
      refine zEv.of (st' := (pc + 1, lc.set j.val .null, sk', h9)) (zle.rf _) ?_ (hk _ _ h)
      intro G p l e R s m args below meth c Q h0l hF hR kk H locs ls hRel hS hL
      obtain ⟨hx, hb, hml, hr, hown, hts, -⟩ := hF
      have hf1 : j.val < lc.length := by simp only [zfree, Bool.and_eq_true, decide_eq_true_eq] at hf; exact hf.1
      exact lv_astore_nN hx hb hd rfl hL.has (by rw [← hL.2.1]; exact hf1) rfl (fun ls' hl' => kk H locs ls' hRel hS (hL.put (v := .null) hf hl'))
    · cases h
  · cases h
theorem zs_lstore_n {j : Fin 4} (hk : zSK E mi h0 k) (hd : decode mi.2.1 pc = .ok (.lstore_n j, 1)) (hn : pc + 1 = nx) (h : z_lst j.val nx (pc, lc, sk, h9) k = some r) : zEv E mi h0 (pc, lc, sk, h9) r := by
  subst hn
  unfold z_lst at h
  split at h
  · rename_i x sk' hsk
    dsimp only at hsk
    subst hsk
    split at h
    · rename_i hf
      simp only [Bool.and_eq_true, decide_eq_true_eq] at hf
      refine zEv.of (st' := (pc + 1, (lc.set j.val (.long x)).set (j.val + 1) (.retAddr 0), sk', h9)) (zle.rf _) ?_ (hk _ _ h)
      intro G p l e R s m args below meth c Q h0l hF hR kk H locs ls hRel hS hL
      obtain ⟨hx, hb, hml, hr, hown, hts, -⟩ := hF
      exact lv_lstore_n hx hb hd rfl hL.has (by rw [← hL.2.1]; exact hf.2) rfl (fun ls' hl' => kk H locs ls' hRel hS (hL.putl hf.1 hl'))
    · cases h
  · cases h
theorem zs_istore {j : Nat} (hk : zSK E mi h0 k) (hd : decode mi.2.1 pc = .ok (.istore j, 2)) (hn : pc + 2 = nx) (h : z_ist j nx (pc, lc, sk, h9) k = some r) : zEv E mi h0 (pc, lc, sk, h9) r := by
  subst hn
  unfold z_ist at h
  split at h
  · rename_i x sk' hsk
    dsimp only at hsk
    subst hsk
    split at h
    · rename_i hf
      refine zEv.of (st' := (pc + 2, lc.set j (.int x), sk', h9)) (zle.rf _) ?_ (hk _ _ h)
      intro G p l e R s m args below meth c Q h0l hF hR kk H locs ls hRel hS hL
      obtain ⟨hx, hb, hml, hr, hown, hts, -⟩ := hF
      have hf1 : j < lc.length := by simp only [zfree, Bool.and_eq_true, decide_eq_true_eq] at hf; exact hf.1
      exact lv_istore hx hb hd hL.has (by rw [← hL.2.1]; exact hf1) rfl (fun ls' hl' => kk H locs ls' hRel hS (hL.put (v := (.int x)) hf hl'))
    · cases h
  · cases h
theorem zs_astore {j : Nat} (hk : zSK E mi h0 k) (hd : decode mi.2.1 pc = .ok (.astore j, 2)) (hn : pc + 2 = nx) (h : z_ast j nx (pc, lc, sk, h9) k = some r) : zEv E mi h0 (pc, lc, sk, h9) r := by
  subst hn
  unfold z_ast at h
  split at h
  · rename_i x sk' hsk
    dsimp only at hsk
    subst hsk
    split at h
    · rename_i hf
      refine zEv.of (st' := (pc + 2, lc.set j (.ref x), sk', h9)) (zle.rf _) ?_ (hk _ _ h)
      intro G p l e R s m args below meth c Q h0l hF hR kk H locs ls hRel hS hL
      obtain ⟨hx, hb, hml, hr, hown, hts, -⟩ := hF
      have hf1 : j < lc.length := by simp only [zfree, Bool.and_eq_true, decide_eq_true_eq] at hf; exact hf.1
      exact lv_astore hx hb hd hL.has (by rw [← hL.2.1]; exact hf1) rfl (fun ls' hl' => kk H locs ls' hRel hS (hL.put (v := (.ref x)) hf hl'))
    · cases h
  · rename_i sk' hsk
    dsimp only at hsk
    subst hsk
    split at h
    · rename_i hf
      refine zEv.of (st' := (pc + 2, lc.set j .null, sk', h9)) (zle.rf _) ?_ (hk _ _ h)
      intro G p l e R s m args below meth c Q h0l hF hR kk H locs ls hRel hS hL
      obtain ⟨hx, hb, hml, hr, hown, hts, -⟩ := hF
      have hf1 : j < lc.length := by simp only [zfree, Bool.and_eq_true, decide_eq_true_eq] at hf; exact hf.1
      exact lv_astoreN hx hb hd hL.has (by rw [← hL.2.1]; exact hf1) rfl (fun ls' hl' => kk H locs ls' hRel hS (hL.put (v := .null) hf hl'))
    · cases h
  · cases h
theorem zs_lstore {j : Nat} (hk : zSK E mi h0 k) (hd : decode mi.2.1 pc = .ok (.lstore j, 2)) (hn : pc + 2 = nx) (h : z_lst j nx (pc, lc, sk, h9) k = some r) : zEv E mi h0 (pc, lc, sk, h9) r := by
  subst hn
  unfold z_lst at h
  split at h
  · rename_i x sk' hsk
    dsimp only at hsk
    subst hsk
    split at h
    · rename_i hf
      simp only [Bool.and_eq_true, decide_eq_true_eq] at hf
      refine zEv.of (st' := (pc + 2, (lc.set j (.long x)).set (j + 1) (.retAddr 0), sk', h9)) (zle.rf _) ?_ (hk _ _ h)
      intro G p l e R s m args below meth c Q h0l hF hR kk H locs ls hRel hS hL
      obtain ⟨hx, hb, hml, hr, hown, hts, -⟩ := hF
      exact lv_lstore hx hb hd hL.has (by rw [← hL.2.1]; exact hf.2) rfl (fun ls' hl' => kk H locs ls' hRel hS (hL.putl hf.1 hl'))
    · cases h
  · cases h
theorem zs_iinc {j : Nat} {n : Int} (hk : zSK E mi h0 k) (hd : decode mi.2.1 pc = .ok (.iinc j n, 3)) (hn : pc + 3 = nx) (h : z_iinc j n nx (pc, lc, sk, h9) k = some r) : zEv E mi h0 (pc, lc, sk, h9) r := by
  subst hn
  unfold z_iinc at h
  split at h
  · rename_i x hx0
    split at h
    · rename_i hf
      refine zEv.of (st' := (pc + 3, lc.set j (.int (x + Int32.ofInt n)), sk, h9)) (zle.rf _) ?_ (hk _ _ h)
      intro G p l e R s m args below meth c Q h0l hF hR kk H locs ls hRel hS hL
      obtain ⟨hx, hb, hml, hr, hown, hts, -⟩ := hF
      have hf1 : j < lc.length := by simp only [zfree, Bool.and_eq_true, decide_eq_true_eq] at hf; exact hf.1
      obtain ⟨q, hq⟩ := List.getElem?_of_mem (zLl_mem.mpr ⟨.int x, hx0, by simp, rfl⟩ : (j, zcv G (.int x)) ∈ zLl G lc)
      exact lv_iinc hx hb hd hL.has hq rfl (by rw [← hL.2.1]; exact hf1) rfl (fun ls' hl' => kk H locs ls' hRel hS (hL.put (v := .int (x + Int32.ofInt n)) hf hl'))
    · cases h
  · cases h
theorem zs_iadd (hk : zSK E mi h0 k) (hd : decode mi.2.1 pc = .ok (.iadd, 1)) (hn : pc + 1 = nx) (h : z_i2 (fun x y => x + y) nx (pc, lc, sk, h9) k = some r) : zEv E mi h0 (pc, lc, sk, h9) r := by
  subst hn
  unfold z_i2 at h
  split at h
  · rename_i y x sk' hsk
    dsimp only at hsk
    subst hsk
    refine zEv.of (st' := (pc + 1, lc, .int (x + y) :: sk', h9)) (zle.rf _) ?_ (hk _ _ h)
    intro G p l e R s m args below meth c Q h0l hF hR kk H locs ls hRel hS hL
    obtain ⟨hx, hb, hml, hr, hown, hts, -⟩ := hF
    exact lv_iadd hx hb hd (kk H locs ls hRel hS hL)
  · cases h
theorem zs_isub (hk : zSK E mi h0 k) (hd : decode mi.2.1 pc = .ok (.isub, 1)) (hn : pc + 1 = nx) (h : z_i2 (fun x y => x - y) nx (pc, lc, sk, h9) k = some r) : zEv E mi h0 (pc, lc, sk, h9) r := by
  subst hn
  unfold z_i2 at h
  split at h
  · rename_i y x sk' hsk
    dsimp only at hsk
    subst hsk
    refine zEv.of (st' := (pc + 1, lc, .int (x - y) :: sk', h9)) (zle.rf _) ?_ (hk _ _ h)
    intro G p l e R s m args below meth c Q h0l hF hR kk H locs ls hRel hS hL
    obtain ⟨hx, hb, hml, hr, hown, hts, -⟩ := hF
    exact lv_isub hx hb hd (kk H locs ls hRel hS hL)
  · cases h
theorem zs_imul (hk : zSK E mi h0 k) (hd : decode mi.2.1 pc = .ok (.imul, 1)) (hn : pc + 1 = nx) (h : z_i2 (fun x y => x * y) nx (pc, lc, sk, h9) k = some r) : zEv E mi h0 (pc, lc, sk, h9) r := by
  subst hn
  unfold z_i2 at h
  split at h
  · rename_i y x sk' hsk
    dsimp only at hsk
    subst hsk
    refine zEv.of (st' := (pc + 1, lc, .int (x * y) :: sk', h9)) (zle.rf _) ?_ (hk _ _ h)
    intro G p l e R s m args below meth c Q h0l hF hR kk H locs ls hRel hS hL
    obtain ⟨hx, hb, hml, hr, hown, hts, -⟩ := hF
    exact lv_imul hx hb hd (kk H locs ls hRel hS hL)
  · cases h
theorem zs_iand (hk : zSK E mi h0 k) (hd : decode mi.2.1 pc = .ok (.iand, 1)) (hn : pc + 1 = nx) (h : z_i2 (fun x y => x &&& y) nx (pc, lc, sk, h9) k = some r) : zEv E mi h0 (pc, lc, sk, h9) r := by
  subst hn
  unfold z_i2 at h
  split at h
  · rename_i y x sk' hsk
    dsimp only at hsk
    subst hsk
    refine zEv.of (st' := (pc + 1, lc, .int (x &&& y) :: sk', h9)) (zle.rf _) ?_ (hk _ _ h)
    intro G p l e R s m args below meth c Q h0l hF hR kk H locs ls hRel hS hL
    obtain ⟨hx, hb, hml, hr, hown, hts, -⟩ := hF
    exact lv_iand hx hb hd (kk H locs ls hRel hS hL)
  · cases h
theorem zs_ior (hk : zSK E mi h0 k) (hd : decode mi.2.1 pc = .ok (.ior, 1)) (hn : pc + 1 = nx) (h : z_i2 (fun x y => x ||| y) nx (pc, lc, sk, h9) k = some r) : zEv E mi h0 (pc, lc, sk, h9) r := by
  subst hn
  unfold z_i2 at h
  split at h
  · rename_i y x sk' hsk
    dsimp only at hsk
    subst hsk
    refine zEv.of (st' := (pc + 1, lc, .int (x ||| y) :: sk', h9)) (zle.rf _) ?_ (hk _ _ h)
    intro G p l e R s m args below meth c Q h0l hF hR kk H locs ls hRel hS hL
    obtain ⟨hx, hb, hml, hr, hown, hts, -⟩ := hF
    exact lv_ior hx hb hd (kk H locs ls hRel hS hL)
  · cases h
theorem zs_ixor (hk : zSK E mi h0 k) (hd : decode mi.2.1 pc = .ok (.ixor, 1)) (hn : pc + 1 = nx) (h : z_i2 (fun x y => x ^^^ y) nx (pc, lc, sk, h9) k = some r) : zEv E mi h0 (pc, lc, sk, h9) r := by
  subst hn
  unfold z_i2 at h
  split at h
  · rename_i y x sk' hsk
    dsimp only at hsk
    subst hsk
    refine zEv.of (st' := (pc + 1, lc, .int (x ^^^ y) :: sk', h9)) (zle.rf _) ?_ (hk _ _ h)
    intro G p l e R s m args below meth c Q h0l hF hR kk H locs ls hRel hS hL
    obtain ⟨hx, hb, hml, hr, hown, hts, -⟩ := hF
    exact lv_ixor hx hb hd (kk H locs ls hRel hS hL)
  · cases h
theorem zs_ishl (hk : zSK E mi h0 k) (hd : decode mi.2.1 pc = .ok (.ishl, 1)) (hn : pc + 1 = nx) (h : z_i2 (fun x y => x <<< (y &&& 31)) nx (pc, lc, sk, h9) k = some r) : zEv E mi h0 (pc, lc, sk, h9) r := by
  subst hn
  unfold z_i2 at h
  split at h
  · rename_i y x sk' hsk
    dsimp only at hsk
    subst hsk
    refine zEv.of (st' := (pc + 1, lc, .int (x <<< (y &&& 31)) :: sk', h9)) (zle.rf _) ?_ (hk _ _ h)
    intro G p l e R s m args below meth c Q h0l hF hR kk H locs ls hRel hS hL
    obtain ⟨hx, hb, hml, hr, hown, hts, -⟩ := hF
    exact lv_ishl hx hb hd (kk H locs ls hRel hS hL)
  · cases h
theorem zs_ishr (hk : zSK E mi h0 k) (hd : decode mi.2.1 pc = .ok (.ishr, 1)) (hn : pc + 1 = nx) (h : z_i2 (fun x y => x >>> (y &&& 31)) nx (pc, lc, sk, h9) k = some r) : zEv E mi h0 (pc, lc, sk, h9) r := by
  subst hn
  unfold z_i2 at h
  split at h
  · rename_i y x sk' hsk
    dsimp only at hsk
    subst hsk
    refine zEv.of (st' := (pc + 1, lc, .int (x >>> (y &&& 31)) :: sk', h9)) (zle.rf _) ?_ (hk _ _ h)
    intro G p l e R s m args below meth c Q h0l hF hR kk H locs ls hRel hS hL
    obtain ⟨hx, hb, hml, hr, hown, hts, -⟩ := hF
    exact lv_ishr hx hb hd (kk H locs ls hRel hS hL)
  · cases h
theorem zs_iushr (hk : zSK E mi h0 k) (hd : decode mi.2.1 pc = .ok (.iushr, 1)) (hn : pc + 1 = nx) (h : z_i2 (fun x y => (x.toUInt32 >>> (y.toUInt32 &&& Int32.toUInt32 31)).toInt32) nx (pc, lc, sk, h9) k = some r) : zEv E mi h0 (pc, lc, sk, h9) r := by
  subst hn
  unfold z_i2 at h
  split at h
  · rename_i y x sk' hsk
    dsimp only at hsk
    subst hsk
    refine zEv.of (st' := (pc + 1, lc, .int ((x.toUInt32 >>> (y.toUInt32 &&& Int32.toUInt32 31)).toInt32) :: sk', h9)) (zle.rf _) ?_ (hk _ _ h)
    intro G p l e R s m args below meth c Q h0l hF hR kk H locs ls hRel hS hL
    obtain ⟨hx, hb, hml, hr, hown, hts, -⟩ := hF
    exact lv_iushr hx hb hd rfl (kk H locs ls hRel hS hL)
  · cases h
theorem zs_ineg (hk : zSK E mi h0 k) (hd : decode mi.2.1 pc = .ok (.ineg, 1)) (hn : pc + 1 = nx) (h : z_i1 (fun x => -x) nx (pc, lc, sk, h9) k = some r) : zEv E mi h0 (pc, lc, sk, h9) r := by
  subst hn
  unfold z_i1 at h
  split at h
  · rename_i x sk' hsk
    dsimp only at hsk
    subst hsk
    refine zEv.of (st' := (pc + 1, lc, .int (-x) :: sk', h9)) (zle.rf _) ?_ (hk _ _ h)
    intro G p l e R s m args below meth c Q h0l hF hR kk H locs ls hRel hS hL
    obtain ⟨hx, hb, hml, hr, hown, hts, -⟩ := hF
    exact lv_ineg hx hb hd (kk H locs ls hRel hS hL)
  · cases h
theorem zs_i2b (hk : zSK E mi h0 k) (hd : decode mi.2.1 pc = .ok (.i2b, 1)) (hn : pc + 1 = nx) (h : z_i1 (fun x => x.toInt8.toInt32) nx (pc, lc, sk, h9) k = some r) : zEv E mi h0 (pc, lc, sk, h9) r := by
  subst hn
  unfold z_i1 at h
  split at h
  · rename_i x sk' hsk
    dsimp only at hsk
    subst hsk
    refine zEv.of (st' := (pc + 1, lc, .int (x.toInt8.toInt32) :: sk', h9)) (zle.rf _) ?_ (hk _ _ h)
    intro G p l e R s m args below meth c Q h0l hF hR kk H locs ls hRel hS hL
    obtain ⟨hx, hb, hml, hr, hown, hts, -⟩ := hF
    exact lv_i2b hx hb hd rfl (kk H locs ls hRel hS hL)
  · cases h
theorem zs_i2s (hk : zSK E mi h0 k) (hd : decode mi.2.1 pc = .ok (.i2s, 1)) (hn : pc + 1 = nx) (h : z_i1 (fun x => x.toInt16.toInt32) nx (pc, lc, sk, h9) k = some r) : zEv E mi h0 (pc, lc, sk, h9) r := by
  subst hn
  unfold z_i1 at h
  split at h
  · rename_i x sk' hsk
    dsimp only at hsk
    subst hsk
    refine zEv.of (st' := (pc + 1, lc, .int (x.toInt16.toInt32) :: sk', h9)) (zle.rf _) ?_ (hk _ _ h)
    intro G p l e R s m args below meth c Q h0l hF hR kk H locs ls hRel hS hL
    obtain ⟨hx, hb, hml, hr, hown, hts, -⟩ := hF
    exact lv_i2s hx hb hd rfl (kk H locs ls hRel hS hL)
  · cases h
theorem zs_idiv (hk : zSK E mi h0 k) (hd : decode mi.2.1 pc = .ok (.idiv, 1)) (hn : pc + 1 = nx) (h : z_id (fun x y => x / y) nx (pc, lc, sk, h9) k = some r) : zEv E mi h0 (pc, lc, sk, h9) r := by
  subst hn
  unfold z_id at h
  split at h
  · rename_i y x sk' hsk
    dsimp only at hsk
    subst hsk
    split at h
    · cases h
    · rename_i hne
      refine zEv.of (st' := (pc + 1, lc, .int (x / y) :: sk', h9)) (zle.rf _) ?_ (hk _ _ h)
      intro G p l e R s m args below meth c Q h0l hF hR kk H locs ls hRel hS hL
      obtain ⟨hx, hb, hml, hr, hown, hts, -⟩ := hF
      exact lv_idiv hx hb hd hne (kk H locs ls hRel hS hL)
  · cases h
theorem zs_irem (hk : zSK E mi h0 k) (hd : decode mi.2.1 pc = .ok (.irem, 1)) (hn : pc + 1 = nx) (h : z_id (fun x y => x - x / y * y) nx (pc, lc, sk, h9) k = some r) : zEv E mi h0 (pc, lc, sk, h9) r := by
  subst hn
  unfold z_id at h
  split at h
  · rename_i y x sk' hsk
    dsimp only at hsk
    subst hsk
    split at h
    · cases h
    · rename_i hne
      refine zEv.of (st' := (pc + 1, lc, .int (x - x / y * y) :: sk', h9)) (zle.rf _) ?_ (hk _ _ h)
      intro G p l e R s m args below meth c Q h0l hF hR kk H locs ls hRel hS hL
      obtain ⟨hx, hb, hml, hr, hown, hts, -⟩ := hF
      exact lv_irem hx hb hd hne (kk H locs ls hRel hS hL)
  · cases h
theorem zs_ladd (hk : zSK E mi h0 k) (hd : decode mi.2.1 pc = .ok (.ladd, 1)) (hn : pc + 1 = nx) (h : z_l2 (fun x y => x + y) nx (pc, lc, sk, h9) k = some r) : zEv E mi h0 (pc, lc, sk, h9) r := by
  subst hn
  unfold z_l2 at h
  split at h
  · rename_i y x sk' hsk
    dsimp only at hsk
    subst hsk
    refine zEv.of (st' := (pc + 1, lc, .long (x + y) :: sk', h9)) (zle.rf _) ?_ (hk _ _ h)
    intro G p l e R s m args below meth c Q h0l hF hR kk H locs ls hRel hS hL
    obtain ⟨hx, hb, hml, hr, hown, hts, -⟩ := hF
    exact lv_ladd hx hb hd (kk H locs ls hRel hS hL)
  · cases h
theorem zs_lsub (hk : zSK E mi h0 k) (hd : decode mi.2.1 pc = .ok (.lsub, 1)) (hn : pc + 1 = nx) (h : z_l2 (fun x y => x - y) nx (pc, lc, sk, h9) k = some r) : zEv E mi h0 (pc, lc, sk, h9) r := by
  subst hn
  unfold z_l2 at h
  split at h
  · rename_i y x sk' hsk
    dsimp only at hsk
    subst hsk
    refine zEv.of (st' := (pc + 1, lc, .long (x - y) :: sk', h9)) (zle.rf _) ?_ (hk _ _ h)
    intro G p l e R s m args below meth c Q h0l hF hR kk H locs ls hRel hS hL
    obtain ⟨hx, hb, hml, hr, hown, hts, -⟩ := hF
    exact lv_lsub hx hb hd (kk H locs ls hRel hS hL)
  · cases h
theorem zs_lmul (hk : zSK E mi h0 k) (hd : decode mi.2.1 pc = .ok (.lmul, 1)) (hn : pc + 1 = nx) (h : z_l2 (fun x y => x * y) nx (pc, lc, sk, h9) k = some r) : zEv E mi h0 (pc, lc, sk, h9) r := by
  subst hn
  unfold z_l2 at h
  split at h
  · rename_i y x sk' hsk
    dsimp only at hsk
    subst hsk
    refine zEv.of (st' := (pc + 1, lc, .long (x * y) :: sk', h9)) (zle.rf _) ?_ (hk _ _ h)
    intro G p l e R s m args below meth c Q h0l hF hR kk H locs ls hRel hS hL
    obtain ⟨hx, hb, hml, hr, hown, hts, -⟩ := hF
    exact lv_lmul hx hb hd (kk H locs ls hRel hS hL)
  · cases h
theorem zs_ldiv (hk : zSK E mi h0 k) (hd : decode mi.2.1 pc = .ok (.ldiv, 1)) (hn : pc + 1 = nx) (h : z_ldv (fun x y => x / y) nx (pc, lc, sk, h9) k = some r) : zEv E mi h0 (pc, lc, sk, h9) r := by
  subst hn
  unfold z_ldv at h
  split at h
  · rename_i y x sk' hsk
    dsimp only at hsk
    subst hsk
    split at h
    · cases h
    · rename_i hne
      refine zEv.of (st' := (pc + 1, lc, .long (x / y) :: sk', h9)) (zle.rf _) ?_ (hk _ _ h)
      intro G p l e R s m args below meth c Q h0l hF hR kk H locs ls hRel hS hL
      obtain ⟨hx, hb, hml, hr, hown, hts, -⟩ := hF
      exact lv_ldiv hx hb hd hne (kk H locs ls hRel hS hL)
  · cases h
theorem zs_lrem (hk : zSK E mi h0 k) (hd : decode mi.2.1 pc = .ok (.lrem, 1)) (hn : pc + 1 = nx) (h : z_ldv (fun x y => x - x / y * y) nx (pc, lc, sk, h9) k = some r) : zEv E mi h0 (pc, lc, sk, h9) r := by
  subst hn
  unfold z_ldv at h
  split at h
  · rename_i y x sk' hsk
    dsimp only at hsk
    subst hsk
    split at h
    · cases h
    · rename_i hne
      refine zEv.of (st' := (pc + 1, lc, .long (x - x / y * y) :: sk', h9)) (zle.rf _) ?_ (hk _ _ h)
      intro G p l e R s m args below meth c Q h0l hF hR kk H locs ls hRel hS hL
      obtain ⟨hx, hb, hml, hr, hown, hts, -⟩ := hF
      exact lv_lrem hx hb hd hne (kk H locs ls hRel hS hL)
  · cases h
theorem zs_lcmp (hk : zSK E mi h0 k) (hd : decode mi.2.1 pc = .ok (.lcmp, 1)) (hn : pc + 1 = nx) (h : z_lcmp nx (pc, lc, sk, h9) k = some r) : zEv E mi h0 (pc, lc, sk, h9) r := by
  subst hn
  unfold z_lcmp at h
  split at h
  · rename_i y x sk' hsk
    dsimp only at hsk
    subst hsk
    refine zEv.of (st' := (pc + 1, lc, .int (lg_cmp x y) :: sk', h9)) (zle.rf _) ?_ (hk _ _ h)
    intro G p l e R s m args below meth c Q h0l hF hR kk H locs ls hRel hS hL
    obtain ⟨hx, hb, hml, hr, hown, hts, -⟩ := hF
    exact W.lcmp hx hb hd (kk H locs ls hRel hS hL)
  · cases h
theorem zs_i2l (hk : zSK E mi h0 k) (hd : decode mi.2.1 pc = .ok (.i2l, 1)) (hn : pc + 1 = nx) (h : z_i2l nx (pc, lc, sk, h9) k = some r) : zEv E mi h0 (pc, lc, sk, h9) r := by
  subst hn
  unfold z_i2l at h
  split at h
  · rename_i x sk' hsk
    dsimp only at hsk
    subst hsk
    refine zEv.of (st' := (pc + 1, lc, .long x.toInt64 :: sk', h9)) (zle.rf _) ?_ (hk _ _ h)
    intro G p l e R s m args below meth c Q h0l hF hR kk H locs ls hRel hS hL
    obtain ⟨hx, hb, hml, hr, hown, hts, -⟩ := hF
    exact lv_i2l hx hb hd rfl (kk H locs ls hRel hS hL)
  · cases h
theorem zs_l2i (hk : zSK E mi h0 k) (hd : decode mi.2.1 pc = .ok (.l2i, 1)) (hn : pc + 1 = nx) (h : z_l2i nx (pc, lc, sk, h9) k = some r) : zEv E mi h0 (pc, lc, sk, h9) r := by
  subst hn
  unfold z_l2i at h
  split at h
  · rename_i x sk' hsk
    dsimp only at hsk
    subst hsk
    refine zEv.of (st' := (pc + 1, lc, .int x.toInt32 :: sk', h9)) (zle.rf _) ?_ (hk _ _ h)
    intro G p l e R s m args below meth c Q h0l hF hR kk H locs ls hRel hS hL
    obtain ⟨hx, hb, hml, hr, hown, hts, -⟩ := hF
    exact lv_l2i hx hb hd rfl (kk H locs ls hRel hS hL)
  · cases h
theorem zs_dup (hk : zSK E mi h0 k) (hd : decode mi.2.1 pc = .ok (.dup, 1)) (hn : pc + 1 = nx) (h : z_dup nx (pc, lc, sk, h9) k = some r) : zEv E mi h0 (pc, lc, sk, h9) r := by
  subst hn
  unfold z_dup at h
  split at h
  · rename_i v sk' hsk
    dsimp only at hsk
    subst hsk
    split at h
    · rename_i hc
      refine zEv.of (st' := (pc + 1, lc, v :: v :: sk', h9)) (zle.rf _) ?_ (hk _ _ h)
      intro G p l e R s m args below meth c Q h0l hF hR kk H locs ls hRel hS hL
      obtain ⟨hx, hb, hml, hr, hown, hts, -⟩ := hF
      exact lv_dup hx hb hd ((zcv_cat G v).trans hc) (kk H locs ls hRel hS hL)
    · cases h
  · cases h
theorem zs_pop (hk : zSK E mi h0 k) (hd : decode mi.2.1 pc = .ok (.pop, 1)) (hn : pc + 1 = nx) (h : z_pop nx (pc, lc, sk, h9) k = some r) : zEv E mi h0 (pc, lc, sk, h9) r := by
  subst hn
  unfold z_pop at h
  split at h
  · rename_i v sk' hsk
    dsimp only at hsk
    subst hsk
    split at h
    · rename_i hc
      refine zEv.of (st' := (pc + 1, lc, sk', h9)) (zle.rf _) ?_ (hk _ _ h)
      intro G p l e R s m args below meth c Q h0l hF hR kk H locs ls hRel hS hL
      obtain ⟨hx, hb, hml, hr, hown, hts, -⟩ := hF
      exact lv_pop hx hb hd ((zcv_cat G v).trans hc) (kk H locs ls hRel hS hL)
    · cases h
  · cases h
theorem zs_dup2 (hk : zSK E mi h0 k) (hd : decode mi.2.1 pc = .ok (.dup2, 1)) (hn : pc + 1 = nx) (h : z_dup2 nx (pc, lc, sk, h9) k = some r) : zEv E mi h0 (pc, lc, sk, h9) r := by
  subst hn
  unfold z_dup2 at h
  split at h
  · rename_i v w sk' hsk
    dsimp only at hsk
    subst hsk
    split at h
    · rename_i hc
      refine zEv.of (st' := (pc + 1, lc, v :: w :: v :: w :: sk', h9)) (zle.rf _) ?_ (hk _ _ h)
      intro G p l e R s m args below meth c Q h0l hF hR kk H locs ls hRel hS hL
      obtain ⟨hx, hb, hml, hr, hown, hts, -⟩ := hF
      exact lv_dup2_11 hx hb hd ((zcv_cat G v).trans hc.1) ((zcv_cat G w).trans hc.2) (kk H locs ls hRel hS hL)
    · cases h
  · cases h
theorem zs_dupx (hk : zSK E mi h0 k) (hd : decode mi.2.1 pc = .ok (.dup_x1, 1)) (hn : pc + 1 = nx) (h : z_dupx nx (pc, lc, sk, h9) k = some r) : zEv E mi h0 (pc, lc, sk, h9) r := by
  subst hn
  unfold z_dupx at h
  split at h
  · rename_i v w sk' hsk
    dsimp only at hsk
    subst hsk
    split at h
    · rename_i hc
      refine zEv.of (st' := (pc + 1, lc, v :: w :: v :: sk', h9)) (zle.rf _) ?_ (hk _ _ h)
      intro G p l e R s m args below meth c Q h0l hF hR kk H locs ls hRel hS hL
      obtain ⟨hx, hb, hml, hr, hown, hts, -⟩ := hF
      exact lv_dup_x1 hx hb hd ((zcv_cat G v).trans hc.1) ((zcv_cat G w).trans hc.2) (kk H locs ls hRel hS hL)
    · cases h
  · cases h
theorem zs_goto {off : Int} {t : Nat} (hk : zSK E mi h0 k) (hd : decode mi.2.1 pc = .ok (.goto off, 3)) (ht : (pc : Int) + off = (t : Int)) (h : z_goto t (pc, lc, sk, h9) k = some r) : zEv E mi h0 (pc, lc, sk, h9) r := by
  refine zEv.of (st' := (t, lc, sk, h9)) (zle.rf _) ?_ (hk _ _ h)
  intro G p l e R s m args below meth c Q h0l hF hR kk H locs ls hRel hS hL
  obtain ⟨hx, hb, hml, hr, hown, hts, -⟩ := hF
  exact lv_goto hx hb hd ht (kk H locs ls hRel hS hL)
theorem zEv.br {st : zS} {a b : zS} {P : Prop} [Decidable P] (hk : zSK E mi h0 k) (h : (if P then k a else k b) = some r) (ha : st.2.2.2 = a.2.2.2) (hb' : st.2.2.2 = b.2.2.2) (row : ∀ (G : zG) (p : Program) (l : Launch) (e : Env) (R : Room) (s : State) (m : MethodId) (args : Array Value) (below : List Frame) (meth : Method) (c : Code) (Q : State → Prop), zFx G E h0 mi.1 mi.2.1 mi.2.2.1 mi.2.2.2.1 p s m args meth c → (P → zWat G mi h0 p l e R s m args below meth c Q a) → (¬ P → zWat G mi h0 p l e R s m args below meth c Q b) → zWat G mi h0 p l e R s m args below meth c Q st) : zEv E mi h0 st r := by
  by_cases hP : P
  · rw [if_pos hP] at h
    refine zEv.of (st' := a) (by rw [ha]; exact zle.rf _) ?_ (hk _ _ h)
    intro G p l e R s m args below meth c Q h0l hF hR kk
    exact row G p l e R s m args below meth c Q hF (fun _ => kk) (fun z => absurd hP z)
  · rw [if_neg hP] at h
    refine zEv.of (st' := b) (by rw [hb']; exact zle.rf _) ?_ (hk _ _ h)
    intro G p l e R s m args below meth c Q h0l hF hR kk
    exact row G p l e R s m args below meth c Q hF (fun z => absurd z hP) (fun _ => kk)
theorem zs_icmp {cd : ClassFile.Cond} {off : Int} {t : Nat} (hk : zSK E mi h0 k) (hd : decode mi.2.1 pc = .ok (.if_icmp cd off, 3)) (ht : (pc : Int) + off = (t : Int)) (hn : pc + 3 = nx) (h : z_cmp cd t nx (pc, lc, sk, h9) k = some r) : zEv E mi h0 (pc, lc, sk, h9) r := by
  subst hn
  unfold z_cmp at h
  split at h
  · rename_i y x sk' hsk
    dsimp only at hsk
    subst hsk
    cases cd <;> dsimp only at h
    · refine zEv.br hk h rfl rfl ?_
      intro G p l e R s m args below meth c Q hF k1 k2 H locs ls hRel hS hL
      obtain ⟨hx, hb, -⟩ := hF
      exact lv_icmp_eq hx hb hd ht (fun z => k1 z H locs ls hRel hS hL) (fun z => k2 z H locs ls hRel hS hL)
    · refine zEv.br hk h rfl rfl ?_
      intro G p l e R s m args below meth c Q hF k1 k2 H locs ls hRel hS hL
      obtain ⟨hx, hb, -⟩ := hF
      exact lv_icmp_ne hx hb hd ht (fun z => k2 z H locs ls hRel hS hL) (fun z => k1 z H locs ls hRel hS hL)
    · refine zEv.br hk h rfl rfl ?_
      intro G p l e R s m args below meth c Q hF k1 k2 H locs ls hRel hS hL
      obtain ⟨hx, hb, -⟩ := hF
      exact lv_icmp_lt hx hb hd ht (fun z => k1 z H locs ls hRel hS hL) (fun z => k2 z H locs ls hRel hS hL)
    · refine zEv.br hk h rfl rfl ?_
      intro G p l e R s m args below meth c Q hF k1 k2 H locs ls hRel hS hL
      obtain ⟨hx, hb, -⟩ := hF
      exact lv_icmp_ge hx hb hd ht (fun z => k1 z H locs ls hRel hS hL) (fun z => k2 z H locs ls hRel hS hL)
    · refine zEv.br hk h rfl rfl ?_
      intro G p l e R s m args below meth c Q hF k1 k2 H locs ls hRel hS hL
      obtain ⟨hx, hb, -⟩ := hF
      exact lv_icmp_gt hx hb hd ht (fun z => k1 z H locs ls hRel hS hL) (fun z => k2 z H locs ls hRel hS hL)
    · refine zEv.br hk h rfl rfl ?_
      intro G p l e R s m args below meth c Q hF k1 k2 H locs ls hRel hS hL
      obtain ⟨hx, hb, -⟩ := hF
      exact lv_icmp_le hx hb hd ht (fun z => k1 z H locs ls hRel hS hL) (fun z => k2 z H locs ls hRel hS hL)
  · cases h
theorem zs_ifc {cd : ClassFile.Cond} {off : Int} {t : Nat} (hk : zSK E mi h0 k) (hd : decode mi.2.1 pc = .ok (.ifCond cd off, 3)) (ht : (pc : Int) + off = (t : Int)) (hn : pc + 3 = nx) (h : z_if cd t nx (pc, lc, sk, h9) k = some r) : zEv E mi h0 (pc, lc, sk, h9) r := by
  subst hn
  unfold z_if at h
  split at h
  · rename_i x sk' hsk
    dsimp only at hsk
    subst hsk
    cases cd <;> dsimp only at h
    · refine zEv.br hk h rfl rfl ?_
      intro G p l e R s m args below meth c Q hF k1 k2 H locs ls hRel hS hL
      obtain ⟨hx, hb, -⟩ := hF
      exact lv_if_eq hx hb hd ht (fun z => k1 z H locs ls hRel hS hL) (fun z => k2 z H locs ls hRel hS hL)
    · refine zEv.br hk h rfl rfl ?_
      intro G p l e R s m args below meth c Q hF k1 k2 H locs ls hRel hS hL
      obtain ⟨hx, hb, -⟩ := hF
      exact lv_if_ne hx hb hd ht (fun z => k2 z H locs ls hRel hS hL) (fun z => k1 z H locs ls hRel hS hL)
    · refine zEv.br hk h rfl rfl ?_
      intro G p l e R s m args below meth c Q hF k1 k2 H locs ls hRel hS hL
      obtain ⟨hx, hb, -⟩ := hF
      exact lv_if_lt hx hb hd ht (fun z => k1 z H locs ls hRel hS hL) (fun z => k2 z H locs ls hRel hS hL)
    · refine zEv.br hk h rfl rfl ?_
      intro G p l e R s m args below meth c Q hF k1 k2 H locs ls hRel hS hL
      obtain ⟨hx, hb, -⟩ := hF
      exact lv_if_ge hx hb hd ht (fun z => k1 z H locs ls hRel hS hL) (fun z => k2 z H locs ls hRel hS hL)
    · refine zEv.br hk h rfl rfl ?_
      intro G p l e R s m args below meth c Q hF k1 k2 H locs ls hRel hS hL
      obtain ⟨hx, hb, -⟩ := hF
      exact lv_if_gt hx hb hd ht (fun z => k1 z H locs ls hRel hS hL) (fun z => k2 z H locs ls hRel hS hL)
    · refine zEv.br hk h rfl rfl ?_
      intro G p l e R s m args below meth c Q hF k1 k2 H locs ls hRel hS hL
      obtain ⟨hx, hb, -⟩ := hF
      exact lv_if_le hx hb hd ht (fun z => k1 z H locs ls hRel hS hL) (fun z => k2 z H locs ls hRel hS hL)
  · cases h
theorem zs_ifnull {off : Int} {t : Nat} (hk : zSK E mi h0 k) (hd : decode mi.2.1 pc = .ok (.ifnull off, 3)) (ht : (pc : Int) + off = (t : Int)) (hn : pc + 3 = nx) (h : z_ifn t nx (pc, lc, sk, h9) k = some r) : zEv E mi h0 (pc, lc, sk, h9) r := by
  subst hn
  unfold z_ifn at h
  split at h
  · rename_i x sk' hsk
    dsimp only at hsk
    subst hsk
    refine zEv.of (st' := (pc + 3, lc, sk', h9)) (zle.rf _) ?_ (hk _ _ h)
    intro G p l e R s m args below meth c Q h0l hF hR kk H locs ls hRel hS hL
    obtain ⟨hx, hb, hml, hr, hown, hts, -⟩ := hF
    exact lv_ifnull hx hb hd (kk H locs ls hRel hS hL)
  · rename_i sk' hsk
    dsimp only at hsk
    subst hsk
    refine zEv.of (st' := (t, lc, sk', h9)) (zle.rf _) ?_ (hk _ _ h)
    intro G p l e R s m args below meth c Q h0l hF hR kk H locs ls hRel hS hL
    obtain ⟨hx, hb, hml, hr, hown, hts, -⟩ := hF
    exact lv_ifnullN hx hb hd ht (kk H locs ls hRel hS hL)
  · cases h
theorem zs_ifnonnull {off : Int} {t : Nat} (hk : zSK E mi h0 k) (hd : decode mi.2.1 pc = .ok (.ifnonnull off, 3)) (ht : (pc : Int) + off = (t : Int)) (hn : pc + 3 = nx) (h : z_ifnn t nx (pc, lc, sk, h9) k = some r) : zEv E mi h0 (pc, lc, sk, h9) r := by
  subst hn
  unfold z_ifnn at h
  split at h
  · rename_i x sk' hsk
    dsimp only at hsk
    subst hsk
    refine zEv.of (st' := (t, lc, sk', h9)) (zle.rf _) ?_ (hk _ _ h)
    intro G p l e R s m args below meth c Q h0l hF hR kk H locs ls hRel hS hL
    obtain ⟨hx, hb, hml, hr, hown, hts, -⟩ := hF
    exact lv_ifnonnull hx hb hd ht (kk H locs ls hRel hS hL)
  · rename_i sk' hsk
    dsimp only at hsk
    subst hsk
    refine zEv.of (st' := (pc + 3, lc, sk', h9)) (zle.rf _) ?_ (hk _ _ h)
    intro G p l e R s m args below meth c Q h0l hF hR kk H locs ls hRel hS hL
    obtain ⟨hx, hb, hml, hr, hown, hts, -⟩ := hF
    exact lv_ifnonnullN hx hb hd (kk H locs ls hRel hS hL)
  · cases h
end ZR
