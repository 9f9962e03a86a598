/-! BOTH, NEW: the joint state -/
theorem new_y {h : zH} {y : Nat} (e : ∀ i, i < 9 → h[y + i]? = (yard0 y)[i]?) : YC h y (fun _ => 0) := by
  have e0 : h[y]? = (yard0 y)[0]? := e 0 (by omega)
  have e8 : h[y + 8]? = some (.inr (.inr (4, 4, fun _ => none))) := e 8 (by omega)
  refine ⟨⟨fun _ _ => 0, fun _ => none, ⟨?_, fun k hk => ?_, fun j hj => ?_, fun j h4 hj => ?_, _, e8, fun _ _ => rfl⟩, fun b hb => absurd hb (Nat.not_lt_zero _), fun b hb => absurd hb (Nat.not_lt_zero _), fun b hb => absurd hb (Nat.not_lt_zero _)⟩, _, e8, fun i _ q hq => by cases hq⟩
  · unfold zcls
    rw [e0]
    rfl
  · unfold zfld
    rw [e0]
    match k, hk with
    | 0, _ => rfl
    | 1, _ => rfl
    | 2, _ => rfl
    | 3, _ => rfl
    | 4, _ => rfl
    | 5, _ => rfl
    | 6, _ => rfl
    | 7, _ => rfl
    | 8, _ => rfl
    | 9, _ => rfl
    | 10, _ => rfl
    | 11, _ => rfl
    | 12, _ => rfl
    | 13, _ => rfl
    | 14, _ => rfl
    | 15, _ => rfl
    | 16, _ => rfl
    | 17, _ => rfl
    | (k + 18), hk => omega
  · match j, hj with
    | 0, _ => exact ⟨_, e 1 (by omega), fun _ _ => rfl⟩
    | 1, _ => exact ⟨_, e 2 (by omega), fun _ _ => rfl⟩
    | 2, _ => exact ⟨_, e 3 (by omega), fun _ _ => rfl⟩
    | 3, _ => exact ⟨_, e 4 (by omega), fun _ _ => rfl⟩
    | (j + 4), hj => omega
  · match j, h4, hj with
    | 0, h4, _ => omega
    | 1, h4, _ => omega
    | 2, h4, _ => omega
    | 3, h4, _ => omega
    | 4, _, _ => exact ⟨_, e 5 (by omega), fun _ _ => rfl⟩
    | 5, _, _ => exact ⟨_, e 6 (by omega), fun _ _ => rfl⟩
    | 6, _, _ => exact ⟨_, e 7 (by omega), fun _ _ => rfl⟩
    | (j + 7), _, hj => omega
theorem new0_15 : YC new0 16 (fun _ => 0) := new_y (fun i hi => by
  match i, hi with
  | 0, _ => rfl
  | 1, _ => rfl
  | 2, _ => rfl
  | 3, _ => rfl
  | 4, _ => rfl
  | 5, _ => rfl
  | 6, _ => rfl
  | 7, _ => rfl
  | 8, _ => rfl
  | (i + 9), hi => omega)
theorem new0_24 : YC new0 25 (fun _ => 0) := new_y (fun i hi => by
  match i, hi with
  | 0, _ => rfl
  | 1, _ => rfl
  | 2, _ => rfl
  | 3, _ => rfl
  | 4, _ => rfl
  | 5, _ => rfl
  | 6, _ => rfl
  | 7, _ => rfl
  | 8, _ => rfl
  | (i + 9), hi => omega)
theorem new0_49 : YC new0 50 (fun _ => 0) := new_y (fun i hi => by
  match i, hi with
  | 0, _ => rfl
  | 1, _ => rfl
  | 2, _ => rfl
  | 3, _ => rfl
  | 4, _ => rfl
  | 5, _ => rfl
  | 6, _ => rfl
  | 7, _ => rfl
  | 8, _ => rfl
  | (i + 9), hi => omega)
theorem new0_58 : YC new0 59 (fun _ => 0) := new_y (fun i hi => by
  match i, hi with
  | 0, _ => rfl
  | 1, _ => rfl
  | 2, _ => rfl
  | 3, _ => rfl
  | 4, _ => rfl
  | 5, _ => rfl
  | 6, _ => rfl
  | 7, _ => rfl
  | 8, _ => rfl
  | (i + 9), hi => omega)
theorem new0_co : CO new0 16 25 0 := by
  refine ⟨rfl, fun k hk => ?_, rfl⟩
  match k, hk with
  | 0, _ => rfl
  | 1, _ => rfl
  | 2, _ => rfl
  | 3, _ => rfl
  | 4, _ => rfl
  | 5, _ => rfl
  | 6, _ => rfl
  | 7, _ => rfl
  | 8, _ => rfl
  | 10, _ => rfl
  | 9, hk => omega
  | (k + 11), hk => omega
theorem new0_md : MdO new0 (fun _ => 0) := by
  refine ⟨rfl, fun k hk => ?_⟩
  match k, hk with
  | 0, _ => rfl
  | 1, _ => rfl
  | 2, _ => rfl
  | 3, _ => rfl
  | 4, _ => rfl
  | 5, _ => rfl
  | 6, _ => rfl
  | 7, _ => rfl
  | 8, _ => rfl
  | 9, _ => rfl
  | 10, _ => rfl
  | 11, _ => rfl
  | 12, _ => rfl
  | 13, _ => rfl
  | 14, _ => rfl
  | 15, _ => rfl
  | 16, _ => rfl
  | 17, _ => rfl
  | 18, _ => rfl
  | 19, _ => rfl
  | 20, _ => rfl
  | 21, _ => rfl
  | 22, _ => rfl
  | 23, _ => rfl
  | 24, _ => rfl
  | (k + 25), hk => omega
theorem new0_row : JRow new0 := by
  refine ⟨⟨_, rfl, fun i hi => ?_⟩, fun _ => false, fun _ => 0, fun _ => 0, fun _ _ => 0, fun _ => -1, fun _ => 0, fun i hi => ?_, ⟨⟨_, rfl, fun i hi => ?_⟩, ⟨_, rfl, fun _ _ => rfl⟩, ⟨_, rfl, fun _ _ => rfl⟩⟩, fun i _ => (if_neg Bool.false_ne_true).symm, fun _ _ _ _ => rfl, fun _ _ => Or.inl rfl, fun _ _ => Nat.zero_le _⟩
  · match i, hi with
    | 0, _ => rfl
    | 1, _ => rfl
    | 2, _ => rfl
    | 3, _ => rfl
    | 4, _ => rfl
    | 5, _ => rfl
    | 6, _ => rfl
    | 7, _ => rfl
    | (i + 8), hi => omega
  · match i, hi with
    | 0, _ => exact ⟨rfl, rfl, rfl, rfl, rfl, _, rfl, fun _ _ => rfl⟩
    | 1, _ => exact ⟨rfl, rfl, rfl, rfl, rfl, _, rfl, fun _ _ => rfl⟩
    | 2, _ => exact ⟨rfl, rfl, rfl, rfl, rfl, _, rfl, fun _ _ => rfl⟩
    | 3, _ => exact ⟨rfl, rfl, rfl, rfl, rfl, _, rfl, fun _ _ => rfl⟩
    | 4, _ => exact ⟨rfl, rfl, rfl, rfl, rfl, _, rfl, fun _ _ => rfl⟩
    | 5, _ => exact ⟨rfl, rfl, rfl, rfl, rfl, _, rfl, fun _ _ => rfl⟩
    | 6, _ => exact ⟨rfl, rfl, rfl, rfl, rfl, _, rfl, fun _ _ => rfl⟩
    | 7, _ => exact ⟨rfl, rfl, rfl, rfl, rfl, _, rfl, fun _ _ => rfl⟩
    | (i + 8), hi => omega
  · match i, hi with
    | 0, _ => rfl
    | 1, _ => rfl
    | 2, _ => rfl
    | 3, _ => rfl
    | 4, _ => rfl
    | 5, _ => rfl
    | 6, _ => rfl
    | 7, _ => rfl
    | (i + 8), hi => omega
theorem new0_tape : JTape new0 0 0 := by
  refine ⟨fun _ => 0, fun _ => 0, 0, ⟨rfl, rfl, fun k h1 hk => ?_, _, rfl, fun _ _ => rfl⟩, ⟨_, rfl, fun _ _ => rfl⟩, by omega, rfl, rfl, rfl, fun j hj => by omega⟩
  match k, h1, hk with
  | 0, h1, _ => omega
  | 1, _, _ => rfl
  | 2, _, _ => rfl
  | 3, _, _ => rfl
  | 4, _, _ => rfl
  | 5, _, _ => rfl
  | 6, _, _ => rfl
  | (k + 7), _, hk => omega
theorem new0_gu : GU new0 := by
  refine ⟨_, rfl, fun k k1 k5 => ?_⟩
  match k, k1, k5 with
  | 0, k1, _ => omega
  | 1, _, _ => exact ⟨rfl, rfl, rfl, 0, rfl⟩
  | 2, _, _ => exact ⟨rfl, rfl, rfl, 0, rfl⟩
  | 3, _, _ => exact ⟨rfl, rfl, rfl, 0, rfl⟩
  | 4, _, _ => exact ⟨rfl, rfl, rfl, 0, rfl⟩
  | 5, _, _ => exact ⟨rfl, rfl, rfl, 0, rfl⟩
  | (k + 6), _, k5 => omega
theorem new0_img : JImg new0 := by
  refine ⟨⟨⟨_, rfl, fun i hi => ?_⟩, new0_gu⟩, fun _ _ => 0, fun _ => 0, fun _ => 0, fun k hk => ⟨?_, Or.inr (fun i _ => rfl), rfl, fun i _ => rfl⟩, ⟨_, rfl, fun _ _ => rfl⟩, ⟨_, rfl, fun _ _ => rfl⟩⟩
  · match i, hi with
    | 0, _ => rfl
    | 1, _ => rfl
    | (i + 2), hi => omega
  · match k, hk with
    | 0, _ => exact new0_49
    | 1, _ => exact new0_58
    | (k + 2), hk => omega
theorem new0_act : JAct new0 (fun _ => 0) 0 := by
  refine ⟨0, fun _ _ => 0, fun _ _ => 0, fun _ => 0, by omega, rfl, ⟨rfl, fun f hf => ?_, rfl, fun f hf => ?_⟩, ⟨_, rfl, fun _ _ => rfl⟩, rfl, fun j hj => by omega⟩
  · match f, hf with
    | 0, _ => rfl
    | 1, _ => rfl
    | 2, _ => rfl
    | 3, _ => rfl
    | 4, _ => rfl
    | (f + 5), hf => omega
  · match f, hf with
    | 0, _ => exact ⟨_, rfl, fun _ _ => rfl⟩
    | 1, _ => exact ⟨_, rfl, fun _ _ => rfl⟩
    | 2, _ => exact ⟨_, rfl, fun _ _ => rfl⟩
    | 3, _ => exact ⟨_, rfl, fun _ _ => rfl⟩
    | 4, _ => exact ⟨_, rfl, fun _ _ => rfl⟩
    | (f + 5), hf => omega
theorem new0_tr : JTr new0 0 := ⟨0, 0, fun _ => 0, ⟨rfl, rfl, rfl, rfl, _, rfl, fun _ _ => rfl⟩, ⟨_, rfl, fun _ _ => rfl⟩, rfl, by omega⟩
theorem new0_scr : JScr new0 := ⟨⟨fun _ => 0, _, rfl, fun _ _ => rfl⟩, ⟨fun _ => 0, _, rfl, fun _ _ => rfl⟩, ⟨fun _ => 0, _, rfl, fun _ _ => rfl⟩, ⟨fun _ => 0, _, rfl, fun _ _ => rfl⟩, ⟨fun _ => 0, _, rfl, fun _ _ => rfl⟩, fun _ => 0, _, rfl, fun _ _ => rfl⟩
theorem new0_J : J new0 0 := by
  refine ⟨16, 25, 0, fun _ => 0, fun _ => 0, ⟨Or.inl ⟨rfl, rfl⟩, new0_co, new0_md, new0_row, new0_tape, new0_img, new0_act, new0_tr, new0_scr, new0_15, ⟨_, rfl, fun _ _ => rfl⟩, Or.inr (fun i _ => rfl), new0_24.sp⟩, rfl, ?_⟩
  have a := new0_len
  have b := new0_sl
  unfold Bd
  omega
