/-! THE LAW: its calls, one by one (printed by gen/cases.py) -/
section LCS
variable {E : zE} {h : zH} {n i : Nat}
theorem m11_195 {r : zR} {x1 : Int32} {x2 : Int32} (e : zcall zpp E 195 [.ref 73, .int x1, .int x2] h = some r) : zcls h 73 = some 11 := by
  cases hz : zstf [11] 0 h 73 0 (.int 0) with
  | some H => exact zstf_cls hz
  | none =>
    have q : zcall zpp E 195 [.ref 73, .int x1, .int x2] h = none := by
      simp only [ze195, zi195_0, zi195_0n, zi195_1, zi195_2, zcl1, zlow_0, zlow_1, zlow_2, zlow_3, zlow_4, zfree_0, zfree_i, zfree_r, zfree_n, zfree_d, zfree_f, zfree_s, if_true, if_false, Option.bind_some, Option.toList_some, Option.toList_none, List.cons_append, List.nil_append, List.set_cons_zero, List.set_cons_succ, Bool.false_eq_true, reduceIte, zsw_c, zsw_n, Nat.reduceAdd, hz, Option.bind_none]
    rw [q] at e
    cases e
theorem lc_bike (hE : E.1 ≤ 384) (hi : i + 6 ≤ E.1) (c0 : zcls h 0 = some 10) (O : OK E h n 102 195 [.int (E.2 (i + 1)), .int (E.2 (i + 2))]) : LC E n i (zrun zpp E 0 (538, [.float 0, .ref 0, .ref 73, .int (nI i)], [], h)) := by
  obtain ⟨r, h1, h2, a1, a2, a3⟩ := O
  have c1 : zsel 10 [10, 102] = some 102 := rfl
  have c2 : zsel 11 [11, 195] = some 195 := rfl
  refine ⟨h2, ?_, a3⟩
  conv =>
    lhs
    simp only [zi0_538, zi0_538n, zi0_538f, zi0_539, zi0_539n, zi0_539f, zi0_540, zi0_541, zi0_542, zi0_543, zi0_544, zi0_544n, zi0_544f, zi0_545, zi0_546, zi0_547, zi0_548, zi0_549, zi0_552, zi0_552n, zi0_552f, zi0_553, zi0_553n, zi0_553f, zi0_554, zi0_555, zi0_556, zi0_557, zi0_558, zi0_558n, zi0_558f, zi0_559, zi0_560, zi0_561, zi0_562, zi0_563, zi0_566, zcl1, zlow_0, zlow_1, zlow_2, zlow_3, zlow_4, zfree_0, zfree_i, zfree_r, zfree_n, zfree_d, zfree_f, zfree_s, if_true, if_false, Option.bind_some, Option.toList_some, Option.toList_none, List.cons_append, List.nil_append, List.set_cons_zero, List.set_cons_succ, Bool.false_eq_true, reduceIte, zsw_c, zsw_n, Nat.reduceAdd, (lx_1 hE hi).1, (lx_1 hE hi).2, (lx_2 hE hi).1, (lx_2 hE hi).2, c0, c1, a1, m11_195 a2, c2, a2, eq_self]
theorem m11_196 {r : zR} {x1 : Int32} {x2 : Int32} (e : zcall zpp E 196 [.ref 73, .int x1, .int x2] h = some r) : zcls h 73 = some 11 := by
  cases hz : zstf [11] 0 h 73 0 (.int 0) with
  | some H => exact zstf_cls hz
  | none =>
    have q : zcall zpp E 196 [.ref 73, .int x1, .int x2] h = none := by
      simp only [ze196, zi196_0, zi196_0n, zi196_1, zi196_2, zcl1, zlow_0, zlow_1, zlow_2, zlow_3, zlow_4, zfree_0, zfree_i, zfree_r, zfree_n, zfree_d, zfree_f, zfree_s, if_true, if_false, Option.bind_some, Option.toList_some, Option.toList_none, List.cons_append, List.nil_append, List.set_cons_zero, List.set_cons_succ, Bool.false_eq_true, reduceIte, zsw_c, zsw_n, Nat.reduceAdd, hz, Option.bind_none]
    rw [q] at e
    cases e
theorem lc_hold (hE : E.1 ≤ 384) (hi : i + 6 ≤ E.1) (c0 : zcls h 0 = some 10) (O : OK E h n 103 196 [.int (E.2 (i + 1)), .int (E.2 (i + 2))]) : LC E n i (zrun zpp E 0 (571, [.float 0, .ref 0, .ref 73, .int (nI i)], [], h)) := by
  obtain ⟨r, h1, h2, a1, a2, a3⟩ := O
  have c1 : zsel 10 [10, 103] = some 103 := rfl
  have c2 : zsel 11 [11, 196] = some 196 := rfl
  refine ⟨h2, ?_, a3⟩
  conv =>
    lhs
    simp only [zi0_571, zi0_571n, zi0_571f, zi0_572, zi0_572n, zi0_572f, zi0_573, zi0_574, zi0_575, zi0_576, zi0_577, zi0_577n, zi0_577f, zi0_578, zi0_579, zi0_580, zi0_581, zi0_582, zi0_585, zi0_585n, zi0_585f, zi0_586, zi0_586n, zi0_586f, zi0_587, zi0_588, zi0_589, zi0_590, zi0_591, zi0_591n, zi0_591f, zi0_592, zi0_593, zi0_594, zi0_595, zi0_596, zi0_599, zcl1, zlow_0, zlow_1, zlow_2, zlow_3, zlow_4, zfree_0, zfree_i, zfree_r, zfree_n, zfree_d, zfree_f, zfree_s, if_true, if_false, Option.bind_some, Option.toList_some, Option.toList_none, List.cons_append, List.nil_append, List.set_cons_zero, List.set_cons_succ, Bool.false_eq_true, reduceIte, zsw_c, zsw_n, Nat.reduceAdd, (lx_1 hE hi).1, (lx_1 hE hi).2, (lx_2 hE hi).1, (lx_2 hE hi).2, c0, c1, a1, m11_196 a2, c2, a2, eq_self]
theorem m11_197 {r : zR} {x1 : Int32} {x2 : Int32} {x3 : Int32} (e : zcall zpp E 197 [.ref 73, .int x1, .int x2, .int x3] h = some r) : zcls h 73 = some 11 := by
  cases hz : zstf [11] 0 h 73 0 (.int 0) with
  | some H => exact zstf_cls hz
  | none =>
    have q : zcall zpp E 197 [.ref 73, .int x1, .int x2, .int x3] h = none := by
      simp only [ze197, zi197_0, zi197_0n, zi197_1, zi197_2, zcl1, zlow_0, zlow_1, zlow_2, zlow_3, zlow_4, zfree_0, zfree_i, zfree_r, zfree_n, zfree_d, zfree_f, zfree_s, if_true, if_false, Option.bind_some, Option.toList_some, Option.toList_none, List.cons_append, List.nil_append, List.set_cons_zero, List.set_cons_succ, Bool.false_eq_true, reduceIte, zsw_c, zsw_n, Nat.reduceAdd, hz, Option.bind_none]
    rw [q] at e
    cases e
theorem lc_takes (hE : E.1 ≤ 384) (hi : i + 6 ≤ E.1) (c0 : zcls h 0 = some 10) (O : OK E h n 104 197 [.int (E.2 (i + 1)), .int (E.2 (i + 2)), .int (E.2 (i + 3))]) : LC E n i (zrun zpp E 0 (604, [.float 0, .ref 0, .ref 73, .int (nI i)], [], h)) := by
  obtain ⟨r, h1, h2, a1, a2, a3⟩ := O
  have c1 : zsel 10 [10, 104] = some 104 := rfl
  have c2 : zsel 11 [11, 197] = some 197 := rfl
  refine ⟨h2, ?_, a3⟩
  conv =>
    lhs
    simp only [zi0_604, zi0_604n, zi0_604f, zi0_605, zi0_605n, zi0_605f, zi0_606, zi0_607, zi0_608, zi0_609, zi0_610, zi0_610n, zi0_610f, zi0_611, zi0_612, zi0_613, zi0_614, zi0_615, zi0_615n, zi0_615f, zi0_616, zi0_617, zi0_618, zi0_619, zi0_620, zi0_623, zi0_623n, zi0_623f, zi0_624, zi0_624n, zi0_624f, zi0_625, zi0_626, zi0_627, zi0_628, zi0_629, zi0_629n, zi0_629f, zi0_630, zi0_631, zi0_632, zi0_633, zi0_634, zi0_634n, zi0_634f, zi0_635, zi0_636, zi0_637, zi0_638, zi0_639, zi0_642, zcl1, zlow_0, zlow_1, zlow_2, zlow_3, zlow_4, zfree_0, zfree_i, zfree_r, zfree_n, zfree_d, zfree_f, zfree_s, if_true, if_false, Option.bind_some, Option.toList_some, Option.toList_none, List.cons_append, List.nil_append, List.set_cons_zero, List.set_cons_succ, Bool.false_eq_true, reduceIte, zsw_c, zsw_n, Nat.reduceAdd, (lx_1 hE hi).1, (lx_1 hE hi).2, (lx_2 hE hi).1, (lx_2 hE hi).2, (lx_3 hE hi).1, (lx_3 hE hi).2, c0, c1, a1, m11_197 a2, c2, a2, eq_self]
theorem m11_199 {r : zR} {x1 : Int32} (e : zcall zpp E 199 [.ref 73, .int x1] h = some r) : zcls h 73 = some 11 := by
  cases hz : zstf [11] 0 h 73 0 (.int 0) with
  | some H => exact zstf_cls hz
  | none =>
    have q : zcall zpp E 199 [.ref 73, .int x1] h = none := by
      simp only [ze199, zi199_0, zi199_0n, zi199_1, zi199_2, zcl1, zlow_0, zlow_1, zlow_2, zlow_3, zlow_4, zfree_0, zfree_i, zfree_r, zfree_n, zfree_d, zfree_f, zfree_s, if_true, if_false, Option.bind_some, Option.toList_some, Option.toList_none, List.cons_append, List.nil_append, List.set_cons_zero, List.set_cons_succ, Bool.false_eq_true, reduceIte, zsw_c, zsw_n, Nat.reduceAdd, hz, Option.bind_none]
    rw [q] at e
    cases e
theorem lc_stand (hE : E.1 ≤ 384) (hi : i + 6 ≤ E.1) (c0 : zcls h 0 = some 10) (O : OK E h n 105 199 [.int (E.2 (i + 1))]) : LC E n i (zrun zpp E 0 (647, [.float 0, .ref 0, .ref 73, .int (nI i)], [], h)) := by
  obtain ⟨r, h1, h2, a1, a2, a3⟩ := O
  have c1 : zsel 10 [10, 105] = some 105 := rfl
  have c2 : zsel 11 [11, 199] = some 199 := rfl
  refine ⟨h2, ?_, a3⟩
  conv =>
    lhs
    simp only [zi0_647, zi0_647n, zi0_647f, zi0_648, zi0_648n, zi0_648f, zi0_649, zi0_650, zi0_651, zi0_652, zi0_653, zi0_656, zi0_656n, zi0_656f, zi0_657, zi0_657n, zi0_657f, zi0_658, zi0_659, zi0_660, zi0_661, zi0_662, zi0_665, zcl1, zlow_0, zlow_1, zlow_2, zlow_3, zlow_4, zfree_0, zfree_i, zfree_r, zfree_n, zfree_d, zfree_f, zfree_s, if_true, if_false, Option.bind_some, Option.toList_some, Option.toList_none, List.cons_append, List.nil_append, List.set_cons_zero, List.set_cons_succ, Bool.false_eq_true, reduceIte, zsw_c, zsw_n, Nat.reduceAdd, (lx_1 hE hi).1, (lx_1 hE hi).2, c0, c1, a1, m11_199 a2, c2, a2, eq_self]
theorem m11_201 {r : zR} {x1 : Int32} {x2 : Int32} (e : zcall zpp E 201 [.ref 73, .int x1, .int x2] h = some r) : zcls h 73 = some 11 := by
  cases hz : zstf [11] 0 h 73 0 (.int 0) with
  | some H => exact zstf_cls hz
  | none =>
    have q : zcall zpp E 201 [.ref 73, .int x1, .int x2] h = none := by
      simp only [ze201, zi201_0, zi201_0n, zi201_1, zi201_2, zcl1, zlow_0, zlow_1, zlow_2, zlow_3, zlow_4, zfree_0, zfree_i, zfree_r, zfree_n, zfree_d, zfree_f, zfree_s, if_true, if_false, Option.bind_some, Option.toList_some, Option.toList_none, List.cons_append, List.nil_append, List.set_cons_zero, List.set_cons_succ, Bool.false_eq_true, reduceIte, zsw_c, zsw_n, Nat.reduceAdd, hz, Option.bind_none]
    rw [q] at e
    cases e
theorem lc_soonest (hE : E.1 ≤ 384) (hi : i + 6 ≤ E.1) (c0 : zcls h 0 = some 10) (O : OK E h n 106 201 [.int (E.2 (i + 1)), .int (E.2 (i + 2))]) : LC E n i (zrun zpp E 0 (670, [.float 0, .ref 0, .ref 73, .int (nI i)], [], h)) := by
  obtain ⟨r, h1, h2, a1, a2, a3⟩ := O
  have c1 : zsel 10 [10, 106] = some 106 := rfl
  have c2 : zsel 11 [11, 201] = some 201 := rfl
  refine ⟨h2, ?_, a3⟩
  conv =>
    lhs
    simp only [zi0_670, zi0_670n, zi0_670f, zi0_671, zi0_671n, zi0_671f, zi0_672, zi0_673, zi0_674, zi0_675, zi0_676, zi0_676n, zi0_676f, zi0_677, zi0_678, zi0_679, zi0_680, zi0_681, zi0_684, zi0_684n, zi0_684f, zi0_685, zi0_685n, zi0_685f, zi0_686, zi0_687, zi0_688, zi0_689, zi0_690, zi0_690n, zi0_690f, zi0_691, zi0_692, zi0_693, zi0_694, zi0_695, zi0_698, zcl1, zlow_0, zlow_1, zlow_2, zlow_3, zlow_4, zfree_0, zfree_i, zfree_r, zfree_n, zfree_d, zfree_f, zfree_s, if_true, if_false, Option.bind_some, Option.toList_some, Option.toList_none, List.cons_append, List.nil_append, List.set_cons_zero, List.set_cons_succ, Bool.false_eq_true, reduceIte, zsw_c, zsw_n, Nat.reduceAdd, (lx_1 hE hi).1, (lx_1 hE hi).2, (lx_2 hE hi).1, (lx_2 hE hi).2, c0, c1, a1, m11_201 a2, c2, a2, eq_self]
theorem m11_202 {r : zR} {x1 : Int32} {x2 : Int32} (e : zcall zpp E 202 [.ref 73, .int x1, .int x2] h = some r) : zcls h 73 = some 11 := by
  cases hz : zstf [11] 0 h 73 0 (.int 0) with
  | some H => exact zstf_cls hz
  | none =>
    have q : zcall zpp E 202 [.ref 73, .int x1, .int x2] h = none := by
      simp only [ze202, zi202_0, zi202_0n, zi202_1, zi202_2, zcl1, zlow_0, zlow_1, zlow_2, zlow_3, zlow_4, zfree_0, zfree_i, zfree_r, zfree_n, zfree_d, zfree_f, zfree_s, if_true, if_false, Option.bind_some, Option.toList_some, Option.toList_none, List.cons_append, List.nil_append, List.set_cons_zero, List.set_cons_succ, Bool.false_eq_true, reduceIte, zsw_c, zsw_n, Nat.reduceAdd, hz, Option.bind_none]
    rw [q] at e
    cases e
theorem lc_gentlest (hE : E.1 ≤ 384) (hi : i + 6 ≤ E.1) (c0 : zcls h 0 = some 10) (O : OK E h n 107 202 [.int (E.2 (i + 1)), .int (E.2 (i + 2))]) : LC E n i (zrun zpp E 0 (703, [.float 0, .ref 0, .ref 73, .int (nI i)], [], h)) := by
  obtain ⟨r, h1, h2, a1, a2, a3⟩ := O
  have c1 : zsel 10 [10, 107] = some 107 := rfl
  have c2 : zsel 11 [11, 202] = some 202 := rfl
  refine ⟨h2, ?_, a3⟩
  conv =>
    lhs
    simp only [zi0_703, zi0_703n, zi0_703f, zi0_704, zi0_704n, zi0_704f, zi0_705, zi0_706, zi0_707, zi0_708, zi0_709, zi0_709n, zi0_709f, zi0_710, zi0_711, zi0_712, zi0_713, zi0_714, zi0_717, zi0_717n, zi0_717f, zi0_718, zi0_718n, zi0_718f, zi0_719, zi0_720, zi0_721, zi0_722, zi0_723, zi0_723n, zi0_723f, zi0_724, zi0_725, zi0_726, zi0_727, zi0_728, zi0_731, zcl1, zlow_0, zlow_1, zlow_2, zlow_3, zlow_4, zfree_0, zfree_i, zfree_r, zfree_n, zfree_d, zfree_f, zfree_s, if_true, if_false, Option.bind_some, Option.toList_some, Option.toList_none, List.cons_append, List.nil_append, List.set_cons_zero, List.set_cons_succ, Bool.false_eq_true, reduceIte, zsw_c, zsw_n, Nat.reduceAdd, (lx_1 hE hi).1, (lx_1 hE hi).2, (lx_2 hE hi).1, (lx_2 hE hi).2, c0, c1, a1, m11_202 a2, c2, a2, eq_self]
theorem m11_204 {r : zR} {x1 : Int32} (e : zcall zpp E 204 [.ref 73, .int x1] h = some r) : zcls h 73 = some 11 := by
  cases hz : zstf [11] 0 h 73 0 (.int 0) with
  | some H => exact zstf_cls hz
  | none =>
    have q : zcall zpp E 204 [.ref 73, .int x1] h = none := by
      simp only [ze204, zi204_0, zi204_0n, zi204_1, zi204_2, zcl1, zlow_0, zlow_1, zlow_2, zlow_3, zlow_4, zfree_0, zfree_i, zfree_r, zfree_n, zfree_d, zfree_f, zfree_s, if_true, if_false, Option.bind_some, Option.toList_some, Option.toList_none, List.cons_append, List.nil_append, List.set_cons_zero, List.set_cons_succ, Bool.false_eq_true, reduceIte, zsw_c, zsw_n, Nat.reduceAdd, hz, Option.bind_none]
    rw [q] at e
    cases e
theorem lc_never (hE : E.1 ≤ 384) (hi : i + 6 ≤ E.1) (c0 : zcls h 0 = some 10) (O : OK E h n 108 204 [.int (E.2 (i + 1))]) : LC E n i (zrun zpp E 0 (736, [.float 0, .ref 0, .ref 73, .int (nI i)], [], h)) := by
  obtain ⟨r, h1, h2, a1, a2, a3⟩ := O
  have c1 : zsel 10 [10, 108] = some 108 := rfl
  have c2 : zsel 11 [11, 204] = some 204 := rfl
  refine ⟨h2, ?_, a3⟩
  conv =>
    lhs
    simp only [zi0_736, zi0_736n, zi0_736f, zi0_737, zi0_737n, zi0_737f, zi0_738, zi0_739, zi0_740, zi0_741, zi0_742, zi0_745, zi0_745n, zi0_745f, zi0_746, zi0_746n, zi0_746f, zi0_747, zi0_748, zi0_749, zi0_750, zi0_751, zi0_754, zcl1, zlow_0, zlow_1, zlow_2, zlow_3, zlow_4, zfree_0, zfree_i, zfree_r, zfree_n, zfree_d, zfree_f, zfree_s, if_true, if_false, Option.bind_some, Option.toList_some, Option.toList_none, List.cons_append, List.nil_append, List.set_cons_zero, List.set_cons_succ, Bool.false_eq_true, reduceIte, zsw_c, zsw_n, Nat.reduceAdd, (lx_1 hE hi).1, (lx_1 hE hi).2, c0, c1, a1, m11_204 a2, c2, a2, eq_self]
theorem m11_205 {r : zR} {x1 : Int32} (e : zcall zpp E 205 [.ref 73, .int x1] h = some r) : zcls h 73 = some 11 := by
  cases hz : zstf [11] 0 h 73 0 (.int 0) with
  | some H => exact zstf_cls hz
  | none =>
    have q : zcall zpp E 205 [.ref 73, .int x1] h = none := by
      simp only [ze205, zi205_0, zi205_0n, zi205_1, zi205_2, zcl1, zlow_0, zlow_1, zlow_2, zlow_3, zlow_4, zfree_0, zfree_i, zfree_r, zfree_n, zfree_d, zfree_f, zfree_s, if_true, if_false, Option.bind_some, Option.toList_some, Option.toList_none, List.cons_append, List.nil_append, List.set_cons_zero, List.set_cons_succ, Bool.false_eq_true, reduceIte, zsw_c, zsw_n, Nat.reduceAdd, hz, Option.bind_none]
    rw [q] at e
    cases e
theorem lc_fetch (hE : E.1 ≤ 384) (hi : i + 6 ≤ E.1) (c0 : zcls h 0 = some 10) (O : OK E h n 109 205 [.int (E.2 (i + 1))]) : LC E n i (zrun zpp E 0 (759, [.float 0, .ref 0, .ref 73, .int (nI i)], [], h)) := by
  obtain ⟨r, h1, h2, a1, a2, a3⟩ := O
  have c1 : zsel 10 [10, 109] = some 109 := rfl
  have c2 : zsel 11 [11, 205] = some 205 := rfl
  refine ⟨h2, ?_, a3⟩
  conv =>
    lhs
    simp only [zi0_759, zi0_759n, zi0_759f, zi0_760, zi0_760n, zi0_760f, zi0_761, zi0_762, zi0_763, zi0_764, zi0_765, zi0_768, zi0_768n, zi0_768f, zi0_769, zi0_769n, zi0_769f, zi0_770, zi0_771, zi0_772, zi0_773, zi0_774, zi0_777, zcl1, zlow_0, zlow_1, zlow_2, zlow_3, zlow_4, zfree_0, zfree_i, zfree_r, zfree_n, zfree_d, zfree_f, zfree_s, if_true, if_false, Option.bind_some, Option.toList_some, Option.toList_none, List.cons_append, List.nil_append, List.set_cons_zero, List.set_cons_succ, Bool.false_eq_true, reduceIte, zsw_c, zsw_n, Nat.reduceAdd, (lx_1 hE hi).1, (lx_1 hE hi).2, c0, c1, a1, m11_205 a2, c2, a2, eq_self]
theorem m11_206 {r : zR} {x1 : Int32} (e : zcall zpp E 206 [.ref 73, .int x1] h = some r) : zcls h 73 = some 11 := by
  cases hz : zstf [11] 0 h 73 0 (.int 0) with
  | some H => exact zstf_cls hz
  | none =>
    have q : zcall zpp E 206 [.ref 73, .int x1] h = none := by
      simp only [ze206, zi206_0, zi206_0n, zi206_1, zi206_2, zcl1, zlow_0, zlow_1, zlow_2, zlow_3, zlow_4, zfree_0, zfree_i, zfree_r, zfree_n, zfree_d, zfree_f, zfree_s, if_true, if_false, Option.bind_some, Option.toList_some, Option.toList_none, List.cons_append, List.nil_append, List.set_cons_zero, List.set_cons_succ, Bool.false_eq_true, reduceIte, zsw_c, zsw_n, Nat.reduceAdd, hz, Option.bind_none]
    rw [q] at e
    cases e
theorem lc_layer (hE : E.1 ≤ 384) (hi : i + 6 ≤ E.1) (c0 : zcls h 0 = some 10) (O : OK E h n 110 206 [.int (E.2 (i + 1))]) : LC E n i (zrun zpp E 0 (782, [.float 0, .ref 0, .ref 73, .int (nI i)], [], h)) := by
  obtain ⟨r, h1, h2, a1, a2, a3⟩ := O
  have c1 : zsel 10 [10, 110] = some 110 := rfl
  have c2 : zsel 11 [11, 206] = some 206 := rfl
  refine ⟨h2, ?_, a3⟩
  conv =>
    lhs
    simp only [zi0_782, zi0_782n, zi0_782f, zi0_783, zi0_783n, zi0_783f, zi0_784, zi0_785, zi0_786, zi0_787, zi0_788, zi0_791, zi0_791n, zi0_791f, zi0_792, zi0_792n, zi0_792f, zi0_793, zi0_794, zi0_795, zi0_796, zi0_797, zi0_800, zcl1, zlow_0, zlow_1, zlow_2, zlow_3, zlow_4, zfree_0, zfree_i, zfree_r, zfree_n, zfree_d, zfree_f, zfree_s, if_true, if_false, Option.bind_some, Option.toList_some, Option.toList_none, List.cons_append, List.nil_append, List.set_cons_zero, List.set_cons_succ, Bool.false_eq_true, reduceIte, zsw_c, zsw_n, Nat.reduceAdd, (lx_1 hE hi).1, (lx_1 hE hi).2, c0, c1, a1, m11_206 a2, c2, a2, eq_self]
theorem m11_208 {r : zR} {x1 : Int32} {x2 : Int32} (e : zcall zpp E 208 [.ref 73, .int x1, .int x2] h = some r) : zcls h 73 = some 11 := by
  cases hz : zstf [11] 0 h 73 0 (.int 0) with
  | some H => exact zstf_cls hz
  | none =>
    have q : zcall zpp E 208 [.ref 73, .int x1, .int x2] h = none := by
      simp only [ze208, zi208_0, zi208_0n, zi208_1, zi208_2, zcl1, zlow_0, zlow_1, zlow_2, zlow_3, zlow_4, zfree_0, zfree_i, zfree_r, zfree_n, zfree_d, zfree_f, zfree_s, if_true, if_false, Option.bind_some, Option.toList_some, Option.toList_none, List.cons_append, List.nil_append, List.set_cons_zero, List.set_cons_succ, Bool.false_eq_true, reduceIte, zsw_c, zsw_n, Nat.reduceAdd, hz, Option.bind_none]
    rw [q] at e
    cases e
theorem lc_fell (hE : E.1 ≤ 384) (hi : i + 6 ≤ E.1) (c0 : zcls h 0 = some 10) (O : OK E h n 111 208 [.int (E.2 (i + 1)), .int (E.2 (i + 2))]) : LC E n i (zrun zpp E 0 (805, [.float 0, .ref 0, .ref 73, .int (nI i)], [], h)) := by
  obtain ⟨r, h1, h2, a1, a2, a3⟩ := O
  have c1 : zsel 10 [10, 111] = some 111 := rfl
  have c2 : zsel 11 [11, 208] = some 208 := rfl
  refine ⟨h2, ?_, a3⟩
  conv =>
    lhs
    simp only [zi0_805, zi0_805n, zi0_805f, zi0_806, zi0_806n, zi0_806f, zi0_807, zi0_808, zi0_809, zi0_810, zi0_811, zi0_811n, zi0_811f, zi0_812, zi0_813, zi0_814, zi0_815, zi0_816, zi0_819, zi0_819n, zi0_819f, zi0_820, zi0_820n, zi0_820f, zi0_821, zi0_822, zi0_823, zi0_824, zi0_825, zi0_825n, zi0_825f, zi0_826, zi0_827, zi0_828, zi0_829, zi0_830, zi0_833, zcl1, zlow_0, zlow_1, zlow_2, zlow_3, zlow_4, zfree_0, zfree_i, zfree_r, zfree_n, zfree_d, zfree_f, zfree_s, if_true, if_false, Option.bind_some, Option.toList_some, Option.toList_none, List.cons_append, List.nil_append, List.set_cons_zero, List.set_cons_succ, Bool.false_eq_true, reduceIte, zsw_c, zsw_n, Nat.reduceAdd, (lx_1 hE hi).1, (lx_1 hE hi).2, (lx_2 hE hi).1, (lx_2 hE hi).2, c0, c1, a1, m11_208 a2, c2, a2, eq_self]
theorem m11_209 {r : zR} {x1 : Int32} {x2 : Int32} (e : zcall zpp E 209 [.ref 73, .int x1, .int x2] h = some r) : zcls h 73 = some 11 := by
  cases hz : zstf [11] 0 h 73 0 (.int 0) with
  | some H => exact zstf_cls hz
  | none =>
    have q : zcall zpp E 209 [.ref 73, .int x1, .int x2] h = none := by
      simp only [ze209, zi209_0, zi209_0n, zi209_1, zi209_2, zcl1, zlow_0, zlow_1, zlow_2, zlow_3, zlow_4, zfree_0, zfree_i, zfree_r, zfree_n, zfree_d, zfree_f, zfree_s, if_true, if_false, Option.bind_some, Option.toList_some, Option.toList_none, List.cons_append, List.nil_append, List.set_cons_zero, List.set_cons_succ, Bool.false_eq_true, reduceIte, zsw_c, zsw_n, Nat.reduceAdd, hz, Option.bind_none]
    rw [q] at e
    cases e
theorem lc_first (hE : E.1 ≤ 384) (hi : i + 6 ≤ E.1) (c0 : zcls h 0 = some 10) (O : OK E h n 112 209 [.int (E.2 (i + 1)), .int (E.2 (i + 2))]) : LC E n i (zrun zpp E 0 (838, [.float 0, .ref 0, .ref 73, .int (nI i)], [], h)) := by
  obtain ⟨r, h1, h2, a1, a2, a3⟩ := O
  have c1 : zsel 10 [10, 112] = some 112 := rfl
  have c2 : zsel 11 [11, 209] = some 209 := rfl
  refine ⟨h2, ?_, a3⟩
  conv =>
    lhs
    simp only [zi0_838, zi0_838n, zi0_838f, zi0_839, zi0_839n, zi0_839f, zi0_840, zi0_841, zi0_842, zi0_843, zi0_844, zi0_844n, zi0_844f, zi0_845, zi0_846, zi0_847, zi0_848, zi0_849, zi0_852, zi0_852n, zi0_852f, zi0_853, zi0_853n, zi0_853f, zi0_854, zi0_855, zi0_856, zi0_857, zi0_858, zi0_858n, zi0_858f, zi0_859, zi0_860, zi0_861, zi0_862, zi0_863, zi0_866, zcl1, zlow_0, zlow_1, zlow_2, zlow_3, zlow_4, zfree_0, zfree_i, zfree_r, zfree_n, zfree_d, zfree_f, zfree_s, if_true, if_false, Option.bind_some, Option.toList_some, Option.toList_none, List.cons_append, List.nil_append, List.set_cons_zero, List.set_cons_succ, Bool.false_eq_true, reduceIte, zsw_c, zsw_n, Nat.reduceAdd, (lx_1 hE hi).1, (lx_1 hE hi).2, (lx_2 hE hi).1, (lx_2 hE hi).2, c0, c1, a1, m11_209 a2, c2, a2, eq_self]
theorem m11_211 {r : zR} {x1 : Int32} {x2 : Int32} (e : zcall zpp E 211 [.ref 73, .int x1, .int x2] h = some r) : zcls h 73 = some 11 := by
  cases hz : zstf [11] 0 h 73 0 (.int 0) with
  | some H => exact zstf_cls hz
  | none =>
    have q : zcall zpp E 211 [.ref 73, .int x1, .int x2] h = none := by
      simp only [ze211, zi211_0, zi211_0n, zi211_1, zi211_2, zcl1, zlow_0, zlow_1, zlow_2, zlow_3, zlow_4, zfree_0, zfree_i, zfree_r, zfree_n, zfree_d, zfree_f, zfree_s, if_true, if_false, Option.bind_some, Option.toList_some, Option.toList_none, List.cons_append, List.nil_append, List.set_cons_zero, List.set_cons_succ, Bool.false_eq_true, reduceIte, zsw_c, zsw_n, Nat.reduceAdd, hz, Option.bind_none]
    rw [q] at e
    cases e
theorem lc_widen (hE : E.1 ≤ 384) (hi : i + 6 ≤ E.1) (c0 : zcls h 0 = some 10) (O : OK E h n 113 211 [.int (E.2 (i + 1)), .int (E.2 (i + 2))]) : LC E n i (zrun zpp E 0 (871, [.float 0, .ref 0, .ref 73, .int (nI i)], [], h)) := by
  obtain ⟨r, h1, h2, a1, a2, a3⟩ := O
  have c1 : zsel 10 [10, 113] = some 113 := rfl
  have c2 : zsel 11 [11, 211] = some 211 := rfl
  refine ⟨h2, ?_, a3⟩
  conv =>
    lhs
    simp only [zi0_871, zi0_871n, zi0_871f, zi0_872, zi0_872n, zi0_872f, zi0_873, zi0_874, zi0_875, zi0_876, zi0_877, zi0_877n, zi0_877f, zi0_878, zi0_879, zi0_880, zi0_881, zi0_882, zi0_885, zi0_885n, zi0_885f, zi0_886, zi0_886n, zi0_886f, zi0_887, zi0_888, zi0_889, zi0_890, zi0_891, zi0_891n, zi0_891f, zi0_892, zi0_893, zi0_894, zi0_895, zi0_896, zi0_899, zcl1, zlow_0, zlow_1, zlow_2, zlow_3, zlow_4, zfree_0, zfree_i, zfree_r, zfree_n, zfree_d, zfree_f, zfree_s, if_true, if_false, Option.bind_some, Option.toList_some, Option.toList_none, List.cons_append, List.nil_append, List.set_cons_zero, List.set_cons_succ, Bool.false_eq_true, reduceIte, zsw_c, zsw_n, Nat.reduceAdd, (lx_1 hE hi).1, (lx_1 hE hi).2, (lx_2 hE hi).1, (lx_2 hE hi).2, c0, c1, a1, m11_211 a2, c2, a2, eq_self]
end LCS
