/-! THE LAW: its calls, one by one (printed by gen/cases.py) -/
section LCS
variable {E : zE} {h : zH} {n i : Nat}
theorem m11_212 {r : zR} {x1 : Int32} {x2 : Int32} {x3 : Int32} {x4 : Int32} (e : zcall zpp E 212 [.ref 73, .int x1, .int x2, .int x3, .int x4] h = some r) : zcls h 73 = some 11 := by
  cases hz : zstf [11] 0 h 73 0 (.int 0) with
  | some H => exact zstf_cls hz
  | none =>
    have q : zcall zpp E 212 [.ref 73, .int x1, .int x2, .int x3, .int x4] h = none := by
      simp only [ze212, zi212_0, zi212_0n, zi212_1, zi212_2, zcl1, zlow_0, zlow_1, zlow_2, zlow_3, zlow_4, zfree_0, zfree_i, zfree_r, zfree_n, zfree_d, zfree_f, zfree_s, if_true, if_false, Option.bind_some, Option.toList_some, Option.toList_none, List.cons_append, List.nil_append, List.set_cons_zero, List.set_cons_succ, Bool.false_eq_true, reduceIte, zsw_c, zsw_n, Nat.reduceAdd, hz, Option.bind_none]
    rw [q] at e
    cases e
theorem lc_plan (hE : E.1 ≤ 384) (hi : i + 6 ≤ E.1) (c0 : zcls h 0 = some 10) (O : OK E h n 114 212 [.int (E.2 (i + 1)), .int (E.2 (i + 2)), .int (E.2 (i + 3)), .int (E.2 (i + 4))]) : LC E n i (zrun zpp E 0 (904, [.float 0, .ref 0, .ref 73, .int (nI i)], [], h)) := by
  obtain ⟨r, h1, h2, a1, a2, a3⟩ := O
  have c1 : zsel 10 [10, 114] = some 114 := rfl
  have c2 : zsel 11 [11, 212] = some 212 := rfl
  refine ⟨h2, ?_, a3⟩
  conv =>
    lhs
    simp only [zi0_904, zi0_904n, zi0_904f, zi0_905, zi0_905n, zi0_905f, zi0_906, zi0_907, zi0_908, zi0_909, zi0_910, zi0_910n, zi0_910f, zi0_911, zi0_912, zi0_913, zi0_914, zi0_915, zi0_915n, zi0_915f, zi0_916, zi0_917, zi0_918, zi0_919, zi0_920, zi0_920n, zi0_920f, zi0_921, zi0_922, zi0_923, zi0_924, zi0_925, zi0_928, zi0_928n, zi0_928f, zi0_929, zi0_929n, zi0_929f, zi0_930, zi0_931, zi0_932, zi0_933, zi0_934, zi0_934n, zi0_934f, zi0_935, zi0_936, zi0_937, zi0_938, zi0_939, zi0_939n, zi0_939f, zi0_940, zi0_941, zi0_942, zi0_943, zi0_944, zi0_944n, zi0_944f, zi0_945, zi0_946, zi0_947, zi0_948, zi0_949, zi0_952, zcl1, zlow_0, zlow_1, zlow_2, zlow_3, zlow_4, zfree_0, zfree_i, zfree_r, zfree_n, zfree_d, zfree_f, zfree_s, if_true, if_false, Option.bind_some, Option.toList_some, Option.toList_none, List.cons_append, List.nil_append, List.set_cons_zero, List.set_cons_succ, Bool.false_eq_true, reduceIte, zsw_c, zsw_n, Nat.reduceAdd, (lx_1 hE hi).1, (lx_1 hE hi).2, (lx_2 hE hi).1, (lx_2 hE hi).2, (lx_3 hE hi).1, (lx_3 hE hi).2, (lx_4 hE hi).1, (lx_4 hE hi).2, c0, c1, a1, m11_212 a2, c2, a2, eq_self]
theorem m11_213 {r : zR} {x1 : Int32} {x2 : Int32} {x3 : Int32} {x4 : Int32} (e : zcall zpp E 213 [.ref 73, .int x1, .int x2, .int x3, .int x4] h = some r) : zcls h 73 = some 11 := by
  cases hz : zstf [11] 0 h 73 0 (.int 0) with
  | some H => exact zstf_cls hz
  | none =>
    have q : zcall zpp E 213 [.ref 73, .int x1, .int x2, .int x3, .int x4] h = none := by
      simp only [ze213, zi213_0, zi213_0n, zi213_1, zi213_2, zcl1, zlow_0, zlow_1, zlow_2, zlow_3, zlow_4, zfree_0, zfree_i, zfree_r, zfree_n, zfree_d, zfree_f, zfree_s, if_true, if_false, Option.bind_some, Option.toList_some, Option.toList_none, List.cons_append, List.nil_append, List.set_cons_zero, List.set_cons_succ, Bool.false_eq_true, reduceIte, zsw_c, zsw_n, Nat.reduceAdd, hz, Option.bind_none]
    rw [q] at e
    cases e
theorem lc_who (hE : E.1 ≤ 384) (hi : i + 6 ≤ E.1) (c0 : zcls h 0 = some 10) (O : OK E h n 115 213 [.int (E.2 (i + 1)), .int (E.2 (i + 2)), .int (E.2 (i + 3)), .int (E.2 (i + 4))]) : LC E n i (zrun zpp E 0 (957, [.float 0, .ref 0, .ref 73, .int (nI i)], [], h)) := by
  obtain ⟨r, h1, h2, a1, a2, a3⟩ := O
  have c1 : zsel 10 [10, 115] = some 115 := rfl
  have c2 : zsel 11 [11, 213] = some 213 := rfl
  refine ⟨h2, ?_, a3⟩
  conv =>
    lhs
    simp only [zi0_957, zi0_957n, zi0_957f, zi0_958, zi0_958n, zi0_958f, zi0_959, zi0_960, zi0_961, zi0_962, zi0_963, zi0_963n, zi0_963f, zi0_964, zi0_965, zi0_966, zi0_967, zi0_968, zi0_968n, zi0_968f, zi0_969, zi0_970, zi0_971, zi0_972, zi0_973, zi0_973n, zi0_973f, zi0_974, zi0_975, zi0_976, zi0_977, zi0_978, zi0_981, zi0_981n, zi0_981f, zi0_982, zi0_982n, zi0_982f, zi0_983, zi0_984, zi0_985, zi0_986, zi0_987, zi0_987n, zi0_987f, zi0_988, zi0_989, zi0_990, zi0_991, zi0_992, zi0_992n, zi0_992f, zi0_993, zi0_994, zi0_995, zi0_996, zi0_997, zi0_997n, zi0_997f, zi0_998, zi0_999, zi0_1000, zi0_1001, zi0_1002, zi0_1005, zcl1, zlow_0, zlow_1, zlow_2, zlow_3, zlow_4, zfree_0, zfree_i, zfree_r, zfree_n, zfree_d, zfree_f, zfree_s, if_true, if_false, Option.bind_some, Option.toList_some, Option.toList_none, List.cons_append, List.nil_append, List.set_cons_zero, List.set_cons_succ, Bool.false_eq_true, reduceIte, zsw_c, zsw_n, Nat.reduceAdd, (lx_1 hE hi).1, (lx_1 hE hi).2, (lx_2 hE hi).1, (lx_2 hE hi).2, (lx_3 hE hi).1, (lx_3 hE hi).2, (lx_4 hE hi).1, (lx_4 hE hi).2, c0, c1, a1, m11_213 a2, c2, a2, eq_self]
theorem m11_214 {r : zR} {x1 : Int32} {x2 : Int32} {x3 : Int32} {x4 : Int32} (e : zcall zpp E 214 [.ref 73, .int x1, .int x2, .int x3, .int x4] h = some r) : zcls h 73 = some 11 := by
  cases hz : zstf [11] 0 h 73 0 (.int 0) with
  | some H => exact zstf_cls hz
  | none =>
    have q : zcall zpp E 214 [.ref 73, .int x1, .int x2, .int x3, .int x4] h = none := by
      simp only [ze214, zi214_0, zi214_0n, zi214_1, zi214_2, zcl1, zlow_0, zlow_1, zlow_2, zlow_3, zlow_4, zfree_0, zfree_i, zfree_r, zfree_n, zfree_d, zfree_f, zfree_s, if_true, if_false, Option.bind_some, Option.toList_some, Option.toList_none, List.cons_append, List.nil_append, List.set_cons_zero, List.set_cons_succ, Bool.false_eq_true, reduceIte, zsw_c, zsw_n, Nat.reduceAdd, hz, Option.bind_none]
    rw [q] at e
    cases e
theorem lc_seen (hE : E.1 ≤ 384) (hi : i + 6 ≤ E.1) (c0 : zcls h 0 = some 10) (O : OKL E h n 116 214 [.int (E.2 (i + 1)), .int (E.2 (i + 2)), .int (E.2 (i + 3)), .int (E.2 (i + 4))]) : LC E n i (zrun zpp E 0 (1010, [.float 0, .ref 0, .ref 73, .int (nI i)], [], h)) := by
  obtain ⟨r, h1, h2, a1, a2, a3⟩ := O
  have c1 : zsel 10 [10, 116] = some 116 := rfl
  have c2 : zsel 11 [11, 214] = some 214 := rfl
  refine ⟨h2, ?_, a3⟩
  conv =>
    lhs
    simp only [zi0_1010, zi0_1010n, zi0_1010f, zi0_1011, zi0_1011n, zi0_1011f, zi0_1012, zi0_1013, zi0_1014, zi0_1015, zi0_1016, zi0_1016n, zi0_1016f, zi0_1017, zi0_1018, zi0_1019, zi0_1020, zi0_1021, zi0_1021n, zi0_1021f, zi0_1022, zi0_1023, zi0_1024, zi0_1025, zi0_1026, zi0_1026n, zi0_1026f, zi0_1027, zi0_1028, zi0_1029, zi0_1030, zi0_1031, zi0_1034, zi0_1034n, zi0_1034f, zi0_1035, zi0_1035n, zi0_1035f, zi0_1036, zi0_1037, zi0_1038, zi0_1039, zi0_1040, zi0_1040n, zi0_1040f, zi0_1041, zi0_1042, zi0_1043, zi0_1044, zi0_1045, zi0_1045n, zi0_1045f, zi0_1046, zi0_1047, zi0_1048, zi0_1049, zi0_1050, zi0_1050n, zi0_1050f, zi0_1051, zi0_1052, zi0_1053, zi0_1054, zi0_1055, zi0_1058, zi0_1059, zcl1, zlow_0, zlow_1, zlow_2, zlow_3, zlow_4, zfree_0, zfree_i, zfree_r, zfree_n, zfree_d, zfree_f, zfree_s, if_true, if_false, Option.bind_some, Option.toList_some, Option.toList_none, List.cons_append, List.nil_append, List.set_cons_zero, List.set_cons_succ, Bool.false_eq_true, reduceIte, zsw_c, zsw_n, Nat.reduceAdd, (lx_1 hE hi).1, (lx_1 hE hi).2, (lx_2 hE hi).1, (lx_2 hE hi).2, (lx_3 hE hi).1, (lx_3 hE hi).2, (lx_4 hE hi).1, (lx_4 hE hi).2, c0, c1, a1, m11_214 a2, c2, a2, lcmp_s, eq_self]
theorem m11_215 {r : zR} {x1 : Int32} {x2 : Int32} {x3 : Int32} (e : zcall zpp E 215 [.ref 73, .int x1, .int x2, .int x3] h = some r) : zcls h 73 = some 11 := by
  cases hz : zstf [11] 0 h 73 0 (.int 0) with
  | some H => exact zstf_cls hz
  | none =>
    have q : zcall zpp E 215 [.ref 73, .int x1, .int x2, .int x3] h = none := by
      simp only [ze215, zi215_0, zi215_0n, zi215_1, zi215_2, zcl1, zlow_0, zlow_1, zlow_2, zlow_3, zlow_4, zfree_0, zfree_i, zfree_r, zfree_n, zfree_d, zfree_f, zfree_s, if_true, if_false, Option.bind_some, Option.toList_some, Option.toList_none, List.cons_append, List.nil_append, List.set_cons_zero, List.set_cons_succ, Bool.false_eq_true, reduceIte, zsw_c, zsw_n, Nat.reduceAdd, hz, Option.bind_none]
    rw [q] at e
    cases e
theorem lc_drawn (hE : E.1 ≤ 384) (hi : i + 6 ≤ E.1) (c0 : zcls h 0 = some 10) (O : OK E h n 117 215 [.int (E.2 (i + 1)), .int (E.2 (i + 2)), .int (E.2 (i + 3))]) : LC E n i (zrun zpp E 0 (1064, [.float 0, .ref 0, .ref 73, .int (nI i)], [], h)) := by
  obtain ⟨r, h1, h2, a1, a2, a3⟩ := O
  have c1 : zsel 10 [10, 117] = some 117 := rfl
  have c2 : zsel 11 [11, 215] = some 215 := rfl
  refine ⟨h2, ?_, a3⟩
  conv =>
    lhs
    simp only [zi0_1064, zi0_1064n, zi0_1064f, zi0_1065, zi0_1065n, zi0_1065f, zi0_1066, zi0_1067, zi0_1068, zi0_1069, zi0_1070, zi0_1070n, zi0_1070f, zi0_1071, zi0_1072, zi0_1073, zi0_1074, zi0_1075, zi0_1075n, zi0_1075f, zi0_1076, zi0_1077, zi0_1078, zi0_1079, zi0_1080, zi0_1083, zi0_1083n, zi0_1083f, zi0_1084, zi0_1084n, zi0_1084f, zi0_1085, zi0_1086, zi0_1087, zi0_1088, zi0_1089, zi0_1089n, zi0_1089f, zi0_1090, zi0_1091, zi0_1092, zi0_1093, zi0_1094, zi0_1094n, zi0_1094f, zi0_1095, zi0_1096, zi0_1097, zi0_1098, zi0_1099, zi0_1102, zcl1, zlow_0, zlow_1, zlow_2, zlow_3, zlow_4, zfree_0, zfree_i, zfree_r, zfree_n, zfree_d, zfree_f, zfree_s, if_true, if_false, Option.bind_some, Option.toList_some, Option.toList_none, List.cons_append, List.nil_append, List.set_cons_zero, List.set_cons_succ, Bool.false_eq_true, reduceIte, zsw_c, zsw_n, Nat.reduceAdd, (lx_1 hE hi).1, (lx_1 hE hi).2, (lx_2 hE hi).1, (lx_2 hE hi).2, (lx_3 hE hi).1, (lx_3 hE hi).2, c0, c1, a1, m11_215 a2, c2, a2, eq_self]
theorem m11_216 {r : zR} {x1 : Int32} (e : zcall zpp E 216 [.ref 73, .int x1] h = some r) : zcls h 73 = some 11 := by
  cases hz : zstf [11] 0 h 73 0 (.int 0) with
  | some H => exact zstf_cls hz
  | none =>
    have q : zcall zpp E 216 [.ref 73, .int x1] h = none := by
      simp only [ze216, zi216_0, zi216_0n, zi216_1, zi216_2, zcl1, zlow_0, zlow_1, zlow_2, zlow_3, zlow_4, zfree_0, zfree_i, zfree_r, zfree_n, zfree_d, zfree_f, zfree_s, if_true, if_false, Option.bind_some, Option.toList_some, Option.toList_none, List.cons_append, List.nil_append, List.set_cons_zero, List.set_cons_succ, Bool.false_eq_true, reduceIte, zsw_c, zsw_n, Nat.reduceAdd, hz, Option.bind_none]
    rw [q] at e
    cases e
theorem lc_image (hE : E.1 ≤ 384) (hi : i + 6 ≤ E.1) (c0 : zcls h 0 = some 10) (O : OK E h n 118 216 [.int (E.2 (i + 1))]) : LC E n i (zrun zpp E 0 (1107, [.float 0, .ref 0, .ref 73, .int (nI i)], [], h)) := by
  obtain ⟨r, h1, h2, a1, a2, a3⟩ := O
  have c1 : zsel 10 [10, 118] = some 118 := rfl
  have c2 : zsel 11 [11, 216] = some 216 := rfl
  refine ⟨h2, ?_, a3⟩
  conv =>
    lhs
    simp only [zi0_1107, zi0_1107n, zi0_1107f, zi0_1108, zi0_1108n, zi0_1108f, zi0_1109, zi0_1110, zi0_1111, zi0_1112, zi0_1113, zi0_1116, zi0_1116n, zi0_1116f, zi0_1117, zi0_1117n, zi0_1117f, zi0_1118, zi0_1119, zi0_1120, zi0_1121, zi0_1122, zi0_1125, zcl1, zlow_0, zlow_1, zlow_2, zlow_3, zlow_4, zfree_0, zfree_i, zfree_r, zfree_n, zfree_d, zfree_f, zfree_s, if_true, if_false, Option.bind_some, Option.toList_some, Option.toList_none, List.cons_append, List.nil_append, List.set_cons_zero, List.set_cons_succ, Bool.false_eq_true, reduceIte, zsw_c, zsw_n, Nat.reduceAdd, (lx_1 hE hi).1, (lx_1 hE hi).2, c0, c1, a1, m11_216 a2, c2, a2, eq_self]
theorem m11_217 {r : zR} {x1 : Int32} (e : zcall zpp E 217 [.ref 73, .int x1] h = some r) : zcls h 73 = some 11 := by
  cases hz : zstf [11] 0 h 73 0 (.int 0) with
  | some H => exact zstf_cls hz
  | none =>
    have q : zcall zpp E 217 [.ref 73, .int x1] h = none := by
      simp only [ze217, zi217_0, zi217_0n, zi217_1, zi217_2, zcl1, zlow_0, zlow_1, zlow_2, zlow_3, zlow_4, zfree_0, zfree_i, zfree_r, zfree_n, zfree_d, zfree_f, zfree_s, if_true, if_false, Option.bind_some, Option.toList_some, Option.toList_none, List.cons_append, List.nil_append, List.set_cons_zero, List.set_cons_succ, Bool.false_eq_true, reduceIte, zsw_c, zsw_n, Nat.reduceAdd, hz, Option.bind_none]
    rw [q] at e
    cases e
theorem lc_restore (hE : E.1 ≤ 384) (hi : i + 6 ≤ E.1) (c0 : zcls h 0 = some 10) (O : OK E h n 119 217 [.int (E.2 (i + 1))]) : LC E n i (zrun zpp E 0 (1130, [.float 0, .ref 0, .ref 73, .int (nI i)], [], h)) := by
  obtain ⟨r, h1, h2, a1, a2, a3⟩ := O
  have c1 : zsel 10 [10, 119] = some 119 := rfl
  have c2 : zsel 11 [11, 217] = some 217 := rfl
  refine ⟨h2, ?_, a3⟩
  conv =>
    lhs
    simp only [zi0_1130, zi0_1130n, zi0_1130f, zi0_1131, zi0_1131n, zi0_1131f, zi0_1132, zi0_1133, zi0_1134, zi0_1135, zi0_1136, zi0_1139, zi0_1139n, zi0_1139f, zi0_1140, zi0_1140n, zi0_1140f, zi0_1141, zi0_1142, zi0_1143, zi0_1144, zi0_1145, zi0_1148, zcl1, zlow_0, zlow_1, zlow_2, zlow_3, zlow_4, zfree_0, zfree_i, zfree_r, zfree_n, zfree_d, zfree_f, zfree_s, if_true, if_false, Option.bind_some, Option.toList_some, Option.toList_none, List.cons_append, List.nil_append, List.set_cons_zero, List.set_cons_succ, Bool.false_eq_true, reduceIte, zsw_c, zsw_n, Nat.reduceAdd, (lx_1 hE hi).1, (lx_1 hE hi).2, c0, c1, a1, m11_217 a2, c2, a2, eq_self]
theorem m11_219 {r : zR} {x1 : Int32} (e : zcall zpp E 219 [.ref 73, .int x1] h = some r) : zcls h 73 = some 11 := by
  cases hz : zstf [11] 0 h 73 0 (.int 0) with
  | some H => exact zstf_cls hz
  | none =>
    have q : zcall zpp E 219 [.ref 73, .int x1] h = none := by
      simp only [ze219, zi219_0, zi219_0n, zi219_1, zi219_2, zcl1, zlow_0, zlow_1, zlow_2, zlow_3, zlow_4, zfree_0, zfree_i, zfree_r, zfree_n, zfree_d, zfree_f, zfree_s, if_true, if_false, Option.bind_some, Option.toList_some, Option.toList_none, List.cons_append, List.nil_append, List.set_cons_zero, List.set_cons_succ, Bool.false_eq_true, reduceIte, zsw_c, zsw_n, Nat.reduceAdd, hz, Option.bind_none]
    rw [q] at e
    cases e
theorem lc_kind (hE : E.1 ≤ 384) (hi : i + 6 ≤ E.1) (c0 : zcls h 0 = some 10) (O : OK E h n 120 219 [.int (E.2 (i + 1))]) : LC E n i (zrun zpp E 0 (1153, [.float 0, .ref 0, .ref 73, .int (nI i)], [], h)) := by
  obtain ⟨r, h1, h2, a1, a2, a3⟩ := O
  have c1 : zsel 10 [10, 120] = some 120 := rfl
  have c2 : zsel 11 [11, 219] = some 219 := rfl
  refine ⟨h2, ?_, a3⟩
  conv =>
    lhs
    simp only [zi0_1153, zi0_1153n, zi0_1153f, zi0_1154, zi0_1154n, zi0_1154f, zi0_1155, zi0_1156, zi0_1157, zi0_1158, zi0_1159, zi0_1162, zi0_1162n, zi0_1162f, zi0_1163, zi0_1163n, zi0_1163f, zi0_1164, zi0_1165, zi0_1166, zi0_1167, zi0_1168, zi0_1171, zcl1, zlow_0, zlow_1, zlow_2, zlow_3, zlow_4, zfree_0, zfree_i, zfree_r, zfree_n, zfree_d, zfree_f, zfree_s, if_true, if_false, Option.bind_some, Option.toList_some, Option.toList_none, List.cons_append, List.nil_append, List.set_cons_zero, List.set_cons_succ, Bool.false_eq_true, reduceIte, zsw_c, zsw_n, Nat.reduceAdd, (lx_1 hE hi).1, (lx_1 hE hi).2, c0, c1, a1, m11_219 a2, c2, a2, eq_self]
theorem m11_220 {r : zR} {x1 : Int32} {x2 : Int32} (e : zcall zpp E 220 [.ref 73, .int x1, .int x2] h = some r) : zcls h 73 = some 11 := by
  cases hz : zstf [11] 0 h 73 0 (.int 0) with
  | some H => exact zstf_cls hz
  | none =>
    have q : zcall zpp E 220 [.ref 73, .int x1, .int x2] h = none := by
      simp only [ze220, zi220_0, zi220_0n, zi220_1, zi220_2, zcl1, zlow_0, zlow_1, zlow_2, zlow_3, zlow_4, zfree_0, zfree_i, zfree_r, zfree_n, zfree_d, zfree_f, zfree_s, if_true, if_false, Option.bind_some, Option.toList_some, Option.toList_none, List.cons_append, List.nil_append, List.set_cons_zero, List.set_cons_succ, Bool.false_eq_true, reduceIte, zsw_c, zsw_n, Nat.reduceAdd, hz, Option.bind_none]
    rw [q] at e
    cases e
theorem lc_as (hE : E.1 ≤ 384) (hi : i + 6 ≤ E.1) (c0 : zcls h 0 = some 10) (O : OK E h n 121 220 [.int (E.2 (i + 1)), .int (E.2 (i + 2))]) : LC E n i (zrun zpp E 0 (1176, [.float 0, .ref 0, .ref 73, .int (nI i)], [], h)) := by
  obtain ⟨r, h1, h2, a1, a2, a3⟩ := O
  have c1 : zsel 10 [10, 121] = some 121 := rfl
  have c2 : zsel 11 [11, 220] = some 220 := rfl
  refine ⟨h2, ?_, a3⟩
  conv =>
    lhs
    simp only [zi0_1176, zi0_1176n, zi0_1176f, zi0_1177, zi0_1177n, zi0_1177f, zi0_1178, zi0_1179, zi0_1180, zi0_1181, zi0_1182, zi0_1182n, zi0_1182f, zi0_1183, zi0_1184, zi0_1185, zi0_1186, zi0_1187, zi0_1190, zi0_1190n, zi0_1190f, zi0_1191, zi0_1191n, zi0_1191f, zi0_1192, zi0_1193, zi0_1194, zi0_1195, zi0_1196, zi0_1196n, zi0_1196f, zi0_1197, zi0_1198, zi0_1199, zi0_1200, zi0_1201, zi0_1204, zcl1, zlow_0, zlow_1, zlow_2, zlow_3, zlow_4, zfree_0, zfree_i, zfree_r, zfree_n, zfree_d, zfree_f, zfree_s, if_true, if_false, Option.bind_some, Option.toList_some, Option.toList_none, List.cons_append, List.nil_append, List.set_cons_zero, List.set_cons_succ, Bool.false_eq_true, reduceIte, zsw_c, zsw_n, Nat.reduceAdd, (lx_1 hE hi).1, (lx_1 hE hi).2, (lx_2 hE hi).1, (lx_2 hE hi).2, c0, c1, a1, m11_220 a2, c2, a2, eq_self]
theorem m11_226 {r : zR} {x1 : Int32} {x2 : Int32} (e : zcall zpp E 226 [.ref 73, .int x1, .int x2] h = some r) : zcls h 73 = some 11 := by
  cases hz : zstf [11] 0 h 73 0 (.int 0) with
  | some H => exact zstf_cls hz
  | none =>
    have q : zcall zpp E 226 [.ref 73, .int x1, .int x2] h = none := by
      simp only [ze226, zi226_0, zi226_0n, zi226_1, zi226_2, zcl1, zlow_0, zlow_1, zlow_2, zlow_3, zlow_4, zfree_0, zfree_i, zfree_r, zfree_n, zfree_d, zfree_f, zfree_s, if_true, if_false, Option.bind_some, Option.toList_some, Option.toList_none, List.cons_append, List.nil_append, List.set_cons_zero, List.set_cons_succ, Bool.false_eq_true, reduceIte, zsw_c, zsw_n, Nat.reduceAdd, hz, Option.bind_none]
    rw [q] at e
    cases e
theorem lc_ask (hE : E.1 ≤ 384) (hi : i + 6 ≤ E.1) (c0 : zcls h 0 = some 10) (O : OK E h n 122 226 [.int (E.2 (i + 1)), .int (E.2 (i + 2))]) : LC E n i (zrun zpp E 0 (1209, [.float 0, .ref 0, .ref 73, .int (nI i)], [], h)) := by
  obtain ⟨r, h1, h2, a1, a2, a3⟩ := O
  have c1 : zsel 10 [10, 122] = some 122 := rfl
  have c2 : zsel 11 [11, 226] = some 226 := rfl
  refine ⟨h2, ?_, a3⟩
  conv =>
    lhs
    simp only [zi0_1209, zi0_1209n, zi0_1209f, zi0_1210, zi0_1210n, zi0_1210f, zi0_1211, zi0_1212, zi0_1213, zi0_1214, zi0_1215, zi0_1215n, zi0_1215f, zi0_1216, zi0_1217, zi0_1218, zi0_1219, zi0_1220, zi0_1223, zi0_1223n, zi0_1223f, zi0_1224, zi0_1224n, zi0_1224f, zi0_1225, zi0_1226, zi0_1227, zi0_1228, zi0_1229, zi0_1229n, zi0_1229f, zi0_1230, zi0_1231, zi0_1232, zi0_1233, zi0_1234, zi0_1237, zcl1, zlow_0, zlow_1, zlow_2, zlow_3, zlow_4, zfree_0, zfree_i, zfree_r, zfree_n, zfree_d, zfree_f, zfree_s, if_true, if_false, Option.bind_some, Option.toList_some, Option.toList_none, List.cons_append, List.nil_append, List.set_cons_zero, List.set_cons_succ, Bool.false_eq_true, reduceIte, zsw_c, zsw_n, Nat.reduceAdd, (lx_1 hE hi).1, (lx_1 hE hi).2, (lx_2 hE hi).1, (lx_2 hE hi).2, c0, c1, a1, m11_226 a2, c2, a2, eq_self]
theorem m11_227 {r : zR} {x1 : Int32} (e : zcall zpp E 227 [.ref 73, .int x1] h = some r) : zcls h 73 = some 11 := by
  cases hz : zstf [11] 0 h 73 0 (.int 0) with
  | some H => exact zstf_cls hz
  | none =>
    have q : zcall zpp E 227 [.ref 73, .int x1] h = none := by
      simp only [ze227, zi227_0, zi227_0n, zi227_1, zi227_2, zcl1, zlow_0, zlow_1, zlow_2, zlow_3, zlow_4, zfree_0, zfree_i, zfree_r, zfree_n, zfree_d, zfree_f, zfree_s, if_true, if_false, Option.bind_some, Option.toList_some, Option.toList_none, List.cons_append, List.nil_append, List.set_cons_zero, List.set_cons_succ, Bool.false_eq_true, reduceIte, zsw_c, zsw_n, Nat.reduceAdd, hz, Option.bind_none]
    rw [q] at e
    cases e
theorem lc_trace (hE : E.1 ≤ 384) (hi : i + 6 ≤ E.1) (c0 : zcls h 0 = some 10) (O : OK E h n 123 227 [.int (E.2 (i + 1))]) : LC E n i (zrun zpp E 0 (1242, [.float 0, .ref 0, .ref 73, .int (nI i)], [], h)) := by
  obtain ⟨r, h1, h2, a1, a2, a3⟩ := O
  have c1 : zsel 10 [10, 123] = some 123 := rfl
  have c2 : zsel 11 [11, 227] = some 227 := rfl
  refine ⟨h2, ?_, a3⟩
  conv =>
    lhs
    simp only [zi0_1242, zi0_1242n, zi0_1242f, zi0_1243, zi0_1243n, zi0_1243f, zi0_1244, zi0_1245, zi0_1246, zi0_1247, zi0_1248, zi0_1251, zi0_1251n, zi0_1251f, zi0_1252, zi0_1252n, zi0_1252f, zi0_1253, zi0_1254, zi0_1255, zi0_1256, zi0_1257, zi0_1260, zcl1, zlow_0, zlow_1, zlow_2, zlow_3, zlow_4, zfree_0, zfree_i, zfree_r, zfree_n, zfree_d, zfree_f, zfree_s, if_true, if_false, Option.bind_some, Option.toList_some, Option.toList_none, List.cons_append, List.nil_append, List.set_cons_zero, List.set_cons_succ, Bool.false_eq_true, reduceIte, zsw_c, zsw_n, Nat.reduceAdd, (lx_1 hE hi).1, (lx_1 hE hi).2, c0, c1, a1, m11_227 a2, c2, a2, eq_self]
theorem m11_228 {r : zR} {x1 : Int32} (e : zcall zpp E 228 [.ref 73, .int x1] h = some r) : zcls h 73 = some 11 := by
  cases hz : zstf [11] 0 h 73 0 (.int 0) with
  | some H => exact zstf_cls hz
  | none =>
    have q : zcall zpp E 228 [.ref 73, .int x1] h = none := by
      simp only [ze228, zi228_0, zi228_0n, zi228_1, zi228_2, zcl1, zlow_0, zlow_1, zlow_2, zlow_3, zlow_4, zfree_0, zfree_i, zfree_r, zfree_n, zfree_d, zfree_f, zfree_s, if_true, if_false, Option.bind_some, Option.toList_some, Option.toList_none, List.cons_append, List.nil_append, List.set_cons_zero, List.set_cons_succ, Bool.false_eq_true, reduceIte, zsw_c, zsw_n, Nat.reduceAdd, hz, Option.bind_none]
    rw [q] at e
    cases e
theorem lc_count (hE : E.1 ≤ 384) (hi : i + 6 ≤ E.1) (c0 : zcls h 0 = some 10) (O : OK E h n 124 228 [.int (E.2 (i + 1))]) : LC E n i (zrun zpp E 0 (1265, [.float 0, .ref 0, .ref 73, .int (nI i)], [], h)) := by
  obtain ⟨r, h1, h2, a1, a2, a3⟩ := O
  have c1 : zsel 10 [10, 124] = some 124 := rfl
  have c2 : zsel 11 [11, 228] = some 228 := rfl
  refine ⟨h2, ?_, a3⟩
  conv =>
    lhs
    simp only [zi0_1265, zi0_1265n, zi0_1265f, zi0_1266, zi0_1266n, zi0_1266f, zi0_1267, zi0_1268, zi0_1269, zi0_1270, zi0_1271, zi0_1274, zi0_1274n, zi0_1274f, zi0_1275, zi0_1275n, zi0_1275f, zi0_1276, zi0_1277, zi0_1278, zi0_1279, zi0_1280, zi0_1283, zcl1, zlow_0, zlow_1, zlow_2, zlow_3, zlow_4, zfree_0, zfree_i, zfree_r, zfree_n, zfree_d, zfree_f, zfree_s, if_true, if_false, Option.bind_some, Option.toList_some, Option.toList_none, List.cons_append, List.nil_append, List.set_cons_zero, List.set_cons_succ, Bool.false_eq_true, reduceIte, zsw_c, zsw_n, Nat.reduceAdd, (lx_1 hE hi).1, (lx_1 hE hi).2, c0, c1, a1, m11_228 a2, c2, a2, eq_self]
theorem m11_229 {r : zR} (e : zcall zpp E 229 [.ref 73] h = some r) : zcls h 73 = some 11 := by
  cases hz : zstf [11] 0 h 73 0 (.int 0) with
  | some H => exact zstf_cls hz
  | none =>
    have q : zcall zpp E 229 [.ref 73] h = none := by
      simp only [ze229, zi229_0, zi229_0n, zi229_1, zi229_2, zcl1, zlow_0, zlow_1, zlow_2, zlow_3, zlow_4, zfree_0, zfree_i, zfree_r, zfree_n, zfree_d, zfree_f, zfree_s, if_true, if_false, Option.bind_some, Option.toList_some, Option.toList_none, List.cons_append, List.nil_append, List.set_cons_zero, List.set_cons_succ, Bool.false_eq_true, reduceIte, zsw_c, zsw_n, Nat.reduceAdd, hz, Option.bind_none]
    rw [q] at e
    cases e
theorem lc_status (hE : E.1 ≤ 384) (hi : i + 6 ≤ E.1) (c0 : zcls h 0 = some 10) (O : OK E h n 125 229 []) : LC E n i (zrun zpp E 0 (1288, [.float 0, .ref 0, .ref 73, .int (nI i)], [], h)) := by
  obtain ⟨r, h1, h2, a1, a2, a3⟩ := O
  have c1 : zsel 10 [10, 125] = some 125 := rfl
  have c2 : zsel 11 [11, 229] = some 229 := rfl
  refine ⟨h2, ?_, a3⟩
  conv =>
    lhs
    simp only [zi0_1288, zi0_1288n, zi0_1288f, zi0_1289, zi0_1292, zi0_1292n, zi0_1292f, zi0_1293, zi0_1296, zcl1, zlow_0, zlow_1, zlow_2, zlow_3, zlow_4, zfree_0, zfree_i, zfree_r, zfree_n, zfree_d, zfree_f, zfree_s, if_true, if_false, Option.bind_some, Option.toList_some, Option.toList_none, List.cons_append, List.nil_append, List.set_cons_zero, List.set_cons_succ, Bool.false_eq_true, reduceIte, zsw_c, zsw_n, Nat.reduceAdd, c0, c1, a1, m11_229 a2, c2, a2, eq_self]
end LCS
