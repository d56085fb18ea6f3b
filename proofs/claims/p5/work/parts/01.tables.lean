-- ===== PART A: goes FIRST, ahead of the names: the tables' words, and 'selects' of the private methods out of them =====
/-- a private method of a class that the tables say can be made, by its rows of tables_1 -/
noncomputable def lw_okq (q : MethodName × Nat) : Prop := (q.1.cls ≠ "java/lang/invoke/MethodHandle" ∧ q.1.cls ≠ "java/lang/invoke/VarHandle") ∧ Cond.instantiable q.1.cls q.2 ∈ tables_1 ∧ Cond.privateMethod q.1 ∈ tables_1 ∧ Cond.instanceMethod q.1 ∈ tables_1
noncomputable def lw_privs_1 : List (MethodName × Nat) := [(⟨"MoonReapers$Reader", "readToken", "()V"⟩, 11), (⟨"MoonReapers$Reader", "byteAt", "(I)I"⟩, 11), (⟨"MoonReapers$Reader", "readFigures", "()V"⟩, 11), (⟨"MoonReapers$Reader", "fail", "(II)V"⟩, 11), (⟨"MoonReapers$Reader", "readLine", "()V"⟩, 11), (⟨"MoonReapers$Reader", "lineOfName", "()I"⟩, 11), (⟨"MoonReapers$Reader", "isName", "(Ljava/lang/String;)Z"⟩, 11), (⟨"MoonReapers$Reader", "beginLine", "(I)V"⟩, 11), (⟨"MoonReapers$Reader", "readNumber", "(II)V"⟩, 11), (⟨"MoonReapers$Reader", "takeLine", "(I)V"⟩, 11), (⟨"MoonReapers$Reader", "tellsOfWhatIsNot", "()Z"⟩, 11), (⟨"MoonReapers$Field", "work", "(IZ)I"⟩, 16), (⟨"MoonReapers$Field", "nearestWithYards", "(I)I"⟩, 16), (⟨"MoonReapers$Field", "cut", "(II)I"⟩, 16), (⟨"MoonReapers", "asksOfReaper", "(I)Z"⟩, 10), (⟨"MoonReapers$Plan", "countReach", "(LMoonReapers$Field;)V"⟩, 7)]
noncomputable def lw_privs_2 : List (MethodName × Nat) := [(⟨"MoonReapers$Plan", "startPicks", "(I)V"⟩, 7), (⟨"MoonReapers$Plan", "isInReach", "(II)Z"⟩, 7), (⟨"MoonReapers$Plan", "beginAsPicked", "(LMoonReapers$Field;)V"⟩, 7), (⟨"MoonReapers$Plan", "choosePicks", "()V"⟩, 7), (⟨"MoonReapers$Plan", "turnPicks", "(I)Z"⟩, 7), (⟨"MoonReapers$Plan", "countMostCut", "(LMoonReapers$Field;)V"⟩, 7), (⟨"MoonReapers$Plan", "sumOfPicks", "(I)I"⟩, 7), (⟨"MoonReapers$Plan", "mostCutByPicks", "(I)I"⟩, 7), (⟨"MoonReapers$Plan", "isDoneByPicks", "(LMoonReapers$Field;I)Z"⟩, 7), (⟨"MoonReapers$Plan", "weightFrom", "(II)J"⟩, 7), (⟨"MoonReapers$Field", "sumOfReapers", "([I)I"⟩, 16), (⟨"MoonReapers$Plan", "save", "([I)V"⟩, 7), (⟨"MoonReapers$Plan", "restore", "([I)V"⟩, 7), (⟨"MoonReapers$Hare", "besides", "([II)I"⟩, 3), (⟨"MoonReapers$Plan", "isFitting", "(LMoonReapers$Field;LMoonReapers$Paid;)Z"⟩, 7), (⟨"MoonReapersModel", "firstDraft", "()V"⟩, 29)]
noncomputable def lw_privs_3 : List (MethodName × Nat) := [(⟨"MoonReapersModel", "keepDraft", "()V"⟩, 29), (⟨"MoonReapersModel", "next", "()V"⟩, 29), (⟨"MoonReapersModel", "byteAt", "(I)I"⟩, 29), (⟨"MoonReapersModel", "needs", "(ZI)V"⟩, 29), (⟨"MoonReapersModel", "readLine", "()V"⟩, 29), (⟨"MoonReapersModel", "lineNow", "()I"⟩, 29), (⟨"MoonReapersModel", "is", "(IIII)Z"⟩, 29), (⟨"MoonReapersModel", "ends", "(IIII)Z"⟩, 29), (⟨"MoonReapersModel", "readLineOf", "(I)V"⟩, 29), (⟨"MoonReapersModel", "readNumber", "(II)I"⟩, 29), (⟨"MoonReapersModel", "looked", "(II)I"⟩, 29), (⟨"MoonReapersModel", "readReaper", "()V"⟩, 29), (⟨"MoonReapersModel", "readFresh", "(II)I"⟩, 29), (⟨"MoonReapersModel", "starts", "()V"⟩, 29), (⟨"MoonReapersModel", "standing", "()I"⟩, 29), (⟨"MoonReapersModel", "isStrip", "(I)Z"⟩, 29)]
noncomputable def lw_privs_4 : List (MethodName × Nat) := [(⟨"MoonReapersModel", "of", "(II)I"⟩, 29), (⟨"MoonReapersModel", "isReaper", "(I)Z"⟩, 29), (⟨"MoonReapersModel", "becomes", "(II)I"⟩, 29), (⟨"MoonReapersModel", "goesTo", "(I)V"⟩, 29), (⟨"MoonReapersModel", "goesOn", "()V"⟩, 29), (⟨"MoonReapersModel", "goesBy", "(Z)V"⟩, 29), (⟨"MoonReapersModel", "does", "(IZ)V"⟩, 29), (⟨"MoonReapersModel", "nearest", "(I)I"⟩, 29), (⟨"MoonReapersModel", "becomesOf", "(III)V"⟩, 29), (⟨"MoonReapersModel", "cuts", "(IZ)V"⟩, 29), (⟨"MoonReapersModel", "doneBehind", "()I"⟩, 29), (⟨"MoonReapersModel", "rowsOf", "(I)I"⟩, 29), (⟨"MoonReapersModel", "begins", "(I)V"⟩, 29), (⟨"MoonReapersModel", "toldBy", "(III)I"⟩, 29), (⟨"MoonReapersModel", "findRuns", "()V"⟩, 29), (⟨"MoonReapersModel", "besides", "([III)I"⟩, 29)]
noncomputable def lw_privs_5 : List (MethodName × Nat) := [(⟨"MoonReapersModel", "canStand", "(II)Z"⟩, 29), (⟨"MoonReapersModel", "runsAt", "(II)I"⟩, 29), (⟨"MoonReapersModel", "allRuns", "()I"⟩, 29), (⟨"MoonReapersModel", "copies", "(II)V"⟩, 29)]
noncomputable def lw_privs : List (MethodName × Nat) := lw_privs_1 ++ (lw_privs_2 ++ (lw_privs_3 ++ (lw_privs_4 ++ (lw_privs_5))))
noncomputable def lw_tbl : List Cond := k2_sels lw_privs ++ tables_1
theorem am_beq {a b : Nat} (h : Nat.beq a b = true) : a = b := Nat.eq_of_beq_eq_true h
theorem am_and {a b : Bool} (h : (a && b) = true) : a = true ∧ b = true := by
  rwa [Bool.and_eq_true] at h
/-- one walk along a table: what stands at rising places -/
noncomputable def am_pk : Nat → List Nat → List Cond → List (Option Cond)
  | _, [], _ => []
  | n, i :: r, l => (l.drop (i - n)).head? :: am_pk i r (l.drop (i - n))
noncomputable def am_srt : Nat → List Nat → Bool
  | _, [] => true
  | n, i :: r => Nat.ble n i && am_srt i r
theorem am_pkok {T : List Cond} : ∀ (ix : List Nat) (n : Nat), am_srt n ix = true → am_pk n ix (T.drop n) = ix.map fun i => T[i]?
  | [], _, _ => rfl
  | i :: r, n, h => by
    obtain ⟨h1, h2⟩ := am_and h
    have hle := Nat.le_of_ble_eq_true h1
    have e : (T.drop n).drop (i - n) = T.drop i := by
      rw [List.drop_drop, Nat.add_sub_cancel' hle]
    unfold am_pk
    rw [e, am_pkok r i h2, List.head?_drop, List.map_cons]
theorem am_pkmem {α : Type} {T : List Cond} {l : List α} {ix : List Nat} {f : α → Cond} (hs : am_srt 0 ix = true) (h : am_pk 0 ix T = l.map fun q => some (f q)) : ∀ q ∈ l, f q ∈ T := by
  intro q hq
  have e := (am_pkok (T := T) ix 0 hs).symm.trans h
  have m : some (f q) ∈ ix.map fun i => T[i]? := by
    rw [e]
    exact List.mem_map.mpr ⟨q, hq, rfl⟩
  obtain ⟨i, _, hi⟩ := List.mem_map.mp m
  exact List.mem_of_getElem? hi
noncomputable def lw_iP : List Nat := [345, 349, 359, 363, 367, 371, 383, 435, 441, 457, 472, 581, 585, 589, 633, 641, 649, 656, 660, 665, 669, 707, 711, 715, 719, 732, 744, 748, 753, 786, 835, 965, 969, 1078, 1082, 1090, 1094, 1098, 1102, 1106, 1110, 1114, 1118, 1122, 1126, 1138, 1142, 1150, 1155, 1166, 1182, 1222, 1226, 1230, 1234, 1238, 1243, 1247, 1263, 1275, 1279, 1283, 1320, 1324, 1331, 1335, 1343, 1373]
noncomputable def lw_iI : List Nat := [346, 350, 360, 364, 368, 372, 384, 436, 442, 458, 473, 582, 586, 590, 634, 642, 650, 657, 661, 666, 670, 708, 712, 716, 720, 733, 745, 749, 754, 787, 836, 966, 970, 1079, 1083, 1091, 1095, 1099, 1103, 1107, 1111, 1115, 1119, 1123, 1127, 1139, 1143, 1151, 1156, 1167, 1183, 1223, 1227, 1231, 1235, 1239, 1244, 1248, 1264, 1276, 1280, 1284, 1321, 1325, 1332, 1336, 1344, 1374]
noncomputable def lw_cx : List Nat := [20, 28, 34, 217, 249, 959]
noncomputable def lw_cn : List (String × Nat) := [("MoonReapers", 10), ("MoonReapers$Reader", 11), ("MoonReapers$Field", 16), ("MoonReapers$Plan", 7), ("MoonReapers$Hare", 3), ("MoonReapersModel", 29)]
noncomputable def lw_ci : List Nat := [1, 1, 1, 1, 1, 1, 1, 1, 1, 1, 1, 2, 2, 2, 0, 3, 3, 3, 3, 3, 3, 3, 3, 3, 3, 3, 2, 3, 3, 4, 3, 5, 5, 5, 5, 5, 5, 5, 5, 5, 5, 5, 5, 5, 5, 5, 5, 5, 5, 5, 5, 5, 5, 5, 5, 5, 5, 5, 5, 5, 5, 5, 5, 5, 5, 5, 5, 5]
set_option maxRecDepth 100000 in
theorem lwq_P : am_pk 0 lw_iP tables_1 = lw_privs.map fun q => some (Cond.privateMethod q.1) := rfl
set_option maxRecDepth 100000 in
theorem lwq_I : am_pk 0 lw_iI tables_1 = lw_privs.map fun q => some (Cond.instanceMethod q.1) := rfl
set_option maxRecDepth 100000 in
theorem lwq_N : am_pk 0 lw_cx tables_1 = lw_cn.map fun q => some (Cond.instantiable q.1 q.2) := rfl
set_option maxRecDepth 100000 in
theorem lwq_C : (lw_privs.map fun q => (q.1.cls, q.2)) = lw_ci.map fun j => lw_cn.getD j ("", 0) := rfl
theorem lw_Nc : (lw_cn.all fun q => decide (q.1 ≠ "java/lang/invoke/MethodHandle") && decide (q.1 ≠ "java/lang/invoke/VarHandle")) = true := by decide +kernel
theorem lw_cil : (lw_ci.all fun j => decide (j < lw_cn.length)) = true := by decide +kernel
theorem lw_cm {q : MethodName × Nat} (hq : q ∈ lw_privs) : (q.1.cls, q.2) ∈ lw_cn := by
  have m : (q.1.cls, q.2) ∈ lw_privs.map fun q => (q.1.cls, q.2) := List.mem_map.mpr ⟨q, hq, rfl⟩
  rw [lwq_C] at m
  obtain ⟨j, hj, e⟩ := List.mem_map.mp m
  have hlt : j < lw_cn.length := of_decide_eq_true (List.all_eq_true.mp lw_cil j hj)
  rw [← e, List.getD_eq_getElem?_getD, List.getElem?_eq_getElem hlt, Option.getD_some]
  exact List.getElem_mem hlt
theorem lw_privs_ok : ∀ q ∈ lw_privs, lw_okq q := by
  intro q hq
  have m := lw_cm hq
  have c := am_and (List.all_eq_true.mp lw_Nc _ m)
  exact ⟨⟨of_decide_eq_true c.1, of_decide_eq_true c.2⟩, am_pkmem (f := fun q => Cond.instantiable q.1 q.2) (by decide +kernel) lwq_N _ m, am_pkmem (f := fun q => Cond.privateMethod q.1) (by decide +kernel) lwq_P q hq, am_pkmem (f := fun q => Cond.instanceMethod q.1) (by decide +kernel) lwq_I q hq⟩
