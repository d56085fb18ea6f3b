section
noncomputable def am_wq (i : Nat) (w : Cond) : Bool := decide (lw_tbl[i]? = some w) && goodWord w
theorem am_wq_ok {i : Nat} {w : Cond} (h : am_wq i w = true) : w ∈ am_big := by
  unfold am_wq at h
  rw [Bool.and_eq_true, decide_eq_true_eq] at h
  exact am_big_at i h.1 h.2
noncomputable def am_fw (o i f : Nat) : Cond := .fieldLink (am_ownS o) i ((am_clq (f / 100)).2.1 (f % 100)).1 ((am_clq (f / 100)).2.1 (f % 100)).2.1 ((am_clq (f / 100)).2.1 (f % 100)).2.2.1
theorem am_wq_mk {i : Nat} {w : Cond} (h : lw_tbl[i]? = some w) (g : goodWord w = true) : am_wq i w = true := by
  unfold am_wq
  rw [decide_eq_true h, g]
  rfl
theorem am_allx {α : Type} {l : List α} (i : α → Nat) (f : α → Cond) (hs : am_srt 0 (l.map i) = true) (h : am_pk 0 (l.map i) lw_tbl = l.map fun q => some (f q)) : ∀ q ∈ l, lw_tbl[i q]? = some (f q) := by
  have := (am_pkok (T := lw_tbl) (l.map i) 0 hs).symm.trans h
  rw [List.map_map] at this
  exact List.map_inj_left.mp this
set_option maxRecDepth 100000 in
theorem am_lf_r : am_pk 0 (am_lf.map fun q => q.2.2.2) lw_tbl = am_lf.map fun q => some (am_fw q.1 q.2.1 q.2.2.1) := rfl
theorem am_lf_c : (am_lf.all fun q => am_wq q.2.2.2 (am_fw q.1 q.2.1 q.2.2.1)) = true :=
  List.all_eq_true.mpr fun q hq => am_wq_mk (am_allx (fun q => q.2.2.2) (fun q => am_fw q.1 q.2.1 q.2.2.1) (by decide +kernel) am_lf_r q hq) rfl
/-- a nest mate's method: its word isn't among the good ones, it goes its own way -/
noncomputable def am_nw (q : Nat × Nat × Nat × Nat × Nat) : Cond := .methodLinkNest (am_ownS q.1) q.2.1 (am_infq q.2.2.1).1 "MoonReapers"
noncomputable def am_lw (q : Nat × Nat × Nat × Nat × Nat) : Cond := bif Nat.ble 3 q.2.2.2.1 then am_nw q else .methodLink (am_ownS q.1) q.2.1 (am_infq q.2.2.1).1
set_option maxRecDepth 100000 in
theorem am_lm_r : am_pk 0 (am_lm.map fun q => q.2.2.2.2) lw_tbl = am_lm.map fun q => some (am_lw q) := rfl
theorem am_lm_x : ∀ q ∈ am_lm, lw_tbl[q.2.2.2.2]? = some (am_lw q) := am_allx (fun q => q.2.2.2.2) am_lw (by decide +kernel) am_lm_r
theorem am_lm_c : (am_lm.all fun q => decide (3 ≤ q.2.2.2.1) || am_wq q.2.2.2.2 (.methodLink (am_ownS q.1) q.2.1 (am_infq q.2.2.1).1)) = true :=
  List.all_eq_true.mpr fun q hq => by
    have h := am_lm_x q hq
    by_cases h3 : 3 ≤ q.2.2.2.1
    · rw [decide_eq_true h3]
      rfl
    · have e : Nat.ble 3 q.2.2.2.1 = false := by
        cases e : Nat.ble 3 q.2.2.2.1 with
        | false => rfl
        | true => exact absurd (Nat.le_of_ble_eq_true e) h3
      unfold am_lw at h
      rw [e] at h
      rw [am_wq_mk (w := .methodLink (am_ownS q.1) q.2.1 (am_infq q.2.2.1).1) h rfl, Bool.or_true]
theorem am_lx_c : (am_lm.all fun q => decide (q.2.2.2.1 < 3) || decide (lw_tbl[q.2.2.2.2]? = some (am_nw q))) = true :=
  List.all_eq_true.mpr fun q hq => by
    have h := am_lm_x q hq
    by_cases h3 : q.2.2.2.1 < 3
    · rw [decide_eq_true h3]
      rfl
    · unfold am_lw at h
      rw [Nat.ble_eq_true_of_le (show 3 ≤ q.2.2.2.1 by omega)] at h
      rw [decide_eq_true (show lw_tbl[q.2.2.2.2]? = some (am_nw q) from h), Bool.or_true]
theorem am_ln_c : (am_ln.all fun q => am_wq q.2.2.2 (.classLink (am_ownS q.1) q.2.1 (am_clq q.2.2.1).1)) = true := by decide +kernel
theorem am_lc_c : (am_lc.all fun q => am_wq q.2.2.2 (.constant (am_ownS q.1) q.2.1 (Int32.ofInt q.2.2.1))) = true := by decide +kernel
theorem am_ll_c : (am_ll.all fun q => am_wq q.2.2.2 (.constantLong (am_ownS q.1) q.2.1 (Int64.ofInt q.2.2.1))) = true := by decide +kernel
theorem am_lo_c : (am_lo.all fun q => am_wq q.2.2 (.methodLink (am_ownS q.1) q.2.1 Lib.objectInit)) = true := by decide +kernel
theorem am_la_c : (am_la.all fun q => am_wq q.2.2 (.methodLink (am_ownS q.1) q.2.1 arraycopyName)) = true := by decide +kernel
noncomputable def ck_yS : MethodName := ⟨"java/lang/String", "checkIndex", "(II)V"⟩
theorem am_lck_c : (am_lck.all fun q => am_wq q.2.2 (.methodLink (am_ownS q.1) q.2.1 ck_yS)) = true := by decide +kernel
theorem am_lan_c : (am_lan.all fun q => am_wq q.2.2 (.classLink (am_ownS q.1) q.2.1 "MoonReapers$State")) = true := by decide +kernel
theorem am_lma_c : (am_lma.all fun q => am_wq q.2.2 (.classLink (am_ownS q.1) q.2.1 ("[" ++ (FieldType.array .int).toString))) = true := by decide +kernel
end
section
/-- the method's own words: its code, its class's initialisation, static or of an object, its selection; each list in the order of the table -/
noncomputable def am_jy : List (Nat × Nat × MethodName × Nat × Option FieldType × Bool × ByteArray) := [(105, 91, ⟨"MoonReapers", "<init>", "()V"⟩, 2, none, false, prog_1_method_1_code),
  (10, 99, ⟨"MoonReapers$Reader", "<init>", "()V"⟩, 1, none, false, prog_6_method_1_code),
  (27, 105, ⟨"MoonReapers$Field", "<init>", "()V"⟩, 1, none, false, prog_2_method_1_code),
  (53, 228, ⟨"MoonReapers$State", "<init>", "()V"⟩, 1, none, false, prog_9_method_1_code),
  (55, 236, ⟨"MoonReapers$Seen", "<init>", "()V"⟩, 1, none, false, prog_7_method_1_code),
  (59, 256, ⟨"MoonReapers$Paid", "<init>", "()V"⟩, 1, none, false, prog_4_method_1_code),
  (63, 288, ⟨"MoonReapers$Plan", "<init>", "()V"⟩, 1, none, false, prog_5_method_1_code),
  (88, 320, ⟨"MoonReapers$Hare", "<init>", "()V"⟩, 1, none, false, prog_3_method_1_code),
  (94, 337, ⟨"MoonReapers$Sheets", "<init>", "()V"⟩, 1, none, false, prog_8_method_1_code),
  (4, 342, ⟨"java/util/Arrays", "fill", "([II)V"⟩, 4, none, true, prog_18_method_103_code),
  (106, 387, ⟨"MoonReapers", "feed", "(I)I"⟩, 2, (some Jvm.ClassFile.FieldType.int), false, prog_1_method_2_code),
  (107, 390, ⟨"MoonReapers", "isWithin", "(III)Z"⟩, 3, (some Jvm.ClassFile.FieldType.boolean), true, prog_1_method_45_code),
  (11, 394, ⟨"MoonReapers$Reader", "put", "(I)I"⟩, 2, (some Jvm.ClassFile.FieldType.int), false, prog_6_method_2_code),
  (108, 398, ⟨"MoonReapers", "end", "(I)I"⟩, 3, (some Jvm.ClassFile.FieldType.int), false, prog_1_method_3_code),
  (109, 402, ⟨"MoonReapers", "text", "()I"⟩, 2, (some Jvm.ClassFile.FieldType.int), false, prog_1_method_4_code),
  (12, 406, ⟨"MoonReapers$Reader", "readAll", "()I"⟩, 3, (some Jvm.ClassFile.FieldType.int), false, prog_6_method_3_code),
  (28, 410, ⟨"MoonReapers$Field", "clear", "()V"⟩, 1, none, false, prog_2_method_2_code),
  (13, 415, ⟨"MoonReapers$Reader", "readToken", "()V"⟩, 2, none, false, prog_6_method_14_code),
  (14, 419, ⟨"MoonReapers$Reader", "byteAt", "(I)I"⟩, 2, (some Jvm.ClassFile.FieldType.int), false, prog_6_method_13_code),
  (15, 422, ⟨"MoonReapers$Reader", "isLetter", "(I)Z"⟩, 1, (some Jvm.ClassFile.FieldType.boolean), true, prog_6_method_16_code),
  (16, 425, ⟨"MoonReapers$Reader", "isFigure", "(I)Z"⟩, 1, (some Jvm.ClassFile.FieldType.boolean), true, prog_6_method_17_code),
  (17, 429, ⟨"MoonReapers$Reader", "readFigures", "()V"⟩, 1, none, false, prog_6_method_15_code),
  (18, 433, ⟨"MoonReapers$Reader", "fail", "(II)V"⟩, 3, none, false, prog_6_method_4_code),
  (19, 437, ⟨"MoonReapers$Reader", "readLine", "()V"⟩, 4, none, false, prog_6_method_6_code),
  (20, 441, ⟨"MoonReapers$Reader", "lineOfName", "()I"⟩, 2, (some Jvm.ClassFile.FieldType.int), false, prog_6_method_10_code),
  (21, 444, ⟨"MoonReapers$Reader", "nameOf", "(I)Ljava/lang/String;"⟩, 1, (some (Jvm.ClassFile.FieldType.object "java/lang/String")), true, prog_6_method_11_code),
  (22, 453, ⟨"MoonReapers$Reader", "isName", "(Ljava/lang/String;)Z"⟩, 3, (some Jvm.ClassFile.FieldType.boolean), false, prog_6_method_12_code),
  (6, 457, ⟨"java/lang/String", "length", "()I"⟩, 1, (some Jvm.ClassFile.FieldType.int), false, prog_14_method_54_code),
  (7, 461, ⟨"java/lang/String", "coder", "()B"⟩, 1, (some Jvm.ClassFile.FieldType.byte), false, prog_14_method_152_code),
  (8, 467, ⟨"java/lang/String", "charAt", "(I)C"⟩, 2, (some Jvm.ClassFile.FieldType.char), false, prog_14_method_56_code),
  (9, 471, ⟨"java/lang/String", "isLatin1", "()Z"⟩, 1, (some Jvm.ClassFile.FieldType.boolean), false, prog_14_method_154_code),
  (5, 474, ⟨"java/lang/StringLatin1", "charAt", "([BI)C"⟩, 2, (some Jvm.ClassFile.FieldType.char), true, prog_15_method_2_code),
  (23, 505, ⟨"MoonReapers$Reader", "beginLine", "(I)V"⟩, 2, none, false, prog_6_method_7_code),
  (24, 511, ⟨"MoonReapers$Reader", "readNumber", "(II)V"⟩, 4, none, false, prog_6_method_8_code),
  (29, 519, ⟨"MoonReapers$Field", "isCloudy", "(I)Z"⟩, 2, (some Jvm.ClassFile.FieldType.boolean), false, prog_2_method_9_code),
  (30, 523, ⟨"MoonReapers$Field", "isThistly", "(I)Z"⟩, 2, (some Jvm.ClassFile.FieldType.boolean), false, prog_2_method_8_code),
  (25, 527, ⟨"MoonReapers$Reader", "takeLine", "(I)V"⟩, 2, none, false, prog_6_method_9_code),
  (31, 531, ⟨"MoonReapers$Field", "addStrip", "(II)V"⟩, 3, none, false, prog_2_method_4_code),
  (32, 535, ⟨"MoonReapers$Field", "addReaper", "(III)V"⟩, 4, none, false, prog_2_method_5_code),
  (110, 538, ⟨"MoonReapers", "withBit", "(IIZ)I"⟩, 3, (some Jvm.ClassFile.FieldType.int), true, prog_1_method_46_code),
  (26, 542, ⟨"MoonReapers$Reader", "tellsOfWhatIsNot", "()Z"⟩, 2, (some Jvm.ClassFile.FieldType.boolean), false, prog_6_method_5_code),
  (33, 546, ⟨"MoonReapers$Field", "isStrip", "(I)Z"⟩, 2, (some Jvm.ClassFile.FieldType.boolean), false, prog_2_method_6_code),
  (34, 550, ⟨"MoonReapers$Field", "copyFrom", "(LMoonReapers$Field;)V"⟩, 2, none, false, prog_2_method_3_code),
  (111, 557, ⟨"MoonReapers", "fault", "()I"⟩, 1, (some Jvm.ClassFile.FieldType.int), false, prog_1_method_5_code),
  (112, 561, ⟨"MoonReapers", "rule", "(I)I"⟩, 2, (some Jvm.ClassFile.FieldType.int), false, prog_1_method_6_code),
  (35, 565, ⟨"MoonReapers$Field", "standing", "()I"⟩, 3, (some Jvm.ClassFile.FieldType.int), false, prog_2_method_13_code),
  (113, 569, ⟨"MoonReapers", "strip", "(II)I"⟩, 3, (some Jvm.ClassFile.FieldType.int), false, prog_1_method_7_code),
  (36, 575, ⟨"MoonReapers$Field", "reapersAt", "(I)I"⟩, 4, (some Jvm.ClassFile.FieldType.int), false, prog_2_method_12_code),
  (114, 580, ⟨"MoonReapers", "reaper", "(II)I"⟩, 3, (some Jvm.ClassFile.FieldType.int), false, prog_1_method_8_code),
  (37, 584, ⟨"MoonReapers$Field", "tellOf", "(II)I"⟩, 3, (some Jvm.ClassFile.FieldType.int), false, prog_2_method_11_code),
  (38, 588, ⟨"MoonReapers$Field", "isReaper", "(I)Z"⟩, 2, (some Jvm.ClassFile.FieldType.boolean), false, prog_2_method_7_code),
  (115, 592, ⟨"MoonReapers", "harvest", "(I)I"⟩, 2, (some Jvm.ClassFile.FieldType.int), false, prog_1_method_9_code),
  (116, 596, ⟨"MoonReapers", "send", "(II)I"⟩, 4, (some Jvm.ClassFile.FieldType.int), false, prog_1_method_10_code),
  (117, 601, ⟨"MoonReapers", "lend", "(III)I"⟩, 4, (some Jvm.ClassFile.FieldType.int), false, prog_1_method_11_code),
  (0, 604, ⟨"java/lang/Math", "abs", "(I)I"⟩, 1, (some Jvm.ClassFile.FieldType.int), true, prog_13_method_59_code),
  (118, 608, ⟨"MoonReapers", "whet", "(II)I"⟩, 4, (some Jvm.ClassFile.FieldType.int), false, prog_1_method_12_code),
  (119, 612, ⟨"MoonReapers", "fill", "(II)I"⟩, 4, (some Jvm.ClassFile.FieldType.int), false, prog_1_method_13_code),
  (120, 616, ⟨"MoonReapers", "cloud", "(IZ)I"⟩, 4, (some Jvm.ClassFile.FieldType.int), false, prog_1_method_14_code),
  (121, 622, ⟨"MoonReapers", "thistle", "(IZ)I"⟩, 4, (some Jvm.ClassFile.FieldType.int), false, prog_1_method_15_code),
  (122, 626, ⟨"MoonReapers", "own", "(II)I"⟩, 4, (some Jvm.ClassFile.FieldType.int), false, prog_1_method_16_code),
  (123, 630, ⟨"MoonReapers", "grow", "(II)I"⟩, 4, (some Jvm.ClassFile.FieldType.int), false, prog_1_method_17_code),
  (124, 634, ⟨"MoonReapers", "go", "(I)I"⟩, 2, (some Jvm.ClassFile.FieldType.int), false, prog_1_method_18_code),
  (39, 638, ⟨"MoonReapers$Field", "hoursLeft", "()I"⟩, 1, (some Jvm.ClassFile.FieldType.int), false, prog_2_method_10_code),
  (40, 642, ⟨"MoonReapers$Field", "pass", "(I)I"⟩, 4, (some Jvm.ClassFile.FieldType.int), false, prog_2_method_20_code),
  (41, 647, ⟨"MoonReapers$Field", "passHour", "(Z)I"⟩, 4, (some Jvm.ClassFile.FieldType.int), false, prog_2_method_21_code),
  (42, 651, ⟨"MoonReapers$Field", "work", "(IZ)I"⟩, 4, (some Jvm.ClassFile.FieldType.int), false, prog_2_method_22_code),
  (43, 655, ⟨"MoonReapers$Field", "nearestWithYards", "(I)I"⟩, 5, (some Jvm.ClassFile.FieldType.int), false, prog_2_method_24_code),
  (44, 659, ⟨"MoonReapers$Field", "cut", "(II)I"⟩, 6, (some Jvm.ClassFile.FieldType.int), false, prog_2_method_23_code),
  (1, 663, ⟨"java/lang/Math", "min", "(II)I"⟩, 2, (some Jvm.ClassFile.FieldType.int), true, prog_13_method_69_code),
  (125, 667, ⟨"MoonReapers", "ahead", "(III)I"⟩, 4, (some Jvm.ClassFile.FieldType.int), false, prog_1_method_19_code),
  (64, 671, ⟨"MoonReapers$Plan", "after", "(LMoonReapers$Field;I)LMoonReapers$Field;"⟩, 3, (some (Jvm.ClassFile.FieldType.object "MoonReapers$Field")), false, prog_5_method_3_code),
  (126, 677, ⟨"MoonReapers", "stands", "(II)I"⟩, 3, (some Jvm.ClassFile.FieldType.int), false, prog_1_method_20_code),
  (127, 681, ⟨"MoonReapers", "done", "(I)I"⟩, 2, (some Jvm.ClassFile.FieldType.int), false, prog_1_method_21_code),
  (65, 685, ⟨"MoonReapers$Plan", "doneAfter", "(LMoonReapers$Field;)I"⟩, 2, (some Jvm.ClassFile.FieldType.int), false, prog_5_method_4_code),
  (45, 690, ⟨"MoonReapers$Field", "passUntilDone", "(II)I"⟩, 5, (some Jvm.ClassFile.FieldType.int), false, prog_2_method_25_code),
  (128, 695, ⟨"MoonReapers", "left", "()I"⟩, 1, (some Jvm.ClassFile.FieldType.int), false, prog_1_method_22_code),
  (129, 699, ⟨"MoonReapers", "begin", "(I)I"⟩, 3, (some Jvm.ClassFile.FieldType.int), false, prog_1_method_23_code),
  (130, 703, ⟨"MoonReapers", "asksOfReaper", "(I)Z"⟩, 2, (some Jvm.ClassFile.FieldType.boolean), false, prog_1_method_44_code),
  (66, 707, ⟨"MoonReapers$Plan", "soonest", "(LMoonReapers$Field;)I"⟩, 7, (some Jvm.ClassFile.FieldType.int), false, prog_5_method_6_code),
  (67, 711, ⟨"MoonReapers$Plan", "countReach", "(LMoonReapers$Field;)V"⟩, 4, none, false, prog_5_method_7_code),
  (46, 715, ⟨"MoonReapers$Field", "cutsAhead", "(III)I"⟩, 9, (some Jvm.ClassFile.FieldType.int), false, prog_2_method_26_code),
  (68, 719, ⟨"MoonReapers$Plan", "startPicks", "(I)V"⟩, 2, none, false, prog_5_method_12_code),
  (69, 726, ⟨"MoonReapers$Plan", "isInReach", "(II)Z"⟩, 3, (some Jvm.ClassFile.FieldType.boolean), false, prog_5_method_8_code),
  (70, 730, ⟨"MoonReapers$Plan", "beginAsPicked", "(LMoonReapers$Field;)V"⟩, 2, none, false, prog_5_method_11_code),
  (71, 735, ⟨"MoonReapers$Plan", "choosePicks", "()V"⟩, 1, none, false, prog_5_method_13_code),
  (72, 739, ⟨"MoonReapers$Plan", "turnPicks", "(I)Z"⟩, 3, (some Jvm.ClassFile.FieldType.boolean), false, prog_5_method_14_code),
  (73, 744, ⟨"MoonReapers$Plan", "chosenOf", "(I)I"⟩, 2, (some Jvm.ClassFile.FieldType.int), false, prog_5_method_2_code),
  (131, 748, ⟨"MoonReapers", "best", "(II)I"⟩, 3, (some Jvm.ClassFile.FieldType.int), false, prog_1_method_24_code),
  (74, 752, ⟨"MoonReapers$Plan", "fewestStanding", "(LMoonReapers$Field;IZ)I"⟩, 8, (some Jvm.ClassFile.FieldType.int), false, prog_5_method_15_code),
  (132, 757, ⟨"MoonReapers", "oil", "(I)I"⟩, 2, (some Jvm.ClassFile.FieldType.int), false, prog_1_method_25_code),
  (75, 761, ⟨"MoonReapers$Plan", "leastOilOf", "(LMoonReapers$Field;I)I"⟩, 4, (some Jvm.ClassFile.FieldType.int), false, prog_5_method_16_code),
  (133, 765, ⟨"MoonReapers", "least", "(I)I"⟩, 3, (some Jvm.ClassFile.FieldType.int), false, prog_1_method_26_code),
  (76, 769, ⟨"MoonReapers$Plan", "leastOilOfAll", "(LMoonReapers$Field;)I"⟩, 6, (some Jvm.ClassFile.FieldType.int), false, prog_5_method_17_code),
  (47, 773, ⟨"MoonReapers$Field", "cloudyHoursLeft", "()I"⟩, 3, (some Jvm.ClassFile.FieldType.int), false, prog_2_method_19_code),
  (77, 777, ⟨"MoonReapers$Plan", "countMostCut", "(LMoonReapers$Field;)V"⟩, 4, none, false, prog_5_method_18_code),
  (78, 781, ⟨"MoonReapers$Plan", "sumOfPicks", "(I)I"⟩, 4, (some Jvm.ClassFile.FieldType.int), false, prog_5_method_20_code),
  (79, 785, ⟨"MoonReapers$Plan", "mostCutByPicks", "(I)I"⟩, 5, (some Jvm.ClassFile.FieldType.int), false, prog_5_method_19_code),
  (80, 789, ⟨"MoonReapers$Plan", "isDoneByPicks", "(LMoonReapers$Field;I)Z"⟩, 3, (some Jvm.ClassFile.FieldType.boolean), false, prog_5_method_21_code),
  (134, 793, ⟨"MoonReapers", "luck", "(II)J"⟩, 9, (some Jvm.ClassFile.FieldType.long), false, prog_1_method_27_code),
  (81, 798, ⟨"MoonReapers$Plan", "weightDone", "(LMoonReapers$Field;I)J"⟩, 3, (some Jvm.ClassFile.FieldType.long), false, prog_5_method_22_code),
  (82, 802, ⟨"MoonReapers$Plan", "weightFrom", "(II)J"⟩, 8, (some Jvm.ClassFile.FieldType.long), false, prog_5_method_23_code),
  (135, 805, ⟨"MoonReapers", "tenTo", "(I)J"⟩, 4, (some Jvm.ClassFile.FieldType.long), true, prog_1_method_47_code),
  (48, 810, ⟨"MoonReapers$Field", "allPaces", "()I"⟩, 1, (some Jvm.ClassFile.FieldType.int), false, prog_2_method_17_code),
  (49, 814, ⟨"MoonReapers$Field", "sumOfReapers", "([I)I"⟩, 4, (some Jvm.ClassFile.FieldType.int), false, prog_2_method_18_code),
  (83, 818, ⟨"MoonReapers$Plan", "save", "([I)V"⟩, 2, none, false, prog_5_method_24_code),
  (84, 823, ⟨"MoonReapers$Plan", "restore", "([I)V"⟩, 2, none, false, prog_5_method_25_code),
  (136, 827, ⟨"MoonReapers", "commonDivisor", "(JJ)J"⟩, 11, (some Jvm.ClassFile.FieldType.long), true, prog_1_method_48_code),
  (137, 831, ⟨"MoonReapers", "see", "(IIZ)I"⟩, 4, (some Jvm.ClassFile.FieldType.int), false, prog_1_method_28_code),
  (56, 835, ⟨"MoonReapers$Seen", "add", "(IIZ)I"⟩, 4, (some Jvm.ClassFile.FieldType.int), false, prog_7_method_2_code),
  (138, 839, ⟨"MoonReapers", "forget", "(I)I"⟩, 3, (some Jvm.ClassFile.FieldType.int), false, prog_1_method_29_code),
  (139, 843, ⟨"MoonReapers", "hare", "(I)I"⟩, 4, (some Jvm.ClassFile.FieldType.int), false, prog_1_method_30_code),
  (89, 847, ⟨"MoonReapers$Hare", "countRuns", "(LMoonReapers$Seen;I)V"⟩, 5, none, false, prog_3_method_2_code),
  (57, 852, ⟨"MoonReapers$Seen", "allows", "(II)Z"⟩, 5, (some Jvm.ClassFile.FieldType.boolean), false, prog_7_method_4_code),
  (90, 856, ⟨"MoonReapers$Hare", "besides", "([II)I"⟩, 5, (some Jvm.ClassFile.FieldType.int), false, prog_3_method_3_code),
  (2, 859, ⟨"java/lang/Math", "max", "(II)I"⟩, 2, (some Jvm.ClassFile.FieldType.int), true, prog_13_method_65_code),
  (91, 863, ⟨"MoonReapers$Hare", "runsThrough", "(II)I"⟩, 3, (some Jvm.ClassFile.FieldType.int), false, prog_3_method_4_code),
  (140, 867, ⟨"MoonReapers", "runs", "()I"⟩, 1, (some Jvm.ClassFile.FieldType.int), false, prog_1_method_31_code),
  (92, 871, ⟨"MoonReapers$Hare", "allRuns", "()I"⟩, 3, (some Jvm.ClassFile.FieldType.int), false, prog_3_method_5_code),
  (141, 875, ⟨"MoonReapers", "look", "(II)I"⟩, 3, (some Jvm.ClassFile.FieldType.int), false, prog_1_method_32_code),
  (93, 879, ⟨"MoonReapers$Hare", "bestLook", "(IZ)I"⟩, 9, (some Jvm.ClassFile.FieldType.int), false, prog_3_method_6_code),
  (142, 885, ⟨"MoonReapers", "pay", "(II)I"⟩, 3, (some Jvm.ClassFile.FieldType.int), false, prog_1_method_33_code),
  (60, 889, ⟨"MoonReapers$Paid", "add", "(II)I"⟩, 3, (some Jvm.ClassFile.FieldType.int), false, prog_4_method_2_code),
  (143, 893, ⟨"MoonReapers", "owe", "(I)I"⟩, 3, (some Jvm.ClassFile.FieldType.int), false, prog_1_method_34_code),
  (144, 897, ⟨"MoonReapers", "fits", "(I)I"⟩, 3, (some Jvm.ClassFile.FieldType.int), false, prog_1_method_35_code),
  (85, 901, ⟨"MoonReapers$Plan", "countFitting", "(LMoonReapers$Field;LMoonReapers$Paid;)I"⟩, 6, (some Jvm.ClassFile.FieldType.int), false, prog_5_method_9_code),
  (86, 905, ⟨"MoonReapers$Plan", "isFitting", "(LMoonReapers$Field;LMoonReapers$Paid;)Z"⟩, 3, (some Jvm.ClassFile.FieldType.boolean), false, prog_5_method_10_code),
  (61, 909, ⟨"MoonReapers$Paid", "isAsPaid", "(LMoonReapers$Field;)Z"⟩, 4, (some Jvm.ClassFile.FieldType.boolean), false, prog_4_method_4_code),
  (145, 915, ⟨"MoonReapers", "drift", "(III)I"⟩, 5, (some Jvm.ClassFile.FieldType.int), false, prog_1_method_36_code),
  (87, 919, ⟨"MoonReapers$Plan", "afterDrift", "(LMoonReapers$Field;II)LMoonReapers$Field;"⟩, 7, (some (Jvm.ClassFile.FieldType.object "MoonReapers$Field")), false, prog_5_method_5_code),
  (50, 924, ⟨"MoonReapers$Field", "allOil", "()I"⟩, 1, (some Jvm.ClassFile.FieldType.int), false, prog_2_method_15_code),
  (146, 928, ⟨"MoonReapers", "keep", "(I)I"⟩, 3, (some Jvm.ClassFile.FieldType.int), false, prog_1_method_37_code),
  (54, 932, ⟨"MoonReapers$State", "copyFrom", "(LMoonReapers$State;)V"⟩, 2, none, false, prog_9_method_2_code),
  (58, 937, ⟨"MoonReapers$Seen", "copyFrom", "(LMoonReapers$Seen;)V"⟩, 2, none, false, prog_7_method_3_code),
  (62, 942, ⟨"MoonReapers$Paid", "copyFrom", "(LMoonReapers$Paid;)V"⟩, 2, none, false, prog_4_method_3_code),
  (147, 947, ⟨"MoonReapers", "back", "(I)I"⟩, 2, (some Jvm.ClassFile.FieldType.int), false, prog_1_method_38_code),
  (148, 951, ⟨"MoonReapers", "sheet", "(III)I"⟩, 4, (some Jvm.ClassFile.FieldType.int), false, prog_1_method_39_code),
  (95, 955, ⟨"MoonReapers$Sheets", "renew", "(III)V"⟩, 4, none, false, prog_8_method_7_code),
  (96, 958, ⟨"MoonReapers$Sheets", "isSheet", "(I)Z"⟩, 1, (some Jvm.ClassFile.FieldType.boolean), true, prog_8_method_2_code),
  (149, 962, ⟨"MoonReapers", "lay", "(III)I"⟩, 4, (some Jvm.ClassFile.FieldType.int), false, prog_1_method_40_code),
  (97, 966, ⟨"MoonReapers$Sheets", "isNothing", "(I)Z"⟩, 2, (some Jvm.ClassFile.FieldType.boolean), false, prog_8_method_3_code),
  (98, 970, ⟨"MoonReapers$Sheets", "hasCell", "(II)Z"⟩, 3, (some Jvm.ClassFile.FieldType.boolean), false, prog_8_method_5_code),
  (99, 974, ⟨"MoonReapers$Sheets", "sizeOf", "(I)I"⟩, 2, (some Jvm.ClassFile.FieldType.int), false, prog_8_method_4_code),
  (100, 979, ⟨"MoonReapers$Sheets", "put", "(III)V"⟩, 4, none, false, prog_8_method_8_code),
  (150, 984, ⟨"MoonReapers", "read", "(IIII)I"⟩, 7, (some Jvm.ClassFile.FieldType.int), false, prog_1_method_41_code),
  (101, 988, ⟨"MoonReapers$Sheets", "isOfLane", "(II)Z"⟩, 3, (some Jvm.ClassFile.FieldType.boolean), false, prog_8_method_6_code),
  (102, 992, ⟨"MoonReapers$Sheets", "wholePairs", "(III)I"⟩, 5, (some Jvm.ClassFile.FieldType.int), false, prog_8_method_10_code),
  (103, 996, ⟨"MoonReapers$Sheets", "cell", "(II)I"⟩, 3, (some Jvm.ClassFile.FieldType.int), false, prog_8_method_9_code),
  (104, 1001, ⟨"MoonReapers$Sheets", "faultOfReading", "(IIII)I"⟩, 5, (some Jvm.ClassFile.FieldType.int), false, prog_8_method_11_code),
  (151, 1006, ⟨"MoonReapers", "torn", "()I"⟩, 1, (some Jvm.ClassFile.FieldType.int), false, prog_1_method_42_code),
  (152, 1010, ⟨"MoonReapers", "count", "(I)I"⟩, 2, (some Jvm.ClassFile.FieldType.int), false, prog_1_method_43_code),
  (51, 1014, ⟨"MoonReapers$Field", "stripsWithYards", "()I"⟩, 3, (some Jvm.ClassFile.FieldType.int), false, prog_2_method_14_code),
  (52, 1018, ⟨"MoonReapers$Field", "allWages", "()I"⟩, 1, (some Jvm.ClassFile.FieldType.int), false, prog_2_method_16_code),
  (3, 1021, ⟨"java/lang/Integer", "bitCount", "(I)I"⟩, 1, (some Jvm.ClassFile.FieldType.int), true, prog_12_method_49_code),
  (153, 1030, ⟨"MoonReapersModel", "<init>", "()V"⟩, 2, none, false, prog_11_method_1_code),
  (154, 1035, ⟨"MoonReapersModel", "firstDraft", "()V"⟩, 2, none, false, prog_11_method_5_code),
  (155, 1039, ⟨"MoonReapersModel", "keepDraft", "()V"⟩, 2, none, false, prog_11_method_6_code),
  (156, 1132, ⟨"MoonReapersModel", "feed", "(I)I"⟩, 2, (some Jvm.ClassFile.FieldType.int), false, prog_11_method_7_code),
  (157, 1136, ⟨"MoonReapersModel", "in", "(JJJ)Z"⟩, 6, (some Jvm.ClassFile.FieldType.boolean), true, prog_11_method_3_code),
  (158, 1140, ⟨"MoonReapersModel", "end", "(I)I"⟩, 3, (some Jvm.ClassFile.FieldType.int), false, prog_11_method_8_code),
  (159, 1144, ⟨"MoonReapersModel", "text", "()I"⟩, 2, (some Jvm.ClassFile.FieldType.int), false, prog_11_method_21_code),
  (160, 1148, ⟨"MoonReapersModel", "next", "()V"⟩, 2, none, false, prog_11_method_14_code),
  (161, 1152, ⟨"MoonReapersModel", "byteAt", "(I)I"⟩, 2, (some Jvm.ClassFile.FieldType.int), false, prog_11_method_10_code),
  (162, 1160, ⟨"MoonReapersModel", "needs", "(ZI)V"⟩, 3, none, false, prog_11_method_9_code),
  (163, 1164, ⟨"MoonReapersModel", "readLine", "()V"⟩, 2, none, false, prog_11_method_20_code),
  (164, 1168, ⟨"MoonReapersModel", "lineNow", "()I"⟩, 1, (some Jvm.ClassFile.FieldType.int), false, prog_11_method_13_code),
  (165, 1172, ⟨"MoonReapersModel", "is", "(IIII)Z"⟩, 5, (some Jvm.ClassFile.FieldType.boolean), false, prog_11_method_11_code),
  (166, 1176, ⟨"MoonReapersModel", "ends", "(IIII)Z"⟩, 5, (some Jvm.ClassFile.FieldType.boolean), false, prog_11_method_12_code),
  (167, 1180, ⟨"MoonReapersModel", "readLineOf", "(I)V"⟩, 2, none, false, prog_11_method_19_code),
  (168, 1184, ⟨"MoonReapersModel", "readNumber", "(II)I"⟩, 4, (some Jvm.ClassFile.FieldType.int), false, prog_11_method_16_code),
  (169, 1188, ⟨"MoonReapersModel", "looked", "(II)I"⟩, 3, (some Jvm.ClassFile.FieldType.int), false, prog_11_method_15_code),
  (170, 1192, ⟨"MoonReapersModel", "readReaper", "()V"⟩, 3, none, false, prog_11_method_18_code),
  (171, 1196, ⟨"MoonReapersModel", "readFresh", "(II)I"⟩, 4, (some Jvm.ClassFile.FieldType.int), false, prog_11_method_17_code),
  (172, 1200, ⟨"MoonReapersModel", "fault", "()I"⟩, 1, (some Jvm.ClassFile.FieldType.int), false, prog_11_method_22_code),
  (173, 1204, ⟨"MoonReapersModel", "rule", "(I)I"⟩, 2, (some Jvm.ClassFile.FieldType.int), false, prog_11_method_37_code),
  (174, 1208, ⟨"MoonReapersModel", "starts", "()V"⟩, 2, none, false, prog_11_method_26_code),
  (175, 1212, ⟨"MoonReapersModel", "standing", "()I"⟩, 3, (some Jvm.ClassFile.FieldType.int), false, prog_11_method_29_code),
  (176, 1216, ⟨"MoonReapersModel", "strip", "(II)I"⟩, 5, (some Jvm.ClassFile.FieldType.int), false, prog_11_method_38_code),
  (177, 1220, ⟨"MoonReapersModel", "isStrip", "(I)Z"⟩, 2, (some Jvm.ClassFile.FieldType.boolean), false, prog_11_method_23_code),
  (178, 1225, ⟨"MoonReapersModel", "of", "(II)I"⟩, 3, (some Jvm.ClassFile.FieldType.int), false, prog_11_method_27_code),
  (179, 1228, ⟨"MoonReapersModel", "flag", "(Z)I"⟩, 1, (some Jvm.ClassFile.FieldType.int), true, prog_11_method_4_code),
  (180, 1232, ⟨"MoonReapersModel", "reaper", "(II)I"⟩, 3, (some Jvm.ClassFile.FieldType.int), false, prog_11_method_39_code),
  (181, 1236, ⟨"MoonReapersModel", "isReaper", "(I)Z"⟩, 2, (some Jvm.ClassFile.FieldType.boolean), false, prog_11_method_24_code),
  (182, 1241, ⟨"MoonReapersModel", "harvest", "(I)I"⟩, 2, (some Jvm.ClassFile.FieldType.int), false, prog_11_method_40_code),
  (183, 1244, ⟨"MoonReapersModel", "isOwner", "(I)Z"⟩, 1, (some Jvm.ClassFile.FieldType.boolean), true, prog_11_method_25_code),
  (184, 1248, ⟨"MoonReapersModel", "send", "(II)I"⟩, 3, (some Jvm.ClassFile.FieldType.int), false, prog_11_method_42_code),
  (185, 1252, ⟨"MoonReapersModel", "becomes", "(II)I"⟩, 4, (some Jvm.ClassFile.FieldType.int), false, prog_11_method_41_code),
  (186, 1256, ⟨"MoonReapersModel", "lend", "(III)I"⟩, 6, (some Jvm.ClassFile.FieldType.int), false, prog_11_method_43_code),
  (187, 1262, ⟨"MoonReapersModel", "whet", "(II)I"⟩, 3, (some Jvm.ClassFile.FieldType.int), false, prog_11_method_44_code),
  (188, 1266, ⟨"MoonReapersModel", "fill", "(II)I"⟩, 3, (some Jvm.ClassFile.FieldType.int), false, prog_11_method_45_code),
  (189, 1270, ⟨"MoonReapersModel", "cloud", "(IZ)I"⟩, 4, (some Jvm.ClassFile.FieldType.int), false, prog_11_method_46_code),
  (190, 1274, ⟨"MoonReapersModel", "thistle", "(IZ)I"⟩, 3, (some Jvm.ClassFile.FieldType.int), false, prog_11_method_47_code),
  (191, 1278, ⟨"MoonReapersModel", "own", "(II)I"⟩, 3, (some Jvm.ClassFile.FieldType.int), false, prog_11_method_48_code),
  (192, 1282, ⟨"MoonReapersModel", "grow", "(II)I"⟩, 3, (some Jvm.ClassFile.FieldType.int), false, prog_11_method_49_code),
  (193, 1287, ⟨"MoonReapersModel", "go", "(I)I"⟩, 4, (some Jvm.ClassFile.FieldType.int), false, prog_11_method_50_code),
  (194, 1292, ⟨"MoonReapersModel", "goesTo", "(I)V"⟩, 3, none, false, prog_11_method_35_code),
  (195, 1296, ⟨"MoonReapersModel", "goesOn", "()V"⟩, 1, none, false, prog_11_method_34_code),
  (196, 1300, ⟨"MoonReapersModel", "goesBy", "(Z)V"⟩, 3, none, false, prog_11_method_33_code),
  (197, 1304, ⟨"MoonReapersModel", "does", "(IZ)V"⟩, 4, none, false, prog_11_method_32_code),
  (198, 1308, ⟨"MoonReapersModel", "nearest", "(I)I"⟩, 7, (some Jvm.ClassFile.FieldType.int), false, prog_11_method_30_code),
  (199, 1313, ⟨"MoonReapersModel", "becomesOf", "(III)V"⟩, 4, none, false, prog_11_method_28_code),
  (200, 1317, ⟨"MoonReapersModel", "cuts", "(IZ)V"⟩, 6, none, false, prog_11_method_31_code),
  (201, 1321, ⟨"MoonReapersModel", "ahead", "(III)I"⟩, 4, (some Jvm.ClassFile.FieldType.int), false, prog_11_method_51_code),
  (202, 1325, ⟨"MoonReapersModel", "stands", "(II)I"⟩, 3, (some Jvm.ClassFile.FieldType.int), false, prog_11_method_52_code),
  (203, 1329, ⟨"MoonReapersModel", "done", "(I)I"⟩, 3, (some Jvm.ClassFile.FieldType.int), false, prog_11_method_53_code),
  (204, 1333, ⟨"MoonReapersModel", "doneBehind", "()I"⟩, 2, (some Jvm.ClassFile.FieldType.int), false, prog_11_method_36_code),
  (205, 1337, ⟨"MoonReapersModel", "left", "()I"⟩, 1, (some Jvm.ClassFile.FieldType.int), false, prog_11_method_54_code),
  (206, 1341, ⟨"MoonReapersModel", "begin", "(I)I"⟩, 7, (some Jvm.ClassFile.FieldType.int), false, prog_11_method_58_code),
  (207, 1345, ⟨"MoonReapersModel", "rowsOf", "(I)I"⟩, 4, (some Jvm.ClassFile.FieldType.int), false, prog_11_method_55_code),
  (208, 1349, ⟨"MoonReapersModel", "begins", "(I)V"⟩, 3, none, false, prog_11_method_57_code),
  (209, 1353, ⟨"MoonReapersModel", "toldBy", "(III)I"⟩, 6, (some Jvm.ClassFile.FieldType.int), false, prog_11_method_56_code),
  (210, 1357, ⟨"MoonReapersModel", "best", "(II)I"⟩, 6, (some Jvm.ClassFile.FieldType.int), false, prog_11_method_59_code),
  (211, 1361, ⟨"MoonReapersModel", "oil", "(I)I"⟩, 3, (some Jvm.ClassFile.FieldType.int), false, prog_11_method_60_code),
  (212, 1365, ⟨"MoonReapersModel", "least", "(I)I"⟩, 7, (some Jvm.ClassFile.FieldType.int), false, prog_11_method_61_code),
  (213, 1369, ⟨"MoonReapersModel", "luck", "(II)J"⟩, 13, (some Jvm.ClassFile.FieldType.long), false, prog_11_method_63_code),
  (214, 1373, ⟨"MoonReapersModel", "common", "(JJ)J"⟩, 10, (some Jvm.ClassFile.FieldType.long), true, prog_11_method_62_code),
  (215, 1377, ⟨"MoonReapersModel", "see", "(IIZ)I"⟩, 5, (some Jvm.ClassFile.FieldType.int), false, prog_11_method_64_code),
  (216, 1382, ⟨"MoonReapersModel", "forget", "(I)I"⟩, 2, (some Jvm.ClassFile.FieldType.int), false, prog_11_method_65_code),
  (217, 1386, ⟨"MoonReapersModel", "hare", "(I)I"⟩, 4, (some Jvm.ClassFile.FieldType.int), false, prog_11_method_71_code),
  (218, 1390, ⟨"MoonReapersModel", "findRuns", "()V"⟩, 4, none, false, prog_11_method_69_code),
  (219, 1394, ⟨"MoonReapersModel", "besides", "([III)I"⟩, 5, (some Jvm.ClassFile.FieldType.int), false, prog_11_method_68_code),
  (220, 1397, ⟨"MoonReapersModel", "inRow", "([III)I"⟩, 3, (some Jvm.ClassFile.FieldType.int), true, prog_11_method_67_code),
  (221, 1401, ⟨"MoonReapersModel", "canStand", "(II)Z"⟩, 6, (some Jvm.ClassFile.FieldType.boolean), false, prog_11_method_66_code),
  (222, 1405, ⟨"MoonReapersModel", "runsAt", "(II)I"⟩, 4, (some Jvm.ClassFile.FieldType.int), false, prog_11_method_70_code),
  (223, 1409, ⟨"MoonReapersModel", "runs", "()I"⟩, 1, (some Jvm.ClassFile.FieldType.int), false, prog_11_method_73_code),
  (224, 1413, ⟨"MoonReapersModel", "allRuns", "()I"⟩, 3, (some Jvm.ClassFile.FieldType.int), false, prog_11_method_72_code),
  (225, 1417, ⟨"MoonReapersModel", "look", "(II)I"⟩, 9, (some Jvm.ClassFile.FieldType.int), false, prog_11_method_74_code),
  (226, 1421, ⟨"MoonReapersModel", "pay", "(II)I"⟩, 3, (some Jvm.ClassFile.FieldType.int), false, prog_11_method_75_code),
  (227, 1426, ⟨"MoonReapersModel", "owe", "(I)I"⟩, 2, (some Jvm.ClassFile.FieldType.int), false, prog_11_method_76_code),
  (228, 1430, ⟨"MoonReapersModel", "fits", "(I)I"⟩, 7, (some Jvm.ClassFile.FieldType.int), false, prog_11_method_77_code),
  (229, 1434, ⟨"MoonReapersModel", "drift", "(III)I"⟩, 7, (some Jvm.ClassFile.FieldType.int), false, prog_11_method_78_code),
  (230, 1439, ⟨"MoonReapersModel", "keep", "(I)I"⟩, 3, (some Jvm.ClassFile.FieldType.int), false, prog_11_method_80_code),
  (231, 1443, ⟨"MoonReapersModel", "copies", "(II)V"⟩, 4, none, false, prog_11_method_79_code),
  (232, 1447, ⟨"MoonReapersModel", "back", "(I)I"⟩, 2, (some Jvm.ClassFile.FieldType.int), false, prog_11_method_81_code),
  (233, 1451, ⟨"MoonReapersModel", "sheet", "(III)I"⟩, 5, (some Jvm.ClassFile.FieldType.int), false, prog_11_method_83_code),
  (234, 1454, ⟨"MoonReapersModel", "isSheet", "(II)Z"⟩, 2, (some Jvm.ClassFile.FieldType.boolean), true, prog_11_method_82_code),
  (235, 1459, ⟨"MoonReapersModel", "lay", "(III)I"⟩, 4, (some Jvm.ClassFile.FieldType.int), false, prog_11_method_84_code),
  (236, 1463, ⟨"MoonReapersModel", "read", "(IIII)I"⟩, 11, (some Jvm.ClassFile.FieldType.int), false, prog_11_method_85_code),
  (237, 1469, ⟨"MoonReapersModel", "torn", "()I"⟩, 1, (some Jvm.ClassFile.FieldType.int), false, prog_11_method_86_code),
  (238, 1473, ⟨"MoonReapersModel", "count", "(I)I"⟩, 6, (some Jvm.ClassFile.FieldType.int), false, prog_11_method_87_code)]
noncomputable def am_x3 : List Nat := [90, 98, 104, 227, 235, 255, 287, 319, 336, 341, 385, 389, 392, 396, 400, 404, 408, 414, 418, 421, 424, 428, 432, 436, 440, 443, 452, 455, 459, 465, 469, 473, 504, 510, 517, 521, 526, 529, 533, 537, 541, 544, 548, 555, 559, 563, 567, 573, 578, 582, 586, 590, 594, 599, 603, 606, 610, 614, 620, 624, 628, 632, 636, 640, 645, 650, 654, 658, 662, 665, 669, 675, 679, 683, 688, 693, 697, 702, 705, 710, 713, 718, 725, 729, 734, 738, 742, 746, 750, 755, 759, 763, 767, 771, 776, 780, 784, 788, 791, 796, 801, 804, 808, 813, 817, 822, 826, 829, 833, 837, 841, 845, 850, 855, 858, 861, 865, 869, 873, 877, 883, 887, 891, 895, 899, 904, 907, 913, 917, 922, 926, 930, 935, 940, 945, 949, 953, 957, 960, 964, 968, 972, 977, 982, 986, 990, 994, 999, 1004, 1008, 1012, 1016, 1020, 1029, 1034, 1038, 1130, 1135, 1138, 1142, 1147, 1151, 1159, 1163, 1167, 1171, 1175, 1179, 1183, 1187, 1191, 1195, 1198, 1202, 1207, 1211, 1214, 1219, 1224, 1227, 1230, 1235, 1239, 1243, 1246, 1251, 1254, 1260, 1264, 1268, 1272, 1276, 1280, 1285, 1291, 1295, 1299, 1303, 1307, 1312, 1316, 1319, 1323, 1327, 1332, 1335, 1339, 1344, 1348, 1352, 1355, 1359, 1363, 1367, 1372, 1375, 1380, 1384, 1389, 1393, 1396, 1400, 1404, 1407, 1412, 1415, 1419, 1424, 1428, 1432, 1437, 1442, 1445, 1449, 1453, 1457, 1461, 1467, 1471]
noncomputable def am_jc : List String := ["MoonReapers", "MoonReapers$Reader", "MoonReapers$Field", "MoonReapers$State", "MoonReapers$Seen", "MoonReapers$Paid", "MoonReapers$Plan", "MoonReapers$Hare", "MoonReapers$Sheets", "java/util/Arrays", "MoonReapersModel", "java/lang/String", "java/lang/StringLatin1", "java/lang/Math", "java/lang/Integer"]
noncomputable def am_xc : List Nat := [69, 70, 71, 72, 73, 74, 75, 76, 77, 78, 79, 80, 81, 85, 86]
noncomputable def am_jd : List Nat := [0, 1, 2, 3, 4, 5, 6, 7, 8, 9, 0, 0, 1, 0, 0, 1, 2, 1, 1, 1, 1, 1, 1, 1, 1, 1, 1, 11, 11, 11, 11, 12, 1, 1, 2, 2, 1, 2, 2, 0, 1, 2, 2, 0, 0, 2, 0, 2, 0, 2, 2, 0, 0, 0, 13, 0, 0, 0, 0, 0, 0, 0, 2, 2, 2, 2, 2, 2, 13, 0, 6, 0, 0, 6, 2, 0, 0, 0, 6, 6, 2, 6, 6, 6, 6, 6, 6, 0, 6, 0, 6, 0, 6, 2, 6, 6, 6, 6, 0, 6, 6, 0, 2, 2, 6, 6, 0, 0, 4, 0, 0, 7, 4, 7, 13, 7, 0, 7, 0, 7, 0, 5, 0, 0, 6, 6, 5, 0, 6, 2, 0, 3, 4, 5, 0, 0, 8, 8, 0, 8, 8, 8, 8, 0, 8, 8, 8, 8, 0, 0, 2, 2, 14, 10, 10, 10, 10, 10, 10, 10, 10, 10, 10, 10, 10, 10, 10, 10, 10, 10, 10, 10, 10, 10, 10, 10, 10, 10, 10, 10, 10, 10, 10, 10, 10, 10, 10, 10, 10, 10, 10, 10, 10, 10, 10, 10, 10, 10, 10, 10, 10, 10, 10, 10, 10, 10, 10, 10, 10, 10, 10, 10, 10, 10, 10, 10, 10, 10, 10, 10, 10, 10, 10, 10, 10, 10, 10, 10, 10, 10, 10, 10, 10, 10, 10, 10, 10, 10, 10]
noncomputable def am_ji : List Nat := [105, 10, 27, 53, 55, 59, 63, 88, 94, 153]
noncomputable def am_jr : List (Nat × MethodName) := [(13, ⟨"MoonReapers$Reader", "readToken", "()V"⟩), (14, ⟨"MoonReapers$Reader", "byteAt", "(I)I"⟩), (17, ⟨"MoonReapers$Reader", "readFigures", "()V"⟩), (18, ⟨"MoonReapers$Reader", "fail", "(II)V"⟩), (19, ⟨"MoonReapers$Reader", "readLine", "()V"⟩), (20, ⟨"MoonReapers$Reader", "lineOfName", "()I"⟩), (22, ⟨"MoonReapers$Reader", "isName", "(Ljava/lang/String;)Z"⟩), (23, ⟨"MoonReapers$Reader", "beginLine", "(I)V"⟩), (24, ⟨"MoonReapers$Reader", "readNumber", "(II)V"⟩), (25, ⟨"MoonReapers$Reader", "takeLine", "(I)V"⟩), (26, ⟨"MoonReapers$Reader", "tellsOfWhatIsNot", "()Z"⟩), (42, ⟨"MoonReapers$Field", "work", "(IZ)I"⟩), (43, ⟨"MoonReapers$Field", "nearestWithYards", "(I)I"⟩), (44, ⟨"MoonReapers$Field", "cut", "(II)I"⟩), (130, ⟨"MoonReapers", "asksOfReaper", "(I)Z"⟩), (67, ⟨"MoonReapers$Plan", "countReach", "(LMoonReapers$Field;)V"⟩), (68, ⟨"MoonReapers$Plan", "startPicks", "(I)V"⟩), (69, ⟨"MoonReapers$Plan", "isInReach", "(II)Z"⟩), (70, ⟨"MoonReapers$Plan", "beginAsPicked", "(LMoonReapers$Field;)V"⟩), (71, ⟨"MoonReapers$Plan", "choosePicks", "()V"⟩), (72, ⟨"MoonReapers$Plan", "turnPicks", "(I)Z"⟩), (77, ⟨"MoonReapers$Plan", "countMostCut", "(LMoonReapers$Field;)V"⟩), (78, ⟨"MoonReapers$Plan", "sumOfPicks", "(I)I"⟩), (79, ⟨"MoonReapers$Plan", "mostCutByPicks", "(I)I"⟩), (80, ⟨"MoonReapers$Plan", "isDoneByPicks", "(LMoonReapers$Field;I)Z"⟩), (82, ⟨"MoonReapers$Plan", "weightFrom", "(II)J"⟩), (49, ⟨"MoonReapers$Field", "sumOfReapers", "([I)I"⟩), (83, ⟨"MoonReapers$Plan", "save", "([I)V"⟩), (84, ⟨"MoonReapers$Plan", "restore", "([I)V"⟩), (90, ⟨"MoonReapers$Hare", "besides", "([II)I"⟩), (86, ⟨"MoonReapers$Plan", "isFitting", "(LMoonReapers$Field;LMoonReapers$Paid;)Z"⟩), (154, ⟨"MoonReapersModel", "firstDraft", "()V"⟩), (155, ⟨"MoonReapersModel", "keepDraft", "()V"⟩), (160, ⟨"MoonReapersModel", "next", "()V"⟩), (161, ⟨"MoonReapersModel", "byteAt", "(I)I"⟩), (162, ⟨"MoonReapersModel", "needs", "(ZI)V"⟩), (163, ⟨"MoonReapersModel", "readLine", "()V"⟩), (164, ⟨"MoonReapersModel", "lineNow", "()I"⟩), (165, ⟨"MoonReapersModel", "is", "(IIII)Z"⟩), (166, ⟨"MoonReapersModel", "ends", "(IIII)Z"⟩), (167, ⟨"MoonReapersModel", "readLineOf", "(I)V"⟩), (168, ⟨"MoonReapersModel", "readNumber", "(II)I"⟩), (169, ⟨"MoonReapersModel", "looked", "(II)I"⟩), (170, ⟨"MoonReapersModel", "readReaper", "()V"⟩), (171, ⟨"MoonReapersModel", "readFresh", "(II)I"⟩), (174, ⟨"MoonReapersModel", "starts", "()V"⟩), (175, ⟨"MoonReapersModel", "standing", "()I"⟩), (177, ⟨"MoonReapersModel", "isStrip", "(I)Z"⟩), (178, ⟨"MoonReapersModel", "of", "(II)I"⟩), (181, ⟨"MoonReapersModel", "isReaper", "(I)Z"⟩), (185, ⟨"MoonReapersModel", "becomes", "(II)I"⟩), (194, ⟨"MoonReapersModel", "goesTo", "(I)V"⟩), (195, ⟨"MoonReapersModel", "goesOn", "()V"⟩), (196, ⟨"MoonReapersModel", "goesBy", "(Z)V"⟩), (197, ⟨"MoonReapersModel", "does", "(IZ)V"⟩), (198, ⟨"MoonReapersModel", "nearest", "(I)I"⟩), (199, ⟨"MoonReapersModel", "becomesOf", "(III)V"⟩), (200, ⟨"MoonReapersModel", "cuts", "(IZ)V"⟩), (204, ⟨"MoonReapersModel", "doneBehind", "()I"⟩), (207, ⟨"MoonReapersModel", "rowsOf", "(I)I"⟩), (208, ⟨"MoonReapersModel", "begins", "(I)V"⟩), (209, ⟨"MoonReapersModel", "toldBy", "(III)I"⟩), (218, ⟨"MoonReapersModel", "findRuns", "()V"⟩), (219, ⟨"MoonReapersModel", "besides", "([III)I"⟩), (221, ⟨"MoonReapersModel", "canStand", "(II)Z"⟩), (222, ⟨"MoonReapersModel", "runsAt", "(II)I"⟩), (224, ⟨"MoonReapersModel", "allRuns", "()I"⟩), (231, ⟨"MoonReapersModel", "copies", "(II)V"⟩)]
noncomputable def am_xr : List Nat := [0, 1, 2, 3, 4, 5, 6, 7, 8, 9, 10, 11, 12, 13, 14, 15, 16, 17, 18, 19, 20, 21, 22, 23, 24, 25, 26, 27, 28, 29, 30, 31, 32, 33, 34, 35, 36, 37, 38, 39, 40, 41, 42, 43, 44, 45, 46, 47, 48, 49, 50, 51, 52, 53, 54, 55, 56, 57, 58, 59, 60, 61, 62, 63, 64, 65, 66, 67]
noncomputable def am_ju : List (Nat × MethodName) := [(106, ⟨"MoonReapers", "feed", "(I)I"⟩), (11, ⟨"MoonReapers$Reader", "put", "(I)I"⟩), (108, ⟨"MoonReapers", "end", "(I)I"⟩), (109, ⟨"MoonReapers", "text", "()I"⟩), (12, ⟨"MoonReapers$Reader", "readAll", "()I"⟩), (28, ⟨"MoonReapers$Field", "clear", "()V"⟩), (6, ⟨"java/lang/String", "length", "()I"⟩), (7, ⟨"java/lang/String", "coder", "()B"⟩), (8, ⟨"java/lang/String", "charAt", "(I)C"⟩), (9, ⟨"java/lang/String", "isLatin1", "()Z"⟩), (29, ⟨"MoonReapers$Field", "isCloudy", "(I)Z"⟩), (30, ⟨"MoonReapers$Field", "isThistly", "(I)Z"⟩), (31, ⟨"MoonReapers$Field", "addStrip", "(II)V"⟩), (32, ⟨"MoonReapers$Field", "addReaper", "(III)V"⟩), (33, ⟨"MoonReapers$Field", "isStrip", "(I)Z"⟩), (34, ⟨"MoonReapers$Field", "copyFrom", "(LMoonReapers$Field;)V"⟩), (111, ⟨"MoonReapers", "fault", "()I"⟩), (112, ⟨"MoonReapers", "rule", "(I)I"⟩), (35, ⟨"MoonReapers$Field", "standing", "()I"⟩), (113, ⟨"MoonReapers", "strip", "(II)I"⟩), (36, ⟨"MoonReapers$Field", "reapersAt", "(I)I"⟩), (114, ⟨"MoonReapers", "reaper", "(II)I"⟩), (37, ⟨"MoonReapers$Field", "tellOf", "(II)I"⟩), (38, ⟨"MoonReapers$Field", "isReaper", "(I)Z"⟩), (115, ⟨"MoonReapers", "harvest", "(I)I"⟩), (116, ⟨"MoonReapers", "send", "(II)I"⟩), (117, ⟨"MoonReapers", "lend", "(III)I"⟩), (118, ⟨"MoonReapers", "whet", "(II)I"⟩), (119, ⟨"MoonReapers", "fill", "(II)I"⟩), (120, ⟨"MoonReapers", "cloud", "(IZ)I"⟩), (121, ⟨"MoonReapers", "thistle", "(IZ)I"⟩), (122, ⟨"MoonReapers", "own", "(II)I"⟩), (123, ⟨"MoonReapers", "grow", "(II)I"⟩), (124, ⟨"MoonReapers", "go", "(I)I"⟩), (39, ⟨"MoonReapers$Field", "hoursLeft", "()I"⟩), (40, ⟨"MoonReapers$Field", "pass", "(I)I"⟩), (41, ⟨"MoonReapers$Field", "passHour", "(Z)I"⟩), (125, ⟨"MoonReapers", "ahead", "(III)I"⟩), (64, ⟨"MoonReapers$Plan", "after", "(LMoonReapers$Field;I)LMoonReapers$Field;"⟩), (126, ⟨"MoonReapers", "stands", "(II)I"⟩), (127, ⟨"MoonReapers", "done", "(I)I"⟩), (65, ⟨"MoonReapers$Plan", "doneAfter", "(LMoonReapers$Field;)I"⟩), (45, ⟨"MoonReapers$Field", "passUntilDone", "(II)I"⟩), (128, ⟨"MoonReapers", "left", "()I"⟩), (129, ⟨"MoonReapers", "begin", "(I)I"⟩), (66, ⟨"MoonReapers$Plan", "soonest", "(LMoonReapers$Field;)I"⟩), (46, ⟨"MoonReapers$Field", "cutsAhead", "(III)I"⟩), (73, ⟨"MoonReapers$Plan", "chosenOf", "(I)I"⟩), (131, ⟨"MoonReapers", "best", "(II)I"⟩), (74, ⟨"MoonReapers$Plan", "fewestStanding", "(LMoonReapers$Field;IZ)I"⟩), (132, ⟨"MoonReapers", "oil", "(I)I"⟩), (75, ⟨"MoonReapers$Plan", "leastOilOf", "(LMoonReapers$Field;I)I"⟩), (133, ⟨"MoonReapers", "least", "(I)I"⟩), (76, ⟨"MoonReapers$Plan", "leastOilOfAll", "(LMoonReapers$Field;)I"⟩), (47, ⟨"MoonReapers$Field", "cloudyHoursLeft", "()I"⟩), (134, ⟨"MoonReapers", "luck", "(II)J"⟩), (81, ⟨"MoonReapers$Plan", "weightDone", "(LMoonReapers$Field;I)J"⟩), (48, ⟨"MoonReapers$Field", "allPaces", "()I"⟩), (137, ⟨"MoonReapers", "see", "(IIZ)I"⟩), (56, ⟨"MoonReapers$Seen", "add", "(IIZ)I"⟩), (138, ⟨"MoonReapers", "forget", "(I)I"⟩), (139, ⟨"MoonReapers", "hare", "(I)I"⟩), (89, ⟨"MoonReapers$Hare", "countRuns", "(LMoonReapers$Seen;I)V"⟩), (57, ⟨"MoonReapers$Seen", "allows", "(II)Z"⟩), (91, ⟨"MoonReapers$Hare", "runsThrough", "(II)I"⟩), (140, ⟨"MoonReapers", "runs", "()I"⟩), (92, ⟨"MoonReapers$Hare", "allRuns", "()I"⟩), (141, ⟨"MoonReapers", "look", "(II)I"⟩), (93, ⟨"MoonReapers$Hare", "bestLook", "(IZ)I"⟩), (142, ⟨"MoonReapers", "pay", "(II)I"⟩), (60, ⟨"MoonReapers$Paid", "add", "(II)I"⟩), (143, ⟨"MoonReapers", "owe", "(I)I"⟩), (144, ⟨"MoonReapers", "fits", "(I)I"⟩), (85, ⟨"MoonReapers$Plan", "countFitting", "(LMoonReapers$Field;LMoonReapers$Paid;)I"⟩), (61, ⟨"MoonReapers$Paid", "isAsPaid", "(LMoonReapers$Field;)Z"⟩), (145, ⟨"MoonReapers", "drift", "(III)I"⟩), (87, ⟨"MoonReapers$Plan", "afterDrift", "(LMoonReapers$Field;II)LMoonReapers$Field;"⟩), (50, ⟨"MoonReapers$Field", "allOil", "()I"⟩), (146, ⟨"MoonReapers", "keep", "(I)I"⟩), (54, ⟨"MoonReapers$State", "copyFrom", "(LMoonReapers$State;)V"⟩), (58, ⟨"MoonReapers$Seen", "copyFrom", "(LMoonReapers$Seen;)V"⟩), (62, ⟨"MoonReapers$Paid", "copyFrom", "(LMoonReapers$Paid;)V"⟩), (147, ⟨"MoonReapers", "back", "(I)I"⟩), (148, ⟨"MoonReapers", "sheet", "(III)I"⟩), (95, ⟨"MoonReapers$Sheets", "renew", "(III)V"⟩), (149, ⟨"MoonReapers", "lay", "(III)I"⟩), (97, ⟨"MoonReapers$Sheets", "isNothing", "(I)Z"⟩), (98, ⟨"MoonReapers$Sheets", "hasCell", "(II)Z"⟩), (99, ⟨"MoonReapers$Sheets", "sizeOf", "(I)I"⟩), (100, ⟨"MoonReapers$Sheets", "put", "(III)V"⟩), (150, ⟨"MoonReapers", "read", "(IIII)I"⟩), (101, ⟨"MoonReapers$Sheets", "isOfLane", "(II)Z"⟩), (102, ⟨"MoonReapers$Sheets", "wholePairs", "(III)I"⟩), (103, ⟨"MoonReapers$Sheets", "cell", "(II)I"⟩), (104, ⟨"MoonReapers$Sheets", "faultOfReading", "(IIII)I"⟩), (151, ⟨"MoonReapers", "torn", "()I"⟩), (152, ⟨"MoonReapers", "count", "(I)I"⟩), (51, ⟨"MoonReapers$Field", "stripsWithYards", "()I"⟩), (52, ⟨"MoonReapers$Field", "allWages", "()I"⟩), (156, ⟨"MoonReapersModel", "feed", "(I)I"⟩), (158, ⟨"MoonReapersModel", "end", "(I)I"⟩), (159, ⟨"MoonReapersModel", "text", "()I"⟩), (172, ⟨"MoonReapersModel", "fault", "()I"⟩), (173, ⟨"MoonReapersModel", "rule", "(I)I"⟩), (176, ⟨"MoonReapersModel", "strip", "(II)I"⟩), (180, ⟨"MoonReapersModel", "reaper", "(II)I"⟩), (182, ⟨"MoonReapersModel", "harvest", "(I)I"⟩), (184, ⟨"MoonReapersModel", "send", "(II)I"⟩), (186, ⟨"MoonReapersModel", "lend", "(III)I"⟩), (187, ⟨"MoonReapersModel", "whet", "(II)I"⟩), (188, ⟨"MoonReapersModel", "fill", "(II)I"⟩), (189, ⟨"MoonReapersModel", "cloud", "(IZ)I"⟩), (190, ⟨"MoonReapersModel", "thistle", "(IZ)I"⟩), (191, ⟨"MoonReapersModel", "own", "(II)I"⟩), (192, ⟨"MoonReapersModel", "grow", "(II)I"⟩), (193, ⟨"MoonReapersModel", "go", "(I)I"⟩), (201, ⟨"MoonReapersModel", "ahead", "(III)I"⟩), (202, ⟨"MoonReapersModel", "stands", "(II)I"⟩), (203, ⟨"MoonReapersModel", "done", "(I)I"⟩), (205, ⟨"MoonReapersModel", "left", "()I"⟩), (206, ⟨"MoonReapersModel", "begin", "(I)I"⟩), (210, ⟨"MoonReapersModel", "best", "(II)I"⟩), (211, ⟨"MoonReapersModel", "oil", "(I)I"⟩), (212, ⟨"MoonReapersModel", "least", "(I)I"⟩), (213, ⟨"MoonReapersModel", "luck", "(II)J"⟩), (215, ⟨"MoonReapersModel", "see", "(IIZ)I"⟩), (216, ⟨"MoonReapersModel", "forget", "(I)I"⟩), (217, ⟨"MoonReapersModel", "hare", "(I)I"⟩), (223, ⟨"MoonReapersModel", "runs", "()I"⟩), (225, ⟨"MoonReapersModel", "look", "(II)I"⟩), (226, ⟨"MoonReapersModel", "pay", "(II)I"⟩), (227, ⟨"MoonReapersModel", "owe", "(I)I"⟩), (228, ⟨"MoonReapersModel", "fits", "(I)I"⟩), (229, ⟨"MoonReapersModel", "drift", "(III)I"⟩), (230, ⟨"MoonReapersModel", "keep", "(I)I"⟩), (232, ⟨"MoonReapersModel", "back", "(I)I"⟩), (233, ⟨"MoonReapersModel", "sheet", "(III)I"⟩), (235, ⟨"MoonReapersModel", "lay", "(III)I"⟩), (236, ⟨"MoonReapersModel", "read", "(IIII)I"⟩), (237, ⟨"MoonReapersModel", "torn", "()I"⟩), (238, ⟨"MoonReapersModel", "count", "(I)I"⟩)]
noncomputable def am_xu : List Nat := [386, 393, 397, 401, 405, 409, 456, 460, 466, 470, 518, 522, 530, 534, 545, 549, 556, 560, 564, 568, 574, 579, 583, 587, 591, 595, 600, 607, 611, 615, 621, 625, 629, 633, 637, 641, 646, 666, 670, 676, 680, 684, 689, 694, 698, 706, 714, 743, 747, 751, 756, 760, 764, 768, 772, 792, 797, 809, 830, 834, 838, 842, 846, 851, 862, 866, 870, 874, 878, 884, 888, 892, 896, 900, 908, 914, 918, 923, 927, 931, 936, 941, 946, 950, 954, 961, 965, 969, 973, 978, 983, 987, 991, 995, 1000, 1005, 1009, 1013, 1017, 1131, 1139, 1143, 1199, 1203, 1215, 1231, 1240, 1247, 1255, 1261, 1265, 1269, 1273, 1277, 1281, 1286, 1320, 1324, 1328, 1336, 1340, 1356, 1360, 1364, 1368, 1376, 1381, 1385, 1408, 1416, 1420, 1425, 1429, 1433, 1438, 1446, 1450, 1458, 1462, 1468, 1472]
/-- List.map under another name, so that two maps aren't held against each other function by function -/
noncomputable def am_map {α β : Type} (f : α → β) : List α → List β
  | [] => []
  | a :: l => f a :: am_map f l
theorem am_map_eq {α β : Type} (f : α → β) : ∀ l : List α, am_map f l = l.map f
  | [] => rfl
  | a :: l => by
    show f a :: am_map f l = f a :: l.map f
    rw [am_map_eq f l]
theorem am_mapok {α β : Type} {f g : α → β} {l : List α} (h : am_map f l = l.map g) : ∀ a ∈ l, f a = g a := List.map_inj_left.mp ((am_map_eq f l).symm.trans h)
theorem am_big_mem {w : Cond} (h : w ∈ lw_tbl) (g : goodWord w = true) : w ∈ am_big := List.mem_filter.mpr ⟨h, g⟩
noncomputable def am_w3 (k : Nat) : Cond := match (am_mq k).2.2.2.1 with
  | none => .static (am_infq k).1
  | some _ => .instanceMethod (am_infq k).1
noncomputable def am_w4 (k : Nat) : Cond := .selects (am_infq k).1.cls (am_infq k).1 (am_infq k).1
noncomputable def am_mwd (k : Nat) : Nat × Nat × Nat × Nat := am_mw.getD k (0, 0, 0, 0)
set_option maxRecDepth 100000 in
theorem am_jy_i : am_map (fun q => am_infq q.1) am_jy = am_jy.map fun q => (q.2.2.1, q.2.2.2.2.1) := rfl
set_option maxRecDepth 100000 in
theorem am_jy_b : am_map (fun q => am_bytes q.1) am_jy = am_jy.map fun q => q.2.2.2.2.2.2 := rfl
set_option maxRecDepth 100000 in
theorem am_jy_p : am_pk 0 (am_jy.map fun q => q.2.1) lw_tbl = am_jy.map fun q => some (Cond.code q.2.2.1 q.2.2.2.2.2.2 q.2.2.2.1 q.2.2.2.2.1) := rfl
set_option maxRecDepth 100000 in
theorem am_jy_3 : am_pk 0 am_x3 lw_tbl = am_jy.map fun q => some (bif q.2.2.2.2.2.1 then Cond.static q.2.2.1 else Cond.instanceMethod q.2.2.1) := rfl
theorem am_jy_m : (am_jy.all fun q => Nat.beq (am_mq q.1).2.1 q.2.2.2.1 && (q.2.2.2.2.2.1 == (am_mq q.1).2.2.2.1.isNone)) = true := by decide +kernel
set_option maxRecDepth 100000 in
theorem am_jy_c : am_map (fun q => q.2.2.1.cls) am_jy = am_jd.map fun j => am_jc.getD j "" := rfl
set_option maxRecDepth 100000 in
theorem am_jc_2 : am_pk 0 am_xc lw_tbl = am_jc.map fun c => some (Cond.initialized c) := rfl
theorem am_jdl : (am_jd.all fun j => decide (j < am_jc.length)) = true := by decide +kernel
theorem am_jk : ((List.range 239).all fun k => am_jy.any fun q => Nat.beq q.1 k && Nat.beq q.2.1 (am_mwd k).1) = true := by decide +kernel
set_option maxRecDepth 100000 in
theorem am_ji_n : am_map (fun k => (am_infq k).1.name) am_ji = am_ji.map fun _ => "<init>" := rfl
set_option maxRecDepth 100000 in
theorem am_jr_i : am_map (fun q => (am_infq q.1).1) am_jr = am_jr.map fun q => q.2 := rfl
set_option maxRecDepth 100000 in
theorem am_jr_4 : am_pk 0 am_xr lw_tbl = am_jr.map fun q => some (Cond.selects q.2.cls q.2 q.2) := rfl
set_option maxRecDepth 100000 in
theorem am_ju_i : am_map (fun q => (am_infq q.1).1) am_ju = am_ju.map fun q => q.2 := rfl
set_option maxRecDepth 100000 in
theorem am_ju_4 : am_pk 0 am_xu lw_tbl = am_ju.map fun q => some (Cond.selects q.2.cls q.2 q.2) := rfl
theorem am_jk4 : ((List.range 239).all fun k => (am_mq k).2.2.2.1.isNone || (am_ji.any (fun q => Nat.beq q k) || (am_jr.any (fun q => Nat.beq q.1 k) || am_ju.any (fun q => Nat.beq q.1 k)))) = true := by decide +kernel
theorem am_get {k : Nat} (h : k < 239) : ∃ q ∈ am_jy, q.2.1 = (am_mwd k).1 ∧ am_infq k = (q.2.2.1, q.2.2.2.2.1) ∧ (am_mq k).2.1 = q.2.2.2.1 ∧ q.2.2.2.2.2.1 = (am_mq k).2.2.2.1.isNone ∧ am_bytes k = q.2.2.2.2.2.2 := by
  obtain ⟨q, hq, he⟩ := List.any_eq_true.mp (List.all_eq_true.mp am_jk k (List.mem_range.mpr h))
  obtain ⟨h1, h2⟩ := am_and he
  have e1 := am_beq h1
  subst e1
  obtain ⟨m1, m2⟩ := am_and (List.all_eq_true.mp am_jy_m q hq)
  exact ⟨q, hq, am_beq h2, am_mapok am_jy_i q hq, am_beq m1, eq_of_beq m2, am_mapok am_jy_b q hq⟩
theorem am_g1 {k : Nat} (h : k < 239) : lw_tbl[(am_mwd k).1]? = some (.code (am_infq k).1 (am_bytes k) (am_mq k).2.1 (am_infq k).2) := by
  obtain ⟨q, hq, e2, e3, e4, _, e6⟩ := am_get h
  rw [e3, e4, e6, ← e2]
  exact am_allx (fun q => q.2.1) (fun q => Cond.code q.2.2.1 q.2.2.2.2.2.2 q.2.2.2.1 q.2.2.2.2.1) (by decide +kernel) am_jy_p q hq
theorem am_g2 {k : Nat} (h : k < 239) : Cond.initialized (am_infq k).1.cls ∈ lw_tbl := by
  obtain ⟨q, hq, e2, e3, e4, _⟩ := am_get h
  have m : q.2.2.1.cls ∈ am_map (fun q => q.2.2.1.cls) am_jy := by
    rw [am_map_eq]
    exact List.mem_map.mpr ⟨q, hq, rfl⟩
  rw [am_jy_c] at m
  obtain ⟨j, hj, e⟩ := List.mem_map.mp m
  have hlt : j < am_jc.length := of_decide_eq_true (List.all_eq_true.mp am_jdl j hj)
  have m2 : q.2.2.1.cls ∈ am_jc := by
    rw [← e, List.getD_eq_getElem?_getD, List.getElem?_eq_getElem hlt, Option.getD_some]
    exact List.getElem_mem hlt
  rw [e3]
  exact am_pkmem (f := fun c => Cond.initialized c) (by decide +kernel) am_jc_2 _ m2
theorem am_g3 {k : Nat} (h : k < 239) : am_w3 k ∈ lw_tbl := by
  obtain ⟨q, hq, e2, e3, e4, e5, _⟩ := am_get h
  have p := am_pkmem (f := fun q : Nat × Nat × MethodName × Nat × Option FieldType × Bool × ByteArray => bif q.2.2.2.2.2.1 then Cond.static q.2.2.1 else Cond.instanceMethod q.2.2.1) (by decide +kernel) am_jy_3 q hq
  simp only [e5] at p
  unfold am_w3
  rw [e3]
  cases hs : (am_mq k).2.2.2.1 with
  | none =>
    rw [hs] at p
    exact p
  | some ci =>
    rw [hs] at p
    exact p
theorem am_g4 {k : Nat} (h : k < 239) : (am_mq k).2.2.2.1 = none ∨ (am_infq k).1.name = "<init>" ∨ am_w4 k ∈ lw_tbl := by
  have q := List.all_eq_true.mp am_jk4 k (List.mem_range.mpr h)
  rw [Bool.or_eq_true, Bool.or_eq_true, Bool.or_eq_true] at q
  rcases q with q | q | q | q
  · exact Or.inl (Option.isNone_iff_eq_none.mp q)
  · obtain ⟨j, hj, he⟩ := List.any_eq_true.mp q
    rw [← am_beq he]
    exact Or.inr (Or.inl (am_mapok am_ji_n j hj))
  · obtain ⟨j, hj, he⟩ := List.any_eq_true.mp q
    rw [← am_beq he]
    unfold am_w4
    rw [am_mapok am_jr_i j hj]
    exact Or.inr (Or.inr (am_pkmem (f := fun q : Nat × MethodName => Cond.selects q.2.cls q.2 q.2) (by decide +kernel) am_jr_4 j hj))
  · obtain ⟨j, hj, he⟩ := List.any_eq_true.mp q
    rw [← am_beq he]
    unfold am_w4
    rw [am_mapok am_ju_i j hj]
    exact Or.inr (Or.inr (am_pkmem (f := fun q : Nat × MethodName => Cond.selects q.2.cls q.2 q.2) (by decide +kernel) am_ju_4 j hj))
end
section
/-- names, parameters, classes -/
noncomputable def am_nmy (z : MethodName × Option FieldType) (M : am_M) (o : Nat) : Bool := plainFor z.1 && (decide (z.1.cls ≠ "java/lang/invoke/MethodHandle") && (decide (z.1.cls ≠ "java/lang/invoke/VarHandle") && (decide (am_ownS o = z.1.cls) &&
  (decide ((parseMethodDescriptor z.1.desc).map (fun d => d.parameters.length) = some (M.2.2.1 - (if M.2.2.2.1 = none then 0 else 1))) && (decide (M.2.1 ≤ 13) &&
  ((match M.2.2.2.1 with | none => true | some ci => decide (1 ≤ M.2.2.1) && decide (z.1.cls = (if ci = 20 then "java/lang/String" else (am_clq ci).1)) && decide (ci = 20 ∨ ci < 10)) &&
  (match z.2 with
    | none => M.2.2.2.2 == 0
    | some .int => M.2.2.2.2 == 1
    | some .boolean => M.2.2.2.2 == 2
    | some .long => M.2.2.2.2 == 3
    | some (.object _) => M.2.2.2.2 == 4
    | some .char => M.2.2.2.2 == 5
    | some .byte => M.2.2.2.2 == 6
    | _ => false)))))))
noncomputable def am_nmq (k : Nat) : Bool := am_nmy (am_infq k) (am_mq k) (am_on.getD k 0)
noncomputable def am_pd (d : String) : Option Nat := (parseMethodDescriptor d).map (fun d => d.parameters.length)
noncomputable def am_np (c : String) : Bool := decide (c ≠ "java/lang/invoke/MethodHandle") && decide (c ≠ "java/lang/invoke/VarHandle")
/-- the same; what hangs on a class's name or on a descriptor alone stands as a row of these alone -/
noncomputable def am_nmz : MethodName × Option FieldType → am_M → Nat → Bool
  | (⟨c, n, d⟩, r), M, o => (plainName c || plainFor ⟨c, n, d⟩) && (am_np c && (decide (am_ownS o = c) &&
  (decide (am_pd d = some (M.2.2.1 - (if M.2.2.2.1 = none then 0 else 1))) && (decide (M.2.1 ≤ 13) &&
  ((match M.2.2.2.1 with | none => true | some ci => decide (1 ≤ M.2.2.1) && decide (c = (if ci = 20 then "java/lang/String" else (am_clq ci).1)) && decide (ci = 20 ∨ ci < 10)) &&
  (match r with
    | none => M.2.2.2.2 == 0
    | some .int => M.2.2.2.2 == 1
    | some .boolean => M.2.2.2.2 == 2
    | some .long => M.2.2.2.2 == 3
    | some (.object _) => M.2.2.2.2 == 4
    | some .char => M.2.2.2.2 == 5
    | some .byte => M.2.2.2.2 == 6
    | _ => false))))))
theorem am_nmz_ok : ∀ (z : MethodName × Option FieldType) (M : am_M) (o : Nat), am_nmz z M o = true → am_nmy z M o = true
  | (⟨c, n, d⟩, r), M, o, h => by
    unfold am_nmz at h
    obtain ⟨h1, h⟩ := am_and h
    obtain ⟨h2, h⟩ := am_and h
    obtain ⟨h2, h3⟩ := am_and h2
    have hp : plainFor ⟨c, n, d⟩ = true := by
      rcases Bool.or_eq_true_iff.mp h1 with q | q
      · exact plainFor_of_name (x := ⟨c, n, d⟩) q
      · exact q
    unfold am_nmy
    rw [Bool.and_eq_true, Bool.and_eq_true, Bool.and_eq_true]
    exact ⟨hp, h2, h3, h⟩
theorem am_nz_c : ((List.range 240).all fun k => am_nmz (am_infq k) (am_mq k) (am_on.getD k 0)) = true := by decide +kernel
theorem am_nm_c : ((List.range 240).all am_nmq) = true := List.all_eq_true.mpr fun k hk => am_nmz_ok _ _ _ (List.all_eq_true.mp am_nz_c k hk)
end
section
/-! Facts out of the checks, in the words that the walk uses -/
noncomputable def am_cq (ci : Nat) : Bool := let C := am_clq ci
  ((List.range C.2.2).all fun k => am_wq ((am_lx.getD ci []).getD k 0) (u_lay C.1 C.2.1 k)) &&
  ((List.range C.2.2).all fun k => match (am_ft ci)[k]? with
    | some (ty, fin, v) => decide (parseFieldDescriptor (C.2.1 k).2.2.1 = some ty) && decide ((C.2.1 k).2.2.2 = fin) && decide (defaultValue ty = v)
    | none => false) &&
  decide ((am_ft ci).length = C.2.2) &&
  ((List.range C.2.2).all fun a => (List.range C.2.2).all fun b => decide (a = b) || decide ((C.2.1 a).2.1 ≠ (C.2.1 b).2.1)) &&
  am_wq (am_ly.getD ci (0, 0)).1 (.instantiable C.1 C.2.2) && am_wq (am_ly.getD ci (0, 0)).2 (.initialized C.1)
theorem am_cq_c : ((List.range 10).all am_cq) = true := by decide +kernel
theorem am_cq_all {ci : Nat} (h : ci < 10) : am_cq ci = true := List.all_eq_true.mp am_cq_c ci (List.mem_range.mpr h)
theorem am_cl_get {ci : Nat} (h : ci < 10) : am_cl[ci]? = some (am_clq ci) := by
  match ci, h with
  | 0, _ | 1, _ | 2, _ | 3, _ | 4, _ | 5, _ | 6, _ | 7, _ | 8, _ | 9, _ => rfl
  | _ + 10, h => omega
end
section
/-- final fields are put by their own class's constructors alone -/
noncomputable def am_pfq (k : Nat) : Bool := (am_mq k).1.all fun op => match op with
  | .putfield f => (!(((am_clq (f / 100)).2.1 (f % 100)).2.2.2)) || (decide ((am_infq k).1.name = "<init>") && decide (((am_clq (f / 100)).2.1 (f % 100)).1 = am_ownS (am_on.getD k 0)))
  | _ => true
theorem am_pf_c : ((List.range 240).all am_pfq) = true := by decide +kernel
theorem am_ob_w : Cond.instanceMethod Lib.objectInit ∈ am_big ∧ Cond.code Lib.objectInit ⟨#[0xb1]⟩ 1 none ∈ am_big := by
  refine ⟨by decide +kernel, am_big_at 94 ?_ (by decide +kernel)⟩
  decide +kernel
theorem am_ac_w : Cond.native arraycopyName ∈ am_big ∧ Cond.static arraycopyName ∈ am_big ∧ Cond.initialized "java/lang/System" ∈ am_big := by
  refine ⟨by decide +kernel, by decide +kernel, by decide +kernel⟩
theorem am_arr_w : Cond.arrayClass .int ∈ am_big ∧ Cond.arrayClass .byte ∈ am_big ∧ Cond.arrayClass .boolean ∈ am_big := by
  refine ⟨by decide +kernel, by decide +kernel, by decide +kernel⟩
theorem am_lf_ok {o i f : Nat} (h : am_has4 am_lf o i f = true) : am_fw o i f ∈ am_big := by
  obtain ⟨q, hq, he⟩ := List.any_eq_true.mp h
  simp only [Bool.and_eq_true, beq_iff_eq] at he
  obtain ⟨⟨rfl, rfl⟩, rfl⟩ := he
  exact am_wq_ok (List.all_eq_true.mp am_lf_c q hq)
noncomputable def am_fin (f : Nat) : Bool := decide (f / 100 < 10) && decide (f % 100 < (am_clq (f / 100)).2.2)
theorem am_lf_in : (am_lf.all fun q => am_fin q.2.2.1) = true := by decide +kernel
theorem am_lf_fin {o i f : Nat} (h : am_has4 am_lf o i f = true) : f / 100 < 10 ∧ f % 100 < (am_clq (f / 100)).2.2 := by
  obtain ⟨q, hq, he⟩ := List.any_eq_true.mp h
  simp only [Bool.and_eq_true, beq_iff_eq] at he
  obtain ⟨⟨rfl, rfl⟩, rfl⟩ := he
  have := List.all_eq_true.mp am_lf_in q hq
  simp only [am_fin, Bool.and_eq_true, decide_eq_true_eq] at this
  exact this
theorem am_ln_ok {o i f : Nat} (h : am_has4 am_ln o i f = true) : Cond.classLink (am_ownS o) i (am_clq f).1 ∈ am_big := by
  obtain ⟨q, hq, he⟩ := List.any_eq_true.mp h
  simp only [Bool.and_eq_true, beq_iff_eq] at he
  obtain ⟨⟨rfl, rfl⟩, rfl⟩ := he
  exact am_wq_ok (List.all_eq_true.mp am_ln_c q hq)
theorem am_ln_in : (am_ln.all fun q => decide (q.2.2.1 < 10)) = true := by decide +kernel
theorem am_ln_fin {o i f : Nat} (h : am_has4 am_ln o i f = true) : f < 10 := by
  obtain ⟨q, hq, he⟩ := List.any_eq_true.mp h
  simp only [Bool.and_eq_true, beq_iff_eq] at he
  obtain ⟨⟨rfl, rfl⟩, rfl⟩ := he
  exact of_decide_eq_true (List.all_eq_true.mp am_ln_in q hq)
theorem am_lc_ok {o i : Nat} {x : Int} (h : am_hasI am_lc o i x = true) : Cond.constant (am_ownS o) i (Int32.ofInt x) ∈ am_big := by
  obtain ⟨q, hq, he⟩ := List.any_eq_true.mp h
  simp only [Bool.and_eq_true, beq_iff_eq] at he
  obtain ⟨⟨rfl, rfl⟩, rfl⟩ := he
  exact am_wq_ok (List.all_eq_true.mp am_lc_c q hq)
theorem am_ll_ok {o i : Nat} {x : Int} (h : am_hasI am_ll o i x = true) : Cond.constantLong (am_ownS o) i (Int64.ofInt x) ∈ am_big := by
  obtain ⟨q, hq, he⟩ := List.any_eq_true.mp h
  simp only [Bool.and_eq_true, beq_iff_eq] at he
  obtain ⟨⟨rfl, rfl⟩, rfl⟩ := he
  exact am_wq_ok (List.all_eq_true.mp am_ll_c q hq)
theorem am_lo_ok {o i : Nat} (h : am_has3 am_lo o i = true) : Cond.methodLink (am_ownS o) i Lib.objectInit ∈ am_big := by
  obtain ⟨q, hq, he⟩ := List.any_eq_true.mp h
  simp only [Bool.and_eq_true, beq_iff_eq] at he
  obtain ⟨rfl, rfl⟩ := he
  exact am_wq_ok (List.all_eq_true.mp am_lo_c q hq)
theorem am_la_ok {o i : Nat} (h : am_has3 am_la o i = true) : Cond.methodLink (am_ownS o) i arraycopyName ∈ am_big := by
  obtain ⟨q, hq, he⟩ := List.any_eq_true.mp h
  simp only [Bool.and_eq_true, beq_iff_eq] at he
  obtain ⟨rfl, rfl⟩ := he
  exact am_wq_ok (List.all_eq_true.mp am_la_c q hq)
theorem am_lan_ok {o i : Nat} (h : am_has3 am_lan o i = true) : Cond.classLink (am_ownS o) i "MoonReapers$State" ∈ am_big := by
  obtain ⟨q, hq, he⟩ := List.any_eq_true.mp h
  simp only [Bool.and_eq_true, beq_iff_eq] at he
  obtain ⟨rfl, rfl⟩ := he
  exact am_wq_ok (List.all_eq_true.mp am_lan_c q hq)
theorem am_lma_ok {o i : Nat} (h : am_has3 am_lma o i = true) : Cond.classLink (am_ownS o) i ("[" ++ (FieldType.array .int).toString) ∈ am_big := by
  obtain ⟨q, hq, he⟩ := List.any_eq_true.mp h
  simp only [Bool.and_eq_true, beq_iff_eq] at he
  obtain ⟨rfl, rfl⟩ := he
  exact am_wq_ok (List.all_eq_true.mp am_lma_c q hq)
end
