/-- names, parameters, classes: each descriptor once; class by class; numbers -/
noncomputable def am_pd (d : String) : Option Nat := (parseMethodDescriptor d).map (fun d => d.parameters.length)
theorem am_dt_0 : am_pd "(I)I" = some 1 := by
  show am_pd (String.ofList ['(', 'I', ')', 'I']) = some 1
  unfold am_pd parseMethodDescriptor
  rw [String.toList_ofList]
  decide +kernel
theorem am_dt_1 : am_pd "(II)I" = some 2 := by
  show am_pd (String.ofList ['(', 'I', 'I', ')', 'I']) = some 2
  unfold am_pd parseMethodDescriptor
  rw [String.toList_ofList]
  decide +kernel
theorem am_dt_2 : am_pd "([II)V" = some 2 := by
  show am_pd (String.ofList ['(', '[', 'I', 'I', ')', 'V']) = some 2
  unfold am_pd parseMethodDescriptor
  rw [String.toList_ofList]
  decide +kernel
theorem am_dt_3 : am_pd "([BI)C" = some 2 := by
  show am_pd (String.ofList ['(', '[', 'B', 'I', ')', 'C']) = some 2
  unfold am_pd parseMethodDescriptor
  rw [String.toList_ofList]
  decide +kernel
theorem am_dt_4 : am_pd "()I" = some 0 := by
  show am_pd (String.ofList ['(', ')', 'I']) = some 0
  unfold am_pd parseMethodDescriptor
  rw [String.toList_ofList]
  decide +kernel
theorem am_dt_5 : am_pd "()B" = some 0 := by
  show am_pd (String.ofList ['(', ')', 'B']) = some 0
  unfold am_pd parseMethodDescriptor
  rw [String.toList_ofList]
  decide +kernel
theorem am_dt_6 : am_pd "(I)C" = some 1 := by
  show am_pd (String.ofList ['(', 'I', ')', 'C']) = some 1
  unfold am_pd parseMethodDescriptor
  rw [String.toList_ofList]
  decide +kernel
theorem am_dt_7 : am_pd "()Z" = some 0 := by
  show am_pd (String.ofList ['(', ')', 'Z']) = some 0
  unfold am_pd parseMethodDescriptor
  rw [String.toList_ofList]
  decide +kernel
theorem am_dt_8 : am_pd "()V" = some 0 := by
  show am_pd (String.ofList ['(', ')', 'V']) = some 0
  unfold am_pd parseMethodDescriptor
  rw [String.toList_ofList]
  decide +kernel
theorem am_dt_9 : am_pd "(I)Z" = some 1 := by
  show am_pd (String.ofList ['(', 'I', ')', 'Z']) = some 1
  unfold am_pd parseMethodDescriptor
  rw [String.toList_ofList]
  decide +kernel
theorem am_dt_10 : am_pd "(II)V" = some 2 := by
  show am_pd (String.ofList ['(', 'I', 'I', ')', 'V']) = some 2
  unfold am_pd parseMethodDescriptor
  rw [String.toList_ofList]
  decide +kernel
theorem am_dt_11 : am_pd "(I)Ljava/lang/String;" = some 1 := by
  show am_pd (String.ofList ['(', 'I', ')', 'L', 'j', 'a', 'v', 'a', '/', 'l', 'a', 'n', 'g', '/', 'S', 't', 'r', 'i', 'n', 'g', ';']) = some 1
  unfold am_pd parseMethodDescriptor
  rw [String.toList_ofList]
  decide +kernel
theorem am_dt_12 : am_pd "(Ljava/lang/String;)Z" = some 1 := by
  show am_pd (String.ofList ['(', 'L', 'j', 'a', 'v', 'a', '/', 'l', 'a', 'n', 'g', '/', 'S', 't', 'r', 'i', 'n', 'g', ';', ')', 'Z']) = some 1
  unfold am_pd parseMethodDescriptor
  rw [String.toList_ofList]
  decide +kernel
theorem am_dt_13 : am_pd "(I)V" = some 1 := by
  show am_pd (String.ofList ['(', 'I', ')', 'V']) = some 1
  unfold am_pd parseMethodDescriptor
  rw [String.toList_ofList]
  decide +kernel
theorem am_dt_14 : am_pd "(III)V" = some 3 := by
  show am_pd (String.ofList ['(', 'I', 'I', 'I', ')', 'V']) = some 3
  unfold am_pd parseMethodDescriptor
  rw [String.toList_ofList]
  decide +kernel
theorem am_dt_15 : am_pd "(LMoonReapers$Field;)V" = some 1 := by
  show am_pd (String.ofList ['(', 'L', 'M', 'o', 'o', 'n', 'R', 'e', 'a', 'p', 'e', 'r', 's', '$', 'F', 'i', 'e', 'l', 'd', ';', ')', 'V']) = some 1
  unfold am_pd parseMethodDescriptor
  rw [String.toList_ofList]
  decide +kernel
theorem am_dt_16 : am_pd "(Z)I" = some 1 := by
  show am_pd (String.ofList ['(', 'Z', ')', 'I']) = some 1
  unfold am_pd parseMethodDescriptor
  rw [String.toList_ofList]
  decide +kernel
theorem am_dt_17 : am_pd "(IZ)I" = some 2 := by
  show am_pd (String.ofList ['(', 'I', 'Z', ')', 'I']) = some 2
  unfold am_pd parseMethodDescriptor
  rw [String.toList_ofList]
  decide +kernel
theorem am_dt_18 : am_pd "(III)I" = some 3 := by
  show am_pd (String.ofList ['(', 'I', 'I', 'I', ')', 'I']) = some 3
  unfold am_pd parseMethodDescriptor
  rw [String.toList_ofList]
  decide +kernel
theorem am_dt_19 : am_pd "([I)I" = some 1 := by
  show am_pd (String.ofList ['(', '[', 'I', ')', 'I']) = some 1
  unfold am_pd parseMethodDescriptor
  rw [String.toList_ofList]
  decide +kernel
theorem am_dt_20 : am_pd "(LMoonReapers$State;)V" = some 1 := by
  show am_pd (String.ofList ['(', 'L', 'M', 'o', 'o', 'n', 'R', 'e', 'a', 'p', 'e', 'r', 's', '$', 'S', 't', 'a', 't', 'e', ';', ')', 'V']) = some 1
  unfold am_pd parseMethodDescriptor
  rw [String.toList_ofList]
  decide +kernel
theorem am_dt_21 : am_pd "(IIZ)I" = some 3 := by
  show am_pd (String.ofList ['(', 'I', 'I', 'Z', ')', 'I']) = some 3
  unfold am_pd parseMethodDescriptor
  rw [String.toList_ofList]
  decide +kernel
theorem am_dt_22 : am_pd "(II)Z" = some 2 := by
  show am_pd (String.ofList ['(', 'I', 'I', ')', 'Z']) = some 2
  unfold am_pd parseMethodDescriptor
  rw [String.toList_ofList]
  decide +kernel
theorem am_dt_23 : am_pd "(LMoonReapers$Seen;)V" = some 1 := by
  show am_pd (String.ofList ['(', 'L', 'M', 'o', 'o', 'n', 'R', 'e', 'a', 'p', 'e', 'r', 's', '$', 'S', 'e', 'e', 'n', ';', ')', 'V']) = some 1
  unfold am_pd parseMethodDescriptor
  rw [String.toList_ofList]
  decide +kernel
theorem am_dt_24 : am_pd "(LMoonReapers$Field;)Z" = some 1 := by
  show am_pd (String.ofList ['(', 'L', 'M', 'o', 'o', 'n', 'R', 'e', 'a', 'p', 'e', 'r', 's', '$', 'F', 'i', 'e', 'l', 'd', ';', ')', 'Z']) = some 1
  unfold am_pd parseMethodDescriptor
  rw [String.toList_ofList]
  decide +kernel
theorem am_dt_25 : am_pd "(LMoonReapers$Paid;)V" = some 1 := by
  show am_pd (String.ofList ['(', 'L', 'M', 'o', 'o', 'n', 'R', 'e', 'a', 'p', 'e', 'r', 's', '$', 'P', 'a', 'i', 'd', ';', ')', 'V']) = some 1
  unfold am_pd parseMethodDescriptor
  rw [String.toList_ofList]
  decide +kernel
theorem am_dt_26 : am_pd "(LMoonReapers$Field;I)LMoonReapers$Field;" = some 2 := by
  show am_pd (String.ofList ['(', 'L', 'M', 'o', 'o', 'n', 'R', 'e', 'a', 'p', 'e', 'r', 's', '$', 'F', 'i', 'e', 'l', 'd', ';', 'I', ')', 'L', 'M', 'o', 'o', 'n', 'R', 'e', 'a', 'p', 'e', 'r', 's', '$', 'F', 'i', 'e', 'l', 'd', ';']) = some 2
  unfold am_pd parseMethodDescriptor
  rw [String.toList_ofList]
  decide +kernel
theorem am_dt_27 : am_pd "(LMoonReapers$Field;)I" = some 1 := by
  show am_pd (String.ofList ['(', 'L', 'M', 'o', 'o', 'n', 'R', 'e', 'a', 'p', 'e', 'r', 's', '$', 'F', 'i', 'e', 'l', 'd', ';', ')', 'I']) = some 1
  unfold am_pd parseMethodDescriptor
  rw [String.toList_ofList]
  decide +kernel
theorem am_dt_28 : am_pd "(LMoonReapers$Field;IZ)I" = some 3 := by
  show am_pd (String.ofList ['(', 'L', 'M', 'o', 'o', 'n', 'R', 'e', 'a', 'p', 'e', 'r', 's', '$', 'F', 'i', 'e', 'l', 'd', ';', 'I', 'Z', ')', 'I']) = some 3
  unfold am_pd parseMethodDescriptor
  rw [String.toList_ofList]
  decide +kernel
theorem am_dt_29 : am_pd "(LMoonReapers$Field;I)I" = some 2 := by
  show am_pd (String.ofList ['(', 'L', 'M', 'o', 'o', 'n', 'R', 'e', 'a', 'p', 'e', 'r', 's', '$', 'F', 'i', 'e', 'l', 'd', ';', 'I', ')', 'I']) = some 2
  unfold am_pd parseMethodDescriptor
  rw [String.toList_ofList]
  decide +kernel
theorem am_dt_30 : am_pd "(LMoonReapers$Field;I)Z" = some 2 := by
  show am_pd (String.ofList ['(', 'L', 'M', 'o', 'o', 'n', 'R', 'e', 'a', 'p', 'e', 'r', 's', '$', 'F', 'i', 'e', 'l', 'd', ';', 'I', ')', 'Z']) = some 2
  unfold am_pd parseMethodDescriptor
  rw [String.toList_ofList]
  decide +kernel
theorem am_dt_31 : am_pd "(LMoonReapers$Field;I)J" = some 2 := by
  show am_pd (String.ofList ['(', 'L', 'M', 'o', 'o', 'n', 'R', 'e', 'a', 'p', 'e', 'r', 's', '$', 'F', 'i', 'e', 'l', 'd', ';', 'I', ')', 'J']) = some 2
  unfold am_pd parseMethodDescriptor
  rw [String.toList_ofList]
  decide +kernel
theorem am_dt_32 : am_pd "(II)J" = some 2 := by
  show am_pd (String.ofList ['(', 'I', 'I', ')', 'J']) = some 2
  unfold am_pd parseMethodDescriptor
  rw [String.toList_ofList]
  decide +kernel
theorem am_dt_33 : am_pd "([I)V" = some 1 := by
  show am_pd (String.ofList ['(', '[', 'I', ')', 'V']) = some 1
  unfold am_pd parseMethodDescriptor
  rw [String.toList_ofList]
  decide +kernel
theorem am_dt_34 : am_pd "(LMoonReapers$Field;LMoonReapers$Paid;)I" = some 2 := by
  show am_pd (String.ofList ['(', 'L', 'M', 'o', 'o', 'n', 'R', 'e', 'a', 'p', 'e', 'r', 's', '$', 'F', 'i', 'e', 'l', 'd', ';', 'L', 'M', 'o', 'o', 'n', 'R', 'e', 'a', 'p', 'e', 'r', 's', '$', 'P', 'a', 'i', 'd', ';', ')', 'I']) = some 2
  unfold am_pd parseMethodDescriptor
  rw [String.toList_ofList]
  decide +kernel
theorem am_dt_35 : am_pd "(LMoonReapers$Field;LMoonReapers$Paid;)Z" = some 2 := by
  show am_pd (String.ofList ['(', 'L', 'M', 'o', 'o', 'n', 'R', 'e', 'a', 'p', 'e', 'r', 's', '$', 'F', 'i', 'e', 'l', 'd', ';', 'L', 'M', 'o', 'o', 'n', 'R', 'e', 'a', 'p', 'e', 'r', 's', '$', 'P', 'a', 'i', 'd', ';', ')', 'Z']) = some 2
  unfold am_pd parseMethodDescriptor
  rw [String.toList_ofList]
  decide +kernel
theorem am_dt_36 : am_pd "(LMoonReapers$Field;II)LMoonReapers$Field;" = some 3 := by
  show am_pd (String.ofList ['(', 'L', 'M', 'o', 'o', 'n', 'R', 'e', 'a', 'p', 'e', 'r', 's', '$', 'F', 'i', 'e', 'l', 'd', ';', 'I', 'I', ')', 'L', 'M', 'o', 'o', 'n', 'R', 'e', 'a', 'p', 'e', 'r', 's', '$', 'F', 'i', 'e', 'l', 'd', ';']) = some 3
  unfold am_pd parseMethodDescriptor
  rw [String.toList_ofList]
  decide +kernel
theorem am_dt_37 : am_pd "(LMoonReapers$Seen;I)V" = some 2 := by
  show am_pd (String.ofList ['(', 'L', 'M', 'o', 'o', 'n', 'R', 'e', 'a', 'p', 'e', 'r', 's', '$', 'S', 'e', 'e', 'n', ';', 'I', ')', 'V']) = some 2
  unfold am_pd parseMethodDescriptor
  rw [String.toList_ofList]
  decide +kernel
theorem am_dt_38 : am_pd "([II)I" = some 2 := by
  show am_pd (String.ofList ['(', '[', 'I', 'I', ')', 'I']) = some 2
  unfold am_pd parseMethodDescriptor
  rw [String.toList_ofList]
  decide +kernel
theorem am_dt_39 : am_pd "(IIII)I" = some 4 := by
  show am_pd (String.ofList ['(', 'I', 'I', 'I', 'I', ')', 'I']) = some 4
  unfold am_pd parseMethodDescriptor
  rw [String.toList_ofList]
  decide +kernel
theorem am_dt_40 : am_pd "(III)Z" = some 3 := by
  show am_pd (String.ofList ['(', 'I', 'I', 'I', ')', 'Z']) = some 3
  unfold am_pd parseMethodDescriptor
  rw [String.toList_ofList]
  decide +kernel
theorem am_dt_41 : am_pd "(I)J" = some 1 := by
  show am_pd (String.ofList ['(', 'I', ')', 'J']) = some 1
  unfold am_pd parseMethodDescriptor
  rw [String.toList_ofList]
  decide +kernel
theorem am_dt_42 : am_pd "(JJ)J" = some 2 := by
  show am_pd (String.ofList ['(', 'J', 'J', ')', 'J']) = some 2
  unfold am_pd parseMethodDescriptor
  rw [String.toList_ofList]
  decide +kernel
theorem am_dt_43 : am_pd "(JJJ)Z" = some 3 := by
  show am_pd (String.ofList ['(', 'J', 'J', 'J', ')', 'Z']) = some 3
  unfold am_pd parseMethodDescriptor
  rw [String.toList_ofList]
  decide +kernel
theorem am_dt_44 : am_pd "(ZI)V" = some 2 := by
  show am_pd (String.ofList ['(', 'Z', 'I', ')', 'V']) = some 2
  unfold am_pd parseMethodDescriptor
  rw [String.toList_ofList]
  decide +kernel
theorem am_dt_45 : am_pd "(IIII)Z" = some 4 := by
  show am_pd (String.ofList ['(', 'I', 'I', 'I', 'I', ')', 'Z']) = some 4
  unfold am_pd parseMethodDescriptor
  rw [String.toList_ofList]
  decide +kernel
theorem am_dt_46 : am_pd "(Z)V" = some 1 := by
  show am_pd (String.ofList ['(', 'Z', ')', 'V']) = some 1
  unfold am_pd parseMethodDescriptor
  rw [String.toList_ofList]
  decide +kernel
theorem am_dt_47 : am_pd "(IZ)V" = some 2 := by
  show am_pd (String.ofList ['(', 'I', 'Z', ')', 'V']) = some 2
  unfold am_pd parseMethodDescriptor
  rw [String.toList_ofList]
  decide +kernel
theorem am_dt_48 : am_pd "([III)I" = some 3 := by
  show am_pd (String.ofList ['(', '[', 'I', 'I', 'I', ')', 'I']) = some 3
  unfold am_pd parseMethodDescriptor
  rw [String.toList_ofList]
  decide +kernel
theorem am_dt_49 : am_pd "([I)Z" = some 1 := by
  show am_pd (String.ofList ['(', '[', 'I', ')', 'Z']) = some 1
  unfold am_pd parseMethodDescriptor
  rw [String.toList_ofList]
  decide +kernel
theorem am_dt_d : am_pd "()V" = some 0 := am_dt_8
noncomputable def am_dt : List (String × Nat) := [("(I)I", 1), ("(II)I", 2), ("([II)V", 2), ("([BI)C", 2), ("()I", 0), ("()B", 0), ("(I)C", 1), ("()Z", 0), ("()V", 0), ("(I)Z", 1), ("(II)V", 2), ("(I)Ljava/lang/String;", 1), ("(Ljava/lang/String;)Z", 1), ("(I)V", 1), ("(III)V", 3), ("(LMoonReapers$Field;)V", 1), ("(Z)I", 1), ("(IZ)I", 2), ("(III)I", 3), ("([I)I", 1), ("(LMoonReapers$State;)V", 1), ("(IIZ)I", 3), ("(II)Z", 2), ("(LMoonReapers$Seen;)V", 1), ("(LMoonReapers$Field;)Z", 1), ("(LMoonReapers$Paid;)V", 1), ("(LMoonReapers$Field;I)LMoonReapers$Field;", 2), ("(LMoonReapers$Field;)I", 1), ("(LMoonReapers$Field;IZ)I", 3), ("(LMoonReapers$Field;I)I", 2), ("(LMoonReapers$Field;I)Z", 2), ("(LMoonReapers$Field;I)J", 2), ("(II)J", 2), ("([I)V", 1), ("(LMoonReapers$Field;LMoonReapers$Paid;)I", 2), ("(LMoonReapers$Field;LMoonReapers$Paid;)Z", 2), ("(LMoonReapers$Field;II)LMoonReapers$Field;", 3), ("(LMoonReapers$Seen;I)V", 2), ("([II)I", 2), ("(IIII)I", 4), ("(III)Z", 3), ("(I)J", 1), ("(JJ)J", 2), ("(JJJ)Z", 3), ("(ZI)V", 2), ("(IIII)Z", 4), ("(Z)V", 1), ("(IZ)V", 2), ("([III)I", 3), ("([I)Z", 1)]
set_option maxRecDepth 20000 in
theorem am_dt_ok : ∀ q ∈ am_dt, am_pd q.1 = some q.2 := List.forall_mem_cons.mpr ⟨am_dt_0, List.forall_mem_cons.mpr ⟨am_dt_1, List.forall_mem_cons.mpr ⟨am_dt_2, List.forall_mem_cons.mpr ⟨am_dt_3, List.forall_mem_cons.mpr ⟨am_dt_4, List.forall_mem_cons.mpr ⟨am_dt_5, List.forall_mem_cons.mpr ⟨am_dt_6, List.forall_mem_cons.mpr ⟨am_dt_7, List.forall_mem_cons.mpr ⟨am_dt_8, List.forall_mem_cons.mpr ⟨am_dt_9, List.forall_mem_cons.mpr ⟨am_dt_10, List.forall_mem_cons.mpr ⟨am_dt_11, List.forall_mem_cons.mpr ⟨am_dt_12, List.forall_mem_cons.mpr ⟨am_dt_13, List.forall_mem_cons.mpr ⟨am_dt_14, List.forall_mem_cons.mpr ⟨am_dt_15, List.forall_mem_cons.mpr ⟨am_dt_16, List.forall_mem_cons.mpr ⟨am_dt_17, List.forall_mem_cons.mpr ⟨am_dt_18, List.forall_mem_cons.mpr ⟨am_dt_19, List.forall_mem_cons.mpr ⟨am_dt_20, List.forall_mem_cons.mpr ⟨am_dt_21, List.forall_mem_cons.mpr ⟨am_dt_22, List.forall_mem_cons.mpr ⟨am_dt_23, List.forall_mem_cons.mpr ⟨am_dt_24, List.forall_mem_cons.mpr ⟨am_dt_25, List.forall_mem_cons.mpr ⟨am_dt_26, List.forall_mem_cons.mpr ⟨am_dt_27, List.forall_mem_cons.mpr ⟨am_dt_28, List.forall_mem_cons.mpr ⟨am_dt_29, List.forall_mem_cons.mpr ⟨am_dt_30, List.forall_mem_cons.mpr ⟨am_dt_31, List.forall_mem_cons.mpr ⟨am_dt_32, List.forall_mem_cons.mpr ⟨am_dt_33, List.forall_mem_cons.mpr ⟨am_dt_34, List.forall_mem_cons.mpr ⟨am_dt_35, List.forall_mem_cons.mpr ⟨am_dt_36, List.forall_mem_cons.mpr ⟨am_dt_37, List.forall_mem_cons.mpr ⟨am_dt_38, List.forall_mem_cons.mpr ⟨am_dt_39, List.forall_mem_cons.mpr ⟨am_dt_40, List.forall_mem_cons.mpr ⟨am_dt_41, List.forall_mem_cons.mpr ⟨am_dt_42, List.forall_mem_cons.mpr ⟨am_dt_43, List.forall_mem_cons.mpr ⟨am_dt_44, List.forall_mem_cons.mpr ⟨am_dt_45, List.forall_mem_cons.mpr ⟨am_dt_46, List.forall_mem_cons.mpr ⟨am_dt_47, List.forall_mem_cons.mpr ⟨am_dt_48, List.forall_mem_cons.mpr ⟨am_dt_49, fun _ h => absurd h List.not_mem_nil⟩⟩⟩⟩⟩⟩⟩⟩⟩⟩⟩⟩⟩⟩⟩⟩⟩⟩⟩⟩⟩⟩⟩⟩⟩⟩⟩⟩⟩⟩⟩⟩⟩⟩⟩⟩⟩⟩⟩⟩⟩⟩⟩⟩⟩⟩⟩⟩⟩⟩
noncomputable def am_dk : List Nat := [0, 1, 1, 0, 2, 3, 4, 5, 6, 7, 8, 0, 4, 8, 0, 9, 9, 8, 10, 8, 4, 11, 12, 13, 10, 13, 7, 8, 8, 9, 9, 10, 14, 9, 15, 4, 0, 1, 9, 4, 0, 16, 17, 0, 1, 1, 18, 4, 4, 19, 4, 4, 4, 8, 20, 8, 21, 22, 23, 8, 1, 24, 25, 8, 26, 27, 27, 15, 13, 22, 15, 8, 9, 0, 28, 29, 27, 15, 0, 0, 30, 31, 32, 33, 33, 34, 35, 36, 8, 37, 38, 1, 4, 17, 8, 14, 9, 9, 22, 0, 14, 22, 18, 1, 39, 8, 0, 40, 0, 4, 21, 4, 0, 1, 1, 0, 1, 18, 1, 1, 17, 17, 1, 1, 0, 18, 1, 0, 4, 0, 9, 1, 0, 0, 32, 41, 42, 21, 0, 0, 4, 1, 1, 0, 0, 18, 0, 0, 18, 18, 39, 4, 0, 8, 8, 8, 0, 43, 0, 4, 8, 0, 44, 8, 4, 45, 45, 13, 1, 1, 8, 1, 4, 0, 8, 4, 1, 9, 1, 16, 1, 9, 0, 9, 1, 1, 18, 1, 1, 17, 17, 1, 1, 0, 13, 8, 46, 47, 0, 14, 47, 18, 1, 0, 4, 4, 0, 0, 13, 18, 1, 0, 0, 32, 42, 21, 0, 0, 8, 48, 48, 22, 1, 4, 4, 1, 1, 0, 0, 18, 0, 10, 0, 18, 22, 18, 39, 4, 0, 49]
noncomputable def am_po : List Nat := [5, 6, 7, 8, 9, 10, 11, 12, 13, 14, 15]
theorem am_dt_at (j : Nat) : am_pd (am_dt.getD j ("()V", 0)).1 = some (am_dt.getD j ("()V", 0)).2 := by
  rw [List.getD_eq_getElem?_getD]
  cases hj : am_dt[j]? with
  | none => exact am_dt_d
  | some q => exact am_dt_ok q (List.mem_of_getElem? hj)
noncomputable def am_rcv (k : Nat) : String := match (am_mq k).2.2.2.1 with
  | none => (am_infq k).1.cls
  | some ci => if ci = 20 then "java/lang/String" else (am_clq ci).1
set_option maxRecDepth 100000 in
theorem am_dk_r : am_map (fun k => (am_infq k).1.desc) (List.range 240) = (List.range 240).map fun k => (am_dt.getD (am_dk.getD k 0) ("()V", 0)).1 := rfl
set_option maxRecDepth 100000 in
theorem am_own_r : am_map (fun k => am_ownS (am_on.getD k 0)) (List.range 240) = (List.range 240).map fun k => (am_infq k).1.cls := rfl
set_option maxRecDepth 100000 in
theorem am_rcv_r : am_map (fun k => am_rcv k) (List.range 240) = (List.range 240).map fun k => (am_infq k).1.cls := rfl
theorem am_np_c : ((List.range 17).all fun o => decide (am_ownS o ≠ "java/lang/invoke/MethodHandle") && decide (am_ownS o ≠ "java/lang/invoke/VarHandle")) = true := by decide +kernel
theorem am_po_c : (am_po.all fun o => plainName (am_ownS o)) = true := by decide +kernel
theorem am_pl_c : ((List.range 240).all fun k => am_po.any (fun o => Nat.beq o (am_on.getD k 0)) || plainFor (am_infq k).1) = true := by decide +kernel
noncomputable def am_nn (k : Nat) : Bool := Nat.ble (am_on.getD k 0) 16 && (decide ((am_dt.getD (am_dk.getD k 0) ("()V", 0)).2 = (am_mq k).2.2.1 - (if (am_mq k).2.2.2.1 = none then 0 else 1)) && (decide ((am_mq k).2.1 ≤ 13) &&
  ((match (am_mq k).2.2.2.1 with | none => true | some ci => decide (1 ≤ (am_mq k).2.2.1) && decide (ci = 20 ∨ ci < 10)) &&
  (match (am_infq k).2 with
    | none => (am_mq k).2.2.2.2 == 0
    | some .int => (am_mq k).2.2.2.2 == 1
    | some .boolean => (am_mq k).2.2.2.2 == 2
    | some .long => (am_mq k).2.2.2.2 == 3
    | some (.object _) => (am_mq k).2.2.2.2 == 4
    | some .char => (am_mq k).2.2.2.2 == 5
    | some .byte => (am_mq k).2.2.2.2 == 6
    | _ => false))))
theorem am_nn_c : ((List.range 240).all am_nn) = true := by decide +kernel
