/-! The law's loop -/
theorem wcLaw_law {A B : List Instr} {n m : Nat} (h : A.length = n) : (A ++ B)[n + m]? = B[m]? := by
  subst h
  rw [List.getElem?_append_right (Nat.le_add_right _ _), Nat.add_sub_cancel_left]
theorem scLaw_law_0 (m : Nat) : am_c239[0 + m]? = am_c239s_0[m]? := by
  rw [Nat.zero_add]
  rfl
theorem scLaw_law_1 (m : Nat) : am_c239[24 + m]? = am_c239s_1[m]? :=
  (congrArg (fun i => am_c239[i]?) (show 24 + m = 0 + (24 + m) by omega)).trans ((scLaw_law_0 (24 + m)).trans (wcLaw_law (A := am_c239_0) (B := am_c239s_1) rfl))
theorem scLaw_law_2 (m : Nat) : am_c239[48 + m]? = am_c239s_2[m]? :=
  (congrArg (fun i => am_c239[i]?) (show 48 + m = 24 + (24 + m) by omega)).trans ((scLaw_law_1 (24 + m)).trans (wcLaw_law (A := am_c239_1) (B := am_c239s_2) rfl))
theorem scLaw_law_3 (m : Nat) : am_c239[72 + m]? = am_c239s_3[m]? :=
  (congrArg (fun i => am_c239[i]?) (show 72 + m = 48 + (24 + m) by omega)).trans ((scLaw_law_2 (24 + m)).trans (wcLaw_law (A := am_c239_2) (B := am_c239s_3) rfl))
theorem scLaw_law_4 (m : Nat) : am_c239[96 + m]? = am_c239s_4[m]? :=
  (congrArg (fun i => am_c239[i]?) (show 96 + m = 72 + (24 + m) by omega)).trans ((scLaw_law_3 (24 + m)).trans (wcLaw_law (A := am_c239_3) (B := am_c239s_4) rfl))
theorem scLaw_law_5 (m : Nat) : am_c239[120 + m]? = am_c239s_5[m]? :=
  (congrArg (fun i => am_c239[i]?) (show 120 + m = 96 + (24 + m) by omega)).trans ((scLaw_law_4 (24 + m)).trans (wcLaw_law (A := am_c239_4) (B := am_c239s_5) rfl))
theorem scLaw_law_6 (m : Nat) : am_c239[144 + m]? = am_c239s_6[m]? :=
  (congrArg (fun i => am_c239[i]?) (show 144 + m = 120 + (24 + m) by omega)).trans ((scLaw_law_5 (24 + m)).trans (wcLaw_law (A := am_c239_5) (B := am_c239s_6) rfl))
theorem scLaw_law_7 (m : Nat) : am_c239[168 + m]? = am_c239s_7[m]? :=
  (congrArg (fun i => am_c239[i]?) (show 168 + m = 144 + (24 + m) by omega)).trans ((scLaw_law_6 (24 + m)).trans (wcLaw_law (A := am_c239_6) (B := am_c239s_7) rfl))
theorem scLaw_law_8 (m : Nat) : am_c239[192 + m]? = am_c239s_8[m]? :=
  (congrArg (fun i => am_c239[i]?) (show 192 + m = 168 + (24 + m) by omega)).trans ((scLaw_law_7 (24 + m)).trans (wcLaw_law (A := am_c239_7) (B := am_c239s_8) rfl))
theorem scLaw_law_9 (m : Nat) : am_c239[216 + m]? = am_c239s_9[m]? :=
  (congrArg (fun i => am_c239[i]?) (show 216 + m = 192 + (24 + m) by omega)).trans ((scLaw_law_8 (24 + m)).trans (wcLaw_law (A := am_c239_8) (B := am_c239s_9) rfl))
theorem scLaw_law_10 (m : Nat) : am_c239[240 + m]? = am_c239s_10[m]? :=
  (congrArg (fun i => am_c239[i]?) (show 240 + m = 216 + (24 + m) by omega)).trans ((scLaw_law_9 (24 + m)).trans (wcLaw_law (A := am_c239_9) (B := am_c239s_10) rfl))
theorem scLaw_law_11 (m : Nat) : am_c239[264 + m]? = am_c239s_11[m]? :=
  (congrArg (fun i => am_c239[i]?) (show 264 + m = 240 + (24 + m) by omega)).trans ((scLaw_law_10 (24 + m)).trans (wcLaw_law (A := am_c239_10) (B := am_c239s_11) rfl))
theorem scLaw_law_12 (m : Nat) : am_c239[288 + m]? = am_c239s_12[m]? :=
  (congrArg (fun i => am_c239[i]?) (show 288 + m = 264 + (24 + m) by omega)).trans ((scLaw_law_11 (24 + m)).trans (wcLaw_law (A := am_c239_11) (B := am_c239s_12) rfl))
theorem scLaw_law_13 (m : Nat) : am_c239[312 + m]? = am_c239s_13[m]? :=
  (congrArg (fun i => am_c239[i]?) (show 312 + m = 288 + (24 + m) by omega)).trans ((scLaw_law_12 (24 + m)).trans (wcLaw_law (A := am_c239_12) (B := am_c239s_13) rfl))
theorem scLaw_law_14 (m : Nat) : am_c239[336 + m]? = am_c239s_14[m]? :=
  (congrArg (fun i => am_c239[i]?) (show 336 + m = 312 + (24 + m) by omega)).trans ((scLaw_law_13 (24 + m)).trans (wcLaw_law (A := am_c239_13) (B := am_c239s_14) rfl))
theorem scLaw_law_15 (m : Nat) : am_c239[360 + m]? = am_c239s_15[m]? :=
  (congrArg (fun i => am_c239[i]?) (show 360 + m = 336 + (24 + m) by omega)).trans ((scLaw_law_14 (24 + m)).trans (wcLaw_law (A := am_c239_14) (B := am_c239s_15) rfl))
theorem scLaw_law_16 (m : Nat) : am_c239[384 + m]? = am_c239s_16[m]? :=
  (congrArg (fun i => am_c239[i]?) (show 384 + m = 360 + (24 + m) by omega)).trans ((scLaw_law_15 (24 + m)).trans (wcLaw_law (A := am_c239_15) (B := am_c239s_16) rfl))
theorem scLaw_law_17 (m : Nat) : am_c239[408 + m]? = am_c239s_17[m]? :=
  (congrArg (fun i => am_c239[i]?) (show 408 + m = 384 + (24 + m) by omega)).trans ((scLaw_law_16 (24 + m)).trans (wcLaw_law (A := am_c239_16) (B := am_c239s_17) rfl))
theorem scLaw_law_18 (m : Nat) : am_c239[432 + m]? = am_c239s_18[m]? :=
  (congrArg (fun i => am_c239[i]?) (show 432 + m = 408 + (24 + m) by omega)).trans ((scLaw_law_17 (24 + m)).trans (wcLaw_law (A := am_c239_17) (B := am_c239s_18) rfl))
theorem scLaw_law_19 (m : Nat) : am_c239[456 + m]? = am_c239s_19[m]? :=
  (congrArg (fun i => am_c239[i]?) (show 456 + m = 432 + (24 + m) by omega)).trans ((scLaw_law_18 (24 + m)).trans (wcLaw_law (A := am_c239_18) (B := am_c239s_19) rfl))
theorem scLaw_law_20 (m : Nat) : am_c239[480 + m]? = am_c239s_20[m]? :=
  (congrArg (fun i => am_c239[i]?) (show 480 + m = 456 + (24 + m) by omega)).trans ((scLaw_law_19 (24 + m)).trans (wcLaw_law (A := am_c239_19) (B := am_c239s_20) rfl))
theorem scLaw_law_21 (m : Nat) : am_c239[504 + m]? = am_c239s_21[m]? :=
  (congrArg (fun i => am_c239[i]?) (show 504 + m = 480 + (24 + m) by omega)).trans ((scLaw_law_20 (24 + m)).trans (wcLaw_law (A := am_c239_20) (B := am_c239s_21) rfl))
theorem scLaw_law_22 (m : Nat) : am_c239[528 + m]? = am_c239s_22[m]? :=
  (congrArg (fun i => am_c239[i]?) (show 528 + m = 504 + (24 + m) by omega)).trans ((scLaw_law_21 (24 + m)).trans (wcLaw_law (A := am_c239_21) (B := am_c239s_22) rfl))
theorem scLaw_law_23 (m : Nat) : am_c239[552 + m]? = am_c239s_23[m]? :=
  (congrArg (fun i => am_c239[i]?) (show 552 + m = 528 + (24 + m) by omega)).trans ((scLaw_law_22 (24 + m)).trans (wcLaw_law (A := am_c239_22) (B := am_c239s_23) rfl))
theorem scLaw_law_24 (m : Nat) : am_c239[576 + m]? = am_c239s_24[m]? :=
  (congrArg (fun i => am_c239[i]?) (show 576 + m = 552 + (24 + m) by omega)).trans ((scLaw_law_23 (24 + m)).trans (wcLaw_law (A := am_c239_23) (B := am_c239s_24) rfl))
theorem scLaw_law_25 (m : Nat) : am_c239[600 + m]? = am_c239s_25[m]? :=
  (congrArg (fun i => am_c239[i]?) (show 600 + m = 576 + (24 + m) by omega)).trans ((scLaw_law_24 (24 + m)).trans (wcLaw_law (A := am_c239_24) (B := am_c239s_25) rfl))
theorem scLaw_law_26 (m : Nat) : am_c239[624 + m]? = am_c239s_26[m]? :=
  (congrArg (fun i => am_c239[i]?) (show 624 + m = 600 + (24 + m) by omega)).trans ((scLaw_law_25 (24 + m)).trans (wcLaw_law (A := am_c239_25) (B := am_c239s_26) rfl))
theorem scLaw_law_27 (m : Nat) : am_c239[648 + m]? = am_c239s_27[m]? :=
  (congrArg (fun i => am_c239[i]?) (show 648 + m = 624 + (24 + m) by omega)).trans ((scLaw_law_26 (24 + m)).trans (wcLaw_law (A := am_c239_26) (B := am_c239s_27) rfl))
theorem scLaw_law_28 (m : Nat) : am_c239[672 + m]? = am_c239s_28[m]? :=
  (congrArg (fun i => am_c239[i]?) (show 672 + m = 648 + (24 + m) by omega)).trans ((scLaw_law_27 (24 + m)).trans (wcLaw_law (A := am_c239_27) (B := am_c239s_28) rfl))
theorem scLaw_law_29 (m : Nat) : am_c239[696 + m]? = am_c239s_29[m]? :=
  (congrArg (fun i => am_c239[i]?) (show 696 + m = 672 + (24 + m) by omega)).trans ((scLaw_law_28 (24 + m)).trans (wcLaw_law (A := am_c239_28) (B := am_c239s_29) rfl))
theorem scLaw_law_30 (m : Nat) : am_c239[720 + m]? = am_c239s_30[m]? :=
  (congrArg (fun i => am_c239[i]?) (show 720 + m = 696 + (24 + m) by omega)).trans ((scLaw_law_29 (24 + m)).trans (wcLaw_law (A := am_c239_29) (B := am_c239s_30) rfl))
theorem scLaw_law_31 (m : Nat) : am_c239[744 + m]? = am_c239s_31[m]? :=
  (congrArg (fun i => am_c239[i]?) (show 744 + m = 720 + (24 + m) by omega)).trans ((scLaw_law_30 (24 + m)).trans (wcLaw_law (A := am_c239_30) (B := am_c239s_31) rfl))
theorem scLaw_law_32 (m : Nat) : am_c239[768 + m]? = am_c239s_32[m]? :=
  (congrArg (fun i => am_c239[i]?) (show 768 + m = 744 + (24 + m) by omega)).trans ((scLaw_law_31 (24 + m)).trans (wcLaw_law (A := am_c239_31) (B := am_c239s_32) rfl))
theorem scLaw_law_33 (m : Nat) : am_c239[792 + m]? = am_c239s_33[m]? :=
  (congrArg (fun i => am_c239[i]?) (show 792 + m = 768 + (24 + m) by omega)).trans ((scLaw_law_32 (24 + m)).trans (wcLaw_law (A := am_c239_32) (B := am_c239s_33) rfl))
theorem scLaw_law_34 (m : Nat) : am_c239[816 + m]? = am_c239s_34[m]? :=
  (congrArg (fun i => am_c239[i]?) (show 816 + m = 792 + (24 + m) by omega)).trans ((scLaw_law_33 (24 + m)).trans (wcLaw_law (A := am_c239_33) (B := am_c239s_34) rfl))
theorem scLaw_law_35 (m : Nat) : am_c239[840 + m]? = am_c239s_35[m]? :=
  (congrArg (fun i => am_c239[i]?) (show 840 + m = 816 + (24 + m) by omega)).trans ((scLaw_law_34 (24 + m)).trans (wcLaw_law (A := am_c239_34) (B := am_c239s_35) rfl))
theorem scLaw_law_36 (m : Nat) : am_c239[864 + m]? = am_c239s_36[m]? :=
  (congrArg (fun i => am_c239[i]?) (show 864 + m = 840 + (24 + m) by omega)).trans ((scLaw_law_35 (24 + m)).trans (wcLaw_law (A := am_c239_35) (B := am_c239s_36) rfl))
theorem scLaw_law_37 (m : Nat) : am_c239[888 + m]? = am_c239s_37[m]? :=
  (congrArg (fun i => am_c239[i]?) (show 888 + m = 864 + (24 + m) by omega)).trans ((scLaw_law_36 (24 + m)).trans (wcLaw_law (A := am_c239_36) (B := am_c239s_37) rfl))
theorem scLaw_law_38 (m : Nat) : am_c239[912 + m]? = am_c239s_38[m]? :=
  (congrArg (fun i => am_c239[i]?) (show 912 + m = 888 + (24 + m) by omega)).trans ((scLaw_law_37 (24 + m)).trans (wcLaw_law (A := am_c239_37) (B := am_c239s_38) rfl))
theorem scLaw_law_39 (m : Nat) : am_c239[936 + m]? = am_c239s_39[m]? :=
  (congrArg (fun i => am_c239[i]?) (show 936 + m = 912 + (24 + m) by omega)).trans ((scLaw_law_38 (24 + m)).trans (wcLaw_law (A := am_c239_38) (B := am_c239s_39) rfl))
theorem scLaw_law_40 (m : Nat) : am_c239[960 + m]? = am_c239s_40[m]? :=
  (congrArg (fun i => am_c239[i]?) (show 960 + m = 936 + (24 + m) by omega)).trans ((scLaw_law_39 (24 + m)).trans (wcLaw_law (A := am_c239_39) (B := am_c239s_40) rfl))
theorem scLaw_law_41 (m : Nat) : am_c239[984 + m]? = am_c239s_41[m]? :=
  (congrArg (fun i => am_c239[i]?) (show 984 + m = 960 + (24 + m) by omega)).trans ((scLaw_law_40 (24 + m)).trans (wcLaw_law (A := am_c239_40) (B := am_c239s_41) rfl))
theorem fLaw_law_1 : w_fe am_c239 1 2 (.dup) := ⟨(scLaw_law_0 1).trans rfl, rfl⟩
theorem fLaw_law_2 : w_fe am_c239 2 3 (.invokestatic 105) := ⟨(scLaw_law_0 2).trans rfl, rfl⟩
theorem fLaw_law_3 : w_fe am_c239 3 4 (.astore 1) := ⟨(scLaw_law_0 3).trans rfl, rfl⟩
theorem fLaw_law_5 : w_fe am_c239 5 6 (.dup) := ⟨(scLaw_law_0 5).trans rfl, rfl⟩
theorem fLaw_law_6 : w_fe am_c239 6 7 (.invokestatic 153) := ⟨(scLaw_law_0 6).trans rfl, rfl⟩
theorem fLaw_law_7 : w_fe am_c239 7 8 (.astore 2) := ⟨(scLaw_law_0 7).trans rfl, rfl⟩
theorem fLaw_law_8 : w_fe am_c239 8 9 (.bipush 0) := ⟨(scLaw_law_0 8).trans rfl, rfl⟩
theorem fLaw_law_9 : w_fe am_c239 9 10 (.istore 3) := ⟨(scLaw_law_0 9).trans rfl, rfl⟩
theorem fLaw_law_10 : w_fe am_c239 10 11 (.iload 3) := ⟨(scLaw_law_0 10).trans rfl, rfl⟩
theorem fLaw_law_11 : w_fe am_c239 11 12 (.aload 0) := ⟨(scLaw_law_0 11).trans rfl, rfl⟩
theorem fLaw_law_12 : w_fe am_c239 12 13 (.arraylength) := ⟨(scLaw_law_0 12).trans rfl, rfl⟩
theorem fLaw_law_13 : w_fe am_c239 13 14 (.bipush 5) := ⟨(scLaw_law_0 13).trans rfl, rfl⟩
theorem fLaw_law_14 : w_fe am_c239 14 15 (.isub) := ⟨(scLaw_law_0 14).trans rfl, rfl⟩
theorem fLaw_law_15 : w_ic am_c239 15 16 .gt 1002 := ⟨(scLaw_law_0 15).trans rfl, rfl⟩
theorem fLaw_law_16 : w_fe am_c239 16 17 (.aload 0) := ⟨(scLaw_law_0 16).trans rfl, rfl⟩
theorem fLaw_law_17 : w_fe am_c239 17 18 (.iload 3) := ⟨(scLaw_law_0 17).trans rfl, rfl⟩
theorem fLaw_law_18 : w_fe am_c239 18 19 (.iaload) := ⟨(scLaw_law_0 18).trans rfl, rfl⟩
theorem fLaw_law_19 : w_fe am_c239 19 20 (.bipush 63) := ⟨(scLaw_law_0 19).trans rfl, rfl⟩
theorem fLaw_law_20 : w_fe am_c239 20 21 (.iand) := ⟨(scLaw_law_0 20).trans rfl, rfl⟩
theorem fLaw_law_21 {E : w_C} {rt : Nat} {Q : Option w_V → w_M → Prop} {ls : w_L} {st : List w_V} {σ : w_M} {x : Int} (h0 : x = 0 → w_Ex E rt am_c239 Q 22 ls st σ) (h1 : x = 1 → w_Ex E rt am_c239 Q 39 ls st σ) (h2 : x = 2 → w_Ex E rt am_c239 Q 56 ls st σ) (h3 : x = 3 → w_Ex E rt am_c239 Q 63 ls st σ) (h4 : x = 4 → w_Ex E rt am_c239 Q 70 ls st σ) (h5 : x = 5 → w_Ex E rt am_c239 Q 87 ls st σ) (h6 : x = 6 → w_Ex E rt am_c239 Q 114 ls st σ) (h7 : x = 7 → w_Ex E rt am_c239 Q 141 ls st σ) (h8 : x = 8 → w_Ex E rt am_c239 Q 158 ls st σ) (h9 : x = 9 → w_Ex E rt am_c239 Q 185 ls st σ) (h10 : x = 10 → w_Ex E rt am_c239 Q 222 ls st σ) (h11 : x = 11 → w_Ex E rt am_c239 Q 249 ls st σ) (h12 : x = 12 → w_Ex E rt am_c239 Q 276 ls st σ) (h13 : x = 13 → w_Ex E rt am_c239 Q 311 ls st σ) (h14 : x = 14 → w_Ex E rt am_c239 Q 346 ls st σ) (h15 : x = 15 → w_Ex E rt am_c239 Q 373 ls st σ) (h16 : x = 16 → w_Ex E rt am_c239 Q 400 ls st σ) (h17 : x = 17 → w_Ex E rt am_c239 Q 417 ls st σ) (h18 : x = 18 → w_Ex E rt am_c239 Q 454 ls st σ) (h19 : x = 19 → w_Ex E rt am_c239 Q 481 ls st σ) (h20 : x = 20 → w_Ex E rt am_c239 Q 498 ls st σ) (h21 : x = 21 → w_Ex E rt am_c239 Q 505 ls st σ) (h22 : x = 22 → w_Ex E rt am_c239 Q 522 ls st σ) (h23 : x = 23 → w_Ex E rt am_c239 Q 549 ls st σ) (h24 : x = 24 → w_Ex E rt am_c239 Q 566 ls st σ) (h25 : x = 25 → w_Ex E rt am_c239 Q 583 ls st σ) (h26 : x = 26 → w_Ex E rt am_c239 Q 610 ls st σ) (h27 : x = 27 → w_Ex E rt am_c239 Q 655 ls st σ) (h28 : x = 28 → w_Ex E rt am_c239 Q 672 ls st σ) (h29 : x = 29 → w_Ex E rt am_c239 Q 689 ls st σ) (h30 : x = 30 → w_Ex E rt am_c239 Q 696 ls st σ) (h31 : x = 31 → w_Ex E rt am_c239 Q 723 ls st σ) (h32 : x = 32 → w_Ex E rt am_c239 Q 750 ls st σ) (h33 : x = 33 → w_Ex E rt am_c239 Q 767 ls st σ) (h34 : x = 34 → w_Ex E rt am_c239 Q 784 ls st σ) (h35 : x = 35 → w_Ex E rt am_c239 Q 821 ls st σ) (h36 : x = 36 → w_Ex E rt am_c239 Q 838 ls st σ) (h37 : x = 37 → w_Ex E rt am_c239 Q 855 ls st σ) (h38 : x = 38 → w_Ex E rt am_c239 Q 892 ls st σ) (h39 : x = 39 → w_Ex E rt am_c239 Q 929 ls st σ) (h40 : x = 40 → w_Ex E rt am_c239 Q 976 ls st σ) (h41 : x = 41 → w_Ex E rt am_c239 Q 983 ls st σ) (hd : x < 0 ∨ 41 < x → w_Ex E rt am_c239 Q 1000 ls st σ) : w_Ex E rt am_c239 Q 21 ls (.inl x :: st) σ :=
  w_Ex_in (op := .tableswitch 1000 0 41 #[22, 39, 56, 63, 70, 87, 114, 141, 158, 185, 222, 249, 276, 311, 346, 373, 400, 417, 454, 481, 498, 505, 522, 549, 566, 583, 610, 655, 672, 689, 696, 723, 750, 767, 784, 821, 838, 855, 892, 929, 976, 983]) rfl ⟨rfl, hd, And.intro h0 (And.intro h1 (And.intro h2 (And.intro h3 (And.intro h4 (And.intro h5 (And.intro h6 (And.intro h7 (And.intro h8 (And.intro h9 (And.intro h10 (And.intro h11 (And.intro h12 (And.intro h13 (And.intro h14 (And.intro h15 (And.intro h16 (And.intro h17 (And.intro h18 (And.intro h19 (And.intro h20 (And.intro h21 (And.intro h22 (And.intro h23 (And.intro h24 (And.intro h25 (And.intro h26 (And.intro h27 (And.intro h28 (And.intro h29 (And.intro h30 (And.intro h31 (And.intro h32 (And.intro h33 (And.intro h34 (And.intro h35 (And.intro h36 (And.intro h37 (And.intro h38 (And.intro h39 (And.intro h40 (And.intro h41 ( trivial))))))))))))))))))))))))))))))))))))))))))⟩
theorem fLaw_law_22 : w_fe am_c239 22 23 (.aload 1) := ⟨(scLaw_law_0 22).trans rfl, rfl⟩
theorem fLaw_law_23 : w_fe am_c239 23 24 (.aload 0) := ⟨(scLaw_law_0 23).trans rfl, rfl⟩
theorem fLaw_law_24 : w_fe am_c239 24 25 (.iload 3) := ⟨(scLaw_law_1 0).trans rfl, rfl⟩
theorem fLaw_law_25 : w_fe am_c239 25 26 (.bipush 1) := ⟨(scLaw_law_1 1).trans rfl, rfl⟩
theorem fLaw_law_26 : w_fe am_c239 26 27 (.iadd) := ⟨(scLaw_law_1 2).trans rfl, rfl⟩
theorem fLaw_law_27 : w_fe am_c239 27 28 (.iaload) := ⟨(scLaw_law_1 3).trans rfl, rfl⟩
theorem fLaw_law_28 : w_fe am_c239 28 29 (.invokestatic 106) := ⟨(scLaw_law_1 4).trans rfl, rfl⟩
theorem fLaw_law_29 : w_fe am_c239 29 30 (.pop) := ⟨(scLaw_law_1 5).trans rfl, rfl⟩
theorem fLaw_law_30 : w_fe am_c239 30 31 (.aload 2) := ⟨(scLaw_law_1 6).trans rfl, rfl⟩
theorem fLaw_law_31 : w_fe am_c239 31 32 (.aload 0) := ⟨(scLaw_law_1 7).trans rfl, rfl⟩
theorem fLaw_law_32 : w_fe am_c239 32 33 (.iload 3) := ⟨(scLaw_law_1 8).trans rfl, rfl⟩
theorem fLaw_law_33 : w_fe am_c239 33 34 (.bipush 1) := ⟨(scLaw_law_1 9).trans rfl, rfl⟩
theorem fLaw_law_34 : w_fe am_c239 34 35 (.iadd) := ⟨(scLaw_law_1 10).trans rfl, rfl⟩
theorem fLaw_law_35 : w_fe am_c239 35 36 (.iaload) := ⟨(scLaw_law_1 11).trans rfl, rfl⟩
theorem fLaw_law_36 : w_fe am_c239 36 37 (.invokestatic 156) := ⟨(scLaw_law_1 12).trans rfl, rfl⟩
theorem fLaw_law_37 : w_fe am_c239 37 38 (.pop) := ⟨(scLaw_law_1 13).trans rfl, rfl⟩
theorem fLaw_law_38 : w_gt am_c239 38 1000 := (scLaw_law_1 14).trans rfl
theorem fLaw_law_39 : w_fe am_c239 39 40 (.aload 1) := ⟨(scLaw_law_1 15).trans rfl, rfl⟩
theorem fLaw_law_40 : w_fe am_c239 40 41 (.aload 0) := ⟨(scLaw_law_1 16).trans rfl, rfl⟩
theorem fLaw_law_41 : w_fe am_c239 41 42 (.iload 3) := ⟨(scLaw_law_1 17).trans rfl, rfl⟩
theorem fLaw_law_42 : w_fe am_c239 42 43 (.bipush 1) := ⟨(scLaw_law_1 18).trans rfl, rfl⟩
theorem fLaw_law_43 : w_fe am_c239 43 44 (.iadd) := ⟨(scLaw_law_1 19).trans rfl, rfl⟩
theorem fLaw_law_44 : w_fe am_c239 44 45 (.iaload) := ⟨(scLaw_law_1 20).trans rfl, rfl⟩
theorem fLaw_law_45 : w_fe am_c239 45 46 (.invokestatic 108) := ⟨(scLaw_law_1 21).trans rfl, rfl⟩
theorem fLaw_law_46 : w_fe am_c239 46 47 (.pop) := ⟨(scLaw_law_1 22).trans rfl, rfl⟩
theorem fLaw_law_47 : w_fe am_c239 47 48 (.aload 2) := ⟨(scLaw_law_1 23).trans rfl, rfl⟩
theorem fLaw_law_48 : w_fe am_c239 48 49 (.aload 0) := ⟨(scLaw_law_2 0).trans rfl, rfl⟩
theorem fLaw_law_49 : w_fe am_c239 49 50 (.iload 3) := ⟨(scLaw_law_2 1).trans rfl, rfl⟩
theorem fLaw_law_50 : w_fe am_c239 50 51 (.bipush 1) := ⟨(scLaw_law_2 2).trans rfl, rfl⟩
theorem fLaw_law_51 : w_fe am_c239 51 52 (.iadd) := ⟨(scLaw_law_2 3).trans rfl, rfl⟩
theorem fLaw_law_52 : w_fe am_c239 52 53 (.iaload) := ⟨(scLaw_law_2 4).trans rfl, rfl⟩
theorem fLaw_law_53 : w_fe am_c239 53 54 (.invokestatic 158) := ⟨(scLaw_law_2 5).trans rfl, rfl⟩
theorem fLaw_law_54 : w_fe am_c239 54 55 (.pop) := ⟨(scLaw_law_2 6).trans rfl, rfl⟩
theorem fLaw_law_55 : w_gt am_c239 55 1000 := (scLaw_law_2 7).trans rfl
theorem fLaw_law_56 : w_fe am_c239 56 57 (.aload 1) := ⟨(scLaw_law_2 8).trans rfl, rfl⟩
theorem fLaw_law_57 : w_fe am_c239 57 58 (.invokestatic 109) := ⟨(scLaw_law_2 9).trans rfl, rfl⟩
theorem fLaw_law_58 : w_fe am_c239 58 59 (.pop) := ⟨(scLaw_law_2 10).trans rfl, rfl⟩
theorem fLaw_law_59 : w_fe am_c239 59 60 (.aload 2) := ⟨(scLaw_law_2 11).trans rfl, rfl⟩
theorem fLaw_law_60 : w_fe am_c239 60 61 (.invokestatic 159) := ⟨(scLaw_law_2 12).trans rfl, rfl⟩
theorem fLaw_law_61 : w_fe am_c239 61 62 (.pop) := ⟨(scLaw_law_2 13).trans rfl, rfl⟩
theorem fLaw_law_62 : w_gt am_c239 62 1000 := (scLaw_law_2 14).trans rfl
theorem fLaw_law_63 : w_fe am_c239 63 64 (.aload 1) := ⟨(scLaw_law_2 15).trans rfl, rfl⟩
theorem fLaw_law_64 : w_fe am_c239 64 65 (.invokestatic 111) := ⟨(scLaw_law_2 16).trans rfl, rfl⟩
theorem fLaw_law_65 : w_fe am_c239 65 66 (.pop) := ⟨(scLaw_law_2 17).trans rfl, rfl⟩
theorem fLaw_law_66 : w_fe am_c239 66 67 (.aload 2) := ⟨(scLaw_law_2 18).trans rfl, rfl⟩
theorem fLaw_law_67 : w_fe am_c239 67 68 (.invokestatic 172) := ⟨(scLaw_law_2 19).trans rfl, rfl⟩
theorem fLaw_law_68 : w_fe am_c239 68 69 (.pop) := ⟨(scLaw_law_2 20).trans rfl, rfl⟩
theorem fLaw_law_69 : w_gt am_c239 69 1000 := (scLaw_law_2 21).trans rfl
theorem fLaw_law_70 : w_fe am_c239 70 71 (.aload 1) := ⟨(scLaw_law_2 22).trans rfl, rfl⟩
theorem fLaw_law_71 : w_fe am_c239 71 72 (.aload 0) := ⟨(scLaw_law_2 23).trans rfl, rfl⟩
theorem fLaw_law_72 : w_fe am_c239 72 73 (.iload 3) := ⟨(scLaw_law_3 0).trans rfl, rfl⟩
theorem fLaw_law_73 : w_fe am_c239 73 74 (.bipush 1) := ⟨(scLaw_law_3 1).trans rfl, rfl⟩
theorem fLaw_law_74 : w_fe am_c239 74 75 (.iadd) := ⟨(scLaw_law_3 2).trans rfl, rfl⟩
theorem fLaw_law_75 : w_fe am_c239 75 76 (.iaload) := ⟨(scLaw_law_3 3).trans rfl, rfl⟩
theorem fLaw_law_76 : w_fe am_c239 76 77 (.invokestatic 112) := ⟨(scLaw_law_3 4).trans rfl, rfl⟩
theorem fLaw_law_77 : w_fe am_c239 77 78 (.pop) := ⟨(scLaw_law_3 5).trans rfl, rfl⟩
theorem fLaw_law_78 : w_fe am_c239 78 79 (.aload 2) := ⟨(scLaw_law_3 6).trans rfl, rfl⟩
theorem fLaw_law_79 : w_fe am_c239 79 80 (.aload 0) := ⟨(scLaw_law_3 7).trans rfl, rfl⟩
theorem fLaw_law_80 : w_fe am_c239 80 81 (.iload 3) := ⟨(scLaw_law_3 8).trans rfl, rfl⟩
theorem fLaw_law_81 : w_fe am_c239 81 82 (.bipush 1) := ⟨(scLaw_law_3 9).trans rfl, rfl⟩
theorem fLaw_law_82 : w_fe am_c239 82 83 (.iadd) := ⟨(scLaw_law_3 10).trans rfl, rfl⟩
theorem fLaw_law_83 : w_fe am_c239 83 84 (.iaload) := ⟨(scLaw_law_3 11).trans rfl, rfl⟩
theorem fLaw_law_84 : w_fe am_c239 84 85 (.invokestatic 173) := ⟨(scLaw_law_3 12).trans rfl, rfl⟩
theorem fLaw_law_85 : w_fe am_c239 85 86 (.pop) := ⟨(scLaw_law_3 13).trans rfl, rfl⟩
theorem fLaw_law_86 : w_gt am_c239 86 1000 := (scLaw_law_3 14).trans rfl
theorem fLaw_law_87 : w_fe am_c239 87 88 (.aload 1) := ⟨(scLaw_law_3 15).trans rfl, rfl⟩
theorem fLaw_law_88 : w_fe am_c239 88 89 (.aload 0) := ⟨(scLaw_law_3 16).trans rfl, rfl⟩
theorem fLaw_law_89 : w_fe am_c239 89 90 (.iload 3) := ⟨(scLaw_law_3 17).trans rfl, rfl⟩
theorem fLaw_law_90 : w_fe am_c239 90 91 (.bipush 1) := ⟨(scLaw_law_3 18).trans rfl, rfl⟩
theorem fLaw_law_91 : w_fe am_c239 91 92 (.iadd) := ⟨(scLaw_law_3 19).trans rfl, rfl⟩
theorem fLaw_law_92 : w_fe am_c239 92 93 (.iaload) := ⟨(scLaw_law_3 20).trans rfl, rfl⟩
theorem fLaw_law_93 : w_fe am_c239 93 94 (.aload 0) := ⟨(scLaw_law_3 21).trans rfl, rfl⟩
theorem fLaw_law_94 : w_fe am_c239 94 95 (.iload 3) := ⟨(scLaw_law_3 22).trans rfl, rfl⟩
theorem fLaw_law_95 : w_fe am_c239 95 96 (.bipush 2) := ⟨(scLaw_law_3 23).trans rfl, rfl⟩
theorem fLaw_law_96 : w_fe am_c239 96 97 (.iadd) := ⟨(scLaw_law_4 0).trans rfl, rfl⟩
theorem fLaw_law_97 : w_fe am_c239 97 98 (.iaload) := ⟨(scLaw_law_4 1).trans rfl, rfl⟩
theorem fLaw_law_98 : w_fe am_c239 98 99 (.invokestatic 113) := ⟨(scLaw_law_4 2).trans rfl, rfl⟩
theorem fLaw_law_99 : w_fe am_c239 99 100 (.pop) := ⟨(scLaw_law_4 3).trans rfl, rfl⟩
theorem fLaw_law_100 : w_fe am_c239 100 101 (.aload 2) := ⟨(scLaw_law_4 4).trans rfl, rfl⟩
theorem fLaw_law_101 : w_fe am_c239 101 102 (.aload 0) := ⟨(scLaw_law_4 5).trans rfl, rfl⟩
theorem fLaw_law_102 : w_fe am_c239 102 103 (.iload 3) := ⟨(scLaw_law_4 6).trans rfl, rfl⟩
theorem fLaw_law_103 : w_fe am_c239 103 104 (.bipush 1) := ⟨(scLaw_law_4 7).trans rfl, rfl⟩
theorem fLaw_law_104 : w_fe am_c239 104 105 (.iadd) := ⟨(scLaw_law_4 8).trans rfl, rfl⟩
theorem fLaw_law_105 : w_fe am_c239 105 106 (.iaload) := ⟨(scLaw_law_4 9).trans rfl, rfl⟩
theorem fLaw_law_106 : w_fe am_c239 106 107 (.aload 0) := ⟨(scLaw_law_4 10).trans rfl, rfl⟩
theorem fLaw_law_107 : w_fe am_c239 107 108 (.iload 3) := ⟨(scLaw_law_4 11).trans rfl, rfl⟩
theorem fLaw_law_108 : w_fe am_c239 108 109 (.bipush 2) := ⟨(scLaw_law_4 12).trans rfl, rfl⟩
theorem fLaw_law_109 : w_fe am_c239 109 110 (.iadd) := ⟨(scLaw_law_4 13).trans rfl, rfl⟩
theorem fLaw_law_110 : w_fe am_c239 110 111 (.iaload) := ⟨(scLaw_law_4 14).trans rfl, rfl⟩
theorem fLaw_law_111 : w_fe am_c239 111 112 (.invokestatic 176) := ⟨(scLaw_law_4 15).trans rfl, rfl⟩
theorem fLaw_law_112 : w_fe am_c239 112 113 (.pop) := ⟨(scLaw_law_4 16).trans rfl, rfl⟩
theorem fLaw_law_113 : w_gt am_c239 113 1000 := (scLaw_law_4 17).trans rfl
theorem fLaw_law_114 : w_fe am_c239 114 115 (.aload 1) := ⟨(scLaw_law_4 18).trans rfl, rfl⟩
theorem fLaw_law_115 : w_fe am_c239 115 116 (.aload 0) := ⟨(scLaw_law_4 19).trans rfl, rfl⟩
theorem fLaw_law_116 : w_fe am_c239 116 117 (.iload 3) := ⟨(scLaw_law_4 20).trans rfl, rfl⟩
theorem fLaw_law_117 : w_fe am_c239 117 118 (.bipush 1) := ⟨(scLaw_law_4 21).trans rfl, rfl⟩
theorem fLaw_law_118 : w_fe am_c239 118 119 (.iadd) := ⟨(scLaw_law_4 22).trans rfl, rfl⟩
theorem fLaw_law_119 : w_fe am_c239 119 120 (.iaload) := ⟨(scLaw_law_4 23).trans rfl, rfl⟩
theorem fLaw_law_120 : w_fe am_c239 120 121 (.aload 0) := ⟨(scLaw_law_5 0).trans rfl, rfl⟩
theorem fLaw_law_121 : w_fe am_c239 121 122 (.iload 3) := ⟨(scLaw_law_5 1).trans rfl, rfl⟩
theorem fLaw_law_122 : w_fe am_c239 122 123 (.bipush 2) := ⟨(scLaw_law_5 2).trans rfl, rfl⟩
theorem fLaw_law_123 : w_fe am_c239 123 124 (.iadd) := ⟨(scLaw_law_5 3).trans rfl, rfl⟩
theorem fLaw_law_124 : w_fe am_c239 124 125 (.iaload) := ⟨(scLaw_law_5 4).trans rfl, rfl⟩
theorem fLaw_law_125 : w_fe am_c239 125 126 (.invokestatic 114) := ⟨(scLaw_law_5 5).trans rfl, rfl⟩
theorem fLaw_law_126 : w_fe am_c239 126 127 (.pop) := ⟨(scLaw_law_5 6).trans rfl, rfl⟩
theorem fLaw_law_127 : w_fe am_c239 127 128 (.aload 2) := ⟨(scLaw_law_5 7).trans rfl, rfl⟩
theorem fLaw_law_128 : w_fe am_c239 128 129 (.aload 0) := ⟨(scLaw_law_5 8).trans rfl, rfl⟩
theorem fLaw_law_129 : w_fe am_c239 129 130 (.iload 3) := ⟨(scLaw_law_5 9).trans rfl, rfl⟩
theorem fLaw_law_130 : w_fe am_c239 130 131 (.bipush 1) := ⟨(scLaw_law_5 10).trans rfl, rfl⟩
theorem fLaw_law_131 : w_fe am_c239 131 132 (.iadd) := ⟨(scLaw_law_5 11).trans rfl, rfl⟩
theorem fLaw_law_132 : w_fe am_c239 132 133 (.iaload) := ⟨(scLaw_law_5 12).trans rfl, rfl⟩
theorem fLaw_law_133 : w_fe am_c239 133 134 (.aload 0) := ⟨(scLaw_law_5 13).trans rfl, rfl⟩
theorem fLaw_law_134 : w_fe am_c239 134 135 (.iload 3) := ⟨(scLaw_law_5 14).trans rfl, rfl⟩
theorem fLaw_law_135 : w_fe am_c239 135 136 (.bipush 2) := ⟨(scLaw_law_5 15).trans rfl, rfl⟩
theorem fLaw_law_136 : w_fe am_c239 136 137 (.iadd) := ⟨(scLaw_law_5 16).trans rfl, rfl⟩
theorem fLaw_law_137 : w_fe am_c239 137 138 (.iaload) := ⟨(scLaw_law_5 17).trans rfl, rfl⟩
theorem fLaw_law_138 : w_fe am_c239 138 139 (.invokestatic 180) := ⟨(scLaw_law_5 18).trans rfl, rfl⟩
theorem fLaw_law_139 : w_fe am_c239 139 140 (.pop) := ⟨(scLaw_law_5 19).trans rfl, rfl⟩
theorem fLaw_law_140 : w_gt am_c239 140 1000 := (scLaw_law_5 20).trans rfl
theorem fLaw_law_141 : w_fe am_c239 141 142 (.aload 1) := ⟨(scLaw_law_5 21).trans rfl, rfl⟩
theorem fLaw_law_142 : w_fe am_c239 142 143 (.aload 0) := ⟨(scLaw_law_5 22).trans rfl, rfl⟩
theorem fLaw_law_143 : w_fe am_c239 143 144 (.iload 3) := ⟨(scLaw_law_5 23).trans rfl, rfl⟩
theorem fLaw_law_144 : w_fe am_c239 144 145 (.bipush 1) := ⟨(scLaw_law_6 0).trans rfl, rfl⟩
theorem fLaw_law_145 : w_fe am_c239 145 146 (.iadd) := ⟨(scLaw_law_6 1).trans rfl, rfl⟩
theorem fLaw_law_146 : w_fe am_c239 146 147 (.iaload) := ⟨(scLaw_law_6 2).trans rfl, rfl⟩
theorem fLaw_law_147 : w_fe am_c239 147 148 (.invokestatic 115) := ⟨(scLaw_law_6 3).trans rfl, rfl⟩
theorem fLaw_law_148 : w_fe am_c239 148 149 (.pop) := ⟨(scLaw_law_6 4).trans rfl, rfl⟩
theorem fLaw_law_149 : w_fe am_c239 149 150 (.aload 2) := ⟨(scLaw_law_6 5).trans rfl, rfl⟩
theorem fLaw_law_150 : w_fe am_c239 150 151 (.aload 0) := ⟨(scLaw_law_6 6).trans rfl, rfl⟩
theorem fLaw_law_151 : w_fe am_c239 151 152 (.iload 3) := ⟨(scLaw_law_6 7).trans rfl, rfl⟩
theorem fLaw_law_152 : w_fe am_c239 152 153 (.bipush 1) := ⟨(scLaw_law_6 8).trans rfl, rfl⟩
theorem fLaw_law_153 : w_fe am_c239 153 154 (.iadd) := ⟨(scLaw_law_6 9).trans rfl, rfl⟩
theorem fLaw_law_154 : w_fe am_c239 154 155 (.iaload) := ⟨(scLaw_law_6 10).trans rfl, rfl⟩
theorem fLaw_law_155 : w_fe am_c239 155 156 (.invokestatic 182) := ⟨(scLaw_law_6 11).trans rfl, rfl⟩
theorem fLaw_law_156 : w_fe am_c239 156 157 (.pop) := ⟨(scLaw_law_6 12).trans rfl, rfl⟩
theorem fLaw_law_157 : w_gt am_c239 157 1000 := (scLaw_law_6 13).trans rfl
theorem fLaw_law_158 : w_fe am_c239 158 159 (.aload 1) := ⟨(scLaw_law_6 14).trans rfl, rfl⟩
theorem fLaw_law_159 : w_fe am_c239 159 160 (.aload 0) := ⟨(scLaw_law_6 15).trans rfl, rfl⟩
theorem fLaw_law_160 : w_fe am_c239 160 161 (.iload 3) := ⟨(scLaw_law_6 16).trans rfl, rfl⟩
theorem fLaw_law_161 : w_fe am_c239 161 162 (.bipush 1) := ⟨(scLaw_law_6 17).trans rfl, rfl⟩
theorem fLaw_law_162 : w_fe am_c239 162 163 (.iadd) := ⟨(scLaw_law_6 18).trans rfl, rfl⟩
theorem fLaw_law_163 : w_fe am_c239 163 164 (.iaload) := ⟨(scLaw_law_6 19).trans rfl, rfl⟩
theorem fLaw_law_164 : w_fe am_c239 164 165 (.aload 0) := ⟨(scLaw_law_6 20).trans rfl, rfl⟩
theorem fLaw_law_165 : w_fe am_c239 165 166 (.iload 3) := ⟨(scLaw_law_6 21).trans rfl, rfl⟩
theorem fLaw_law_166 : w_fe am_c239 166 167 (.bipush 2) := ⟨(scLaw_law_6 22).trans rfl, rfl⟩
theorem fLaw_law_167 : w_fe am_c239 167 168 (.iadd) := ⟨(scLaw_law_6 23).trans rfl, rfl⟩
theorem fLaw_law_168 : w_fe am_c239 168 169 (.iaload) := ⟨(scLaw_law_7 0).trans rfl, rfl⟩
theorem fLaw_law_169 : w_fe am_c239 169 170 (.invokestatic 116) := ⟨(scLaw_law_7 1).trans rfl, rfl⟩
theorem fLaw_law_170 : w_fe am_c239 170 171 (.pop) := ⟨(scLaw_law_7 2).trans rfl, rfl⟩
theorem fLaw_law_171 : w_fe am_c239 171 172 (.aload 2) := ⟨(scLaw_law_7 3).trans rfl, rfl⟩
theorem fLaw_law_172 : w_fe am_c239 172 173 (.aload 0) := ⟨(scLaw_law_7 4).trans rfl, rfl⟩
theorem fLaw_law_173 : w_fe am_c239 173 174 (.iload 3) := ⟨(scLaw_law_7 5).trans rfl, rfl⟩
theorem fLaw_law_174 : w_fe am_c239 174 175 (.bipush 1) := ⟨(scLaw_law_7 6).trans rfl, rfl⟩
theorem fLaw_law_175 : w_fe am_c239 175 176 (.iadd) := ⟨(scLaw_law_7 7).trans rfl, rfl⟩
theorem fLaw_law_176 : w_fe am_c239 176 177 (.iaload) := ⟨(scLaw_law_7 8).trans rfl, rfl⟩
theorem fLaw_law_177 : w_fe am_c239 177 178 (.aload 0) := ⟨(scLaw_law_7 9).trans rfl, rfl⟩
theorem fLaw_law_178 : w_fe am_c239 178 179 (.iload 3) := ⟨(scLaw_law_7 10).trans rfl, rfl⟩
theorem fLaw_law_179 : w_fe am_c239 179 180 (.bipush 2) := ⟨(scLaw_law_7 11).trans rfl, rfl⟩
theorem fLaw_law_180 : w_fe am_c239 180 181 (.iadd) := ⟨(scLaw_law_7 12).trans rfl, rfl⟩
theorem fLaw_law_181 : w_fe am_c239 181 182 (.iaload) := ⟨(scLaw_law_7 13).trans rfl, rfl⟩
theorem fLaw_law_182 : w_fe am_c239 182 183 (.invokestatic 184) := ⟨(scLaw_law_7 14).trans rfl, rfl⟩
theorem fLaw_law_183 : w_fe am_c239 183 184 (.pop) := ⟨(scLaw_law_7 15).trans rfl, rfl⟩
theorem fLaw_law_184 : w_gt am_c239 184 1000 := (scLaw_law_7 16).trans rfl
theorem fLaw_law_185 : w_fe am_c239 185 186 (.aload 1) := ⟨(scLaw_law_7 17).trans rfl, rfl⟩
theorem fLaw_law_186 : w_fe am_c239 186 187 (.aload 0) := ⟨(scLaw_law_7 18).trans rfl, rfl⟩
theorem fLaw_law_187 : w_fe am_c239 187 188 (.iload 3) := ⟨(scLaw_law_7 19).trans rfl, rfl⟩
theorem fLaw_law_188 : w_fe am_c239 188 189 (.bipush 1) := ⟨(scLaw_law_7 20).trans rfl, rfl⟩
theorem fLaw_law_189 : w_fe am_c239 189 190 (.iadd) := ⟨(scLaw_law_7 21).trans rfl, rfl⟩
theorem fLaw_law_190 : w_fe am_c239 190 191 (.iaload) := ⟨(scLaw_law_7 22).trans rfl, rfl⟩
theorem fLaw_law_191 : w_fe am_c239 191 192 (.aload 0) := ⟨(scLaw_law_7 23).trans rfl, rfl⟩
theorem fLaw_law_192 : w_fe am_c239 192 193 (.iload 3) := ⟨(scLaw_law_8 0).trans rfl, rfl⟩
theorem fLaw_law_193 : w_fe am_c239 193 194 (.bipush 2) := ⟨(scLaw_law_8 1).trans rfl, rfl⟩
theorem fLaw_law_194 : w_fe am_c239 194 195 (.iadd) := ⟨(scLaw_law_8 2).trans rfl, rfl⟩
theorem fLaw_law_195 : w_fe am_c239 195 196 (.iaload) := ⟨(scLaw_law_8 3).trans rfl, rfl⟩
theorem fLaw_law_196 : w_fe am_c239 196 197 (.aload 0) := ⟨(scLaw_law_8 4).trans rfl, rfl⟩
theorem fLaw_law_197 : w_fe am_c239 197 198 (.iload 3) := ⟨(scLaw_law_8 5).trans rfl, rfl⟩
theorem fLaw_law_198 : w_fe am_c239 198 199 (.bipush 3) := ⟨(scLaw_law_8 6).trans rfl, rfl⟩
theorem fLaw_law_199 : w_fe am_c239 199 200 (.iadd) := ⟨(scLaw_law_8 7).trans rfl, rfl⟩
theorem fLaw_law_200 : w_fe am_c239 200 201 (.iaload) := ⟨(scLaw_law_8 8).trans rfl, rfl⟩
theorem fLaw_law_201 : w_fe am_c239 201 202 (.invokestatic 117) := ⟨(scLaw_law_8 9).trans rfl, rfl⟩
theorem fLaw_law_202 : w_fe am_c239 202 203 (.pop) := ⟨(scLaw_law_8 10).trans rfl, rfl⟩
theorem fLaw_law_203 : w_fe am_c239 203 204 (.aload 2) := ⟨(scLaw_law_8 11).trans rfl, rfl⟩
theorem fLaw_law_204 : w_fe am_c239 204 205 (.aload 0) := ⟨(scLaw_law_8 12).trans rfl, rfl⟩
theorem fLaw_law_205 : w_fe am_c239 205 206 (.iload 3) := ⟨(scLaw_law_8 13).trans rfl, rfl⟩
theorem fLaw_law_206 : w_fe am_c239 206 207 (.bipush 1) := ⟨(scLaw_law_8 14).trans rfl, rfl⟩
theorem fLaw_law_207 : w_fe am_c239 207 208 (.iadd) := ⟨(scLaw_law_8 15).trans rfl, rfl⟩
theorem fLaw_law_208 : w_fe am_c239 208 209 (.iaload) := ⟨(scLaw_law_8 16).trans rfl, rfl⟩
theorem fLaw_law_209 : w_fe am_c239 209 210 (.aload 0) := ⟨(scLaw_law_8 17).trans rfl, rfl⟩
theorem fLaw_law_210 : w_fe am_c239 210 211 (.iload 3) := ⟨(scLaw_law_8 18).trans rfl, rfl⟩
theorem fLaw_law_211 : w_fe am_c239 211 212 (.bipush 2) := ⟨(scLaw_law_8 19).trans rfl, rfl⟩
theorem fLaw_law_212 : w_fe am_c239 212 213 (.iadd) := ⟨(scLaw_law_8 20).trans rfl, rfl⟩
theorem fLaw_law_213 : w_fe am_c239 213 214 (.iaload) := ⟨(scLaw_law_8 21).trans rfl, rfl⟩
theorem fLaw_law_214 : w_fe am_c239 214 215 (.aload 0) := ⟨(scLaw_law_8 22).trans rfl, rfl⟩
theorem fLaw_law_215 : w_fe am_c239 215 216 (.iload 3) := ⟨(scLaw_law_8 23).trans rfl, rfl⟩
theorem fLaw_law_216 : w_fe am_c239 216 217 (.bipush 3) := ⟨(scLaw_law_9 0).trans rfl, rfl⟩
theorem fLaw_law_217 : w_fe am_c239 217 218 (.iadd) := ⟨(scLaw_law_9 1).trans rfl, rfl⟩
theorem fLaw_law_218 : w_fe am_c239 218 219 (.iaload) := ⟨(scLaw_law_9 2).trans rfl, rfl⟩
theorem fLaw_law_219 : w_fe am_c239 219 220 (.invokestatic 186) := ⟨(scLaw_law_9 3).trans rfl, rfl⟩
theorem fLaw_law_220 : w_fe am_c239 220 221 (.pop) := ⟨(scLaw_law_9 4).trans rfl, rfl⟩
theorem fLaw_law_221 : w_gt am_c239 221 1000 := (scLaw_law_9 5).trans rfl
theorem fLaw_law_222 : w_fe am_c239 222 223 (.aload 1) := ⟨(scLaw_law_9 6).trans rfl, rfl⟩
theorem fLaw_law_223 : w_fe am_c239 223 224 (.aload 0) := ⟨(scLaw_law_9 7).trans rfl, rfl⟩
theorem fLaw_law_224 : w_fe am_c239 224 225 (.iload 3) := ⟨(scLaw_law_9 8).trans rfl, rfl⟩
theorem fLaw_law_225 : w_fe am_c239 225 226 (.bipush 1) := ⟨(scLaw_law_9 9).trans rfl, rfl⟩
theorem fLaw_law_226 : w_fe am_c239 226 227 (.iadd) := ⟨(scLaw_law_9 10).trans rfl, rfl⟩
theorem fLaw_law_227 : w_fe am_c239 227 228 (.iaload) := ⟨(scLaw_law_9 11).trans rfl, rfl⟩
theorem fLaw_law_228 : w_fe am_c239 228 229 (.aload 0) := ⟨(scLaw_law_9 12).trans rfl, rfl⟩
theorem fLaw_law_229 : w_fe am_c239 229 230 (.iload 3) := ⟨(scLaw_law_9 13).trans rfl, rfl⟩
theorem fLaw_law_230 : w_fe am_c239 230 231 (.bipush 2) := ⟨(scLaw_law_9 14).trans rfl, rfl⟩
theorem fLaw_law_231 : w_fe am_c239 231 232 (.iadd) := ⟨(scLaw_law_9 15).trans rfl, rfl⟩
theorem fLaw_law_232 : w_fe am_c239 232 233 (.iaload) := ⟨(scLaw_law_9 16).trans rfl, rfl⟩
theorem fLaw_law_233 : w_fe am_c239 233 234 (.invokestatic 118) := ⟨(scLaw_law_9 17).trans rfl, rfl⟩
theorem fLaw_law_234 : w_fe am_c239 234 235 (.pop) := ⟨(scLaw_law_9 18).trans rfl, rfl⟩
theorem fLaw_law_235 : w_fe am_c239 235 236 (.aload 2) := ⟨(scLaw_law_9 19).trans rfl, rfl⟩
theorem fLaw_law_236 : w_fe am_c239 236 237 (.aload 0) := ⟨(scLaw_law_9 20).trans rfl, rfl⟩
theorem fLaw_law_237 : w_fe am_c239 237 238 (.iload 3) := ⟨(scLaw_law_9 21).trans rfl, rfl⟩
theorem fLaw_law_238 : w_fe am_c239 238 239 (.bipush 1) := ⟨(scLaw_law_9 22).trans rfl, rfl⟩
theorem fLaw_law_239 : w_fe am_c239 239 240 (.iadd) := ⟨(scLaw_law_9 23).trans rfl, rfl⟩
theorem fLaw_law_240 : w_fe am_c239 240 241 (.iaload) := ⟨(scLaw_law_10 0).trans rfl, rfl⟩
theorem fLaw_law_241 : w_fe am_c239 241 242 (.aload 0) := ⟨(scLaw_law_10 1).trans rfl, rfl⟩
theorem fLaw_law_242 : w_fe am_c239 242 243 (.iload 3) := ⟨(scLaw_law_10 2).trans rfl, rfl⟩
theorem fLaw_law_243 : w_fe am_c239 243 244 (.bipush 2) := ⟨(scLaw_law_10 3).trans rfl, rfl⟩
theorem fLaw_law_244 : w_fe am_c239 244 245 (.iadd) := ⟨(scLaw_law_10 4).trans rfl, rfl⟩
theorem fLaw_law_245 : w_fe am_c239 245 246 (.iaload) := ⟨(scLaw_law_10 5).trans rfl, rfl⟩
theorem fLaw_law_246 : w_fe am_c239 246 247 (.invokestatic 187) := ⟨(scLaw_law_10 6).trans rfl, rfl⟩
theorem fLaw_law_247 : w_fe am_c239 247 248 (.pop) := ⟨(scLaw_law_10 7).trans rfl, rfl⟩
theorem fLaw_law_248 : w_gt am_c239 248 1000 := (scLaw_law_10 8).trans rfl
theorem fLaw_law_249 : w_fe am_c239 249 250 (.aload 1) := ⟨(scLaw_law_10 9).trans rfl, rfl⟩
theorem fLaw_law_250 : w_fe am_c239 250 251 (.aload 0) := ⟨(scLaw_law_10 10).trans rfl, rfl⟩
theorem fLaw_law_251 : w_fe am_c239 251 252 (.iload 3) := ⟨(scLaw_law_10 11).trans rfl, rfl⟩
theorem fLaw_law_252 : w_fe am_c239 252 253 (.bipush 1) := ⟨(scLaw_law_10 12).trans rfl, rfl⟩
theorem fLaw_law_253 : w_fe am_c239 253 254 (.iadd) := ⟨(scLaw_law_10 13).trans rfl, rfl⟩
theorem fLaw_law_254 : w_fe am_c239 254 255 (.iaload) := ⟨(scLaw_law_10 14).trans rfl, rfl⟩
theorem fLaw_law_255 : w_fe am_c239 255 256 (.aload 0) := ⟨(scLaw_law_10 15).trans rfl, rfl⟩
theorem fLaw_law_256 : w_fe am_c239 256 257 (.iload 3) := ⟨(scLaw_law_10 16).trans rfl, rfl⟩
theorem fLaw_law_257 : w_fe am_c239 257 258 (.bipush 2) := ⟨(scLaw_law_10 17).trans rfl, rfl⟩
theorem fLaw_law_258 : w_fe am_c239 258 259 (.iadd) := ⟨(scLaw_law_10 18).trans rfl, rfl⟩
theorem fLaw_law_259 : w_fe am_c239 259 260 (.iaload) := ⟨(scLaw_law_10 19).trans rfl, rfl⟩
theorem fLaw_law_260 : w_fe am_c239 260 261 (.invokestatic 119) := ⟨(scLaw_law_10 20).trans rfl, rfl⟩
theorem fLaw_law_261 : w_fe am_c239 261 262 (.pop) := ⟨(scLaw_law_10 21).trans rfl, rfl⟩
theorem fLaw_law_262 : w_fe am_c239 262 263 (.aload 2) := ⟨(scLaw_law_10 22).trans rfl, rfl⟩
theorem fLaw_law_263 : w_fe am_c239 263 264 (.aload 0) := ⟨(scLaw_law_10 23).trans rfl, rfl⟩
theorem fLaw_law_264 : w_fe am_c239 264 265 (.iload 3) := ⟨(scLaw_law_11 0).trans rfl, rfl⟩
theorem fLaw_law_265 : w_fe am_c239 265 266 (.bipush 1) := ⟨(scLaw_law_11 1).trans rfl, rfl⟩
theorem fLaw_law_266 : w_fe am_c239 266 267 (.iadd) := ⟨(scLaw_law_11 2).trans rfl, rfl⟩
theorem fLaw_law_267 : w_fe am_c239 267 268 (.iaload) := ⟨(scLaw_law_11 3).trans rfl, rfl⟩
theorem fLaw_law_268 : w_fe am_c239 268 269 (.aload 0) := ⟨(scLaw_law_11 4).trans rfl, rfl⟩
theorem fLaw_law_269 : w_fe am_c239 269 270 (.iload 3) := ⟨(scLaw_law_11 5).trans rfl, rfl⟩
theorem fLaw_law_270 : w_fe am_c239 270 271 (.bipush 2) := ⟨(scLaw_law_11 6).trans rfl, rfl⟩
theorem fLaw_law_271 : w_fe am_c239 271 272 (.iadd) := ⟨(scLaw_law_11 7).trans rfl, rfl⟩
theorem fLaw_law_272 : w_fe am_c239 272 273 (.iaload) := ⟨(scLaw_law_11 8).trans rfl, rfl⟩
theorem fLaw_law_273 : w_fe am_c239 273 274 (.invokestatic 188) := ⟨(scLaw_law_11 9).trans rfl, rfl⟩
theorem fLaw_law_274 : w_fe am_c239 274 275 (.pop) := ⟨(scLaw_law_11 10).trans rfl, rfl⟩
theorem fLaw_law_275 : w_gt am_c239 275 1000 := (scLaw_law_11 11).trans rfl
theorem fLaw_law_276 : w_fe am_c239 276 277 (.aload 1) := ⟨(scLaw_law_11 12).trans rfl, rfl⟩
theorem fLaw_law_277 : w_fe am_c239 277 278 (.aload 0) := ⟨(scLaw_law_11 13).trans rfl, rfl⟩
theorem fLaw_law_278 : w_fe am_c239 278 279 (.iload 3) := ⟨(scLaw_law_11 14).trans rfl, rfl⟩
theorem fLaw_law_279 : w_fe am_c239 279 280 (.bipush 1) := ⟨(scLaw_law_11 15).trans rfl, rfl⟩
theorem fLaw_law_280 : w_fe am_c239 280 281 (.iadd) := ⟨(scLaw_law_11 16).trans rfl, rfl⟩
theorem fLaw_law_281 : w_fe am_c239 281 282 (.iaload) := ⟨(scLaw_law_11 17).trans rfl, rfl⟩
theorem fLaw_law_282 : w_fe am_c239 282 283 (.aload 0) := ⟨(scLaw_law_11 18).trans rfl, rfl⟩
theorem fLaw_law_283 : w_fe am_c239 283 284 (.iload 3) := ⟨(scLaw_law_11 19).trans rfl, rfl⟩
theorem fLaw_law_284 : w_fe am_c239 284 285 (.bipush 2) := ⟨(scLaw_law_11 20).trans rfl, rfl⟩
theorem fLaw_law_285 : w_fe am_c239 285 286 (.iadd) := ⟨(scLaw_law_11 21).trans rfl, rfl⟩
theorem fLaw_law_286 : w_fe am_c239 286 287 (.iaload) := ⟨(scLaw_law_11 22).trans rfl, rfl⟩
theorem fLaw_law_287 : w_if am_c239 287 288 .eq 290 := ⟨(scLaw_law_11 23).trans rfl, rfl⟩
theorem fLaw_law_288 : w_fe am_c239 288 289 (.bipush 1) := ⟨(scLaw_law_12 0).trans rfl, rfl⟩
theorem fLaw_law_289 : w_gt am_c239 289 291 := (scLaw_law_12 1).trans rfl
theorem fLaw_law_290 : w_fe am_c239 290 291 (.bipush 0) := ⟨(scLaw_law_12 2).trans rfl, rfl⟩
theorem fLaw_law_291 : w_fe am_c239 291 292 (.invokestatic 120) := ⟨(scLaw_law_12 3).trans rfl, rfl⟩
theorem fLaw_law_292 : w_fe am_c239 292 293 (.pop) := ⟨(scLaw_law_12 4).trans rfl, rfl⟩
theorem fLaw_law_293 : w_fe am_c239 293 294 (.aload 2) := ⟨(scLaw_law_12 5).trans rfl, rfl⟩
theorem fLaw_law_294 : w_fe am_c239 294 295 (.aload 0) := ⟨(scLaw_law_12 6).trans rfl, rfl⟩
theorem fLaw_law_295 : w_fe am_c239 295 296 (.iload 3) := ⟨(scLaw_law_12 7).trans rfl, rfl⟩
theorem fLaw_law_296 : w_fe am_c239 296 297 (.bipush 1) := ⟨(scLaw_law_12 8).trans rfl, rfl⟩
theorem fLaw_law_297 : w_fe am_c239 297 298 (.iadd) := ⟨(scLaw_law_12 9).trans rfl, rfl⟩
theorem fLaw_law_298 : w_fe am_c239 298 299 (.iaload) := ⟨(scLaw_law_12 10).trans rfl, rfl⟩
theorem fLaw_law_299 : w_fe am_c239 299 300 (.aload 0) := ⟨(scLaw_law_12 11).trans rfl, rfl⟩
theorem fLaw_law_300 : w_fe am_c239 300 301 (.iload 3) := ⟨(scLaw_law_12 12).trans rfl, rfl⟩
theorem fLaw_law_301 : w_fe am_c239 301 302 (.bipush 2) := ⟨(scLaw_law_12 13).trans rfl, rfl⟩
theorem fLaw_law_302 : w_fe am_c239 302 303 (.iadd) := ⟨(scLaw_law_12 14).trans rfl, rfl⟩
theorem fLaw_law_303 : w_fe am_c239 303 304 (.iaload) := ⟨(scLaw_law_12 15).trans rfl, rfl⟩
theorem fLaw_law_304 : w_if am_c239 304 305 .eq 307 := ⟨(scLaw_law_12 16).trans rfl, rfl⟩
theorem fLaw_law_305 : w_fe am_c239 305 306 (.bipush 1) := ⟨(scLaw_law_12 17).trans rfl, rfl⟩
theorem fLaw_law_306 : w_gt am_c239 306 308 := (scLaw_law_12 18).trans rfl
theorem fLaw_law_307 : w_fe am_c239 307 308 (.bipush 0) := ⟨(scLaw_law_12 19).trans rfl, rfl⟩
theorem fLaw_law_308 : w_fe am_c239 308 309 (.invokestatic 189) := ⟨(scLaw_law_12 20).trans rfl, rfl⟩
theorem fLaw_law_309 : w_fe am_c239 309 310 (.pop) := ⟨(scLaw_law_12 21).trans rfl, rfl⟩
theorem fLaw_law_310 : w_gt am_c239 310 1000 := (scLaw_law_12 22).trans rfl
theorem fLaw_law_311 : w_fe am_c239 311 312 (.aload 1) := ⟨(scLaw_law_12 23).trans rfl, rfl⟩
theorem fLaw_law_312 : w_fe am_c239 312 313 (.aload 0) := ⟨(scLaw_law_13 0).trans rfl, rfl⟩
theorem fLaw_law_313 : w_fe am_c239 313 314 (.iload 3) := ⟨(scLaw_law_13 1).trans rfl, rfl⟩
theorem fLaw_law_314 : w_fe am_c239 314 315 (.bipush 1) := ⟨(scLaw_law_13 2).trans rfl, rfl⟩
theorem fLaw_law_315 : w_fe am_c239 315 316 (.iadd) := ⟨(scLaw_law_13 3).trans rfl, rfl⟩
theorem fLaw_law_316 : w_fe am_c239 316 317 (.iaload) := ⟨(scLaw_law_13 4).trans rfl, rfl⟩
theorem fLaw_law_317 : w_fe am_c239 317 318 (.aload 0) := ⟨(scLaw_law_13 5).trans rfl, rfl⟩
theorem fLaw_law_318 : w_fe am_c239 318 319 (.iload 3) := ⟨(scLaw_law_13 6).trans rfl, rfl⟩
theorem fLaw_law_319 : w_fe am_c239 319 320 (.bipush 2) := ⟨(scLaw_law_13 7).trans rfl, rfl⟩
theorem fLaw_law_320 : w_fe am_c239 320 321 (.iadd) := ⟨(scLaw_law_13 8).trans rfl, rfl⟩
theorem fLaw_law_321 : w_fe am_c239 321 322 (.iaload) := ⟨(scLaw_law_13 9).trans rfl, rfl⟩
theorem fLaw_law_322 : w_if am_c239 322 323 .eq 325 := ⟨(scLaw_law_13 10).trans rfl, rfl⟩
theorem fLaw_law_323 : w_fe am_c239 323 324 (.bipush 1) := ⟨(scLaw_law_13 11).trans rfl, rfl⟩
theorem fLaw_law_324 : w_gt am_c239 324 326 := (scLaw_law_13 12).trans rfl
theorem fLaw_law_325 : w_fe am_c239 325 326 (.bipush 0) := ⟨(scLaw_law_13 13).trans rfl, rfl⟩
theorem fLaw_law_326 : w_fe am_c239 326 327 (.invokestatic 121) := ⟨(scLaw_law_13 14).trans rfl, rfl⟩
theorem fLaw_law_327 : w_fe am_c239 327 328 (.pop) := ⟨(scLaw_law_13 15).trans rfl, rfl⟩
theorem fLaw_law_328 : w_fe am_c239 328 329 (.aload 2) := ⟨(scLaw_law_13 16).trans rfl, rfl⟩
theorem fLaw_law_329 : w_fe am_c239 329 330 (.aload 0) := ⟨(scLaw_law_13 17).trans rfl, rfl⟩
theorem fLaw_law_330 : w_fe am_c239 330 331 (.iload 3) := ⟨(scLaw_law_13 18).trans rfl, rfl⟩
theorem fLaw_law_331 : w_fe am_c239 331 332 (.bipush 1) := ⟨(scLaw_law_13 19).trans rfl, rfl⟩
theorem fLaw_law_332 : w_fe am_c239 332 333 (.iadd) := ⟨(scLaw_law_13 20).trans rfl, rfl⟩
theorem fLaw_law_333 : w_fe am_c239 333 334 (.iaload) := ⟨(scLaw_law_13 21).trans rfl, rfl⟩
theorem fLaw_law_334 : w_fe am_c239 334 335 (.aload 0) := ⟨(scLaw_law_13 22).trans rfl, rfl⟩
theorem fLaw_law_335 : w_fe am_c239 335 336 (.iload 3) := ⟨(scLaw_law_13 23).trans rfl, rfl⟩
theorem fLaw_law_336 : w_fe am_c239 336 337 (.bipush 2) := ⟨(scLaw_law_14 0).trans rfl, rfl⟩
theorem fLaw_law_337 : w_fe am_c239 337 338 (.iadd) := ⟨(scLaw_law_14 1).trans rfl, rfl⟩
theorem fLaw_law_338 : w_fe am_c239 338 339 (.iaload) := ⟨(scLaw_law_14 2).trans rfl, rfl⟩
theorem fLaw_law_339 : w_if am_c239 339 340 .eq 342 := ⟨(scLaw_law_14 3).trans rfl, rfl⟩
theorem fLaw_law_340 : w_fe am_c239 340 341 (.bipush 1) := ⟨(scLaw_law_14 4).trans rfl, rfl⟩
theorem fLaw_law_341 : w_gt am_c239 341 343 := (scLaw_law_14 5).trans rfl
theorem fLaw_law_342 : w_fe am_c239 342 343 (.bipush 0) := ⟨(scLaw_law_14 6).trans rfl, rfl⟩
theorem fLaw_law_343 : w_fe am_c239 343 344 (.invokestatic 190) := ⟨(scLaw_law_14 7).trans rfl, rfl⟩
theorem fLaw_law_344 : w_fe am_c239 344 345 (.pop) := ⟨(scLaw_law_14 8).trans rfl, rfl⟩
theorem fLaw_law_345 : w_gt am_c239 345 1000 := (scLaw_law_14 9).trans rfl
theorem fLaw_law_346 : w_fe am_c239 346 347 (.aload 1) := ⟨(scLaw_law_14 10).trans rfl, rfl⟩
theorem fLaw_law_347 : w_fe am_c239 347 348 (.aload 0) := ⟨(scLaw_law_14 11).trans rfl, rfl⟩
theorem fLaw_law_348 : w_fe am_c239 348 349 (.iload 3) := ⟨(scLaw_law_14 12).trans rfl, rfl⟩
theorem fLaw_law_349 : w_fe am_c239 349 350 (.bipush 1) := ⟨(scLaw_law_14 13).trans rfl, rfl⟩
theorem fLaw_law_350 : w_fe am_c239 350 351 (.iadd) := ⟨(scLaw_law_14 14).trans rfl, rfl⟩
theorem fLaw_law_351 : w_fe am_c239 351 352 (.iaload) := ⟨(scLaw_law_14 15).trans rfl, rfl⟩
theorem fLaw_law_352 : w_fe am_c239 352 353 (.aload 0) := ⟨(scLaw_law_14 16).trans rfl, rfl⟩
theorem fLaw_law_353 : w_fe am_c239 353 354 (.iload 3) := ⟨(scLaw_law_14 17).trans rfl, rfl⟩
theorem fLaw_law_354 : w_fe am_c239 354 355 (.bipush 2) := ⟨(scLaw_law_14 18).trans rfl, rfl⟩
theorem fLaw_law_355 : w_fe am_c239 355 356 (.iadd) := ⟨(scLaw_law_14 19).trans rfl, rfl⟩
theorem fLaw_law_356 : w_fe am_c239 356 357 (.iaload) := ⟨(scLaw_law_14 20).trans rfl, rfl⟩
theorem fLaw_law_357 : w_fe am_c239 357 358 (.invokestatic 122) := ⟨(scLaw_law_14 21).trans rfl, rfl⟩
theorem fLaw_law_358 : w_fe am_c239 358 359 (.pop) := ⟨(scLaw_law_14 22).trans rfl, rfl⟩
theorem fLaw_law_359 : w_fe am_c239 359 360 (.aload 2) := ⟨(scLaw_law_14 23).trans rfl, rfl⟩
theorem fLaw_law_360 : w_fe am_c239 360 361 (.aload 0) := ⟨(scLaw_law_15 0).trans rfl, rfl⟩
theorem fLaw_law_361 : w_fe am_c239 361 362 (.iload 3) := ⟨(scLaw_law_15 1).trans rfl, rfl⟩
theorem fLaw_law_362 : w_fe am_c239 362 363 (.bipush 1) := ⟨(scLaw_law_15 2).trans rfl, rfl⟩
theorem fLaw_law_363 : w_fe am_c239 363 364 (.iadd) := ⟨(scLaw_law_15 3).trans rfl, rfl⟩
theorem fLaw_law_364 : w_fe am_c239 364 365 (.iaload) := ⟨(scLaw_law_15 4).trans rfl, rfl⟩
theorem fLaw_law_365 : w_fe am_c239 365 366 (.aload 0) := ⟨(scLaw_law_15 5).trans rfl, rfl⟩
theorem fLaw_law_366 : w_fe am_c239 366 367 (.iload 3) := ⟨(scLaw_law_15 6).trans rfl, rfl⟩
theorem fLaw_law_367 : w_fe am_c239 367 368 (.bipush 2) := ⟨(scLaw_law_15 7).trans rfl, rfl⟩
theorem fLaw_law_368 : w_fe am_c239 368 369 (.iadd) := ⟨(scLaw_law_15 8).trans rfl, rfl⟩
theorem fLaw_law_369 : w_fe am_c239 369 370 (.iaload) := ⟨(scLaw_law_15 9).trans rfl, rfl⟩
theorem fLaw_law_370 : w_fe am_c239 370 371 (.invokestatic 191) := ⟨(scLaw_law_15 10).trans rfl, rfl⟩
theorem fLaw_law_371 : w_fe am_c239 371 372 (.pop) := ⟨(scLaw_law_15 11).trans rfl, rfl⟩
theorem fLaw_law_372 : w_gt am_c239 372 1000 := (scLaw_law_15 12).trans rfl
theorem fLaw_law_373 : w_fe am_c239 373 374 (.aload 1) := ⟨(scLaw_law_15 13).trans rfl, rfl⟩
theorem fLaw_law_374 : w_fe am_c239 374 375 (.aload 0) := ⟨(scLaw_law_15 14).trans rfl, rfl⟩
theorem fLaw_law_375 : w_fe am_c239 375 376 (.iload 3) := ⟨(scLaw_law_15 15).trans rfl, rfl⟩
theorem fLaw_law_376 : w_fe am_c239 376 377 (.bipush 1) := ⟨(scLaw_law_15 16).trans rfl, rfl⟩
theorem fLaw_law_377 : w_fe am_c239 377 378 (.iadd) := ⟨(scLaw_law_15 17).trans rfl, rfl⟩
theorem fLaw_law_378 : w_fe am_c239 378 379 (.iaload) := ⟨(scLaw_law_15 18).trans rfl, rfl⟩
theorem fLaw_law_379 : w_fe am_c239 379 380 (.aload 0) := ⟨(scLaw_law_15 19).trans rfl, rfl⟩
theorem fLaw_law_380 : w_fe am_c239 380 381 (.iload 3) := ⟨(scLaw_law_15 20).trans rfl, rfl⟩
theorem fLaw_law_381 : w_fe am_c239 381 382 (.bipush 2) := ⟨(scLaw_law_15 21).trans rfl, rfl⟩
theorem fLaw_law_382 : w_fe am_c239 382 383 (.iadd) := ⟨(scLaw_law_15 22).trans rfl, rfl⟩
theorem fLaw_law_383 : w_fe am_c239 383 384 (.iaload) := ⟨(scLaw_law_15 23).trans rfl, rfl⟩
theorem fLaw_law_384 : w_fe am_c239 384 385 (.invokestatic 123) := ⟨(scLaw_law_16 0).trans rfl, rfl⟩
theorem fLaw_law_385 : w_fe am_c239 385 386 (.pop) := ⟨(scLaw_law_16 1).trans rfl, rfl⟩
theorem fLaw_law_386 : w_fe am_c239 386 387 (.aload 2) := ⟨(scLaw_law_16 2).trans rfl, rfl⟩
theorem fLaw_law_387 : w_fe am_c239 387 388 (.aload 0) := ⟨(scLaw_law_16 3).trans rfl, rfl⟩
theorem fLaw_law_388 : w_fe am_c239 388 389 (.iload 3) := ⟨(scLaw_law_16 4).trans rfl, rfl⟩
theorem fLaw_law_389 : w_fe am_c239 389 390 (.bipush 1) := ⟨(scLaw_law_16 5).trans rfl, rfl⟩
theorem fLaw_law_390 : w_fe am_c239 390 391 (.iadd) := ⟨(scLaw_law_16 6).trans rfl, rfl⟩
theorem fLaw_law_391 : w_fe am_c239 391 392 (.iaload) := ⟨(scLaw_law_16 7).trans rfl, rfl⟩
theorem fLaw_law_392 : w_fe am_c239 392 393 (.aload 0) := ⟨(scLaw_law_16 8).trans rfl, rfl⟩
theorem fLaw_law_393 : w_fe am_c239 393 394 (.iload 3) := ⟨(scLaw_law_16 9).trans rfl, rfl⟩
theorem fLaw_law_394 : w_fe am_c239 394 395 (.bipush 2) := ⟨(scLaw_law_16 10).trans rfl, rfl⟩
theorem fLaw_law_395 : w_fe am_c239 395 396 (.iadd) := ⟨(scLaw_law_16 11).trans rfl, rfl⟩
theorem fLaw_law_396 : w_fe am_c239 396 397 (.iaload) := ⟨(scLaw_law_16 12).trans rfl, rfl⟩
theorem fLaw_law_397 : w_fe am_c239 397 398 (.invokestatic 192) := ⟨(scLaw_law_16 13).trans rfl, rfl⟩
theorem fLaw_law_398 : w_fe am_c239 398 399 (.pop) := ⟨(scLaw_law_16 14).trans rfl, rfl⟩
theorem fLaw_law_399 : w_gt am_c239 399 1000 := (scLaw_law_16 15).trans rfl
theorem fLaw_law_400 : w_fe am_c239 400 401 (.aload 1) := ⟨(scLaw_law_16 16).trans rfl, rfl⟩
theorem fLaw_law_401 : w_fe am_c239 401 402 (.aload 0) := ⟨(scLaw_law_16 17).trans rfl, rfl⟩
theorem fLaw_law_402 : w_fe am_c239 402 403 (.iload 3) := ⟨(scLaw_law_16 18).trans rfl, rfl⟩
theorem fLaw_law_403 : w_fe am_c239 403 404 (.bipush 1) := ⟨(scLaw_law_16 19).trans rfl, rfl⟩
theorem fLaw_law_404 : w_fe am_c239 404 405 (.iadd) := ⟨(scLaw_law_16 20).trans rfl, rfl⟩
theorem fLaw_law_405 : w_fe am_c239 405 406 (.iaload) := ⟨(scLaw_law_16 21).trans rfl, rfl⟩
theorem fLaw_law_406 : w_fe am_c239 406 407 (.invokestatic 124) := ⟨(scLaw_law_16 22).trans rfl, rfl⟩
theorem fLaw_law_407 : w_fe am_c239 407 408 (.pop) := ⟨(scLaw_law_16 23).trans rfl, rfl⟩
theorem fLaw_law_408 : w_fe am_c239 408 409 (.aload 2) := ⟨(scLaw_law_17 0).trans rfl, rfl⟩
theorem fLaw_law_409 : w_fe am_c239 409 410 (.aload 0) := ⟨(scLaw_law_17 1).trans rfl, rfl⟩
theorem fLaw_law_410 : w_fe am_c239 410 411 (.iload 3) := ⟨(scLaw_law_17 2).trans rfl, rfl⟩
theorem fLaw_law_411 : w_fe am_c239 411 412 (.bipush 1) := ⟨(scLaw_law_17 3).trans rfl, rfl⟩
theorem fLaw_law_412 : w_fe am_c239 412 413 (.iadd) := ⟨(scLaw_law_17 4).trans rfl, rfl⟩
theorem fLaw_law_413 : w_fe am_c239 413 414 (.iaload) := ⟨(scLaw_law_17 5).trans rfl, rfl⟩
theorem fLaw_law_414 : w_fe am_c239 414 415 (.invokestatic 193) := ⟨(scLaw_law_17 6).trans rfl, rfl⟩
theorem fLaw_law_415 : w_fe am_c239 415 416 (.pop) := ⟨(scLaw_law_17 7).trans rfl, rfl⟩
theorem fLaw_law_416 : w_gt am_c239 416 1000 := (scLaw_law_17 8).trans rfl
theorem fLaw_law_417 : w_fe am_c239 417 418 (.aload 1) := ⟨(scLaw_law_17 9).trans rfl, rfl⟩
theorem fLaw_law_418 : w_fe am_c239 418 419 (.aload 0) := ⟨(scLaw_law_17 10).trans rfl, rfl⟩
theorem fLaw_law_419 : w_fe am_c239 419 420 (.iload 3) := ⟨(scLaw_law_17 11).trans rfl, rfl⟩
theorem fLaw_law_420 : w_fe am_c239 420 421 (.bipush 1) := ⟨(scLaw_law_17 12).trans rfl, rfl⟩
theorem fLaw_law_421 : w_fe am_c239 421 422 (.iadd) := ⟨(scLaw_law_17 13).trans rfl, rfl⟩
theorem fLaw_law_422 : w_fe am_c239 422 423 (.iaload) := ⟨(scLaw_law_17 14).trans rfl, rfl⟩
theorem fLaw_law_423 : w_fe am_c239 423 424 (.aload 0) := ⟨(scLaw_law_17 15).trans rfl, rfl⟩
theorem fLaw_law_424 : w_fe am_c239 424 425 (.iload 3) := ⟨(scLaw_law_17 16).trans rfl, rfl⟩
theorem fLaw_law_425 : w_fe am_c239 425 426 (.bipush 2) := ⟨(scLaw_law_17 17).trans rfl, rfl⟩
theorem fLaw_law_426 : w_fe am_c239 426 427 (.iadd) := ⟨(scLaw_law_17 18).trans rfl, rfl⟩
theorem fLaw_law_427 : w_fe am_c239 427 428 (.iaload) := ⟨(scLaw_law_17 19).trans rfl, rfl⟩
theorem fLaw_law_428 : w_fe am_c239 428 429 (.aload 0) := ⟨(scLaw_law_17 20).trans rfl, rfl⟩
theorem fLaw_law_429 : w_fe am_c239 429 430 (.iload 3) := ⟨(scLaw_law_17 21).trans rfl, rfl⟩
theorem fLaw_law_430 : w_fe am_c239 430 431 (.bipush 3) := ⟨(scLaw_law_17 22).trans rfl, rfl⟩
theorem fLaw_law_431 : w_fe am_c239 431 432 (.iadd) := ⟨(scLaw_law_17 23).trans rfl, rfl⟩
theorem fLaw_law_432 : w_fe am_c239 432 433 (.iaload) := ⟨(scLaw_law_18 0).trans rfl, rfl⟩
theorem fLaw_law_433 : w_fe am_c239 433 434 (.invokestatic 125) := ⟨(scLaw_law_18 1).trans rfl, rfl⟩
theorem fLaw_law_434 : w_fe am_c239 434 435 (.pop) := ⟨(scLaw_law_18 2).trans rfl, rfl⟩
theorem fLaw_law_435 : w_fe am_c239 435 436 (.aload 2) := ⟨(scLaw_law_18 3).trans rfl, rfl⟩
theorem fLaw_law_436 : w_fe am_c239 436 437 (.aload 0) := ⟨(scLaw_law_18 4).trans rfl, rfl⟩
theorem fLaw_law_437 : w_fe am_c239 437 438 (.iload 3) := ⟨(scLaw_law_18 5).trans rfl, rfl⟩
theorem fLaw_law_438 : w_fe am_c239 438 439 (.bipush 1) := ⟨(scLaw_law_18 6).trans rfl, rfl⟩
theorem fLaw_law_439 : w_fe am_c239 439 440 (.iadd) := ⟨(scLaw_law_18 7).trans rfl, rfl⟩
theorem fLaw_law_440 : w_fe am_c239 440 441 (.iaload) := ⟨(scLaw_law_18 8).trans rfl, rfl⟩
theorem fLaw_law_441 : w_fe am_c239 441 442 (.aload 0) := ⟨(scLaw_law_18 9).trans rfl, rfl⟩
theorem fLaw_law_442 : w_fe am_c239 442 443 (.iload 3) := ⟨(scLaw_law_18 10).trans rfl, rfl⟩
theorem fLaw_law_443 : w_fe am_c239 443 444 (.bipush 2) := ⟨(scLaw_law_18 11).trans rfl, rfl⟩
theorem fLaw_law_444 : w_fe am_c239 444 445 (.iadd) := ⟨(scLaw_law_18 12).trans rfl, rfl⟩
theorem fLaw_law_445 : w_fe am_c239 445 446 (.iaload) := ⟨(scLaw_law_18 13).trans rfl, rfl⟩
theorem fLaw_law_446 : w_fe am_c239 446 447 (.aload 0) := ⟨(scLaw_law_18 14).trans rfl, rfl⟩
theorem fLaw_law_447 : w_fe am_c239 447 448 (.iload 3) := ⟨(scLaw_law_18 15).trans rfl, rfl⟩
theorem fLaw_law_448 : w_fe am_c239 448 449 (.bipush 3) := ⟨(scLaw_law_18 16).trans rfl, rfl⟩
theorem fLaw_law_449 : w_fe am_c239 449 450 (.iadd) := ⟨(scLaw_law_18 17).trans rfl, rfl⟩
theorem fLaw_law_450 : w_fe am_c239 450 451 (.iaload) := ⟨(scLaw_law_18 18).trans rfl, rfl⟩
theorem fLaw_law_451 : w_fe am_c239 451 452 (.invokestatic 201) := ⟨(scLaw_law_18 19).trans rfl, rfl⟩
theorem fLaw_law_452 : w_fe am_c239 452 453 (.pop) := ⟨(scLaw_law_18 20).trans rfl, rfl⟩
theorem fLaw_law_453 : w_gt am_c239 453 1000 := (scLaw_law_18 21).trans rfl
theorem fLaw_law_454 : w_fe am_c239 454 455 (.aload 1) := ⟨(scLaw_law_18 22).trans rfl, rfl⟩
theorem fLaw_law_455 : w_fe am_c239 455 456 (.aload 0) := ⟨(scLaw_law_18 23).trans rfl, rfl⟩
theorem fLaw_law_456 : w_fe am_c239 456 457 (.iload 3) := ⟨(scLaw_law_19 0).trans rfl, rfl⟩
theorem fLaw_law_457 : w_fe am_c239 457 458 (.bipush 1) := ⟨(scLaw_law_19 1).trans rfl, rfl⟩
theorem fLaw_law_458 : w_fe am_c239 458 459 (.iadd) := ⟨(scLaw_law_19 2).trans rfl, rfl⟩
theorem fLaw_law_459 : w_fe am_c239 459 460 (.iaload) := ⟨(scLaw_law_19 3).trans rfl, rfl⟩
theorem fLaw_law_460 : w_fe am_c239 460 461 (.aload 0) := ⟨(scLaw_law_19 4).trans rfl, rfl⟩
theorem fLaw_law_461 : w_fe am_c239 461 462 (.iload 3) := ⟨(scLaw_law_19 5).trans rfl, rfl⟩
theorem fLaw_law_462 : w_fe am_c239 462 463 (.bipush 2) := ⟨(scLaw_law_19 6).trans rfl, rfl⟩
theorem fLaw_law_463 : w_fe am_c239 463 464 (.iadd) := ⟨(scLaw_law_19 7).trans rfl, rfl⟩
theorem fLaw_law_464 : w_fe am_c239 464 465 (.iaload) := ⟨(scLaw_law_19 8).trans rfl, rfl⟩
theorem fLaw_law_465 : w_fe am_c239 465 466 (.invokestatic 126) := ⟨(scLaw_law_19 9).trans rfl, rfl⟩
theorem fLaw_law_466 : w_fe am_c239 466 467 (.pop) := ⟨(scLaw_law_19 10).trans rfl, rfl⟩
theorem fLaw_law_467 : w_fe am_c239 467 468 (.aload 2) := ⟨(scLaw_law_19 11).trans rfl, rfl⟩
theorem fLaw_law_468 : w_fe am_c239 468 469 (.aload 0) := ⟨(scLaw_law_19 12).trans rfl, rfl⟩
theorem fLaw_law_469 : w_fe am_c239 469 470 (.iload 3) := ⟨(scLaw_law_19 13).trans rfl, rfl⟩
theorem fLaw_law_470 : w_fe am_c239 470 471 (.bipush 1) := ⟨(scLaw_law_19 14).trans rfl, rfl⟩
theorem fLaw_law_471 : w_fe am_c239 471 472 (.iadd) := ⟨(scLaw_law_19 15).trans rfl, rfl⟩
theorem fLaw_law_472 : w_fe am_c239 472 473 (.iaload) := ⟨(scLaw_law_19 16).trans rfl, rfl⟩
theorem fLaw_law_473 : w_fe am_c239 473 474 (.aload 0) := ⟨(scLaw_law_19 17).trans rfl, rfl⟩
theorem fLaw_law_474 : w_fe am_c239 474 475 (.iload 3) := ⟨(scLaw_law_19 18).trans rfl, rfl⟩
theorem fLaw_law_475 : w_fe am_c239 475 476 (.bipush 2) := ⟨(scLaw_law_19 19).trans rfl, rfl⟩
theorem fLaw_law_476 : w_fe am_c239 476 477 (.iadd) := ⟨(scLaw_law_19 20).trans rfl, rfl⟩
theorem fLaw_law_477 : w_fe am_c239 477 478 (.iaload) := ⟨(scLaw_law_19 21).trans rfl, rfl⟩
theorem fLaw_law_478 : w_fe am_c239 478 479 (.invokestatic 202) := ⟨(scLaw_law_19 22).trans rfl, rfl⟩
theorem fLaw_law_479 : w_fe am_c239 479 480 (.pop) := ⟨(scLaw_law_19 23).trans rfl, rfl⟩
theorem fLaw_law_480 : w_gt am_c239 480 1000 := (scLaw_law_20 0).trans rfl
theorem fLaw_law_481 : w_fe am_c239 481 482 (.aload 1) := ⟨(scLaw_law_20 1).trans rfl, rfl⟩
theorem fLaw_law_482 : w_fe am_c239 482 483 (.aload 0) := ⟨(scLaw_law_20 2).trans rfl, rfl⟩
theorem fLaw_law_483 : w_fe am_c239 483 484 (.iload 3) := ⟨(scLaw_law_20 3).trans rfl, rfl⟩
theorem fLaw_law_484 : w_fe am_c239 484 485 (.bipush 1) := ⟨(scLaw_law_20 4).trans rfl, rfl⟩
theorem fLaw_law_485 : w_fe am_c239 485 486 (.iadd) := ⟨(scLaw_law_20 5).trans rfl, rfl⟩
theorem fLaw_law_486 : w_fe am_c239 486 487 (.iaload) := ⟨(scLaw_law_20 6).trans rfl, rfl⟩
theorem fLaw_law_487 : w_fe am_c239 487 488 (.invokestatic 127) := ⟨(scLaw_law_20 7).trans rfl, rfl⟩
theorem fLaw_law_488 : w_fe am_c239 488 489 (.pop) := ⟨(scLaw_law_20 8).trans rfl, rfl⟩
theorem fLaw_law_489 : w_fe am_c239 489 490 (.aload 2) := ⟨(scLaw_law_20 9).trans rfl, rfl⟩
theorem fLaw_law_490 : w_fe am_c239 490 491 (.aload 0) := ⟨(scLaw_law_20 10).trans rfl, rfl⟩
theorem fLaw_law_491 : w_fe am_c239 491 492 (.iload 3) := ⟨(scLaw_law_20 11).trans rfl, rfl⟩
theorem fLaw_law_492 : w_fe am_c239 492 493 (.bipush 1) := ⟨(scLaw_law_20 12).trans rfl, rfl⟩
theorem fLaw_law_493 : w_fe am_c239 493 494 (.iadd) := ⟨(scLaw_law_20 13).trans rfl, rfl⟩
theorem fLaw_law_494 : w_fe am_c239 494 495 (.iaload) := ⟨(scLaw_law_20 14).trans rfl, rfl⟩
theorem fLaw_law_495 : w_fe am_c239 495 496 (.invokestatic 203) := ⟨(scLaw_law_20 15).trans rfl, rfl⟩
theorem fLaw_law_496 : w_fe am_c239 496 497 (.pop) := ⟨(scLaw_law_20 16).trans rfl, rfl⟩
theorem fLaw_law_497 : w_gt am_c239 497 1000 := (scLaw_law_20 17).trans rfl
theorem fLaw_law_498 : w_fe am_c239 498 499 (.aload 1) := ⟨(scLaw_law_20 18).trans rfl, rfl⟩
theorem fLaw_law_499 : w_fe am_c239 499 500 (.invokestatic 128) := ⟨(scLaw_law_20 19).trans rfl, rfl⟩
theorem fLaw_law_500 : w_fe am_c239 500 501 (.pop) := ⟨(scLaw_law_20 20).trans rfl, rfl⟩
theorem fLaw_law_501 : w_fe am_c239 501 502 (.aload 2) := ⟨(scLaw_law_20 21).trans rfl, rfl⟩
theorem fLaw_law_502 : w_fe am_c239 502 503 (.invokestatic 205) := ⟨(scLaw_law_20 22).trans rfl, rfl⟩
theorem fLaw_law_503 : w_fe am_c239 503 504 (.pop) := ⟨(scLaw_law_20 23).trans rfl, rfl⟩
theorem fLaw_law_504 : w_gt am_c239 504 1000 := (scLaw_law_21 0).trans rfl
theorem fLaw_law_505 : w_fe am_c239 505 506 (.aload 1) := ⟨(scLaw_law_21 1).trans rfl, rfl⟩
theorem fLaw_law_506 : w_fe am_c239 506 507 (.aload 0) := ⟨(scLaw_law_21 2).trans rfl, rfl⟩
theorem fLaw_law_507 : w_fe am_c239 507 508 (.iload 3) := ⟨(scLaw_law_21 3).trans rfl, rfl⟩
theorem fLaw_law_508 : w_fe am_c239 508 509 (.bipush 1) := ⟨(scLaw_law_21 4).trans rfl, rfl⟩
theorem fLaw_law_509 : w_fe am_c239 509 510 (.iadd) := ⟨(scLaw_law_21 5).trans rfl, rfl⟩
theorem fLaw_law_510 : w_fe am_c239 510 511 (.iaload) := ⟨(scLaw_law_21 6).trans rfl, rfl⟩
theorem fLaw_law_511 : w_fe am_c239 511 512 (.invokestatic 129) := ⟨(scLaw_law_21 7).trans rfl, rfl⟩
theorem fLaw_law_512 : w_fe am_c239 512 513 (.pop) := ⟨(scLaw_law_21 8).trans rfl, rfl⟩
theorem fLaw_law_513 : w_fe am_c239 513 514 (.aload 2) := ⟨(scLaw_law_21 9).trans rfl, rfl⟩
theorem fLaw_law_514 : w_fe am_c239 514 515 (.aload 0) := ⟨(scLaw_law_21 10).trans rfl, rfl⟩
theorem fLaw_law_515 : w_fe am_c239 515 516 (.iload 3) := ⟨(scLaw_law_21 11).trans rfl, rfl⟩
theorem fLaw_law_516 : w_fe am_c239 516 517 (.bipush 1) := ⟨(scLaw_law_21 12).trans rfl, rfl⟩
theorem fLaw_law_517 : w_fe am_c239 517 518 (.iadd) := ⟨(scLaw_law_21 13).trans rfl, rfl⟩
theorem fLaw_law_518 : w_fe am_c239 518 519 (.iaload) := ⟨(scLaw_law_21 14).trans rfl, rfl⟩
theorem fLaw_law_519 : w_fe am_c239 519 520 (.invokestatic 206) := ⟨(scLaw_law_21 15).trans rfl, rfl⟩
theorem fLaw_law_520 : w_fe am_c239 520 521 (.pop) := ⟨(scLaw_law_21 16).trans rfl, rfl⟩
theorem fLaw_law_521 : w_gt am_c239 521 1000 := (scLaw_law_21 17).trans rfl
theorem fLaw_law_522 : w_fe am_c239 522 523 (.aload 1) := ⟨(scLaw_law_21 18).trans rfl, rfl⟩
theorem fLaw_law_523 : w_fe am_c239 523 524 (.aload 0) := ⟨(scLaw_law_21 19).trans rfl, rfl⟩
theorem fLaw_law_524 : w_fe am_c239 524 525 (.iload 3) := ⟨(scLaw_law_21 20).trans rfl, rfl⟩
theorem fLaw_law_525 : w_fe am_c239 525 526 (.bipush 1) := ⟨(scLaw_law_21 21).trans rfl, rfl⟩
theorem fLaw_law_526 : w_fe am_c239 526 527 (.iadd) := ⟨(scLaw_law_21 22).trans rfl, rfl⟩
theorem fLaw_law_527 : w_fe am_c239 527 528 (.iaload) := ⟨(scLaw_law_21 23).trans rfl, rfl⟩
theorem fLaw_law_528 : w_fe am_c239 528 529 (.aload 0) := ⟨(scLaw_law_22 0).trans rfl, rfl⟩
theorem fLaw_law_529 : w_fe am_c239 529 530 (.iload 3) := ⟨(scLaw_law_22 1).trans rfl, rfl⟩
theorem fLaw_law_530 : w_fe am_c239 530 531 (.bipush 2) := ⟨(scLaw_law_22 2).trans rfl, rfl⟩
theorem fLaw_law_531 : w_fe am_c239 531 532 (.iadd) := ⟨(scLaw_law_22 3).trans rfl, rfl⟩
theorem fLaw_law_532 : w_fe am_c239 532 533 (.iaload) := ⟨(scLaw_law_22 4).trans rfl, rfl⟩
theorem fLaw_law_533 : w_fe am_c239 533 534 (.invokestatic 131) := ⟨(scLaw_law_22 5).trans rfl, rfl⟩
theorem fLaw_law_534 : w_fe am_c239 534 535 (.pop) := ⟨(scLaw_law_22 6).trans rfl, rfl⟩
theorem fLaw_law_535 : w_fe am_c239 535 536 (.aload 2) := ⟨(scLaw_law_22 7).trans rfl, rfl⟩
theorem fLaw_law_536 : w_fe am_c239 536 537 (.aload 0) := ⟨(scLaw_law_22 8).trans rfl, rfl⟩
theorem fLaw_law_537 : w_fe am_c239 537 538 (.iload 3) := ⟨(scLaw_law_22 9).trans rfl, rfl⟩
theorem fLaw_law_538 : w_fe am_c239 538 539 (.bipush 1) := ⟨(scLaw_law_22 10).trans rfl, rfl⟩
theorem fLaw_law_539 : w_fe am_c239 539 540 (.iadd) := ⟨(scLaw_law_22 11).trans rfl, rfl⟩
theorem fLaw_law_540 : w_fe am_c239 540 541 (.iaload) := ⟨(scLaw_law_22 12).trans rfl, rfl⟩
theorem fLaw_law_541 : w_fe am_c239 541 542 (.aload 0) := ⟨(scLaw_law_22 13).trans rfl, rfl⟩
theorem fLaw_law_542 : w_fe am_c239 542 543 (.iload 3) := ⟨(scLaw_law_22 14).trans rfl, rfl⟩
theorem fLaw_law_543 : w_fe am_c239 543 544 (.bipush 2) := ⟨(scLaw_law_22 15).trans rfl, rfl⟩
theorem fLaw_law_544 : w_fe am_c239 544 545 (.iadd) := ⟨(scLaw_law_22 16).trans rfl, rfl⟩
theorem fLaw_law_545 : w_fe am_c239 545 546 (.iaload) := ⟨(scLaw_law_22 17).trans rfl, rfl⟩
theorem fLaw_law_546 : w_fe am_c239 546 547 (.invokestatic 210) := ⟨(scLaw_law_22 18).trans rfl, rfl⟩
theorem fLaw_law_547 : w_fe am_c239 547 548 (.pop) := ⟨(scLaw_law_22 19).trans rfl, rfl⟩
theorem fLaw_law_548 : w_gt am_c239 548 1000 := (scLaw_law_22 20).trans rfl
theorem fLaw_law_549 : w_fe am_c239 549 550 (.aload 1) := ⟨(scLaw_law_22 21).trans rfl, rfl⟩
theorem fLaw_law_550 : w_fe am_c239 550 551 (.aload 0) := ⟨(scLaw_law_22 22).trans rfl, rfl⟩
theorem fLaw_law_551 : w_fe am_c239 551 552 (.iload 3) := ⟨(scLaw_law_22 23).trans rfl, rfl⟩
theorem fLaw_law_552 : w_fe am_c239 552 553 (.bipush 1) := ⟨(scLaw_law_23 0).trans rfl, rfl⟩
theorem fLaw_law_553 : w_fe am_c239 553 554 (.iadd) := ⟨(scLaw_law_23 1).trans rfl, rfl⟩
theorem fLaw_law_554 : w_fe am_c239 554 555 (.iaload) := ⟨(scLaw_law_23 2).trans rfl, rfl⟩
theorem fLaw_law_555 : w_fe am_c239 555 556 (.invokestatic 132) := ⟨(scLaw_law_23 3).trans rfl, rfl⟩
theorem fLaw_law_556 : w_fe am_c239 556 557 (.pop) := ⟨(scLaw_law_23 4).trans rfl, rfl⟩
theorem fLaw_law_557 : w_fe am_c239 557 558 (.aload 2) := ⟨(scLaw_law_23 5).trans rfl, rfl⟩
theorem fLaw_law_558 : w_fe am_c239 558 559 (.aload 0) := ⟨(scLaw_law_23 6).trans rfl, rfl⟩
theorem fLaw_law_559 : w_fe am_c239 559 560 (.iload 3) := ⟨(scLaw_law_23 7).trans rfl, rfl⟩
theorem fLaw_law_560 : w_fe am_c239 560 561 (.bipush 1) := ⟨(scLaw_law_23 8).trans rfl, rfl⟩
theorem fLaw_law_561 : w_fe am_c239 561 562 (.iadd) := ⟨(scLaw_law_23 9).trans rfl, rfl⟩
theorem fLaw_law_562 : w_fe am_c239 562 563 (.iaload) := ⟨(scLaw_law_23 10).trans rfl, rfl⟩
theorem fLaw_law_563 : w_fe am_c239 563 564 (.invokestatic 211) := ⟨(scLaw_law_23 11).trans rfl, rfl⟩
theorem fLaw_law_564 : w_fe am_c239 564 565 (.pop) := ⟨(scLaw_law_23 12).trans rfl, rfl⟩
theorem fLaw_law_565 : w_gt am_c239 565 1000 := (scLaw_law_23 13).trans rfl
theorem fLaw_law_566 : w_fe am_c239 566 567 (.aload 1) := ⟨(scLaw_law_23 14).trans rfl, rfl⟩
theorem fLaw_law_567 : w_fe am_c239 567 568 (.aload 0) := ⟨(scLaw_law_23 15).trans rfl, rfl⟩
theorem fLaw_law_568 : w_fe am_c239 568 569 (.iload 3) := ⟨(scLaw_law_23 16).trans rfl, rfl⟩
theorem fLaw_law_569 : w_fe am_c239 569 570 (.bipush 1) := ⟨(scLaw_law_23 17).trans rfl, rfl⟩
theorem fLaw_law_570 : w_fe am_c239 570 571 (.iadd) := ⟨(scLaw_law_23 18).trans rfl, rfl⟩
theorem fLaw_law_571 : w_fe am_c239 571 572 (.iaload) := ⟨(scLaw_law_23 19).trans rfl, rfl⟩
theorem fLaw_law_572 : w_fe am_c239 572 573 (.invokestatic 133) := ⟨(scLaw_law_23 20).trans rfl, rfl⟩
theorem fLaw_law_573 : w_fe am_c239 573 574 (.pop) := ⟨(scLaw_law_23 21).trans rfl, rfl⟩
theorem fLaw_law_574 : w_fe am_c239 574 575 (.aload 2) := ⟨(scLaw_law_23 22).trans rfl, rfl⟩
theorem fLaw_law_575 : w_fe am_c239 575 576 (.aload 0) := ⟨(scLaw_law_23 23).trans rfl, rfl⟩
theorem fLaw_law_576 : w_fe am_c239 576 577 (.iload 3) := ⟨(scLaw_law_24 0).trans rfl, rfl⟩
theorem fLaw_law_577 : w_fe am_c239 577 578 (.bipush 1) := ⟨(scLaw_law_24 1).trans rfl, rfl⟩
theorem fLaw_law_578 : w_fe am_c239 578 579 (.iadd) := ⟨(scLaw_law_24 2).trans rfl, rfl⟩
theorem fLaw_law_579 : w_fe am_c239 579 580 (.iaload) := ⟨(scLaw_law_24 3).trans rfl, rfl⟩
theorem fLaw_law_580 : w_fe am_c239 580 581 (.invokestatic 212) := ⟨(scLaw_law_24 4).trans rfl, rfl⟩
theorem fLaw_law_581 : w_fe am_c239 581 582 (.pop) := ⟨(scLaw_law_24 5).trans rfl, rfl⟩
theorem fLaw_law_582 : w_gt am_c239 582 1000 := (scLaw_law_24 6).trans rfl
theorem fLaw_law_583 : w_fe am_c239 583 584 (.aload 1) := ⟨(scLaw_law_24 7).trans rfl, rfl⟩
theorem fLaw_law_584 : w_fe am_c239 584 585 (.aload 0) := ⟨(scLaw_law_24 8).trans rfl, rfl⟩
theorem fLaw_law_585 : w_fe am_c239 585 586 (.iload 3) := ⟨(scLaw_law_24 9).trans rfl, rfl⟩
theorem fLaw_law_586 : w_fe am_c239 586 587 (.bipush 1) := ⟨(scLaw_law_24 10).trans rfl, rfl⟩
theorem fLaw_law_587 : w_fe am_c239 587 588 (.iadd) := ⟨(scLaw_law_24 11).trans rfl, rfl⟩
theorem fLaw_law_588 : w_fe am_c239 588 589 (.iaload) := ⟨(scLaw_law_24 12).trans rfl, rfl⟩
theorem fLaw_law_589 : w_fe am_c239 589 590 (.aload 0) := ⟨(scLaw_law_24 13).trans rfl, rfl⟩
theorem fLaw_law_590 : w_fe am_c239 590 591 (.iload 3) := ⟨(scLaw_law_24 14).trans rfl, rfl⟩
theorem fLaw_law_591 : w_fe am_c239 591 592 (.bipush 2) := ⟨(scLaw_law_24 15).trans rfl, rfl⟩
theorem fLaw_law_592 : w_fe am_c239 592 593 (.iadd) := ⟨(scLaw_law_24 16).trans rfl, rfl⟩
theorem fLaw_law_593 : w_fe am_c239 593 594 (.iaload) := ⟨(scLaw_law_24 17).trans rfl, rfl⟩
theorem fLaw_law_594 : w_fe am_c239 594 595 (.invokestatic 134) := ⟨(scLaw_law_24 18).trans rfl, rfl⟩
theorem fLaw_law_595 : w_fe am_c239 595 596 (.pop2) := ⟨(scLaw_law_24 19).trans rfl, rfl⟩
theorem fLaw_law_596 : w_fe am_c239 596 597 (.aload 2) := ⟨(scLaw_law_24 20).trans rfl, rfl⟩
theorem fLaw_law_597 : w_fe am_c239 597 598 (.aload 0) := ⟨(scLaw_law_24 21).trans rfl, rfl⟩
theorem fLaw_law_598 : w_fe am_c239 598 599 (.iload 3) := ⟨(scLaw_law_24 22).trans rfl, rfl⟩
theorem fLaw_law_599 : w_fe am_c239 599 600 (.bipush 1) := ⟨(scLaw_law_24 23).trans rfl, rfl⟩
theorem fLaw_law_600 : w_fe am_c239 600 601 (.iadd) := ⟨(scLaw_law_25 0).trans rfl, rfl⟩
theorem fLaw_law_601 : w_fe am_c239 601 602 (.iaload) := ⟨(scLaw_law_25 1).trans rfl, rfl⟩
theorem fLaw_law_602 : w_fe am_c239 602 603 (.aload 0) := ⟨(scLaw_law_25 2).trans rfl, rfl⟩
theorem fLaw_law_603 : w_fe am_c239 603 604 (.iload 3) := ⟨(scLaw_law_25 3).trans rfl, rfl⟩
theorem fLaw_law_604 : w_fe am_c239 604 605 (.bipush 2) := ⟨(scLaw_law_25 4).trans rfl, rfl⟩
theorem fLaw_law_605 : w_fe am_c239 605 606 (.iadd) := ⟨(scLaw_law_25 5).trans rfl, rfl⟩
theorem fLaw_law_606 : w_fe am_c239 606 607 (.iaload) := ⟨(scLaw_law_25 6).trans rfl, rfl⟩
theorem fLaw_law_607 : w_fe am_c239 607 608 (.invokestatic 213) := ⟨(scLaw_law_25 7).trans rfl, rfl⟩
theorem fLaw_law_608 : w_fe am_c239 608 609 (.pop2) := ⟨(scLaw_law_25 8).trans rfl, rfl⟩
theorem fLaw_law_609 : w_gt am_c239 609 1000 := (scLaw_law_25 9).trans rfl
theorem fLaw_law_610 : w_fe am_c239 610 611 (.aload 1) := ⟨(scLaw_law_25 10).trans rfl, rfl⟩
theorem fLaw_law_611 : w_fe am_c239 611 612 (.aload 0) := ⟨(scLaw_law_25 11).trans rfl, rfl⟩
theorem fLaw_law_612 : w_fe am_c239 612 613 (.iload 3) := ⟨(scLaw_law_25 12).trans rfl, rfl⟩
theorem fLaw_law_613 : w_fe am_c239 613 614 (.bipush 1) := ⟨(scLaw_law_25 13).trans rfl, rfl⟩
theorem fLaw_law_614 : w_fe am_c239 614 615 (.iadd) := ⟨(scLaw_law_25 14).trans rfl, rfl⟩
theorem fLaw_law_615 : w_fe am_c239 615 616 (.iaload) := ⟨(scLaw_law_25 15).trans rfl, rfl⟩
theorem fLaw_law_616 : w_fe am_c239 616 617 (.aload 0) := ⟨(scLaw_law_25 16).trans rfl, rfl⟩
theorem fLaw_law_617 : w_fe am_c239 617 618 (.iload 3) := ⟨(scLaw_law_25 17).trans rfl, rfl⟩
theorem fLaw_law_618 : w_fe am_c239 618 619 (.bipush 2) := ⟨(scLaw_law_25 18).trans rfl, rfl⟩
theorem fLaw_law_619 : w_fe am_c239 619 620 (.iadd) := ⟨(scLaw_law_25 19).trans rfl, rfl⟩
theorem fLaw_law_620 : w_fe am_c239 620 621 (.iaload) := ⟨(scLaw_law_25 20).trans rfl, rfl⟩
theorem fLaw_law_621 : w_fe am_c239 621 622 (.aload 0) := ⟨(scLaw_law_25 21).trans rfl, rfl⟩
theorem fLaw_law_622 : w_fe am_c239 622 623 (.iload 3) := ⟨(scLaw_law_25 22).trans rfl, rfl⟩
theorem fLaw_law_623 : w_fe am_c239 623 624 (.bipush 3) := ⟨(scLaw_law_25 23).trans rfl, rfl⟩
theorem fLaw_law_624 : w_fe am_c239 624 625 (.iadd) := ⟨(scLaw_law_26 0).trans rfl, rfl⟩
theorem fLaw_law_625 : w_fe am_c239 625 626 (.iaload) := ⟨(scLaw_law_26 1).trans rfl, rfl⟩
theorem fLaw_law_626 : w_if am_c239 626 627 .eq 629 := ⟨(scLaw_law_26 2).trans rfl, rfl⟩
theorem fLaw_law_627 : w_fe am_c239 627 628 (.bipush 1) := ⟨(scLaw_law_26 3).trans rfl, rfl⟩
theorem fLaw_law_628 : w_gt am_c239 628 630 := (scLaw_law_26 4).trans rfl
theorem fLaw_law_629 : w_fe am_c239 629 630 (.bipush 0) := ⟨(scLaw_law_26 5).trans rfl, rfl⟩
theorem fLaw_law_630 : w_fe am_c239 630 631 (.invokestatic 137) := ⟨(scLaw_law_26 6).trans rfl, rfl⟩
theorem fLaw_law_631 : w_fe am_c239 631 632 (.pop) := ⟨(scLaw_law_26 7).trans rfl, rfl⟩
theorem fLaw_law_632 : w_fe am_c239 632 633 (.aload 2) := ⟨(scLaw_law_26 8).trans rfl, rfl⟩
theorem fLaw_law_633 : w_fe am_c239 633 634 (.aload 0) := ⟨(scLaw_law_26 9).trans rfl, rfl⟩
theorem fLaw_law_634 : w_fe am_c239 634 635 (.iload 3) := ⟨(scLaw_law_26 10).trans rfl, rfl⟩
theorem fLaw_law_635 : w_fe am_c239 635 636 (.bipush 1) := ⟨(scLaw_law_26 11).trans rfl, rfl⟩
theorem fLaw_law_636 : w_fe am_c239 636 637 (.iadd) := ⟨(scLaw_law_26 12).trans rfl, rfl⟩
theorem fLaw_law_637 : w_fe am_c239 637 638 (.iaload) := ⟨(scLaw_law_26 13).trans rfl, rfl⟩
theorem fLaw_law_638 : w_fe am_c239 638 639 (.aload 0) := ⟨(scLaw_law_26 14).trans rfl, rfl⟩
theorem fLaw_law_639 : w_fe am_c239 639 640 (.iload 3) := ⟨(scLaw_law_26 15).trans rfl, rfl⟩
theorem fLaw_law_640 : w_fe am_c239 640 641 (.bipush 2) := ⟨(scLaw_law_26 16).trans rfl, rfl⟩
theorem fLaw_law_641 : w_fe am_c239 641 642 (.iadd) := ⟨(scLaw_law_26 17).trans rfl, rfl⟩
theorem fLaw_law_642 : w_fe am_c239 642 643 (.iaload) := ⟨(scLaw_law_26 18).trans rfl, rfl⟩
theorem fLaw_law_643 : w_fe am_c239 643 644 (.aload 0) := ⟨(scLaw_law_26 19).trans rfl, rfl⟩
theorem fLaw_law_644 : w_fe am_c239 644 645 (.iload 3) := ⟨(scLaw_law_26 20).trans rfl, rfl⟩
theorem fLaw_law_645 : w_fe am_c239 645 646 (.bipush 3) := ⟨(scLaw_law_26 21).trans rfl, rfl⟩
theorem fLaw_law_646 : w_fe am_c239 646 647 (.iadd) := ⟨(scLaw_law_26 22).trans rfl, rfl⟩
theorem fLaw_law_647 : w_fe am_c239 647 648 (.iaload) := ⟨(scLaw_law_26 23).trans rfl, rfl⟩
theorem fLaw_law_648 : w_if am_c239 648 649 .eq 651 := ⟨(scLaw_law_27 0).trans rfl, rfl⟩
theorem fLaw_law_649 : w_fe am_c239 649 650 (.bipush 1) := ⟨(scLaw_law_27 1).trans rfl, rfl⟩
theorem fLaw_law_650 : w_gt am_c239 650 652 := (scLaw_law_27 2).trans rfl
theorem fLaw_law_651 : w_fe am_c239 651 652 (.bipush 0) := ⟨(scLaw_law_27 3).trans rfl, rfl⟩
theorem fLaw_law_652 : w_fe am_c239 652 653 (.invokestatic 215) := ⟨(scLaw_law_27 4).trans rfl, rfl⟩
theorem fLaw_law_653 : w_fe am_c239 653 654 (.pop) := ⟨(scLaw_law_27 5).trans rfl, rfl⟩
theorem fLaw_law_654 : w_gt am_c239 654 1000 := (scLaw_law_27 6).trans rfl
theorem fLaw_law_655 : w_fe am_c239 655 656 (.aload 1) := ⟨(scLaw_law_27 7).trans rfl, rfl⟩
theorem fLaw_law_656 : w_fe am_c239 656 657 (.aload 0) := ⟨(scLaw_law_27 8).trans rfl, rfl⟩
theorem fLaw_law_657 : w_fe am_c239 657 658 (.iload 3) := ⟨(scLaw_law_27 9).trans rfl, rfl⟩
theorem fLaw_law_658 : w_fe am_c239 658 659 (.bipush 1) := ⟨(scLaw_law_27 10).trans rfl, rfl⟩
theorem fLaw_law_659 : w_fe am_c239 659 660 (.iadd) := ⟨(scLaw_law_27 11).trans rfl, rfl⟩
theorem fLaw_law_660 : w_fe am_c239 660 661 (.iaload) := ⟨(scLaw_law_27 12).trans rfl, rfl⟩
theorem fLaw_law_661 : w_fe am_c239 661 662 (.invokestatic 138) := ⟨(scLaw_law_27 13).trans rfl, rfl⟩
theorem fLaw_law_662 : w_fe am_c239 662 663 (.pop) := ⟨(scLaw_law_27 14).trans rfl, rfl⟩
theorem fLaw_law_663 : w_fe am_c239 663 664 (.aload 2) := ⟨(scLaw_law_27 15).trans rfl, rfl⟩
theorem fLaw_law_664 : w_fe am_c239 664 665 (.aload 0) := ⟨(scLaw_law_27 16).trans rfl, rfl⟩
theorem fLaw_law_665 : w_fe am_c239 665 666 (.iload 3) := ⟨(scLaw_law_27 17).trans rfl, rfl⟩
theorem fLaw_law_666 : w_fe am_c239 666 667 (.bipush 1) := ⟨(scLaw_law_27 18).trans rfl, rfl⟩
theorem fLaw_law_667 : w_fe am_c239 667 668 (.iadd) := ⟨(scLaw_law_27 19).trans rfl, rfl⟩
theorem fLaw_law_668 : w_fe am_c239 668 669 (.iaload) := ⟨(scLaw_law_27 20).trans rfl, rfl⟩
theorem fLaw_law_669 : w_fe am_c239 669 670 (.invokestatic 216) := ⟨(scLaw_law_27 21).trans rfl, rfl⟩
theorem fLaw_law_670 : w_fe am_c239 670 671 (.pop) := ⟨(scLaw_law_27 22).trans rfl, rfl⟩
theorem fLaw_law_671 : w_gt am_c239 671 1000 := (scLaw_law_27 23).trans rfl
theorem fLaw_law_672 : w_fe am_c239 672 673 (.aload 1) := ⟨(scLaw_law_28 0).trans rfl, rfl⟩
theorem fLaw_law_673 : w_fe am_c239 673 674 (.aload 0) := ⟨(scLaw_law_28 1).trans rfl, rfl⟩
theorem fLaw_law_674 : w_fe am_c239 674 675 (.iload 3) := ⟨(scLaw_law_28 2).trans rfl, rfl⟩
theorem fLaw_law_675 : w_fe am_c239 675 676 (.bipush 1) := ⟨(scLaw_law_28 3).trans rfl, rfl⟩
theorem fLaw_law_676 : w_fe am_c239 676 677 (.iadd) := ⟨(scLaw_law_28 4).trans rfl, rfl⟩
theorem fLaw_law_677 : w_fe am_c239 677 678 (.iaload) := ⟨(scLaw_law_28 5).trans rfl, rfl⟩
theorem fLaw_law_678 : w_fe am_c239 678 679 (.invokestatic 139) := ⟨(scLaw_law_28 6).trans rfl, rfl⟩
theorem fLaw_law_679 : w_fe am_c239 679 680 (.pop) := ⟨(scLaw_law_28 7).trans rfl, rfl⟩
theorem fLaw_law_680 : w_fe am_c239 680 681 (.aload 2) := ⟨(scLaw_law_28 8).trans rfl, rfl⟩
theorem fLaw_law_681 : w_fe am_c239 681 682 (.aload 0) := ⟨(scLaw_law_28 9).trans rfl, rfl⟩
theorem fLaw_law_682 : w_fe am_c239 682 683 (.iload 3) := ⟨(scLaw_law_28 10).trans rfl, rfl⟩
theorem fLaw_law_683 : w_fe am_c239 683 684 (.bipush 1) := ⟨(scLaw_law_28 11).trans rfl, rfl⟩
theorem fLaw_law_684 : w_fe am_c239 684 685 (.iadd) := ⟨(scLaw_law_28 12).trans rfl, rfl⟩
theorem fLaw_law_685 : w_fe am_c239 685 686 (.iaload) := ⟨(scLaw_law_28 13).trans rfl, rfl⟩
theorem fLaw_law_686 : w_fe am_c239 686 687 (.invokestatic 217) := ⟨(scLaw_law_28 14).trans rfl, rfl⟩
theorem fLaw_law_687 : w_fe am_c239 687 688 (.pop) := ⟨(scLaw_law_28 15).trans rfl, rfl⟩
theorem fLaw_law_688 : w_gt am_c239 688 1000 := (scLaw_law_28 16).trans rfl
theorem fLaw_law_689 : w_fe am_c239 689 690 (.aload 1) := ⟨(scLaw_law_28 17).trans rfl, rfl⟩
theorem fLaw_law_690 : w_fe am_c239 690 691 (.invokestatic 140) := ⟨(scLaw_law_28 18).trans rfl, rfl⟩
theorem fLaw_law_691 : w_fe am_c239 691 692 (.pop) := ⟨(scLaw_law_28 19).trans rfl, rfl⟩
theorem fLaw_law_692 : w_fe am_c239 692 693 (.aload 2) := ⟨(scLaw_law_28 20).trans rfl, rfl⟩
theorem fLaw_law_693 : w_fe am_c239 693 694 (.invokestatic 223) := ⟨(scLaw_law_28 21).trans rfl, rfl⟩
theorem fLaw_law_694 : w_fe am_c239 694 695 (.pop) := ⟨(scLaw_law_28 22).trans rfl, rfl⟩
theorem fLaw_law_695 : w_gt am_c239 695 1000 := (scLaw_law_28 23).trans rfl
theorem fLaw_law_696 : w_fe am_c239 696 697 (.aload 1) := ⟨(scLaw_law_29 0).trans rfl, rfl⟩
theorem fLaw_law_697 : w_fe am_c239 697 698 (.aload 0) := ⟨(scLaw_law_29 1).trans rfl, rfl⟩
theorem fLaw_law_698 : w_fe am_c239 698 699 (.iload 3) := ⟨(scLaw_law_29 2).trans rfl, rfl⟩
theorem fLaw_law_699 : w_fe am_c239 699 700 (.bipush 1) := ⟨(scLaw_law_29 3).trans rfl, rfl⟩
theorem fLaw_law_700 : w_fe am_c239 700 701 (.iadd) := ⟨(scLaw_law_29 4).trans rfl, rfl⟩
theorem fLaw_law_701 : w_fe am_c239 701 702 (.iaload) := ⟨(scLaw_law_29 5).trans rfl, rfl⟩
theorem fLaw_law_702 : w_fe am_c239 702 703 (.aload 0) := ⟨(scLaw_law_29 6).trans rfl, rfl⟩
theorem fLaw_law_703 : w_fe am_c239 703 704 (.iload 3) := ⟨(scLaw_law_29 7).trans rfl, rfl⟩
theorem fLaw_law_704 : w_fe am_c239 704 705 (.bipush 2) := ⟨(scLaw_law_29 8).trans rfl, rfl⟩
theorem fLaw_law_705 : w_fe am_c239 705 706 (.iadd) := ⟨(scLaw_law_29 9).trans rfl, rfl⟩
theorem fLaw_law_706 : w_fe am_c239 706 707 (.iaload) := ⟨(scLaw_law_29 10).trans rfl, rfl⟩
theorem fLaw_law_707 : w_fe am_c239 707 708 (.invokestatic 141) := ⟨(scLaw_law_29 11).trans rfl, rfl⟩
theorem fLaw_law_708 : w_fe am_c239 708 709 (.pop) := ⟨(scLaw_law_29 12).trans rfl, rfl⟩
theorem fLaw_law_709 : w_fe am_c239 709 710 (.aload 2) := ⟨(scLaw_law_29 13).trans rfl, rfl⟩
theorem fLaw_law_710 : w_fe am_c239 710 711 (.aload 0) := ⟨(scLaw_law_29 14).trans rfl, rfl⟩
theorem fLaw_law_711 : w_fe am_c239 711 712 (.iload 3) := ⟨(scLaw_law_29 15).trans rfl, rfl⟩
theorem fLaw_law_712 : w_fe am_c239 712 713 (.bipush 1) := ⟨(scLaw_law_29 16).trans rfl, rfl⟩
theorem fLaw_law_713 : w_fe am_c239 713 714 (.iadd) := ⟨(scLaw_law_29 17).trans rfl, rfl⟩
theorem fLaw_law_714 : w_fe am_c239 714 715 (.iaload) := ⟨(scLaw_law_29 18).trans rfl, rfl⟩
theorem fLaw_law_715 : w_fe am_c239 715 716 (.aload 0) := ⟨(scLaw_law_29 19).trans rfl, rfl⟩
theorem fLaw_law_716 : w_fe am_c239 716 717 (.iload 3) := ⟨(scLaw_law_29 20).trans rfl, rfl⟩
theorem fLaw_law_717 : w_fe am_c239 717 718 (.bipush 2) := ⟨(scLaw_law_29 21).trans rfl, rfl⟩
theorem fLaw_law_718 : w_fe am_c239 718 719 (.iadd) := ⟨(scLaw_law_29 22).trans rfl, rfl⟩
theorem fLaw_law_719 : w_fe am_c239 719 720 (.iaload) := ⟨(scLaw_law_29 23).trans rfl, rfl⟩
theorem fLaw_law_720 : w_fe am_c239 720 721 (.invokestatic 225) := ⟨(scLaw_law_30 0).trans rfl, rfl⟩
theorem fLaw_law_721 : w_fe am_c239 721 722 (.pop) := ⟨(scLaw_law_30 1).trans rfl, rfl⟩
theorem fLaw_law_722 : w_gt am_c239 722 1000 := (scLaw_law_30 2).trans rfl
theorem fLaw_law_723 : w_fe am_c239 723 724 (.aload 1) := ⟨(scLaw_law_30 3).trans rfl, rfl⟩
theorem fLaw_law_724 : w_fe am_c239 724 725 (.aload 0) := ⟨(scLaw_law_30 4).trans rfl, rfl⟩
theorem fLaw_law_725 : w_fe am_c239 725 726 (.iload 3) := ⟨(scLaw_law_30 5).trans rfl, rfl⟩
theorem fLaw_law_726 : w_fe am_c239 726 727 (.bipush 1) := ⟨(scLaw_law_30 6).trans rfl, rfl⟩
theorem fLaw_law_727 : w_fe am_c239 727 728 (.iadd) := ⟨(scLaw_law_30 7).trans rfl, rfl⟩
theorem fLaw_law_728 : w_fe am_c239 728 729 (.iaload) := ⟨(scLaw_law_30 8).trans rfl, rfl⟩
theorem fLaw_law_729 : w_fe am_c239 729 730 (.aload 0) := ⟨(scLaw_law_30 9).trans rfl, rfl⟩
theorem fLaw_law_730 : w_fe am_c239 730 731 (.iload 3) := ⟨(scLaw_law_30 10).trans rfl, rfl⟩
theorem fLaw_law_731 : w_fe am_c239 731 732 (.bipush 2) := ⟨(scLaw_law_30 11).trans rfl, rfl⟩
theorem fLaw_law_732 : w_fe am_c239 732 733 (.iadd) := ⟨(scLaw_law_30 12).trans rfl, rfl⟩
theorem fLaw_law_733 : w_fe am_c239 733 734 (.iaload) := ⟨(scLaw_law_30 13).trans rfl, rfl⟩
theorem fLaw_law_734 : w_fe am_c239 734 735 (.invokestatic 142) := ⟨(scLaw_law_30 14).trans rfl, rfl⟩
theorem fLaw_law_735 : w_fe am_c239 735 736 (.pop) := ⟨(scLaw_law_30 15).trans rfl, rfl⟩
theorem fLaw_law_736 : w_fe am_c239 736 737 (.aload 2) := ⟨(scLaw_law_30 16).trans rfl, rfl⟩
theorem fLaw_law_737 : w_fe am_c239 737 738 (.aload 0) := ⟨(scLaw_law_30 17).trans rfl, rfl⟩
theorem fLaw_law_738 : w_fe am_c239 738 739 (.iload 3) := ⟨(scLaw_law_30 18).trans rfl, rfl⟩
theorem fLaw_law_739 : w_fe am_c239 739 740 (.bipush 1) := ⟨(scLaw_law_30 19).trans rfl, rfl⟩
theorem fLaw_law_740 : w_fe am_c239 740 741 (.iadd) := ⟨(scLaw_law_30 20).trans rfl, rfl⟩
theorem fLaw_law_741 : w_fe am_c239 741 742 (.iaload) := ⟨(scLaw_law_30 21).trans rfl, rfl⟩
theorem fLaw_law_742 : w_fe am_c239 742 743 (.aload 0) := ⟨(scLaw_law_30 22).trans rfl, rfl⟩
theorem fLaw_law_743 : w_fe am_c239 743 744 (.iload 3) := ⟨(scLaw_law_30 23).trans rfl, rfl⟩
theorem fLaw_law_744 : w_fe am_c239 744 745 (.bipush 2) := ⟨(scLaw_law_31 0).trans rfl, rfl⟩
theorem fLaw_law_745 : w_fe am_c239 745 746 (.iadd) := ⟨(scLaw_law_31 1).trans rfl, rfl⟩
theorem fLaw_law_746 : w_fe am_c239 746 747 (.iaload) := ⟨(scLaw_law_31 2).trans rfl, rfl⟩
theorem fLaw_law_747 : w_fe am_c239 747 748 (.invokestatic 226) := ⟨(scLaw_law_31 3).trans rfl, rfl⟩
theorem fLaw_law_748 : w_fe am_c239 748 749 (.pop) := ⟨(scLaw_law_31 4).trans rfl, rfl⟩
theorem fLaw_law_749 : w_gt am_c239 749 1000 := (scLaw_law_31 5).trans rfl
theorem fLaw_law_750 : w_fe am_c239 750 751 (.aload 1) := ⟨(scLaw_law_31 6).trans rfl, rfl⟩
theorem fLaw_law_751 : w_fe am_c239 751 752 (.aload 0) := ⟨(scLaw_law_31 7).trans rfl, rfl⟩
theorem fLaw_law_752 : w_fe am_c239 752 753 (.iload 3) := ⟨(scLaw_law_31 8).trans rfl, rfl⟩
theorem fLaw_law_753 : w_fe am_c239 753 754 (.bipush 1) := ⟨(scLaw_law_31 9).trans rfl, rfl⟩
theorem fLaw_law_754 : w_fe am_c239 754 755 (.iadd) := ⟨(scLaw_law_31 10).trans rfl, rfl⟩
theorem fLaw_law_755 : w_fe am_c239 755 756 (.iaload) := ⟨(scLaw_law_31 11).trans rfl, rfl⟩
theorem fLaw_law_756 : w_fe am_c239 756 757 (.invokestatic 143) := ⟨(scLaw_law_31 12).trans rfl, rfl⟩
theorem fLaw_law_757 : w_fe am_c239 757 758 (.pop) := ⟨(scLaw_law_31 13).trans rfl, rfl⟩
theorem fLaw_law_758 : w_fe am_c239 758 759 (.aload 2) := ⟨(scLaw_law_31 14).trans rfl, rfl⟩
theorem fLaw_law_759 : w_fe am_c239 759 760 (.aload 0) := ⟨(scLaw_law_31 15).trans rfl, rfl⟩
theorem fLaw_law_760 : w_fe am_c239 760 761 (.iload 3) := ⟨(scLaw_law_31 16).trans rfl, rfl⟩
theorem fLaw_law_761 : w_fe am_c239 761 762 (.bipush 1) := ⟨(scLaw_law_31 17).trans rfl, rfl⟩
theorem fLaw_law_762 : w_fe am_c239 762 763 (.iadd) := ⟨(scLaw_law_31 18).trans rfl, rfl⟩
theorem fLaw_law_763 : w_fe am_c239 763 764 (.iaload) := ⟨(scLaw_law_31 19).trans rfl, rfl⟩
theorem fLaw_law_764 : w_fe am_c239 764 765 (.invokestatic 227) := ⟨(scLaw_law_31 20).trans rfl, rfl⟩
theorem fLaw_law_765 : w_fe am_c239 765 766 (.pop) := ⟨(scLaw_law_31 21).trans rfl, rfl⟩
theorem fLaw_law_766 : w_gt am_c239 766 1000 := (scLaw_law_31 22).trans rfl
theorem fLaw_law_767 : w_fe am_c239 767 768 (.aload 1) := ⟨(scLaw_law_31 23).trans rfl, rfl⟩
theorem fLaw_law_768 : w_fe am_c239 768 769 (.aload 0) := ⟨(scLaw_law_32 0).trans rfl, rfl⟩
theorem fLaw_law_769 : w_fe am_c239 769 770 (.iload 3) := ⟨(scLaw_law_32 1).trans rfl, rfl⟩
theorem fLaw_law_770 : w_fe am_c239 770 771 (.bipush 1) := ⟨(scLaw_law_32 2).trans rfl, rfl⟩
theorem fLaw_law_771 : w_fe am_c239 771 772 (.iadd) := ⟨(scLaw_law_32 3).trans rfl, rfl⟩
theorem fLaw_law_772 : w_fe am_c239 772 773 (.iaload) := ⟨(scLaw_law_32 4).trans rfl, rfl⟩
theorem fLaw_law_773 : w_fe am_c239 773 774 (.invokestatic 144) := ⟨(scLaw_law_32 5).trans rfl, rfl⟩
theorem fLaw_law_774 : w_fe am_c239 774 775 (.pop) := ⟨(scLaw_law_32 6).trans rfl, rfl⟩
theorem fLaw_law_775 : w_fe am_c239 775 776 (.aload 2) := ⟨(scLaw_law_32 7).trans rfl, rfl⟩
theorem fLaw_law_776 : w_fe am_c239 776 777 (.aload 0) := ⟨(scLaw_law_32 8).trans rfl, rfl⟩
theorem fLaw_law_777 : w_fe am_c239 777 778 (.iload 3) := ⟨(scLaw_law_32 9).trans rfl, rfl⟩
theorem fLaw_law_778 : w_fe am_c239 778 779 (.bipush 1) := ⟨(scLaw_law_32 10).trans rfl, rfl⟩
theorem fLaw_law_779 : w_fe am_c239 779 780 (.iadd) := ⟨(scLaw_law_32 11).trans rfl, rfl⟩
theorem fLaw_law_780 : w_fe am_c239 780 781 (.iaload) := ⟨(scLaw_law_32 12).trans rfl, rfl⟩
theorem fLaw_law_781 : w_fe am_c239 781 782 (.invokestatic 228) := ⟨(scLaw_law_32 13).trans rfl, rfl⟩
theorem fLaw_law_782 : w_fe am_c239 782 783 (.pop) := ⟨(scLaw_law_32 14).trans rfl, rfl⟩
theorem fLaw_law_783 : w_gt am_c239 783 1000 := (scLaw_law_32 15).trans rfl
theorem fLaw_law_784 : w_fe am_c239 784 785 (.aload 1) := ⟨(scLaw_law_32 16).trans rfl, rfl⟩
theorem fLaw_law_785 : w_fe am_c239 785 786 (.aload 0) := ⟨(scLaw_law_32 17).trans rfl, rfl⟩
theorem fLaw_law_786 : w_fe am_c239 786 787 (.iload 3) := ⟨(scLaw_law_32 18).trans rfl, rfl⟩
theorem fLaw_law_787 : w_fe am_c239 787 788 (.bipush 1) := ⟨(scLaw_law_32 19).trans rfl, rfl⟩
theorem fLaw_law_788 : w_fe am_c239 788 789 (.iadd) := ⟨(scLaw_law_32 20).trans rfl, rfl⟩
theorem fLaw_law_789 : w_fe am_c239 789 790 (.iaload) := ⟨(scLaw_law_32 21).trans rfl, rfl⟩
theorem fLaw_law_790 : w_fe am_c239 790 791 (.aload 0) := ⟨(scLaw_law_32 22).trans rfl, rfl⟩
theorem fLaw_law_791 : w_fe am_c239 791 792 (.iload 3) := ⟨(scLaw_law_32 23).trans rfl, rfl⟩
theorem fLaw_law_792 : w_fe am_c239 792 793 (.bipush 2) := ⟨(scLaw_law_33 0).trans rfl, rfl⟩
theorem fLaw_law_793 : w_fe am_c239 793 794 (.iadd) := ⟨(scLaw_law_33 1).trans rfl, rfl⟩
theorem fLaw_law_794 : w_fe am_c239 794 795 (.iaload) := ⟨(scLaw_law_33 2).trans rfl, rfl⟩
theorem fLaw_law_795 : w_fe am_c239 795 796 (.aload 0) := ⟨(scLaw_law_33 3).trans rfl, rfl⟩
theorem fLaw_law_796 : w_fe am_c239 796 797 (.iload 3) := ⟨(scLaw_law_33 4).trans rfl, rfl⟩
theorem fLaw_law_797 : w_fe am_c239 797 798 (.bipush 3) := ⟨(scLaw_law_33 5).trans rfl, rfl⟩
theorem fLaw_law_798 : w_fe am_c239 798 799 (.iadd) := ⟨(scLaw_law_33 6).trans rfl, rfl⟩
theorem fLaw_law_799 : w_fe am_c239 799 800 (.iaload) := ⟨(scLaw_law_33 7).trans rfl, rfl⟩
theorem fLaw_law_800 : w_fe am_c239 800 801 (.invokestatic 145) := ⟨(scLaw_law_33 8).trans rfl, rfl⟩
theorem fLaw_law_801 : w_fe am_c239 801 802 (.pop) := ⟨(scLaw_law_33 9).trans rfl, rfl⟩
theorem fLaw_law_802 : w_fe am_c239 802 803 (.aload 2) := ⟨(scLaw_law_33 10).trans rfl, rfl⟩
theorem fLaw_law_803 : w_fe am_c239 803 804 (.aload 0) := ⟨(scLaw_law_33 11).trans rfl, rfl⟩
theorem fLaw_law_804 : w_fe am_c239 804 805 (.iload 3) := ⟨(scLaw_law_33 12).trans rfl, rfl⟩
theorem fLaw_law_805 : w_fe am_c239 805 806 (.bipush 1) := ⟨(scLaw_law_33 13).trans rfl, rfl⟩
theorem fLaw_law_806 : w_fe am_c239 806 807 (.iadd) := ⟨(scLaw_law_33 14).trans rfl, rfl⟩
theorem fLaw_law_807 : w_fe am_c239 807 808 (.iaload) := ⟨(scLaw_law_33 15).trans rfl, rfl⟩
theorem fLaw_law_808 : w_fe am_c239 808 809 (.aload 0) := ⟨(scLaw_law_33 16).trans rfl, rfl⟩
theorem fLaw_law_809 : w_fe am_c239 809 810 (.iload 3) := ⟨(scLaw_law_33 17).trans rfl, rfl⟩
theorem fLaw_law_810 : w_fe am_c239 810 811 (.bipush 2) := ⟨(scLaw_law_33 18).trans rfl, rfl⟩
theorem fLaw_law_811 : w_fe am_c239 811 812 (.iadd) := ⟨(scLaw_law_33 19).trans rfl, rfl⟩
theorem fLaw_law_812 : w_fe am_c239 812 813 (.iaload) := ⟨(scLaw_law_33 20).trans rfl, rfl⟩
theorem fLaw_law_813 : w_fe am_c239 813 814 (.aload 0) := ⟨(scLaw_law_33 21).trans rfl, rfl⟩
theorem fLaw_law_814 : w_fe am_c239 814 815 (.iload 3) := ⟨(scLaw_law_33 22).trans rfl, rfl⟩
theorem fLaw_law_815 : w_fe am_c239 815 816 (.bipush 3) := ⟨(scLaw_law_33 23).trans rfl, rfl⟩
theorem fLaw_law_816 : w_fe am_c239 816 817 (.iadd) := ⟨(scLaw_law_34 0).trans rfl, rfl⟩
theorem fLaw_law_817 : w_fe am_c239 817 818 (.iaload) := ⟨(scLaw_law_34 1).trans rfl, rfl⟩
theorem fLaw_law_818 : w_fe am_c239 818 819 (.invokestatic 229) := ⟨(scLaw_law_34 2).trans rfl, rfl⟩
theorem fLaw_law_819 : w_fe am_c239 819 820 (.pop) := ⟨(scLaw_law_34 3).trans rfl, rfl⟩
theorem fLaw_law_820 : w_gt am_c239 820 1000 := (scLaw_law_34 4).trans rfl
theorem fLaw_law_821 : w_fe am_c239 821 822 (.aload 1) := ⟨(scLaw_law_34 5).trans rfl, rfl⟩
theorem fLaw_law_822 : w_fe am_c239 822 823 (.aload 0) := ⟨(scLaw_law_34 6).trans rfl, rfl⟩
theorem fLaw_law_823 : w_fe am_c239 823 824 (.iload 3) := ⟨(scLaw_law_34 7).trans rfl, rfl⟩
theorem fLaw_law_824 : w_fe am_c239 824 825 (.bipush 1) := ⟨(scLaw_law_34 8).trans rfl, rfl⟩
theorem fLaw_law_825 : w_fe am_c239 825 826 (.iadd) := ⟨(scLaw_law_34 9).trans rfl, rfl⟩
theorem fLaw_law_826 : w_fe am_c239 826 827 (.iaload) := ⟨(scLaw_law_34 10).trans rfl, rfl⟩
theorem fLaw_law_827 : w_fe am_c239 827 828 (.invokestatic 146) := ⟨(scLaw_law_34 11).trans rfl, rfl⟩
theorem fLaw_law_828 : w_fe am_c239 828 829 (.pop) := ⟨(scLaw_law_34 12).trans rfl, rfl⟩
theorem fLaw_law_829 : w_fe am_c239 829 830 (.aload 2) := ⟨(scLaw_law_34 13).trans rfl, rfl⟩
theorem fLaw_law_830 : w_fe am_c239 830 831 (.aload 0) := ⟨(scLaw_law_34 14).trans rfl, rfl⟩
theorem fLaw_law_831 : w_fe am_c239 831 832 (.iload 3) := ⟨(scLaw_law_34 15).trans rfl, rfl⟩
theorem fLaw_law_832 : w_fe am_c239 832 833 (.bipush 1) := ⟨(scLaw_law_34 16).trans rfl, rfl⟩
theorem fLaw_law_833 : w_fe am_c239 833 834 (.iadd) := ⟨(scLaw_law_34 17).trans rfl, rfl⟩
theorem fLaw_law_834 : w_fe am_c239 834 835 (.iaload) := ⟨(scLaw_law_34 18).trans rfl, rfl⟩
theorem fLaw_law_835 : w_fe am_c239 835 836 (.invokestatic 230) := ⟨(scLaw_law_34 19).trans rfl, rfl⟩
theorem fLaw_law_836 : w_fe am_c239 836 837 (.pop) := ⟨(scLaw_law_34 20).trans rfl, rfl⟩
theorem fLaw_law_837 : w_gt am_c239 837 1000 := (scLaw_law_34 21).trans rfl
theorem fLaw_law_838 : w_fe am_c239 838 839 (.aload 1) := ⟨(scLaw_law_34 22).trans rfl, rfl⟩
theorem fLaw_law_839 : w_fe am_c239 839 840 (.aload 0) := ⟨(scLaw_law_34 23).trans rfl, rfl⟩
theorem fLaw_law_840 : w_fe am_c239 840 841 (.iload 3) := ⟨(scLaw_law_35 0).trans rfl, rfl⟩
theorem fLaw_law_841 : w_fe am_c239 841 842 (.bipush 1) := ⟨(scLaw_law_35 1).trans rfl, rfl⟩
theorem fLaw_law_842 : w_fe am_c239 842 843 (.iadd) := ⟨(scLaw_law_35 2).trans rfl, rfl⟩
theorem fLaw_law_843 : w_fe am_c239 843 844 (.iaload) := ⟨(scLaw_law_35 3).trans rfl, rfl⟩
theorem fLaw_law_844 : w_fe am_c239 844 845 (.invokestatic 147) := ⟨(scLaw_law_35 4).trans rfl, rfl⟩
theorem fLaw_law_845 : w_fe am_c239 845 846 (.pop) := ⟨(scLaw_law_35 5).trans rfl, rfl⟩
theorem fLaw_law_846 : w_fe am_c239 846 847 (.aload 2) := ⟨(scLaw_law_35 6).trans rfl, rfl⟩
theorem fLaw_law_847 : w_fe am_c239 847 848 (.aload 0) := ⟨(scLaw_law_35 7).trans rfl, rfl⟩
theorem fLaw_law_848 : w_fe am_c239 848 849 (.iload 3) := ⟨(scLaw_law_35 8).trans rfl, rfl⟩
theorem fLaw_law_849 : w_fe am_c239 849 850 (.bipush 1) := ⟨(scLaw_law_35 9).trans rfl, rfl⟩
theorem fLaw_law_850 : w_fe am_c239 850 851 (.iadd) := ⟨(scLaw_law_35 10).trans rfl, rfl⟩
theorem fLaw_law_851 : w_fe am_c239 851 852 (.iaload) := ⟨(scLaw_law_35 11).trans rfl, rfl⟩
theorem fLaw_law_852 : w_fe am_c239 852 853 (.invokestatic 232) := ⟨(scLaw_law_35 12).trans rfl, rfl⟩
theorem fLaw_law_853 : w_fe am_c239 853 854 (.pop) := ⟨(scLaw_law_35 13).trans rfl, rfl⟩
theorem fLaw_law_854 : w_gt am_c239 854 1000 := (scLaw_law_35 14).trans rfl
theorem fLaw_law_855 : w_fe am_c239 855 856 (.aload 1) := ⟨(scLaw_law_35 15).trans rfl, rfl⟩
theorem fLaw_law_856 : w_fe am_c239 856 857 (.aload 0) := ⟨(scLaw_law_35 16).trans rfl, rfl⟩
theorem fLaw_law_857 : w_fe am_c239 857 858 (.iload 3) := ⟨(scLaw_law_35 17).trans rfl, rfl⟩
theorem fLaw_law_858 : w_fe am_c239 858 859 (.bipush 1) := ⟨(scLaw_law_35 18).trans rfl, rfl⟩
theorem fLaw_law_859 : w_fe am_c239 859 860 (.iadd) := ⟨(scLaw_law_35 19).trans rfl, rfl⟩
theorem fLaw_law_860 : w_fe am_c239 860 861 (.iaload) := ⟨(scLaw_law_35 20).trans rfl, rfl⟩
theorem fLaw_law_861 : w_fe am_c239 861 862 (.aload 0) := ⟨(scLaw_law_35 21).trans rfl, rfl⟩
theorem fLaw_law_862 : w_fe am_c239 862 863 (.iload 3) := ⟨(scLaw_law_35 22).trans rfl, rfl⟩
theorem fLaw_law_863 : w_fe am_c239 863 864 (.bipush 2) := ⟨(scLaw_law_35 23).trans rfl, rfl⟩
theorem fLaw_law_864 : w_fe am_c239 864 865 (.iadd) := ⟨(scLaw_law_36 0).trans rfl, rfl⟩
theorem fLaw_law_865 : w_fe am_c239 865 866 (.iaload) := ⟨(scLaw_law_36 1).trans rfl, rfl⟩
theorem fLaw_law_866 : w_fe am_c239 866 867 (.aload 0) := ⟨(scLaw_law_36 2).trans rfl, rfl⟩
theorem fLaw_law_867 : w_fe am_c239 867 868 (.iload 3) := ⟨(scLaw_law_36 3).trans rfl, rfl⟩
theorem fLaw_law_868 : w_fe am_c239 868 869 (.bipush 3) := ⟨(scLaw_law_36 4).trans rfl, rfl⟩
theorem fLaw_law_869 : w_fe am_c239 869 870 (.iadd) := ⟨(scLaw_law_36 5).trans rfl, rfl⟩
theorem fLaw_law_870 : w_fe am_c239 870 871 (.iaload) := ⟨(scLaw_law_36 6).trans rfl, rfl⟩
theorem fLaw_law_871 : w_fe am_c239 871 872 (.invokestatic 148) := ⟨(scLaw_law_36 7).trans rfl, rfl⟩
theorem fLaw_law_872 : w_fe am_c239 872 873 (.pop) := ⟨(scLaw_law_36 8).trans rfl, rfl⟩
theorem fLaw_law_873 : w_fe am_c239 873 874 (.aload 2) := ⟨(scLaw_law_36 9).trans rfl, rfl⟩
theorem fLaw_law_874 : w_fe am_c239 874 875 (.aload 0) := ⟨(scLaw_law_36 10).trans rfl, rfl⟩
theorem fLaw_law_875 : w_fe am_c239 875 876 (.iload 3) := ⟨(scLaw_law_36 11).trans rfl, rfl⟩
theorem fLaw_law_876 : w_fe am_c239 876 877 (.bipush 1) := ⟨(scLaw_law_36 12).trans rfl, rfl⟩
theorem fLaw_law_877 : w_fe am_c239 877 878 (.iadd) := ⟨(scLaw_law_36 13).trans rfl, rfl⟩
theorem fLaw_law_878 : w_fe am_c239 878 879 (.iaload) := ⟨(scLaw_law_36 14).trans rfl, rfl⟩
theorem fLaw_law_879 : w_fe am_c239 879 880 (.aload 0) := ⟨(scLaw_law_36 15).trans rfl, rfl⟩
theorem fLaw_law_880 : w_fe am_c239 880 881 (.iload 3) := ⟨(scLaw_law_36 16).trans rfl, rfl⟩
theorem fLaw_law_881 : w_fe am_c239 881 882 (.bipush 2) := ⟨(scLaw_law_36 17).trans rfl, rfl⟩
theorem fLaw_law_882 : w_fe am_c239 882 883 (.iadd) := ⟨(scLaw_law_36 18).trans rfl, rfl⟩
theorem fLaw_law_883 : w_fe am_c239 883 884 (.iaload) := ⟨(scLaw_law_36 19).trans rfl, rfl⟩
theorem fLaw_law_884 : w_fe am_c239 884 885 (.aload 0) := ⟨(scLaw_law_36 20).trans rfl, rfl⟩
theorem fLaw_law_885 : w_fe am_c239 885 886 (.iload 3) := ⟨(scLaw_law_36 21).trans rfl, rfl⟩
theorem fLaw_law_886 : w_fe am_c239 886 887 (.bipush 3) := ⟨(scLaw_law_36 22).trans rfl, rfl⟩
theorem fLaw_law_887 : w_fe am_c239 887 888 (.iadd) := ⟨(scLaw_law_36 23).trans rfl, rfl⟩
theorem fLaw_law_888 : w_fe am_c239 888 889 (.iaload) := ⟨(scLaw_law_37 0).trans rfl, rfl⟩
theorem fLaw_law_889 : w_fe am_c239 889 890 (.invokestatic 233) := ⟨(scLaw_law_37 1).trans rfl, rfl⟩
theorem fLaw_law_890 : w_fe am_c239 890 891 (.pop) := ⟨(scLaw_law_37 2).trans rfl, rfl⟩
theorem fLaw_law_891 : w_gt am_c239 891 1000 := (scLaw_law_37 3).trans rfl
theorem fLaw_law_892 : w_fe am_c239 892 893 (.aload 1) := ⟨(scLaw_law_37 4).trans rfl, rfl⟩
theorem fLaw_law_893 : w_fe am_c239 893 894 (.aload 0) := ⟨(scLaw_law_37 5).trans rfl, rfl⟩
theorem fLaw_law_894 : w_fe am_c239 894 895 (.iload 3) := ⟨(scLaw_law_37 6).trans rfl, rfl⟩
theorem fLaw_law_895 : w_fe am_c239 895 896 (.bipush 1) := ⟨(scLaw_law_37 7).trans rfl, rfl⟩
theorem fLaw_law_896 : w_fe am_c239 896 897 (.iadd) := ⟨(scLaw_law_37 8).trans rfl, rfl⟩
theorem fLaw_law_897 : w_fe am_c239 897 898 (.iaload) := ⟨(scLaw_law_37 9).trans rfl, rfl⟩
theorem fLaw_law_898 : w_fe am_c239 898 899 (.aload 0) := ⟨(scLaw_law_37 10).trans rfl, rfl⟩
theorem fLaw_law_899 : w_fe am_c239 899 900 (.iload 3) := ⟨(scLaw_law_37 11).trans rfl, rfl⟩
theorem fLaw_law_900 : w_fe am_c239 900 901 (.bipush 2) := ⟨(scLaw_law_37 12).trans rfl, rfl⟩
theorem fLaw_law_901 : w_fe am_c239 901 902 (.iadd) := ⟨(scLaw_law_37 13).trans rfl, rfl⟩
theorem fLaw_law_902 : w_fe am_c239 902 903 (.iaload) := ⟨(scLaw_law_37 14).trans rfl, rfl⟩
theorem fLaw_law_903 : w_fe am_c239 903 904 (.aload 0) := ⟨(scLaw_law_37 15).trans rfl, rfl⟩
theorem fLaw_law_904 : w_fe am_c239 904 905 (.iload 3) := ⟨(scLaw_law_37 16).trans rfl, rfl⟩
theorem fLaw_law_905 : w_fe am_c239 905 906 (.bipush 3) := ⟨(scLaw_law_37 17).trans rfl, rfl⟩
theorem fLaw_law_906 : w_fe am_c239 906 907 (.iadd) := ⟨(scLaw_law_37 18).trans rfl, rfl⟩
theorem fLaw_law_907 : w_fe am_c239 907 908 (.iaload) := ⟨(scLaw_law_37 19).trans rfl, rfl⟩
theorem fLaw_law_908 : w_fe am_c239 908 909 (.invokestatic 149) := ⟨(scLaw_law_37 20).trans rfl, rfl⟩
theorem fLaw_law_909 : w_fe am_c239 909 910 (.pop) := ⟨(scLaw_law_37 21).trans rfl, rfl⟩
theorem fLaw_law_910 : w_fe am_c239 910 911 (.aload 2) := ⟨(scLaw_law_37 22).trans rfl, rfl⟩
theorem fLaw_law_911 : w_fe am_c239 911 912 (.aload 0) := ⟨(scLaw_law_37 23).trans rfl, rfl⟩
theorem fLaw_law_912 : w_fe am_c239 912 913 (.iload 3) := ⟨(scLaw_law_38 0).trans rfl, rfl⟩
theorem fLaw_law_913 : w_fe am_c239 913 914 (.bipush 1) := ⟨(scLaw_law_38 1).trans rfl, rfl⟩
theorem fLaw_law_914 : w_fe am_c239 914 915 (.iadd) := ⟨(scLaw_law_38 2).trans rfl, rfl⟩
theorem fLaw_law_915 : w_fe am_c239 915 916 (.iaload) := ⟨(scLaw_law_38 3).trans rfl, rfl⟩
theorem fLaw_law_916 : w_fe am_c239 916 917 (.aload 0) := ⟨(scLaw_law_38 4).trans rfl, rfl⟩
theorem fLaw_law_917 : w_fe am_c239 917 918 (.iload 3) := ⟨(scLaw_law_38 5).trans rfl, rfl⟩
theorem fLaw_law_918 : w_fe am_c239 918 919 (.bipush 2) := ⟨(scLaw_law_38 6).trans rfl, rfl⟩
theorem fLaw_law_919 : w_fe am_c239 919 920 (.iadd) := ⟨(scLaw_law_38 7).trans rfl, rfl⟩
theorem fLaw_law_920 : w_fe am_c239 920 921 (.iaload) := ⟨(scLaw_law_38 8).trans rfl, rfl⟩
theorem fLaw_law_921 : w_fe am_c239 921 922 (.aload 0) := ⟨(scLaw_law_38 9).trans rfl, rfl⟩
theorem fLaw_law_922 : w_fe am_c239 922 923 (.iload 3) := ⟨(scLaw_law_38 10).trans rfl, rfl⟩
theorem fLaw_law_923 : w_fe am_c239 923 924 (.bipush 3) := ⟨(scLaw_law_38 11).trans rfl, rfl⟩
theorem fLaw_law_924 : w_fe am_c239 924 925 (.iadd) := ⟨(scLaw_law_38 12).trans rfl, rfl⟩
theorem fLaw_law_925 : w_fe am_c239 925 926 (.iaload) := ⟨(scLaw_law_38 13).trans rfl, rfl⟩
theorem fLaw_law_926 : w_fe am_c239 926 927 (.invokestatic 235) := ⟨(scLaw_law_38 14).trans rfl, rfl⟩
theorem fLaw_law_927 : w_fe am_c239 927 928 (.pop) := ⟨(scLaw_law_38 15).trans rfl, rfl⟩
theorem fLaw_law_928 : w_gt am_c239 928 1000 := (scLaw_law_38 16).trans rfl
theorem fLaw_law_929 : w_fe am_c239 929 930 (.aload 1) := ⟨(scLaw_law_38 17).trans rfl, rfl⟩
theorem fLaw_law_930 : w_fe am_c239 930 931 (.aload 0) := ⟨(scLaw_law_38 18).trans rfl, rfl⟩
theorem fLaw_law_931 : w_fe am_c239 931 932 (.iload 3) := ⟨(scLaw_law_38 19).trans rfl, rfl⟩
theorem fLaw_law_932 : w_fe am_c239 932 933 (.bipush 1) := ⟨(scLaw_law_38 20).trans rfl, rfl⟩
theorem fLaw_law_933 : w_fe am_c239 933 934 (.iadd) := ⟨(scLaw_law_38 21).trans rfl, rfl⟩
theorem fLaw_law_934 : w_fe am_c239 934 935 (.iaload) := ⟨(scLaw_law_38 22).trans rfl, rfl⟩
theorem fLaw_law_935 : w_fe am_c239 935 936 (.aload 0) := ⟨(scLaw_law_38 23).trans rfl, rfl⟩
theorem fLaw_law_936 : w_fe am_c239 936 937 (.iload 3) := ⟨(scLaw_law_39 0).trans rfl, rfl⟩
theorem fLaw_law_937 : w_fe am_c239 937 938 (.bipush 2) := ⟨(scLaw_law_39 1).trans rfl, rfl⟩
theorem fLaw_law_938 : w_fe am_c239 938 939 (.iadd) := ⟨(scLaw_law_39 2).trans rfl, rfl⟩
theorem fLaw_law_939 : w_fe am_c239 939 940 (.iaload) := ⟨(scLaw_law_39 3).trans rfl, rfl⟩
theorem fLaw_law_940 : w_fe am_c239 940 941 (.aload 0) := ⟨(scLaw_law_39 4).trans rfl, rfl⟩
theorem fLaw_law_941 : w_fe am_c239 941 942 (.iload 3) := ⟨(scLaw_law_39 5).trans rfl, rfl⟩
theorem fLaw_law_942 : w_fe am_c239 942 943 (.bipush 3) := ⟨(scLaw_law_39 6).trans rfl, rfl⟩
theorem fLaw_law_943 : w_fe am_c239 943 944 (.iadd) := ⟨(scLaw_law_39 7).trans rfl, rfl⟩
theorem fLaw_law_944 : w_fe am_c239 944 945 (.iaload) := ⟨(scLaw_law_39 8).trans rfl, rfl⟩
theorem fLaw_law_945 : w_fe am_c239 945 946 (.aload 0) := ⟨(scLaw_law_39 9).trans rfl, rfl⟩
theorem fLaw_law_946 : w_fe am_c239 946 947 (.iload 3) := ⟨(scLaw_law_39 10).trans rfl, rfl⟩
theorem fLaw_law_947 : w_fe am_c239 947 948 (.bipush 4) := ⟨(scLaw_law_39 11).trans rfl, rfl⟩
theorem fLaw_law_948 : w_fe am_c239 948 949 (.iadd) := ⟨(scLaw_law_39 12).trans rfl, rfl⟩
theorem fLaw_law_949 : w_fe am_c239 949 950 (.iaload) := ⟨(scLaw_law_39 13).trans rfl, rfl⟩
theorem fLaw_law_950 : w_fe am_c239 950 951 (.invokestatic 150) := ⟨(scLaw_law_39 14).trans rfl, rfl⟩
theorem fLaw_law_951 : w_fe am_c239 951 952 (.pop) := ⟨(scLaw_law_39 15).trans rfl, rfl⟩
theorem fLaw_law_952 : w_fe am_c239 952 953 (.aload 2) := ⟨(scLaw_law_39 16).trans rfl, rfl⟩
theorem fLaw_law_953 : w_fe am_c239 953 954 (.aload 0) := ⟨(scLaw_law_39 17).trans rfl, rfl⟩
theorem fLaw_law_954 : w_fe am_c239 954 955 (.iload 3) := ⟨(scLaw_law_39 18).trans rfl, rfl⟩
theorem fLaw_law_955 : w_fe am_c239 955 956 (.bipush 1) := ⟨(scLaw_law_39 19).trans rfl, rfl⟩
theorem fLaw_law_956 : w_fe am_c239 956 957 (.iadd) := ⟨(scLaw_law_39 20).trans rfl, rfl⟩
theorem fLaw_law_957 : w_fe am_c239 957 958 (.iaload) := ⟨(scLaw_law_39 21).trans rfl, rfl⟩
theorem fLaw_law_958 : w_fe am_c239 958 959 (.aload 0) := ⟨(scLaw_law_39 22).trans rfl, rfl⟩
theorem fLaw_law_959 : w_fe am_c239 959 960 (.iload 3) := ⟨(scLaw_law_39 23).trans rfl, rfl⟩
theorem fLaw_law_960 : w_fe am_c239 960 961 (.bipush 2) := ⟨(scLaw_law_40 0).trans rfl, rfl⟩
theorem fLaw_law_961 : w_fe am_c239 961 962 (.iadd) := ⟨(scLaw_law_40 1).trans rfl, rfl⟩
theorem fLaw_law_962 : w_fe am_c239 962 963 (.iaload) := ⟨(scLaw_law_40 2).trans rfl, rfl⟩
theorem fLaw_law_963 : w_fe am_c239 963 964 (.aload 0) := ⟨(scLaw_law_40 3).trans rfl, rfl⟩
theorem fLaw_law_964 : w_fe am_c239 964 965 (.iload 3) := ⟨(scLaw_law_40 4).trans rfl, rfl⟩
theorem fLaw_law_965 : w_fe am_c239 965 966 (.bipush 3) := ⟨(scLaw_law_40 5).trans rfl, rfl⟩
theorem fLaw_law_966 : w_fe am_c239 966 967 (.iadd) := ⟨(scLaw_law_40 6).trans rfl, rfl⟩
theorem fLaw_law_967 : w_fe am_c239 967 968 (.iaload) := ⟨(scLaw_law_40 7).trans rfl, rfl⟩
theorem fLaw_law_968 : w_fe am_c239 968 969 (.aload 0) := ⟨(scLaw_law_40 8).trans rfl, rfl⟩
theorem fLaw_law_969 : w_fe am_c239 969 970 (.iload 3) := ⟨(scLaw_law_40 9).trans rfl, rfl⟩
theorem fLaw_law_970 : w_fe am_c239 970 971 (.bipush 4) := ⟨(scLaw_law_40 10).trans rfl, rfl⟩
theorem fLaw_law_971 : w_fe am_c239 971 972 (.iadd) := ⟨(scLaw_law_40 11).trans rfl, rfl⟩
theorem fLaw_law_972 : w_fe am_c239 972 973 (.iaload) := ⟨(scLaw_law_40 12).trans rfl, rfl⟩
theorem fLaw_law_973 : w_fe am_c239 973 974 (.invokestatic 236) := ⟨(scLaw_law_40 13).trans rfl, rfl⟩
theorem fLaw_law_974 : w_fe am_c239 974 975 (.pop) := ⟨(scLaw_law_40 14).trans rfl, rfl⟩
theorem fLaw_law_975 : w_gt am_c239 975 1000 := (scLaw_law_40 15).trans rfl
theorem fLaw_law_976 : w_fe am_c239 976 977 (.aload 1) := ⟨(scLaw_law_40 16).trans rfl, rfl⟩
theorem fLaw_law_977 : w_fe am_c239 977 978 (.invokestatic 151) := ⟨(scLaw_law_40 17).trans rfl, rfl⟩
theorem fLaw_law_978 : w_fe am_c239 978 979 (.pop) := ⟨(scLaw_law_40 18).trans rfl, rfl⟩
theorem fLaw_law_979 : w_fe am_c239 979 980 (.aload 2) := ⟨(scLaw_law_40 19).trans rfl, rfl⟩
theorem fLaw_law_980 : w_fe am_c239 980 981 (.invokestatic 237) := ⟨(scLaw_law_40 20).trans rfl, rfl⟩
theorem fLaw_law_981 : w_fe am_c239 981 982 (.pop) := ⟨(scLaw_law_40 21).trans rfl, rfl⟩
theorem fLaw_law_982 : w_gt am_c239 982 1000 := (scLaw_law_40 22).trans rfl
theorem fLaw_law_983 : w_fe am_c239 983 984 (.aload 1) := ⟨(scLaw_law_40 23).trans rfl, rfl⟩
theorem fLaw_law_984 : w_fe am_c239 984 985 (.aload 0) := ⟨(scLaw_law_41 0).trans rfl, rfl⟩
theorem fLaw_law_985 : w_fe am_c239 985 986 (.iload 3) := ⟨(scLaw_law_41 1).trans rfl, rfl⟩
theorem fLaw_law_986 : w_fe am_c239 986 987 (.bipush 1) := ⟨(scLaw_law_41 2).trans rfl, rfl⟩
theorem fLaw_law_987 : w_fe am_c239 987 988 (.iadd) := ⟨(scLaw_law_41 3).trans rfl, rfl⟩
theorem fLaw_law_988 : w_fe am_c239 988 989 (.iaload) := ⟨(scLaw_law_41 4).trans rfl, rfl⟩
theorem fLaw_law_989 : w_fe am_c239 989 990 (.invokestatic 152) := ⟨(scLaw_law_41 5).trans rfl, rfl⟩
theorem fLaw_law_990 : w_fe am_c239 990 991 (.aload 2) := ⟨(scLaw_law_41 6).trans rfl, rfl⟩
theorem fLaw_law_991 : w_fe am_c239 991 992 (.aload 0) := ⟨(scLaw_law_41 7).trans rfl, rfl⟩
theorem fLaw_law_992 : w_fe am_c239 992 993 (.iload 3) := ⟨(scLaw_law_41 8).trans rfl, rfl⟩
theorem fLaw_law_993 : w_fe am_c239 993 994 (.bipush 1) := ⟨(scLaw_law_41 9).trans rfl, rfl⟩
theorem fLaw_law_994 : w_fe am_c239 994 995 (.iadd) := ⟨(scLaw_law_41 10).trans rfl, rfl⟩
theorem fLaw_law_995 : w_fe am_c239 995 996 (.iaload) := ⟨(scLaw_law_41 11).trans rfl, rfl⟩
theorem fLaw_law_996 : w_fe am_c239 996 997 (.invokestatic 238) := ⟨(scLaw_law_41 12).trans rfl, rfl⟩
theorem fLaw_law_997 : w_ic am_c239 997 998 .eq 1000 := ⟨(scLaw_law_41 13).trans rfl, rfl⟩
theorem fLaw_law_998 : w_fe am_c239 998 999 (.bipush 0) := ⟨(scLaw_law_41 14).trans rfl, rfl⟩
theorem fLaw_law_999 : w_fe am_c239 999 1000 (.ireturn) := ⟨(scLaw_law_41 15).trans rfl, rfl⟩
theorem fLaw_law_1000 : w_fe am_c239 1000 1001 (.iinc 3 5) := ⟨(scLaw_law_41 16).trans rfl, rfl⟩
theorem fLaw_law_1001 : w_gt am_c239 1001 10 := (scLaw_law_41 17).trans rfl
theorem fLaw_law_1002 : w_fe am_c239 1002 1003 (.bipush 1) := ⟨(scLaw_law_41 18).trans rfl, rfl⟩
theorem fLaw_law_1003 : w_fe am_c239 1003 1004 (.ireturn) := ⟨(scLaw_law_41 19).trans rfl, rfl⟩
noncomputable def LLaw_law_10 (xs : List Int) (d : Nat) (Q : Option w_V → w_M → Prop) (v3 : Int) (σ : w_M) : Prop := w_Ex (xs, d) 2 am_c239 Q 10 [some (.inr (.inr (8000, 1013))), some (.inr (.inr (0, 0))), some (.inr (.inr (9, 122))), some (.inl v3)] [] σ

set_option maxRecDepth 20000 in
theorem bLaw_law_10 {xs : List Int} {d : Nat} {Q : Option w_V → w_M → Prop} {v3 : Int} {σ : w_M}
    (h : w_in (((w_carr xs 1013).length : Int) - 5) ∧ (((((w_carr xs 1013).length : Int) - 5) < v3 → Q (some (.inl 1)) σ) ∧ (v3 ≤ (((w_carr xs 1013).length : Int) - 5) → (0 ≤ v3 ∧ v3 < ((w_carr xs 1013).length : Int) ∧ (((w_and ((w_carr xs 1013).getD v3.toNat 0) 63) = 0 → (w_in (v3 + 1) ∧ 0 ≤ (v3 + 1) ∧ (v3 + 1) < ((w_carr xs 1013).length : Int) ∧ p_Moon_feed ((w_carr xs 1013).getD (v3 + 1).toNat 0) σ ∧ (∀ (y1 : Int) (τ2 : w_M), q_Moon_feed ((w_carr xs 1013).getD (v3 + 1).toNat 0) σ y1 τ2 → (p_Model_feed ((w_carr xs 1013).getD (v3 + 1).toNat 0) τ2 ∧ (∀ (y3 : Int) (τ4 : w_M), q_Model_feed ((w_carr xs 1013).getD (v3 + 1).toNat 0) τ2 y3 τ4 → (w_in (v3 + 5) ∧ LLaw_law_10 xs (d + 20) Q (v3 + 5) τ4)))))) ∧ ((w_and ((w_carr xs 1013).getD v3.toNat 0) 63) = 1 → (w_in (v3 + 1) ∧ 0 ≤ (v3 + 1) ∧ (v3 + 1) < ((w_carr xs 1013).length : Int) ∧ p_Moon_end ((w_carr xs 1013).getD (v3 + 1).toNat 0) σ ∧ (∀ (y5 : Int) (τ6 : w_M), q_Moon_end ((w_carr xs 1013).getD (v3 + 1).toNat 0) σ y5 τ6 → (p_Model_end ((w_carr xs 1013).getD (v3 + 1).toNat 0) τ6 ∧ (∀ (y7 : Int) (τ8 : w_M), q_Model_end ((w_carr xs 1013).getD (v3 + 1).toNat 0) τ6 y7 τ8 → (w_in (v3 + 5) ∧ LLaw_law_10 xs (d + 20) Q (v3 + 5) τ8)))))) ∧ ((w_and ((w_carr xs 1013).getD v3.toNat 0) 63) = 2 → (p_Moon_text σ ∧ (∀ (y9 : Int) (τ10 : w_M), q_Moon_text σ y9 τ10 → (p_Model_text τ10 ∧ (∀ (y11 : Int) (τ12 : w_M), q_Model_text τ10 y11 τ12 → (w_in (v3 + 5) ∧ LLaw_law_10 xs (d + 20) Q (v3 + 5) τ12)))))) ∧ ((w_and ((w_carr xs 1013).getD v3.toNat 0) 63) = 3 → (p_Moon_fault σ ∧ (∀ (y13 : Int) (τ14 : w_M), q_Moon_fault σ y13 τ14 → (p_Model_fault τ14 ∧ (∀ (y15 : Int) (τ16 : w_M), q_Model_fault τ14 y15 τ16 → (w_in (v3 + 5) ∧ LLaw_law_10 xs (d + 20) Q (v3 + 5) τ16)))))) ∧ ((w_and ((w_carr xs 1013).getD v3.toNat 0) 63) = 4 → (w_in (v3 + 1) ∧ 0 ≤ (v3 + 1) ∧ (v3 + 1) < ((w_carr xs 1013).length : Int) ∧ p_Moon_rule ((w_carr xs 1013).getD (v3 + 1).toNat 0) σ ∧ (∀ (y17 : Int) (τ18 : w_M), q_Moon_rule ((w_carr xs 1013).getD (v3 + 1).toNat 0) σ y17 τ18 → (p_Model_rule ((w_carr xs 1013).getD (v3 + 1).toNat 0) τ18 ∧ (∀ (y19 : Int) (τ20 : w_M), q_Model_rule ((w_carr xs 1013).getD (v3 + 1).toNat 0) τ18 y19 τ20 → (w_in (v3 + 5) ∧ LLaw_law_10 xs (d + 20) Q (v3 + 5) τ20)))))) ∧ ((w_and ((w_carr xs 1013).getD v3.toNat 0) 63) = 5 → (w_in (v3 + 1) ∧ 0 ≤ (v3 + 1) ∧ (v3 + 1) < ((w_carr xs 1013).length : Int) ∧ w_in (v3 + 2) ∧ 0 ≤ (v3 + 2) ∧ (v3 + 2) < ((w_carr xs 1013).length : Int) ∧ p_Moon_strip ((w_carr xs 1013).getD (v3 + 1).toNat 0) ((w_carr xs 1013).getD (v3 + 2).toNat 0) σ ∧ (∀ (y21 : Int) (τ22 : w_M), q_Moon_strip ((w_carr xs 1013).getD (v3 + 1).toNat 0) ((w_carr xs 1013).getD (v3 + 2).toNat 0) σ y21 τ22 → (p_Model_strip ((w_carr xs 1013).getD (v3 + 1).toNat 0) ((w_carr xs 1013).getD (v3 + 2).toNat 0) τ22 ∧ (∀ (y23 : Int) (τ24 : w_M), q_Model_strip ((w_carr xs 1013).getD (v3 + 1).toNat 0) ((w_carr xs 1013).getD (v3 + 2).toNat 0) τ22 y23 τ24 → (w_in (v3 + 5) ∧ LLaw_law_10 xs (d + 20) Q (v3 + 5) τ24)))))) ∧ ((w_and ((w_carr xs 1013).getD v3.toNat 0) 63) = 6 → (w_in (v3 + 1) ∧ 0 ≤ (v3 + 1) ∧ (v3 + 1) < ((w_carr xs 1013).length : Int) ∧ w_in (v3 + 2) ∧ 0 ≤ (v3 + 2) ∧ (v3 + 2) < ((w_carr xs 1013).length : Int) ∧ p_Moon_reaper ((w_carr xs 1013).getD (v3 + 1).toNat 0) ((w_carr xs 1013).getD (v3 + 2).toNat 0) σ ∧ (∀ (y25 : Int) (τ26 : w_M), q_Moon_reaper ((w_carr xs 1013).getD (v3 + 1).toNat 0) ((w_carr xs 1013).getD (v3 + 2).toNat 0) σ y25 τ26 → (p_Model_reaper ((w_carr xs 1013).getD (v3 + 1).toNat 0) ((w_carr xs 1013).getD (v3 + 2).toNat 0) τ26 ∧ (∀ (y27 : Int) (τ28 : w_M), q_Model_reaper ((w_carr xs 1013).getD (v3 + 1).toNat 0) ((w_carr xs 1013).getD (v3 + 2).toNat 0) τ26 y27 τ28 → (w_in (v3 + 5) ∧ LLaw_law_10 xs (d + 20) Q (v3 + 5) τ28)))))) ∧ ((w_and ((w_carr xs 1013).getD v3.toNat 0) 63) = 7 → (w_in (v3 + 1) ∧ 0 ≤ (v3 + 1) ∧ (v3 + 1) < ((w_carr xs 1013).length : Int) ∧ p_Moon_harvest ((w_carr xs 1013).getD (v3 + 1).toNat 0) σ ∧ (∀ (y29 : Int) (τ30 : w_M), q_Moon_harvest ((w_carr xs 1013).getD (v3 + 1).toNat 0) σ y29 τ30 → (p_Model_harvest ((w_carr xs 1013).getD (v3 + 1).toNat 0) τ30 ∧ (∀ (y31 : Int) (τ32 : w_M), q_Model_harvest ((w_carr xs 1013).getD (v3 + 1).toNat 0) τ30 y31 τ32 → (w_in (v3 + 5) ∧ LLaw_law_10 xs (d + 20) Q (v3 + 5) τ32)))))) ∧ ((w_and ((w_carr xs 1013).getD v3.toNat 0) 63) = 8 → (w_in (v3 + 1) ∧ 0 ≤ (v3 + 1) ∧ (v3 + 1) < ((w_carr xs 1013).length : Int) ∧ w_in (v3 + 2) ∧ 0 ≤ (v3 + 2) ∧ (v3 + 2) < ((w_carr xs 1013).length : Int) ∧ p_Moon_send ((w_carr xs 1013).getD (v3 + 1).toNat 0) ((w_carr xs 1013).getD (v3 + 2).toNat 0) σ ∧ (∀ (y33 : Int) (τ34 : w_M), q_Moon_send ((w_carr xs 1013).getD (v3 + 1).toNat 0) ((w_carr xs 1013).getD (v3 + 2).toNat 0) σ y33 τ34 → (p_Model_send ((w_carr xs 1013).getD (v3 + 1).toNat 0) ((w_carr xs 1013).getD (v3 + 2).toNat 0) τ34 ∧ (∀ (y35 : Int) (τ36 : w_M), q_Model_send ((w_carr xs 1013).getD (v3 + 1).toNat 0) ((w_carr xs 1013).getD (v3 + 2).toNat 0) τ34 y35 τ36 → (w_in (v3 + 5) ∧ LLaw_law_10 xs (d + 20) Q (v3 + 5) τ36)))))) ∧ ((w_and ((w_carr xs 1013).getD v3.toNat 0) 63) = 9 → (w_in (v3 + 1) ∧ 0 ≤ (v3 + 1) ∧ (v3 + 1) < ((w_carr xs 1013).length : Int) ∧ w_in (v3 + 2) ∧ 0 ≤ (v3 + 2) ∧ (v3 + 2) < ((w_carr xs 1013).length : Int) ∧ w_in (v3 + 3) ∧ 0 ≤ (v3 + 3) ∧ (v3 + 3) < ((w_carr xs 1013).length : Int) ∧ p_Moon_lend ((w_carr xs 1013).getD (v3 + 1).toNat 0) ((w_carr xs 1013).getD (v3 + 2).toNat 0) ((w_carr xs 1013).getD (v3 + 3).toNat 0) σ ∧ (∀ (y37 : Int) (τ38 : w_M), q_Moon_lend ((w_carr xs 1013).getD (v3 + 1).toNat 0) ((w_carr xs 1013).getD (v3 + 2).toNat 0) ((w_carr xs 1013).getD (v3 + 3).toNat 0) σ y37 τ38 → (p_Model_lend ((w_carr xs 1013).getD (v3 + 1).toNat 0) ((w_carr xs 1013).getD (v3 + 2).toNat 0) ((w_carr xs 1013).getD (v3 + 3).toNat 0) τ38 ∧ (∀ (y39 : Int) (τ40 : w_M), q_Model_lend ((w_carr xs 1013).getD (v3 + 1).toNat 0) ((w_carr xs 1013).getD (v3 + 2).toNat 0) ((w_carr xs 1013).getD (v3 + 3).toNat 0) τ38 y39 τ40 → (w_in (v3 + 5) ∧ LLaw_law_10 xs (d + 20) Q (v3 + 5) τ40)))))) ∧ ((w_and ((w_carr xs 1013).getD v3.toNat 0) 63) = 10 → (w_in (v3 + 1) ∧ 0 ≤ (v3 + 1) ∧ (v3 + 1) < ((w_carr xs 1013).length : Int) ∧ w_in (v3 + 2) ∧ 0 ≤ (v3 + 2) ∧ (v3 + 2) < ((w_carr xs 1013).length : Int) ∧ p_Moon_whet ((w_carr xs 1013).getD (v3 + 1).toNat 0) ((w_carr xs 1013).getD (v3 + 2).toNat 0) σ ∧ (∀ (y41 : Int) (τ42 : w_M), q_Moon_whet ((w_carr xs 1013).getD (v3 + 1).toNat 0) ((w_carr xs 1013).getD (v3 + 2).toNat 0) σ y41 τ42 → (p_Model_whet ((w_carr xs 1013).getD (v3 + 1).toNat 0) ((w_carr xs 1013).getD (v3 + 2).toNat 0) τ42 ∧ (∀ (y43 : Int) (τ44 : w_M), q_Model_whet ((w_carr xs 1013).getD (v3 + 1).toNat 0) ((w_carr xs 1013).getD (v3 + 2).toNat 0) τ42 y43 τ44 → (w_in (v3 + 5) ∧ LLaw_law_10 xs (d + 20) Q (v3 + 5) τ44)))))) ∧ ((w_and ((w_carr xs 1013).getD v3.toNat 0) 63) = 11 → (w_in (v3 + 1) ∧ 0 ≤ (v3 + 1) ∧ (v3 + 1) < ((w_carr xs 1013).length : Int) ∧ w_in (v3 + 2) ∧ 0 ≤ (v3 + 2) ∧ (v3 + 2) < ((w_carr xs 1013).length : Int) ∧ p_Moon_fill ((w_carr xs 1013).getD (v3 + 1).toNat 0) ((w_carr xs 1013).getD (v3 + 2).toNat 0) σ ∧ (∀ (y45 : Int) (τ46 : w_M), q_Moon_fill ((w_carr xs 1013).getD (v3 + 1).toNat 0) ((w_carr xs 1013).getD (v3 + 2).toNat 0) σ y45 τ46 → (p_Model_fill ((w_carr xs 1013).getD (v3 + 1).toNat 0) ((w_carr xs 1013).getD (v3 + 2).toNat 0) τ46 ∧ (∀ (y47 : Int) (τ48 : w_M), q_Model_fill ((w_carr xs 1013).getD (v3 + 1).toNat 0) ((w_carr xs 1013).getD (v3 + 2).toNat 0) τ46 y47 τ48 → (w_in (v3 + 5) ∧ LLaw_law_10 xs (d + 20) Q (v3 + 5) τ48)))))) ∧ ((w_and ((w_carr xs 1013).getD v3.toNat 0) 63) = 12 → (w_in (v3 + 1) ∧ 0 ≤ (v3 + 1) ∧ (v3 + 1) < ((w_carr xs 1013).length : Int) ∧ w_in (v3 + 2) ∧ 0 ≤ (v3 + 2) ∧ (v3 + 2) < ((w_carr xs 1013).length : Int) ∧ ((((w_carr xs 1013).getD (v3 + 2).toNat 0) = 0 → (p_Moon_cloud ((w_carr xs 1013).getD (v3 + 1).toNat 0) 0 σ ∧ (∀ (y49 : Int) (τ50 : w_M), q_Moon_cloud ((w_carr xs 1013).getD (v3 + 1).toNat 0) 0 σ y49 τ50 → (p_Model_cloud ((w_carr xs 1013).getD (v3 + 1).toNat 0) 0 τ50 ∧ (∀ (y51 : Int) (τ52 : w_M), q_Model_cloud ((w_carr xs 1013).getD (v3 + 1).toNat 0) 0 τ50 y51 τ52 → (w_in (v3 + 5) ∧ LLaw_law_10 xs (d + 20) Q (v3 + 5) τ52)))))) ∧ (¬ ((w_carr xs 1013).getD (v3 + 2).toNat 0) = 0 → (p_Moon_cloud ((w_carr xs 1013).getD (v3 + 1).toNat 0) 1 σ ∧ (∀ (y53 : Int) (τ54 : w_M), q_Moon_cloud ((w_carr xs 1013).getD (v3 + 1).toNat 0) 1 σ y53 τ54 → (p_Model_cloud ((w_carr xs 1013).getD (v3 + 1).toNat 0) 1 τ54 ∧ (∀ (y55 : Int) (τ56 : w_M), q_Model_cloud ((w_carr xs 1013).getD (v3 + 1).toNat 0) 1 τ54 y55 τ56 → (w_in (v3 + 5) ∧ LLaw_law_10 xs (d + 20) Q (v3 + 5) τ56))))))))) ∧ ((w_and ((w_carr xs 1013).getD v3.toNat 0) 63) = 13 → (w_in (v3 + 1) ∧ 0 ≤ (v3 + 1) ∧ (v3 + 1) < ((w_carr xs 1013).length : Int) ∧ w_in (v3 + 2) ∧ 0 ≤ (v3 + 2) ∧ (v3 + 2) < ((w_carr xs 1013).length : Int) ∧ ((((w_carr xs 1013).getD (v3 + 2).toNat 0) = 0 → (p_Moon_thistle ((w_carr xs 1013).getD (v3 + 1).toNat 0) 0 σ ∧ (∀ (y58 : Int) (τ59 : w_M), q_Moon_thistle ((w_carr xs 1013).getD (v3 + 1).toNat 0) 0 σ y58 τ59 → (p_Model_thistle ((w_carr xs 1013).getD (v3 + 1).toNat 0) 0 τ59 ∧ (∀ (y60 : Int) (τ61 : w_M), q_Model_thistle ((w_carr xs 1013).getD (v3 + 1).toNat 0) 0 τ59 y60 τ61 → (w_in (v3 + 5) ∧ LLaw_law_10 xs (d + 20) Q (v3 + 5) τ61)))))) ∧ (¬ ((w_carr xs 1013).getD (v3 + 2).toNat 0) = 0 → (p_Moon_thistle ((w_carr xs 1013).getD (v3 + 1).toNat 0) 1 σ ∧ (∀ (y62 : Int) (τ63 : w_M), q_Moon_thistle ((w_carr xs 1013).getD (v3 + 1).toNat 0) 1 σ y62 τ63 → (p_Model_thistle ((w_carr xs 1013).getD (v3 + 1).toNat 0) 1 τ63 ∧ (∀ (y64 : Int) (τ65 : w_M), q_Model_thistle ((w_carr xs 1013).getD (v3 + 1).toNat 0) 1 τ63 y64 τ65 → (w_in (v3 + 5) ∧ LLaw_law_10 xs (d + 20) Q (v3 + 5) τ65))))))))) ∧ ((w_and ((w_carr xs 1013).getD v3.toNat 0) 63) = 14 → (w_in (v3 + 1) ∧ 0 ≤ (v3 + 1) ∧ (v3 + 1) < ((w_carr xs 1013).length : Int) ∧ w_in (v3 + 2) ∧ 0 ≤ (v3 + 2) ∧ (v3 + 2) < ((w_carr xs 1013).length : Int) ∧ p_Moon_own ((w_carr xs 1013).getD (v3 + 1).toNat 0) ((w_carr xs 1013).getD (v3 + 2).toNat 0) σ ∧ (∀ (y67 : Int) (τ68 : w_M), q_Moon_own ((w_carr xs 1013).getD (v3 + 1).toNat 0) ((w_carr xs 1013).getD (v3 + 2).toNat 0) σ y67 τ68 → (p_Model_own ((w_carr xs 1013).getD (v3 + 1).toNat 0) ((w_carr xs 1013).getD (v3 + 2).toNat 0) τ68 ∧ (∀ (y69 : Int) (τ70 : w_M), q_Model_own ((w_carr xs 1013).getD (v3 + 1).toNat 0) ((w_carr xs 1013).getD (v3 + 2).toNat 0) τ68 y69 τ70 → (w_in (v3 + 5) ∧ LLaw_law_10 xs (d + 20) Q (v3 + 5) τ70)))))) ∧ ((w_and ((w_carr xs 1013).getD v3.toNat 0) 63) = 15 → (w_in (v3 + 1) ∧ 0 ≤ (v3 + 1) ∧ (v3 + 1) < ((w_carr xs 1013).length : Int) ∧ w_in (v3 + 2) ∧ 0 ≤ (v3 + 2) ∧ (v3 + 2) < ((w_carr xs 1013).length : Int) ∧ p_Moon_grow ((w_carr xs 1013).getD (v3 + 1).toNat 0) ((w_carr xs 1013).getD (v3 + 2).toNat 0) σ ∧ (∀ (y71 : Int) (τ72 : w_M), q_Moon_grow ((w_carr xs 1013).getD (v3 + 1).toNat 0) ((w_carr xs 1013).getD (v3 + 2).toNat 0) σ y71 τ72 → (p_Model_grow ((w_carr xs 1013).getD (v3 + 1).toNat 0) ((w_carr xs 1013).getD (v3 + 2).toNat 0) τ72 ∧ (∀ (y73 : Int) (τ74 : w_M), q_Model_grow ((w_carr xs 1013).getD (v3 + 1).toNat 0) ((w_carr xs 1013).getD (v3 + 2).toNat 0) τ72 y73 τ74 → (w_in (v3 + 5) ∧ LLaw_law_10 xs (d + 20) Q (v3 + 5) τ74)))))) ∧ ((w_and ((w_carr xs 1013).getD v3.toNat 0) 63) = 16 → (w_in (v3 + 1) ∧ 0 ≤ (v3 + 1) ∧ (v3 + 1) < ((w_carr xs 1013).length : Int) ∧ p_Moon_go ((w_carr xs 1013).getD (v3 + 1).toNat 0) σ ∧ (∀ (y75 : Int) (τ76 : w_M), q_Moon_go ((w_carr xs 1013).getD (v3 + 1).toNat 0) σ y75 τ76 → (p_Model_go ((w_carr xs 1013).getD (v3 + 1).toNat 0) τ76 ∧ (∀ (y77 : Int) (τ78 : w_M), q_Model_go ((w_carr xs 1013).getD (v3 + 1).toNat 0) τ76 y77 τ78 → (w_in (v3 + 5) ∧ LLaw_law_10 xs (d + 20) Q (v3 + 5) τ78)))))) ∧ ((w_and ((w_carr xs 1013).getD v3.toNat 0) 63) = 17 → (w_in (v3 + 1) ∧ 0 ≤ (v3 + 1) ∧ (v3 + 1) < ((w_carr xs 1013).length : Int) ∧ w_in (v3 + 2) ∧ 0 ≤ (v3 + 2) ∧ (v3 + 2) < ((w_carr xs 1013).length : Int) ∧ w_in (v3 + 3) ∧ 0 ≤ (v3 + 3) ∧ (v3 + 3) < ((w_carr xs 1013).length : Int) ∧ p_Moon_ahead ((w_carr xs 1013).getD (v3 + 1).toNat 0) ((w_carr xs 1013).getD (v3 + 2).toNat 0) ((w_carr xs 1013).getD (v3 + 3).toNat 0) σ ∧ (∀ (y79 : Int) (τ80 : w_M), q_Moon_ahead ((w_carr xs 1013).getD (v3 + 1).toNat 0) ((w_carr xs 1013).getD (v3 + 2).toNat 0) ((w_carr xs 1013).getD (v3 + 3).toNat 0) σ y79 τ80 → (p_Model_ahead ((w_carr xs 1013).getD (v3 + 1).toNat 0) ((w_carr xs 1013).getD (v3 + 2).toNat 0) ((w_carr xs 1013).getD (v3 + 3).toNat 0) τ80 ∧ (∀ (y81 : Int) (τ82 : w_M), q_Model_ahead ((w_carr xs 1013).getD (v3 + 1).toNat 0) ((w_carr xs 1013).getD (v3 + 2).toNat 0) ((w_carr xs 1013).getD (v3 + 3).toNat 0) τ80 y81 τ82 → (w_in (v3 + 5) ∧ LLaw_law_10 xs (d + 20) Q (v3 + 5) τ82)))))) ∧ ((w_and ((w_carr xs 1013).getD v3.toNat 0) 63) = 18 → (w_in (v3 + 1) ∧ 0 ≤ (v3 + 1) ∧ (v3 + 1) < ((w_carr xs 1013).length : Int) ∧ w_in (v3 + 2) ∧ 0 ≤ (v3 + 2) ∧ (v3 + 2) < ((w_carr xs 1013).length : Int) ∧ p_Moon_stands ((w_carr xs 1013).getD (v3 + 1).toNat 0) ((w_carr xs 1013).getD (v3 + 2).toNat 0) σ ∧ (∀ (y83 : Int) (τ84 : w_M), q_Moon_stands ((w_carr xs 1013).getD (v3 + 1).toNat 0) ((w_carr xs 1013).getD (v3 + 2).toNat 0) σ y83 τ84 → (p_Model_stands ((w_carr xs 1013).getD (v3 + 1).toNat 0) ((w_carr xs 1013).getD (v3 + 2).toNat 0) τ84 ∧ (∀ (y85 : Int) (τ86 : w_M), q_Model_stands ((w_carr xs 1013).getD (v3 + 1).toNat 0) ((w_carr xs 1013).getD (v3 + 2).toNat 0) τ84 y85 τ86 → (w_in (v3 + 5) ∧ LLaw_law_10 xs (d + 20) Q (v3 + 5) τ86)))))) ∧ ((w_and ((w_carr xs 1013).getD v3.toNat 0) 63) = 19 → (w_in (v3 + 1) ∧ 0 ≤ (v3 + 1) ∧ (v3 + 1) < ((w_carr xs 1013).length : Int) ∧ p_Moon_done ((w_carr xs 1013).getD (v3 + 1).toNat 0) σ ∧ (∀ (y87 : Int) (τ88 : w_M), q_Moon_done ((w_carr xs 1013).getD (v3 + 1).toNat 0) σ y87 τ88 → (p_Model_done ((w_carr xs 1013).getD (v3 + 1).toNat 0) τ88 ∧ (∀ (y89 : Int) (τ90 : w_M), q_Model_done ((w_carr xs 1013).getD (v3 + 1).toNat 0) τ88 y89 τ90 → (w_in (v3 + 5) ∧ LLaw_law_10 xs (d + 20) Q (v3 + 5) τ90)))))) ∧ ((w_and ((w_carr xs 1013).getD v3.toNat 0) 63) = 20 → (p_Moon_left σ ∧ (∀ (y91 : Int) (τ92 : w_M), q_Moon_left σ y91 τ92 → (p_Model_left τ92 ∧ (∀ (y93 : Int) (τ94 : w_M), q_Model_left τ92 y93 τ94 → (w_in (v3 + 5) ∧ LLaw_law_10 xs (d + 20) Q (v3 + 5) τ94)))))) ∧ ((w_and ((w_carr xs 1013).getD v3.toNat 0) 63) = 21 → (w_in (v3 + 1) ∧ 0 ≤ (v3 + 1) ∧ (v3 + 1) < ((w_carr xs 1013).length : Int) ∧ p_Moon_begin ((w_carr xs 1013).getD (v3 + 1).toNat 0) σ ∧ (∀ (y95 : Int) (τ96 : w_M), q_Moon_begin ((w_carr xs 1013).getD (v3 + 1).toNat 0) σ y95 τ96 → (p_Model_begin ((w_carr xs 1013).getD (v3 + 1).toNat 0) τ96 ∧ (∀ (y97 : Int) (τ98 : w_M), q_Model_begin ((w_carr xs 1013).getD (v3 + 1).toNat 0) τ96 y97 τ98 → (w_in (v3 + 5) ∧ LLaw_law_10 xs (d + 20) Q (v3 + 5) τ98)))))) ∧ ((w_and ((w_carr xs 1013).getD v3.toNat 0) 63) = 22 → (w_in (v3 + 1) ∧ 0 ≤ (v3 + 1) ∧ (v3 + 1) < ((w_carr xs 1013).length : Int) ∧ w_in (v3 + 2) ∧ 0 ≤ (v3 + 2) ∧ (v3 + 2) < ((w_carr xs 1013).length : Int) ∧ p_Moon_best ((w_carr xs 1013).getD (v3 + 1).toNat 0) ((w_carr xs 1013).getD (v3 + 2).toNat 0) σ ∧ (∀ (y99 : Int) (τ100 : w_M), q_Moon_best ((w_carr xs 1013).getD (v3 + 1).toNat 0) ((w_carr xs 1013).getD (v3 + 2).toNat 0) σ y99 τ100 → (p_Model_best ((w_carr xs 1013).getD (v3 + 1).toNat 0) ((w_carr xs 1013).getD (v3 + 2).toNat 0) τ100 ∧ (∀ (y101 : Int) (τ102 : w_M), q_Model_best ((w_carr xs 1013).getD (v3 + 1).toNat 0) ((w_carr xs 1013).getD (v3 + 2).toNat 0) τ100 y101 τ102 → (w_in (v3 + 5) ∧ LLaw_law_10 xs (d + 20) Q (v3 + 5) τ102)))))) ∧ ((w_and ((w_carr xs 1013).getD v3.toNat 0) 63) = 23 → (w_in (v3 + 1) ∧ 0 ≤ (v3 + 1) ∧ (v3 + 1) < ((w_carr xs 1013).length : Int) ∧ p_Moon_oil ((w_carr xs 1013).getD (v3 + 1).toNat 0) σ ∧ (∀ (y103 : Int) (τ104 : w_M), q_Moon_oil ((w_carr xs 1013).getD (v3 + 1).toNat 0) σ y103 τ104 → (p_Model_oil ((w_carr xs 1013).getD (v3 + 1).toNat 0) τ104 ∧ (∀ (y105 : Int) (τ106 : w_M), q_Model_oil ((w_carr xs 1013).getD (v3 + 1).toNat 0) τ104 y105 τ106 → (w_in (v3 + 5) ∧ LLaw_law_10 xs (d + 20) Q (v3 + 5) τ106)))))) ∧ ((w_and ((w_carr xs 1013).getD v3.toNat 0) 63) = 24 → (w_in (v3 + 1) ∧ 0 ≤ (v3 + 1) ∧ (v3 + 1) < ((w_carr xs 1013).length : Int) ∧ p_Moon_least ((w_carr xs 1013).getD (v3 + 1).toNat 0) σ ∧ (∀ (y107 : Int) (τ108 : w_M), q_Moon_least ((w_carr xs 1013).getD (v3 + 1).toNat 0) σ y107 τ108 → (p_Model_least ((w_carr xs 1013).getD (v3 + 1).toNat 0) τ108 ∧ (∀ (y109 : Int) (τ110 : w_M), q_Model_least ((w_carr xs 1013).getD (v3 + 1).toNat 0) τ108 y109 τ110 → (w_in (v3 + 5) ∧ LLaw_law_10 xs (d + 20) Q (v3 + 5) τ110)))))) ∧ ((w_and ((w_carr xs 1013).getD v3.toNat 0) 63) = 25 → (w_in (v3 + 1) ∧ 0 ≤ (v3 + 1) ∧ (v3 + 1) < ((w_carr xs 1013).length : Int) ∧ w_in (v3 + 2) ∧ 0 ≤ (v3 + 2) ∧ (v3 + 2) < ((w_carr xs 1013).length : Int) ∧ p_Moon_luck ((w_carr xs 1013).getD (v3 + 1).toNat 0) ((w_carr xs 1013).getD (v3 + 2).toNat 0) σ ∧ (∀ (y111 : Int) (τ112 : w_M), q_Moon_luck ((w_carr xs 1013).getD (v3 + 1).toNat 0) ((w_carr xs 1013).getD (v3 + 2).toNat 0) σ y111 τ112 → (p_Model_luck ((w_carr xs 1013).getD (v3 + 1).toNat 0) ((w_carr xs 1013).getD (v3 + 2).toNat 0) τ112 ∧ (∀ (y113 : Int) (τ114 : w_M), q_Model_luck ((w_carr xs 1013).getD (v3 + 1).toNat 0) ((w_carr xs 1013).getD (v3 + 2).toNat 0) τ112 y113 τ114 → (w_in (v3 + 5) ∧ LLaw_law_10 xs (d + 20) Q (v3 + 5) τ114)))))) ∧ ((w_and ((w_carr xs 1013).getD v3.toNat 0) 63) = 26 → (w_in (v3 + 1) ∧ 0 ≤ (v3 + 1) ∧ (v3 + 1) < ((w_carr xs 1013).length : Int) ∧ w_in (v3 + 2) ∧ 0 ≤ (v3 + 2) ∧ (v3 + 2) < ((w_carr xs 1013).length : Int) ∧ w_in (v3 + 3) ∧ 0 ≤ (v3 + 3) ∧ (v3 + 3) < ((w_carr xs 1013).length : Int) ∧ ((((w_carr xs 1013).getD (v3 + 3).toNat 0) = 0 → (p_Moon_see ((w_carr xs 1013).getD (v3 + 1).toNat 0) ((w_carr xs 1013).getD (v3 + 2).toNat 0) 0 σ ∧ (∀ (y115 : Int) (τ116 : w_M), q_Moon_see ((w_carr xs 1013).getD (v3 + 1).toNat 0) ((w_carr xs 1013).getD (v3 + 2).toNat 0) 0 σ y115 τ116 → (p_Model_see ((w_carr xs 1013).getD (v3 + 1).toNat 0) ((w_carr xs 1013).getD (v3 + 2).toNat 0) 0 τ116 ∧ (∀ (y117 : Int) (τ118 : w_M), q_Model_see ((w_carr xs 1013).getD (v3 + 1).toNat 0) ((w_carr xs 1013).getD (v3 + 2).toNat 0) 0 τ116 y117 τ118 → (w_in (v3 + 5) ∧ LLaw_law_10 xs (d + 20) Q (v3 + 5) τ118)))))) ∧ (¬ ((w_carr xs 1013).getD (v3 + 3).toNat 0) = 0 → (p_Moon_see ((w_carr xs 1013).getD (v3 + 1).toNat 0) ((w_carr xs 1013).getD (v3 + 2).toNat 0) 1 σ ∧ (∀ (y119 : Int) (τ120 : w_M), q_Moon_see ((w_carr xs 1013).getD (v3 + 1).toNat 0) ((w_carr xs 1013).getD (v3 + 2).toNat 0) 1 σ y119 τ120 → (p_Model_see ((w_carr xs 1013).getD (v3 + 1).toNat 0) ((w_carr xs 1013).getD (v3 + 2).toNat 0) 1 τ120 ∧ (∀ (y121 : Int) (τ122 : w_M), q_Model_see ((w_carr xs 1013).getD (v3 + 1).toNat 0) ((w_carr xs 1013).getD (v3 + 2).toNat 0) 1 τ120 y121 τ122 → (w_in (v3 + 5) ∧ LLaw_law_10 xs (d + 20) Q (v3 + 5) τ122))))))))) ∧ ((w_and ((w_carr xs 1013).getD v3.toNat 0) 63) = 27 → (w_in (v3 + 1) ∧ 0 ≤ (v3 + 1) ∧ (v3 + 1) < ((w_carr xs 1013).length : Int) ∧ p_Moon_forget ((w_carr xs 1013).getD (v3 + 1).toNat 0) σ ∧ (∀ (y124 : Int) (τ125 : w_M), q_Moon_forget ((w_carr xs 1013).getD (v3 + 1).toNat 0) σ y124 τ125 → (p_Model_forget ((w_carr xs 1013).getD (v3 + 1).toNat 0) τ125 ∧ (∀ (y126 : Int) (τ127 : w_M), q_Model_forget ((w_carr xs 1013).getD (v3 + 1).toNat 0) τ125 y126 τ127 → (w_in (v3 + 5) ∧ LLaw_law_10 xs (d + 20) Q (v3 + 5) τ127)))))) ∧ ((w_and ((w_carr xs 1013).getD v3.toNat 0) 63) = 28 → (w_in (v3 + 1) ∧ 0 ≤ (v3 + 1) ∧ (v3 + 1) < ((w_carr xs 1013).length : Int) ∧ p_Moon_hare ((w_carr xs 1013).getD (v3 + 1).toNat 0) σ ∧ (∀ (y128 : Int) (τ129 : w_M), q_Moon_hare ((w_carr xs 1013).getD (v3 + 1).toNat 0) σ y128 τ129 → (p_Model_hare ((w_carr xs 1013).getD (v3 + 1).toNat 0) τ129 ∧ (∀ (y130 : Int) (τ131 : w_M), q_Model_hare ((w_carr xs 1013).getD (v3 + 1).toNat 0) τ129 y130 τ131 → (w_in (v3 + 5) ∧ LLaw_law_10 xs (d + 20) Q (v3 + 5) τ131)))))) ∧ ((w_and ((w_carr xs 1013).getD v3.toNat 0) 63) = 29 → (p_Moon_runs σ ∧ (∀ (y132 : Int) (τ133 : w_M), q_Moon_runs σ y132 τ133 → (p_Model_runs τ133 ∧ (∀ (y134 : Int) (τ135 : w_M), q_Model_runs τ133 y134 τ135 → (w_in (v3 + 5) ∧ LLaw_law_10 xs (d + 20) Q (v3 + 5) τ135)))))) ∧ ((w_and ((w_carr xs 1013).getD v3.toNat 0) 63) = 30 → (w_in (v3 + 1) ∧ 0 ≤ (v3 + 1) ∧ (v3 + 1) < ((w_carr xs 1013).length : Int) ∧ w_in (v3 + 2) ∧ 0 ≤ (v3 + 2) ∧ (v3 + 2) < ((w_carr xs 1013).length : Int) ∧ p_Moon_look ((w_carr xs 1013).getD (v3 + 1).toNat 0) ((w_carr xs 1013).getD (v3 + 2).toNat 0) σ ∧ (∀ (y136 : Int) (τ137 : w_M), q_Moon_look ((w_carr xs 1013).getD (v3 + 1).toNat 0) ((w_carr xs 1013).getD (v3 + 2).toNat 0) σ y136 τ137 → (p_Model_look ((w_carr xs 1013).getD (v3 + 1).toNat 0) ((w_carr xs 1013).getD (v3 + 2).toNat 0) τ137 ∧ (∀ (y138 : Int) (τ139 : w_M), q_Model_look ((w_carr xs 1013).getD (v3 + 1).toNat 0) ((w_carr xs 1013).getD (v3 + 2).toNat 0) τ137 y138 τ139 → (w_in (v3 + 5) ∧ LLaw_law_10 xs (d + 20) Q (v3 + 5) τ139)))))) ∧ ((w_and ((w_carr xs 1013).getD v3.toNat 0) 63) = 31 → (w_in (v3 + 1) ∧ 0 ≤ (v3 + 1) ∧ (v3 + 1) < ((w_carr xs 1013).length : Int) ∧ w_in (v3 + 2) ∧ 0 ≤ (v3 + 2) ∧ (v3 + 2) < ((w_carr xs 1013).length : Int) ∧ p_Moon_pay ((w_carr xs 1013).getD (v3 + 1).toNat 0) ((w_carr xs 1013).getD (v3 + 2).toNat 0) σ ∧ (∀ (y140 : Int) (τ141 : w_M), q_Moon_pay ((w_carr xs 1013).getD (v3 + 1).toNat 0) ((w_carr xs 1013).getD (v3 + 2).toNat 0) σ y140 τ141 → (p_Model_pay ((w_carr xs 1013).getD (v3 + 1).toNat 0) ((w_carr xs 1013).getD (v3 + 2).toNat 0) τ141 ∧ (∀ (y142 : Int) (τ143 : w_M), q_Model_pay ((w_carr xs 1013).getD (v3 + 1).toNat 0) ((w_carr xs 1013).getD (v3 + 2).toNat 0) τ141 y142 τ143 → (w_in (v3 + 5) ∧ LLaw_law_10 xs (d + 20) Q (v3 + 5) τ143)))))) ∧ ((w_and ((w_carr xs 1013).getD v3.toNat 0) 63) = 32 → (w_in (v3 + 1) ∧ 0 ≤ (v3 + 1) ∧ (v3 + 1) < ((w_carr xs 1013).length : Int) ∧ p_Moon_owe ((w_carr xs 1013).getD (v3 + 1).toNat 0) σ ∧ (∀ (y144 : Int) (τ145 : w_M), q_Moon_owe ((w_carr xs 1013).getD (v3 + 1).toNat 0) σ y144 τ145 → (p_Model_owe ((w_carr xs 1013).getD (v3 + 1).toNat 0) τ145 ∧ (∀ (y146 : Int) (τ147 : w_M), q_Model_owe ((w_carr xs 1013).getD (v3 + 1).toNat 0) τ145 y146 τ147 → (w_in (v3 + 5) ∧ LLaw_law_10 xs (d + 20) Q (v3 + 5) τ147)))))) ∧ ((w_and ((w_carr xs 1013).getD v3.toNat 0) 63) = 33 → (w_in (v3 + 1) ∧ 0 ≤ (v3 + 1) ∧ (v3 + 1) < ((w_carr xs 1013).length : Int) ∧ p_Moon_fits ((w_carr xs 1013).getD (v3 + 1).toNat 0) σ ∧ (∀ (y148 : Int) (τ149 : w_M), q_Moon_fits ((w_carr xs 1013).getD (v3 + 1).toNat 0) σ y148 τ149 → (p_Model_fits ((w_carr xs 1013).getD (v3 + 1).toNat 0) τ149 ∧ (∀ (y150 : Int) (τ151 : w_M), q_Model_fits ((w_carr xs 1013).getD (v3 + 1).toNat 0) τ149 y150 τ151 → (w_in (v3 + 5) ∧ LLaw_law_10 xs (d + 20) Q (v3 + 5) τ151)))))) ∧ ((w_and ((w_carr xs 1013).getD v3.toNat 0) 63) = 34 → (w_in (v3 + 1) ∧ 0 ≤ (v3 + 1) ∧ (v3 + 1) < ((w_carr xs 1013).length : Int) ∧ w_in (v3 + 2) ∧ 0 ≤ (v3 + 2) ∧ (v3 + 2) < ((w_carr xs 1013).length : Int) ∧ w_in (v3 + 3) ∧ 0 ≤ (v3 + 3) ∧ (v3 + 3) < ((w_carr xs 1013).length : Int) ∧ p_Moon_drift ((w_carr xs 1013).getD (v3 + 1).toNat 0) ((w_carr xs 1013).getD (v3 + 2).toNat 0) ((w_carr xs 1013).getD (v3 + 3).toNat 0) σ ∧ (∀ (y152 : Int) (τ153 : w_M), q_Moon_drift ((w_carr xs 1013).getD (v3 + 1).toNat 0) ((w_carr xs 1013).getD (v3 + 2).toNat 0) ((w_carr xs 1013).getD (v3 + 3).toNat 0) σ y152 τ153 → (p_Model_drift ((w_carr xs 1013).getD (v3 + 1).toNat 0) ((w_carr xs 1013).getD (v3 + 2).toNat 0) ((w_carr xs 1013).getD (v3 + 3).toNat 0) τ153 ∧ (∀ (y154 : Int) (τ155 : w_M), q_Model_drift ((w_carr xs 1013).getD (v3 + 1).toNat 0) ((w_carr xs 1013).getD (v3 + 2).toNat 0) ((w_carr xs 1013).getD (v3 + 3).toNat 0) τ153 y154 τ155 → (w_in (v3 + 5) ∧ LLaw_law_10 xs (d + 20) Q (v3 + 5) τ155)))))) ∧ ((w_and ((w_carr xs 1013).getD v3.toNat 0) 63) = 35 → (w_in (v3 + 1) ∧ 0 ≤ (v3 + 1) ∧ (v3 + 1) < ((w_carr xs 1013).length : Int) ∧ p_Moon_keep ((w_carr xs 1013).getD (v3 + 1).toNat 0) σ ∧ (∀ (y156 : Int) (τ157 : w_M), q_Moon_keep ((w_carr xs 1013).getD (v3 + 1).toNat 0) σ y156 τ157 → (p_Model_keep ((w_carr xs 1013).getD (v3 + 1).toNat 0) τ157 ∧ (∀ (y158 : Int) (τ159 : w_M), q_Model_keep ((w_carr xs 1013).getD (v3 + 1).toNat 0) τ157 y158 τ159 → (w_in (v3 + 5) ∧ LLaw_law_10 xs (d + 20) Q (v3 + 5) τ159)))))) ∧ ((w_and ((w_carr xs 1013).getD v3.toNat 0) 63) = 36 → (w_in (v3 + 1) ∧ 0 ≤ (v3 + 1) ∧ (v3 + 1) < ((w_carr xs 1013).length : Int) ∧ p_Moon_back ((w_carr xs 1013).getD (v3 + 1).toNat 0) σ ∧ (∀ (y160 : Int) (τ161 : w_M), q_Moon_back ((w_carr xs 1013).getD (v3 + 1).toNat 0) σ y160 τ161 → (p_Model_back ((w_carr xs 1013).getD (v3 + 1).toNat 0) τ161 ∧ (∀ (y162 : Int) (τ163 : w_M), q_Model_back ((w_carr xs 1013).getD (v3 + 1).toNat 0) τ161 y162 τ163 → (w_in (v3 + 5) ∧ LLaw_law_10 xs (d + 20) Q (v3 + 5) τ163)))))) ∧ ((w_and ((w_carr xs 1013).getD v3.toNat 0) 63) = 37 → (w_in (v3 + 1) ∧ 0 ≤ (v3 + 1) ∧ (v3 + 1) < ((w_carr xs 1013).length : Int) ∧ w_in (v3 + 2) ∧ 0 ≤ (v3 + 2) ∧ (v3 + 2) < ((w_carr xs 1013).length : Int) ∧ w_in (v3 + 3) ∧ 0 ≤ (v3 + 3) ∧ (v3 + 3) < ((w_carr xs 1013).length : Int) ∧ p_Moon_sheet ((w_carr xs 1013).getD (v3 + 1).toNat 0) ((w_carr xs 1013).getD (v3 + 2).toNat 0) ((w_carr xs 1013).getD (v3 + 3).toNat 0) σ ∧ (∀ (y164 : Int) (τ165 : w_M), q_Moon_sheet ((w_carr xs 1013).getD (v3 + 1).toNat 0) ((w_carr xs 1013).getD (v3 + 2).toNat 0) ((w_carr xs 1013).getD (v3 + 3).toNat 0) σ y164 τ165 → (p_Model_sheet ((w_carr xs 1013).getD (v3 + 1).toNat 0) ((w_carr xs 1013).getD (v3 + 2).toNat 0) ((w_carr xs 1013).getD (v3 + 3).toNat 0) τ165 ∧ (∀ (y166 : Int) (τ167 : w_M), q_Model_sheet ((w_carr xs 1013).getD (v3 + 1).toNat 0) ((w_carr xs 1013).getD (v3 + 2).toNat 0) ((w_carr xs 1013).getD (v3 + 3).toNat 0) τ165 y166 τ167 → (w_in (v3 + 5) ∧ LLaw_law_10 xs (d + 20) Q (v3 + 5) τ167)))))) ∧ ((w_and ((w_carr xs 1013).getD v3.toNat 0) 63) = 38 → (w_in (v3 + 1) ∧ 0 ≤ (v3 + 1) ∧ (v3 + 1) < ((w_carr xs 1013).length : Int) ∧ w_in (v3 + 2) ∧ 0 ≤ (v3 + 2) ∧ (v3 + 2) < ((w_carr xs 1013).length : Int) ∧ w_in (v3 + 3) ∧ 0 ≤ (v3 + 3) ∧ (v3 + 3) < ((w_carr xs 1013).length : Int) ∧ p_Moon_lay ((w_carr xs 1013).getD (v3 + 1).toNat 0) ((w_carr xs 1013).getD (v3 + 2).toNat 0) ((w_carr xs 1013).getD (v3 + 3).toNat 0) σ ∧ (∀ (y168 : Int) (τ169 : w_M), q_Moon_lay ((w_carr xs 1013).getD (v3 + 1).toNat 0) ((w_carr xs 1013).getD (v3 + 2).toNat 0) ((w_carr xs 1013).getD (v3 + 3).toNat 0) σ y168 τ169 → (p_Model_lay ((w_carr xs 1013).getD (v3 + 1).toNat 0) ((w_carr xs 1013).getD (v3 + 2).toNat 0) ((w_carr xs 1013).getD (v3 + 3).toNat 0) τ169 ∧ (∀ (y170 : Int) (τ171 : w_M), q_Model_lay ((w_carr xs 1013).getD (v3 + 1).toNat 0) ((w_carr xs 1013).getD (v3 + 2).toNat 0) ((w_carr xs 1013).getD (v3 + 3).toNat 0) τ169 y170 τ171 → (w_in (v3 + 5) ∧ LLaw_law_10 xs (d + 20) Q (v3 + 5) τ171)))))) ∧ ((w_and ((w_carr xs 1013).getD v3.toNat 0) 63) = 39 → (w_in (v3 + 1) ∧ 0 ≤ (v3 + 1) ∧ (v3 + 1) < ((w_carr xs 1013).length : Int) ∧ w_in (v3 + 2) ∧ 0 ≤ (v3 + 2) ∧ (v3 + 2) < ((w_carr xs 1013).length : Int) ∧ w_in (v3 + 3) ∧ 0 ≤ (v3 + 3) ∧ (v3 + 3) < ((w_carr xs 1013).length : Int) ∧ w_in (v3 + 4) ∧ 0 ≤ (v3 + 4) ∧ (v3 + 4) < ((w_carr xs 1013).length : Int) ∧ p_Moon_read ((w_carr xs 1013).getD (v3 + 1).toNat 0) ((w_carr xs 1013).getD (v3 + 2).toNat 0) ((w_carr xs 1013).getD (v3 + 3).toNat 0) ((w_carr xs 1013).getD (v3 + 4).toNat 0) σ ∧ (∀ (y172 : Int) (τ173 : w_M), q_Moon_read ((w_carr xs 1013).getD (v3 + 1).toNat 0) ((w_carr xs 1013).getD (v3 + 2).toNat 0) ((w_carr xs 1013).getD (v3 + 3).toNat 0) ((w_carr xs 1013).getD (v3 + 4).toNat 0) σ y172 τ173 → (p_Model_read ((w_carr xs 1013).getD (v3 + 1).toNat 0) ((w_carr xs 1013).getD (v3 + 2).toNat 0) ((w_carr xs 1013).getD (v3 + 3).toNat 0) ((w_carr xs 1013).getD (v3 + 4).toNat 0) τ173 ∧ (∀ (y174 : Int) (τ175 : w_M), q_Model_read ((w_carr xs 1013).getD (v3 + 1).toNat 0) ((w_carr xs 1013).getD (v3 + 2).toNat 0) ((w_carr xs 1013).getD (v3 + 3).toNat 0) ((w_carr xs 1013).getD (v3 + 4).toNat 0) τ173 y174 τ175 → (w_in (v3 + 5) ∧ LLaw_law_10 xs (d + 20) Q (v3 + 5) τ175)))))) ∧ ((w_and ((w_carr xs 1013).getD v3.toNat 0) 63) = 40 → (p_Moon_torn σ ∧ (∀ (y176 : Int) (τ177 : w_M), q_Moon_torn σ y176 τ177 → (p_Model_torn τ177 ∧ (∀ (y178 : Int) (τ179 : w_M), q_Model_torn τ177 y178 τ179 → (w_in (v3 + 5) ∧ LLaw_law_10 xs (d + 20) Q (v3 + 5) τ179)))))) ∧ ((w_and ((w_carr xs 1013).getD v3.toNat 0) 63) = 41 → (w_in (v3 + 1) ∧ 0 ≤ (v3 + 1) ∧ (v3 + 1) < ((w_carr xs 1013).length : Int) ∧ p_Moon_count ((w_carr xs 1013).getD (v3 + 1).toNat 0) σ ∧ (∀ (y180 : Int) (τ181 : w_M), q_Moon_count ((w_carr xs 1013).getD (v3 + 1).toNat 0) σ y180 τ181 → (p_Model_count ((w_carr xs 1013).getD (v3 + 1).toNat 0) τ181 ∧ (∀ (y182 : Int) (τ183 : w_M), q_Model_count ((w_carr xs 1013).getD (v3 + 1).toNat 0) τ181 y182 τ183 → ((y180 = y182 → (w_in (v3 + 5) ∧ LLaw_law_10 xs (d + 20) Q (v3 + 5) τ183)) ∧ (¬ y180 = y182 → Q (some (.inl 0)) τ183))))))) ∧ ((w_and ((w_carr xs 1013).getD v3.toNat 0) 63) < 0 ∨ 41 < (w_and ((w_carr xs 1013).getD v3.toNat 0) 63) → (w_in (v3 + 5) ∧ LLaw_law_10 xs (d + 20) Q (v3 + 5) σ))))))) : LLaw_law_10 xs (d + 20) Q v3 σ :=
  (wi_iload3 fLaw_law_10 (wi_aload0 fLaw_law_11 (wi_alen8000 fLaw_law_12 (wi_bipush fLaw_law_13 (wi_isub fLaw_law_14 h.1 (wi_ic_gt fLaw_law_15 (fun c185 => (wi_bipush fLaw_law_1002 (wi_ret2 fLaw_law_1003 (by decide) (h.2.1 c185)))) (fun c185 => (wi_aload0 fLaw_law_16 (wi_iload3 fLaw_law_17 (wi_iald8000 fLaw_law_18 (h.2.2 c185).1 (h.2.2 c185).2.1 (wi_bipush fLaw_law_19 (wi_iand fLaw_law_20 (fLaw_law_21 (fun c => (wi_aload1 fLaw_law_22 (wi_aload0 fLaw_law_23 (wi_iload3 fLaw_law_24 (wi_bipush fLaw_law_25 (wi_iadd fLaw_law_26 ((h.2.2 c185).2.2.1 c).1 (wi_iald8000 fLaw_law_27 ((h.2.2 c185).2.2.1 c).2.1 ((h.2.2 c185).2.2.1 c).2.2.1 (wi_call2 fLaw_law_28 (Nat.le_of_ble_eq_true rfl) (k_Moon_feed ((h.2.2 c185).2.2.1 c).2.2.2.1 (fun y1 τ2 eτ2 => (wi_pop_i fLaw_law_29 (wi_aload2 fLaw_law_30 (wi_aload0 fLaw_law_31 (wi_iload3 fLaw_law_32 (wi_bipush fLaw_law_33 (wi_iadd fLaw_law_34 ((h.2.2 c185).2.2.1 c).1 (wi_iald8000 fLaw_law_35 ((h.2.2 c185).2.2.1 c).2.1 ((h.2.2 c185).2.2.1 c).2.2.1 (wi_call2 fLaw_law_36 (Nat.le_of_ble_eq_true rfl) (k_Model_feed (((h.2.2 c185).2.2.1 c).2.2.2.2 y1 τ2 eτ2).1 (fun y3 τ4 eτ4 => (wi_pop_i fLaw_law_37 (wi_goto fLaw_law_38 (wi_iinc3 fLaw_law_1000 trivial ((((h.2.2 c185).2.2.1 c).2.2.2.2 y1 τ2 eτ2).2 y3 τ4 eτ4).1 (wi_goto fLaw_law_1001 ((((h.2.2 c185).2.2.1 c).2.2.2.2 y1 τ2 eτ2).2 y3 τ4 eτ4).2)))))))))))))))))))))))) (fun c => (wi_aload1 fLaw_law_39 (wi_aload0 fLaw_law_40 (wi_iload3 fLaw_law_41 (wi_bipush fLaw_law_42 (wi_iadd fLaw_law_43 ((h.2.2 c185).2.2.2.1 c).1 (wi_iald8000 fLaw_law_44 ((h.2.2 c185).2.2.2.1 c).2.1 ((h.2.2 c185).2.2.2.1 c).2.2.1 (wi_call2 fLaw_law_45 (Nat.le_of_ble_eq_true rfl) (k_Moon_end ((h.2.2 c185).2.2.2.1 c).2.2.2.1 (fun y5 τ6 eτ6 => (wi_pop_i fLaw_law_46 (wi_aload2 fLaw_law_47 (wi_aload0 fLaw_law_48 (wi_iload3 fLaw_law_49 (wi_bipush fLaw_law_50 (wi_iadd fLaw_law_51 ((h.2.2 c185).2.2.2.1 c).1 (wi_iald8000 fLaw_law_52 ((h.2.2 c185).2.2.2.1 c).2.1 ((h.2.2 c185).2.2.2.1 c).2.2.1 (wi_call2 fLaw_law_53 (Nat.le_of_ble_eq_true rfl) (k_Model_end (((h.2.2 c185).2.2.2.1 c).2.2.2.2 y5 τ6 eτ6).1 (fun y7 τ8 eτ8 => (wi_pop_i fLaw_law_54 (wi_goto fLaw_law_55 (wi_iinc3 fLaw_law_1000 trivial ((((h.2.2 c185).2.2.2.1 c).2.2.2.2 y5 τ6 eτ6).2 y7 τ8 eτ8).1 (wi_goto fLaw_law_1001 ((((h.2.2 c185).2.2.2.1 c).2.2.2.2 y5 τ6 eτ6).2 y7 τ8 eτ8).2)))))))))))))))))))))))) (fun c => (wi_aload1 fLaw_law_56 (wi_call1 fLaw_law_57 (Nat.le_of_ble_eq_true rfl) (k_Moon_text ((h.2.2 c185).2.2.2.2.1 c).1 (fun y9 τ10 eτ10 => (wi_pop_i fLaw_law_58 (wi_aload2 fLaw_law_59 (wi_call1 fLaw_law_60 (Nat.le_of_ble_eq_true rfl) (k_Model_text (((h.2.2 c185).2.2.2.2.1 c).2 y9 τ10 eτ10).1 (fun y11 τ12 eτ12 => (wi_pop_i fLaw_law_61 (wi_goto fLaw_law_62 (wi_iinc3 fLaw_law_1000 trivial ((((h.2.2 c185).2.2.2.2.1 c).2 y9 τ10 eτ10).2 y11 τ12 eτ12).1 (wi_goto fLaw_law_1001 ((((h.2.2 c185).2.2.2.2.1 c).2 y9 τ10 eτ10).2 y11 τ12 eτ12).2)))))))))))))) (fun c => (wi_aload1 fLaw_law_63 (wi_call1 fLaw_law_64 (Nat.le_of_ble_eq_true rfl) (k_Moon_fault ((h.2.2 c185).2.2.2.2.2.1 c).1 (fun y13 τ14 eτ14 => (wi_pop_i fLaw_law_65 (wi_aload2 fLaw_law_66 (wi_call1 fLaw_law_67 (Nat.le_of_ble_eq_true rfl) (k_Model_fault (((h.2.2 c185).2.2.2.2.2.1 c).2 y13 τ14 eτ14).1 (fun y15 τ16 eτ16 => (wi_pop_i fLaw_law_68 (wi_goto fLaw_law_69 (wi_iinc3 fLaw_law_1000 trivial ((((h.2.2 c185).2.2.2.2.2.1 c).2 y13 τ14 eτ14).2 y15 τ16 eτ16).1 (wi_goto fLaw_law_1001 ((((h.2.2 c185).2.2.2.2.2.1 c).2 y13 τ14 eτ14).2 y15 τ16 eτ16).2)))))))))))))) (fun c => (wi_aload1 fLaw_law_70 (wi_aload0 fLaw_law_71 (wi_iload3 fLaw_law_72 (wi_bipush fLaw_law_73 (wi_iadd fLaw_law_74 ((h.2.2 c185).2.2.2.2.2.2.1 c).1 (wi_iald8000 fLaw_law_75 ((h.2.2 c185).2.2.2.2.2.2.1 c).2.1 ((h.2.2 c185).2.2.2.2.2.2.1 c).2.2.1 (wi_call2 fLaw_law_76 (Nat.le_of_ble_eq_true rfl) (k_Moon_rule ((h.2.2 c185).2.2.2.2.2.2.1 c).2.2.2.1 (fun y17 τ18 eτ18 => (wi_pop_i fLaw_law_77 (wi_aload2 fLaw_law_78 (wi_aload0 fLaw_law_79 (wi_iload3 fLaw_law_80 (wi_bipush fLaw_law_81 (wi_iadd fLaw_law_82 ((h.2.2 c185).2.2.2.2.2.2.1 c).1 (wi_iald8000 fLaw_law_83 ((h.2.2 c185).2.2.2.2.2.2.1 c).2.1 ((h.2.2 c185).2.2.2.2.2.2.1 c).2.2.1 (wi_call2 fLaw_law_84 (Nat.le_of_ble_eq_true rfl) (k_Model_rule (((h.2.2 c185).2.2.2.2.2.2.1 c).2.2.2.2 y17 τ18 eτ18).1 (fun y19 τ20 eτ20 => (wi_pop_i fLaw_law_85 (wi_goto fLaw_law_86 (wi_iinc3 fLaw_law_1000 trivial ((((h.2.2 c185).2.2.2.2.2.2.1 c).2.2.2.2 y17 τ18 eτ18).2 y19 τ20 eτ20).1 (wi_goto fLaw_law_1001 ((((h.2.2 c185).2.2.2.2.2.2.1 c).2.2.2.2 y17 τ18 eτ18).2 y19 τ20 eτ20).2)))))))))))))))))))))))) (fun c => (wi_aload1 fLaw_law_87 (wi_aload0 fLaw_law_88 (wi_iload3 fLaw_law_89 (wi_bipush fLaw_law_90 (wi_iadd fLaw_law_91 ((h.2.2 c185).2.2.2.2.2.2.2.1 c).1 (wi_iald8000 fLaw_law_92 ((h.2.2 c185).2.2.2.2.2.2.2.1 c).2.1 ((h.2.2 c185).2.2.2.2.2.2.2.1 c).2.2.1 (wi_aload0 fLaw_law_93 (wi_iload3 fLaw_law_94 (wi_bipush fLaw_law_95 (wi_iadd fLaw_law_96 ((h.2.2 c185).2.2.2.2.2.2.2.1 c).2.2.2.1 (wi_iald8000 fLaw_law_97 ((h.2.2 c185).2.2.2.2.2.2.2.1 c).2.2.2.2.1 ((h.2.2 c185).2.2.2.2.2.2.2.1 c).2.2.2.2.2.1 (wi_call3 fLaw_law_98 (Nat.le_of_ble_eq_true rfl) (k_Moon_strip ((h.2.2 c185).2.2.2.2.2.2.2.1 c).2.2.2.2.2.2.1 (fun y21 τ22 eτ22 => (wi_pop_i fLaw_law_99 (wi_aload2 fLaw_law_100 (wi_aload0 fLaw_law_101 (wi_iload3 fLaw_law_102 (wi_bipush fLaw_law_103 (wi_iadd fLaw_law_104 ((h.2.2 c185).2.2.2.2.2.2.2.1 c).1 (wi_iald8000 fLaw_law_105 ((h.2.2 c185).2.2.2.2.2.2.2.1 c).2.1 ((h.2.2 c185).2.2.2.2.2.2.2.1 c).2.2.1 (wi_aload0 fLaw_law_106 (wi_iload3 fLaw_law_107 (wi_bipush fLaw_law_108 (wi_iadd fLaw_law_109 ((h.2.2 c185).2.2.2.2.2.2.2.1 c).2.2.2.1 (wi_iald8000 fLaw_law_110 ((h.2.2 c185).2.2.2.2.2.2.2.1 c).2.2.2.2.1 ((h.2.2 c185).2.2.2.2.2.2.2.1 c).2.2.2.2.2.1 (wi_call3 fLaw_law_111 (Nat.le_of_ble_eq_true rfl) (k_Model_strip (((h.2.2 c185).2.2.2.2.2.2.2.1 c).2.2.2.2.2.2.2 y21 τ22 eτ22).1 (fun y23 τ24 eτ24 => (wi_pop_i fLaw_law_112 (wi_goto fLaw_law_113 (wi_iinc3 fLaw_law_1000 trivial ((((h.2.2 c185).2.2.2.2.2.2.2.1 c).2.2.2.2.2.2.2 y21 τ22 eτ22).2 y23 τ24 eτ24).1 (wi_goto fLaw_law_1001 ((((h.2.2 c185).2.2.2.2.2.2.2.1 c).2.2.2.2.2.2.2 y21 τ22 eτ22).2 y23 τ24 eτ24).2)))))))))))))))))))))))))))))))))) (fun c => (wi_aload1 fLaw_law_114 (wi_aload0 fLaw_law_115 (wi_iload3 fLaw_law_116 (wi_bipush fLaw_law_117 (wi_iadd fLaw_law_118 ((h.2.2 c185).2.2.2.2.2.2.2.2.1 c).1 (wi_iald8000 fLaw_law_119 ((h.2.2 c185).2.2.2.2.2.2.2.2.1 c).2.1 ((h.2.2 c185).2.2.2.2.2.2.2.2.1 c).2.2.1 (wi_aload0 fLaw_law_120 (wi_iload3 fLaw_law_121 (wi_bipush fLaw_law_122 (wi_iadd fLaw_law_123 ((h.2.2 c185).2.2.2.2.2.2.2.2.1 c).2.2.2.1 (wi_iald8000 fLaw_law_124 ((h.2.2 c185).2.2.2.2.2.2.2.2.1 c).2.2.2.2.1 ((h.2.2 c185).2.2.2.2.2.2.2.2.1 c).2.2.2.2.2.1 (wi_call3 fLaw_law_125 (Nat.le_of_ble_eq_true rfl) (k_Moon_reaper ((h.2.2 c185).2.2.2.2.2.2.2.2.1 c).2.2.2.2.2.2.1 (fun y25 τ26 eτ26 => (wi_pop_i fLaw_law_126 (wi_aload2 fLaw_law_127 (wi_aload0 fLaw_law_128 (wi_iload3 fLaw_law_129 (wi_bipush fLaw_law_130 (wi_iadd fLaw_law_131 ((h.2.2 c185).2.2.2.2.2.2.2.2.1 c).1 (wi_iald8000 fLaw_law_132 ((h.2.2 c185).2.2.2.2.2.2.2.2.1 c).2.1 ((h.2.2 c185).2.2.2.2.2.2.2.2.1 c).2.2.1 (wi_aload0 fLaw_law_133 (wi_iload3 fLaw_law_134 (wi_bipush fLaw_law_135 (wi_iadd fLaw_law_136 ((h.2.2 c185).2.2.2.2.2.2.2.2.1 c).2.2.2.1 (wi_iald8000 fLaw_law_137 ((h.2.2 c185).2.2.2.2.2.2.2.2.1 c).2.2.2.2.1 ((h.2.2 c185).2.2.2.2.2.2.2.2.1 c).2.2.2.2.2.1 (wi_call3 fLaw_law_138 (Nat.le_of_ble_eq_true rfl) (k_Model_reaper (((h.2.2 c185).2.2.2.2.2.2.2.2.1 c).2.2.2.2.2.2.2 y25 τ26 eτ26).1 (fun y27 τ28 eτ28 => (wi_pop_i fLaw_law_139 (wi_goto fLaw_law_140 (wi_iinc3 fLaw_law_1000 trivial ((((h.2.2 c185).2.2.2.2.2.2.2.2.1 c).2.2.2.2.2.2.2 y25 τ26 eτ26).2 y27 τ28 eτ28).1 (wi_goto fLaw_law_1001 ((((h.2.2 c185).2.2.2.2.2.2.2.2.1 c).2.2.2.2.2.2.2 y25 τ26 eτ26).2 y27 τ28 eτ28).2)))))))))))))))))))))))))))))))))) (fun c => (wi_aload1 fLaw_law_141 (wi_aload0 fLaw_law_142 (wi_iload3 fLaw_law_143 (wi_bipush fLaw_law_144 (wi_iadd fLaw_law_145 ((h.2.2 c185).2.2.2.2.2.2.2.2.2.1 c).1 (wi_iald8000 fLaw_law_146 ((h.2.2 c185).2.2.2.2.2.2.2.2.2.1 c).2.1 ((h.2.2 c185).2.2.2.2.2.2.2.2.2.1 c).2.2.1 (wi_call2 fLaw_law_147 (Nat.le_of_ble_eq_true rfl) (k_Moon_harvest ((h.2.2 c185).2.2.2.2.2.2.2.2.2.1 c).2.2.2.1 (fun y29 τ30 eτ30 => (wi_pop_i fLaw_law_148 (wi_aload2 fLaw_law_149 (wi_aload0 fLaw_law_150 (wi_iload3 fLaw_law_151 (wi_bipush fLaw_law_152 (wi_iadd fLaw_law_153 ((h.2.2 c185).2.2.2.2.2.2.2.2.2.1 c).1 (wi_iald8000 fLaw_law_154 ((h.2.2 c185).2.2.2.2.2.2.2.2.2.1 c).2.1 ((h.2.2 c185).2.2.2.2.2.2.2.2.2.1 c).2.2.1 (wi_call2 fLaw_law_155 (Nat.le_of_ble_eq_true rfl) (k_Model_harvest (((h.2.2 c185).2.2.2.2.2.2.2.2.2.1 c).2.2.2.2 y29 τ30 eτ30).1 (fun y31 τ32 eτ32 => (wi_pop_i fLaw_law_156 (wi_goto fLaw_law_157 (wi_iinc3 fLaw_law_1000 trivial ((((h.2.2 c185).2.2.2.2.2.2.2.2.2.1 c).2.2.2.2 y29 τ30 eτ30).2 y31 τ32 eτ32).1 (wi_goto fLaw_law_1001 ((((h.2.2 c185).2.2.2.2.2.2.2.2.2.1 c).2.2.2.2 y29 τ30 eτ30).2 y31 τ32 eτ32).2)))))))))))))))))))))))) (fun c => (wi_aload1 fLaw_law_158 (wi_aload0 fLaw_law_159 (wi_iload3 fLaw_law_160 (wi_bipush fLaw_law_161 (wi_iadd fLaw_law_162 ((h.2.2 c185).2.2.2.2.2.2.2.2.2.2.1 c).1 (wi_iald8000 fLaw_law_163 ((h.2.2 c185).2.2.2.2.2.2.2.2.2.2.1 c).2.1 ((h.2.2 c185).2.2.2.2.2.2.2.2.2.2.1 c).2.2.1 (wi_aload0 fLaw_law_164 (wi_iload3 fLaw_law_165 (wi_bipush fLaw_law_166 (wi_iadd fLaw_law_167 ((h.2.2 c185).2.2.2.2.2.2.2.2.2.2.1 c).2.2.2.1 (wi_iald8000 fLaw_law_168 ((h.2.2 c185).2.2.2.2.2.2.2.2.2.2.1 c).2.2.2.2.1 ((h.2.2 c185).2.2.2.2.2.2.2.2.2.2.1 c).2.2.2.2.2.1 (wi_call3 fLaw_law_169 (Nat.le_of_ble_eq_true rfl) (k_Moon_send ((h.2.2 c185).2.2.2.2.2.2.2.2.2.2.1 c).2.2.2.2.2.2.1 (fun y33 τ34 eτ34 => (wi_pop_i fLaw_law_170 (wi_aload2 fLaw_law_171 (wi_aload0 fLaw_law_172 (wi_iload3 fLaw_law_173 (wi_bipush fLaw_law_174 (wi_iadd fLaw_law_175 ((h.2.2 c185).2.2.2.2.2.2.2.2.2.2.1 c).1 (wi_iald8000 fLaw_law_176 ((h.2.2 c185).2.2.2.2.2.2.2.2.2.2.1 c).2.1 ((h.2.2 c185).2.2.2.2.2.2.2.2.2.2.1 c).2.2.1 (wi_aload0 fLaw_law_177 (wi_iload3 fLaw_law_178 (wi_bipush fLaw_law_179 (wi_iadd fLaw_law_180 ((h.2.2 c185).2.2.2.2.2.2.2.2.2.2.1 c).2.2.2.1 (wi_iald8000 fLaw_law_181 ((h.2.2 c185).2.2.2.2.2.2.2.2.2.2.1 c).2.2.2.2.1 ((h.2.2 c185).2.2.2.2.2.2.2.2.2.2.1 c).2.2.2.2.2.1 (wi_call3 fLaw_law_182 (Nat.le_of_ble_eq_true rfl) (k_Model_send (((h.2.2 c185).2.2.2.2.2.2.2.2.2.2.1 c).2.2.2.2.2.2.2 y33 τ34 eτ34).1 (fun y35 τ36 eτ36 => (wi_pop_i fLaw_law_183 (wi_goto fLaw_law_184 (wi_iinc3 fLaw_law_1000 trivial ((((h.2.2 c185).2.2.2.2.2.2.2.2.2.2.1 c).2.2.2.2.2.2.2 y33 τ34 eτ34).2 y35 τ36 eτ36).1 (wi_goto fLaw_law_1001 ((((h.2.2 c185).2.2.2.2.2.2.2.2.2.2.1 c).2.2.2.2.2.2.2 y33 τ34 eτ34).2 y35 τ36 eτ36).2)))))))))))))))))))))))))))))))))) (fun c => (wi_aload1 fLaw_law_185 (wi_aload0 fLaw_law_186 (wi_iload3 fLaw_law_187 (wi_bipush fLaw_law_188 (wi_iadd fLaw_law_189 ((h.2.2 c185).2.2.2.2.2.2.2.2.2.2.2.1 c).1 (wi_iald8000 fLaw_law_190 ((h.2.2 c185).2.2.2.2.2.2.2.2.2.2.2.1 c).2.1 ((h.2.2 c185).2.2.2.2.2.2.2.2.2.2.2.1 c).2.2.1 (wi_aload0 fLaw_law_191 (wi_iload3 fLaw_law_192 (wi_bipush fLaw_law_193 (wi_iadd fLaw_law_194 ((h.2.2 c185).2.2.2.2.2.2.2.2.2.2.2.1 c).2.2.2.1 (wi_iald8000 fLaw_law_195 ((h.2.2 c185).2.2.2.2.2.2.2.2.2.2.2.1 c).2.2.2.2.1 ((h.2.2 c185).2.2.2.2.2.2.2.2.2.2.2.1 c).2.2.2.2.2.1 (wi_aload0 fLaw_law_196 (wi_iload3 fLaw_law_197 (wi_bipush fLaw_law_198 (wi_iadd fLaw_law_199 ((h.2.2 c185).2.2.2.2.2.2.2.2.2.2.2.1 c).2.2.2.2.2.2.1 (wi_iald8000 fLaw_law_200 ((h.2.2 c185).2.2.2.2.2.2.2.2.2.2.2.1 c).2.2.2.2.2.2.2.1 ((h.2.2 c185).2.2.2.2.2.2.2.2.2.2.2.1 c).2.2.2.2.2.2.2.2.1 (wi_call4 fLaw_law_201 (Nat.le_of_ble_eq_true rfl) (k_Moon_lend ((h.2.2 c185).2.2.2.2.2.2.2.2.2.2.2.1 c).2.2.2.2.2.2.2.2.2.1 (fun y37 τ38 eτ38 => (wi_pop_i fLaw_law_202 (wi_aload2 fLaw_law_203 (wi_aload0 fLaw_law_204 (wi_iload3 fLaw_law_205 (wi_bipush fLaw_law_206 (wi_iadd fLaw_law_207 ((h.2.2 c185).2.2.2.2.2.2.2.2.2.2.2.1 c).1 (wi_iald8000 fLaw_law_208 ((h.2.2 c185).2.2.2.2.2.2.2.2.2.2.2.1 c).2.1 ((h.2.2 c185).2.2.2.2.2.2.2.2.2.2.2.1 c).2.2.1 (wi_aload0 fLaw_law_209 (wi_iload3 fLaw_law_210 (wi_bipush fLaw_law_211 (wi_iadd fLaw_law_212 ((h.2.2 c185).2.2.2.2.2.2.2.2.2.2.2.1 c).2.2.2.1 (wi_iald8000 fLaw_law_213 ((h.2.2 c185).2.2.2.2.2.2.2.2.2.2.2.1 c).2.2.2.2.1 ((h.2.2 c185).2.2.2.2.2.2.2.2.2.2.2.1 c).2.2.2.2.2.1 (wi_aload0 fLaw_law_214 (wi_iload3 fLaw_law_215 (wi_bipush fLaw_law_216 (wi_iadd fLaw_law_217 ((h.2.2 c185).2.2.2.2.2.2.2.2.2.2.2.1 c).2.2.2.2.2.2.1 (wi_iald8000 fLaw_law_218 ((h.2.2 c185).2.2.2.2.2.2.2.2.2.2.2.1 c).2.2.2.2.2.2.2.1 ((h.2.2 c185).2.2.2.2.2.2.2.2.2.2.2.1 c).2.2.2.2.2.2.2.2.1 (wi_call4 fLaw_law_219 (Nat.le_of_ble_eq_true rfl) (k_Model_lend (((h.2.2 c185).2.2.2.2.2.2.2.2.2.2.2.1 c).2.2.2.2.2.2.2.2.2.2 y37 τ38 eτ38).1 (fun y39 τ40 eτ40 => (wi_pop_i fLaw_law_220 (wi_goto fLaw_law_221 (wi_iinc3 fLaw_law_1000 trivial ((((h.2.2 c185).2.2.2.2.2.2.2.2.2.2.2.1 c).2.2.2.2.2.2.2.2.2.2 y37 τ38 eτ38).2 y39 τ40 eτ40).1 (wi_goto fLaw_law_1001 ((((h.2.2 c185).2.2.2.2.2.2.2.2.2.2.2.1 c).2.2.2.2.2.2.2.2.2.2 y37 τ38 eτ38).2 y39 τ40 eτ40).2)))))))))))))))))))))))))))))))))))))))))))) (fun c => (wi_aload1 fLaw_law_222 (wi_aload0 fLaw_law_223 (wi_iload3 fLaw_law_224 (wi_bipush fLaw_law_225 (wi_iadd fLaw_law_226 ((h.2.2 c185).2.2.2.2.2.2.2.2.2.2.2.2.1 c).1 (wi_iald8000 fLaw_law_227 ((h.2.2 c185).2.2.2.2.2.2.2.2.2.2.2.2.1 c).2.1 ((h.2.2 c185).2.2.2.2.2.2.2.2.2.2.2.2.1 c).2.2.1 (wi_aload0 fLaw_law_228 (wi_iload3 fLaw_law_229 (wi_bipush fLaw_law_230 (wi_iadd fLaw_law_231 ((h.2.2 c185).2.2.2.2.2.2.2.2.2.2.2.2.1 c).2.2.2.1 (wi_iald8000 fLaw_law_232 ((h.2.2 c185).2.2.2.2.2.2.2.2.2.2.2.2.1 c).2.2.2.2.1 ((h.2.2 c185).2.2.2.2.2.2.2.2.2.2.2.2.1 c).2.2.2.2.2.1 (wi_call3 fLaw_law_233 (Nat.le_of_ble_eq_true rfl) (k_Moon_whet ((h.2.2 c185).2.2.2.2.2.2.2.2.2.2.2.2.1 c).2.2.2.2.2.2.1 (fun y41 τ42 eτ42 => (wi_pop_i fLaw_law_234 (wi_aload2 fLaw_law_235 (wi_aload0 fLaw_law_236 (wi_iload3 fLaw_law_237 (wi_bipush fLaw_law_238 (wi_iadd fLaw_law_239 ((h.2.2 c185).2.2.2.2.2.2.2.2.2.2.2.2.1 c).1 (wi_iald8000 fLaw_law_240 ((h.2.2 c185).2.2.2.2.2.2.2.2.2.2.2.2.1 c).2.1 ((h.2.2 c185).2.2.2.2.2.2.2.2.2.2.2.2.1 c).2.2.1 (wi_aload0 fLaw_law_241 (wi_iload3 fLaw_law_242 (wi_bipush fLaw_law_243 (wi_iadd fLaw_law_244 ((h.2.2 c185).2.2.2.2.2.2.2.2.2.2.2.2.1 c).2.2.2.1 (wi_iald8000 fLaw_law_245 ((h.2.2 c185).2.2.2.2.2.2.2.2.2.2.2.2.1 c).2.2.2.2.1 ((h.2.2 c185).2.2.2.2.2.2.2.2.2.2.2.2.1 c).2.2.2.2.2.1 (wi_call3 fLaw_law_246 (Nat.le_of_ble_eq_true rfl) (k_Model_whet (((h.2.2 c185).2.2.2.2.2.2.2.2.2.2.2.2.1 c).2.2.2.2.2.2.2 y41 τ42 eτ42).1 (fun y43 τ44 eτ44 => (wi_pop_i fLaw_law_247 (wi_goto fLaw_law_248 (wi_iinc3 fLaw_law_1000 trivial ((((h.2.2 c185).2.2.2.2.2.2.2.2.2.2.2.2.1 c).2.2.2.2.2.2.2 y41 τ42 eτ42).2 y43 τ44 eτ44).1 (wi_goto fLaw_law_1001 ((((h.2.2 c185).2.2.2.2.2.2.2.2.2.2.2.2.1 c).2.2.2.2.2.2.2 y41 τ42 eτ42).2 y43 τ44 eτ44).2)))))))))))))))))))))))))))))))))) (fun c => (wi_aload1 fLaw_law_249 (wi_aload0 fLaw_law_250 (wi_iload3 fLaw_law_251 (wi_bipush fLaw_law_252 (wi_iadd fLaw_law_253 ((h.2.2 c185).2.2.2.2.2.2.2.2.2.2.2.2.2.1 c).1 (wi_iald8000 fLaw_law_254 ((h.2.2 c185).2.2.2.2.2.2.2.2.2.2.2.2.2.1 c).2.1 ((h.2.2 c185).2.2.2.2.2.2.2.2.2.2.2.2.2.1 c).2.2.1 (wi_aload0 fLaw_law_255 (wi_iload3 fLaw_law_256 (wi_bipush fLaw_law_257 (wi_iadd fLaw_law_258 ((h.2.2 c185).2.2.2.2.2.2.2.2.2.2.2.2.2.1 c).2.2.2.1 (wi_iald8000 fLaw_law_259 ((h.2.2 c185).2.2.2.2.2.2.2.2.2.2.2.2.2.1 c).2.2.2.2.1 ((h.2.2 c185).2.2.2.2.2.2.2.2.2.2.2.2.2.1 c).2.2.2.2.2.1 (wi_call3 fLaw_law_260 (Nat.le_of_ble_eq_true rfl) (k_Moon_fill ((h.2.2 c185).2.2.2.2.2.2.2.2.2.2.2.2.2.1 c).2.2.2.2.2.2.1 (fun y45 τ46 eτ46 => (wi_pop_i fLaw_law_261 (wi_aload2 fLaw_law_262 (wi_aload0 fLaw_law_263 (wi_iload3 fLaw_law_264 (wi_bipush fLaw_law_265 (wi_iadd fLaw_law_266 ((h.2.2 c185).2.2.2.2.2.2.2.2.2.2.2.2.2.1 c).1 (wi_iald8000 fLaw_law_267 ((h.2.2 c185).2.2.2.2.2.2.2.2.2.2.2.2.2.1 c).2.1 ((h.2.2 c185).2.2.2.2.2.2.2.2.2.2.2.2.2.1 c).2.2.1 (wi_aload0 fLaw_law_268 (wi_iload3 fLaw_law_269 (wi_bipush fLaw_law_270 (wi_iadd fLaw_law_271 ((h.2.2 c185).2.2.2.2.2.2.2.2.2.2.2.2.2.1 c).2.2.2.1 (wi_iald8000 fLaw_law_272 ((h.2.2 c185).2.2.2.2.2.2.2.2.2.2.2.2.2.1 c).2.2.2.2.1 ((h.2.2 c185).2.2.2.2.2.2.2.2.2.2.2.2.2.1 c).2.2.2.2.2.1 (wi_call3 fLaw_law_273 (Nat.le_of_ble_eq_true rfl) (k_Model_fill (((h.2.2 c185).2.2.2.2.2.2.2.2.2.2.2.2.2.1 c).2.2.2.2.2.2.2 y45 τ46 eτ46).1 (fun y47 τ48 eτ48 => (wi_pop_i fLaw_law_274 (wi_goto fLaw_law_275 (wi_iinc3 fLaw_law_1000 trivial ((((h.2.2 c185).2.2.2.2.2.2.2.2.2.2.2.2.2.1 c).2.2.2.2.2.2.2 y45 τ46 eτ46).2 y47 τ48 eτ48).1 (wi_goto fLaw_law_1001 ((((h.2.2 c185).2.2.2.2.2.2.2.2.2.2.2.2.2.1 c).2.2.2.2.2.2.2 y45 τ46 eτ46).2 y47 τ48 eτ48).2)))))))))))))))))))))))))))))))))) (fun c => (wi_aload1 fLaw_law_276 (wi_aload0 fLaw_law_277 (wi_iload3 fLaw_law_278 (wi_bipush fLaw_law_279 (wi_iadd fLaw_law_280 ((h.2.2 c185).2.2.2.2.2.2.2.2.2.2.2.2.2.2.1 c).1 (wi_iald8000 fLaw_law_281 ((h.2.2 c185).2.2.2.2.2.2.2.2.2.2.2.2.2.2.1 c).2.1 ((h.2.2 c185).2.2.2.2.2.2.2.2.2.2.2.2.2.2.1 c).2.2.1 (wi_aload0 fLaw_law_282 (wi_iload3 fLaw_law_283 (wi_bipush fLaw_law_284 (wi_iadd fLaw_law_285 ((h.2.2 c185).2.2.2.2.2.2.2.2.2.2.2.2.2.2.1 c).2.2.2.1 (wi_iald8000 fLaw_law_286 ((h.2.2 c185).2.2.2.2.2.2.2.2.2.2.2.2.2.2.1 c).2.2.2.2.1 ((h.2.2 c185).2.2.2.2.2.2.2.2.2.2.2.2.2.2.1 c).2.2.2.2.2.1 (wi_if_eq fLaw_law_287 (fun c57 => (wi_bipush fLaw_law_290 (wi_call3 fLaw_law_291 (Nat.le_of_ble_eq_true rfl) (k_Moon_cloud (((h.2.2 c185).2.2.2.2.2.2.2.2.2.2.2.2.2.2.1 c).2.2.2.2.2.2.1 c57).1 (fun y49 τ50 eτ50 => (wi_pop_i fLaw_law_292 (wi_aload2 fLaw_law_293 (wi_aload0 fLaw_law_294 (wi_iload3 fLaw_law_295 (wi_bipush fLaw_law_296 (wi_iadd fLaw_law_297 ((h.2.2 c185).2.2.2.2.2.2.2.2.2.2.2.2.2.2.1 c).1 (wi_iald8000 fLaw_law_298 ((h.2.2 c185).2.2.2.2.2.2.2.2.2.2.2.2.2.2.1 c).2.1 ((h.2.2 c185).2.2.2.2.2.2.2.2.2.2.2.2.2.2.1 c).2.2.1 (wi_aload0 fLaw_law_299 (wi_iload3 fLaw_law_300 (wi_bipush fLaw_law_301 (wi_iadd fLaw_law_302 ((h.2.2 c185).2.2.2.2.2.2.2.2.2.2.2.2.2.2.1 c).2.2.2.1 (wi_iald8000 fLaw_law_303 ((h.2.2 c185).2.2.2.2.2.2.2.2.2.2.2.2.2.2.1 c).2.2.2.2.1 ((h.2.2 c185).2.2.2.2.2.2.2.2.2.2.2.2.2.2.1 c).2.2.2.2.2.1 (wi_if_eq fLaw_law_304 (fun _ => (wi_bipush fLaw_law_307 (wi_call3 fLaw_law_308 (Nat.le_of_ble_eq_true rfl) (k_Model_cloud ((((h.2.2 c185).2.2.2.2.2.2.2.2.2.2.2.2.2.2.1 c).2.2.2.2.2.2.1 c57).2 y49 τ50 eτ50).1 (fun y51 τ52 eτ52 => (wi_pop_i fLaw_law_309 (wi_goto fLaw_law_310 (wi_iinc3 fLaw_law_1000 trivial (((((h.2.2 c185).2.2.2.2.2.2.2.2.2.2.2.2.2.2.1 c).2.2.2.2.2.2.1 c57).2 y49 τ50 eτ50).2 y51 τ52 eτ52).1 (wi_goto fLaw_law_1001 (((((h.2.2 c185).2.2.2.2.2.2.2.2.2.2.2.2.2.2.1 c).2.2.2.2.2.2.1 c57).2 y49 τ50 eτ50).2 y51 τ52 eτ52).2))))))))) (fun e => absurd c57 (w_n_eq e)))))))))))))))))))) (fun c57 => (wi_bipush fLaw_law_288 (wi_goto fLaw_law_289 (wi_call3 fLaw_law_291 (Nat.le_of_ble_eq_true rfl) (k_Moon_cloud (((h.2.2 c185).2.2.2.2.2.2.2.2.2.2.2.2.2.2.1 c).2.2.2.2.2.2.2 c57).1 (fun y53 τ54 eτ54 => (wi_pop_i fLaw_law_292 (wi_aload2 fLaw_law_293 (wi_aload0 fLaw_law_294 (wi_iload3 fLaw_law_295 (wi_bipush fLaw_law_296 (wi_iadd fLaw_law_297 ((h.2.2 c185).2.2.2.2.2.2.2.2.2.2.2.2.2.2.1 c).1 (wi_iald8000 fLaw_law_298 ((h.2.2 c185).2.2.2.2.2.2.2.2.2.2.2.2.2.2.1 c).2.1 ((h.2.2 c185).2.2.2.2.2.2.2.2.2.2.2.2.2.2.1 c).2.2.1 (wi_aload0 fLaw_law_299 (wi_iload3 fLaw_law_300 (wi_bipush fLaw_law_301 (wi_iadd fLaw_law_302 ((h.2.2 c185).2.2.2.2.2.2.2.2.2.2.2.2.2.2.1 c).2.2.2.1 (wi_iald8000 fLaw_law_303 ((h.2.2 c185).2.2.2.2.2.2.2.2.2.2.2.2.2.2.1 c).2.2.2.2.1 ((h.2.2 c185).2.2.2.2.2.2.2.2.2.2.2.2.2.2.1 c).2.2.2.2.2.1 (wi_if_eq fLaw_law_304 (fun e => absurd c57 (w_m_eq e)) (fun _ => (wi_bipush fLaw_law_305 (wi_goto fLaw_law_306 (wi_call3 fLaw_law_308 (Nat.le_of_ble_eq_true rfl) (k_Model_cloud ((((h.2.2 c185).2.2.2.2.2.2.2.2.2.2.2.2.2.2.1 c).2.2.2.2.2.2.2 c57).2 y53 τ54 eτ54).1 (fun y55 τ56 eτ56 => (wi_pop_i fLaw_law_309 (wi_goto fLaw_law_310 (wi_iinc3 fLaw_law_1000 trivial (((((h.2.2 c185).2.2.2.2.2.2.2.2.2.2.2.2.2.2.1 c).2.2.2.2.2.2.2 c57).2 y53 τ54 eτ54).2 y55 τ56 eτ56).1 (wi_goto fLaw_law_1001 (((((h.2.2 c185).2.2.2.2.2.2.2.2.2.2.2.2.2.2.1 c).2.2.2.2.2.2.2 c57).2 y53 τ54 eτ54).2 y55 τ56 eτ56).2)))))))))))))))))))))))))))))))))))))))))) (fun c => (wi_aload1 fLaw_law_311 (wi_aload0 fLaw_law_312 (wi_iload3 fLaw_law_313 (wi_bipush fLaw_law_314 (wi_iadd fLaw_law_315 ((h.2.2 c185).2.2.2.2.2.2.2.2.2.2.2.2.2.2.2.1 c).1 (wi_iald8000 fLaw_law_316 ((h.2.2 c185).2.2.2.2.2.2.2.2.2.2.2.2.2.2.2.1 c).2.1 ((h.2.2 c185).2.2.2.2.2.2.2.2.2.2.2.2.2.2.2.1 c).2.2.1 (wi_aload0 fLaw_law_317 (wi_iload3 fLaw_law_318 (wi_bipush fLaw_law_319 (wi_iadd fLaw_law_320 ((h.2.2 c185).2.2.2.2.2.2.2.2.2.2.2.2.2.2.2.1 c).2.2.2.1 (wi_iald8000 fLaw_law_321 ((h.2.2 c185).2.2.2.2.2.2.2.2.2.2.2.2.2.2.2.1 c).2.2.2.2.1 ((h.2.2 c185).2.2.2.2.2.2.2.2.2.2.2.2.2.2.2.1 c).2.2.2.2.2.1 (wi_if_eq fLaw_law_322 (fun c66 => (wi_bipush fLaw_law_325 (wi_call3 fLaw_law_326 (Nat.le_of_ble_eq_true rfl) (k_Moon_thistle (((h.2.2 c185).2.2.2.2.2.2.2.2.2.2.2.2.2.2.2.1 c).2.2.2.2.2.2.1 c66).1 (fun y58 τ59 eτ59 => (wi_pop_i fLaw_law_327 (wi_aload2 fLaw_law_328 (wi_aload0 fLaw_law_329 (wi_iload3 fLaw_law_330 (wi_bipush fLaw_law_331 (wi_iadd fLaw_law_332 ((h.2.2 c185).2.2.2.2.2.2.2.2.2.2.2.2.2.2.2.1 c).1 (wi_iald8000 fLaw_law_333 ((h.2.2 c185).2.2.2.2.2.2.2.2.2.2.2.2.2.2.2.1 c).2.1 ((h.2.2 c185).2.2.2.2.2.2.2.2.2.2.2.2.2.2.2.1 c).2.2.1 (wi_aload0 fLaw_law_334 (wi_iload3 fLaw_law_335 (wi_bipush fLaw_law_336 (wi_iadd fLaw_law_337 ((h.2.2 c185).2.2.2.2.2.2.2.2.2.2.2.2.2.2.2.1 c).2.2.2.1 (wi_iald8000 fLaw_law_338 ((h.2.2 c185).2.2.2.2.2.2.2.2.2.2.2.2.2.2.2.1 c).2.2.2.2.1 ((h.2.2 c185).2.2.2.2.2.2.2.2.2.2.2.2.2.2.2.1 c).2.2.2.2.2.1 (wi_if_eq fLaw_law_339 (fun _ => (wi_bipush fLaw_law_342 (wi_call3 fLaw_law_343 (Nat.le_of_ble_eq_true rfl) (k_Model_thistle ((((h.2.2 c185).2.2.2.2.2.2.2.2.2.2.2.2.2.2.2.1 c).2.2.2.2.2.2.1 c66).2 y58 τ59 eτ59).1 (fun y60 τ61 eτ61 => (wi_pop_i fLaw_law_344 (wi_goto fLaw_law_345 (wi_iinc3 fLaw_law_1000 trivial (((((h.2.2 c185).2.2.2.2.2.2.2.2.2.2.2.2.2.2.2.1 c).2.2.2.2.2.2.1 c66).2 y58 τ59 eτ59).2 y60 τ61 eτ61).1 (wi_goto fLaw_law_1001 (((((h.2.2 c185).2.2.2.2.2.2.2.2.2.2.2.2.2.2.2.1 c).2.2.2.2.2.2.1 c66).2 y58 τ59 eτ59).2 y60 τ61 eτ61).2))))))))) (fun e => absurd c66 (w_n_eq e)))))))))))))))))))) (fun c66 => (wi_bipush fLaw_law_323 (wi_goto fLaw_law_324 (wi_call3 fLaw_law_326 (Nat.le_of_ble_eq_true rfl) (k_Moon_thistle (((h.2.2 c185).2.2.2.2.2.2.2.2.2.2.2.2.2.2.2.1 c).2.2.2.2.2.2.2 c66).1 (fun y62 τ63 eτ63 => (wi_pop_i fLaw_law_327 (wi_aload2 fLaw_law_328 (wi_aload0 fLaw_law_329 (wi_iload3 fLaw_law_330 (wi_bipush fLaw_law_331 (wi_iadd fLaw_law_332 ((h.2.2 c185).2.2.2.2.2.2.2.2.2.2.2.2.2.2.2.1 c).1 (wi_iald8000 fLaw_law_333 ((h.2.2 c185).2.2.2.2.2.2.2.2.2.2.2.2.2.2.2.1 c).2.1 ((h.2.2 c185).2.2.2.2.2.2.2.2.2.2.2.2.2.2.2.1 c).2.2.1 (wi_aload0 fLaw_law_334 (wi_iload3 fLaw_law_335 (wi_bipush fLaw_law_336 (wi_iadd fLaw_law_337 ((h.2.2 c185).2.2.2.2.2.2.2.2.2.2.2.2.2.2.2.1 c).2.2.2.1 (wi_iald8000 fLaw_law_338 ((h.2.2 c185).2.2.2.2.2.2.2.2.2.2.2.2.2.2.2.1 c).2.2.2.2.1 ((h.2.2 c185).2.2.2.2.2.2.2.2.2.2.2.2.2.2.2.1 c).2.2.2.2.2.1 (wi_if_eq fLaw_law_339 (fun e => absurd c66 (w_m_eq e)) (fun _ => (wi_bipush fLaw_law_340 (wi_goto fLaw_law_341 (wi_call3 fLaw_law_343 (Nat.le_of_ble_eq_true rfl) (k_Model_thistle ((((h.2.2 c185).2.2.2.2.2.2.2.2.2.2.2.2.2.2.2.1 c).2.2.2.2.2.2.2 c66).2 y62 τ63 eτ63).1 (fun y64 τ65 eτ65 => (wi_pop_i fLaw_law_344 (wi_goto fLaw_law_345 (wi_iinc3 fLaw_law_1000 trivial (((((h.2.2 c185).2.2.2.2.2.2.2.2.2.2.2.2.2.2.2.1 c).2.2.2.2.2.2.2 c66).2 y62 τ63 eτ63).2 y64 τ65 eτ65).1 (wi_goto fLaw_law_1001 (((((h.2.2 c185).2.2.2.2.2.2.2.2.2.2.2.2.2.2.2.1 c).2.2.2.2.2.2.2 c66).2 y62 τ63 eτ63).2 y64 τ65 eτ65).2)))))))))))))))))))))))))))))))))))))))))) (fun c => (wi_aload1 fLaw_law_346 (wi_aload0 fLaw_law_347 (wi_iload3 fLaw_law_348 (wi_bipush fLaw_law_349 (wi_iadd fLaw_law_350 ((h.2.2 c185).2.2.2.2.2.2.2.2.2.2.2.2.2.2.2.2.1 c).1 (wi_iald8000 fLaw_law_351 ((h.2.2 c185).2.2.2.2.2.2.2.2.2.2.2.2.2.2.2.2.1 c).2.1 ((h.2.2 c185).2.2.2.2.2.2.2.2.2.2.2.2.2.2.2.2.1 c).2.2.1 (wi_aload0 fLaw_law_352 (wi_iload3 fLaw_law_353 (wi_bipush fLaw_law_354 (wi_iadd fLaw_law_355 ((h.2.2 c185).2.2.2.2.2.2.2.2.2.2.2.2.2.2.2.2.1 c).2.2.2.1 (wi_iald8000 fLaw_law_356 ((h.2.2 c185).2.2.2.2.2.2.2.2.2.2.2.2.2.2.2.2.1 c).2.2.2.2.1 ((h.2.2 c185).2.2.2.2.2.2.2.2.2.2.2.2.2.2.2.2.1 c).2.2.2.2.2.1 (wi_call3 fLaw_law_357 (Nat.le_of_ble_eq_true rfl) (k_Moon_own ((h.2.2 c185).2.2.2.2.2.2.2.2.2.2.2.2.2.2.2.2.1 c).2.2.2.2.2.2.1 (fun y67 τ68 eτ68 => (wi_pop_i fLaw_law_358 (wi_aload2 fLaw_law_359 (wi_aload0 fLaw_law_360 (wi_iload3 fLaw_law_361 (wi_bipush fLaw_law_362 (wi_iadd fLaw_law_363 ((h.2.2 c185).2.2.2.2.2.2.2.2.2.2.2.2.2.2.2.2.1 c).1 (wi_iald8000 fLaw_law_364 ((h.2.2 c185).2.2.2.2.2.2.2.2.2.2.2.2.2.2.2.2.1 c).2.1 ((h.2.2 c185).2.2.2.2.2.2.2.2.2.2.2.2.2.2.2.2.1 c).2.2.1 (wi_aload0 fLaw_law_365 (wi_iload3 fLaw_law_366 (wi_bipush fLaw_law_367 (wi_iadd fLaw_law_368 ((h.2.2 c185).2.2.2.2.2.2.2.2.2.2.2.2.2.2.2.2.1 c).2.2.2.1 (wi_iald8000 fLaw_law_369 ((h.2.2 c185).2.2.2.2.2.2.2.2.2.2.2.2.2.2.2.2.1 c).2.2.2.2.1 ((h.2.2 c185).2.2.2.2.2.2.2.2.2.2.2.2.2.2.2.2.1 c).2.2.2.2.2.1 (wi_call3 fLaw_law_370 (Nat.le_of_ble_eq_true rfl) (k_Model_own (((h.2.2 c185).2.2.2.2.2.2.2.2.2.2.2.2.2.2.2.2.1 c).2.2.2.2.2.2.2 y67 τ68 eτ68).1 (fun y69 τ70 eτ70 => (wi_pop_i fLaw_law_371 (wi_goto fLaw_law_372 (wi_iinc3 fLaw_law_1000 trivial ((((h.2.2 c185).2.2.2.2.2.2.2.2.2.2.2.2.2.2.2.2.1 c).2.2.2.2.2.2.2 y67 τ68 eτ68).2 y69 τ70 eτ70).1 (wi_goto fLaw_law_1001 ((((h.2.2 c185).2.2.2.2.2.2.2.2.2.2.2.2.2.2.2.2.1 c).2.2.2.2.2.2.2 y67 τ68 eτ68).2 y69 τ70 eτ70).2)))))))))))))))))))))))))))))))))) (fun c => (wi_aload1 fLaw_law_373 (wi_aload0 fLaw_law_374 (wi_iload3 fLaw_law_375 (wi_bipush fLaw_law_376 (wi_iadd fLaw_law_377 ((h.2.2 c185).2.2.2.2.2.2.2.2.2.2.2.2.2.2.2.2.2.1 c).1 (wi_iald8000 fLaw_law_378 ((h.2.2 c185).2.2.2.2.2.2.2.2.2.2.2.2.2.2.2.2.2.1 c).2.1 ((h.2.2 c185).2.2.2.2.2.2.2.2.2.2.2.2.2.2.2.2.2.1 c).2.2.1 (wi_aload0 fLaw_law_379 (wi_iload3 fLaw_law_380 (wi_bipush fLaw_law_381 (wi_iadd fLaw_law_382 ((h.2.2 c185).2.2.2.2.2.2.2.2.2.2.2.2.2.2.2.2.2.1 c).2.2.2.1 (wi_iald8000 fLaw_law_383 ((h.2.2 c185).2.2.2.2.2.2.2.2.2.2.2.2.2.2.2.2.2.1 c).2.2.2.2.1 ((h.2.2 c185).2.2.2.2.2.2.2.2.2.2.2.2.2.2.2.2.2.1 c).2.2.2.2.2.1 (wi_call3 fLaw_law_384 (Nat.le_of_ble_eq_true rfl) (k_Moon_grow ((h.2.2 c185).2.2.2.2.2.2.2.2.2.2.2.2.2.2.2.2.2.1 c).2.2.2.2.2.2.1 (fun y71 τ72 eτ72 => (wi_pop_i fLaw_law_385 (wi_aload2 fLaw_law_386 (wi_aload0 fLaw_law_387 (wi_iload3 fLaw_law_388 (wi_bipush fLaw_law_389 (wi_iadd fLaw_law_390 ((h.2.2 c185).2.2.2.2.2.2.2.2.2.2.2.2.2.2.2.2.2.1 c).1 (wi_iald8000 fLaw_law_391 ((h.2.2 c185).2.2.2.2.2.2.2.2.2.2.2.2.2.2.2.2.2.1 c).2.1 ((h.2.2 c185).2.2.2.2.2.2.2.2.2.2.2.2.2.2.2.2.2.1 c).2.2.1 (wi_aload0 fLaw_law_392 (wi_iload3 fLaw_law_393 (wi_bipush fLaw_law_394 (wi_iadd fLaw_law_395 ((h.2.2 c185).2.2.2.2.2.2.2.2.2.2.2.2.2.2.2.2.2.1 c).2.2.2.1 (wi_iald8000 fLaw_law_396 ((h.2.2 c185).2.2.2.2.2.2.2.2.2.2.2.2.2.2.2.2.2.1 c).2.2.2.2.1 ((h.2.2 c185).2.2.2.2.2.2.2.2.2.2.2.2.2.2.2.2.2.1 c).2.2.2.2.2.1 (wi_call3 fLaw_law_397 (Nat.le_of_ble_eq_true rfl) (k_Model_grow (((h.2.2 c185).2.2.2.2.2.2.2.2.2.2.2.2.2.2.2.2.2.1 c).2.2.2.2.2.2.2 y71 τ72 eτ72).1 (fun y73 τ74 eτ74 => (wi_pop_i fLaw_law_398 (wi_goto fLaw_law_399 (wi_iinc3 fLaw_law_1000 trivial ((((h.2.2 c185).2.2.2.2.2.2.2.2.2.2.2.2.2.2.2.2.2.1 c).2.2.2.2.2.2.2 y71 τ72 eτ72).2 y73 τ74 eτ74).1 (wi_goto fLaw_law_1001 ((((h.2.2 c185).2.2.2.2.2.2.2.2.2.2.2.2.2.2.2.2.2.1 c).2.2.2.2.2.2.2 y71 τ72 eτ72).2 y73 τ74 eτ74).2)))))))))))))))))))))))))))))))))) (fun c => (wi_aload1 fLaw_law_400 (wi_aload0 fLaw_law_401 (wi_iload3 fLaw_law_402 (wi_bipush fLaw_law_403 (wi_iadd fLaw_law_404 ((h.2.2 c185).2.2.2.2.2.2.2.2.2.2.2.2.2.2.2.2.2.2.1 c).1 (wi_iald8000 fLaw_law_405 ((h.2.2 c185).2.2.2.2.2.2.2.2.2.2.2.2.2.2.2.2.2.2.1 c).2.1 ((h.2.2 c185).2.2.2.2.2.2.2.2.2.2.2.2.2.2.2.2.2.2.1 c).2.2.1 (wi_call2 fLaw_law_406 (Nat.le_of_ble_eq_true rfl) (k_Moon_go ((h.2.2 c185).2.2.2.2.2.2.2.2.2.2.2.2.2.2.2.2.2.2.1 c).2.2.2.1 (fun y75 τ76 eτ76 => (wi_pop_i fLaw_law_407 (wi_aload2 fLaw_law_408 (wi_aload0 fLaw_law_409 (wi_iload3 fLaw_law_410 (wi_bipush fLaw_law_411 (wi_iadd fLaw_law_412 ((h.2.2 c185).2.2.2.2.2.2.2.2.2.2.2.2.2.2.2.2.2.2.1 c).1 (wi_iald8000 fLaw_law_413 ((h.2.2 c185).2.2.2.2.2.2.2.2.2.2.2.2.2.2.2.2.2.2.1 c).2.1 ((h.2.2 c185).2.2.2.2.2.2.2.2.2.2.2.2.2.2.2.2.2.2.1 c).2.2.1 (wi_call2 fLaw_law_414 (Nat.le_of_ble_eq_true rfl) (k_Model_go (((h.2.2 c185).2.2.2.2.2.2.2.2.2.2.2.2.2.2.2.2.2.2.1 c).2.2.2.2 y75 τ76 eτ76).1 (fun y77 τ78 eτ78 => (wi_pop_i fLaw_law_415 (wi_goto fLaw_law_416 (wi_iinc3 fLaw_law_1000 trivial ((((h.2.2 c185).2.2.2.2.2.2.2.2.2.2.2.2.2.2.2.2.2.2.1 c).2.2.2.2 y75 τ76 eτ76).2 y77 τ78 eτ78).1 (wi_goto fLaw_law_1001 ((((h.2.2 c185).2.2.2.2.2.2.2.2.2.2.2.2.2.2.2.2.2.2.1 c).2.2.2.2 y75 τ76 eτ76).2 y77 τ78 eτ78).2)))))))))))))))))))))))) (fun c => (wi_aload1 fLaw_law_417 (wi_aload0 fLaw_law_418 (wi_iload3 fLaw_law_419 (wi_bipush fLaw_law_420 (wi_iadd fLaw_law_421 ((h.2.2 c185).2.2.2.2.2.2.2.2.2.2.2.2.2.2.2.2.2.2.2.1 c).1 (wi_iald8000 fLaw_law_422 ((h.2.2 c185).2.2.2.2.2.2.2.2.2.2.2.2.2.2.2.2.2.2.2.1 c).2.1 ((h.2.2 c185).2.2.2.2.2.2.2.2.2.2.2.2.2.2.2.2.2.2.2.1 c).2.2.1 (wi_aload0 fLaw_law_423 (wi_iload3 fLaw_law_424 (wi_bipush fLaw_law_425 (wi_iadd fLaw_law_426 ((h.2.2 c185).2.2.2.2.2.2.2.2.2.2.2.2.2.2.2.2.2.2.2.1 c).2.2.2.1 (wi_iald8000 fLaw_law_427 ((h.2.2 c185).2.2.2.2.2.2.2.2.2.2.2.2.2.2.2.2.2.2.2.1 c).2.2.2.2.1 ((h.2.2 c185).2.2.2.2.2.2.2.2.2.2.2.2.2.2.2.2.2.2.2.1 c).2.2.2.2.2.1 (wi_aload0 fLaw_law_428 (wi_iload3 fLaw_law_429 (wi_bipush fLaw_law_430 (wi_iadd fLaw_law_431 ((h.2.2 c185).2.2.2.2.2.2.2.2.2.2.2.2.2.2.2.2.2.2.2.1 c).2.2.2.2.2.2.1 (wi_iald8000 fLaw_law_432 ((h.2.2 c185).2.2.2.2.2.2.2.2.2.2.2.2.2.2.2.2.2.2.2.1 c).2.2.2.2.2.2.2.1 ((h.2.2 c185).2.2.2.2.2.2.2.2.2.2.2.2.2.2.2.2.2.2.2.1 c).2.2.2.2.2.2.2.2.1 (wi_call4 fLaw_law_433 (Nat.le_of_ble_eq_true rfl) (k_Moon_ahead ((h.2.2 c185).2.2.2.2.2.2.2.2.2.2.2.2.2.2.2.2.2.2.2.1 c).2.2.2.2.2.2.2.2.2.1 (fun y79 τ80 eτ80 => (wi_pop_i fLaw_law_434 (wi_aload2 fLaw_law_435 (wi_aload0 fLaw_law_436 (wi_iload3 fLaw_law_437 (wi_bipush fLaw_law_438 (wi_iadd fLaw_law_439 ((h.2.2 c185).2.2.2.2.2.2.2.2.2.2.2.2.2.2.2.2.2.2.2.1 c).1 (wi_iald8000 fLaw_law_440 ((h.2.2 c185).2.2.2.2.2.2.2.2.2.2.2.2.2.2.2.2.2.2.2.1 c).2.1 ((h.2.2 c185).2.2.2.2.2.2.2.2.2.2.2.2.2.2.2.2.2.2.2.1 c).2.2.1 (wi_aload0 fLaw_law_441 (wi_iload3 fLaw_law_442 (wi_bipush fLaw_law_443 (wi_iadd fLaw_law_444 ((h.2.2 c185).2.2.2.2.2.2.2.2.2.2.2.2.2.2.2.2.2.2.2.1 c).2.2.2.1 (wi_iald8000 fLaw_law_445 ((h.2.2 c185).2.2.2.2.2.2.2.2.2.2.2.2.2.2.2.2.2.2.2.1 c).2.2.2.2.1 ((h.2.2 c185).2.2.2.2.2.2.2.2.2.2.2.2.2.2.2.2.2.2.2.1 c).2.2.2.2.2.1 (wi_aload0 fLaw_law_446 (wi_iload3 fLaw_law_447 (wi_bipush fLaw_law_448 (wi_iadd fLaw_law_449 ((h.2.2 c185).2.2.2.2.2.2.2.2.2.2.2.2.2.2.2.2.2.2.2.1 c).2.2.2.2.2.2.1 (wi_iald8000 fLaw_law_450 ((h.2.2 c185).2.2.2.2.2.2.2.2.2.2.2.2.2.2.2.2.2.2.2.1 c).2.2.2.2.2.2.2.1 ((h.2.2 c185).2.2.2.2.2.2.2.2.2.2.2.2.2.2.2.2.2.2.2.1 c).2.2.2.2.2.2.2.2.1 (wi_call4 fLaw_law_451 (Nat.le_of_ble_eq_true rfl) (k_Model_ahead (((h.2.2 c185).2.2.2.2.2.2.2.2.2.2.2.2.2.2.2.2.2.2.2.1 c).2.2.2.2.2.2.2.2.2.2 y79 τ80 eτ80).1 (fun y81 τ82 eτ82 => (wi_pop_i fLaw_law_452 (wi_goto fLaw_law_453 (wi_iinc3 fLaw_law_1000 trivial ((((h.2.2 c185).2.2.2.2.2.2.2.2.2.2.2.2.2.2.2.2.2.2.2.1 c).2.2.2.2.2.2.2.2.2.2 y79 τ80 eτ80).2 y81 τ82 eτ82).1 (wi_goto fLaw_law_1001 ((((h.2.2 c185).2.2.2.2.2.2.2.2.2.2.2.2.2.2.2.2.2.2.2.1 c).2.2.2.2.2.2.2.2.2.2 y79 τ80 eτ80).2 y81 τ82 eτ82).2)))))))))))))))))))))))))))))))))))))))))))) (fun c => (wi_aload1 fLaw_law_454 (wi_aload0 fLaw_law_455 (wi_iload3 fLaw_law_456 (wi_bipush fLaw_law_457 (wi_iadd fLaw_law_458 ((h.2.2 c185).2.2.2.2.2.2.2.2.2.2.2.2.2.2.2.2.2.2.2.2.1 c).1 (wi_iald8000 fLaw_law_459 ((h.2.2 c185).2.2.2.2.2.2.2.2.2.2.2.2.2.2.2.2.2.2.2.2.1 c).2.1 ((h.2.2 c185).2.2.2.2.2.2.2.2.2.2.2.2.2.2.2.2.2.2.2.2.1 c).2.2.1 (wi_aload0 fLaw_law_460 (wi_iload3 fLaw_law_461 (wi_bipush fLaw_law_462 (wi_iadd fLaw_law_463 ((h.2.2 c185).2.2.2.2.2.2.2.2.2.2.2.2.2.2.2.2.2.2.2.2.1 c).2.2.2.1 (wi_iald8000 fLaw_law_464 ((h.2.2 c185).2.2.2.2.2.2.2.2.2.2.2.2.2.2.2.2.2.2.2.2.1 c).2.2.2.2.1 ((h.2.2 c185).2.2.2.2.2.2.2.2.2.2.2.2.2.2.2.2.2.2.2.2.1 c).2.2.2.2.2.1 (wi_call3 fLaw_law_465 (Nat.le_of_ble_eq_true rfl) (k_Moon_stands ((h.2.2 c185).2.2.2.2.2.2.2.2.2.2.2.2.2.2.2.2.2.2.2.2.1 c).2.2.2.2.2.2.1 (fun y83 τ84 eτ84 => (wi_pop_i fLaw_law_466 (wi_aload2 fLaw_law_467 (wi_aload0 fLaw_law_468 (wi_iload3 fLaw_law_469 (wi_bipush fLaw_law_470 (wi_iadd fLaw_law_471 ((h.2.2 c185).2.2.2.2.2.2.2.2.2.2.2.2.2.2.2.2.2.2.2.2.1 c).1 (wi_iald8000 fLaw_law_472 ((h.2.2 c185).2.2.2.2.2.2.2.2.2.2.2.2.2.2.2.2.2.2.2.2.1 c).2.1 ((h.2.2 c185).2.2.2.2.2.2.2.2.2.2.2.2.2.2.2.2.2.2.2.2.1 c).2.2.1 (wi_aload0 fLaw_law_473 (wi_iload3 fLaw_law_474 (wi_bipush fLaw_law_475 (wi_iadd fLaw_law_476 ((h.2.2 c185).2.2.2.2.2.2.2.2.2.2.2.2.2.2.2.2.2.2.2.2.1 c).2.2.2.1 (wi_iald8000 fLaw_law_477 ((h.2.2 c185).2.2.2.2.2.2.2.2.2.2.2.2.2.2.2.2.2.2.2.2.1 c).2.2.2.2.1 ((h.2.2 c185).2.2.2.2.2.2.2.2.2.2.2.2.2.2.2.2.2.2.2.2.1 c).2.2.2.2.2.1 (wi_call3 fLaw_law_478 (Nat.le_of_ble_eq_true rfl) (k_Model_stands (((h.2.2 c185).2.2.2.2.2.2.2.2.2.2.2.2.2.2.2.2.2.2.2.2.1 c).2.2.2.2.2.2.2 y83 τ84 eτ84).1 (fun y85 τ86 eτ86 => (wi_pop_i fLaw_law_479 (wi_goto fLaw_law_480 (wi_iinc3 fLaw_law_1000 trivial ((((h.2.2 c185).2.2.2.2.2.2.2.2.2.2.2.2.2.2.2.2.2.2.2.2.1 c).2.2.2.2.2.2.2 y83 τ84 eτ84).2 y85 τ86 eτ86).1 (wi_goto fLaw_law_1001 ((((h.2.2 c185).2.2.2.2.2.2.2.2.2.2.2.2.2.2.2.2.2.2.2.2.1 c).2.2.2.2.2.2.2 y83 τ84 eτ84).2 y85 τ86 eτ86).2)))))))))))))))))))))))))))))))))) (fun c => (wi_aload1 fLaw_law_481 (wi_aload0 fLaw_law_482 (wi_iload3 fLaw_law_483 (wi_bipush fLaw_law_484 (wi_iadd fLaw_law_485 ((h.2.2 c185).2.2.2.2.2.2.2.2.2.2.2.2.2.2.2.2.2.2.2.2.2.1 c).1 (wi_iald8000 fLaw_law_486 ((h.2.2 c185).2.2.2.2.2.2.2.2.2.2.2.2.2.2.2.2.2.2.2.2.2.1 c).2.1 ((h.2.2 c185).2.2.2.2.2.2.2.2.2.2.2.2.2.2.2.2.2.2.2.2.2.1 c).2.2.1 (wi_call2 fLaw_law_487 (Nat.le_of_ble_eq_true rfl) (k_Moon_done ((h.2.2 c185).2.2.2.2.2.2.2.2.2.2.2.2.2.2.2.2.2.2.2.2.2.1 c).2.2.2.1 (fun y87 τ88 eτ88 => (wi_pop_i fLaw_law_488 (wi_aload2 fLaw_law_489 (wi_aload0 fLaw_law_490 (wi_iload3 fLaw_law_491 (wi_bipush fLaw_law_492 (wi_iadd fLaw_law_493 ((h.2.2 c185).2.2.2.2.2.2.2.2.2.2.2.2.2.2.2.2.2.2.2.2.2.1 c).1 (wi_iald8000 fLaw_law_494 ((h.2.2 c185).2.2.2.2.2.2.2.2.2.2.2.2.2.2.2.2.2.2.2.2.2.1 c).2.1 ((h.2.2 c185).2.2.2.2.2.2.2.2.2.2.2.2.2.2.2.2.2.2.2.2.2.1 c).2.2.1 (wi_call2 fLaw_law_495 (Nat.le_of_ble_eq_true rfl) (k_Model_done (((h.2.2 c185).2.2.2.2.2.2.2.2.2.2.2.2.2.2.2.2.2.2.2.2.2.1 c).2.2.2.2 y87 τ88 eτ88).1 (fun y89 τ90 eτ90 => (wi_pop_i fLaw_law_496 (wi_goto fLaw_law_497 (wi_iinc3 fLaw_law_1000 trivial ((((h.2.2 c185).2.2.2.2.2.2.2.2.2.2.2.2.2.2.2.2.2.2.2.2.2.1 c).2.2.2.2 y87 τ88 eτ88).2 y89 τ90 eτ90).1 (wi_goto fLaw_law_1001 ((((h.2.2 c185).2.2.2.2.2.2.2.2.2.2.2.2.2.2.2.2.2.2.2.2.2.1 c).2.2.2.2 y87 τ88 eτ88).2 y89 τ90 eτ90).2)))))))))))))))))))))))) (fun c => (wi_aload1 fLaw_law_498 (wi_call1 fLaw_law_499 (Nat.le_of_ble_eq_true rfl) (k_Moon_left ((h.2.2 c185).2.2.2.2.2.2.2.2.2.2.2.2.2.2.2.2.2.2.2.2.2.2.1 c).1 (fun y91 τ92 eτ92 => (wi_pop_i fLaw_law_500 (wi_aload2 fLaw_law_501 (wi_call1 fLaw_law_502 (Nat.le_of_ble_eq_true rfl) (k_Model_left (((h.2.2 c185).2.2.2.2.2.2.2.2.2.2.2.2.2.2.2.2.2.2.2.2.2.2.1 c).2 y91 τ92 eτ92).1 (fun y93 τ94 eτ94 => (wi_pop_i fLaw_law_503 (wi_goto fLaw_law_504 (wi_iinc3 fLaw_law_1000 trivial ((((h.2.2 c185).2.2.2.2.2.2.2.2.2.2.2.2.2.2.2.2.2.2.2.2.2.2.1 c).2 y91 τ92 eτ92).2 y93 τ94 eτ94).1 (wi_goto fLaw_law_1001 ((((h.2.2 c185).2.2.2.2.2.2.2.2.2.2.2.2.2.2.2.2.2.2.2.2.2.2.1 c).2 y91 τ92 eτ92).2 y93 τ94 eτ94).2)))))))))))))) (fun c => (wi_aload1 fLaw_law_505 (wi_aload0 fLaw_law_506 (wi_iload3 fLaw_law_507 (wi_bipush fLaw_law_508 (wi_iadd fLaw_law_509 ((h.2.2 c185).2.2.2.2.2.2.2.2.2.2.2.2.2.2.2.2.2.2.2.2.2.2.2.1 c).1 (wi_iald8000 fLaw_law_510 ((h.2.2 c185).2.2.2.2.2.2.2.2.2.2.2.2.2.2.2.2.2.2.2.2.2.2.2.1 c).2.1 ((h.2.2 c185).2.2.2.2.2.2.2.2.2.2.2.2.2.2.2.2.2.2.2.2.2.2.2.1 c).2.2.1 (wi_call2 fLaw_law_511 (Nat.le_of_ble_eq_true rfl) (k_Moon_begin ((h.2.2 c185).2.2.2.2.2.2.2.2.2.2.2.2.2.2.2.2.2.2.2.2.2.2.2.1 c).2.2.2.1 (fun y95 τ96 eτ96 => (wi_pop_i fLaw_law_512 (wi_aload2 fLaw_law_513 (wi_aload0 fLaw_law_514 (wi_iload3 fLaw_law_515 (wi_bipush fLaw_law_516 (wi_iadd fLaw_law_517 ((h.2.2 c185).2.2.2.2.2.2.2.2.2.2.2.2.2.2.2.2.2.2.2.2.2.2.2.1 c).1 (wi_iald8000 fLaw_law_518 ((h.2.2 c185).2.2.2.2.2.2.2.2.2.2.2.2.2.2.2.2.2.2.2.2.2.2.2.1 c).2.1 ((h.2.2 c185).2.2.2.2.2.2.2.2.2.2.2.2.2.2.2.2.2.2.2.2.2.2.2.1 c).2.2.1 (wi_call2 fLaw_law_519 (Nat.le_of_ble_eq_true rfl) (k_Model_begin (((h.2.2 c185).2.2.2.2.2.2.2.2.2.2.2.2.2.2.2.2.2.2.2.2.2.2.2.1 c).2.2.2.2 y95 τ96 eτ96).1 (fun y97 τ98 eτ98 => (wi_pop_i fLaw_law_520 (wi_goto fLaw_law_521 (wi_iinc3 fLaw_law_1000 trivial ((((h.2.2 c185).2.2.2.2.2.2.2.2.2.2.2.2.2.2.2.2.2.2.2.2.2.2.2.1 c).2.2.2.2 y95 τ96 eτ96).2 y97 τ98 eτ98).1 (wi_goto fLaw_law_1001 ((((h.2.2 c185).2.2.2.2.2.2.2.2.2.2.2.2.2.2.2.2.2.2.2.2.2.2.2.1 c).2.2.2.2 y95 τ96 eτ96).2 y97 τ98 eτ98).2)))))))))))))))))))))))) (fun c => (wi_aload1 fLaw_law_522 (wi_aload0 fLaw_law_523 (wi_iload3 fLaw_law_524 (wi_bipush fLaw_law_525 (wi_iadd fLaw_law_526 ((h.2.2 c185).2.2.2.2.2.2.2.2.2.2.2.2.2.2.2.2.2.2.2.2.2.2.2.2.1 c).1 (wi_iald8000 fLaw_law_527 ((h.2.2 c185).2.2.2.2.2.2.2.2.2.2.2.2.2.2.2.2.2.2.2.2.2.2.2.2.1 c).2.1 ((h.2.2 c185).2.2.2.2.2.2.2.2.2.2.2.2.2.2.2.2.2.2.2.2.2.2.2.2.1 c).2.2.1 (wi_aload0 fLaw_law_528 (wi_iload3 fLaw_law_529 (wi_bipush fLaw_law_530 (wi_iadd fLaw_law_531 ((h.2.2 c185).2.2.2.2.2.2.2.2.2.2.2.2.2.2.2.2.2.2.2.2.2.2.2.2.1 c).2.2.2.1 (wi_iald8000 fLaw_law_532 ((h.2.2 c185).2.2.2.2.2.2.2.2.2.2.2.2.2.2.2.2.2.2.2.2.2.2.2.2.1 c).2.2.2.2.1 ((h.2.2 c185).2.2.2.2.2.2.2.2.2.2.2.2.2.2.2.2.2.2.2.2.2.2.2.2.1 c).2.2.2.2.2.1 (wi_call3 fLaw_law_533 (Nat.le_of_ble_eq_true rfl) (k_Moon_best ((h.2.2 c185).2.2.2.2.2.2.2.2.2.2.2.2.2.2.2.2.2.2.2.2.2.2.2.2.1 c).2.2.2.2.2.2.1 (fun y99 τ100 eτ100 => (wi_pop_i fLaw_law_534 (wi_aload2 fLaw_law_535 (wi_aload0 fLaw_law_536 (wi_iload3 fLaw_law_537 (wi_bipush fLaw_law_538 (wi_iadd fLaw_law_539 ((h.2.2 c185).2.2.2.2.2.2.2.2.2.2.2.2.2.2.2.2.2.2.2.2.2.2.2.2.1 c).1 (wi_iald8000 fLaw_law_540 ((h.2.2 c185).2.2.2.2.2.2.2.2.2.2.2.2.2.2.2.2.2.2.2.2.2.2.2.2.1 c).2.1 ((h.2.2 c185).2.2.2.2.2.2.2.2.2.2.2.2.2.2.2.2.2.2.2.2.2.2.2.2.1 c).2.2.1 (wi_aload0 fLaw_law_541 (wi_iload3 fLaw_law_542 (wi_bipush fLaw_law_543 (wi_iadd fLaw_law_544 ((h.2.2 c185).2.2.2.2.2.2.2.2.2.2.2.2.2.2.2.2.2.2.2.2.2.2.2.2.1 c).2.2.2.1 (wi_iald8000 fLaw_law_545 ((h.2.2 c185).2.2.2.2.2.2.2.2.2.2.2.2.2.2.2.2.2.2.2.2.2.2.2.2.1 c).2.2.2.2.1 ((h.2.2 c185).2.2.2.2.2.2.2.2.2.2.2.2.2.2.2.2.2.2.2.2.2.2.2.2.1 c).2.2.2.2.2.1 (wi_call3 fLaw_law_546 (Nat.le_of_ble_eq_true rfl) (k_Model_best (((h.2.2 c185).2.2.2.2.2.2.2.2.2.2.2.2.2.2.2.2.2.2.2.2.2.2.2.2.1 c).2.2.2.2.2.2.2 y99 τ100 eτ100).1 (fun y101 τ102 eτ102 => (wi_pop_i fLaw_law_547 (wi_goto fLaw_law_548 (wi_iinc3 fLaw_law_1000 trivial ((((h.2.2 c185).2.2.2.2.2.2.2.2.2.2.2.2.2.2.2.2.2.2.2.2.2.2.2.2.1 c).2.2.2.2.2.2.2 y99 τ100 eτ100).2 y101 τ102 eτ102).1 (wi_goto fLaw_law_1001 ((((h.2.2 c185).2.2.2.2.2.2.2.2.2.2.2.2.2.2.2.2.2.2.2.2.2.2.2.2.1 c).2.2.2.2.2.2.2 y99 τ100 eτ100).2 y101 τ102 eτ102).2)))))))))))))))))))))))))))))))))) (fun c => (wi_aload1 fLaw_law_549 (wi_aload0 fLaw_law_550 (wi_iload3 fLaw_law_551 (wi_bipush fLaw_law_552 (wi_iadd fLaw_law_553 ((h.2.2 c185).2.2.2.2.2.2.2.2.2.2.2.2.2.2.2.2.2.2.2.2.2.2.2.2.2.1 c).1 (wi_iald8000 fLaw_law_554 ((h.2.2 c185).2.2.2.2.2.2.2.2.2.2.2.2.2.2.2.2.2.2.2.2.2.2.2.2.2.1 c).2.1 ((h.2.2 c185).2.2.2.2.2.2.2.2.2.2.2.2.2.2.2.2.2.2.2.2.2.2.2.2.2.1 c).2.2.1 (wi_call2 fLaw_law_555 (Nat.le_of_ble_eq_true rfl) (k_Moon_oil ((h.2.2 c185).2.2.2.2.2.2.2.2.2.2.2.2.2.2.2.2.2.2.2.2.2.2.2.2.2.1 c).2.2.2.1 (fun y103 τ104 eτ104 => (wi_pop_i fLaw_law_556 (wi_aload2 fLaw_law_557 (wi_aload0 fLaw_law_558 (wi_iload3 fLaw_law_559 (wi_bipush fLaw_law_560 (wi_iadd fLaw_law_561 ((h.2.2 c185).2.2.2.2.2.2.2.2.2.2.2.2.2.2.2.2.2.2.2.2.2.2.2.2.2.1 c).1 (wi_iald8000 fLaw_law_562 ((h.2.2 c185).2.2.2.2.2.2.2.2.2.2.2.2.2.2.2.2.2.2.2.2.2.2.2.2.2.1 c).2.1 ((h.2.2 c185).2.2.2.2.2.2.2.2.2.2.2.2.2.2.2.2.2.2.2.2.2.2.2.2.2.1 c).2.2.1 (wi_call2 fLaw_law_563 (Nat.le_of_ble_eq_true rfl) (k_Model_oil (((h.2.2 c185).2.2.2.2.2.2.2.2.2.2.2.2.2.2.2.2.2.2.2.2.2.2.2.2.2.1 c).2.2.2.2 y103 τ104 eτ104).1 (fun y105 τ106 eτ106 => (wi_pop_i fLaw_law_564 (wi_goto fLaw_law_565 (wi_iinc3 fLaw_law_1000 trivial ((((h.2.2 c185).2.2.2.2.2.2.2.2.2.2.2.2.2.2.2.2.2.2.2.2.2.2.2.2.2.1 c).2.2.2.2 y103 τ104 eτ104).2 y105 τ106 eτ106).1 (wi_goto fLaw_law_1001 ((((h.2.2 c185).2.2.2.2.2.2.2.2.2.2.2.2.2.2.2.2.2.2.2.2.2.2.2.2.2.1 c).2.2.2.2 y103 τ104 eτ104).2 y105 τ106 eτ106).2)))))))))))))))))))))))) (fun c => (wi_aload1 fLaw_law_566 (wi_aload0 fLaw_law_567 (wi_iload3 fLaw_law_568 (wi_bipush fLaw_law_569 (wi_iadd fLaw_law_570 ((h.2.2 c185).2.2.2.2.2.2.2.2.2.2.2.2.2.2.2.2.2.2.2.2.2.2.2.2.2.2.1 c).1 (wi_iald8000 fLaw_law_571 ((h.2.2 c185).2.2.2.2.2.2.2.2.2.2.2.2.2.2.2.2.2.2.2.2.2.2.2.2.2.2.1 c).2.1 ((h.2.2 c185).2.2.2.2.2.2.2.2.2.2.2.2.2.2.2.2.2.2.2.2.2.2.2.2.2.2.1 c).2.2.1 (wi_call2 fLaw_law_572 (Nat.le_of_ble_eq_true rfl) (k_Moon_least ((h.2.2 c185).2.2.2.2.2.2.2.2.2.2.2.2.2.2.2.2.2.2.2.2.2.2.2.2.2.2.1 c).2.2.2.1 (fun y107 τ108 eτ108 => (wi_pop_i fLaw_law_573 (wi_aload2 fLaw_law_574 (wi_aload0 fLaw_law_575 (wi_iload3 fLaw_law_576 (wi_bipush fLaw_law_577 (wi_iadd fLaw_law_578 ((h.2.2 c185).2.2.2.2.2.2.2.2.2.2.2.2.2.2.2.2.2.2.2.2.2.2.2.2.2.2.1 c).1 (wi_iald8000 fLaw_law_579 ((h.2.2 c185).2.2.2.2.2.2.2.2.2.2.2.2.2.2.2.2.2.2.2.2.2.2.2.2.2.2.1 c).2.1 ((h.2.2 c185).2.2.2.2.2.2.2.2.2.2.2.2.2.2.2.2.2.2.2.2.2.2.2.2.2.2.1 c).2.2.1 (wi_call2 fLaw_law_580 (Nat.le_of_ble_eq_true rfl) (k_Model_least (((h.2.2 c185).2.2.2.2.2.2.2.2.2.2.2.2.2.2.2.2.2.2.2.2.2.2.2.2.2.2.1 c).2.2.2.2 y107 τ108 eτ108).1 (fun y109 τ110 eτ110 => (wi_pop_i fLaw_law_581 (wi_goto fLaw_law_582 (wi_iinc3 fLaw_law_1000 trivial ((((h.2.2 c185).2.2.2.2.2.2.2.2.2.2.2.2.2.2.2.2.2.2.2.2.2.2.2.2.2.2.1 c).2.2.2.2 y107 τ108 eτ108).2 y109 τ110 eτ110).1 (wi_goto fLaw_law_1001 ((((h.2.2 c185).2.2.2.2.2.2.2.2.2.2.2.2.2.2.2.2.2.2.2.2.2.2.2.2.2.2.1 c).2.2.2.2 y107 τ108 eτ108).2 y109 τ110 eτ110).2)))))))))))))))))))))))) (fun c => (wi_aload1 fLaw_law_583 (wi_aload0 fLaw_law_584 (wi_iload3 fLaw_law_585 (wi_bipush fLaw_law_586 (wi_iadd fLaw_law_587 ((h.2.2 c185).2.2.2.2.2.2.2.2.2.2.2.2.2.2.2.2.2.2.2.2.2.2.2.2.2.2.2.1 c).1 (wi_iald8000 fLaw_law_588 ((h.2.2 c185).2.2.2.2.2.2.2.2.2.2.2.2.2.2.2.2.2.2.2.2.2.2.2.2.2.2.2.1 c).2.1 ((h.2.2 c185).2.2.2.2.2.2.2.2.2.2.2.2.2.2.2.2.2.2.2.2.2.2.2.2.2.2.2.1 c).2.2.1 (wi_aload0 fLaw_law_589 (wi_iload3 fLaw_law_590 (wi_bipush fLaw_law_591 (wi_iadd fLaw_law_592 ((h.2.2 c185).2.2.2.2.2.2.2.2.2.2.2.2.2.2.2.2.2.2.2.2.2.2.2.2.2.2.2.1 c).2.2.2.1 (wi_iald8000 fLaw_law_593 ((h.2.2 c185).2.2.2.2.2.2.2.2.2.2.2.2.2.2.2.2.2.2.2.2.2.2.2.2.2.2.2.1 c).2.2.2.2.1 ((h.2.2 c185).2.2.2.2.2.2.2.2.2.2.2.2.2.2.2.2.2.2.2.2.2.2.2.2.2.2.2.1 c).2.2.2.2.2.1 (wi_call3 fLaw_law_594 (Nat.le_of_ble_eq_true rfl) (k_Moon_luck ((h.2.2 c185).2.2.2.2.2.2.2.2.2.2.2.2.2.2.2.2.2.2.2.2.2.2.2.2.2.2.2.1 c).2.2.2.2.2.2.1 (fun y111 τ112 eτ112 => (wi_pop2 fLaw_law_595 (wi_aload2 fLaw_law_596 (wi_aload0 fLaw_law_597 (wi_iload3 fLaw_law_598 (wi_bipush fLaw_law_599 (wi_iadd fLaw_law_600 ((h.2.2 c185).2.2.2.2.2.2.2.2.2.2.2.2.2.2.2.2.2.2.2.2.2.2.2.2.2.2.2.1 c).1 (wi_iald8000 fLaw_law_601 ((h.2.2 c185).2.2.2.2.2.2.2.2.2.2.2.2.2.2.2.2.2.2.2.2.2.2.2.2.2.2.2.1 c).2.1 ((h.2.2 c185).2.2.2.2.2.2.2.2.2.2.2.2.2.2.2.2.2.2.2.2.2.2.2.2.2.2.2.1 c).2.2.1 (wi_aload0 fLaw_law_602 (wi_iload3 fLaw_law_603 (wi_bipush fLaw_law_604 (wi_iadd fLaw_law_605 ((h.2.2 c185).2.2.2.2.2.2.2.2.2.2.2.2.2.2.2.2.2.2.2.2.2.2.2.2.2.2.2.1 c).2.2.2.1 (wi_iald8000 fLaw_law_606 ((h.2.2 c185).2.2.2.2.2.2.2.2.2.2.2.2.2.2.2.2.2.2.2.2.2.2.2.2.2.2.2.1 c).2.2.2.2.1 ((h.2.2 c185).2.2.2.2.2.2.2.2.2.2.2.2.2.2.2.2.2.2.2.2.2.2.2.2.2.2.2.1 c).2.2.2.2.2.1 (wi_call3 fLaw_law_607 (Nat.le_of_ble_eq_true rfl) (k_Model_luck (((h.2.2 c185).2.2.2.2.2.2.2.2.2.2.2.2.2.2.2.2.2.2.2.2.2.2.2.2.2.2.2.1 c).2.2.2.2.2.2.2 y111 τ112 eτ112).1 (fun y113 τ114 eτ114 => (wi_pop2 fLaw_law_608 (wi_goto fLaw_law_609 (wi_iinc3 fLaw_law_1000 trivial ((((h.2.2 c185).2.2.2.2.2.2.2.2.2.2.2.2.2.2.2.2.2.2.2.2.2.2.2.2.2.2.2.1 c).2.2.2.2.2.2.2 y111 τ112 eτ112).2 y113 τ114 eτ114).1 (wi_goto fLaw_law_1001 ((((h.2.2 c185).2.2.2.2.2.2.2.2.2.2.2.2.2.2.2.2.2.2.2.2.2.2.2.2.2.2.2.1 c).2.2.2.2.2.2.2 y111 τ112 eτ112).2 y113 τ114 eτ114).2)))))))))))))))))))))))))))))))))) (fun c => (wi_aload1 fLaw_law_610 (wi_aload0 fLaw_law_611 (wi_iload3 fLaw_law_612 (wi_bipush fLaw_law_613 (wi_iadd fLaw_law_614 ((h.2.2 c185).2.2.2.2.2.2.2.2.2.2.2.2.2.2.2.2.2.2.2.2.2.2.2.2.2.2.2.2.1 c).1 (wi_iald8000 fLaw_law_615 ((h.2.2 c185).2.2.2.2.2.2.2.2.2.2.2.2.2.2.2.2.2.2.2.2.2.2.2.2.2.2.2.2.1 c).2.1 ((h.2.2 c185).2.2.2.2.2.2.2.2.2.2.2.2.2.2.2.2.2.2.2.2.2.2.2.2.2.2.2.2.1 c).2.2.1 (wi_aload0 fLaw_law_616 (wi_iload3 fLaw_law_617 (wi_bipush fLaw_law_618 (wi_iadd fLaw_law_619 ((h.2.2 c185).2.2.2.2.2.2.2.2.2.2.2.2.2.2.2.2.2.2.2.2.2.2.2.2.2.2.2.2.1 c).2.2.2.1 (wi_iald8000 fLaw_law_620 ((h.2.2 c185).2.2.2.2.2.2.2.2.2.2.2.2.2.2.2.2.2.2.2.2.2.2.2.2.2.2.2.2.1 c).2.2.2.2.1 ((h.2.2 c185).2.2.2.2.2.2.2.2.2.2.2.2.2.2.2.2.2.2.2.2.2.2.2.2.2.2.2.2.1 c).2.2.2.2.2.1 (wi_aload0 fLaw_law_621 (wi_iload3 fLaw_law_622 (wi_bipush fLaw_law_623 (wi_iadd fLaw_law_624 ((h.2.2 c185).2.2.2.2.2.2.2.2.2.2.2.2.2.2.2.2.2.2.2.2.2.2.2.2.2.2.2.2.1 c).2.2.2.2.2.2.1 (wi_iald8000 fLaw_law_625 ((h.2.2 c185).2.2.2.2.2.2.2.2.2.2.2.2.2.2.2.2.2.2.2.2.2.2.2.2.2.2.2.2.1 c).2.2.2.2.2.2.2.1 ((h.2.2 c185).2.2.2.2.2.2.2.2.2.2.2.2.2.2.2.2.2.2.2.2.2.2.2.2.2.2.2.2.1 c).2.2.2.2.2.2.2.2.1 (wi_if_eq fLaw_law_626 (fun c123 => (wi_bipush fLaw_law_629 (wi_call4 fLaw_law_630 (Nat.le_of_ble_eq_true rfl) (k_Moon_see (((h.2.2 c185).2.2.2.2.2.2.2.2.2.2.2.2.2.2.2.2.2.2.2.2.2.2.2.2.2.2.2.2.1 c).2.2.2.2.2.2.2.2.2.1 c123).1 (fun y115 τ116 eτ116 => (wi_pop_i fLaw_law_631 (wi_aload2 fLaw_law_632 (wi_aload0 fLaw_law_633 (wi_iload3 fLaw_law_634 (wi_bipush fLaw_law_635 (wi_iadd fLaw_law_636 ((h.2.2 c185).2.2.2.2.2.2.2.2.2.2.2.2.2.2.2.2.2.2.2.2.2.2.2.2.2.2.2.2.1 c).1 (wi_iald8000 fLaw_law_637 ((h.2.2 c185).2.2.2.2.2.2.2.2.2.2.2.2.2.2.2.2.2.2.2.2.2.2.2.2.2.2.2.2.1 c).2.1 ((h.2.2 c185).2.2.2.2.2.2.2.2.2.2.2.2.2.2.2.2.2.2.2.2.2.2.2.2.2.2.2.2.1 c).2.2.1 (wi_aload0 fLaw_law_638 (wi_iload3 fLaw_law_639 (wi_bipush fLaw_law_640 (wi_iadd fLaw_law_641 ((h.2.2 c185).2.2.2.2.2.2.2.2.2.2.2.2.2.2.2.2.2.2.2.2.2.2.2.2.2.2.2.2.1 c).2.2.2.1 (wi_iald8000 fLaw_law_642 ((h.2.2 c185).2.2.2.2.2.2.2.2.2.2.2.2.2.2.2.2.2.2.2.2.2.2.2.2.2.2.2.2.1 c).2.2.2.2.1 ((h.2.2 c185).2.2.2.2.2.2.2.2.2.2.2.2.2.2.2.2.2.2.2.2.2.2.2.2.2.2.2.2.1 c).2.2.2.2.2.1 (wi_aload0 fLaw_law_643 (wi_iload3 fLaw_law_644 (wi_bipush fLaw_law_645 (wi_iadd fLaw_law_646 ((h.2.2 c185).2.2.2.2.2.2.2.2.2.2.2.2.2.2.2.2.2.2.2.2.2.2.2.2.2.2.2.2.1 c).2.2.2.2.2.2.1 (wi_iald8000 fLaw_law_647 ((h.2.2 c185).2.2.2.2.2.2.2.2.2.2.2.2.2.2.2.2.2.2.2.2.2.2.2.2.2.2.2.2.1 c).2.2.2.2.2.2.2.1 ((h.2.2 c185).2.2.2.2.2.2.2.2.2.2.2.2.2.2.2.2.2.2.2.2.2.2.2.2.2.2.2.2.1 c).2.2.2.2.2.2.2.2.1 (wi_if_eq fLaw_law_648 (fun _ => (wi_bipush fLaw_law_651 (wi_call4 fLaw_law_652 (Nat.le_of_ble_eq_true rfl) (k_Model_see ((((h.2.2 c185).2.2.2.2.2.2.2.2.2.2.2.2.2.2.2.2.2.2.2.2.2.2.2.2.2.2.2.2.1 c).2.2.2.2.2.2.2.2.2.1 c123).2 y115 τ116 eτ116).1 (fun y117 τ118 eτ118 => (wi_pop_i fLaw_law_653 (wi_goto fLaw_law_654 (wi_iinc3 fLaw_law_1000 trivial (((((h.2.2 c185).2.2.2.2.2.2.2.2.2.2.2.2.2.2.2.2.2.2.2.2.2.2.2.2.2.2.2.2.1 c).2.2.2.2.2.2.2.2.2.1 c123).2 y115 τ116 eτ116).2 y117 τ118 eτ118).1 (wi_goto fLaw_law_1001 (((((h.2.2 c185).2.2.2.2.2.2.2.2.2.2.2.2.2.2.2.2.2.2.2.2.2.2.2.2.2.2.2.2.1 c).2.2.2.2.2.2.2.2.2.1 c123).2 y115 τ116 eτ116).2 y117 τ118 eτ118).2))))))))) (fun e => absurd c123 (w_n_eq e))))))))))))))))))))))))) (fun c123 => (wi_bipush fLaw_law_627 (wi_goto fLaw_law_628 (wi_call4 fLaw_law_630 (Nat.le_of_ble_eq_true rfl) (k_Moon_see (((h.2.2 c185).2.2.2.2.2.2.2.2.2.2.2.2.2.2.2.2.2.2.2.2.2.2.2.2.2.2.2.2.1 c).2.2.2.2.2.2.2.2.2.2 c123).1 (fun y119 τ120 eτ120 => (wi_pop_i fLaw_law_631 (wi_aload2 fLaw_law_632 (wi_aload0 fLaw_law_633 (wi_iload3 fLaw_law_634 (wi_bipush fLaw_law_635 (wi_iadd fLaw_law_636 ((h.2.2 c185).2.2.2.2.2.2.2.2.2.2.2.2.2.2.2.2.2.2.2.2.2.2.2.2.2.2.2.2.1 c).1 (wi_iald8000 fLaw_law_637 ((h.2.2 c185).2.2.2.2.2.2.2.2.2.2.2.2.2.2.2.2.2.2.2.2.2.2.2.2.2.2.2.2.1 c).2.1 ((h.2.2 c185).2.2.2.2.2.2.2.2.2.2.2.2.2.2.2.2.2.2.2.2.2.2.2.2.2.2.2.2.1 c).2.2.1 (wi_aload0 fLaw_law_638 (wi_iload3 fLaw_law_639 (wi_bipush fLaw_law_640 (wi_iadd fLaw_law_641 ((h.2.2 c185).2.2.2.2.2.2.2.2.2.2.2.2.2.2.2.2.2.2.2.2.2.2.2.2.2.2.2.2.1 c).2.2.2.1 (wi_iald8000 fLaw_law_642 ((h.2.2 c185).2.2.2.2.2.2.2.2.2.2.2.2.2.2.2.2.2.2.2.2.2.2.2.2.2.2.2.2.1 c).2.2.2.2.1 ((h.2.2 c185).2.2.2.2.2.2.2.2.2.2.2.2.2.2.2.2.2.2.2.2.2.2.2.2.2.2.2.2.1 c).2.2.2.2.2.1 (wi_aload0 fLaw_law_643 (wi_iload3 fLaw_law_644 (wi_bipush fLaw_law_645 (wi_iadd fLaw_law_646 ((h.2.2 c185).2.2.2.2.2.2.2.2.2.2.2.2.2.2.2.2.2.2.2.2.2.2.2.2.2.2.2.2.1 c).2.2.2.2.2.2.1 (wi_iald8000 fLaw_law_647 ((h.2.2 c185).2.2.2.2.2.2.2.2.2.2.2.2.2.2.2.2.2.2.2.2.2.2.2.2.2.2.2.2.1 c).2.2.2.2.2.2.2.1 ((h.2.2 c185).2.2.2.2.2.2.2.2.2.2.2.2.2.2.2.2.2.2.2.2.2.2.2.2.2.2.2.2.1 c).2.2.2.2.2.2.2.2.1 (wi_if_eq fLaw_law_648 (fun e => absurd c123 (w_m_eq e)) (fun _ => (wi_bipush fLaw_law_649 (wi_goto fLaw_law_650 (wi_call4 fLaw_law_652 (Nat.le_of_ble_eq_true rfl) (k_Model_see ((((h.2.2 c185).2.2.2.2.2.2.2.2.2.2.2.2.2.2.2.2.2.2.2.2.2.2.2.2.2.2.2.2.1 c).2.2.2.2.2.2.2.2.2.2 c123).2 y119 τ120 eτ120).1 (fun y121 τ122 eτ122 => (wi_pop_i fLaw_law_653 (wi_goto fLaw_law_654 (wi_iinc3 fLaw_law_1000 trivial (((((h.2.2 c185).2.2.2.2.2.2.2.2.2.2.2.2.2.2.2.2.2.2.2.2.2.2.2.2.2.2.2.2.1 c).2.2.2.2.2.2.2.2.2.2 c123).2 y119 τ120 eτ120).2 y121 τ122 eτ122).1 (wi_goto fLaw_law_1001 (((((h.2.2 c185).2.2.2.2.2.2.2.2.2.2.2.2.2.2.2.2.2.2.2.2.2.2.2.2.2.2.2.2.1 c).2.2.2.2.2.2.2.2.2.2 c123).2 y119 τ120 eτ120).2 y121 τ122 eτ122).2)))))))))))))))))))))))))))))))))))))))))))))))))))) (fun c => (wi_aload1 fLaw_law_655 (wi_aload0 fLaw_law_656 (wi_iload3 fLaw_law_657 (wi_bipush fLaw_law_658 (wi_iadd fLaw_law_659 ((h.2.2 c185).2.2.2.2.2.2.2.2.2.2.2.2.2.2.2.2.2.2.2.2.2.2.2.2.2.2.2.2.2.1 c).1 (wi_iald8000 fLaw_law_660 ((h.2.2 c185).2.2.2.2.2.2.2.2.2.2.2.2.2.2.2.2.2.2.2.2.2.2.2.2.2.2.2.2.2.1 c).2.1 ((h.2.2 c185).2.2.2.2.2.2.2.2.2.2.2.2.2.2.2.2.2.2.2.2.2.2.2.2.2.2.2.2.2.1 c).2.2.1 (wi_call2 fLaw_law_661 (Nat.le_of_ble_eq_true rfl) (k_Moon_forget ((h.2.2 c185).2.2.2.2.2.2.2.2.2.2.2.2.2.2.2.2.2.2.2.2.2.2.2.2.2.2.2.2.2.1 c).2.2.2.1 (fun y124 τ125 eτ125 => (wi_pop_i fLaw_law_662 (wi_aload2 fLaw_law_663 (wi_aload0 fLaw_law_664 (wi_iload3 fLaw_law_665 (wi_bipush fLaw_law_666 (wi_iadd fLaw_law_667 ((h.2.2 c185).2.2.2.2.2.2.2.2.2.2.2.2.2.2.2.2.2.2.2.2.2.2.2.2.2.2.2.2.2.1 c).1 (wi_iald8000 fLaw_law_668 ((h.2.2 c185).2.2.2.2.2.2.2.2.2.2.2.2.2.2.2.2.2.2.2.2.2.2.2.2.2.2.2.2.2.1 c).2.1 ((h.2.2 c185).2.2.2.2.2.2.2.2.2.2.2.2.2.2.2.2.2.2.2.2.2.2.2.2.2.2.2.2.2.1 c).2.2.1 (wi_call2 fLaw_law_669 (Nat.le_of_ble_eq_true rfl) (k_Model_forget (((h.2.2 c185).2.2.2.2.2.2.2.2.2.2.2.2.2.2.2.2.2.2.2.2.2.2.2.2.2.2.2.2.2.1 c).2.2.2.2 y124 τ125 eτ125).1 (fun y126 τ127 eτ127 => (wi_pop_i fLaw_law_670 (wi_goto fLaw_law_671 (wi_iinc3 fLaw_law_1000 trivial ((((h.2.2 c185).2.2.2.2.2.2.2.2.2.2.2.2.2.2.2.2.2.2.2.2.2.2.2.2.2.2.2.2.2.1 c).2.2.2.2 y124 τ125 eτ125).2 y126 τ127 eτ127).1 (wi_goto fLaw_law_1001 ((((h.2.2 c185).2.2.2.2.2.2.2.2.2.2.2.2.2.2.2.2.2.2.2.2.2.2.2.2.2.2.2.2.2.1 c).2.2.2.2 y124 τ125 eτ125).2 y126 τ127 eτ127).2)))))))))))))))))))))))) (fun c => (wi_aload1 fLaw_law_672 (wi_aload0 fLaw_law_673 (wi_iload3 fLaw_law_674 (wi_bipush fLaw_law_675 (wi_iadd fLaw_law_676 ((h.2.2 c185).2.2.2.2.2.2.2.2.2.2.2.2.2.2.2.2.2.2.2.2.2.2.2.2.2.2.2.2.2.2.1 c).1 (wi_iald8000 fLaw_law_677 ((h.2.2 c185).2.2.2.2.2.2.2.2.2.2.2.2.2.2.2.2.2.2.2.2.2.2.2.2.2.2.2.2.2.2.1 c).2.1 ((h.2.2 c185).2.2.2.2.2.2.2.2.2.2.2.2.2.2.2.2.2.2.2.2.2.2.2.2.2.2.2.2.2.2.1 c).2.2.1 (wi_call2 fLaw_law_678 (Nat.le_of_ble_eq_true rfl) (k_Moon_hare ((h.2.2 c185).2.2.2.2.2.2.2.2.2.2.2.2.2.2.2.2.2.2.2.2.2.2.2.2.2.2.2.2.2.2.1 c).2.2.2.1 (fun y128 τ129 eτ129 => (wi_pop_i fLaw_law_679 (wi_aload2 fLaw_law_680 (wi_aload0 fLaw_law_681 (wi_iload3 fLaw_law_682 (wi_bipush fLaw_law_683 (wi_iadd fLaw_law_684 ((h.2.2 c185).2.2.2.2.2.2.2.2.2.2.2.2.2.2.2.2.2.2.2.2.2.2.2.2.2.2.2.2.2.2.1 c).1 (wi_iald8000 fLaw_law_685 ((h.2.2 c185).2.2.2.2.2.2.2.2.2.2.2.2.2.2.2.2.2.2.2.2.2.2.2.2.2.2.2.2.2.2.1 c).2.1 ((h.2.2 c185).2.2.2.2.2.2.2.2.2.2.2.2.2.2.2.2.2.2.2.2.2.2.2.2.2.2.2.2.2.2.1 c).2.2.1 (wi_call2 fLaw_law_686 (Nat.le_of_ble_eq_true rfl) (k_Model_hare (((h.2.2 c185).2.2.2.2.2.2.2.2.2.2.2.2.2.2.2.2.2.2.2.2.2.2.2.2.2.2.2.2.2.2.1 c).2.2.2.2 y128 τ129 eτ129).1 (fun y130 τ131 eτ131 => (wi_pop_i fLaw_law_687 (wi_goto fLaw_law_688 (wi_iinc3 fLaw_law_1000 trivial ((((h.2.2 c185).2.2.2.2.2.2.2.2.2.2.2.2.2.2.2.2.2.2.2.2.2.2.2.2.2.2.2.2.2.2.1 c).2.2.2.2 y128 τ129 eτ129).2 y130 τ131 eτ131).1 (wi_goto fLaw_law_1001 ((((h.2.2 c185).2.2.2.2.2.2.2.2.2.2.2.2.2.2.2.2.2.2.2.2.2.2.2.2.2.2.2.2.2.2.1 c).2.2.2.2 y128 τ129 eτ129).2 y130 τ131 eτ131).2)))))))))))))))))))))))) (fun c => (wi_aload1 fLaw_law_689 (wi_call1 fLaw_law_690 (Nat.le_of_ble_eq_true rfl) (k_Moon_runs ((h.2.2 c185).2.2.2.2.2.2.2.2.2.2.2.2.2.2.2.2.2.2.2.2.2.2.2.2.2.2.2.2.2.2.2.1 c).1 (fun y132 τ133 eτ133 => (wi_pop_i fLaw_law_691 (wi_aload2 fLaw_law_692 (wi_call1 fLaw_law_693 (Nat.le_of_ble_eq_true rfl) (k_Model_runs (((h.2.2 c185).2.2.2.2.2.2.2.2.2.2.2.2.2.2.2.2.2.2.2.2.2.2.2.2.2.2.2.2.2.2.2.1 c).2 y132 τ133 eτ133).1 (fun y134 τ135 eτ135 => (wi_pop_i fLaw_law_694 (wi_goto fLaw_law_695 (wi_iinc3 fLaw_law_1000 trivial ((((h.2.2 c185).2.2.2.2.2.2.2.2.2.2.2.2.2.2.2.2.2.2.2.2.2.2.2.2.2.2.2.2.2.2.2.1 c).2 y132 τ133 eτ133).2 y134 τ135 eτ135).1 (wi_goto fLaw_law_1001 ((((h.2.2 c185).2.2.2.2.2.2.2.2.2.2.2.2.2.2.2.2.2.2.2.2.2.2.2.2.2.2.2.2.2.2.2.1 c).2 y132 τ133 eτ133).2 y134 τ135 eτ135).2)))))))))))))) (fun c => (wi_aload1 fLaw_law_696 (wi_aload0 fLaw_law_697 (wi_iload3 fLaw_law_698 (wi_bipush fLaw_law_699 (wi_iadd fLaw_law_700 ((h.2.2 c185).2.2.2.2.2.2.2.2.2.2.2.2.2.2.2.2.2.2.2.2.2.2.2.2.2.2.2.2.2.2.2.2.1 c).1 (wi_iald8000 fLaw_law_701 ((h.2.2 c185).2.2.2.2.2.2.2.2.2.2.2.2.2.2.2.2.2.2.2.2.2.2.2.2.2.2.2.2.2.2.2.2.1 c).2.1 ((h.2.2 c185).2.2.2.2.2.2.2.2.2.2.2.2.2.2.2.2.2.2.2.2.2.2.2.2.2.2.2.2.2.2.2.2.1 c).2.2.1 (wi_aload0 fLaw_law_702 (wi_iload3 fLaw_law_703 (wi_bipush fLaw_law_704 (wi_iadd fLaw_law_705 ((h.2.2 c185).2.2.2.2.2.2.2.2.2.2.2.2.2.2.2.2.2.2.2.2.2.2.2.2.2.2.2.2.2.2.2.2.1 c).2.2.2.1 (wi_iald8000 fLaw_law_706 ((h.2.2 c185).2.2.2.2.2.2.2.2.2.2.2.2.2.2.2.2.2.2.2.2.2.2.2.2.2.2.2.2.2.2.2.2.1 c).2.2.2.2.1 ((h.2.2 c185).2.2.2.2.2.2.2.2.2.2.2.2.2.2.2.2.2.2.2.2.2.2.2.2.2.2.2.2.2.2.2.2.1 c).2.2.2.2.2.1 (wi_call3 fLaw_law_707 (Nat.le_of_ble_eq_true rfl) (k_Moon_look ((h.2.2 c185).2.2.2.2.2.2.2.2.2.2.2.2.2.2.2.2.2.2.2.2.2.2.2.2.2.2.2.2.2.2.2.2.1 c).2.2.2.2.2.2.1 (fun y136 τ137 eτ137 => (wi_pop_i fLaw_law_708 (wi_aload2 fLaw_law_709 (wi_aload0 fLaw_law_710 (wi_iload3 fLaw_law_711 (wi_bipush fLaw_law_712 (wi_iadd fLaw_law_713 ((h.2.2 c185).2.2.2.2.2.2.2.2.2.2.2.2.2.2.2.2.2.2.2.2.2.2.2.2.2.2.2.2.2.2.2.2.1 c).1 (wi_iald8000 fLaw_law_714 ((h.2.2 c185).2.2.2.2.2.2.2.2.2.2.2.2.2.2.2.2.2.2.2.2.2.2.2.2.2.2.2.2.2.2.2.2.1 c).2.1 ((h.2.2 c185).2.2.2.2.2.2.2.2.2.2.2.2.2.2.2.2.2.2.2.2.2.2.2.2.2.2.2.2.2.2.2.2.1 c).2.2.1 (wi_aload0 fLaw_law_715 (wi_iload3 fLaw_law_716 (wi_bipush fLaw_law_717 (wi_iadd fLaw_law_718 ((h.2.2 c185).2.2.2.2.2.2.2.2.2.2.2.2.2.2.2.2.2.2.2.2.2.2.2.2.2.2.2.2.2.2.2.2.1 c).2.2.2.1 (wi_iald8000 fLaw_law_719 ((h.2.2 c185).2.2.2.2.2.2.2.2.2.2.2.2.2.2.2.2.2.2.2.2.2.2.2.2.2.2.2.2.2.2.2.2.1 c).2.2.2.2.1 ((h.2.2 c185).2.2.2.2.2.2.2.2.2.2.2.2.2.2.2.2.2.2.2.2.2.2.2.2.2.2.2.2.2.2.2.2.1 c).2.2.2.2.2.1 (wi_call3 fLaw_law_720 (Nat.le_of_ble_eq_true rfl) (k_Model_look (((h.2.2 c185).2.2.2.2.2.2.2.2.2.2.2.2.2.2.2.2.2.2.2.2.2.2.2.2.2.2.2.2.2.2.2.2.1 c).2.2.2.2.2.2.2 y136 τ137 eτ137).1 (fun y138 τ139 eτ139 => (wi_pop_i fLaw_law_721 (wi_goto fLaw_law_722 (wi_iinc3 fLaw_law_1000 trivial ((((h.2.2 c185).2.2.2.2.2.2.2.2.2.2.2.2.2.2.2.2.2.2.2.2.2.2.2.2.2.2.2.2.2.2.2.2.1 c).2.2.2.2.2.2.2 y136 τ137 eτ137).2 y138 τ139 eτ139).1 (wi_goto fLaw_law_1001 ((((h.2.2 c185).2.2.2.2.2.2.2.2.2.2.2.2.2.2.2.2.2.2.2.2.2.2.2.2.2.2.2.2.2.2.2.2.1 c).2.2.2.2.2.2.2 y136 τ137 eτ137).2 y138 τ139 eτ139).2)))))))))))))))))))))))))))))))))) (fun c => (wi_aload1 fLaw_law_723 (wi_aload0 fLaw_law_724 (wi_iload3 fLaw_law_725 (wi_bipush fLaw_law_726 (wi_iadd fLaw_law_727 ((h.2.2 c185).2.2.2.2.2.2.2.2.2.2.2.2.2.2.2.2.2.2.2.2.2.2.2.2.2.2.2.2.2.2.2.2.2.1 c).1 (wi_iald8000 fLaw_law_728 ((h.2.2 c185).2.2.2.2.2.2.2.2.2.2.2.2.2.2.2.2.2.2.2.2.2.2.2.2.2.2.2.2.2.2.2.2.2.1 c).2.1 ((h.2.2 c185).2.2.2.2.2.2.2.2.2.2.2.2.2.2.2.2.2.2.2.2.2.2.2.2.2.2.2.2.2.2.2.2.2.1 c).2.2.1 (wi_aload0 fLaw_law_729 (wi_iload3 fLaw_law_730 (wi_bipush fLaw_law_731 (wi_iadd fLaw_law_732 ((h.2.2 c185).2.2.2.2.2.2.2.2.2.2.2.2.2.2.2.2.2.2.2.2.2.2.2.2.2.2.2.2.2.2.2.2.2.1 c).2.2.2.1 (wi_iald8000 fLaw_law_733 ((h.2.2 c185).2.2.2.2.2.2.2.2.2.2.2.2.2.2.2.2.2.2.2.2.2.2.2.2.2.2.2.2.2.2.2.2.2.1 c).2.2.2.2.1 ((h.2.2 c185).2.2.2.2.2.2.2.2.2.2.2.2.2.2.2.2.2.2.2.2.2.2.2.2.2.2.2.2.2.2.2.2.2.1 c).2.2.2.2.2.1 (wi_call3 fLaw_law_734 (Nat.le_of_ble_eq_true rfl) (k_Moon_pay ((h.2.2 c185).2.2.2.2.2.2.2.2.2.2.2.2.2.2.2.2.2.2.2.2.2.2.2.2.2.2.2.2.2.2.2.2.2.1 c).2.2.2.2.2.2.1 (fun y140 τ141 eτ141 => (wi_pop_i fLaw_law_735 (wi_aload2 fLaw_law_736 (wi_aload0 fLaw_law_737 (wi_iload3 fLaw_law_738 (wi_bipush fLaw_law_739 (wi_iadd fLaw_law_740 ((h.2.2 c185).2.2.2.2.2.2.2.2.2.2.2.2.2.2.2.2.2.2.2.2.2.2.2.2.2.2.2.2.2.2.2.2.2.1 c).1 (wi_iald8000 fLaw_law_741 ((h.2.2 c185).2.2.2.2.2.2.2.2.2.2.2.2.2.2.2.2.2.2.2.2.2.2.2.2.2.2.2.2.2.2.2.2.2.1 c).2.1 ((h.2.2 c185).2.2.2.2.2.2.2.2.2.2.2.2.2.2.2.2.2.2.2.2.2.2.2.2.2.2.2.2.2.2.2.2.2.1 c).2.2.1 (wi_aload0 fLaw_law_742 (wi_iload3 fLaw_law_743 (wi_bipush fLaw_law_744 (wi_iadd fLaw_law_745 ((h.2.2 c185).2.2.2.2.2.2.2.2.2.2.2.2.2.2.2.2.2.2.2.2.2.2.2.2.2.2.2.2.2.2.2.2.2.1 c).2.2.2.1 (wi_iald8000 fLaw_law_746 ((h.2.2 c185).2.2.2.2.2.2.2.2.2.2.2.2.2.2.2.2.2.2.2.2.2.2.2.2.2.2.2.2.2.2.2.2.2.1 c).2.2.2.2.1 ((h.2.2 c185).2.2.2.2.2.2.2.2.2.2.2.2.2.2.2.2.2.2.2.2.2.2.2.2.2.2.2.2.2.2.2.2.2.1 c).2.2.2.2.2.1 (wi_call3 fLaw_law_747 (Nat.le_of_ble_eq_true rfl) (k_Model_pay (((h.2.2 c185).2.2.2.2.2.2.2.2.2.2.2.2.2.2.2.2.2.2.2.2.2.2.2.2.2.2.2.2.2.2.2.2.2.1 c).2.2.2.2.2.2.2 y140 τ141 eτ141).1 (fun y142 τ143 eτ143 => (wi_pop_i fLaw_law_748 (wi_goto fLaw_law_749 (wi_iinc3 fLaw_law_1000 trivial ((((h.2.2 c185).2.2.2.2.2.2.2.2.2.2.2.2.2.2.2.2.2.2.2.2.2.2.2.2.2.2.2.2.2.2.2.2.2.1 c).2.2.2.2.2.2.2 y140 τ141 eτ141).2 y142 τ143 eτ143).1 (wi_goto fLaw_law_1001 ((((h.2.2 c185).2.2.2.2.2.2.2.2.2.2.2.2.2.2.2.2.2.2.2.2.2.2.2.2.2.2.2.2.2.2.2.2.2.1 c).2.2.2.2.2.2.2 y140 τ141 eτ141).2 y142 τ143 eτ143).2)))))))))))))))))))))))))))))))))) (fun c => (wi_aload1 fLaw_law_750 (wi_aload0 fLaw_law_751 (wi_iload3 fLaw_law_752 (wi_bipush fLaw_law_753 (wi_iadd fLaw_law_754 ((h.2.2 c185).2.2.2.2.2.2.2.2.2.2.2.2.2.2.2.2.2.2.2.2.2.2.2.2.2.2.2.2.2.2.2.2.2.2.1 c).1 (wi_iald8000 fLaw_law_755 ((h.2.2 c185).2.2.2.2.2.2.2.2.2.2.2.2.2.2.2.2.2.2.2.2.2.2.2.2.2.2.2.2.2.2.2.2.2.2.1 c).2.1 ((h.2.2 c185).2.2.2.2.2.2.2.2.2.2.2.2.2.2.2.2.2.2.2.2.2.2.2.2.2.2.2.2.2.2.2.2.2.2.1 c).2.2.1 (wi_call2 fLaw_law_756 (Nat.le_of_ble_eq_true rfl) (k_Moon_owe ((h.2.2 c185).2.2.2.2.2.2.2.2.2.2.2.2.2.2.2.2.2.2.2.2.2.2.2.2.2.2.2.2.2.2.2.2.2.2.1 c).2.2.2.1 (fun y144 τ145 eτ145 => (wi_pop_i fLaw_law_757 (wi_aload2 fLaw_law_758 (wi_aload0 fLaw_law_759 (wi_iload3 fLaw_law_760 (wi_bipush fLaw_law_761 (wi_iadd fLaw_law_762 ((h.2.2 c185).2.2.2.2.2.2.2.2.2.2.2.2.2.2.2.2.2.2.2.2.2.2.2.2.2.2.2.2.2.2.2.2.2.2.1 c).1 (wi_iald8000 fLaw_law_763 ((h.2.2 c185).2.2.2.2.2.2.2.2.2.2.2.2.2.2.2.2.2.2.2.2.2.2.2.2.2.2.2.2.2.2.2.2.2.2.1 c).2.1 ((h.2.2 c185).2.2.2.2.2.2.2.2.2.2.2.2.2.2.2.2.2.2.2.2.2.2.2.2.2.2.2.2.2.2.2.2.2.2.1 c).2.2.1 (wi_call2 fLaw_law_764 (Nat.le_of_ble_eq_true rfl) (k_Model_owe (((h.2.2 c185).2.2.2.2.2.2.2.2.2.2.2.2.2.2.2.2.2.2.2.2.2.2.2.2.2.2.2.2.2.2.2.2.2.2.1 c).2.2.2.2 y144 τ145 eτ145).1 (fun y146 τ147 eτ147 => (wi_pop_i fLaw_law_765 (wi_goto fLaw_law_766 (wi_iinc3 fLaw_law_1000 trivial ((((h.2.2 c185).2.2.2.2.2.2.2.2.2.2.2.2.2.2.2.2.2.2.2.2.2.2.2.2.2.2.2.2.2.2.2.2.2.2.1 c).2.2.2.2 y144 τ145 eτ145).2 y146 τ147 eτ147).1 (wi_goto fLaw_law_1001 ((((h.2.2 c185).2.2.2.2.2.2.2.2.2.2.2.2.2.2.2.2.2.2.2.2.2.2.2.2.2.2.2.2.2.2.2.2.2.2.1 c).2.2.2.2 y144 τ145 eτ145).2 y146 τ147 eτ147).2)))))))))))))))))))))))) (fun c => (wi_aload1 fLaw_law_767 (wi_aload0 fLaw_law_768 (wi_iload3 fLaw_law_769 (wi_bipush fLaw_law_770 (wi_iadd fLaw_law_771 ((h.2.2 c185).2.2.2.2.2.2.2.2.2.2.2.2.2.2.2.2.2.2.2.2.2.2.2.2.2.2.2.2.2.2.2.2.2.2.2.1 c).1 (wi_iald8000 fLaw_law_772 ((h.2.2 c185).2.2.2.2.2.2.2.2.2.2.2.2.2.2.2.2.2.2.2.2.2.2.2.2.2.2.2.2.2.2.2.2.2.2.2.1 c).2.1 ((h.2.2 c185).2.2.2.2.2.2.2.2.2.2.2.2.2.2.2.2.2.2.2.2.2.2.2.2.2.2.2.2.2.2.2.2.2.2.2.1 c).2.2.1 (wi_call2 fLaw_law_773 (Nat.le_of_ble_eq_true rfl) (k_Moon_fits ((h.2.2 c185).2.2.2.2.2.2.2.2.2.2.2.2.2.2.2.2.2.2.2.2.2.2.2.2.2.2.2.2.2.2.2.2.2.2.2.1 c).2.2.2.1 (fun y148 τ149 eτ149 => (wi_pop_i fLaw_law_774 (wi_aload2 fLaw_law_775 (wi_aload0 fLaw_law_776 (wi_iload3 fLaw_law_777 (wi_bipush fLaw_law_778 (wi_iadd fLaw_law_779 ((h.2.2 c185).2.2.2.2.2.2.2.2.2.2.2.2.2.2.2.2.2.2.2.2.2.2.2.2.2.2.2.2.2.2.2.2.2.2.2.1 c).1 (wi_iald8000 fLaw_law_780 ((h.2.2 c185).2.2.2.2.2.2.2.2.2.2.2.2.2.2.2.2.2.2.2.2.2.2.2.2.2.2.2.2.2.2.2.2.2.2.2.1 c).2.1 ((h.2.2 c185).2.2.2.2.2.2.2.2.2.2.2.2.2.2.2.2.2.2.2.2.2.2.2.2.2.2.2.2.2.2.2.2.2.2.2.1 c).2.2.1 (wi_call2 fLaw_law_781 (Nat.le_of_ble_eq_true rfl) (k_Model_fits (((h.2.2 c185).2.2.2.2.2.2.2.2.2.2.2.2.2.2.2.2.2.2.2.2.2.2.2.2.2.2.2.2.2.2.2.2.2.2.2.1 c).2.2.2.2 y148 τ149 eτ149).1 (fun y150 τ151 eτ151 => (wi_pop_i fLaw_law_782 (wi_goto fLaw_law_783 (wi_iinc3 fLaw_law_1000 trivial ((((h.2.2 c185).2.2.2.2.2.2.2.2.2.2.2.2.2.2.2.2.2.2.2.2.2.2.2.2.2.2.2.2.2.2.2.2.2.2.2.1 c).2.2.2.2 y148 τ149 eτ149).2 y150 τ151 eτ151).1 (wi_goto fLaw_law_1001 ((((h.2.2 c185).2.2.2.2.2.2.2.2.2.2.2.2.2.2.2.2.2.2.2.2.2.2.2.2.2.2.2.2.2.2.2.2.2.2.2.1 c).2.2.2.2 y148 τ149 eτ149).2 y150 τ151 eτ151).2)))))))))))))))))))))))) (fun c => (wi_aload1 fLaw_law_784 (wi_aload0 fLaw_law_785 (wi_iload3 fLaw_law_786 (wi_bipush fLaw_law_787 (wi_iadd fLaw_law_788 ((h.2.2 c185).2.2.2.2.2.2.2.2.2.2.2.2.2.2.2.2.2.2.2.2.2.2.2.2.2.2.2.2.2.2.2.2.2.2.2.2.1 c).1 (wi_iald8000 fLaw_law_789 ((h.2.2 c185).2.2.2.2.2.2.2.2.2.2.2.2.2.2.2.2.2.2.2.2.2.2.2.2.2.2.2.2.2.2.2.2.2.2.2.2.1 c).2.1 ((h.2.2 c185).2.2.2.2.2.2.2.2.2.2.2.2.2.2.2.2.2.2.2.2.2.2.2.2.2.2.2.2.2.2.2.2.2.2.2.2.1 c).2.2.1 (wi_aload0 fLaw_law_790 (wi_iload3 fLaw_law_791 (wi_bipush fLaw_law_792 (wi_iadd fLaw_law_793 ((h.2.2 c185).2.2.2.2.2.2.2.2.2.2.2.2.2.2.2.2.2.2.2.2.2.2.2.2.2.2.2.2.2.2.2.2.2.2.2.2.1 c).2.2.2.1 (wi_iald8000 fLaw_law_794 ((h.2.2 c185).2.2.2.2.2.2.2.2.2.2.2.2.2.2.2.2.2.2.2.2.2.2.2.2.2.2.2.2.2.2.2.2.2.2.2.2.1 c).2.2.2.2.1 ((h.2.2 c185).2.2.2.2.2.2.2.2.2.2.2.2.2.2.2.2.2.2.2.2.2.2.2.2.2.2.2.2.2.2.2.2.2.2.2.2.1 c).2.2.2.2.2.1 (wi_aload0 fLaw_law_795 (wi_iload3 fLaw_law_796 (wi_bipush fLaw_law_797 (wi_iadd fLaw_law_798 ((h.2.2 c185).2.2.2.2.2.2.2.2.2.2.2.2.2.2.2.2.2.2.2.2.2.2.2.2.2.2.2.2.2.2.2.2.2.2.2.2.1 c).2.2.2.2.2.2.1 (wi_iald8000 fLaw_law_799 ((h.2.2 c185).2.2.2.2.2.2.2.2.2.2.2.2.2.2.2.2.2.2.2.2.2.2.2.2.2.2.2.2.2.2.2.2.2.2.2.2.1 c).2.2.2.2.2.2.2.1 ((h.2.2 c185).2.2.2.2.2.2.2.2.2.2.2.2.2.2.2.2.2.2.2.2.2.2.2.2.2.2.2.2.2.2.2.2.2.2.2.2.1 c).2.2.2.2.2.2.2.2.1 (wi_call4 fLaw_law_800 (Nat.le_of_ble_eq_true rfl) (k_Moon_drift ((h.2.2 c185).2.2.2.2.2.2.2.2.2.2.2.2.2.2.2.2.2.2.2.2.2.2.2.2.2.2.2.2.2.2.2.2.2.2.2.2.1 c).2.2.2.2.2.2.2.2.2.1 (fun y152 τ153 eτ153 => (wi_pop_i fLaw_law_801 (wi_aload2 fLaw_law_802 (wi_aload0 fLaw_law_803 (wi_iload3 fLaw_law_804 (wi_bipush fLaw_law_805 (wi_iadd fLaw_law_806 ((h.2.2 c185).2.2.2.2.2.2.2.2.2.2.2.2.2.2.2.2.2.2.2.2.2.2.2.2.2.2.2.2.2.2.2.2.2.2.2.2.1 c).1 (wi_iald8000 fLaw_law_807 ((h.2.2 c185).2.2.2.2.2.2.2.2.2.2.2.2.2.2.2.2.2.2.2.2.2.2.2.2.2.2.2.2.2.2.2.2.2.2.2.2.1 c).2.1 ((h.2.2 c185).2.2.2.2.2.2.2.2.2.2.2.2.2.2.2.2.2.2.2.2.2.2.2.2.2.2.2.2.2.2.2.2.2.2.2.2.1 c).2.2.1 (wi_aload0 fLaw_law_808 (wi_iload3 fLaw_law_809 (wi_bipush fLaw_law_810 (wi_iadd fLaw_law_811 ((h.2.2 c185).2.2.2.2.2.2.2.2.2.2.2.2.2.2.2.2.2.2.2.2.2.2.2.2.2.2.2.2.2.2.2.2.2.2.2.2.1 c).2.2.2.1 (wi_iald8000 fLaw_law_812 ((h.2.2 c185).2.2.2.2.2.2.2.2.2.2.2.2.2.2.2.2.2.2.2.2.2.2.2.2.2.2.2.2.2.2.2.2.2.2.2.2.1 c).2.2.2.2.1 ((h.2.2 c185).2.2.2.2.2.2.2.2.2.2.2.2.2.2.2.2.2.2.2.2.2.2.2.2.2.2.2.2.2.2.2.2.2.2.2.2.1 c).2.2.2.2.2.1 (wi_aload0 fLaw_law_813 (wi_iload3 fLaw_law_814 (wi_bipush fLaw_law_815 (wi_iadd fLaw_law_816 ((h.2.2 c185).2.2.2.2.2.2.2.2.2.2.2.2.2.2.2.2.2.2.2.2.2.2.2.2.2.2.2.2.2.2.2.2.2.2.2.2.1 c).2.2.2.2.2.2.1 (wi_iald8000 fLaw_law_817 ((h.2.2 c185).2.2.2.2.2.2.2.2.2.2.2.2.2.2.2.2.2.2.2.2.2.2.2.2.2.2.2.2.2.2.2.2.2.2.2.2.1 c).2.2.2.2.2.2.2.1 ((h.2.2 c185).2.2.2.2.2.2.2.2.2.2.2.2.2.2.2.2.2.2.2.2.2.2.2.2.2.2.2.2.2.2.2.2.2.2.2.2.1 c).2.2.2.2.2.2.2.2.1 (wi_call4 fLaw_law_818 (Nat.le_of_ble_eq_true rfl) (k_Model_drift (((h.2.2 c185).2.2.2.2.2.2.2.2.2.2.2.2.2.2.2.2.2.2.2.2.2.2.2.2.2.2.2.2.2.2.2.2.2.2.2.2.1 c).2.2.2.2.2.2.2.2.2.2 y152 τ153 eτ153).1 (fun y154 τ155 eτ155 => (wi_pop_i fLaw_law_819 (wi_goto fLaw_law_820 (wi_iinc3 fLaw_law_1000 trivial ((((h.2.2 c185).2.2.2.2.2.2.2.2.2.2.2.2.2.2.2.2.2.2.2.2.2.2.2.2.2.2.2.2.2.2.2.2.2.2.2.2.1 c).2.2.2.2.2.2.2.2.2.2 y152 τ153 eτ153).2 y154 τ155 eτ155).1 (wi_goto fLaw_law_1001 ((((h.2.2 c185).2.2.2.2.2.2.2.2.2.2.2.2.2.2.2.2.2.2.2.2.2.2.2.2.2.2.2.2.2.2.2.2.2.2.2.2.1 c).2.2.2.2.2.2.2.2.2.2 y152 τ153 eτ153).2 y154 τ155 eτ155).2)))))))))))))))))))))))))))))))))))))))))))) (fun c => (wi_aload1 fLaw_law_821 (wi_aload0 fLaw_law_822 (wi_iload3 fLaw_law_823 (wi_bipush fLaw_law_824 (wi_iadd fLaw_law_825 ((h.2.2 c185).2.2.2.2.2.2.2.2.2.2.2.2.2.2.2.2.2.2.2.2.2.2.2.2.2.2.2.2.2.2.2.2.2.2.2.2.2.1 c).1 (wi_iald8000 fLaw_law_826 ((h.2.2 c185).2.2.2.2.2.2.2.2.2.2.2.2.2.2.2.2.2.2.2.2.2.2.2.2.2.2.2.2.2.2.2.2.2.2.2.2.2.1 c).2.1 ((h.2.2 c185).2.2.2.2.2.2.2.2.2.2.2.2.2.2.2.2.2.2.2.2.2.2.2.2.2.2.2.2.2.2.2.2.2.2.2.2.2.1 c).2.2.1 (wi_call2 fLaw_law_827 (Nat.le_of_ble_eq_true rfl) (k_Moon_keep ((h.2.2 c185).2.2.2.2.2.2.2.2.2.2.2.2.2.2.2.2.2.2.2.2.2.2.2.2.2.2.2.2.2.2.2.2.2.2.2.2.2.1 c).2.2.2.1 (fun y156 τ157 eτ157 => (wi_pop_i fLaw_law_828 (wi_aload2 fLaw_law_829 (wi_aload0 fLaw_law_830 (wi_iload3 fLaw_law_831 (wi_bipush fLaw_law_832 (wi_iadd fLaw_law_833 ((h.2.2 c185).2.2.2.2.2.2.2.2.2.2.2.2.2.2.2.2.2.2.2.2.2.2.2.2.2.2.2.2.2.2.2.2.2.2.2.2.2.1 c).1 (wi_iald8000 fLaw_law_834 ((h.2.2 c185).2.2.2.2.2.2.2.2.2.2.2.2.2.2.2.2.2.2.2.2.2.2.2.2.2.2.2.2.2.2.2.2.2.2.2.2.2.1 c).2.1 ((h.2.2 c185).2.2.2.2.2.2.2.2.2.2.2.2.2.2.2.2.2.2.2.2.2.2.2.2.2.2.2.2.2.2.2.2.2.2.2.2.2.1 c).2.2.1 (wi_call2 fLaw_law_835 (Nat.le_of_ble_eq_true rfl) (k_Model_keep (((h.2.2 c185).2.2.2.2.2.2.2.2.2.2.2.2.2.2.2.2.2.2.2.2.2.2.2.2.2.2.2.2.2.2.2.2.2.2.2.2.2.1 c).2.2.2.2 y156 τ157 eτ157).1 (fun y158 τ159 eτ159 => (wi_pop_i fLaw_law_836 (wi_goto fLaw_law_837 (wi_iinc3 fLaw_law_1000 trivial ((((h.2.2 c185).2.2.2.2.2.2.2.2.2.2.2.2.2.2.2.2.2.2.2.2.2.2.2.2.2.2.2.2.2.2.2.2.2.2.2.2.2.1 c).2.2.2.2 y156 τ157 eτ157).2 y158 τ159 eτ159).1 (wi_goto fLaw_law_1001 ((((h.2.2 c185).2.2.2.2.2.2.2.2.2.2.2.2.2.2.2.2.2.2.2.2.2.2.2.2.2.2.2.2.2.2.2.2.2.2.2.2.2.1 c).2.2.2.2 y156 τ157 eτ157).2 y158 τ159 eτ159).2)))))))))))))))))))))))) (fun c => (wi_aload1 fLaw_law_838 (wi_aload0 fLaw_law_839 (wi_iload3 fLaw_law_840 (wi_bipush fLaw_law_841 (wi_iadd fLaw_law_842 ((h.2.2 c185).2.2.2.2.2.2.2.2.2.2.2.2.2.2.2.2.2.2.2.2.2.2.2.2.2.2.2.2.2.2.2.2.2.2.2.2.2.2.1 c).1 (wi_iald8000 fLaw_law_843 ((h.2.2 c185).2.2.2.2.2.2.2.2.2.2.2.2.2.2.2.2.2.2.2.2.2.2.2.2.2.2.2.2.2.2.2.2.2.2.2.2.2.2.1 c).2.1 ((h.2.2 c185).2.2.2.2.2.2.2.2.2.2.2.2.2.2.2.2.2.2.2.2.2.2.2.2.2.2.2.2.2.2.2.2.2.2.2.2.2.2.1 c).2.2.1 (wi_call2 fLaw_law_844 (Nat.le_of_ble_eq_true rfl) (k_Moon_back ((h.2.2 c185).2.2.2.2.2.2.2.2.2.2.2.2.2.2.2.2.2.2.2.2.2.2.2.2.2.2.2.2.2.2.2.2.2.2.2.2.2.2.1 c).2.2.2.1 (fun y160 τ161 eτ161 => (wi_pop_i fLaw_law_845 (wi_aload2 fLaw_law_846 (wi_aload0 fLaw_law_847 (wi_iload3 fLaw_law_848 (wi_bipush fLaw_law_849 (wi_iadd fLaw_law_850 ((h.2.2 c185).2.2.2.2.2.2.2.2.2.2.2.2.2.2.2.2.2.2.2.2.2.2.2.2.2.2.2.2.2.2.2.2.2.2.2.2.2.2.1 c).1 (wi_iald8000 fLaw_law_851 ((h.2.2 c185).2.2.2.2.2.2.2.2.2.2.2.2.2.2.2.2.2.2.2.2.2.2.2.2.2.2.2.2.2.2.2.2.2.2.2.2.2.2.1 c).2.1 ((h.2.2 c185).2.2.2.2.2.2.2.2.2.2.2.2.2.2.2.2.2.2.2.2.2.2.2.2.2.2.2.2.2.2.2.2.2.2.2.2.2.2.1 c).2.2.1 (wi_call2 fLaw_law_852 (Nat.le_of_ble_eq_true rfl) (k_Model_back (((h.2.2 c185).2.2.2.2.2.2.2.2.2.2.2.2.2.2.2.2.2.2.2.2.2.2.2.2.2.2.2.2.2.2.2.2.2.2.2.2.2.2.1 c).2.2.2.2 y160 τ161 eτ161).1 (fun y162 τ163 eτ163 => (wi_pop_i fLaw_law_853 (wi_goto fLaw_law_854 (wi_iinc3 fLaw_law_1000 trivial ((((h.2.2 c185).2.2.2.2.2.2.2.2.2.2.2.2.2.2.2.2.2.2.2.2.2.2.2.2.2.2.2.2.2.2.2.2.2.2.2.2.2.2.1 c).2.2.2.2 y160 τ161 eτ161).2 y162 τ163 eτ163).1 (wi_goto fLaw_law_1001 ((((h.2.2 c185).2.2.2.2.2.2.2.2.2.2.2.2.2.2.2.2.2.2.2.2.2.2.2.2.2.2.2.2.2.2.2.2.2.2.2.2.2.2.1 c).2.2.2.2 y160 τ161 eτ161).2 y162 τ163 eτ163).2)))))))))))))))))))))))) (fun c => (wi_aload1 fLaw_law_855 (wi_aload0 fLaw_law_856 (wi_iload3 fLaw_law_857 (wi_bipush fLaw_law_858 (wi_iadd fLaw_law_859 ((h.2.2 c185).2.2.2.2.2.2.2.2.2.2.2.2.2.2.2.2.2.2.2.2.2.2.2.2.2.2.2.2.2.2.2.2.2.2.2.2.2.2.2.1 c).1 (wi_iald8000 fLaw_law_860 ((h.2.2 c185).2.2.2.2.2.2.2.2.2.2.2.2.2.2.2.2.2.2.2.2.2.2.2.2.2.2.2.2.2.2.2.2.2.2.2.2.2.2.2.1 c).2.1 ((h.2.2 c185).2.2.2.2.2.2.2.2.2.2.2.2.2.2.2.2.2.2.2.2.2.2.2.2.2.2.2.2.2.2.2.2.2.2.2.2.2.2.2.1 c).2.2.1 (wi_aload0 fLaw_law_861 (wi_iload3 fLaw_law_862 (wi_bipush fLaw_law_863 (wi_iadd fLaw_law_864 ((h.2.2 c185).2.2.2.2.2.2.2.2.2.2.2.2.2.2.2.2.2.2.2.2.2.2.2.2.2.2.2.2.2.2.2.2.2.2.2.2.2.2.2.1 c).2.2.2.1 (wi_iald8000 fLaw_law_865 ((h.2.2 c185).2.2.2.2.2.2.2.2.2.2.2.2.2.2.2.2.2.2.2.2.2.2.2.2.2.2.2.2.2.2.2.2.2.2.2.2.2.2.2.1 c).2.2.2.2.1 ((h.2.2 c185).2.2.2.2.2.2.2.2.2.2.2.2.2.2.2.2.2.2.2.2.2.2.2.2.2.2.2.2.2.2.2.2.2.2.2.2.2.2.2.1 c).2.2.2.2.2.1 (wi_aload0 fLaw_law_866 (wi_iload3 fLaw_law_867 (wi_bipush fLaw_law_868 (wi_iadd fLaw_law_869 ((h.2.2 c185).2.2.2.2.2.2.2.2.2.2.2.2.2.2.2.2.2.2.2.2.2.2.2.2.2.2.2.2.2.2.2.2.2.2.2.2.2.2.2.1 c).2.2.2.2.2.2.1 (wi_iald8000 fLaw_law_870 ((h.2.2 c185).2.2.2.2.2.2.2.2.2.2.2.2.2.2.2.2.2.2.2.2.2.2.2.2.2.2.2.2.2.2.2.2.2.2.2.2.2.2.2.1 c).2.2.2.2.2.2.2.1 ((h.2.2 c185).2.2.2.2.2.2.2.2.2.2.2.2.2.2.2.2.2.2.2.2.2.2.2.2.2.2.2.2.2.2.2.2.2.2.2.2.2.2.2.1 c).2.2.2.2.2.2.2.2.1 (wi_call4 fLaw_law_871 (Nat.le_of_ble_eq_true rfl) (k_Moon_sheet ((h.2.2 c185).2.2.2.2.2.2.2.2.2.2.2.2.2.2.2.2.2.2.2.2.2.2.2.2.2.2.2.2.2.2.2.2.2.2.2.2.2.2.2.1 c).2.2.2.2.2.2.2.2.2.1 (fun y164 τ165 eτ165 => (wi_pop_i fLaw_law_872 (wi_aload2 fLaw_law_873 (wi_aload0 fLaw_law_874 (wi_iload3 fLaw_law_875 (wi_bipush fLaw_law_876 (wi_iadd fLaw_law_877 ((h.2.2 c185).2.2.2.2.2.2.2.2.2.2.2.2.2.2.2.2.2.2.2.2.2.2.2.2.2.2.2.2.2.2.2.2.2.2.2.2.2.2.2.1 c).1 (wi_iald8000 fLaw_law_878 ((h.2.2 c185).2.2.2.2.2.2.2.2.2.2.2.2.2.2.2.2.2.2.2.2.2.2.2.2.2.2.2.2.2.2.2.2.2.2.2.2.2.2.2.1 c).2.1 ((h.2.2 c185).2.2.2.2.2.2.2.2.2.2.2.2.2.2.2.2.2.2.2.2.2.2.2.2.2.2.2.2.2.2.2.2.2.2.2.2.2.2.2.1 c).2.2.1 (wi_aload0 fLaw_law_879 (wi_iload3 fLaw_law_880 (wi_bipush fLaw_law_881 (wi_iadd fLaw_law_882 ((h.2.2 c185).2.2.2.2.2.2.2.2.2.2.2.2.2.2.2.2.2.2.2.2.2.2.2.2.2.2.2.2.2.2.2.2.2.2.2.2.2.2.2.1 c).2.2.2.1 (wi_iald8000 fLaw_law_883 ((h.2.2 c185).2.2.2.2.2.2.2.2.2.2.2.2.2.2.2.2.2.2.2.2.2.2.2.2.2.2.2.2.2.2.2.2.2.2.2.2.2.2.2.1 c).2.2.2.2.1 ((h.2.2 c185).2.2.2.2.2.2.2.2.2.2.2.2.2.2.2.2.2.2.2.2.2.2.2.2.2.2.2.2.2.2.2.2.2.2.2.2.2.2.2.1 c).2.2.2.2.2.1 (wi_aload0 fLaw_law_884 (wi_iload3 fLaw_law_885 (wi_bipush fLaw_law_886 (wi_iadd fLaw_law_887 ((h.2.2 c185).2.2.2.2.2.2.2.2.2.2.2.2.2.2.2.2.2.2.2.2.2.2.2.2.2.2.2.2.2.2.2.2.2.2.2.2.2.2.2.1 c).2.2.2.2.2.2.1 (wi_iald8000 fLaw_law_888 ((h.2.2 c185).2.2.2.2.2.2.2.2.2.2.2.2.2.2.2.2.2.2.2.2.2.2.2.2.2.2.2.2.2.2.2.2.2.2.2.2.2.2.2.1 c).2.2.2.2.2.2.2.1 ((h.2.2 c185).2.2.2.2.2.2.2.2.2.2.2.2.2.2.2.2.2.2.2.2.2.2.2.2.2.2.2.2.2.2.2.2.2.2.2.2.2.2.2.1 c).2.2.2.2.2.2.2.2.1 (wi_call4 fLaw_law_889 (Nat.le_of_ble_eq_true rfl) (k_Model_sheet (((h.2.2 c185).2.2.2.2.2.2.2.2.2.2.2.2.2.2.2.2.2.2.2.2.2.2.2.2.2.2.2.2.2.2.2.2.2.2.2.2.2.2.2.1 c).2.2.2.2.2.2.2.2.2.2 y164 τ165 eτ165).1 (fun y166 τ167 eτ167 => (wi_pop_i fLaw_law_890 (wi_goto fLaw_law_891 (wi_iinc3 fLaw_law_1000 trivial ((((h.2.2 c185).2.2.2.2.2.2.2.2.2.2.2.2.2.2.2.2.2.2.2.2.2.2.2.2.2.2.2.2.2.2.2.2.2.2.2.2.2.2.2.1 c).2.2.2.2.2.2.2.2.2.2 y164 τ165 eτ165).2 y166 τ167 eτ167).1 (wi_goto fLaw_law_1001 ((((h.2.2 c185).2.2.2.2.2.2.2.2.2.2.2.2.2.2.2.2.2.2.2.2.2.2.2.2.2.2.2.2.2.2.2.2.2.2.2.2.2.2.2.1 c).2.2.2.2.2.2.2.2.2.2 y164 τ165 eτ165).2 y166 τ167 eτ167).2)))))))))))))))))))))))))))))))))))))))))))) (fun c => (wi_aload1 fLaw_law_892 (wi_aload0 fLaw_law_893 (wi_iload3 fLaw_law_894 (wi_bipush fLaw_law_895 (wi_iadd fLaw_law_896 ((h.2.2 c185).2.2.2.2.2.2.2.2.2.2.2.2.2.2.2.2.2.2.2.2.2.2.2.2.2.2.2.2.2.2.2.2.2.2.2.2.2.2.2.2.1 c).1 (wi_iald8000 fLaw_law_897 ((h.2.2 c185).2.2.2.2.2.2.2.2.2.2.2.2.2.2.2.2.2.2.2.2.2.2.2.2.2.2.2.2.2.2.2.2.2.2.2.2.2.2.2.2.1 c).2.1 ((h.2.2 c185).2.2.2.2.2.2.2.2.2.2.2.2.2.2.2.2.2.2.2.2.2.2.2.2.2.2.2.2.2.2.2.2.2.2.2.2.2.2.2.2.1 c).2.2.1 (wi_aload0 fLaw_law_898 (wi_iload3 fLaw_law_899 (wi_bipush fLaw_law_900 (wi_iadd fLaw_law_901 ((h.2.2 c185).2.2.2.2.2.2.2.2.2.2.2.2.2.2.2.2.2.2.2.2.2.2.2.2.2.2.2.2.2.2.2.2.2.2.2.2.2.2.2.2.1 c).2.2.2.1 (wi_iald8000 fLaw_law_902 ((h.2.2 c185).2.2.2.2.2.2.2.2.2.2.2.2.2.2.2.2.2.2.2.2.2.2.2.2.2.2.2.2.2.2.2.2.2.2.2.2.2.2.2.2.1 c).2.2.2.2.1 ((h.2.2 c185).2.2.2.2.2.2.2.2.2.2.2.2.2.2.2.2.2.2.2.2.2.2.2.2.2.2.2.2.2.2.2.2.2.2.2.2.2.2.2.2.1 c).2.2.2.2.2.1 (wi_aload0 fLaw_law_903 (wi_iload3 fLaw_law_904 (wi_bipush fLaw_law_905 (wi_iadd fLaw_law_906 ((h.2.2 c185).2.2.2.2.2.2.2.2.2.2.2.2.2.2.2.2.2.2.2.2.2.2.2.2.2.2.2.2.2.2.2.2.2.2.2.2.2.2.2.2.1 c).2.2.2.2.2.2.1 (wi_iald8000 fLaw_law_907 ((h.2.2 c185).2.2.2.2.2.2.2.2.2.2.2.2.2.2.2.2.2.2.2.2.2.2.2.2.2.2.2.2.2.2.2.2.2.2.2.2.2.2.2.2.1 c).2.2.2.2.2.2.2.1 ((h.2.2 c185).2.2.2.2.2.2.2.2.2.2.2.2.2.2.2.2.2.2.2.2.2.2.2.2.2.2.2.2.2.2.2.2.2.2.2.2.2.2.2.2.1 c).2.2.2.2.2.2.2.2.1 (wi_call4 fLaw_law_908 (Nat.le_of_ble_eq_true rfl) (k_Moon_lay ((h.2.2 c185).2.2.2.2.2.2.2.2.2.2.2.2.2.2.2.2.2.2.2.2.2.2.2.2.2.2.2.2.2.2.2.2.2.2.2.2.2.2.2.2.1 c).2.2.2.2.2.2.2.2.2.1 (fun y168 τ169 eτ169 => (wi_pop_i fLaw_law_909 (wi_aload2 fLaw_law_910 (wi_aload0 fLaw_law_911 (wi_iload3 fLaw_law_912 (wi_bipush fLaw_law_913 (wi_iadd fLaw_law_914 ((h.2.2 c185).2.2.2.2.2.2.2.2.2.2.2.2.2.2.2.2.2.2.2.2.2.2.2.2.2.2.2.2.2.2.2.2.2.2.2.2.2.2.2.2.1 c).1 (wi_iald8000 fLaw_law_915 ((h.2.2 c185).2.2.2.2.2.2.2.2.2.2.2.2.2.2.2.2.2.2.2.2.2.2.2.2.2.2.2.2.2.2.2.2.2.2.2.2.2.2.2.2.1 c).2.1 ((h.2.2 c185).2.2.2.2.2.2.2.2.2.2.2.2.2.2.2.2.2.2.2.2.2.2.2.2.2.2.2.2.2.2.2.2.2.2.2.2.2.2.2.2.1 c).2.2.1 (wi_aload0 fLaw_law_916 (wi_iload3 fLaw_law_917 (wi_bipush fLaw_law_918 (wi_iadd fLaw_law_919 ((h.2.2 c185).2.2.2.2.2.2.2.2.2.2.2.2.2.2.2.2.2.2.2.2.2.2.2.2.2.2.2.2.2.2.2.2.2.2.2.2.2.2.2.2.1 c).2.2.2.1 (wi_iald8000 fLaw_law_920 ((h.2.2 c185).2.2.2.2.2.2.2.2.2.2.2.2.2.2.2.2.2.2.2.2.2.2.2.2.2.2.2.2.2.2.2.2.2.2.2.2.2.2.2.2.1 c).2.2.2.2.1 ((h.2.2 c185).2.2.2.2.2.2.2.2.2.2.2.2.2.2.2.2.2.2.2.2.2.2.2.2.2.2.2.2.2.2.2.2.2.2.2.2.2.2.2.2.1 c).2.2.2.2.2.1 (wi_aload0 fLaw_law_921 (wi_iload3 fLaw_law_922 (wi_bipush fLaw_law_923 (wi_iadd fLaw_law_924 ((h.2.2 c185).2.2.2.2.2.2.2.2.2.2.2.2.2.2.2.2.2.2.2.2.2.2.2.2.2.2.2.2.2.2.2.2.2.2.2.2.2.2.2.2.1 c).2.2.2.2.2.2.1 (wi_iald8000 fLaw_law_925 ((h.2.2 c185).2.2.2.2.2.2.2.2.2.2.2.2.2.2.2.2.2.2.2.2.2.2.2.2.2.2.2.2.2.2.2.2.2.2.2.2.2.2.2.2.1 c).2.2.2.2.2.2.2.1 ((h.2.2 c185).2.2.2.2.2.2.2.2.2.2.2.2.2.2.2.2.2.2.2.2.2.2.2.2.2.2.2.2.2.2.2.2.2.2.2.2.2.2.2.2.1 c).2.2.2.2.2.2.2.2.1 (wi_call4 fLaw_law_926 (Nat.le_of_ble_eq_true rfl) (k_Model_lay (((h.2.2 c185).2.2.2.2.2.2.2.2.2.2.2.2.2.2.2.2.2.2.2.2.2.2.2.2.2.2.2.2.2.2.2.2.2.2.2.2.2.2.2.2.1 c).2.2.2.2.2.2.2.2.2.2 y168 τ169 eτ169).1 (fun y170 τ171 eτ171 => (wi_pop_i fLaw_law_927 (wi_goto fLaw_law_928 (wi_iinc3 fLaw_law_1000 trivial ((((h.2.2 c185).2.2.2.2.2.2.2.2.2.2.2.2.2.2.2.2.2.2.2.2.2.2.2.2.2.2.2.2.2.2.2.2.2.2.2.2.2.2.2.2.1 c).2.2.2.2.2.2.2.2.2.2 y168 τ169 eτ169).2 y170 τ171 eτ171).1 (wi_goto fLaw_law_1001 ((((h.2.2 c185).2.2.2.2.2.2.2.2.2.2.2.2.2.2.2.2.2.2.2.2.2.2.2.2.2.2.2.2.2.2.2.2.2.2.2.2.2.2.2.2.1 c).2.2.2.2.2.2.2.2.2.2 y168 τ169 eτ169).2 y170 τ171 eτ171).2)))))))))))))))))))))))))))))))))))))))))))) (fun c => (wi_aload1 fLaw_law_929 (wi_aload0 fLaw_law_930 (wi_iload3 fLaw_law_931 (wi_bipush fLaw_law_932 (wi_iadd fLaw_law_933 ((h.2.2 c185).2.2.2.2.2.2.2.2.2.2.2.2.2.2.2.2.2.2.2.2.2.2.2.2.2.2.2.2.2.2.2.2.2.2.2.2.2.2.2.2.2.1 c).1 (wi_iald8000 fLaw_law_934 ((h.2.2 c185).2.2.2.2.2.2.2.2.2.2.2.2.2.2.2.2.2.2.2.2.2.2.2.2.2.2.2.2.2.2.2.2.2.2.2.2.2.2.2.2.2.1 c).2.1 ((h.2.2 c185).2.2.2.2.2.2.2.2.2.2.2.2.2.2.2.2.2.2.2.2.2.2.2.2.2.2.2.2.2.2.2.2.2.2.2.2.2.2.2.2.2.1 c).2.2.1 (wi_aload0 fLaw_law_935 (wi_iload3 fLaw_law_936 (wi_bipush fLaw_law_937 (wi_iadd fLaw_law_938 ((h.2.2 c185).2.2.2.2.2.2.2.2.2.2.2.2.2.2.2.2.2.2.2.2.2.2.2.2.2.2.2.2.2.2.2.2.2.2.2.2.2.2.2.2.2.1 c).2.2.2.1 (wi_iald8000 fLaw_law_939 ((h.2.2 c185).2.2.2.2.2.2.2.2.2.2.2.2.2.2.2.2.2.2.2.2.2.2.2.2.2.2.2.2.2.2.2.2.2.2.2.2.2.2.2.2.2.1 c).2.2.2.2.1 ((h.2.2 c185).2.2.2.2.2.2.2.2.2.2.2.2.2.2.2.2.2.2.2.2.2.2.2.2.2.2.2.2.2.2.2.2.2.2.2.2.2.2.2.2.2.1 c).2.2.2.2.2.1 (wi_aload0 fLaw_law_940 (wi_iload3 fLaw_law_941 (wi_bipush fLaw_law_942 (wi_iadd fLaw_law_943 ((h.2.2 c185).2.2.2.2.2.2.2.2.2.2.2.2.2.2.2.2.2.2.2.2.2.2.2.2.2.2.2.2.2.2.2.2.2.2.2.2.2.2.2.2.2.1 c).2.2.2.2.2.2.1 (wi_iald8000 fLaw_law_944 ((h.2.2 c185).2.2.2.2.2.2.2.2.2.2.2.2.2.2.2.2.2.2.2.2.2.2.2.2.2.2.2.2.2.2.2.2.2.2.2.2.2.2.2.2.2.1 c).2.2.2.2.2.2.2.1 ((h.2.2 c185).2.2.2.2.2.2.2.2.2.2.2.2.2.2.2.2.2.2.2.2.2.2.2.2.2.2.2.2.2.2.2.2.2.2.2.2.2.2.2.2.2.1 c).2.2.2.2.2.2.2.2.1 (wi_aload0 fLaw_law_945 (wi_iload3 fLaw_law_946 (wi_bipush fLaw_law_947 (wi_iadd fLaw_law_948 ((h.2.2 c185).2.2.2.2.2.2.2.2.2.2.2.2.2.2.2.2.2.2.2.2.2.2.2.2.2.2.2.2.2.2.2.2.2.2.2.2.2.2.2.2.2.1 c).2.2.2.2.2.2.2.2.2.1 (wi_iald8000 fLaw_law_949 ((h.2.2 c185).2.2.2.2.2.2.2.2.2.2.2.2.2.2.2.2.2.2.2.2.2.2.2.2.2.2.2.2.2.2.2.2.2.2.2.2.2.2.2.2.2.1 c).2.2.2.2.2.2.2.2.2.2.1 ((h.2.2 c185).2.2.2.2.2.2.2.2.2.2.2.2.2.2.2.2.2.2.2.2.2.2.2.2.2.2.2.2.2.2.2.2.2.2.2.2.2.2.2.2.2.1 c).2.2.2.2.2.2.2.2.2.2.2.1 (wi_call5 fLaw_law_950 (Nat.le_of_ble_eq_true rfl) (k_Moon_read ((h.2.2 c185).2.2.2.2.2.2.2.2.2.2.2.2.2.2.2.2.2.2.2.2.2.2.2.2.2.2.2.2.2.2.2.2.2.2.2.2.2.2.2.2.2.1 c).2.2.2.2.2.2.2.2.2.2.2.2.1 (fun y172 τ173 eτ173 => (wi_pop_i fLaw_law_951 (wi_aload2 fLaw_law_952 (wi_aload0 fLaw_law_953 (wi_iload3 fLaw_law_954 (wi_bipush fLaw_law_955 (wi_iadd fLaw_law_956 ((h.2.2 c185).2.2.2.2.2.2.2.2.2.2.2.2.2.2.2.2.2.2.2.2.2.2.2.2.2.2.2.2.2.2.2.2.2.2.2.2.2.2.2.2.2.1 c).1 (wi_iald8000 fLaw_law_957 ((h.2.2 c185).2.2.2.2.2.2.2.2.2.2.2.2.2.2.2.2.2.2.2.2.2.2.2.2.2.2.2.2.2.2.2.2.2.2.2.2.2.2.2.2.2.1 c).2.1 ((h.2.2 c185).2.2.2.2.2.2.2.2.2.2.2.2.2.2.2.2.2.2.2.2.2.2.2.2.2.2.2.2.2.2.2.2.2.2.2.2.2.2.2.2.2.1 c).2.2.1 (wi_aload0 fLaw_law_958 (wi_iload3 fLaw_law_959 (wi_bipush fLaw_law_960 (wi_iadd fLaw_law_961 ((h.2.2 c185).2.2.2.2.2.2.2.2.2.2.2.2.2.2.2.2.2.2.2.2.2.2.2.2.2.2.2.2.2.2.2.2.2.2.2.2.2.2.2.2.2.1 c).2.2.2.1 (wi_iald8000 fLaw_law_962 ((h.2.2 c185).2.2.2.2.2.2.2.2.2.2.2.2.2.2.2.2.2.2.2.2.2.2.2.2.2.2.2.2.2.2.2.2.2.2.2.2.2.2.2.2.2.1 c).2.2.2.2.1 ((h.2.2 c185).2.2.2.2.2.2.2.2.2.2.2.2.2.2.2.2.2.2.2.2.2.2.2.2.2.2.2.2.2.2.2.2.2.2.2.2.2.2.2.2.2.1 c).2.2.2.2.2.1 (wi_aload0 fLaw_law_963 (wi_iload3 fLaw_law_964 (wi_bipush fLaw_law_965 (wi_iadd fLaw_law_966 ((h.2.2 c185).2.2.2.2.2.2.2.2.2.2.2.2.2.2.2.2.2.2.2.2.2.2.2.2.2.2.2.2.2.2.2.2.2.2.2.2.2.2.2.2.2.1 c).2.2.2.2.2.2.1 (wi_iald8000 fLaw_law_967 ((h.2.2 c185).2.2.2.2.2.2.2.2.2.2.2.2.2.2.2.2.2.2.2.2.2.2.2.2.2.2.2.2.2.2.2.2.2.2.2.2.2.2.2.2.2.1 c).2.2.2.2.2.2.2.1 ((h.2.2 c185).2.2.2.2.2.2.2.2.2.2.2.2.2.2.2.2.2.2.2.2.2.2.2.2.2.2.2.2.2.2.2.2.2.2.2.2.2.2.2.2.2.1 c).2.2.2.2.2.2.2.2.1 (wi_aload0 fLaw_law_968 (wi_iload3 fLaw_law_969 (wi_bipush fLaw_law_970 (wi_iadd fLaw_law_971 ((h.2.2 c185).2.2.2.2.2.2.2.2.2.2.2.2.2.2.2.2.2.2.2.2.2.2.2.2.2.2.2.2.2.2.2.2.2.2.2.2.2.2.2.2.2.1 c).2.2.2.2.2.2.2.2.2.1 (wi_iald8000 fLaw_law_972 ((h.2.2 c185).2.2.2.2.2.2.2.2.2.2.2.2.2.2.2.2.2.2.2.2.2.2.2.2.2.2.2.2.2.2.2.2.2.2.2.2.2.2.2.2.2.1 c).2.2.2.2.2.2.2.2.2.2.1 ((h.2.2 c185).2.2.2.2.2.2.2.2.2.2.2.2.2.2.2.2.2.2.2.2.2.2.2.2.2.2.2.2.2.2.2.2.2.2.2.2.2.2.2.2.2.1 c).2.2.2.2.2.2.2.2.2.2.2.1 (wi_call5 fLaw_law_973 (Nat.le_of_ble_eq_true rfl) (k_Model_read (((h.2.2 c185).2.2.2.2.2.2.2.2.2.2.2.2.2.2.2.2.2.2.2.2.2.2.2.2.2.2.2.2.2.2.2.2.2.2.2.2.2.2.2.2.2.1 c).2.2.2.2.2.2.2.2.2.2.2.2.2 y172 τ173 eτ173).1 (fun y174 τ175 eτ175 => (wi_pop_i fLaw_law_974 (wi_goto fLaw_law_975 (wi_iinc3 fLaw_law_1000 trivial ((((h.2.2 c185).2.2.2.2.2.2.2.2.2.2.2.2.2.2.2.2.2.2.2.2.2.2.2.2.2.2.2.2.2.2.2.2.2.2.2.2.2.2.2.2.2.1 c).2.2.2.2.2.2.2.2.2.2.2.2.2 y172 τ173 eτ173).2 y174 τ175 eτ175).1 (wi_goto fLaw_law_1001 ((((h.2.2 c185).2.2.2.2.2.2.2.2.2.2.2.2.2.2.2.2.2.2.2.2.2.2.2.2.2.2.2.2.2.2.2.2.2.2.2.2.2.2.2.2.2.1 c).2.2.2.2.2.2.2.2.2.2.2.2.2 y172 τ173 eτ173).2 y174 τ175 eτ175).2)))))))))))))))))))))))))))))))))))))))))))))))))))))) (fun c => (wi_aload1 fLaw_law_976 (wi_call1 fLaw_law_977 (Nat.le_of_ble_eq_true rfl) (k_Moon_torn ((h.2.2 c185).2.2.2.2.2.2.2.2.2.2.2.2.2.2.2.2.2.2.2.2.2.2.2.2.2.2.2.2.2.2.2.2.2.2.2.2.2.2.2.2.2.2.1 c).1 (fun y176 τ177 eτ177 => (wi_pop_i fLaw_law_978 (wi_aload2 fLaw_law_979 (wi_call1 fLaw_law_980 (Nat.le_of_ble_eq_true rfl) (k_Model_torn (((h.2.2 c185).2.2.2.2.2.2.2.2.2.2.2.2.2.2.2.2.2.2.2.2.2.2.2.2.2.2.2.2.2.2.2.2.2.2.2.2.2.2.2.2.2.2.1 c).2 y176 τ177 eτ177).1 (fun y178 τ179 eτ179 => (wi_pop_i fLaw_law_981 (wi_goto fLaw_law_982 (wi_iinc3 fLaw_law_1000 trivial ((((h.2.2 c185).2.2.2.2.2.2.2.2.2.2.2.2.2.2.2.2.2.2.2.2.2.2.2.2.2.2.2.2.2.2.2.2.2.2.2.2.2.2.2.2.2.2.1 c).2 y176 τ177 eτ177).2 y178 τ179 eτ179).1 (wi_goto fLaw_law_1001 ((((h.2.2 c185).2.2.2.2.2.2.2.2.2.2.2.2.2.2.2.2.2.2.2.2.2.2.2.2.2.2.2.2.2.2.2.2.2.2.2.2.2.2.2.2.2.2.1 c).2 y176 τ177 eτ177).2 y178 τ179 eτ179).2)))))))))))))) (fun c => (wi_aload1 fLaw_law_983 (wi_aload0 fLaw_law_984 (wi_iload3 fLaw_law_985 (wi_bipush fLaw_law_986 (wi_iadd fLaw_law_987 ((h.2.2 c185).2.2.2.2.2.2.2.2.2.2.2.2.2.2.2.2.2.2.2.2.2.2.2.2.2.2.2.2.2.2.2.2.2.2.2.2.2.2.2.2.2.2.2.1 c).1 (wi_iald8000 fLaw_law_988 ((h.2.2 c185).2.2.2.2.2.2.2.2.2.2.2.2.2.2.2.2.2.2.2.2.2.2.2.2.2.2.2.2.2.2.2.2.2.2.2.2.2.2.2.2.2.2.2.1 c).2.1 ((h.2.2 c185).2.2.2.2.2.2.2.2.2.2.2.2.2.2.2.2.2.2.2.2.2.2.2.2.2.2.2.2.2.2.2.2.2.2.2.2.2.2.2.2.2.2.2.1 c).2.2.1 (wi_call2 fLaw_law_989 (Nat.le_of_ble_eq_true rfl) (k_Moon_count ((h.2.2 c185).2.2.2.2.2.2.2.2.2.2.2.2.2.2.2.2.2.2.2.2.2.2.2.2.2.2.2.2.2.2.2.2.2.2.2.2.2.2.2.2.2.2.2.1 c).2.2.2.1 (fun y180 τ181 eτ181 => (wi_aload2 fLaw_law_990 (wi_aload0 fLaw_law_991 (wi_iload3 fLaw_law_992 (wi_bipush fLaw_law_993 (wi_iadd fLaw_law_994 ((h.2.2 c185).2.2.2.2.2.2.2.2.2.2.2.2.2.2.2.2.2.2.2.2.2.2.2.2.2.2.2.2.2.2.2.2.2.2.2.2.2.2.2.2.2.2.2.1 c).1 (wi_iald8000 fLaw_law_995 ((h.2.2 c185).2.2.2.2.2.2.2.2.2.2.2.2.2.2.2.2.2.2.2.2.2.2.2.2.2.2.2.2.2.2.2.2.2.2.2.2.2.2.2.2.2.2.2.1 c).2.1 ((h.2.2 c185).2.2.2.2.2.2.2.2.2.2.2.2.2.2.2.2.2.2.2.2.2.2.2.2.2.2.2.2.2.2.2.2.2.2.2.2.2.2.2.2.2.2.2.1 c).2.2.1 (wi_call2 fLaw_law_996 (Nat.le_of_ble_eq_true rfl) (k_Model_count (((h.2.2 c185).2.2.2.2.2.2.2.2.2.2.2.2.2.2.2.2.2.2.2.2.2.2.2.2.2.2.2.2.2.2.2.2.2.2.2.2.2.2.2.2.2.2.2.1 c).2.2.2.2 y180 τ181 eτ181).1 (fun y182 τ183 eτ183 => (wi_ic_eq fLaw_law_997 (fun c184 => (wi_iinc3 fLaw_law_1000 trivial (((((h.2.2 c185).2.2.2.2.2.2.2.2.2.2.2.2.2.2.2.2.2.2.2.2.2.2.2.2.2.2.2.2.2.2.2.2.2.2.2.2.2.2.2.2.2.2.2.1 c).2.2.2.2 y180 τ181 eτ181).2 y182 τ183 eτ183).1 c184).1 (wi_goto fLaw_law_1001 (((((h.2.2 c185).2.2.2.2.2.2.2.2.2.2.2.2.2.2.2.2.2.2.2.2.2.2.2.2.2.2.2.2.2.2.2.2.2.2.2.2.2.2.2.2.2.2.2.1 c).2.2.2.2 y180 τ181 eτ181).2 y182 τ183 eτ183).1 c184).2))) (fun c184 => (wi_bipush fLaw_law_998 (wi_ret2 fLaw_law_999 (by decide) (((((h.2.2 c185).2.2.2.2.2.2.2.2.2.2.2.2.2.2.2.2.2.2.2.2.2.2.2.2.2.2.2.2.2.2.2.2.2.2.2.2.2.2.2.2.2.2.2.1 c).2.2.2.2 y180 τ181 eτ181).2 y182 τ183 eτ183).2 c184)))))))))))))))))))))))) (fun c => (wi_iinc3 fLaw_law_1000 trivial ((h.2.2 c185).2.2.2.2.2.2.2.2.2.2.2.2.2.2.2.2.2.2.2.2.2.2.2.2.2.2.2.2.2.2.2.2.2.2.2.2.2.2.2.2.2.2.2.2 c).1 (wi_goto fLaw_law_1001 ((h.2.2 c185).2.2.2.2.2.2.2.2.2.2.2.2.2.2.2.2.2.2.2.2.2.2.2.2.2.2.2.2.2.2.2.2.2.2.2.2.2.2.2.2.2.2.2.2 c).2))))))))))))))))
set_option maxHeartbeats 4000000 in
theorem k_Law_inv {xs : List Int} {d : Nat} {Q : Option w_V → w_M → Prop} (hxs : w_xs xs) (hl : xs.length ≤ 320) (hQ : ∀ σ, Q (some (.inl 1)) σ) : LLaw_law_10 xs (d + 20) Q 0 w_s0 := by
  have el : (w_carr xs 1013).length = xs.length := rfl
  have hin : ∀ j, w_in ((w_carr xs 1013).getD j 0) := fun j => by
    show w_in (xs.getD j 0)
    rw [List.getD_eq_getElem?_getD]
    cases hj : xs[j]? with
    | none => exact w_in0
    | some v => exact hxs.1 v (List.mem_of_getElem? hj)
  have main : ∀ (n : Nat) (v3 : Int) (σ : w_M), INV σ → 0 ≤ v3 → (xs.length : Int) - v3 ≤ 5 * n → LLaw_law_10 xs (d + 20) Q v3 σ := by
    intro n
    induction n with
    | zero => intro v3 σ _ h0 hn; exact bLaw_law_10 ⟨⟨by omega, by omega⟩, fun _ => hQ σ, fun h => by omega⟩
    | succ n ih =>
      intro v3 σ hI h0 hn
      have last : ((w_carr xs 1013).length : Int) - 5 < v3 → Q (some (.inl 1)) σ := fun _ => hQ σ
      have nx : v3 ≤ ((w_carr xs 1013).length : Int) - 5 → ∀ τ : w_M, INV τ → LLaw_law_10 xs (d + 20) Q (v3 + 5) τ := fun h τ hI => ih (v3 + 5) τ hI (by omega) (by omega)
      exact bLaw_law_10 ⟨⟨by omega, by omega⟩, fun h => last h, fun h => ⟨by omega, by omega, ⟨fun _ => ⟨⟨by omega, by omega⟩, by omega, by omega, (i_feed hI), fun y1 τ2 hq => ⟨(e_feed hI hq).1, fun y3 τ4 hr => ⟨⟨by omega, by omega⟩, nx h τ4 (((e_feed hI hq).2 _ _ hr).2)⟩⟩⟩,
    fun _ => ⟨⟨by omega, by omega⟩, by omega, by omega, (i_end hI), fun y5 τ6 hq => ⟨(e_end hI hq).1, fun y7 τ8 hr => ⟨⟨by omega, by omega⟩, nx h τ8 (((e_end hI hq).2 _ _ hr).2)⟩⟩⟩,
    fun _ => ⟨(i_text hI), fun y9 τ10 hq => ⟨(e_text hI hq).1, fun y11 τ12 hr => ⟨⟨by omega, by omega⟩, nx h τ12 (((e_text hI hq).2 _ _ hr).2)⟩⟩⟩,
    fun _ => ⟨(i_fault hI), fun y13 τ14 hq => ⟨(e_fault hI hq).1, fun y15 τ16 hr => ⟨⟨by omega, by omega⟩, nx h τ16 (((e_fault hI hq).2 _ _ hr).2)⟩⟩⟩,
    fun _ => ⟨⟨by omega, by omega⟩, by omega, by omega, (i_rule hI), fun y17 τ18 hq => ⟨(e_rule hI hq).1, fun y19 τ20 hr => ⟨⟨by omega, by omega⟩, nx h τ20 (((e_rule hI hq).2 _ _ hr).2)⟩⟩⟩,
    fun _ => ⟨⟨by omega, by omega⟩, by omega, by omega, ⟨by omega, by omega⟩, by omega, by omega, (i_strip hI), fun y21 τ22 hq => ⟨(e_strip hI hq).1, fun y23 τ24 hr => ⟨⟨by omega, by omega⟩, nx h τ24 (((e_strip hI hq).2 _ _ hr).2)⟩⟩⟩,
    fun _ => ⟨⟨by omega, by omega⟩, by omega, by omega, ⟨by omega, by omega⟩, by omega, by omega, (i_reaper hI), fun y25 τ26 hq => ⟨(e_reaper hI hq).1, fun y27 τ28 hr => ⟨⟨by omega, by omega⟩, nx h τ28 (((e_reaper hI hq).2 _ _ hr).2)⟩⟩⟩,
    fun _ => ⟨⟨by omega, by omega⟩, by omega, by omega, (i_harvest hI), fun y29 τ30 hq => ⟨(e_harvest hI hq).1, fun y31 τ32 hr => ⟨⟨by omega, by omega⟩, nx h τ32 (((e_harvest hI hq).2 _ _ hr).2)⟩⟩⟩,
    fun _ => ⟨⟨by omega, by omega⟩, by omega, by omega, ⟨by omega, by omega⟩, by omega, by omega, (i_send hI), fun y33 τ34 hq => ⟨(e_send hI hq).1, fun y35 τ36 hr => ⟨⟨by omega, by omega⟩, nx h τ36 (((e_send hI hq).2 _ _ hr).2)⟩⟩⟩,
    fun _ => ⟨⟨by omega, by omega⟩, by omega, by omega, ⟨by omega, by omega⟩, by omega, by omega, ⟨by omega, by omega⟩, by omega, by omega, (i_lend hI), fun y37 τ38 hq => ⟨(e_lend hI hq).1, fun y39 τ40 hr => ⟨⟨by omega, by omega⟩, nx h τ40 (((e_lend hI hq).2 _ _ hr).2)⟩⟩⟩,
    fun _ => ⟨⟨by omega, by omega⟩, by omega, by omega, ⟨by omega, by omega⟩, by omega, by omega, (i_whet hI), fun y41 τ42 hq => ⟨(e_whet hI hq).1, fun y43 τ44 hr => ⟨⟨by omega, by omega⟩, nx h τ44 (((e_whet hI hq).2 _ _ hr).2)⟩⟩⟩,
    fun _ => ⟨⟨by omega, by omega⟩, by omega, by omega, ⟨by omega, by omega⟩, by omega, by omega, (i_fill hI), fun y45 τ46 hq => ⟨(e_fill hI hq).1, fun y47 τ48 hr => ⟨⟨by omega, by omega⟩, nx h τ48 (((e_fill hI hq).2 _ _ hr).2)⟩⟩⟩,
    fun _ => ⟨⟨by omega, by omega⟩, by omega, by omega, ⟨by omega, by omega⟩, by omega, by omega, ⟨fun _ => ⟨(i_cloud hI (Or.inl rfl)), fun y49 τ50 hq => ⟨(e_cloud hI (Or.inl rfl) hq).1, fun y51 τ52 hr => ⟨⟨by omega, by omega⟩, nx h τ52 (((e_cloud hI (Or.inl rfl) hq).2 _ _ hr).2)⟩⟩⟩, fun _ => ⟨(i_cloud hI (Or.inr rfl)), fun y53 τ54 hq => ⟨(e_cloud hI (Or.inr rfl) hq).1, fun y55 τ56 hr => ⟨⟨by omega, by omega⟩, nx h τ56 (((e_cloud hI (Or.inr rfl) hq).2 _ _ hr).2)⟩⟩⟩⟩⟩,
    fun _ => ⟨⟨by omega, by omega⟩, by omega, by omega, ⟨by omega, by omega⟩, by omega, by omega, ⟨fun _ => ⟨(i_thistle hI (Or.inl rfl)), fun y58 τ59 hq => ⟨(e_thistle hI (Or.inl rfl) hq).1, fun y60 τ61 hr => ⟨⟨by omega, by omega⟩, nx h τ61 (((e_thistle hI (Or.inl rfl) hq).2 _ _ hr).2)⟩⟩⟩, fun _ => ⟨(i_thistle hI (Or.inr rfl)), fun y62 τ63 hq => ⟨(e_thistle hI (Or.inr rfl) hq).1, fun y64 τ65 hr => ⟨⟨by omega, by omega⟩, nx h τ65 (((e_thistle hI (Or.inr rfl) hq).2 _ _ hr).2)⟩⟩⟩⟩⟩,
    fun _ => ⟨⟨by omega, by omega⟩, by omega, by omega, ⟨by omega, by omega⟩, by omega, by omega, (i_own hI), fun y67 τ68 hq => ⟨(e_own hI hq).1, fun y69 τ70 hr => ⟨⟨by omega, by omega⟩, nx h τ70 (((e_own hI hq).2 _ _ hr).2)⟩⟩⟩,
    fun _ => ⟨⟨by omega, by omega⟩, by omega, by omega, ⟨by omega, by omega⟩, by omega, by omega, (i_grow hI), fun y71 τ72 hq => ⟨(e_grow hI hq).1, fun y73 τ74 hr => ⟨⟨by omega, by omega⟩, nx h τ74 (((e_grow hI hq).2 _ _ hr).2)⟩⟩⟩,
    fun _ => ⟨⟨by omega, by omega⟩, by omega, by omega, (i_go hI), fun y75 τ76 hq => ⟨(e_go hI hq).1, fun y77 τ78 hr => ⟨⟨by omega, by omega⟩, nx h τ78 (((e_go hI hq).2 _ _ hr).2)⟩⟩⟩,
    fun _ => ⟨⟨by omega, by omega⟩, by omega, by omega, ⟨by omega, by omega⟩, by omega, by omega, ⟨by omega, by omega⟩, by omega, by omega, (i_ahead hI), fun y79 τ80 hq => ⟨(e_ahead hI hq).1, fun y81 τ82 hr => ⟨⟨by omega, by omega⟩, nx h τ82 (((e_ahead hI hq).2 _ _ hr).2)⟩⟩⟩,
    fun _ => ⟨⟨by omega, by omega⟩, by omega, by omega, ⟨by omega, by omega⟩, by omega, by omega, (i_stands hI), fun y83 τ84 hq => ⟨(e_stands hI hq).1, fun y85 τ86 hr => ⟨⟨by omega, by omega⟩, nx h τ86 (((e_stands hI hq).2 _ _ hr).2)⟩⟩⟩,
    fun _ => ⟨⟨by omega, by omega⟩, by omega, by omega, (i_done hI), fun y87 τ88 hq => ⟨(e_done hI hq).1, fun y89 τ90 hr => ⟨⟨by omega, by omega⟩, nx h τ90 (((e_done hI hq).2 _ _ hr).2)⟩⟩⟩,
    fun _ => ⟨(i_left hI), fun y91 τ92 hq => ⟨(e_left hI hq).1, fun y93 τ94 hr => ⟨⟨by omega, by omega⟩, nx h τ94 (((e_left hI hq).2 _ _ hr).2)⟩⟩⟩,
    fun _ => ⟨⟨by omega, by omega⟩, by omega, by omega, (i_begin hI), fun y95 τ96 hq => ⟨(e_begin hI hq).1, fun y97 τ98 hr => ⟨⟨by omega, by omega⟩, nx h τ98 (((e_begin hI hq).2 _ _ hr).2)⟩⟩⟩,
    fun _ => ⟨⟨by omega, by omega⟩, by omega, by omega, ⟨by omega, by omega⟩, by omega, by omega, (i_best hI), fun y99 τ100 hq => ⟨(e_best hI hq).1, fun y101 τ102 hr => ⟨⟨by omega, by omega⟩, nx h τ102 (((e_best hI hq).2 _ _ hr).2)⟩⟩⟩,
    fun _ => ⟨⟨by omega, by omega⟩, by omega, by omega, (i_oil hI), fun y103 τ104 hq => ⟨(e_oil hI hq).1, fun y105 τ106 hr => ⟨⟨by omega, by omega⟩, nx h τ106 (((e_oil hI hq).2 _ _ hr).2)⟩⟩⟩,
    fun _ => ⟨⟨by omega, by omega⟩, by omega, by omega, (i_least hI), fun y107 τ108 hq => ⟨(e_least hI hq).1, fun y109 τ110 hr => ⟨⟨by omega, by omega⟩, nx h τ110 (((e_least hI hq).2 _ _ hr).2)⟩⟩⟩,
    fun _ => ⟨⟨by omega, by omega⟩, by omega, by omega, ⟨by omega, by omega⟩, by omega, by omega, (i_luck hI), fun y111 τ112 hq => ⟨(e_luck hI hq).1, fun y113 τ114 hr => ⟨⟨by omega, by omega⟩, nx h τ114 (((e_luck hI hq).2 _ _ hr).2)⟩⟩⟩,
    fun _ => ⟨⟨by omega, by omega⟩, by omega, by omega, ⟨by omega, by omega⟩, by omega, by omega, ⟨by omega, by omega⟩, by omega, by omega, ⟨fun _ => ⟨(i_see hI (Or.inl rfl)), fun y115 τ116 hq => ⟨(e_see hI (Or.inl rfl) hq).1, fun y117 τ118 hr => ⟨⟨by omega, by omega⟩, nx h τ118 (((e_see hI (Or.inl rfl) hq).2 _ _ hr).2)⟩⟩⟩, fun _ => ⟨(i_see hI (Or.inr rfl)), fun y119 τ120 hq => ⟨(e_see hI (Or.inr rfl) hq).1, fun y121 τ122 hr => ⟨⟨by omega, by omega⟩, nx h τ122 (((e_see hI (Or.inr rfl) hq).2 _ _ hr).2)⟩⟩⟩⟩⟩,
    fun _ => ⟨⟨by omega, by omega⟩, by omega, by omega, (i_forget hI), fun y124 τ125 hq => ⟨(e_forget hI hq).1, fun y126 τ127 hr => ⟨⟨by omega, by omega⟩, nx h τ127 (((e_forget hI hq).2 _ _ hr).2)⟩⟩⟩,
    fun _ => ⟨⟨by omega, by omega⟩, by omega, by omega, (i_hare hI), fun y128 τ129 hq => ⟨(e_hare hI hq).1, fun y130 τ131 hr => ⟨⟨by omega, by omega⟩, nx h τ131 (((e_hare hI hq).2 _ _ hr).2)⟩⟩⟩,
    fun _ => ⟨(i_runs hI), fun y132 τ133 hq => ⟨(e_runs hI hq).1, fun y134 τ135 hr => ⟨⟨by omega, by omega⟩, nx h τ135 (((e_runs hI hq).2 _ _ hr).2)⟩⟩⟩,
    fun _ => ⟨⟨by omega, by omega⟩, by omega, by omega, ⟨by omega, by omega⟩, by omega, by omega, (i_look hI), fun y136 τ137 hq => ⟨(e_look hI hq).1, fun y138 τ139 hr => ⟨⟨by omega, by omega⟩, nx h τ139 (((e_look hI hq).2 _ _ hr).2)⟩⟩⟩,
    fun _ => ⟨⟨by omega, by omega⟩, by omega, by omega, ⟨by omega, by omega⟩, by omega, by omega, (i_pay hI), fun y140 τ141 hq => ⟨(e_pay hI hq).1, fun y142 τ143 hr => ⟨⟨by omega, by omega⟩, nx h τ143 (((e_pay hI hq).2 _ _ hr).2)⟩⟩⟩,
    fun _ => ⟨⟨by omega, by omega⟩, by omega, by omega, (i_owe hI), fun y144 τ145 hq => ⟨(e_owe hI hq).1, fun y146 τ147 hr => ⟨⟨by omega, by omega⟩, nx h τ147 (((e_owe hI hq).2 _ _ hr).2)⟩⟩⟩,
    fun _ => ⟨⟨by omega, by omega⟩, by omega, by omega, (i_fits hI), fun y148 τ149 hq => ⟨(e_fits hI hq).1, fun y150 τ151 hr => ⟨⟨by omega, by omega⟩, nx h τ151 (((e_fits hI hq).2 _ _ hr).2)⟩⟩⟩,
    fun _ => ⟨⟨by omega, by omega⟩, by omega, by omega, ⟨by omega, by omega⟩, by omega, by omega, ⟨by omega, by omega⟩, by omega, by omega, (i_drift hI), fun y152 τ153 hq => ⟨(e_drift hI hq).1, fun y154 τ155 hr => ⟨⟨by omega, by omega⟩, nx h τ155 (((e_drift hI hq).2 _ _ hr).2)⟩⟩⟩,
    fun _ => ⟨⟨by omega, by omega⟩, by omega, by omega, (i_keep hI), fun y156 τ157 hq => ⟨(e_keep hI hq).1, fun y158 τ159 hr => ⟨⟨by omega, by omega⟩, nx h τ159 (((e_keep hI hq).2 _ _ hr).2)⟩⟩⟩,
    fun _ => ⟨⟨by omega, by omega⟩, by omega, by omega, (i_back hI), fun y160 τ161 hq => ⟨(e_back hI hq).1, fun y162 τ163 hr => ⟨⟨by omega, by omega⟩, nx h τ163 (((e_back hI hq).2 _ _ hr).2)⟩⟩⟩,
    fun _ => ⟨⟨by omega, by omega⟩, by omega, by omega, ⟨by omega, by omega⟩, by omega, by omega, ⟨by omega, by omega⟩, by omega, by omega, (i_sheet hI), fun y164 τ165 hq => ⟨(e_sheet hI hq).1, fun y166 τ167 hr => ⟨⟨by omega, by omega⟩, nx h τ167 (((e_sheet hI hq).2 _ _ hr).2)⟩⟩⟩,
    fun _ => ⟨⟨by omega, by omega⟩, by omega, by omega, ⟨by omega, by omega⟩, by omega, by omega, ⟨by omega, by omega⟩, by omega, by omega, (i_lay hI), fun y168 τ169 hq => ⟨(e_lay hI hq).1, fun y170 τ171 hr => ⟨⟨by omega, by omega⟩, nx h τ171 (((e_lay hI hq).2 _ _ hr).2)⟩⟩⟩,
    fun _ => ⟨⟨by omega, by omega⟩, by omega, by omega, ⟨by omega, by omega⟩, by omega, by omega, ⟨by omega, by omega⟩, by omega, by omega, ⟨by omega, by omega⟩, by omega, by omega, (i_read hI (hin _)), fun y172 τ173 hq => ⟨(e_read hI (hin _) hq).1, fun y174 τ175 hr => ⟨⟨by omega, by omega⟩, nx h τ175 (((e_read hI (hin _) hq).2 _ _ hr).2)⟩⟩⟩,
    fun _ => ⟨(i_torn hI), fun y176 τ177 hq => ⟨(e_torn hI hq).1, fun y178 τ179 hr => ⟨⟨by omega, by omega⟩, nx h τ179 ((e_torn hI hq).2 _ _ hr)⟩⟩⟩,
    fun _ => ⟨⟨by omega, by omega⟩, by omega, by omega, (i_count hI), fun y180 τ181 hq => ⟨(e_count hI hq).1, fun y182 τ183 hr => ⟨fun _ => ⟨⟨by omega, by omega⟩, nx h τ183 (((e_count hI hq).2 _ _ hr).2)⟩, fun ne => absurd ((e_count hI hq).2 _ _ hr).1 ne⟩⟩⟩,
    fun _ => ⟨⟨by omega, by omega⟩, nx h σ hI⟩⟩⟩⟩
  exact main xs.length 0 w_s0 ⟨s0_CI, s0_MI, s0_S⟩ (by omega) (by omega)
