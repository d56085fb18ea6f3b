/-! One equation for each kind of instruction of the second layer (by program, gen19.py) -/
section WO
variable {E : w_C} {rt nx : Nat} {code : List Instr} {Q : Option w_V → w_M → Prop} {ls : w_L} {st : List w_V} {σ : w_M}
theorem wo_bipush {n : Int} : w_op (.bipush n) E rt code Q nx ls st σ = (w_Ex E rt code Q nx ls (.inl n :: st) σ) := rfl
theorem wo_sipush {n : Int} : w_op (.sipush n) E rt code Q nx ls st σ = (w_Ex E rt code Q nx ls (.inr (.inl n) :: st) σ) := rfl
theorem wo_ldc {k : Nat} : w_op (.ldc k) E rt code Q nx ls st σ = (w_Ex E rt code Q nx ls (.inr (.inr (20, k)) :: st) σ) := rfl
theorem wo_getstatic0  : w_op (.getstatic 0) E rt code Q nx ls st σ = (w_Ex E rt code Q nx ls (.inl 1 :: st) σ) := by simp [w_op, w_opG, w_stat]
theorem wo_getstatic1  : w_op (.getstatic 1) E rt code Q nx ls st σ = (w_Ex E rt code Q nx ls (.inr (.inr (6005, 1010)) :: st) σ) := by simp [w_op, w_opG, w_stat]
theorem wo_getstatic2  : w_op (.getstatic 2) E rt code Q nx ls st σ = (w_Ex E rt code Q nx ls (.inr (.inr (6015, 1011)) :: st) σ) := by simp [w_op, w_opG, w_stat]
theorem wo_getstatic3  : w_op (.getstatic 3) E rt code Q nx ls st σ = (w_Ex E rt code Q nx ls (.inr (.inr (6015, 1012)) :: st) σ) := by simp [w_op, w_opG, w_stat]
theorem wo_iload0 {x : Int} : w_op (.iload 0) E rt code Q nx (some (.inl x) :: ls) st σ = (w_Ex E rt code Q nx (some (.inl x) :: ls) (.inl x :: st) σ) := rfl
theorem wo_istore0 {y : Option w_V} {x : Int} : w_op (.istore 0) E rt code Q nx (y :: ls) (.inl x :: st) σ = (w_Ex E rt code Q nx (some (.inl x) :: ls) st σ) := by simp [w_op, w_opG, w_okp]
theorem wo_lload0 {x : Int} : w_op (.lload 0) E rt code Q nx (some (.inr (.inl x)) :: ls) st σ = (w_Ex E rt code Q nx (some (.inr (.inl x)) :: ls) (.inr (.inl x) :: st) σ) := rfl
theorem wo_lstore0 {y z : Option w_V} {x : Int} : w_op (.lstore 0) E rt code Q nx (y :: z :: ls) (.inr (.inl x) :: st) σ = (w_Ex E rt code Q nx (some (.inr (.inl x)) :: none :: ls) st σ) := by simp [w_op, w_opG, w_okp]
theorem wo_aload0 {x : Nat × Nat} : w_op (.aload 0) E rt code Q nx (some (.inr (.inr x)) :: ls) st σ = (w_Ex E rt code Q nx (some (.inr (.inr x)) :: ls) (.inr (.inr x) :: st) σ) := rfl
theorem wo_astore0 {y : Option w_V} {x : Nat × Nat} : w_op (.astore 0) E rt code Q nx (y :: ls) (.inr (.inr x) :: st) σ = (w_Ex E rt code Q nx (some (.inr (.inr x)) :: ls) st σ) := by simp [w_op, w_opG, w_okp]
theorem wo_iinc0 {x n : Int} : w_op (.iinc 0 n) E rt code Q nx (some (.inl x) :: ls) st σ = (w_in (x + n) ∧ w_Ex E rt code Q nx (some (.inl (x + n)) :: ls) st σ) := by simp [w_op, w_opG, w_okp]
theorem wo_iload1 {l0 : Option w_V} {x : Int} : w_op (.iload 1) E rt code Q nx (l0 :: some (.inl x) :: ls) st σ = (w_Ex E rt code Q nx (l0 :: some (.inl x) :: ls) (.inl x :: st) σ) := rfl
theorem wo_istore1 {l0 : Option w_V} {y : Option w_V} {x : Int} : w_op (.istore 1) E rt code Q nx (l0 :: y :: ls) (.inl x :: st) σ = (w_nl l0 ∧ w_Ex E rt code Q nx (l0 :: some (.inl x) :: ls) st σ) := by simp [w_op, w_opG, w_okp]
theorem wo_lload1 {l0 : Option w_V} {x : Int} : w_op (.lload 1) E rt code Q nx (l0 :: some (.inr (.inl x)) :: ls) st σ = (w_Ex E rt code Q nx (l0 :: some (.inr (.inl x)) :: ls) (.inr (.inl x) :: st) σ) := rfl
theorem wo_lstore1 {l0 : Option w_V} {y z : Option w_V} {x : Int} : w_op (.lstore 1) E rt code Q nx (l0 :: y :: z :: ls) (.inr (.inl x) :: st) σ = (w_nl l0 ∧ w_Ex E rt code Q nx (l0 :: some (.inr (.inl x)) :: none :: ls) st σ) := by simp [w_op, w_opG, w_okp]
theorem wo_aload1 {l0 : Option w_V} {x : Nat × Nat} : w_op (.aload 1) E rt code Q nx (l0 :: some (.inr (.inr x)) :: ls) st σ = (w_Ex E rt code Q nx (l0 :: some (.inr (.inr x)) :: ls) (.inr (.inr x) :: st) σ) := rfl
theorem wo_astore1 {l0 : Option w_V} {y : Option w_V} {x : Nat × Nat} : w_op (.astore 1) E rt code Q nx (l0 :: y :: ls) (.inr (.inr x) :: st) σ = (w_nl l0 ∧ w_Ex E rt code Q nx (l0 :: some (.inr (.inr x)) :: ls) st σ) := by simp [w_op, w_opG, w_okp]
theorem wo_iinc1 {l0 : Option w_V} {x n : Int} : w_op (.iinc 1 n) E rt code Q nx (l0 :: some (.inl x) :: ls) st σ = (w_nl l0 ∧ w_in (x + n) ∧ w_Ex E rt code Q nx (l0 :: some (.inl (x + n)) :: ls) st σ) := by simp [w_op, w_opG, w_okp]
theorem wo_iload2 {l0 l1 : Option w_V} {x : Int} : w_op (.iload 2) E rt code Q nx (l0 :: l1 :: some (.inl x) :: ls) st σ = (w_Ex E rt code Q nx (l0 :: l1 :: some (.inl x) :: ls) (.inl x :: st) σ) := rfl
theorem wo_istore2 {l0 l1 : Option w_V} {y : Option w_V} {x : Int} : w_op (.istore 2) E rt code Q nx (l0 :: l1 :: y :: ls) (.inl x :: st) σ = (w_nl l1 ∧ w_Ex E rt code Q nx (l0 :: l1 :: some (.inl x) :: ls) st σ) := by simp [w_op, w_opG, w_okp]
theorem wo_lload2 {l0 l1 : Option w_V} {x : Int} : w_op (.lload 2) E rt code Q nx (l0 :: l1 :: some (.inr (.inl x)) :: ls) st σ = (w_Ex E rt code Q nx (l0 :: l1 :: some (.inr (.inl x)) :: ls) (.inr (.inl x) :: st) σ) := rfl
theorem wo_lstore2 {l0 l1 : Option w_V} {y z : Option w_V} {x : Int} : w_op (.lstore 2) E rt code Q nx (l0 :: l1 :: y :: z :: ls) (.inr (.inl x) :: st) σ = (w_nl l1 ∧ w_Ex E rt code Q nx (l0 :: l1 :: some (.inr (.inl x)) :: none :: ls) st σ) := by simp [w_op, w_opG, w_okp]
theorem wo_aload2 {l0 l1 : Option w_V} {x : Nat × Nat} : w_op (.aload 2) E rt code Q nx (l0 :: l1 :: some (.inr (.inr x)) :: ls) st σ = (w_Ex E rt code Q nx (l0 :: l1 :: some (.inr (.inr x)) :: ls) (.inr (.inr x) :: st) σ) := rfl
theorem wo_astore2 {l0 l1 : Option w_V} {y : Option w_V} {x : Nat × Nat} : w_op (.astore 2) E rt code Q nx (l0 :: l1 :: y :: ls) (.inr (.inr x) :: st) σ = (w_nl l1 ∧ w_Ex E rt code Q nx (l0 :: l1 :: some (.inr (.inr x)) :: ls) st σ) := by simp [w_op, w_opG, w_okp]
theorem wo_iinc2 {l0 l1 : Option w_V} {x n : Int} : w_op (.iinc 2 n) E rt code Q nx (l0 :: l1 :: some (.inl x) :: ls) st σ = (w_nl l1 ∧ w_in (x + n) ∧ w_Ex E rt code Q nx (l0 :: l1 :: some (.inl (x + n)) :: ls) st σ) := by simp [w_op, w_opG, w_okp]
theorem wo_iload3 {l0 l1 l2 : Option w_V} {x : Int} : w_op (.iload 3) E rt code Q nx (l0 :: l1 :: l2 :: some (.inl x) :: ls) st σ = (w_Ex E rt code Q nx (l0 :: l1 :: l2 :: some (.inl x) :: ls) (.inl x :: st) σ) := rfl
theorem wo_istore3 {l0 l1 l2 : Option w_V} {y : Option w_V} {x : Int} : w_op (.istore 3) E rt code Q nx (l0 :: l1 :: l2 :: y :: ls) (.inl x :: st) σ = (w_nl l2 ∧ w_Ex E rt code Q nx (l0 :: l1 :: l2 :: some (.inl x) :: ls) st σ) := by simp [w_op, w_opG, w_okp]
theorem wo_lload3 {l0 l1 l2 : Option w_V} {x : Int} : w_op (.lload 3) E rt code Q nx (l0 :: l1 :: l2 :: some (.inr (.inl x)) :: ls) st σ = (w_Ex E rt code Q nx (l0 :: l1 :: l2 :: some (.inr (.inl x)) :: ls) (.inr (.inl x) :: st) σ) := rfl
theorem wo_lstore3 {l0 l1 l2 : Option w_V} {y z : Option w_V} {x : Int} : w_op (.lstore 3) E rt code Q nx (l0 :: l1 :: l2 :: y :: z :: ls) (.inr (.inl x) :: st) σ = (w_nl l2 ∧ w_Ex E rt code Q nx (l0 :: l1 :: l2 :: some (.inr (.inl x)) :: none :: ls) st σ) := by simp [w_op, w_opG, w_okp]
theorem wo_aload3 {l0 l1 l2 : Option w_V} {x : Nat × Nat} : w_op (.aload 3) E rt code Q nx (l0 :: l1 :: l2 :: some (.inr (.inr x)) :: ls) st σ = (w_Ex E rt code Q nx (l0 :: l1 :: l2 :: some (.inr (.inr x)) :: ls) (.inr (.inr x) :: st) σ) := rfl
theorem wo_astore3 {l0 l1 l2 : Option w_V} {y : Option w_V} {x : Nat × Nat} : w_op (.astore 3) E rt code Q nx (l0 :: l1 :: l2 :: y :: ls) (.inr (.inr x) :: st) σ = (w_nl l2 ∧ w_Ex E rt code Q nx (l0 :: l1 :: l2 :: some (.inr (.inr x)) :: ls) st σ) := by simp [w_op, w_opG, w_okp]
theorem wo_iinc3 {l0 l1 l2 : Option w_V} {x n : Int} : w_op (.iinc 3 n) E rt code Q nx (l0 :: l1 :: l2 :: some (.inl x) :: ls) st σ = (w_nl l2 ∧ w_in (x + n) ∧ w_Ex E rt code Q nx (l0 :: l1 :: l2 :: some (.inl (x + n)) :: ls) st σ) := by simp [w_op, w_opG, w_okp]
theorem wo_iload4 {l0 l1 l2 l3 : Option w_V} {x : Int} : w_op (.iload 4) E rt code Q nx (l0 :: l1 :: l2 :: l3 :: some (.inl x) :: ls) st σ = (w_Ex E rt code Q nx (l0 :: l1 :: l2 :: l3 :: some (.inl x) :: ls) (.inl x :: st) σ) := rfl
theorem wo_istore4 {l0 l1 l2 l3 : Option w_V} {y : Option w_V} {x : Int} : w_op (.istore 4) E rt code Q nx (l0 :: l1 :: l2 :: l3 :: y :: ls) (.inl x :: st) σ = (w_nl l3 ∧ w_Ex E rt code Q nx (l0 :: l1 :: l2 :: l3 :: some (.inl x) :: ls) st σ) := by simp [w_op, w_opG, w_okp]
theorem wo_lload4 {l0 l1 l2 l3 : Option w_V} {x : Int} : w_op (.lload 4) E rt code Q nx (l0 :: l1 :: l2 :: l3 :: some (.inr (.inl x)) :: ls) st σ = (w_Ex E rt code Q nx (l0 :: l1 :: l2 :: l3 :: some (.inr (.inl x)) :: ls) (.inr (.inl x) :: st) σ) := rfl
theorem wo_lstore4 {l0 l1 l2 l3 : Option w_V} {y z : Option w_V} {x : Int} : w_op (.lstore 4) E rt code Q nx (l0 :: l1 :: l2 :: l3 :: y :: z :: ls) (.inr (.inl x) :: st) σ = (w_nl l3 ∧ w_Ex E rt code Q nx (l0 :: l1 :: l2 :: l3 :: some (.inr (.inl x)) :: none :: ls) st σ) := by simp [w_op, w_opG, w_okp]
theorem wo_aload4 {l0 l1 l2 l3 : Option w_V} {x : Nat × Nat} : w_op (.aload 4) E rt code Q nx (l0 :: l1 :: l2 :: l3 :: some (.inr (.inr x)) :: ls) st σ = (w_Ex E rt code Q nx (l0 :: l1 :: l2 :: l3 :: some (.inr (.inr x)) :: ls) (.inr (.inr x) :: st) σ) := rfl
theorem wo_astore4 {l0 l1 l2 l3 : Option w_V} {y : Option w_V} {x : Nat × Nat} : w_op (.astore 4) E rt code Q nx (l0 :: l1 :: l2 :: l3 :: y :: ls) (.inr (.inr x) :: st) σ = (w_nl l3 ∧ w_Ex E rt code Q nx (l0 :: l1 :: l2 :: l3 :: some (.inr (.inr x)) :: ls) st σ) := by simp [w_op, w_opG, w_okp]
theorem wo_iinc4 {l0 l1 l2 l3 : Option w_V} {x n : Int} : w_op (.iinc 4 n) E rt code Q nx (l0 :: l1 :: l2 :: l3 :: some (.inl x) :: ls) st σ = (w_nl l3 ∧ w_in (x + n) ∧ w_Ex E rt code Q nx (l0 :: l1 :: l2 :: l3 :: some (.inl (x + n)) :: ls) st σ) := by simp [w_op, w_opG, w_okp]
theorem wo_iload5 {l0 l1 l2 l3 l4 : Option w_V} {x : Int} : w_op (.iload 5) E rt code Q nx (l0 :: l1 :: l2 :: l3 :: l4 :: some (.inl x) :: ls) st σ = (w_Ex E rt code Q nx (l0 :: l1 :: l2 :: l3 :: l4 :: some (.inl x) :: ls) (.inl x :: st) σ) := rfl
theorem wo_istore5 {l0 l1 l2 l3 l4 : Option w_V} {y : Option w_V} {x : Int} : w_op (.istore 5) E rt code Q nx (l0 :: l1 :: l2 :: l3 :: l4 :: y :: ls) (.inl x :: st) σ = (w_nl l4 ∧ w_Ex E rt code Q nx (l0 :: l1 :: l2 :: l3 :: l4 :: some (.inl x) :: ls) st σ) := by simp [w_op, w_opG, w_okp]
theorem wo_lload5 {l0 l1 l2 l3 l4 : Option w_V} {x : Int} : w_op (.lload 5) E rt code Q nx (l0 :: l1 :: l2 :: l3 :: l4 :: some (.inr (.inl x)) :: ls) st σ = (w_Ex E rt code Q nx (l0 :: l1 :: l2 :: l3 :: l4 :: some (.inr (.inl x)) :: ls) (.inr (.inl x) :: st) σ) := rfl
theorem wo_lstore5 {l0 l1 l2 l3 l4 : Option w_V} {y z : Option w_V} {x : Int} : w_op (.lstore 5) E rt code Q nx (l0 :: l1 :: l2 :: l3 :: l4 :: y :: z :: ls) (.inr (.inl x) :: st) σ = (w_nl l4 ∧ w_Ex E rt code Q nx (l0 :: l1 :: l2 :: l3 :: l4 :: some (.inr (.inl x)) :: none :: ls) st σ) := by simp [w_op, w_opG, w_okp]
theorem wo_aload5 {l0 l1 l2 l3 l4 : Option w_V} {x : Nat × Nat} : w_op (.aload 5) E rt code Q nx (l0 :: l1 :: l2 :: l3 :: l4 :: some (.inr (.inr x)) :: ls) st σ = (w_Ex E rt code Q nx (l0 :: l1 :: l2 :: l3 :: l4 :: some (.inr (.inr x)) :: ls) (.inr (.inr x) :: st) σ) := rfl
theorem wo_astore5 {l0 l1 l2 l3 l4 : Option w_V} {y : Option w_V} {x : Nat × Nat} : w_op (.astore 5) E rt code Q nx (l0 :: l1 :: l2 :: l3 :: l4 :: y :: ls) (.inr (.inr x) :: st) σ = (w_nl l4 ∧ w_Ex E rt code Q nx (l0 :: l1 :: l2 :: l3 :: l4 :: some (.inr (.inr x)) :: ls) st σ) := by simp [w_op, w_opG, w_okp]
theorem wo_iinc5 {l0 l1 l2 l3 l4 : Option w_V} {x n : Int} : w_op (.iinc 5 n) E rt code Q nx (l0 :: l1 :: l2 :: l3 :: l4 :: some (.inl x) :: ls) st σ = (w_nl l4 ∧ w_in (x + n) ∧ w_Ex E rt code Q nx (l0 :: l1 :: l2 :: l3 :: l4 :: some (.inl (x + n)) :: ls) st σ) := by simp [w_op, w_opG, w_okp]
theorem wo_iload6 {l0 l1 l2 l3 l4 l5 : Option w_V} {x : Int} : w_op (.iload 6) E rt code Q nx (l0 :: l1 :: l2 :: l3 :: l4 :: l5 :: some (.inl x) :: ls) st σ = (w_Ex E rt code Q nx (l0 :: l1 :: l2 :: l3 :: l4 :: l5 :: some (.inl x) :: ls) (.inl x :: st) σ) := rfl
theorem wo_istore6 {l0 l1 l2 l3 l4 l5 : Option w_V} {y : Option w_V} {x : Int} : w_op (.istore 6) E rt code Q nx (l0 :: l1 :: l2 :: l3 :: l4 :: l5 :: y :: ls) (.inl x :: st) σ = (w_nl l5 ∧ w_Ex E rt code Q nx (l0 :: l1 :: l2 :: l3 :: l4 :: l5 :: some (.inl x) :: ls) st σ) := by simp [w_op, w_opG, w_okp]
theorem wo_lload6 {l0 l1 l2 l3 l4 l5 : Option w_V} {x : Int} : w_op (.lload 6) E rt code Q nx (l0 :: l1 :: l2 :: l3 :: l4 :: l5 :: some (.inr (.inl x)) :: ls) st σ = (w_Ex E rt code Q nx (l0 :: l1 :: l2 :: l3 :: l4 :: l5 :: some (.inr (.inl x)) :: ls) (.inr (.inl x) :: st) σ) := rfl
theorem wo_lstore6 {l0 l1 l2 l3 l4 l5 : Option w_V} {y z : Option w_V} {x : Int} : w_op (.lstore 6) E rt code Q nx (l0 :: l1 :: l2 :: l3 :: l4 :: l5 :: y :: z :: ls) (.inr (.inl x) :: st) σ = (w_nl l5 ∧ w_Ex E rt code Q nx (l0 :: l1 :: l2 :: l3 :: l4 :: l5 :: some (.inr (.inl x)) :: none :: ls) st σ) := by simp [w_op, w_opG, w_okp]
theorem wo_aload6 {l0 l1 l2 l3 l4 l5 : Option w_V} {x : Nat × Nat} : w_op (.aload 6) E rt code Q nx (l0 :: l1 :: l2 :: l3 :: l4 :: l5 :: some (.inr (.inr x)) :: ls) st σ = (w_Ex E rt code Q nx (l0 :: l1 :: l2 :: l3 :: l4 :: l5 :: some (.inr (.inr x)) :: ls) (.inr (.inr x) :: st) σ) := rfl
theorem wo_astore6 {l0 l1 l2 l3 l4 l5 : Option w_V} {y : Option w_V} {x : Nat × Nat} : w_op (.astore 6) E rt code Q nx (l0 :: l1 :: l2 :: l3 :: l4 :: l5 :: y :: ls) (.inr (.inr x) :: st) σ = (w_nl l5 ∧ w_Ex E rt code Q nx (l0 :: l1 :: l2 :: l3 :: l4 :: l5 :: some (.inr (.inr x)) :: ls) st σ) := by simp [w_op, w_opG, w_okp]
theorem wo_iinc6 {l0 l1 l2 l3 l4 l5 : Option w_V} {x n : Int} : w_op (.iinc 6 n) E rt code Q nx (l0 :: l1 :: l2 :: l3 :: l4 :: l5 :: some (.inl x) :: ls) st σ = (w_nl l5 ∧ w_in (x + n) ∧ w_Ex E rt code Q nx (l0 :: l1 :: l2 :: l3 :: l4 :: l5 :: some (.inl (x + n)) :: ls) st σ) := by simp [w_op, w_opG, w_okp]
theorem wo_iload7 {l0 l1 l2 l3 l4 l5 l6 : Option w_V} {x : Int} : w_op (.iload 7) E rt code Q nx (l0 :: l1 :: l2 :: l3 :: l4 :: l5 :: l6 :: some (.inl x) :: ls) st σ = (w_Ex E rt code Q nx (l0 :: l1 :: l2 :: l3 :: l4 :: l5 :: l6 :: some (.inl x) :: ls) (.inl x :: st) σ) := rfl
theorem wo_istore7 {l0 l1 l2 l3 l4 l5 l6 : Option w_V} {y : Option w_V} {x : Int} : w_op (.istore 7) E rt code Q nx (l0 :: l1 :: l2 :: l3 :: l4 :: l5 :: l6 :: y :: ls) (.inl x :: st) σ = (w_nl l6 ∧ w_Ex E rt code Q nx (l0 :: l1 :: l2 :: l3 :: l4 :: l5 :: l6 :: some (.inl x) :: ls) st σ) := by simp [w_op, w_opG, w_okp]
theorem wo_lload7 {l0 l1 l2 l3 l4 l5 l6 : Option w_V} {x : Int} : w_op (.lload 7) E rt code Q nx (l0 :: l1 :: l2 :: l3 :: l4 :: l5 :: l6 :: some (.inr (.inl x)) :: ls) st σ = (w_Ex E rt code Q nx (l0 :: l1 :: l2 :: l3 :: l4 :: l5 :: l6 :: some (.inr (.inl x)) :: ls) (.inr (.inl x) :: st) σ) := rfl
theorem wo_lstore7 {l0 l1 l2 l3 l4 l5 l6 : Option w_V} {y z : Option w_V} {x : Int} : w_op (.lstore 7) E rt code Q nx (l0 :: l1 :: l2 :: l3 :: l4 :: l5 :: l6 :: y :: z :: ls) (.inr (.inl x) :: st) σ = (w_nl l6 ∧ w_Ex E rt code Q nx (l0 :: l1 :: l2 :: l3 :: l4 :: l5 :: l6 :: some (.inr (.inl x)) :: none :: ls) st σ) := by simp [w_op, w_opG, w_okp]
theorem wo_aload7 {l0 l1 l2 l3 l4 l5 l6 : Option w_V} {x : Nat × Nat} : w_op (.aload 7) E rt code Q nx (l0 :: l1 :: l2 :: l3 :: l4 :: l5 :: l6 :: some (.inr (.inr x)) :: ls) st σ = (w_Ex E rt code Q nx (l0 :: l1 :: l2 :: l3 :: l4 :: l5 :: l6 :: some (.inr (.inr x)) :: ls) (.inr (.inr x) :: st) σ) := rfl
theorem wo_astore7 {l0 l1 l2 l3 l4 l5 l6 : Option w_V} {y : Option w_V} {x : Nat × Nat} : w_op (.astore 7) E rt code Q nx (l0 :: l1 :: l2 :: l3 :: l4 :: l5 :: l6 :: y :: ls) (.inr (.inr x) :: st) σ = (w_nl l6 ∧ w_Ex E rt code Q nx (l0 :: l1 :: l2 :: l3 :: l4 :: l5 :: l6 :: some (.inr (.inr x)) :: ls) st σ) := by simp [w_op, w_opG, w_okp]
theorem wo_iinc7 {l0 l1 l2 l3 l4 l5 l6 : Option w_V} {x n : Int} : w_op (.iinc 7 n) E rt code Q nx (l0 :: l1 :: l2 :: l3 :: l4 :: l5 :: l6 :: some (.inl x) :: ls) st σ = (w_nl l6 ∧ w_in (x + n) ∧ w_Ex E rt code Q nx (l0 :: l1 :: l2 :: l3 :: l4 :: l5 :: l6 :: some (.inl (x + n)) :: ls) st σ) := by simp [w_op, w_opG, w_okp]
theorem wo_iload8 {l0 l1 l2 l3 l4 l5 l6 l7 : Option w_V} {x : Int} : w_op (.iload 8) E rt code Q nx (l0 :: l1 :: l2 :: l3 :: l4 :: l5 :: l6 :: l7 :: some (.inl x) :: ls) st σ = (w_Ex E rt code Q nx (l0 :: l1 :: l2 :: l3 :: l4 :: l5 :: l6 :: l7 :: some (.inl x) :: ls) (.inl x :: st) σ) := rfl
theorem wo_istore8 {l0 l1 l2 l3 l4 l5 l6 l7 : Option w_V} {y : Option w_V} {x : Int} : w_op (.istore 8) E rt code Q nx (l0 :: l1 :: l2 :: l3 :: l4 :: l5 :: l6 :: l7 :: y :: ls) (.inl x :: st) σ = (w_nl l7 ∧ w_Ex E rt code Q nx (l0 :: l1 :: l2 :: l3 :: l4 :: l5 :: l6 :: l7 :: some (.inl x) :: ls) st σ) := by simp [w_op, w_opG, w_okp]
theorem wo_lload8 {l0 l1 l2 l3 l4 l5 l6 l7 : Option w_V} {x : Int} : w_op (.lload 8) E rt code Q nx (l0 :: l1 :: l2 :: l3 :: l4 :: l5 :: l6 :: l7 :: some (.inr (.inl x)) :: ls) st σ = (w_Ex E rt code Q nx (l0 :: l1 :: l2 :: l3 :: l4 :: l5 :: l6 :: l7 :: some (.inr (.inl x)) :: ls) (.inr (.inl x) :: st) σ) := rfl
theorem wo_lstore8 {l0 l1 l2 l3 l4 l5 l6 l7 : Option w_V} {y z : Option w_V} {x : Int} : w_op (.lstore 8) E rt code Q nx (l0 :: l1 :: l2 :: l3 :: l4 :: l5 :: l6 :: l7 :: y :: z :: ls) (.inr (.inl x) :: st) σ = (w_nl l7 ∧ w_Ex E rt code Q nx (l0 :: l1 :: l2 :: l3 :: l4 :: l5 :: l6 :: l7 :: some (.inr (.inl x)) :: none :: ls) st σ) := by simp [w_op, w_opG, w_okp]
theorem wo_aload8 {l0 l1 l2 l3 l4 l5 l6 l7 : Option w_V} {x : Nat × Nat} : w_op (.aload 8) E rt code Q nx (l0 :: l1 :: l2 :: l3 :: l4 :: l5 :: l6 :: l7 :: some (.inr (.inr x)) :: ls) st σ = (w_Ex E rt code Q nx (l0 :: l1 :: l2 :: l3 :: l4 :: l5 :: l6 :: l7 :: some (.inr (.inr x)) :: ls) (.inr (.inr x) :: st) σ) := rfl
theorem wo_astore8 {l0 l1 l2 l3 l4 l5 l6 l7 : Option w_V} {y : Option w_V} {x : Nat × Nat} : w_op (.astore 8) E rt code Q nx (l0 :: l1 :: l2 :: l3 :: l4 :: l5 :: l6 :: l7 :: y :: ls) (.inr (.inr x) :: st) σ = (w_nl l7 ∧ w_Ex E rt code Q nx (l0 :: l1 :: l2 :: l3 :: l4 :: l5 :: l6 :: l7 :: some (.inr (.inr x)) :: ls) st σ) := by simp [w_op, w_opG, w_okp]
theorem wo_iinc8 {l0 l1 l2 l3 l4 l5 l6 l7 : Option w_V} {x n : Int} : w_op (.iinc 8 n) E rt code Q nx (l0 :: l1 :: l2 :: l3 :: l4 :: l5 :: l6 :: l7 :: some (.inl x) :: ls) st σ = (w_nl l7 ∧ w_in (x + n) ∧ w_Ex E rt code Q nx (l0 :: l1 :: l2 :: l3 :: l4 :: l5 :: l6 :: l7 :: some (.inl (x + n)) :: ls) st σ) := by simp [w_op, w_opG, w_okp]
theorem wo_iload9 {l0 l1 l2 l3 l4 l5 l6 l7 l8 : Option w_V} {x : Int} : w_op (.iload 9) E rt code Q nx (l0 :: l1 :: l2 :: l3 :: l4 :: l5 :: l6 :: l7 :: l8 :: some (.inl x) :: ls) st σ = (w_Ex E rt code Q nx (l0 :: l1 :: l2 :: l3 :: l4 :: l5 :: l6 :: l7 :: l8 :: some (.inl x) :: ls) (.inl x :: st) σ) := rfl
theorem wo_istore9 {l0 l1 l2 l3 l4 l5 l6 l7 l8 : Option w_V} {y : Option w_V} {x : Int} : w_op (.istore 9) E rt code Q nx (l0 :: l1 :: l2 :: l3 :: l4 :: l5 :: l6 :: l7 :: l8 :: y :: ls) (.inl x :: st) σ = (w_nl l8 ∧ w_Ex E rt code Q nx (l0 :: l1 :: l2 :: l3 :: l4 :: l5 :: l6 :: l7 :: l8 :: some (.inl x) :: ls) st σ) := by simp [w_op, w_opG, w_okp]
theorem wo_lload9 {l0 l1 l2 l3 l4 l5 l6 l7 l8 : Option w_V} {x : Int} : w_op (.lload 9) E rt code Q nx (l0 :: l1 :: l2 :: l3 :: l4 :: l5 :: l6 :: l7 :: l8 :: some (.inr (.inl x)) :: ls) st σ = (w_Ex E rt code Q nx (l0 :: l1 :: l2 :: l3 :: l4 :: l5 :: l6 :: l7 :: l8 :: some (.inr (.inl x)) :: ls) (.inr (.inl x) :: st) σ) := rfl
theorem wo_lstore9 {l0 l1 l2 l3 l4 l5 l6 l7 l8 : Option w_V} {y z : Option w_V} {x : Int} : w_op (.lstore 9) E rt code Q nx (l0 :: l1 :: l2 :: l3 :: l4 :: l5 :: l6 :: l7 :: l8 :: y :: z :: ls) (.inr (.inl x) :: st) σ = (w_nl l8 ∧ w_Ex E rt code Q nx (l0 :: l1 :: l2 :: l3 :: l4 :: l5 :: l6 :: l7 :: l8 :: some (.inr (.inl x)) :: none :: ls) st σ) := by simp [w_op, w_opG, w_okp]
theorem wo_aload9 {l0 l1 l2 l3 l4 l5 l6 l7 l8 : Option w_V} {x : Nat × Nat} : w_op (.aload 9) E rt code Q nx (l0 :: l1 :: l2 :: l3 :: l4 :: l5 :: l6 :: l7 :: l8 :: some (.inr (.inr x)) :: ls) st σ = (w_Ex E rt code Q nx (l0 :: l1 :: l2 :: l3 :: l4 :: l5 :: l6 :: l7 :: l8 :: some (.inr (.inr x)) :: ls) (.inr (.inr x) :: st) σ) := rfl
theorem wo_astore9 {l0 l1 l2 l3 l4 l5 l6 l7 l8 : Option w_V} {y : Option w_V} {x : Nat × Nat} : w_op (.astore 9) E rt code Q nx (l0 :: l1 :: l2 :: l3 :: l4 :: l5 :: l6 :: l7 :: l8 :: y :: ls) (.inr (.inr x) :: st) σ = (w_nl l8 ∧ w_Ex E rt code Q nx (l0 :: l1 :: l2 :: l3 :: l4 :: l5 :: l6 :: l7 :: l8 :: some (.inr (.inr x)) :: ls) st σ) := by simp [w_op, w_opG, w_okp]
theorem wo_iinc9 {l0 l1 l2 l3 l4 l5 l6 l7 l8 : Option w_V} {x n : Int} : w_op (.iinc 9 n) E rt code Q nx (l0 :: l1 :: l2 :: l3 :: l4 :: l5 :: l6 :: l7 :: l8 :: some (.inl x) :: ls) st σ = (w_nl l8 ∧ w_in (x + n) ∧ w_Ex E rt code Q nx (l0 :: l1 :: l2 :: l3 :: l4 :: l5 :: l6 :: l7 :: l8 :: some (.inl (x + n)) :: ls) st σ) := by simp [w_op, w_opG, w_okp]
theorem wo_iload10 {l0 l1 l2 l3 l4 l5 l6 l7 l8 l9 : Option w_V} {x : Int} : w_op (.iload 10) E rt code Q nx (l0 :: l1 :: l2 :: l3 :: l4 :: l5 :: l6 :: l7 :: l8 :: l9 :: some (.inl x) :: ls) st σ = (w_Ex E rt code Q nx (l0 :: l1 :: l2 :: l3 :: l4 :: l5 :: l6 :: l7 :: l8 :: l9 :: some (.inl x) :: ls) (.inl x :: st) σ) := rfl
theorem wo_istore10 {l0 l1 l2 l3 l4 l5 l6 l7 l8 l9 : Option w_V} {y : Option w_V} {x : Int} : w_op (.istore 10) E rt code Q nx (l0 :: l1 :: l2 :: l3 :: l4 :: l5 :: l6 :: l7 :: l8 :: l9 :: y :: ls) (.inl x :: st) σ = (w_nl l9 ∧ w_Ex E rt code Q nx (l0 :: l1 :: l2 :: l3 :: l4 :: l5 :: l6 :: l7 :: l8 :: l9 :: some (.inl x) :: ls) st σ) := by simp [w_op, w_opG, w_okp]
theorem wo_lload10 {l0 l1 l2 l3 l4 l5 l6 l7 l8 l9 : Option w_V} {x : Int} : w_op (.lload 10) E rt code Q nx (l0 :: l1 :: l2 :: l3 :: l4 :: l5 :: l6 :: l7 :: l8 :: l9 :: some (.inr (.inl x)) :: ls) st σ = (w_Ex E rt code Q nx (l0 :: l1 :: l2 :: l3 :: l4 :: l5 :: l6 :: l7 :: l8 :: l9 :: some (.inr (.inl x)) :: ls) (.inr (.inl x) :: st) σ) := rfl
theorem wo_lstore10 {l0 l1 l2 l3 l4 l5 l6 l7 l8 l9 : Option w_V} {y z : Option w_V} {x : Int} : w_op (.lstore 10) E rt code Q nx (l0 :: l1 :: l2 :: l3 :: l4 :: l5 :: l6 :: l7 :: l8 :: l9 :: y :: z :: ls) (.inr (.inl x) :: st) σ = (w_nl l9 ∧ w_Ex E rt code Q nx (l0 :: l1 :: l2 :: l3 :: l4 :: l5 :: l6 :: l7 :: l8 :: l9 :: some (.inr (.inl x)) :: none :: ls) st σ) := by simp [w_op, w_opG, w_okp]
theorem wo_aload10 {l0 l1 l2 l3 l4 l5 l6 l7 l8 l9 : Option w_V} {x : Nat × Nat} : w_op (.aload 10) E rt code Q nx (l0 :: l1 :: l2 :: l3 :: l4 :: l5 :: l6 :: l7 :: l8 :: l9 :: some (.inr (.inr x)) :: ls) st σ = (w_Ex E rt code Q nx (l0 :: l1 :: l2 :: l3 :: l4 :: l5 :: l6 :: l7 :: l8 :: l9 :: some (.inr (.inr x)) :: ls) (.inr (.inr x) :: st) σ) := rfl
theorem wo_astore10 {l0 l1 l2 l3 l4 l5 l6 l7 l8 l9 : Option w_V} {y : Option w_V} {x : Nat × Nat} : w_op (.astore 10) E rt code Q nx (l0 :: l1 :: l2 :: l3 :: l4 :: l5 :: l6 :: l7 :: l8 :: l9 :: y :: ls) (.inr (.inr x) :: st) σ = (w_nl l9 ∧ w_Ex E rt code Q nx (l0 :: l1 :: l2 :: l3 :: l4 :: l5 :: l6 :: l7 :: l8 :: l9 :: some (.inr (.inr x)) :: ls) st σ) := by simp [w_op, w_opG, w_okp]
theorem wo_iinc10 {l0 l1 l2 l3 l4 l5 l6 l7 l8 l9 : Option w_V} {x n : Int} : w_op (.iinc 10 n) E rt code Q nx (l0 :: l1 :: l2 :: l3 :: l4 :: l5 :: l6 :: l7 :: l8 :: l9 :: some (.inl x) :: ls) st σ = (w_nl l9 ∧ w_in (x + n) ∧ w_Ex E rt code Q nx (l0 :: l1 :: l2 :: l3 :: l4 :: l5 :: l6 :: l7 :: l8 :: l9 :: some (.inl (x + n)) :: ls) st σ) := by simp [w_op, w_opG, w_okp]
theorem wo_iload11 {l0 l1 l2 l3 l4 l5 l6 l7 l8 l9 l10 : Option w_V} {x : Int} : w_op (.iload 11) E rt code Q nx (l0 :: l1 :: l2 :: l3 :: l4 :: l5 :: l6 :: l7 :: l8 :: l9 :: l10 :: some (.inl x) :: ls) st σ = (w_Ex E rt code Q nx (l0 :: l1 :: l2 :: l3 :: l4 :: l5 :: l6 :: l7 :: l8 :: l9 :: l10 :: some (.inl x) :: ls) (.inl x :: st) σ) := rfl
theorem wo_istore11 {l0 l1 l2 l3 l4 l5 l6 l7 l8 l9 l10 : Option w_V} {y : Option w_V} {x : Int} : w_op (.istore 11) E rt code Q nx (l0 :: l1 :: l2 :: l3 :: l4 :: l5 :: l6 :: l7 :: l8 :: l9 :: l10 :: y :: ls) (.inl x :: st) σ = (w_nl l10 ∧ w_Ex E rt code Q nx (l0 :: l1 :: l2 :: l3 :: l4 :: l5 :: l6 :: l7 :: l8 :: l9 :: l10 :: some (.inl x) :: ls) st σ) := by simp [w_op, w_opG, w_okp]
theorem wo_lload11 {l0 l1 l2 l3 l4 l5 l6 l7 l8 l9 l10 : Option w_V} {x : Int} : w_op (.lload 11) E rt code Q nx (l0 :: l1 :: l2 :: l3 :: l4 :: l5 :: l6 :: l7 :: l8 :: l9 :: l10 :: some (.inr (.inl x)) :: ls) st σ = (w_Ex E rt code Q nx (l0 :: l1 :: l2 :: l3 :: l4 :: l5 :: l6 :: l7 :: l8 :: l9 :: l10 :: some (.inr (.inl x)) :: ls) (.inr (.inl x) :: st) σ) := rfl
theorem wo_lstore11 {l0 l1 l2 l3 l4 l5 l6 l7 l8 l9 l10 : Option w_V} {y z : Option w_V} {x : Int} : w_op (.lstore 11) E rt code Q nx (l0 :: l1 :: l2 :: l3 :: l4 :: l5 :: l6 :: l7 :: l8 :: l9 :: l10 :: y :: z :: ls) (.inr (.inl x) :: st) σ = (w_nl l10 ∧ w_Ex E rt code Q nx (l0 :: l1 :: l2 :: l3 :: l4 :: l5 :: l6 :: l7 :: l8 :: l9 :: l10 :: some (.inr (.inl x)) :: none :: ls) st σ) := by simp [w_op, w_opG, w_okp]
theorem wo_aload11 {l0 l1 l2 l3 l4 l5 l6 l7 l8 l9 l10 : Option w_V} {x : Nat × Nat} : w_op (.aload 11) E rt code Q nx (l0 :: l1 :: l2 :: l3 :: l4 :: l5 :: l6 :: l7 :: l8 :: l9 :: l10 :: some (.inr (.inr x)) :: ls) st σ = (w_Ex E rt code Q nx (l0 :: l1 :: l2 :: l3 :: l4 :: l5 :: l6 :: l7 :: l8 :: l9 :: l10 :: some (.inr (.inr x)) :: ls) (.inr (.inr x) :: st) σ) := rfl
theorem wo_astore11 {l0 l1 l2 l3 l4 l5 l6 l7 l8 l9 l10 : Option w_V} {y : Option w_V} {x : Nat × Nat} : w_op (.astore 11) E rt code Q nx (l0 :: l1 :: l2 :: l3 :: l4 :: l5 :: l6 :: l7 :: l8 :: l9 :: l10 :: y :: ls) (.inr (.inr x) :: st) σ = (w_nl l10 ∧ w_Ex E rt code Q nx (l0 :: l1 :: l2 :: l3 :: l4 :: l5 :: l6 :: l7 :: l8 :: l9 :: l10 :: some (.inr (.inr x)) :: ls) st σ) := by simp [w_op, w_opG, w_okp]
theorem wo_iinc11 {l0 l1 l2 l3 l4 l5 l6 l7 l8 l9 l10 : Option w_V} {x n : Int} : w_op (.iinc 11 n) E rt code Q nx (l0 :: l1 :: l2 :: l3 :: l4 :: l5 :: l6 :: l7 :: l8 :: l9 :: l10 :: some (.inl x) :: ls) st σ = (w_nl l10 ∧ w_in (x + n) ∧ w_Ex E rt code Q nx (l0 :: l1 :: l2 :: l3 :: l4 :: l5 :: l6 :: l7 :: l8 :: l9 :: l10 :: some (.inl (x + n)) :: ls) st σ) := by simp [w_op, w_opG, w_okp]
theorem wo_iload12 {l0 l1 l2 l3 l4 l5 l6 l7 l8 l9 l10 l11 : Option w_V} {x : Int} : w_op (.iload 12) E rt code Q nx (l0 :: l1 :: l2 :: l3 :: l4 :: l5 :: l6 :: l7 :: l8 :: l9 :: l10 :: l11 :: some (.inl x) :: ls) st σ = (w_Ex E rt code Q nx (l0 :: l1 :: l2 :: l3 :: l4 :: l5 :: l6 :: l7 :: l8 :: l9 :: l10 :: l11 :: some (.inl x) :: ls) (.inl x :: st) σ) := rfl
theorem wo_istore12 {l0 l1 l2 l3 l4 l5 l6 l7 l8 l9 l10 l11 : Option w_V} {y : Option w_V} {x : Int} : w_op (.istore 12) E rt code Q nx (l0 :: l1 :: l2 :: l3 :: l4 :: l5 :: l6 :: l7 :: l8 :: l9 :: l10 :: l11 :: y :: ls) (.inl x :: st) σ = (w_nl l11 ∧ w_Ex E rt code Q nx (l0 :: l1 :: l2 :: l3 :: l4 :: l5 :: l6 :: l7 :: l8 :: l9 :: l10 :: l11 :: some (.inl x) :: ls) st σ) := by simp [w_op, w_opG, w_okp]
theorem wo_lload12 {l0 l1 l2 l3 l4 l5 l6 l7 l8 l9 l10 l11 : Option w_V} {x : Int} : w_op (.lload 12) E rt code Q nx (l0 :: l1 :: l2 :: l3 :: l4 :: l5 :: l6 :: l7 :: l8 :: l9 :: l10 :: l11 :: some (.inr (.inl x)) :: ls) st σ = (w_Ex E rt code Q nx (l0 :: l1 :: l2 :: l3 :: l4 :: l5 :: l6 :: l7 :: l8 :: l9 :: l10 :: l11 :: some (.inr (.inl x)) :: ls) (.inr (.inl x) :: st) σ) := rfl
theorem wo_lstore12 {l0 l1 l2 l3 l4 l5 l6 l7 l8 l9 l10 l11 : Option w_V} {y z : Option w_V} {x : Int} : w_op (.lstore 12) E rt code Q nx (l0 :: l1 :: l2 :: l3 :: l4 :: l5 :: l6 :: l7 :: l8 :: l9 :: l10 :: l11 :: y :: z :: ls) (.inr (.inl x) :: st) σ = (w_nl l11 ∧ w_Ex E rt code Q nx (l0 :: l1 :: l2 :: l3 :: l4 :: l5 :: l6 :: l7 :: l8 :: l9 :: l10 :: l11 :: some (.inr (.inl x)) :: none :: ls) st σ) := by simp [w_op, w_opG, w_okp]
theorem wo_aload12 {l0 l1 l2 l3 l4 l5 l6 l7 l8 l9 l10 l11 : Option w_V} {x : Nat × Nat} : w_op (.aload 12) E rt code Q nx (l0 :: l1 :: l2 :: l3 :: l4 :: l5 :: l6 :: l7 :: l8 :: l9 :: l10 :: l11 :: some (.inr (.inr x)) :: ls) st σ = (w_Ex E rt code Q nx (l0 :: l1 :: l2 :: l3 :: l4 :: l5 :: l6 :: l7 :: l8 :: l9 :: l10 :: l11 :: some (.inr (.inr x)) :: ls) (.inr (.inr x) :: st) σ) := rfl
theorem wo_astore12 {l0 l1 l2 l3 l4 l5 l6 l7 l8 l9 l10 l11 : Option w_V} {y : Option w_V} {x : Nat × Nat} : w_op (.astore 12) E rt code Q nx (l0 :: l1 :: l2 :: l3 :: l4 :: l5 :: l6 :: l7 :: l8 :: l9 :: l10 :: l11 :: y :: ls) (.inr (.inr x) :: st) σ = (w_nl l11 ∧ w_Ex E rt code Q nx (l0 :: l1 :: l2 :: l3 :: l4 :: l5 :: l6 :: l7 :: l8 :: l9 :: l10 :: l11 :: some (.inr (.inr x)) :: ls) st σ) := by simp [w_op, w_opG, w_okp]
theorem wo_iinc12 {l0 l1 l2 l3 l4 l5 l6 l7 l8 l9 l10 l11 : Option w_V} {x n : Int} : w_op (.iinc 12 n) E rt code Q nx (l0 :: l1 :: l2 :: l3 :: l4 :: l5 :: l6 :: l7 :: l8 :: l9 :: l10 :: l11 :: some (.inl x) :: ls) st σ = (w_nl l11 ∧ w_in (x + n) ∧ w_Ex E rt code Q nx (l0 :: l1 :: l2 :: l3 :: l4 :: l5 :: l6 :: l7 :: l8 :: l9 :: l10 :: l11 :: some (.inl (x + n)) :: ls) st σ) := by simp [w_op, w_opG, w_okp]
theorem wo_nl_i {x : Int} : w_nl (some (.inl x)) = True := rfl
theorem wo_nl_a {x : Nat × Nat} : w_nl (some (.inr (.inr x))) = True := rfl
theorem wo_nl_n : w_nl none = True := rfl
theorem wo_iadd {x y : Int} : w_op (.iadd) E rt code Q nx ls (.inl y :: .inl x :: st) σ = (w_in (x + y) ∧ w_Ex E rt code Q nx ls (.inl (x + y) :: st) σ) := rfl
theorem wo_isub {x y : Int} : w_op (.isub) E rt code Q nx ls (.inl y :: .inl x :: st) σ = (w_in (x - y) ∧ w_Ex E rt code Q nx ls (.inl (x - y) :: st) σ) := rfl
theorem wo_imul {x y : Int} : w_op (.imul) E rt code Q nx ls (.inl y :: .inl x :: st) σ = (w_in (x * y) ∧ w_Ex E rt code Q nx ls (.inl (x * y) :: st) σ) := rfl
theorem wo_fadd {x y : Int} : w_op (.fadd) E rt code Q nx ls (.inl y :: .inl x :: st) σ = (w_Ex E rt code Q nx ls (.inl (w_wr (x + y)) :: st) σ) := rfl
theorem wo_fsub {x y : Int} : w_op (.fsub) E rt code Q nx ls (.inl y :: .inl x :: st) σ = (w_Ex E rt code Q nx ls (.inl (w_wr (x - y)) :: st) σ) := rfl
theorem wo_fmul {x y : Int} : w_op (.fmul) E rt code Q nx ls (.inl y :: .inl x :: st) σ = (w_Ex E rt code Q nx ls (.inl (w_wr (x * y)) :: st) σ) := rfl
theorem wo_idiv {x y : Int} : w_op (.idiv) E rt code Q nx ls (.inl y :: .inl x :: st) σ = (¬ y = 0 ∧ w_in (x.tdiv y) ∧ w_Ex E rt code Q nx ls (.inl (x.tdiv y) :: st) σ) := rfl
theorem wo_irem {x y : Int} : w_op (.irem) E rt code Q nx ls (.inl y :: .inl x :: st) σ = (¬ y = 0 ∧ w_Ex E rt code Q nx ls (.inl (x.tmod y) :: st) σ) := rfl
theorem wo_iand {x y : Int} : w_op (.iand) E rt code Q nx ls (.inl y :: .inl x :: st) σ = (w_Ex E rt code Q nx ls (.inl (w_and x y) :: st) σ) := rfl
theorem wo_ior {x y : Int} : w_op (.ior) E rt code Q nx ls (.inl y :: .inl x :: st) σ = (w_Ex E rt code Q nx ls (.inl (w_or x y) :: st) σ) := rfl
theorem wo_ixor {x y : Int} : w_op (.ixor) E rt code Q nx ls (.inl y :: .inl x :: st) σ = (w_Ex E rt code Q nx ls (.inl (w_xor x y) :: st) σ) := rfl
theorem wo_ishl {x y : Int} : w_op (.ishl) E rt code Q nx ls (.inl y :: .inl x :: st) σ = (w_Ex E rt code Q nx ls (.inl (w_shl x y) :: st) σ) := rfl
theorem wo_ishr {x y : Int} : w_op (.ishr) E rt code Q nx ls (.inl y :: .inl x :: st) σ = (w_Ex E rt code Q nx ls (.inl (w_shr x y) :: st) σ) := rfl
theorem wo_iushr {x y : Int} : w_op (.iushr) E rt code Q nx ls (.inl y :: .inl x :: st) σ = (w_Ex E rt code Q nx ls (.inl (w_ushr x y) :: st) σ) := rfl
theorem wo_ineg {x : Int} : w_op (.ineg) E rt code Q nx ls (.inl x :: st) σ = (w_in (-x) ∧ w_Ex E rt code Q nx ls (.inl (-x) :: st) σ) := rfl
theorem wo_i2l {x : Int} : w_op (.i2l) E rt code Q nx ls (.inl x :: st) σ = (w_Ex E rt code Q nx ls (.inr (.inl x) :: st) σ) := rfl
theorem wo_i2b {x : Int} : w_op (.i2b) E rt code Q nx ls (.inl x :: st) σ = (w_Ex E rt code Q nx ls (.inl (Int.bmod x 256) :: st) σ) := rfl
theorem wo_i2s {x : Int} : w_op (.i2s) E rt code Q nx ls (.inl x :: st) σ = (w_Ex E rt code Q nx ls (.inl (Int.bmod x 65536) :: st) σ) := rfl
theorem wo_i2c {x : Int} : w_op (.i2c) E rt code Q nx ls (.inl x :: st) σ = ((0 ≤ x ∧ x ≤ 65535) ∧ w_Ex E rt code Q nx ls (.inl x :: st) σ) := rfl
theorem wo_ladd {x y : Int} : w_op (.ladd) E rt code Q nx ls (.inr (.inl y) :: .inr (.inl x) :: st) σ = (w_inl (x + y) ∧ w_Ex E rt code Q nx ls (.inr (.inl (x + y)) :: st) σ) := rfl
theorem wo_lmul {x y : Int} : w_op (.lmul) E rt code Q nx ls (.inr (.inl y) :: .inr (.inl x) :: st) σ = (w_inl (x * y) ∧ w_Ex E rt code Q nx ls (.inr (.inl (x * y)) :: st) σ) := rfl
theorem wo_ldiv {x y : Int} : w_op (.ldiv) E rt code Q nx ls (.inr (.inl y) :: .inr (.inl x) :: st) σ = (¬ y = 0 ∧ w_inl (x.tdiv y) ∧ w_Ex E rt code Q nx ls (.inr (.inl (x.tdiv y)) :: st) σ) := rfl
theorem wo_lrem {x y : Int} : w_op (.lrem) E rt code Q nx ls (.inr (.inl y) :: .inr (.inl x) :: st) σ = (¬ y = 0 ∧ w_Ex E rt code Q nx ls (.inr (.inl (x.tmod y)) :: st) σ) := rfl
theorem wo_lcmp {x y : Int} : w_op (.lcmp) E rt code Q nx ls (.inr (.inl y) :: .inr (.inl x) :: st) σ = (w_Ex E rt code Q nx ls (.inl (if y < x then 1 else if x = y then 0 else -1) :: st) σ) := rfl
theorem wo_dup_i {x : Int} : w_op (.dup) E rt code Q nx ls (.inl x :: st) σ = (w_Ex E rt code Q nx ls (.inl x :: .inl x :: st) σ) := rfl
theorem wo_dup_a {x : Nat × Nat} : w_op (.dup) E rt code Q nx ls (.inr (.inr x) :: st) σ = (w_Ex E rt code Q nx ls (.inr (.inr x) :: .inr (.inr x) :: st) σ) := rfl
theorem wo_dup2 {x : Int} {y : Nat × Nat} : w_op (.dup2) E rt code Q nx ls (.inl x :: .inr (.inr y) :: st) σ = (w_Ex E rt code Q nx ls (.inl x :: .inr (.inr y) :: .inl x :: .inr (.inr y) :: st) σ) := rfl
theorem wo_pop_i {x : Int} : w_op (.pop) E rt code Q nx ls (.inl x :: st) σ = (w_Ex E rt code Q nx ls st σ) := rfl
theorem wo_pop_a {x : Nat × Nat} : w_op (.pop) E rt code Q nx ls (.inr (.inr x) :: st) σ = (w_Ex E rt code Q nx ls st σ) := rfl
theorem wo_iald1003 {j : Int} {a : Nat} : w_op (.iaload) E rt code Q nx ls (.inl j :: .inr (.inr (1003, a)) :: st) σ = (0 ≤ j ∧ j < 3 ∧ w_Ex E rt code Q nx ls (.inl (σ a j.toNat) :: st) σ) := rfl
theorem wo_iast1003 {x j : Int} {a : Nat} : w_op (.iastore) E rt code Q nx ls (.inl x :: .inl j :: .inr (.inr (1003, a)) :: st) σ = (0 ≤ j ∧ j < 3 ∧ w_Ex E rt code Q nx ls st (w_up σ a j.toNat x)) := by simp [w_op, w_opG]
theorem wo_alen1003 {a : Nat} : w_op (.arraylength) E rt code Q nx ls (.inr (.inr (1003, a)) :: st) σ = (w_Ex E rt code Q nx ls (.inl 3 :: st) σ) := rfl
theorem wo_iald1004 {j : Int} {a : Nat} : w_op (.iaload) E rt code Q nx ls (.inl j :: .inr (.inr (1004, a)) :: st) σ = (0 ≤ j ∧ j < 4 ∧ w_Ex E rt code Q nx ls (.inl (σ a j.toNat) :: st) σ) := rfl
theorem wo_iast1004 {x j : Int} {a : Nat} : w_op (.iastore) E rt code Q nx ls (.inl x :: .inl j :: .inr (.inr (1004, a)) :: st) σ = (0 ≤ j ∧ j < 4 ∧ w_Ex E rt code Q nx ls st (w_up σ a j.toNat x)) := by simp [w_op, w_opG]
theorem wo_alen1004 {a : Nat} : w_op (.arraylength) E rt code Q nx ls (.inr (.inr (1004, a)) :: st) σ = (w_Ex E rt code Q nx ls (.inl 4 :: st) σ) := rfl
theorem wo_iald1007 {j : Int} {a : Nat} : w_op (.iaload) E rt code Q nx ls (.inl j :: .inr (.inr (1007, a)) :: st) σ = (0 ≤ j ∧ j < 7 ∧ w_Ex E rt code Q nx ls (.inl (σ a j.toNat) :: st) σ) := rfl
theorem wo_iast1007 {x j : Int} {a : Nat} : w_op (.iastore) E rt code Q nx ls (.inl x :: .inl j :: .inr (.inr (1007, a)) :: st) σ = (0 ≤ j ∧ j < 7 ∧ w_Ex E rt code Q nx ls st (w_up σ a j.toNat x)) := by simp [w_op, w_opG]
theorem wo_alen1007 {a : Nat} : w_op (.arraylength) E rt code Q nx ls (.inr (.inr (1007, a)) :: st) σ = (w_Ex E rt code Q nx ls (.inl 7 :: st) σ) := rfl
theorem wo_iald1008 {j : Int} {a : Nat} : w_op (.iaload) E rt code Q nx ls (.inl j :: .inr (.inr (1008, a)) :: st) σ = (0 ≤ j ∧ j < 8 ∧ w_Ex E rt code Q nx ls (.inl (σ a j.toNat) :: st) σ) := rfl
theorem wo_iast1008 {x j : Int} {a : Nat} : w_op (.iastore) E rt code Q nx ls (.inl x :: .inl j :: .inr (.inr (1008, a)) :: st) σ = (0 ≤ j ∧ j < 8 ∧ w_Ex E rt code Q nx ls st (w_up σ a j.toNat x)) := by simp [w_op, w_opG]
theorem wo_alen1008 {a : Nat} : w_op (.arraylength) E rt code Q nx ls (.inr (.inr (1008, a)) :: st) σ = (w_Ex E rt code Q nx ls (.inl 8 :: st) σ) := rfl
theorem wo_iald1010 {j : Int} {a : Nat} : w_op (.iaload) E rt code Q nx ls (.inl j :: .inr (.inr (1010, a)) :: st) σ = (0 ≤ j ∧ j < 10 ∧ w_Ex E rt code Q nx ls (.inl (σ a j.toNat) :: st) σ) := rfl
theorem wo_iast1010 {x j : Int} {a : Nat} : w_op (.iastore) E rt code Q nx ls (.inl x :: .inl j :: .inr (.inr (1010, a)) :: st) σ = (0 ≤ j ∧ j < 10 ∧ w_Ex E rt code Q nx ls st (w_up σ a j.toNat x)) := by simp [w_op, w_opG]
theorem wo_alen1010 {a : Nat} : w_op (.arraylength) E rt code Q nx ls (.inr (.inr (1010, a)) :: st) σ = (w_Ex E rt code Q nx ls (.inl 10 :: st) σ) := rfl
theorem wo_iald1013 {j : Int} {a : Nat} : w_op (.iaload) E rt code Q nx ls (.inl j :: .inr (.inr (1013, a)) :: st) σ = (0 ≤ j ∧ j < 13 ∧ w_Ex E rt code Q nx ls (.inl (σ a j.toNat) :: st) σ) := rfl
theorem wo_iast1013 {x j : Int} {a : Nat} : w_op (.iastore) E rt code Q nx ls (.inl x :: .inl j :: .inr (.inr (1013, a)) :: st) σ = (0 ≤ j ∧ j < 13 ∧ w_Ex E rt code Q nx ls st (w_up σ a j.toNat x)) := by simp [w_op, w_opG]
theorem wo_alen1013 {a : Nat} : w_op (.arraylength) E rt code Q nx ls (.inr (.inr (1013, a)) :: st) σ = (w_Ex E rt code Q nx ls (.inl 13 :: st) σ) := rfl
theorem wo_iald1020 {j : Int} {a : Nat} : w_op (.iaload) E rt code Q nx ls (.inl j :: .inr (.inr (1020, a)) :: st) σ = (0 ≤ j ∧ j < 20 ∧ w_Ex E rt code Q nx ls (.inl (σ a j.toNat) :: st) σ) := rfl
theorem wo_iast1020 {x j : Int} {a : Nat} : w_op (.iastore) E rt code Q nx ls (.inl x :: .inl j :: .inr (.inr (1020, a)) :: st) σ = (0 ≤ j ∧ j < 20 ∧ w_Ex E rt code Q nx ls st (w_up σ a j.toNat x)) := by simp [w_op, w_opG]
theorem wo_alen1020 {a : Nat} : w_op (.arraylength) E rt code Q nx ls (.inr (.inr (1020, a)) :: st) σ = (w_Ex E rt code Q nx ls (.inl 20 :: st) σ) := rfl
theorem wo_iald1040 {j : Int} {a : Nat} : w_op (.iaload) E rt code Q nx ls (.inl j :: .inr (.inr (1040, a)) :: st) σ = (0 ≤ j ∧ j < 40 ∧ w_Ex E rt code Q nx ls (.inl (σ a j.toNat) :: st) σ) := rfl
theorem wo_iast1040 {x j : Int} {a : Nat} : w_op (.iastore) E rt code Q nx ls (.inl x :: .inl j :: .inr (.inr (1040, a)) :: st) σ = (0 ≤ j ∧ j < 40 ∧ w_Ex E rt code Q nx ls st (w_up σ a j.toNat x)) := by simp [w_op, w_opG]
theorem wo_alen1040 {a : Nat} : w_op (.arraylength) E rt code Q nx ls (.inr (.inr (1040, a)) :: st) σ = (w_Ex E rt code Q nx ls (.inl 40 :: st) σ) := rfl
theorem wo_iald1049 {j : Int} {a : Nat} : w_op (.iaload) E rt code Q nx ls (.inl j :: .inr (.inr (1049, a)) :: st) σ = (0 ≤ j ∧ j < 49 ∧ w_Ex E rt code Q nx ls (.inl (σ a j.toNat) :: st) σ) := rfl
theorem wo_iast1049 {x j : Int} {a : Nat} : w_op (.iastore) E rt code Q nx ls (.inl x :: .inl j :: .inr (.inr (1049, a)) :: st) σ = (0 ≤ j ∧ j < 49 ∧ w_Ex E rt code Q nx ls st (w_up σ a j.toNat x)) := by simp [w_op, w_opG]
theorem wo_alen1049 {a : Nat} : w_op (.arraylength) E rt code Q nx ls (.inr (.inr (1049, a)) :: st) σ = (w_Ex E rt code Q nx ls (.inl 49 :: st) σ) := rfl
theorem wo_iald1082 {j : Int} {a : Nat} : w_op (.iaload) E rt code Q nx ls (.inl j :: .inr (.inr (1082, a)) :: st) σ = (0 ≤ j ∧ j < 82 ∧ w_Ex E rt code Q nx ls (.inl (σ a j.toNat) :: st) σ) := rfl
theorem wo_iast1082 {x j : Int} {a : Nat} : w_op (.iastore) E rt code Q nx ls (.inl x :: .inl j :: .inr (.inr (1082, a)) :: st) σ = (0 ≤ j ∧ j < 82 ∧ w_Ex E rt code Q nx ls st (w_up σ a j.toNat x)) := by simp [w_op, w_opG]
theorem wo_alen1082 {a : Nat} : w_op (.arraylength) E rt code Q nx ls (.inr (.inr (1082, a)) :: st) σ = (w_Ex E rt code Q nx ls (.inl 82 :: st) σ) := rfl
theorem wo_iald1160 {j : Int} {a : Nat} : w_op (.iaload) E rt code Q nx ls (.inl j :: .inr (.inr (1160, a)) :: st) σ = (0 ≤ j ∧ j < 160 ∧ w_Ex E rt code Q nx ls (.inl (σ a j.toNat) :: st) σ) := rfl
theorem wo_iast1160 {x j : Int} {a : Nat} : w_op (.iastore) E rt code Q nx ls (.inl x :: .inl j :: .inr (.inr (1160, a)) :: st) σ = (0 ≤ j ∧ j < 160 ∧ w_Ex E rt code Q nx ls st (w_up σ a j.toNat x)) := by simp [w_op, w_opG]
theorem wo_alen1160 {a : Nat} : w_op (.arraylength) E rt code Q nx ls (.inr (.inr (1160, a)) :: st) σ = (w_Ex E rt code Q nx ls (.inl 160 :: st) σ) := rfl
theorem wo_iald1246 {j : Int} {a : Nat} : w_op (.iaload) E rt code Q nx ls (.inl j :: .inr (.inr (1246, a)) :: st) σ = (0 ≤ j ∧ j < 246 ∧ w_Ex E rt code Q nx ls (.inl (σ a j.toNat) :: st) σ) := rfl
theorem wo_iast1246 {x j : Int} {a : Nat} : w_op (.iastore) E rt code Q nx ls (.inl x :: .inl j :: .inr (.inr (1246, a)) :: st) σ = (0 ≤ j ∧ j < 246 ∧ w_Ex E rt code Q nx ls st (w_up σ a j.toNat x)) := by simp [w_op, w_opG]
theorem wo_alen1246 {a : Nat} : w_op (.arraylength) E rt code Q nx ls (.inr (.inr (1246, a)) :: st) σ = (w_Ex E rt code Q nx ls (.inl 246 :: st) σ) := rfl
theorem wo_iald6005 {j : Int} {a : Nat} : w_op (.iaload) E rt code Q nx ls (.inl j :: .inr (.inr (6005, a)) :: st) σ = (0 ≤ j ∧ j < (w_carr E.1 a).length ∧ w_Ex E rt code Q nx ls (.inl ((w_carr E.1 a).getD j.toNat 0) :: st) σ) := by simp [w_op, w_opG]
theorem wo_iald6015 {j : Int} {a : Nat} : w_op (.iaload) E rt code Q nx ls (.inl j :: .inr (.inr (6015, a)) :: st) σ = (0 ≤ j ∧ j < (w_carr E.1 a).length ∧ w_Ex E rt code Q nx ls (.inl ((w_carr E.1 a).getD j.toNat 0) :: st) σ) := by simp [w_op, w_opG]
theorem wo_iald8000 {j : Int} {a : Nat} : w_op (.iaload) E rt code Q nx ls (.inl j :: .inr (.inr (8000, a)) :: st) σ = (0 ≤ j ∧ j < (w_carr E.1 a).length ∧ w_Ex E rt code Q nx ls (.inl ((w_carr E.1 a).getD j.toNat 0) :: st) σ) := by simp [w_op, w_opG]
theorem wo_alen6005 {a : Nat} : w_op (.arraylength) E rt code Q nx ls (.inr (.inr (6005, a)) :: st) σ = (w_Ex E rt code Q nx ls (.inl (w_carr E.1 a).length :: st) σ) := by simp [w_op, w_opG]
theorem wo_alen6015 {a : Nat} : w_op (.arraylength) E rt code Q nx ls (.inr (.inr (6015, a)) :: st) σ = (w_Ex E rt code Q nx ls (.inl (w_carr E.1 a).length :: st) σ) := by simp [w_op, w_opG]
theorem wo_alen8000 {a : Nat} : w_op (.arraylength) E rt code Q nx ls (.inr (.inr (8000, a)) :: st) σ = (w_Ex E rt code Q nx ls (.inl (w_carr E.1 a).length :: st) σ) := by simp [w_op, w_opG]
theorem wo_alen7000 {a : Nat} : w_op (.arraylength) E rt code Q nx ls (.inr (.inr (7000, a)) :: st) σ = (w_Ex E rt code Q nx ls (.inl (w_carr E.1 a).length :: st) σ) := by simp [w_op, w_opG]
theorem wo_bald2160 {j : Int} {a : Nat} : w_op (.baload) E rt code Q nx ls (.inl j :: .inr (.inr (2160, a)) :: st) σ = (0 ≤ j ∧ j < 160 ∧ w_Ex E rt code Q nx ls (.inl (σ a j.toNat) :: st) σ) := rfl
theorem wo_bald3002 {j : Int} {a : Nat} : w_op (.baload) E rt code Q nx ls (.inl j :: .inr (.inr (3002, a)) :: st) σ = (0 ≤ j ∧ j < 2 ∧ w_Ex E rt code Q nx ls (.inl (σ a j.toNat) :: st) σ) := rfl
theorem wo_bald7000 {j : Int} {a : Nat} : w_op (.baload) E rt code Q nx ls (.inl j :: .inr (.inr (7000, a)) :: st) σ = (0 ≤ j ∧ j < (w_carr E.1 a).length ∧ w_Ex E rt code Q nx ls (.inl ((w_carr E.1 a).getD j.toNat 0) :: st) σ) := by simp [w_op, w_opG]
theorem wo_bast2160 {x j : Int} {a : Nat} : w_op (.bastore) E rt code Q nx ls (.inl x :: .inl j :: .inr (.inr (2160, a)) :: st) σ = ((-128 ≤ x ∧ x ≤ 127) ∧ 0 ≤ j ∧ j < 160 ∧ w_Ex E rt code Q nx ls st (w_up σ a j.toNat x)) := by simp [w_op, w_opG]
theorem wo_bast3002 {x j : Int} {a : Nat} : w_op (.bastore) E rt code Q nx ls (.inl x :: .inl j :: .inr (.inr (3002, a)) :: st) σ = ((x = 0 ∨ x = 1) ∧ 0 ≤ j ∧ j < 2 ∧ w_Ex E rt code Q nx ls st (w_up σ a j.toNat x)) := by simp [w_op, w_opG]
theorem wo_aald4002 {j : Int} {a : Nat} : w_op (.aaload) E rt code Q nx ls (.inl j :: .inr (.inr (4002, a)) :: st) σ = (0 ≤ j ∧ j < 2 ∧ w_Ex E rt code Q nx ls (.inr (.inr (3, 88 + 17 * j.toNat)) :: st) σ) := rfl
theorem wo_aald10410 {j : Int} {a : Nat} : w_op (.aaload) E rt code Q nx ls (.inl j :: .inr (.inr (10410, a)) :: st) σ = (0 ≤ j ∧ j < 4 ∧ w_Ex E rt code Q nx ls (.inr (.inr (1010, a + 1 + j.toNat)) :: st) σ) := by simp [w_op, w_opG]
theorem wo_aald11220 {j : Int} {a : Nat} : w_op (.aaload) E rt code Q nx ls (.inl j :: .inr (.inr (11220, a)) :: st) σ = (0 ≤ j ∧ j < 12 ∧ w_Ex E rt code Q nx ls (.inr (.inr (1020, a + 1 + j.toNat)) :: st) σ) := by simp [w_op, w_opG]
theorem wo_aald10707 {j : Int} {a : Nat} : w_op (.aaload) E rt code Q nx ls (.inl j :: .inr (.inr (10707, a)) :: st) σ = (0 ≤ j ∧ j < 7 ∧ w_Ex E rt code Q nx ls (.inr (.inr (1007, a + 1 + j.toNat)) :: st) σ) := by simp [w_op, w_opG]
theorem wo_aald10440 {j : Int} {a : Nat} : w_op (.aaload) E rt code Q nx ls (.inl j :: .inr (.inr (10440, a)) :: st) σ = (0 ≤ j ∧ j < 4 ∧ w_Ex E rt code Q nx ls (.inr (.inr (1040, a + 1 + j.toNat)) :: st) σ) := by simp [w_op, w_opG]
theorem wr_0 : w_rf 0 = some (1, 1) := rfl
theorem wo_getf0 {a : Nat} : w_op (.getfield 0) E rt code Q nx ls (.inr (.inr (0, a)) :: st) σ = (w_Ex E rt code Q nx ls (.inr (.inr (1, a + 1)) :: st) σ) := by simp [w_op, w_opG, wr_0]
theorem wr_1 : w_rf 1 = some (3, 13) := rfl
theorem wo_getf1 {a : Nat} : w_op (.getfield 1) E rt code Q nx ls (.inr (.inr (0, a)) :: st) σ = (w_Ex E rt code Q nx ls (.inr (.inr (3, a + 13)) :: st) σ) := by simp [w_op, w_opG, wr_1]
theorem wr_2 : w_rf 2 = some (2, 14) := rfl
theorem wo_getf2 {a : Nat} : w_op (.getfield 2) E rt code Q nx ls (.inr (.inr (0, a)) :: st) σ = (w_Ex E rt code Q nx ls (.inr (.inr (2, a + 14)) :: st) σ) := by simp [w_op, w_opG, wr_2]
theorem wr_3 : w_rf 3 = some (4002, 30) := rfl
theorem wo_getf3 {a : Nat} : w_op (.getfield 3) E rt code Q nx ls (.inr (.inr (0, a)) :: st) σ = (w_Ex E rt code Q nx ls (.inr (.inr (4002, a + 30)) :: st) σ) := by simp [w_op, w_opG, wr_3]
theorem wr_4 : w_rf 4 = some (6, 31) := rfl
theorem wo_getf4 {a : Nat} : w_op (.getfield 4) E rt code Q nx ls (.inr (.inr (0, a)) :: st) σ = (w_Ex E rt code Q nx ls (.inr (.inr (6, a + 31)) :: st) σ) := by simp [w_op, w_opG, wr_4]
theorem wr_5 : w_rf 5 = some (7, 63) := rfl
theorem wo_getf5 {a : Nat} : w_op (.getfield 5) E rt code Q nx ls (.inr (.inr (0, a)) :: st) σ = (w_Ex E rt code Q nx ls (.inr (.inr (7, a + 63)) :: st) σ) := by simp [w_op, w_opG, wr_5]
theorem wr_6 : w_rf 6 = some (8, 80) := rfl
theorem wo_getf6 {a : Nat} : w_op (.getfield 6) E rt code Q nx ls (.inr (.inr (0, a)) :: st) σ = (w_Ex E rt code Q nx ls (.inr (.inr (8, a + 80)) :: st) σ) := by simp [w_op, w_opG, wr_6]
theorem wr_7 : w_rf 7 = none := rfl
theorem wo_getf7 {a : Nat} : w_op (.getfield 7) E rt code Q nx ls (.inr (.inr (0, a)) :: st) σ = (w_Ex E rt code Q nx ls (.inl (σ a 7) :: st) σ) := by simp [w_op, w_opG, wr_7]
theorem wo_putf7 {a : Nat} {x : Int} : w_op (.putfield 7) E rt code Q nx ls (.inl x :: .inr (.inr (0, a)) :: st) σ = (w_Ex E rt code Q nx ls st (w_up σ a 7 x)) := by simp [w_op, w_opG, wr_7]
theorem wr_8 : w_rf 8 = none := rfl
theorem wo_getf8 {a : Nat} : w_op (.getfield 8) E rt code Q nx ls (.inr (.inr (0, a)) :: st) σ = (w_Ex E rt code Q nx ls (.inl (σ a 8) :: st) σ) := by simp [w_op, w_opG, wr_8]
theorem wo_putf8 {a : Nat} {x : Int} : w_op (.putfield 8) E rt code Q nx ls (.inl x :: .inr (.inr (0, a)) :: st) σ = (w_Ex E rt code Q nx ls st (w_up σ a 8 x)) := by simp [w_op, w_opG, wr_8]
theorem wr_9 : w_rf 9 = none := rfl
theorem wo_getf9 {a : Nat} : w_op (.getfield 9) E rt code Q nx ls (.inr (.inr (0, a)) :: st) σ = (w_Ex E rt code Q nx ls (.inl (σ a 9) :: st) σ) := by simp [w_op, w_opG, wr_9]
theorem wo_putf9 {a : Nat} {x : Int} : w_op (.putfield 9) E rt code Q nx ls (.inl x :: .inr (.inr (0, a)) :: st) σ = (w_Ex E rt code Q nx ls st (w_up σ a 9 x)) := by simp [w_op, w_opG, wr_9]
theorem wr_100 : w_rf 100 = some (2160, 1) := rfl
theorem wo_getf100 {a : Nat} : w_op (.getfield 100) E rt code Q nx ls (.inr (.inr (1, a)) :: st) σ = (w_Ex E rt code Q nx ls (.inr (.inr (2160, a + 1)) :: st) σ) := by simp [w_op, w_opG, wr_100]
theorem wr_101 : w_rf 101 = none := rfl
theorem wo_getf101 {a : Nat} : w_op (.getfield 101) E rt code Q nx ls (.inr (.inr (1, a)) :: st) σ = (w_Ex E rt code Q nx ls (.inl (σ a 1) :: st) σ) := by simp [w_op, w_opG, wr_101]
theorem wo_putf101 {a : Nat} {x : Int} : w_op (.putfield 101) E rt code Q nx ls (.inl x :: .inr (.inr (1, a)) :: st) σ = (w_Ex E rt code Q nx ls st (w_up σ a 1 x)) := by simp [w_op, w_opG, wr_101]
theorem wr_102 : w_rf 102 = some (2, 2) := rfl
theorem wo_getf102 {a : Nat} : w_op (.getfield 102) E rt code Q nx ls (.inr (.inr (1, a)) :: st) σ = (w_Ex E rt code Q nx ls (.inr (.inr (2, a + 2)) :: st) σ) := by simp [w_op, w_opG, wr_102]
theorem wr_103 : w_rf 103 = none := rfl
theorem wo_getf103 {a : Nat} : w_op (.getfield 103) E rt code Q nx ls (.inr (.inr (1, a)) :: st) σ = (w_Ex E rt code Q nx ls (.inl (σ a 3) :: st) σ) := by simp [w_op, w_opG, wr_103]
theorem wo_putf103 {a : Nat} {x : Int} : w_op (.putfield 103) E rt code Q nx ls (.inl x :: .inr (.inr (1, a)) :: st) σ = (w_Ex E rt code Q nx ls st (w_up σ a 3 x)) := by simp [w_op, w_opG, wr_103]
theorem wr_104 : w_rf 104 = none := rfl
theorem wo_getf104 {a : Nat} : w_op (.getfield 104) E rt code Q nx ls (.inr (.inr (1, a)) :: st) σ = (w_Ex E rt code Q nx ls (.inl (σ a 4) :: st) σ) := by simp [w_op, w_opG, wr_104]
theorem wo_putf104 {a : Nat} {x : Int} : w_op (.putfield 104) E rt code Q nx ls (.inl x :: .inr (.inr (1, a)) :: st) σ = (w_Ex E rt code Q nx ls st (w_up σ a 4 x)) := by simp [w_op, w_opG, wr_104]
theorem wr_105 : w_rf 105 = none := rfl
theorem wo_getf105 {a : Nat} : w_op (.getfield 105) E rt code Q nx ls (.inr (.inr (1, a)) :: st) σ = (w_Ex E rt code Q nx ls (.inl (σ a 5) :: st) σ) := by simp [w_op, w_opG, wr_105]
theorem wo_putf105 {a : Nat} {x : Int} : w_op (.putfield 105) E rt code Q nx ls (.inl x :: .inr (.inr (1, a)) :: st) σ = ((x = 0 ∨ x = 1) ∧ w_Ex E rt code Q nx ls st (w_up σ a 5 x)) := by simp [w_op, w_opG, wr_105]
theorem wr_106 : w_rf 106 = some (1003, 11) := rfl
theorem wo_getf106 {a : Nat} : w_op (.getfield 106) E rt code Q nx ls (.inr (.inr (1, a)) :: st) σ = (w_Ex E rt code Q nx ls (.inr (.inr (1003, a + 11)) :: st) σ) := by simp [w_op, w_opG, wr_106]
theorem wr_107 : w_rf 107 = none := rfl
theorem wo_getf107 {a : Nat} : w_op (.getfield 107) E rt code Q nx ls (.inr (.inr (1, a)) :: st) σ = (w_Ex E rt code Q nx ls (.inl (σ a 7) :: st) σ) := by simp [w_op, w_opG, wr_107]
theorem wo_putf107 {a : Nat} {x : Int} : w_op (.putfield 107) E rt code Q nx ls (.inl x :: .inr (.inr (1, a)) :: st) σ = (w_Ex E rt code Q nx ls st (w_up σ a 7 x)) := by simp [w_op, w_opG, wr_107]
theorem wr_108 : w_rf 108 = none := rfl
theorem wo_getf108 {a : Nat} : w_op (.getfield 108) E rt code Q nx ls (.inr (.inr (1, a)) :: st) σ = (w_Ex E rt code Q nx ls (.inl (σ a 8) :: st) σ) := by simp [w_op, w_opG, wr_108]
theorem wo_putf108 {a : Nat} {x : Int} : w_op (.putfield 108) E rt code Q nx ls (.inl x :: .inr (.inr (1, a)) :: st) σ = (w_Ex E rt code Q nx ls st (w_up σ a 8 x)) := by simp [w_op, w_opG, wr_108]
theorem wr_109 : w_rf 109 = none := rfl
theorem wo_getf109 {a : Nat} : w_op (.getfield 109) E rt code Q nx ls (.inr (.inr (1, a)) :: st) σ = (w_Ex E rt code Q nx ls (.inl (σ a 9) :: st) σ) := by simp [w_op, w_opG, wr_109]
theorem wo_putf109 {a : Nat} {x : Int} : w_op (.putfield 109) E rt code Q nx ls (.inl x :: .inr (.inr (1, a)) :: st) σ = (w_Ex E rt code Q nx ls st (w_up σ a 9 x)) := by simp [w_op, w_opG, wr_109]
theorem wr_110 : w_rf 110 = none := rfl
theorem wo_getf110 {a : Nat} : w_op (.getfield 110) E rt code Q nx ls (.inr (.inr (1, a)) :: st) σ = (w_Ex E rt code Q nx ls (.inl (σ a 10) :: st) σ) := by simp [w_op, w_opG, wr_110]
theorem wo_putf110 {a : Nat} {x : Int} : w_op (.putfield 110) E rt code Q nx ls (.inl x :: .inr (.inr (1, a)) :: st) σ = (w_Ex E rt code Q nx ls st (w_up σ a 10 x)) := by simp [w_op, w_opG, wr_110]
theorem wr_200 : w_rf 200 = none := rfl
theorem wo_getf200 {a : Nat} : w_op (.getfield 200) E rt code Q nx ls (.inr (.inr (2, a)) :: st) σ = (w_Ex E rt code Q nx ls (.inl (σ a 0) :: st) σ) := by simp [w_op, w_opG, wr_200]
theorem wo_putf200 {a : Nat} {x : Int} : w_op (.putfield 200) E rt code Q nx ls (.inl x :: .inr (.inr (2, a)) :: st) σ = (w_Ex E rt code Q nx ls st (w_up σ a 0 x)) := by simp [w_op, w_opG, wr_200]
theorem wr_201 : w_rf 201 = none := rfl
theorem wo_getf201 {a : Nat} : w_op (.getfield 201) E rt code Q nx ls (.inr (.inr (2, a)) :: st) σ = (w_Ex E rt code Q nx ls (.inl (σ a 1) :: st) σ) := by simp [w_op, w_opG, wr_201]
theorem wo_putf201 {a : Nat} {x : Int} : w_op (.putfield 201) E rt code Q nx ls (.inl x :: .inr (.inr (2, a)) :: st) σ = (w_Ex E rt code Q nx ls st (w_up σ a 1 x)) := by simp [w_op, w_opG, wr_201]
theorem wr_202 : w_rf 202 = none := rfl
theorem wo_getf202 {a : Nat} : w_op (.getfield 202) E rt code Q nx ls (.inr (.inr (2, a)) :: st) σ = (w_Ex E rt code Q nx ls (.inl (σ a 2) :: st) σ) := by simp [w_op, w_opG, wr_202]
theorem wo_putf202 {a : Nat} {x : Int} : w_op (.putfield 202) E rt code Q nx ls (.inl x :: .inr (.inr (2, a)) :: st) σ = (w_Ex E rt code Q nx ls st (w_up σ a 2 x)) := by simp [w_op, w_opG, wr_202]
theorem wr_203 : w_rf 203 = none := rfl
theorem wo_getf203 {a : Nat} : w_op (.getfield 203) E rt code Q nx ls (.inr (.inr (2, a)) :: st) σ = (w_Ex E rt code Q nx ls (.inl (σ a 3) :: st) σ) := by simp [w_op, w_opG, wr_203]
theorem wo_putf203 {a : Nat} {x : Int} : w_op (.putfield 203) E rt code Q nx ls (.inl x :: .inr (.inr (2, a)) :: st) σ = (w_Ex E rt code Q nx ls st (w_up σ a 3 x)) := by simp [w_op, w_opG, wr_203]
theorem wr_204 : w_rf 204 = none := rfl
theorem wo_getf204 {a : Nat} : w_op (.getfield 204) E rt code Q nx ls (.inr (.inr (2, a)) :: st) σ = (w_Ex E rt code Q nx ls (.inl (σ a 4) :: st) σ) := by simp [w_op, w_opG, wr_204]
theorem wo_putf204 {a : Nat} {x : Int} : w_op (.putfield 204) E rt code Q nx ls (.inl x :: .inr (.inr (2, a)) :: st) σ = (w_Ex E rt code Q nx ls st (w_up σ a 4 x)) := by simp [w_op, w_opG, wr_204]
theorem wr_205 : w_rf 205 = none := rfl
theorem wo_getf205 {a : Nat} : w_op (.getfield 205) E rt code Q nx ls (.inr (.inr (2, a)) :: st) σ = (w_Ex E rt code Q nx ls (.inl (σ a 5) :: st) σ) := by simp [w_op, w_opG, wr_205]
theorem wo_putf205 {a : Nat} {x : Int} : w_op (.putfield 205) E rt code Q nx ls (.inl x :: .inr (.inr (2, a)) :: st) σ = (w_Ex E rt code Q nx ls st (w_up σ a 5 x)) := by simp [w_op, w_opG, wr_205]
theorem wr_206 : w_rf 206 = none := rfl
theorem wo_getf206 {a : Nat} : w_op (.getfield 206) E rt code Q nx ls (.inr (.inr (2, a)) :: st) σ = (w_Ex E rt code Q nx ls (.inl (σ a 6) :: st) σ) := by simp [w_op, w_opG, wr_206]
theorem wo_putf206 {a : Nat} {x : Int} : w_op (.putfield 206) E rt code Q nx ls (.inl x :: .inr (.inr (2, a)) :: st) σ = (w_Ex E rt code Q nx ls st (w_up σ a 6 x)) := by simp [w_op, w_opG, wr_206]
theorem wr_207 : w_rf 207 = some (1007, 1) := rfl
theorem wo_getf207 {a : Nat} : w_op (.getfield 207) E rt code Q nx ls (.inr (.inr (2, a)) :: st) σ = (w_Ex E rt code Q nx ls (.inr (.inr (1007, a + 1)) :: st) σ) := by simp [w_op, w_opG, wr_207]
theorem wr_208 : w_rf 208 = some (1007, 2) := rfl
theorem wo_getf208 {a : Nat} : w_op (.getfield 208) E rt code Q nx ls (.inr (.inr (2, a)) :: st) σ = (w_Ex E rt code Q nx ls (.inr (.inr (1007, a + 2)) :: st) σ) := by simp [w_op, w_opG, wr_208]
theorem wr_209 : w_rf 209 = some (1004, 3) := rfl
theorem wo_getf209 {a : Nat} : w_op (.getfield 209) E rt code Q nx ls (.inr (.inr (2, a)) :: st) σ = (w_Ex E rt code Q nx ls (.inr (.inr (1004, a + 3)) :: st) σ) := by simp [w_op, w_opG, wr_209]
theorem wr_210 : w_rf 210 = some (1004, 4) := rfl
theorem wo_getf210 {a : Nat} : w_op (.getfield 210) E rt code Q nx ls (.inr (.inr (2, a)) :: st) σ = (w_Ex E rt code Q nx ls (.inr (.inr (1004, a + 4)) :: st) σ) := by simp [w_op, w_opG, wr_210]
theorem wr_211 : w_rf 211 = some (1004, 5) := rfl
theorem wo_getf211 {a : Nat} : w_op (.getfield 211) E rt code Q nx ls (.inr (.inr (2, a)) :: st) σ = (w_Ex E rt code Q nx ls (.inr (.inr (1004, a + 5)) :: st) σ) := by simp [w_op, w_opG, wr_211]
theorem wr_212 : w_rf 212 = some (1004, 6) := rfl
theorem wo_getf212 {a : Nat} : w_op (.getfield 212) E rt code Q nx ls (.inr (.inr (2, a)) :: st) σ = (w_Ex E rt code Q nx ls (.inr (.inr (1004, a + 6)) :: st) σ) := by simp [w_op, w_opG, wr_212]
theorem wr_213 : w_rf 213 = some (1004, 7) := rfl
theorem wo_getf213 {a : Nat} : w_op (.getfield 213) E rt code Q nx ls (.inr (.inr (2, a)) :: st) σ = (w_Ex E rt code Q nx ls (.inr (.inr (1004, a + 7)) :: st) σ) := by simp [w_op, w_opG, wr_213]
theorem wr_214 : w_rf 214 = some (1004, 8) := rfl
theorem wo_getf214 {a : Nat} : w_op (.getfield 214) E rt code Q nx ls (.inr (.inr (2, a)) :: st) σ = (w_Ex E rt code Q nx ls (.inr (.inr (1004, a + 8)) :: st) σ) := by simp [w_op, w_opG, wr_214]
theorem wr_215 : w_rf 215 = none := rfl
theorem wo_getf215 {a : Nat} : w_op (.getfield 215) E rt code Q nx ls (.inr (.inr (2, a)) :: st) σ = (w_Ex E rt code Q nx ls (.inl (σ a 15) :: st) σ) := by simp [w_op, w_opG, wr_215]
theorem wo_putf215 {a : Nat} {x : Int} : w_op (.putfield 215) E rt code Q nx ls (.inl x :: .inr (.inr (2, a)) :: st) σ = (w_Ex E rt code Q nx ls st (w_up σ a 15 x)) := by simp [w_op, w_opG, wr_215]
theorem wr_300 : w_rf 300 = some (2, 1) := rfl
theorem wo_getf300 {a : Nat} : w_op (.getfield 300) E rt code Q nx ls (.inr (.inr (3, a)) :: st) σ = (w_Ex E rt code Q nx ls (.inr (.inr (2, a + 1)) :: st) σ) := by simp [w_op, w_opG, wr_300]
theorem wr_301 : w_rf 301 = some (4, 10) := rfl
theorem wo_getf301 {a : Nat} : w_op (.getfield 301) E rt code Q nx ls (.inr (.inr (3, a)) :: st) σ = (w_Ex E rt code Q nx ls (.inr (.inr (4, a + 10)) :: st) σ) := by simp [w_op, w_opG, wr_301]
theorem wr_302 : w_rf 302 = some (5, 14) := rfl
theorem wo_getf302 {a : Nat} : w_op (.getfield 302) E rt code Q nx ls (.inr (.inr (3, a)) :: st) σ = (w_Ex E rt code Q nx ls (.inr (.inr (5, a + 14)) :: st) σ) := by simp [w_op, w_opG, wr_302]
theorem wr_400 : w_rf 400 = none := rfl
theorem wo_getf400 {a : Nat} : w_op (.getfield 400) E rt code Q nx ls (.inr (.inr (4, a)) :: st) σ = (w_Ex E rt code Q nx ls (.inl (σ a 0) :: st) σ) := by simp [w_op, w_opG, wr_400]
theorem wo_putf400 {a : Nat} {x : Int} : w_op (.putfield 400) E rt code Q nx ls (.inl x :: .inr (.inr (4, a)) :: st) σ = (w_Ex E rt code Q nx ls st (w_up σ a 0 x)) := by simp [w_op, w_opG, wr_400]
theorem wr_401 : w_rf 401 = some (1008, 1) := rfl
theorem wo_getf401 {a : Nat} : w_op (.getfield 401) E rt code Q nx ls (.inr (.inr (4, a)) :: st) σ = (w_Ex E rt code Q nx ls (.inr (.inr (1008, a + 1)) :: st) σ) := by simp [w_op, w_opG, wr_401]
theorem wr_402 : w_rf 402 = some (1008, 2) := rfl
theorem wo_getf402 {a : Nat} : w_op (.getfield 402) E rt code Q nx ls (.inr (.inr (4, a)) :: st) σ = (w_Ex E rt code Q nx ls (.inr (.inr (1008, a + 2)) :: st) σ) := by simp [w_op, w_opG, wr_402]
theorem wr_403 : w_rf 403 = some (1008, 3) := rfl
theorem wo_getf403 {a : Nat} : w_op (.getfield 403) E rt code Q nx ls (.inr (.inr (4, a)) :: st) σ = (w_Ex E rt code Q nx ls (.inr (.inr (1008, a + 3)) :: st) σ) := by simp [w_op, w_opG, wr_403]
theorem wr_500 : w_rf 500 = none := rfl
theorem wo_getf500 {a : Nat} : w_op (.getfield 500) E rt code Q nx ls (.inr (.inr (5, a)) :: st) σ = (w_Ex E rt code Q nx ls (.inl (σ a 0) :: st) σ) := by simp [w_op, w_opG, wr_500]
theorem wo_putf500 {a : Nat} {x : Int} : w_op (.putfield 500) E rt code Q nx ls (.inl x :: .inr (.inr (5, a)) :: st) σ = (w_Ex E rt code Q nx ls st (w_up σ a 0 x)) := by simp [w_op, w_opG, wr_500]
theorem wr_501 : w_rf 501 = some (1004, 1) := rfl
theorem wo_getf501 {a : Nat} : w_op (.getfield 501) E rt code Q nx ls (.inr (.inr (5, a)) :: st) σ = (w_Ex E rt code Q nx ls (.inr (.inr (1004, a + 1)) :: st) σ) := by simp [w_op, w_opG, wr_501]
theorem wr_502 : w_rf 502 = some (1004, 2) := rfl
theorem wo_getf502 {a : Nat} : w_op (.getfield 502) E rt code Q nx ls (.inr (.inr (5, a)) :: st) σ = (w_Ex E rt code Q nx ls (.inr (.inr (1004, a + 2)) :: st) σ) := by simp [w_op, w_opG, wr_502]
theorem wr_600 : w_rf 600 = some (2, 1) := rfl
theorem wo_getf600 {a : Nat} : w_op (.getfield 600) E rt code Q nx ls (.inr (.inr (6, a)) :: st) σ = (w_Ex E rt code Q nx ls (.inr (.inr (2, a + 1)) :: st) σ) := by simp [w_op, w_opG, wr_600]
theorem wr_601 : w_rf 601 = some (1004, 10) := rfl
theorem wo_getf601 {a : Nat} : w_op (.getfield 601) E rt code Q nx ls (.inr (.inr (6, a)) :: st) σ = (w_Ex E rt code Q nx ls (.inr (.inr (1004, a + 10)) :: st) σ) := by simp [w_op, w_opG, wr_601]
theorem wr_602 : w_rf 602 = some (1004, 11) := rfl
theorem wo_getf602 {a : Nat} : w_op (.getfield 602) E rt code Q nx ls (.inr (.inr (6, a)) :: st) σ = (w_Ex E rt code Q nx ls (.inr (.inr (1004, a + 11)) :: st) σ) := by simp [w_op, w_opG, wr_602]
theorem wr_603 : w_rf 603 = some (1004, 12) := rfl
theorem wo_getf603 {a : Nat} : w_op (.getfield 603) E rt code Q nx ls (.inr (.inr (6, a)) :: st) σ = (w_Ex E rt code Q nx ls (.inr (.inr (1004, a + 12)) :: st) σ) := by simp [w_op, w_opG, wr_603]
theorem wr_604 : w_rf 604 = some (1013, 13) := rfl
theorem wo_getf604 {a : Nat} : w_op (.getfield 604) E rt code Q nx ls (.inr (.inr (6, a)) :: st) σ = (w_Ex E rt code Q nx ls (.inr (.inr (1013, a + 13)) :: st) σ) := by simp [w_op, w_opG, wr_604]
theorem wr_605 : w_rf 605 = some (10410, 14) := rfl
theorem wo_getf605 {a : Nat} : w_op (.getfield 605) E rt code Q nx ls (.inr (.inr (6, a)) :: st) σ = (w_Ex E rt code Q nx ls (.inr (.inr (10410, a + 14)) :: st) σ) := by simp [w_op, w_opG, wr_605]
theorem wr_606 : w_rf 606 = some (11220, 19) := rfl
theorem wo_getf606 {a : Nat} : w_op (.getfield 606) E rt code Q nx ls (.inr (.inr (6, a)) :: st) σ = (w_Ex E rt code Q nx ls (.inr (.inr (11220, a + 19)) :: st) σ) := by simp [w_op, w_opG, wr_606]
theorem wr_700 : w_rf 700 = none := rfl
theorem wo_getf700 {a : Nat} : w_op (.getfield 700) E rt code Q nx ls (.inr (.inr (7, a)) :: st) σ = (w_Ex E rt code Q nx ls (.inl (σ a 0) :: st) σ) := by simp [w_op, w_opG, wr_700]
theorem wo_putf700 {a : Nat} {x : Int} : w_op (.putfield 700) E rt code Q nx ls (.inl x :: .inr (.inr (7, a)) :: st) σ = (w_Ex E rt code Q nx ls st (w_up σ a 0 x)) := by simp [w_op, w_opG, wr_700]
theorem wr_701 : w_rf 701 = some (10707, 1) := rfl
theorem wo_getf701 {a : Nat} : w_op (.getfield 701) E rt code Q nx ls (.inr (.inr (7, a)) :: st) σ = (w_Ex E rt code Q nx ls (.inr (.inr (10707, a + 1)) :: st) σ) := by simp [w_op, w_opG, wr_701]
theorem wr_702 : w_rf 702 = some (10707, 9) := rfl
theorem wo_getf702 {a : Nat} : w_op (.getfield 702) E rt code Q nx ls (.inr (.inr (7, a)) :: st) σ = (w_Ex E rt code Q nx ls (.inr (.inr (10707, a + 9)) :: st) σ) := by simp [w_op, w_opG, wr_702]
theorem wr_800 : w_rf 800 = some (10440, 1) := rfl
theorem wo_getf800 {a : Nat} : w_op (.getfield 800) E rt code Q nx ls (.inr (.inr (8, a)) :: st) σ = (w_Ex E rt code Q nx ls (.inr (.inr (10440, a + 1)) :: st) σ) := by simp [w_op, w_opG, wr_800]
theorem wr_801 : w_rf 801 = some (1004, 6) := rfl
theorem wo_getf801 {a : Nat} : w_op (.getfield 801) E rt code Q nx ls (.inr (.inr (8, a)) :: st) σ = (w_Ex E rt code Q nx ls (.inr (.inr (1004, a + 6)) :: st) σ) := by simp [w_op, w_opG, wr_801]
theorem wr_802 : w_rf 802 = some (1004, 7) := rfl
theorem wo_getf802 {a : Nat} : w_op (.getfield 802) E rt code Q nx ls (.inr (.inr (8, a)) :: st) σ = (w_Ex E rt code Q nx ls (.inr (.inr (1004, a + 7)) :: st) σ) := by simp [w_op, w_opG, wr_802]
theorem wr_900 : w_rf 900 = some (1246, 1) := rfl
theorem wo_getf900 {a : Nat} : w_op (.getfield 900) E rt code Q nx ls (.inr (.inr (9, a)) :: st) σ = (w_Ex E rt code Q nx ls (.inr (.inr (1246, a + 1)) :: st) σ) := by simp [w_op, w_opG, wr_900]
theorem wr_901 : w_rf 901 = some (1082, 2) := rfl
theorem wo_getf901 {a : Nat} : w_op (.getfield 901) E rt code Q nx ls (.inr (.inr (9, a)) :: st) σ = (w_Ex E rt code Q nx ls (.inr (.inr (1082, a + 2)) :: st) σ) := by simp [w_op, w_opG, wr_901]
theorem wr_902 : w_rf 902 = some (3002, 3) := rfl
theorem wo_getf902 {a : Nat} : w_op (.getfield 902) E rt code Q nx ls (.inr (.inr (9, a)) :: st) σ = (w_Ex E rt code Q nx ls (.inr (.inr (3002, a + 3)) :: st) σ) := by simp [w_op, w_opG, wr_902]
theorem wr_903 : w_rf 903 = none := rfl
theorem wo_getf903 {a : Nat} : w_op (.getfield 903) E rt code Q nx ls (.inr (.inr (9, a)) :: st) σ = (w_Ex E rt code Q nx ls (.inl (σ a 3) :: st) σ) := by simp [w_op, w_opG, wr_903]
theorem wo_putf903 {a : Nat} {x : Int} : w_op (.putfield 903) E rt code Q nx ls (.inl x :: .inr (.inr (9, a)) :: st) σ = (w_Ex E rt code Q nx ls st (w_up σ a 3 x)) := by simp [w_op, w_opG, wr_903]
theorem wr_904 : w_rf 904 = none := rfl
theorem wo_getf904 {a : Nat} : w_op (.getfield 904) E rt code Q nx ls (.inr (.inr (9, a)) :: st) σ = (w_Ex E rt code Q nx ls (.inl (σ a 4) :: st) σ) := by simp [w_op, w_opG, wr_904]
theorem wo_putf904 {a : Nat} {x : Int} : w_op (.putfield 904) E rt code Q nx ls (.inl x :: .inr (.inr (9, a)) :: st) σ = (w_Ex E rt code Q nx ls st (w_up σ a 4 x)) := by simp [w_op, w_opG, wr_904]
theorem wr_905 : w_rf 905 = none := rfl
theorem wo_getf905 {a : Nat} : w_op (.getfield 905) E rt code Q nx ls (.inr (.inr (9, a)) :: st) σ = (w_Ex E rt code Q nx ls (.inl (σ a 5) :: st) σ) := by simp [w_op, w_opG, wr_905]
theorem wo_putf905 {a : Nat} {x : Int} : w_op (.putfield 905) E rt code Q nx ls (.inl x :: .inr (.inr (9, a)) :: st) σ = (w_Ex E rt code Q nx ls st (w_up σ a 5 x)) := by simp [w_op, w_opG, wr_905]
theorem wr_906 : w_rf 906 = some (1082, 4) := rfl
theorem wo_getf906 {a : Nat} : w_op (.getfield 906) E rt code Q nx ls (.inr (.inr (9, a)) :: st) σ = (w_Ex E rt code Q nx ls (.inr (.inr (1082, a + 4)) :: st) σ) := by simp [w_op, w_opG, wr_906]
theorem wr_907 : w_rf 907 = none := rfl
theorem wo_getf907 {a : Nat} : w_op (.getfield 907) E rt code Q nx ls (.inr (.inr (9, a)) :: st) σ = (w_Ex E rt code Q nx ls (.inl (σ a 7) :: st) σ) := by simp [w_op, w_opG, wr_907]
theorem wo_putf907 {a : Nat} {x : Int} : w_op (.putfield 907) E rt code Q nx ls (.inl x :: .inr (.inr (9, a)) :: st) σ = (w_Ex E rt code Q nx ls st (w_up σ a 7 x)) := by simp [w_op, w_opG, wr_907]
theorem wr_908 : w_rf 908 = none := rfl
theorem wo_getf908 {a : Nat} : w_op (.getfield 908) E rt code Q nx ls (.inr (.inr (9, a)) :: st) σ = (w_Ex E rt code Q nx ls (.inl (σ a 8) :: st) σ) := by simp [w_op, w_opG, wr_908]
theorem wo_putf908 {a : Nat} {x : Int} : w_op (.putfield 908) E rt code Q nx ls (.inl x :: .inr (.inr (9, a)) :: st) σ = (w_Ex E rt code Q nx ls st (w_up σ a 8 x)) := by simp [w_op, w_opG, wr_908]
theorem wr_909 : w_rf 909 = none := rfl
theorem wo_getf909 {a : Nat} : w_op (.getfield 909) E rt code Q nx ls (.inr (.inr (9, a)) :: st) σ = (w_Ex E rt code Q nx ls (.inl (σ a 9) :: st) σ) := by simp [w_op, w_opG, wr_909]
theorem wo_putf909 {a : Nat} {x : Int} : w_op (.putfield 909) E rt code Q nx ls (.inl x :: .inr (.inr (9, a)) :: st) σ = (w_Ex E rt code Q nx ls st (w_up σ a 9 x)) := by simp [w_op, w_opG, wr_909]
theorem wr_910 : w_rf 910 = none := rfl
theorem wo_getf910 {a : Nat} : w_op (.getfield 910) E rt code Q nx ls (.inr (.inr (9, a)) :: st) σ = (w_Ex E rt code Q nx ls (.inl (σ a 10) :: st) σ) := by simp [w_op, w_opG, wr_910]
theorem wo_putf910 {a : Nat} {x : Int} : w_op (.putfield 910) E rt code Q nx ls (.inl x :: .inr (.inr (9, a)) :: st) σ = ((x = 0 ∨ x = 1) ∧ w_Ex E rt code Q nx ls st (w_up σ a 10 x)) := by simp [w_op, w_opG, wr_910]
theorem wr_911 : w_rf 911 = none := rfl
theorem wo_getf911 {a : Nat} : w_op (.getfield 911) E rt code Q nx ls (.inr (.inr (9, a)) :: st) σ = (w_Ex E rt code Q nx ls (.inl (σ a 11) :: st) σ) := by simp [w_op, w_opG, wr_911]
theorem wo_putf911 {a : Nat} {x : Int} : w_op (.putfield 911) E rt code Q nx ls (.inl x :: .inr (.inr (9, a)) :: st) σ = (w_Ex E rt code Q nx ls st (w_up σ a 11 x)) := by simp [w_op, w_opG, wr_911]
theorem wr_912 : w_rf 912 = none := rfl
theorem wo_getf912 {a : Nat} : w_op (.getfield 912) E rt code Q nx ls (.inr (.inr (9, a)) :: st) σ = (w_Ex E rt code Q nx ls (.inl (σ a 12) :: st) σ) := by simp [w_op, w_opG, wr_912]
theorem wo_putf912 {a : Nat} {x : Int} : w_op (.putfield 912) E rt code Q nx ls (.inl x :: .inr (.inr (9, a)) :: st) σ = (w_Ex E rt code Q nx ls st (w_up σ a 12 x)) := by simp [w_op, w_opG, wr_912]
theorem wr_913 : w_rf 913 = none := rfl
theorem wo_getf913 {a : Nat} : w_op (.getfield 913) E rt code Q nx ls (.inr (.inr (9, a)) :: st) σ = (w_Ex E rt code Q nx ls (.inl (σ a 13) :: st) σ) := by simp [w_op, w_opG, wr_913]
theorem wo_putf913 {a : Nat} {x : Int} : w_op (.putfield 913) E rt code Q nx ls (.inl x :: .inr (.inr (9, a)) :: st) σ = (w_Ex E rt code Q nx ls st (w_up σ a 13 x)) := by simp [w_op, w_opG, wr_913]
theorem wr_914 : w_rf 914 = some (1160, 5) := rfl
theorem wo_getf914 {a : Nat} : w_op (.getfield 914) E rt code Q nx ls (.inr (.inr (9, a)) :: st) σ = (w_Ex E rt code Q nx ls (.inr (.inr (1160, a + 5)) :: st) σ) := by simp [w_op, w_opG, wr_914]
theorem wr_915 : w_rf 915 = none := rfl
theorem wo_getf915 {a : Nat} : w_op (.getfield 915) E rt code Q nx ls (.inr (.inr (9, a)) :: st) σ = (w_Ex E rt code Q nx ls (.inl (σ a 15) :: st) σ) := by simp [w_op, w_opG, wr_915]
theorem wo_putf915 {a : Nat} {x : Int} : w_op (.putfield 915) E rt code Q nx ls (.inl x :: .inr (.inr (9, a)) :: st) σ = (w_Ex E rt code Q nx ls st (w_up σ a 15 x)) := by simp [w_op, w_opG, wr_915]
theorem wr_916 : w_rf 916 = none := rfl
theorem wo_getf916 {a : Nat} : w_op (.getfield 916) E rt code Q nx ls (.inr (.inr (9, a)) :: st) σ = (w_Ex E rt code Q nx ls (.inl (σ a 16) :: st) σ) := by simp [w_op, w_opG, wr_916]
theorem wo_putf916 {a : Nat} {x : Int} : w_op (.putfield 916) E rt code Q nx ls (.inl x :: .inr (.inr (9, a)) :: st) σ = (w_Ex E rt code Q nx ls st (w_up σ a 16 x)) := by simp [w_op, w_opG, wr_916]
theorem wr_917 : w_rf 917 = none := rfl
theorem wo_getf917 {a : Nat} : w_op (.getfield 917) E rt code Q nx ls (.inr (.inr (9, a)) :: st) σ = (w_Ex E rt code Q nx ls (.inl (σ a 17) :: st) σ) := by simp [w_op, w_opG, wr_917]
theorem wo_putf917 {a : Nat} {x : Int} : w_op (.putfield 917) E rt code Q nx ls (.inl x :: .inr (.inr (9, a)) :: st) σ = (w_Ex E rt code Q nx ls st (w_up σ a 17 x)) := by simp [w_op, w_opG, wr_917]
theorem wr_918 : w_rf 918 = none := rfl
theorem wo_getf918 {a : Nat} : w_op (.getfield 918) E rt code Q nx ls (.inr (.inr (9, a)) :: st) σ = (w_Ex E rt code Q nx ls (.inl (σ a 18) :: st) σ) := by simp [w_op, w_opG, wr_918]
theorem wo_putf918 {a : Nat} {x : Int} : w_op (.putfield 918) E rt code Q nx ls (.inl x :: .inr (.inr (9, a)) :: st) σ = (w_Ex E rt code Q nx ls st (w_up σ a 18 x)) := by simp [w_op, w_opG, wr_918]
theorem wr_919 : w_rf 919 = none := rfl
theorem wo_getf919 {a : Nat} : w_op (.getfield 919) E rt code Q nx ls (.inr (.inr (9, a)) :: st) σ = (w_Ex E rt code Q nx ls (.inl (σ a 19) :: st) σ) := by simp [w_op, w_opG, wr_919]
theorem wo_putf919 {a : Nat} {x : Int} : w_op (.putfield 919) E rt code Q nx ls (.inl x :: .inr (.inr (9, a)) :: st) σ = (w_Ex E rt code Q nx ls st (w_up σ a 19 x)) := by simp [w_op, w_opG, wr_919]
theorem wr_920 : w_rf 920 = none := rfl
theorem wo_getf920 {a : Nat} : w_op (.getfield 920) E rt code Q nx ls (.inr (.inr (9, a)) :: st) σ = (w_Ex E rt code Q nx ls (.inl (σ a 20) :: st) σ) := by simp [w_op, w_opG, wr_920]
theorem wo_putf920 {a : Nat} {x : Int} : w_op (.putfield 920) E rt code Q nx ls (.inl x :: .inr (.inr (9, a)) :: st) σ = (w_Ex E rt code Q nx ls st (w_up σ a 20 x)) := by simp [w_op, w_opG, wr_920]
theorem wr_921 : w_rf 921 = none := rfl
theorem wo_getf921 {a : Nat} : w_op (.getfield 921) E rt code Q nx ls (.inr (.inr (9, a)) :: st) σ = (w_Ex E rt code Q nx ls (.inl (σ a 21) :: st) σ) := by simp [w_op, w_opG, wr_921]
theorem wo_putf921 {a : Nat} {x : Int} : w_op (.putfield 921) E rt code Q nx ls (.inl x :: .inr (.inr (9, a)) :: st) σ = (w_Ex E rt code Q nx ls st (w_up σ a 21 x)) := by simp [w_op, w_opG, wr_921]
theorem wr_922 : w_rf 922 = some (1049, 6) := rfl
theorem wo_getf922 {a : Nat} : w_op (.getfield 922) E rt code Q nx ls (.inr (.inr (9, a)) :: st) σ = (w_Ex E rt code Q nx ls (.inr (.inr (1049, a + 6)) :: st) σ) := by simp [w_op, w_opG, wr_922]
theorem wr_923 : w_rf 923 = some (1049, 7) := rfl
theorem wo_getf923 {a : Nat} : w_op (.getfield 923) E rt code Q nx ls (.inr (.inr (9, a)) :: st) σ = (w_Ex E rt code Q nx ls (.inr (.inr (1049, a + 7)) :: st) σ) := by simp [w_op, w_opG, wr_923]
theorem wr_924 : w_rf 924 = some (1004, 8) := rfl
theorem wo_getf924 {a : Nat} : w_op (.getfield 924) E rt code Q nx ls (.inr (.inr (9, a)) :: st) σ = (w_Ex E rt code Q nx ls (.inr (.inr (1004, a + 8)) :: st) σ) := by simp [w_op, w_opG, wr_924]
theorem wr_925 : w_rf 925 = some (1004, 9) := rfl
theorem wo_getf925 {a : Nat} : w_op (.getfield 925) E rt code Q nx ls (.inr (.inr (9, a)) :: st) σ = (w_Ex E rt code Q nx ls (.inr (.inr (1004, a + 9)) :: st) σ) := by simp [w_op, w_opG, wr_925]
theorem wr_926 : w_rf 926 = some (1160, 10) := rfl
theorem wo_getf926 {a : Nat} : w_op (.getfield 926) E rt code Q nx ls (.inr (.inr (9, a)) :: st) σ = (w_Ex E rt code Q nx ls (.inr (.inr (1160, a + 10)) :: st) σ) := by simp [w_op, w_opG, wr_926]
theorem wr_927 : w_rf 927 = none := rfl
theorem wo_getf927 {a : Nat} : w_op (.getfield 927) E rt code Q nx ls (.inr (.inr (9, a)) :: st) σ = (w_Ex E rt code Q nx ls (.inl (σ a 27) :: st) σ) := by simp [w_op, w_opG, wr_927]
theorem wo_putf927 {a : Nat} {x : Int} : w_op (.putfield 927) E rt code Q nx ls (.inl x :: .inr (.inr (9, a)) :: st) σ = (w_Ex E rt code Q nx ls st (w_up σ a 27 x)) := by simp [w_op, w_opG, wr_927]
theorem wr_928 : w_rf 928 = some (1004, 11) := rfl
theorem wo_getf928 {a : Nat} : w_op (.getfield 928) E rt code Q nx ls (.inr (.inr (9, a)) :: st) σ = (w_Ex E rt code Q nx ls (.inr (.inr (1004, a + 11)) :: st) σ) := by simp [w_op, w_opG, wr_928]
theorem wo_getf2000 {a : Nat} : w_op (.getfield 2000) E rt code Q nx ls (.inr (.inr (20, a)) :: st) σ = (w_Ex E rt code Q nx ls (.inr (.inr (7000, a + 1)) :: st) σ) := by simp [w_op, w_opG]
theorem wo_getf2001 {a : Nat} : w_op (.getfield 2001) E rt code Q nx ls (.inr (.inr (20, a)) :: st) σ = (w_Ex E rt code Q nx ls (.inl 0 :: st) σ) := by simp [w_op, w_opG]
theorem wo_ireturn {v : w_V} : w_op .ireturn E rt code Q nx ls [v] σ = (w_rtk rt v ∧ Q (some v) σ) := rfl
theorem wo_return : w_op .return_ E rt code Q nx ls [] σ = (rt = 0 ∧ Q none σ) := rfl
theorem wo_rt1 {x : Int} : w_rtk 1 (.inl x) = True := rfl
theorem wo_rt2 {x : Int} : w_rtk 2 (.inl x) = (x = 0 ∨ x = 1) := rfl
theorem wo_rt3 {x : Int} : w_rtk 3 (.inr (.inl x)) = True := rfl
theorem wo_rt4 {x : Nat × Nat} : w_rtk 4 (.inr (.inr x)) = True := rfl
theorem wo_rt5 {x : Int} : w_rtk 5 (.inl x) = (0 ≤ x ∧ x ≤ 65535) := rfl
theorem wo_rt6 {x : Int} : w_rtk 6 (.inl x) = (-128 ≤ x ∧ x ≤ 127) := rfl
theorem wo_acopy {n dp sp : Int} {k d k2 s : Nat} : w_op (.invokedynamic 0) E rt code Q nx ls (.inl n :: .inl dp :: .inr (.inr (k, d)) :: .inl sp :: .inr (.inr (k2, s)) :: st) σ = ((1000 ≤ k ∧ k < 2000 ∧ 1000 ≤ k2 ∧ k2 < 2000) ∧ w_cs st ≤ 8 ∧ 0 ≤ n ∧ 0 ≤ dp ∧ 0 ≤ sp ∧ sp + n ≤ ((k2 - 1000 : Nat) : Int) ∧ dp + n ≤ ((k - 1000 : Nat) : Int) ∧ w_Ex E rt code Q nx ls st (w_cpy σ s d sp.toNat dp.toNat n.toNat)) := rfl
theorem wo_call {c : Nat} {as r : List w_V} (h : w_pop (E.2 c).1 [] st = some (as, r)) : w_op (.invokestatic c) E rt code Q nx ls st σ = (w_shp (E.2 c).2.1 as ∧ w_cs r ≤ 8 ∧ (E.2 c).2.2.1 as σ ∧ w_Ex E rt code Q nx ls (((E.2 c).2.2.2 as σ).1.toList ++ r) ((E.2 c).2.2.2 as σ).2) := by
  simp only [w_op, w_opG, h]
end WO
