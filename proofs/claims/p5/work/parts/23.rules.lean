/-! One rule an instruction: what must hold behind it, for it to hold ahead -/
noncomputable def w_fe (code : List Instr) (pc nx : Nat) (op : Instr) : Prop := code[pc]? = some op ∧ nx = pc + 1
noncomputable def w_if (code : List Instr) (pc nx : Nat) (c : Jvm.ClassFile.Cond) (t : Nat) : Prop := code[pc]? = some (.ifCond c (t : Int)) ∧ nx = pc + 1
noncomputable def w_ic (code : List Instr) (pc nx : Nat) (c : Jvm.ClassFile.Cond) (t : Nat) : Prop := code[pc]? = some (.if_icmp c (t : Int)) ∧ nx = pc + 1
noncomputable def w_gt (code : List Instr) (pc t : Nat) : Prop := code[pc]? = some (.goto (t : Int))
noncomputable def w_bi (P : Prop) : Int := @ite _ P (Classical.propDecidable P) 1 0
theorem w_bi_t {P : Prop} (h : P) : w_bi P = 1 := if_pos h
theorem w_bi_f {P : Prop} (h : ¬ P) : w_bi P = 0 := if_neg h
theorem w_bi01 (P : Prop) : w_bi P = 0 ∨ w_bi P = 1 := by
  by_cases h : P
  · exact Or.inr (w_bi_t h)
  · exact Or.inl (w_bi_f h)
theorem w_bi_0 {P : Prop} : w_bi P = 0 ↔ ¬ P := by
  by_cases h : P
  · rw [w_bi_t h]; simp [h]
  · rw [w_bi_f h]; simp [h]
theorem w_bi_n0 {P : Prop} : ¬ w_bi P = 0 ↔ P := by rw [w_bi_0]; exact Classical.not_not
theorem w_bi_congr {P R : Prop} (h : P ↔ R) : w_bi P = w_bi R := by rw [propext h]
section WI
variable {E : w_C} {rt : Nat} {code : List Instr} {Q : Option w_V → w_M → Prop} {pc nx : Nat} {ls : w_L} {st : List w_V} {σ : w_M}
theorem wi_bipush {n : Int} (hop : w_fe code pc nx (.bipush n))  (h : w_Ex E rt code Q nx ls (.inl n :: st) σ) : w_Ex E rt code Q pc ls st σ := by
  obtain ⟨h1, rfl⟩ := hop
  exact w_Ex_in h1 (h)
theorem wi_sipush {n : Int} (hop : w_fe code pc nx (.sipush n))  (h : w_Ex E rt code Q nx ls (.inr (.inl n) :: st) σ) : w_Ex E rt code Q pc ls st σ := by
  obtain ⟨h1, rfl⟩ := hop
  exact w_Ex_in h1 (h)
theorem wi_ldc {k : Nat} (hop : w_fe code pc nx (.ldc k))  (h : w_Ex E rt code Q nx ls (.inr (.inr (20, k)) :: st) σ) : w_Ex E rt code Q pc ls st σ := by
  obtain ⟨h1, rfl⟩ := hop
  exact w_Ex_in h1 (h)
theorem wi_getstatic0  (hop : w_fe code pc nx (.getstatic 0))  (h : w_Ex E rt code Q nx ls (.inl 1 :: st) σ) : w_Ex E rt code Q pc ls st σ := by
  obtain ⟨h1, rfl⟩ := hop
  exact w_Ex_in h1 (And.intro (by decide) h)
theorem wi_getstatic1  (hop : w_fe code pc nx (.getstatic 1))  (h : w_Ex E rt code Q nx ls (.inr (.inr (6005, 1010)) :: st) σ) : w_Ex E rt code Q pc ls st σ := by
  obtain ⟨h1, rfl⟩ := hop
  exact w_Ex_in h1 (And.intro (by decide) h)
theorem wi_getstatic2  (hop : w_fe code pc nx (.getstatic 2))  (h : w_Ex E rt code Q nx ls (.inr (.inr (6015, 1011)) :: st) σ) : w_Ex E rt code Q pc ls st σ := by
  obtain ⟨h1, rfl⟩ := hop
  exact w_Ex_in h1 (And.intro (by decide) h)
theorem wi_getstatic3  (hop : w_fe code pc nx (.getstatic 3))  (h : w_Ex E rt code Q nx ls (.inr (.inr (6015, 1012)) :: st) σ) : w_Ex E rt code Q pc ls st σ := by
  obtain ⟨h1, rfl⟩ := hop
  exact w_Ex_in h1 (And.intro (by decide) h)
theorem wi_iload0  {x : Int} {r : w_L} (hop : w_fe code pc nx (.iload 0))  (h : w_Ex E rt code Q nx (some (.inl x) :: r) (.inl x :: st) σ) : w_Ex E rt code Q pc (some (.inl x) :: r) st σ := by
  obtain ⟨h1, rfl⟩ := hop
  exact w_Ex_in h1 (h)
theorem wi_lload0  {x : Int} {r : w_L} (hop : w_fe code pc nx (.lload 0))  (h : w_Ex E rt code Q nx (some (.inr (.inl x)) :: r) (.inr (.inl x) :: st) σ) : w_Ex E rt code Q pc (some (.inr (.inl x)) :: r) st σ := by
  obtain ⟨h1, rfl⟩ := hop
  exact w_Ex_in h1 (h)
theorem wi_aload0  {x : Nat × Nat} {r : w_L} (hop : w_fe code pc nx (.aload 0))  (h : w_Ex E rt code Q nx (some (.inr (.inr x)) :: r) (.inr (.inr x) :: st) σ) : w_Ex E rt code Q pc (some (.inr (.inr x)) :: r) st σ := by
  obtain ⟨h1, rfl⟩ := hop
  exact w_Ex_in h1 (h)
theorem wi_istore0  {x : Int} {y : Option w_V} {r : w_L} (hop : w_fe code pc nx (.istore 0))  (h : w_Ex E rt code Q nx (some (.inl x) :: r) st σ) : w_Ex E rt code Q pc (y :: r) (.inl x :: st) σ := by
  obtain ⟨h1, rfl⟩ := hop
  exact w_Ex_in h1 (And.intro (by simp only [List.length_cons]; omega) (And.intro trivial h))
theorem wi_astore0  {x : Nat × Nat} {y : Option w_V} {r : w_L} (hop : w_fe code pc nx (.astore 0))  (h : w_Ex E rt code Q nx (some (.inr (.inr x)) :: r) st σ) : w_Ex E rt code Q pc (y :: r) (.inr (.inr x) :: st) σ := by
  obtain ⟨h1, rfl⟩ := hop
  exact w_Ex_in h1 (And.intro (by simp only [List.length_cons]; omega) (And.intro trivial h))
theorem wi_lstore0  {x : Int} {y z : Option w_V} {r : w_L} (hop : w_fe code pc nx (.lstore 0))  (h : w_Ex E rt code Q nx (some (.inr (.inl x)) :: none :: r) st σ) : w_Ex E rt code Q pc (y :: z :: r) (.inr (.inl x) :: st) σ := by
  obtain ⟨h1, rfl⟩ := hop
  exact w_Ex_in h1 (And.intro (by simp only [List.length_cons]; omega) (And.intro trivial h))
theorem wi_iinc0  {x n : Int} {r : w_L} (hop : w_fe code pc nx (.iinc 0 n)) (c0 : w_in (x + n)) (h : w_Ex E rt code Q nx (some (.inl (x + n)) :: r) st σ) : w_Ex E rt code Q pc (some (.inl x) :: r) st σ := by
  obtain ⟨h1, rfl⟩ := hop
  exact w_Ex_in h1 (And.intro trivial (And.intro c0 h))
theorem wi_iload1 {l0 : Option w_V} {x : Int} {r : w_L} (hop : w_fe code pc nx (.iload 1))  (h : w_Ex E rt code Q nx (l0 :: some (.inl x) :: r) (.inl x :: st) σ) : w_Ex E rt code Q pc (l0 :: some (.inl x) :: r) st σ := by
  obtain ⟨h1, rfl⟩ := hop
  exact w_Ex_in h1 (h)
theorem wi_lload1 {l0 : Option w_V} {x : Int} {r : w_L} (hop : w_fe code pc nx (.lload 1))  (h : w_Ex E rt code Q nx (l0 :: some (.inr (.inl x)) :: r) (.inr (.inl x) :: st) σ) : w_Ex E rt code Q pc (l0 :: some (.inr (.inl x)) :: r) st σ := by
  obtain ⟨h1, rfl⟩ := hop
  exact w_Ex_in h1 (h)
theorem wi_aload1 {l0 : Option w_V} {x : Nat × Nat} {r : w_L} (hop : w_fe code pc nx (.aload 1))  (h : w_Ex E rt code Q nx (l0 :: some (.inr (.inr x)) :: r) (.inr (.inr x) :: st) σ) : w_Ex E rt code Q pc (l0 :: some (.inr (.inr x)) :: r) st σ := by
  obtain ⟨h1, rfl⟩ := hop
  exact w_Ex_in h1 (h)
theorem wi_istore1 {l0 : Option w_V} {x : Int} {y : Option w_V} {r : w_L} (hop : w_fe code pc nx (.istore 1)) (c0 : w_nl l0) (h : w_Ex E rt code Q nx (l0 :: some (.inl x) :: r) st σ) : w_Ex E rt code Q pc (l0 :: y :: r) (.inl x :: st) σ := by
  obtain ⟨h1, rfl⟩ := hop
  exact w_Ex_in h1 (And.intro (by simp only [List.length_cons]; omega) (And.intro c0 h))
theorem wi_astore1 {l0 : Option w_V} {x : Nat × Nat} {y : Option w_V} {r : w_L} (hop : w_fe code pc nx (.astore 1)) (c0 : w_nl l0) (h : w_Ex E rt code Q nx (l0 :: some (.inr (.inr x)) :: r) st σ) : w_Ex E rt code Q pc (l0 :: y :: r) (.inr (.inr x) :: st) σ := by
  obtain ⟨h1, rfl⟩ := hop
  exact w_Ex_in h1 (And.intro (by simp only [List.length_cons]; omega) (And.intro c0 h))
theorem wi_lstore1 {l0 : Option w_V} {x : Int} {y z : Option w_V} {r : w_L} (hop : w_fe code pc nx (.lstore 1)) (c0 : w_nl l0) (h : w_Ex E rt code Q nx (l0 :: some (.inr (.inl x)) :: none :: r) st σ) : w_Ex E rt code Q pc (l0 :: y :: z :: r) (.inr (.inl x) :: st) σ := by
  obtain ⟨h1, rfl⟩ := hop
  exact w_Ex_in h1 (And.intro (by simp only [List.length_cons]; omega) (And.intro c0 h))
theorem wi_iinc1 {l0 : Option w_V} {x n : Int} {r : w_L} (hop : w_fe code pc nx (.iinc 1 n)) (c0 : w_nl l0) (c1 : w_in (x + n)) (h : w_Ex E rt code Q nx (l0 :: some (.inl (x + n)) :: r) st σ) : w_Ex E rt code Q pc (l0 :: some (.inl x) :: r) st σ := by
  obtain ⟨h1, rfl⟩ := hop
  exact w_Ex_in h1 (And.intro c0 (And.intro c1 h))
theorem wi_iload2 {l0 l1 : Option w_V} {x : Int} {r : w_L} (hop : w_fe code pc nx (.iload 2))  (h : w_Ex E rt code Q nx (l0 :: l1 :: some (.inl x) :: r) (.inl x :: st) σ) : w_Ex E rt code Q pc (l0 :: l1 :: some (.inl x) :: r) st σ := by
  obtain ⟨h1, rfl⟩ := hop
  exact w_Ex_in h1 (h)
theorem wi_lload2 {l0 l1 : Option w_V} {x : Int} {r : w_L} (hop : w_fe code pc nx (.lload 2))  (h : w_Ex E rt code Q nx (l0 :: l1 :: some (.inr (.inl x)) :: r) (.inr (.inl x) :: st) σ) : w_Ex E rt code Q pc (l0 :: l1 :: some (.inr (.inl x)) :: r) st σ := by
  obtain ⟨h1, rfl⟩ := hop
  exact w_Ex_in h1 (h)
theorem wi_aload2 {l0 l1 : Option w_V} {x : Nat × Nat} {r : w_L} (hop : w_fe code pc nx (.aload 2))  (h : w_Ex E rt code Q nx (l0 :: l1 :: some (.inr (.inr x)) :: r) (.inr (.inr x) :: st) σ) : w_Ex E rt code Q pc (l0 :: l1 :: some (.inr (.inr x)) :: r) st σ := by
  obtain ⟨h1, rfl⟩ := hop
  exact w_Ex_in h1 (h)
theorem wi_istore2 {l0 l1 : Option w_V} {x : Int} {y : Option w_V} {r : w_L} (hop : w_fe code pc nx (.istore 2)) (c0 : w_nl l1) (h : w_Ex E rt code Q nx (l0 :: l1 :: some (.inl x) :: r) st σ) : w_Ex E rt code Q pc (l0 :: l1 :: y :: r) (.inl x :: st) σ := by
  obtain ⟨h1, rfl⟩ := hop
  exact w_Ex_in h1 (And.intro (by simp only [List.length_cons]; omega) (And.intro c0 h))
theorem wi_astore2 {l0 l1 : Option w_V} {x : Nat × Nat} {y : Option w_V} {r : w_L} (hop : w_fe code pc nx (.astore 2)) (c0 : w_nl l1) (h : w_Ex E rt code Q nx (l0 :: l1 :: some (.inr (.inr x)) :: r) st σ) : w_Ex E rt code Q pc (l0 :: l1 :: y :: r) (.inr (.inr x) :: st) σ := by
  obtain ⟨h1, rfl⟩ := hop
  exact w_Ex_in h1 (And.intro (by simp only [List.length_cons]; omega) (And.intro c0 h))
theorem wi_lstore2 {l0 l1 : Option w_V} {x : Int} {y z : Option w_V} {r : w_L} (hop : w_fe code pc nx (.lstore 2)) (c0 : w_nl l1) (h : w_Ex E rt code Q nx (l0 :: l1 :: some (.inr (.inl x)) :: none :: r) st σ) : w_Ex E rt code Q pc (l0 :: l1 :: y :: z :: r) (.inr (.inl x) :: st) σ := by
  obtain ⟨h1, rfl⟩ := hop
  exact w_Ex_in h1 (And.intro (by simp only [List.length_cons]; omega) (And.intro c0 h))
theorem wi_iinc2 {l0 l1 : Option w_V} {x n : Int} {r : w_L} (hop : w_fe code pc nx (.iinc 2 n)) (c0 : w_nl l1) (c1 : w_in (x + n)) (h : w_Ex E rt code Q nx (l0 :: l1 :: some (.inl (x + n)) :: r) st σ) : w_Ex E rt code Q pc (l0 :: l1 :: some (.inl x) :: r) st σ := by
  obtain ⟨h1, rfl⟩ := hop
  exact w_Ex_in h1 (And.intro c0 (And.intro c1 h))
theorem wi_iload3 {l0 l1 l2 : Option w_V} {x : Int} {r : w_L} (hop : w_fe code pc nx (.iload 3))  (h : w_Ex E rt code Q nx (l0 :: l1 :: l2 :: some (.inl x) :: r) (.inl x :: st) σ) : w_Ex E rt code Q pc (l0 :: l1 :: l2 :: some (.inl x) :: r) st σ := by
  obtain ⟨h1, rfl⟩ := hop
  exact w_Ex_in h1 (h)
theorem wi_lload3 {l0 l1 l2 : Option w_V} {x : Int} {r : w_L} (hop : w_fe code pc nx (.lload 3))  (h : w_Ex E rt code Q nx (l0 :: l1 :: l2 :: some (.inr (.inl x)) :: r) (.inr (.inl x) :: st) σ) : w_Ex E rt code Q pc (l0 :: l1 :: l2 :: some (.inr (.inl x)) :: r) st σ := by
  obtain ⟨h1, rfl⟩ := hop
  exact w_Ex_in h1 (h)
theorem wi_aload3 {l0 l1 l2 : Option w_V} {x : Nat × Nat} {r : w_L} (hop : w_fe code pc nx (.aload 3))  (h : w_Ex E rt code Q nx (l0 :: l1 :: l2 :: some (.inr (.inr x)) :: r) (.inr (.inr x) :: st) σ) : w_Ex E rt code Q pc (l0 :: l1 :: l2 :: some (.inr (.inr x)) :: r) st σ := by
  obtain ⟨h1, rfl⟩ := hop
  exact w_Ex_in h1 (h)
theorem wi_istore3 {l0 l1 l2 : Option w_V} {x : Int} {y : Option w_V} {r : w_L} (hop : w_fe code pc nx (.istore 3)) (c0 : w_nl l2) (h : w_Ex E rt code Q nx (l0 :: l1 :: l2 :: some (.inl x) :: r) st σ) : w_Ex E rt code Q pc (l0 :: l1 :: l2 :: y :: r) (.inl x :: st) σ := by
  obtain ⟨h1, rfl⟩ := hop
  exact w_Ex_in h1 (And.intro (by simp only [List.length_cons]; omega) (And.intro c0 h))
theorem wi_astore3 {l0 l1 l2 : Option w_V} {x : Nat × Nat} {y : Option w_V} {r : w_L} (hop : w_fe code pc nx (.astore 3)) (c0 : w_nl l2) (h : w_Ex E rt code Q nx (l0 :: l1 :: l2 :: some (.inr (.inr x)) :: r) st σ) : w_Ex E rt code Q pc (l0 :: l1 :: l2 :: y :: r) (.inr (.inr x) :: st) σ := by
  obtain ⟨h1, rfl⟩ := hop
  exact w_Ex_in h1 (And.intro (by simp only [List.length_cons]; omega) (And.intro c0 h))
theorem wi_lstore3 {l0 l1 l2 : Option w_V} {x : Int} {y z : Option w_V} {r : w_L} (hop : w_fe code pc nx (.lstore 3)) (c0 : w_nl l2) (h : w_Ex E rt code Q nx (l0 :: l1 :: l2 :: some (.inr (.inl x)) :: none :: r) st σ) : w_Ex E rt code Q pc (l0 :: l1 :: l2 :: y :: z :: r) (.inr (.inl x) :: st) σ := by
  obtain ⟨h1, rfl⟩ := hop
  exact w_Ex_in h1 (And.intro (by simp only [List.length_cons]; omega) (And.intro c0 h))
theorem wi_iinc3 {l0 l1 l2 : Option w_V} {x n : Int} {r : w_L} (hop : w_fe code pc nx (.iinc 3 n)) (c0 : w_nl l2) (c1 : w_in (x + n)) (h : w_Ex E rt code Q nx (l0 :: l1 :: l2 :: some (.inl (x + n)) :: r) st σ) : w_Ex E rt code Q pc (l0 :: l1 :: l2 :: some (.inl x) :: r) st σ := by
  obtain ⟨h1, rfl⟩ := hop
  exact w_Ex_in h1 (And.intro c0 (And.intro c1 h))
theorem wi_iload4 {l0 l1 l2 l3 : Option w_V} {x : Int} {r : w_L} (hop : w_fe code pc nx (.iload 4))  (h : w_Ex E rt code Q nx (l0 :: l1 :: l2 :: l3 :: some (.inl x) :: r) (.inl x :: st) σ) : w_Ex E rt code Q pc (l0 :: l1 :: l2 :: l3 :: some (.inl x) :: r) st σ := by
  obtain ⟨h1, rfl⟩ := hop
  exact w_Ex_in h1 (h)
theorem wi_lload4 {l0 l1 l2 l3 : Option w_V} {x : Int} {r : w_L} (hop : w_fe code pc nx (.lload 4))  (h : w_Ex E rt code Q nx (l0 :: l1 :: l2 :: l3 :: some (.inr (.inl x)) :: r) (.inr (.inl x) :: st) σ) : w_Ex E rt code Q pc (l0 :: l1 :: l2 :: l3 :: some (.inr (.inl x)) :: r) st σ := by
  obtain ⟨h1, rfl⟩ := hop
  exact w_Ex_in h1 (h)
theorem wi_aload4 {l0 l1 l2 l3 : Option w_V} {x : Nat × Nat} {r : w_L} (hop : w_fe code pc nx (.aload 4))  (h : w_Ex E rt code Q nx (l0 :: l1 :: l2 :: l3 :: some (.inr (.inr x)) :: r) (.inr (.inr x) :: st) σ) : w_Ex E rt code Q pc (l0 :: l1 :: l2 :: l3 :: some (.inr (.inr x)) :: r) st σ := by
  obtain ⟨h1, rfl⟩ := hop
  exact w_Ex_in h1 (h)
theorem wi_istore4 {l0 l1 l2 l3 : Option w_V} {x : Int} {y : Option w_V} {r : w_L} (hop : w_fe code pc nx (.istore 4)) (c0 : w_nl l3) (h : w_Ex E rt code Q nx (l0 :: l1 :: l2 :: l3 :: some (.inl x) :: r) st σ) : w_Ex E rt code Q pc (l0 :: l1 :: l2 :: l3 :: y :: r) (.inl x :: st) σ := by
  obtain ⟨h1, rfl⟩ := hop
  exact w_Ex_in h1 (And.intro (by simp only [List.length_cons]; omega) (And.intro c0 h))
theorem wi_astore4 {l0 l1 l2 l3 : Option w_V} {x : Nat × Nat} {y : Option w_V} {r : w_L} (hop : w_fe code pc nx (.astore 4)) (c0 : w_nl l3) (h : w_Ex E rt code Q nx (l0 :: l1 :: l2 :: l3 :: some (.inr (.inr x)) :: r) st σ) : w_Ex E rt code Q pc (l0 :: l1 :: l2 :: l3 :: y :: r) (.inr (.inr x) :: st) σ := by
  obtain ⟨h1, rfl⟩ := hop
  exact w_Ex_in h1 (And.intro (by simp only [List.length_cons]; omega) (And.intro c0 h))
theorem wi_lstore4 {l0 l1 l2 l3 : Option w_V} {x : Int} {y z : Option w_V} {r : w_L} (hop : w_fe code pc nx (.lstore 4)) (c0 : w_nl l3) (h : w_Ex E rt code Q nx (l0 :: l1 :: l2 :: l3 :: some (.inr (.inl x)) :: none :: r) st σ) : w_Ex E rt code Q pc (l0 :: l1 :: l2 :: l3 :: y :: z :: r) (.inr (.inl x) :: st) σ := by
  obtain ⟨h1, rfl⟩ := hop
  exact w_Ex_in h1 (And.intro (by simp only [List.length_cons]; omega) (And.intro c0 h))
theorem wi_iinc4 {l0 l1 l2 l3 : Option w_V} {x n : Int} {r : w_L} (hop : w_fe code pc nx (.iinc 4 n)) (c0 : w_nl l3) (c1 : w_in (x + n)) (h : w_Ex E rt code Q nx (l0 :: l1 :: l2 :: l3 :: some (.inl (x + n)) :: r) st σ) : w_Ex E rt code Q pc (l0 :: l1 :: l2 :: l3 :: some (.inl x) :: r) st σ := by
  obtain ⟨h1, rfl⟩ := hop
  exact w_Ex_in h1 (And.intro c0 (And.intro c1 h))
theorem wi_iload5 {l0 l1 l2 l3 l4 : Option w_V} {x : Int} {r : w_L} (hop : w_fe code pc nx (.iload 5))  (h : w_Ex E rt code Q nx (l0 :: l1 :: l2 :: l3 :: l4 :: some (.inl x) :: r) (.inl x :: st) σ) : w_Ex E rt code Q pc (l0 :: l1 :: l2 :: l3 :: l4 :: some (.inl x) :: r) st σ := by
  obtain ⟨h1, rfl⟩ := hop
  exact w_Ex_in h1 (h)
theorem wi_lload5 {l0 l1 l2 l3 l4 : Option w_V} {x : Int} {r : w_L} (hop : w_fe code pc nx (.lload 5))  (h : w_Ex E rt code Q nx (l0 :: l1 :: l2 :: l3 :: l4 :: some (.inr (.inl x)) :: r) (.inr (.inl x) :: st) σ) : w_Ex E rt code Q pc (l0 :: l1 :: l2 :: l3 :: l4 :: some (.inr (.inl x)) :: r) st σ := by
  obtain ⟨h1, rfl⟩ := hop
  exact w_Ex_in h1 (h)
theorem wi_aload5 {l0 l1 l2 l3 l4 : Option w_V} {x : Nat × Nat} {r : w_L} (hop : w_fe code pc nx (.aload 5))  (h : w_Ex E rt code Q nx (l0 :: l1 :: l2 :: l3 :: l4 :: some (.inr (.inr x)) :: r) (.inr (.inr x) :: st) σ) : w_Ex E rt code Q pc (l0 :: l1 :: l2 :: l3 :: l4 :: some (.inr (.inr x)) :: r) st σ := by
  obtain ⟨h1, rfl⟩ := hop
  exact w_Ex_in h1 (h)
theorem wi_istore5 {l0 l1 l2 l3 l4 : Option w_V} {x : Int} {y : Option w_V} {r : w_L} (hop : w_fe code pc nx (.istore 5)) (c0 : w_nl l4) (h : w_Ex E rt code Q nx (l0 :: l1 :: l2 :: l3 :: l4 :: some (.inl x) :: r) st σ) : w_Ex E rt code Q pc (l0 :: l1 :: l2 :: l3 :: l4 :: y :: r) (.inl x :: st) σ := by
  obtain ⟨h1, rfl⟩ := hop
  exact w_Ex_in h1 (And.intro (by simp only [List.length_cons]; omega) (And.intro c0 h))
theorem wi_astore5 {l0 l1 l2 l3 l4 : Option w_V} {x : Nat × Nat} {y : Option w_V} {r : w_L} (hop : w_fe code pc nx (.astore 5)) (c0 : w_nl l4) (h : w_Ex E rt code Q nx (l0 :: l1 :: l2 :: l3 :: l4 :: some (.inr (.inr x)) :: r) st σ) : w_Ex E rt code Q pc (l0 :: l1 :: l2 :: l3 :: l4 :: y :: r) (.inr (.inr x) :: st) σ := by
  obtain ⟨h1, rfl⟩ := hop
  exact w_Ex_in h1 (And.intro (by simp only [List.length_cons]; omega) (And.intro c0 h))
theorem wi_lstore5 {l0 l1 l2 l3 l4 : Option w_V} {x : Int} {y z : Option w_V} {r : w_L} (hop : w_fe code pc nx (.lstore 5)) (c0 : w_nl l4) (h : w_Ex E rt code Q nx (l0 :: l1 :: l2 :: l3 :: l4 :: some (.inr (.inl x)) :: none :: r) st σ) : w_Ex E rt code Q pc (l0 :: l1 :: l2 :: l3 :: l4 :: y :: z :: r) (.inr (.inl x) :: st) σ := by
  obtain ⟨h1, rfl⟩ := hop
  exact w_Ex_in h1 (And.intro (by simp only [List.length_cons]; omega) (And.intro c0 h))
theorem wi_iinc5 {l0 l1 l2 l3 l4 : Option w_V} {x n : Int} {r : w_L} (hop : w_fe code pc nx (.iinc 5 n)) (c0 : w_nl l4) (c1 : w_in (x + n)) (h : w_Ex E rt code Q nx (l0 :: l1 :: l2 :: l3 :: l4 :: some (.inl (x + n)) :: r) st σ) : w_Ex E rt code Q pc (l0 :: l1 :: l2 :: l3 :: l4 :: some (.inl x) :: r) st σ := by
  obtain ⟨h1, rfl⟩ := hop
  exact w_Ex_in h1 (And.intro c0 (And.intro c1 h))
theorem wi_iload6 {l0 l1 l2 l3 l4 l5 : Option w_V} {x : Int} {r : w_L} (hop : w_fe code pc nx (.iload 6))  (h : w_Ex E rt code Q nx (l0 :: l1 :: l2 :: l3 :: l4 :: l5 :: some (.inl x) :: r) (.inl x :: st) σ) : w_Ex E rt code Q pc (l0 :: l1 :: l2 :: l3 :: l4 :: l5 :: some (.inl x) :: r) st σ := by
  obtain ⟨h1, rfl⟩ := hop
  exact w_Ex_in h1 (h)
theorem wi_lload6 {l0 l1 l2 l3 l4 l5 : Option w_V} {x : Int} {r : w_L} (hop : w_fe code pc nx (.lload 6))  (h : w_Ex E rt code Q nx (l0 :: l1 :: l2 :: l3 :: l4 :: l5 :: some (.inr (.inl x)) :: r) (.inr (.inl x) :: st) σ) : w_Ex E rt code Q pc (l0 :: l1 :: l2 :: l3 :: l4 :: l5 :: some (.inr (.inl x)) :: r) st σ := by
  obtain ⟨h1, rfl⟩ := hop
  exact w_Ex_in h1 (h)
theorem wi_aload6 {l0 l1 l2 l3 l4 l5 : Option w_V} {x : Nat × Nat} {r : w_L} (hop : w_fe code pc nx (.aload 6))  (h : w_Ex E rt code Q nx (l0 :: l1 :: l2 :: l3 :: l4 :: l5 :: some (.inr (.inr x)) :: r) (.inr (.inr x) :: st) σ) : w_Ex E rt code Q pc (l0 :: l1 :: l2 :: l3 :: l4 :: l5 :: some (.inr (.inr x)) :: r) st σ := by
  obtain ⟨h1, rfl⟩ := hop
  exact w_Ex_in h1 (h)
theorem wi_istore6 {l0 l1 l2 l3 l4 l5 : Option w_V} {x : Int} {y : Option w_V} {r : w_L} (hop : w_fe code pc nx (.istore 6)) (c0 : w_nl l5) (h : w_Ex E rt code Q nx (l0 :: l1 :: l2 :: l3 :: l4 :: l5 :: some (.inl x) :: r) st σ) : w_Ex E rt code Q pc (l0 :: l1 :: l2 :: l3 :: l4 :: l5 :: y :: r) (.inl x :: st) σ := by
  obtain ⟨h1, rfl⟩ := hop
  exact w_Ex_in h1 (And.intro (by simp only [List.length_cons]; omega) (And.intro c0 h))
theorem wi_astore6 {l0 l1 l2 l3 l4 l5 : Option w_V} {x : Nat × Nat} {y : Option w_V} {r : w_L} (hop : w_fe code pc nx (.astore 6)) (c0 : w_nl l5) (h : w_Ex E rt code Q nx (l0 :: l1 :: l2 :: l3 :: l4 :: l5 :: some (.inr (.inr x)) :: r) st σ) : w_Ex E rt code Q pc (l0 :: l1 :: l2 :: l3 :: l4 :: l5 :: y :: r) (.inr (.inr x) :: st) σ := by
  obtain ⟨h1, rfl⟩ := hop
  exact w_Ex_in h1 (And.intro (by simp only [List.length_cons]; omega) (And.intro c0 h))
theorem wi_lstore6 {l0 l1 l2 l3 l4 l5 : Option w_V} {x : Int} {y z : Option w_V} {r : w_L} (hop : w_fe code pc nx (.lstore 6)) (c0 : w_nl l5) (h : w_Ex E rt code Q nx (l0 :: l1 :: l2 :: l3 :: l4 :: l5 :: some (.inr (.inl x)) :: none :: r) st σ) : w_Ex E rt code Q pc (l0 :: l1 :: l2 :: l3 :: l4 :: l5 :: y :: z :: r) (.inr (.inl x) :: st) σ := by
  obtain ⟨h1, rfl⟩ := hop
  exact w_Ex_in h1 (And.intro (by simp only [List.length_cons]; omega) (And.intro c0 h))
theorem wi_iinc6 {l0 l1 l2 l3 l4 l5 : Option w_V} {x n : Int} {r : w_L} (hop : w_fe code pc nx (.iinc 6 n)) (c0 : w_nl l5) (c1 : w_in (x + n)) (h : w_Ex E rt code Q nx (l0 :: l1 :: l2 :: l3 :: l4 :: l5 :: some (.inl (x + n)) :: r) st σ) : w_Ex E rt code Q pc (l0 :: l1 :: l2 :: l3 :: l4 :: l5 :: some (.inl x) :: r) st σ := by
  obtain ⟨h1, rfl⟩ := hop
  exact w_Ex_in h1 (And.intro c0 (And.intro c1 h))
theorem wi_iload7 {l0 l1 l2 l3 l4 l5 l6 : Option w_V} {x : Int} {r : w_L} (hop : w_fe code pc nx (.iload 7))  (h : w_Ex E rt code Q nx (l0 :: l1 :: l2 :: l3 :: l4 :: l5 :: l6 :: some (.inl x) :: r) (.inl x :: st) σ) : w_Ex E rt code Q pc (l0 :: l1 :: l2 :: l3 :: l4 :: l5 :: l6 :: some (.inl x) :: r) st σ := by
  obtain ⟨h1, rfl⟩ := hop
  exact w_Ex_in h1 (h)
theorem wi_lload7 {l0 l1 l2 l3 l4 l5 l6 : Option w_V} {x : Int} {r : w_L} (hop : w_fe code pc nx (.lload 7))  (h : w_Ex E rt code Q nx (l0 :: l1 :: l2 :: l3 :: l4 :: l5 :: l6 :: some (.inr (.inl x)) :: r) (.inr (.inl x) :: st) σ) : w_Ex E rt code Q pc (l0 :: l1 :: l2 :: l3 :: l4 :: l5 :: l6 :: some (.inr (.inl x)) :: r) st σ := by
  obtain ⟨h1, rfl⟩ := hop
  exact w_Ex_in h1 (h)
theorem wi_aload7 {l0 l1 l2 l3 l4 l5 l6 : Option w_V} {x : Nat × Nat} {r : w_L} (hop : w_fe code pc nx (.aload 7))  (h : w_Ex E rt code Q nx (l0 :: l1 :: l2 :: l3 :: l4 :: l5 :: l6 :: some (.inr (.inr x)) :: r) (.inr (.inr x) :: st) σ) : w_Ex E rt code Q pc (l0 :: l1 :: l2 :: l3 :: l4 :: l5 :: l6 :: some (.inr (.inr x)) :: r) st σ := by
  obtain ⟨h1, rfl⟩ := hop
  exact w_Ex_in h1 (h)
theorem wi_istore7 {l0 l1 l2 l3 l4 l5 l6 : Option w_V} {x : Int} {y : Option w_V} {r : w_L} (hop : w_fe code pc nx (.istore 7)) (c0 : w_nl l6) (h : w_Ex E rt code Q nx (l0 :: l1 :: l2 :: l3 :: l4 :: l5 :: l6 :: some (.inl x) :: r) st σ) : w_Ex E rt code Q pc (l0 :: l1 :: l2 :: l3 :: l4 :: l5 :: l6 :: y :: r) (.inl x :: st) σ := by
  obtain ⟨h1, rfl⟩ := hop
  exact w_Ex_in h1 (And.intro (by simp only [List.length_cons]; omega) (And.intro c0 h))
theorem wi_astore7 {l0 l1 l2 l3 l4 l5 l6 : Option w_V} {x : Nat × Nat} {y : Option w_V} {r : w_L} (hop : w_fe code pc nx (.astore 7)) (c0 : w_nl l6) (h : w_Ex E rt code Q nx (l0 :: l1 :: l2 :: l3 :: l4 :: l5 :: l6 :: some (.inr (.inr x)) :: r) st σ) : w_Ex E rt code Q pc (l0 :: l1 :: l2 :: l3 :: l4 :: l5 :: l6 :: y :: r) (.inr (.inr x) :: st) σ := by
  obtain ⟨h1, rfl⟩ := hop
  exact w_Ex_in h1 (And.intro (by simp only [List.length_cons]; omega) (And.intro c0 h))
theorem wi_lstore7 {l0 l1 l2 l3 l4 l5 l6 : Option w_V} {x : Int} {y z : Option w_V} {r : w_L} (hop : w_fe code pc nx (.lstore 7)) (c0 : w_nl l6) (h : w_Ex E rt code Q nx (l0 :: l1 :: l2 :: l3 :: l4 :: l5 :: l6 :: some (.inr (.inl x)) :: none :: r) st σ) : w_Ex E rt code Q pc (l0 :: l1 :: l2 :: l3 :: l4 :: l5 :: l6 :: y :: z :: r) (.inr (.inl x) :: st) σ := by
  obtain ⟨h1, rfl⟩ := hop
  exact w_Ex_in h1 (And.intro (by simp only [List.length_cons]; omega) (And.intro c0 h))
theorem wi_iinc7 {l0 l1 l2 l3 l4 l5 l6 : Option w_V} {x n : Int} {r : w_L} (hop : w_fe code pc nx (.iinc 7 n)) (c0 : w_nl l6) (c1 : w_in (x + n)) (h : w_Ex E rt code Q nx (l0 :: l1 :: l2 :: l3 :: l4 :: l5 :: l6 :: some (.inl (x + n)) :: r) st σ) : w_Ex E rt code Q pc (l0 :: l1 :: l2 :: l3 :: l4 :: l5 :: l6 :: some (.inl x) :: r) st σ := by
  obtain ⟨h1, rfl⟩ := hop
  exact w_Ex_in h1 (And.intro c0 (And.intro c1 h))
theorem wi_iload8 {l0 l1 l2 l3 l4 l5 l6 l7 : Option w_V} {x : Int} {r : w_L} (hop : w_fe code pc nx (.iload 8))  (h : w_Ex E rt code Q nx (l0 :: l1 :: l2 :: l3 :: l4 :: l5 :: l6 :: l7 :: some (.inl x) :: r) (.inl x :: st) σ) : w_Ex E rt code Q pc (l0 :: l1 :: l2 :: l3 :: l4 :: l5 :: l6 :: l7 :: some (.inl x) :: r) st σ := by
  obtain ⟨h1, rfl⟩ := hop
  exact w_Ex_in h1 (h)
theorem wi_lload8 {l0 l1 l2 l3 l4 l5 l6 l7 : Option w_V} {x : Int} {r : w_L} (hop : w_fe code pc nx (.lload 8))  (h : w_Ex E rt code Q nx (l0 :: l1 :: l2 :: l3 :: l4 :: l5 :: l6 :: l7 :: some (.inr (.inl x)) :: r) (.inr (.inl x) :: st) σ) : w_Ex E rt code Q pc (l0 :: l1 :: l2 :: l3 :: l4 :: l5 :: l6 :: l7 :: some (.inr (.inl x)) :: r) st σ := by
  obtain ⟨h1, rfl⟩ := hop
  exact w_Ex_in h1 (h)
theorem wi_aload8 {l0 l1 l2 l3 l4 l5 l6 l7 : Option w_V} {x : Nat × Nat} {r : w_L} (hop : w_fe code pc nx (.aload 8))  (h : w_Ex E rt code Q nx (l0 :: l1 :: l2 :: l3 :: l4 :: l5 :: l6 :: l7 :: some (.inr (.inr x)) :: r) (.inr (.inr x) :: st) σ) : w_Ex E rt code Q pc (l0 :: l1 :: l2 :: l3 :: l4 :: l5 :: l6 :: l7 :: some (.inr (.inr x)) :: r) st σ := by
  obtain ⟨h1, rfl⟩ := hop
  exact w_Ex_in h1 (h)
theorem wi_istore8 {l0 l1 l2 l3 l4 l5 l6 l7 : Option w_V} {x : Int} {y : Option w_V} {r : w_L} (hop : w_fe code pc nx (.istore 8)) (c0 : w_nl l7) (h : w_Ex E rt code Q nx (l0 :: l1 :: l2 :: l3 :: l4 :: l5 :: l6 :: l7 :: some (.inl x) :: r) st σ) : w_Ex E rt code Q pc (l0 :: l1 :: l2 :: l3 :: l4 :: l5 :: l6 :: l7 :: y :: r) (.inl x :: st) σ := by
  obtain ⟨h1, rfl⟩ := hop
  exact w_Ex_in h1 (And.intro (by simp only [List.length_cons]; omega) (And.intro c0 h))
theorem wi_astore8 {l0 l1 l2 l3 l4 l5 l6 l7 : Option w_V} {x : Nat × Nat} {y : Option w_V} {r : w_L} (hop : w_fe code pc nx (.astore 8)) (c0 : w_nl l7) (h : w_Ex E rt code Q nx (l0 :: l1 :: l2 :: l3 :: l4 :: l5 :: l6 :: l7 :: some (.inr (.inr x)) :: r) st σ) : w_Ex E rt code Q pc (l0 :: l1 :: l2 :: l3 :: l4 :: l5 :: l6 :: l7 :: y :: r) (.inr (.inr x) :: st) σ := by
  obtain ⟨h1, rfl⟩ := hop
  exact w_Ex_in h1 (And.intro (by simp only [List.length_cons]; omega) (And.intro c0 h))
theorem wi_lstore8 {l0 l1 l2 l3 l4 l5 l6 l7 : Option w_V} {x : Int} {y z : Option w_V} {r : w_L} (hop : w_fe code pc nx (.lstore 8)) (c0 : w_nl l7) (h : w_Ex E rt code Q nx (l0 :: l1 :: l2 :: l3 :: l4 :: l5 :: l6 :: l7 :: some (.inr (.inl x)) :: none :: r) st σ) : w_Ex E rt code Q pc (l0 :: l1 :: l2 :: l3 :: l4 :: l5 :: l6 :: l7 :: y :: z :: r) (.inr (.inl x) :: st) σ := by
  obtain ⟨h1, rfl⟩ := hop
  exact w_Ex_in h1 (And.intro (by simp only [List.length_cons]; omega) (And.intro c0 h))
theorem wi_iinc8 {l0 l1 l2 l3 l4 l5 l6 l7 : Option w_V} {x n : Int} {r : w_L} (hop : w_fe code pc nx (.iinc 8 n)) (c0 : w_nl l7) (c1 : w_in (x + n)) (h : w_Ex E rt code Q nx (l0 :: l1 :: l2 :: l3 :: l4 :: l5 :: l6 :: l7 :: some (.inl (x + n)) :: r) st σ) : w_Ex E rt code Q pc (l0 :: l1 :: l2 :: l3 :: l4 :: l5 :: l6 :: l7 :: some (.inl x) :: r) st σ := by
  obtain ⟨h1, rfl⟩ := hop
  exact w_Ex_in h1 (And.intro c0 (And.intro c1 h))
theorem wi_iload9 {l0 l1 l2 l3 l4 l5 l6 l7 l8 : Option w_V} {x : Int} {r : w_L} (hop : w_fe code pc nx (.iload 9))  (h : w_Ex E rt code Q nx (l0 :: l1 :: l2 :: l3 :: l4 :: l5 :: l6 :: l7 :: l8 :: some (.inl x) :: r) (.inl x :: st) σ) : w_Ex E rt code Q pc (l0 :: l1 :: l2 :: l3 :: l4 :: l5 :: l6 :: l7 :: l8 :: some (.inl x) :: r) st σ := by
  obtain ⟨h1, rfl⟩ := hop
  exact w_Ex_in h1 (h)
theorem wi_lload9 {l0 l1 l2 l3 l4 l5 l6 l7 l8 : Option w_V} {x : Int} {r : w_L} (hop : w_fe code pc nx (.lload 9))  (h : w_Ex E rt code Q nx (l0 :: l1 :: l2 :: l3 :: l4 :: l5 :: l6 :: l7 :: l8 :: some (.inr (.inl x)) :: r) (.inr (.inl x) :: st) σ) : w_Ex E rt code Q pc (l0 :: l1 :: l2 :: l3 :: l4 :: l5 :: l6 :: l7 :: l8 :: some (.inr (.inl x)) :: r) st σ := by
  obtain ⟨h1, rfl⟩ := hop
  exact w_Ex_in h1 (h)
theorem wi_aload9 {l0 l1 l2 l3 l4 l5 l6 l7 l8 : Option w_V} {x : Nat × Nat} {r : w_L} (hop : w_fe code pc nx (.aload 9))  (h : w_Ex E rt code Q nx (l0 :: l1 :: l2 :: l3 :: l4 :: l5 :: l6 :: l7 :: l8 :: some (.inr (.inr x)) :: r) (.inr (.inr x) :: st) σ) : w_Ex E rt code Q pc (l0 :: l1 :: l2 :: l3 :: l4 :: l5 :: l6 :: l7 :: l8 :: some (.inr (.inr x)) :: r) st σ := by
  obtain ⟨h1, rfl⟩ := hop
  exact w_Ex_in h1 (h)
theorem wi_istore9 {l0 l1 l2 l3 l4 l5 l6 l7 l8 : Option w_V} {x : Int} {y : Option w_V} {r : w_L} (hop : w_fe code pc nx (.istore 9)) (c0 : w_nl l8) (h : w_Ex E rt code Q nx (l0 :: l1 :: l2 :: l3 :: l4 :: l5 :: l6 :: l7 :: l8 :: some (.inl x) :: r) st σ) : w_Ex E rt code Q pc (l0 :: l1 :: l2 :: l3 :: l4 :: l5 :: l6 :: l7 :: l8 :: y :: r) (.inl x :: st) σ := by
  obtain ⟨h1, rfl⟩ := hop
  exact w_Ex_in h1 (And.intro (by simp only [List.length_cons]; omega) (And.intro c0 h))
theorem wi_astore9 {l0 l1 l2 l3 l4 l5 l6 l7 l8 : Option w_V} {x : Nat × Nat} {y : Option w_V} {r : w_L} (hop : w_fe code pc nx (.astore 9)) (c0 : w_nl l8) (h : w_Ex E rt code Q nx (l0 :: l1 :: l2 :: l3 :: l4 :: l5 :: l6 :: l7 :: l8 :: some (.inr (.inr x)) :: r) st σ) : w_Ex E rt code Q pc (l0 :: l1 :: l2 :: l3 :: l4 :: l5 :: l6 :: l7 :: l8 :: y :: r) (.inr (.inr x) :: st) σ := by
  obtain ⟨h1, rfl⟩ := hop
  exact w_Ex_in h1 (And.intro (by simp only [List.length_cons]; omega) (And.intro c0 h))
theorem wi_lstore9 {l0 l1 l2 l3 l4 l5 l6 l7 l8 : Option w_V} {x : Int} {y z : Option w_V} {r : w_L} (hop : w_fe code pc nx (.lstore 9)) (c0 : w_nl l8) (h : w_Ex E rt code Q nx (l0 :: l1 :: l2 :: l3 :: l4 :: l5 :: l6 :: l7 :: l8 :: some (.inr (.inl x)) :: none :: r) st σ) : w_Ex E rt code Q pc (l0 :: l1 :: l2 :: l3 :: l4 :: l5 :: l6 :: l7 :: l8 :: y :: z :: r) (.inr (.inl x) :: st) σ := by
  obtain ⟨h1, rfl⟩ := hop
  exact w_Ex_in h1 (And.intro (by simp only [List.length_cons]; omega) (And.intro c0 h))
theorem wi_iinc9 {l0 l1 l2 l3 l4 l5 l6 l7 l8 : Option w_V} {x n : Int} {r : w_L} (hop : w_fe code pc nx (.iinc 9 n)) (c0 : w_nl l8) (c1 : w_in (x + n)) (h : w_Ex E rt code Q nx (l0 :: l1 :: l2 :: l3 :: l4 :: l5 :: l6 :: l7 :: l8 :: some (.inl (x + n)) :: r) st σ) : w_Ex E rt code Q pc (l0 :: l1 :: l2 :: l3 :: l4 :: l5 :: l6 :: l7 :: l8 :: some (.inl x) :: r) st σ := by
  obtain ⟨h1, rfl⟩ := hop
  exact w_Ex_in h1 (And.intro c0 (And.intro c1 h))
theorem wi_iload10 {l0 l1 l2 l3 l4 l5 l6 l7 l8 l9 : Option w_V} {x : Int} {r : w_L} (hop : w_fe code pc nx (.iload 10))  (h : w_Ex E rt code Q nx (l0 :: l1 :: l2 :: l3 :: l4 :: l5 :: l6 :: l7 :: l8 :: l9 :: some (.inl x) :: r) (.inl x :: st) σ) : w_Ex E rt code Q pc (l0 :: l1 :: l2 :: l3 :: l4 :: l5 :: l6 :: l7 :: l8 :: l9 :: some (.inl x) :: r) st σ := by
  obtain ⟨h1, rfl⟩ := hop
  exact w_Ex_in h1 (h)
theorem wi_lload10 {l0 l1 l2 l3 l4 l5 l6 l7 l8 l9 : Option w_V} {x : Int} {r : w_L} (hop : w_fe code pc nx (.lload 10))  (h : w_Ex E rt code Q nx (l0 :: l1 :: l2 :: l3 :: l4 :: l5 :: l6 :: l7 :: l8 :: l9 :: some (.inr (.inl x)) :: r) (.inr (.inl x) :: st) σ) : w_Ex E rt code Q pc (l0 :: l1 :: l2 :: l3 :: l4 :: l5 :: l6 :: l7 :: l8 :: l9 :: some (.inr (.inl x)) :: r) st σ := by
  obtain ⟨h1, rfl⟩ := hop
  exact w_Ex_in h1 (h)
theorem wi_aload10 {l0 l1 l2 l3 l4 l5 l6 l7 l8 l9 : Option w_V} {x : Nat × Nat} {r : w_L} (hop : w_fe code pc nx (.aload 10))  (h : w_Ex E rt code Q nx (l0 :: l1 :: l2 :: l3 :: l4 :: l5 :: l6 :: l7 :: l8 :: l9 :: some (.inr (.inr x)) :: r) (.inr (.inr x) :: st) σ) : w_Ex E rt code Q pc (l0 :: l1 :: l2 :: l3 :: l4 :: l5 :: l6 :: l7 :: l8 :: l9 :: some (.inr (.inr x)) :: r) st σ := by
  obtain ⟨h1, rfl⟩ := hop
  exact w_Ex_in h1 (h)
theorem wi_istore10 {l0 l1 l2 l3 l4 l5 l6 l7 l8 l9 : Option w_V} {x : Int} {y : Option w_V} {r : w_L} (hop : w_fe code pc nx (.istore 10)) (c0 : w_nl l9) (h : w_Ex E rt code Q nx (l0 :: l1 :: l2 :: l3 :: l4 :: l5 :: l6 :: l7 :: l8 :: l9 :: some (.inl x) :: r) st σ) : w_Ex E rt code Q pc (l0 :: l1 :: l2 :: l3 :: l4 :: l5 :: l6 :: l7 :: l8 :: l9 :: y :: r) (.inl x :: st) σ := by
  obtain ⟨h1, rfl⟩ := hop
  exact w_Ex_in h1 (And.intro (by simp only [List.length_cons]; omega) (And.intro c0 h))
theorem wi_astore10 {l0 l1 l2 l3 l4 l5 l6 l7 l8 l9 : Option w_V} {x : Nat × Nat} {y : Option w_V} {r : w_L} (hop : w_fe code pc nx (.astore 10)) (c0 : w_nl l9) (h : w_Ex E rt code Q nx (l0 :: l1 :: l2 :: l3 :: l4 :: l5 :: l6 :: l7 :: l8 :: l9 :: some (.inr (.inr x)) :: r) st σ) : w_Ex E rt code Q pc (l0 :: l1 :: l2 :: l3 :: l4 :: l5 :: l6 :: l7 :: l8 :: l9 :: y :: r) (.inr (.inr x) :: st) σ := by
  obtain ⟨h1, rfl⟩ := hop
  exact w_Ex_in h1 (And.intro (by simp only [List.length_cons]; omega) (And.intro c0 h))
theorem wi_lstore10 {l0 l1 l2 l3 l4 l5 l6 l7 l8 l9 : Option w_V} {x : Int} {y z : Option w_V} {r : w_L} (hop : w_fe code pc nx (.lstore 10)) (c0 : w_nl l9) (h : w_Ex E rt code Q nx (l0 :: l1 :: l2 :: l3 :: l4 :: l5 :: l6 :: l7 :: l8 :: l9 :: some (.inr (.inl x)) :: none :: r) st σ) : w_Ex E rt code Q pc (l0 :: l1 :: l2 :: l3 :: l4 :: l5 :: l6 :: l7 :: l8 :: l9 :: y :: z :: r) (.inr (.inl x) :: st) σ := by
  obtain ⟨h1, rfl⟩ := hop
  exact w_Ex_in h1 (And.intro (by simp only [List.length_cons]; omega) (And.intro c0 h))
theorem wi_iinc10 {l0 l1 l2 l3 l4 l5 l6 l7 l8 l9 : Option w_V} {x n : Int} {r : w_L} (hop : w_fe code pc nx (.iinc 10 n)) (c0 : w_nl l9) (c1 : w_in (x + n)) (h : w_Ex E rt code Q nx (l0 :: l1 :: l2 :: l3 :: l4 :: l5 :: l6 :: l7 :: l8 :: l9 :: some (.inl (x + n)) :: r) st σ) : w_Ex E rt code Q pc (l0 :: l1 :: l2 :: l3 :: l4 :: l5 :: l6 :: l7 :: l8 :: l9 :: some (.inl x) :: r) st σ := by
  obtain ⟨h1, rfl⟩ := hop
  exact w_Ex_in h1 (And.intro c0 (And.intro c1 h))
theorem wi_iload11 {l0 l1 l2 l3 l4 l5 l6 l7 l8 l9 l10 : Option w_V} {x : Int} {r : w_L} (hop : w_fe code pc nx (.iload 11))  (h : w_Ex E rt code Q nx (l0 :: l1 :: l2 :: l3 :: l4 :: l5 :: l6 :: l7 :: l8 :: l9 :: l10 :: some (.inl x) :: r) (.inl x :: st) σ) : w_Ex E rt code Q pc (l0 :: l1 :: l2 :: l3 :: l4 :: l5 :: l6 :: l7 :: l8 :: l9 :: l10 :: some (.inl x) :: r) st σ := by
  obtain ⟨h1, rfl⟩ := hop
  exact w_Ex_in h1 (h)
theorem wi_lload11 {l0 l1 l2 l3 l4 l5 l6 l7 l8 l9 l10 : Option w_V} {x : Int} {r : w_L} (hop : w_fe code pc nx (.lload 11))  (h : w_Ex E rt code Q nx (l0 :: l1 :: l2 :: l3 :: l4 :: l5 :: l6 :: l7 :: l8 :: l9 :: l10 :: some (.inr (.inl x)) :: r) (.inr (.inl x) :: st) σ) : w_Ex E rt code Q pc (l0 :: l1 :: l2 :: l3 :: l4 :: l5 :: l6 :: l7 :: l8 :: l9 :: l10 :: some (.inr (.inl x)) :: r) st σ := by
  obtain ⟨h1, rfl⟩ := hop
  exact w_Ex_in h1 (h)
theorem wi_aload11 {l0 l1 l2 l3 l4 l5 l6 l7 l8 l9 l10 : Option w_V} {x : Nat × Nat} {r : w_L} (hop : w_fe code pc nx (.aload 11))  (h : w_Ex E rt code Q nx (l0 :: l1 :: l2 :: l3 :: l4 :: l5 :: l6 :: l7 :: l8 :: l9 :: l10 :: some (.inr (.inr x)) :: r) (.inr (.inr x) :: st) σ) : w_Ex E rt code Q pc (l0 :: l1 :: l2 :: l3 :: l4 :: l5 :: l6 :: l7 :: l8 :: l9 :: l10 :: some (.inr (.inr x)) :: r) st σ := by
  obtain ⟨h1, rfl⟩ := hop
  exact w_Ex_in h1 (h)
theorem wi_istore11 {l0 l1 l2 l3 l4 l5 l6 l7 l8 l9 l10 : Option w_V} {x : Int} {y : Option w_V} {r : w_L} (hop : w_fe code pc nx (.istore 11)) (c0 : w_nl l10) (h : w_Ex E rt code Q nx (l0 :: l1 :: l2 :: l3 :: l4 :: l5 :: l6 :: l7 :: l8 :: l9 :: l10 :: some (.inl x) :: r) st σ) : w_Ex E rt code Q pc (l0 :: l1 :: l2 :: l3 :: l4 :: l5 :: l6 :: l7 :: l8 :: l9 :: l10 :: y :: r) (.inl x :: st) σ := by
  obtain ⟨h1, rfl⟩ := hop
  exact w_Ex_in h1 (And.intro (by simp only [List.length_cons]; omega) (And.intro c0 h))
theorem wi_astore11 {l0 l1 l2 l3 l4 l5 l6 l7 l8 l9 l10 : Option w_V} {x : Nat × Nat} {y : Option w_V} {r : w_L} (hop : w_fe code pc nx (.astore 11)) (c0 : w_nl l10) (h : w_Ex E rt code Q nx (l0 :: l1 :: l2 :: l3 :: l4 :: l5 :: l6 :: l7 :: l8 :: l9 :: l10 :: some (.inr (.inr x)) :: r) st σ) : w_Ex E rt code Q pc (l0 :: l1 :: l2 :: l3 :: l4 :: l5 :: l6 :: l7 :: l8 :: l9 :: l10 :: y :: r) (.inr (.inr x) :: st) σ := by
  obtain ⟨h1, rfl⟩ := hop
  exact w_Ex_in h1 (And.intro (by simp only [List.length_cons]; omega) (And.intro c0 h))
theorem wi_lstore11 {l0 l1 l2 l3 l4 l5 l6 l7 l8 l9 l10 : Option w_V} {x : Int} {y z : Option w_V} {r : w_L} (hop : w_fe code pc nx (.lstore 11)) (c0 : w_nl l10) (h : w_Ex E rt code Q nx (l0 :: l1 :: l2 :: l3 :: l4 :: l5 :: l6 :: l7 :: l8 :: l9 :: l10 :: some (.inr (.inl x)) :: none :: r) st σ) : w_Ex E rt code Q pc (l0 :: l1 :: l2 :: l3 :: l4 :: l5 :: l6 :: l7 :: l8 :: l9 :: l10 :: y :: z :: r) (.inr (.inl x) :: st) σ := by
  obtain ⟨h1, rfl⟩ := hop
  exact w_Ex_in h1 (And.intro (by simp only [List.length_cons]; omega) (And.intro c0 h))
theorem wi_iinc11 {l0 l1 l2 l3 l4 l5 l6 l7 l8 l9 l10 : Option w_V} {x n : Int} {r : w_L} (hop : w_fe code pc nx (.iinc 11 n)) (c0 : w_nl l10) (c1 : w_in (x + n)) (h : w_Ex E rt code Q nx (l0 :: l1 :: l2 :: l3 :: l4 :: l5 :: l6 :: l7 :: l8 :: l9 :: l10 :: some (.inl (x + n)) :: r) st σ) : w_Ex E rt code Q pc (l0 :: l1 :: l2 :: l3 :: l4 :: l5 :: l6 :: l7 :: l8 :: l9 :: l10 :: some (.inl x) :: r) st σ := by
  obtain ⟨h1, rfl⟩ := hop
  exact w_Ex_in h1 (And.intro c0 (And.intro c1 h))
theorem wi_iload12 {l0 l1 l2 l3 l4 l5 l6 l7 l8 l9 l10 l11 : Option w_V} {x : Int} {r : w_L} (hop : w_fe code pc nx (.iload 12))  (h : w_Ex E rt code Q nx (l0 :: l1 :: l2 :: l3 :: l4 :: l5 :: l6 :: l7 :: l8 :: l9 :: l10 :: l11 :: some (.inl x) :: r) (.inl x :: st) σ) : w_Ex E rt code Q pc (l0 :: l1 :: l2 :: l3 :: l4 :: l5 :: l6 :: l7 :: l8 :: l9 :: l10 :: l11 :: some (.inl x) :: r) st σ := by
  obtain ⟨h1, rfl⟩ := hop
  exact w_Ex_in h1 (h)
theorem wi_lload12 {l0 l1 l2 l3 l4 l5 l6 l7 l8 l9 l10 l11 : Option w_V} {x : Int} {r : w_L} (hop : w_fe code pc nx (.lload 12))  (h : w_Ex E rt code Q nx (l0 :: l1 :: l2 :: l3 :: l4 :: l5 :: l6 :: l7 :: l8 :: l9 :: l10 :: l11 :: some (.inr (.inl x)) :: r) (.inr (.inl x) :: st) σ) : w_Ex E rt code Q pc (l0 :: l1 :: l2 :: l3 :: l4 :: l5 :: l6 :: l7 :: l8 :: l9 :: l10 :: l11 :: some (.inr (.inl x)) :: r) st σ := by
  obtain ⟨h1, rfl⟩ := hop
  exact w_Ex_in h1 (h)
theorem wi_aload12 {l0 l1 l2 l3 l4 l5 l6 l7 l8 l9 l10 l11 : Option w_V} {x : Nat × Nat} {r : w_L} (hop : w_fe code pc nx (.aload 12))  (h : w_Ex E rt code Q nx (l0 :: l1 :: l2 :: l3 :: l4 :: l5 :: l6 :: l7 :: l8 :: l9 :: l10 :: l11 :: some (.inr (.inr x)) :: r) (.inr (.inr x) :: st) σ) : w_Ex E rt code Q pc (l0 :: l1 :: l2 :: l3 :: l4 :: l5 :: l6 :: l7 :: l8 :: l9 :: l10 :: l11 :: some (.inr (.inr x)) :: r) st σ := by
  obtain ⟨h1, rfl⟩ := hop
  exact w_Ex_in h1 (h)
theorem wi_istore12 {l0 l1 l2 l3 l4 l5 l6 l7 l8 l9 l10 l11 : Option w_V} {x : Int} {y : Option w_V} {r : w_L} (hop : w_fe code pc nx (.istore 12)) (c0 : w_nl l11) (h : w_Ex E rt code Q nx (l0 :: l1 :: l2 :: l3 :: l4 :: l5 :: l6 :: l7 :: l8 :: l9 :: l10 :: l11 :: some (.inl x) :: r) st σ) : w_Ex E rt code Q pc (l0 :: l1 :: l2 :: l3 :: l4 :: l5 :: l6 :: l7 :: l8 :: l9 :: l10 :: l11 :: y :: r) (.inl x :: st) σ := by
  obtain ⟨h1, rfl⟩ := hop
  exact w_Ex_in h1 (And.intro (by simp only [List.length_cons]; omega) (And.intro c0 h))
theorem wi_astore12 {l0 l1 l2 l3 l4 l5 l6 l7 l8 l9 l10 l11 : Option w_V} {x : Nat × Nat} {y : Option w_V} {r : w_L} (hop : w_fe code pc nx (.astore 12)) (c0 : w_nl l11) (h : w_Ex E rt code Q nx (l0 :: l1 :: l2 :: l3 :: l4 :: l5 :: l6 :: l7 :: l8 :: l9 :: l10 :: l11 :: some (.inr (.inr x)) :: r) st σ) : w_Ex E rt code Q pc (l0 :: l1 :: l2 :: l3 :: l4 :: l5 :: l6 :: l7 :: l8 :: l9 :: l10 :: l11 :: y :: r) (.inr (.inr x) :: st) σ := by
  obtain ⟨h1, rfl⟩ := hop
  exact w_Ex_in h1 (And.intro (by simp only [List.length_cons]; omega) (And.intro c0 h))
theorem wi_lstore12 {l0 l1 l2 l3 l4 l5 l6 l7 l8 l9 l10 l11 : Option w_V} {x : Int} {y z : Option w_V} {r : w_L} (hop : w_fe code pc nx (.lstore 12)) (c0 : w_nl l11) (h : w_Ex E rt code Q nx (l0 :: l1 :: l2 :: l3 :: l4 :: l5 :: l6 :: l7 :: l8 :: l9 :: l10 :: l11 :: some (.inr (.inl x)) :: none :: r) st σ) : w_Ex E rt code Q pc (l0 :: l1 :: l2 :: l3 :: l4 :: l5 :: l6 :: l7 :: l8 :: l9 :: l10 :: l11 :: y :: z :: r) (.inr (.inl x) :: st) σ := by
  obtain ⟨h1, rfl⟩ := hop
  exact w_Ex_in h1 (And.intro (by simp only [List.length_cons]; omega) (And.intro c0 h))
theorem wi_iinc12 {l0 l1 l2 l3 l4 l5 l6 l7 l8 l9 l10 l11 : Option w_V} {x n : Int} {r : w_L} (hop : w_fe code pc nx (.iinc 12 n)) (c0 : w_nl l11) (c1 : w_in (x + n)) (h : w_Ex E rt code Q nx (l0 :: l1 :: l2 :: l3 :: l4 :: l5 :: l6 :: l7 :: l8 :: l9 :: l10 :: l11 :: some (.inl (x + n)) :: r) st σ) : w_Ex E rt code Q pc (l0 :: l1 :: l2 :: l3 :: l4 :: l5 :: l6 :: l7 :: l8 :: l9 :: l10 :: l11 :: some (.inl x) :: r) st σ := by
  obtain ⟨h1, rfl⟩ := hop
  exact w_Ex_in h1 (And.intro c0 (And.intro c1 h))
theorem wi_iadd {x y : Int} (hop : w_fe code pc nx (.iadd)) (c0 : w_in (x + y)) (h : w_Ex E rt code Q nx ls (.inl (x + y) :: st) σ) : w_Ex E rt code Q pc ls (.inl y :: .inl x :: st) σ := by
  obtain ⟨h1, rfl⟩ := hop
  exact w_Ex_in h1 (And.intro c0 (h))
theorem wi_fadd {x y : Int} (hop : w_fe code pc nx (.fadd))  (h : w_Ex E rt code Q nx ls (.inl (w_wr (x + y)) :: st) σ) : w_Ex E rt code Q pc ls (.inl y :: .inl x :: st) σ := by
  obtain ⟨h1, rfl⟩ := hop
  exact w_Ex_in h1 (h)
theorem wi_isub {x y : Int} (hop : w_fe code pc nx (.isub)) (c0 : w_in (x - y)) (h : w_Ex E rt code Q nx ls (.inl (x - y) :: st) σ) : w_Ex E rt code Q pc ls (.inl y :: .inl x :: st) σ := by
  obtain ⟨h1, rfl⟩ := hop
  exact w_Ex_in h1 (And.intro c0 (h))
theorem wi_fsub {x y : Int} (hop : w_fe code pc nx (.fsub))  (h : w_Ex E rt code Q nx ls (.inl (w_wr (x - y)) :: st) σ) : w_Ex E rt code Q pc ls (.inl y :: .inl x :: st) σ := by
  obtain ⟨h1, rfl⟩ := hop
  exact w_Ex_in h1 (h)
theorem wi_imul {x y : Int} (hop : w_fe code pc nx (.imul)) (c0 : w_in (x * y)) (h : w_Ex E rt code Q nx ls (.inl (x * y) :: st) σ) : w_Ex E rt code Q pc ls (.inl y :: .inl x :: st) σ := by
  obtain ⟨h1, rfl⟩ := hop
  exact w_Ex_in h1 (And.intro c0 (h))
theorem wi_fmul {x y : Int} (hop : w_fe code pc nx (.fmul))  (h : w_Ex E rt code Q nx ls (.inl (w_wr (x * y)) :: st) σ) : w_Ex E rt code Q pc ls (.inl y :: .inl x :: st) σ := by
  obtain ⟨h1, rfl⟩ := hop
  exact w_Ex_in h1 (h)
theorem wi_ladd {x y : Int} (hop : w_fe code pc nx (.ladd)) (c0 : w_inl (x + y)) (h : w_Ex E rt code Q nx ls (.inr (.inl (x + y)) :: st) σ) : w_Ex E rt code Q pc ls (.inr (.inl y) :: .inr (.inl x) :: st) σ := by
  obtain ⟨h1, rfl⟩ := hop
  exact w_Ex_in h1 (And.intro c0 (h))
theorem wi_lmul {x y : Int} (hop : w_fe code pc nx (.lmul)) (c0 : w_inl (x * y)) (h : w_Ex E rt code Q nx ls (.inr (.inl (x * y)) :: st) σ) : w_Ex E rt code Q pc ls (.inr (.inl y) :: .inr (.inl x) :: st) σ := by
  obtain ⟨h1, rfl⟩ := hop
  exact w_Ex_in h1 (And.intro c0 (h))
theorem wi_idiv {x y : Int} (hop : w_fe code pc nx (.idiv)) (c0 : ¬ y = 0) (c1 : w_in (x.tdiv y)) (h : w_Ex E rt code Q nx ls (.inl (x.tdiv y) :: st) σ) : w_Ex E rt code Q pc ls (.inl y :: .inl x :: st) σ := by
  obtain ⟨h1, rfl⟩ := hop
  exact w_Ex_in h1 (And.intro c0 (And.intro c1 (h)))
theorem wi_irem {x y : Int} (hop : w_fe code pc nx (.irem)) (c0 : ¬ y = 0) (h : w_Ex E rt code Q nx ls (.inl (x.tmod y) :: st) σ) : w_Ex E rt code Q pc ls (.inl y :: .inl x :: st) σ := by
  obtain ⟨h1, rfl⟩ := hop
  exact w_Ex_in h1 (And.intro c0 (h))
theorem wi_ldiv {x y : Int} (hop : w_fe code pc nx (.ldiv)) (c0 : ¬ y = 0) (c1 : w_inl (x.tdiv y)) (h : w_Ex E rt code Q nx ls (.inr (.inl (x.tdiv y)) :: st) σ) : w_Ex E rt code Q pc ls (.inr (.inl y) :: .inr (.inl x) :: st) σ := by
  obtain ⟨h1, rfl⟩ := hop
  exact w_Ex_in h1 (And.intro c0 (And.intro c1 (h)))
theorem wi_lrem {x y : Int} (hop : w_fe code pc nx (.lrem)) (c0 : ¬ y = 0) (h : w_Ex E rt code Q nx ls (.inr (.inl (x.tmod y)) :: st) σ) : w_Ex E rt code Q pc ls (.inr (.inl y) :: .inr (.inl x) :: st) σ := by
  obtain ⟨h1, rfl⟩ := hop
  exact w_Ex_in h1 (And.intro c0 (h))
theorem wi_iand {x y : Int} (hop : w_fe code pc nx (.iand))  (h : w_Ex E rt code Q nx ls (.inl (w_and x y) :: st) σ) : w_Ex E rt code Q pc ls (.inl y :: .inl x :: st) σ := by
  obtain ⟨h1, rfl⟩ := hop
  exact w_Ex_in h1 (h)
theorem wi_ior {x y : Int} (hop : w_fe code pc nx (.ior))  (h : w_Ex E rt code Q nx ls (.inl (w_or x y) :: st) σ) : w_Ex E rt code Q pc ls (.inl y :: .inl x :: st) σ := by
  obtain ⟨h1, rfl⟩ := hop
  exact w_Ex_in h1 (h)
theorem wi_ixor {x y : Int} (hop : w_fe code pc nx (.ixor))  (h : w_Ex E rt code Q nx ls (.inl (w_xor x y) :: st) σ) : w_Ex E rt code Q pc ls (.inl y :: .inl x :: st) σ := by
  obtain ⟨h1, rfl⟩ := hop
  exact w_Ex_in h1 (h)
theorem wi_ishl {x y : Int} (hop : w_fe code pc nx (.ishl))  (h : w_Ex E rt code Q nx ls (.inl (w_shl x y) :: st) σ) : w_Ex E rt code Q pc ls (.inl y :: .inl x :: st) σ := by
  obtain ⟨h1, rfl⟩ := hop
  exact w_Ex_in h1 (h)
theorem wi_ishr {x y : Int} (hop : w_fe code pc nx (.ishr))  (h : w_Ex E rt code Q nx ls (.inl (w_shr x y) :: st) σ) : w_Ex E rt code Q pc ls (.inl y :: .inl x :: st) σ := by
  obtain ⟨h1, rfl⟩ := hop
  exact w_Ex_in h1 (h)
theorem wi_iushr {x y : Int} (hop : w_fe code pc nx (.iushr))  (h : w_Ex E rt code Q nx ls (.inl (w_ushr x y) :: st) σ) : w_Ex E rt code Q pc ls (.inl y :: .inl x :: st) σ := by
  obtain ⟨h1, rfl⟩ := hop
  exact w_Ex_in h1 (h)
theorem wi_ineg {x : Int} (hop : w_fe code pc nx (.ineg)) (c0 : w_in (-x)) (h : w_Ex E rt code Q nx ls (.inl (-x) :: st) σ) : w_Ex E rt code Q pc ls (.inl x :: st) σ := by
  obtain ⟨h1, rfl⟩ := hop
  exact w_Ex_in h1 (And.intro c0 (h))
theorem wi_i2l {x : Int} (hop : w_fe code pc nx (.i2l))  (h : w_Ex E rt code Q nx ls (.inr (.inl x) :: st) σ) : w_Ex E rt code Q pc ls (.inl x :: st) σ := by
  obtain ⟨h1, rfl⟩ := hop
  exact w_Ex_in h1 (h)
theorem wi_i2b {x : Int} (hop : w_fe code pc nx (.i2b))  (h : w_Ex E rt code Q nx ls (.inl (Int.bmod x 256) :: st) σ) : w_Ex E rt code Q pc ls (.inl x :: st) σ := by
  obtain ⟨h1, rfl⟩ := hop
  exact w_Ex_in h1 (h)
theorem wi_i2s {x : Int} (hop : w_fe code pc nx (.i2s))  (h : w_Ex E rt code Q nx ls (.inl (Int.bmod x 65536) :: st) σ) : w_Ex E rt code Q pc ls (.inl x :: st) σ := by
  obtain ⟨h1, rfl⟩ := hop
  exact w_Ex_in h1 (h)
theorem wi_i2c {x : Int} (hop : w_fe code pc nx (.i2c)) (c0 : 0 ≤ x ∧ x ≤ 65535) (h : w_Ex E rt code Q nx ls (.inl x :: st) σ) : w_Ex E rt code Q pc ls (.inl x :: st) σ := by
  obtain ⟨h1, rfl⟩ := hop
  exact w_Ex_in h1 (And.intro c0 (h))
theorem wi_dup_i {x : Int} (hop : w_fe code pc nx (.dup))  (h : w_Ex E rt code Q nx ls (.inl x :: .inl x :: st) σ) : w_Ex E rt code Q pc ls (.inl x :: st) σ := by
  obtain ⟨h1, rfl⟩ := hop
  exact w_Ex_in h1 (h)
theorem wi_dup_a {x : Nat × Nat} (hop : w_fe code pc nx (.dup))  (h : w_Ex E rt code Q nx ls (.inr (.inr x) :: .inr (.inr x) :: st) σ) : w_Ex E rt code Q pc ls (.inr (.inr x) :: st) σ := by
  obtain ⟨h1, rfl⟩ := hop
  exact w_Ex_in h1 (h)
theorem wi_dup2 {x : Int} {y : Nat × Nat} (hop : w_fe code pc nx (.dup2))  (h : w_Ex E rt code Q nx ls (.inl x :: .inr (.inr y) :: .inl x :: .inr (.inr y) :: st) σ) : w_Ex E rt code Q pc ls (.inl x :: .inr (.inr y) :: st) σ := by
  obtain ⟨h1, rfl⟩ := hop
  exact w_Ex_in h1 (h)
theorem wi_pop_i {x : Int} (hop : w_fe code pc nx (.pop))  (h : w_Ex E rt code Q nx ls st σ) : w_Ex E rt code Q pc ls (.inl x :: st) σ := by
  obtain ⟨h1, rfl⟩ := hop
  exact w_Ex_in h1 (h)
theorem wi_pop2 {x : Int} (hop : w_fe code pc nx (.pop2))  (h : w_Ex E rt code Q nx ls st σ) : w_Ex E rt code Q pc ls (.inr (.inl x) :: st) σ := by
  obtain ⟨h1, rfl⟩ := hop
  exact w_Ex_in h1 (h)
theorem wi_pop_a {x : Nat × Nat} (hop : w_fe code pc nx (.pop))  (h : w_Ex E rt code Q nx ls st σ) : w_Ex E rt code Q pc ls (.inr (.inr x) :: st) σ := by
  obtain ⟨h1, rfl⟩ := hop
  exact w_Ex_in h1 (h)
theorem wi_goto {t : Nat} (hop : w_gt code pc t) (h : w_Ex E rt code Q t ls st σ) : w_Ex E rt code Q pc ls st σ := w_Ex_in hop h
theorem wi_ic_eq {x y : Int} {t : Nat} (hop : w_ic code pc nx .eq t) (h1 : x = y → w_Ex E rt code Q t ls st σ) (h2 : ¬ x = y → w_Ex E rt code Q nx ls st σ) : w_Ex E rt code Q pc ls (.inl y :: .inl x :: st) σ := by
  obtain ⟨h, rfl⟩ := hop
  exact w_Ex_in h (And.intro h1 (h2))
theorem wi_if_eq {x : Int} {t : Nat} (hop : w_if code pc nx .eq t) (h1 : x = 0 → w_Ex E rt code Q t ls st σ) (h2 : ¬ x = 0 → w_Ex E rt code Q nx ls st σ) : w_Ex E rt code Q pc ls (.inl x :: st) σ := by
  obtain ⟨h, rfl⟩ := hop
  exact w_Ex_in h (And.intro h1 (h2))
theorem wi_lcmp_eq {x y : Int} {n2 t : Nat} (hop : w_fe code pc nx .lcmp) (hop2 : w_if code nx n2 .eq t) (h1 : x = y → w_Ex E rt code Q t ls st σ) (h2 : ¬ x = y → w_Ex E rt code Q n2 ls st σ) : w_Ex E rt code Q pc ls (.inr (.inl y) :: .inr (.inl x) :: st) σ := by
  obtain ⟨h, rfl⟩ := hop
  refine w_Ex_in h (wi_if_eq (x := if y < x then 1 else if x = y then 0 else -1) hop2 (fun c => h1 ?_) (fun c => h2 ?_))
  all_goals (split at c <;> try split at c) <;> omega
theorem wi_ic_ne {x y : Int} {t : Nat} (hop : w_ic code pc nx .ne t) (h1 : ¬ x = y → w_Ex E rt code Q t ls st σ) (h2 : x = y → w_Ex E rt code Q nx ls st σ) : w_Ex E rt code Q pc ls (.inl y :: .inl x :: st) σ := by
  obtain ⟨h, rfl⟩ := hop
  exact w_Ex_in h (And.intro h1 (fun c => h2 (Classical.not_not.mp c)))
theorem wi_if_ne {x : Int} {t : Nat} (hop : w_if code pc nx .ne t) (h1 : ¬ x = 0 → w_Ex E rt code Q t ls st σ) (h2 : x = 0 → w_Ex E rt code Q nx ls st σ) : w_Ex E rt code Q pc ls (.inl x :: st) σ := by
  obtain ⟨h, rfl⟩ := hop
  exact w_Ex_in h (And.intro h1 (fun c => h2 (Classical.not_not.mp c)))
theorem wi_lcmp_ne {x y : Int} {n2 t : Nat} (hop : w_fe code pc nx .lcmp) (hop2 : w_if code nx n2 .ne t) (h1 : ¬ x = y → w_Ex E rt code Q t ls st σ) (h2 : x = y → w_Ex E rt code Q n2 ls st σ) : w_Ex E rt code Q pc ls (.inr (.inl y) :: .inr (.inl x) :: st) σ := by
  obtain ⟨h, rfl⟩ := hop
  refine w_Ex_in h (wi_if_ne (x := if y < x then 1 else if x = y then 0 else -1) hop2 (fun c => h1 ?_) (fun c => h2 ?_))
  all_goals (split at c <;> try split at c) <;> omega
theorem wi_ic_lt {x y : Int} {t : Nat} (hop : w_ic code pc nx .lt t) (h1 : x < y → w_Ex E rt code Q t ls st σ) (h2 : y ≤ x → w_Ex E rt code Q nx ls st σ) : w_Ex E rt code Q pc ls (.inl y :: .inl x :: st) σ := by
  obtain ⟨h, rfl⟩ := hop
  exact w_Ex_in h (And.intro h1 (fun c => h2 (Int.not_lt.mp c)))
theorem wi_if_lt {x : Int} {t : Nat} (hop : w_if code pc nx .lt t) (h1 : x < 0 → w_Ex E rt code Q t ls st σ) (h2 : 0 ≤ x → w_Ex E rt code Q nx ls st σ) : w_Ex E rt code Q pc ls (.inl x :: st) σ := by
  obtain ⟨h, rfl⟩ := hop
  exact w_Ex_in h (And.intro h1 (fun c => h2 (Int.not_lt.mp c)))
theorem wi_lcmp_lt {x y : Int} {n2 t : Nat} (hop : w_fe code pc nx .lcmp) (hop2 : w_if code nx n2 .lt t) (h1 : x < y → w_Ex E rt code Q t ls st σ) (h2 : y ≤ x → w_Ex E rt code Q n2 ls st σ) : w_Ex E rt code Q pc ls (.inr (.inl y) :: .inr (.inl x) :: st) σ := by
  obtain ⟨h, rfl⟩ := hop
  refine w_Ex_in h (wi_if_lt (x := if y < x then 1 else if x = y then 0 else -1) hop2 (fun c => h1 ?_) (fun c => h2 ?_))
  all_goals (split at c <;> try split at c) <;> omega
theorem wi_ic_ge {x y : Int} {t : Nat} (hop : w_ic code pc nx .ge t) (h1 : y ≤ x → w_Ex E rt code Q t ls st σ) (h2 : x < y → w_Ex E rt code Q nx ls st σ) : w_Ex E rt code Q pc ls (.inl y :: .inl x :: st) σ := by
  obtain ⟨h, rfl⟩ := hop
  exact w_Ex_in h (And.intro h1 (fun c => h2 (Int.not_le.mp c)))
theorem wi_if_ge {x : Int} {t : Nat} (hop : w_if code pc nx .ge t) (h1 : 0 ≤ x → w_Ex E rt code Q t ls st σ) (h2 : x < 0 → w_Ex E rt code Q nx ls st σ) : w_Ex E rt code Q pc ls (.inl x :: st) σ := by
  obtain ⟨h, rfl⟩ := hop
  exact w_Ex_in h (And.intro h1 (fun c => h2 (Int.not_le.mp c)))
theorem wi_lcmp_ge {x y : Int} {n2 t : Nat} (hop : w_fe code pc nx .lcmp) (hop2 : w_if code nx n2 .ge t) (h1 : y ≤ x → w_Ex E rt code Q t ls st σ) (h2 : x < y → w_Ex E rt code Q n2 ls st σ) : w_Ex E rt code Q pc ls (.inr (.inl y) :: .inr (.inl x) :: st) σ := by
  obtain ⟨h, rfl⟩ := hop
  refine w_Ex_in h (wi_if_ge (x := if y < x then 1 else if x = y then 0 else -1) hop2 (fun c => h1 ?_) (fun c => h2 ?_))
  all_goals (split at c <;> try split at c) <;> omega
theorem wi_ic_gt {x y : Int} {t : Nat} (hop : w_ic code pc nx .gt t) (h1 : y < x → w_Ex E rt code Q t ls st σ) (h2 : x ≤ y → w_Ex E rt code Q nx ls st σ) : w_Ex E rt code Q pc ls (.inl y :: .inl x :: st) σ := by
  obtain ⟨h, rfl⟩ := hop
  exact w_Ex_in h (And.intro h1 (fun c => h2 (Int.not_lt.mp c)))
theorem wi_if_gt {x : Int} {t : Nat} (hop : w_if code pc nx .gt t) (h1 : 0 < x → w_Ex E rt code Q t ls st σ) (h2 : x ≤ 0 → w_Ex E rt code Q nx ls st σ) : w_Ex E rt code Q pc ls (.inl x :: st) σ := by
  obtain ⟨h, rfl⟩ := hop
  exact w_Ex_in h (And.intro h1 (fun c => h2 (Int.not_lt.mp c)))
theorem wi_lcmp_gt {x y : Int} {n2 t : Nat} (hop : w_fe code pc nx .lcmp) (hop2 : w_if code nx n2 .gt t) (h1 : y < x → w_Ex E rt code Q t ls st σ) (h2 : x ≤ y → w_Ex E rt code Q n2 ls st σ) : w_Ex E rt code Q pc ls (.inr (.inl y) :: .inr (.inl x) :: st) σ := by
  obtain ⟨h, rfl⟩ := hop
  refine w_Ex_in h (wi_if_gt (x := if y < x then 1 else if x = y then 0 else -1) hop2 (fun c => h1 ?_) (fun c => h2 ?_))
  all_goals (split at c <;> try split at c) <;> omega
theorem wi_ic_le {x y : Int} {t : Nat} (hop : w_ic code pc nx .le t) (h1 : x ≤ y → w_Ex E rt code Q t ls st σ) (h2 : y < x → w_Ex E rt code Q nx ls st σ) : w_Ex E rt code Q pc ls (.inl y :: .inl x :: st) σ := by
  obtain ⟨h, rfl⟩ := hop
  exact w_Ex_in h (And.intro h1 (fun c => h2 (Int.not_le.mp c)))
theorem wi_if_le {x : Int} {t : Nat} (hop : w_if code pc nx .le t) (h1 : x ≤ 0 → w_Ex E rt code Q t ls st σ) (h2 : 0 < x → w_Ex E rt code Q nx ls st σ) : w_Ex E rt code Q pc ls (.inl x :: st) σ := by
  obtain ⟨h, rfl⟩ := hop
  exact w_Ex_in h (And.intro h1 (fun c => h2 (Int.not_le.mp c)))
theorem wi_lcmp_le {x y : Int} {n2 t : Nat} (hop : w_fe code pc nx .lcmp) (hop2 : w_if code nx n2 .le t) (h1 : x ≤ y → w_Ex E rt code Q t ls st σ) (h2 : y < x → w_Ex E rt code Q n2 ls st σ) : w_Ex E rt code Q pc ls (.inr (.inl y) :: .inr (.inl x) :: st) σ := by
  obtain ⟨h, rfl⟩ := hop
  refine w_Ex_in h (wi_if_le (x := if y < x then 1 else if x = y then 0 else -1) hop2 (fun c => h1 ?_) (fun c => h2 ?_))
  all_goals (split at c <;> try split at c) <;> omega
theorem wi_ifb_eq {P : Prop} {t : Nat} (hop : w_if code pc nx .eq t) (h1 : ¬ P → w_Ex E rt code Q t ls st σ) (h2 : P → w_Ex E rt code Q nx ls st σ) : w_Ex E rt code Q pc ls (.inl (w_bi P) :: st) σ := wi_if_eq hop (fun c => h1 (w_bi_0.mp c)) (fun c => h2 (w_bi_n0.mp c))
theorem wi_ifb_ne {P : Prop} {t : Nat} (hop : w_if code pc nx .ne t) (h1 : P → w_Ex E rt code Q t ls st σ) (h2 : ¬ P → w_Ex E rt code Q nx ls st σ) : w_Ex E rt code Q pc ls (.inl (w_bi P) :: st) σ := wi_if_ne hop (fun c => h1 (w_bi_n0.mp c)) (fun c => h2 (w_bi_0.mp c))
theorem wi_iald1003 {j : Int} {a : Nat} (hop : w_fe code pc nx (.iaload)) (c0 : 0 ≤ j) (c1 : j < 3) (h : w_Ex E rt code Q nx ls (.inl (σ a j.toNat) :: st) σ) : w_Ex E rt code Q pc ls (.inl j :: .inr (.inr (1003, a)) :: st) σ := by
  obtain ⟨h1, rfl⟩ := hop
  exact w_Ex_in h1 (And.intro c0 (And.intro c1 (h)))
theorem wi_iast1003 {x j : Int} {a : Nat} (hop : w_fe code pc nx (.iastore)) (c0 : 0 ≤ j) (c1 : j < 3) (h : w_Ex E rt code Q nx ls st (w_up σ a j.toNat x)) : w_Ex E rt code Q pc ls (.inl x :: .inl j :: .inr (.inr (1003, a)) :: st) σ := by
  obtain ⟨h1, rfl⟩ := hop
  exact w_Ex_in h1 (And.intro (And.intro (by decide) (by decide)) (And.intro c0 (And.intro c1 h)))
theorem wi_alen1003 {a : Nat} (hop : w_fe code pc nx (.arraylength))  (h : w_Ex E rt code Q nx ls (.inl 3 :: st) σ) : w_Ex E rt code Q pc ls (.inr (.inr (1003, a)) :: st) σ := by
  obtain ⟨h1, rfl⟩ := hop
  exact w_Ex_in h1 (h)
theorem wi_iald1004 {j : Int} {a : Nat} (hop : w_fe code pc nx (.iaload)) (c0 : 0 ≤ j) (c1 : j < 4) (h : w_Ex E rt code Q nx ls (.inl (σ a j.toNat) :: st) σ) : w_Ex E rt code Q pc ls (.inl j :: .inr (.inr (1004, a)) :: st) σ := by
  obtain ⟨h1, rfl⟩ := hop
  exact w_Ex_in h1 (And.intro c0 (And.intro c1 (h)))
theorem wi_iast1004 {x j : Int} {a : Nat} (hop : w_fe code pc nx (.iastore)) (c0 : 0 ≤ j) (c1 : j < 4) (h : w_Ex E rt code Q nx ls st (w_up σ a j.toNat x)) : w_Ex E rt code Q pc ls (.inl x :: .inl j :: .inr (.inr (1004, a)) :: st) σ := by
  obtain ⟨h1, rfl⟩ := hop
  exact w_Ex_in h1 (And.intro (And.intro (by decide) (by decide)) (And.intro c0 (And.intro c1 h)))
theorem wi_alen1004 {a : Nat} (hop : w_fe code pc nx (.arraylength))  (h : w_Ex E rt code Q nx ls (.inl 4 :: st) σ) : w_Ex E rt code Q pc ls (.inr (.inr (1004, a)) :: st) σ := by
  obtain ⟨h1, rfl⟩ := hop
  exact w_Ex_in h1 (h)
theorem wi_iald1007 {j : Int} {a : Nat} (hop : w_fe code pc nx (.iaload)) (c0 : 0 ≤ j) (c1 : j < 7) (h : w_Ex E rt code Q nx ls (.inl (σ a j.toNat) :: st) σ) : w_Ex E rt code Q pc ls (.inl j :: .inr (.inr (1007, a)) :: st) σ := by
  obtain ⟨h1, rfl⟩ := hop
  exact w_Ex_in h1 (And.intro c0 (And.intro c1 (h)))
theorem wi_iast1007 {x j : Int} {a : Nat} (hop : w_fe code pc nx (.iastore)) (c0 : 0 ≤ j) (c1 : j < 7) (h : w_Ex E rt code Q nx ls st (w_up σ a j.toNat x)) : w_Ex E rt code Q pc ls (.inl x :: .inl j :: .inr (.inr (1007, a)) :: st) σ := by
  obtain ⟨h1, rfl⟩ := hop
  exact w_Ex_in h1 (And.intro (And.intro (by decide) (by decide)) (And.intro c0 (And.intro c1 h)))
theorem wi_alen1007 {a : Nat} (hop : w_fe code pc nx (.arraylength))  (h : w_Ex E rt code Q nx ls (.inl 7 :: st) σ) : w_Ex E rt code Q pc ls (.inr (.inr (1007, a)) :: st) σ := by
  obtain ⟨h1, rfl⟩ := hop
  exact w_Ex_in h1 (h)
theorem wi_iald1008 {j : Int} {a : Nat} (hop : w_fe code pc nx (.iaload)) (c0 : 0 ≤ j) (c1 : j < 8) (h : w_Ex E rt code Q nx ls (.inl (σ a j.toNat) :: st) σ) : w_Ex E rt code Q pc ls (.inl j :: .inr (.inr (1008, a)) :: st) σ := by
  obtain ⟨h1, rfl⟩ := hop
  exact w_Ex_in h1 (And.intro c0 (And.intro c1 (h)))
theorem wi_iast1008 {x j : Int} {a : Nat} (hop : w_fe code pc nx (.iastore)) (c0 : 0 ≤ j) (c1 : j < 8) (h : w_Ex E rt code Q nx ls st (w_up σ a j.toNat x)) : w_Ex E rt code Q pc ls (.inl x :: .inl j :: .inr (.inr (1008, a)) :: st) σ := by
  obtain ⟨h1, rfl⟩ := hop
  exact w_Ex_in h1 (And.intro (And.intro (by decide) (by decide)) (And.intro c0 (And.intro c1 h)))
theorem wi_alen1008 {a : Nat} (hop : w_fe code pc nx (.arraylength))  (h : w_Ex E rt code Q nx ls (.inl 8 :: st) σ) : w_Ex E rt code Q pc ls (.inr (.inr (1008, a)) :: st) σ := by
  obtain ⟨h1, rfl⟩ := hop
  exact w_Ex_in h1 (h)
theorem wi_iald1010 {j : Int} {a : Nat} (hop : w_fe code pc nx (.iaload)) (c0 : 0 ≤ j) (c1 : j < 10) (h : w_Ex E rt code Q nx ls (.inl (σ a j.toNat) :: st) σ) : w_Ex E rt code Q pc ls (.inl j :: .inr (.inr (1010, a)) :: st) σ := by
  obtain ⟨h1, rfl⟩ := hop
  exact w_Ex_in h1 (And.intro c0 (And.intro c1 (h)))
theorem wi_iast1010 {x j : Int} {a : Nat} (hop : w_fe code pc nx (.iastore)) (c0 : 0 ≤ j) (c1 : j < 10) (h : w_Ex E rt code Q nx ls st (w_up σ a j.toNat x)) : w_Ex E rt code Q pc ls (.inl x :: .inl j :: .inr (.inr (1010, a)) :: st) σ := by
  obtain ⟨h1, rfl⟩ := hop
  exact w_Ex_in h1 (And.intro (And.intro (by decide) (by decide)) (And.intro c0 (And.intro c1 h)))
theorem wi_alen1010 {a : Nat} (hop : w_fe code pc nx (.arraylength))  (h : w_Ex E rt code Q nx ls (.inl 10 :: st) σ) : w_Ex E rt code Q pc ls (.inr (.inr (1010, a)) :: st) σ := by
  obtain ⟨h1, rfl⟩ := hop
  exact w_Ex_in h1 (h)
theorem wi_iald1013 {j : Int} {a : Nat} (hop : w_fe code pc nx (.iaload)) (c0 : 0 ≤ j) (c1 : j < 13) (h : w_Ex E rt code Q nx ls (.inl (σ a j.toNat) :: st) σ) : w_Ex E rt code Q pc ls (.inl j :: .inr (.inr (1013, a)) :: st) σ := by
  obtain ⟨h1, rfl⟩ := hop
  exact w_Ex_in h1 (And.intro c0 (And.intro c1 (h)))
theorem wi_iast1013 {x j : Int} {a : Nat} (hop : w_fe code pc nx (.iastore)) (c0 : 0 ≤ j) (c1 : j < 13) (h : w_Ex E rt code Q nx ls st (w_up σ a j.toNat x)) : w_Ex E rt code Q pc ls (.inl x :: .inl j :: .inr (.inr (1013, a)) :: st) σ := by
  obtain ⟨h1, rfl⟩ := hop
  exact w_Ex_in h1 (And.intro (And.intro (by decide) (by decide)) (And.intro c0 (And.intro c1 h)))
theorem wi_alen1013 {a : Nat} (hop : w_fe code pc nx (.arraylength))  (h : w_Ex E rt code Q nx ls (.inl 13 :: st) σ) : w_Ex E rt code Q pc ls (.inr (.inr (1013, a)) :: st) σ := by
  obtain ⟨h1, rfl⟩ := hop
  exact w_Ex_in h1 (h)
theorem wi_iald1020 {j : Int} {a : Nat} (hop : w_fe code pc nx (.iaload)) (c0 : 0 ≤ j) (c1 : j < 20) (h : w_Ex E rt code Q nx ls (.inl (σ a j.toNat) :: st) σ) : w_Ex E rt code Q pc ls (.inl j :: .inr (.inr (1020, a)) :: st) σ := by
  obtain ⟨h1, rfl⟩ := hop
  exact w_Ex_in h1 (And.intro c0 (And.intro c1 (h)))
theorem wi_iast1020 {x j : Int} {a : Nat} (hop : w_fe code pc nx (.iastore)) (c0 : 0 ≤ j) (c1 : j < 20) (h : w_Ex E rt code Q nx ls st (w_up σ a j.toNat x)) : w_Ex E rt code Q pc ls (.inl x :: .inl j :: .inr (.inr (1020, a)) :: st) σ := by
  obtain ⟨h1, rfl⟩ := hop
  exact w_Ex_in h1 (And.intro (And.intro (by decide) (by decide)) (And.intro c0 (And.intro c1 h)))
theorem wi_alen1020 {a : Nat} (hop : w_fe code pc nx (.arraylength))  (h : w_Ex E rt code Q nx ls (.inl 20 :: st) σ) : w_Ex E rt code Q pc ls (.inr (.inr (1020, a)) :: st) σ := by
  obtain ⟨h1, rfl⟩ := hop
  exact w_Ex_in h1 (h)
theorem wi_iald1040 {j : Int} {a : Nat} (hop : w_fe code pc nx (.iaload)) (c0 : 0 ≤ j) (c1 : j < 40) (h : w_Ex E rt code Q nx ls (.inl (σ a j.toNat) :: st) σ) : w_Ex E rt code Q pc ls (.inl j :: .inr (.inr (1040, a)) :: st) σ := by
  obtain ⟨h1, rfl⟩ := hop
  exact w_Ex_in h1 (And.intro c0 (And.intro c1 (h)))
theorem wi_iast1040 {x j : Int} {a : Nat} (hop : w_fe code pc nx (.iastore)) (c0 : 0 ≤ j) (c1 : j < 40) (h : w_Ex E rt code Q nx ls st (w_up σ a j.toNat x)) : w_Ex E rt code Q pc ls (.inl x :: .inl j :: .inr (.inr (1040, a)) :: st) σ := by
  obtain ⟨h1, rfl⟩ := hop
  exact w_Ex_in h1 (And.intro (And.intro (by decide) (by decide)) (And.intro c0 (And.intro c1 h)))
theorem wi_alen1040 {a : Nat} (hop : w_fe code pc nx (.arraylength))  (h : w_Ex E rt code Q nx ls (.inl 40 :: st) σ) : w_Ex E rt code Q pc ls (.inr (.inr (1040, a)) :: st) σ := by
  obtain ⟨h1, rfl⟩ := hop
  exact w_Ex_in h1 (h)
theorem wi_iald1049 {j : Int} {a : Nat} (hop : w_fe code pc nx (.iaload)) (c0 : 0 ≤ j) (c1 : j < 49) (h : w_Ex E rt code Q nx ls (.inl (σ a j.toNat) :: st) σ) : w_Ex E rt code Q pc ls (.inl j :: .inr (.inr (1049, a)) :: st) σ := by
  obtain ⟨h1, rfl⟩ := hop
  exact w_Ex_in h1 (And.intro c0 (And.intro c1 (h)))
theorem wi_iast1049 {x j : Int} {a : Nat} (hop : w_fe code pc nx (.iastore)) (c0 : 0 ≤ j) (c1 : j < 49) (h : w_Ex E rt code Q nx ls st (w_up σ a j.toNat x)) : w_Ex E rt code Q pc ls (.inl x :: .inl j :: .inr (.inr (1049, a)) :: st) σ := by
  obtain ⟨h1, rfl⟩ := hop
  exact w_Ex_in h1 (And.intro (And.intro (by decide) (by decide)) (And.intro c0 (And.intro c1 h)))
theorem wi_alen1049 {a : Nat} (hop : w_fe code pc nx (.arraylength))  (h : w_Ex E rt code Q nx ls (.inl 49 :: st) σ) : w_Ex E rt code Q pc ls (.inr (.inr (1049, a)) :: st) σ := by
  obtain ⟨h1, rfl⟩ := hop
  exact w_Ex_in h1 (h)
theorem wi_iald1082 {j : Int} {a : Nat} (hop : w_fe code pc nx (.iaload)) (c0 : 0 ≤ j) (c1 : j < 82) (h : w_Ex E rt code Q nx ls (.inl (σ a j.toNat) :: st) σ) : w_Ex E rt code Q pc ls (.inl j :: .inr (.inr (1082, a)) :: st) σ := by
  obtain ⟨h1, rfl⟩ := hop
  exact w_Ex_in h1 (And.intro c0 (And.intro c1 (h)))
theorem wi_iast1082 {x j : Int} {a : Nat} (hop : w_fe code pc nx (.iastore)) (c0 : 0 ≤ j) (c1 : j < 82) (h : w_Ex E rt code Q nx ls st (w_up σ a j.toNat x)) : w_Ex E rt code Q pc ls (.inl x :: .inl j :: .inr (.inr (1082, a)) :: st) σ := by
  obtain ⟨h1, rfl⟩ := hop
  exact w_Ex_in h1 (And.intro (And.intro (by decide) (by decide)) (And.intro c0 (And.intro c1 h)))
theorem wi_alen1082 {a : Nat} (hop : w_fe code pc nx (.arraylength))  (h : w_Ex E rt code Q nx ls (.inl 82 :: st) σ) : w_Ex E rt code Q pc ls (.inr (.inr (1082, a)) :: st) σ := by
  obtain ⟨h1, rfl⟩ := hop
  exact w_Ex_in h1 (h)
theorem wi_iald1160 {j : Int} {a : Nat} (hop : w_fe code pc nx (.iaload)) (c0 : 0 ≤ j) (c1 : j < 160) (h : w_Ex E rt code Q nx ls (.inl (σ a j.toNat) :: st) σ) : w_Ex E rt code Q pc ls (.inl j :: .inr (.inr (1160, a)) :: st) σ := by
  obtain ⟨h1, rfl⟩ := hop
  exact w_Ex_in h1 (And.intro c0 (And.intro c1 (h)))
theorem wi_iast1160 {x j : Int} {a : Nat} (hop : w_fe code pc nx (.iastore)) (c0 : 0 ≤ j) (c1 : j < 160) (h : w_Ex E rt code Q nx ls st (w_up σ a j.toNat x)) : w_Ex E rt code Q pc ls (.inl x :: .inl j :: .inr (.inr (1160, a)) :: st) σ := by
  obtain ⟨h1, rfl⟩ := hop
  exact w_Ex_in h1 (And.intro (And.intro (by decide) (by decide)) (And.intro c0 (And.intro c1 h)))
theorem wi_alen1160 {a : Nat} (hop : w_fe code pc nx (.arraylength))  (h : w_Ex E rt code Q nx ls (.inl 160 :: st) σ) : w_Ex E rt code Q pc ls (.inr (.inr (1160, a)) :: st) σ := by
  obtain ⟨h1, rfl⟩ := hop
  exact w_Ex_in h1 (h)
theorem wi_iald1246 {j : Int} {a : Nat} (hop : w_fe code pc nx (.iaload)) (c0 : 0 ≤ j) (c1 : j < 246) (h : w_Ex E rt code Q nx ls (.inl (σ a j.toNat) :: st) σ) : w_Ex E rt code Q pc ls (.inl j :: .inr (.inr (1246, a)) :: st) σ := by
  obtain ⟨h1, rfl⟩ := hop
  exact w_Ex_in h1 (And.intro c0 (And.intro c1 (h)))
theorem wi_iast1246 {x j : Int} {a : Nat} (hop : w_fe code pc nx (.iastore)) (c0 : 0 ≤ j) (c1 : j < 246) (h : w_Ex E rt code Q nx ls st (w_up σ a j.toNat x)) : w_Ex E rt code Q pc ls (.inl x :: .inl j :: .inr (.inr (1246, a)) :: st) σ := by
  obtain ⟨h1, rfl⟩ := hop
  exact w_Ex_in h1 (And.intro (And.intro (by decide) (by decide)) (And.intro c0 (And.intro c1 h)))
theorem wi_alen1246 {a : Nat} (hop : w_fe code pc nx (.arraylength))  (h : w_Ex E rt code Q nx ls (.inl 246 :: st) σ) : w_Ex E rt code Q pc ls (.inr (.inr (1246, a)) :: st) σ := by
  obtain ⟨h1, rfl⟩ := hop
  exact w_Ex_in h1 (h)
theorem wi_iald6005 {j : Int} {a : Nat} (hop : w_fe code pc nx (.iaload)) (c0 : 0 ≤ j) (c1 : j < ((w_carr E.1 a).length : Int)) (h : w_Ex E rt code Q nx ls (.inl ((w_carr E.1 a).getD j.toNat 0) :: st) σ) : w_Ex E rt code Q pc ls (.inl j :: .inr (.inr (6005, a)) :: st) σ := by
  obtain ⟨h1, rfl⟩ := hop
  exact w_Ex_in h1 (And.intro (by decide) (And.intro c0 (And.intro c1 h)))
theorem wi_iald6015 {j : Int} {a : Nat} (hop : w_fe code pc nx (.iaload)) (c0 : 0 ≤ j) (c1 : j < ((w_carr E.1 a).length : Int)) (h : w_Ex E rt code Q nx ls (.inl ((w_carr E.1 a).getD j.toNat 0) :: st) σ) : w_Ex E rt code Q pc ls (.inl j :: .inr (.inr (6015, a)) :: st) σ := by
  obtain ⟨h1, rfl⟩ := hop
  exact w_Ex_in h1 (And.intro (by decide) (And.intro c0 (And.intro c1 h)))
theorem wi_iald8000 {j : Int} {a : Nat} (hop : w_fe code pc nx (.iaload)) (c0 : 0 ≤ j) (c1 : j < ((w_carr E.1 a).length : Int)) (h : w_Ex E rt code Q nx ls (.inl ((w_carr E.1 a).getD j.toNat 0) :: st) σ) : w_Ex E rt code Q pc ls (.inl j :: .inr (.inr (8000, a)) :: st) σ := by
  obtain ⟨h1, rfl⟩ := hop
  exact w_Ex_in h1 (And.intro (by decide) (And.intro c0 (And.intro c1 h)))
theorem wi_alen6005 {a : Nat} (hop : w_fe code pc nx (.arraylength))  (h : w_Ex E rt code Q nx ls (.inl ((w_carr E.1 a).length : Int) :: st) σ) : w_Ex E rt code Q pc ls (.inr (.inr (6005, a)) :: st) σ := by
  obtain ⟨h1, rfl⟩ := hop
  exact w_Ex_in h1 (And.intro (by decide) h)
theorem wi_alen6015 {a : Nat} (hop : w_fe code pc nx (.arraylength))  (h : w_Ex E rt code Q nx ls (.inl ((w_carr E.1 a).length : Int) :: st) σ) : w_Ex E rt code Q pc ls (.inr (.inr (6015, a)) :: st) σ := by
  obtain ⟨h1, rfl⟩ := hop
  exact w_Ex_in h1 (And.intro (by decide) h)
theorem wi_alen8000 {a : Nat} (hop : w_fe code pc nx (.arraylength))  (h : w_Ex E rt code Q nx ls (.inl ((w_carr E.1 a).length : Int) :: st) σ) : w_Ex E rt code Q pc ls (.inr (.inr (8000, a)) :: st) σ := by
  obtain ⟨h1, rfl⟩ := hop
  exact w_Ex_in h1 (And.intro (by decide) h)
theorem wi_alen7000 {a : Nat} (hop : w_fe code pc nx (.arraylength))  (h : w_Ex E rt code Q nx ls (.inl ((w_carr E.1 a).length : Int) :: st) σ) : w_Ex E rt code Q pc ls (.inr (.inr (7000, a)) :: st) σ := by
  obtain ⟨h1, rfl⟩ := hop
  exact w_Ex_in h1 (And.intro (by decide) h)
theorem wi_bald2160 {j : Int} {a : Nat} (hop : w_fe code pc nx (.baload)) (c0 : 0 ≤ j) (c1 : j < 160) (h : w_Ex E rt code Q nx ls (.inl (σ a j.toNat) :: st) σ) : w_Ex E rt code Q pc ls (.inl j :: .inr (.inr (2160, a)) :: st) σ := by
  obtain ⟨h1, rfl⟩ := hop
  exact w_Ex_in h1 (And.intro c0 (And.intro c1 (h)))
theorem wi_bast2160 {x j : Int} {a : Nat} (hop : w_fe code pc nx (.bastore)) (c0 : -128 ≤ x ∧ x ≤ 127) (c1 : 0 ≤ j) (c2 : j < 160) (h : w_Ex E rt code Q nx ls st (w_up σ a j.toNat x)) : w_Ex E rt code Q pc ls (.inl x :: .inl j :: .inr (.inr (2160, a)) :: st) σ := by
  obtain ⟨h1, rfl⟩ := hop
  exact w_Ex_in h1 (And.intro (And.intro (by decide) (by decide)) (And.intro c0 (And.intro c1 (And.intro c2 h))))
theorem wi_bald3002 {j : Int} {a : Nat} (hop : w_fe code pc nx (.baload)) (c0 : 0 ≤ j) (c1 : j < 2) (h : w_Ex E rt code Q nx ls (.inl (σ a j.toNat) :: st) σ) : w_Ex E rt code Q pc ls (.inl j :: .inr (.inr (3002, a)) :: st) σ := by
  obtain ⟨h1, rfl⟩ := hop
  exact w_Ex_in h1 (And.intro c0 (And.intro c1 (h)))
theorem wi_bast3002 {x j : Int} {a : Nat} (hop : w_fe code pc nx (.bastore)) (c0 : x = 0 ∨ x = 1) (c1 : 0 ≤ j) (c2 : j < 2) (h : w_Ex E rt code Q nx ls st (w_up σ a j.toNat x)) : w_Ex E rt code Q pc ls (.inl x :: .inl j :: .inr (.inr (3002, a)) :: st) σ := by
  obtain ⟨h1, rfl⟩ := hop
  exact w_Ex_in h1 (And.intro (And.intro (by decide) (by decide)) (And.intro c0 (And.intro c1 (And.intro c2 h))))
theorem wi_bald7000 {j : Int} {a : Nat} (hop : w_fe code pc nx (.baload)) (c0 : 0 ≤ j) (c1 : j < ((w_carr E.1 a).length : Int)) (h : w_Ex E rt code Q nx ls (.inl ((w_carr E.1 a).getD j.toNat 0) :: st) σ) : w_Ex E rt code Q pc ls (.inl j :: .inr (.inr (7000, a)) :: st) σ := by
  obtain ⟨h1, rfl⟩ := hop
  exact w_Ex_in h1 (And.intro rfl (And.intro c0 (And.intro c1 h)))
theorem wi_aald4002 {j : Int} {a : Nat} (hop : w_fe code pc nx (.aaload)) (c0 : 0 ≤ j) (c1 : j < 2) (h : w_Ex E rt code Q nx ls (.inr (.inr (3, 88 + 17 * j.toNat)) :: st) σ) : w_Ex E rt code Q pc ls (.inl j :: .inr (.inr (4002, a)) :: st) σ := by
  obtain ⟨h1, rfl⟩ := hop
  exact w_Ex_in h1 (And.intro c0 (And.intro c1 (h)))
theorem wi_aald10410 {j : Int} {a : Nat} (hop : w_fe code pc nx (.aaload)) (c0 : 0 ≤ j) (c1 : j < 4) (h : w_Ex E rt code Q nx ls (.inr (.inr (1010, a + 1 + j.toNat)) :: st) σ) : w_Ex E rt code Q pc ls (.inl j :: .inr (.inr (10410, a)) :: st) σ := by
  obtain ⟨h1, rfl⟩ := hop
  exact w_Ex_in h1 (And.intro (by decide) (And.intro c0 (And.intro c1 h)))
theorem wi_aald11220 {j : Int} {a : Nat} (hop : w_fe code pc nx (.aaload)) (c0 : 0 ≤ j) (c1 : j < 12) (h : w_Ex E rt code Q nx ls (.inr (.inr (1020, a + 1 + j.toNat)) :: st) σ) : w_Ex E rt code Q pc ls (.inl j :: .inr (.inr (11220, a)) :: st) σ := by
  obtain ⟨h1, rfl⟩ := hop
  exact w_Ex_in h1 (And.intro (by decide) (And.intro c0 (And.intro c1 h)))
theorem wi_aald10707 {j : Int} {a : Nat} (hop : w_fe code pc nx (.aaload)) (c0 : 0 ≤ j) (c1 : j < 7) (h : w_Ex E rt code Q nx ls (.inr (.inr (1007, a + 1 + j.toNat)) :: st) σ) : w_Ex E rt code Q pc ls (.inl j :: .inr (.inr (10707, a)) :: st) σ := by
  obtain ⟨h1, rfl⟩ := hop
  exact w_Ex_in h1 (And.intro (by decide) (And.intro c0 (And.intro c1 h)))
theorem wi_aald10440 {j : Int} {a : Nat} (hop : w_fe code pc nx (.aaload)) (c0 : 0 ≤ j) (c1 : j < 4) (h : w_Ex E rt code Q nx ls (.inr (.inr (1040, a + 1 + j.toNat)) :: st) σ) : w_Ex E rt code Q pc ls (.inl j :: .inr (.inr (10440, a)) :: st) σ := by
  obtain ⟨h1, rfl⟩ := hop
  exact w_Ex_in h1 (And.intro (by decide) (And.intro c0 (And.intro c1 h)))
theorem wi_getf2000 {a : Nat} (hop : w_fe code pc nx (.getfield 2000))  (h : w_Ex E rt code Q nx ls (.inr (.inr (7000, a + 1)) :: st) σ) : w_Ex E rt code Q pc ls (.inr (.inr (20, a)) :: st) σ := by
  obtain ⟨h1, rfl⟩ := hop
  exact w_Ex_in h1 (And.intro rfl h)
theorem wi_getf2001 {a : Nat} (hop : w_fe code pc nx (.getfield 2001))  (h : w_Ex E rt code Q nx ls (.inl 0 :: st) σ) : w_Ex E rt code Q pc ls (.inr (.inr (20, a)) :: st) σ := by
  obtain ⟨h1, rfl⟩ := hop
  exact w_Ex_in h1 (And.intro rfl h)
theorem wi_getf0 {a : Nat} (hop : w_fe code pc nx (.getfield 0))  (h : w_Ex E rt code Q nx ls (.inr (.inr (1, a + 1)) :: st) σ) : w_Ex E rt code Q pc ls (.inr (.inr (0, a)) :: st) σ := by
  obtain ⟨h1, rfl⟩ := hop
  exact w_Ex_in h1 (And.intro rfl h)
theorem wi_getf1 {a : Nat} (hop : w_fe code pc nx (.getfield 1))  (h : w_Ex E rt code Q nx ls (.inr (.inr (3, a + 13)) :: st) σ) : w_Ex E rt code Q pc ls (.inr (.inr (0, a)) :: st) σ := by
  obtain ⟨h1, rfl⟩ := hop
  exact w_Ex_in h1 (And.intro rfl h)
theorem wi_getf2 {a : Nat} (hop : w_fe code pc nx (.getfield 2))  (h : w_Ex E rt code Q nx ls (.inr (.inr (2, a + 14)) :: st) σ) : w_Ex E rt code Q pc ls (.inr (.inr (0, a)) :: st) σ := by
  obtain ⟨h1, rfl⟩ := hop
  exact w_Ex_in h1 (And.intro rfl h)
theorem wi_getf3 {a : Nat} (hop : w_fe code pc nx (.getfield 3))  (h : w_Ex E rt code Q nx ls (.inr (.inr (4002, a + 30)) :: st) σ) : w_Ex E rt code Q pc ls (.inr (.inr (0, a)) :: st) σ := by
  obtain ⟨h1, rfl⟩ := hop
  exact w_Ex_in h1 (And.intro rfl h)
theorem wi_getf4 {a : Nat} (hop : w_fe code pc nx (.getfield 4))  (h : w_Ex E rt code Q nx ls (.inr (.inr (6, a + 31)) :: st) σ) : w_Ex E rt code Q pc ls (.inr (.inr (0, a)) :: st) σ := by
  obtain ⟨h1, rfl⟩ := hop
  exact w_Ex_in h1 (And.intro rfl h)
theorem wi_getf5 {a : Nat} (hop : w_fe code pc nx (.getfield 5))  (h : w_Ex E rt code Q nx ls (.inr (.inr (7, a + 63)) :: st) σ) : w_Ex E rt code Q pc ls (.inr (.inr (0, a)) :: st) σ := by
  obtain ⟨h1, rfl⟩ := hop
  exact w_Ex_in h1 (And.intro rfl h)
theorem wi_getf6 {a : Nat} (hop : w_fe code pc nx (.getfield 6))  (h : w_Ex E rt code Q nx ls (.inr (.inr (8, a + 80)) :: st) σ) : w_Ex E rt code Q pc ls (.inr (.inr (0, a)) :: st) σ := by
  obtain ⟨h1, rfl⟩ := hop
  exact w_Ex_in h1 (And.intro rfl h)
theorem wi_getf7 {a : Nat} (hop : w_fe code pc nx (.getfield 7))  (h : w_Ex E rt code Q nx ls (.inl (σ a 7) :: st) σ) : w_Ex E rt code Q pc ls (.inr (.inr (0, a)) :: st) σ := by
  obtain ⟨h1, rfl⟩ := hop
  exact w_Ex_in h1 (And.intro rfl h)
theorem wi_putf7 {x : Int} {a : Nat} (hop : w_fe code pc nx (.putfield 7))  (h : w_Ex E rt code Q nx ls st (w_up σ a 7 x)) : w_Ex E rt code Q pc ls (.inl x :: .inr (.inr (0, a)) :: st) σ := by
  obtain ⟨h1, rfl⟩ := hop
  exact w_Ex_in h1 (And.intro rfl (And.intro rfl (And.intro (fun e => by omega) h)))
theorem wi_getf8 {a : Nat} (hop : w_fe code pc nx (.getfield 8))  (h : w_Ex E rt code Q nx ls (.inl (σ a 8) :: st) σ) : w_Ex E rt code Q pc ls (.inr (.inr (0, a)) :: st) σ := by
  obtain ⟨h1, rfl⟩ := hop
  exact w_Ex_in h1 (And.intro rfl h)
theorem wi_putf8 {x : Int} {a : Nat} (hop : w_fe code pc nx (.putfield 8))  (h : w_Ex E rt code Q nx ls st (w_up σ a 8 x)) : w_Ex E rt code Q pc ls (.inl x :: .inr (.inr (0, a)) :: st) σ := by
  obtain ⟨h1, rfl⟩ := hop
  exact w_Ex_in h1 (And.intro rfl (And.intro rfl (And.intro (fun e => by omega) h)))
theorem wi_getf9 {a : Nat} (hop : w_fe code pc nx (.getfield 9))  (h : w_Ex E rt code Q nx ls (.inl (σ a 9) :: st) σ) : w_Ex E rt code Q pc ls (.inr (.inr (0, a)) :: st) σ := by
  obtain ⟨h1, rfl⟩ := hop
  exact w_Ex_in h1 (And.intro rfl h)
theorem wi_putf9 {x : Int} {a : Nat} (hop : w_fe code pc nx (.putfield 9))  (h : w_Ex E rt code Q nx ls st (w_up σ a 9 x)) : w_Ex E rt code Q pc ls (.inl x :: .inr (.inr (0, a)) :: st) σ := by
  obtain ⟨h1, rfl⟩ := hop
  exact w_Ex_in h1 (And.intro rfl (And.intro rfl (And.intro (fun e => by omega) h)))
theorem wi_getf100 {a : Nat} (hop : w_fe code pc nx (.getfield 100))  (h : w_Ex E rt code Q nx ls (.inr (.inr (2160, a + 1)) :: st) σ) : w_Ex E rt code Q pc ls (.inr (.inr (1, a)) :: st) σ := by
  obtain ⟨h1, rfl⟩ := hop
  exact w_Ex_in h1 (And.intro rfl h)
theorem wi_getf101 {a : Nat} (hop : w_fe code pc nx (.getfield 101))  (h : w_Ex E rt code Q nx ls (.inl (σ a 1) :: st) σ) : w_Ex E rt code Q pc ls (.inr (.inr (1, a)) :: st) σ := by
  obtain ⟨h1, rfl⟩ := hop
  exact w_Ex_in h1 (And.intro rfl h)
theorem wi_putf101 {x : Int} {a : Nat} (hop : w_fe code pc nx (.putfield 101))  (h : w_Ex E rt code Q nx ls st (w_up σ a 1 x)) : w_Ex E rt code Q pc ls (.inl x :: .inr (.inr (1, a)) :: st) σ := by
  obtain ⟨h1, rfl⟩ := hop
  exact w_Ex_in h1 (And.intro rfl (And.intro rfl (And.intro (fun e => by omega) h)))
theorem wi_getf102 {a : Nat} (hop : w_fe code pc nx (.getfield 102))  (h : w_Ex E rt code Q nx ls (.inr (.inr (2, a + 2)) :: st) σ) : w_Ex E rt code Q pc ls (.inr (.inr (1, a)) :: st) σ := by
  obtain ⟨h1, rfl⟩ := hop
  exact w_Ex_in h1 (And.intro rfl h)
theorem wi_getf103 {a : Nat} (hop : w_fe code pc nx (.getfield 103))  (h : w_Ex E rt code Q nx ls (.inl (σ a 3) :: st) σ) : w_Ex E rt code Q pc ls (.inr (.inr (1, a)) :: st) σ := by
  obtain ⟨h1, rfl⟩ := hop
  exact w_Ex_in h1 (And.intro rfl h)
theorem wi_putf103 {x : Int} {a : Nat} (hop : w_fe code pc nx (.putfield 103))  (h : w_Ex E rt code Q nx ls st (w_up σ a 3 x)) : w_Ex E rt code Q pc ls (.inl x :: .inr (.inr (1, a)) :: st) σ := by
  obtain ⟨h1, rfl⟩ := hop
  exact w_Ex_in h1 (And.intro rfl (And.intro rfl (And.intro (fun e => by omega) h)))
theorem wi_getf104 {a : Nat} (hop : w_fe code pc nx (.getfield 104))  (h : w_Ex E rt code Q nx ls (.inl (σ a 4) :: st) σ) : w_Ex E rt code Q pc ls (.inr (.inr (1, a)) :: st) σ := by
  obtain ⟨h1, rfl⟩ := hop
  exact w_Ex_in h1 (And.intro rfl h)
theorem wi_putf104 {x : Int} {a : Nat} (hop : w_fe code pc nx (.putfield 104))  (h : w_Ex E rt code Q nx ls st (w_up σ a 4 x)) : w_Ex E rt code Q pc ls (.inl x :: .inr (.inr (1, a)) :: st) σ := by
  obtain ⟨h1, rfl⟩ := hop
  exact w_Ex_in h1 (And.intro rfl (And.intro rfl (And.intro (fun e => by omega) h)))
theorem wi_getf105 {a : Nat} (hop : w_fe code pc nx (.getfield 105))  (h : w_Ex E rt code Q nx ls (.inl (σ a 5) :: st) σ) : w_Ex E rt code Q pc ls (.inr (.inr (1, a)) :: st) σ := by
  obtain ⟨h1, rfl⟩ := hop
  exact w_Ex_in h1 (And.intro rfl h)
theorem wi_putf105 {x : Int} {a : Nat} (hop : w_fe code pc nx (.putfield 105)) (c0 : x = 0 ∨ x = 1) (h : w_Ex E rt code Q nx ls st (w_up σ a 5 x)) : w_Ex E rt code Q pc ls (.inl x :: .inr (.inr (1, a)) :: st) σ := by
  obtain ⟨h1, rfl⟩ := hop
  exact w_Ex_in h1 (And.intro rfl (And.intro rfl (And.intro (fun _ => c0) h)))
theorem wi_getf106 {a : Nat} (hop : w_fe code pc nx (.getfield 106))  (h : w_Ex E rt code Q nx ls (.inr (.inr (1003, a + 11)) :: st) σ) : w_Ex E rt code Q pc ls (.inr (.inr (1, a)) :: st) σ := by
  obtain ⟨h1, rfl⟩ := hop
  exact w_Ex_in h1 (And.intro rfl h)
theorem wi_getf107 {a : Nat} (hop : w_fe code pc nx (.getfield 107))  (h : w_Ex E rt code Q nx ls (.inl (σ a 7) :: st) σ) : w_Ex E rt code Q pc ls (.inr (.inr (1, a)) :: st) σ := by
  obtain ⟨h1, rfl⟩ := hop
  exact w_Ex_in h1 (And.intro rfl h)
theorem wi_putf107 {x : Int} {a : Nat} (hop : w_fe code pc nx (.putfield 107))  (h : w_Ex E rt code Q nx ls st (w_up σ a 7 x)) : w_Ex E rt code Q pc ls (.inl x :: .inr (.inr (1, a)) :: st) σ := by
  obtain ⟨h1, rfl⟩ := hop
  exact w_Ex_in h1 (And.intro rfl (And.intro rfl (And.intro (fun e => by omega) h)))
theorem wi_getf108 {a : Nat} (hop : w_fe code pc nx (.getfield 108))  (h : w_Ex E rt code Q nx ls (.inl (σ a 8) :: st) σ) : w_Ex E rt code Q pc ls (.inr (.inr (1, a)) :: st) σ := by
  obtain ⟨h1, rfl⟩ := hop
  exact w_Ex_in h1 (And.intro rfl h)
theorem wi_putf108 {x : Int} {a : Nat} (hop : w_fe code pc nx (.putfield 108))  (h : w_Ex E rt code Q nx ls st (w_up σ a 8 x)) : w_Ex E rt code Q pc ls (.inl x :: .inr (.inr (1, a)) :: st) σ := by
  obtain ⟨h1, rfl⟩ := hop
  exact w_Ex_in h1 (And.intro rfl (And.intro rfl (And.intro (fun e => by omega) h)))
theorem wi_getf109 {a : Nat} (hop : w_fe code pc nx (.getfield 109))  (h : w_Ex E rt code Q nx ls (.inl (σ a 9) :: st) σ) : w_Ex E rt code Q pc ls (.inr (.inr (1, a)) :: st) σ := by
  obtain ⟨h1, rfl⟩ := hop
  exact w_Ex_in h1 (And.intro rfl h)
theorem wi_putf109 {x : Int} {a : Nat} (hop : w_fe code pc nx (.putfield 109))  (h : w_Ex E rt code Q nx ls st (w_up σ a 9 x)) : w_Ex E rt code Q pc ls (.inl x :: .inr (.inr (1, a)) :: st) σ := by
  obtain ⟨h1, rfl⟩ := hop
  exact w_Ex_in h1 (And.intro rfl (And.intro rfl (And.intro (fun e => by omega) h)))
theorem wi_getf110 {a : Nat} (hop : w_fe code pc nx (.getfield 110))  (h : w_Ex E rt code Q nx ls (.inl (σ a 10) :: st) σ) : w_Ex E rt code Q pc ls (.inr (.inr (1, a)) :: st) σ := by
  obtain ⟨h1, rfl⟩ := hop
  exact w_Ex_in h1 (And.intro rfl h)
theorem wi_putf110 {x : Int} {a : Nat} (hop : w_fe code pc nx (.putfield 110))  (h : w_Ex E rt code Q nx ls st (w_up σ a 10 x)) : w_Ex E rt code Q pc ls (.inl x :: .inr (.inr (1, a)) :: st) σ := by
  obtain ⟨h1, rfl⟩ := hop
  exact w_Ex_in h1 (And.intro rfl (And.intro rfl (And.intro (fun e => by omega) h)))
theorem wi_getf200 {a : Nat} (hop : w_fe code pc nx (.getfield 200))  (h : w_Ex E rt code Q nx ls (.inl (σ a 0) :: st) σ) : w_Ex E rt code Q pc ls (.inr (.inr (2, a)) :: st) σ := by
  obtain ⟨h1, rfl⟩ := hop
  exact w_Ex_in h1 (And.intro rfl h)
theorem wi_putf200 {x : Int} {a : Nat} (hop : w_fe code pc nx (.putfield 200))  (h : w_Ex E rt code Q nx ls st (w_up σ a 0 x)) : w_Ex E rt code Q pc ls (.inl x :: .inr (.inr (2, a)) :: st) σ := by
  obtain ⟨h1, rfl⟩ := hop
  exact w_Ex_in h1 (And.intro rfl (And.intro rfl (And.intro (fun e => by omega) h)))
theorem wi_getf201 {a : Nat} (hop : w_fe code pc nx (.getfield 201))  (h : w_Ex E rt code Q nx ls (.inl (σ a 1) :: st) σ) : w_Ex E rt code Q pc ls (.inr (.inr (2, a)) :: st) σ := by
  obtain ⟨h1, rfl⟩ := hop
  exact w_Ex_in h1 (And.intro rfl h)
theorem wi_putf201 {x : Int} {a : Nat} (hop : w_fe code pc nx (.putfield 201))  (h : w_Ex E rt code Q nx ls st (w_up σ a 1 x)) : w_Ex E rt code Q pc ls (.inl x :: .inr (.inr (2, a)) :: st) σ := by
  obtain ⟨h1, rfl⟩ := hop
  exact w_Ex_in h1 (And.intro rfl (And.intro rfl (And.intro (fun e => by omega) h)))
theorem wi_getf202 {a : Nat} (hop : w_fe code pc nx (.getfield 202))  (h : w_Ex E rt code Q nx ls (.inl (σ a 2) :: st) σ) : w_Ex E rt code Q pc ls (.inr (.inr (2, a)) :: st) σ := by
  obtain ⟨h1, rfl⟩ := hop
  exact w_Ex_in h1 (And.intro rfl h)
theorem wi_putf202 {x : Int} {a : Nat} (hop : w_fe code pc nx (.putfield 202))  (h : w_Ex E rt code Q nx ls st (w_up σ a 2 x)) : w_Ex E rt code Q pc ls (.inl x :: .inr (.inr (2, a)) :: st) σ := by
  obtain ⟨h1, rfl⟩ := hop
  exact w_Ex_in h1 (And.intro rfl (And.intro rfl (And.intro (fun e => by omega) h)))
theorem wi_getf203 {a : Nat} (hop : w_fe code pc nx (.getfield 203))  (h : w_Ex E rt code Q nx ls (.inl (σ a 3) :: st) σ) : w_Ex E rt code Q pc ls (.inr (.inr (2, a)) :: st) σ := by
  obtain ⟨h1, rfl⟩ := hop
  exact w_Ex_in h1 (And.intro rfl h)
theorem wi_putf203 {x : Int} {a : Nat} (hop : w_fe code pc nx (.putfield 203))  (h : w_Ex E rt code Q nx ls st (w_up σ a 3 x)) : w_Ex E rt code Q pc ls (.inl x :: .inr (.inr (2, a)) :: st) σ := by
  obtain ⟨h1, rfl⟩ := hop
  exact w_Ex_in h1 (And.intro rfl (And.intro rfl (And.intro (fun e => by omega) h)))
theorem wi_getf204 {a : Nat} (hop : w_fe code pc nx (.getfield 204))  (h : w_Ex E rt code Q nx ls (.inl (σ a 4) :: st) σ) : w_Ex E rt code Q pc ls (.inr (.inr (2, a)) :: st) σ := by
  obtain ⟨h1, rfl⟩ := hop
  exact w_Ex_in h1 (And.intro rfl h)
theorem wi_putf204 {x : Int} {a : Nat} (hop : w_fe code pc nx (.putfield 204))  (h : w_Ex E rt code Q nx ls st (w_up σ a 4 x)) : w_Ex E rt code Q pc ls (.inl x :: .inr (.inr (2, a)) :: st) σ := by
  obtain ⟨h1, rfl⟩ := hop
  exact w_Ex_in h1 (And.intro rfl (And.intro rfl (And.intro (fun e => by omega) h)))
theorem wi_getf205 {a : Nat} (hop : w_fe code pc nx (.getfield 205))  (h : w_Ex E rt code Q nx ls (.inl (σ a 5) :: st) σ) : w_Ex E rt code Q pc ls (.inr (.inr (2, a)) :: st) σ := by
  obtain ⟨h1, rfl⟩ := hop
  exact w_Ex_in h1 (And.intro rfl h)
theorem wi_putf205 {x : Int} {a : Nat} (hop : w_fe code pc nx (.putfield 205))  (h : w_Ex E rt code Q nx ls st (w_up σ a 5 x)) : w_Ex E rt code Q pc ls (.inl x :: .inr (.inr (2, a)) :: st) σ := by
  obtain ⟨h1, rfl⟩ := hop
  exact w_Ex_in h1 (And.intro rfl (And.intro rfl (And.intro (fun e => by omega) h)))
theorem wi_getf206 {a : Nat} (hop : w_fe code pc nx (.getfield 206))  (h : w_Ex E rt code Q nx ls (.inl (σ a 6) :: st) σ) : w_Ex E rt code Q pc ls (.inr (.inr (2, a)) :: st) σ := by
  obtain ⟨h1, rfl⟩ := hop
  exact w_Ex_in h1 (And.intro rfl h)
theorem wi_putf206 {x : Int} {a : Nat} (hop : w_fe code pc nx (.putfield 206))  (h : w_Ex E rt code Q nx ls st (w_up σ a 6 x)) : w_Ex E rt code Q pc ls (.inl x :: .inr (.inr (2, a)) :: st) σ := by
  obtain ⟨h1, rfl⟩ := hop
  exact w_Ex_in h1 (And.intro rfl (And.intro rfl (And.intro (fun e => by omega) h)))
theorem wi_getf207 {a : Nat} (hop : w_fe code pc nx (.getfield 207))  (h : w_Ex E rt code Q nx ls (.inr (.inr (1007, a + 1)) :: st) σ) : w_Ex E rt code Q pc ls (.inr (.inr (2, a)) :: st) σ := by
  obtain ⟨h1, rfl⟩ := hop
  exact w_Ex_in h1 (And.intro rfl h)
theorem wi_getf208 {a : Nat} (hop : w_fe code pc nx (.getfield 208))  (h : w_Ex E rt code Q nx ls (.inr (.inr (1007, a + 2)) :: st) σ) : w_Ex E rt code Q pc ls (.inr (.inr (2, a)) :: st) σ := by
  obtain ⟨h1, rfl⟩ := hop
  exact w_Ex_in h1 (And.intro rfl h)
theorem wi_getf209 {a : Nat} (hop : w_fe code pc nx (.getfield 209))  (h : w_Ex E rt code Q nx ls (.inr (.inr (1004, a + 3)) :: st) σ) : w_Ex E rt code Q pc ls (.inr (.inr (2, a)) :: st) σ := by
  obtain ⟨h1, rfl⟩ := hop
  exact w_Ex_in h1 (And.intro rfl h)
theorem wi_getf210 {a : Nat} (hop : w_fe code pc nx (.getfield 210))  (h : w_Ex E rt code Q nx ls (.inr (.inr (1004, a + 4)) :: st) σ) : w_Ex E rt code Q pc ls (.inr (.inr (2, a)) :: st) σ := by
  obtain ⟨h1, rfl⟩ := hop
  exact w_Ex_in h1 (And.intro rfl h)
theorem wi_getf211 {a : Nat} (hop : w_fe code pc nx (.getfield 211))  (h : w_Ex E rt code Q nx ls (.inr (.inr (1004, a + 5)) :: st) σ) : w_Ex E rt code Q pc ls (.inr (.inr (2, a)) :: st) σ := by
  obtain ⟨h1, rfl⟩ := hop
  exact w_Ex_in h1 (And.intro rfl h)
theorem wi_getf212 {a : Nat} (hop : w_fe code pc nx (.getfield 212))  (h : w_Ex E rt code Q nx ls (.inr (.inr (1004, a + 6)) :: st) σ) : w_Ex E rt code Q pc ls (.inr (.inr (2, a)) :: st) σ := by
  obtain ⟨h1, rfl⟩ := hop
  exact w_Ex_in h1 (And.intro rfl h)
theorem wi_getf213 {a : Nat} (hop : w_fe code pc nx (.getfield 213))  (h : w_Ex E rt code Q nx ls (.inr (.inr (1004, a + 7)) :: st) σ) : w_Ex E rt code Q pc ls (.inr (.inr (2, a)) :: st) σ := by
  obtain ⟨h1, rfl⟩ := hop
  exact w_Ex_in h1 (And.intro rfl h)
theorem wi_getf214 {a : Nat} (hop : w_fe code pc nx (.getfield 214))  (h : w_Ex E rt code Q nx ls (.inr (.inr (1004, a + 8)) :: st) σ) : w_Ex E rt code Q pc ls (.inr (.inr (2, a)) :: st) σ := by
  obtain ⟨h1, rfl⟩ := hop
  exact w_Ex_in h1 (And.intro rfl h)
theorem wi_getf215 {a : Nat} (hop : w_fe code pc nx (.getfield 215))  (h : w_Ex E rt code Q nx ls (.inl (σ a 15) :: st) σ) : w_Ex E rt code Q pc ls (.inr (.inr (2, a)) :: st) σ := by
  obtain ⟨h1, rfl⟩ := hop
  exact w_Ex_in h1 (And.intro rfl h)
theorem wi_putf215 {x : Int} {a : Nat} (hop : w_fe code pc nx (.putfield 215))  (h : w_Ex E rt code Q nx ls st (w_up σ a 15 x)) : w_Ex E rt code Q pc ls (.inl x :: .inr (.inr (2, a)) :: st) σ := by
  obtain ⟨h1, rfl⟩ := hop
  exact w_Ex_in h1 (And.intro rfl (And.intro rfl (And.intro (fun e => by omega) h)))
theorem wi_getf300 {a : Nat} (hop : w_fe code pc nx (.getfield 300))  (h : w_Ex E rt code Q nx ls (.inr (.inr (2, a + 1)) :: st) σ) : w_Ex E rt code Q pc ls (.inr (.inr (3, a)) :: st) σ := by
  obtain ⟨h1, rfl⟩ := hop
  exact w_Ex_in h1 (And.intro rfl h)
theorem wi_getf301 {a : Nat} (hop : w_fe code pc nx (.getfield 301))  (h : w_Ex E rt code Q nx ls (.inr (.inr (4, a + 10)) :: st) σ) : w_Ex E rt code Q pc ls (.inr (.inr (3, a)) :: st) σ := by
  obtain ⟨h1, rfl⟩ := hop
  exact w_Ex_in h1 (And.intro rfl h)
theorem wi_getf302 {a : Nat} (hop : w_fe code pc nx (.getfield 302))  (h : w_Ex E rt code Q nx ls (.inr (.inr (5, a + 14)) :: st) σ) : w_Ex E rt code Q pc ls (.inr (.inr (3, a)) :: st) σ := by
  obtain ⟨h1, rfl⟩ := hop
  exact w_Ex_in h1 (And.intro rfl h)
theorem wi_getf400 {a : Nat} (hop : w_fe code pc nx (.getfield 400))  (h : w_Ex E rt code Q nx ls (.inl (σ a 0) :: st) σ) : w_Ex E rt code Q pc ls (.inr (.inr (4, a)) :: st) σ := by
  obtain ⟨h1, rfl⟩ := hop
  exact w_Ex_in h1 (And.intro rfl h)
theorem wi_putf400 {x : Int} {a : Nat} (hop : w_fe code pc nx (.putfield 400))  (h : w_Ex E rt code Q nx ls st (w_up σ a 0 x)) : w_Ex E rt code Q pc ls (.inl x :: .inr (.inr (4, a)) :: st) σ := by
  obtain ⟨h1, rfl⟩ := hop
  exact w_Ex_in h1 (And.intro rfl (And.intro rfl (And.intro (fun e => by omega) h)))
theorem wi_getf401 {a : Nat} (hop : w_fe code pc nx (.getfield 401))  (h : w_Ex E rt code Q nx ls (.inr (.inr (1008, a + 1)) :: st) σ) : w_Ex E rt code Q pc ls (.inr (.inr (4, a)) :: st) σ := by
  obtain ⟨h1, rfl⟩ := hop
  exact w_Ex_in h1 (And.intro rfl h)
theorem wi_getf402 {a : Nat} (hop : w_fe code pc nx (.getfield 402))  (h : w_Ex E rt code Q nx ls (.inr (.inr (1008, a + 2)) :: st) σ) : w_Ex E rt code Q pc ls (.inr (.inr (4, a)) :: st) σ := by
  obtain ⟨h1, rfl⟩ := hop
  exact w_Ex_in h1 (And.intro rfl h)
theorem wi_getf403 {a : Nat} (hop : w_fe code pc nx (.getfield 403))  (h : w_Ex E rt code Q nx ls (.inr (.inr (1008, a + 3)) :: st) σ) : w_Ex E rt code Q pc ls (.inr (.inr (4, a)) :: st) σ := by
  obtain ⟨h1, rfl⟩ := hop
  exact w_Ex_in h1 (And.intro rfl h)
theorem wi_getf500 {a : Nat} (hop : w_fe code pc nx (.getfield 500))  (h : w_Ex E rt code Q nx ls (.inl (σ a 0) :: st) σ) : w_Ex E rt code Q pc ls (.inr (.inr (5, a)) :: st) σ := by
  obtain ⟨h1, rfl⟩ := hop
  exact w_Ex_in h1 (And.intro rfl h)
theorem wi_putf500 {x : Int} {a : Nat} (hop : w_fe code pc nx (.putfield 500))  (h : w_Ex E rt code Q nx ls st (w_up σ a 0 x)) : w_Ex E rt code Q pc ls (.inl x :: .inr (.inr (5, a)) :: st) σ := by
  obtain ⟨h1, rfl⟩ := hop
  exact w_Ex_in h1 (And.intro rfl (And.intro rfl (And.intro (fun e => by omega) h)))
theorem wi_getf501 {a : Nat} (hop : w_fe code pc nx (.getfield 501))  (h : w_Ex E rt code Q nx ls (.inr (.inr (1004, a + 1)) :: st) σ) : w_Ex E rt code Q pc ls (.inr (.inr (5, a)) :: st) σ := by
  obtain ⟨h1, rfl⟩ := hop
  exact w_Ex_in h1 (And.intro rfl h)
theorem wi_getf502 {a : Nat} (hop : w_fe code pc nx (.getfield 502))  (h : w_Ex E rt code Q nx ls (.inr (.inr (1004, a + 2)) :: st) σ) : w_Ex E rt code Q pc ls (.inr (.inr (5, a)) :: st) σ := by
  obtain ⟨h1, rfl⟩ := hop
  exact w_Ex_in h1 (And.intro rfl h)
theorem wi_getf600 {a : Nat} (hop : w_fe code pc nx (.getfield 600))  (h : w_Ex E rt code Q nx ls (.inr (.inr (2, a + 1)) :: st) σ) : w_Ex E rt code Q pc ls (.inr (.inr (6, a)) :: st) σ := by
  obtain ⟨h1, rfl⟩ := hop
  exact w_Ex_in h1 (And.intro rfl h)
theorem wi_getf601 {a : Nat} (hop : w_fe code pc nx (.getfield 601))  (h : w_Ex E rt code Q nx ls (.inr (.inr (1004, a + 10)) :: st) σ) : w_Ex E rt code Q pc ls (.inr (.inr (6, a)) :: st) σ := by
  obtain ⟨h1, rfl⟩ := hop
  exact w_Ex_in h1 (And.intro rfl h)
theorem wi_getf602 {a : Nat} (hop : w_fe code pc nx (.getfield 602))  (h : w_Ex E rt code Q nx ls (.inr (.inr (1004, a + 11)) :: st) σ) : w_Ex E rt code Q pc ls (.inr (.inr (6, a)) :: st) σ := by
  obtain ⟨h1, rfl⟩ := hop
  exact w_Ex_in h1 (And.intro rfl h)
theorem wi_getf603 {a : Nat} (hop : w_fe code pc nx (.getfield 603))  (h : w_Ex E rt code Q nx ls (.inr (.inr (1004, a + 12)) :: st) σ) : w_Ex E rt code Q pc ls (.inr (.inr (6, a)) :: st) σ := by
  obtain ⟨h1, rfl⟩ := hop
  exact w_Ex_in h1 (And.intro rfl h)
theorem wi_getf604 {a : Nat} (hop : w_fe code pc nx (.getfield 604))  (h : w_Ex E rt code Q nx ls (.inr (.inr (1013, a + 13)) :: st) σ) : w_Ex E rt code Q pc ls (.inr (.inr (6, a)) :: st) σ := by
  obtain ⟨h1, rfl⟩ := hop
  exact w_Ex_in h1 (And.intro rfl h)
theorem wi_getf605 {a : Nat} (hop : w_fe code pc nx (.getfield 605))  (h : w_Ex E rt code Q nx ls (.inr (.inr (10410, a + 14)) :: st) σ) : w_Ex E rt code Q pc ls (.inr (.inr (6, a)) :: st) σ := by
  obtain ⟨h1, rfl⟩ := hop
  exact w_Ex_in h1 (And.intro rfl h)
theorem wi_getf606 {a : Nat} (hop : w_fe code pc nx (.getfield 606))  (h : w_Ex E rt code Q nx ls (.inr (.inr (11220, a + 19)) :: st) σ) : w_Ex E rt code Q pc ls (.inr (.inr (6, a)) :: st) σ := by
  obtain ⟨h1, rfl⟩ := hop
  exact w_Ex_in h1 (And.intro rfl h)
theorem wi_getf700 {a : Nat} (hop : w_fe code pc nx (.getfield 700))  (h : w_Ex E rt code Q nx ls (.inl (σ a 0) :: st) σ) : w_Ex E rt code Q pc ls (.inr (.inr (7, a)) :: st) σ := by
  obtain ⟨h1, rfl⟩ := hop
  exact w_Ex_in h1 (And.intro rfl h)
theorem wi_putf700 {x : Int} {a : Nat} (hop : w_fe code pc nx (.putfield 700))  (h : w_Ex E rt code Q nx ls st (w_up σ a 0 x)) : w_Ex E rt code Q pc ls (.inl x :: .inr (.inr (7, a)) :: st) σ := by
  obtain ⟨h1, rfl⟩ := hop
  exact w_Ex_in h1 (And.intro rfl (And.intro rfl (And.intro (fun e => by omega) h)))
theorem wi_getf701 {a : Nat} (hop : w_fe code pc nx (.getfield 701))  (h : w_Ex E rt code Q nx ls (.inr (.inr (10707, a + 1)) :: st) σ) : w_Ex E rt code Q pc ls (.inr (.inr (7, a)) :: st) σ := by
  obtain ⟨h1, rfl⟩ := hop
  exact w_Ex_in h1 (And.intro rfl h)
theorem wi_getf702 {a : Nat} (hop : w_fe code pc nx (.getfield 702))  (h : w_Ex E rt code Q nx ls (.inr (.inr (10707, a + 9)) :: st) σ) : w_Ex E rt code Q pc ls (.inr (.inr (7, a)) :: st) σ := by
  obtain ⟨h1, rfl⟩ := hop
  exact w_Ex_in h1 (And.intro rfl h)
theorem wi_getf800 {a : Nat} (hop : w_fe code pc nx (.getfield 800))  (h : w_Ex E rt code Q nx ls (.inr (.inr (10440, a + 1)) :: st) σ) : w_Ex E rt code Q pc ls (.inr (.inr (8, a)) :: st) σ := by
  obtain ⟨h1, rfl⟩ := hop
  exact w_Ex_in h1 (And.intro rfl h)
theorem wi_getf801 {a : Nat} (hop : w_fe code pc nx (.getfield 801))  (h : w_Ex E rt code Q nx ls (.inr (.inr (1004, a + 6)) :: st) σ) : w_Ex E rt code Q pc ls (.inr (.inr (8, a)) :: st) σ := by
  obtain ⟨h1, rfl⟩ := hop
  exact w_Ex_in h1 (And.intro rfl h)
theorem wi_getf802 {a : Nat} (hop : w_fe code pc nx (.getfield 802))  (h : w_Ex E rt code Q nx ls (.inr (.inr (1004, a + 7)) :: st) σ) : w_Ex E rt code Q pc ls (.inr (.inr (8, a)) :: st) σ := by
  obtain ⟨h1, rfl⟩ := hop
  exact w_Ex_in h1 (And.intro rfl h)
theorem wi_getf900 {a : Nat} (hop : w_fe code pc nx (.getfield 900))  (h : w_Ex E rt code Q nx ls (.inr (.inr (1246, a + 1)) :: st) σ) : w_Ex E rt code Q pc ls (.inr (.inr (9, a)) :: st) σ := by
  obtain ⟨h1, rfl⟩ := hop
  exact w_Ex_in h1 (And.intro rfl h)
theorem wi_getf901 {a : Nat} (hop : w_fe code pc nx (.getfield 901))  (h : w_Ex E rt code Q nx ls (.inr (.inr (1082, a + 2)) :: st) σ) : w_Ex E rt code Q pc ls (.inr (.inr (9, a)) :: st) σ := by
  obtain ⟨h1, rfl⟩ := hop
  exact w_Ex_in h1 (And.intro rfl h)
theorem wi_getf902 {a : Nat} (hop : w_fe code pc nx (.getfield 902))  (h : w_Ex E rt code Q nx ls (.inr (.inr (3002, a + 3)) :: st) σ) : w_Ex E rt code Q pc ls (.inr (.inr (9, a)) :: st) σ := by
  obtain ⟨h1, rfl⟩ := hop
  exact w_Ex_in h1 (And.intro rfl h)
theorem wi_getf903 {a : Nat} (hop : w_fe code pc nx (.getfield 903))  (h : w_Ex E rt code Q nx ls (.inl (σ a 3) :: st) σ) : w_Ex E rt code Q pc ls (.inr (.inr (9, a)) :: st) σ := by
  obtain ⟨h1, rfl⟩ := hop
  exact w_Ex_in h1 (And.intro rfl h)
theorem wi_putf903 {x : Int} {a : Nat} (hop : w_fe code pc nx (.putfield 903))  (h : w_Ex E rt code Q nx ls st (w_up σ a 3 x)) : w_Ex E rt code Q pc ls (.inl x :: .inr (.inr (9, a)) :: st) σ := by
  obtain ⟨h1, rfl⟩ := hop
  exact w_Ex_in h1 (And.intro rfl (And.intro rfl (And.intro (fun e => by omega) h)))
theorem wi_getf904 {a : Nat} (hop : w_fe code pc nx (.getfield 904))  (h : w_Ex E rt code Q nx ls (.inl (σ a 4) :: st) σ) : w_Ex E rt code Q pc ls (.inr (.inr (9, a)) :: st) σ := by
  obtain ⟨h1, rfl⟩ := hop
  exact w_Ex_in h1 (And.intro rfl h)
theorem wi_putf904 {x : Int} {a : Nat} (hop : w_fe code pc nx (.putfield 904))  (h : w_Ex E rt code Q nx ls st (w_up σ a 4 x)) : w_Ex E rt code Q pc ls (.inl x :: .inr (.inr (9, a)) :: st) σ := by
  obtain ⟨h1, rfl⟩ := hop
  exact w_Ex_in h1 (And.intro rfl (And.intro rfl (And.intro (fun e => by omega) h)))
theorem wi_getf905 {a : Nat} (hop : w_fe code pc nx (.getfield 905))  (h : w_Ex E rt code Q nx ls (.inl (σ a 5) :: st) σ) : w_Ex E rt code Q pc ls (.inr (.inr (9, a)) :: st) σ := by
  obtain ⟨h1, rfl⟩ := hop
  exact w_Ex_in h1 (And.intro rfl h)
theorem wi_putf905 {x : Int} {a : Nat} (hop : w_fe code pc nx (.putfield 905))  (h : w_Ex E rt code Q nx ls st (w_up σ a 5 x)) : w_Ex E rt code Q pc ls (.inl x :: .inr (.inr (9, a)) :: st) σ := by
  obtain ⟨h1, rfl⟩ := hop
  exact w_Ex_in h1 (And.intro rfl (And.intro rfl (And.intro (fun e => by omega) h)))
theorem wi_getf906 {a : Nat} (hop : w_fe code pc nx (.getfield 906))  (h : w_Ex E rt code Q nx ls (.inr (.inr (1082, a + 4)) :: st) σ) : w_Ex E rt code Q pc ls (.inr (.inr (9, a)) :: st) σ := by
  obtain ⟨h1, rfl⟩ := hop
  exact w_Ex_in h1 (And.intro rfl h)
theorem wi_getf907 {a : Nat} (hop : w_fe code pc nx (.getfield 907))  (h : w_Ex E rt code Q nx ls (.inl (σ a 7) :: st) σ) : w_Ex E rt code Q pc ls (.inr (.inr (9, a)) :: st) σ := by
  obtain ⟨h1, rfl⟩ := hop
  exact w_Ex_in h1 (And.intro rfl h)
theorem wi_putf907 {x : Int} {a : Nat} (hop : w_fe code pc nx (.putfield 907))  (h : w_Ex E rt code Q nx ls st (w_up σ a 7 x)) : w_Ex E rt code Q pc ls (.inl x :: .inr (.inr (9, a)) :: st) σ := by
  obtain ⟨h1, rfl⟩ := hop
  exact w_Ex_in h1 (And.intro rfl (And.intro rfl (And.intro (fun e => by omega) h)))
theorem wi_getf908 {a : Nat} (hop : w_fe code pc nx (.getfield 908))  (h : w_Ex E rt code Q nx ls (.inl (σ a 8) :: st) σ) : w_Ex E rt code Q pc ls (.inr (.inr (9, a)) :: st) σ := by
  obtain ⟨h1, rfl⟩ := hop
  exact w_Ex_in h1 (And.intro rfl h)
theorem wi_putf908 {x : Int} {a : Nat} (hop : w_fe code pc nx (.putfield 908))  (h : w_Ex E rt code Q nx ls st (w_up σ a 8 x)) : w_Ex E rt code Q pc ls (.inl x :: .inr (.inr (9, a)) :: st) σ := by
  obtain ⟨h1, rfl⟩ := hop
  exact w_Ex_in h1 (And.intro rfl (And.intro rfl (And.intro (fun e => by omega) h)))
theorem wi_getf909 {a : Nat} (hop : w_fe code pc nx (.getfield 909))  (h : w_Ex E rt code Q nx ls (.inl (σ a 9) :: st) σ) : w_Ex E rt code Q pc ls (.inr (.inr (9, a)) :: st) σ := by
  obtain ⟨h1, rfl⟩ := hop
  exact w_Ex_in h1 (And.intro rfl h)
theorem wi_putf909 {x : Int} {a : Nat} (hop : w_fe code pc nx (.putfield 909))  (h : w_Ex E rt code Q nx ls st (w_up σ a 9 x)) : w_Ex E rt code Q pc ls (.inl x :: .inr (.inr (9, a)) :: st) σ := by
  obtain ⟨h1, rfl⟩ := hop
  exact w_Ex_in h1 (And.intro rfl (And.intro rfl (And.intro (fun e => by omega) h)))
theorem wi_getf910 {a : Nat} (hop : w_fe code pc nx (.getfield 910))  (h : w_Ex E rt code Q nx ls (.inl (σ a 10) :: st) σ) : w_Ex E rt code Q pc ls (.inr (.inr (9, a)) :: st) σ := by
  obtain ⟨h1, rfl⟩ := hop
  exact w_Ex_in h1 (And.intro rfl h)
theorem wi_putf910 {x : Int} {a : Nat} (hop : w_fe code pc nx (.putfield 910)) (c0 : x = 0 ∨ x = 1) (h : w_Ex E rt code Q nx ls st (w_up σ a 10 x)) : w_Ex E rt code Q pc ls (.inl x :: .inr (.inr (9, a)) :: st) σ := by
  obtain ⟨h1, rfl⟩ := hop
  exact w_Ex_in h1 (And.intro rfl (And.intro rfl (And.intro (fun _ => c0) h)))
theorem wi_getf911 {a : Nat} (hop : w_fe code pc nx (.getfield 911))  (h : w_Ex E rt code Q nx ls (.inl (σ a 11) :: st) σ) : w_Ex E rt code Q pc ls (.inr (.inr (9, a)) :: st) σ := by
  obtain ⟨h1, rfl⟩ := hop
  exact w_Ex_in h1 (And.intro rfl h)
theorem wi_putf911 {x : Int} {a : Nat} (hop : w_fe code pc nx (.putfield 911))  (h : w_Ex E rt code Q nx ls st (w_up σ a 11 x)) : w_Ex E rt code Q pc ls (.inl x :: .inr (.inr (9, a)) :: st) σ := by
  obtain ⟨h1, rfl⟩ := hop
  exact w_Ex_in h1 (And.intro rfl (And.intro rfl (And.intro (fun e => by omega) h)))
theorem wi_getf912 {a : Nat} (hop : w_fe code pc nx (.getfield 912))  (h : w_Ex E rt code Q nx ls (.inl (σ a 12) :: st) σ) : w_Ex E rt code Q pc ls (.inr (.inr (9, a)) :: st) σ := by
  obtain ⟨h1, rfl⟩ := hop
  exact w_Ex_in h1 (And.intro rfl h)
theorem wi_putf912 {x : Int} {a : Nat} (hop : w_fe code pc nx (.putfield 912))  (h : w_Ex E rt code Q nx ls st (w_up σ a 12 x)) : w_Ex E rt code Q pc ls (.inl x :: .inr (.inr (9, a)) :: st) σ := by
  obtain ⟨h1, rfl⟩ := hop
  exact w_Ex_in h1 (And.intro rfl (And.intro rfl (And.intro (fun e => by omega) h)))
theorem wi_getf913 {a : Nat} (hop : w_fe code pc nx (.getfield 913))  (h : w_Ex E rt code Q nx ls (.inl (σ a 13) :: st) σ) : w_Ex E rt code Q pc ls (.inr (.inr (9, a)) :: st) σ := by
  obtain ⟨h1, rfl⟩ := hop
  exact w_Ex_in h1 (And.intro rfl h)
theorem wi_putf913 {x : Int} {a : Nat} (hop : w_fe code pc nx (.putfield 913))  (h : w_Ex E rt code Q nx ls st (w_up σ a 13 x)) : w_Ex E rt code Q pc ls (.inl x :: .inr (.inr (9, a)) :: st) σ := by
  obtain ⟨h1, rfl⟩ := hop
  exact w_Ex_in h1 (And.intro rfl (And.intro rfl (And.intro (fun e => by omega) h)))
theorem wi_getf914 {a : Nat} (hop : w_fe code pc nx (.getfield 914))  (h : w_Ex E rt code Q nx ls (.inr (.inr (1160, a + 5)) :: st) σ) : w_Ex E rt code Q pc ls (.inr (.inr (9, a)) :: st) σ := by
  obtain ⟨h1, rfl⟩ := hop
  exact w_Ex_in h1 (And.intro rfl h)
theorem wi_getf915 {a : Nat} (hop : w_fe code pc nx (.getfield 915))  (h : w_Ex E rt code Q nx ls (.inl (σ a 15) :: st) σ) : w_Ex E rt code Q pc ls (.inr (.inr (9, a)) :: st) σ := by
  obtain ⟨h1, rfl⟩ := hop
  exact w_Ex_in h1 (And.intro rfl h)
theorem wi_putf915 {x : Int} {a : Nat} (hop : w_fe code pc nx (.putfield 915))  (h : w_Ex E rt code Q nx ls st (w_up σ a 15 x)) : w_Ex E rt code Q pc ls (.inl x :: .inr (.inr (9, a)) :: st) σ := by
  obtain ⟨h1, rfl⟩ := hop
  exact w_Ex_in h1 (And.intro rfl (And.intro rfl (And.intro (fun e => by omega) h)))
theorem wi_getf916 {a : Nat} (hop : w_fe code pc nx (.getfield 916))  (h : w_Ex E rt code Q nx ls (.inl (σ a 16) :: st) σ) : w_Ex E rt code Q pc ls (.inr (.inr (9, a)) :: st) σ := by
  obtain ⟨h1, rfl⟩ := hop
  exact w_Ex_in h1 (And.intro rfl h)
theorem wi_putf916 {x : Int} {a : Nat} (hop : w_fe code pc nx (.putfield 916))  (h : w_Ex E rt code Q nx ls st (w_up σ a 16 x)) : w_Ex E rt code Q pc ls (.inl x :: .inr (.inr (9, a)) :: st) σ := by
  obtain ⟨h1, rfl⟩ := hop
  exact w_Ex_in h1 (And.intro rfl (And.intro rfl (And.intro (fun e => by omega) h)))
theorem wi_getf917 {a : Nat} (hop : w_fe code pc nx (.getfield 917))  (h : w_Ex E rt code Q nx ls (.inl (σ a 17) :: st) σ) : w_Ex E rt code Q pc ls (.inr (.inr (9, a)) :: st) σ := by
  obtain ⟨h1, rfl⟩ := hop
  exact w_Ex_in h1 (And.intro rfl h)
theorem wi_putf917 {x : Int} {a : Nat} (hop : w_fe code pc nx (.putfield 917))  (h : w_Ex E rt code Q nx ls st (w_up σ a 17 x)) : w_Ex E rt code Q pc ls (.inl x :: .inr (.inr (9, a)) :: st) σ := by
  obtain ⟨h1, rfl⟩ := hop
  exact w_Ex_in h1 (And.intro rfl (And.intro rfl (And.intro (fun e => by omega) h)))
theorem wi_getf918 {a : Nat} (hop : w_fe code pc nx (.getfield 918))  (h : w_Ex E rt code Q nx ls (.inl (σ a 18) :: st) σ) : w_Ex E rt code Q pc ls (.inr (.inr (9, a)) :: st) σ := by
  obtain ⟨h1, rfl⟩ := hop
  exact w_Ex_in h1 (And.intro rfl h)
theorem wi_putf918 {x : Int} {a : Nat} (hop : w_fe code pc nx (.putfield 918))  (h : w_Ex E rt code Q nx ls st (w_up σ a 18 x)) : w_Ex E rt code Q pc ls (.inl x :: .inr (.inr (9, a)) :: st) σ := by
  obtain ⟨h1, rfl⟩ := hop
  exact w_Ex_in h1 (And.intro rfl (And.intro rfl (And.intro (fun e => by omega) h)))
theorem wi_getf919 {a : Nat} (hop : w_fe code pc nx (.getfield 919))  (h : w_Ex E rt code Q nx ls (.inl (σ a 19) :: st) σ) : w_Ex E rt code Q pc ls (.inr (.inr (9, a)) :: st) σ := by
  obtain ⟨h1, rfl⟩ := hop
  exact w_Ex_in h1 (And.intro rfl h)
theorem wi_putf919 {x : Int} {a : Nat} (hop : w_fe code pc nx (.putfield 919))  (h : w_Ex E rt code Q nx ls st (w_up σ a 19 x)) : w_Ex E rt code Q pc ls (.inl x :: .inr (.inr (9, a)) :: st) σ := by
  obtain ⟨h1, rfl⟩ := hop
  exact w_Ex_in h1 (And.intro rfl (And.intro rfl (And.intro (fun e => by omega) h)))
theorem wi_getf920 {a : Nat} (hop : w_fe code pc nx (.getfield 920))  (h : w_Ex E rt code Q nx ls (.inl (σ a 20) :: st) σ) : w_Ex E rt code Q pc ls (.inr (.inr (9, a)) :: st) σ := by
  obtain ⟨h1, rfl⟩ := hop
  exact w_Ex_in h1 (And.intro rfl h)
theorem wi_putf920 {x : Int} {a : Nat} (hop : w_fe code pc nx (.putfield 920))  (h : w_Ex E rt code Q nx ls st (w_up σ a 20 x)) : w_Ex E rt code Q pc ls (.inl x :: .inr (.inr (9, a)) :: st) σ := by
  obtain ⟨h1, rfl⟩ := hop
  exact w_Ex_in h1 (And.intro rfl (And.intro rfl (And.intro (fun e => by omega) h)))
theorem wi_getf921 {a : Nat} (hop : w_fe code pc nx (.getfield 921))  (h : w_Ex E rt code Q nx ls (.inl (σ a 21) :: st) σ) : w_Ex E rt code Q pc ls (.inr (.inr (9, a)) :: st) σ := by
  obtain ⟨h1, rfl⟩ := hop
  exact w_Ex_in h1 (And.intro rfl h)
theorem wi_putf921 {x : Int} {a : Nat} (hop : w_fe code pc nx (.putfield 921))  (h : w_Ex E rt code Q nx ls st (w_up σ a 21 x)) : w_Ex E rt code Q pc ls (.inl x :: .inr (.inr (9, a)) :: st) σ := by
  obtain ⟨h1, rfl⟩ := hop
  exact w_Ex_in h1 (And.intro rfl (And.intro rfl (And.intro (fun e => by omega) h)))
theorem wi_getf922 {a : Nat} (hop : w_fe code pc nx (.getfield 922))  (h : w_Ex E rt code Q nx ls (.inr (.inr (1049, a + 6)) :: st) σ) : w_Ex E rt code Q pc ls (.inr (.inr (9, a)) :: st) σ := by
  obtain ⟨h1, rfl⟩ := hop
  exact w_Ex_in h1 (And.intro rfl h)
theorem wi_getf923 {a : Nat} (hop : w_fe code pc nx (.getfield 923))  (h : w_Ex E rt code Q nx ls (.inr (.inr (1049, a + 7)) :: st) σ) : w_Ex E rt code Q pc ls (.inr (.inr (9, a)) :: st) σ := by
  obtain ⟨h1, rfl⟩ := hop
  exact w_Ex_in h1 (And.intro rfl h)
theorem wi_getf924 {a : Nat} (hop : w_fe code pc nx (.getfield 924))  (h : w_Ex E rt code Q nx ls (.inr (.inr (1004, a + 8)) :: st) σ) : w_Ex E rt code Q pc ls (.inr (.inr (9, a)) :: st) σ := by
  obtain ⟨h1, rfl⟩ := hop
  exact w_Ex_in h1 (And.intro rfl h)
theorem wi_getf925 {a : Nat} (hop : w_fe code pc nx (.getfield 925))  (h : w_Ex E rt code Q nx ls (.inr (.inr (1004, a + 9)) :: st) σ) : w_Ex E rt code Q pc ls (.inr (.inr (9, a)) :: st) σ := by
  obtain ⟨h1, rfl⟩ := hop
  exact w_Ex_in h1 (And.intro rfl h)
theorem wi_getf926 {a : Nat} (hop : w_fe code pc nx (.getfield 926))  (h : w_Ex E rt code Q nx ls (.inr (.inr (1160, a + 10)) :: st) σ) : w_Ex E rt code Q pc ls (.inr (.inr (9, a)) :: st) σ := by
  obtain ⟨h1, rfl⟩ := hop
  exact w_Ex_in h1 (And.intro rfl h)
theorem wi_getf927 {a : Nat} (hop : w_fe code pc nx (.getfield 927))  (h : w_Ex E rt code Q nx ls (.inl (σ a 27) :: st) σ) : w_Ex E rt code Q pc ls (.inr (.inr (9, a)) :: st) σ := by
  obtain ⟨h1, rfl⟩ := hop
  exact w_Ex_in h1 (And.intro rfl h)
theorem wi_putf927 {x : Int} {a : Nat} (hop : w_fe code pc nx (.putfield 927))  (h : w_Ex E rt code Q nx ls st (w_up σ a 27 x)) : w_Ex E rt code Q pc ls (.inl x :: .inr (.inr (9, a)) :: st) σ := by
  obtain ⟨h1, rfl⟩ := hop
  exact w_Ex_in h1 (And.intro rfl (And.intro rfl (And.intro (fun e => by omega) h)))
theorem wi_getf928 {a : Nat} (hop : w_fe code pc nx (.getfield 928))  (h : w_Ex E rt code Q nx ls (.inr (.inr (1004, a + 11)) :: st) σ) : w_Ex E rt code Q pc ls (.inr (.inr (9, a)) :: st) σ := by
  obtain ⟨h1, rfl⟩ := hop
  exact w_Ex_in h1 (And.intro rfl h)
theorem wi_acopy {n dp sp : Int} {k d k2 s z : Nat} (hop : w_fe code pc nx (.invokedynamic z)) (c0 : 1000 ≤ k ∧ k < 2000 ∧ 1000 ≤ k2 ∧ k2 < 2000) (c1 : w_cs st ≤ 8) (c2 : 0 ≤ n) (c3 : 0 ≤ dp) (c4 : 0 ≤ sp) (c5 : sp + n ≤ ((k2 - 1000 : Nat) : Int)) (c6 : dp + n ≤ ((k - 1000 : Nat) : Int)) (h : w_Ex E rt code Q nx ls st (w_cpy σ s d sp.toNat dp.toNat n.toNat)) : w_Ex E rt code Q pc ls (.inl n :: .inl dp :: .inr (.inr (k, d)) :: .inl sp :: .inr (.inr (k2, s)) :: st) σ := by
  obtain ⟨h1, rfl⟩ := hop
  exact w_Ex_in h1 (And.intro c0 (And.intro c1 (And.intro c2 (And.intro c3 (And.intro c4 (And.intro c5 (And.intro c6 (h))))))))
theorem wi_chk {n i : Int} (hop : w_fe code pc nx (.monitorexit)) (c0 : 0 ≤ i ∧ i < n) (c1 : w_cs st ≤ 8) (h : w_Ex E rt code Q nx ls st σ) : w_Ex E rt code Q pc ls (.inl n :: .inl i :: st) σ := by
  obtain ⟨h1, rfl⟩ := hop
  exact w_Ex_in h1 (And.intro c0 (And.intro c1 (h)))
theorem wi_call0 {xs : List Int} {d : Nat}  {c : Nat} (hop : w_fe code pc nx (.invokestatic c)) (hc : w_cs st ≤ 8) (h : w_Call (xs, d) c [] σ (fun v σ' => w_Ex (xs, d + 1) rt code Q nx ls (w_push v st) σ')) : w_Ex (xs, d + 1) rt code Q pc ls (st) σ := by
  obtain ⟨h1, rfl⟩ := hop
  exact w_Ex_in h1 ⟨[], st, d, rfl, rfl, hc, h⟩
theorem wi_call1 {xs : List Int} {d : Nat} {x0 : w_V} {c : Nat} (hop : w_fe code pc nx (.invokestatic c)) (hc : w_cs st ≤ 8) (h : w_Call (xs, d) c [x0] σ (fun v σ' => w_Ex (xs, d + 1) rt code Q nx ls (w_push v st) σ')) : w_Ex (xs, d + 1) rt code Q pc ls (x0 :: st) σ := by
  obtain ⟨h1, rfl⟩ := hop
  exact w_Ex_in h1 ⟨[x0], st, d, rfl, rfl, hc, h⟩
theorem wi_call2 {xs : List Int} {d : Nat} {x0 x1 : w_V} {c : Nat} (hop : w_fe code pc nx (.invokestatic c)) (hc : w_cs st ≤ 8) (h : w_Call (xs, d) c [x0, x1] σ (fun v σ' => w_Ex (xs, d + 1) rt code Q nx ls (w_push v st) σ')) : w_Ex (xs, d + 1) rt code Q pc ls (x1 :: x0 :: st) σ := by
  obtain ⟨h1, rfl⟩ := hop
  exact w_Ex_in h1 ⟨[x0, x1], st, d, rfl, rfl, hc, h⟩
theorem wi_call3 {xs : List Int} {d : Nat} {x0 x1 x2 : w_V} {c : Nat} (hop : w_fe code pc nx (.invokestatic c)) (hc : w_cs st ≤ 8) (h : w_Call (xs, d) c [x0, x1, x2] σ (fun v σ' => w_Ex (xs, d + 1) rt code Q nx ls (w_push v st) σ')) : w_Ex (xs, d + 1) rt code Q pc ls (x2 :: x1 :: x0 :: st) σ := by
  obtain ⟨h1, rfl⟩ := hop
  exact w_Ex_in h1 ⟨[x0, x1, x2], st, d, rfl, rfl, hc, h⟩
theorem wi_call4 {xs : List Int} {d : Nat} {x0 x1 x2 x3 : w_V} {c : Nat} (hop : w_fe code pc nx (.invokestatic c)) (hc : w_cs st ≤ 8) (h : w_Call (xs, d) c [x0, x1, x2, x3] σ (fun v σ' => w_Ex (xs, d + 1) rt code Q nx ls (w_push v st) σ')) : w_Ex (xs, d + 1) rt code Q pc ls (x3 :: x2 :: x1 :: x0 :: st) σ := by
  obtain ⟨h1, rfl⟩ := hop
  exact w_Ex_in h1 ⟨[x0, x1, x2, x3], st, d, rfl, rfl, hc, h⟩
theorem wi_call5 {xs : List Int} {d : Nat} {x0 x1 x2 x3 x4 : w_V} {c : Nat} (hop : w_fe code pc nx (.invokestatic c)) (hc : w_cs st ≤ 8) (h : w_Call (xs, d) c [x0, x1, x2, x3, x4] σ (fun v σ' => w_Ex (xs, d + 1) rt code Q nx ls (w_push v st) σ')) : w_Ex (xs, d + 1) rt code Q pc ls (x4 :: x3 :: x2 :: x1 :: x0 :: st) σ := by
  obtain ⟨h1, rfl⟩ := hop
  exact w_Ex_in h1 ⟨[x0, x1, x2, x3, x4], st, d, rfl, rfl, hc, h⟩
theorem wi_ret1 {x : Int} (hop : w_fe code pc nx .ireturn)  (h : Q (some (.inl x)) σ) : w_Ex E 1 code Q pc ls [.inl x] σ := w_Ex_in hop.1 (And.intro trivial h)
theorem wi_ret2 {x : Int} (hop : w_fe code pc nx .ireturn) (c0 : x = 0 ∨ x = 1) (h : Q (some (.inl x)) σ) : w_Ex E 2 code Q pc ls [.inl x] σ := w_Ex_in hop.1 (And.intro c0 h)
theorem wi_ret3 {x : Int} (hop : w_fe code pc nx .ireturn)  (h : Q (some (.inr (.inl x))) σ) : w_Ex E 3 code Q pc ls [.inr (.inl x)] σ := w_Ex_in hop.1 (And.intro trivial h)
theorem wi_ret4 {x : Nat × Nat} (hop : w_fe code pc nx .ireturn)  (h : Q (some (.inr (.inr x))) σ) : w_Ex E 4 code Q pc ls [.inr (.inr x)] σ := w_Ex_in hop.1 (And.intro trivial h)
theorem wi_ret5 {x : Int} (hop : w_fe code pc nx .ireturn) (c0 : 0 ≤ x ∧ x ≤ 65535) (h : Q (some (.inl x)) σ) : w_Ex E 5 code Q pc ls [.inl x] σ := w_Ex_in hop.1 (And.intro c0 h)
theorem wi_ret6 {x : Int} (hop : w_fe code pc nx .ireturn) (c0 : -128 ≤ x ∧ x ≤ 127) (h : Q (some (.inl x)) σ) : w_Ex E 6 code Q pc ls [.inl x] σ := w_Ex_in hop.1 (And.intro c0 h)
theorem wi_ret0 (hop : w_fe code pc nx .return_) (h : Q none σ) : w_Ex E 0 code Q pc ls [] σ := w_Ex_in hop.1 (And.intro rfl h)
end WI
theorem w_n_eq {x y : Int} (h : ¬ x = y) : ¬ (x = y) := by omega
theorem w_m_eq {x y : Int} (h : x = y) : ¬ (¬ x = y) := by omega
theorem w_n_ne {x y : Int} (h : x = y) : ¬ (¬ x = y) := by omega
theorem w_m_ne {x y : Int} (h : ¬ x = y) : ¬ (x = y) := by omega
theorem w_n_lt {x y : Int} (h : y ≤ x) : ¬ (x < y) := by omega
theorem w_m_lt {x y : Int} (h : x < y) : ¬ (y ≤ x) := by omega
theorem w_n_ge {x y : Int} (h : x < y) : ¬ (y ≤ x) := by omega
theorem w_m_ge {x y : Int} (h : y ≤ x) : ¬ (x < y) := by omega
theorem w_n_gt {x y : Int} (h : x ≤ y) : ¬ (y < x) := by omega
theorem w_m_gt {x y : Int} (h : y < x) : ¬ (x ≤ y) := by omega
theorem w_n_le {x y : Int} (h : y < x) : ¬ (x ≤ y) := by omega
theorem w_m_le {x y : Int} (h : x ≤ y) : ¬ (y < x) := by omega
theorem w_n_eqb {P : Prop} (h : P) : ¬ ¬ P := fun k => k h
theorem w_m_eqb {P : Prop} (h : ¬ P) : ¬ P := h
theorem w_n_neb {P : Prop} (h : ¬ P) : ¬ P := h
theorem w_m_neb {P : Prop} (h : P) : ¬ ¬ P := fun k => k h
