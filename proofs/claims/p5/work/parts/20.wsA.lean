/-! Each word of the second layer is a step below -/
noncomputable def w_cq (k : Nat) : Bool := (am_mq k).1.all fun op => match op with
  | .bipush x => decide (-2147483648 ≤ x) && decide (x ≤ 2147483647)
  | .sipush x => decide (-9223372036854775808 ≤ x) && decide (x ≤ 9223372036854775807)
  | .ldc a => decide (1000 ≤ a) && decide (a < 1010) && decide (a % 2 = 0)
  | _ => true
theorem w_cq_c : ((List.range 240).all w_cq) = true := by decide +kernel
theorem w_look_lo {cst mem : List am_E} {a : Nat} (h : a < 134) : am_look cst mem a = mem[a]? := if_pos (by omega)
theorem w_carr_i {xs : List Int} {mem : List am_E} {a : Nat} (h : a = 1010 ∨ a = 1011 ∨ a = 1012 ∨ a = 1013) : am_look (am_cst (xs.map Int32.ofInt)) mem a = some (.inl (0, (w_carr xs a).map Int32.ofInt)) := by
  rcases h with rfl | rfl | rfl | rfl <;> rfl
theorem w_carr_b {xs : List Int} {mem : List am_E} {a : Nat} (h : 1000 ≤ a ∧ a < 1010 ∧ a % 2 = 1) : am_look (am_cst (xs.map Int32.ofInt)) mem a = some (.inl (1, (w_carr xs a).map Int32.ofInt)) := by
  obtain ⟨h1, h2, h3⟩ := h
  rcases (show a = 1001 ∨ a = 1003 ∨ a = 1005 ∨ a = 1007 ∨ a = 1009 by omega) with rfl | rfl | rfl | rfl | rfl <;> rfl
theorem w_carr_s {xs : List Int} {mem : List am_E} {a : Nat} (h : 1000 ≤ a ∧ a < 1010 ∧ a % 2 = 0) : am_look (am_cst (xs.map Int32.ofInt)) mem a = some (.inr (.inl (20, [.ref (a + 1), .int 0]))) := by
  obtain ⟨h1, h2, h3⟩ := h
  rcases (show a = 1000 ∨ a = 1002 ∨ a = 1004 ∨ a = 1006 ∨ a = 1008 by omega) with rfl | rfl | rfl | rfl | rfl <;> rfl
theorem w_gD {l : List Int} {j : Nat} (h : j < l.length) : (l.map Int32.ofInt).getD j 0 = Int32.ofInt (l.getD j 0) := by
  rw [List.getD_eq_getElem?_getD, List.getD_eq_getElem?_getD, List.getElem?_map, List.getElem?_eq_getElem h]
  rfl
theorem w_carr_in {xs : List Int} (hx : ∀ x ∈ xs, w_in x) {a j : Nat} : w_in ((w_carr xs a).getD j 0) := by
  have key : ∀ l : List Int, (∀ x ∈ l, w_in x) → w_in (l.getD j 0) := fun l hl => by
    rw [List.getD_eq_getElem?_getD]
    cases hj : l[j]? with
    | none => exact w_in0
    | some x => exact hl x (List.mem_of_getElem? hj)
  have lit : ∀ l : List Int, (l.all fun x => decide (0 ≤ x) && decide (x ≤ 255)) = true → ∀ x ∈ l, w_in x := fun l h x hx => by
    have := List.all_eq_true.mp h x hx
    simp only [Bool.and_eq_true, decide_eq_true_eq] at this
    unfold w_in
    omega
  unfold w_carr
  split
  · exact key _ (lit _ (by decide))
  split
  · exact key _ (lit _ (by decide))
  split
  · exact key _ (lit _ (by decide))
  split
  · exact key _ hx
  · refine key _ (lit _ ?_)
    rw [List.getD_eq_getElem?_getD]
    cases hj : w_cbyt[(a - 1001) / 2]? with
    | none => rfl
    | some l =>
      have := List.all_eq_true.mp (show (w_cbyt.all fun l => l.all fun x => decide (0 ≤ x) && decide (x ≤ 255)) = true by decide) l (List.mem_of_getElem? hj)
      exact this
theorem w_cell_i {k a : Nat} {f : Nat → Int} (h1 : 1000 ≤ k) (h2 : k < 2000) : w_cell k a f = .inl (0, (List.range (k - 1000)).map fun i => Int32.ofInt (f i)) := by
  unfold w_cell
  rw [if_neg (by omega), if_pos h2]
theorem w_cell_b {k a : Nat} {f : Nat → Int} (h1 : 2000 ≤ k) (h2 : k < 3000) : w_cell k a f = .inl (1, (List.range (k - 2000)).map fun i => Int32.ofInt (f i)) := by
  unfold w_cell
  rw [if_neg (by omega), if_neg (by omega), if_pos h2]
theorem w_cell_z {k a : Nat} {f : Nat → Int} (h1 : 3000 ≤ k) (h2 : k < 4000) : w_cell k a f = .inl (2, (List.range (k - 3000)).map fun i => Int32.ofInt (f i)) := by
  unfold w_cell
  rw [if_neg (by omega), if_neg (by omega), if_neg (by omega), if_pos h2]
theorem w_cell_o {k a : Nat} {f : Nat → Int} (h : k < 1000) : w_cell k a f = .inr (.inl (k, (List.range (w_nf k)).map (w_fv k a f))) := by
  unfold w_cell
  rw [if_pos h]
theorem w_cell_q {k a : Nat} {f : Nat → Int} (h1 : 4000 ≤ k) (h2 : k < 10000) : w_cell k a f = .inr (.inr (0, (List.range 2).map fun j => some (88 + 17 * j))) := by
  unfold w_cell
  rw [if_neg (by omega), if_neg (by omega), if_neg (by omega), if_neg (by omega), if_pos h2]
theorem w_cell_r {k a : Nat} {f : Nat → Int} (h : 10000 ≤ k) : w_cell k a f = .inr (.inr (1, (List.range (k / 100 % 100)).map fun j => some (a + 1 + j))) := by
  unfold w_cell
  rw [if_neg (by omega), if_neg (by omega), if_neg (by omega), if_neg (by omega), if_neg (by omega)]

section WS
variable {d mid : Nat} {Q : Option w_V → w_M → Prop} {pc : Nat} {ls : w_L} {st : List w_V} {σ : w_M} {M : am_M} {xs : List Int} {E : w_C} {rt : Nat}
theorem w_wb2_in (f : Int32 → Int32 → Int32) (x y : Int) : w_in (w_b2 f x y) := w_toInt_in _
theorem w_wb2_of (f : Int32 → Int32 → Int32) (x y : Int) : Int32.ofInt (w_b2 f x y) = f (Int32.ofInt x) (Int32.ofInt y) := Int32.ofInt_toInt _
theorem w_div_of {x y : Int} (hx : w_in x) (hy : w_in y) : Int32.ofInt (x.tdiv y) = Int32.ofInt x / Int32.ofInt y := Int32.ofInt_tdiv (show (-2147483648 : Int) ≤ x by exact hx.1) (show x ≤ 2147483647 by exact hx.2) (show (-2147483648 : Int) ≤ y by exact hy.1) (show y ≤ 2147483647 by exact hy.2)
theorem w_mod_of {x y : Int} (hx : w_in x) (hy : w_in y) : Int32.ofInt (x.tmod y) = Int32.ofInt x - Int32.ofInt x / Int32.ofInt y * Int32.ofInt y := by
  rw [← w_div_of hx hy, ← Int32.ofInt_mul, ← Int32.ofInt_sub]
  congr 1
  have := Int.tdiv_mul_add_tmod x y
  omega
theorem w_mod_in {x y : Int} (hx : w_in x) (hy : w_in y) : w_in (x.tmod y) := by
  have h := w_toInt_in (Int32.ofInt x % Int32.ofInt y)
  rw [Int32.toInt_mod, w_ci hx, w_ci hy] at h
  exact h
theorem w_ldiv_of {x y : Int} (hx : w_inl x) (hy : w_inl y) : Int64.ofInt (x.tdiv y) = Int64.ofInt x / Int64.ofInt y := Int64.ofInt_tdiv (show (-9223372036854775808 : Int) ≤ x by exact hx.1) (show x ≤ 9223372036854775807 by exact hx.2) (show (-9223372036854775808 : Int) ≤ y by exact hy.1) (show y ≤ 9223372036854775807 by exact hy.2)
theorem w_lmod_of {x y : Int} (hx : w_inl x) (hy : w_inl y) : Int64.ofInt (x.tmod y) = Int64.ofInt x - Int64.ofInt x / Int64.ofInt y * Int64.ofInt y := by
  rw [← w_ldiv_of hx hy, ← Int64.ofInt_mul, ← Int64.ofInt_sub]
  congr 1
  have := Int.tdiv_mul_add_tmod x y
  omega
theorem w_lmod_in {x y : Int} (hx : w_inl x) (hy : w_inl y) : w_inl (x.tmod y) := by
  have h1 := Int64.le_toInt (Int64.ofInt x % Int64.ofInt y)
  have h2 := Int64.toInt_lt (Int64.ofInt x % Int64.ofInt y)
  rw [Int64.toInt_mod, w_cl hx, w_cl hy] at h1 h2
  unfold w_inl
  omega
theorem w_in_l {x : Int} (h : w_in x) : w_inl x := by
  unfold w_in at h
  unfold w_inl
  omega
theorem w_cmp_ok {c : Jvm.ClassFile.Cond} {x y : Int} (hx : w_in x) (hy : w_in y) : am_cmp c (Int32.ofInt x) (Int32.ofInt y) = true ↔ w_cmp c x y := by
  cases c with
  | eq => simp only [am_cmp, decide_eq_true_eq, w_cmp]; exact w_eq hx hy
  | ne => simp only [am_cmp, Bool.not_eq_true', decide_eq_false_iff_not, w_cmp]; exact not_congr (w_eq hx hy)
  | lt => simp only [am_cmp, decide_eq_true_eq, w_cmp]; exact w_lt hx hy
  | ge => simp only [am_cmp, decide_eq_true_eq, w_cmp]; exact w_le hy hx
  | gt => simp only [am_cmp, decide_eq_true_eq, w_cmp]; exact w_lt hy hx
  | le => simp only [am_cmp, decide_eq_true_eq, w_cmp]; exact w_le hx hy
theorem wS_iadd (hP : am_P mid = some M) (hop : M.1[pc]? = some (w_un (.iadd))) {cst : List am_E} (h : w_opG (w_Sem cst d mid Q) E rt Q (.iadd) (pc + 1) ls st σ) : w_Sem cst d mid Q pc ls st σ := by
  intro hl hst hσ
  simp only [w_opG] at h
  split at h
  · rename_i y x r
    have hy := w_vs_hd hst
    have hx := w_vs_hd (w_vs_tl hst)
    have hr := w_vs_tl (w_vs_tl hst)
    refine w_go hP hop (j := none) h.2 ?_ hl (w_vs_cons (v := .inl (x + y)) h.1 hr) hσ
    simp only [w_un, am_step, am_sop, List.map_cons, w_tv, Option.map_some, Int32.ofInt_add]
  · exact h.elim
theorem wS_isub (hP : am_P mid = some M) (hop : M.1[pc]? = some (w_un (.isub))) {cst : List am_E} (h : w_opG (w_Sem cst d mid Q) E rt Q (.isub) (pc + 1) ls st σ) : w_Sem cst d mid Q pc ls st σ := by
  intro hl hst hσ
  simp only [w_opG] at h
  split at h
  · rename_i y x r
    have hy := w_vs_hd hst
    have hx := w_vs_hd (w_vs_tl hst)
    have hr := w_vs_tl (w_vs_tl hst)
    refine w_go hP hop (j := none) h.2 ?_ hl (w_vs_cons (v := .inl (x - y)) h.1 hr) hσ
    simp only [w_un, am_step, am_sop, List.map_cons, w_tv, Option.map_some, Int32.ofInt_sub]
  · exact h.elim
theorem wS_imul (hP : am_P mid = some M) (hop : M.1[pc]? = some (w_un (.imul))) {cst : List am_E} (h : w_opG (w_Sem cst d mid Q) E rt Q (.imul) (pc + 1) ls st σ) : w_Sem cst d mid Q pc ls st σ := by
  intro hl hst hσ
  simp only [w_opG] at h
  split at h
  · rename_i y x r
    have hy := w_vs_hd hst
    have hx := w_vs_hd (w_vs_tl hst)
    have hr := w_vs_tl (w_vs_tl hst)
    refine w_go hP hop (j := none) h.2 ?_ hl (w_vs_cons (v := .inl (x * y)) h.1 hr) hσ
    simp only [w_un, am_step, am_sop, List.map_cons, w_tv, Option.map_some, Int32.ofInt_mul]
  · exact h.elim
theorem wS_fadd (hP : am_P mid = some M) (hop : M.1[pc]? = some (w_un (.fadd))) {cst : List am_E} (h : w_opG (w_Sem cst d mid Q) E rt Q (.fadd) (pc + 1) ls st σ) : w_Sem cst d mid Q pc ls st σ := by
  intro hl hst hσ
  simp only [w_opG] at h
  split at h
  · rename_i y x r
    have hy := w_vs_hd hst
    have hx := w_vs_hd (w_vs_tl hst)
    have hr := w_vs_tl (w_vs_tl hst)
    refine w_go hP hop (j := none) h ?_ hl (w_vs_cons (v := .inl (w_wr (x + y))) (w_wr_in _) hr) hσ
    simp only [w_un, am_step, am_sop, List.map_cons, w_tv, Option.map_some, w_bm32, Int32.ofInt_add]
  · exact h.elim
theorem wS_fsub (hP : am_P mid = some M) (hop : M.1[pc]? = some (w_un (.fsub))) {cst : List am_E} (h : w_opG (w_Sem cst d mid Q) E rt Q (.fsub) (pc + 1) ls st σ) : w_Sem cst d mid Q pc ls st σ := by
  intro hl hst hσ
  simp only [w_opG] at h
  split at h
  · rename_i y x r
    have hy := w_vs_hd hst
    have hx := w_vs_hd (w_vs_tl hst)
    have hr := w_vs_tl (w_vs_tl hst)
    refine w_go hP hop (j := none) h ?_ hl (w_vs_cons (v := .inl (w_wr (x - y))) (w_wr_in _) hr) hσ
    simp only [w_un, am_step, am_sop, List.map_cons, w_tv, Option.map_some, w_bm32, Int32.ofInt_sub]
  · exact h.elim
theorem wS_fmul (hP : am_P mid = some M) (hop : M.1[pc]? = some (w_un (.fmul))) {cst : List am_E} (h : w_opG (w_Sem cst d mid Q) E rt Q (.fmul) (pc + 1) ls st σ) : w_Sem cst d mid Q pc ls st σ := by
  intro hl hst hσ
  simp only [w_opG] at h
  split at h
  · rename_i y x r
    have hy := w_vs_hd hst
    have hx := w_vs_hd (w_vs_tl hst)
    have hr := w_vs_tl (w_vs_tl hst)
    refine w_go hP hop (j := none) h ?_ hl (w_vs_cons (v := .inl (w_wr (x * y))) (w_wr_in _) hr) hσ
    simp only [w_un, am_step, am_sop, List.map_cons, w_tv, Option.map_some, w_bm32, Int32.ofInt_mul]
  · exact h.elim
theorem wS_iand (hP : am_P mid = some M) (hop : M.1[pc]? = some (w_un (.iand))) {cst : List am_E} (h : w_opG (w_Sem cst d mid Q) E rt Q (.iand) (pc + 1) ls st σ) : w_Sem cst d mid Q pc ls st σ := by
  intro hl hst hσ
  simp only [w_opG] at h
  split at h
  · rename_i y x r
    have hy := w_vs_hd hst
    have hx := w_vs_hd (w_vs_tl hst)
    have hr := w_vs_tl (w_vs_tl hst)
    refine w_go hP hop (j := none) h ?_ hl (w_vs_cons (v := .inl (w_and x y)) (w_wb2_in _ _ _) hr) hσ
    simp only [w_un, am_step, am_sop, List.map_cons, w_tv, Option.map_some, w_and, w_wb2_of]
  · exact h.elim
theorem wS_ior (hP : am_P mid = some M) (hop : M.1[pc]? = some (w_un (.ior))) {cst : List am_E} (h : w_opG (w_Sem cst d mid Q) E rt Q (.ior) (pc + 1) ls st σ) : w_Sem cst d mid Q pc ls st σ := by
  intro hl hst hσ
  simp only [w_opG] at h
  split at h
  · rename_i y x r
    have hy := w_vs_hd hst
    have hx := w_vs_hd (w_vs_tl hst)
    have hr := w_vs_tl (w_vs_tl hst)
    refine w_go hP hop (j := none) h ?_ hl (w_vs_cons (v := .inl (w_or x y)) (w_wb2_in _ _ _) hr) hσ
    simp only [w_un, am_step, am_sop, List.map_cons, w_tv, Option.map_some, w_or, w_wb2_of]
  · exact h.elim
theorem wS_ixor (hP : am_P mid = some M) (hop : M.1[pc]? = some (w_un (.ixor))) {cst : List am_E} (h : w_opG (w_Sem cst d mid Q) E rt Q (.ixor) (pc + 1) ls st σ) : w_Sem cst d mid Q pc ls st σ := by
  intro hl hst hσ
  simp only [w_opG] at h
  split at h
  · rename_i y x r
    have hy := w_vs_hd hst
    have hx := w_vs_hd (w_vs_tl hst)
    have hr := w_vs_tl (w_vs_tl hst)
    refine w_go hP hop (j := none) h ?_ hl (w_vs_cons (v := .inl (w_xor x y)) (w_wb2_in _ _ _) hr) hσ
    simp only [w_un, am_step, am_sop, List.map_cons, w_tv, Option.map_some, w_xor, w_wb2_of]
  · exact h.elim
theorem wS_ishl (hP : am_P mid = some M) (hop : M.1[pc]? = some (w_un (.ishl))) {cst : List am_E} (h : w_opG (w_Sem cst d mid Q) E rt Q (.ishl) (pc + 1) ls st σ) : w_Sem cst d mid Q pc ls st σ := by
  intro hl hst hσ
  simp only [w_opG] at h
  split at h
  · rename_i y x r
    have hy := w_vs_hd hst
    have hx := w_vs_hd (w_vs_tl hst)
    have hr := w_vs_tl (w_vs_tl hst)
    refine w_go hP hop (j := none) h ?_ hl (w_vs_cons (v := .inl (w_shl x y)) (w_wb2_in _ _ _) hr) hσ
    simp only [w_un, am_step, am_sop, List.map_cons, w_tv, Option.map_some, w_shl, w_wb2_of]
  · exact h.elim
theorem wS_ishr (hP : am_P mid = some M) (hop : M.1[pc]? = some (w_un (.ishr))) {cst : List am_E} (h : w_opG (w_Sem cst d mid Q) E rt Q (.ishr) (pc + 1) ls st σ) : w_Sem cst d mid Q pc ls st σ := by
  intro hl hst hσ
  simp only [w_opG] at h
  split at h
  · rename_i y x r
    have hy := w_vs_hd hst
    have hx := w_vs_hd (w_vs_tl hst)
    have hr := w_vs_tl (w_vs_tl hst)
    refine w_go hP hop (j := none) h ?_ hl (w_vs_cons (v := .inl (w_shr x y)) (w_wb2_in _ _ _) hr) hσ
    simp only [w_un, am_step, am_sop, List.map_cons, w_tv, Option.map_some, w_shr, w_wb2_of]
  · exact h.elim
theorem wS_iushr (hP : am_P mid = some M) (hop : M.1[pc]? = some (w_un (.iushr))) {cst : List am_E} (h : w_opG (w_Sem cst d mid Q) E rt Q (.iushr) (pc + 1) ls st σ) : w_Sem cst d mid Q pc ls st σ := by
  intro hl hst hσ
  simp only [w_opG] at h
  split at h
  · rename_i y x r
    have hy := w_vs_hd hst
    have hx := w_vs_hd (w_vs_tl hst)
    have hr := w_vs_tl (w_vs_tl hst)
    refine w_go hP hop (j := none) h ?_ hl (w_vs_cons (v := .inl (w_ushr x y)) (w_wb2_in _ _ _) hr) hσ
    simp only [w_un, am_step, am_sop, List.map_cons, w_tv, Option.map_some, w_ushr, w_wb2_of]
  · exact h.elim
theorem wS_ladd (hP : am_P mid = some M) (hop : M.1[pc]? = some (w_un (.ladd))) {cst : List am_E} (h : w_opG (w_Sem cst d mid Q) E rt Q (.ladd) (pc + 1) ls st σ) : w_Sem cst d mid Q pc ls st σ := by
  intro hl hst hσ
  simp only [w_opG] at h
  split at h
  · rename_i y x r
    have hy := w_vs_hd hst
    have hx := w_vs_hd (w_vs_tl hst)
    have hr := w_vs_tl (w_vs_tl hst)
    refine w_go hP hop (j := none) h.2 ?_ hl (w_vs_cons (v := .inr (.inl (x + y))) h.1 hr) hσ
    simp only [w_un, am_step, am_sop, List.map_cons, w_tv, Option.map_some, Int64.ofInt_add]
  · exact h.elim
theorem wS_lmul (hP : am_P mid = some M) (hop : M.1[pc]? = some (w_un (.lmul))) {cst : List am_E} (h : w_opG (w_Sem cst d mid Q) E rt Q (.lmul) (pc + 1) ls st σ) : w_Sem cst d mid Q pc ls st σ := by
  intro hl hst hσ
  simp only [w_opG] at h
  split at h
  · rename_i y x r
    have hy := w_vs_hd hst
    have hx := w_vs_hd (w_vs_tl hst)
    have hr := w_vs_tl (w_vs_tl hst)
    refine w_go hP hop (j := none) h.2 ?_ hl (w_vs_cons (v := .inr (.inl (x * y))) h.1 hr) hσ
    simp only [w_un, am_step, am_sop, List.map_cons, w_tv, Option.map_some, Int64.ofInt_mul]
  · exact h.elim
theorem wS_idiv (hP : am_P mid = some M) (hop : M.1[pc]? = some (w_un (.idiv))) {cst : List am_E} (h : w_opG (w_Sem cst d mid Q) E rt Q (.idiv) (pc + 1) ls st σ) : w_Sem cst d mid Q pc ls st σ := by
  intro hl hst hσ
  simp only [w_opG] at h
  split at h
  · rename_i y x r
    have hy := w_vs_hd hst
    have hx := w_vs_hd (w_vs_tl hst)
    have hr := w_vs_tl (w_vs_tl hst)
    have h0 : ¬ Int32.ofInt y = 0 := fun q => h.1 ((w_eq (y := 0) hy w_in0).mp q)
    refine w_go hP hop (j := none) h.2.2 ?_ hl (w_vs_cons (v := .inl (x.tdiv y)) h.2.1 hr) hσ
    simp only [w_un, am_step, am_sop, List.map_cons, w_tv, if_neg h0, Option.map_some]
    rw [w_div_of hx hy]
  · exact h.elim
theorem wS_irem (hP : am_P mid = some M) (hop : M.1[pc]? = some (w_un (.irem))) {cst : List am_E} (h : w_opG (w_Sem cst d mid Q) E rt Q (.irem) (pc + 1) ls st σ) : w_Sem cst d mid Q pc ls st σ := by
  intro hl hst hσ
  simp only [w_opG] at h
  split at h
  · rename_i y x r
    have hy := w_vs_hd hst
    have hx := w_vs_hd (w_vs_tl hst)
    have hr := w_vs_tl (w_vs_tl hst)
    have h0 : ¬ Int32.ofInt y = 0 := fun q => h.1 ((w_eq (y := 0) hy w_in0).mp q)
    refine w_go hP hop (j := none) h.2 ?_ hl (w_vs_cons (v := .inl (x.tmod y)) (w_mod_in hx hy) hr) hσ
    simp only [w_un, am_step, am_sop, List.map_cons, w_tv, if_neg h0, Option.map_some]
    rw [w_mod_of hx hy]
  · exact h.elim
theorem wS_ldiv (hP : am_P mid = some M) (hop : M.1[pc]? = some (w_un (.ldiv))) {cst : List am_E} (h : w_opG (w_Sem cst d mid Q) E rt Q (.ldiv) (pc + 1) ls st σ) : w_Sem cst d mid Q pc ls st σ := by
  intro hl hst hσ
  simp only [w_opG] at h
  split at h
  · rename_i y x r
    have hy := w_vs_hd hst
    have hx := w_vs_hd (w_vs_tl hst)
    have hr := w_vs_tl (w_vs_tl hst)
    have h0 : ¬ Int64.ofInt y = 0 := fun q => h.1 ((w_leq (y := 0) hy (w_in_l w_in0)).mp q)
    refine w_go hP hop (j := none) h.2.2 ?_ hl (w_vs_cons (v := .inr (.inl (x.tdiv y))) h.2.1 hr) hσ
    simp only [w_un, am_step, am_sop, List.map_cons, w_tv, if_neg h0, Option.map_some]
    rw [w_ldiv_of hx hy]
  · exact h.elim
theorem wS_lrem (hP : am_P mid = some M) (hop : M.1[pc]? = some (w_un (.lrem))) {cst : List am_E} (h : w_opG (w_Sem cst d mid Q) E rt Q (.lrem) (pc + 1) ls st σ) : w_Sem cst d mid Q pc ls st σ := by
  intro hl hst hσ
  simp only [w_opG] at h
  split at h
  · rename_i y x r
    have hy := w_vs_hd hst
    have hx := w_vs_hd (w_vs_tl hst)
    have hr := w_vs_tl (w_vs_tl hst)
    have h0 : ¬ Int64.ofInt y = 0 := fun q => h.1 ((w_leq (y := 0) hy (w_in_l w_in0)).mp q)
    refine w_go hP hop (j := none) h.2 ?_ hl (w_vs_cons (v := .inr (.inl (x.tmod y))) (w_lmod_in hx hy) hr) hσ
    simp only [w_un, am_step, am_sop, List.map_cons, w_tv, if_neg h0, Option.map_some]
    rw [w_lmod_of hx hy]
  · exact h.elim
theorem wS_ineg (hP : am_P mid = some M) (hop : M.1[pc]? = some (w_un (.ineg))) {cst : List am_E} (h : w_opG (w_Sem cst d mid Q) E rt Q (.ineg) (pc + 1) ls st σ) : w_Sem cst d mid Q pc ls st σ := by
  intro hl hst hσ
  simp only [w_opG] at h
  split at h
  · rename_i x r
    have hx := w_vs_hd hst
    have hr := w_vs_tl hst
    refine w_go hP hop (j := none) h.2 ?_ hl (w_vs_cons (v := .inl (-x)) h.1 hr) hσ
    simp only [w_un, am_step, am_sop, List.map_cons, w_tv, Option.map_some, Int32.ofInt_neg]
  · exact h.elim
theorem wS_i2l (hP : am_P mid = some M) (hop : M.1[pc]? = some (w_un (.i2l))) {cst : List am_E} (h : w_opG (w_Sem cst d mid Q) E rt Q (.i2l) (pc + 1) ls st σ) : w_Sem cst d mid Q pc ls st σ := by
  intro hl hst hσ
  simp only [w_opG] at h
  split at h
  · rename_i x r
    have hx := w_vs_hd hst
    have hr := w_vs_tl hst
    have e1 : (Int32.ofInt x).toInt64 = Int64.ofInt x := Int32.toInt64_ofInt (show (-2147483648 : Int) ≤ x by exact hx.1) (show x ≤ 2147483647 by exact hx.2)
    refine w_go hP hop (j := none) h ?_ hl (w_vs_cons (v := .inr (.inl x)) (w_in_l hx) hr) hσ
    simp only [w_un, am_step, am_sop, List.map_cons, w_tv, Option.map_some, e1]
  · exact h.elim
theorem wS_i2b (hP : am_P mid = some M) (hop : M.1[pc]? = some (w_un (.i2b))) {cst : List am_E} (h : w_opG (w_Sem cst d mid Q) E rt Q (.i2b) (pc + 1) ls st σ) : w_Sem cst d mid Q pc ls st σ := by
  intro hl hst hσ
  simp only [w_opG] at h
  split at h
  · rename_i x r
    have hx := w_vs_hd hst
    have hr := w_vs_tl hst
    have e1 : (Int32.ofInt x).toInt8.toInt32 = Int32.ofInt (Int.bmod x 256) := by
      rw [Int32.toInt8_ofInt, ← Int32.ofInt_int8ToInt, Int8.toInt_ofInt]
    have e2 : w_in (Int.bmod x 256) := by
      have h1 := Int.le_bmod (x := x) (m := 256) (by decide)
      have h2 := Int.bmod_lt (x := x) (m := 256) (by decide)
      unfold w_in
      omega
    refine w_go hP hop (j := none) h ?_ hl (w_vs_cons (v := .inl (Int.bmod x 256)) e2 hr) hσ
    simp only [w_un, am_step, am_sop, List.map_cons, w_tv, Option.map_some, e1]
  · exact h.elim
theorem wS_i2s (hP : am_P mid = some M) (hop : M.1[pc]? = some (w_un (.i2s))) {cst : List am_E} (h : w_opG (w_Sem cst d mid Q) E rt Q (.i2s) (pc + 1) ls st σ) : w_Sem cst d mid Q pc ls st σ := by
  intro hl hst hσ
  simp only [w_opG] at h
  split at h
  · rename_i x r
    have hx := w_vs_hd hst
    have hr := w_vs_tl hst
    have e1 : (Int32.ofInt x).toInt16.toInt32 = Int32.ofInt (Int.bmod x 65536) := by
      rw [Int32.toInt16_ofInt, ← Int32.ofInt_int16ToInt, Int16.toInt_ofInt]
    have e2 : w_in (Int.bmod x 65536) := by
      have h1 := Int.le_bmod (x := x) (m := 65536) (by decide)
      have h2 := Int.bmod_lt (x := x) (m := 65536) (by decide)
      unfold w_in
      omega
    refine w_go hP hop (j := none) h ?_ hl (w_vs_cons (v := .inl (Int.bmod x 65536)) e2 hr) hσ
    simp only [w_un, am_step, am_sop, List.map_cons, w_tv, Option.map_some, e1]
  · exact h.elim
theorem wS_i2c (hP : am_P mid = some M) (hop : M.1[pc]? = some (w_un (.i2c))) {cst : List am_E} (h : w_opG (w_Sem cst d mid Q) E rt Q (.i2c) (pc + 1) ls st σ) : w_Sem cst d mid Q pc ls st σ := by
  intro hl hst hσ
  simp only [w_opG] at h
  split at h
  · rename_i x r
    have hx := w_vs_hd hst
    have hr := w_vs_tl hst
    have e1 : ((Int32.ofInt x).toUInt32 % 65536).toInt32 = Int32.ofInt x := lg_i2c_word (by rw [w_ci hx]; exact h.1.1) (by rw [w_ci hx]; have := h.1.2; omega)
    refine w_go hP hop (j := none) h.2 ?_ hl (w_vs_cons (v := .inl x) hx hr) hσ
    simp only [w_un, am_step, am_sop, List.map_cons, w_tv, Option.map_some, e1]
  · exact h.elim
theorem wS_lcmp (hP : am_P mid = some M) (hop : M.1[pc]? = some (w_un (.lcmp))) {cst : List am_E} (h : w_opG (w_Sem cst d mid Q) E rt Q (.lcmp) (pc + 1) ls st σ) : w_Sem cst d mid Q pc ls st σ := by
  intro hl hst hσ
  simp only [w_opG] at h
  split at h
  · rename_i y x r
    have hy := w_vs_hd hst
    have hx := w_vs_hd (w_vs_tl hst)
    have hr := w_vs_tl (w_vs_tl hst)
    have e1 : lg_cmp (Int64.ofInt x) (Int64.ofInt y) = Int32.ofInt (if y < x then 1 else if x = y then 0 else -1) := by
      have a1 := w_llt hy hx
      have a2 := w_leq hx hy
      unfold lg_cmp
      by_cases c1 : y < x
      · simp [a1, c1]
      · by_cases c2 : x = y
        · simp [a1, a2, c1, c2]
        · simp [a1, a2, c1, c2]
    have e2 : w_in (if y < x then 1 else if x = y then 0 else -1) := by
      unfold w_in
      split
      · omega
      · split <;> omega
    refine w_go hP hop (j := none) h ?_ hl (w_vs_cons (v := .inl _) e2 hr) hσ
    simp only [w_un, am_step, am_sop, List.map_cons, w_tv, Option.map_some, e1]
  · exact h.elim
theorem wS_dup (hP : am_P mid = some M) (hop : M.1[pc]? = some (w_un (.dup))) {cst : List am_E} (h : w_opG (w_Sem cst d mid Q) E rt Q (.dup) (pc + 1) ls st σ) : w_Sem cst d mid Q pc ls st σ := by
  intro hl hst hσ
  simp only [w_opG] at h
  split at h
  · rename_i x r
    refine w_go hP hop (j := none) h ?_ hl (w_vs_cons (w_vs_hd hst) hst) hσ
    simp [w_un, am_step, am_sop, w_tv, Value.category]
  · rename_i x r
    refine w_go hP hop (j := none) h ?_ hl (w_vs_cons (w_vs_hd hst) hst) hσ
    simp [w_un, am_step, am_sop, w_tv, Value.category]
  · exact h.elim
theorem wS_dup2 (hP : am_P mid = some M) (hop : M.1[pc]? = some (w_un (.dup2))) {cst : List am_E} (h : w_opG (w_Sem cst d mid Q) E rt Q (.dup2) (pc + 1) ls st σ) : w_Sem cst d mid Q pc ls st σ := by
  intro hl hst hσ
  simp only [w_opG] at h
  split at h
  · rename_i x y r
    refine w_go hP hop (j := none) h ?_ hl (w_vs_cons (w_vs_hd hst) (w_vs_cons (w_vs_hd (w_vs_tl hst)) hst)) hσ
    simp [w_un, am_step, am_sop, w_tv, Value.category]
  · exact h.elim
theorem wS_pop (hP : am_P mid = some M) (hop : M.1[pc]? = some (w_un (.pop))) {cst : List am_E} (h : w_opG (w_Sem cst d mid Q) E rt Q (.pop) (pc + 1) ls st σ) : w_Sem cst d mid Q pc ls st σ := by
  intro hl hst hσ
  simp only [w_opG] at h
  split at h
  · rename_i x r
    refine w_go hP hop (j := none) h ?_ hl (w_vs_tl hst) hσ
    simp [w_un, am_step, am_sop, w_tv, Value.category]
  · rename_i x r
    refine w_go hP hop (j := none) h ?_ hl (w_vs_tl hst) hσ
    simp [w_un, am_step, am_sop, w_tv, Value.category]
  · exact h.elim
theorem wS_pop2 (hP : am_P mid = some M) (hop : M.1[pc]? = some (w_un (.pop2))) {cst : List am_E} (h : w_opG (w_Sem cst d mid Q) E rt Q (.pop2) (pc + 1) ls st σ) : w_Sem cst d mid Q pc ls st σ := by
  intro hl hst hσ
  simp only [w_opG] at h
  split at h
  · rename_i x r
    refine w_go hP hop (j := none) h ?_ hl (w_vs_tl hst) hσ
    simp [w_un, am_step, am_sop, w_tv, Value.category]
  · exact h.elim
theorem wS_iload (hP : am_P mid = some M) {i : Nat} (hop : M.1[pc]? = some (w_un (.iload i))) {cst : List am_E} (h : w_opG (w_Sem cst d mid Q) E rt Q (.iload i) (pc + 1) ls st σ) : w_Sem cst d mid Q pc ls st σ := by
  intro hl hst hσ
  simp only [w_opG] at h
  split at h
  · rename_i v hv
    refine w_go hP hop (j := none) h ?_ hl (w_vs_cons (hl i _ hv) hst) hσ
    simp [w_un, am_step, w_tl_get, hv, w_tv]
  · exact h.elim
theorem wS_lload (hP : am_P mid = some M) {i : Nat} (hop : M.1[pc]? = some (w_un (.lload i))) {cst : List am_E} (h : w_opG (w_Sem cst d mid Q) E rt Q (.lload i) (pc + 1) ls st σ) : w_Sem cst d mid Q pc ls st σ := by
  intro hl hst hσ
  simp only [w_opG] at h
  split at h
  · rename_i v hv
    refine w_go hP hop (j := none) h ?_ hl (w_vs_cons (hl i _ hv) hst) hσ
    simp [w_un, am_step, w_tl_get, hv, w_tv]
  · exact h.elim
theorem wS_aload (hP : am_P mid = some M) {i : Nat} (hop : M.1[pc]? = some (w_un (.aload i))) {cst : List am_E} (h : w_opG (w_Sem cst d mid Q) E rt Q (.aload i) (pc + 1) ls st σ) : w_Sem cst d mid Q pc ls st σ := by
  intro hl hst hσ
  simp only [w_opG] at h
  split at h
  · rename_i v hv
    refine w_go hP hop (j := none) h ?_ hl (w_vs_cons (hl i _ hv) hst) hσ
    simp [w_un, am_step, w_tl_get, hv, w_tv]
  · exact h.elim
theorem wS_istore (hP : am_P mid = some M) {i : Nat} (hop : M.1[pc]? = some (w_un (.istore i))) {cst : List am_E} (h : w_opG (w_Sem cst d mid Q) E rt Q (.istore i) (pc + 1) ls st σ) : w_Sem cst d mid Q pc ls st σ := by
  intro hl hst hσ
  simp only [w_opG] at h
  split at h
  · rename_i v r
    refine w_go hP hop (j := none) h.2.2 ?_ (w_vl_set hl (w_vs_hd hst)) (w_vs_tl hst) hσ
    have e1 : i < (w_tl ls).length := by rw [w_tl_len]; exact h.1
    rw [← w_tl_set]
    simp [w_un, am_step, w_tv, e1, w_okp_ok h.2.1]
  · exact h.elim
theorem wS_astore (hP : am_P mid = some M) {i : Nat} (hop : M.1[pc]? = some (w_un (.astore i))) {cst : List am_E} (h : w_opG (w_Sem cst d mid Q) E rt Q (.astore i) (pc + 1) ls st σ) : w_Sem cst d mid Q pc ls st σ := by
  intro hl hst hσ
  simp only [w_opG] at h
  split at h
  · rename_i v r
    refine w_go hP hop (j := none) h.2.2 ?_ (w_vl_set hl (w_vs_hd hst)) (w_vs_tl hst) hσ
    have e1 : i < (w_tl ls).length := by rw [w_tl_len]; exact h.1
    rw [← w_tl_set]
    simp [w_un, am_step, w_tv, e1, w_okp_ok h.2.1]
  · exact h.elim
theorem wS_lstore (hP : am_P mid = some M) {i : Nat} (hop : M.1[pc]? = some (w_un (.lstore i))) {cst : List am_E} (h : w_opG (w_Sem cst d mid Q) E rt Q (.lstore i) (pc + 1) ls st σ) : w_Sem cst d mid Q pc ls st σ := by
  intro hl hst hσ
  simp only [w_opG] at h
  split at h
  · rename_i v r
    refine w_go hP hop (j := none) h.2.2 ?_ (w_vl_none (w_vl_set hl (w_vs_hd hst))) (w_vs_tl hst) hσ
    have e1 : i + 1 < (w_tl ls).length := by rw [w_tl_len]; exact h.1
    rw [← w_tl_set (l := none), ← w_tl_set]
    simp [w_un, am_step, w_tv, e1, w_okp_ok h.2.1]
  · exact h.elim
theorem wS_iinc (hP : am_P mid = some M) {i : Nat} {n : Int} (hop : M.1[pc]? = some (w_un (.iinc i n))) {cst : List am_E} (h : w_opG (w_Sem cst d mid Q) E rt Q (.iinc i n) (pc + 1) ls st σ) : w_Sem cst d mid Q pc ls st σ := by
  intro hl hst hσ
  simp only [w_opG] at h
  split at h
  · rename_i v hv
    refine w_go hP hop (j := none) h.2.2 ?_ (w_vl_set hl (v := .inl (v + n)) h.2.1) hst hσ
    rw [← w_tl_set]
    simp [w_un, am_step, w_tl_get, hv, w_tv, w_okp_ok h.1, Int32.ofInt_add]
  · exact h.elim
end WS
