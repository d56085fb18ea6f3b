/-! Facts out of the checks, in the words that the walk uses -/
noncomputable def am_cq (ci : Nat) : Bool := let C := am_clq ci
  ((List.range C.2.2).all fun k => decide (u_lay C.1 C.2.1 k ∈ am_big)) &&
  ((List.range C.2.2).all fun k => match (am_ft ci)[k]? with
    | some (ty, fin, v) => decide (parseFieldDescriptor (C.2.1 k).2.2.1 = some ty) && decide ((C.2.1 k).2.2.2 = fin) && decide (defaultValue ty = v)
    | none => false) &&
  decide ((am_ft ci).length = C.2.2) &&
  ((List.range C.2.2).all fun a => (List.range C.2.2).all fun b => decide (a = b) || decide ((C.2.1 a).2.1 ≠ (C.2.1 b).2.1)) &&
  decide (Cond.instantiable C.1 C.2.2 ∈ am_big) && decide (Cond.initialized C.1 ∈ am_big)
theorem am_cq_0 : am_cq 0 = true := by decide +kernel
theorem am_cq_1 : am_cq 1 = true := by decide +kernel
theorem am_cq_2 : am_cq 2 = true := by decide +kernel
theorem am_cq_3 : am_cq 3 = true := by decide +kernel
theorem am_cq_4 : am_cq 4 = true := by decide +kernel
theorem am_cq_5 : am_cq 5 = true := by decide +kernel
theorem am_cq_6 : am_cq 6 = true := by decide +kernel
theorem am_cq_7 : am_cq 7 = true := by decide +kernel
theorem am_cq_8 : am_cq 8 = true := by decide +kernel
theorem am_cq_9 : am_cq 9 = true := by decide +kernel
theorem am_cq_all {ci : Nat} (h : ci < 10) : am_cq ci = true := by
  match ci, h with
  | 0, _ => exact am_cq_0
  | 1, _ => exact am_cq_1
  | 2, _ => exact am_cq_2
  | 3, _ => exact am_cq_3
  | 4, _ => exact am_cq_4
  | 5, _ => exact am_cq_5
  | 6, _ => exact am_cq_6
  | 7, _ => exact am_cq_7
  | 8, _ => exact am_cq_8
  | 9, _ => exact am_cq_9
  | _ + 10, h => omega
theorem am_cl_get {ci : Nat} (h : ci < 10) : am_cl[ci]? = some (am_clq ci) := by
  match ci, h with
  | 0, _ | 1, _ | 2, _ | 3, _ | 4, _ | 5, _ | 6, _ | 7, _ | 8, _ | 9, _ => rfl
  | _ + 10, h => omega
/-- final fields are put by their own class's constructors alone -/
noncomputable def am_pfq (k : Nat) : Bool := (am_mq k).1.all fun op => match op with
  | .putfield f => (!(((am_clq (f / 100)).2.1 (f % 100)).2.2.2)) || (decide ((am_infq k).1.name = "<init>") && decide (((am_clq (f / 100)).2.1 (f % 100)).1 = am_ownS (am_on.getD k 0)))
  | _ => true
theorem am_pf_c : ((List.range 240).all am_pfq) = true := by decide +kernel
theorem am_ob_w : Cond.instanceMethod Lib.objectInit ∈ am_big ∧ Cond.code Lib.objectInit ⟨#[0xb1]⟩ 1 none ∈ am_big := by
  refine ⟨by decide +kernel, am_big_at 94 ?_ (by decide +kernel)⟩
  decide +kernel
theorem am_ac_w : Cond.native arraycopyName ∈ am_big ∧ Cond.static arraycopyName ∈ am_big ∧ Cond.initialized "java/lang/System" ∈ am_big := by
  refine ⟨by decide +kernel, by decide +kernel, by decide +kernel⟩
theorem am_arr_w : Cond.arrayClass .int ∈ am_big ∧ Cond.arrayClass .byte ∈ am_big ∧ Cond.arrayClass .boolean ∈ am_big := by
  refine ⟨by decide +kernel, by decide +kernel, by decide +kernel⟩
theorem am_lf_ok {o i f : Nat} (h : am_has4 am_lf o i f = true) : am_fw o i f ∈ am_big := by
  obtain ⟨q, hq, he⟩ := List.any_eq_true.mp h
  simp only [Bool.and_eq_true, beq_iff_eq] at he
  obtain ⟨⟨rfl, rfl⟩, rfl⟩ := he
  exact am_wq_ok (List.all_eq_true.mp am_lf_c q hq)
noncomputable def am_fin (f : Nat) : Bool := decide (f / 100 < 10) && decide (f % 100 < (am_clq (f / 100)).2.2)
theorem am_lf_in : (am_lf.all fun q => am_fin q.2.2.1) = true := by decide +kernel
theorem am_lf_fin {o i f : Nat} (h : am_has4 am_lf o i f = true) : f / 100 < 10 ∧ f % 100 < (am_clq (f / 100)).2.2 := by
  obtain ⟨q, hq, he⟩ := List.any_eq_true.mp h
  simp only [Bool.and_eq_true, beq_iff_eq] at he
  obtain ⟨⟨rfl, rfl⟩, rfl⟩ := he
  have := List.all_eq_true.mp am_lf_in q hq
  simp only [am_fin, Bool.and_eq_true, decide_eq_true_eq] at this
  exact this
theorem am_ln_ok {o i f : Nat} (h : am_has4 am_ln o i f = true) : Cond.classLink (am_ownS o) i (am_clq f).1 ∈ am_big := by
  obtain ⟨q, hq, he⟩ := List.any_eq_true.mp h
  simp only [Bool.and_eq_true, beq_iff_eq] at he
  obtain ⟨⟨rfl, rfl⟩, rfl⟩ := he
  exact am_wq_ok (List.all_eq_true.mp am_ln_c q hq)
theorem am_ln_in : (am_ln.all fun q => decide (q.2.2.1 < 10)) = true := by decide +kernel
theorem am_ln_fin {o i f : Nat} (h : am_has4 am_ln o i f = true) : f < 10 := by
  obtain ⟨q, hq, he⟩ := List.any_eq_true.mp h
  simp only [Bool.and_eq_true, beq_iff_eq] at he
  obtain ⟨⟨rfl, rfl⟩, rfl⟩ := he
  exact of_decide_eq_true (List.all_eq_true.mp am_ln_in q hq)
theorem am_lc_ok {o i : Nat} {x : Int} (h : am_hasI am_lc o i x = true) : Cond.constant (am_ownS o) i (Int32.ofInt x) ∈ am_big := by
  obtain ⟨q, hq, he⟩ := List.any_eq_true.mp h
  simp only [Bool.and_eq_true, beq_iff_eq] at he
  obtain ⟨⟨rfl, rfl⟩, rfl⟩ := he
  exact am_wq_ok (List.all_eq_true.mp am_lc_c q hq)
theorem am_ll_ok {o i : Nat} {x : Int} (h : am_hasI am_ll o i x = true) : Cond.constantLong (am_ownS o) i (Int64.ofInt x) ∈ am_big := by
  obtain ⟨q, hq, he⟩ := List.any_eq_true.mp h
  simp only [Bool.and_eq_true, beq_iff_eq] at he
  obtain ⟨⟨rfl, rfl⟩, rfl⟩ := he
  exact am_wq_ok (List.all_eq_true.mp am_ll_c q hq)
theorem am_lo_ok {o i : Nat} (h : am_has3 am_lo o i = true) : Cond.methodLink (am_ownS o) i Lib.objectInit ∈ am_big := by
  obtain ⟨q, hq, he⟩ := List.any_eq_true.mp h
  simp only [Bool.and_eq_true, beq_iff_eq] at he
  obtain ⟨rfl, rfl⟩ := he
  exact am_wq_ok (List.all_eq_true.mp am_lo_c q hq)
theorem am_la_ok {o i : Nat} (h : am_has3 am_la o i = true) : Cond.methodLink (am_ownS o) i arraycopyName ∈ am_big := by
  obtain ⟨q, hq, he⟩ := List.any_eq_true.mp h
  simp only [Bool.and_eq_true, beq_iff_eq] at he
  obtain ⟨rfl, rfl⟩ := he
  exact am_wq_ok (List.all_eq_true.mp am_la_c q hq)
theorem am_lan_ok {o i : Nat} (h : am_has3 am_lan o i = true) : Cond.classLink (am_ownS o) i "MoonReapers$State" ∈ am_big := by
  obtain ⟨q, hq, he⟩ := List.any_eq_true.mp h
  simp only [Bool.and_eq_true, beq_iff_eq] at he
  obtain ⟨rfl, rfl⟩ := he
  exact am_wq_ok (List.all_eq_true.mp am_lan_c q hq)
theorem am_lma_ok {o i : Nat} (h : am_has3 am_lma o i = true) : Cond.classLink (am_ownS o) i ("[" ++ (FieldType.array .int).toString) ∈ am_big := by
  obtain ⟨q, hq, he⟩ := List.any_eq_true.mp h
  simp only [Bool.and_eq_true, beq_iff_eq] at he
  obtain ⟨rfl, rfl⟩ := he
  exact am_wq_ok (List.all_eq_true.mp am_lma_c q hq)
