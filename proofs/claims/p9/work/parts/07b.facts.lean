/-- final fields are put by their own class's constructors alone -/
noncomputable def am_pfq (k : Nat) : Bool := (am_mq k).1.all fun op => match op with
  | .putfield f => (!(((am_clq (f / 100)).2.1 (f % 100)).2.2.2)) || (decide ((am_infq k).1.name = "<init>") && decide (((am_clq (f / 100)).2.1 (f % 100)).1 = am_ownS (am_on.getD k 0)))
  | _ => true
theorem am_pf_c : ((List.range 240).all am_pfq) = true := by decide +kernel
theorem am_ob_w : Cond.instanceMethod Lib.objectInit ∈ am_big ∧ Cond.code Lib.objectInit ⟨#[0xb1]⟩ 1 none ∈ am_big := by
  refine ⟨by decide +kernel, am_big_at 94 ?_ (by decide +kernel)⟩
  decide +kernel
theorem am_ac_w : Cond.native arraycopyName ∈ am_big ∧ Cond.static arraycopyName ∈ am_big ∧ Cond.initialized "java/lang/System" ∈ am_big := by
  refine ⟨by decide +kernel, by decide +kernel, by decide +kernel⟩
theorem am_arr_w : Cond.arrayClass .int ∈ am_big ∧ Cond.arrayClass .byte ∈ am_big ∧ Cond.arrayClass .boolean ∈ am_big := by
  refine ⟨by decide +kernel, by decide +kernel, by decide +kernel⟩
theorem am_lf_ok {o i f : Nat} (h : am_has4 am_lf o i f = true) : am_fw o i f ∈ am_big := by
  obtain ⟨q, hq, he⟩ := List.any_eq_true.mp h
  simp only [Bool.and_eq_true, beq_iff_eq] at he
  obtain ⟨⟨rfl, rfl⟩, rfl⟩ := he
  exact am_wq_ok (List.all_eq_true.mp am_lf_c q hq)
noncomputable def am_fin (f : Nat) : Bool := decide (f / 100 < 10) && decide (f % 100 < (am_clq (f / 100)).2.2)
theorem am_lf_in : (am_lf.all fun q => am_fin q.2.2.1) = true := by decide +kernel
theorem am_lf_fin {o i f : Nat} (h : am_has4 am_lf o i f = true) : f / 100 < 10 ∧ f % 100 < (am_clq (f / 100)).2.2 := by
  obtain ⟨q, hq, he⟩ := List.any_eq_true.mp h
  simp only [Bool.and_eq_true, beq_iff_eq] at he
  obtain ⟨⟨rfl, rfl⟩, rfl⟩ := he
  have := List.all_eq_true.mp am_lf_in q hq
  simp only [am_fin, Bool.and_eq_true, decide_eq_true_eq] at this
  exact this
theorem am_ln_ok {o i f : Nat} (h : am_has4 am_ln o i f = true) : Cond.classLink (am_ownS o) i (am_clq f).1 ∈ am_big := by
  obtain ⟨q, hq, he⟩ := List.any_eq_true.mp h
  simp only [Bool.and_eq_true, beq_iff_eq] at he
  obtain ⟨⟨rfl, rfl⟩, rfl⟩ := he
  exact am_wq_ok (List.all_eq_true.mp am_ln_c q hq)
theorem am_ln_in : (am_ln.all fun q => decide (q.2.2.1 < 10)) = true := by decide +kernel
theorem am_ln_fin {o i f : Nat} (h : am_has4 am_ln o i f = true) : f < 10 := by
  obtain ⟨q, hq, he⟩ := List.any_eq_true.mp h
  simp only [Bool.and_eq_true, beq_iff_eq] at he
  obtain ⟨⟨rfl, rfl⟩, rfl⟩ := he
  exact of_decide_eq_true (List.all_eq_true.mp am_ln_in q hq)
theorem am_lc_ok {o i : Nat} {x : Int} (h : am_hasI am_lc o i x = true) : Cond.constant (am_ownS o) i (Int32.ofInt x) ∈ am_big := by
  obtain ⟨q, hq, he⟩ := List.any_eq_true.mp h
  simp only [Bool.and_eq_true, beq_iff_eq] at he
  obtain ⟨⟨rfl, rfl⟩, rfl⟩ := he
  exact am_wq_ok (List.all_eq_true.mp am_lc_c q hq)
theorem am_ll_ok {o i : Nat} {x : Int} (h : am_hasI am_ll o i x = true) : Cond.constantLong (am_ownS o) i (Int64.ofInt x) ∈ am_big := by
  obtain ⟨q, hq, he⟩ := List.any_eq_true.mp h
  simp only [Bool.and_eq_true, beq_iff_eq] at he
  obtain ⟨⟨rfl, rfl⟩, rfl⟩ := he
  exact am_wq_ok (List.all_eq_true.mp am_ll_c q hq)
theorem am_lo_ok {o i : Nat} (h : am_has3 am_lo o i = true) : Cond.methodLink (am_ownS o) i Lib.objectInit ∈ am_big := by
  obtain ⟨q, hq, he⟩ := List.any_eq_true.mp h
  simp only [Bool.and_eq_true, beq_iff_eq] at he
  obtain ⟨rfl, rfl⟩ := he
  exact am_wq_ok (List.all_eq_true.mp am_lo_c q hq)
theorem am_la_ok {o i : Nat} (h : am_has3 am_la o i = true) : Cond.methodLink (am_ownS o) i arraycopyName ∈ am_big := by
  obtain ⟨q, hq, he⟩ := List.any_eq_true.mp h
  simp only [Bool.and_eq_true, beq_iff_eq] at he
  obtain ⟨rfl, rfl⟩ := he
  exact am_wq_ok (List.all_eq_true.mp am_la_c q hq)
theorem am_lan_ok {o i : Nat} (h : am_has3 am_lan o i = true) : Cond.classLink (am_ownS o) i "MoonReapers$State" ∈ am_big := by
  obtain ⟨q, hq, he⟩ := List.any_eq_true.mp h
  simp only [Bool.and_eq_true, beq_iff_eq] at he
  obtain ⟨rfl, rfl⟩ := he
  exact am_wq_ok (List.all_eq_true.mp am_lan_c q hq)
theorem am_lma_ok {o i : Nat} (h : am_has3 am_lma o i = true) : Cond.classLink (am_ownS o) i ("[" ++ (FieldType.array .int).toString) ∈ am_big := by
  obtain ⟨q, hq, he⟩ := List.any_eq_true.mp h
  simp only [Bool.and_eq_true, beq_iff_eq] at he
  obtain ⟨rfl, rfl⟩ := he
  exact am_wq_ok (List.all_eq_true.mp am_lma_c q hq)
