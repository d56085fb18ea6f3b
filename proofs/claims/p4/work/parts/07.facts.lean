/-! Facts out of the checks, in the words that the walk uses -/
noncomputable def am_cq (ci : Nat) : Bool := let C := am_clq ci
  ((List.range C.2.2).all fun k => decide (u_lay C.1 C.2.1 k ∈ am_big)) &&
  ((List.range C.2.2).all fun k => match (am_ft ci)[k]? with
    | some (ty, fin, v) => decide (parseFieldDescriptor (C.2.1 k).2.2.1 = some ty) && decide ((C.2.1 k).2.2.2 = fin) && decide (defaultValue ty = v)
    | none => false) &&
  decide ((am_ft ci).length = C.2.2) &&
  ((List.range C.2.2).all fun a => (List.range C.2.2).all fun b => decide (a = b) || decide ((C.2.1 a).2.1 ≠ (C.2.1 b).2.1)) &&
  decide (Cond.instantiable C.1 C.2.2 ∈ am_big) && decide (Cond.initialized C.1 ∈ am_big)
theorem am_cq_0 : am_cq 0 = true := by decide +kernel
theorem am_cq_1 : am_cq 1 = true := by decide +kernel
theorem am_cq_2 : am_cq 2 = true := by decide +kernel
theorem am_cq_3 : am_cq 3 = true := by decide +kernel
theorem am_cq_4 : am_cq 4 = true := by decide +kernel
theorem am_cq_5 : am_cq 5 = true := by decide +kernel
theorem am_cq_6 : am_cq 6 = true := by decide +kernel
theorem am_cq_7 : am_cq 7 = true := by decide +kernel
theorem am_cq_8 : am_cq 8 = true := by decide +kernel
theorem am_cq_9 : am_cq 9 = true := by decide +kernel
theorem am_cq_all {ci : Nat} (h : ci < 10) : am_cq ci = true := by
  match ci, h with
  | 0, _ => exact am_cq_0
  | 1, _ => exact am_cq_1
  | 2, _ => exact am_cq_2
  | 3, _ => exact am_cq_3
  | 4, _ => exact am_cq_4
  | 5, _ => exact am_cq_5
  | 6, _ => exact am_cq_6
  | 7, _ => exact am_cq_7
  | 8, _ => exact am_cq_8
  | 9, _ => exact am_cq_9
  | _ + 10, h => omega
theorem am_cl_get {ci : Nat} (h : ci < 10) : am_cl[ci]? = some (am_clq ci) := by
  match ci, h with
  | 0, _ | 1, _ | 2, _ | 3, _ | 4, _ | 5, _ | 6, _ | 7, _ | 8, _ | 9, _ => rfl
  | _ + 10, h => omega
