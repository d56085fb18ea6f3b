/-! Facts out of the checks, in the words that the walk uses -/
noncomputable def am_cq (ci : Nat) : Bool := let C := am_clq ci
  ((List.range C.2.2).all fun k => am_wq ((am_lx.getD ci []).getD k 0) (u_lay C.1 C.2.1 k)) &&
  ((List.range C.2.2).all fun k => match (am_ft ci)[k]? with
    | some (ty, fin, v) => decide (parseFieldDescriptor (C.2.1 k).2.2.1 = some ty) && decide ((C.2.1 k).2.2.2 = fin) && decide (defaultValue ty = v)
    | none => false) &&
  decide ((am_ft ci).length = C.2.2) &&
  ((List.range C.2.2).all fun a => (List.range C.2.2).all fun b => decide (a = b) || decide ((C.2.1 a).2.1 ≠ (C.2.1 b).2.1)) &&
  am_wq (am_ly.getD ci (0, 0)).1 (.instantiable C.1 C.2.2) && am_wq (am_ly.getD ci (0, 0)).2 (.initialized C.1)
theorem am_cq_c : ((List.range 10).all am_cq) = true := by decide +kernel
theorem am_cq_all {ci : Nat} (h : ci < 10) : am_cq ci = true := List.all_eq_true.mp am_cq_c ci (List.mem_range.mpr h)
theorem am_cl_get {ci : Nat} (h : ci < 10) : am_cl[ci]? = some (am_clq ci) := by
  match ci, h with
  | 0, _ | 1, _ | 2, _ | 3, _ | 4, _ | 5, _ | 6, _ | 7, _ | 8, _ | 9, _ => rfl
  | _ + 10, h => omega
