/-! Soundness of the second layer's instructions: each is a step of the list machine -/
/-- wrap-around arithmetic is the same instruction below -/
noncomputable def w_un (op : Instr) : Instr := match op with
  | .fadd => .iadd
  | .fsub => .isub
  | .fmul => .imul
  | o => o
/-- what a run of the list machine owes -/
noncomputable def w_Sem (cst : List am_E) (d mid : Nat) (Q : Option w_V → w_M → Prop) (pc : Nat) (ls : w_L) (st : List w_V) (σ : w_M) : Prop :=
  w_vl ls → w_vs st → w_ms σ → ∃ (n : Nat) (r : Option w_V) (σ' : w_M), am_exec am_ft am_P cst n d mid pc (w_tl ls) (st.map w_tv) (w_mem σ) = some (r.map w_tv, w_mem σ') ∧ Q r σ' ∧ w_ms σ' ∧ ∀ v, r = some v → w_vv v
set_option maxHeartbeats 4000000 in
theorem am_exec_step {cst : List am_E} {n d mid pc : Nat} {M : am_M} {op : Instr} {ls ls' : am_L} {st st' : List Value} {mem mem' : List am_E} {j : Option Nat} {R : Option Value × List am_E} (hP : am_P mid = some M) (hop : M.1[pc]? = some op) (hs : am_step am_ft cst op ls st mem = some (j, ls', st', mem'))
    (hx : am_exec am_ft am_P cst n d mid (j.getD (pc + 1)) ls' st' mem' = some R) : am_exec am_ft am_P cst (n + 1) d mid pc ls st mem = some R := by
  unfold am_exec
  rw [hP]
  simp only [hop]
  split
  · simp [am_step, am_sop] at hs
  · simp [am_step, am_sop] at hs
  · simp [am_step, am_sop] at hs
  · rw [hs]
    exact hx
section WS
variable {cst : List am_E} {d mid : Nat} {Q : Option w_V → w_M → Prop} {pc : Nat} {ls ls' : w_L} {st st' : List w_V} {σ σ' : w_M} {M : am_M} {op : Instr}
theorem w_go {j : Option Nat} (hP : am_P mid = some M) (hop : M.1[pc]? = some op) (h : w_Sem cst d mid Q (j.getD (pc + 1)) ls' st' σ') (hs : am_step am_ft cst op (w_tl ls) (st.map w_tv) (w_mem σ) = some (j, w_tl ls', st'.map w_tv, w_mem σ')) (h1 : w_vl ls') (h2 : w_vs st') (h3 : w_ms σ') :
    ∃ (n : Nat) (r : Option w_V) (σ' : w_M), am_exec am_ft am_P cst n d mid pc (w_tl ls) (st.map w_tv) (w_mem σ) = some (r.map w_tv, w_mem σ') ∧ Q r σ' ∧ w_ms σ' ∧ ∀ v, r = some v → w_vv v := by
  obtain ⟨n, r, s2, e1, e2⟩ := h h1 h2 h3
  exact ⟨n + 1, r, s2, am_exec_step hP hop hs e1, e2⟩
theorem w_vs_nil : w_vs [] := fun _ h => by cases h
theorem w_vs_cons {v : w_V} (hv : w_vv v) (h : w_vs st) : w_vs (v :: st) := fun x hx => by
  rcases List.mem_cons.mp hx with rfl | hx
  · exact hv
  · exact h x hx
theorem w_vs_tl {v : w_V} (h : w_vs (v :: st)) : w_vs st := fun x hx => h x (List.mem_cons_of_mem _ hx)
theorem w_vs_hd {v : w_V} (h : w_vs (v :: st)) : w_vv v := h v List.mem_cons_self
theorem w_tl_get {i : Nat} : (w_tl ls)[i]? = (ls[i]?).map fun l => l.map w_tv := List.getElem?_map
theorem w_tl_len : (w_tl ls).length = ls.length := List.length_map ..
theorem w_tl_set {i : Nat} {l : Option w_V} : (w_tl ls).set i (l.map w_tv) = w_tl (ls.set i l) := by unfold w_tl; rw [List.map_set]
theorem w_vl_set {i : Nat} {v : w_V} (h : w_vl ls) (hv : w_vv v) : w_vl (ls.set i (some v)) := fun k x hx => by
  rw [List.getElem?_set] at hx
  split at hx
  · split at hx
    · cases hx; exact hv
    · cases hx
  · exact h k x hx
theorem w_vl_none {i : Nat} (h : w_vl ls) : w_vl (ls.set i none) := fun k x hx => by
  rw [List.getElem?_set] at hx
  split at hx
  · split at hx <;> cases hx
  · exact h k x hx
theorem w_okp_ok {i : Nat} (h : w_okp ls i) : am_okp (w_tl ls) i = true := by
  unfold am_okp
  cases i with
  | zero => rfl
  | succ j =>
    simp only [w_okp] at h
    simp only [w_tl_get]
    cases hj : ls[j]? with
    | none => rfl
    | some l =>
      rw [hj] at h
      cases l with
      | none => rfl
      | some v =>
        match v, h with
        | .inl x, _ => rfl
        | .inr (.inr x), _ => rfl
        | .inr (.inl x), h => exact h.elim
theorem w_cs_ok : ∀ {st : List w_V}, ((st.map w_tv).map fun v => v.category).sum = w_cs st
  | [] => rfl
  | .inl _ :: r => by simp only [List.map_cons, List.sum_cons, w_cs, w_cs_ok (st := r)]; rfl
  | .inr (.inl _) :: r => by simp only [List.map_cons, List.sum_cons, w_cs, w_cs_ok (st := r)]; rfl
  | .inr (.inr _) :: r => by simp only [List.map_cons, List.sum_cons, w_cs, w_cs_ok (st := r)]; rfl
end WS
