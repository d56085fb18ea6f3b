/-! Fields, copies, calls, returns; the second layer is sound -/
theorem w_smrV {α : Type} {n j : Nat} {g g' : Nat → α} {v : α} (hj : g' j = v) (ho : ∀ i, i ≠ j → g' i = g i) : ((List.range n).map g).set j v = (List.range n).map g' := by
  apply List.ext_getElem?
  intro i
  rw [List.getElem?_set, List.length_map, List.length_range]
  by_cases hi : j = i
  · subst hi
    rw [if_pos rfl]
    by_cases hl : j < n
    · rw [if_pos hl, List.getElem?_map, List.getElem?_range hl, Option.map_some, hj]
    · rw [if_neg hl, List.getElem?_eq_none (by rw [List.length_map, List.length_range]; omega)]
  · rw [if_neg hi, List.getElem?_map, List.getElem?_map]
    by_cases hl : i < n
    · rw [List.getElem?_range hl, Option.map_some, Option.map_some, ho i (fun e => hi e.symm)]
    · rw [List.getElem?_eq_none (by rw [List.length_range]; omega)]
      rfl
theorem w_carr_len {xs : List Int} (h : xs.length ≤ 400) (a : Nat) : (w_carr xs a).length ≤ 400 := by
  unfold w_carr
  split
  · decide
  split
  · decide
  split
  · decide
  split
  · exact h
  · rw [List.getD_eq_getElem?_getD]
    cases hj : w_cbyt[(a - 1001) / 2]? with
    | none => simp
    | some l =>
      have := List.all_eq_true.mp (show (w_cbyt.all fun l => decide (l.length ≤ 400)) = true by decide) l (List.mem_of_getElem? hj)
      exact of_decide_eq_true this
theorem am_exec_fuel {cst : List am_E} : ∀ {n d mid i : Nat} {ls : am_L} {st : List Value} {mem : List am_E} {R : Option Value × List am_E}, am_exec am_ft am_P cst n d mid i ls st mem = some R → am_exec am_ft am_P cst (n + 1) d mid i ls st mem = some R := by
  intro n
  induction n with
  | zero => intro d mid i ls st mem R h; cases h
  | succ n ih =>
    intro d mid i ls st mem R h
    unfold am_exec at h ⊢
    split at h
    · cases h
    · split at h
      · cases h
      · split at h
        · exact h
        · exact h
        · split at h
          · split at h
            · rename_i hq
              rw [if_pos hq]
              split at h
              · rename_i h1
                rw [ih h1]
                exact ih h
              · cases h
            · cases h
          · cases h
        · split at h
          · exact ih h
          · cases h
theorem am_exec_fuel_le {cst : List am_E} {n m d mid i : Nat} {ls : am_L} {st : List Value} {mem : List am_E} {R : Option Value × List am_E} (hnm : n ≤ m) (h : am_exec am_ft am_P cst n d mid i ls st mem = some R) : am_exec am_ft am_P cst m d mid i ls st mem = some R := by
  obtain ⟨k, rfl⟩ := Nat.exists_eq_add_of_le hnm
  induction k with
  | zero => exact h
  | succ k ih => exact am_exec_fuel (ih (by omega))
theorem am_exec_deep {cst : List am_E} : ∀ {n d mid i : Nat} {ls : am_L} {st : List Value} {mem : List am_E} {R : Option Value × List am_E}, am_exec am_ft am_P cst n d mid i ls st mem = some R → am_exec am_ft am_P cst n (d + 1) mid i ls st mem = some R := by
  intro n
  induction n with
  | zero => intro d mid i ls st mem R h; cases h
  | succ n ih =>
    intro d mid i ls st mem R h
    unfold am_exec at h ⊢
    split at h
    · cases h
    · split at h
      · cases h
      · split at h
        · exact h
        · exact h
        · split at h
          · rename_i hPk
            split at h
            · rename_i hq
              simp only [hPk]
              rw [if_pos hq]
              split at h
              · rename_i h1
                rw [ih h1]
                exact ih h
              · cases h
            · cases h
          · cases h
        · split at h
          · exact ih h
          · cases h
theorem am_exec_deep_le {cst : List am_E} {n d d' mid i : Nat} {ls : am_L} {st : List Value} {mem : List am_E} {R : Option Value × List am_E} (hd : d ≤ d') (h : am_exec am_ft am_P cst n d mid i ls st mem = some R) : am_exec am_ft am_P cst n d' mid i ls st mem = some R := by
  obtain ⟨k, rfl⟩ := Nat.exists_eq_add_of_le hd
  induction k with
  | zero => exact h
  | succ k ih => exact am_exec_deep (ih (by omega))
theorem w_gf {mid pc f : Nat} (hm : mid < 240) (h : (am_mq mid).1[pc]? = some (.getfield f)) : (f = 2000 ∨ f = 2001) ∨ (f / 100 < 10 ∧ f % 100 < w_nf (f / 100)) := by
  obtain ⟨raw, p2, len, -, -, hc⟩ := am_site hm h
  simp only [am_chk, Bool.and_eq_true] at hc
  obtain ⟨-, hr⟩ := hc
  cases raw with
  | getfield ix =>
    simp only [Bool.and_eq_true, Bool.or_eq_true] at hr
    rcases hr.2 with h1 | h1
    · exact Or.inr (am_lf_fin h1)
    · rcases am_lsf_ok h1 with ⟨q, -⟩ | ⟨q, -⟩
      · exact Or.inl (Or.inl q)
      · exact Or.inl (Or.inr q)
  | _ => cases hr
theorem w_pf {mid pc f : Nat} (hm : mid < 240) (h : (am_mq mid).1[pc]? = some (.putfield f)) : f / 100 < 10 ∧ f % 100 < w_nf (f / 100) := by
  obtain ⟨raw, p2, len, -, -, hc⟩ := am_site hm h
  simp only [am_chk, Bool.and_eq_true] at hc
  obtain ⟨-, hr⟩ := hc
  cases raw with
  | putfield ix =>
    simp only [Bool.and_eq_true] at hr
    exact am_lf_fin hr.2
  | _ => cases hr
