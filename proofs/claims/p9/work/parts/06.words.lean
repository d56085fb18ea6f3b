noncomputable def am_wq (i : Nat) (w : Cond) : Bool := decide (lw_tbl[i]? = some w) && goodWord w
theorem am_wq_ok {i : Nat} {w : Cond} (h : am_wq i w = true) : w ∈ am_big := by
  unfold am_wq at h
  rw [Bool.and_eq_true, decide_eq_true_eq] at h
  exact am_big_at i h.1 h.2
noncomputable def am_fw (o i f : Nat) : Cond := .fieldLink (am_ownS o) i ((am_clq (f / 100)).2.1 (f % 100)).1 ((am_clq (f / 100)).2.1 (f % 100)).2.1 ((am_clq (f / 100)).2.1 (f % 100)).2.2.1
theorem am_wq_mk {i : Nat} {w : Cond} (h : lw_tbl[i]? = some w) (g : goodWord w = true) : am_wq i w = true := by
  unfold am_wq
  rw [decide_eq_true h, g]
  rfl
theorem am_allx {α : Type} {l : List α} (i : α → Nat) (f : α → Cond) (hs : am_srt 0 (l.map i) = true) (h : am_pk 0 (l.map i) lw_tbl = l.map fun q => some (f q)) : ∀ q ∈ l, lw_tbl[i q]? = some (f q) := by
  have := (am_pkok (T := lw_tbl) (l.map i) 0 hs).symm.trans h
  rw [List.map_map] at this
  exact List.map_inj_left.mp this
set_option maxRecDepth 100000 in
theorem am_lf_r : am_pk 0 (am_lf.map fun q => q.2.2.2) lw_tbl = am_lf.map fun q => some (am_fw q.1 q.2.1 q.2.2.1) := rfl
theorem am_lf_c : (am_lf.all fun q => am_wq q.2.2.2 (am_fw q.1 q.2.1 q.2.2.1)) = true :=
  List.all_eq_true.mpr fun q hq => am_wq_mk (am_allx (fun q => q.2.2.2) (fun q => am_fw q.1 q.2.1 q.2.2.1) (by decide +kernel) am_lf_r q hq) rfl
/-- a nest mate's method: its word isn't among the good ones, it goes its own way -/
noncomputable def am_nw (q : Nat × Nat × Nat × Nat × Nat) : Cond := .methodLinkNest (am_ownS q.1) q.2.1 (am_infq q.2.2.1).1 "MoonReapers"
noncomputable def am_lw (q : Nat × Nat × Nat × Nat × Nat) : Cond := bif Nat.ble 3 q.2.2.2.1 then am_nw q else .methodLink (am_ownS q.1) q.2.1 (am_infq q.2.2.1).1
set_option maxRecDepth 100000 in
theorem am_lm_r : am_pk 0 (am_lm.map fun q => q.2.2.2.2) lw_tbl = am_lm.map fun q => some (am_lw q) := rfl
theorem am_lm_x : ∀ q ∈ am_lm, lw_tbl[q.2.2.2.2]? = some (am_lw q) := am_allx (fun q => q.2.2.2.2) am_lw (by decide +kernel) am_lm_r
theorem am_lm_c : (am_lm.all fun q => decide (3 ≤ q.2.2.2.1) || am_wq q.2.2.2.2 (.methodLink (am_ownS q.1) q.2.1 (am_infq q.2.2.1).1)) = true :=
  List.all_eq_true.mpr fun q hq => by
    have h := am_lm_x q hq
    by_cases h3 : 3 ≤ q.2.2.2.1
    · rw [decide_eq_true h3]
      rfl
    · have e : Nat.ble 3 q.2.2.2.1 = false := by
        cases e : Nat.ble 3 q.2.2.2.1 with
        | false => rfl
        | true => exact absurd (Nat.le_of_ble_eq_true e) h3
      unfold am_lw at h
      rw [e] at h
      rw [am_wq_mk (w := .methodLink (am_ownS q.1) q.2.1 (am_infq q.2.2.1).1) h rfl, Bool.or_true]
theorem am_lx_c : (am_lm.all fun q => decide (q.2.2.2.1 < 3) || decide (lw_tbl[q.2.2.2.2]? = some (am_nw q))) = true :=
  List.all_eq_true.mpr fun q hq => by
    have h := am_lm_x q hq
    by_cases h3 : q.2.2.2.1 < 3
    · rw [decide_eq_true h3]
      rfl
    · unfold am_lw at h
      rw [Nat.ble_eq_true_of_le (show 3 ≤ q.2.2.2.1 by omega)] at h
      rw [decide_eq_true (show lw_tbl[q.2.2.2.2]? = some (am_nw q) from h), Bool.or_true]
theorem am_ln_c : (am_ln.all fun q => am_wq q.2.2.2 (.classLink (am_ownS q.1) q.2.1 (am_clq q.2.2.1).1)) = true := by decide +kernel
theorem am_lc_c : (am_lc.all fun q => am_wq q.2.2.2 (.constant (am_ownS q.1) q.2.1 (Int32.ofInt q.2.2.1))) = true := by decide +kernel
theorem am_ll_c : (am_ll.all fun q => am_wq q.2.2.2 (.constantLong (am_ownS q.1) q.2.1 (Int64.ofInt q.2.2.1))) = true := by decide +kernel
theorem am_lo_c : (am_lo.all fun q => am_wq q.2.2 (.methodLink (am_ownS q.1) q.2.1 Lib.objectInit)) = true := by decide +kernel
theorem am_la_c : (am_la.all fun q => am_wq q.2.2 (.methodLink (am_ownS q.1) q.2.1 arraycopyName)) = true := by decide +kernel
noncomputable def ck_yS : MethodName := ⟨"java/lang/String", "checkIndex", "(II)V"⟩
theorem am_lck_c : (am_lck.all fun q => am_wq q.2.2 (.methodLink (am_ownS q.1) q.2.1 ck_yS)) = true := by decide +kernel
theorem am_lan_c : (am_lan.all fun q => am_wq q.2.2 (.classLink (am_ownS q.1) q.2.1 "MoonReapers$State")) = true := by decide +kernel
theorem am_lma_c : (am_lma.all fun q => am_wq q.2.2 (.classLink (am_ownS q.1) q.2.1 ("[" ++ (FieldType.array .int).toString))) = true := by decide +kernel
