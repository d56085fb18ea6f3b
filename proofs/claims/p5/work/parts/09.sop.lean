/-! Soundness of the list machine's single instructions -/
noncomputable def am_ez : am_E → Nat
  | .inl q => q.2.length
  | .inr (.inl q) => q.2.length
  | .inr (.inr q) => q.2.length
noncomputable def am_sz (mem : List am_E) : Nat := (mem.map am_ez).sum
theorem am_lsf_ok {o i f : Nat} (h : am_has4 am_lsf o i f = true) : (f = 2000 ∧ Cond.fieldLink (am_ownS o) i "java/lang/String" "value" "[B" ∈ am_big) ∨ (f = 2001 ∧ Cond.fieldLink (am_ownS o) i "java/lang/String" "coder" "B" ∈ am_big) := by
  obtain ⟨q, hq, he⟩ := List.any_eq_true.mp h
  simp only [Bool.and_eq_true, beq_iff_eq] at he
  obtain ⟨⟨rfl, rfl⟩, rfl⟩ := he
  unfold am_lsf at hq
  rcases List.mem_cons.mp hq with rfl | hq
  · exact Or.inr ⟨rfl, by decide +kernel⟩
  rcases List.mem_cons.mp hq with rfl | hq
  · exact Or.inl ⟨rfl, by decide +kernel⟩
  · cases hq
theorem am_lt_c : (am_lt.all fun q => am_wq q.2.2.2 (.fieldLink (am_ownS q.1) q.2.1 (am_stn q.2.2.1).1 (am_stn q.2.2.1).2.1 (am_stn q.2.2.1).2.2)) = true := by decide +kernel
theorem am_lt_ok {o i f : Nat} (h : am_has4 am_lt o i f = true) : Cond.fieldLink (am_ownS o) i (am_stn f).1 (am_stn f).2.1 (am_stn f).2.2 ∈ am_big := by
  obtain ⟨q, hq, he⟩ := List.any_eq_true.mp h
  simp only [Bool.and_eq_true, beq_iff_eq] at he
  obtain ⟨⟨rfl, rfl⟩, rfl⟩ := he
  exact am_wq_ok (List.all_eq_true.mp am_lt_c q hq)
section AMS
variable {p : Program} {l : Launch} {e : Env} {R : Room} {s : State} {m : MethodId} {args : Array Value} {below : List Frame} {meth : Method} {c : Code} {H : Heap} {locs : List Loc} {cells slots : Nat} {Q : State → Prop}
theorem am_sopW {cc : ByteArray} {pc : Nat} {ls : Array Slot} (hx : p.tables.exec = Jvm.exec) (hb : c.code = cc) {op : Instr} {st st' : List Value} (h : am_sop op st = some st') (hdg : decode cc pc = .ok (op, 1)) (f : Nat → Nat)
    (kk : W p l e R s m args below meth c H locs cells slots Q (F0 m (pc + 1) ls (st'.map (am_tv f)))) : W p l e R s m args below meth c H locs cells slots Q (F0 m pc ls (st.map (am_tv f))) := by
  cases op with
  | iadd =>
    simp only [am_sop] at h
    split at h
    · (injection h with h; subst h; exact lv_iadd hx hb hdg kk)
    · cases h
  | isub =>
    simp only [am_sop] at h
    split at h
    · (injection h with h; subst h; exact lv_isub hx hb hdg kk)
    · cases h
  | imul =>
    simp only [am_sop] at h
    split at h
    · (injection h with h; subst h; exact lv_imul hx hb hdg kk)
    · cases h
  | iand =>
    simp only [am_sop] at h
    split at h
    · (injection h with h; subst h; exact lv_iand hx hb hdg kk)
    · cases h
  | ior =>
    simp only [am_sop] at h
    split at h
    · (injection h with h; subst h; exact lv_ior hx hb hdg kk)
    · cases h
  | ixor =>
    simp only [am_sop] at h
    split at h
    · (injection h with h; subst h; exact lv_ixor hx hb hdg kk)
    · cases h
  | ishl =>
    simp only [am_sop] at h
    split at h
    · (injection h with h; subst h; exact lv_ishl hx hb hdg kk)
    · cases h
  | ishr =>
    simp only [am_sop] at h
    split at h
    · (injection h with h; subst h; exact lv_ishr hx hb hdg kk)
    · cases h
  | iushr =>
    simp only [am_sop] at h
    split at h
    · (injection h with h; subst h; exact lv_iushr hx hb hdg rfl kk)
    · cases h
  | ineg =>
    simp only [am_sop] at h
    split at h
    · (injection h with h; subst h; exact lv_ineg hx hb hdg kk)
    · cases h
  | i2l =>
    simp only [am_sop] at h
    split at h
    · (injection h with h; subst h; exact lv_i2l hx hb hdg rfl kk)
    · cases h
  | i2b =>
    simp only [am_sop] at h
    split at h
    · (injection h with h; subst h; exact lv_i2b hx hb hdg rfl kk)
    · cases h
  | i2s =>
    simp only [am_sop] at h
    split at h
    · (injection h with h; subst h; exact lv_i2s hx hb hdg rfl kk)
    · cases h
  | i2c =>
    simp only [am_sop] at h
    split at h
    · (injection h with h; subst h; exact lv_i2c hx hb hdg rfl kk)
    · cases h
  | ladd =>
    simp only [am_sop] at h
    split at h
    · (injection h with h; subst h; exact lv_ladd hx hb hdg kk)
    · cases h
  | lmul =>
    simp only [am_sop] at h
    split at h
    · (injection h with h; subst h; exact lv_lmul hx hb hdg kk)
    · cases h
  | lcmp =>
    simp only [am_sop] at h
    split at h
    · (injection h with h; subst h; exact W.lcmp hx hb hdg kk)
    · cases h
  | idiv =>
    simp only [am_sop] at h
    split at h
    · split at h
      · cases h
      · rename_i hne
        injection h with h; subst h; exact lv_idiv hx hb hdg hne kk
    · cases h
  | irem =>
    simp only [am_sop] at h
    split at h
    · split at h
      · cases h
      · rename_i hne
        injection h with h; subst h; exact lv_irem hx hb hdg hne kk
    · cases h
  | ldiv =>
    simp only [am_sop] at h
    split at h
    · split at h
      · cases h
      · rename_i hne
        injection h with h; subst h; exact lv_ldiv hx hb hdg hne kk
    · cases h
  | lrem =>
    simp only [am_sop] at h
    split at h
    · split at h
      · cases h
      · rename_i hne
        injection h with h; subst h; exact lv_lrem hx hb hdg hne kk
    · cases h
  | dup =>
    simp only [am_sop] at h
    split at h
    · split at h
      · rename_i hc
        injection h with h; subst h; exact lv_dup hx hb hdg (by rw [am_tv_cat]; exact hc) kk
      · cases h
    · cases h
  | dup2 =>
    simp only [am_sop] at h
    split at h
    · split at h
      · rename_i hc
        injection h with h; subst h; exact lv_dup2_11 hx hb hdg (by rw [am_tv_cat]; exact hc.1) (by rw [am_tv_cat]; exact hc.2) kk
      · cases h
    · cases h
  | pop =>
    simp only [am_sop] at h
    split at h
    · split at h
      · rename_i hc
        injection h with h; subst h; exact lv_pop hx hb hdg (by rw [am_tv_cat]; exact hc) kk
      · cases h
    · cases h
  | pop2 =>
    simp only [am_sop] at h
    split at h
    · split at h
      · rename_i hc
        injection h with h; subst h; exact lv_pop2_2 hx hb hdg (by rw [am_tv_cat]; exact hc) kk
      · cases h
    · cases h
  | _ => simp [am_sop] at h
end AMS
