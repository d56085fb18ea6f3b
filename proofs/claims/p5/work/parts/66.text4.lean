/-! The class takes lines, and all of the text -/
noncomputable def p_Field_addStrip (a : Nat) (_ _ : Int) (σ : w_M) : Prop := 0 ≤ σ a 4 ∧ σ a 4 < 7
noncomputable def q_Field_addStrip (a : Nat) (y o : Int) (σ σ' : w_M) : Prop := σ' = w_up (w_up (w_up σ (a + 1) (σ a 4).toNat y) (a + 2) (σ a 4).toNat o) a 4 (σ a 4 + 1)
theorem fField_addStrip_0 : w_fe am_c31 0 1 (.aload 0) := ⟨rfl, rfl⟩
theorem fField_addStrip_1 : w_fe am_c31 1 2 (.getfield 204) := ⟨rfl, rfl⟩
theorem fField_addStrip_2 : w_fe am_c31 2 3 (.bipush 7) := ⟨rfl, rfl⟩
theorem fField_addStrip_3 : w_ic am_c31 3 4 .ge 22 := ⟨rfl, rfl⟩
theorem fField_addStrip_4 : w_fe am_c31 4 5 (.aload 0) := ⟨rfl, rfl⟩
theorem fField_addStrip_5 : w_fe am_c31 5 6 (.getfield 207) := ⟨rfl, rfl⟩
theorem fField_addStrip_6 : w_fe am_c31 6 7 (.aload 0) := ⟨rfl, rfl⟩
theorem fField_addStrip_7 : w_fe am_c31 7 8 (.getfield 204) := ⟨rfl, rfl⟩
theorem fField_addStrip_8 : w_fe am_c31 8 9 (.iload 1) := ⟨rfl, rfl⟩
theorem fField_addStrip_9 : w_fe am_c31 9 10 (.iastore) := ⟨rfl, rfl⟩
theorem fField_addStrip_10 : w_fe am_c31 10 11 (.aload 0) := ⟨rfl, rfl⟩
theorem fField_addStrip_11 : w_fe am_c31 11 12 (.getfield 208) := ⟨rfl, rfl⟩
theorem fField_addStrip_12 : w_fe am_c31 12 13 (.aload 0) := ⟨rfl, rfl⟩
theorem fField_addStrip_13 : w_fe am_c31 13 14 (.getfield 204) := ⟨rfl, rfl⟩
theorem fField_addStrip_14 : w_fe am_c31 14 15 (.iload 2) := ⟨rfl, rfl⟩
theorem fField_addStrip_15 : w_fe am_c31 15 16 (.iastore) := ⟨rfl, rfl⟩
theorem fField_addStrip_16 : w_fe am_c31 16 17 (.aload 0) := ⟨rfl, rfl⟩
theorem fField_addStrip_17 : w_fe am_c31 17 18 (.dup) := ⟨rfl, rfl⟩
theorem fField_addStrip_18 : w_fe am_c31 18 19 (.getfield 204) := ⟨rfl, rfl⟩
theorem fField_addStrip_19 : w_fe am_c31 19 20 (.bipush 1) := ⟨rfl, rfl⟩
theorem fField_addStrip_20 : w_fe am_c31 20 21 (.iadd) := ⟨rfl, rfl⟩
theorem fField_addStrip_21 : w_fe am_c31 21 22 (.putfield 204) := ⟨rfl, rfl⟩
theorem fField_addStrip_22 : w_fe am_c31 22 23 (.return_) := ⟨rfl, rfl⟩
set_option maxRecDepth 20000 in
theorem bField_addStrip_0 {xs : List Int} {d : Nat} {Q : Option w_V → w_M → Prop} {a : Nat} {x1 : Int} {x2 : Int} {σ : w_M}
    (h : (7 ≤ (σ a 4) → Q none σ) ∧ ((σ a 4) < 7 → (0 ≤ (σ a 4) ∧ (∀ (τ1 : w_M), τ1 = w_up σ (a + 1) (σ a 4).toNat x1 → (0 ≤ (τ1 a 4) ∧ (τ1 a 4) < 7 ∧ (∀ (τ2 : w_M), τ2 = w_up τ1 (a + 2) (τ1 a 4).toNat x2 → (w_in ((τ2 a 4) + 1) ∧ (∀ (τ3 : w_M), τ3 = w_up τ2 a 4 ((τ2 a 4) + 1) → Q none τ3)))))))) : w_Call (xs, d) 31 [.inr (.inr (2, a)), .inl x1, .inl x2] σ Q :=
  (w_mk (mid := 31) (by decide) rfl rfl rfl rfl rfl (Nat.le_of_ble_eq_true rfl) ⟨rfl, Or.inl (by decide)⟩ (wi_aload0 fField_addStrip_0 (wi_getf204 fField_addStrip_1 (wi_bipush fField_addStrip_2 (wi_ic_ge fField_addStrip_3 (fun c4 => (wi_ret0 fField_addStrip_22 (h.1 c4))) (fun c4 => (wi_aload0 fField_addStrip_4 (wi_getf207 fField_addStrip_5 (wi_aload0 fField_addStrip_6 (wi_getf204 fField_addStrip_7 (wi_iload1 fField_addStrip_8 (wi_iast1007 fField_addStrip_9 (h.2 c4).1 c4 (wi_aload0 fField_addStrip_10 (wi_getf208 fField_addStrip_11 (wi_aload0 fField_addStrip_12 (wi_getf204 fField_addStrip_13 (wi_iload2 fField_addStrip_14 (wi_iast1007 fField_addStrip_15 ((h.2 c4).2 _ rfl).1 ((h.2 c4).2 _ rfl).2.1 (wi_aload0 fField_addStrip_16 (wi_dup_a fField_addStrip_17 (wi_getf204 fField_addStrip_18 (wi_bipush fField_addStrip_19 (wi_iadd fField_addStrip_20 (((h.2 c4).2 _ rfl).2.2 _ rfl).1 (wi_putf204 fField_addStrip_21 (wi_ret0 fField_addStrip_22 ((((h.2 c4).2 _ rfl).2.2 _ rfl).2 _ rfl))))))))))))))))))))))))))
theorem k_Field_addStrip {xs : List Int} {d : Nat} {Q : Option w_V → w_M → Prop} {a : Nat} {x1 : Int} {x2 : Int} {σ : w_M} (hp : p_Field_addStrip a x1 x2 σ) (hQ : ∀ σ' : w_M, q_Field_addStrip a x1 x2 σ σ' → Q none σ') : w_Call (xs, d) 31 [.inr (.inr (2, a)), .inl x1, .inl x2] σ Q := by
  have h : 0 ≤ σ a 4 ∧ σ a 4 < 7 := hp
  refine bField_addStrip_0 ⟨fun c => by omega, fun _ => ⟨h.1, fun τ1 t1 => ?_⟩⟩
  have e1 : τ1 a 4 = σ a 4 := by rw [t1, w_up_ne (by omega)]
  refine ⟨by omega, by omega, fun τ2 t2 => ?_⟩
  have e2 : τ2 a 4 = σ a 4 := by rw [t2, w_up_ne (by omega)]; exact e1
  refine ⟨⟨by omega, by omega⟩, fun τ3 t3 => hQ _ ?_⟩
  unfold q_Field_addStrip
  rw [t3, e2, t2, e1, t1]
noncomputable def p_Field_addReaper (a : Nat) (_ _ _ : Int) (σ : w_M) : Prop := 0 ≤ σ a 5 ∧ σ a 5 < 4
noncomputable def q_Field_addReaper (a : Nat) (p v i : Int) (σ σ' : w_M) : Prop := σ' = w_up (w_up (w_up (w_up (w_up (w_up σ (a + 3) (σ a 5).toNat p) (a + 4) (σ a 5).toNat v) (a + 5) (σ a 5).toNat 3) (a + 6) (σ a 5).toNat i) (a + 7) (σ a 5).toNat 0) a 5 (σ a 5 + 1)
theorem fField_addReaper_0 : w_fe am_c32 0 1 (.aload 0) := ⟨rfl, rfl⟩
theorem fField_addReaper_1 : w_fe am_c32 1 2 (.getfield 205) := ⟨rfl, rfl⟩
theorem fField_addReaper_2 : w_fe am_c32 2 3 (.bipush 4) := ⟨rfl, rfl⟩
theorem fField_addReaper_3 : w_ic am_c32 3 4 .ge 40 := ⟨rfl, rfl⟩
theorem fField_addReaper_4 : w_fe am_c32 4 5 (.aload 0) := ⟨rfl, rfl⟩
theorem fField_addReaper_5 : w_fe am_c32 5 6 (.getfield 209) := ⟨rfl, rfl⟩
theorem fField_addReaper_6 : w_fe am_c32 6 7 (.aload 0) := ⟨rfl, rfl⟩
theorem fField_addReaper_7 : w_fe am_c32 7 8 (.getfield 205) := ⟨rfl, rfl⟩
theorem fField_addReaper_8 : w_fe am_c32 8 9 (.iload 1) := ⟨rfl, rfl⟩
theorem fField_addReaper_9 : w_fe am_c32 9 10 (.iastore) := ⟨rfl, rfl⟩
theorem fField_addReaper_10 : w_fe am_c32 10 11 (.aload 0) := ⟨rfl, rfl⟩
theorem fField_addReaper_11 : w_fe am_c32 11 12 (.getfield 210) := ⟨rfl, rfl⟩
theorem fField_addReaper_12 : w_fe am_c32 12 13 (.aload 0) := ⟨rfl, rfl⟩
theorem fField_addReaper_13 : w_fe am_c32 13 14 (.getfield 205) := ⟨rfl, rfl⟩
theorem fField_addReaper_14 : w_fe am_c32 14 15 (.iload 2) := ⟨rfl, rfl⟩
theorem fField_addReaper_15 : w_fe am_c32 15 16 (.iastore) := ⟨rfl, rfl⟩
theorem fField_addReaper_16 : w_fe am_c32 16 17 (.aload 0) := ⟨rfl, rfl⟩
theorem fField_addReaper_17 : w_fe am_c32 17 18 (.getfield 211) := ⟨rfl, rfl⟩
theorem fField_addReaper_18 : w_fe am_c32 18 19 (.aload 0) := ⟨rfl, rfl⟩
theorem fField_addReaper_19 : w_fe am_c32 19 20 (.getfield 205) := ⟨rfl, rfl⟩
theorem fField_addReaper_20 : w_fe am_c32 20 21 (.bipush 3) := ⟨rfl, rfl⟩
theorem fField_addReaper_21 : w_fe am_c32 21 22 (.iastore) := ⟨rfl, rfl⟩
theorem fField_addReaper_22 : w_fe am_c32 22 23 (.aload 0) := ⟨rfl, rfl⟩
theorem fField_addReaper_23 : w_fe am_c32 23 24 (.getfield 212) := ⟨rfl, rfl⟩
theorem fField_addReaper_24 : w_fe am_c32 24 25 (.aload 0) := ⟨rfl, rfl⟩
theorem fField_addReaper_25 : w_fe am_c32 25 26 (.getfield 205) := ⟨rfl, rfl⟩
theorem fField_addReaper_26 : w_fe am_c32 26 27 (.iload 3) := ⟨rfl, rfl⟩
theorem fField_addReaper_27 : w_fe am_c32 27 28 (.iastore) := ⟨rfl, rfl⟩
theorem fField_addReaper_28 : w_fe am_c32 28 29 (.aload 0) := ⟨rfl, rfl⟩
theorem fField_addReaper_29 : w_fe am_c32 29 30 (.getfield 213) := ⟨rfl, rfl⟩
theorem fField_addReaper_30 : w_fe am_c32 30 31 (.aload 0) := ⟨rfl, rfl⟩
theorem fField_addReaper_31 : w_fe am_c32 31 32 (.getfield 205) := ⟨rfl, rfl⟩
theorem fField_addReaper_32 : w_fe am_c32 32 33 (.bipush 0) := ⟨rfl, rfl⟩
theorem fField_addReaper_33 : w_fe am_c32 33 34 (.iastore) := ⟨rfl, rfl⟩
theorem fField_addReaper_34 : w_fe am_c32 34 35 (.aload 0) := ⟨rfl, rfl⟩
theorem fField_addReaper_35 : w_fe am_c32 35 36 (.dup) := ⟨rfl, rfl⟩
theorem fField_addReaper_36 : w_fe am_c32 36 37 (.getfield 205) := ⟨rfl, rfl⟩
theorem fField_addReaper_37 : w_fe am_c32 37 38 (.bipush 1) := ⟨rfl, rfl⟩
theorem fField_addReaper_38 : w_fe am_c32 38 39 (.iadd) := ⟨rfl, rfl⟩
theorem fField_addReaper_39 : w_fe am_c32 39 40 (.putfield 205) := ⟨rfl, rfl⟩
theorem fField_addReaper_40 : w_fe am_c32 40 41 (.return_) := ⟨rfl, rfl⟩
set_option maxRecDepth 20000 in
theorem bField_addReaper_0 {xs : List Int} {d : Nat} {Q : Option w_V → w_M → Prop} {a : Nat} {x1 : Int} {x2 : Int} {x3 : Int} {σ : w_M}
    (h : (4 ≤ (σ a 5) → Q none σ) ∧ ((σ a 5) < 4 → (0 ≤ (σ a 5) ∧ (∀ (τ1 : w_M), τ1 = w_up σ (a + 3) (σ a 5).toNat x1 → (0 ≤ (τ1 a 5) ∧ (τ1 a 5) < 4 ∧ (∀ (τ2 : w_M), τ2 = w_up τ1 (a + 4) (τ1 a 5).toNat x2 → (0 ≤ (τ2 a 5) ∧ (τ2 a 5) < 4 ∧ (∀ (τ3 : w_M), τ3 = w_up τ2 (a + 5) (τ2 a 5).toNat 3 → (0 ≤ (τ3 a 5) ∧ (τ3 a 5) < 4 ∧ (∀ (τ4 : w_M), τ4 = w_up τ3 (a + 6) (τ3 a 5).toNat x3 → (0 ≤ (τ4 a 5) ∧ (τ4 a 5) < 4 ∧ (∀ (τ5 : w_M), τ5 = w_up τ4 (a + 7) (τ4 a 5).toNat 0 → (w_in ((τ5 a 5) + 1) ∧ (∀ (τ6 : w_M), τ6 = w_up τ5 a 5 ((τ5 a 5) + 1) → Q none τ6)))))))))))))) : w_Call (xs, d) 32 [.inr (.inr (2, a)), .inl x1, .inl x2, .inl x3] σ Q :=
  (w_mk (mid := 32) (by decide) rfl rfl rfl rfl rfl (Nat.le_of_ble_eq_true rfl) ⟨rfl, Or.inl (by decide)⟩ (wi_aload0 fField_addReaper_0 (wi_getf205 fField_addReaper_1 (wi_bipush fField_addReaper_2 (wi_ic_ge fField_addReaper_3 (fun c7 => (wi_ret0 fField_addReaper_40 (h.1 c7))) (fun c7 => (wi_aload0 fField_addReaper_4 (wi_getf209 fField_addReaper_5 (wi_aload0 fField_addReaper_6 (wi_getf205 fField_addReaper_7 (wi_iload1 fField_addReaper_8 (wi_iast1004 fField_addReaper_9 (h.2 c7).1 c7 (wi_aload0 fField_addReaper_10 (wi_getf210 fField_addReaper_11 (wi_aload0 fField_addReaper_12 (wi_getf205 fField_addReaper_13 (wi_iload2 fField_addReaper_14 (wi_iast1004 fField_addReaper_15 ((h.2 c7).2 _ rfl).1 ((h.2 c7).2 _ rfl).2.1 (wi_aload0 fField_addReaper_16 (wi_getf211 fField_addReaper_17 (wi_aload0 fField_addReaper_18 (wi_getf205 fField_addReaper_19 (wi_bipush fField_addReaper_20 (wi_iast1004 fField_addReaper_21 (((h.2 c7).2 _ rfl).2.2 _ rfl).1 (((h.2 c7).2 _ rfl).2.2 _ rfl).2.1 (wi_aload0 fField_addReaper_22 (wi_getf212 fField_addReaper_23 (wi_aload0 fField_addReaper_24 (wi_getf205 fField_addReaper_25 (wi_iload3 fField_addReaper_26 (wi_iast1004 fField_addReaper_27 ((((h.2 c7).2 _ rfl).2.2 _ rfl).2.2 _ rfl).1 ((((h.2 c7).2 _ rfl).2.2 _ rfl).2.2 _ rfl).2.1 (wi_aload0 fField_addReaper_28 (wi_getf213 fField_addReaper_29 (wi_aload0 fField_addReaper_30 (wi_getf205 fField_addReaper_31 (wi_bipush fField_addReaper_32 (wi_iast1004 fField_addReaper_33 (((((h.2 c7).2 _ rfl).2.2 _ rfl).2.2 _ rfl).2.2 _ rfl).1 (((((h.2 c7).2 _ rfl).2.2 _ rfl).2.2 _ rfl).2.2 _ rfl).2.1 (wi_aload0 fField_addReaper_34 (wi_dup_a fField_addReaper_35 (wi_getf205 fField_addReaper_36 (wi_bipush fField_addReaper_37 (wi_iadd fField_addReaper_38 ((((((h.2 c7).2 _ rfl).2.2 _ rfl).2.2 _ rfl).2.2 _ rfl).2.2 _ rfl).1 (wi_putf205 fField_addReaper_39 (wi_ret0 fField_addReaper_40 (((((((h.2 c7).2 _ rfl).2.2 _ rfl).2.2 _ rfl).2.2 _ rfl).2.2 _ rfl).2 _ rfl))))))))))))))))))))))))))))))))))))))))))))
theorem k_Field_addReaper {xs : List Int} {d : Nat} {Q : Option w_V → w_M → Prop} {a : Nat} {x1 : Int} {x2 : Int} {x3 : Int} {σ : w_M} (hp : p_Field_addReaper a x1 x2 x3 σ) (hQ : ∀ σ' : w_M, q_Field_addReaper a x1 x2 x3 σ σ' → Q none σ') : w_Call (xs, d) 32 [.inr (.inr (2, a)), .inl x1, .inl x2, .inl x3] σ Q := by
  have h : 0 ≤ σ a 5 ∧ σ a 5 < 4 := hp
  refine bField_addReaper_0 ⟨fun c => by omega, fun _ => ⟨h.1, fun τ1 t1 => ?_⟩⟩
  have e1 : τ1 a 5 = σ a 5 := by rw [t1, w_up_ne (by omega)]
  refine ⟨by omega, by omega, fun τ2 t2 => ?_⟩
  have e2 : τ2 a 5 = σ a 5 := by rw [t2, w_up_ne (by omega)]; exact e1
  refine ⟨by omega, by omega, fun τ3 t3 => ?_⟩
  have e3 : τ3 a 5 = σ a 5 := by rw [t3, w_up_ne (by omega)]; exact e2
  refine ⟨by omega, by omega, fun τ4 t4 => ?_⟩
  have e4 : τ4 a 5 = σ a 5 := by rw [t4, w_up_ne (by omega)]; exact e3
  refine ⟨by omega, by omega, fun τ5 t5 => ?_⟩
  have e5 : τ5 a 5 = σ a 5 := by rw [t5, w_up_ne (by omega)]; exact e4
  refine ⟨⟨by omega, by omega⟩, fun τ6 t6 => hQ _ ?_⟩
  unfold q_Field_addReaper
  rw [t6, e5, t5, e4, t4, e3, t3, e2, t2, e1, t1]
theorem d_ab_0 {σ : w_M} {i : Nat} : d_ab σ 0 i = if i = 0 then σ 3 0 else if i = 2 then σ 3 2 else if i = 4 then σ 3 4 else if i = 5 then σ 3 5 else if i = 6 then σ 3 6 else if i = 7 then σ 1 5 else 0 := rfl
theorem d_ab_12 {σ : w_M} {d i : Nat} (h1 : 1 ≤ d) (h2 : d ≤ 2) : d_ab σ d i = if i < (σ 3 4).toNat then σ (3 + d) i else 0 := by unfold d_ab; rw [if_neg (by omega), if_pos h2]
theorem d_ab_346 {σ : w_M} {d i : Nat} (h : d = 3 ∨ d = 4 ∨ d = 6) : d_ab σ d i = if i < (σ 3 5).toNat then σ (3 + d) i else 0 := by unfold d_ab; rw [if_neg (by omega), if_neg (by omega), if_pos h]
theorem d_ab_no {σ : w_M} {d i : Nat} (h : d = 5 ∨ 7 ≤ d) : d_ab σ d i = 0 := by unfold d_ab; rw [if_neg (by omega), if_neg (by omega), if_neg (by omega)]
theorem d_ab_eq {σ : w_M} {X : w_M} (h0 : ∀ i, d_ab σ 0 i = X 0 i) (h12 : ∀ d i, 1 ≤ d → d ≤ 2 → (if i < (σ 3 4).toNat then σ (3 + d) i else 0) = X d i) (h346 : ∀ d i, (d = 3 ∨ d = 4 ∨ d = 6) → (if i < (σ 3 5).toNat then σ (3 + d) i else 0) = X d i) (hno : ∀ d i, (d = 5 ∨ 7 ≤ d) → X d i = 0) : d_ab σ = X := by
  funext d i
  by_cases e0 : d = 0
  · rw [e0]; exact h0 i
  · by_cases e2 : d ≤ 2
    · rw [d_ab_12 (by omega) e2]; exact h12 d i (by omega) e2
    · by_cases e3 : d = 3 ∨ d = 4 ∨ d = 6
      · rw [d_ab_346 e3]; exact h346 d i e3
      · rw [d_ab_no (by omega)]; exact (hno d i (by omega)).symm
noncomputable def p_Reader_takeLine (k : Int) (σ : w_M) : Prop := (0 ≤ k ∧ k ≤ 4) ∧ ln_b (d_ab σ) k.toNat = 0 ∧ d_WF (d_ab σ)
noncomputable def q_Reader_takeLine (k : Int) (σ σ' : w_M) : Prop := d_ab σ' = ln_D (d_ab σ) k.toNat (σ 12 0) (σ 12 1) (σ 12 2) ∧ (d_cn σ → d_cn σ') ∧ (∀ b, b < 1 ∨ b = 2 ∨ 12 ≤ b → σ' b = σ b) ∧ ∀ j, j ≠ 5 → σ' 1 j = σ 1 j
theorem fReader_takeLine_0 : w_fe am_c25 0 1 (.iload 1) := ⟨rfl, rfl⟩
theorem fReader_takeLine_1 {E : w_C} {rt : Nat} {Q : Option w_V → w_M → Prop} {ls : w_L} {st : List w_V} {σ : w_M} {x : Int} (h0 : x = 0 → w_Ex E rt am_c25 Q 2 ls st σ) (h1 : x = 1 → w_Ex E rt am_c25 Q 13 ls st σ) (h2 : x = 2 → w_Ex E rt am_c25 Q 25 ls st σ) (h3 : x = 3 → w_Ex E rt am_c25 Q 41 ls st σ) (hd : x < 0 ∨ 3 < x → w_Ex E rt am_c25 Q 54 ls st σ) : w_Ex E rt am_c25 Q 1 ls (.inl x :: st) σ :=
  w_Ex_in (op := .tableswitch 54 0 3 #[2, 13, 25, 41]) rfl ⟨rfl, hd, And.intro h0 (And.intro h1 (And.intro h2 (And.intro h3 ( trivial))))⟩
theorem fReader_takeLine_2 : w_fe am_c25 2 3 (.aload 0) := ⟨rfl, rfl⟩
theorem fReader_takeLine_3 : w_fe am_c25 3 4 (.getfield 102) := ⟨rfl, rfl⟩
theorem fReader_takeLine_4 : w_fe am_c25 4 5 (.aload 0) := ⟨rfl, rfl⟩
theorem fReader_takeLine_5 : w_fe am_c25 5 6 (.getfield 106) := ⟨rfl, rfl⟩
theorem fReader_takeLine_6 : w_fe am_c25 6 7 (.bipush 0) := ⟨rfl, rfl⟩
theorem fReader_takeLine_7 : w_fe am_c25 7 8 (.iaload) := ⟨rfl, rfl⟩
theorem fReader_takeLine_8 : w_fe am_c25 8 9 (.putfield 200) := ⟨rfl, rfl⟩
theorem fReader_takeLine_9 : w_fe am_c25 9 10 (.aload 0) := ⟨rfl, rfl⟩
theorem fReader_takeLine_10 : w_fe am_c25 10 11 (.bipush 1) := ⟨rfl, rfl⟩
theorem fReader_takeLine_11 : w_fe am_c25 11 12 (.putfield 105) := ⟨rfl, rfl⟩
theorem fReader_takeLine_12 : w_gt am_c25 12 66 := rfl
theorem fReader_takeLine_13 : w_fe am_c25 13 14 (.aload 0) := ⟨rfl, rfl⟩
theorem fReader_takeLine_14 : w_fe am_c25 14 15 (.getfield 102) := ⟨rfl, rfl⟩
theorem fReader_takeLine_15 : w_fe am_c25 15 16 (.aload 0) := ⟨rfl, rfl⟩
theorem fReader_takeLine_16 : w_fe am_c25 16 17 (.getfield 106) := ⟨rfl, rfl⟩
theorem fReader_takeLine_17 : w_fe am_c25 17 18 (.bipush 0) := ⟨rfl, rfl⟩
theorem fReader_takeLine_18 : w_fe am_c25 18 19 (.iaload) := ⟨rfl, rfl⟩
theorem fReader_takeLine_19 : w_fe am_c25 19 20 (.aload 0) := ⟨rfl, rfl⟩
theorem fReader_takeLine_20 : w_fe am_c25 20 21 (.getfield 106) := ⟨rfl, rfl⟩
theorem fReader_takeLine_21 : w_fe am_c25 21 22 (.bipush 1) := ⟨rfl, rfl⟩
theorem fReader_takeLine_22 : w_fe am_c25 22 23 (.iaload) := ⟨rfl, rfl⟩
theorem fReader_takeLine_23 : w_fe am_c25 23 24 (.invokestatic 31) := ⟨rfl, rfl⟩
theorem fReader_takeLine_24 : w_gt am_c25 24 66 := rfl
theorem fReader_takeLine_25 : w_fe am_c25 25 26 (.aload 0) := ⟨rfl, rfl⟩
theorem fReader_takeLine_26 : w_fe am_c25 26 27 (.getfield 102) := ⟨rfl, rfl⟩
theorem fReader_takeLine_27 : w_fe am_c25 27 28 (.aload 0) := ⟨rfl, rfl⟩
theorem fReader_takeLine_28 : w_fe am_c25 28 29 (.getfield 106) := ⟨rfl, rfl⟩
theorem fReader_takeLine_29 : w_fe am_c25 29 30 (.bipush 0) := ⟨rfl, rfl⟩
theorem fReader_takeLine_30 : w_fe am_c25 30 31 (.iaload) := ⟨rfl, rfl⟩
theorem fReader_takeLine_31 : w_fe am_c25 31 32 (.aload 0) := ⟨rfl, rfl⟩
theorem fReader_takeLine_32 : w_fe am_c25 32 33 (.getfield 106) := ⟨rfl, rfl⟩
theorem fReader_takeLine_33 : w_fe am_c25 33 34 (.bipush 1) := ⟨rfl, rfl⟩
theorem fReader_takeLine_34 : w_fe am_c25 34 35 (.iaload) := ⟨rfl, rfl⟩
theorem fReader_takeLine_35 : w_fe am_c25 35 36 (.aload 0) := ⟨rfl, rfl⟩
theorem fReader_takeLine_36 : w_fe am_c25 36 37 (.getfield 106) := ⟨rfl, rfl⟩
theorem fReader_takeLine_37 : w_fe am_c25 37 38 (.bipush 2) := ⟨rfl, rfl⟩
theorem fReader_takeLine_38 : w_fe am_c25 38 39 (.iaload) := ⟨rfl, rfl⟩
theorem fReader_takeLine_39 : w_fe am_c25 39 40 (.invokestatic 32) := ⟨rfl, rfl⟩
theorem fReader_takeLine_40 : w_gt am_c25 40 66 := rfl
theorem fReader_takeLine_41 : w_fe am_c25 41 42 (.aload 0) := ⟨rfl, rfl⟩
theorem fReader_takeLine_42 : w_fe am_c25 42 43 (.getfield 102) := ⟨rfl, rfl⟩
theorem fReader_takeLine_43 : w_fe am_c25 43 44 (.aload 0) := ⟨rfl, rfl⟩
theorem fReader_takeLine_44 : w_fe am_c25 44 45 (.getfield 102) := ⟨rfl, rfl⟩
theorem fReader_takeLine_45 : w_fe am_c25 45 46 (.getfield 202) := ⟨rfl, rfl⟩
theorem fReader_takeLine_46 : w_fe am_c25 46 47 (.aload 0) := ⟨rfl, rfl⟩
theorem fReader_takeLine_47 : w_fe am_c25 47 48 (.getfield 106) := ⟨rfl, rfl⟩
theorem fReader_takeLine_48 : w_fe am_c25 48 49 (.bipush 0) := ⟨rfl, rfl⟩
theorem fReader_takeLine_49 : w_fe am_c25 49 50 (.iaload) := ⟨rfl, rfl⟩
theorem fReader_takeLine_50 : w_fe am_c25 50 51 (.bipush 1) := ⟨rfl, rfl⟩
theorem fReader_takeLine_51 : w_fe am_c25 51 52 (.invokestatic 110) := ⟨rfl, rfl⟩
theorem fReader_takeLine_52 : w_fe am_c25 52 53 (.putfield 202) := ⟨rfl, rfl⟩
theorem fReader_takeLine_53 : w_gt am_c25 53 66 := rfl
theorem fReader_takeLine_54 : w_fe am_c25 54 55 (.aload 0) := ⟨rfl, rfl⟩
theorem fReader_takeLine_55 : w_fe am_c25 55 56 (.getfield 102) := ⟨rfl, rfl⟩
theorem fReader_takeLine_56 : w_fe am_c25 56 57 (.aload 0) := ⟨rfl, rfl⟩
theorem fReader_takeLine_57 : w_fe am_c25 57 58 (.getfield 102) := ⟨rfl, rfl⟩
theorem fReader_takeLine_58 : w_fe am_c25 58 59 (.getfield 206) := ⟨rfl, rfl⟩
theorem fReader_takeLine_59 : w_fe am_c25 59 60 (.aload 0) := ⟨rfl, rfl⟩
theorem fReader_takeLine_60 : w_fe am_c25 60 61 (.getfield 106) := ⟨rfl, rfl⟩
theorem fReader_takeLine_61 : w_fe am_c25 61 62 (.bipush 0) := ⟨rfl, rfl⟩
theorem fReader_takeLine_62 : w_fe am_c25 62 63 (.iaload) := ⟨rfl, rfl⟩
theorem fReader_takeLine_63 : w_fe am_c25 63 64 (.bipush 1) := ⟨rfl, rfl⟩
theorem fReader_takeLine_64 : w_fe am_c25 64 65 (.invokestatic 110) := ⟨rfl, rfl⟩
theorem fReader_takeLine_65 : w_fe am_c25 65 66 (.putfield 206) := ⟨rfl, rfl⟩
theorem fReader_takeLine_66 : w_fe am_c25 66 67 (.return_) := ⟨rfl, rfl⟩
set_option maxRecDepth 20000 in
theorem bReader_takeLine_0 {xs : List Int} {d : Nat} {Q : Option w_V → w_M → Prop} {x1 : Int} {σ : w_M}
    (h : (x1 = 0 → ∀ (τ1 : w_M), τ1 = w_up σ 3 0 (σ 12 0) → ∀ (τ2 : w_M), τ2 = w_up τ1 1 5 1 → Q none τ2) ∧ (x1 = 1 → (p_Field_addStrip 3 (σ 12 0) (σ 12 1) σ ∧ (∀ (τ3 : w_M), q_Field_addStrip 3 (σ 12 0) (σ 12 1) σ τ3 → Q none τ3))) ∧ (x1 = 2 → (p_Field_addReaper 3 (σ 12 0) (σ 12 1) (σ 12 2) σ ∧ (∀ (τ4 : w_M), q_Field_addReaper 3 (σ 12 0) (σ 12 1) (σ 12 2) σ τ4 → Q none τ4))) ∧ (x1 = 3 → ∀ (y5 : Int), y5 = v_Moon_withBit (σ 3 2) (σ 12 0) 1 → ∀ (τ6 : w_M), τ6 = w_up σ 3 2 y5 → Q none τ6) ∧ (x1 < 0 ∨ 3 < x1 → ∀ (y7 : Int), y7 = v_Moon_withBit (σ 3 6) (σ 12 0) 1 → ∀ (τ8 : w_M), τ8 = w_up σ 3 6 y7 → Q none τ8)) : w_Call (xs, (d + 1)) 25 [.inr (.inr (1, 1)), .inl x1] σ Q :=
  (w_mk (mid := 25) (by decide) rfl rfl rfl rfl rfl (Nat.le_of_ble_eq_true rfl) ⟨rfl, Or.inl (by decide)⟩ (wi_iload1 fReader_takeLine_0 (fReader_takeLine_1 (fun c => (wi_aload0 fReader_takeLine_2 (wi_getf102 fReader_takeLine_3 (wi_aload0 fReader_takeLine_4 (wi_getf106 fReader_takeLine_5 (wi_bipush fReader_takeLine_6 (wi_iald1003 fReader_takeLine_7 (by decide) (by decide) (wi_putf200 fReader_takeLine_8 (wi_aload0 fReader_takeLine_9 (wi_bipush fReader_takeLine_10 (wi_putf105 fReader_takeLine_11 (by decide) (wi_goto fReader_takeLine_12 (wi_ret0 fReader_takeLine_66 (((h.1 c) _ rfl) _ rfl)))))))))))))) (fun c => (wi_aload0 fReader_takeLine_13 (wi_getf102 fReader_takeLine_14 (wi_aload0 fReader_takeLine_15 (wi_getf106 fReader_takeLine_16 (wi_bipush fReader_takeLine_17 (wi_iald1003 fReader_takeLine_18 (by decide) (by decide) (wi_aload0 fReader_takeLine_19 (wi_getf106 fReader_takeLine_20 (wi_bipush fReader_takeLine_21 (wi_iald1003 fReader_takeLine_22 (by decide) (by decide) (wi_call3 fReader_takeLine_23 (Nat.le_of_ble_eq_true rfl) (k_Field_addStrip (h.2.1 c).1 (fun τ3 eτ3 => (wi_goto fReader_takeLine_24 (wi_ret0 fReader_takeLine_66 ((h.2.1 c).2 τ3 eτ3))))))))))))))))) (fun c => (wi_aload0 fReader_takeLine_25 (wi_getf102 fReader_takeLine_26 (wi_aload0 fReader_takeLine_27 (wi_getf106 fReader_takeLine_28 (wi_bipush fReader_takeLine_29 (wi_iald1003 fReader_takeLine_30 (by decide) (by decide) (wi_aload0 fReader_takeLine_31 (wi_getf106 fReader_takeLine_32 (wi_bipush fReader_takeLine_33 (wi_iald1003 fReader_takeLine_34 (by decide) (by decide) (wi_aload0 fReader_takeLine_35 (wi_getf106 fReader_takeLine_36 (wi_bipush fReader_takeLine_37 (wi_iald1003 fReader_takeLine_38 (by decide) (by decide) (wi_call4 fReader_takeLine_39 (Nat.le_of_ble_eq_true rfl) (k_Field_addReaper (h.2.2.1 c).1 (fun τ4 eτ4 => (wi_goto fReader_takeLine_40 (wi_ret0 fReader_takeLine_66 ((h.2.2.1 c).2 τ4 eτ4))))))))))))))))))))) (fun c => (wi_aload0 fReader_takeLine_41 (wi_getf102 fReader_takeLine_42 (wi_aload0 fReader_takeLine_43 (wi_getf102 fReader_takeLine_44 (wi_getf202 fReader_takeLine_45 (wi_aload0 fReader_takeLine_46 (wi_getf106 fReader_takeLine_47 (wi_bipush fReader_takeLine_48 (wi_iald1003 fReader_takeLine_49 (by decide) (by decide) (wi_bipush fReader_takeLine_50 (wi_call3 fReader_takeLine_51 (Nat.le_of_ble_eq_true rfl) (k_Moon_withBit (wi_putf202 fReader_takeLine_52 (wi_goto fReader_takeLine_53 (wi_ret0 fReader_takeLine_66 (((h.2.2.2.1 c) _ rfl) _ rfl))))))))))))))))) (fun c => (wi_aload0 fReader_takeLine_54 (wi_getf102 fReader_takeLine_55 (wi_aload0 fReader_takeLine_56 (wi_getf102 fReader_takeLine_57 (wi_getf206 fReader_takeLine_58 (wi_aload0 fReader_takeLine_59 (wi_getf106 fReader_takeLine_60 (wi_bipush fReader_takeLine_61 (wi_iald1003 fReader_takeLine_62 (by decide) (by decide) (wi_bipush fReader_takeLine_63 (wi_call3 fReader_takeLine_64 (Nat.le_of_ble_eq_true rfl) (k_Moon_withBit (wi_putf206 fReader_takeLine_65 (wi_ret0 fReader_takeLine_66 (((h.2.2.2.2 c) _ rfl) _ rfl)))))))))))))))))))
set_option maxHeartbeats 2000000 in
theorem k_Reader_takeLine {xs : List Int} {d : Nat} {Q : Option w_V → w_M → Prop} {x1 : Int} {σ : w_M} (hp : p_Reader_takeLine x1 σ) (hQ : ∀ σ' : w_M, q_Reader_takeLine x1 σ σ' → Q none σ') : w_Call (xs, d + 1) 25 [.inr (.inr (1, 1)), .inl x1] σ Q := by
  obtain ⟨⟨k0, k4⟩, hb, hW⟩ := hp
  obtain ⟨k, rfl⟩ := Int.eq_ofNat_of_zero_le k0
  unfold q_Reader_takeLine at hQ
  rw [Int.toNat_natCast] at hQ hb
  have w4 : 0 ≤ σ 3 4 ∧ σ 3 4 ≤ 7 := hW.2.2.1
  have w5 : 0 ≤ σ 3 5 ∧ σ 3 5 ≤ 4 := hW.2.2.2.1
  have eb : ln_b (d_ab σ) k = if k = 0 ∧ ¬ σ 1 5 = 0 then 4 else if (k = 1 ∧ 7 ≤ σ 3 4) ∨ (k = 2 ∧ 4 ≤ σ 3 5) then 5 else 0 := rfl
  refine bReader_takeLine_0 ⟨fun c τ1 t1 τ2 t2 => ?_, fun c => ?_, fun c => ?_, fun c y5 e5 τ6 t6 => ?_, fun c y7 e7 τ8 t8 => ?_⟩
  · obtain rfl : k = 0 := by omega
    have a3 : ∀ j, τ2 3 j = if j = 0 then σ 12 0 else σ 3 j := fun j => by rw [t2, w_up_ne (by decide), t1, w_up_eq]; by_cases h : j = 0 <;> simp [h]
    have a5 : τ2 1 5 = 1 := by rw [t2, w_up_at]
    have az : ∀ b, b ≠ 1 → b ≠ 3 → τ2 b = σ b := fun b h1 h3 => by rw [t2, w_up_ne h1, t1, w_up_ne h3]
    have e4 : τ2 3 4 = σ 3 4 := by rw [a3, if_neg (by decide)]
    have e5 : τ2 3 5 = σ 3 5 := by rw [a3, if_neg (by decide)]
    have ez : ∀ d i, d ≠ 0 → ln_D (d_ab σ) 0 (σ 12 0) (σ 12 1) (σ 12 2) d i = d_ab σ d i := fun d i hd => by
      show (if d = 0 ∧ i = 7 then 1 else if d = 0 ∧ i = 0 then σ 12 0 else d_ab σ d i) = _
      rw [if_neg (fun q => hd q.1), if_neg (fun q => hd q.1)]
    refine hQ _ ⟨d_ab_eq (fun i => ?_) (fun d i h1 h2 => ?_) (fun d i h => ?_) (fun d i h => ?_), fun hc => ?_, fun b hb => az b (by omega) (by omega), fun j hj => by rw [t2, w_up_j hj, t1, w_up_ne (by decide)]⟩
    · show _ = if (0 : Nat) = 0 ∧ i = 7 then 1 else if (0 : Nat) = 0 ∧ i = 0 then σ 12 0 else d_ab σ 0 i
      rw [d_ab_0, d_ab_0, a3, a3, a3, a3, a3, a5]
      by_cases h7 : i = 7
      · simp [h7]
      · by_cases h0 : i = 0
        · simp [h0]
        · simp [h7, h0]
    · rw [ez d i (by omega), d_ab_12 h1 h2, e4, az (3 + d) (by omega) (by omega)]
    · rw [ez d i (by omega), d_ab_346 h, e5, az (3 + d) (by omega) (by omega)]
    · rw [ez d i (by omega), d_ab_no h]
    · obtain ⟨c1, c2, c3⟩ := hc
      refine ⟨⟨by rw [a3, if_neg (by decide)]; exact c1.1, by rw [a3, if_neg (by decide)]; exact c1.2⟩, ?_, ?_⟩
      · rw [e5, az 8 (by decide) (by decide), az 10 (by decide) (by decide)]; exact c2
      · rw [az 11 (by decide) (by decide)]; exact c3
  · obtain rfl : k = 1 := by omega
    have hs : σ 3 4 < 7 := by
      rw [eb, if_neg (by omega)] at hb
      by_cases q : 7 ≤ σ 3 4
      · rw [if_pos (Or.inl ⟨rfl, q⟩)] at hb; omega
      · omega
    refine ⟨⟨w4.1, hs⟩, fun τ3 t3 => ?_⟩
    have t3' : τ3 = w_up (w_up (w_up σ 4 (σ 3 4).toNat (σ 12 0)) 5 (σ 3 4).toNat (σ 12 1)) 3 4 (σ 3 4 + 1) := t3
    have a3 : ∀ j, τ3 3 j = if j = 4 then σ 3 4 + 1 else σ 3 j := fun j => by rw [t3', w_up_eq, w_up_ne (by decide), w_up_ne (by decide)]; by_cases h : j = 4 <;> simp [h]
    have a4 : ∀ j, τ3 4 j = if j = (σ 3 4).toNat then σ 12 0 else σ 4 j := fun j => by rw [t3', w_up_ne (by decide), w_up_ne (by decide), w_up_eq]; by_cases h : j = (σ 3 4).toNat <;> simp [h]
    have a5 : ∀ j, τ3 5 j = if j = (σ 3 4).toNat then σ 12 1 else σ 5 j := fun j => by rw [t3', w_up_ne (by decide), w_up_eq, w_up_ne (by decide)]; by_cases h : j = (σ 3 4).toNat <;> simp [h]
    have az : ∀ b, b ≠ 3 → b ≠ 4 → b ≠ 5 → τ3 b = σ b := fun b h3 h4 h5 => by rw [t3', w_up_ne h3, w_up_ne h5, w_up_ne h4]
    have e4 : τ3 3 4 = σ 3 4 + 1 := by rw [a3, if_pos rfl]
    have e5 : τ3 3 5 = σ 3 5 := by rw [a3, if_neg (by decide)]
    have eg : ∀ d i, ln_D (d_ab σ) 1 (σ 12 0) (σ 12 1) (σ 12 2) d i = if d = 0 ∧ i = 4 then σ 3 4 + 1 else if d = 2 ∧ i = (σ 3 4).toNat then σ 12 1 else if d = 1 ∧ i = (σ 3 4).toNat then σ 12 0 else d_ab σ d i := fun d i => rfl
    have ez : ∀ d i, d ≠ 0 → d ≠ 1 → d ≠ 2 → ln_D (d_ab σ) 1 (σ 12 0) (σ 12 1) (σ 12 2) d i = d_ab σ d i := fun d i x0 x1 x2 => by rw [eg, if_neg (fun q => x0 q.1), if_neg (fun q => x2 q.1), if_neg (fun q => x1 q.1)]
    have ez1 : ∀ i, ln_D (d_ab σ) 1 (σ 12 0) (σ 12 1) (σ 12 2) 1 i = if i = (σ 3 4).toNat then σ 12 0 else d_ab σ 1 i := fun i => by rw [eg]; simp
    have ez2 : ∀ i, ln_D (d_ab σ) 1 (σ 12 0) (σ 12 1) (σ 12 2) 2 i = if i = (σ 3 4).toNat then σ 12 1 else d_ab σ 2 i := fun i => by rw [eg]; simp
    have row : ∀ (v : Int) (g : Nat → Int) (i : Nat), (if i < (σ 3 4 + 1).toNat then (if i = (σ 3 4).toNat then v else g i) else 0) = if i = (σ 3 4).toNat then v else (if i < (σ 3 4).toNat then g i else 0) := fun v g i => by
      by_cases h : i = (σ 3 4).toNat
      · rw [if_pos (by omega), if_pos h, if_pos h]
      · rw [if_neg h, if_neg h]
        by_cases h2 : i < (σ 3 4).toNat
        · rw [if_pos (by omega), if_pos h2]
        · rw [if_neg (by omega), if_neg h2]
    refine hQ _ ⟨d_ab_eq (fun i => ?_) (fun d i h1 h2 => ?_) (fun d i h => ?_) (fun d i h => ?_), fun hc => ?_, fun b hb => az b (by omega) (by omega) (by omega), fun j hj => by rw [az 1 (by decide) (by decide) (by decide)]⟩
    · rw [eg, d_ab_0, d_ab_0, a3, a3, a3, a3, a3, az 1 (by decide) (by decide) (by decide)]
      by_cases h4 : i = 4
      · simp [h4]
      · simp [h4]
    · rw [e4]
      rcases (show d = 1 ∨ d = 2 by omega) with rfl | rfl
      · show (if i < (σ 3 4 + 1).toNat then τ3 4 i else 0) = _
        rw [ez1, d_ab_12 (by decide) (by decide), a4, row]
      · show (if i < (σ 3 4 + 1).toNat then τ3 5 i else 0) = _
        rw [ez2, d_ab_12 (by decide) (by decide), a5, row]
    · rw [ez d i (by omega) (by omega) (by omega), d_ab_346 h, e5, az (3 + d) (by omega) (by omega) (by omega)]
    · rw [ez d i (by omega) (by omega) (by omega), d_ab_no h]
    · obtain ⟨c1, c2, c3⟩ := hc
      refine ⟨⟨by rw [a3, if_neg (by decide)]; exact c1.1, by rw [a3, if_neg (by decide)]; exact c1.2⟩, ?_, ?_⟩
      · rw [e5, az 8 (by decide) (by decide) (by decide), az 10 (by decide) (by decide) (by decide)]; exact c2
      · rw [az 11 (by decide) (by decide) (by decide)]; exact c3
  · obtain rfl : k = 2 := by omega
    have hs : σ 3 5 < 4 := by
      rw [eb, if_neg (by omega)] at hb
      by_cases q : 4 ≤ σ 3 5
      · rw [if_pos (Or.inr ⟨rfl, q⟩)] at hb; omega
      · omega
    refine ⟨⟨w5.1, hs⟩, fun τ3 t3 => ?_⟩
    generalize hn : (σ 3 5).toNat = n at *
    have t3' : τ3 = w_up (w_up (w_up (w_up (w_up (w_up σ 6 n (σ 12 0)) 7 n (σ 12 1)) 8 n 3) 9 n (σ 12 2)) 10 n 0) 3 5 (σ 3 5 + 1) := by rw [← hn]; exact t3
    have a3 : ∀ j, τ3 3 j = if j = 5 then σ 3 5 + 1 else σ 3 j := fun j => by rw [t3', w_up_eq, w_up_ne (by decide), w_up_ne (by decide), w_up_ne (by decide), w_up_ne (by decide), w_up_ne (by decide)]; by_cases h : j = 5 <;> simp [h]
    have a6 : ∀ j, τ3 6 j = if j = n then σ 12 0 else σ 6 j := fun j => by rw [t3', w_up_ne (by decide), w_up_ne (by decide), w_up_ne (by decide), w_up_ne (by decide), w_up_ne (by decide), w_up_eq]; by_cases h : j = n <;> simp [h]
    have a7 : ∀ j, τ3 7 j = if j = n then σ 12 1 else σ 7 j := fun j => by rw [t3', w_up_ne (by decide), w_up_ne (by decide), w_up_ne (by decide), w_up_ne (by decide), w_up_eq, w_up_ne (by decide)]; by_cases h : j = n <;> simp [h]
    have a8 : ∀ j, τ3 8 j = if j = n then 3 else σ 8 j := fun j => by rw [t3', w_up_ne (by decide), w_up_ne (by decide), w_up_ne (by decide), w_up_eq, w_up_ne (by decide), w_up_ne (by decide)]; by_cases h : j = n <;> simp [h]
    have a9 : ∀ j, τ3 9 j = if j = n then σ 12 2 else σ 9 j := fun j => by rw [t3', w_up_ne (by decide), w_up_ne (by decide), w_up_eq, w_up_ne (by decide), w_up_ne (by decide), w_up_ne (by decide)]; by_cases h : j = n <;> simp [h]
    have a10 : ∀ j, τ3 10 j = if j = n then 0 else σ 10 j := fun j => by rw [t3', w_up_ne (by decide), w_up_eq, w_up_ne (by decide), w_up_ne (by decide), w_up_ne (by decide), w_up_ne (by decide)]; by_cases h : j = n <;> simp [h]
    have az : ∀ b, b < 3 ∨ b = 4 ∨ b = 5 ∨ 11 ≤ b → τ3 b = σ b := fun b h => by rw [t3', w_up_ne (by omega), w_up_ne (by omega), w_up_ne (by omega), w_up_ne (by omega), w_up_ne (by omega), w_up_ne (by omega)]
    have e4 : τ3 3 4 = σ 3 4 := by rw [a3, if_neg (by decide)]
    have e5 : τ3 3 5 = σ 3 5 + 1 := by rw [a3, if_pos rfl]
    have eg : ∀ d i, ln_D (d_ab σ) 2 (σ 12 0) (σ 12 1) (σ 12 2) d i = if d = 0 ∧ i = 5 then σ 3 5 + 1 else if d = 6 ∧ i = n then σ 12 2 else if d = 4 ∧ i = n then σ 12 1 else if d = 3 ∧ i = n then σ 12 0 else d_ab σ d i := fun d i => by rw [← hn]; rfl
    have ez : ∀ d i, d ≠ 0 → d ≠ 3 → d ≠ 4 → d ≠ 6 → ln_D (d_ab σ) 2 (σ 12 0) (σ 12 1) (σ 12 2) d i = d_ab σ d i := fun d i x0 x3 x4 x6 => by rw [eg, if_neg (fun q => x0 q.1), if_neg (fun q => x6 q.1), if_neg (fun q => x4 q.1), if_neg (fun q => x3 q.1)]
    have ez3 : ∀ i, ln_D (d_ab σ) 2 (σ 12 0) (σ 12 1) (σ 12 2) 3 i = if i = n then σ 12 0 else d_ab σ 3 i := fun i => by rw [eg]; simp
    have ez4 : ∀ i, ln_D (d_ab σ) 2 (σ 12 0) (σ 12 1) (σ 12 2) 4 i = if i = n then σ 12 1 else d_ab σ 4 i := fun i => by rw [eg]; simp
    have ez6 : ∀ i, ln_D (d_ab σ) 2 (σ 12 0) (σ 12 1) (σ 12 2) 6 i = if i = n then σ 12 2 else d_ab σ 6 i := fun i => by rw [eg]; simp
    have row : ∀ (v : Int) (g : Nat → Int) (i : Nat), (if i < (σ 3 5 + 1).toNat then (if i = n then v else g i) else 0) = if i = n then v else (if i < (σ 3 5).toNat then g i else 0) := fun v g i => by
      by_cases h : i = n
      · rw [if_pos (by omega), if_pos h, if_pos h]
      · rw [if_neg h, if_neg h]
        by_cases h2 : i < (σ 3 5).toNat
        · rw [if_pos (by omega), if_pos h2]
        · rw [if_neg (by omega), if_neg h2]
    refine hQ _ ⟨d_ab_eq (fun i => ?_) (fun d i h1 h2 => ?_) (fun d i h => ?_) (fun d i h => ?_), fun hc => ?_, fun b hb => az b (by omega), fun j hj => by rw [az 1 (by decide)]⟩
    · rw [eg, d_ab_0, d_ab_0, a3, a3, a3, a3, a3, az 1 (by decide)]
      by_cases h5 : i = 5
      · simp [h5]
      · simp [h5]
    · rw [ez d i (by omega) (by omega) (by omega) (by omega), d_ab_12 h1 h2, e4, az (3 + d) (by omega)]
    · rw [e5]
      rcases h with rfl | rfl | rfl
      · show (if i < (σ 3 5 + 1).toNat then τ3 6 i else 0) = _
        rw [ez3, d_ab_346 (Or.inl rfl), a6, row]
      · show (if i < (σ 3 5 + 1).toNat then τ3 7 i else 0) = _
        rw [ez4, d_ab_346 (Or.inr (Or.inl rfl)), a7, row]
      · show (if i < (σ 3 5 + 1).toNat then τ3 9 i else 0) = _
        rw [ez6, d_ab_346 (Or.inr (Or.inr rfl)), a9, row]
    · rw [ez d i (by omega) (by omega) (by omega) (by omega), d_ab_no h]
    · obtain ⟨c1, c2, c3⟩ := hc
      refine ⟨⟨by rw [a3, if_neg (by decide)]; exact c1.1, by rw [a3, if_neg (by decide)]; exact c1.2⟩, fun r hr => ?_, ?_⟩
      · rw [a8, a10]
        by_cases h : r = n
        · rw [if_pos h, if_pos h]; exact ⟨rfl, rfl⟩
        · rw [if_neg h, if_neg h]
          rw [e5] at hr
          exact c2 r (by omega)
      · rw [az 11 (by decide)]; exact c3
  · obtain rfl : k = 3 := by omega
    have a3 : ∀ j, τ6 3 j = if j = 2 then y5 else σ 3 j := fun j => by rw [t6, w_up_eq]; by_cases h : j = 2 <;> simp [h]
    have az : ∀ b, b ≠ 3 → τ6 b = σ b := fun b h3 => by rw [t6, w_up_ne h3]
    have e4 : τ6 3 4 = σ 3 4 := by rw [a3, if_neg (by decide)]
    have e5' : τ6 3 5 = σ 3 5 := by rw [a3, if_neg (by decide)]
    have eg : ∀ d i, ln_D (d_ab σ) 3 (σ 12 0) (σ 12 1) (σ 12 2) d i = if d = 0 ∧ i = 2 then y5 else d_ab σ d i := fun d i => by rw [e5]; rfl
    have ez : ∀ d i, d ≠ 0 → ln_D (d_ab σ) 3 (σ 12 0) (σ 12 1) (σ 12 2) d i = d_ab σ d i := fun d i hd => by rw [eg, if_neg (fun q => hd q.1)]
    refine hQ _ ⟨d_ab_eq (fun i => ?_) (fun d i h1 h2 => ?_) (fun d i h => ?_) (fun d i h => ?_), fun hc => ?_, fun b hb => az b (by omega), fun j hj => by rw [az 1 (by decide)]⟩
    · rw [eg, d_ab_0, d_ab_0, a3, a3, a3, a3, a3, az 1 (by decide)]
      by_cases h2 : i = 2
      · simp [h2]
      · simp [h2]
    · rw [ez d i (by omega), d_ab_12 h1 h2, e4, az (3 + d) (by omega)]
    · rw [ez d i (by omega), d_ab_346 h, e5', az (3 + d) (by omega)]
    · rw [ez d i (by omega), d_ab_no h]
    · obtain ⟨c1, c2, c3⟩ := hc
      refine ⟨⟨by rw [a3, if_neg (by decide)]; exact c1.1, by rw [a3, if_neg (by decide)]; exact c1.2⟩, ?_, ?_⟩
      · rw [e5', az 8 (by decide), az 10 (by decide)]; exact c2
      · rw [az 11 (by decide)]; exact c3
  · obtain rfl : k = 4 := by omega
    have a3 : ∀ j, τ8 3 j = if j = 6 then y7 else σ 3 j := fun j => by rw [t8, w_up_eq]; by_cases h : j = 6 <;> simp [h]
    have az : ∀ b, b ≠ 3 → τ8 b = σ b := fun b h3 => by rw [t8, w_up_ne h3]
    have e4 : τ8 3 4 = σ 3 4 := by rw [a3, if_neg (by decide)]
    have e5' : τ8 3 5 = σ 3 5 := by rw [a3, if_neg (by decide)]
    have eg : ∀ d i, ln_D (d_ab σ) 4 (σ 12 0) (σ 12 1) (σ 12 2) d i = if d = 0 ∧ i = 6 then y7 else d_ab σ d i := fun d i => by rw [e7]; rfl
    have ez : ∀ d i, d ≠ 0 → ln_D (d_ab σ) 4 (σ 12 0) (σ 12 1) (σ 12 2) d i = d_ab σ d i := fun d i hd => by rw [eg, if_neg (fun q => hd q.1)]
    refine hQ _ ⟨d_ab_eq (fun i => ?_) (fun d i h1 h2 => ?_) (fun d i h => ?_) (fun d i h => ?_), fun hc => ?_, fun b hb => az b (by omega), fun j hj => by rw [az 1 (by decide)]⟩
    · rw [eg, d_ab_0, d_ab_0, a3, a3, a3, a3, a3, az 1 (by decide)]
      by_cases h2 : i = 6
      · simp [h2]
      · simp [h2]
    · rw [ez d i (by omega), d_ab_12 h1 h2, e4, az (3 + d) (by omega)]
    · rw [ez d i (by omega), d_ab_346 h, e5', az (3 + d) (by omega)]
    · rw [ez d i (by omega), d_ab_no h]
    · obtain ⟨c1, c2, c3⟩ := hc
      refine ⟨⟨by rw [a3, if_neg (by decide)]; exact c1.1, by rw [a3, if_neg (by decide)]; exact c1.2⟩, ?_, ?_⟩
      · rw [e5', az 8 (by decide), az 10 (by decide)]; exact c2
      · rw [az 11 (by decide)]; exact c3
