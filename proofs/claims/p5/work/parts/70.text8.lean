/-! The reference reads names and numbers -/
noncomputable def m_pos (σ : w_M) : Prop := m_rk σ ∧ (0 ≤ σ 122 17 ∧ σ 122 17 ≤ σ 122 16) ∧ σ 122 16 ≤ σ 122 15
noncomputable def mb (σ : w_M) (i : Nat) : Int := tb (mT σ) (mL σ) ((σ 122 17).toNat + i)
theorem mb_at {σ : w_M} (h : m_pos σ) (i : Nat) : p_Model_byteAt (σ 122 17 + (i : Int)) σ ∧ v_Model_byteAt (σ 122 17 + (i : Int)) σ = mb σ i := by
  have h1 := h.1.1
  have h2 := h.2.1
  refine ⟨⟨by omega, h1.2⟩, ?_⟩
  rw [m_byte h.1 (by omega)]
  unfold mb
  rw [show (σ 122 17 + (i : Int)).toNat = (σ 122 17).toNat + i by omega]
theorem mb_0 {σ : w_M} (h : m_pos σ) : p_Model_byteAt (σ 122 17) σ ∧ v_Model_byteAt (σ 122 17) σ = mb σ 0 := by
  have := mb_at h 0
  rw [show σ 122 17 + ((0 : Nat) : Int) = σ 122 17 by omega] at this
  exact this
noncomputable def p_Model_is (_ _ _ _ : Int) (σ : w_M) : Prop := m_pos σ
noncomputable def P_Model_is (n a b c : Int) (σ : w_M) : Prop := σ 122 16 - σ 122 17 = n ∧ mb σ 0 = a ∧ mb σ 1 = b ∧ mb σ 2 = c
noncomputable def p_Model_ends (_ _ _ _ : Int) (σ : w_M) : Prop := m_pos σ
noncomputable def P_Model_ends (a b c d : Int) (σ : w_M) : Prop := mb σ 3 = a ∧ mb σ 4 = b ∧ (c = 0 ∨ mb σ 5 = c) ∧ (d = 0 ∨ mb σ 6 = d)
theorem fModel_is_0 : w_fe am_c165 0 1 (.aload 0) := ⟨rfl, rfl⟩
theorem fModel_is_1 : w_fe am_c165 1 2 (.getfield 916) := ⟨rfl, rfl⟩
theorem fModel_is_2 : w_fe am_c165 2 3 (.aload 0) := ⟨rfl, rfl⟩
theorem fModel_is_3 : w_fe am_c165 3 4 (.getfield 917) := ⟨rfl, rfl⟩
theorem fModel_is_4 : w_fe am_c165 4 5 (.isub) := ⟨rfl, rfl⟩
theorem fModel_is_5 : w_fe am_c165 5 6 (.iload 1) := ⟨rfl, rfl⟩
theorem fModel_is_6 : w_ic am_c165 6 7 .ne 31 := ⟨rfl, rfl⟩
theorem fModel_is_7 : w_fe am_c165 7 8 (.aload 0) := ⟨rfl, rfl⟩
theorem fModel_is_8 : w_fe am_c165 8 9 (.aload 0) := ⟨rfl, rfl⟩
theorem fModel_is_9 : w_fe am_c165 9 10 (.getfield 917) := ⟨rfl, rfl⟩
theorem fModel_is_10 : w_fe am_c165 10 11 (.invokestatic 161) := ⟨rfl, rfl⟩
theorem fModel_is_11 : w_fe am_c165 11 12 (.iload 2) := ⟨rfl, rfl⟩
theorem fModel_is_12 : w_ic am_c165 12 13 .ne 31 := ⟨rfl, rfl⟩
theorem fModel_is_13 : w_fe am_c165 13 14 (.aload 0) := ⟨rfl, rfl⟩
theorem fModel_is_14 : w_fe am_c165 14 15 (.aload 0) := ⟨rfl, rfl⟩
theorem fModel_is_15 : w_fe am_c165 15 16 (.getfield 917) := ⟨rfl, rfl⟩
theorem fModel_is_16 : w_fe am_c165 16 17 (.bipush 1) := ⟨rfl, rfl⟩
theorem fModel_is_17 : w_fe am_c165 17 18 (.iadd) := ⟨rfl, rfl⟩
theorem fModel_is_18 : w_fe am_c165 18 19 (.invokestatic 161) := ⟨rfl, rfl⟩
theorem fModel_is_19 : w_fe am_c165 19 20 (.iload 3) := ⟨rfl, rfl⟩
theorem fModel_is_20 : w_ic am_c165 20 21 .ne 31 := ⟨rfl, rfl⟩
theorem fModel_is_21 : w_fe am_c165 21 22 (.aload 0) := ⟨rfl, rfl⟩
theorem fModel_is_22 : w_fe am_c165 22 23 (.aload 0) := ⟨rfl, rfl⟩
theorem fModel_is_23 : w_fe am_c165 23 24 (.getfield 917) := ⟨rfl, rfl⟩
theorem fModel_is_24 : w_fe am_c165 24 25 (.bipush 2) := ⟨rfl, rfl⟩
theorem fModel_is_25 : w_fe am_c165 25 26 (.iadd) := ⟨rfl, rfl⟩
theorem fModel_is_26 : w_fe am_c165 26 27 (.invokestatic 161) := ⟨rfl, rfl⟩
theorem fModel_is_27 : w_fe am_c165 27 28 (.iload 4) := ⟨rfl, rfl⟩
theorem fModel_is_28 : w_ic am_c165 28 29 .ne 31 := ⟨rfl, rfl⟩
theorem fModel_is_29 : w_fe am_c165 29 30 (.bipush 1) := ⟨rfl, rfl⟩
theorem fModel_is_30 : w_gt am_c165 30 32 := rfl
theorem fModel_is_31 : w_fe am_c165 31 32 (.bipush 0) := ⟨rfl, rfl⟩
theorem fModel_is_32 : w_fe am_c165 32 33 (.ireturn) := ⟨rfl, rfl⟩
set_option maxRecDepth 20000 in
theorem bModel_is_0 {xs : List Int} {d : Nat} {Q : Option w_V → w_M → Prop} {x1 : Int} {x2 : Int} {x3 : Int} {x4 : Int} {σ : w_M}
    (h : w_in ((σ 122 16) - (σ 122 17)) ∧ ((¬ ((σ 122 16) - (σ 122 17)) = x1 → Q (some (.inl 0)) σ) ∧ (((σ 122 16) - (σ 122 17)) = x1 → (p_Model_byteAt (σ 122 17) σ ∧ (∀ (y1 : Int), y1 = v_Model_byteAt (σ 122 17) σ → ((¬ y1 = x2 → Q (some (.inl 0)) σ) ∧ (y1 = x2 → (w_in ((σ 122 17) + 1) ∧ p_Model_byteAt ((σ 122 17) + 1) σ ∧ (∀ (y2 : Int), y2 = v_Model_byteAt ((σ 122 17) + 1) σ → ((¬ y2 = x3 → Q (some (.inl 0)) σ) ∧ (y2 = x3 → (w_in ((σ 122 17) + 2) ∧ p_Model_byteAt ((σ 122 17) + 2) σ ∧ (∀ (y3 : Int), y3 = v_Model_byteAt ((σ 122 17) + 2) σ → ((¬ y3 = x4 → Q (some (.inl 0)) σ) ∧ (y3 = x4 → Q (some (.inl 1)) σ))))))))))))))) : w_Call (xs, (d + 1)) 165 [.inr (.inr (9, 122)), .inl x1, .inl x2, .inl x3, .inl x4] σ Q :=
  (w_mk (mid := 165) (by decide) rfl rfl rfl rfl rfl (Nat.le_of_ble_eq_true rfl) ⟨rfl, Or.inl (by decide)⟩ (wi_aload0 fModel_is_0 (wi_getf916 fModel_is_1 (wi_aload0 fModel_is_2 (wi_getf917 fModel_is_3 (wi_isub fModel_is_4 h.1 (wi_iload1 fModel_is_5 (wi_ic_ne fModel_is_6 (fun c7 => (wi_bipush fModel_is_31 (wi_ret2 fModel_is_32 (by decide) (h.2.1 c7)))) (fun c7 => (wi_aload0 fModel_is_7 (wi_aload0 fModel_is_8 (wi_getf917 fModel_is_9 (wi_call2 fModel_is_10 (Nat.le_of_ble_eq_true rfl) (k_Model_byteAt (h.2.2 c7).1 (wi_iload2 fModel_is_11 (wi_ic_ne fModel_is_12 (fun c6 => (wi_bipush fModel_is_31 (wi_ret2 fModel_is_32 (by decide) (((h.2.2 c7).2 _ rfl).1 c6)))) (fun c6 => (wi_aload0 fModel_is_13 (wi_aload0 fModel_is_14 (wi_getf917 fModel_is_15 (wi_bipush fModel_is_16 (wi_iadd fModel_is_17 (((h.2.2 c7).2 _ rfl).2 c6).1 (wi_call2 fModel_is_18 (Nat.le_of_ble_eq_true rfl) (k_Model_byteAt (((h.2.2 c7).2 _ rfl).2 c6).2.1 (wi_iload3 fModel_is_19 (wi_ic_ne fModel_is_20 (fun c5 => (wi_bipush fModel_is_31 (wi_ret2 fModel_is_32 (by decide) (((((h.2.2 c7).2 _ rfl).2 c6).2.2 _ rfl).1 c5)))) (fun c5 => (wi_aload0 fModel_is_21 (wi_aload0 fModel_is_22 (wi_getf917 fModel_is_23 (wi_bipush fModel_is_24 (wi_iadd fModel_is_25 (((((h.2.2 c7).2 _ rfl).2 c6).2.2 _ rfl).2 c5).1 (wi_call2 fModel_is_26 (Nat.le_of_ble_eq_true rfl) (k_Model_byteAt (((((h.2.2 c7).2 _ rfl).2 c6).2.2 _ rfl).2 c5).2.1 (wi_iload4 fModel_is_27 (wi_ic_ne fModel_is_28 (fun c4 => (wi_bipush fModel_is_31 (wi_ret2 fModel_is_32 (by decide) (((((((h.2.2 c7).2 _ rfl).2 c6).2.2 _ rfl).2 c5).2.2 _ rfl).1 c4)))) (fun c4 => (wi_bipush fModel_is_29 (wi_goto fModel_is_30 (wi_ret2 fModel_is_32 (by decide) (((((((h.2.2 c7).2 _ rfl).2 c6).2.2 _ rfl).2 c5).2.2 _ rfl).2 c4)))))))))))))))))))))))))))))))))))))))))
theorem fModel_ends_0 : w_fe am_c166 0 1 (.aload 0) := ⟨rfl, rfl⟩
theorem fModel_ends_1 : w_fe am_c166 1 2 (.aload 0) := ⟨rfl, rfl⟩
theorem fModel_ends_2 : w_fe am_c166 2 3 (.getfield 917) := ⟨rfl, rfl⟩
theorem fModel_ends_3 : w_fe am_c166 3 4 (.bipush 3) := ⟨rfl, rfl⟩
theorem fModel_ends_4 : w_fe am_c166 4 5 (.iadd) := ⟨rfl, rfl⟩
theorem fModel_ends_5 : w_fe am_c166 5 6 (.invokestatic 161) := ⟨rfl, rfl⟩
theorem fModel_ends_6 : w_fe am_c166 6 7 (.iload 1) := ⟨rfl, rfl⟩
theorem fModel_ends_7 : w_ic am_c166 7 8 .ne 38 := ⟨rfl, rfl⟩
theorem fModel_ends_8 : w_fe am_c166 8 9 (.aload 0) := ⟨rfl, rfl⟩
theorem fModel_ends_9 : w_fe am_c166 9 10 (.aload 0) := ⟨rfl, rfl⟩
theorem fModel_ends_10 : w_fe am_c166 10 11 (.getfield 917) := ⟨rfl, rfl⟩
theorem fModel_ends_11 : w_fe am_c166 11 12 (.bipush 4) := ⟨rfl, rfl⟩
theorem fModel_ends_12 : w_fe am_c166 12 13 (.iadd) := ⟨rfl, rfl⟩
theorem fModel_ends_13 : w_fe am_c166 13 14 (.invokestatic 161) := ⟨rfl, rfl⟩
theorem fModel_ends_14 : w_fe am_c166 14 15 (.iload 2) := ⟨rfl, rfl⟩
theorem fModel_ends_15 : w_ic am_c166 15 16 .ne 38 := ⟨rfl, rfl⟩
theorem fModel_ends_16 : w_fe am_c166 16 17 (.iload 3) := ⟨rfl, rfl⟩
theorem fModel_ends_17 : w_if am_c166 17 18 .eq 26 := ⟨rfl, rfl⟩
theorem fModel_ends_18 : w_fe am_c166 18 19 (.aload 0) := ⟨rfl, rfl⟩
theorem fModel_ends_19 : w_fe am_c166 19 20 (.aload 0) := ⟨rfl, rfl⟩
theorem fModel_ends_20 : w_fe am_c166 20 21 (.getfield 917) := ⟨rfl, rfl⟩
theorem fModel_ends_21 : w_fe am_c166 21 22 (.bipush 5) := ⟨rfl, rfl⟩
theorem fModel_ends_22 : w_fe am_c166 22 23 (.iadd) := ⟨rfl, rfl⟩
theorem fModel_ends_23 : w_fe am_c166 23 24 (.invokestatic 161) := ⟨rfl, rfl⟩
theorem fModel_ends_24 : w_fe am_c166 24 25 (.iload 3) := ⟨rfl, rfl⟩
theorem fModel_ends_25 : w_ic am_c166 25 26 .ne 38 := ⟨rfl, rfl⟩
theorem fModel_ends_26 : w_fe am_c166 26 27 (.iload 4) := ⟨rfl, rfl⟩
theorem fModel_ends_27 : w_if am_c166 27 28 .eq 36 := ⟨rfl, rfl⟩
theorem fModel_ends_28 : w_fe am_c166 28 29 (.aload 0) := ⟨rfl, rfl⟩
theorem fModel_ends_29 : w_fe am_c166 29 30 (.aload 0) := ⟨rfl, rfl⟩
theorem fModel_ends_30 : w_fe am_c166 30 31 (.getfield 917) := ⟨rfl, rfl⟩
theorem fModel_ends_31 : w_fe am_c166 31 32 (.bipush 6) := ⟨rfl, rfl⟩
theorem fModel_ends_32 : w_fe am_c166 32 33 (.iadd) := ⟨rfl, rfl⟩
theorem fModel_ends_33 : w_fe am_c166 33 34 (.invokestatic 161) := ⟨rfl, rfl⟩
theorem fModel_ends_34 : w_fe am_c166 34 35 (.iload 4) := ⟨rfl, rfl⟩
theorem fModel_ends_35 : w_ic am_c166 35 36 .ne 38 := ⟨rfl, rfl⟩
theorem fModel_ends_36 : w_fe am_c166 36 37 (.bipush 1) := ⟨rfl, rfl⟩
theorem fModel_ends_37 : w_gt am_c166 37 39 := rfl
theorem fModel_ends_38 : w_fe am_c166 38 39 (.bipush 0) := ⟨rfl, rfl⟩
theorem fModel_ends_39 : w_fe am_c166 39 40 (.ireturn) := ⟨rfl, rfl⟩
set_option maxRecDepth 20000 in
theorem bModel_ends_0 {xs : List Int} {d : Nat} {Q : Option w_V → w_M → Prop} {x1 : Int} {x2 : Int} {x3 : Int} {x4 : Int} {σ : w_M}
    (h : w_in ((σ 122 17) + 3) ∧ p_Model_byteAt ((σ 122 17) + 3) σ ∧ (∀ (y1 : Int), y1 = v_Model_byteAt ((σ 122 17) + 3) σ → ((¬ y1 = x1 → Q (some (.inl 0)) σ) ∧ (y1 = x1 → (w_in ((σ 122 17) + 4) ∧ p_Model_byteAt ((σ 122 17) + 4) σ ∧ (∀ (y2 : Int), y2 = v_Model_byteAt ((σ 122 17) + 4) σ → ((¬ y2 = x2 → Q (some (.inl 0)) σ) ∧ (y2 = x2 → ((x3 = 0 → ((x4 = 0 → Q (some (.inl 1)) σ) ∧ (¬ x4 = 0 → (w_in ((σ 122 17) + 6) ∧ p_Model_byteAt ((σ 122 17) + 6) σ ∧ (∀ (y3 : Int), y3 = v_Model_byteAt ((σ 122 17) + 6) σ → ((¬ y3 = x4 → Q (some (.inl 0)) σ) ∧ (y3 = x4 → Q (some (.inl 1)) σ))))))) ∧ (¬ x3 = 0 → (w_in ((σ 122 17) + 5) ∧ p_Model_byteAt ((σ 122 17) + 5) σ ∧ (∀ (y6 : Int), y6 = v_Model_byteAt ((σ 122 17) + 5) σ → ((¬ y6 = x3 → Q (some (.inl 0)) σ) ∧ (y6 = x3 → ((x4 = 0 → Q (some (.inl 1)) σ) ∧ (¬ x4 = 0 → (w_in ((σ 122 17) + 6) ∧ p_Model_byteAt ((σ 122 17) + 6) σ ∧ (∀ (y7 : Int), y7 = v_Model_byteAt ((σ 122 17) + 6) σ → ((¬ y7 = x4 → Q (some (.inl 0)) σ) ∧ (y7 = x4 → Q (some (.inl 1)) σ)))))))))))))))))))) : w_Call (xs, (d + 1)) 166 [.inr (.inr (9, 122)), .inl x1, .inl x2, .inl x3, .inl x4] σ Q :=
  (w_mk (mid := 166) (by decide) rfl rfl rfl rfl rfl (Nat.le_of_ble_eq_true rfl) ⟨rfl, Or.inl (by decide)⟩ (wi_aload0 fModel_ends_0 (wi_aload0 fModel_ends_1 (wi_getf917 fModel_ends_2 (wi_bipush fModel_ends_3 (wi_iadd fModel_ends_4 h.1 (wi_call2 fModel_ends_5 (Nat.le_of_ble_eq_true rfl) (k_Model_byteAt h.2.1 (wi_iload1 fModel_ends_6 (wi_ic_ne fModel_ends_7 (fun c13 => (wi_bipush fModel_ends_38 (wi_ret2 fModel_ends_39 (by decide) ((h.2.2 _ rfl).1 c13)))) (fun c13 => (wi_aload0 fModel_ends_8 (wi_aload0 fModel_ends_9 (wi_getf917 fModel_ends_10 (wi_bipush fModel_ends_11 (wi_iadd fModel_ends_12 ((h.2.2 _ rfl).2 c13).1 (wi_call2 fModel_ends_13 (Nat.le_of_ble_eq_true rfl) (k_Model_byteAt ((h.2.2 _ rfl).2 c13).2.1 (wi_iload2 fModel_ends_14 (wi_ic_ne fModel_ends_15 (fun c12 => (wi_bipush fModel_ends_38 (wi_ret2 fModel_ends_39 (by decide) ((((h.2.2 _ rfl).2 c13).2.2 _ rfl).1 c12)))) (fun c12 => (wi_iload3 fModel_ends_16 (wi_if_eq fModel_ends_17 (fun c11 => (wi_iload4 fModel_ends_26 (wi_if_eq fModel_ends_27 (fun c5 => (wi_bipush fModel_ends_36 (wi_goto fModel_ends_37 (wi_ret2 fModel_ends_39 (by decide) ((((((h.2.2 _ rfl).2 c13).2.2 _ rfl).2 c12).1 c11).1 c5))))) (fun c5 => (wi_aload0 fModel_ends_28 (wi_aload0 fModel_ends_29 (wi_getf917 fModel_ends_30 (wi_bipush fModel_ends_31 (wi_iadd fModel_ends_32 ((((((h.2.2 _ rfl).2 c13).2.2 _ rfl).2 c12).1 c11).2 c5).1 (wi_call2 fModel_ends_33 (Nat.le_of_ble_eq_true rfl) (k_Model_byteAt ((((((h.2.2 _ rfl).2 c13).2.2 _ rfl).2 c12).1 c11).2 c5).2.1 (wi_iload4 fModel_ends_34 (wi_ic_ne fModel_ends_35 (fun c4 => (wi_bipush fModel_ends_38 (wi_ret2 fModel_ends_39 (by decide) ((((((((h.2.2 _ rfl).2 c13).2.2 _ rfl).2 c12).1 c11).2 c5).2.2 _ rfl).1 c4)))) (fun c4 => (wi_bipush fModel_ends_36 (wi_goto fModel_ends_37 (wi_ret2 fModel_ends_39 (by decide) ((((((((h.2.2 _ rfl).2 c13).2.2 _ rfl).2 c12).1 c11).2 c5).2.2 _ rfl).2 c4)))))))))))))))))) (fun c11 => (wi_aload0 fModel_ends_18 (wi_aload0 fModel_ends_19 (wi_getf917 fModel_ends_20 (wi_bipush fModel_ends_21 (wi_iadd fModel_ends_22 (((((h.2.2 _ rfl).2 c13).2.2 _ rfl).2 c12).2 c11).1 (wi_call2 fModel_ends_23 (Nat.le_of_ble_eq_true rfl) (k_Model_byteAt (((((h.2.2 _ rfl).2 c13).2.2 _ rfl).2 c12).2 c11).2.1 (wi_iload3 fModel_ends_24 (wi_ic_ne fModel_ends_25 (fun c10 => (wi_bipush fModel_ends_38 (wi_ret2 fModel_ends_39 (by decide) (((((((h.2.2 _ rfl).2 c13).2.2 _ rfl).2 c12).2 c11).2.2 _ rfl).1 c10)))) (fun c10 => (wi_iload4 fModel_ends_26 (wi_if_eq fModel_ends_27 (fun c9 => (wi_bipush fModel_ends_36 (wi_goto fModel_ends_37 (wi_ret2 fModel_ends_39 (by decide) ((((((((h.2.2 _ rfl).2 c13).2.2 _ rfl).2 c12).2 c11).2.2 _ rfl).2 c10).1 c9))))) (fun c9 => (wi_aload0 fModel_ends_28 (wi_aload0 fModel_ends_29 (wi_getf917 fModel_ends_30 (wi_bipush fModel_ends_31 (wi_iadd fModel_ends_32 ((((((((h.2.2 _ rfl).2 c13).2.2 _ rfl).2 c12).2 c11).2.2 _ rfl).2 c10).2 c9).1 (wi_call2 fModel_ends_33 (Nat.le_of_ble_eq_true rfl) (k_Model_byteAt ((((((((h.2.2 _ rfl).2 c13).2.2 _ rfl).2 c12).2 c11).2.2 _ rfl).2 c10).2 c9).2.1 (wi_iload4 fModel_ends_34 (wi_ic_ne fModel_ends_35 (fun c8 => (wi_bipush fModel_ends_38 (wi_ret2 fModel_ends_39 (by decide) ((((((((((h.2.2 _ rfl).2 c13).2.2 _ rfl).2 c12).2 c11).2.2 _ rfl).2 c10).2 c9).2.2 _ rfl).1 c8)))) (fun c8 => (wi_bipush fModel_ends_36 (wi_goto fModel_ends_37 (wi_ret2 fModel_ends_39 (by decide) ((((((((((h.2.2 _ rfl).2 c13).2.2 _ rfl).2 c12).2 c11).2.2 _ rfl).2 c10).2 c9).2.2 _ rfl).2 c8)))))))))))))))))))))))))))))))))))))))))))))))))))
theorem k_Model_is {xs : List Int} {d : Nat} {Q : Option w_V → w_M → Prop} {x1 : Int} {x2 : Int} {x3 : Int} {x4 : Int} {σ : w_M} (hp : p_Model_is x1 x2 x3 x4 σ) (hQ : Q (some (.inl (w_bi (P_Model_is x1 x2 x3 x4 σ)))) σ) : w_Call (xs, d + 1) 165 [.inr (.inr (9, 122)), .inl x1, .inl x2, .inl x3, .inl x4] σ Q := by
  have h : m_pos σ := hp
  have h1 := h.1.1
  have h2 := h.2
  have no : ¬ P_Model_is x1 x2 x3 x4 σ → Q (some (.inl 0)) σ := fun q => by rw [w_bi_f q] at hQ; exact hQ
  have b0 := mb_0 h
  have b1 := mb_at h 1
  have b2 := mb_at h 2
  refine bModel_is_0 ⟨⟨by omega, by omega⟩, fun c => no (fun q => c q.1), fun c => ⟨b0.1, fun y1 e1 => ⟨fun c1 => no (fun q => c1 (by rw [e1, b0.2]; exact q.2.1)), fun c1 => ⟨⟨by omega, by omega⟩, b1.1, fun y2 e2 => ⟨fun c2 => no (fun q => c2 (by rw [e2]; exact b1.2.trans q.2.2.1)), fun c2 => ⟨⟨by omega, by omega⟩, b2.1, fun y3 e3 => ⟨fun c3 => no (fun q => c3 (by rw [e3]; exact b2.2.trans q.2.2.2)), fun c3 => ?_⟩⟩⟩⟩⟩⟩⟩
  rw [w_bi_t (show P_Model_is x1 x2 x3 x4 σ from ⟨c, by rw [← b0.2, ← e1]; exact c1, by rw [← b1.2]; exact e2.symm.trans c2, by rw [← b2.2]; exact e3.symm.trans c3⟩)] at hQ
  exact hQ
theorem k_Model_ends {xs : List Int} {d : Nat} {Q : Option w_V → w_M → Prop} {x1 : Int} {x2 : Int} {x3 : Int} {x4 : Int} {σ : w_M} (hp : p_Model_ends x1 x2 x3 x4 σ) (hQ : Q (some (.inl (w_bi (P_Model_ends x1 x2 x3 x4 σ)))) σ) : w_Call (xs, d + 1) 166 [.inr (.inr (9, 122)), .inl x1, .inl x2, .inl x3, .inl x4] σ Q := by
  have h : m_pos σ := hp
  have h1 := h.1.1
  have h2 := h.2
  have no : ¬ P_Model_ends x1 x2 x3 x4 σ → Q (some (.inl 0)) σ := fun q => by rw [w_bi_f q] at hQ; exact hQ
  have ys : P_Model_ends x1 x2 x3 x4 σ → Q (some (.inl 1)) σ := fun q => by rw [w_bi_t q] at hQ; exact hQ
  have b3 := mb_at h 3
  have b4 := mb_at h 4
  have b5 := mb_at h 5
  have b6 := mb_at h 6
  refine bModel_ends_0 ⟨⟨by omega, by omega⟩, b3.1, fun y1 e1 => ⟨fun c1 => no (fun q => c1 (e1.trans (b3.2.trans q.1))), fun c1 => ⟨⟨by omega, by omega⟩, b4.1, fun y2 e2 => ⟨fun c2 => no (fun q => c2 (e2.trans (b4.2.trans q.2.1))), fun c2 => ?_⟩⟩⟩⟩
  have q3 : mb σ 3 = x1 := b3.2.symm.trans (e1.symm.trans c1)
  have q4 : mb σ 4 = x2 := b4.2.symm.trans (e2.symm.trans c2)
  refine ⟨fun c3 => ⟨fun c4 => ys ⟨q3, q4, Or.inl c3, Or.inl c4⟩, fun c4 => ⟨⟨by omega, by omega⟩, b6.1, fun y3 e3 => ⟨fun c5 => no (fun q => q.2.2.2.elim c4 (fun q => c5 (e3.trans (b6.2.trans q)))), fun c5 => ys ⟨q3, q4, Or.inl c3, Or.inr (b6.2.symm.trans (e3.symm.trans c5))⟩⟩⟩⟩, fun c3 => ⟨⟨by omega, by omega⟩, b5.1, fun y6 e6 => ⟨fun c5 => no (fun q => q.2.2.1.elim c3 (fun q => c5 (e6.trans (b5.2.trans q)))), fun c5 => ⟨fun c4 => ys ⟨q3, q4, Or.inr (b5.2.symm.trans (e6.symm.trans c5)), Or.inl c4⟩, fun c4 => ⟨⟨by omega, by omega⟩, b6.1, fun y7 e7 => ⟨fun c6 => no (fun q => q.2.2.2.elim c4 (fun q => c6 (e7.trans (b6.2.trans q)))), fun c6 => ys ⟨q3, q4, Or.inr (b5.2.symm.trans (e6.symm.trans c5)), Or.inr (b6.2.symm.trans (e7.symm.trans c6))⟩⟩⟩⟩⟩⟩⟩
noncomputable def p_Model_lineNow (σ : w_M) : Prop := m_pos σ
noncomputable def v_Model_lineNow (σ : w_M) : Int := if ln_n (mT σ) (mL σ) (σ 122 17).toNat (σ 122 16).toNat = -1 then -4 else ln_n (mT σ) (mL σ) (σ 122 17).toNat (σ 122 16).toNat
theorem nm_m {σ : w_M} (h : m_pos σ) : (nm_is (mT σ) (mL σ) (σ 122 17).toNat (σ 122 16).toNat 0 ↔ P_Model_is 5 110 105 103 σ ∧ P_Model_ends 104 116 0 0 σ) ∧ (nm_is (mT σ) (mL σ) (σ 122 17).toNat (σ 122 16).toNat 1 ↔ P_Model_is 5 115 116 114 σ ∧ P_Model_ends 105 112 0 0 σ) ∧ (nm_is (mT σ) (mL σ) (σ 122 17).toNat (σ 122 16).toNat 2 ↔ P_Model_is 6 114 101 97 σ ∧ P_Model_ends 112 101 114 0 σ) ∧ (nm_is (mT σ) (mL σ) (σ 122 17).toNat (σ 122 16).toNat 3 ↔ P_Model_is 5 99 108 111 σ ∧ P_Model_ends 117 100 0 0 σ) ∧ (nm_is (mT σ) (mL σ) (σ 122 17).toNat (σ 122 16).toNat 4 ↔ P_Model_is 7 116 104 105 σ ∧ P_Model_ends 115 116 108 101 σ) := by
  have h1 := h.1.1
  have h2 := h.2
  unfold nm_is P_Model_is P_Model_ends mb
  refine ⟨?_, ?_, ?_, ?_, ?_⟩
  · constructor
    · rintro ⟨a, b⟩
      have a' : (σ 122 16).toNat = (σ 122 17).toNat + 5 := a
      exact ⟨⟨by omega, b 0 (by decide), b 1 (by decide), b 2 (by decide)⟩, b 3 (by decide), b 4 (by decide), Or.inl rfl, Or.inl rfl⟩
    · rintro ⟨⟨a, b0, b1, b2⟩, b3, b4, -, -⟩
      refine ⟨by show (σ 122 16).toNat = (σ 122 17).toNat + 5; omega, fun i hi => ?_⟩
      have hi' : i < 5 := hi
      rcases (show i = 0 ∨ i = 1 ∨ i = 2 ∨ i = 3 ∨ i = 4 by omega) with rfl | rfl | rfl | rfl | rfl <;> assumption
  · constructor
    · rintro ⟨a, b⟩
      have a' : (σ 122 16).toNat = (σ 122 17).toNat + 5 := a
      exact ⟨⟨by omega, b 0 (by decide), b 1 (by decide), b 2 (by decide)⟩, b 3 (by decide), b 4 (by decide), Or.inl rfl, Or.inl rfl⟩
    · rintro ⟨⟨a, b0, b1, b2⟩, b3, b4, -, -⟩
      refine ⟨by show (σ 122 16).toNat = (σ 122 17).toNat + 5; omega, fun i hi => ?_⟩
      have hi' : i < 5 := hi
      rcases (show i = 0 ∨ i = 1 ∨ i = 2 ∨ i = 3 ∨ i = 4 by omega) with rfl | rfl | rfl | rfl | rfl <;> assumption
  · constructor
    · rintro ⟨a, b⟩
      have a' : (σ 122 16).toNat = (σ 122 17).toNat + 6 := a
      exact ⟨⟨by omega, b 0 (by decide), b 1 (by decide), b 2 (by decide)⟩, b 3 (by decide), b 4 (by decide), Or.inr (b 5 (by decide)), Or.inl rfl⟩
    · rintro ⟨⟨a, b0, b1, b2⟩, b3, b4, b5, -⟩
      have b5' := b5.resolve_left (by decide)
      refine ⟨by show (σ 122 16).toNat = (σ 122 17).toNat + 6; omega, fun i hi => ?_⟩
      have hi' : i < 6 := hi
      rcases (show i = 0 ∨ i = 1 ∨ i = 2 ∨ i = 3 ∨ i = 4 ∨ i = 5 by omega) with rfl | rfl | rfl | rfl | rfl | rfl <;> assumption
  · constructor
    · rintro ⟨a, b⟩
      have a' : (σ 122 16).toNat = (σ 122 17).toNat + 5 := a
      exact ⟨⟨by omega, b 0 (by decide), b 1 (by decide), b 2 (by decide)⟩, b 3 (by decide), b 4 (by decide), Or.inl rfl, Or.inl rfl⟩
    · rintro ⟨⟨a, b0, b1, b2⟩, b3, b4, -, -⟩
      refine ⟨by show (σ 122 16).toNat = (σ 122 17).toNat + 5; omega, fun i hi => ?_⟩
      have hi' : i < 5 := hi
      rcases (show i = 0 ∨ i = 1 ∨ i = 2 ∨ i = 3 ∨ i = 4 by omega) with rfl | rfl | rfl | rfl | rfl <;> assumption
  · constructor
    · rintro ⟨a, b⟩
      have a' : (σ 122 16).toNat = (σ 122 17).toNat + 7 := a
      exact ⟨⟨by omega, b 0 (by decide), b 1 (by decide), b 2 (by decide)⟩, b 3 (by decide), b 4 (by decide), Or.inr (b 5 (by decide)), Or.inr (b 6 (by decide))⟩
    · rintro ⟨⟨a, b0, b1, b2⟩, b3, b4, b5, b6⟩
      have b5' := b5.resolve_left (by decide)
      have b6' := b6.resolve_left (by decide)
      refine ⟨by show (σ 122 16).toNat = (σ 122 17).toNat + 7; omega, fun i hi => ?_⟩
      have hi' : i < 7 := hi
      rcases (show i = 0 ∨ i = 1 ∨ i = 2 ∨ i = 3 ∨ i = 4 ∨ i = 5 ∨ i = 6 by omega) with rfl | rfl | rfl | rfl | rfl | rfl | rfl <;> assumption
theorem fModel_lineNow_0 : w_fe am_c164 0 1 (.aload 0) := ⟨rfl, rfl⟩
theorem fModel_lineNow_1 : w_fe am_c164 1 2 (.bipush 5) := ⟨rfl, rfl⟩
theorem fModel_lineNow_2 : w_fe am_c164 2 3 (.bipush 110) := ⟨rfl, rfl⟩
theorem fModel_lineNow_3 : w_fe am_c164 3 4 (.bipush 105) := ⟨rfl, rfl⟩
theorem fModel_lineNow_4 : w_fe am_c164 4 5 (.bipush 103) := ⟨rfl, rfl⟩
theorem fModel_lineNow_5 : w_fe am_c164 5 6 (.invokestatic 165) := ⟨rfl, rfl⟩
theorem fModel_lineNow_6 : w_if am_c164 6 7 .eq 16 := ⟨rfl, rfl⟩
theorem fModel_lineNow_7 : w_fe am_c164 7 8 (.aload 0) := ⟨rfl, rfl⟩
theorem fModel_lineNow_8 : w_fe am_c164 8 9 (.bipush 104) := ⟨rfl, rfl⟩
theorem fModel_lineNow_9 : w_fe am_c164 9 10 (.bipush 116) := ⟨rfl, rfl⟩
theorem fModel_lineNow_10 : w_fe am_c164 10 11 (.bipush 0) := ⟨rfl, rfl⟩
theorem fModel_lineNow_11 : w_fe am_c164 11 12 (.bipush 0) := ⟨rfl, rfl⟩
theorem fModel_lineNow_12 : w_fe am_c164 12 13 (.invokestatic 166) := ⟨rfl, rfl⟩
theorem fModel_lineNow_13 : w_if am_c164 13 14 .eq 16 := ⟨rfl, rfl⟩
theorem fModel_lineNow_14 : w_fe am_c164 14 15 (.bipush 0) := ⟨rfl, rfl⟩
theorem fModel_lineNow_15 : w_fe am_c164 15 16 (.ireturn) := ⟨rfl, rfl⟩
theorem fModel_lineNow_16 : w_fe am_c164 16 17 (.aload 0) := ⟨rfl, rfl⟩
theorem fModel_lineNow_17 : w_fe am_c164 17 18 (.bipush 5) := ⟨rfl, rfl⟩
theorem fModel_lineNow_18 : w_fe am_c164 18 19 (.bipush 115) := ⟨rfl, rfl⟩
theorem fModel_lineNow_19 : w_fe am_c164 19 20 (.bipush 116) := ⟨rfl, rfl⟩
theorem fModel_lineNow_20 : w_fe am_c164 20 21 (.bipush 114) := ⟨rfl, rfl⟩
theorem fModel_lineNow_21 : w_fe am_c164 21 22 (.invokestatic 165) := ⟨rfl, rfl⟩
theorem fModel_lineNow_22 : w_if am_c164 22 23 .eq 32 := ⟨rfl, rfl⟩
theorem fModel_lineNow_23 : w_fe am_c164 23 24 (.aload 0) := ⟨rfl, rfl⟩
theorem fModel_lineNow_24 : w_fe am_c164 24 25 (.bipush 105) := ⟨rfl, rfl⟩
theorem fModel_lineNow_25 : w_fe am_c164 25 26 (.bipush 112) := ⟨rfl, rfl⟩
theorem fModel_lineNow_26 : w_fe am_c164 26 27 (.bipush 0) := ⟨rfl, rfl⟩
theorem fModel_lineNow_27 : w_fe am_c164 27 28 (.bipush 0) := ⟨rfl, rfl⟩
theorem fModel_lineNow_28 : w_fe am_c164 28 29 (.invokestatic 166) := ⟨rfl, rfl⟩
theorem fModel_lineNow_29 : w_if am_c164 29 30 .eq 32 := ⟨rfl, rfl⟩
theorem fModel_lineNow_30 : w_fe am_c164 30 31 (.bipush 1) := ⟨rfl, rfl⟩
theorem fModel_lineNow_31 : w_fe am_c164 31 32 (.ireturn) := ⟨rfl, rfl⟩
theorem fModel_lineNow_32 : w_fe am_c164 32 33 (.aload 0) := ⟨rfl, rfl⟩
theorem fModel_lineNow_33 : w_fe am_c164 33 34 (.bipush 6) := ⟨rfl, rfl⟩
theorem fModel_lineNow_34 : w_fe am_c164 34 35 (.bipush 114) := ⟨rfl, rfl⟩
theorem fModel_lineNow_35 : w_fe am_c164 35 36 (.bipush 101) := ⟨rfl, rfl⟩
theorem fModel_lineNow_36 : w_fe am_c164 36 37 (.bipush 97) := ⟨rfl, rfl⟩
theorem fModel_lineNow_37 : w_fe am_c164 37 38 (.invokestatic 165) := ⟨rfl, rfl⟩
theorem fModel_lineNow_38 : w_if am_c164 38 39 .eq 48 := ⟨rfl, rfl⟩
theorem fModel_lineNow_39 : w_fe am_c164 39 40 (.aload 0) := ⟨rfl, rfl⟩
theorem fModel_lineNow_40 : w_fe am_c164 40 41 (.bipush 112) := ⟨rfl, rfl⟩
theorem fModel_lineNow_41 : w_fe am_c164 41 42 (.bipush 101) := ⟨rfl, rfl⟩
theorem fModel_lineNow_42 : w_fe am_c164 42 43 (.bipush 114) := ⟨rfl, rfl⟩
theorem fModel_lineNow_43 : w_fe am_c164 43 44 (.bipush 0) := ⟨rfl, rfl⟩
theorem fModel_lineNow_44 : w_fe am_c164 44 45 (.invokestatic 166) := ⟨rfl, rfl⟩
theorem fModel_lineNow_45 : w_if am_c164 45 46 .eq 48 := ⟨rfl, rfl⟩
theorem fModel_lineNow_46 : w_fe am_c164 46 47 (.bipush 2) := ⟨rfl, rfl⟩
theorem fModel_lineNow_47 : w_fe am_c164 47 48 (.ireturn) := ⟨rfl, rfl⟩
theorem fModel_lineNow_48 : w_fe am_c164 48 49 (.aload 0) := ⟨rfl, rfl⟩
theorem fModel_lineNow_49 : w_fe am_c164 49 50 (.bipush 5) := ⟨rfl, rfl⟩
theorem fModel_lineNow_50 : w_fe am_c164 50 51 (.bipush 99) := ⟨rfl, rfl⟩
theorem fModel_lineNow_51 : w_fe am_c164 51 52 (.bipush 108) := ⟨rfl, rfl⟩
theorem fModel_lineNow_52 : w_fe am_c164 52 53 (.bipush 111) := ⟨rfl, rfl⟩
theorem fModel_lineNow_53 : w_fe am_c164 53 54 (.invokestatic 165) := ⟨rfl, rfl⟩
theorem fModel_lineNow_54 : w_if am_c164 54 55 .eq 64 := ⟨rfl, rfl⟩
theorem fModel_lineNow_55 : w_fe am_c164 55 56 (.aload 0) := ⟨rfl, rfl⟩
theorem fModel_lineNow_56 : w_fe am_c164 56 57 (.bipush 117) := ⟨rfl, rfl⟩
theorem fModel_lineNow_57 : w_fe am_c164 57 58 (.bipush 100) := ⟨rfl, rfl⟩
theorem fModel_lineNow_58 : w_fe am_c164 58 59 (.bipush 0) := ⟨rfl, rfl⟩
theorem fModel_lineNow_59 : w_fe am_c164 59 60 (.bipush 0) := ⟨rfl, rfl⟩
theorem fModel_lineNow_60 : w_fe am_c164 60 61 (.invokestatic 166) := ⟨rfl, rfl⟩
theorem fModel_lineNow_61 : w_if am_c164 61 62 .eq 64 := ⟨rfl, rfl⟩
theorem fModel_lineNow_62 : w_fe am_c164 62 63 (.bipush 3) := ⟨rfl, rfl⟩
theorem fModel_lineNow_63 : w_gt am_c164 63 81 := rfl
theorem fModel_lineNow_64 : w_fe am_c164 64 65 (.aload 0) := ⟨rfl, rfl⟩
theorem fModel_lineNow_65 : w_fe am_c164 65 66 (.bipush 7) := ⟨rfl, rfl⟩
theorem fModel_lineNow_66 : w_fe am_c164 66 67 (.bipush 116) := ⟨rfl, rfl⟩
theorem fModel_lineNow_67 : w_fe am_c164 67 68 (.bipush 104) := ⟨rfl, rfl⟩
theorem fModel_lineNow_68 : w_fe am_c164 68 69 (.bipush 105) := ⟨rfl, rfl⟩
theorem fModel_lineNow_69 : w_fe am_c164 69 70 (.invokestatic 165) := ⟨rfl, rfl⟩
theorem fModel_lineNow_70 : w_if am_c164 70 71 .eq 80 := ⟨rfl, rfl⟩
theorem fModel_lineNow_71 : w_fe am_c164 71 72 (.aload 0) := ⟨rfl, rfl⟩
theorem fModel_lineNow_72 : w_fe am_c164 72 73 (.bipush 115) := ⟨rfl, rfl⟩
theorem fModel_lineNow_73 : w_fe am_c164 73 74 (.bipush 116) := ⟨rfl, rfl⟩
theorem fModel_lineNow_74 : w_fe am_c164 74 75 (.bipush 108) := ⟨rfl, rfl⟩
theorem fModel_lineNow_75 : w_fe am_c164 75 76 (.bipush 101) := ⟨rfl, rfl⟩
theorem fModel_lineNow_76 : w_fe am_c164 76 77 (.invokestatic 166) := ⟨rfl, rfl⟩
theorem fModel_lineNow_77 : w_if am_c164 77 78 .eq 80 := ⟨rfl, rfl⟩
theorem fModel_lineNow_78 : w_fe am_c164 78 79 (.bipush 4) := ⟨rfl, rfl⟩
theorem fModel_lineNow_79 : w_gt am_c164 79 81 := rfl
theorem fModel_lineNow_80 : w_fe am_c164 80 81 (.bipush (-4)) := ⟨rfl, rfl⟩
theorem fModel_lineNow_81 : w_fe am_c164 81 82 (.ireturn) := ⟨rfl, rfl⟩
noncomputable def LModel_lineNow_16 (xs : List Int) (d : Nat) (Q : Option w_V → w_M → Prop)  (σ : w_M) : Prop := w_Ex (xs, d) 1 am_c164 Q 16 [some (.inr (.inr (9, 122)))] [] σ
noncomputable def LModel_lineNow_32 (xs : List Int) (d : Nat) (Q : Option w_V → w_M → Prop)  (σ : w_M) : Prop := w_Ex (xs, d) 1 am_c164 Q 32 [some (.inr (.inr (9, 122)))] [] σ
noncomputable def LModel_lineNow_48 (xs : List Int) (d : Nat) (Q : Option w_V → w_M → Prop)  (σ : w_M) : Prop := w_Ex (xs, d) 1 am_c164 Q 48 [some (.inr (.inr (9, 122)))] [] σ
noncomputable def LModel_lineNow_64 (xs : List Int) (d : Nat) (Q : Option w_V → w_M → Prop)  (σ : w_M) : Prop := w_Ex (xs, d) 1 am_c164 Q 64 [some (.inr (.inr (9, 122)))] [] σ
set_option maxRecDepth 20000 in
theorem bModel_lineNow_0 {xs : List Int} {d : Nat} {Q : Option w_V → w_M → Prop}  {σ : w_M}
    (h : p_Model_is 5 110 105 103 σ ∧ ((¬ (P_Model_is 5 110 105 103 σ) → LModel_lineNow_16 xs (d + 2) Q σ) ∧ ((P_Model_is 5 110 105 103 σ) → (p_Model_ends 104 116 0 0 σ ∧ ((¬ (P_Model_ends 104 116 0 0 σ) → LModel_lineNow_16 xs (d + 2) Q σ) ∧ ((P_Model_ends 104 116 0 0 σ) → Q (some (.inl 0)) σ)))))) : w_Call (xs, (d + 2)) 164 [.inr (.inr (9, 122))] σ Q :=
  (w_mk (mid := 164) (by decide) rfl rfl rfl rfl rfl (Nat.le_of_ble_eq_true rfl) ⟨rfl, Or.inl (by decide)⟩ (wi_aload0 fModel_lineNow_0 (wi_bipush fModel_lineNow_1 (wi_bipush fModel_lineNow_2 (wi_bipush fModel_lineNow_3 (wi_bipush fModel_lineNow_4 (wi_call5 fModel_lineNow_5 (Nat.le_of_ble_eq_true rfl) (k_Model_is h.1 (wi_ifb_eq fModel_lineNow_6 (fun c2 => (h.2.1 c2)) (fun c2 => (wi_aload0 fModel_lineNow_7 (wi_bipush fModel_lineNow_8 (wi_bipush fModel_lineNow_9 (wi_bipush fModel_lineNow_10 (wi_bipush fModel_lineNow_11 (wi_call5 fModel_lineNow_12 (Nat.le_of_ble_eq_true rfl) (k_Model_ends (h.2.2 c2).1 (wi_ifb_eq fModel_lineNow_13 (fun c1 => ((h.2.2 c2).2.1 c1)) (fun c1 => (wi_bipush fModel_lineNow_14 (wi_ret1 fModel_lineNow_15 ((h.2.2 c2).2.2 c1))))))))))))))))))))))
set_option maxRecDepth 20000 in
theorem bModel_lineNow_16 {xs : List Int} {d : Nat} {Q : Option w_V → w_M → Prop}  {σ : w_M}
    (h : p_Model_is 5 115 116 114 σ ∧ ((¬ (P_Model_is 5 115 116 114 σ) → LModel_lineNow_32 xs (d + 2) Q σ) ∧ ((P_Model_is 5 115 116 114 σ) → (p_Model_ends 105 112 0 0 σ ∧ ((¬ (P_Model_ends 105 112 0 0 σ) → LModel_lineNow_32 xs (d + 2) Q σ) ∧ ((P_Model_ends 105 112 0 0 σ) → Q (some (.inl 1)) σ)))))) : LModel_lineNow_16 xs (d + 2) Q  σ :=
  (wi_aload0 fModel_lineNow_16 (wi_bipush fModel_lineNow_17 (wi_bipush fModel_lineNow_18 (wi_bipush fModel_lineNow_19 (wi_bipush fModel_lineNow_20 (wi_call5 fModel_lineNow_21 (Nat.le_of_ble_eq_true rfl) (k_Model_is h.1 (wi_ifb_eq fModel_lineNow_22 (fun c2 => (h.2.1 c2)) (fun c2 => (wi_aload0 fModel_lineNow_23 (wi_bipush fModel_lineNow_24 (wi_bipush fModel_lineNow_25 (wi_bipush fModel_lineNow_26 (wi_bipush fModel_lineNow_27 (wi_call5 fModel_lineNow_28 (Nat.le_of_ble_eq_true rfl) (k_Model_ends (h.2.2 c2).1 (wi_ifb_eq fModel_lineNow_29 (fun c1 => ((h.2.2 c2).2.1 c1)) (fun c1 => (wi_bipush fModel_lineNow_30 (wi_ret1 fModel_lineNow_31 ((h.2.2 c2).2.2 c1)))))))))))))))))))))
set_option maxRecDepth 20000 in
theorem bModel_lineNow_32 {xs : List Int} {d : Nat} {Q : Option w_V → w_M → Prop}  {σ : w_M}
    (h : p_Model_is 6 114 101 97 σ ∧ ((¬ (P_Model_is 6 114 101 97 σ) → LModel_lineNow_48 xs (d + 2) Q σ) ∧ ((P_Model_is 6 114 101 97 σ) → (p_Model_ends 112 101 114 0 σ ∧ ((¬ (P_Model_ends 112 101 114 0 σ) → LModel_lineNow_48 xs (d + 2) Q σ) ∧ ((P_Model_ends 112 101 114 0 σ) → Q (some (.inl 2)) σ)))))) : LModel_lineNow_32 xs (d + 2) Q  σ :=
  (wi_aload0 fModel_lineNow_32 (wi_bipush fModel_lineNow_33 (wi_bipush fModel_lineNow_34 (wi_bipush fModel_lineNow_35 (wi_bipush fModel_lineNow_36 (wi_call5 fModel_lineNow_37 (Nat.le_of_ble_eq_true rfl) (k_Model_is h.1 (wi_ifb_eq fModel_lineNow_38 (fun c2 => (h.2.1 c2)) (fun c2 => (wi_aload0 fModel_lineNow_39 (wi_bipush fModel_lineNow_40 (wi_bipush fModel_lineNow_41 (wi_bipush fModel_lineNow_42 (wi_bipush fModel_lineNow_43 (wi_call5 fModel_lineNow_44 (Nat.le_of_ble_eq_true rfl) (k_Model_ends (h.2.2 c2).1 (wi_ifb_eq fModel_lineNow_45 (fun c1 => ((h.2.2 c2).2.1 c1)) (fun c1 => (wi_bipush fModel_lineNow_46 (wi_ret1 fModel_lineNow_47 ((h.2.2 c2).2.2 c1)))))))))))))))))))))
set_option maxRecDepth 20000 in
theorem bModel_lineNow_48 {xs : List Int} {d : Nat} {Q : Option w_V → w_M → Prop}  {σ : w_M}
    (h : p_Model_is 5 99 108 111 σ ∧ ((¬ (P_Model_is 5 99 108 111 σ) → LModel_lineNow_64 xs (d + 2) Q σ) ∧ ((P_Model_is 5 99 108 111 σ) → (p_Model_ends 117 100 0 0 σ ∧ ((¬ (P_Model_ends 117 100 0 0 σ) → LModel_lineNow_64 xs (d + 2) Q σ) ∧ ((P_Model_ends 117 100 0 0 σ) → Q (some (.inl 3)) σ)))))) : LModel_lineNow_48 xs (d + 2) Q  σ :=
  (wi_aload0 fModel_lineNow_48 (wi_bipush fModel_lineNow_49 (wi_bipush fModel_lineNow_50 (wi_bipush fModel_lineNow_51 (wi_bipush fModel_lineNow_52 (wi_call5 fModel_lineNow_53 (Nat.le_of_ble_eq_true rfl) (k_Model_is h.1 (wi_ifb_eq fModel_lineNow_54 (fun c2 => (h.2.1 c2)) (fun c2 => (wi_aload0 fModel_lineNow_55 (wi_bipush fModel_lineNow_56 (wi_bipush fModel_lineNow_57 (wi_bipush fModel_lineNow_58 (wi_bipush fModel_lineNow_59 (wi_call5 fModel_lineNow_60 (Nat.le_of_ble_eq_true rfl) (k_Model_ends (h.2.2 c2).1 (wi_ifb_eq fModel_lineNow_61 (fun c1 => ((h.2.2 c2).2.1 c1)) (fun c1 => (wi_bipush fModel_lineNow_62 (wi_goto fModel_lineNow_63 (wi_ret1 fModel_lineNow_81 ((h.2.2 c2).2.2 c1))))))))))))))))))))))
set_option maxRecDepth 20000 in
theorem bModel_lineNow_64 {xs : List Int} {d : Nat} {Q : Option w_V → w_M → Prop}  {σ : w_M}
    (h : p_Model_is 7 116 104 105 σ ∧ ((¬ (P_Model_is 7 116 104 105 σ) → Q (some (.inl (-4))) σ) ∧ ((P_Model_is 7 116 104 105 σ) → (p_Model_ends 115 116 108 101 σ ∧ ((¬ (P_Model_ends 115 116 108 101 σ) → Q (some (.inl (-4))) σ) ∧ ((P_Model_ends 115 116 108 101 σ) → Q (some (.inl 4)) σ)))))) : LModel_lineNow_64 xs (d + 2) Q  σ :=
  (wi_aload0 fModel_lineNow_64 (wi_bipush fModel_lineNow_65 (wi_bipush fModel_lineNow_66 (wi_bipush fModel_lineNow_67 (wi_bipush fModel_lineNow_68 (wi_call5 fModel_lineNow_69 (Nat.le_of_ble_eq_true rfl) (k_Model_is h.1 (wi_ifb_eq fModel_lineNow_70 (fun c2 => (wi_bipush fModel_lineNow_80 (wi_ret1 fModel_lineNow_81 (h.2.1 c2)))) (fun c2 => (wi_aload0 fModel_lineNow_71 (wi_bipush fModel_lineNow_72 (wi_bipush fModel_lineNow_73 (wi_bipush fModel_lineNow_74 (wi_bipush fModel_lineNow_75 (wi_call5 fModel_lineNow_76 (Nat.le_of_ble_eq_true rfl) (k_Model_ends (h.2.2 c2).1 (wi_ifb_eq fModel_lineNow_77 (fun c1 => (wi_bipush fModel_lineNow_80 (wi_ret1 fModel_lineNow_81 ((h.2.2 c2).2.1 c1)))) (fun c1 => (wi_bipush fModel_lineNow_78 (wi_goto fModel_lineNow_79 (wi_ret1 fModel_lineNow_81 ((h.2.2 c2).2.2 c1))))))))))))))))))))))
theorem k_Model_lineNow {xs : List Int} {d : Nat} {Q : Option w_V → w_M → Prop}  {σ : w_M} (hp : p_Model_lineNow σ) (hQ : Q (some (.inl (v_Model_lineNow σ))) σ) : w_Call (xs, d + 2) 164 [.inr (.inr (9, 122))] σ Q := by
  have h : m_pos σ := hp
  obtain ⟨n0, n1, n2, n3, n4⟩ := nm_m h
  unfold v_Model_lineNow at hQ
  have hit : ∀ k : Nat, k < 5 → ln_k (mT σ) (mL σ) (σ 122 17).toNat (σ 122 16).toNat k = -1 → nm_is (mT σ) (mL σ) (σ 122 17).toNat (σ 122 16).toNat k → Q (some (.inl (k : Int))) σ := fun k hk h0 h1 => by
    rw [ln_hit h0 h1 hk, if_neg (by omega)] at hQ
    exact hQ
  have m0 : ln_k (mT σ) (mL σ) (σ 122 17).toNat (σ 122 16).toNat 0 = -1 := rfl
  have s4 : ln_k (mT σ) (mL σ) (σ 122 17).toNat (σ 122 16).toNat 4 = -1 → LModel_lineNow_64 xs (d + 2) Q σ := fun e => by
    have miss : ¬ nm_is (mT σ) (mL σ) (σ 122 17).toNat (σ 122 16).toNat 4 → Q (some (.inl (-4))) σ := fun q => by
      have e5 : ln_n (mT σ) (mL σ) (σ 122 17).toNat (σ 122 16).toNat = -1 := ln_miss e q
      rw [if_pos e5] at hQ
      exact hQ
    exact bModel_lineNow_64 ⟨h, fun c => miss (fun q => c (n4.mp q).1), fun c => ⟨h, fun c2 => miss (fun q => c2 (n4.mp q).2), fun c2 => hit 4 (by decide) e (n4.mpr ⟨c, c2⟩)⟩⟩
  have s3 : ln_k (mT σ) (mL σ) (σ 122 17).toNat (σ 122 16).toNat 3 = -1 → LModel_lineNow_48 xs (d + 2) Q σ := fun e =>
    bModel_lineNow_48 ⟨h, fun c => s4 (ln_miss e (fun q => c (n3.mp q).1)), fun c => ⟨h, fun c2 => s4 (ln_miss e (fun q => c2 (n3.mp q).2)), fun c2 => hit 3 (by decide) e (n3.mpr ⟨c, c2⟩)⟩⟩
  have s2 : ln_k (mT σ) (mL σ) (σ 122 17).toNat (σ 122 16).toNat 2 = -1 → LModel_lineNow_32 xs (d + 2) Q σ := fun e =>
    bModel_lineNow_32 ⟨h, fun c => s3 (ln_miss e (fun q => c (n2.mp q).1)), fun c => ⟨h, fun c2 => s3 (ln_miss e (fun q => c2 (n2.mp q).2)), fun c2 => hit 2 (by decide) e (n2.mpr ⟨c, c2⟩)⟩⟩
  have s1 : ln_k (mT σ) (mL σ) (σ 122 17).toNat (σ 122 16).toNat 1 = -1 → LModel_lineNow_16 xs (d + 2) Q σ := fun e =>
    bModel_lineNow_16 ⟨h, fun c => s2 (ln_miss e (fun q => c (n1.mp q).1)), fun c => ⟨h, fun c2 => s2 (ln_miss e (fun q => c2 (n1.mp q).2)), fun c2 => hit 1 (by decide) e (n1.mpr ⟨c, c2⟩)⟩⟩
  exact bModel_lineNow_0 ⟨h, fun c => s1 (ln_miss m0 (fun q => c (n0.mp q).1)), fun c => ⟨h, fun c2 => s1 (ln_miss m0 (fun q => c2 (n0.mp q).2)), fun c2 => hit 0 (by decide) m0 (n0.mpr ⟨c, c2⟩)⟩⟩
noncomputable def lo_ok (lo hi : Int) (σ : w_M) : Prop := σ 122 18 = 2 ∧ lo ≤ σ 122 19 ∧ σ 122 19 ≤ hi
noncomputable def p_Model_looked (_ _ : Int) (_ : w_M) : Prop := True
noncomputable def q_Model_looked (lo hi : Int) (σ : w_M) (x : Int) (σ' : w_M) : Prop := (¬ σ 122 20 = 0 → x = 0 ∧ σ' = σ) ∧ (σ 122 20 = 0 → (lo_ok lo hi σ → x = σ 122 19 ∧ σ' = σ) ∧ (¬ lo_ok lo hi σ → x = 0 ∧ σ' 122 20 = (if σ 122 18 = 2 then 3 else 2) ∧ σ' 122 21 = σ 122 17 ∧ mo_fr σ σ' ∧ ∀ j, j ≠ 20 → j ≠ 21 → σ' 122 j = σ 122 j))
theorem fModel_looked_0 : w_fe am_c169 0 1 (.aload 0) := ⟨rfl, rfl⟩
theorem fModel_looked_1 : w_fe am_c169 1 2 (.getfield 920) := ⟨rfl, rfl⟩
theorem fModel_looked_2 : w_if am_c169 2 3 .ne 13 := ⟨rfl, rfl⟩
theorem fModel_looked_3 : w_fe am_c169 3 4 (.aload 0) := ⟨rfl, rfl⟩
theorem fModel_looked_4 : w_fe am_c169 4 5 (.aload 0) := ⟨rfl, rfl⟩
theorem fModel_looked_5 : w_fe am_c169 5 6 (.getfield 918) := ⟨rfl, rfl⟩
theorem fModel_looked_6 : w_fe am_c169 6 7 (.bipush 2) := ⟨rfl, rfl⟩
theorem fModel_looked_7 : w_ic am_c169 7 8 .ne 10 := ⟨rfl, rfl⟩
theorem fModel_looked_8 : w_fe am_c169 8 9 (.bipush 1) := ⟨rfl, rfl⟩
theorem fModel_looked_9 : w_gt am_c169 9 11 := rfl
theorem fModel_looked_10 : w_fe am_c169 10 11 (.bipush 0) := ⟨rfl, rfl⟩
theorem fModel_looked_11 : w_fe am_c169 11 12 (.bipush 2) := ⟨rfl, rfl⟩
theorem fModel_looked_12 : w_fe am_c169 12 13 (.invokestatic 162) := ⟨rfl, rfl⟩
theorem fModel_looked_13 : w_fe am_c169 13 14 (.aload 0) := ⟨rfl, rfl⟩
theorem fModel_looked_14 : w_fe am_c169 14 15 (.getfield 920) := ⟨rfl, rfl⟩
theorem fModel_looked_15 : w_if am_c169 15 16 .ne 27 := ⟨rfl, rfl⟩
theorem fModel_looked_16 : w_fe am_c169 16 17 (.aload 0) := ⟨rfl, rfl⟩
theorem fModel_looked_17 : w_fe am_c169 17 18 (.aload 0) := ⟨rfl, rfl⟩
theorem fModel_looked_18 : w_fe am_c169 18 19 (.getfield 919) := ⟨rfl, rfl⟩
theorem fModel_looked_19 : w_fe am_c169 19 20 (.i2l) := ⟨rfl, rfl⟩
theorem fModel_looked_20 : w_fe am_c169 20 21 (.iload 1) := ⟨rfl, rfl⟩
theorem fModel_looked_21 : w_fe am_c169 21 22 (.i2l) := ⟨rfl, rfl⟩
theorem fModel_looked_22 : w_fe am_c169 22 23 (.iload 2) := ⟨rfl, rfl⟩
theorem fModel_looked_23 : w_fe am_c169 23 24 (.i2l) := ⟨rfl, rfl⟩
theorem fModel_looked_24 : w_fe am_c169 24 25 (.invokestatic 157) := ⟨rfl, rfl⟩
theorem fModel_looked_25 : w_fe am_c169 25 26 (.bipush 3) := ⟨rfl, rfl⟩
theorem fModel_looked_26 : w_fe am_c169 26 27 (.invokestatic 162) := ⟨rfl, rfl⟩
theorem fModel_looked_27 : w_fe am_c169 27 28 (.aload 0) := ⟨rfl, rfl⟩
theorem fModel_looked_28 : w_fe am_c169 28 29 (.getfield 920) := ⟨rfl, rfl⟩
theorem fModel_looked_29 : w_if am_c169 29 30 .ne 33 := ⟨rfl, rfl⟩
theorem fModel_looked_30 : w_fe am_c169 30 31 (.aload 0) := ⟨rfl, rfl⟩
theorem fModel_looked_31 : w_fe am_c169 31 32 (.getfield 919) := ⟨rfl, rfl⟩
theorem fModel_looked_32 : w_gt am_c169 32 34 := rfl
theorem fModel_looked_33 : w_fe am_c169 33 34 (.bipush 0) := ⟨rfl, rfl⟩
theorem fModel_looked_34 : w_fe am_c169 34 35 (.ireturn) := ⟨rfl, rfl⟩
set_option maxRecDepth 20000 in
theorem bModel_looked_0 {xs : List Int} {d : Nat} {Q : Option w_V → w_M → Prop} {x1 : Int} {x2 : Int} {σ : w_M}
    (h : (¬ (σ 122 20) = 0 → Q (some (.inl 0)) σ) ∧ ((σ 122 20) = 0 → ((¬ (σ 122 18) = 2 → ∀ (τ1 : w_M), q_Model_needs 0 2 σ τ1 → ((¬ (τ1 122 20) = 0 → Q (some (.inl 0)) τ1) ∧ ((τ1 122 20) = 0 → ∀ (τ2 : w_M), q_Model_needs (w_bi (x1 ≤ (τ1 122 19) ∧ (τ1 122 19) ≤ x2)) 3 τ1 τ2 → ((¬ (τ2 122 20) = 0 → Q (some (.inl 0)) τ2) ∧ ((τ2 122 20) = 0 → Q (some (.inl (τ2 122 19))) τ2))))) ∧ ((σ 122 18) = 2 → ∀ (τ5 : w_M), q_Model_needs 1 2 σ τ5 → ((¬ (τ5 122 20) = 0 → Q (some (.inl 0)) τ5) ∧ ((τ5 122 20) = 0 → ∀ (τ6 : w_M), q_Model_needs (w_bi (x1 ≤ (τ5 122 19) ∧ (τ5 122 19) ≤ x2)) 3 τ5 τ6 → ((¬ (τ6 122 20) = 0 → Q (some (.inl 0)) τ6) ∧ ((τ6 122 20) = 0 → Q (some (.inl (τ6 122 19))) τ6)))))))) : w_Call (xs, (d + 1)) 169 [.inr (.inr (9, 122)), .inl x1, .inl x2] σ Q :=
  (w_mk (mid := 169) (by decide) rfl rfl rfl rfl rfl (Nat.le_of_ble_eq_true rfl) ⟨rfl, Or.inl (by decide)⟩ (wi_aload0 fModel_looked_0 (wi_getf920 fModel_looked_1 (wi_if_ne fModel_looked_2 (fun c10 => (wi_aload0 fModel_looked_13 (wi_getf920 fModel_looked_14 (wi_if_ne fModel_looked_15 (fun _ => (wi_aload0 fModel_looked_27 (wi_getf920 fModel_looked_28 (wi_if_ne fModel_looked_29 (fun _ => (wi_bipush fModel_looked_33 (wi_ret1 fModel_looked_34 (h.1 c10)))) (fun e => absurd c10 (w_n_ne e)))))) (fun e => absurd c10 (w_n_ne e)))))) (fun c10 => (wi_aload0 fModel_looked_3 (wi_aload0 fModel_looked_4 (wi_getf918 fModel_looked_5 (wi_bipush fModel_looked_6 (wi_ic_ne fModel_looked_7 (fun c9 => (wi_bipush fModel_looked_10 (wi_bipush fModel_looked_11 (wi_call3 fModel_looked_12 (Nat.le_of_ble_eq_true rfl) (k_Model_needs (fun τ1 eτ1 => (wi_aload0 fModel_looked_13 (wi_getf920 fModel_looked_14 (wi_if_ne fModel_looked_15 (fun c4 => (wi_aload0 fModel_looked_27 (wi_getf920 fModel_looked_28 (wi_if_ne fModel_looked_29 (fun _ => (wi_bipush fModel_looked_33 (wi_ret1 fModel_looked_34 ((((h.2 c10).1 c9) τ1 eτ1).1 c4)))) (fun e => absurd c4 (w_n_ne e)))))) (fun c4 => (wi_aload0 fModel_looked_16 (wi_aload0 fModel_looked_17 (wi_getf919 fModel_looked_18 (wi_i2l fModel_looked_19 (wi_iload1 fModel_looked_20 (wi_i2l fModel_looked_21 (wi_iload2 fModel_looked_22 (wi_i2l fModel_looked_23 (wi_call3 fModel_looked_24 (Nat.le_of_ble_eq_true rfl) (k_Model_in (wi_bipush fModel_looked_25 (wi_call3 fModel_looked_26 (Nat.le_of_ble_eq_true rfl) (k_Model_needs (fun τ2 eτ2 => (wi_aload0 fModel_looked_27 (wi_getf920 fModel_looked_28 (wi_if_ne fModel_looked_29 (fun c3 => (wi_bipush fModel_looked_33 (wi_ret1 fModel_looked_34 ((((((h.2 c10).1 c9) τ1 eτ1).2 c4) τ2 eτ2).1 c3)))) (fun c3 => (wi_aload0 fModel_looked_30 (wi_getf919 fModel_looked_31 (wi_goto fModel_looked_32 (wi_ret1 fModel_looked_34 ((((((h.2 c10).1 c9) τ1 eτ1).2 c4) τ2 eτ2).2 c3))))))))))))))))))))))))))))))))) (fun c9 => (wi_bipush fModel_looked_8 (wi_goto fModel_looked_9 (wi_bipush fModel_looked_11 (wi_call3 fModel_looked_12 (Nat.le_of_ble_eq_true rfl) (k_Model_needs (fun τ5 eτ5 => (wi_aload0 fModel_looked_13 (wi_getf920 fModel_looked_14 (wi_if_ne fModel_looked_15 (fun c8 => (wi_aload0 fModel_looked_27 (wi_getf920 fModel_looked_28 (wi_if_ne fModel_looked_29 (fun _ => (wi_bipush fModel_looked_33 (wi_ret1 fModel_looked_34 ((((h.2 c10).2 c9) τ5 eτ5).1 c8)))) (fun e => absurd c8 (w_n_ne e)))))) (fun c8 => (wi_aload0 fModel_looked_16 (wi_aload0 fModel_looked_17 (wi_getf919 fModel_looked_18 (wi_i2l fModel_looked_19 (wi_iload1 fModel_looked_20 (wi_i2l fModel_looked_21 (wi_iload2 fModel_looked_22 (wi_i2l fModel_looked_23 (wi_call3 fModel_looked_24 (Nat.le_of_ble_eq_true rfl) (k_Model_in (wi_bipush fModel_looked_25 (wi_call3 fModel_looked_26 (Nat.le_of_ble_eq_true rfl) (k_Model_needs (fun τ6 eτ6 => (wi_aload0 fModel_looked_27 (wi_getf920 fModel_looked_28 (wi_if_ne fModel_looked_29 (fun c7 => (wi_bipush fModel_looked_33 (wi_ret1 fModel_looked_34 ((((((h.2 c10).2 c9) τ5 eτ5).2 c8) τ6 eτ6).1 c7)))) (fun c7 => (wi_aload0 fModel_looked_30 (wi_getf919 fModel_looked_31 (wi_goto fModel_looked_32 (wi_ret1 fModel_looked_34 ((((((h.2 c10).2 c9) τ5 eτ5).2 c8) τ6 eτ6).2 c7))))))))))))))))))))))))))))))))))))))))))))
theorem k_Model_looked {xs : List Int} {d : Nat} {Q : Option w_V → w_M → Prop} {x1 : Int} {x2 : Int} {σ : w_M} (hp : p_Model_looked x1 x2 σ) (hQ : ∀ (x : Int) (σ' : w_M), q_Model_looked x1 x2 σ x σ' → Q (some (.inl x)) σ') : w_Call (xs, d + 1) 169 [.inr (.inr (9, 122)), .inl x1, .inl x2] σ Q := by
  refine bModel_looked_0 ⟨fun c => hQ _ _ ⟨fun _ => ⟨rfl, rfl⟩, fun h => absurd h c⟩, fun c => ⟨fun c2 τ1 q1 => ?_, fun c2 τ5 q5 => ?_⟩⟩
  · obtain ⟨n1, n2, n3, n4⟩ := need_n q1 rfl c
    refine ⟨fun _ => hQ _ _ ⟨fun h => absurd c h, fun _ => ⟨fun h => absurd h.1 c2, fun _ => ⟨rfl, by rw [n1, if_neg c2], n2, n3, n4⟩⟩⟩, fun h => by rw [n1] at h; exact absurd h (by decide)⟩
  · have e5 := need_y q5
    rw [e5]
    refine ⟨fun h => absurd c h, fun _ τ6 q6 => ?_⟩
    by_cases g : x1 ≤ σ 122 19 ∧ σ 122 19 ≤ x2
    · rw [w_bi_t g] at q6
      rw [need_y q6]
      exact ⟨fun h => absurd c h, fun _ => hQ _ _ ⟨fun h => absurd c h, fun _ => ⟨fun _ => ⟨rfl, rfl⟩, fun h => absurd ⟨c2, g⟩ h⟩⟩⟩
    · rw [w_bi_f g] at q6
      obtain ⟨n1, n2, n3, n4⟩ := need_n q6 rfl c
      refine ⟨fun _ => hQ _ _ ⟨fun h => absurd c h, fun _ => ⟨fun h => absurd h.2 g, fun _ => ⟨rfl, by rw [n1, if_pos c2], n2, n3, n4⟩⟩⟩, fun h => by rw [n1] at h; exact absurd h (by decide)⟩
/-- the token that is held was read from p on -/
noncomputable def m_cur (T : Nat → Int) (L p : Nat) (σ : w_M) : Prop := σ 122 17 = ((tk_f T L p : Nat) : Int) ∧ (¬ tk_k T L p = 0 → σ 122 16 = ((tk_b T L p : Nat) : Int)) ∧ (tk_k T L p = 4 → σ 122 20 = 1 ∧ σ 122 21 = ((tk_f T L p : Nat) : Int)) ∧ (¬ tk_k T L p = 4 → σ 122 20 = 0 ∧ σ 122 18 = tk_k T L p) ∧ (tk_k T L p = 2 → σ 122 19 = tk_v T L p)
theorem m_tok.cur {T : Nat → Int} {L p : Nat} {σ σ' : w_M} (h : m_tok T L p σ σ') : m_cur T L p σ' := h.2
theorem m_cur_fr {T : Nat → Int} {L p : Nat} {σ σ' : w_M} (h : m_cur T L p σ) (e : ∀ j, 16 ≤ j → j < 22 → σ' 122 j = σ 122 j) : m_cur T L p σ' := by
  unfold m_cur at h ⊢
  rw [e 16 (by decide) (by decide), e 17 (by decide) (by decide), e 18 (by decide) (by decide), e 19 (by decide) (by decide), e 20 (by decide) (by decide), e 21 (by decide) (by decide)]
  exact h
/-- what a number is found to be -/
noncomputable def nt_0 (T : Nat → Int) (L : Nat) (lo hi : Int) (p : Nat) : Int := if tk_k T L p = 4 then 1 else if ¬ tk_k T L p = 2 then 2 else if tk_v T L p < lo ∨ hi < tk_v T L p then 3 else 0
/-- a reader that may go on: its token was read from p on, or it has failed -/
noncomputable def m_at (T : Nat → Int) (L p : Nat) (σ : w_M) : Prop := (mT σ = T ∧ mL σ = L ∧ m_rk σ) ∧ p ≤ L ∧ m_cur T L p σ
noncomputable def p_Model_readNumber (_ _ : Int) (σ : w_M) : Prop := 0 ≤ σ 122 20 ∧ (σ 122 20 = 0 → ∃ p, m_at (mT σ) (mL σ) p σ)
noncomputable def q_Model_readNumber (lo hi : Int) (σ : w_M) (x : Int) (σ' : w_M) : Prop := mo_fr σ σ' ∧ (¬ σ 122 20 = 0 → x = 0 ∧ σ' = σ) ∧ (σ 122 20 = 0 → ∀ p, m_at (mT σ) (mL σ) p σ → (nt_0 (mT σ) (mL σ) lo hi p = 0 → x = tk_v (mT σ) (mL σ) p ∧ m_cur (mT σ) (mL σ) (tk_b (mT σ) (mL σ) p) σ') ∧ (¬ nt_0 (mT σ) (mL σ) lo hi p = 0 → x = 0 ∧ σ' 122 20 = nt_0 (mT σ) (mL σ) lo hi p ∧ σ' 122 21 = ((tk_f (mT σ) (mL σ) p : Nat) : Int)))
theorem fModel_readNumber_0 : w_fe am_c168 0 1 (.aload 0) := ⟨rfl, rfl⟩
theorem fModel_readNumber_1 : w_fe am_c168 1 2 (.iload 1) := ⟨rfl, rfl⟩
theorem fModel_readNumber_2 : w_fe am_c168 2 3 (.iload 2) := ⟨rfl, rfl⟩
theorem fModel_readNumber_3 : w_fe am_c168 3 4 (.invokestatic 169) := ⟨rfl, rfl⟩
theorem fModel_readNumber_4 : w_fe am_c168 4 5 (.istore 3) := ⟨rfl, rfl⟩
theorem fModel_readNumber_5 : w_fe am_c168 5 6 (.aload 0) := ⟨rfl, rfl⟩
theorem fModel_readNumber_6 : w_fe am_c168 6 7 (.invokestatic 160) := ⟨rfl, rfl⟩
theorem fModel_readNumber_7 : w_fe am_c168 7 8 (.iload 3) := ⟨rfl, rfl⟩
theorem fModel_readNumber_8 : w_fe am_c168 8 9 (.ireturn) := ⟨rfl, rfl⟩
set_option maxRecDepth 20000 in
theorem bModel_readNumber_0 {xs : List Int} {d : Nat} {Q : Option w_V → w_M → Prop} {x1 : Int} {x2 : Int} {σ : w_M}
    (h : p_Model_looked x1 x2 σ ∧ (∀ (y1 : Int) (τ2 : w_M), q_Model_looked x1 x2 σ y1 τ2 → (p_Model_next τ2 ∧ (∀ (τ3 : w_M), q_Model_next τ2 τ3 → Q (some (.inl y1)) τ3)))) : w_Call (xs, (d + 2)) 168 [.inr (.inr (9, 122)), .inl x1, .inl x2] σ Q :=
  (w_mk (mid := 168) (by decide) rfl rfl rfl rfl rfl (Nat.le_of_ble_eq_true rfl) ⟨rfl, Or.inl (by decide)⟩ (wi_aload0 fModel_readNumber_0 (wi_iload1 fModel_readNumber_1 (wi_iload2 fModel_readNumber_2 (wi_call3 fModel_readNumber_3 (Nat.le_of_ble_eq_true rfl) (k_Model_looked h.1 (fun y1 τ2 eτ2 => (wi_istore3 fModel_readNumber_4 trivial (wi_aload0 fModel_readNumber_5 (wi_call1 fModel_readNumber_6 (Nat.le_of_ble_eq_true rfl) (k_Model_next (h.2 y1 τ2 eτ2).1 (fun τ3 eτ3 => (wi_iload3 fModel_readNumber_7 (wi_ret1 fModel_readNumber_8 ((h.2 y1 τ2 eτ2).2 τ3 eτ3)))))))))))))))
theorem nt_lo {T : Nat → Int} {L p : Nat} {lo hi : Int} {σ : w_M} (h : m_cur T L p σ) (h0 : σ 122 20 = 0) : (lo_ok lo hi σ ↔ nt_0 T L lo hi p = 0) ∧ (¬ lo_ok lo hi σ → (if σ 122 18 = 2 then (3 : Int) else 2) = nt_0 T L lo hi p) ∧ (lo_ok lo hi σ → tk_k T L p = 2) := by
  obtain ⟨c1, c2, c3, c4, c5⟩ := h
  have k4 : ¬ tk_k T L p = 4 := fun q => by have := (c3 q).1; omega
  have e18 := (c4 k4).2
  unfold lo_ok nt_0
  rw [if_neg k4, e18]
  by_cases k2 : tk_k T L p = 2
  · rw [if_neg (fun q => q k2), c5 k2, if_pos k2]
    by_cases g : tk_v T L p < lo ∨ hi < tk_v T L p
    · rw [if_pos g]
      exact ⟨⟨fun q => by omega, fun q => by omega⟩, fun _ => rfl, fun _ => k2⟩
    · rw [if_neg g]
      exact ⟨⟨fun _ => rfl, fun _ => ⟨k2, by omega⟩⟩, fun q => absurd ⟨k2, by omega⟩ q, fun _ => k2⟩
  · rw [if_pos k2, if_neg k2]
    exact ⟨⟨fun q => absurd q.1 k2, fun q => by omega⟩, fun _ => rfl, fun q => absurd q.1 k2⟩
theorem nt_0_le {T : Nat → Int} {L p : Nat} {lo hi : Int} : 0 ≤ nt_0 T L lo hi p ∧ nt_0 T L lo hi p ≤ 3 := by
  unfold nt_0
  repeat' split
  all_goals omega
theorem k_Model_readNumber {xs : List Int} {d : Nat} {Q : Option w_V → w_M → Prop} {x1 : Int} {x2 : Int} {σ : w_M} (hp : p_Model_readNumber x1 x2 σ) (hQ : ∀ (x : Int) (σ' : w_M), q_Model_readNumber x1 x2 σ x σ' → Q (some (.inl x)) σ') : w_Call (xs, d + 2) 168 [.inr (.inr (9, 122)), .inl x1, .inl x2] σ Q := by
  obtain ⟨h20, hp'⟩ := hp
  refine bModel_readNumber_0 ⟨trivial, fun y1 τ2 q2 => ?_⟩
  by_cases h0 : σ 122 20 = 0
  · obtain ⟨p, ⟨-, -, hk⟩, hpL, hcur⟩ := hp' h0
    obtain ⟨n1, n2, n3⟩ := nt_lo (lo := x1) (hi := x2) hcur h0
    have same : ∀ p', m_at (mT σ) (mL σ) p' σ → (lo_ok x1 x2 σ ↔ nt_0 (mT σ) (mL σ) x1 x2 p' = 0) ∧ (¬ lo_ok x1 x2 σ → (if σ 122 18 = 2 then (3 : Int) else 2) = nt_0 (mT σ) (mL σ) x1 x2 p') ∧ (lo_ok x1 x2 σ → tk_k (mT σ) (mL σ) p' = 2) := fun p' h => nt_lo h.2.2 h0
    by_cases ok : lo_ok x1 x2 σ
    · obtain ⟨e1, e2⟩ := (q2.2 h0).1 ok
      rw [e2]
      have k2 := n3 ok
      have e16 := hcur.2.1 (by omega)
      have hbL := tk_b_le (T := mT σ) (L := mL σ) (p := p) (tk_k0 (by omega))
      have hLe : mL σ = (σ 122 15).toNat := rfl
      have hk1 := hk.1
      refine ⟨⟨h20, fun _ => ⟨hk, by omega, by omega⟩⟩, fun τ3 q3 => hQ _ _ ?_⟩
      have t := q3.2 h0
      rw [e16, Int.toNat_natCast] at t
      refine ⟨t.1, fun h => absurd h0 h, fun _ p' hp2 => ?_⟩
      obtain ⟨s1, s2, s3⟩ := same p' hp2
      have k2' := s3 ok
      have eb : tk_b (mT σ) (mL σ) p' = tk_b (mT σ) (mL σ) p := by
        have a := hp2.2.2.2.1 (by omega)
        rw [e16] at a
        omega
      refine ⟨fun _ => ⟨by rw [e1]; exact hp2.2.2.2.2.2.2 k2', by rw [eb]; exact t.cur⟩, fun h => absurd (s1.mp ok) h⟩
    · obtain ⟨e1, e2, e3, e4, e5⟩ := (q2.2 h0).2 ok
      have hb := nt_0_le (T := mT σ) (L := mL σ) (p := p) (lo := x1) (hi := x2)
      have hnz : ¬ τ2 122 20 = 0 := by rw [e2, n2 ok]; exact fun q => ok (n1.mpr q)
      refine ⟨⟨by rw [e2, n2 ok]; exact hb.1, fun h => absurd h hnz⟩, fun τ3 q3 => hQ _ _ ?_⟩
      rw [q3.1 hnz]
      refine ⟨e4, fun h => absurd h0 h, fun _ p' hp2 => ?_⟩
      obtain ⟨s1, s2, s3⟩ := same p' hp2
      exact ⟨fun h => absurd (s1.mpr h) ok, fun _ => ⟨e1, by rw [e2]; exact s2 ok, by rw [e3]; exact hp2.2.2.1⟩⟩
  · obtain ⟨e1, e2⟩ := q2.1 h0
    rw [e2]
    refine ⟨⟨h20, fun h => absurd h h0⟩, fun τ3 q3 => hQ _ _ ?_⟩
    rw [q3.1 h0]
    exact ⟨mo_fr.rfl', fun _ => ⟨e1, rfl⟩, fun h => absurd h h0⟩
