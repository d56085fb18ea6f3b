/-! What is seen, paid, kept: the reference -/
theorem m_q1 {σ σ' : w_M} {B : w_M} {F x : Int} (hM : MI σ) (hf : w_f1 σ σ' 123) (hx3 : ∀ x, x < 48 ∨ 73 ≤ x → σ' 123 x = σ 123 x) (hB : s_am σ' 0 = B) (hW : seWF B) (hx : x = F) : m_q F (w_sp (mS σ) 1 B) σ x σ' := by
  have e : mS σ' = w_sp (mS σ) 1 B := by rw [mS_part1 hM hf hx3, hB]
  exact ⟨hx, by unfold MI; rw [e]; exact sWF_1 hM hW, e, fun b hb => hf b (by omega), by rw [hf 122 (by decide)]⟩
theorem m_q2 {σ σ' : w_M} {B : w_M} {F x : Int} (hM : MI σ) (hf : w_f1 σ σ' 123) (hx3 : ∀ x, x < 73 ∨ 82 ≤ x → σ' 123 x = σ 123 x) (hB : c_am σ' 0 = B) (hW : paWF (w_am σ 123 0) B) (hx : x = F) : m_q F (w_sp (mS σ) 2 B) σ x σ' := by
  have e : mS σ' = w_sp (mS σ) 2 B := by rw [mS_part2 hM hf hx3, hB]
  exact ⟨hx, by unfold MI; rw [e]; exact sWF_2 hM hW, e, fun b hb => hf b (by omega), by rw [hf 122 (by decide)]⟩
noncomputable def p_Model_see (_x1 : Int) (_x2 : Int) (x3 : Int) (σ : w_M) : Prop := MI σ ∧ (x3 = 0 ∨ x3 = 1)
noncomputable def q_Model_see (x1 : Int) (x2 : Int) (x3 : Int) (σ : w_M) (x : Int) (σ' : w_M) : Prop := m_q (F_see (mS σ) x1 x2 x3) (G_see (mS σ) x1 x2 x3) σ x σ'
noncomputable def p_Model_forget (_x1 : Int) (σ : w_M) : Prop := MI σ
noncomputable def q_Model_forget (x1 : Int) (σ : w_M) (x : Int) (σ' : w_M) : Prop := m_q (F_forget (mS σ) x1) (G_forget (mS σ) x1) σ x σ'
noncomputable def p_Model_pay (_x1 : Int) (_x2 : Int) (σ : w_M) : Prop := MI σ
noncomputable def q_Model_pay (x1 : Int) (x2 : Int) (σ : w_M) (x : Int) (σ' : w_M) : Prop := m_q (F_pay (mS σ) x1 x2) (G_pay (mS σ) x1 x2) σ x σ'
noncomputable def p_Model_owe (_x1 : Int) (σ : w_M) : Prop := MI σ
noncomputable def q_Model_owe (x1 : Int) (σ : w_M) (x : Int) (σ' : w_M) : Prop := m_q (F_owe (mS σ) x1) (G_owe (mS σ) x1) σ x σ'
theorem fModel_see_0 : w_fe am_c215 0 1 (.iload 1) := ⟨rfl, rfl⟩
theorem fModel_see_1 : w_fe am_c215 1 2 (.i2l) := ⟨rfl, rfl⟩
theorem fModel_see_2 : w_fe am_c215 2 3 (.sipush 0) := ⟨rfl, rfl⟩
theorem fModel_see_3 : w_fe am_c215 3 4 (.sipush 6) := ⟨rfl, rfl⟩
theorem fModel_see_4 : w_fe am_c215 4 5 (.invokestatic 157) := ⟨rfl, rfl⟩
theorem fModel_see_5 : w_if am_c215 5 6 .eq 10 := ⟨rfl, rfl⟩
theorem fModel_see_6 : w_fe am_c215 6 7 (.aload 0) := ⟨rfl, rfl⟩
theorem fModel_see_7 : w_fe am_c215 7 8 (.iload 2) := ⟨rfl, rfl⟩
theorem fModel_see_8 : w_fe am_c215 8 9 (.invokestatic 177) := ⟨rfl, rfl⟩
theorem fModel_see_9 : w_if am_c215 9 10 .ne 12 := ⟨rfl, rfl⟩
theorem fModel_see_10 : w_fe am_c215 10 11 (.bipush (-1)) := ⟨rfl, rfl⟩
theorem fModel_see_11 : w_fe am_c215 11 12 (.ireturn) := ⟨rfl, rfl⟩
theorem fModel_see_12 : w_fe am_c215 12 13 (.aload 0) := ⟨rfl, rfl⟩
theorem fModel_see_13 : w_fe am_c215 13 14 (.getfield 900) := ⟨rfl, rfl⟩
theorem fModel_see_14 : w_fe am_c215 14 15 (.bipush 48) := ⟨rfl, rfl⟩
theorem fModel_see_15 : w_fe am_c215 15 16 (.iaload) := ⟨rfl, rfl⟩
theorem fModel_see_16 : w_fe am_c215 16 17 (.bipush 8) := ⟨rfl, rfl⟩
theorem fModel_see_17 : w_ic am_c215 17 18 .ne 20 := ⟨rfl, rfl⟩
theorem fModel_see_18 : w_fe am_c215 18 19 (.bipush (-3)) := ⟨rfl, rfl⟩
theorem fModel_see_19 : w_fe am_c215 19 20 (.ireturn) := ⟨rfl, rfl⟩
theorem fModel_see_20 : w_fe am_c215 20 21 (.bipush 49) := ⟨rfl, rfl⟩
theorem fModel_see_21 : w_fe am_c215 21 22 (.bipush 3) := ⟨rfl, rfl⟩
theorem fModel_see_22 : w_fe am_c215 22 23 (.aload 0) := ⟨rfl, rfl⟩
theorem fModel_see_23 : w_fe am_c215 23 24 (.getfield 900) := ⟨rfl, rfl⟩
theorem fModel_see_24 : w_fe am_c215 24 25 (.bipush 48) := ⟨rfl, rfl⟩
theorem fModel_see_25 : w_fe am_c215 25 26 (.iaload) := ⟨rfl, rfl⟩
theorem fModel_see_26 : w_fe am_c215 26 27 (.imul) := ⟨rfl, rfl⟩
theorem fModel_see_27 : w_fe am_c215 27 28 (.iadd) := ⟨rfl, rfl⟩
theorem fModel_see_28 : w_fe am_c215 28 29 (.istore 4) := ⟨rfl, rfl⟩
theorem fModel_see_29 : w_fe am_c215 29 30 (.aload 0) := ⟨rfl, rfl⟩
theorem fModel_see_30 : w_fe am_c215 30 31 (.getfield 900) := ⟨rfl, rfl⟩
theorem fModel_see_31 : w_fe am_c215 31 32 (.iload 4) := ⟨rfl, rfl⟩
theorem fModel_see_32 : w_fe am_c215 32 33 (.iload 1) := ⟨rfl, rfl⟩
theorem fModel_see_33 : w_fe am_c215 33 34 (.iastore) := ⟨rfl, rfl⟩
theorem fModel_see_34 : w_fe am_c215 34 35 (.aload 0) := ⟨rfl, rfl⟩
theorem fModel_see_35 : w_fe am_c215 35 36 (.getfield 900) := ⟨rfl, rfl⟩
theorem fModel_see_36 : w_fe am_c215 36 37 (.iload 4) := ⟨rfl, rfl⟩
theorem fModel_see_37 : w_fe am_c215 37 38 (.bipush 1) := ⟨rfl, rfl⟩
theorem fModel_see_38 : w_fe am_c215 38 39 (.iadd) := ⟨rfl, rfl⟩
theorem fModel_see_39 : w_fe am_c215 39 40 (.iload 2) := ⟨rfl, rfl⟩
theorem fModel_see_40 : w_fe am_c215 40 41 (.iastore) := ⟨rfl, rfl⟩
theorem fModel_see_41 : w_fe am_c215 41 42 (.aload 0) := ⟨rfl, rfl⟩
theorem fModel_see_42 : w_fe am_c215 42 43 (.getfield 900) := ⟨rfl, rfl⟩
theorem fModel_see_43 : w_fe am_c215 43 44 (.iload 4) := ⟨rfl, rfl⟩
theorem fModel_see_44 : w_fe am_c215 44 45 (.bipush 2) := ⟨rfl, rfl⟩
theorem fModel_see_45 : w_fe am_c215 45 46 (.iadd) := ⟨rfl, rfl⟩
theorem fModel_see_46 : w_fe am_c215 46 47 (.iload 3) := ⟨rfl, rfl⟩
theorem fModel_see_47 : w_fe am_c215 47 48 (.invokestatic 179) := ⟨rfl, rfl⟩
theorem fModel_see_48 : w_fe am_c215 48 49 (.iastore) := ⟨rfl, rfl⟩
theorem fModel_see_49 : w_fe am_c215 49 50 (.aload 0) := ⟨rfl, rfl⟩
theorem fModel_see_50 : w_fe am_c215 50 51 (.getfield 900) := ⟨rfl, rfl⟩
theorem fModel_see_51 : w_fe am_c215 51 52 (.bipush 48) := ⟨rfl, rfl⟩
theorem fModel_see_52 : w_fe am_c215 52 53 (.dup2) := ⟨rfl, rfl⟩
theorem fModel_see_53 : w_fe am_c215 53 54 (.iaload) := ⟨rfl, rfl⟩
theorem fModel_see_54 : w_fe am_c215 54 55 (.bipush 1) := ⟨rfl, rfl⟩
theorem fModel_see_55 : w_fe am_c215 55 56 (.iadd) := ⟨rfl, rfl⟩
theorem fModel_see_56 : w_fe am_c215 56 57 (.iastore) := ⟨rfl, rfl⟩
theorem fModel_see_57 : w_fe am_c215 57 58 (.aload 0) := ⟨rfl, rfl⟩
theorem fModel_see_58 : w_fe am_c215 58 59 (.getfield 900) := ⟨rfl, rfl⟩
theorem fModel_see_59 : w_fe am_c215 59 60 (.bipush 48) := ⟨rfl, rfl⟩
theorem fModel_see_60 : w_fe am_c215 60 61 (.iaload) := ⟨rfl, rfl⟩
theorem fModel_see_61 : w_fe am_c215 61 62 (.ireturn) := ⟨rfl, rfl⟩
set_option maxRecDepth 20000 in
theorem bModel_see_0 {xs : List Int} {d : Nat} {Q : Option w_V → w_M → Prop} {x1 : Int} {x2 : Int} {x3 : Int} {σ : w_M}
    (h : (¬ (0 ≤ x1 ∧ x1 ≤ 6) → Q (some (.inl (-1))) σ) ∧ ((0 ≤ x1 ∧ x1 ≤ 6) → (p_Model_isStrip x2 σ ∧ (((0 ≤ x2 ∧ x2 < σ 122 4) → ((¬ (σ 123 48) = 8 → (w_in (3 * (σ 123 48)) ∧ w_in (49 + (3 * (σ 123 48))) ∧ (∀ (y1 : Int), y1 = (49 + (3 * (σ 123 48))) → (0 ≤ y1 ∧ y1 < 246 ∧ (∀ (τ2 : w_M), τ2 = w_up σ 123 y1.toNat x1 → (w_in (y1 + 1) ∧ 0 ≤ (y1 + 1) ∧ (y1 + 1) < 246 ∧ (∀ (τ3 : w_M), τ3 = w_up τ2 123 (y1 + 1).toNat x2 → (w_in (y1 + 2) ∧ (∀ (y4 : Int), y4 = v_Model_flag x3 → (0 ≤ (y1 + 2) ∧ (y1 + 2) < 246 ∧ (∀ (τ5 : w_M), τ5 = w_up τ3 123 (y1 + 2).toNat y4 → (w_in ((τ5 123 48) + 1) ∧ (∀ (τ6 : w_M), τ6 = w_up τ5 123 48 ((τ5 123 48) + 1) → Q (some (.inl (τ6 123 48))) τ6))))))))))))) ∧ ((σ 123 48) = 8 → Q (some (.inl (-3))) σ))) ∧ (¬ (0 ≤ x2 ∧ x2 < σ 122 4) → Q (some (.inl (-1))) σ))))) : w_Call (xs, (d + 2)) 215 [.inr (.inr (9, 122)), .inl x1, .inl x2, .inl x3] σ Q :=
  (w_mk (mid := 215) (by decide) rfl rfl rfl rfl rfl (Nat.le_of_ble_eq_true rfl) ⟨rfl, Or.inl (by decide)⟩ (wi_iload1 fModel_see_0 (wi_i2l fModel_see_1 (wi_sipush fModel_see_2 (wi_sipush fModel_see_3 (wi_call3 fModel_see_4 (Nat.le_of_ble_eq_true rfl) (k_Model_in (wi_ifb_eq fModel_see_5 (fun c9 => (wi_bipush fModel_see_10 (wi_ret1 fModel_see_11 (h.1 c9)))) (fun c9 => (wi_aload0 fModel_see_6 (wi_iload2 fModel_see_7 (wi_call2 fModel_see_8 (Nat.le_of_ble_eq_true rfl) (k_Model_isStrip (h.2 c9).1 (wi_ifb_ne fModel_see_9 (fun c8 => (wi_aload0 fModel_see_12 (wi_getf900 fModel_see_13 (wi_bipush fModel_see_14 (wi_iald1246 fModel_see_15 (by decide) (by decide) (wi_bipush fModel_see_16 (wi_ic_ne fModel_see_17 (fun c7 => (wi_bipush fModel_see_20 (wi_bipush fModel_see_21 (wi_aload0 fModel_see_22 (wi_getf900 fModel_see_23 (wi_bipush fModel_see_24 (wi_iald1246 fModel_see_25 (by decide) (by decide) (wi_imul fModel_see_26 (((h.2 c9).2.1 c8).1 c7).1 (wi_iadd fModel_see_27 (((h.2 c9).2.1 c8).1 c7).2.1 (wi_istore4 fModel_see_28 trivial (wi_aload0 fModel_see_29 (wi_getf900 fModel_see_30 (wi_iload4 fModel_see_31 (wi_iload1 fModel_see_32 (wi_iast1246 fModel_see_33 ((((h.2 c9).2.1 c8).1 c7).2.2 _ rfl).1 ((((h.2 c9).2.1 c8).1 c7).2.2 _ rfl).2.1 (wi_aload0 fModel_see_34 (wi_getf900 fModel_see_35 (wi_iload4 fModel_see_36 (wi_bipush fModel_see_37 (wi_iadd fModel_see_38 (((((h.2 c9).2.1 c8).1 c7).2.2 _ rfl).2.2 _ rfl).1 (wi_iload2 fModel_see_39 (wi_iast1246 fModel_see_40 (((((h.2 c9).2.1 c8).1 c7).2.2 _ rfl).2.2 _ rfl).2.1 (((((h.2 c9).2.1 c8).1 c7).2.2 _ rfl).2.2 _ rfl).2.2.1 (wi_aload0 fModel_see_41 (wi_getf900 fModel_see_42 (wi_iload4 fModel_see_43 (wi_bipush fModel_see_44 (wi_iadd fModel_see_45 ((((((h.2 c9).2.1 c8).1 c7).2.2 _ rfl).2.2 _ rfl).2.2.2 _ rfl).1 (wi_iload3 fModel_see_46 (wi_call1 fModel_see_47 (Nat.le_of_ble_eq_true rfl) (k_Model_flag (wi_iast1246 fModel_see_48 (((((((h.2 c9).2.1 c8).1 c7).2.2 _ rfl).2.2 _ rfl).2.2.2 _ rfl).2 _ rfl).1 (((((((h.2 c9).2.1 c8).1 c7).2.2 _ rfl).2.2 _ rfl).2.2.2 _ rfl).2 _ rfl).2.1 (wi_aload0 fModel_see_49 (wi_getf900 fModel_see_50 (wi_bipush fModel_see_51 (wi_dup2 fModel_see_52 (wi_iald1246 fModel_see_53 (by decide) (by decide) (wi_bipush fModel_see_54 (wi_iadd fModel_see_55 ((((((((h.2 c9).2.1 c8).1 c7).2.2 _ rfl).2.2 _ rfl).2.2.2 _ rfl).2 _ rfl).2.2 _ rfl).1 (wi_iast1246 fModel_see_56 (by decide) (by decide) (wi_aload0 fModel_see_57 (wi_getf900 fModel_see_58 (wi_bipush fModel_see_59 (wi_iald1246 fModel_see_60 (by decide) (by decide) (wi_ret1 fModel_see_61 (((((((((h.2 c9).2.1 c8).1 c7).2.2 _ rfl).2.2 _ rfl).2.2.2 _ rfl).2 _ rfl).2.2 _ rfl).2 _ rfl))))))))))))))))))))))))))))))))))))))))))))) (fun c7 => (wi_bipush fModel_see_18 (wi_ret1 fModel_see_19 (((h.2 c9).2.1 c8).2 c7))))))))))) (fun c8 => (wi_bipush fModel_see_10 (wi_ret1 fModel_see_11 ((h.2 c9).2.2 c8))))))))))))))))))
theorem fModel_forget_0 : w_fe am_c216 0 1 (.iload 1) := ⟨rfl, rfl⟩
theorem fModel_forget_1 : w_fe am_c216 1 2 (.i2l) := ⟨rfl, rfl⟩
theorem fModel_forget_2 : w_fe am_c216 2 3 (.sipush 0) := ⟨rfl, rfl⟩
theorem fModel_forget_3 : w_fe am_c216 3 4 (.aload 0) := ⟨rfl, rfl⟩
theorem fModel_forget_4 : w_fe am_c216 4 5 (.getfield 900) := ⟨rfl, rfl⟩
theorem fModel_forget_5 : w_fe am_c216 5 6 (.bipush 48) := ⟨rfl, rfl⟩
theorem fModel_forget_6 : w_fe am_c216 6 7 (.iaload) := ⟨rfl, rfl⟩
theorem fModel_forget_7 : w_fe am_c216 7 8 (.i2l) := ⟨rfl, rfl⟩
theorem fModel_forget_8 : w_fe am_c216 8 9 (.invokestatic 157) := ⟨rfl, rfl⟩
theorem fModel_forget_9 : w_if am_c216 9 10 .eq 15 := ⟨rfl, rfl⟩
theorem fModel_forget_10 : w_fe am_c216 10 11 (.aload 0) := ⟨rfl, rfl⟩
theorem fModel_forget_11 : w_fe am_c216 11 12 (.bipush 48) := ⟨rfl, rfl⟩
theorem fModel_forget_12 : w_fe am_c216 12 13 (.iload 1) := ⟨rfl, rfl⟩
theorem fModel_forget_13 : w_fe am_c216 13 14 (.invokestatic 185) := ⟨rfl, rfl⟩
theorem fModel_forget_14 : w_gt am_c216 14 16 := rfl
theorem fModel_forget_15 : w_fe am_c216 15 16 (.bipush (-1)) := ⟨rfl, rfl⟩
theorem fModel_forget_16 : w_fe am_c216 16 17 (.ireturn) := ⟨rfl, rfl⟩
set_option maxRecDepth 20000 in
theorem bModel_forget_0 {xs : List Int} {d : Nat} {Q : Option w_V → w_M → Prop} {x1 : Int} {σ : w_M}
    (h : (¬ (0 ≤ x1 ∧ x1 ≤ (σ 123 48)) → Q (some (.inl (-1))) σ) ∧ ((0 ≤ x1 ∧ x1 ≤ (σ 123 48)) → (p_Model_becomes 48 x1 σ ∧ (∀ (y1 : Int) (τ2 : w_M), q_Model_becomes 48 x1 σ y1 τ2 → Q (some (.inl y1)) τ2)))) : w_Call (xs, (d + 1)) 216 [.inr (.inr (9, 122)), .inl x1] σ Q :=
  (w_mk (mid := 216) (by decide) rfl rfl rfl rfl rfl (Nat.le_of_ble_eq_true rfl) ⟨rfl, Or.inl (by decide)⟩ (wi_iload1 fModel_forget_0 (wi_i2l fModel_forget_1 (wi_sipush fModel_forget_2 (wi_aload0 fModel_forget_3 (wi_getf900 fModel_forget_4 (wi_bipush fModel_forget_5 (wi_iald1246 fModel_forget_6 (by decide) (by decide) (wi_i2l fModel_forget_7 (wi_call3 fModel_forget_8 (Nat.le_of_ble_eq_true rfl) (k_Model_in (wi_ifb_eq fModel_forget_9 (fun c3 => (wi_bipush fModel_forget_15 (wi_ret1 fModel_forget_16 (h.1 c3)))) (fun c3 => (wi_aload0 fModel_forget_10 (wi_bipush fModel_forget_11 (wi_iload1 fModel_forget_12 (wi_call3 fModel_forget_13 (Nat.le_of_ble_eq_true rfl) (k_Model_becomes (h.2 c3).1 (fun y1 τ2 eτ2 => (wi_goto fModel_forget_14 (wi_ret1 fModel_forget_16 ((h.2 c3).2 y1 τ2 eτ2))))))))))))))))))))))
theorem fModel_pay_0 : w_fe am_c226 0 1 (.aload 0) := ⟨rfl, rfl⟩
theorem fModel_pay_1 : w_fe am_c226 1 2 (.iload 1) := ⟨rfl, rfl⟩
theorem fModel_pay_2 : w_fe am_c226 2 3 (.invokestatic 181) := ⟨rfl, rfl⟩
theorem fModel_pay_3 : w_if am_c226 3 4 .eq 10 := ⟨rfl, rfl⟩
theorem fModel_pay_4 : w_fe am_c226 4 5 (.iload 2) := ⟨rfl, rfl⟩
theorem fModel_pay_5 : w_fe am_c226 5 6 (.i2l) := ⟨rfl, rfl⟩
theorem fModel_pay_6 : w_fe am_c226 6 7 (.sipush 0) := ⟨rfl, rfl⟩
theorem fModel_pay_7 : w_fe am_c226 7 8 (.sipush 99) := ⟨rfl, rfl⟩
theorem fModel_pay_8 : w_fe am_c226 8 9 (.invokestatic 157) := ⟨rfl, rfl⟩
theorem fModel_pay_9 : w_if am_c226 9 10 .ne 12 := ⟨rfl, rfl⟩
theorem fModel_pay_10 : w_fe am_c226 10 11 (.bipush (-1)) := ⟨rfl, rfl⟩
theorem fModel_pay_11 : w_fe am_c226 11 12 (.ireturn) := ⟨rfl, rfl⟩
theorem fModel_pay_12 : w_fe am_c226 12 13 (.aload 0) := ⟨rfl, rfl⟩
theorem fModel_pay_13 : w_fe am_c226 13 14 (.getfield 900) := ⟨rfl, rfl⟩
theorem fModel_pay_14 : w_fe am_c226 14 15 (.bipush 73) := ⟨rfl, rfl⟩
theorem fModel_pay_15 : w_fe am_c226 15 16 (.iaload) := ⟨rfl, rfl⟩
theorem fModel_pay_16 : w_fe am_c226 16 17 (.bipush 4) := ⟨rfl, rfl⟩
theorem fModel_pay_17 : w_ic am_c226 17 18 .ne 20 := ⟨rfl, rfl⟩
theorem fModel_pay_18 : w_fe am_c226 18 19 (.bipush (-3)) := ⟨rfl, rfl⟩
theorem fModel_pay_19 : w_fe am_c226 19 20 (.ireturn) := ⟨rfl, rfl⟩
theorem fModel_pay_20 : w_fe am_c226 20 21 (.aload 0) := ⟨rfl, rfl⟩
theorem fModel_pay_21 : w_fe am_c226 21 22 (.getfield 900) := ⟨rfl, rfl⟩
theorem fModel_pay_22 : w_fe am_c226 22 23 (.bipush 74) := ⟨rfl, rfl⟩
theorem fModel_pay_23 : w_fe am_c226 23 24 (.bipush 2) := ⟨rfl, rfl⟩
theorem fModel_pay_24 : w_fe am_c226 24 25 (.aload 0) := ⟨rfl, rfl⟩
theorem fModel_pay_25 : w_fe am_c226 25 26 (.getfield 900) := ⟨rfl, rfl⟩
theorem fModel_pay_26 : w_fe am_c226 26 27 (.bipush 73) := ⟨rfl, rfl⟩
theorem fModel_pay_27 : w_fe am_c226 27 28 (.iaload) := ⟨rfl, rfl⟩
theorem fModel_pay_28 : w_fe am_c226 28 29 (.imul) := ⟨rfl, rfl⟩
theorem fModel_pay_29 : w_fe am_c226 29 30 (.iadd) := ⟨rfl, rfl⟩
theorem fModel_pay_30 : w_fe am_c226 30 31 (.iload 1) := ⟨rfl, rfl⟩
theorem fModel_pay_31 : w_fe am_c226 31 32 (.iastore) := ⟨rfl, rfl⟩
theorem fModel_pay_32 : w_fe am_c226 32 33 (.aload 0) := ⟨rfl, rfl⟩
theorem fModel_pay_33 : w_fe am_c226 33 34 (.getfield 900) := ⟨rfl, rfl⟩
theorem fModel_pay_34 : w_fe am_c226 34 35 (.bipush 74) := ⟨rfl, rfl⟩
theorem fModel_pay_35 : w_fe am_c226 35 36 (.bipush 2) := ⟨rfl, rfl⟩
theorem fModel_pay_36 : w_fe am_c226 36 37 (.aload 0) := ⟨rfl, rfl⟩
theorem fModel_pay_37 : w_fe am_c226 37 38 (.getfield 900) := ⟨rfl, rfl⟩
theorem fModel_pay_38 : w_fe am_c226 38 39 (.bipush 73) := ⟨rfl, rfl⟩
theorem fModel_pay_39 : w_fe am_c226 39 40 (.iaload) := ⟨rfl, rfl⟩
theorem fModel_pay_40 : w_fe am_c226 40 41 (.imul) := ⟨rfl, rfl⟩
theorem fModel_pay_41 : w_fe am_c226 41 42 (.iadd) := ⟨rfl, rfl⟩
theorem fModel_pay_42 : w_fe am_c226 42 43 (.bipush 1) := ⟨rfl, rfl⟩
theorem fModel_pay_43 : w_fe am_c226 43 44 (.iadd) := ⟨rfl, rfl⟩
theorem fModel_pay_44 : w_fe am_c226 44 45 (.iload 2) := ⟨rfl, rfl⟩
theorem fModel_pay_45 : w_fe am_c226 45 46 (.iastore) := ⟨rfl, rfl⟩
theorem fModel_pay_46 : w_fe am_c226 46 47 (.aload 0) := ⟨rfl, rfl⟩
theorem fModel_pay_47 : w_fe am_c226 47 48 (.getfield 900) := ⟨rfl, rfl⟩
theorem fModel_pay_48 : w_fe am_c226 48 49 (.bipush 73) := ⟨rfl, rfl⟩
theorem fModel_pay_49 : w_fe am_c226 49 50 (.dup2) := ⟨rfl, rfl⟩
theorem fModel_pay_50 : w_fe am_c226 50 51 (.iaload) := ⟨rfl, rfl⟩
theorem fModel_pay_51 : w_fe am_c226 51 52 (.bipush 1) := ⟨rfl, rfl⟩
theorem fModel_pay_52 : w_fe am_c226 52 53 (.iadd) := ⟨rfl, rfl⟩
theorem fModel_pay_53 : w_fe am_c226 53 54 (.iastore) := ⟨rfl, rfl⟩
theorem fModel_pay_54 : w_fe am_c226 54 55 (.aload 0) := ⟨rfl, rfl⟩
theorem fModel_pay_55 : w_fe am_c226 55 56 (.getfield 900) := ⟨rfl, rfl⟩
theorem fModel_pay_56 : w_fe am_c226 56 57 (.bipush 73) := ⟨rfl, rfl⟩
theorem fModel_pay_57 : w_fe am_c226 57 58 (.iaload) := ⟨rfl, rfl⟩
theorem fModel_pay_58 : w_fe am_c226 58 59 (.ireturn) := ⟨rfl, rfl⟩
set_option maxRecDepth 20000 in
theorem bModel_pay_0 {xs : List Int} {d : Nat} {Q : Option w_V → w_M → Prop} {x1 : Int} {x2 : Int} {σ : w_M}
    (h : p_Model_isReaper x1 σ ∧ ((¬ (0 ≤ x1 ∧ x1 < σ 122 5) → Q (some (.inl (-1))) σ) ∧ ((0 ≤ x1 ∧ x1 < σ 122 5) → (((0 ≤ x2 ∧ x2 ≤ 99) → ((¬ (σ 123 73) = 4 → (w_in (2 * (σ 123 73)) ∧ w_in (74 + (2 * (σ 123 73))) ∧ 0 ≤ (74 + (2 * (σ 123 73))) ∧ (74 + (2 * (σ 123 73))) < 246 ∧ (∀ (τ1 : w_M), τ1 = w_up σ 123 (74 + (2 * (σ 123 73))).toNat x1 → (w_in (2 * (τ1 123 73)) ∧ w_in (74 + (2 * (τ1 123 73))) ∧ w_in ((74 + (2 * (τ1 123 73))) + 1) ∧ 0 ≤ ((74 + (2 * (τ1 123 73))) + 1) ∧ ((74 + (2 * (τ1 123 73))) + 1) < 246 ∧ (∀ (τ2 : w_M), τ2 = w_up τ1 123 ((74 + (2 * (τ1 123 73))) + 1).toNat x2 → (w_in ((τ2 123 73) + 1) ∧ (∀ (τ3 : w_M), τ3 = w_up τ2 123 73 ((τ2 123 73) + 1) → Q (some (.inl (τ3 123 73))) τ3))))))) ∧ ((σ 123 73) = 4 → Q (some (.inl (-3))) σ))) ∧ (¬ (0 ≤ x2 ∧ x2 ≤ 99) → Q (some (.inl (-1))) σ))))) : w_Call (xs, (d + 2)) 226 [.inr (.inr (9, 122)), .inl x1, .inl x2] σ Q :=
  (w_mk (mid := 226) (by decide) rfl rfl rfl rfl rfl (Nat.le_of_ble_eq_true rfl) ⟨rfl, Or.inl (by decide)⟩ (wi_aload0 fModel_pay_0 (wi_iload1 fModel_pay_1 (wi_call2 fModel_pay_2 (Nat.le_of_ble_eq_true rfl) (k_Model_isReaper h.1 (wi_ifb_eq fModel_pay_3 (fun c6 => (wi_bipush fModel_pay_10 (wi_ret1 fModel_pay_11 (h.2.1 c6)))) (fun c6 => (wi_iload2 fModel_pay_4 (wi_i2l fModel_pay_5 (wi_sipush fModel_pay_6 (wi_sipush fModel_pay_7 (wi_call3 fModel_pay_8 (Nat.le_of_ble_eq_true rfl) (k_Model_in (wi_ifb_ne fModel_pay_9 (fun c5 => (wi_aload0 fModel_pay_12 (wi_getf900 fModel_pay_13 (wi_bipush fModel_pay_14 (wi_iald1246 fModel_pay_15 (by decide) (by decide) (wi_bipush fModel_pay_16 (wi_ic_ne fModel_pay_17 (fun c4 => (wi_aload0 fModel_pay_20 (wi_getf900 fModel_pay_21 (wi_bipush fModel_pay_22 (wi_bipush fModel_pay_23 (wi_aload0 fModel_pay_24 (wi_getf900 fModel_pay_25 (wi_bipush fModel_pay_26 (wi_iald1246 fModel_pay_27 (by decide) (by decide) (wi_imul fModel_pay_28 (((h.2.2 c6).1 c5).1 c4).1 (wi_iadd fModel_pay_29 (((h.2.2 c6).1 c5).1 c4).2.1 (wi_iload1 fModel_pay_30 (wi_iast1246 fModel_pay_31 (((h.2.2 c6).1 c5).1 c4).2.2.1 (((h.2.2 c6).1 c5).1 c4).2.2.2.1 (wi_aload0 fModel_pay_32 (wi_getf900 fModel_pay_33 (wi_bipush fModel_pay_34 (wi_bipush fModel_pay_35 (wi_aload0 fModel_pay_36 (wi_getf900 fModel_pay_37 (wi_bipush fModel_pay_38 (wi_iald1246 fModel_pay_39 (by decide) (by decide) (wi_imul fModel_pay_40 ((((h.2.2 c6).1 c5).1 c4).2.2.2.2 _ rfl).1 (wi_iadd fModel_pay_41 ((((h.2.2 c6).1 c5).1 c4).2.2.2.2 _ rfl).2.1 (wi_bipush fModel_pay_42 (wi_iadd fModel_pay_43 ((((h.2.2 c6).1 c5).1 c4).2.2.2.2 _ rfl).2.2.1 (wi_iload2 fModel_pay_44 (wi_iast1246 fModel_pay_45 ((((h.2.2 c6).1 c5).1 c4).2.2.2.2 _ rfl).2.2.2.1 ((((h.2.2 c6).1 c5).1 c4).2.2.2.2 _ rfl).2.2.2.2.1 (wi_aload0 fModel_pay_46 (wi_getf900 fModel_pay_47 (wi_bipush fModel_pay_48 (wi_dup2 fModel_pay_49 (wi_iald1246 fModel_pay_50 (by decide) (by decide) (wi_bipush fModel_pay_51 (wi_iadd fModel_pay_52 (((((h.2.2 c6).1 c5).1 c4).2.2.2.2 _ rfl).2.2.2.2.2 _ rfl).1 (wi_iast1246 fModel_pay_53 (by decide) (by decide) (wi_aload0 fModel_pay_54 (wi_getf900 fModel_pay_55 (wi_bipush fModel_pay_56 (wi_iald1246 fModel_pay_57 (by decide) (by decide) (wi_ret1 fModel_pay_58 ((((((h.2.2 c6).1 c5).1 c4).2.2.2.2 _ rfl).2.2.2.2.2 _ rfl).2 _ rfl))))))))))))))))))))))))))))))))))))))))) (fun c4 => (wi_bipush fModel_pay_18 (wi_ret1 fModel_pay_19 (((h.2.2 c6).1 c5).2 c4))))))))))) (fun c5 => (wi_bipush fModel_pay_10 (wi_ret1 fModel_pay_11 ((h.2.2 c6).2 c5))))))))))))))))))
theorem fModel_owe_0 : w_fe am_c227 0 1 (.iload 1) := ⟨rfl, rfl⟩
theorem fModel_owe_1 : w_fe am_c227 1 2 (.i2l) := ⟨rfl, rfl⟩
theorem fModel_owe_2 : w_fe am_c227 2 3 (.sipush 0) := ⟨rfl, rfl⟩
theorem fModel_owe_3 : w_fe am_c227 3 4 (.aload 0) := ⟨rfl, rfl⟩
theorem fModel_owe_4 : w_fe am_c227 4 5 (.getfield 900) := ⟨rfl, rfl⟩
theorem fModel_owe_5 : w_fe am_c227 5 6 (.bipush 73) := ⟨rfl, rfl⟩
theorem fModel_owe_6 : w_fe am_c227 6 7 (.iaload) := ⟨rfl, rfl⟩
theorem fModel_owe_7 : w_fe am_c227 7 8 (.i2l) := ⟨rfl, rfl⟩
theorem fModel_owe_8 : w_fe am_c227 8 9 (.invokestatic 157) := ⟨rfl, rfl⟩
theorem fModel_owe_9 : w_if am_c227 9 10 .eq 15 := ⟨rfl, rfl⟩
theorem fModel_owe_10 : w_fe am_c227 10 11 (.aload 0) := ⟨rfl, rfl⟩
theorem fModel_owe_11 : w_fe am_c227 11 12 (.bipush 73) := ⟨rfl, rfl⟩
theorem fModel_owe_12 : w_fe am_c227 12 13 (.iload 1) := ⟨rfl, rfl⟩
theorem fModel_owe_13 : w_fe am_c227 13 14 (.invokestatic 185) := ⟨rfl, rfl⟩
theorem fModel_owe_14 : w_gt am_c227 14 16 := rfl
theorem fModel_owe_15 : w_fe am_c227 15 16 (.bipush (-1)) := ⟨rfl, rfl⟩
theorem fModel_owe_16 : w_fe am_c227 16 17 (.ireturn) := ⟨rfl, rfl⟩
set_option maxRecDepth 20000 in
theorem bModel_owe_0 {xs : List Int} {d : Nat} {Q : Option w_V → w_M → Prop} {x1 : Int} {σ : w_M}
    (h : (¬ (0 ≤ x1 ∧ x1 ≤ (σ 123 73)) → Q (some (.inl (-1))) σ) ∧ ((0 ≤ x1 ∧ x1 ≤ (σ 123 73)) → (p_Model_becomes 73 x1 σ ∧ (∀ (y1 : Int) (τ2 : w_M), q_Model_becomes 73 x1 σ y1 τ2 → Q (some (.inl y1)) τ2)))) : w_Call (xs, (d + 1)) 227 [.inr (.inr (9, 122)), .inl x1] σ Q :=
  (w_mk (mid := 227) (by decide) rfl rfl rfl rfl rfl (Nat.le_of_ble_eq_true rfl) ⟨rfl, Or.inl (by decide)⟩ (wi_iload1 fModel_owe_0 (wi_i2l fModel_owe_1 (wi_sipush fModel_owe_2 (wi_aload0 fModel_owe_3 (wi_getf900 fModel_owe_4 (wi_bipush fModel_owe_5 (wi_iald1246 fModel_owe_6 (by decide) (by decide) (wi_i2l fModel_owe_7 (wi_call3 fModel_owe_8 (Nat.le_of_ble_eq_true rfl) (k_Model_in (wi_ifb_eq fModel_owe_9 (fun c3 => (wi_bipush fModel_owe_15 (wi_ret1 fModel_owe_16 (h.1 c3)))) (fun c3 => (wi_aload0 fModel_owe_10 (wi_bipush fModel_owe_11 (wi_iload1 fModel_owe_12 (wi_call3 fModel_owe_13 (Nat.le_of_ble_eq_true rfl) (k_Model_becomes (h.2 c3).1 (fun y1 τ2 eτ2 => (wi_goto fModel_owe_14 (wi_ret1 fModel_owe_16 ((h.2 c3).2 y1 τ2 eτ2))))))))))))))))))))))
theorem k_Model_see {xs : List Int} {d : Nat} {Q : Option w_V → w_M → Prop} {x1 : Int} {x2 : Int} {x3 : Int} {σ : w_M} (hp : p_Model_see x1 x2 x3 σ) (hQ : ∀ (x : Int) (σ' : w_M), q_Model_see x1 x2 x3 σ x σ' → Q (some (.inl x)) σ') : w_Call (xs, d + 2) 215 [.inr (.inr (9, 122)), .inl x1, .inl x2, .inl x3] σ Q := by
  obtain ⟨hM, hb⟩ := hp
  have hs := hM.s
  have h0 := hM.se
  unfold q_Model_see F_see G_see at hQ
  have e4 : mS σ 0 0 4 = σ 122 4 := rfl
  have e1 : mS σ 1 0 0 = σ 123 48 := rfl
  rw [e4, e1] at hQ
  have bad : ¬ ((0 ≤ x1 ∧ x1 ≤ 6) ∧ (0 ≤ x2 ∧ x2 < σ 122 4)) → Q (some (.inl (-1))) σ := fun h => by
    rw [if_neg h, if_neg (fun q => h q.1)] at hQ
    exact hQ _ _ (m_qr hM rfl)
  refine bModel_see_0 ⟨fun c => bad (fun q => c q.1), fun c => ⟨hs, fun c2 => ⟨fun c3 => ⟨⟨by omega, by omega⟩, ⟨by omega, by omega⟩, fun y1 ey => ⟨by omega, by omega, fun τ2 t2 => ⟨⟨by omega, by omega⟩, by omega, by omega, fun τ3 t3 => ⟨⟨by omega, by omega⟩, fun y4 e4 => ⟨by omega, by omega, fun τ5 t5 => ?_⟩⟩⟩⟩⟩, fun c3 => ?_⟩, fun c2 => bad (fun q => c2 q.2)⟩⟩
  · have c4 : σ 123 48 < 8 := by omega
    rw [if_pos ⟨c, c2⟩, if_pos c4, if_pos ⟨⟨c, c2⟩, c4⟩] at hQ
    have e4' : y4 = x3 := by rw [e4]; unfold v_Model_flag; rcases hb with rfl | rfl <;> rfl
    have z48 : τ5 123 48 = σ 123 48 := by rw [t5, w_up_j (by omega), t3, w_up_j (by omega), t2, w_up_j (by omega)]
    rw [z48]
    refine ⟨⟨by omega, by omega⟩, fun τ6 t6 => ?_⟩
    have e48 : τ6 123 48 = σ 123 48 + 1 := by rw [t6]; exact w_up_at
    refine hQ _ _ (m_q1 hM (by rw [t6, t5, t3, t2]; exact w_f1.up0.up.up.up) (fun x hx => ?_) ?_ (seAdd_WF hM.2.1 c4 c (by omega) hb) e48)
    · rw [t6, w_up_j (by omega), t5, w_up_j (by omega), t3, w_up_j (by omega), t2, w_up_j (by omega)]
    · show _ = seAdd (s_am σ 0) x1 x2 x3
      rw [s_am_g, s_am_g, show τ6 123 (0 + 48) = σ 123 48 + 1 from e48]
      refine g_ab_se h0.1 (fun d i h1 h2 h3 => ?_) ?_ ?_ ?_
      · have h3' : i < (σ 123 48).toNat := h3
        show τ6 123 (0 + 49 + 3 * i + (d - 1)) = σ 123 (0 + 49 + 3 * i + (d - 1))
        rw [t6, w_up_j (by omega), t5, w_up_j (by omega), t3, w_up_j (by omega), t2, w_up_j (by omega)]
      · show τ6 123 (0 + 49 + 3 * (σ 123 48).toNat + (1 - 1)) = x1
        rw [t6, w_up_j (by omega), t5, w_up_j (by omega), t3, w_up_j (by omega), t2, show 0 + 49 + 3 * (σ 123 48).toNat + (1 - 1) = y1.toNat by omega, w_up_at]
      · show τ6 123 (0 + 49 + 3 * (σ 123 48).toNat + (2 - 1)) = x2
        rw [t6, w_up_j (by omega), t5, w_up_j (by omega), t3, show 0 + 49 + 3 * (σ 123 48).toNat + (2 - 1) = (y1 + 1).toNat by omega, w_up_at]
      · show τ6 123 (0 + 49 + 3 * (σ 123 48).toNat + (3 - 1)) = x3
        rw [t6, w_up_j (by omega), t5, show 0 + 49 + 3 * (σ 123 48).toNat + (3 - 1) = (y1 + 2).toNat by omega, w_up_at, e4']
  · rw [if_pos ⟨c, c2⟩, if_neg (by omega), if_neg (by omega)] at hQ
    exact hQ _ _ (m_qr hM rfl)
theorem k_Model_forget {xs : List Int} {d : Nat} {Q : Option w_V → w_M → Prop} {x1 : Int} {σ : w_M} (hp : p_Model_forget x1 σ) (hQ : ∀ (x : Int) (σ' : w_M), q_Model_forget x1 σ x σ' → Q (some (.inl x)) σ') : w_Call (xs, d + 1) 216 [.inr (.inr (9, 122)), .inl x1] σ Q := by
  have hM : MI σ := hp
  have h0 := hM.se
  unfold q_Model_forget F_forget G_forget at hQ
  have e1 : mS σ 1 0 0 = σ 123 48 := rfl
  rw [e1] at hQ
  refine bModel_forget_0 ⟨fun c => ?_, fun c => ⟨⟨by decide, by decide⟩, fun y τ hq => ?_⟩⟩
  · rw [if_neg c, if_neg c] at hQ
    exact hQ _ _ (m_qr hM rfl)
  · rw [if_pos c, if_pos c] at hQ
    have t : τ = w_up σ 123 48 x1 := hq.2
    refine hQ _ _ (m_q1 hM (by rw [t]; exact w_f1.up0) (fun x hx => by rw [t, w_up_j (by omega)]) ?_ (r_cut_se hM.2.1 c) hq.1)
    show _ = r_cut (s_am σ 0) x1
    rw [s_am_g, s_am_g, show τ 123 (0 + 48) = x1 by rw [t]; exact w_up_at]
    exact g_ab_cut c (fun d i h1 h2 h3 => by show τ 123 (0 + 49 + 3 * i + (d - 1)) = σ 123 (0 + 49 + 3 * i + (d - 1)); rw [t, w_up_j (by omega)])
theorem k_Model_pay {xs : List Int} {d : Nat} {Q : Option w_V → w_M → Prop} {x1 : Int} {x2 : Int} {σ : w_M} (hp : p_Model_pay x1 x2 σ) (hQ : ∀ (x : Int) (σ' : w_M), q_Model_pay x1 x2 σ x σ' → Q (some (.inl x)) σ') : w_Call (xs, d + 2) 226 [.inr (.inr (9, 122)), .inl x1, .inl x2] σ Q := by
  have hM : MI σ := hp
  have h0 := hM.pa
  unfold q_Model_pay F_pay G_pay at hQ
  have e5 : mS σ 0 0 5 = σ 122 5 := rfl
  have e1 : mS σ 2 0 0 = σ 123 73 := rfl
  rw [e5, e1] at hQ
  have bad : ¬ ((0 ≤ x1 ∧ x1 < σ 122 5) ∧ (0 ≤ x2 ∧ x2 ≤ 99)) → Q (some (.inl (-1))) σ := fun h => by
    rw [if_neg h, if_neg (fun q => h q.1)] at hQ
    exact hQ _ _ (m_qr hM rfl)
  refine bModel_pay_0 ⟨hM.n, fun c => bad (fun q => c q.1), fun c => ⟨fun c2 => ⟨fun c3 => ⟨⟨by omega, by omega⟩, ⟨by omega, by omega⟩, by omega, by omega, fun τ1 t1 => ?_⟩, fun c3 => ?_⟩, fun c2 => bad (fun q => c2 q.2)⟩⟩
  · have c4 : σ 123 73 < 4 := by omega
    rw [if_pos ⟨c, c2⟩, if_pos c4, if_pos ⟨⟨c, c2⟩, c4⟩] at hQ
    have z1 : τ1 123 73 = σ 123 73 := by rw [t1, w_up_j (by omega)]
    rw [z1]
    refine ⟨⟨by omega, by omega⟩, ⟨by omega, by omega⟩, ⟨by omega, by omega⟩, by omega, by omega, fun τ2 t2 => ?_⟩
    have z2 : τ2 123 73 = σ 123 73 := by rw [t2, w_up_j (by omega)]; exact z1
    rw [z2]
    refine ⟨⟨by omega, by omega⟩, fun τ3 t3 => ?_⟩
    have e73 : τ3 123 73 = σ 123 73 + 1 := by rw [t3]; exact w_up_at
    refine hQ _ _ (m_q2 hM (by rw [t3, t2, t1]; exact w_f1.up0.up.up) (fun x hx => ?_) ?_ (paAdd_WF hM.2.2.1 c4 c c2) e73)
    · rw [t3, w_up_j (by omega), t2, w_up_j (by omega), t1, w_up_j (by omega)]
    · show _ = paAdd (c_am σ 0) x1 x2
      rw [c_am_g, c_am_g, show τ3 123 (0 + 73) = σ 123 73 + 1 from e73]
      refine g_ab_pa h0.1 (fun d i h1 h2 h3 => ?_) ?_ ?_
      · have h3' : i < (σ 123 73).toNat := h3
        show τ3 123 (0 + 74 + 2 * i + (d - 1)) = σ 123 (0 + 74 + 2 * i + (d - 1))
        rw [t3, w_up_j (by omega), t2, w_up_j (by omega), t1, w_up_j (by omega)]
      · show τ3 123 (0 + 74 + 2 * (σ 123 73).toNat + (1 - 1)) = x1
        rw [t3, w_up_j (by omega), t2, w_up_j (by omega), t1, show 0 + 74 + 2 * (σ 123 73).toNat + (1 - 1) = (74 + 2 * σ 123 73).toNat by omega, w_up_at]
      · show τ3 123 (0 + 74 + 2 * (σ 123 73).toNat + (2 - 1)) = x2
        rw [t3, w_up_j (by omega), t2, show 0 + 74 + 2 * (σ 123 73).toNat + (2 - 1) = (74 + 2 * σ 123 73 + 1).toNat by omega, w_up_at]
  · rw [if_pos ⟨c, c2⟩, if_neg (by omega), if_neg (by omega)] at hQ
    exact hQ _ _ (m_qr hM rfl)
theorem k_Model_owe {xs : List Int} {d : Nat} {Q : Option w_V → w_M → Prop} {x1 : Int} {σ : w_M} (hp : p_Model_owe x1 σ) (hQ : ∀ (x : Int) (σ' : w_M), q_Model_owe x1 σ x σ' → Q (some (.inl x)) σ') : w_Call (xs, d + 1) 227 [.inr (.inr (9, 122)), .inl x1] σ Q := by
  have hM : MI σ := hp
  have h0 := hM.pa
  unfold q_Model_owe F_owe G_owe at hQ
  have e1 : mS σ 2 0 0 = σ 123 73 := rfl
  rw [e1] at hQ
  refine bModel_owe_0 ⟨fun c => ?_, fun c => ⟨⟨by decide, by decide⟩, fun y τ hq => ?_⟩⟩
  · rw [if_neg c, if_neg c] at hQ
    exact hQ _ _ (m_qr hM rfl)
  · rw [if_pos c, if_pos c] at hQ
    have t : τ = w_up σ 123 73 x1 := hq.2
    refine hQ _ _ (m_q2 hM (by rw [t]; exact w_f1.up0) (fun x hx => by rw [t, w_up_j (by omega)]) ?_ (r_cut_pa hM.2.2.1 c) hq.1)
    show _ = r_cut (c_am σ 0) x1
    rw [c_am_g, c_am_g, show τ 123 (0 + 73) = x1 by rw [t]; exact w_up_at]
    exact g_ab_cut c (fun d i h1 h2 h3 => by show τ 123 (0 + 74 + 2 * i + (d - 1)) = σ 123 (0 + 74 + 2 * i + (d - 1)); rw [t, w_up_j (by omega)])
noncomputable def p_Model_copies (a b : Int) (_ : w_M) : Prop := (a = 0 ∧ (b = 82 ∨ b = 164)) ∨ (b = 0 ∧ (a = 82 ∨ a = 164))
noncomputable def q_Model_copies (a b : Int) (σ σ' : w_M) : Prop := w_f1 σ σ' 123 ∧ (∀ k, k < 82 → σ' 123 (a.toNat + k) = σ 123 (b.toNat + k)) ∧ (∀ x, x < a.toNat ∨ a.toNat + 82 ≤ x → σ' 123 x = σ 123 x)
theorem fModel_copies_0 : w_fe am_c231 0 1 (.bipush 0) := ⟨rfl, rfl⟩
theorem fModel_copies_1 : w_fe am_c231 1 2 (.istore 3) := ⟨rfl, rfl⟩
theorem fModel_copies_2 : w_fe am_c231 2 3 (.iload 3) := ⟨rfl, rfl⟩
theorem fModel_copies_3 : w_fe am_c231 3 4 (.bipush 82) := ⟨rfl, rfl⟩
theorem fModel_copies_4 : w_ic am_c231 4 5 .ge 19 := ⟨rfl, rfl⟩
theorem fModel_copies_5 : w_fe am_c231 5 6 (.aload 0) := ⟨rfl, rfl⟩
theorem fModel_copies_6 : w_fe am_c231 6 7 (.getfield 900) := ⟨rfl, rfl⟩
theorem fModel_copies_7 : w_fe am_c231 7 8 (.iload 1) := ⟨rfl, rfl⟩
theorem fModel_copies_8 : w_fe am_c231 8 9 (.iload 3) := ⟨rfl, rfl⟩
theorem fModel_copies_9 : w_fe am_c231 9 10 (.iadd) := ⟨rfl, rfl⟩
theorem fModel_copies_10 : w_fe am_c231 10 11 (.aload 0) := ⟨rfl, rfl⟩
theorem fModel_copies_11 : w_fe am_c231 11 12 (.getfield 900) := ⟨rfl, rfl⟩
theorem fModel_copies_12 : w_fe am_c231 12 13 (.iload 2) := ⟨rfl, rfl⟩
theorem fModel_copies_13 : w_fe am_c231 13 14 (.iload 3) := ⟨rfl, rfl⟩
theorem fModel_copies_14 : w_fe am_c231 14 15 (.iadd) := ⟨rfl, rfl⟩
theorem fModel_copies_15 : w_fe am_c231 15 16 (.iaload) := ⟨rfl, rfl⟩
theorem fModel_copies_16 : w_fe am_c231 16 17 (.iastore) := ⟨rfl, rfl⟩
theorem fModel_copies_17 : w_fe am_c231 17 18 (.iinc 3 1) := ⟨rfl, rfl⟩
theorem fModel_copies_18 : w_gt am_c231 18 2 := rfl
theorem fModel_copies_19 : w_fe am_c231 19 20 (.return_) := ⟨rfl, rfl⟩
noncomputable def LModel_copies_2 (xs : List Int) (d : Nat) (Q : Option w_V → w_M → Prop) (v1 : Int) (v2 : Int) (v3 : Int) (σ : w_M) : Prop := w_Ex (xs, d) 0 am_c231 Q 2 [some (.inr (.inr (9, 122))), some (.inl v1), some (.inl v2), some (.inl v3)] [] σ
set_option maxRecDepth 20000 in
theorem bModel_copies_0 {xs : List Int} {d : Nat} {Q : Option w_V → w_M → Prop} {x1 : Int} {x2 : Int} {σ : w_M}
    (h : LModel_copies_2 xs d Q x1 x2 0 σ) : w_Call (xs, d) 231 [.inr (.inr (9, 122)), .inl x1, .inl x2] σ Q :=
  (w_mk (mid := 231) (by decide) rfl rfl rfl rfl rfl (Nat.le_of_ble_eq_true rfl) ⟨rfl, Or.inl (by decide)⟩ (wi_bipush fModel_copies_0 (wi_istore3 fModel_copies_1 trivial h)))
set_option maxRecDepth 20000 in
theorem bModel_copies_2 {xs : List Int} {d : Nat} {Q : Option w_V → w_M → Prop} {v1 : Int} {v2 : Int} {v3 : Int} {σ : w_M}
    (h : (82 ≤ v3 → Q none σ) ∧ (v3 < 82 → (w_in (v1 + v3) ∧ w_in (v2 + v3) ∧ 0 ≤ (v2 + v3) ∧ (v2 + v3) < 246 ∧ 0 ≤ (v1 + v3) ∧ (v1 + v3) < 246 ∧ (∀ (τ1 : w_M), τ1 = w_up σ 123 (v1 + v3).toNat (σ 123 (v2 + v3).toNat) → (w_in (v3 + 1) ∧ LModel_copies_2 xs d Q v1 v2 (v3 + 1) τ1))))) : LModel_copies_2 xs d Q v1 v2 v3 σ :=
  (wi_iload3 fModel_copies_2 (wi_bipush fModel_copies_3 (wi_ic_ge fModel_copies_4 (fun c2 => (wi_ret0 fModel_copies_19 (h.1 c2))) (fun c2 => (wi_aload0 fModel_copies_5 (wi_getf900 fModel_copies_6 (wi_iload1 fModel_copies_7 (wi_iload3 fModel_copies_8 (wi_iadd fModel_copies_9 (h.2 c2).1 (wi_aload0 fModel_copies_10 (wi_getf900 fModel_copies_11 (wi_iload2 fModel_copies_12 (wi_iload3 fModel_copies_13 (wi_iadd fModel_copies_14 (h.2 c2).2.1 (wi_iald1246 fModel_copies_15 (h.2 c2).2.2.1 (h.2 c2).2.2.2.1 (wi_iast1246 fModel_copies_16 (h.2 c2).2.2.2.2.1 (h.2 c2).2.2.2.2.2.1 (wi_iinc3 fModel_copies_17 trivial ((h.2 c2).2.2.2.2.2.2 _ rfl).1 (wi_goto fModel_copies_18 ((h.2 c2).2.2.2.2.2.2 _ rfl).2))))))))))))))))))
theorem k_Model_copies {xs : List Int} {d : Nat} {Q : Option w_V → w_M → Prop} {x1 : Int} {x2 : Int} {σ : w_M} (hp : p_Model_copies x1 x2 σ) (hQ : ∀ σ' : w_M, q_Model_copies x1 x2 σ σ' → Q none σ') : w_Call (xs, d) 231 [.inr (.inr (9, 122)), .inl x1, .inl x2] σ Q := by
  unfold p_Model_copies at hp
  refine bModel_copies_0 ?_
  refine (w_loop (n := 82) (P := fun k => ∀ τ : w_M, w_f1 σ τ 123 → (∀ j, j < k → τ 123 (x1.toNat + j) = σ 123 (x2.toNat + j)) → (∀ x, x < x1.toNat ∨ x1.toNat + k ≤ x → τ 123 x = σ 123 x) → LModel_copies_2 xs d Q x1 x2 (k : Int) τ) ?_ ?_) σ w_f1.rfl' (fun j hj => by omega) (fun x hx => rfl)
  · intro τ F h1 h2
    exact bModel_copies_2 ⟨fun _ => hQ _ ⟨F, h1, h2⟩, fun h => by omega⟩
  · intro k hk ih τ F h1 h2
    refine bModel_copies_2 ⟨fun h => by omega, fun h => ⟨⟨by omega, by omega⟩, ⟨by omega, by omega⟩, by omega, by omega, by omega, by omega, fun τ1 t1 => ⟨⟨by omega, by omega⟩, ?_⟩⟩⟩
    rw [← w_cs1]
    have ea : (x1 + (k : Int)).toNat = x1.toNat + k := by omega
    have eb : (x2 + (k : Int)).toNat = x2.toNat + k := by omega
    rw [ea, eb, h2 (x2.toNat + k) (by omega)] at t1
    refine ih τ1 (by rw [t1]; exact F.up) (fun j hj => ?_) (fun x hx => by rw [t1, w_up_j (by omega)]; exact h2 x (by omega))
    by_cases hjk : j = k
    · rw [hjk, t1, w_up_at]
    · rw [t1, w_up_j (by omega)]
      exact h1 j (by omega)
theorem w_am_sh {σ τ : w_M} {o o' : Nat} (hsm : m_sm σ) (h122 : τ 122 = σ 122) (h : ∀ x, x < 48 → τ 123 (o + x) = σ 123 (o' + x)) : w_am τ 123 o = w_am σ 123 o' := by
  have hr : ∀ k, m_rl τ k = m_rl σ k := fun k => by unfold m_rl; rw [h122]
  funext k j
  unfold w_am
  rw [h122, hr, h 42 (by decide), h 41 (by decide), h 47 (by decide)]
  by_cases hj : j < m_rl σ k
  · obtain ⟨k10, j7, jL⟩ := m_rl_d hsm hj
    have := (m_ix_sc k k10 j j7 jL).2.2.2
    rw [if_pos hj, if_pos hj, h _ (by omega)]
  · rw [if_neg hj, if_neg hj]
theorem s_am_sh {σ τ : w_M} {o o' : Nat} (hc : σ 123 (o' + 48) ≤ 8) (h : ∀ x, x < 82 → τ 123 (o + x) = σ 123 (o' + x)) : s_am τ o = s_am σ o' := by
  rw [s_am_g, s_am_g]
  refine g_ab_congr (h 48 (by decide)) (fun d i h1 h2 h3 => ?_)
  have := h (49 + 3 * i + (d - 1)) (by omega)
  show τ 123 (o + 49 + 3 * i + (d - 1)) = σ 123 (o' + 49 + 3 * i + (d - 1))
  rw [show o + 49 + 3 * i + (d - 1) = o + (49 + 3 * i + (d - 1)) by omega, show o' + 49 + 3 * i + (d - 1) = o' + (49 + 3 * i + (d - 1)) by omega]
  exact this
theorem c_am_sh {σ τ : w_M} {o o' : Nat} (hc : σ 123 (o' + 73) ≤ 4) (h : ∀ x, x < 82 → τ 123 (o + x) = σ 123 (o' + x)) : c_am τ o = c_am σ o' := by
  rw [c_am_g, c_am_g]
  refine g_ab_congr (h 73 (by decide)) (fun d i h1 h2 h3 => ?_)
  have := h (74 + 2 * i + (d - 1)) (by omega)
  show τ 123 (o + 74 + 2 * i + (d - 1)) = σ 123 (o' + 74 + 2 * i + (d - 1))
  rw [show o + 74 + 2 * i + (d - 1) = o + (74 + 2 * i + (d - 1)) by omega, show o' + 74 + 2 * i + (d - 1) = o' + (74 + 2 * i + (d - 1)) by omega]
  exact this
theorem mS_11 {σ : w_M} {k : Nat} (hk : k < 2) : mS σ 11 0 k = σ 125 k := by
  show (if 0 = 0 ∧ k < 2 then σ 125 k else 0) = _
  rw [if_pos ⟨rfl, hk⟩]
theorem MI.k01 {σ : w_M} (h : MI σ) {k : Nat} (hk : k = 0 ∨ k = 1) : σ 125 k = 0 ∨ σ 125 k = 1 := by
  rcases hk with rfl | rfl
  · exact h.2.2.2.2.2.1
  · exact h.2.2.2.2.2.2.1
noncomputable def p_Model_keep (_x1 : Int) (σ : w_M) : Prop := MI σ
noncomputable def q_Model_keep (x1 : Int) (σ : w_M) (x : Int) (σ' : w_M) : Prop := m_q (F_keep (mS σ) x1) (G_keep (mS σ) x1) σ x σ'
theorem fModel_keep_0 : w_fe am_c230 0 1 (.iload 1) := ⟨rfl, rfl⟩
theorem fModel_keep_1 : w_fe am_c230 1 2 (.i2l) := ⟨rfl, rfl⟩
theorem fModel_keep_2 : w_fe am_c230 2 3 (.sipush 0) := ⟨rfl, rfl⟩
theorem fModel_keep_3 : w_fe am_c230 3 4 (.sipush 1) := ⟨rfl, rfl⟩
theorem fModel_keep_4 : w_fe am_c230 4 5 (.invokestatic 157) := ⟨rfl, rfl⟩
theorem fModel_keep_5 : w_if am_c230 5 6 .ne 8 := ⟨rfl, rfl⟩
theorem fModel_keep_6 : w_fe am_c230 6 7 (.bipush (-1)) := ⟨rfl, rfl⟩
theorem fModel_keep_7 : w_fe am_c230 7 8 (.ireturn) := ⟨rfl, rfl⟩
theorem fModel_keep_8 : w_fe am_c230 8 9 (.aload 0) := ⟨rfl, rfl⟩
theorem fModel_keep_9 : w_fe am_c230 9 10 (.getfield 902) := ⟨rfl, rfl⟩
theorem fModel_keep_10 : w_fe am_c230 10 11 (.iload 1) := ⟨rfl, rfl⟩
theorem fModel_keep_11 : w_fe am_c230 11 12 (.baload) := ⟨rfl, rfl⟩
theorem fModel_keep_12 : w_fe am_c230 12 13 (.invokestatic 179) := ⟨rfl, rfl⟩
theorem fModel_keep_13 : w_fe am_c230 13 14 (.istore 2) := ⟨rfl, rfl⟩
theorem fModel_keep_14 : w_fe am_c230 14 15 (.aload 0) := ⟨rfl, rfl⟩
theorem fModel_keep_15 : w_fe am_c230 15 16 (.getfield 902) := ⟨rfl, rfl⟩
theorem fModel_keep_16 : w_fe am_c230 16 17 (.iload 1) := ⟨rfl, rfl⟩
theorem fModel_keep_17 : w_fe am_c230 17 18 (.bipush 1) := ⟨rfl, rfl⟩
theorem fModel_keep_18 : w_fe am_c230 18 19 (.bastore) := ⟨rfl, rfl⟩
theorem fModel_keep_19 : w_fe am_c230 19 20 (.aload 0) := ⟨rfl, rfl⟩
theorem fModel_keep_20 : w_fe am_c230 20 21 (.bipush 82) := ⟨rfl, rfl⟩
theorem fModel_keep_21 : w_fe am_c230 21 22 (.iload 1) := ⟨rfl, rfl⟩
theorem fModel_keep_22 : w_fe am_c230 22 23 (.bipush 1) := ⟨rfl, rfl⟩
theorem fModel_keep_23 : w_fe am_c230 23 24 (.iadd) := ⟨rfl, rfl⟩
theorem fModel_keep_24 : w_fe am_c230 24 25 (.imul) := ⟨rfl, rfl⟩
theorem fModel_keep_25 : w_fe am_c230 25 26 (.bipush 0) := ⟨rfl, rfl⟩
theorem fModel_keep_26 : w_fe am_c230 26 27 (.invokestatic 231) := ⟨rfl, rfl⟩
theorem fModel_keep_27 : w_fe am_c230 27 28 (.iload 2) := ⟨rfl, rfl⟩
theorem fModel_keep_28 : w_fe am_c230 28 29 (.ireturn) := ⟨rfl, rfl⟩
set_option maxRecDepth 20000 in
theorem bModel_keep_0 {xs : List Int} {d : Nat} {Q : Option w_V → w_M → Prop} {x1 : Int} {σ : w_M}
    (h : ((0 ≤ x1 ∧ x1 ≤ 1) → (0 ≤ x1 ∧ x1 < 2 ∧ (∀ (y1 : Int), y1 = v_Model_flag (σ 125 x1.toNat) → ∀ (τ2 : w_M), τ2 = w_up σ 125 x1.toNat 1 → (w_in (x1 + 1) ∧ w_in (82 * (x1 + 1)) ∧ p_Model_copies (82 * (x1 + 1)) 0 τ2 ∧ (∀ (τ3 : w_M), q_Model_copies (82 * (x1 + 1)) 0 τ2 τ3 → Q (some (.inl y1)) τ3))))) ∧ (¬ (0 ≤ x1 ∧ x1 ≤ 1) → Q (some (.inl (-1))) σ)) : w_Call (xs, (d + 1)) 230 [.inr (.inr (9, 122)), .inl x1] σ Q :=
  (w_mk (mid := 230) (by decide) rfl rfl rfl rfl rfl (Nat.le_of_ble_eq_true rfl) ⟨rfl, Or.inl (by decide)⟩ (wi_iload1 fModel_keep_0 (wi_i2l fModel_keep_1 (wi_sipush fModel_keep_2 (wi_sipush fModel_keep_3 (wi_call3 fModel_keep_4 (Nat.le_of_ble_eq_true rfl) (k_Model_in (wi_ifb_ne fModel_keep_5 (fun c4 => (wi_aload0 fModel_keep_8 (wi_getf902 fModel_keep_9 (wi_iload1 fModel_keep_10 (wi_bald3002 fModel_keep_11 (h.1 c4).1 (h.1 c4).2.1 (wi_call1 fModel_keep_12 (Nat.le_of_ble_eq_true rfl) (k_Model_flag (wi_istore2 fModel_keep_13 trivial (wi_aload0 fModel_keep_14 (wi_getf902 fModel_keep_15 (wi_iload1 fModel_keep_16 (wi_bipush fModel_keep_17 (wi_bast3002 fModel_keep_18 (by decide) (h.1 c4).1 (h.1 c4).2.1 (wi_aload0 fModel_keep_19 (wi_bipush fModel_keep_20 (wi_iload1 fModel_keep_21 (wi_bipush fModel_keep_22 (wi_iadd fModel_keep_23 (((h.1 c4).2.2 _ rfl) _ rfl).1 (wi_imul fModel_keep_24 (((h.1 c4).2.2 _ rfl) _ rfl).2.1 (wi_bipush fModel_keep_25 (wi_call3 fModel_keep_26 (Nat.le_of_ble_eq_true rfl) (k_Model_copies (((h.1 c4).2.2 _ rfl) _ rfl).2.2.1 (fun τ3 eτ3 => (wi_iload2 fModel_keep_27 (wi_ret1 fModel_keep_28 ((((h.1 c4).2.2 _ rfl) _ rfl).2.2.2 τ3 eτ3)))))))))))))))))))))))))) (fun c4 => (wi_bipush fModel_keep_6 (wi_ret1 fModel_keep_7 (h.2 c4))))))))))))
set_option maxHeartbeats 1000000 in
theorem k_Model_keep {xs : List Int} {d : Nat} {Q : Option w_V → w_M → Prop} {x1 : Int} {σ : w_M} (hp : p_Model_keep x1 σ) (hQ : ∀ (x : Int) (σ' : w_M), q_Model_keep x1 σ x σ' → Q (some (.inl x)) σ') : w_Call (xs, d + 1) 230 [.inr (.inr (9, 122)), .inl x1] σ Q := by
  have hM : MI σ := hp
  unfold q_Model_keep F_keep G_keep at hQ
  refine bModel_keep_0 ⟨fun c => ⟨c.1, by omega, fun y1 e1 τ2 t2 => ⟨⟨by omega, by omega⟩, ⟨by omega, by omega⟩, ?_, fun τ3 q3 => ?_⟩⟩, fun c => ?_⟩
  · unfold p_Model_copies; omega
  · rw [if_pos c, if_pos c] at hQ
    obtain ⟨k, rfl⟩ := Int.eq_ofNat_of_zero_le c.1
    have hk : k = 0 ∨ k = 1 := by omega
    rw [Int.toNat_natCast] at hQ e1 t2
    obtain ⟨F, h1, h2⟩ := q3
    have ek : (82 * ((k : Int) + 1)).toNat = 82 + 82 * k := by omega
    have e0 : (0 : Int).toNat = 0 := rfl
    rw [ek, e0] at h1
    rw [ek] at h2
    have z2 : ∀ b, b ≠ 125 → τ2 b = σ b := fun b hb => by rw [t2, w_up_ne hb]
    have z3 : ∀ b, b ≠ 123 → b ≠ 125 → τ3 b = σ b := fun b h1 h2 => by rw [F b h1, z2 b h2]
    have h123 := z2 123 (by decide)
    rw [h123] at h1 h2
    have kb : ∀ j, τ3 125 j = if j = k then 1 else σ 125 j := fun j => by
      rw [F 125 (by decide), t2, w_up_eq]
      by_cases hj : j = k
      · rw [if_pos ⟨rfl, hj⟩, if_pos hj]
      · rw [if_neg (fun e => hj e.2), if_neg hj]
    have z122 := z3 122 (by decide) (by decide)
    have e122 : τ3 122 3 = σ 122 3 ∧ τ3 122 4 = σ 122 4 ∧ τ3 122 5 = σ 122 5 := by rw [z122]; exact ⟨rfl, rfl, rfl⟩
    have lo : ∀ x, x < 82 → τ3 123 x = σ 123 x := fun x hx => h2 x (by omega)
    have A1 : w_am τ3 123 (82 + 82 * k) = w_am σ 123 0 := w_am_sh hM.sm z122 (fun x hx => h1 x (by omega))
    have A2 : s_am τ3 (82 + 82 * k) = s_am σ 0 := s_am_sh hM.se.2 h1
    have A3 : c_am τ3 (82 + 82 * k) = c_am σ 0 := c_am_sh hM.pa.2 h1
    have kb0 := kb 0
    have kb1 := kb 1
    have hS : mS τ3 = im_set (mS σ) k := by
      refine cS_ext ?_ ?_ ?_ ?_ ?_ (fun p hp => ?_)
      · show w_am τ3 123 0 = _
        rw [w_am_frx hM.sm e122 (fun x _ hx => lo x (by omega))]
        rcases hk with rfl | rfl <;> rfl
      · show s_am τ3 0 = _
        rw [s_am_fr (fun x _ hx => lo x (by omega)) hM.se.2]
        rcases hk with rfl | rfl <;> rfl
      · show c_am τ3 0 = _
        rw [c_am_fr (fun x _ hx => lo x (by omega)) hM.pa.2]
        rcases hk with rfl | rfl <;> rfl
      · show t_am τ3 = _
        rw [t_am_fr (by rw [z122]) (by rw [z122]) (z3 127 (by decide) (by decide))]
        rcases hk with rfl | rfl <;> rfl
      · show h_am τ3 = _
        rw [h_am_fr (fun b h1 h2 => z3 b (by omega) (by omega))]
        rcases hk with rfl | rfl <;> rfl
      · have i0 := hM.2.2.2.2.2.2.2.1
        have i1 := hM.2.2.2.2.2.2.2.2
        rcases hk with rfl | rfl
        · rw [if_pos rfl] at kb0
          rw [if_neg (by decide)] at kb1
          have hi : ∀ x, 164 ≤ x → τ3 123 x = σ 123 x := fun x hx => h2 x (by omega)
          match p, hp with
          | 5, _ => simp only [mS]; rw [kb0, if_pos rfl]; exact A1
          | 6, _ => simp only [mS]; rw [kb0, if_pos rfl]; exact A2
          | 7, _ => simp only [mS]; rw [kb0, if_pos rfl]; exact A3
          | 8, _ =>
            show (if τ3 125 1 = 1 then w_am τ3 123 164 else w_0) = (if σ 125 1 = 1 then w_am σ 123 164 else w_0)
            rw [kb1, w_am_frx hM.sm e122 (fun x h1 _ => hi x h1)]
          | 9, _ =>
            show (if τ3 125 1 = 1 then s_am τ3 164 else w_0) = (if σ 125 1 = 1 then s_am σ 164 else w_0)
            rw [kb1]
            by_cases hkk : σ 125 1 = 1
            · have hw := (i1 hkk).2.2.1.1.2
              simp only [mS] at hw
              rw [if_pos hkk] at hw
              rw [if_pos hkk, if_pos hkk, s_am_fr (fun x h1 _ => hi x (by omega)) hw]
            · rw [if_neg hkk, if_neg hkk]
          | 10, _ =>
            show (if τ3 125 1 = 1 then c_am τ3 164 else w_0) = (if σ 125 1 = 1 then c_am σ 164 else w_0)
            rw [kb1]
            by_cases hkk : σ 125 1 = 1
            · have hw := (i1 hkk).2.2.2.1.2
              simp only [mS] at hw
              rw [if_pos hkk] at hw
              rw [if_pos hkk, if_pos hkk, c_am_fr (fun x h1 _ => hi x (by omega)) hw]
            · rw [if_neg hkk, if_neg hkk]
          | 11, _ =>
            show (fun d i => if d = 0 ∧ i < 2 then τ3 125 i else 0) = w_up (fun d i => if d = 0 ∧ i < 2 then σ 125 i else 0) 0 0 1
            funext d i
            rw [w_up_eq]
            by_cases hd : d = 0 ∧ i < 2
            · rw [if_pos hd, if_pos hd, kb i]
              by_cases hi : i = 0
              · rw [if_pos hi, if_pos ⟨hd.1, hi⟩]
              · rw [if_neg hi, if_neg (fun e => hi e.2)]
            · rw [if_neg hd, if_neg hd, if_neg (fun e => hd ⟨e.1, by omega⟩)]
          | p + 12, _ => exact (show mS τ3 (p + 12) = w_0 from rfl).trans (show im_set (mS σ) 0 (p + 12) = w_0 by unfold im_set; rw [w_sp_ne (by omega), w_sp_ne (by omega), w_sp_ne (by omega), w_sp_ne (by omega)]; rfl).symm
        · rw [if_neg (by decide)] at kb0
          rw [if_pos rfl] at kb1
          have hi : ∀ x, x < 164 → τ3 123 x = σ 123 x := fun x hx => h2 x (by omega)
          match p, hp with
          | 5, _ =>
            show (if τ3 125 0 = 1 then w_am τ3 123 82 else w_0) = (if σ 125 0 = 1 then w_am σ 123 82 else w_0)
            rw [kb0, w_am_frx hM.sm e122 (fun x _ h1 => hi x (by omega))]
          | 6, _ =>
            show (if τ3 125 0 = 1 then s_am τ3 82 else w_0) = (if σ 125 0 = 1 then s_am σ 82 else w_0)
            rw [kb0]
            by_cases hkk : σ 125 0 = 1
            · have hw := (i0 hkk).2.2.1.1.2
              simp only [mS] at hw
              rw [if_pos hkk] at hw
              rw [if_pos hkk, if_pos hkk, s_am_fr (fun x _ h1 => hi x (by omega)) hw]
            · rw [if_neg hkk, if_neg hkk]
          | 7, _ =>
            show (if τ3 125 0 = 1 then c_am τ3 82 else w_0) = (if σ 125 0 = 1 then c_am σ 82 else w_0)
            rw [kb0]
            by_cases hkk : σ 125 0 = 1
            · have hw := (i0 hkk).2.2.2.1.2
              simp only [mS] at hw
              rw [if_pos hkk] at hw
              rw [if_pos hkk, if_pos hkk, c_am_fr (fun x _ h1 => hi x (by omega)) hw]
            · rw [if_neg hkk, if_neg hkk]
          | 8, _ => simp only [mS]; rw [kb1, if_pos rfl]; exact A1
          | 9, _ => simp only [mS]; rw [kb1, if_pos rfl]; exact A2
          | 10, _ => simp only [mS]; rw [kb1, if_pos rfl]; exact A3
          | 11, _ =>
            show (fun d i => if d = 0 ∧ i < 2 then τ3 125 i else 0) = w_up (fun d i => if d = 0 ∧ i < 2 then σ 125 i else 0) 0 1 1
            funext d i
            rw [w_up_eq]
            by_cases hd : d = 0 ∧ i < 2
            · rw [if_pos hd, if_pos hd, kb i]
              by_cases hi : i = 1
              · rw [if_pos hi, if_pos ⟨hd.1, hi⟩]
              · rw [if_neg hi, if_neg (fun e => hi e.2)]
            · rw [if_neg hd, if_neg hd, if_neg (fun e => hd ⟨e.1, by omega⟩)]
          | p + 12, _ => exact (show mS τ3 (p + 12) = w_0 from rfl).trans (show im_set (mS σ) 1 (p + 12) = w_0 by unfold im_set; rw [w_sp_ne (by omega), w_sp_ne (by omega), w_sp_ne (by omega), w_sp_ne (by omega)]; rfl).symm
    refine hQ _ _ ⟨?_, by unfold MI; rw [hS]; exact sWF_im hM hk, hS, fun b hb => z3 b (by omega) (by omega), by rw [z122]⟩
    rw [e1, mS_11 (by omega)]
    unfold v_Model_flag
    rcases hM.k01 hk with h | h <;> rw [h] <;> rfl
  · rw [if_neg c, if_neg c] at hQ
    exact hQ _ _ (m_qr hM rfl)
noncomputable def p_Model_back (_x1 : Int) (σ : w_M) : Prop := MI σ
noncomputable def q_Model_back (x1 : Int) (σ : w_M) (x : Int) (σ' : w_M) : Prop := m_q (F_back (mS σ) x1) (G_back (mS σ) x1) σ x σ'
theorem fModel_back_0 : w_fe am_c232 0 1 (.iload 1) := ⟨rfl, rfl⟩
theorem fModel_back_1 : w_fe am_c232 1 2 (.i2l) := ⟨rfl, rfl⟩
theorem fModel_back_2 : w_fe am_c232 2 3 (.sipush 0) := ⟨rfl, rfl⟩
theorem fModel_back_3 : w_fe am_c232 3 4 (.sipush 1) := ⟨rfl, rfl⟩
theorem fModel_back_4 : w_fe am_c232 4 5 (.invokestatic 157) := ⟨rfl, rfl⟩
theorem fModel_back_5 : w_if am_c232 5 6 .ne 8 := ⟨rfl, rfl⟩
theorem fModel_back_6 : w_fe am_c232 6 7 (.bipush (-1)) := ⟨rfl, rfl⟩
theorem fModel_back_7 : w_fe am_c232 7 8 (.ireturn) := ⟨rfl, rfl⟩
theorem fModel_back_8 : w_fe am_c232 8 9 (.aload 0) := ⟨rfl, rfl⟩
theorem fModel_back_9 : w_fe am_c232 9 10 (.getfield 902) := ⟨rfl, rfl⟩
theorem fModel_back_10 : w_fe am_c232 10 11 (.iload 1) := ⟨rfl, rfl⟩
theorem fModel_back_11 : w_fe am_c232 11 12 (.baload) := ⟨rfl, rfl⟩
theorem fModel_back_12 : w_if am_c232 12 13 .ne 15 := ⟨rfl, rfl⟩
theorem fModel_back_13 : w_fe am_c232 13 14 (.bipush (-2)) := ⟨rfl, rfl⟩
theorem fModel_back_14 : w_fe am_c232 14 15 (.ireturn) := ⟨rfl, rfl⟩
theorem fModel_back_15 : w_fe am_c232 15 16 (.aload 0) := ⟨rfl, rfl⟩
theorem fModel_back_16 : w_fe am_c232 16 17 (.bipush 0) := ⟨rfl, rfl⟩
theorem fModel_back_17 : w_fe am_c232 17 18 (.bipush 82) := ⟨rfl, rfl⟩
theorem fModel_back_18 : w_fe am_c232 18 19 (.iload 1) := ⟨rfl, rfl⟩
theorem fModel_back_19 : w_fe am_c232 19 20 (.bipush 1) := ⟨rfl, rfl⟩
theorem fModel_back_20 : w_fe am_c232 20 21 (.iadd) := ⟨rfl, rfl⟩
theorem fModel_back_21 : w_fe am_c232 21 22 (.imul) := ⟨rfl, rfl⟩
theorem fModel_back_22 : w_fe am_c232 22 23 (.invokestatic 231) := ⟨rfl, rfl⟩
theorem fModel_back_23 : w_fe am_c232 23 24 (.aload 0) := ⟨rfl, rfl⟩
theorem fModel_back_24 : w_fe am_c232 24 25 (.getfield 900) := ⟨rfl, rfl⟩
theorem fModel_back_25 : w_fe am_c232 25 26 (.bipush 42) := ⟨rfl, rfl⟩
theorem fModel_back_26 : w_fe am_c232 26 27 (.iaload) := ⟨rfl, rfl⟩
theorem fModel_back_27 : w_fe am_c232 27 28 (.ireturn) := ⟨rfl, rfl⟩
set_option maxRecDepth 20000 in
theorem bModel_back_0 {xs : List Int} {d : Nat} {Q : Option w_V → w_M → Prop} {x1 : Int} {σ : w_M}
    (h : ((0 ≤ x1 ∧ x1 ≤ 1) → (0 ≤ x1 ∧ x1 < 2 ∧ ((¬ (σ 125 x1.toNat) = 0 → (w_in (x1 + 1) ∧ w_in (82 * (x1 + 1)) ∧ p_Model_copies 0 (82 * (x1 + 1)) σ ∧ (∀ (τ1 : w_M), q_Model_copies 0 (82 * (x1 + 1)) σ τ1 → Q (some (.inl (τ1 123 42))) τ1))) ∧ ((σ 125 x1.toNat) = 0 → Q (some (.inl (-2))) σ)))) ∧ (¬ (0 ≤ x1 ∧ x1 ≤ 1) → Q (some (.inl (-1))) σ)) : w_Call (xs, (d + 1)) 232 [.inr (.inr (9, 122)), .inl x1] σ Q :=
  (w_mk (mid := 232) (by decide) rfl rfl rfl rfl rfl (Nat.le_of_ble_eq_true rfl) ⟨rfl, Or.inl (by decide)⟩ (wi_iload1 fModel_back_0 (wi_i2l fModel_back_1 (wi_sipush fModel_back_2 (wi_sipush fModel_back_3 (wi_call3 fModel_back_4 (Nat.le_of_ble_eq_true rfl) (k_Model_in (wi_ifb_ne fModel_back_5 (fun c3 => (wi_aload0 fModel_back_8 (wi_getf902 fModel_back_9 (wi_iload1 fModel_back_10 (wi_bald3002 fModel_back_11 (h.1 c3).1 (h.1 c3).2.1 (wi_if_ne fModel_back_12 (fun c2 => (wi_aload0 fModel_back_15 (wi_bipush fModel_back_16 (wi_bipush fModel_back_17 (wi_iload1 fModel_back_18 (wi_bipush fModel_back_19 (wi_iadd fModel_back_20 ((h.1 c3).2.2.1 c2).1 (wi_imul fModel_back_21 ((h.1 c3).2.2.1 c2).2.1 (wi_call3 fModel_back_22 (Nat.le_of_ble_eq_true rfl) (k_Model_copies ((h.1 c3).2.2.1 c2).2.2.1 (fun τ1 eτ1 => (wi_aload0 fModel_back_23 (wi_getf900 fModel_back_24 (wi_bipush fModel_back_25 (wi_iald1246 fModel_back_26 (by decide) (by decide) (wi_ret1 fModel_back_27 (((h.1 c3).2.2.1 c2).2.2.2 τ1 eτ1))))))))))))))))) (fun c2 => (wi_bipush fModel_back_13 (wi_ret1 fModel_back_14 ((h.1 c3).2.2.2 c2)))))))))) (fun c3 => (wi_bipush fModel_back_6 (wi_ret1 fModel_back_7 (h.2 c3))))))))))))
set_option maxHeartbeats 1000000 in
theorem k_Model_back {xs : List Int} {d : Nat} {Q : Option w_V → w_M → Prop} {x1 : Int} {σ : w_M} (hp : p_Model_back x1 σ) (hQ : ∀ (x : Int) (σ' : w_M), q_Model_back x1 σ x σ' → Q (some (.inl x)) σ') : w_Call (xs, d + 1) 232 [.inr (.inr (9, 122)), .inl x1] σ Q := by
  have hM : MI σ := hp
  unfold q_Model_back F_back G_back at hQ
  refine bModel_back_0 ⟨fun c => ⟨c.1, by omega, fun c2 => ⟨⟨by omega, by omega⟩, ⟨by omega, by omega⟩, ?_, fun τ q => ?_⟩, fun c2 => ?_⟩, fun c => ?_⟩
  · unfold p_Model_copies; omega
  · obtain ⟨k, rfl⟩ := Int.eq_ofNat_of_zero_le c.1
    have hk : k = 0 ∨ k = 1 := by omega
    rw [Int.toNat_natCast] at hQ c2
    have h1k : σ 125 k = 1 := (hM.k01 hk).resolve_left c2
    have e11 : mS σ 11 0 k = σ 125 k := mS_11 (by omega)
    rw [e11, if_pos c, if_pos h1k, if_pos ⟨c, h1k⟩] at hQ
    obtain ⟨F, h1, h2⟩ := q
    have ek : (82 * ((k : Int) + 1)).toNat = 82 + 82 * k := by omega
    have e0 : (0 : Int).toNat = 0 := rfl
    rw [ek, e0] at h1
    rw [e0] at h2
    have z122 := F 122 (by decide)
    have e122 : τ 122 3 = σ 122 3 ∧ τ 122 4 = σ 122 4 ∧ τ 122 5 = σ 122 5 := by rw [z122]; exact ⟨rfl, rfl, rfl⟩
    have him : imWF (mS σ 0) (w_am σ 123 (82 + 82 * k)) (s_am σ (82 + 82 * k)) (c_am σ (82 + 82 * k)) ∧ mS σ (5 + 3 * k) = w_am σ 123 (82 + 82 * k) ∧ mS σ (6 + 3 * k) = s_am σ (82 + 82 * k) ∧ mS σ (7 + 3 * k) = c_am σ (82 + 82 * k) := by
      rcases hk with rfl | rfl
      · have e5 : mS σ 5 = w_am σ 123 82 := by simp only [mS]; rw [if_pos h1k]
        have e6 : mS σ 6 = s_am σ 82 := by simp only [mS]; rw [if_pos h1k]
        have e7 : mS σ 7 = c_am σ 82 := by simp only [mS]; rw [if_pos h1k]
        have := hM.2.2.2.2.2.2.2.1 (e11.trans h1k)
        rw [e5, e6, e7] at this
        exact ⟨this, e5, e6, e7⟩
      · have e5 : mS σ 8 = w_am σ 123 164 := by simp only [mS]; rw [if_pos h1k]
        have e6 : mS σ 9 = s_am σ 164 := by simp only [mS]; rw [if_pos h1k]
        have e7 : mS σ 10 = c_am σ 164 := by simp only [mS]; rw [if_pos h1k]
        have := hM.2.2.2.2.2.2.2.2 (e11.trans h1k)
        rw [e5, e6, e7] at this
        exact ⟨this, e5, e6, e7⟩
    obtain ⟨⟨i1, i2, i3, i4⟩, g5, g6, g7⟩ := him
    have h1' : ∀ x, x < 82 → τ 123 (0 + x) = σ 123 (82 + 82 * k + x) := fun x hx => h1 x hx
    have hS : mS τ = im_get (mS σ) k := by
      refine cS_ext ?_ ?_ ?_ ?_ ?_ (fun p hp => ?_)
      · show w_am τ 123 0 = mS σ (5 + 3 * k); rw [g5]; exact w_am_sh hM.sm z122 (fun x hx => h1' x (by omega))
      · show s_am τ 0 = mS σ (6 + 3 * k); rw [g6]; exact s_am_sh i3.1.2 h1'
      · show c_am τ 0 = mS σ (7 + 3 * k); rw [g7]; exact c_am_sh i4.1.2 h1'
      · show t_am τ = t_am σ; exact t_am_fr (by rw [z122]) (by rw [z122]) (F 127 (by decide))
      · show h_am τ = h_am σ; exact h_am_fr (fun b h1 h2 => F b (by omega))
      · unfold im_get
        rw [w_sp_ne (by omega), w_sp_ne (by omega), w_sp_ne (by omega)]
        exact mS_im hM e122 (F 125 (by decide)) (fun x hx => h2 x (by omega)) p hp
    refine hQ _ _ ⟨?_, by unfold MI; rw [hS]; exact sWF_bk hM hk (e11.trans h1k), hS, fun b hb => F b (by omega), by rw [z122]⟩
    rw [g5]
    exact h1' 42 (by decide)
  · obtain ⟨k, rfl⟩ := Int.eq_ofNat_of_zero_le c.1
    have hk : k = 0 ∨ k = 1 := by omega
    rw [Int.toNat_natCast] at hQ c2
    have e11 : mS σ 11 0 k = σ 125 k := mS_11 (by omega)
    rw [e11, if_pos c, c2, if_neg (by decide), if_neg (by omega)] at hQ
    exact hQ _ _ (m_qr hM rfl)
  · rw [if_neg c, if_neg (fun q => c q.1)] at hQ
    exact hQ _ _ (m_qr hM rfl)
