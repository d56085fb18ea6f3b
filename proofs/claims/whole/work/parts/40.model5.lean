/-! What is seen, paid, kept: the reference -/
theorem m_q1 {σ σ' : w_M} {B : w_M} {F x : Int} (hM : MI σ) (hf : w_f1 σ σ' 123) (hx3 : ∀ x, x < 48 ∨ 73 ≤ x → σ' 123 x = σ 123 x) (hB : s_am σ' 0 = B) (hW : seWF B) (hx : x = F) : m_q F (w_sp (mS σ) 1 B) σ x σ' := by
  have e : mS σ' = w_sp (mS σ) 1 B := by rw [mS_part1 hM hf hx3, hB]
  exact ⟨hx, by unfold MI; rw [e]; exact sWF_1 hM hW, e, fun b hb => hf b (by omega), by rw [hf 122 (by decide)]⟩
theorem m_q2 {σ σ' : w_M} {B : w_M} {F x : Int} (hM : MI σ) (hf : w_f1 σ σ' 123) (hx3 : ∀ x, x < 73 ∨ 82 ≤ x → σ' 123 x = σ 123 x) (hB : c_am σ' 0 = B) (hW : paWF (w_am σ 123 0) B) (hx : x = F) : m_q F (w_sp (mS σ) 2 B) σ x σ' := by
  have e : mS σ' = w_sp (mS σ) 2 B := by rw [mS_part2 hM hf hx3, hB]
  exact ⟨hx, by unfold MI; rw [e]; exact sWF_2 hM hW, e, fun b hb => hf b (by omega), by rw [hf 122 (by decide)]⟩
def p_Model_see (_x1 : Int) (_x2 : Int) (x3 : Int) (σ : w_M) : Prop := MI σ ∧ (x3 = 0 ∨ x3 = 1)
def q_Model_see (x1 : Int) (x2 : Int) (x3 : Int) (σ : w_M) (x : Int) (σ' : w_M) : Prop := m_q (F_see (mS σ) x1 x2 x3) (G_see (mS σ) x1 x2 x3) σ x σ'
def p_Model_forget (_x1 : Int) (σ : w_M) : Prop := MI σ
def q_Model_forget (x1 : Int) (σ : w_M) (x : Int) (σ' : w_M) : Prop := m_q (F_forget (mS σ) x1) (G_forget (mS σ) x1) σ x σ'
def p_Model_pay (_x1 : Int) (_x2 : Int) (σ : w_M) : Prop := MI σ
def q_Model_pay (x1 : Int) (x2 : Int) (σ : w_M) (x : Int) (σ' : w_M) : Prop := m_q (F_pay (mS σ) x1 x2) (G_pay (mS σ) x1 x2) σ x σ'
def p_Model_owe (_x1 : Int) (σ : w_M) : Prop := MI σ
def q_Model_owe (x1 : Int) (σ : w_M) (x : Int) (σ' : w_M) : Prop := m_q (F_owe (mS σ) x1) (G_owe (mS σ) x1) σ x σ'
theorem f216_0 : w_fe am_c216 0 1 (.iload 1) := ⟨rfl, rfl⟩
theorem f216_1 : w_fe am_c216 1 2 (.i2l) := ⟨rfl, rfl⟩
theorem f216_2 : w_fe am_c216 2 3 (.sipush 0) := ⟨rfl, rfl⟩
theorem f216_3 : w_fe am_c216 3 4 (.sipush 6) := ⟨rfl, rfl⟩
theorem f216_4 : w_fe am_c216 4 5 (.invokestatic 158) := ⟨rfl, rfl⟩
theorem f216_5 : w_if am_c216 5 6 .eq 10 := ⟨rfl, rfl⟩
theorem f216_6 : w_fe am_c216 6 7 (.aload 0) := ⟨rfl, rfl⟩
theorem f216_7 : w_fe am_c216 7 8 (.iload 2) := ⟨rfl, rfl⟩
theorem f216_8 : w_fe am_c216 8 9 (.invokestatic 178) := ⟨rfl, rfl⟩
theorem f216_9 : w_if am_c216 9 10 .ne 12 := ⟨rfl, rfl⟩
theorem f216_10 : w_fe am_c216 10 11 (.bipush (-1)) := ⟨rfl, rfl⟩
theorem f216_11 : w_fe am_c216 11 12 (.ireturn) := ⟨rfl, rfl⟩
theorem f216_12 : w_fe am_c216 12 13 (.aload 0) := ⟨rfl, rfl⟩
theorem f216_13 : w_fe am_c216 13 14 (.getfield 900) := ⟨rfl, rfl⟩
theorem f216_14 : w_fe am_c216 14 15 (.bipush 48) := ⟨rfl, rfl⟩
theorem f216_15 : w_fe am_c216 15 16 (.iaload) := ⟨rfl, rfl⟩
theorem f216_16 : w_fe am_c216 16 17 (.bipush 8) := ⟨rfl, rfl⟩
theorem f216_17 : w_ic am_c216 17 18 .ne 20 := ⟨rfl, rfl⟩
theorem f216_18 : w_fe am_c216 18 19 (.bipush (-3)) := ⟨rfl, rfl⟩
theorem f216_19 : w_fe am_c216 19 20 (.ireturn) := ⟨rfl, rfl⟩
theorem f216_20 : w_fe am_c216 20 21 (.bipush 49) := ⟨rfl, rfl⟩
theorem f216_21 : w_fe am_c216 21 22 (.bipush 3) := ⟨rfl, rfl⟩
theorem f216_22 : w_fe am_c216 22 23 (.aload 0) := ⟨rfl, rfl⟩
theorem f216_23 : w_fe am_c216 23 24 (.getfield 900) := ⟨rfl, rfl⟩
theorem f216_24 : w_fe am_c216 24 25 (.bipush 48) := ⟨rfl, rfl⟩
theorem f216_25 : w_fe am_c216 25 26 (.iaload) := ⟨rfl, rfl⟩
theorem f216_26 : w_fe am_c216 26 27 (.imul) := ⟨rfl, rfl⟩
theorem f216_27 : w_fe am_c216 27 28 (.iadd) := ⟨rfl, rfl⟩
theorem f216_28 : w_fe am_c216 28 29 (.istore 4) := ⟨rfl, rfl⟩
theorem f216_29 : w_fe am_c216 29 30 (.aload 0) := ⟨rfl, rfl⟩
theorem f216_30 : w_fe am_c216 30 31 (.getfield 900) := ⟨rfl, rfl⟩
theorem f216_31 : w_fe am_c216 31 32 (.iload 4) := ⟨rfl, rfl⟩
theorem f216_32 : w_fe am_c216 32 33 (.iload 1) := ⟨rfl, rfl⟩
theorem f216_33 : w_fe am_c216 33 34 (.iastore) := ⟨rfl, rfl⟩
theorem f216_34 : w_fe am_c216 34 35 (.aload 0) := ⟨rfl, rfl⟩
theorem f216_35 : w_fe am_c216 35 36 (.getfield 900) := ⟨rfl, rfl⟩
theorem f216_36 : w_fe am_c216 36 37 (.iload 4) := ⟨rfl, rfl⟩
theorem f216_37 : w_fe am_c216 37 38 (.bipush 1) := ⟨rfl, rfl⟩
theorem f216_38 : w_fe am_c216 38 39 (.iadd) := ⟨rfl, rfl⟩
theorem f216_39 : w_fe am_c216 39 40 (.iload 2) := ⟨rfl, rfl⟩
theorem f216_40 : w_fe am_c216 40 41 (.iastore) := ⟨rfl, rfl⟩
theorem f216_41 : w_fe am_c216 41 42 (.aload 0) := ⟨rfl, rfl⟩
theorem f216_42 : w_fe am_c216 42 43 (.getfield 900) := ⟨rfl, rfl⟩
theorem f216_43 : w_fe am_c216 43 44 (.iload 4) := ⟨rfl, rfl⟩
theorem f216_44 : w_fe am_c216 44 45 (.bipush 2) := ⟨rfl, rfl⟩
theorem f216_45 : w_fe am_c216 45 46 (.iadd) := ⟨rfl, rfl⟩
theorem f216_46 : w_fe am_c216 46 47 (.iload 3) := ⟨rfl, rfl⟩
theorem f216_47 : w_fe am_c216 47 48 (.invokestatic 180) := ⟨rfl, rfl⟩
theorem f216_48 : w_fe am_c216 48 49 (.iastore) := ⟨rfl, rfl⟩
theorem f216_49 : w_fe am_c216 49 50 (.aload 0) := ⟨rfl, rfl⟩
theorem f216_50 : w_fe am_c216 50 51 (.getfield 900) := ⟨rfl, rfl⟩
theorem f216_51 : w_fe am_c216 51 52 (.bipush 48) := ⟨rfl, rfl⟩
theorem f216_52 : w_fe am_c216 52 53 (.dup2) := ⟨rfl, rfl⟩
theorem f216_53 : w_fe am_c216 53 54 (.iaload) := ⟨rfl, rfl⟩
theorem f216_54 : w_fe am_c216 54 55 (.bipush 1) := ⟨rfl, rfl⟩
theorem f216_55 : w_fe am_c216 55 56 (.iadd) := ⟨rfl, rfl⟩
theorem f216_56 : w_fe am_c216 56 57 (.iastore) := ⟨rfl, rfl⟩
theorem f216_57 : w_fe am_c216 57 58 (.aload 0) := ⟨rfl, rfl⟩
theorem f216_58 : w_fe am_c216 58 59 (.getfield 900) := ⟨rfl, rfl⟩
theorem f216_59 : w_fe am_c216 59 60 (.bipush 48) := ⟨rfl, rfl⟩
theorem f216_60 : w_fe am_c216 60 61 (.iaload) := ⟨rfl, rfl⟩
theorem f216_61 : w_fe am_c216 61 62 (.ireturn) := ⟨rfl, rfl⟩
set_option maxRecDepth 20000 in
theorem b216_0 {xs : List Int} {d : Nat} {Q : Option w_V → w_M → Prop} {x1 : Int} {x2 : Int} {x3 : Int} {σ : w_M}
    (h : (¬ (0 ≤ x1 ∧ x1 ≤ 6) → Q (some (.inl (-1))) σ) ∧ ((0 ≤ x1 ∧ x1 ≤ 6) → (p_Model_isStrip x2 σ ∧ (((0 ≤ x2 ∧ x2 < σ 122 4) → ((¬ (σ 123 48) = 8 → (w_in (3 * (σ 123 48)) ∧ w_in (49 + (3 * (σ 123 48))) ∧ (∀ (y1 : Int), y1 = (49 + (3 * (σ 123 48))) → (0 ≤ y1 ∧ y1 < 246 ∧ (∀ (τ2 : w_M), τ2 = w_up σ 123 y1.toNat x1 → (w_in (y1 + 1) ∧ 0 ≤ (y1 + 1) ∧ (y1 + 1) < 246 ∧ (∀ (τ3 : w_M), τ3 = w_up τ2 123 (y1 + 1).toNat x2 → (w_in (y1 + 2) ∧ (∀ (y4 : Int), y4 = v_Model_flag x3 → (0 ≤ (y1 + 2) ∧ (y1 + 2) < 246 ∧ (∀ (τ5 : w_M), τ5 = w_up τ3 123 (y1 + 2).toNat y4 → (w_in ((τ5 123 48) + 1) ∧ (∀ (τ6 : w_M), τ6 = w_up τ5 123 48 ((τ5 123 48) + 1) → Q (some (.inl (τ6 123 48))) τ6))))))))))))) ∧ ((σ 123 48) = 8 → Q (some (.inl (-3))) σ))) ∧ (¬ (0 ≤ x2 ∧ x2 < σ 122 4) → Q (some (.inl (-1))) σ))))) : w_Call (xs, (d + 2)) 216 [.inr (.inr (9, 122)), .inl x1, .inl x2, .inl x3] σ Q :=
  (w_mk (mid := 216) (by decide) rfl rfl rfl rfl rfl (Nat.le_of_ble_eq_true rfl) ⟨rfl, Or.inl (by decide)⟩ (wi_iload1 f216_0 (wi_i2l f216_1 (wi_sipush f216_2 (wi_sipush f216_3 (wi_call3 f216_4 (Nat.le_of_ble_eq_true rfl) (k_Model_in (wi_ifb_eq f216_5 (fun c9 => (wi_bipush f216_10 (wi_ret1 f216_11 (h.1 c9)))) (fun c9 => (wi_aload0 f216_6 (wi_iload2 f216_7 (wi_call2 f216_8 (Nat.le_of_ble_eq_true rfl) (k_Model_isStrip (h.2 c9).1 (wi_ifb_ne f216_9 (fun c8 => (wi_aload0 f216_12 (wi_getf900 f216_13 (wi_bipush f216_14 (wi_iald1246 f216_15 (by decide) (by decide) (wi_bipush f216_16 (wi_ic_ne f216_17 (fun c7 => (wi_bipush f216_20 (wi_bipush f216_21 (wi_aload0 f216_22 (wi_getf900 f216_23 (wi_bipush f216_24 (wi_iald1246 f216_25 (by decide) (by decide) (wi_imul f216_26 (((h.2 c9).2.1 c8).1 c7).1 (wi_iadd f216_27 (((h.2 c9).2.1 c8).1 c7).2.1 (wi_istore4 f216_28 trivial (wi_aload0 f216_29 (wi_getf900 f216_30 (wi_iload4 f216_31 (wi_iload1 f216_32 (wi_iast1246 f216_33 ((((h.2 c9).2.1 c8).1 c7).2.2 _ rfl).1 ((((h.2 c9).2.1 c8).1 c7).2.2 _ rfl).2.1 (wi_aload0 f216_34 (wi_getf900 f216_35 (wi_iload4 f216_36 (wi_bipush f216_37 (wi_iadd f216_38 (((((h.2 c9).2.1 c8).1 c7).2.2 _ rfl).2.2 _ rfl).1 (wi_iload2 f216_39 (wi_iast1246 f216_40 (((((h.2 c9).2.1 c8).1 c7).2.2 _ rfl).2.2 _ rfl).2.1 (((((h.2 c9).2.1 c8).1 c7).2.2 _ rfl).2.2 _ rfl).2.2.1 (wi_aload0 f216_41 (wi_getf900 f216_42 (wi_iload4 f216_43 (wi_bipush f216_44 (wi_iadd f216_45 ((((((h.2 c9).2.1 c8).1 c7).2.2 _ rfl).2.2 _ rfl).2.2.2 _ rfl).1 (wi_iload3 f216_46 (wi_call1 f216_47 (Nat.le_of_ble_eq_true rfl) (k_Model_flag (wi_iast1246 f216_48 (((((((h.2 c9).2.1 c8).1 c7).2.2 _ rfl).2.2 _ rfl).2.2.2 _ rfl).2 _ rfl).1 (((((((h.2 c9).2.1 c8).1 c7).2.2 _ rfl).2.2 _ rfl).2.2.2 _ rfl).2 _ rfl).2.1 (wi_aload0 f216_49 (wi_getf900 f216_50 (wi_bipush f216_51 (wi_dup2 f216_52 (wi_iald1246 f216_53 (by decide) (by decide) (wi_bipush f216_54 (wi_iadd f216_55 ((((((((h.2 c9).2.1 c8).1 c7).2.2 _ rfl).2.2 _ rfl).2.2.2 _ rfl).2 _ rfl).2.2 _ rfl).1 (wi_iast1246 f216_56 (by decide) (by decide) (wi_aload0 f216_57 (wi_getf900 f216_58 (wi_bipush f216_59 (wi_iald1246 f216_60 (by decide) (by decide) (wi_ret1 f216_61 (((((((((h.2 c9).2.1 c8).1 c7).2.2 _ rfl).2.2 _ rfl).2.2.2 _ rfl).2 _ rfl).2.2 _ rfl).2 _ rfl))))))))))))))))))))))))))))))))))))))))))))) (fun c7 => (wi_bipush f216_18 (wi_ret1 f216_19 (((h.2 c9).2.1 c8).2 c7))))))))))) (fun c8 => (wi_bipush f216_10 (wi_ret1 f216_11 ((h.2 c9).2.2 c8))))))))))))))))))
theorem f217_0 : w_fe am_c217 0 1 (.iload 1) := ⟨rfl, rfl⟩
theorem f217_1 : w_fe am_c217 1 2 (.i2l) := ⟨rfl, rfl⟩
theorem f217_2 : w_fe am_c217 2 3 (.sipush 0) := ⟨rfl, rfl⟩
theorem f217_3 : w_fe am_c217 3 4 (.aload 0) := ⟨rfl, rfl⟩
theorem f217_4 : w_fe am_c217 4 5 (.getfield 900) := ⟨rfl, rfl⟩
theorem f217_5 : w_fe am_c217 5 6 (.bipush 48) := ⟨rfl, rfl⟩
theorem f217_6 : w_fe am_c217 6 7 (.iaload) := ⟨rfl, rfl⟩
theorem f217_7 : w_fe am_c217 7 8 (.i2l) := ⟨rfl, rfl⟩
theorem f217_8 : w_fe am_c217 8 9 (.invokestatic 158) := ⟨rfl, rfl⟩
theorem f217_9 : w_if am_c217 9 10 .eq 15 := ⟨rfl, rfl⟩
theorem f217_10 : w_fe am_c217 10 11 (.aload 0) := ⟨rfl, rfl⟩
theorem f217_11 : w_fe am_c217 11 12 (.bipush 48) := ⟨rfl, rfl⟩
theorem f217_12 : w_fe am_c217 12 13 (.iload 1) := ⟨rfl, rfl⟩
theorem f217_13 : w_fe am_c217 13 14 (.invokestatic 186) := ⟨rfl, rfl⟩
theorem f217_14 : w_gt am_c217 14 16 := rfl
theorem f217_15 : w_fe am_c217 15 16 (.bipush (-1)) := ⟨rfl, rfl⟩
theorem f217_16 : w_fe am_c217 16 17 (.ireturn) := ⟨rfl, rfl⟩
set_option maxRecDepth 20000 in
theorem b217_0 {xs : List Int} {d : Nat} {Q : Option w_V → w_M → Prop} {x1 : Int} {σ : w_M}
    (h : (¬ (0 ≤ x1 ∧ x1 ≤ (σ 123 48)) → Q (some (.inl (-1))) σ) ∧ ((0 ≤ x1 ∧ x1 ≤ (σ 123 48)) → (p_Model_becomes 48 x1 σ ∧ (∀ (y1 : Int) (τ2 : w_M), q_Model_becomes 48 x1 σ y1 τ2 → Q (some (.inl y1)) τ2)))) : w_Call (xs, (d + 1)) 217 [.inr (.inr (9, 122)), .inl x1] σ Q :=
  (w_mk (mid := 217) (by decide) rfl rfl rfl rfl rfl (Nat.le_of_ble_eq_true rfl) ⟨rfl, Or.inl (by decide)⟩ (wi_iload1 f217_0 (wi_i2l f217_1 (wi_sipush f217_2 (wi_aload0 f217_3 (wi_getf900 f217_4 (wi_bipush f217_5 (wi_iald1246 f217_6 (by decide) (by decide) (wi_i2l f217_7 (wi_call3 f217_8 (Nat.le_of_ble_eq_true rfl) (k_Model_in (wi_ifb_eq f217_9 (fun c3 => (wi_bipush f217_15 (wi_ret1 f217_16 (h.1 c3)))) (fun c3 => (wi_aload0 f217_10 (wi_bipush f217_11 (wi_iload1 f217_12 (wi_call3 f217_13 (Nat.le_of_ble_eq_true rfl) (k_Model_becomes (h.2 c3).1 (fun y1 τ2 eτ2 => (wi_goto f217_14 (wi_ret1 f217_16 ((h.2 c3).2 y1 τ2 eτ2))))))))))))))))))))))
theorem f227_0 : w_fe am_c227 0 1 (.aload 0) := ⟨rfl, rfl⟩
theorem f227_1 : w_fe am_c227 1 2 (.iload 1) := ⟨rfl, rfl⟩
theorem f227_2 : w_fe am_c227 2 3 (.invokestatic 182) := ⟨rfl, rfl⟩
theorem f227_3 : w_if am_c227 3 4 .eq 10 := ⟨rfl, rfl⟩
theorem f227_4 : w_fe am_c227 4 5 (.iload 2) := ⟨rfl, rfl⟩
theorem f227_5 : w_fe am_c227 5 6 (.i2l) := ⟨rfl, rfl⟩
theorem f227_6 : w_fe am_c227 6 7 (.sipush 0) := ⟨rfl, rfl⟩
theorem f227_7 : w_fe am_c227 7 8 (.sipush 99) := ⟨rfl, rfl⟩
theorem f227_8 : w_fe am_c227 8 9 (.invokestatic 158) := ⟨rfl, rfl⟩
theorem f227_9 : w_if am_c227 9 10 .ne 12 := ⟨rfl, rfl⟩
theorem f227_10 : w_fe am_c227 10 11 (.bipush (-1)) := ⟨rfl, rfl⟩
theorem f227_11 : w_fe am_c227 11 12 (.ireturn) := ⟨rfl, rfl⟩
theorem f227_12 : w_fe am_c227 12 13 (.aload 0) := ⟨rfl, rfl⟩
theorem f227_13 : w_fe am_c227 13 14 (.getfield 900) := ⟨rfl, rfl⟩
theorem f227_14 : w_fe am_c227 14 15 (.bipush 73) := ⟨rfl, rfl⟩
theorem f227_15 : w_fe am_c227 15 16 (.iaload) := ⟨rfl, rfl⟩
theorem f227_16 : w_fe am_c227 16 17 (.bipush 4) := ⟨rfl, rfl⟩
theorem f227_17 : w_ic am_c227 17 18 .ne 20 := ⟨rfl, rfl⟩
theorem f227_18 : w_fe am_c227 18 19 (.bipush (-3)) := ⟨rfl, rfl⟩
theorem f227_19 : w_fe am_c227 19 20 (.ireturn) := ⟨rfl, rfl⟩
theorem f227_20 : w_fe am_c227 20 21 (.aload 0) := ⟨rfl, rfl⟩
theorem f227_21 : w_fe am_c227 21 22 (.getfield 900) := ⟨rfl, rfl⟩
theorem f227_22 : w_fe am_c227 22 23 (.bipush 74) := ⟨rfl, rfl⟩
theorem f227_23 : w_fe am_c227 23 24 (.bipush 2) := ⟨rfl, rfl⟩
theorem f227_24 : w_fe am_c227 24 25 (.aload 0) := ⟨rfl, rfl⟩
theorem f227_25 : w_fe am_c227 25 26 (.getfield 900) := ⟨rfl, rfl⟩
theorem f227_26 : w_fe am_c227 26 27 (.bipush 73) := ⟨rfl, rfl⟩
theorem f227_27 : w_fe am_c227 27 28 (.iaload) := ⟨rfl, rfl⟩
theorem f227_28 : w_fe am_c227 28 29 (.imul) := ⟨rfl, rfl⟩
theorem f227_29 : w_fe am_c227 29 30 (.iadd) := ⟨rfl, rfl⟩
theorem f227_30 : w_fe am_c227 30 31 (.iload 1) := ⟨rfl, rfl⟩
theorem f227_31 : w_fe am_c227 31 32 (.iastore) := ⟨rfl, rfl⟩
theorem f227_32 : w_fe am_c227 32 33 (.aload 0) := ⟨rfl, rfl⟩
theorem f227_33 : w_fe am_c227 33 34 (.getfield 900) := ⟨rfl, rfl⟩
theorem f227_34 : w_fe am_c227 34 35 (.bipush 74) := ⟨rfl, rfl⟩
theorem f227_35 : w_fe am_c227 35 36 (.bipush 2) := ⟨rfl, rfl⟩
theorem f227_36 : w_fe am_c227 36 37 (.aload 0) := ⟨rfl, rfl⟩
theorem f227_37 : w_fe am_c227 37 38 (.getfield 900) := ⟨rfl, rfl⟩
theorem f227_38 : w_fe am_c227 38 39 (.bipush 73) := ⟨rfl, rfl⟩
theorem f227_39 : w_fe am_c227 39 40 (.iaload) := ⟨rfl, rfl⟩
theorem f227_40 : w_fe am_c227 40 41 (.imul) := ⟨rfl, rfl⟩
theorem f227_41 : w_fe am_c227 41 42 (.iadd) := ⟨rfl, rfl⟩
theorem f227_42 : w_fe am_c227 42 43 (.bipush 1) := ⟨rfl, rfl⟩
theorem f227_43 : w_fe am_c227 43 44 (.iadd) := ⟨rfl, rfl⟩
theorem f227_44 : w_fe am_c227 44 45 (.iload 2) := ⟨rfl, rfl⟩
theorem f227_45 : w_fe am_c227 45 46 (.iastore) := ⟨rfl, rfl⟩
theorem f227_46 : w_fe am_c227 46 47 (.aload 0) := ⟨rfl, rfl⟩
theorem f227_47 : w_fe am_c227 47 48 (.getfield 900) := ⟨rfl, rfl⟩
theorem f227_48 : w_fe am_c227 48 49 (.bipush 73) := ⟨rfl, rfl⟩
theorem f227_49 : w_fe am_c227 49 50 (.dup2) := ⟨rfl, rfl⟩
theorem f227_50 : w_fe am_c227 50 51 (.iaload) := ⟨rfl, rfl⟩
theorem f227_51 : w_fe am_c227 51 52 (.bipush 1) := ⟨rfl, rfl⟩
theorem f227_52 : w_fe am_c227 52 53 (.iadd) := ⟨rfl, rfl⟩
theorem f227_53 : w_fe am_c227 53 54 (.iastore) := ⟨rfl, rfl⟩
theorem f227_54 : w_fe am_c227 54 55 (.aload 0) := ⟨rfl, rfl⟩
theorem f227_55 : w_fe am_c227 55 56 (.getfield 900) := ⟨rfl, rfl⟩
theorem f227_56 : w_fe am_c227 56 57 (.bipush 73) := ⟨rfl, rfl⟩
theorem f227_57 : w_fe am_c227 57 58 (.iaload) := ⟨rfl, rfl⟩
theorem f227_58 : w_fe am_c227 58 59 (.ireturn) := ⟨rfl, rfl⟩
set_option maxRecDepth 20000 in
theorem b227_0 {xs : List Int} {d : Nat} {Q : Option w_V → w_M → Prop} {x1 : Int} {x2 : Int} {σ : w_M}
    (h : p_Model_isReaper x1 σ ∧ ((¬ (0 ≤ x1 ∧ x1 < σ 122 5) → Q (some (.inl (-1))) σ) ∧ ((0 ≤ x1 ∧ x1 < σ 122 5) → (((0 ≤ x2 ∧ x2 ≤ 99) → ((¬ (σ 123 73) = 4 → (w_in (2 * (σ 123 73)) ∧ w_in (74 + (2 * (σ 123 73))) ∧ 0 ≤ (74 + (2 * (σ 123 73))) ∧ (74 + (2 * (σ 123 73))) < 246 ∧ (∀ (τ1 : w_M), τ1 = w_up σ 123 (74 + (2 * (σ 123 73))).toNat x1 → (w_in (2 * (τ1 123 73)) ∧ w_in (74 + (2 * (τ1 123 73))) ∧ w_in ((74 + (2 * (τ1 123 73))) + 1) ∧ 0 ≤ ((74 + (2 * (τ1 123 73))) + 1) ∧ ((74 + (2 * (τ1 123 73))) + 1) < 246 ∧ (∀ (τ2 : w_M), τ2 = w_up τ1 123 ((74 + (2 * (τ1 123 73))) + 1).toNat x2 → (w_in ((τ2 123 73) + 1) ∧ (∀ (τ3 : w_M), τ3 = w_up τ2 123 73 ((τ2 123 73) + 1) → Q (some (.inl (τ3 123 73))) τ3))))))) ∧ ((σ 123 73) = 4 → Q (some (.inl (-3))) σ))) ∧ (¬ (0 ≤ x2 ∧ x2 ≤ 99) → Q (some (.inl (-1))) σ))))) : w_Call (xs, (d + 2)) 227 [.inr (.inr (9, 122)), .inl x1, .inl x2] σ Q :=
  (w_mk (mid := 227) (by decide) rfl rfl rfl rfl rfl (Nat.le_of_ble_eq_true rfl) ⟨rfl, Or.inl (by decide)⟩ (wi_aload0 f227_0 (wi_iload1 f227_1 (wi_call2 f227_2 (Nat.le_of_ble_eq_true rfl) (k_Model_isReaper h.1 (wi_ifb_eq f227_3 (fun c6 => (wi_bipush f227_10 (wi_ret1 f227_11 (h.2.1 c6)))) (fun c6 => (wi_iload2 f227_4 (wi_i2l f227_5 (wi_sipush f227_6 (wi_sipush f227_7 (wi_call3 f227_8 (Nat.le_of_ble_eq_true rfl) (k_Model_in (wi_ifb_ne f227_9 (fun c5 => (wi_aload0 f227_12 (wi_getf900 f227_13 (wi_bipush f227_14 (wi_iald1246 f227_15 (by decide) (by decide) (wi_bipush f227_16 (wi_ic_ne f227_17 (fun c4 => (wi_aload0 f227_20 (wi_getf900 f227_21 (wi_bipush f227_22 (wi_bipush f227_23 (wi_aload0 f227_24 (wi_getf900 f227_25 (wi_bipush f227_26 (wi_iald1246 f227_27 (by decide) (by decide) (wi_imul f227_28 (((h.2.2 c6).1 c5).1 c4).1 (wi_iadd f227_29 (((h.2.2 c6).1 c5).1 c4).2.1 (wi_iload1 f227_30 (wi_iast1246 f227_31 (((h.2.2 c6).1 c5).1 c4).2.2.1 (((h.2.2 c6).1 c5).1 c4).2.2.2.1 (wi_aload0 f227_32 (wi_getf900 f227_33 (wi_bipush f227_34 (wi_bipush f227_35 (wi_aload0 f227_36 (wi_getf900 f227_37 (wi_bipush f227_38 (wi_iald1246 f227_39 (by decide) (by decide) (wi_imul f227_40 ((((h.2.2 c6).1 c5).1 c4).2.2.2.2 _ rfl).1 (wi_iadd f227_41 ((((h.2.2 c6).1 c5).1 c4).2.2.2.2 _ rfl).2.1 (wi_bipush f227_42 (wi_iadd f227_43 ((((h.2.2 c6).1 c5).1 c4).2.2.2.2 _ rfl).2.2.1 (wi_iload2 f227_44 (wi_iast1246 f227_45 ((((h.2.2 c6).1 c5).1 c4).2.2.2.2 _ rfl).2.2.2.1 ((((h.2.2 c6).1 c5).1 c4).2.2.2.2 _ rfl).2.2.2.2.1 (wi_aload0 f227_46 (wi_getf900 f227_47 (wi_bipush f227_48 (wi_dup2 f227_49 (wi_iald1246 f227_50 (by decide) (by decide) (wi_bipush f227_51 (wi_iadd f227_52 (((((h.2.2 c6).1 c5).1 c4).2.2.2.2 _ rfl).2.2.2.2.2 _ rfl).1 (wi_iast1246 f227_53 (by decide) (by decide) (wi_aload0 f227_54 (wi_getf900 f227_55 (wi_bipush f227_56 (wi_iald1246 f227_57 (by decide) (by decide) (wi_ret1 f227_58 ((((((h.2.2 c6).1 c5).1 c4).2.2.2.2 _ rfl).2.2.2.2.2 _ rfl).2 _ rfl))))))))))))))))))))))))))))))))))))))))) (fun c4 => (wi_bipush f227_18 (wi_ret1 f227_19 (((h.2.2 c6).1 c5).2 c4))))))))))) (fun c5 => (wi_bipush f227_10 (wi_ret1 f227_11 ((h.2.2 c6).2 c5))))))))))))))))))
theorem f228_0 : w_fe am_c228 0 1 (.iload 1) := ⟨rfl, rfl⟩
theorem f228_1 : w_fe am_c228 1 2 (.i2l) := ⟨rfl, rfl⟩
theorem f228_2 : w_fe am_c228 2 3 (.sipush 0) := ⟨rfl, rfl⟩
theorem f228_3 : w_fe am_c228 3 4 (.aload 0) := ⟨rfl, rfl⟩
theorem f228_4 : w_fe am_c228 4 5 (.getfield 900) := ⟨rfl, rfl⟩
theorem f228_5 : w_fe am_c228 5 6 (.bipush 73) := ⟨rfl, rfl⟩
theorem f228_6 : w_fe am_c228 6 7 (.iaload) := ⟨rfl, rfl⟩
theorem f228_7 : w_fe am_c228 7 8 (.i2l) := ⟨rfl, rfl⟩
theorem f228_8 : w_fe am_c228 8 9 (.invokestatic 158) := ⟨rfl, rfl⟩
theorem f228_9 : w_if am_c228 9 10 .eq 15 := ⟨rfl, rfl⟩
theorem f228_10 : w_fe am_c228 10 11 (.aload 0) := ⟨rfl, rfl⟩
theorem f228_11 : w_fe am_c228 11 12 (.bipush 73) := ⟨rfl, rfl⟩
theorem f228_12 : w_fe am_c228 12 13 (.iload 1) := ⟨rfl, rfl⟩
theorem f228_13 : w_fe am_c228 13 14 (.invokestatic 186) := ⟨rfl, rfl⟩
theorem f228_14 : w_gt am_c228 14 16 := rfl
theorem f228_15 : w_fe am_c228 15 16 (.bipush (-1)) := ⟨rfl, rfl⟩
theorem f228_16 : w_fe am_c228 16 17 (.ireturn) := ⟨rfl, rfl⟩
set_option maxRecDepth 20000 in
theorem b228_0 {xs : List Int} {d : Nat} {Q : Option w_V → w_M → Prop} {x1 : Int} {σ : w_M}
    (h : (¬ (0 ≤ x1 ∧ x1 ≤ (σ 123 73)) → Q (some (.inl (-1))) σ) ∧ ((0 ≤ x1 ∧ x1 ≤ (σ 123 73)) → (p_Model_becomes 73 x1 σ ∧ (∀ (y1 : Int) (τ2 : w_M), q_Model_becomes 73 x1 σ y1 τ2 → Q (some (.inl y1)) τ2)))) : w_Call (xs, (d + 1)) 228 [.inr (.inr (9, 122)), .inl x1] σ Q :=
  (w_mk (mid := 228) (by decide) rfl rfl rfl rfl rfl (Nat.le_of_ble_eq_true rfl) ⟨rfl, Or.inl (by decide)⟩ (wi_iload1 f228_0 (wi_i2l f228_1 (wi_sipush f228_2 (wi_aload0 f228_3 (wi_getf900 f228_4 (wi_bipush f228_5 (wi_iald1246 f228_6 (by decide) (by decide) (wi_i2l f228_7 (wi_call3 f228_8 (Nat.le_of_ble_eq_true rfl) (k_Model_in (wi_ifb_eq f228_9 (fun c3 => (wi_bipush f228_15 (wi_ret1 f228_16 (h.1 c3)))) (fun c3 => (wi_aload0 f228_10 (wi_bipush f228_11 (wi_iload1 f228_12 (wi_call3 f228_13 (Nat.le_of_ble_eq_true rfl) (k_Model_becomes (h.2 c3).1 (fun y1 τ2 eτ2 => (wi_goto f228_14 (wi_ret1 f228_16 ((h.2 c3).2 y1 τ2 eτ2))))))))))))))))))))))
theorem k_Model_see {xs : List Int} {d : Nat} {Q : Option w_V → w_M → Prop} {x1 : Int} {x2 : Int} {x3 : Int} {σ : w_M} (hp : p_Model_see x1 x2 x3 σ) (hQ : ∀ (x : Int) (σ' : w_M), q_Model_see x1 x2 x3 σ x σ' → Q (some (.inl x)) σ') : w_Call (xs, d + 2) 216 [.inr (.inr (9, 122)), .inl x1, .inl x2, .inl x3] σ Q := by
  obtain ⟨hM, hb⟩ := hp
  have hs := hM.s
  have h0 := hM.se
  unfold q_Model_see F_see G_see at hQ
  have e4 : mS σ 0 0 4 = σ 122 4 := rfl
  have e1 : mS σ 1 0 0 = σ 123 48 := rfl
  rw [e4, e1] at hQ
  have bad : ¬ ((0 ≤ x1 ∧ x1 ≤ 6) ∧ (0 ≤ x2 ∧ x2 < σ 122 4)) → Q (some (.inl (-1))) σ := fun h => by
    rw [if_neg h, if_neg (fun q => h q.1)] at hQ
    exact hQ _ _ (m_qr hM rfl)
  refine b216_0 ⟨fun c => bad (fun q => c q.1), fun c => ⟨hs, fun c2 => ⟨fun c3 => ⟨⟨by omega, by omega⟩, ⟨by omega, by omega⟩, fun y1 ey => ⟨by omega, by omega, fun τ2 t2 => ⟨⟨by omega, by omega⟩, by omega, by omega, fun τ3 t3 => ⟨⟨by omega, by omega⟩, fun y4 e4 => ⟨by omega, by omega, fun τ5 t5 => ?_⟩⟩⟩⟩⟩, fun c3 => ?_⟩, fun c2 => bad (fun q => c2 q.2)⟩⟩
  · have c4 : σ 123 48 < 8 := by omega
    rw [if_pos ⟨c, c2⟩, if_pos c4, if_pos ⟨⟨c, c2⟩, c4⟩] at hQ
    have e4' : y4 = x3 := by rw [e4]; unfold v_Model_flag; rcases hb with rfl | rfl <;> rfl
    have z48 : τ5 123 48 = σ 123 48 := by rw [t5, w_up_j (by omega), t3, w_up_j (by omega), t2, w_up_j (by omega)]
    rw [z48]
    refine ⟨⟨by omega, by omega⟩, fun τ6 t6 => ?_⟩
    have e48 : τ6 123 48 = σ 123 48 + 1 := by rw [t6]; exact w_up_at
    refine hQ _ _ (m_q1 hM (by rw [t6, t5, t3, t2]; exact w_f1.up0.up.up.up) (fun x hx => ?_) ?_ (seAdd_WF hM.2.1 c4 c (by omega) hb) e48)
    · rw [t6, w_up_j (by omega), t5, w_up_j (by omega), t3, w_up_j (by omega), t2, w_up_j (by omega)]
    · show _ = seAdd (s_am σ 0) x1 x2 x3
      rw [s_am_g, s_am_g, show τ6 123 (0 + 48) = σ 123 48 + 1 from e48]
      refine g_ab_se h0.1 (fun d i h1 h2 h3 => ?_) ?_ ?_ ?_
      · have h3' : i < (σ 123 48).toNat := h3
        show τ6 123 (0 + 49 + 3 * i + (d - 1)) = σ 123 (0 + 49 + 3 * i + (d - 1))
        rw [t6, w_up_j (by omega), t5, w_up_j (by omega), t3, w_up_j (by omega), t2, w_up_j (by omega)]
      · show τ6 123 (0 + 49 + 3 * (σ 123 48).toNat + (1 - 1)) = x1
        rw [t6, w_up_j (by omega), t5, w_up_j (by omega), t3, w_up_j (by omega), t2, show 0 + 49 + 3 * (σ 123 48).toNat + (1 - 1) = y1.toNat by omega, w_up_at]
      · show τ6 123 (0 + 49 + 3 * (σ 123 48).toNat + (2 - 1)) = x2
        rw [t6, w_up_j (by omega), t5, w_up_j (by omega), t3, show 0 + 49 + 3 * (σ 123 48).toNat + (2 - 1) = (y1 + 1).toNat by omega, w_up_at]
      · show τ6 123 (0 + 49 + 3 * (σ 123 48).toNat + (3 - 1)) = x3
        rw [t6, w_up_j (by omega), t5, show 0 + 49 + 3 * (σ 123 48).toNat + (3 - 1) = (y1 + 2).toNat by omega, w_up_at, e4']
  · rw [if_pos ⟨c, c2⟩, if_neg (by omega), if_neg (by omega)] at hQ
    exact hQ _ _ (m_qr hM rfl)
theorem k_Model_forget {xs : List Int} {d : Nat} {Q : Option w_V → w_M → Prop} {x1 : Int} {σ : w_M} (hp : p_Model_forget x1 σ) (hQ : ∀ (x : Int) (σ' : w_M), q_Model_forget x1 σ x σ' → Q (some (.inl x)) σ') : w_Call (xs, d + 1) 217 [.inr (.inr (9, 122)), .inl x1] σ Q := by
  have hM : MI σ := hp
  have h0 := hM.se
  unfold q_Model_forget F_forget G_forget at hQ
  have e1 : mS σ 1 0 0 = σ 123 48 := rfl
  rw [e1] at hQ
  refine b217_0 ⟨fun c => ?_, fun c => ⟨⟨by decide, by decide⟩, fun y τ hq => ?_⟩⟩
  · rw [if_neg c, if_neg c] at hQ
    exact hQ _ _ (m_qr hM rfl)
  · rw [if_pos c, if_pos c] at hQ
    have t : τ = w_up σ 123 48 x1 := hq.2
    refine hQ _ _ (m_q1 hM (by rw [t]; exact w_f1.up0) (fun x hx => by rw [t, w_up_j (by omega)]) ?_ (r_cut_se hM.2.1 c) hq.1)
    show _ = r_cut (s_am σ 0) x1
    rw [s_am_g, s_am_g, show τ 123 (0 + 48) = x1 by rw [t]; exact w_up_at]
    exact g_ab_cut c (fun d i h1 h2 h3 => by show τ 123 (0 + 49 + 3 * i + (d - 1)) = σ 123 (0 + 49 + 3 * i + (d - 1)); rw [t, w_up_j (by omega)])
theorem k_Model_pay {xs : List Int} {d : Nat} {Q : Option w_V → w_M → Prop} {x1 : Int} {x2 : Int} {σ : w_M} (hp : p_Model_pay x1 x2 σ) (hQ : ∀ (x : Int) (σ' : w_M), q_Model_pay x1 x2 σ x σ' → Q (some (.inl x)) σ') : w_Call (xs, d + 2) 227 [.inr (.inr (9, 122)), .inl x1, .inl x2] σ Q := by
  have hM : MI σ := hp
  have h0 := hM.pa
  unfold q_Model_pay F_pay G_pay at hQ
  have e5 : mS σ 0 0 5 = σ 122 5 := rfl
  have e1 : mS σ 2 0 0 = σ 123 73 := rfl
  rw [e5, e1] at hQ
  have bad : ¬ ((0 ≤ x1 ∧ x1 < σ 122 5) ∧ (0 ≤ x2 ∧ x2 ≤ 99)) → Q (some (.inl (-1))) σ := fun h => by
    rw [if_neg h, if_neg (fun q => h q.1)] at hQ
    exact hQ _ _ (m_qr hM rfl)
  refine b227_0 ⟨hM.n, fun c => bad (fun q => c q.1), fun c => ⟨fun c2 => ⟨fun c3 => ⟨⟨by omega, by omega⟩, ⟨by omega, by omega⟩, by omega, by omega, fun τ1 t1 => ?_⟩, fun c3 => ?_⟩, fun c2 => bad (fun q => c2 q.2)⟩⟩
  · have c4 : σ 123 73 < 4 := by omega
    rw [if_pos ⟨c, c2⟩, if_pos c4, if_pos ⟨⟨c, c2⟩, c4⟩] at hQ
    have z1 : τ1 123 73 = σ 123 73 := by rw [t1, w_up_j (by omega)]
    rw [z1]
    refine ⟨⟨by omega, by omega⟩, ⟨by omega, by omega⟩, ⟨by omega, by omega⟩, by omega, by omega, fun τ2 t2 => ?_⟩
    have z2 : τ2 123 73 = σ 123 73 := by rw [t2, w_up_j (by omega)]; exact z1
    rw [z2]
    refine ⟨⟨by omega, by omega⟩, fun τ3 t3 => ?_⟩
    have e73 : τ3 123 73 = σ 123 73 + 1 := by rw [t3]; exact w_up_at
    refine hQ _ _ (m_q2 hM (by rw [t3, t2, t1]; exact w_f1.up0.up.up) (fun x hx => ?_) ?_ (paAdd_WF hM.2.2.1 c4 c c2) e73)
    · rw [t3, w_up_j (by omega), t2, w_up_j (by omega), t1, w_up_j (by omega)]
    · show _ = paAdd (c_am σ 0) x1 x2
      rw [c_am_g, c_am_g, show τ3 123 (0 + 73) = σ 123 73 + 1 from e73]
      refine g_ab_pa h0.1 (fun d i h1 h2 h3 => ?_) ?_ ?_
      · have h3' : i < (σ 123 73).toNat := h3
        show τ3 123 (0 + 74 + 2 * i + (d - 1)) = σ 123 (0 + 74 + 2 * i + (d - 1))
        rw [t3, w_up_j (by omega), t2, w_up_j (by omega), t1, w_up_j (by omega)]
      · show τ3 123 (0 + 74 + 2 * (σ 123 73).toNat + (1 - 1)) = x1
        rw [t3, w_up_j (by omega), t2, w_up_j (by omega), t1, show 0 + 74 + 2 * (σ 123 73).toNat + (1 - 1) = (74 + 2 * σ 123 73).toNat by omega, w_up_at]
      · show τ3 123 (0 + 74 + 2 * (σ 123 73).toNat + (2 - 1)) = x2
        rw [t3, w_up_j (by omega), t2, show 0 + 74 + 2 * (σ 123 73).toNat + (2 - 1) = (74 + 2 * σ 123 73 + 1).toNat by omega, w_up_at]
  · rw [if_pos ⟨c, c2⟩, if_neg (by omega), if_neg (by omega)] at hQ
    exact hQ _ _ (m_qr hM rfl)
theorem k_Model_owe {xs : List Int} {d : Nat} {Q : Option w_V → w_M → Prop} {x1 : Int} {σ : w_M} (hp : p_Model_owe x1 σ) (hQ : ∀ (x : Int) (σ' : w_M), q_Model_owe x1 σ x σ' → Q (some (.inl x)) σ') : w_Call (xs, d + 1) 228 [.inr (.inr (9, 122)), .inl x1] σ Q := by
  have hM : MI σ := hp
  have h0 := hM.pa
  unfold q_Model_owe F_owe G_owe at hQ
  have e1 : mS σ 2 0 0 = σ 123 73 := rfl
  rw [e1] at hQ
  refine b228_0 ⟨fun c => ?_, fun c => ⟨⟨by decide, by decide⟩, fun y τ hq => ?_⟩⟩
  · rw [if_neg c, if_neg c] at hQ
    exact hQ _ _ (m_qr hM rfl)
  · rw [if_pos c, if_pos c] at hQ
    have t : τ = w_up σ 123 73 x1 := hq.2
    refine hQ _ _ (m_q2 hM (by rw [t]; exact w_f1.up0) (fun x hx => by rw [t, w_up_j (by omega)]) ?_ (r_cut_pa hM.2.2.1 c) hq.1)
    show _ = r_cut (c_am σ 0) x1
    rw [c_am_g, c_am_g, show τ 123 (0 + 73) = x1 by rw [t]; exact w_up_at]
    exact g_ab_cut c (fun d i h1 h2 h3 => by show τ 123 (0 + 74 + 2 * i + (d - 1)) = σ 123 (0 + 74 + 2 * i + (d - 1)); rw [t, w_up_j (by omega)])
def p_Model_copies (a b : Int) (_ : w_M) : Prop := (a = 0 ∧ (b = 82 ∨ b = 164)) ∨ (b = 0 ∧ (a = 82 ∨ a = 164))
def q_Model_copies (a b : Int) (σ σ' : w_M) : Prop := w_f1 σ σ' 123 ∧ (∀ k, k < 82 → σ' 123 (a.toNat + k) = σ 123 (b.toNat + k)) ∧ (∀ x, x < a.toNat ∨ a.toNat + 82 ≤ x → σ' 123 x = σ 123 x)
theorem f232_0 : w_fe am_c232 0 1 (.bipush 0) := ⟨rfl, rfl⟩
theorem f232_1 : w_fe am_c232 1 2 (.istore 3) := ⟨rfl, rfl⟩
theorem f232_2 : w_fe am_c232 2 3 (.iload 3) := ⟨rfl, rfl⟩
theorem f232_3 : w_fe am_c232 3 4 (.bipush 82) := ⟨rfl, rfl⟩
theorem f232_4 : w_ic am_c232 4 5 .ge 19 := ⟨rfl, rfl⟩
theorem f232_5 : w_fe am_c232 5 6 (.aload 0) := ⟨rfl, rfl⟩
theorem f232_6 : w_fe am_c232 6 7 (.getfield 900) := ⟨rfl, rfl⟩
theorem f232_7 : w_fe am_c232 7 8 (.iload 1) := ⟨rfl, rfl⟩
theorem f232_8 : w_fe am_c232 8 9 (.iload 3) := ⟨rfl, rfl⟩
theorem f232_9 : w_fe am_c232 9 10 (.iadd) := ⟨rfl, rfl⟩
theorem f232_10 : w_fe am_c232 10 11 (.aload 0) := ⟨rfl, rfl⟩
theorem f232_11 : w_fe am_c232 11 12 (.getfield 900) := ⟨rfl, rfl⟩
theorem f232_12 : w_fe am_c232 12 13 (.iload 2) := ⟨rfl, rfl⟩
theorem f232_13 : w_fe am_c232 13 14 (.iload 3) := ⟨rfl, rfl⟩
theorem f232_14 : w_fe am_c232 14 15 (.iadd) := ⟨rfl, rfl⟩
theorem f232_15 : w_fe am_c232 15 16 (.iaload) := ⟨rfl, rfl⟩
theorem f232_16 : w_fe am_c232 16 17 (.iastore) := ⟨rfl, rfl⟩
theorem f232_17 : w_fe am_c232 17 18 (.iinc 3 1) := ⟨rfl, rfl⟩
theorem f232_18 : w_gt am_c232 18 2 := rfl
theorem f232_19 : w_fe am_c232 19 20 (.return_) := ⟨rfl, rfl⟩
def L232_2 (xs : List Int) (d : Nat) (Q : Option w_V → w_M → Prop) (v1 : Int) (v2 : Int) (v3 : Int) (σ : w_M) : Prop := w_Ex (xs, d) 0 am_c232 Q 2 [some (.inr (.inr (9, 122))), some (.inl v1), some (.inl v2), some (.inl v3)] [] σ
set_option maxRecDepth 20000 in
theorem b232_0 {xs : List Int} {d : Nat} {Q : Option w_V → w_M → Prop} {x1 : Int} {x2 : Int} {σ : w_M}
    (h : L232_2 xs d Q x1 x2 0 σ) : w_Call (xs, d) 232 [.inr (.inr (9, 122)), .inl x1, .inl x2] σ Q :=
  (w_mk (mid := 232) (by decide) rfl rfl rfl rfl rfl (Nat.le_of_ble_eq_true rfl) ⟨rfl, Or.inl (by decide)⟩ (wi_bipush f232_0 (wi_istore3 f232_1 trivial h)))
set_option maxRecDepth 20000 in
theorem b232_2 {xs : List Int} {d : Nat} {Q : Option w_V → w_M → Prop} {v1 : Int} {v2 : Int} {v3 : Int} {σ : w_M}
    (h : (82 ≤ v3 → Q none σ) ∧ (v3 < 82 → (w_in (v1 + v3) ∧ w_in (v2 + v3) ∧ 0 ≤ (v2 + v3) ∧ (v2 + v3) < 246 ∧ 0 ≤ (v1 + v3) ∧ (v1 + v3) < 246 ∧ (∀ (τ1 : w_M), τ1 = w_up σ 123 (v1 + v3).toNat (σ 123 (v2 + v3).toNat) → (w_in (v3 + 1) ∧ L232_2 xs d Q v1 v2 (v3 + 1) τ1))))) : L232_2 xs d Q v1 v2 v3 σ :=
  (wi_iload3 f232_2 (wi_bipush f232_3 (wi_ic_ge f232_4 (fun c2 => (wi_ret0 f232_19 (h.1 c2))) (fun c2 => (wi_aload0 f232_5 (wi_getf900 f232_6 (wi_iload1 f232_7 (wi_iload3 f232_8 (wi_iadd f232_9 (h.2 c2).1 (wi_aload0 f232_10 (wi_getf900 f232_11 (wi_iload2 f232_12 (wi_iload3 f232_13 (wi_iadd f232_14 (h.2 c2).2.1 (wi_iald1246 f232_15 (h.2 c2).2.2.1 (h.2 c2).2.2.2.1 (wi_iast1246 f232_16 (h.2 c2).2.2.2.2.1 (h.2 c2).2.2.2.2.2.1 (wi_iinc3 f232_17 trivial ((h.2 c2).2.2.2.2.2.2 _ rfl).1 (wi_goto f232_18 ((h.2 c2).2.2.2.2.2.2 _ rfl).2))))))))))))))))))
theorem k_Model_copies {xs : List Int} {d : Nat} {Q : Option w_V → w_M → Prop} {x1 : Int} {x2 : Int} {σ : w_M} (hp : p_Model_copies x1 x2 σ) (hQ : ∀ σ' : w_M, q_Model_copies x1 x2 σ σ' → Q none σ') : w_Call (xs, d) 232 [.inr (.inr (9, 122)), .inl x1, .inl x2] σ Q := by
  unfold p_Model_copies at hp
  refine b232_0 ?_
  refine (w_loop (n := 82) (P := fun k => ∀ τ : w_M, w_f1 σ τ 123 → (∀ j, j < k → τ 123 (x1.toNat + j) = σ 123 (x2.toNat + j)) → (∀ x, x < x1.toNat ∨ x1.toNat + k ≤ x → τ 123 x = σ 123 x) → L232_2 xs d Q x1 x2 (k : Int) τ) ?_ ?_) σ w_f1.rfl' (fun j hj => by omega) (fun x hx => rfl)
  · intro τ F h1 h2
    exact b232_2 ⟨fun _ => hQ _ ⟨F, h1, h2⟩, fun h => by omega⟩
  · intro k hk ih τ F h1 h2
    refine b232_2 ⟨fun h => by omega, fun h => ⟨⟨by omega, by omega⟩, ⟨by omega, by omega⟩, by omega, by omega, by omega, by omega, fun τ1 t1 => ⟨⟨by omega, by omega⟩, ?_⟩⟩⟩
    rw [← w_cs1]
    have ea : (x1 + (k : Int)).toNat = x1.toNat + k := by omega
    have eb : (x2 + (k : Int)).toNat = x2.toNat + k := by omega
    rw [ea, eb, h2 (x2.toNat + k) (by omega)] at t1
    refine ih τ1 (by rw [t1]; exact F.up) (fun j hj => ?_) (fun x hx => by rw [t1, w_up_j (by omega)]; exact h2 x (by omega))
    by_cases hjk : j = k
    · rw [hjk, t1, w_up_at]
    · rw [t1, w_up_j (by omega)]
      exact h1 j (by omega)
theorem w_am_sh {σ τ : w_M} {o o' : Nat} (hsm : m_sm σ) (h122 : τ 122 = σ 122) (h : ∀ x, x < 48 → τ 123 (o + x) = σ 123 (o' + x)) : w_am τ 123 o = w_am σ 123 o' := by
  have hr : ∀ k, m_rl τ k = m_rl σ k := fun k => by unfold m_rl; rw [h122]
  funext k j
  unfold w_am
  rw [h122, hr, h 42 (by decide), h 41 (by decide), h 47 (by decide)]
  by_cases hj : j < m_rl σ k
  · obtain ⟨k10, j7, jL⟩ := m_rl_d hsm hj
    have := (m_ix_sc k k10 j j7 jL).2.2.2
    rw [if_pos hj, if_pos hj, h _ (by omega)]
  · rw [if_neg hj, if_neg hj]
theorem s_am_sh {σ τ : w_M} {o o' : Nat} (hc : σ 123 (o' + 48) ≤ 8) (h : ∀ x, x < 82 → τ 123 (o + x) = σ 123 (o' + x)) : s_am τ o = s_am σ o' := by
  rw [s_am_g, s_am_g]
  refine g_ab_congr (h 48 (by decide)) (fun d i h1 h2 h3 => ?_)
  have := h (49 + 3 * i + (d - 1)) (by omega)
  show τ 123 (o + 49 + 3 * i + (d - 1)) = σ 123 (o' + 49 + 3 * i + (d - 1))
  rw [show o + 49 + 3 * i + (d - 1) = o + (49 + 3 * i + (d - 1)) by omega, show o' + 49 + 3 * i + (d - 1) = o' + (49 + 3 * i + (d - 1)) by omega]
  exact this
theorem c_am_sh {σ τ : w_M} {o o' : Nat} (hc : σ 123 (o' + 73) ≤ 4) (h : ∀ x, x < 82 → τ 123 (o + x) = σ 123 (o' + x)) : c_am τ o = c_am σ o' := by
  rw [c_am_g, c_am_g]
  refine g_ab_congr (h 73 (by decide)) (fun d i h1 h2 h3 => ?_)
  have := h (74 + 2 * i + (d - 1)) (by omega)
  show τ 123 (o + 74 + 2 * i + (d - 1)) = σ 123 (o' + 74 + 2 * i + (d - 1))
  rw [show o + 74 + 2 * i + (d - 1) = o + (74 + 2 * i + (d - 1)) by omega, show o' + 74 + 2 * i + (d - 1) = o' + (74 + 2 * i + (d - 1)) by omega]
  exact this
theorem mS_11 {σ : w_M} {k : Nat} (hk : k < 2) : mS σ 11 0 k = σ 125 k := by
  show (if 0 = 0 ∧ k < 2 then σ 125 k else 0) = _
  rw [if_pos ⟨rfl, hk⟩]
theorem MI.k01 {σ : w_M} (h : MI σ) {k : Nat} (hk : k = 0 ∨ k = 1) : σ 125 k = 0 ∨ σ 125 k = 1 := by
  rcases hk with rfl | rfl
  · exact h.2.2.2.2.2.1
  · exact h.2.2.2.2.2.2.1
def p_Model_keep (_x1 : Int) (σ : w_M) : Prop := MI σ
def q_Model_keep (x1 : Int) (σ : w_M) (x : Int) (σ' : w_M) : Prop := m_q (F_keep (mS σ) x1) (G_keep (mS σ) x1) σ x σ'
theorem f231_0 : w_fe am_c231 0 1 (.iload 1) := ⟨rfl, rfl⟩
theorem f231_1 : w_fe am_c231 1 2 (.i2l) := ⟨rfl, rfl⟩
theorem f231_2 : w_fe am_c231 2 3 (.sipush 0) := ⟨rfl, rfl⟩
theorem f231_3 : w_fe am_c231 3 4 (.sipush 1) := ⟨rfl, rfl⟩
theorem f231_4 : w_fe am_c231 4 5 (.invokestatic 158) := ⟨rfl, rfl⟩
theorem f231_5 : w_if am_c231 5 6 .ne 8 := ⟨rfl, rfl⟩
theorem f231_6 : w_fe am_c231 6 7 (.bipush (-1)) := ⟨rfl, rfl⟩
theorem f231_7 : w_fe am_c231 7 8 (.ireturn) := ⟨rfl, rfl⟩
theorem f231_8 : w_fe am_c231 8 9 (.aload 0) := ⟨rfl, rfl⟩
theorem f231_9 : w_fe am_c231 9 10 (.getfield 902) := ⟨rfl, rfl⟩
theorem f231_10 : w_fe am_c231 10 11 (.iload 1) := ⟨rfl, rfl⟩
theorem f231_11 : w_fe am_c231 11 12 (.baload) := ⟨rfl, rfl⟩
theorem f231_12 : w_fe am_c231 12 13 (.invokestatic 180) := ⟨rfl, rfl⟩
theorem f231_13 : w_fe am_c231 13 14 (.istore 2) := ⟨rfl, rfl⟩
theorem f231_14 : w_fe am_c231 14 15 (.aload 0) := ⟨rfl, rfl⟩
theorem f231_15 : w_fe am_c231 15 16 (.getfield 902) := ⟨rfl, rfl⟩
theorem f231_16 : w_fe am_c231 16 17 (.iload 1) := ⟨rfl, rfl⟩
theorem f231_17 : w_fe am_c231 17 18 (.bipush 1) := ⟨rfl, rfl⟩
theorem f231_18 : w_fe am_c231 18 19 (.bastore) := ⟨rfl, rfl⟩
theorem f231_19 : w_fe am_c231 19 20 (.aload 0) := ⟨rfl, rfl⟩
theorem f231_20 : w_fe am_c231 20 21 (.bipush 82) := ⟨rfl, rfl⟩
theorem f231_21 : w_fe am_c231 21 22 (.iload 1) := ⟨rfl, rfl⟩
theorem f231_22 : w_fe am_c231 22 23 (.bipush 1) := ⟨rfl, rfl⟩
theorem f231_23 : w_fe am_c231 23 24 (.iadd) := ⟨rfl, rfl⟩
theorem f231_24 : w_fe am_c231 24 25 (.imul) := ⟨rfl, rfl⟩
theorem f231_25 : w_fe am_c231 25 26 (.bipush 0) := ⟨rfl, rfl⟩
theorem f231_26 : w_fe am_c231 26 27 (.invokestatic 232) := ⟨rfl, rfl⟩
theorem f231_27 : w_fe am_c231 27 28 (.iload 2) := ⟨rfl, rfl⟩
theorem f231_28 : w_fe am_c231 28 29 (.ireturn) := ⟨rfl, rfl⟩
set_option maxRecDepth 20000 in
theorem b231_0 {xs : List Int} {d : Nat} {Q : Option w_V → w_M → Prop} {x1 : Int} {σ : w_M}
    (h : ((0 ≤ x1 ∧ x1 ≤ 1) → (0 ≤ x1 ∧ x1 < 2 ∧ (∀ (y1 : Int), y1 = v_Model_flag (σ 125 x1.toNat) → ∀ (τ2 : w_M), τ2 = w_up σ 125 x1.toNat 1 → (w_in (x1 + 1) ∧ w_in (82 * (x1 + 1)) ∧ p_Model_copies (82 * (x1 + 1)) 0 τ2 ∧ (∀ (τ3 : w_M), q_Model_copies (82 * (x1 + 1)) 0 τ2 τ3 → Q (some (.inl y1)) τ3))))) ∧ (¬ (0 ≤ x1 ∧ x1 ≤ 1) → Q (some (.inl (-1))) σ)) : w_Call (xs, (d + 1)) 231 [.inr (.inr (9, 122)), .inl x1] σ Q :=
  (w_mk (mid := 231) (by decide) rfl rfl rfl rfl rfl (Nat.le_of_ble_eq_true rfl) ⟨rfl, Or.inl (by decide)⟩ (wi_iload1 f231_0 (wi_i2l f231_1 (wi_sipush f231_2 (wi_sipush f231_3 (wi_call3 f231_4 (Nat.le_of_ble_eq_true rfl) (k_Model_in (wi_ifb_ne f231_5 (fun c4 => (wi_aload0 f231_8 (wi_getf902 f231_9 (wi_iload1 f231_10 (wi_bald3002 f231_11 (h.1 c4).1 (h.1 c4).2.1 (wi_call1 f231_12 (Nat.le_of_ble_eq_true rfl) (k_Model_flag (wi_istore2 f231_13 trivial (wi_aload0 f231_14 (wi_getf902 f231_15 (wi_iload1 f231_16 (wi_bipush f231_17 (wi_bast3002 f231_18 (by decide) (h.1 c4).1 (h.1 c4).2.1 (wi_aload0 f231_19 (wi_bipush f231_20 (wi_iload1 f231_21 (wi_bipush f231_22 (wi_iadd f231_23 (((h.1 c4).2.2 _ rfl) _ rfl).1 (wi_imul f231_24 (((h.1 c4).2.2 _ rfl) _ rfl).2.1 (wi_bipush f231_25 (wi_call3 f231_26 (Nat.le_of_ble_eq_true rfl) (k_Model_copies (((h.1 c4).2.2 _ rfl) _ rfl).2.2.1 (fun τ3 eτ3 => (wi_iload2 f231_27 (wi_ret1 f231_28 ((((h.1 c4).2.2 _ rfl) _ rfl).2.2.2 τ3 eτ3)))))))))))))))))))))))))) (fun c4 => (wi_bipush f231_6 (wi_ret1 f231_7 (h.2 c4))))))))))))
set_option maxHeartbeats 1000000 in
theorem k_Model_keep {xs : List Int} {d : Nat} {Q : Option w_V → w_M → Prop} {x1 : Int} {σ : w_M} (hp : p_Model_keep x1 σ) (hQ : ∀ (x : Int) (σ' : w_M), q_Model_keep x1 σ x σ' → Q (some (.inl x)) σ') : w_Call (xs, d + 1) 231 [.inr (.inr (9, 122)), .inl x1] σ Q := by
  have hM : MI σ := hp
  unfold q_Model_keep F_keep G_keep at hQ
  refine b231_0 ⟨fun c => ⟨c.1, by omega, fun y1 e1 τ2 t2 => ⟨⟨by omega, by omega⟩, ⟨by omega, by omega⟩, ?_, fun τ3 q3 => ?_⟩⟩, fun c => ?_⟩
  · unfold p_Model_copies; omega
  · rw [if_pos c, if_pos c] at hQ
    obtain ⟨k, rfl⟩ := Int.eq_ofNat_of_zero_le c.1
    have hk : k = 0 ∨ k = 1 := by omega
    rw [Int.toNat_natCast] at hQ e1 t2
    obtain ⟨F, h1, h2⟩ := q3
    have ek : (82 * ((k : Int) + 1)).toNat = 82 + 82 * k := by omega
    have e0 : (0 : Int).toNat = 0 := rfl
    rw [ek, e0] at h1
    rw [ek] at h2
    have z2 : ∀ b, b ≠ 125 → τ2 b = σ b := fun b hb => by rw [t2, w_up_ne hb]
    have z3 : ∀ b, b ≠ 123 → b ≠ 125 → τ3 b = σ b := fun b h1 h2 => by rw [F b h1, z2 b h2]
    have h123 := z2 123 (by decide)
    rw [h123] at h1 h2
    have kb : ∀ j, τ3 125 j = if j = k then 1 else σ 125 j := fun j => by
      rw [F 125 (by decide), t2, w_up_eq]
      by_cases hj : j = k
      · rw [if_pos ⟨rfl, hj⟩, if_pos hj]
      · rw [if_neg (fun e => hj e.2), if_neg hj]
    have z122 := z3 122 (by decide) (by decide)
    have e122 : τ3 122 3 = σ 122 3 ∧ τ3 122 4 = σ 122 4 ∧ τ3 122 5 = σ 122 5 := by rw [z122]; exact ⟨rfl, rfl, rfl⟩
    have lo : ∀ x, x < 82 → τ3 123 x = σ 123 x := fun x hx => h2 x (by omega)
    have A1 : w_am τ3 123 (82 + 82 * k) = w_am σ 123 0 := w_am_sh hM.sm z122 (fun x hx => h1 x (by omega))
    have A2 : s_am τ3 (82 + 82 * k) = s_am σ 0 := s_am_sh hM.se.2 h1
    have A3 : c_am τ3 (82 + 82 * k) = c_am σ 0 := c_am_sh hM.pa.2 h1
    have kb0 := kb 0
    have kb1 := kb 1
    have hS : mS τ3 = im_set (mS σ) k := by
      refine cS_ext ?_ ?_ ?_ ?_ ?_ (fun p hp => ?_)
      · show w_am τ3 123 0 = _
        rw [w_am_frx hM.sm e122 (fun x _ hx => lo x (by omega))]
        rcases hk with rfl | rfl <;> rfl
      · show s_am τ3 0 = _
        rw [s_am_fr (fun x _ hx => lo x (by omega)) hM.se.2]
        rcases hk with rfl | rfl <;> rfl
      · show c_am τ3 0 = _
        rw [c_am_fr (fun x _ hx => lo x (by omega)) hM.pa.2]
        rcases hk with rfl | rfl <;> rfl
      · show t_am τ3 = _
        rw [t_am_fr (by rw [z122]) (by rw [z122]) (z3 127 (by decide) (by decide))]
        rcases hk with rfl | rfl <;> rfl
      · show h_am τ3 = _
        rw [h_am_fr (fun b h1 h2 => z3 b (by omega) (by omega))]
        rcases hk with rfl | rfl <;> rfl
      · have i0 := hM.2.2.2.2.2.2.2.1
        have i1 := hM.2.2.2.2.2.2.2.2
        rcases hk with rfl | rfl
        · rw [if_pos rfl] at kb0
          rw [if_neg (by decide)] at kb1
          have hi : ∀ x, 164 ≤ x → τ3 123 x = σ 123 x := fun x hx => h2 x (by omega)
          match p, hp with
          | 5, _ => simp only [mS]; rw [kb0, if_pos rfl]; exact A1
          | 6, _ => simp only [mS]; rw [kb0, if_pos rfl]; exact A2
          | 7, _ => simp only [mS]; rw [kb0, if_pos rfl]; exact A3
          | 8, _ =>
            show (if τ3 125 1 = 1 then w_am τ3 123 164 else w_0) = (if σ 125 1 = 1 then w_am σ 123 164 else w_0)
            rw [kb1, w_am_frx hM.sm e122 (fun x h1 _ => hi x h1)]
          | 9, _ =>
            show (if τ3 125 1 = 1 then s_am τ3 164 else w_0) = (if σ 125 1 = 1 then s_am σ 164 else w_0)
            rw [kb1]
            by_cases hkk : σ 125 1 = 1
            · have hw := (i1 hkk).2.2.1.1.2
              simp only [mS] at hw
              rw [if_pos hkk] at hw
              rw [if_pos hkk, if_pos hkk, s_am_fr (fun x h1 _ => hi x (by omega)) hw]
            · rw [if_neg hkk, if_neg hkk]
          | 10, _ =>
            show (if τ3 125 1 = 1 then c_am τ3 164 else w_0) = (if σ 125 1 = 1 then c_am σ 164 else w_0)
            rw [kb1]
            by_cases hkk : σ 125 1 = 1
            · have hw := (i1 hkk).2.2.2.1.2
              simp only [mS] at hw
              rw [if_pos hkk] at hw
              rw [if_pos hkk, if_pos hkk, c_am_fr (fun x h1 _ => hi x (by omega)) hw]
            · rw [if_neg hkk, if_neg hkk]
          | 11, _ =>
            show (fun d i => if d = 0 ∧ i < 2 then τ3 125 i else 0) = w_up (fun d i => if d = 0 ∧ i < 2 then σ 125 i else 0) 0 0 1
            funext d i
            rw [w_up_eq]
            by_cases hd : d = 0 ∧ i < 2
            · rw [if_pos hd, if_pos hd, kb i]
              by_cases hi : i = 0
              · rw [if_pos hi, if_pos ⟨hd.1, hi⟩]
              · rw [if_neg hi, if_neg (fun e => hi e.2)]
            · rw [if_neg hd, if_neg hd, if_neg (fun e => hd ⟨e.1, by omega⟩)]
          | p + 12, _ => exact (show mS τ3 (p + 12) = w_0 from rfl).trans (show im_set (mS σ) 0 (p + 12) = w_0 by unfold im_set; rw [w_sp_ne (by omega), w_sp_ne (by omega), w_sp_ne (by omega), w_sp_ne (by omega)]; rfl).symm
        · rw [if_neg (by decide)] at kb0
          rw [if_pos rfl] at kb1
          have hi : ∀ x, x < 164 → τ3 123 x = σ 123 x := fun x hx => h2 x (by omega)
          match p, hp with
          | 5, _ =>
            show (if τ3 125 0 = 1 then w_am τ3 123 82 else w_0) = (if σ 125 0 = 1 then w_am σ 123 82 else w_0)
            rw [kb0, w_am_frx hM.sm e122 (fun x _ h1 => hi x (by omega))]
          | 6, _ =>
            show (if τ3 125 0 = 1 then s_am τ3 82 else w_0) = (if σ 125 0 = 1 then s_am σ 82 else w_0)
            rw [kb0]
            by_cases hkk : σ 125 0 = 1
            · have hw := (i0 hkk).2.2.1.1.2
              simp only [mS] at hw
              rw [if_pos hkk] at hw
              rw [if_pos hkk, if_pos hkk, s_am_fr (fun x _ h1 => hi x (by omega)) hw]
            · rw [if_neg hkk, if_neg hkk]
          | 7, _ =>
            show (if τ3 125 0 = 1 then c_am τ3 82 else w_0) = (if σ 125 0 = 1 then c_am σ 82 else w_0)
            rw [kb0]
            by_cases hkk : σ 125 0 = 1
            · have hw := (i0 hkk).2.2.2.1.2
              simp only [mS] at hw
              rw [if_pos hkk] at hw
              rw [if_pos hkk, if_pos hkk, c_am_fr (fun x _ h1 => hi x (by omega)) hw]
            · rw [if_neg hkk, if_neg hkk]
          | 8, _ => simp only [mS]; rw [kb1, if_pos rfl]; exact A1
          | 9, _ => simp only [mS]; rw [kb1, if_pos rfl]; exact A2
          | 10, _ => simp only [mS]; rw [kb1, if_pos rfl]; exact A3
          | 11, _ =>
            show (fun d i => if d = 0 ∧ i < 2 then τ3 125 i else 0) = w_up (fun d i => if d = 0 ∧ i < 2 then σ 125 i else 0) 0 1 1
            funext d i
            rw [w_up_eq]
            by_cases hd : d = 0 ∧ i < 2
            · rw [if_pos hd, if_pos hd, kb i]
              by_cases hi : i = 1
              · rw [if_pos hi, if_pos ⟨hd.1, hi⟩]
              · rw [if_neg hi, if_neg (fun e => hi e.2)]
            · rw [if_neg hd, if_neg hd, if_neg (fun e => hd ⟨e.1, by omega⟩)]
          | p + 12, _ => exact (show mS τ3 (p + 12) = w_0 from rfl).trans (show im_set (mS σ) 1 (p + 12) = w_0 by unfold im_set; rw [w_sp_ne (by omega), w_sp_ne (by omega), w_sp_ne (by omega), w_sp_ne (by omega)]; rfl).symm
    refine hQ _ _ ⟨?_, by unfold MI; rw [hS]; exact sWF_im hM hk, hS, fun b hb => z3 b (by omega) (by omega), by rw [z122]⟩
    rw [e1, mS_11 (by omega)]
    unfold v_Model_flag
    rcases hM.k01 hk with h | h <;> rw [h] <;> rfl
  · rw [if_neg c, if_neg c] at hQ
    exact hQ _ _ (m_qr hM rfl)
def p_Model_back (_x1 : Int) (σ : w_M) : Prop := MI σ
def q_Model_back (x1 : Int) (σ : w_M) (x : Int) (σ' : w_M) : Prop := m_q (F_back (mS σ) x1) (G_back (mS σ) x1) σ x σ'
theorem f233_0 : w_fe am_c233 0 1 (.iload 1) := ⟨rfl, rfl⟩
theorem f233_1 : w_fe am_c233 1 2 (.i2l) := ⟨rfl, rfl⟩
theorem f233_2 : w_fe am_c233 2 3 (.sipush 0) := ⟨rfl, rfl⟩
theorem f233_3 : w_fe am_c233 3 4 (.sipush 1) := ⟨rfl, rfl⟩
theorem f233_4 : w_fe am_c233 4 5 (.invokestatic 158) := ⟨rfl, rfl⟩
theorem f233_5 : w_if am_c233 5 6 .ne 8 := ⟨rfl, rfl⟩
theorem f233_6 : w_fe am_c233 6 7 (.bipush (-1)) := ⟨rfl, rfl⟩
theorem f233_7 : w_fe am_c233 7 8 (.ireturn) := ⟨rfl, rfl⟩
theorem f233_8 : w_fe am_c233 8 9 (.aload 0) := ⟨rfl, rfl⟩
theorem f233_9 : w_fe am_c233 9 10 (.getfield 902) := ⟨rfl, rfl⟩
theorem f233_10 : w_fe am_c233 10 11 (.iload 1) := ⟨rfl, rfl⟩
theorem f233_11 : w_fe am_c233 11 12 (.baload) := ⟨rfl, rfl⟩
theorem f233_12 : w_if am_c233 12 13 .ne 15 := ⟨rfl, rfl⟩
theorem f233_13 : w_fe am_c233 13 14 (.bipush (-2)) := ⟨rfl, rfl⟩
theorem f233_14 : w_fe am_c233 14 15 (.ireturn) := ⟨rfl, rfl⟩
theorem f233_15 : w_fe am_c233 15 16 (.aload 0) := ⟨rfl, rfl⟩
theorem f233_16 : w_fe am_c233 16 17 (.bipush 0) := ⟨rfl, rfl⟩
theorem f233_17 : w_fe am_c233 17 18 (.bipush 82) := ⟨rfl, rfl⟩
theorem f233_18 : w_fe am_c233 18 19 (.iload 1) := ⟨rfl, rfl⟩
theorem f233_19 : w_fe am_c233 19 20 (.bipush 1) := ⟨rfl, rfl⟩
theorem f233_20 : w_fe am_c233 20 21 (.iadd) := ⟨rfl, rfl⟩
theorem f233_21 : w_fe am_c233 21 22 (.imul) := ⟨rfl, rfl⟩
theorem f233_22 : w_fe am_c233 22 23 (.invokestatic 232) := ⟨rfl, rfl⟩
theorem f233_23 : w_fe am_c233 23 24 (.aload 0) := ⟨rfl, rfl⟩
theorem f233_24 : w_fe am_c233 24 25 (.getfield 900) := ⟨rfl, rfl⟩
theorem f233_25 : w_fe am_c233 25 26 (.bipush 42) := ⟨rfl, rfl⟩
theorem f233_26 : w_fe am_c233 26 27 (.iaload) := ⟨rfl, rfl⟩
theorem f233_27 : w_fe am_c233 27 28 (.ireturn) := ⟨rfl, rfl⟩
set_option maxRecDepth 20000 in
theorem b233_0 {xs : List Int} {d : Nat} {Q : Option w_V → w_M → Prop} {x1 : Int} {σ : w_M}
    (h : ((0 ≤ x1 ∧ x1 ≤ 1) → (0 ≤ x1 ∧ x1 < 2 ∧ ((¬ (σ 125 x1.toNat) = 0 → (w_in (x1 + 1) ∧ w_in (82 * (x1 + 1)) ∧ p_Model_copies 0 (82 * (x1 + 1)) σ ∧ (∀ (τ1 : w_M), q_Model_copies 0 (82 * (x1 + 1)) σ τ1 → Q (some (.inl (τ1 123 42))) τ1))) ∧ ((σ 125 x1.toNat) = 0 → Q (some (.inl (-2))) σ)))) ∧ (¬ (0 ≤ x1 ∧ x1 ≤ 1) → Q (some (.inl (-1))) σ)) : w_Call (xs, (d + 1)) 233 [.inr (.inr (9, 122)), .inl x1] σ Q :=
  (w_mk (mid := 233) (by decide) rfl rfl rfl rfl rfl (Nat.le_of_ble_eq_true rfl) ⟨rfl, Or.inl (by decide)⟩ (wi_iload1 f233_0 (wi_i2l f233_1 (wi_sipush f233_2 (wi_sipush f233_3 (wi_call3 f233_4 (Nat.le_of_ble_eq_true rfl) (k_Model_in (wi_ifb_ne f233_5 (fun c3 => (wi_aload0 f233_8 (wi_getf902 f233_9 (wi_iload1 f233_10 (wi_bald3002 f233_11 (h.1 c3).1 (h.1 c3).2.1 (wi_if_ne f233_12 (fun c2 => (wi_aload0 f233_15 (wi_bipush f233_16 (wi_bipush f233_17 (wi_iload1 f233_18 (wi_bipush f233_19 (wi_iadd f233_20 ((h.1 c3).2.2.1 c2).1 (wi_imul f233_21 ((h.1 c3).2.2.1 c2).2.1 (wi_call3 f233_22 (Nat.le_of_ble_eq_true rfl) (k_Model_copies ((h.1 c3).2.2.1 c2).2.2.1 (fun τ1 eτ1 => (wi_aload0 f233_23 (wi_getf900 f233_24 (wi_bipush f233_25 (wi_iald1246 f233_26 (by decide) (by decide) (wi_ret1 f233_27 (((h.1 c3).2.2.1 c2).2.2.2 τ1 eτ1))))))))))))))))) (fun c2 => (wi_bipush f233_13 (wi_ret1 f233_14 ((h.1 c3).2.2.2 c2)))))))))) (fun c3 => (wi_bipush f233_6 (wi_ret1 f233_7 (h.2 c3))))))))))))
set_option maxHeartbeats 1000000 in
theorem k_Model_back {xs : List Int} {d : Nat} {Q : Option w_V → w_M → Prop} {x1 : Int} {σ : w_M} (hp : p_Model_back x1 σ) (hQ : ∀ (x : Int) (σ' : w_M), q_Model_back x1 σ x σ' → Q (some (.inl x)) σ') : w_Call (xs, d + 1) 233 [.inr (.inr (9, 122)), .inl x1] σ Q := by
  have hM : MI σ := hp
  unfold q_Model_back F_back G_back at hQ
  refine b233_0 ⟨fun c => ⟨c.1, by omega, fun c2 => ⟨⟨by omega, by omega⟩, ⟨by omega, by omega⟩, ?_, fun τ q => ?_⟩, fun c2 => ?_⟩, fun c => ?_⟩
  · unfold p_Model_copies; omega
  · obtain ⟨k, rfl⟩ := Int.eq_ofNat_of_zero_le c.1
    have hk : k = 0 ∨ k = 1 := by omega
    rw [Int.toNat_natCast] at hQ c2
    have h1k : σ 125 k = 1 := (hM.k01 hk).resolve_left c2
    have e11 : mS σ 11 0 k = σ 125 k := mS_11 (by omega)
    rw [e11, if_pos c, if_pos h1k, if_pos ⟨c, h1k⟩] at hQ
    obtain ⟨F, h1, h2⟩ := q
    have ek : (82 * ((k : Int) + 1)).toNat = 82 + 82 * k := by omega
    have e0 : (0 : Int).toNat = 0 := rfl
    rw [ek, e0] at h1
    rw [e0] at h2
    have z122 := F 122 (by decide)
    have e122 : τ 122 3 = σ 122 3 ∧ τ 122 4 = σ 122 4 ∧ τ 122 5 = σ 122 5 := by rw [z122]; exact ⟨rfl, rfl, rfl⟩
    have him : imWF (mS σ 0) (w_am σ 123 (82 + 82 * k)) (s_am σ (82 + 82 * k)) (c_am σ (82 + 82 * k)) ∧ mS σ (5 + 3 * k) = w_am σ 123 (82 + 82 * k) ∧ mS σ (6 + 3 * k) = s_am σ (82 + 82 * k) ∧ mS σ (7 + 3 * k) = c_am σ (82 + 82 * k) := by
      rcases hk with rfl | rfl
      · have e5 : mS σ 5 = w_am σ 123 82 := by simp only [mS]; rw [if_pos h1k]
        have e6 : mS σ 6 = s_am σ 82 := by simp only [mS]; rw [if_pos h1k]
        have e7 : mS σ 7 = c_am σ 82 := by simp only [mS]; rw [if_pos h1k]
        have := hM.2.2.2.2.2.2.2.1 (e11.trans h1k)
        rw [e5, e6, e7] at this
        exact ⟨this, e5, e6, e7⟩
      · have e5 : mS σ 8 = w_am σ 123 164 := by simp only [mS]; rw [if_pos h1k]
        have e6 : mS σ 9 = s_am σ 164 := by simp only [mS]; rw [if_pos h1k]
        have e7 : mS σ 10 = c_am σ 164 := by simp only [mS]; rw [if_pos h1k]
        have := hM.2.2.2.2.2.2.2.2 (e11.trans h1k)
        rw [e5, e6, e7] at this
        exact ⟨this, e5, e6, e7⟩
    obtain ⟨⟨i1, i2, i3, i4⟩, g5, g6, g7⟩ := him
    have h1' : ∀ x, x < 82 → τ 123 (0 + x) = σ 123 (82 + 82 * k + x) := fun x hx => h1 x hx
    have hS : mS τ = im_get (mS σ) k := by
      refine cS_ext ?_ ?_ ?_ ?_ ?_ (fun p hp => ?_)
      · show w_am τ 123 0 = mS σ (5 + 3 * k); rw [g5]; exact w_am_sh hM.sm z122 (fun x hx => h1' x (by omega))
      · show s_am τ 0 = mS σ (6 + 3 * k); rw [g6]; exact s_am_sh i3.1.2 h1'
      · show c_am τ 0 = mS σ (7 + 3 * k); rw [g7]; exact c_am_sh i4.1.2 h1'
      · show t_am τ = t_am σ; exact t_am_fr (by rw [z122]) (by rw [z122]) (F 127 (by decide))
      · show h_am τ = h_am σ; exact h_am_fr (fun b h1 h2 => F b (by omega))
      · unfold im_get
        rw [w_sp_ne (by omega), w_sp_ne (by omega), w_sp_ne (by omega)]
        exact mS_im hM e122 (F 125 (by decide)) (fun x hx => h2 x (by omega)) p hp
    refine hQ _ _ ⟨?_, by unfold MI; rw [hS]; exact sWF_bk hM hk (e11.trans h1k), hS, fun b hb => F b (by omega), by rw [z122]⟩
    rw [g5]
    exact h1' 42 (by decide)
  · obtain ⟨k, rfl⟩ := Int.eq_ofNat_of_zero_le c.1
    have hk : k = 0 ∨ k = 1 := by omega
    rw [Int.toNat_natCast] at hQ c2
    have e11 : mS σ 11 0 k = σ 125 k := mS_11 (by omega)
    rw [e11, if_pos c, c2, if_neg (by decide), if_neg (by omega)] at hQ
    exact hQ _ _ (m_qr hM rfl)
  · rw [if_neg c, if_neg (fun q => c q.1)] at hQ
    exact hQ _ _ (m_qr hM rfl)
