/-! The reference and the whole text -/
noncomputable def p_Model_text (σ : w_M) : Prop := MI σ
noncomputable def q_Model_text (σ : w_M) (x : Int) (σ' : w_M) : Prop := m_q (F_text (mS σ)) (G_text (mS σ)) σ x σ'
theorem fModel_text_0 : w_fe am_c159 0 1 (.bipush 0) := ⟨rfl, rfl⟩
theorem fModel_text_1 : w_fe am_c159 1 2 (.istore 1) := ⟨rfl, rfl⟩
theorem fModel_text_2 : w_fe am_c159 2 3 (.aload 0) := ⟨rfl, rfl⟩
theorem fModel_text_3 : w_fe am_c159 3 4 (.bipush 0) := ⟨rfl, rfl⟩
theorem fModel_text_4 : w_fe am_c159 4 5 (.putfield 920) := ⟨rfl, rfl⟩
theorem fModel_text_5 : w_fe am_c159 5 6 (.aload 0) := ⟨rfl, rfl⟩
theorem fModel_text_6 : w_fe am_c159 6 7 (.bipush 0) := ⟨rfl, rfl⟩
theorem fModel_text_7 : w_fe am_c159 7 8 (.putfield 916) := ⟨rfl, rfl⟩
theorem fModel_text_8 : w_fe am_c159 8 9 (.aload 0) := ⟨rfl, rfl⟩
theorem fModel_text_9 : w_fe am_c159 9 10 (.invokestatic 154) := ⟨rfl, rfl⟩
theorem fModel_text_10 : w_fe am_c159 10 11 (.aload 0) := ⟨rfl, rfl⟩
theorem fModel_text_11 : w_fe am_c159 11 12 (.invokestatic 160) := ⟨rfl, rfl⟩
theorem fModel_text_12 : w_fe am_c159 12 13 (.aload 0) := ⟨rfl, rfl⟩
theorem fModel_text_13 : w_fe am_c159 13 14 (.getfield 920) := ⟨rfl, rfl⟩
theorem fModel_text_14 : w_if am_c159 14 15 .ne 22 := ⟨rfl, rfl⟩
theorem fModel_text_15 : w_fe am_c159 15 16 (.aload 0) := ⟨rfl, rfl⟩
theorem fModel_text_16 : w_fe am_c159 16 17 (.getfield 918) := ⟨rfl, rfl⟩
theorem fModel_text_17 : w_if am_c159 17 18 .eq 22 := ⟨rfl, rfl⟩
theorem fModel_text_18 : w_fe am_c159 18 19 (.aload 0) := ⟨rfl, rfl⟩
theorem fModel_text_19 : w_fe am_c159 19 20 (.invokestatic 163) := ⟨rfl, rfl⟩
theorem fModel_text_20 : w_fe am_c159 20 21 (.iinc 1 1) := ⟨rfl, rfl⟩
theorem fModel_text_21 : w_gt am_c159 21 12 := rfl
theorem fModel_text_22 : w_fe am_c159 22 23 (.aload 0) := ⟨rfl, rfl⟩
theorem fModel_text_23 : w_fe am_c159 23 24 (.getfield 920) := ⟨rfl, rfl⟩
theorem fModel_text_24 : w_if am_c159 24 25 .ne 41 := ⟨rfl, rfl⟩
theorem fModel_text_25 : w_fe am_c159 25 26 (.aload 0) := ⟨rfl, rfl⟩
theorem fModel_text_26 : w_fe am_c159 26 27 (.aload 0) := ⟨rfl, rfl⟩
theorem fModel_text_27 : w_fe am_c159 27 28 (.getfield 912) := ⟨rfl, rfl⟩
theorem fModel_text_28 : w_fe am_c159 28 29 (.aload 0) := ⟨rfl, rfl⟩
theorem fModel_text_29 : w_fe am_c159 29 30 (.getfield 908) := ⟨rfl, rfl⟩
theorem fModel_text_30 : w_ic am_c159 30 31 .ge 38 := ⟨rfl, rfl⟩
theorem fModel_text_31 : w_fe am_c159 31 32 (.aload 0) := ⟨rfl, rfl⟩
theorem fModel_text_32 : w_fe am_c159 32 33 (.getfield 913) := ⟨rfl, rfl⟩
theorem fModel_text_33 : w_fe am_c159 33 34 (.aload 0) := ⟨rfl, rfl⟩
theorem fModel_text_34 : w_fe am_c159 34 35 (.getfield 907) := ⟨rfl, rfl⟩
theorem fModel_text_35 : w_ic am_c159 35 36 .ge 38 := ⟨rfl, rfl⟩
theorem fModel_text_36 : w_fe am_c159 36 37 (.bipush 1) := ⟨rfl, rfl⟩
theorem fModel_text_37 : w_gt am_c159 37 39 := rfl
theorem fModel_text_38 : w_fe am_c159 38 39 (.bipush 0) := ⟨rfl, rfl⟩
theorem fModel_text_39 : w_fe am_c159 39 40 (.bipush 6) := ⟨rfl, rfl⟩
theorem fModel_text_40 : w_fe am_c159 40 41 (.invokestatic 162) := ⟨rfl, rfl⟩
theorem fModel_text_41 : w_fe am_c159 41 42 (.aload 0) := ⟨rfl, rfl⟩
theorem fModel_text_42 : w_fe am_c159 42 43 (.bipush 0) := ⟨rfl, rfl⟩
theorem fModel_text_43 : w_fe am_c159 43 44 (.putfield 915) := ⟨rfl, rfl⟩
theorem fModel_text_44 : w_fe am_c159 44 45 (.aload 0) := ⟨rfl, rfl⟩
theorem fModel_text_45 : w_fe am_c159 45 46 (.getfield 920) := ⟨rfl, rfl⟩
theorem fModel_text_46 : w_if am_c159 46 47 .le 52 := ⟨rfl, rfl⟩
theorem fModel_text_47 : w_fe am_c159 47 48 (.bipush (-10)) := ⟨rfl, rfl⟩
theorem fModel_text_48 : w_fe am_c159 48 49 (.aload 0) := ⟨rfl, rfl⟩
theorem fModel_text_49 : w_fe am_c159 49 50 (.getfield 921) := ⟨rfl, rfl⟩
theorem fModel_text_50 : w_fe am_c159 50 51 (.isub) := ⟨rfl, rfl⟩
theorem fModel_text_51 : w_fe am_c159 51 52 (.ireturn) := ⟨rfl, rfl⟩
theorem fModel_text_52 : w_fe am_c159 52 53 (.aload 0) := ⟨rfl, rfl⟩
theorem fModel_text_53 : w_fe am_c159 53 54 (.invokestatic 155) := ⟨rfl, rfl⟩
theorem fModel_text_54 : w_fe am_c159 54 55 (.iload 1) := ⟨rfl, rfl⟩
theorem fModel_text_55 : w_fe am_c159 55 56 (.ireturn) := ⟨rfl, rfl⟩
noncomputable def LModel_text_12 (xs : List Int) (d : Nat) (Q : Option w_V → w_M → Prop) (v1 : Int) (σ : w_M) : Prop := w_Ex (xs, d) 1 am_c159 Q 12 [some (.inr (.inr (9, 122))), some (.inl v1)] [] σ
set_option maxRecDepth 20000 in
theorem bModel_text_0 {xs : List Int} {d : Nat} {Q : Option w_V → w_M → Prop}  {σ : w_M}
    (h : ∀ (τ1 : w_M), τ1 = w_up σ 122 20 0 → ∀ (τ2 : w_M), τ2 = w_up τ1 122 16 0 → ∀ (τ3 : w_M), q_Model_firstDraft τ2 τ3 → (p_Model_next τ3 ∧ (∀ (τ4 : w_M), q_Model_next τ3 τ4 → LModel_text_12 xs (d + 6) Q 0 τ4))) : w_Call (xs, (d + 6)) 159 [.inr (.inr (9, 122))] σ Q :=
  (w_mk (mid := 159) (by decide) rfl rfl rfl rfl rfl (Nat.le_of_ble_eq_true rfl) ⟨rfl, Or.inl (by decide)⟩ (wi_bipush fModel_text_0 (wi_istore1 fModel_text_1 trivial (wi_aload0 fModel_text_2 (wi_bipush fModel_text_3 (wi_putf920 fModel_text_4 (wi_aload0 fModel_text_5 (wi_bipush fModel_text_6 (wi_putf916 fModel_text_7 (wi_aload0 fModel_text_8 (wi_call1 fModel_text_9 (Nat.le_of_ble_eq_true rfl) (k_Model_firstDraft (fun τ3 eτ3 => (wi_aload0 fModel_text_10 (wi_call1 fModel_text_11 (Nat.le_of_ble_eq_true rfl) (k_Model_next (((h _ rfl) _ rfl) τ3 eτ3).1 (fun τ4 eτ4 => ((((h _ rfl) _ rfl) τ3 eτ3).2 τ4 eτ4))))))))))))))))))
set_option maxRecDepth 20000 in
theorem bModel_text_12 {xs : List Int} {d : Nat} {Q : Option w_V → w_M → Prop} {v1 : Int} {σ : w_M}
    (h : (¬ (σ 122 20) = 0 → ∀ (τ1 : w_M), τ1 = w_up σ 122 15 0 → (((τ1 122 20) ≤ 0 → (p_Model_keepDraft τ1 ∧ (∀ (τ2 : w_M), q_Model_keepDraft τ1 τ2 → Q (some (.inl v1)) τ2))) ∧ (0 < (τ1 122 20) → (w_in ((-10) - (τ1 122 21)) ∧ Q (some (.inl ((-10) - (τ1 122 21)))) τ1)))) ∧ ((σ 122 20) = 0 → (((σ 122 18) = 0 → (((σ 122 8) ≤ (σ 122 12) → ∀ (τ4 : w_M), q_Model_needs 0 6 σ τ4 → ∀ (τ5 : w_M), τ5 = w_up τ4 122 15 0 → (((τ5 122 20) ≤ 0 → (p_Model_keepDraft τ5 ∧ (∀ (τ6 : w_M), q_Model_keepDraft τ5 τ6 → Q (some (.inl v1)) τ6))) ∧ (0 < (τ5 122 20) → (w_in ((-10) - (τ5 122 21)) ∧ Q (some (.inl ((-10) - (τ5 122 21)))) τ5)))) ∧ ((σ 122 12) < (σ 122 8) → (((σ 122 7) ≤ (σ 122 13) → ∀ (τ8 : w_M), q_Model_needs 0 6 σ τ8 → ∀ (τ9 : w_M), τ9 = w_up τ8 122 15 0 → (((τ9 122 20) ≤ 0 → (p_Model_keepDraft τ9 ∧ (∀ (τ10 : w_M), q_Model_keepDraft τ9 τ10 → Q (some (.inl v1)) τ10))) ∧ (0 < (τ9 122 20) → (w_in ((-10) - (τ9 122 21)) ∧ Q (some (.inl ((-10) - (τ9 122 21)))) τ9)))) ∧ ((σ 122 13) < (σ 122 7) → ∀ (τ12 : w_M), q_Model_needs 1 6 σ τ12 → ∀ (τ13 : w_M), τ13 = w_up τ12 122 15 0 → (((τ13 122 20) ≤ 0 → (p_Model_keepDraft τ13 ∧ (∀ (τ14 : w_M), q_Model_keepDraft τ13 τ14 → Q (some (.inl v1)) τ14))) ∧ (0 < (τ13 122 20) → (w_in ((-10) - (τ13 122 21)) ∧ Q (some (.inl ((-10) - (τ13 122 21)))) τ13)))))))) ∧ (¬ (σ 122 18) = 0 → (p_Model_readLine σ ∧ (∀ (τ18 : w_M), q_Model_readLine σ τ18 → (w_in (v1 + 1) ∧ LModel_text_12 xs (d + 6) Q (v1 + 1) τ18))))))) : LModel_text_12 xs (d + 6) Q v1 σ :=
  (wi_aload0 fModel_text_12 (wi_getf920 fModel_text_13 (wi_if_ne fModel_text_14 (fun c20 => (wi_aload0 fModel_text_22 (wi_getf920 fModel_text_23 (wi_if_ne fModel_text_24 (fun _ => (wi_aload0 fModel_text_41 (wi_bipush fModel_text_42 (wi_putf915 fModel_text_43 (wi_aload0 fModel_text_44 (wi_getf920 fModel_text_45 (wi_if_le fModel_text_46 (fun c3 => (wi_aload0 fModel_text_52 (wi_call1 fModel_text_53 (Nat.le_of_ble_eq_true rfl) (k_Model_keepDraft (((h.1 c20) _ rfl).1 c3).1 (fun τ2 eτ2 => (wi_iload1 fModel_text_54 (wi_ret1 fModel_text_55 ((((h.1 c20) _ rfl).1 c3).2 τ2 eτ2)))))))) (fun c3 => (wi_bipush fModel_text_47 (wi_aload0 fModel_text_48 (wi_getf921 fModel_text_49 (wi_isub fModel_text_50 (((h.1 c20) _ rfl).2 c3).1 (wi_ret1 fModel_text_51 (((h.1 c20) _ rfl).2 c3).2))))))))))))) (fun e => absurd c20 (w_n_ne e)))))) (fun c20 => (wi_aload0 fModel_text_15 (wi_getf918 fModel_text_16 (wi_if_eq fModel_text_17 (fun c19 => (wi_aload0 fModel_text_22 (wi_getf920 fModel_text_23 (wi_if_ne fModel_text_24 (fun e => absurd c20 (w_m_ne e)) (fun _ => (wi_aload0 fModel_text_25 (wi_aload0 fModel_text_26 (wi_getf912 fModel_text_27 (wi_aload0 fModel_text_28 (wi_getf908 fModel_text_29 (wi_ic_ge fModel_text_30 (fun c17 => (wi_bipush fModel_text_38 (wi_bipush fModel_text_39 (wi_call3 fModel_text_40 (Nat.le_of_ble_eq_true rfl) (k_Model_needs (fun τ4 eτ4 => (wi_aload0 fModel_text_41 (wi_bipush fModel_text_42 (wi_putf915 fModel_text_43 (wi_aload0 fModel_text_44 (wi_getf920 fModel_text_45 (wi_if_le fModel_text_46 (fun c7 => (wi_aload0 fModel_text_52 (wi_call1 fModel_text_53 (Nat.le_of_ble_eq_true rfl) (k_Model_keepDraft ((((((h.2 c20).1 c19).1 c17) τ4 eτ4) _ rfl).1 c7).1 (fun τ6 eτ6 => (wi_iload1 fModel_text_54 (wi_ret1 fModel_text_55 (((((((h.2 c20).1 c19).1 c17) τ4 eτ4) _ rfl).1 c7).2 τ6 eτ6)))))))) (fun c7 => (wi_bipush fModel_text_47 (wi_aload0 fModel_text_48 (wi_getf921 fModel_text_49 (wi_isub fModel_text_50 ((((((h.2 c20).1 c19).1 c17) τ4 eτ4) _ rfl).2 c7).1 (wi_ret1 fModel_text_51 ((((((h.2 c20).1 c19).1 c17) τ4 eτ4) _ rfl).2 c7).2)))))))))))))))))) (fun c17 => (wi_aload0 fModel_text_31 (wi_getf913 fModel_text_32 (wi_aload0 fModel_text_33 (wi_getf907 fModel_text_34 (wi_ic_ge fModel_text_35 (fun c16 => (wi_bipush fModel_text_38 (wi_bipush fModel_text_39 (wi_call3 fModel_text_40 (Nat.le_of_ble_eq_true rfl) (k_Model_needs (fun τ8 eτ8 => (wi_aload0 fModel_text_41 (wi_bipush fModel_text_42 (wi_putf915 fModel_text_43 (wi_aload0 fModel_text_44 (wi_getf920 fModel_text_45 (wi_if_le fModel_text_46 (fun c11 => (wi_aload0 fModel_text_52 (wi_call1 fModel_text_53 (Nat.le_of_ble_eq_true rfl) (k_Model_keepDraft (((((((h.2 c20).1 c19).2 c17).1 c16) τ8 eτ8) _ rfl).1 c11).1 (fun τ10 eτ10 => (wi_iload1 fModel_text_54 (wi_ret1 fModel_text_55 ((((((((h.2 c20).1 c19).2 c17).1 c16) τ8 eτ8) _ rfl).1 c11).2 τ10 eτ10)))))))) (fun c11 => (wi_bipush fModel_text_47 (wi_aload0 fModel_text_48 (wi_getf921 fModel_text_49 (wi_isub fModel_text_50 (((((((h.2 c20).1 c19).2 c17).1 c16) τ8 eτ8) _ rfl).2 c11).1 (wi_ret1 fModel_text_51 (((((((h.2 c20).1 c19).2 c17).1 c16) τ8 eτ8) _ rfl).2 c11).2)))))))))))))))))) (fun c16 => (wi_bipush fModel_text_36 (wi_goto fModel_text_37 (wi_bipush fModel_text_39 (wi_call3 fModel_text_40 (Nat.le_of_ble_eq_true rfl) (k_Model_needs (fun τ12 eτ12 => (wi_aload0 fModel_text_41 (wi_bipush fModel_text_42 (wi_putf915 fModel_text_43 (wi_aload0 fModel_text_44 (wi_getf920 fModel_text_45 (wi_if_le fModel_text_46 (fun c15 => (wi_aload0 fModel_text_52 (wi_call1 fModel_text_53 (Nat.le_of_ble_eq_true rfl) (k_Model_keepDraft (((((((h.2 c20).1 c19).2 c17).2 c16) τ12 eτ12) _ rfl).1 c15).1 (fun τ14 eτ14 => (wi_iload1 fModel_text_54 (wi_ret1 fModel_text_55 ((((((((h.2 c20).1 c19).2 c17).2 c16) τ12 eτ12) _ rfl).1 c15).2 τ14 eτ14)))))))) (fun c15 => (wi_bipush fModel_text_47 (wi_aload0 fModel_text_48 (wi_getf921 fModel_text_49 (wi_isub fModel_text_50 (((((((h.2 c20).1 c19).2 c17).2 c16) τ12 eτ12) _ rfl).2 c15).1 (wi_ret1 fModel_text_51 (((((((h.2 c20).1 c19).2 c17).2 c16) τ12 eτ12) _ rfl).2 c15).2)))))))))))))))))))))))))))))))))))) (fun c19 => (wi_aload0 fModel_text_18 (wi_call1 fModel_text_19 (Nat.le_of_ble_eq_true rfl) (k_Model_readLine ((h.2 c20).2 c19).1 (fun τ18 eτ18 => (wi_iinc1 fModel_text_20 trivial (((h.2 c20).2 c19).2 τ18 eτ18).1 (wi_goto fModel_text_21 (((h.2 c20).2 c19).2 τ18 eτ18).2))))))))))))))
set_option maxHeartbeats 2000000 in
theorem k_Model_text {xs : List Int} {d : Nat} {Q : Option w_V → w_M → Prop}  {σ : w_M} (hp : p_Model_text σ) (hQ : ∀ (x : Int) (σ' : w_M), q_Model_text σ x σ' → Q (some (.inl x)) σ') : w_Call (xs, d + 6) 159 [.inr (.inr (9, 122))] σ Q := by
  have hM : MI σ := hp
  have hta := hM.2.2.2.1
  have hk : m_rk σ := by
    refine ⟨hta.1, fun i hi => ?_⟩
    have := hta.2 i hi
    have e : mS σ 3 1 i = σ 127 i := by
      show (if i < (σ 122 15).toNat then σ 127 i else 0) = _
      rw [if_pos hi]
    rw [e] at this
    exact this
  have hk1 := hk.1
  have hLe : mL σ = (σ 122 15).toNat := rfl
  have hL160 : mL σ ≤ 160 := by omega
  have eR : tx_R (mS σ) = rd_R (mT σ) (mL σ) 161 0 0 d_0 := rfl
  have pl := rd_pl (T := mT σ) (L := mL σ) 161 0 0 d_0 (Nat.zero_le _)
  have rl := rd_L (T := mT σ) hL160
  unfold q_Model_text F_text G_text at hQ
  rw [eR] at hQ
  have tpT : ∀ τ : w_M, mo_tp σ τ → mT τ = mT σ ∧ mL τ = mL σ ∧ m_rk τ := fun τ F => ⟨F.T, F.L, F.ok hk⟩
  generalize hT : mT σ = T at *
  generalize hL : mL σ = L at *
  generalize hR : rd_R T L 161 0 0 d_0 = R at *
  -- it ends with a fault
  have done_f : ∀ (v : Int) (τ : w_M), mo_h σ τ → 0 < R.1.1 → τ 122 20 = R.1.1 → τ 122 21 = ((R.1.2 : Nat) : Int) → ∀ τ1, τ1 = w_up τ 122 15 0 → (τ1 122 20 ≤ 0 → p_Model_keepDraft τ1 ∧ ∀ τ2, q_Model_keepDraft τ1 τ2 → Q (some (.inl v)) τ2) ∧ (0 < τ1 122 20 → w_in (-10 - τ1 122 21) ∧ Q (some (.inl (-10 - τ1 122 21))) τ1) := fun v τ F h1 h2 h3 τ1 t1 => by
    have z20 : τ1 122 20 = R.1.1 := by rw [t1, w_up_j (by decide)]; exact h2
    have z21 : τ1 122 21 = ((R.1.2 : Nat) : Int) := by rw [t1, w_up_j (by decide)]; exact h3
    have z15 : τ1 122 15 = 0 := by rw [t1, w_up_at]
    have zb : ∀ b, b ≠ 122 → b ≠ 126 → τ1 b = σ b := fun b hb hb2 => by rw [t1, w_up_ne hb]; exact F.1 b hb hb2
    have z2 : ∀ j, j < 7 ∨ 22 ≤ j → τ1 122 j = σ 122 j := fun j hj => by rw [t1, w_up_j (by omega)]; exact F.2 j (by omega)
    refine ⟨fun c => by omega, fun _ => ⟨by rw [z21]; exact ⟨by omega, by omega⟩, ?_⟩⟩
    rw [if_neg (by omega), if_neg (by omega)] at hQ
    rw [z21]
    refine hQ _ _ (m_q3 hM (fun j hj => z2 j (by omega)) (fun b hb => zb b (by omega) (by omega)) (fun b hb => zb b (by omega) (by omega)) (z2 27 (by omega)) ?_ tz_WF rfl)
    funext d i
    unfold t_am tz
    rw [z15, z20]
    by_cases h0 : d = 0
    · subst h0
      by_cases h1 : i = 1
      · subst h1; simp
      · simp [h1]
    · simp [h0]
  -- it ends well
  have done_k : ∀ (v : Int) (τ : w_M), mo_h σ τ → R.1.1 = 0 → τ 122 20 = 0 → dm τ → d_am τ = R.2.2 → v = ((R.2.1 : Nat) : Int) → ∀ τ1, τ1 = w_up τ 122 15 0 → (τ1 122 20 ≤ 0 → p_Model_keepDraft τ1 ∧ ∀ τ2, q_Model_keepDraft τ1 τ2 → Q (some (.inl v)) τ2) ∧ (0 < τ1 122 20 → w_in (-10 - τ1 122 21) ∧ Q (some (.inl (-10 - τ1 122 21))) τ1) := fun v τ F h1 h20 hd hD hv τ1 t1 => by
    have z20 : τ1 122 20 = 0 := by rw [t1, w_up_j (by decide)]; exact h20
    refine ⟨fun _ => ⟨trivial, fun τ2 q2 => ?_⟩, fun c => by omega⟩
    have z6 : τ1 126 = τ 126 := by rw [t1, w_up_ne (by decide)]
    have eD : d_am τ1 = d_am τ := d_am_fr z6 (fun j h1 h2 => by rw [t1, w_up_j (by omega)])
    have hd1 : dm τ1 := by
      refine ⟨by rw [eD]; exact hd.1, m_cn_fr hd.2.1 z6 (by rw [t1, w_up_j (by decide)]), ?_⟩
      rw [eD, t1, w_up_j (by decide), w_up_j (by decide)]
      exact hd.2.2
    have eA : w_am τ2 123 0 = d_A R.2.2 := by rw [d_am_A hd1 q2, eD, hD]
    obtain ⟨l1, l2⟩ := rl h1
    rw [if_pos h1, if_pos h1] at hQ
    obtain ⟨qb, qx, q345, qj, q0, q1⟩ := q2
    have zb : ∀ b, b ≠ 122 → b ≠ 123 → b ≠ 125 → b ≠ 126 → τ2 b = σ b := fun b hb1 hb2 hb3 hb4 => by rw [qb b hb1 hb2 hb3, t1, w_up_ne hb1]; exact F.1 b hb1 hb4
    have z15 : τ2 122 15 = 0 := by rw [qj 15 (by decide) (by decide) (by decide), t1, w_up_at]
    have z220 : τ2 122 20 = 0 := by rw [qj 20 (by decide) (by decide) (by decide)]; exact z20
    have z48 : τ2 123 (0 + 48) = 0 := by rw [qx _ (by decide), if_neg (by decide)]; exact hd1.2.1.2.1.1
    have z73 : τ2 123 (0 + 73) = 0 := by rw [qx _ (by decide), if_neg (by decide)]; exact hd1.2.1.2.1.2
    have eS : mS τ2 = tx_G (mS σ) R.2.2 := by
      refine cS_ext eA ?_ ?_ ?_ ?_ ?_
      · funext d i
        show s_am τ2 0 d i = 0
        unfold s_am
        rw [z48]
        simp
      · funext d i
        show c_am τ2 0 d i = 0
        unfold c_am
        rw [z73]
        simp
      · funext d i
        show t_am τ2 d i = 0
        unfold t_am
        rw [z15, z220]
        simp
      · exact h_am_fr (fun b h1 h2 => zb b (by omega) (by omega) (by omega) (by omega))
      · intro p hp5
        match p, hp5 with
        | 5, _ => simp only [mS]; rw [q0, if_neg (by decide)]; rfl
        | 6, _ => simp only [mS]; rw [q0, if_neg (by decide)]; rfl
        | 7, _ => simp only [mS]; rw [q0, if_neg (by decide)]; rfl
        | 8, _ => simp only [mS]; rw [q1, if_neg (by decide)]; rfl
        | 9, _ => simp only [mS]; rw [q1, if_neg (by decide)]; rfl
        | 10, _ => simp only [mS]; rw [q1, if_neg (by decide)]; rfl
        | 11, _ =>
          simp only [mS]
          funext d i
          show (if d = 0 ∧ i < 2 then τ2 125 i else 0) = 0
          by_cases h : d = 0 ∧ i < 2
          · rw [if_pos h]
            rcases (show i = 0 ∨ i = 1 by omega) with rfl | rfl
            · exact q0
            · exact q1
          · rw [if_neg h]
        | p + 12, _ => rfl
    refine hQ _ _ ⟨hv, by unfold MI; rw [eS]; exact tx_WF hM l1, eS, fun b hb => zb b (by omega) (by omega) (by omega) (by omega), ?_⟩
    rw [qj 27 (by decide) (by decide) (by decide), t1, w_up_j (by decide)]
    exact F.2 27 (by omega)
  refine bModel_text_0 (fun τ1 t1 τ2 t2 τ3 q3 => ?_)
  obtain ⟨F3, fj, fx, f7, f8, f9, f10, f11, f12, f13⟩ := q3
  have z20 : τ3 122 20 = 0 := by rw [fj 20 (by decide), t2, w_up_j (by decide), t1, w_up_at]
  have z16 : τ3 122 16 = ((0 : Nat) : Int) := by rw [fj 16 (by decide), t2, w_up_at]; rfl
  have H2 : mo_h σ τ2 := by
    rw [t2, t1]
    exact ⟨fun b h1 h2 => by rw [w_up_ne h1, w_up_ne h1], fun j hj => by rw [w_up_j (by omega), w_up_j (by omega)]⟩
  have H3 : mo_h σ τ3 := H2.tr F3
  have z15 : τ3 122 15 = σ 122 15 := H3.2 15 (by omega)
  obtain ⟨g1, g2, g3⟩ := tpT τ3 H3.tp
  have D3 : d_am τ3 = d_0 := by
    refine d_am_eq (fun i => ?_) (fun d i h1 h2 => ?_) (fun d i h => ?_) (fun d i h => ?_)
    · rw [d_am_0, f7, f8, f9, f10, f11, fx 41 (by decide), if_neg (show ¬ (41 : Nat) = 47 by decide)]
      show _ = if (0 : Nat) = 0 ∧ i = 0 then (8 : Int) else 0
      by_cases h : i = 0
      · simp [h]
      · simp [h]
    · rw [f8]
      show (if i < 0 then _ else (0 : Int)) = if d = 0 ∧ i = 0 then 8 else 0
      rw [if_neg (Nat.not_lt_zero i), if_neg (by omega)]
    · rw [f9]
      show (if i < 0 then _ else (0 : Int)) = if d = 0 ∧ i = 0 then 8 else 0
      rw [if_neg (Nat.not_lt_zero i), if_neg (by omega)]
    · show (if d = 0 ∧ i = 0 then (8 : Int) else 0) = 0
      rw [if_neg (by omega)]
  have N3 : dm τ3 := by
    refine ⟨by rw [D3]; exact d_0_WF, ⟨⟨?_, ?_⟩, ⟨?_, ?_⟩, fun o ho => ?_, fun r hr => ?_, fun r hr => ?_⟩, ?_⟩
    · rw [fx 42 (by decide), if_neg (by decide)]
    · rw [fx 47 (by decide), if_pos rfl]
    · rw [fx 48 (by decide), if_neg (by decide)]
    · rw [fx 73 (by decide), if_neg (by decide)]
    · rw [fx _ (by omega), if_neg (by omega)]
    · rw [fx _ (by omega), if_neg (by omega)]
    · rw [f9] at hr; exact absurd hr (Nat.not_lt_zero r)
    · rw [D3, f12, f13]
      refine ⟨fun s hs => ⟨fun _ => ⟨fun r hr => absurd hr (Nat.not_lt_zero r), ?_⟩, fun _ => by omega⟩, fun h hh => ⟨fun _ => ?_, fun _ => by omega⟩⟩
      · show 0 < 2 ^ s
        exact Nat.pos_of_ne_zero (by simp)
      · show 0 < 2 ^ h
        exact Nat.pos_of_ne_zero (by simp)
  refine ⟨⟨by omega, fun _ => ⟨g3, by omega, by omega⟩⟩, fun τ4 q4 => ?_⟩
  have t4 := q4.2 z20
  rw [z16, Int.toNat_natCast, g1, g2] at t4
  have F4 : mo_fr τ3 τ4 := t4.1
  have D4 : d_am τ4 = d_am τ3 := d_am_fr (F4.1 126 (by decide)) (fun j h1 h2 => F4.2 j (by omega))
  have N4 : dm τ4 := by
    refine ⟨by rw [D4]; exact N3.1, m_cn_fr N3.2.1 (F4.1 126 (by decide)) (F4.2 9 (by omega)), ?_⟩
    rw [D4, F4.2 12 (by omega), F4.2 13 (by omega)]
    exact N3.2.2
  refine (w_loop (n := 161) (P := fun k => ∀ (τ : w_M) (p : Nat), mo_h σ τ → m_cur T L p τ → k ≤ p → p ≤ L → dm τ → rd_R T L (161 - k) k p (d_am τ) = R → LModel_text_12 xs (d + 6) Q (k : Int) τ) ?_ ?_) τ4 0 (H3.tr F4.h) t4.cur (Nat.le_refl _) (Nat.zero_le _) N4 (by rw [D4, D3]; exact hR)
  · intro τ p F hc hkp hpL
    omega
  · intro k hk161 ih τ p F hc hkp hpL hd hr
    obtain ⟨g1', g2', g3'⟩ := tpT τ F.tp
    obtain ⟨n, hn⟩ : ∃ n, 161 - k = n + 1 := ⟨160 - k, by omega⟩
    rw [hn] at hr
    simp only [rd_R] at hr
    have hfl := tk_f_le (T := T) hpL
    by_cases k4 : tk_k T L p = 4
    · obtain ⟨c1, c2⟩ := hc.2.2.1 k4
      rw [if_neg (by omega), if_pos k4] at hr
      rw [← hr] at done_f
      exact bModel_text_12 ⟨fun _ => done_f _ τ F (show (0 : Int) < 1 by decide) c1 c2, fun h => by omega⟩
    · obtain ⟨c1, c2⟩ := hc.2.2.2.1 k4
      refine bModel_text_12 ⟨fun h => absurd c1 h, fun _ => ⟨fun c3 => ?_, fun c3 => ?_⟩⟩
      · have k0 : tk_k T L p = 0 := by rw [← c2]; exact c3
        rw [if_pos k0] at hr
        have hbad := bad_m hd
        have eL : tk_f T L p = L := by
          unfold tk_k at k0
          by_cases e : L ≤ tk_f T L p
          · omega
          · rw [if_neg e] at k0
            repeat' split at k0
            all_goals omega
        have bad : d_bad (d_am τ) → ∀ τ4, q_Model_needs 0 6 τ τ4 → ∀ τ5, τ5 = w_up τ4 122 15 0 → (τ5 122 20 ≤ 0 → p_Model_keepDraft τ5 ∧ ∀ τ2, q_Model_keepDraft τ5 τ2 → Q (some (.inl (k : Int))) τ2) ∧ (0 < τ5 122 20 → w_in (-10 - τ5 122 21) ∧ Q (some (.inl (-10 - τ5 122 21))) τ5) := fun hb τ4 q4 => by
          rw [if_pos hb] at hr
          obtain ⟨n1, n2, n3, n4⟩ := need_n q4 rfl c1
          rw [← hr] at done_f
          exact done_f _ τ4 (F.tr n3.h) (show (0 : Int) < 6 by decide) n1 (by rw [n2, hc.1, eL])
        refine ⟨fun c4 => bad (hbad.mpr (fun q => by omega)), fun c4 => ⟨fun c5 => bad (hbad.mpr (fun q => by omega)), fun c5 τ12 q12 => ?_⟩⟩
        have hb : ¬ d_bad (d_am τ) := fun q => hbad.mp q ⟨c4, c5⟩
        rw [if_neg hb] at hr
        rw [← hr] at done_k
        rw [need_y q12]
        exact done_k _ τ F rfl c1 hd rfl rfl
      · have hk0 : ¬ tk_k T L p = 0 := by rw [← c2]; exact c3
        rw [if_neg hk0, if_neg k4] at hr
        have hb := tk_b_le (T := T) (L := L) (p := p) (tk_k0 hk0)
        have hat : m_at T L p τ := ⟨⟨g1', g2', g3'⟩, hpL, hc⟩
        refine ⟨⟨c1, ⟨p, by rw [g1', g2']; exact hat, by rw [g1', g2']; exact hk0⟩, hd⟩, fun τ18 q18 => ⟨⟨by omega, by omega⟩, ?_⟩⟩
        unfold q_Model_readLine at q18
        rw [g1', g2'] at q18
        obtain ⟨F18, q⟩ := q18
        obtain ⟨r1, r2⟩ := q p hat hk0
        have F18' : mo_h σ τ18 := F.tr F18
        have stop : 0 < R.1.1 → τ18 122 20 = R.1.1 → τ18 122 21 = ((R.1.2 : Nat) : Int) → LModel_text_12 xs (d + 6) Q ((k : Int) + 1) τ18 := fun h1 h2 h4 => bModel_text_12 ⟨fun _ => done_f _ τ18 F18' h1 h2 h4, fun h => by omega⟩
        by_cases hno : ¬ tk_k T L p = 1 ∨ ln_n T L (tk_f T L p) (tk_b T L p) = -1
        · rw [if_pos hno] at hr
          rw [← hr] at stop
          exact stop (show (0 : Int) < 2 by decide) (r1 hno).1 (r1 hno).2
        · rw [if_neg hno] at hr
          have k1 : tk_k T L p = 1 := Classical.byContradiction (fun z => hno (Or.inl z))
          have kn : ¬ ln_n T L (tk_f T L p) (tk_b T L p) = -1 := fun z => hno (Or.inr z)
          obtain ⟨r3, r4⟩ := r2 k1 kn
          by_cases kf : (ln_f T L (d_am τ) (ln_n T L (tk_f T L p) (tk_b T L p)).toNat (tk_f T L p) (tk_b T L p)).1 = 0
          · rw [if_neg (fun q => q kf)] at hr
            obtain ⟨o1, o2, o3⟩ := r4 kf
            have adv := ln_adv hpL hk0 kf
            rw [← w_cs1]
            refine ih τ18 _ F18' o1 (by omega) adv.2 o3 ?_
            rw [show 161 - (k + 1) = n by omega, o2]
            exact hr
          · rw [if_pos kf] at hr
            have hnn := ln_f_nn (T := T) (L := L) (D := d_am τ) (k := (ln_n T L (tk_f T L p) (tk_b T L p)).toNat) (f := tk_f T L p) (b := tk_b T L p)
            rw [← hr] at stop
            exact stop (by show 0 < (ln_f T L (d_am τ) (ln_n T L (tk_f T L p) (tk_b T L p)).toNat (tk_f T L p) (tk_b T L p)).1; omega) (r3 kf).1 (r3 kf).2
