/-! The reference's calls: the text, what is told, what is changed, hours -/
theorem MI.ta {σ : w_M} (h : MI σ) : 0 ≤ σ 122 15 ∧ σ 122 15 ≤ 160 := h.2.2.2.1.1
theorem m_q3 {σ σ' : w_M} {T : w_M} {F x : Int} (hM : MI σ) (h122 : ∀ j, j = 3 ∨ j = 4 ∨ j = 5 → σ' 122 j = σ 122 j) (h : ∀ b, b = 123 ∨ b = 125 ∨ b = 130 ∨ b = 131 ∨ b = 132 → σ' b = σ b) (hl : ∀ b, b < 122 → σ' b = σ b) (h27 : σ' 122 27 = σ 122 27) (hT : t_am σ' = T) (hW : taWF T) (hx : x = F) : m_q F (w_sp (mS σ) 3 T) σ x σ' := by
  have e : mS σ' = w_sp (mS σ) 3 T := by rw [mS_part3 hM h122 h, hT]
  exact ⟨hx, by unfold MI; rw [e]; exact sWF_3 hM hW, e, hl, h27⟩
noncomputable def p_Model_feed (_x1 : Int) (σ : w_M) : Prop := MI σ
noncomputable def q_Model_feed (x1 : Int) (σ : w_M) (x : Int) (σ' : w_M) : Prop := m_q (F_feed (mS σ) x1) (G_feed (mS σ) x1) σ x σ'
theorem fModel_feed_0 : w_fe am_c156 0 1 (.iload 1) := ⟨rfl, rfl⟩
theorem fModel_feed_1 : w_fe am_c156 1 2 (.i2l) := ⟨rfl, rfl⟩
theorem fModel_feed_2 : w_fe am_c156 2 3 (.sipush 0) := ⟨rfl, rfl⟩
theorem fModel_feed_3 : w_fe am_c156 3 4 (.sipush 127) := ⟨rfl, rfl⟩
theorem fModel_feed_4 : w_fe am_c156 4 5 (.invokestatic 157) := ⟨rfl, rfl⟩
theorem fModel_feed_5 : w_if am_c156 5 6 .ne 8 := ⟨rfl, rfl⟩
theorem fModel_feed_6 : w_fe am_c156 6 7 (.bipush (-1)) := ⟨rfl, rfl⟩
theorem fModel_feed_7 : w_fe am_c156 7 8 (.ireturn) := ⟨rfl, rfl⟩
theorem fModel_feed_8 : w_fe am_c156 8 9 (.aload 0) := ⟨rfl, rfl⟩
theorem fModel_feed_9 : w_fe am_c156 9 10 (.getfield 915) := ⟨rfl, rfl⟩
theorem fModel_feed_10 : w_fe am_c156 10 11 (.bipush 160) := ⟨rfl, rfl⟩
theorem fModel_feed_11 : w_ic am_c156 11 12 .ne 14 := ⟨rfl, rfl⟩
theorem fModel_feed_12 : w_fe am_c156 12 13 (.bipush (-3)) := ⟨rfl, rfl⟩
theorem fModel_feed_13 : w_fe am_c156 13 14 (.ireturn) := ⟨rfl, rfl⟩
theorem fModel_feed_14 : w_fe am_c156 14 15 (.aload 0) := ⟨rfl, rfl⟩
theorem fModel_feed_15 : w_fe am_c156 15 16 (.getfield 914) := ⟨rfl, rfl⟩
theorem fModel_feed_16 : w_fe am_c156 16 17 (.aload 0) := ⟨rfl, rfl⟩
theorem fModel_feed_17 : w_fe am_c156 17 18 (.getfield 915) := ⟨rfl, rfl⟩
theorem fModel_feed_18 : w_fe am_c156 18 19 (.iload 1) := ⟨rfl, rfl⟩
theorem fModel_feed_19 : w_fe am_c156 19 20 (.iastore) := ⟨rfl, rfl⟩
theorem fModel_feed_20 : w_fe am_c156 20 21 (.aload 0) := ⟨rfl, rfl⟩
theorem fModel_feed_21 : w_fe am_c156 21 22 (.dup) := ⟨rfl, rfl⟩
theorem fModel_feed_22 : w_fe am_c156 22 23 (.getfield 915) := ⟨rfl, rfl⟩
theorem fModel_feed_23 : w_fe am_c156 23 24 (.bipush 1) := ⟨rfl, rfl⟩
theorem fModel_feed_24 : w_fe am_c156 24 25 (.iadd) := ⟨rfl, rfl⟩
theorem fModel_feed_25 : w_fe am_c156 25 26 (.putfield 915) := ⟨rfl, rfl⟩
theorem fModel_feed_26 : w_fe am_c156 26 27 (.aload 0) := ⟨rfl, rfl⟩
theorem fModel_feed_27 : w_fe am_c156 27 28 (.getfield 915) := ⟨rfl, rfl⟩
theorem fModel_feed_28 : w_fe am_c156 28 29 (.ireturn) := ⟨rfl, rfl⟩
set_option maxRecDepth 20000 in
theorem bModel_feed_0 {xs : List Int} {d : Nat} {Q : Option w_V → w_M → Prop} {x1 : Int} {σ : w_M}
    (h : ((0 ≤ x1 ∧ x1 ≤ 127) → ((¬ (σ 122 15) = 160 → (0 ≤ (σ 122 15) ∧ (σ 122 15) < 160 ∧ (∀ (τ1 : w_M), τ1 = w_up σ 127 (σ 122 15).toNat x1 → (w_in ((τ1 122 15) + 1) ∧ (∀ (τ2 : w_M), τ2 = w_up τ1 122 15 ((τ1 122 15) + 1) → Q (some (.inl (τ2 122 15))) τ2))))) ∧ ((σ 122 15) = 160 → Q (some (.inl (-3))) σ))) ∧ (¬ (0 ≤ x1 ∧ x1 ≤ 127) → Q (some (.inl (-1))) σ)) : w_Call (xs, (d + 1)) 156 [.inr (.inr (9, 122)), .inl x1] σ Q :=
  (w_mk (mid := 156) (by decide) rfl rfl rfl rfl rfl (Nat.le_of_ble_eq_true rfl) ⟨rfl, Or.inl (by decide)⟩ (wi_iload1 fModel_feed_0 (wi_i2l fModel_feed_1 (wi_sipush fModel_feed_2 (wi_sipush fModel_feed_3 (wi_call3 fModel_feed_4 (Nat.le_of_ble_eq_true rfl) (k_Model_in (wi_ifb_ne fModel_feed_5 (fun c4 => (wi_aload0 fModel_feed_8 (wi_getf915 fModel_feed_9 (wi_bipush fModel_feed_10 (wi_ic_ne fModel_feed_11 (fun c3 => (wi_aload0 fModel_feed_14 (wi_getf914 fModel_feed_15 (wi_aload0 fModel_feed_16 (wi_getf915 fModel_feed_17 (wi_iload1 fModel_feed_18 (wi_iast1160 fModel_feed_19 ((h.1 c4).1 c3).1 ((h.1 c4).1 c3).2.1 (wi_aload0 fModel_feed_20 (wi_dup_a fModel_feed_21 (wi_getf915 fModel_feed_22 (wi_bipush fModel_feed_23 (wi_iadd fModel_feed_24 (((h.1 c4).1 c3).2.2 _ rfl).1 (wi_putf915 fModel_feed_25 (wi_aload0 fModel_feed_26 (wi_getf915 fModel_feed_27 (wi_ret1 fModel_feed_28 ((((h.1 c4).1 c3).2.2 _ rfl).2 _ rfl))))))))))))))))) (fun c3 => (wi_bipush fModel_feed_12 (wi_ret1 fModel_feed_13 ((h.1 c4).2 c3))))))))) (fun c4 => (wi_bipush fModel_feed_6 (wi_ret1 fModel_feed_7 (h.2 c4))))))))))))
theorem k_Model_feed {xs : List Int} {d : Nat} {Q : Option w_V → w_M → Prop} {x1 : Int} {σ : w_M} (hp : p_Model_feed x1 σ) (hQ : ∀ (x : Int) (σ' : w_M), q_Model_feed x1 σ x σ' → Q (some (.inl x)) σ') : w_Call (xs, d + 1) 156 [.inr (.inr (9, 122)), .inl x1] σ Q := by
  have hM : MI σ := hp
  have hl := hM.ta
  unfold q_Model_feed F_feed G_feed at hQ
  have el : mS σ 3 0 0 = σ 122 15 := rfl
  rw [el] at hQ
  refine bModel_feed_0 ⟨fun c => ⟨fun c2 => ⟨by omega, by omega, fun τ1 t1 => ?_⟩, fun c2 => ?_⟩, fun c => ?_⟩
  · have z1 : τ1 122 = σ 122 := by rw [t1]; exact w_up_ne (by decide)
    rw [z1]
    refine ⟨⟨by omega, by omega⟩, fun τ t => ?_⟩
    have c3 : σ 122 15 < 160 := by omega
    rw [if_pos c, if_pos c3, if_pos ⟨c, c3⟩] at hQ
    refine hQ _ _ (m_q3 hM (fun j hj => ?_) (fun b hb => ?_) (fun b hb => ?_) (by rw [t, w_up_j (by decide), z1]) ?_ (ta_up hM.2.2.2.1 c c3) ?_)
    · rw [t, w_up_j (by omega), z1]
    · rw [t, w_up_ne (by omega), t1, w_up_ne (by omega)]
    · rw [t, w_up_ne (by omega), t1, w_up_ne (by omega)]
    · have e1 : τ 122 15 = σ 122 15 + 1 := by rw [t]; exact w_up_at
      have e20 : τ 122 20 = σ 122 20 := by rw [t, w_up_j (by decide), z1]
      have e2 : τ 127 = w_up σ 127 (σ 122 15).toNat x1 127 := by rw [t, w_up_ne (by decide), t1]
      funext d i
      by_cases hd0 : d = 0
      · subst hd0
        by_cases hi : i = 0
        · subst hi
          show τ 122 15 = _
          rw [e1]
          exact w_up_at.symm
        · show (if i = 0 then τ 122 15 else if i = 1 then τ 122 20 else 0) = w_up _ 0 0 _ 0 i
          rw [if_neg hi, e20, w_up_j hi, w_up_ne (by decide)]
          show _ = (if i = 0 then σ 122 15 else if i = 1 then σ 122 20 else 0)
          rw [if_neg hi]
      · rw [w_up_ne (show d ≠ 0 from hd0)]
        by_cases hd1 : d = 1
        · subst hd1
          show (if i < (τ 122 15).toNat then τ 127 i else 0) = _
          rw [e1, e2, w_up_eq, w_up_eq]
          show _ = if 1 = 1 ∧ i = (σ 122 15).toNat then x1 else if i < (σ 122 15).toNat then σ 127 i else 0
          by_cases hi : i = (σ 122 15).toNat
          · rw [if_pos (by omega), if_pos ⟨rfl, hi⟩, if_pos ⟨rfl, hi⟩]
          · rw [if_neg (show ¬ (127 = 127 ∧ i = (σ 122 15).toNat) from fun e => hi e.2), if_neg (show ¬ (1 = 1 ∧ i = (σ 122 15).toNat) from fun e => hi e.2)]
            by_cases hlt : i < (σ 122 15).toNat
            · rw [if_pos (by omega), if_pos hlt]
            · rw [if_neg (by omega), if_neg hlt]
        · rw [w_up_ne (show d ≠ 1 from hd1)]
          show (if d = 0 then _ else if d = 1 then _ else 0) = (if d = 0 then _ else if d = 1 then _ else 0)
          rw [if_neg hd0, if_neg hd1, if_neg hd0, if_neg hd1]
    · rw [t]; exact w_up_at
  · rw [if_pos c, if_neg (by omega), if_neg (by omega)] at hQ
    exact hQ _ _ (m_qr hM rfl)
  · rw [if_neg c, if_neg (fun q => c q.1)] at hQ
    exact hQ _ _ (m_qr hM rfl)
noncomputable def p_Model_end (_x1 : Int) (σ : w_M) : Prop := MI σ
noncomputable def q_Model_end (x1 : Int) (σ : w_M) (x : Int) (σ' : w_M) : Prop := m_q (F_end (mS σ) x1) (G_end (mS σ) x1) σ x σ'
theorem fModel_end_0 : w_fe am_c158 0 1 (.iload 1) := ⟨rfl, rfl⟩
theorem fModel_end_1 : w_fe am_c158 1 2 (.i2l) := ⟨rfl, rfl⟩
theorem fModel_end_2 : w_fe am_c158 2 3 (.sipush 0) := ⟨rfl, rfl⟩
theorem fModel_end_3 : w_fe am_c158 3 4 (.aload 0) := ⟨rfl, rfl⟩
theorem fModel_end_4 : w_fe am_c158 4 5 (.getfield 915) := ⟨rfl, rfl⟩
theorem fModel_end_5 : w_fe am_c158 5 6 (.i2l) := ⟨rfl, rfl⟩
theorem fModel_end_6 : w_fe am_c158 6 7 (.invokestatic 157) := ⟨rfl, rfl⟩
theorem fModel_end_7 : w_if am_c158 7 8 .ne 10 := ⟨rfl, rfl⟩
theorem fModel_end_8 : w_fe am_c158 8 9 (.bipush (-1)) := ⟨rfl, rfl⟩
theorem fModel_end_9 : w_fe am_c158 9 10 (.ireturn) := ⟨rfl, rfl⟩
theorem fModel_end_10 : w_fe am_c158 10 11 (.aload 0) := ⟨rfl, rfl⟩
theorem fModel_end_11 : w_fe am_c158 11 12 (.getfield 915) := ⟨rfl, rfl⟩
theorem fModel_end_12 : w_fe am_c158 12 13 (.istore 2) := ⟨rfl, rfl⟩
theorem fModel_end_13 : w_fe am_c158 13 14 (.aload 0) := ⟨rfl, rfl⟩
theorem fModel_end_14 : w_fe am_c158 14 15 (.iload 1) := ⟨rfl, rfl⟩
theorem fModel_end_15 : w_fe am_c158 15 16 (.putfield 915) := ⟨rfl, rfl⟩
theorem fModel_end_16 : w_fe am_c158 16 17 (.iload 2) := ⟨rfl, rfl⟩
theorem fModel_end_17 : w_fe am_c158 17 18 (.ireturn) := ⟨rfl, rfl⟩
set_option maxRecDepth 20000 in
theorem bModel_end_0 {xs : List Int} {d : Nat} {Q : Option w_V → w_M → Prop} {x1 : Int} {σ : w_M}
    (h : ((0 ≤ x1 ∧ x1 ≤ (σ 122 15)) → ∀ (y1 : Int), y1 = (σ 122 15) → ∀ (τ2 : w_M), τ2 = w_up σ 122 15 x1 → Q (some (.inl y1)) τ2) ∧ (¬ (0 ≤ x1 ∧ x1 ≤ (σ 122 15)) → Q (some (.inl (-1))) σ)) : w_Call (xs, (d + 1)) 158 [.inr (.inr (9, 122)), .inl x1] σ Q :=
  (w_mk (mid := 158) (by decide) rfl rfl rfl rfl rfl (Nat.le_of_ble_eq_true rfl) ⟨rfl, Or.inl (by decide)⟩ (wi_iload1 fModel_end_0 (wi_i2l fModel_end_1 (wi_sipush fModel_end_2 (wi_aload0 fModel_end_3 (wi_getf915 fModel_end_4 (wi_i2l fModel_end_5 (wi_call3 fModel_end_6 (Nat.le_of_ble_eq_true rfl) (k_Model_in (wi_ifb_ne fModel_end_7 (fun c3 => (wi_aload0 fModel_end_10 (wi_getf915 fModel_end_11 (wi_istore2 fModel_end_12 trivial (wi_aload0 fModel_end_13 (wi_iload1 fModel_end_14 (wi_putf915 fModel_end_15 (wi_iload2 fModel_end_16 (wi_ret1 fModel_end_17 (((h.1 c3) _ rfl) _ rfl)))))))))) (fun c3 => (wi_bipush fModel_end_8 (wi_ret1 fModel_end_9 (h.2 c3))))))))))))))
theorem k_Model_end {xs : List Int} {d : Nat} {Q : Option w_V → w_M → Prop} {x1 : Int} {σ : w_M} (hp : p_Model_end x1 σ) (hQ : ∀ (x : Int) (σ' : w_M), q_Model_end x1 σ x σ' → Q (some (.inl x)) σ') : w_Call (xs, d + 1) 158 [.inr (.inr (9, 122)), .inl x1] σ Q := by
  have hM : MI σ := hp
  have hl := hM.ta
  unfold q_Model_end F_end G_end at hQ
  have el : mS σ 3 0 0 = σ 122 15 := rfl
  rw [el] at hQ
  refine bModel_end_0 ⟨fun c y e τ t => ?_, fun c => ?_⟩
  · rw [if_pos c, if_pos c] at hQ
    refine hQ _ _ (m_q3 hM (fun j hj => by rw [t, w_up_j (by omega)]) (fun b hb => by rw [t, w_up_ne (by omega)]) (fun b hb => by rw [t, w_up_ne (by omega)]) (by rw [t, w_up_j (by decide)]) ?_ (t_cut_WF hM.2.2.2.1 c) e)
    have e1 : τ 122 15 = x1 := by rw [t]; exact w_up_at
    have e20 : τ 122 20 = σ 122 20 := by rw [t, w_up_j (by decide)]
    have e2 : τ 127 = σ 127 := by rw [t, w_up_ne (by decide)]
    funext d i
    unfold t_am t_cut
    rw [e1, e20, e2]
    by_cases hd1 : d = 1
    · subst hd1
      show (if i < x1.toNat then σ 127 i else 0) = if i < x1.toNat then (if i < (σ 122 15).toNat then σ 127 i else 0) else 0
      by_cases hi : i < x1.toNat
      · rw [if_pos hi, if_pos hi, if_pos (by omega)]
      · rw [if_neg hi, if_neg hi]
    · rw [if_neg hd1, if_neg hd1]
      by_cases hd0 : d = 0
      · subst hd0
        by_cases hi : i = 0
        · subst hi; rfl
        · rw [if_pos rfl, if_neg hi, if_neg (show ¬ ((0 : Nat) = 0 ∧ i = 0) from fun q => hi q.2)]
          show _ = (if i = 0 then σ 122 15 else if i = 1 then σ 122 20 else 0)
          rw [if_neg hi]
      · rw [if_neg hd0, if_neg (fun q => hd0 q.1)]
        show 0 = if d = 0 then _ else if d = 1 then _ else 0
        rw [if_neg hd0, if_neg hd1]
  · rw [if_neg c, if_neg c] at hQ
    exact hQ _ _ (m_qr hM rfl)
noncomputable def p_Model_fault  (σ : w_M) : Prop := MI σ
noncomputable def q_Model_fault  (σ : w_M) (x : Int) (σ' : w_M) : Prop := m_q (F_fault (mS σ)) (mS σ) σ x σ'
noncomputable def p_Model_torn (_ : w_M) : Prop := True
noncomputable def q_Model_torn (σ : w_M) (x : Int) (σ' : w_M) : Prop := x = σ 122 27 ∧ σ' = σ
theorem fModel_fault_0 : w_fe am_c172 0 1 (.aload 0) := ⟨rfl, rfl⟩
theorem fModel_fault_1 : w_fe am_c172 1 2 (.getfield 920) := ⟨rfl, rfl⟩
theorem fModel_fault_2 : w_fe am_c172 2 3 (.ireturn) := ⟨rfl, rfl⟩
set_option maxRecDepth 20000 in
theorem bModel_fault_0 {xs : List Int} {d : Nat} {Q : Option w_V → w_M → Prop}  {σ : w_M}
    (h : Q (some (.inl (σ 122 20))) σ) : w_Call (xs, d) 172 [.inr (.inr (9, 122))] σ Q :=
  (w_mk (mid := 172) (by decide) rfl rfl rfl rfl rfl (Nat.le_of_ble_eq_true rfl) ⟨rfl, Or.inl (by decide)⟩ (wi_aload0 fModel_fault_0 (wi_getf920 fModel_fault_1 (wi_ret1 fModel_fault_2 h))))
theorem fModel_torn_0 : w_fe am_c237 0 1 (.aload 0) := ⟨rfl, rfl⟩
theorem fModel_torn_1 : w_fe am_c237 1 2 (.getfield 927) := ⟨rfl, rfl⟩
theorem fModel_torn_2 : w_fe am_c237 2 3 (.ireturn) := ⟨rfl, rfl⟩
set_option maxRecDepth 20000 in
theorem bModel_torn_0 {xs : List Int} {d : Nat} {Q : Option w_V → w_M → Prop}  {σ : w_M}
    (h : Q (some (.inl (σ 122 27))) σ) : w_Call (xs, d) 237 [.inr (.inr (9, 122))] σ Q :=
  (w_mk (mid := 237) (by decide) rfl rfl rfl rfl rfl (Nat.le_of_ble_eq_true rfl) ⟨rfl, Or.inl (by decide)⟩ (wi_aload0 fModel_torn_0 (wi_getf927 fModel_torn_1 (wi_ret1 fModel_torn_2 h))))
theorem k_Model_fault {xs : List Int} {d : Nat} {Q : Option w_V → w_M → Prop}  {σ : w_M} (hp : p_Model_fault σ) (hQ : ∀ (x : Int) (σ' : w_M), q_Model_fault σ x σ' → Q (some (.inl x)) σ') : w_Call (xs, d) 172 [.inr (.inr (9, 122))] σ Q := bModel_fault_0 (hQ _ _ (m_qr hp rfl))
theorem k_Model_torn {xs : List Int} {d : Nat} {Q : Option w_V → w_M → Prop}  {σ : w_M} (hp : p_Model_torn σ) (hQ : ∀ (x : Int) (σ' : w_M), q_Model_torn σ x σ' → Q (some (.inl x)) σ') : w_Call (xs, d) 237 [.inr (.inr (9, 122))] σ Q := bModel_torn_0 (hQ _ _ ⟨rfl, rfl⟩)
noncomputable def p_Model_rule (_x1 : Int) (σ : w_M) : Prop := MI σ
noncomputable def q_Model_rule (x1 : Int) (σ : w_M) (x : Int) (σ' : w_M) : Prop := m_q (F_rule (mS σ) x1) (mS σ) σ x σ'
theorem fModel_rule_0 : w_fe am_c173 0 1 (.aload 0) := ⟨rfl, rfl⟩
theorem fModel_rule_1 : w_fe am_c173 1 2 (.invokestatic 174) := ⟨rfl, rfl⟩
theorem fModel_rule_2 : w_fe am_c173 2 3 (.iload 1) := ⟨rfl, rfl⟩
theorem fModel_rule_3 {E : w_C} {rt : Nat} {Q : Option w_V → w_M → Prop} {ls : w_L} {st : List w_V} {σ : w_M} {x : Int} (h0 : x = 0 → w_Ex E rt am_c173 Q 4 ls st σ) (h1 : x = 1 → w_Ex E rt am_c173 Q 7 ls st σ) (h2 : x = 2 → w_Ex E rt am_c173 Q 12 ls st σ) (h3 : x = 3 → w_Ex E rt am_c173 Q 17 ls st σ) (h4 : x = 4 → w_Ex E rt am_c173 Q 20 ls st σ) (h5 : x = 5 → w_Ex E rt am_c173 Q 23 ls st σ) (h6 : x = 6 → w_Ex E rt am_c173 Q 28 ls st σ) (hd : x < 0 ∨ 6 < x → w_Ex E rt am_c173 Q 31 ls st σ) : w_Ex E rt am_c173 Q 3 ls (.inl x :: st) σ :=
  w_Ex_in (op := .tableswitch 31 0 6 #[4, 7, 12, 17, 20, 23, 28]) rfl ⟨rfl, hd, And.intro h0 (And.intro h1 (And.intro h2 (And.intro h3 (And.intro h4 (And.intro h5 (And.intro h6 ( trivial)))))))⟩
theorem fModel_rule_4 : w_fe am_c173 4 5 (.aload 0) := ⟨rfl, rfl⟩
theorem fModel_rule_5 : w_fe am_c173 5 6 (.getfield 903) := ⟨rfl, rfl⟩
theorem fModel_rule_6 : w_fe am_c173 6 7 (.ireturn) := ⟨rfl, rfl⟩
theorem fModel_rule_7 : w_fe am_c173 7 8 (.aload 0) := ⟨rfl, rfl⟩
theorem fModel_rule_8 : w_fe am_c173 8 9 (.getfield 900) := ⟨rfl, rfl⟩
theorem fModel_rule_9 : w_fe am_c173 9 10 (.bipush 42) := ⟨rfl, rfl⟩
theorem fModel_rule_10 : w_fe am_c173 10 11 (.iaload) := ⟨rfl, rfl⟩
theorem fModel_rule_11 : w_fe am_c173 11 12 (.ireturn) := ⟨rfl, rfl⟩
theorem fModel_rule_12 : w_fe am_c173 12 13 (.aload 0) := ⟨rfl, rfl⟩
theorem fModel_rule_13 : w_fe am_c173 13 14 (.getfield 900) := ⟨rfl, rfl⟩
theorem fModel_rule_14 : w_fe am_c173 14 15 (.bipush 41) := ⟨rfl, rfl⟩
theorem fModel_rule_15 : w_fe am_c173 15 16 (.iaload) := ⟨rfl, rfl⟩
theorem fModel_rule_16 : w_fe am_c173 16 17 (.ireturn) := ⟨rfl, rfl⟩
theorem fModel_rule_17 : w_fe am_c173 17 18 (.aload 0) := ⟨rfl, rfl⟩
theorem fModel_rule_18 : w_fe am_c173 18 19 (.getfield 904) := ⟨rfl, rfl⟩
theorem fModel_rule_19 : w_fe am_c173 19 20 (.ireturn) := ⟨rfl, rfl⟩
theorem fModel_rule_20 : w_fe am_c173 20 21 (.aload 0) := ⟨rfl, rfl⟩
theorem fModel_rule_21 : w_fe am_c173 21 22 (.getfield 905) := ⟨rfl, rfl⟩
theorem fModel_rule_22 : w_fe am_c173 22 23 (.ireturn) := ⟨rfl, rfl⟩
theorem fModel_rule_23 : w_fe am_c173 23 24 (.aload 0) := ⟨rfl, rfl⟩
theorem fModel_rule_24 : w_fe am_c173 24 25 (.getfield 900) := ⟨rfl, rfl⟩
theorem fModel_rule_25 : w_fe am_c173 25 26 (.bipush 47) := ⟨rfl, rfl⟩
theorem fModel_rule_26 : w_fe am_c173 26 27 (.iaload) := ⟨rfl, rfl⟩
theorem fModel_rule_27 : w_fe am_c173 27 28 (.ireturn) := ⟨rfl, rfl⟩
theorem fModel_rule_28 : w_fe am_c173 28 29 (.aload 0) := ⟨rfl, rfl⟩
theorem fModel_rule_29 : w_fe am_c173 29 30 (.invokestatic 175) := ⟨rfl, rfl⟩
theorem fModel_rule_30 : w_fe am_c173 30 31 (.ireturn) := ⟨rfl, rfl⟩
theorem fModel_rule_31 : w_fe am_c173 31 32 (.bipush (-1)) := ⟨rfl, rfl⟩
theorem fModel_rule_32 : w_fe am_c173 32 33 (.ireturn) := ⟨rfl, rfl⟩
set_option maxRecDepth 20000 in
theorem bModel_rule_0 {xs : List Int} {d : Nat} {Q : Option w_V → w_M → Prop} {x1 : Int} {σ : w_M}
    (h : p_Model_starts σ ∧ (∀ (τ1 : w_M), q_Model_starts σ τ1 → ((x1 = 0 → Q (some (.inl (τ1 122 3))) τ1) ∧ (x1 = 1 → Q (some (.inl (τ1 123 42))) τ1) ∧ (x1 = 2 → Q (some (.inl (τ1 123 41))) τ1) ∧ (x1 = 3 → Q (some (.inl (τ1 122 4))) τ1) ∧ (x1 = 4 → Q (some (.inl (τ1 122 5))) τ1) ∧ (x1 = 5 → Q (some (.inl (τ1 123 47))) τ1) ∧ (x1 = 6 → (p_Model_standing τ1 ∧ (∀ (y2 : Int), y2 = v_Model_standing τ1 → Q (some (.inl y2)) τ1))) ∧ (x1 < 0 ∨ 6 < x1 → Q (some (.inl (-1))) τ1)))) : w_Call (xs, (d + 1)) 173 [.inr (.inr (9, 122)), .inl x1] σ Q :=
  (w_mk (mid := 173) (by decide) rfl rfl rfl rfl rfl (Nat.le_of_ble_eq_true rfl) ⟨rfl, Or.inl (by decide)⟩ (wi_aload0 fModel_rule_0 (wi_call1 fModel_rule_1 (Nat.le_of_ble_eq_true rfl) (k_Model_starts h.1 (fun τ1 eτ1 => (wi_iload1 fModel_rule_2 (fModel_rule_3 (fun c => (wi_aload0 fModel_rule_4 (wi_getf903 fModel_rule_5 (wi_ret1 fModel_rule_6 ((h.2 τ1 eτ1).1 c))))) (fun c => (wi_aload0 fModel_rule_7 (wi_getf900 fModel_rule_8 (wi_bipush fModel_rule_9 (wi_iald1246 fModel_rule_10 (by decide) (by decide) (wi_ret1 fModel_rule_11 ((h.2 τ1 eτ1).2.1 c))))))) (fun c => (wi_aload0 fModel_rule_12 (wi_getf900 fModel_rule_13 (wi_bipush fModel_rule_14 (wi_iald1246 fModel_rule_15 (by decide) (by decide) (wi_ret1 fModel_rule_16 ((h.2 τ1 eτ1).2.2.1 c))))))) (fun c => (wi_aload0 fModel_rule_17 (wi_getf904 fModel_rule_18 (wi_ret1 fModel_rule_19 ((h.2 τ1 eτ1).2.2.2.1 c))))) (fun c => (wi_aload0 fModel_rule_20 (wi_getf905 fModel_rule_21 (wi_ret1 fModel_rule_22 ((h.2 τ1 eτ1).2.2.2.2.1 c))))) (fun c => (wi_aload0 fModel_rule_23 (wi_getf900 fModel_rule_24 (wi_bipush fModel_rule_25 (wi_iald1246 fModel_rule_26 (by decide) (by decide) (wi_ret1 fModel_rule_27 ((h.2 τ1 eτ1).2.2.2.2.2.1 c))))))) (fun c => (wi_aload0 fModel_rule_28 (wi_call1 fModel_rule_29 (Nat.le_of_ble_eq_true rfl) (k_Model_standing ((h.2 τ1 eτ1).2.2.2.2.2.2.1 c).1 (wi_ret1 fModel_rule_30 (((h.2 τ1 eτ1).2.2.2.2.2.2.1 c).2 _ rfl)))))) (fun c => (wi_bipush fModel_rule_31 (wi_ret1 fModel_rule_32 ((h.2 τ1 eτ1).2.2.2.2.2.2.2 c)))))))))))
theorem k_Model_rule {xs : List Int} {d : Nat} {Q : Option w_V → w_M → Prop} {x1 : Int} {σ : w_M} (hp : p_Model_rule x1 σ) (hQ : ∀ (x : Int) (σ' : w_M), q_Model_rule x1 σ x σ' → Q (some (.inl x)) σ') : w_Call (xs, d + 1) 173 [.inr (.inr (9, 122)), .inl x1] σ Q := by
  have hM : MI σ := hp
  unfold q_Model_rule F_rule at hQ
  refine bModel_rule_0 ⟨hM.sm, fun τ hq => ?_⟩
  obtain ⟨q1, q2, q3⟩ := hq
  have z2 : τ 122 = σ 122 := q2 122 (by decide)
  have z3 : τ 123 = σ 123 := q2 123 (by decide)
  rw [z2, z3]
  refine ⟨fun c => ?_, fun c => ?_, fun c => ?_, fun c => ?_, fun c => ?_, fun c => ?_, fun c => ⟨by show n_WF _; rw [q1]; exact hM.ok, fun y e => ?_⟩, fun c => ?_⟩
  · rw [if_pos c] at hQ; exact hQ _ _ (m_qs hM q2 rfl)
  · rw [if_neg (by omega), if_pos c] at hQ; exact hQ _ _ (m_qs hM q2 rfl)
  · rw [if_neg (by omega), if_neg (by omega), if_pos c] at hQ; exact hQ _ _ (m_qs hM q2 rfl)
  · rw [if_neg (by omega), if_neg (by omega), if_neg (by omega), if_pos c] at hQ; exact hQ _ _ (m_qs hM q2 rfl)
  · rw [if_neg (by omega), if_neg (by omega), if_neg (by omega), if_neg (by omega), if_pos c] at hQ; exact hQ _ _ (m_qs hM q2 rfl)
  · rw [if_neg (by omega), if_neg (by omega), if_neg (by omega), if_neg (by omega), if_neg (by omega), if_pos c] at hQ; exact hQ _ _ (m_qs hM q2 rfl)
  · rw [if_neg (by omega), if_neg (by omega), if_neg (by omega), if_neg (by omega), if_neg (by omega), if_neg (by omega), if_pos c] at hQ
    refine hQ _ _ (m_qs hM q2 ?_)
    rw [e]
    unfold v_Model_standing
    rw [q1]
    rfl
  · rw [if_neg (by omega), if_neg (by omega), if_neg (by omega), if_neg (by omega), if_neg (by omega), if_neg (by omega), if_neg (by omega)] at hQ; exact hQ _ _ (m_qs hM q2 rfl)
theorem m_rdi {σ : w_M} {c d : Nat} {i : Int} {x : Nat} (h1 : 1 ≤ d) (h2 : d ≤ 2 ∨ d = 9) (hi : 0 ≤ i ∧ i < σ 122 4) (hx : x = m_ix d i.toNat) : σ c x = w_am σ c 0 d i.toNat := m_rd (by omega) (by
  rcases h2 with h2 | rfl
  · rw [m_rl12 h1 h2]; omega
  · rw [m_rl9]; omega) (by omega)
theorem m_rdr {σ : w_M} {c d : Nat} {r : Int} {x : Nat} (h1 : 3 ≤ d) (h2 : d ≤ 7) (hr : 0 ≤ r ∧ r < σ 122 5) (hx : x = m_ix d r.toNat) : σ c x = w_am σ c 0 d r.toNat := m_rd (by omega) (by rw [m_rl37 h1 h2]; omega) (by omega)
theorem w_bit_or : ∀ k, k < 7 → ∀ x, x < 2 ^ k → w_or (x : Nat) (w_shl 1 (k : Nat)) = ((x + 2 ^ k : Nat) : Int) ∧ w_or (x : Nat) (w_shl 0 (k : Nat)) = ((x : Nat) : Int) := by decide +kernel
theorem MI.s {σ : w_M} (h : MI σ) : 0 ≤ σ 122 4 ∧ σ 122 4 ≤ 7 := m_ok.s h.ok
theorem MI.n {σ : w_M} (h : MI σ) : 0 ≤ σ 122 5 ∧ σ 122 5 ≤ 4 := m_ok.n h.ok
noncomputable def p_Model_strip (_x1 : Int) (_x2 : Int) (σ : w_M) : Prop := MI σ
noncomputable def q_Model_strip (x1 : Int) (x2 : Int) (σ : w_M) (x : Int) (σ' : w_M) : Prop := m_q (F_strip (mS σ) x1 x2) (mS σ) σ x σ'
theorem fModel_strip_0 : w_fe am_c176 0 1 (.aload 0) := ⟨rfl, rfl⟩
theorem fModel_strip_1 : w_fe am_c176 1 2 (.iload 1) := ⟨rfl, rfl⟩
theorem fModel_strip_2 : w_fe am_c176 2 3 (.invokestatic 177) := ⟨rfl, rfl⟩
theorem fModel_strip_3 : w_if am_c176 3 4 .eq 10 := ⟨rfl, rfl⟩
theorem fModel_strip_4 : w_fe am_c176 4 5 (.iload 2) := ⟨rfl, rfl⟩
theorem fModel_strip_5 : w_fe am_c176 5 6 (.i2l) := ⟨rfl, rfl⟩
theorem fModel_strip_6 : w_fe am_c176 6 7 (.sipush 0) := ⟨rfl, rfl⟩
theorem fModel_strip_7 : w_fe am_c176 7 8 (.sipush 3) := ⟨rfl, rfl⟩
theorem fModel_strip_8 : w_fe am_c176 8 9 (.invokestatic 157) := ⟨rfl, rfl⟩
theorem fModel_strip_9 : w_if am_c176 9 10 .ne 12 := ⟨rfl, rfl⟩
theorem fModel_strip_10 : w_fe am_c176 10 11 (.bipush (-1)) := ⟨rfl, rfl⟩
theorem fModel_strip_11 : w_fe am_c176 11 12 (.ireturn) := ⟨rfl, rfl⟩
theorem fModel_strip_12 : w_fe am_c176 12 13 (.bipush 0) := ⟨rfl, rfl⟩
theorem fModel_strip_13 : w_fe am_c176 13 14 (.istore 3) := ⟨rfl, rfl⟩
theorem fModel_strip_14 : w_fe am_c176 14 15 (.aload 0) := ⟨rfl, rfl⟩
theorem fModel_strip_15 : w_fe am_c176 15 16 (.invokestatic 174) := ⟨rfl, rfl⟩
theorem fModel_strip_16 : w_fe am_c176 16 17 (.bipush 0) := ⟨rfl, rfl⟩
theorem fModel_strip_17 : w_fe am_c176 17 18 (.istore 4) := ⟨rfl, rfl⟩
theorem fModel_strip_18 : w_fe am_c176 18 19 (.iload 4) := ⟨rfl, rfl⟩
theorem fModel_strip_19 : w_fe am_c176 19 20 (.aload 0) := ⟨rfl, rfl⟩
theorem fModel_strip_20 : w_fe am_c176 20 21 (.getfield 905) := ⟨rfl, rfl⟩
theorem fModel_strip_21 : w_ic am_c176 21 22 .ge 39 := ⟨rfl, rfl⟩
theorem fModel_strip_22 : w_fe am_c176 22 23 (.iload 3) := ⟨rfl, rfl⟩
theorem fModel_strip_23 : w_fe am_c176 23 24 (.aload 0) := ⟨rfl, rfl⟩
theorem fModel_strip_24 : w_fe am_c176 24 25 (.iload 4) := ⟨rfl, rfl⟩
theorem fModel_strip_25 : w_fe am_c176 25 26 (.bipush 3) := ⟨rfl, rfl⟩
theorem fModel_strip_26 : w_fe am_c176 26 27 (.invokestatic 178) := ⟨rfl, rfl⟩
theorem fModel_strip_27 : w_fe am_c176 27 28 (.iload 1) := ⟨rfl, rfl⟩
theorem fModel_strip_28 : w_ic am_c176 28 29 .ne 31 := ⟨rfl, rfl⟩
theorem fModel_strip_29 : w_fe am_c176 29 30 (.bipush 1) := ⟨rfl, rfl⟩
theorem fModel_strip_30 : w_gt am_c176 30 32 := rfl
theorem fModel_strip_31 : w_fe am_c176 31 32 (.bipush 0) := ⟨rfl, rfl⟩
theorem fModel_strip_32 : w_fe am_c176 32 33 (.invokestatic 179) := ⟨rfl, rfl⟩
theorem fModel_strip_33 : w_fe am_c176 33 34 (.iload 4) := ⟨rfl, rfl⟩
theorem fModel_strip_34 : w_fe am_c176 34 35 (.ishl) := ⟨rfl, rfl⟩
theorem fModel_strip_35 : w_fe am_c176 35 36 (.ior) := ⟨rfl, rfl⟩
theorem fModel_strip_36 : w_fe am_c176 36 37 (.istore 3) := ⟨rfl, rfl⟩
theorem fModel_strip_37 : w_fe am_c176 37 38 (.iinc 4 1) := ⟨rfl, rfl⟩
theorem fModel_strip_38 : w_gt am_c176 38 18 := rfl
theorem fModel_strip_39 : w_fe am_c176 39 40 (.iload 2) := ⟨rfl, rfl⟩
theorem fModel_strip_40 : w_fe am_c176 40 41 (.bipush 3) := ⟨rfl, rfl⟩
theorem fModel_strip_41 : w_ic am_c176 41 42 .ge 51 := ⟨rfl, rfl⟩
theorem fModel_strip_42 : w_fe am_c176 42 43 (.aload 0) := ⟨rfl, rfl⟩
theorem fModel_strip_43 : w_fe am_c176 43 44 (.getfield 900) := ⟨rfl, rfl⟩
theorem fModel_strip_44 : w_fe am_c176 44 45 (.bipush 7) := ⟨rfl, rfl⟩
theorem fModel_strip_45 : w_fe am_c176 45 46 (.iload 2) := ⟨rfl, rfl⟩
theorem fModel_strip_46 : w_fe am_c176 46 47 (.imul) := ⟨rfl, rfl⟩
theorem fModel_strip_47 : w_fe am_c176 47 48 (.iload 1) := ⟨rfl, rfl⟩
theorem fModel_strip_48 : w_fe am_c176 48 49 (.iadd) := ⟨rfl, rfl⟩
theorem fModel_strip_49 : w_fe am_c176 49 50 (.iaload) := ⟨rfl, rfl⟩
theorem fModel_strip_50 : w_gt am_c176 50 52 := rfl
theorem fModel_strip_51 : w_fe am_c176 51 52 (.iload 3) := ⟨rfl, rfl⟩
theorem fModel_strip_52 : w_fe am_c176 52 53 (.ireturn) := ⟨rfl, rfl⟩
noncomputable def LModel_strip_18 (xs : List Int) (d : Nat) (Q : Option w_V → w_M → Prop) (v1 : Int) (v2 : Int) (v3 : Int) (v4 : Int) (σ : w_M) : Prop := w_Ex (xs, d) 1 am_c176 Q 18 [some (.inr (.inr (9, 122))), some (.inl v1), some (.inl v2), some (.inl v3), some (.inl v4)] [] σ
set_option maxRecDepth 20000 in
theorem bModel_strip_0 {xs : List Int} {d : Nat} {Q : Option w_V → w_M → Prop} {x1 : Int} {x2 : Int} {σ : w_M}
    (h : p_Model_isStrip x1 σ ∧ ((¬ (0 ≤ x1 ∧ x1 < σ 122 4) → Q (some (.inl (-1))) σ) ∧ ((0 ≤ x1 ∧ x1 < σ 122 4) → (((0 ≤ x2 ∧ x2 ≤ 3) → (p_Model_starts σ ∧ (∀ (τ1 : w_M), q_Model_starts σ τ1 → LModel_strip_18 xs (d + 2) Q x1 x2 0 0 τ1))) ∧ (¬ (0 ≤ x2 ∧ x2 ≤ 3) → Q (some (.inl (-1))) σ))))) : w_Call (xs, (d + 2)) 176 [.inr (.inr (9, 122)), .inl x1, .inl x2] σ Q :=
  (w_mk (mid := 176) (by decide) rfl rfl rfl rfl rfl (Nat.le_of_ble_eq_true rfl) ⟨rfl, Or.inl (by decide)⟩ (wi_aload0 fModel_strip_0 (wi_iload1 fModel_strip_1 (wi_call2 fModel_strip_2 (Nat.le_of_ble_eq_true rfl) (k_Model_isStrip h.1 (wi_ifb_eq fModel_strip_3 (fun c3 => (wi_bipush fModel_strip_10 (wi_ret1 fModel_strip_11 (h.2.1 c3)))) (fun c3 => (wi_iload2 fModel_strip_4 (wi_i2l fModel_strip_5 (wi_sipush fModel_strip_6 (wi_sipush fModel_strip_7 (wi_call3 fModel_strip_8 (Nat.le_of_ble_eq_true rfl) (k_Model_in (wi_ifb_ne fModel_strip_9 (fun c2 => (wi_bipush fModel_strip_12 (wi_istore3 fModel_strip_13 trivial (wi_aload0 fModel_strip_14 (wi_call1 fModel_strip_15 (Nat.le_of_ble_eq_true rfl) (k_Model_starts ((h.2.2 c3).1 c2).1 (fun τ1 eτ1 => (wi_bipush fModel_strip_16 (wi_istore4 fModel_strip_17 trivial (((h.2.2 c3).1 c2).2 τ1 eτ1)))))))))) (fun c2 => (wi_bipush fModel_strip_10 (wi_ret1 fModel_strip_11 ((h.2.2 c3).2 c2))))))))))))))))))
set_option maxRecDepth 20000 in
theorem bModel_strip_18 {xs : List Int} {d : Nat} {Q : Option w_V → w_M → Prop} {v1 : Int} {v2 : Int} {v3 : Int} {v4 : Int} {σ : w_M}
    (h : ((σ 122 5) ≤ v4 → ((3 ≤ v2 → Q (some (.inl v3)) σ) ∧ (v2 < 3 → (w_in (7 * v2) ∧ w_in ((7 * v2) + v1) ∧ 0 ≤ ((7 * v2) + v1) ∧ ((7 * v2) + v1) < 246 ∧ Q (some (.inl (σ 123 ((7 * v2) + v1).toNat))) σ)))) ∧ (v4 < (σ 122 5) → (p_Model_of v4 3 σ ∧ ((¬ (σ 124 (21 + 5 * v4 + 3).toNat) = v1 → ∀ (y2 : Int), y2 = (w_or v3 (w_shl 0 v4)) → (w_in (v4 + 1) ∧ LModel_strip_18 xs (d + 2) Q v1 v2 y2 (v4 + 1) σ)) ∧ ((σ 124 (21 + 5 * v4 + 3).toNat) = v1 → ∀ (y3 : Int), y3 = (w_or v3 (w_shl 1 v4)) → (w_in (v4 + 1) ∧ LModel_strip_18 xs (d + 2) Q v1 v2 y3 (v4 + 1) σ)))))) : LModel_strip_18 xs (d + 2) Q v1 v2 v3 v4 σ :=
  (wi_iload4 fModel_strip_18 (wi_aload0 fModel_strip_19 (wi_getf905 fModel_strip_20 (wi_ic_ge fModel_strip_21 (fun c5 => (wi_iload2 fModel_strip_39 (wi_bipush fModel_strip_40 (wi_ic_ge fModel_strip_41 (fun c1 => (wi_iload3 fModel_strip_51 (wi_ret1 fModel_strip_52 ((h.1 c5).1 c1)))) (fun c1 => (wi_aload0 fModel_strip_42 (wi_getf900 fModel_strip_43 (wi_bipush fModel_strip_44 (wi_iload2 fModel_strip_45 (wi_imul fModel_strip_46 ((h.1 c5).2 c1).1 (wi_iload1 fModel_strip_47 (wi_iadd fModel_strip_48 ((h.1 c5).2 c1).2.1 (wi_iald1246 fModel_strip_49 ((h.1 c5).2 c1).2.2.1 ((h.1 c5).2 c1).2.2.2.1 (wi_goto fModel_strip_50 (wi_ret1 fModel_strip_52 ((h.1 c5).2 c1).2.2.2.2))))))))))))))) (fun c5 => (wi_iload3 fModel_strip_22 (wi_aload0 fModel_strip_23 (wi_iload4 fModel_strip_24 (wi_bipush fModel_strip_25 (wi_call3 fModel_strip_26 (Nat.le_of_ble_eq_true rfl) (k_Model_of (h.2 c5).1 (wi_iload1 fModel_strip_27 (wi_ic_ne fModel_strip_28 (fun c4 => (wi_bipush fModel_strip_31 (wi_call1 fModel_strip_32 (Nat.le_of_ble_eq_true rfl) (k_Model_flag (wi_iload4 fModel_strip_33 (wi_ishl fModel_strip_34 (wi_ior fModel_strip_35 (wi_istore3 fModel_strip_36 trivial (wi_iinc4 fModel_strip_37 trivial (((h.2 c5).2.1 c4) _ rfl).1 (wi_goto fModel_strip_38 (((h.2 c5).2.1 c4) _ rfl).2)))))))))) (fun c4 => (wi_bipush fModel_strip_29 (wi_goto fModel_strip_30 (wi_call1 fModel_strip_32 (Nat.le_of_ble_eq_true rfl) (k_Model_flag (wi_iload4 fModel_strip_33 (wi_ishl fModel_strip_34 (wi_ior fModel_strip_35 (wi_istore3 fModel_strip_36 trivial (wi_iinc4 fModel_strip_37 trivial (((h.2 c5).2.2 c4) _ rfl).1 (wi_goto fModel_strip_38 (((h.2 c5).2.2 c4) _ rfl).2))))))))))))))))))))))))
theorem k_Model_strip {xs : List Int} {d : Nat} {Q : Option w_V → w_M → Prop} {x1 : Int} {x2 : Int} {σ : w_M} (hp : p_Model_strip x1 x2 σ) (hQ : ∀ (x : Int) (σ' : w_M), q_Model_strip x1 x2 σ x σ' → Q (some (.inl x)) σ') : w_Call (xs, d + 2) 176 [.inr (.inr (9, 122)), .inl x1, .inl x2] σ Q := by
  have hM : MI σ := hp
  have hs := hM.s
  have hn := hM.n
  unfold q_Model_strip F_strip at hQ
  have e4 : mS σ 0 0 4 = σ 122 4 := rfl
  rw [e4] at hQ
  refine bModel_strip_0 ⟨hs, fun c => ?_, fun c => ⟨fun c2 => ⟨hM.sm, fun τ hq => ?_⟩, fun c2 => ?_⟩⟩
  · rw [if_neg c] at hQ
    exact hQ _ _ (m_qr hM rfl)
  · rw [if_pos c] at hQ
    obtain ⟨q1, q2, q3⟩ := hq
    have z2 : τ 122 = σ 122 := q2 122 (by decide)
    have z3 : τ 123 = σ 123 := q2 123 (by decide)
    refine w_loop (n := (σ 122 5).toNat) (P := fun k => LModel_strip_18 xs (d + 2) Q x1 x2 ((n_rat (w_am σ 123 0) x1 k : Nat) : Int) (k : Int) τ) ?_ ?_
    · refine bModel_strip_18 ⟨fun _ => ⟨fun c3 => ?_, fun c3 => ⟨⟨by omega, by omega⟩, ⟨by omega, by omega⟩, by omega, by omega, ?_⟩⟩, fun h => by rw [z2] at h; omega⟩
      · rw [if_neg (by omega), if_neg (by omega), if_neg (by omega), if_pos (by omega)] at hQ
        exact hQ _ _ (m_qs hM q2 rfl)
      · rw [z3]
        rcases (show x2 = 0 ∨ x2 = 1 ∨ x2 = 2 by omega) with rfl | rfl | rfl
        · rw [if_pos rfl] at hQ
          exact hQ _ _ (m_qs hM q2 (m_rdi (d := 1) (by decide) (Or.inl (by decide)) c (by show _ = x1.toNat; omega)))
        · rw [if_neg (by decide), if_pos rfl] at hQ
          exact hQ _ _ (m_qs hM q2 (m_rdi (d := 2) (by decide) (Or.inl (by decide)) c (by show _ = 7 + x1.toNat; omega)))
        · rw [if_neg (by decide), if_neg (by decide), if_pos rfl] at hQ
          exact hQ _ _ (m_qs hM q2 (m_rdi (d := 9) (by decide) (Or.inr rfl) c (by show _ = 14 + x1.toNat; omega)))
    · intro k hk ih
      have hb := w_bit_or k (by omega) _ (n_rat_lt (w_am σ 123 0) x1 k)
      have e6 : τ 124 (21 + 5 * (k : Int) + 3).toNat = w_am σ 123 0 6 k := by
        rw [q3 _ (by omega)]
        exact m_rd (by decide) (by rw [m_rl37 (by decide) (by decide)]; exact hk) (by show _ = 0 + (24 + 5 * k); omega)
      refine bModel_strip_18 ⟨fun h => by rw [z2] at h; omega, fun h => ⟨⟨by omega, by omega⟩, fun c3 => fun y e => ⟨⟨by omega, by omega⟩, ?_⟩, fun c3 => fun y e => ⟨⟨by omega, by omega⟩, ?_⟩⟩⟩
      · rw [e6] at c3
        simp only [n_rat] at ih
        rw [if_neg c3, Nat.add_zero, w_cs1] at ih
        rw [e, hb.2]
        exact ih
      · rw [e6] at c3
        simp only [n_rat] at ih
        rw [if_pos c3, w_cs1] at ih
        rw [e, hb.1]
        exact ih
  · rw [if_pos c, if_neg (by omega), if_neg (by omega), if_neg (by omega), if_neg (by omega)] at hQ
    exact hQ _ _ (m_qr hM rfl)
noncomputable def p_Model_reaper (_x1 : Int) (_x2 : Int) (σ : w_M) : Prop := MI σ
noncomputable def q_Model_reaper (x1 : Int) (x2 : Int) (σ : w_M) (x : Int) (σ' : w_M) : Prop := m_q (F_reaper (mS σ) x1 x2) (mS σ) σ x σ'
theorem fModel_reaper_0 : w_fe am_c180 0 1 (.aload 0) := ⟨rfl, rfl⟩
theorem fModel_reaper_1 : w_fe am_c180 1 2 (.iload 1) := ⟨rfl, rfl⟩
theorem fModel_reaper_2 : w_fe am_c180 2 3 (.invokestatic 181) := ⟨rfl, rfl⟩
theorem fModel_reaper_3 : w_if am_c180 3 4 .eq 21 := ⟨rfl, rfl⟩
theorem fModel_reaper_4 : w_fe am_c180 4 5 (.iload 2) := ⟨rfl, rfl⟩
theorem fModel_reaper_5 : w_fe am_c180 5 6 (.i2l) := ⟨rfl, rfl⟩
theorem fModel_reaper_6 : w_fe am_c180 6 7 (.sipush 0) := ⟨rfl, rfl⟩
theorem fModel_reaper_7 : w_fe am_c180 7 8 (.sipush 4) := ⟨rfl, rfl⟩
theorem fModel_reaper_8 : w_fe am_c180 8 9 (.invokestatic 157) := ⟨rfl, rfl⟩
theorem fModel_reaper_9 : w_if am_c180 9 10 .eq 21 := ⟨rfl, rfl⟩
theorem fModel_reaper_10 : w_fe am_c180 10 11 (.aload 0) := ⟨rfl, rfl⟩
theorem fModel_reaper_11 : w_fe am_c180 11 12 (.getfield 900) := ⟨rfl, rfl⟩
theorem fModel_reaper_12 : w_fe am_c180 12 13 (.bipush 21) := ⟨rfl, rfl⟩
theorem fModel_reaper_13 : w_fe am_c180 13 14 (.bipush 5) := ⟨rfl, rfl⟩
theorem fModel_reaper_14 : w_fe am_c180 14 15 (.iload 1) := ⟨rfl, rfl⟩
theorem fModel_reaper_15 : w_fe am_c180 15 16 (.imul) := ⟨rfl, rfl⟩
theorem fModel_reaper_16 : w_fe am_c180 16 17 (.iadd) := ⟨rfl, rfl⟩
theorem fModel_reaper_17 : w_fe am_c180 17 18 (.iload 2) := ⟨rfl, rfl⟩
theorem fModel_reaper_18 : w_fe am_c180 18 19 (.iadd) := ⟨rfl, rfl⟩
theorem fModel_reaper_19 : w_fe am_c180 19 20 (.iaload) := ⟨rfl, rfl⟩
theorem fModel_reaper_20 : w_gt am_c180 20 22 := rfl
theorem fModel_reaper_21 : w_fe am_c180 21 22 (.bipush (-1)) := ⟨rfl, rfl⟩
theorem fModel_reaper_22 : w_fe am_c180 22 23 (.ireturn) := ⟨rfl, rfl⟩
set_option maxRecDepth 20000 in
theorem bModel_reaper_0 {xs : List Int} {d : Nat} {Q : Option w_V → w_M → Prop} {x1 : Int} {x2 : Int} {σ : w_M}
    (h : p_Model_isReaper x1 σ ∧ ((¬ (0 ≤ x1 ∧ x1 < σ 122 5) → Q (some (.inl (-1))) σ) ∧ ((0 ≤ x1 ∧ x1 < σ 122 5) → ((¬ (0 ≤ x2 ∧ x2 ≤ 4) → Q (some (.inl (-1))) σ) ∧ ((0 ≤ x2 ∧ x2 ≤ 4) → (w_in (5 * x1) ∧ w_in (21 + (5 * x1)) ∧ w_in ((21 + (5 * x1)) + x2) ∧ 0 ≤ ((21 + (5 * x1)) + x2) ∧ ((21 + (5 * x1)) + x2) < 246 ∧ Q (some (.inl (σ 123 ((21 + (5 * x1)) + x2).toNat))) σ)))))) : w_Call (xs, (d + 2)) 180 [.inr (.inr (9, 122)), .inl x1, .inl x2] σ Q :=
  (w_mk (mid := 180) (by decide) rfl rfl rfl rfl rfl (Nat.le_of_ble_eq_true rfl) ⟨rfl, Or.inl (by decide)⟩ (wi_aload0 fModel_reaper_0 (wi_iload1 fModel_reaper_1 (wi_call2 fModel_reaper_2 (Nat.le_of_ble_eq_true rfl) (k_Model_isReaper h.1 (wi_ifb_eq fModel_reaper_3 (fun c2 => (wi_bipush fModel_reaper_21 (wi_ret1 fModel_reaper_22 (h.2.1 c2)))) (fun c2 => (wi_iload2 fModel_reaper_4 (wi_i2l fModel_reaper_5 (wi_sipush fModel_reaper_6 (wi_sipush fModel_reaper_7 (wi_call3 fModel_reaper_8 (Nat.le_of_ble_eq_true rfl) (k_Model_in (wi_ifb_eq fModel_reaper_9 (fun c1 => (wi_bipush fModel_reaper_21 (wi_ret1 fModel_reaper_22 ((h.2.2 c2).1 c1)))) (fun c1 => (wi_aload0 fModel_reaper_10 (wi_getf900 fModel_reaper_11 (wi_bipush fModel_reaper_12 (wi_bipush fModel_reaper_13 (wi_iload1 fModel_reaper_14 (wi_imul fModel_reaper_15 ((h.2.2 c2).2 c1).1 (wi_iadd fModel_reaper_16 ((h.2.2 c2).2 c1).2.1 (wi_iload2 fModel_reaper_17 (wi_iadd fModel_reaper_18 ((h.2.2 c2).2 c1).2.2.1 (wi_iald1246 fModel_reaper_19 ((h.2.2 c2).2 c1).2.2.2.1 ((h.2.2 c2).2 c1).2.2.2.2.1 (wi_goto fModel_reaper_20 (wi_ret1 fModel_reaper_22 ((h.2.2 c2).2 c1).2.2.2.2.2)))))))))))))))))))))))))))
theorem m_tell {σ : w_M} {c : Nat} {r w : Int} (hr : 0 ≤ r ∧ r < σ 122 5) (hw : 0 ≤ w ∧ w ≤ 4) {x : Nat} (hx : (x : Int) = 21 + 5 * r + w) : σ c x = n_tell (w_am σ c 0) r w := by
  unfold n_tell
  rw [if_pos (show 0 ≤ r ∧ r < w_am σ c 0 0 5 from hr), if_pos hw]
  rcases (show w = 0 ∨ w = 1 ∨ w = 2 ∨ w = 3 ∨ w = 4 by omega) with rfl | rfl | rfl | rfl | rfl
  · exact m_rdr (d := 3) (by decide) (by decide) hr (by show x = 21 + 5 * r.toNat; omega)
  · exact m_rdr (d := 4) (by decide) (by decide) hr (by show x = 22 + 5 * r.toNat; omega)
  · exact m_rdr (d := 5) (by decide) (by decide) hr (by show x = 23 + 5 * r.toNat; omega)
  · exact m_rdr (d := 6) (by decide) (by decide) hr (by show x = 24 + 5 * r.toNat; omega)
  · exact m_rdr (d := 7) (by decide) (by decide) hr (by show x = 25 + 5 * r.toNat; omega)
theorem n_tell_bad {A : w_M} {r w : Int} (h : ¬ ((0 ≤ r ∧ r < A 0 5) ∧ (0 ≤ w ∧ w ≤ 4))) : n_tell A r w = -1 := by
  unfold n_tell
  split
  · rename_i h1
    rw [if_neg (fun q => h ⟨h1, q⟩)]
  · rfl
theorem k_Model_reaper {xs : List Int} {d : Nat} {Q : Option w_V → w_M → Prop} {x1 : Int} {x2 : Int} {σ : w_M} (hp : p_Model_reaper x1 x2 σ) (hQ : ∀ (x : Int) (σ' : w_M), q_Model_reaper x1 x2 σ x σ' → Q (some (.inl x)) σ') : w_Call (xs, d + 2) 180 [.inr (.inr (9, 122)), .inl x1, .inl x2] σ Q := by
  have hM : MI σ := hp
  have hn := hM.n
  unfold q_Model_reaper F_reaper at hQ
  refine bModel_reaper_0 ⟨hn, fun c => ?_, fun c => ⟨fun c2 => ?_, fun c2 => ⟨⟨by omega, by omega⟩, ⟨by omega, by omega⟩, ⟨by omega, by omega⟩, by omega, by omega, ?_⟩⟩⟩
  · exact hQ _ _ (m_qr hM (n_tell_bad (fun q => c q.1)).symm)
  · exact hQ _ _ (m_qr hM (n_tell_bad (fun q => c2 q.2)).symm)
  · exact hQ _ _ (m_qr hM (m_tell c c2 (by omega)))
noncomputable def p_Model_harvest (_x1 : Int) (σ : w_M) : Prop := MI σ
noncomputable def q_Model_harvest (x1 : Int) (σ : w_M) (x : Int) (σ' : w_M) : Prop := m_q (F_harvest (mS σ) x1) (mS σ) σ x σ'
theorem fModel_harvest_0 : w_fe am_c182 0 1 (.iload 1) := ⟨rfl, rfl⟩
theorem fModel_harvest_1 : w_fe am_c182 1 2 (.invokestatic 183) := ⟨rfl, rfl⟩
theorem fModel_harvest_2 : w_if am_c182 2 3 .eq 10 := ⟨rfl, rfl⟩
theorem fModel_harvest_3 : w_fe am_c182 3 4 (.aload 0) := ⟨rfl, rfl⟩
theorem fModel_harvest_4 : w_fe am_c182 4 5 (.getfield 900) := ⟨rfl, rfl⟩
theorem fModel_harvest_5 : w_fe am_c182 5 6 (.bipush 43) := ⟨rfl, rfl⟩
theorem fModel_harvest_6 : w_fe am_c182 6 7 (.iload 1) := ⟨rfl, rfl⟩
theorem fModel_harvest_7 : w_fe am_c182 7 8 (.iadd) := ⟨rfl, rfl⟩
theorem fModel_harvest_8 : w_fe am_c182 8 9 (.iaload) := ⟨rfl, rfl⟩
theorem fModel_harvest_9 : w_gt am_c182 9 11 := rfl
theorem fModel_harvest_10 : w_fe am_c182 10 11 (.bipush (-1)) := ⟨rfl, rfl⟩
theorem fModel_harvest_11 : w_fe am_c182 11 12 (.ireturn) := ⟨rfl, rfl⟩
set_option maxRecDepth 20000 in
theorem bModel_harvest_0 {xs : List Int} {d : Nat} {Q : Option w_V → w_M → Prop} {x1 : Int} {σ : w_M}
    (h : (¬ (0 ≤ x1 ∧ x1 ≤ 3) → Q (some (.inl (-1))) σ) ∧ ((0 ≤ x1 ∧ x1 ≤ 3) → (w_in (43 + x1) ∧ 0 ≤ (43 + x1) ∧ (43 + x1) < 246 ∧ Q (some (.inl (σ 123 (43 + x1).toNat))) σ))) : w_Call (xs, (d + 2)) 182 [.inr (.inr (9, 122)), .inl x1] σ Q :=
  (w_mk (mid := 182) (by decide) rfl rfl rfl rfl rfl (Nat.le_of_ble_eq_true rfl) ⟨rfl, Or.inl (by decide)⟩ (wi_iload1 fModel_harvest_0 (wi_call1 fModel_harvest_1 (Nat.le_of_ble_eq_true rfl) (k_Model_isOwner (wi_ifb_eq fModel_harvest_2 (fun c1 => (wi_bipush fModel_harvest_10 (wi_ret1 fModel_harvest_11 (h.1 c1)))) (fun c1 => (wi_aload0 fModel_harvest_3 (wi_getf900 fModel_harvest_4 (wi_bipush fModel_harvest_5 (wi_iload1 fModel_harvest_6 (wi_iadd fModel_harvest_7 (h.2 c1).1 (wi_iald1246 fModel_harvest_8 (h.2 c1).2.1 (h.2 c1).2.2.1 (wi_goto fModel_harvest_9 (wi_ret1 fModel_harvest_11 (h.2 c1).2.2.2))))))))))))))
theorem k_Model_harvest {xs : List Int} {d : Nat} {Q : Option w_V → w_M → Prop} {x1 : Int} {σ : w_M} (hp : p_Model_harvest x1 σ) (hQ : ∀ (x : Int) (σ' : w_M), q_Model_harvest x1 σ x σ' → Q (some (.inl x)) σ') : w_Call (xs, d + 2) 182 [.inr (.inr (9, 122)), .inl x1] σ Q := by
  have hM : MI σ := hp
  unfold q_Model_harvest F_harvest at hQ
  refine bModel_harvest_0 ⟨fun c => ?_, fun c => ⟨⟨by omega, by omega⟩, by omega, by omega, ?_⟩⟩
  · rw [if_neg c] at hQ; exact hQ _ _ (m_qr hM rfl)
  · rw [if_pos c] at hQ
    exact hQ _ _ (m_qr hM (m_rd (d := 8) (by decide) (show x1.toNat < 4 by omega) (by show _ = 0 + (43 + x1.toNat); omega)))
theorem m_set {σ τ : w_M} {P : Prop} {d j k : Nat} {v x : Int} (hM : MI σ) (hP : P) (hj : j < m_rl σ d) (hk : k = 0 + m_ix d j) (hW : n_WF (w_up (w_am σ 123 0) d j v)) (ht : τ = w_up σ 123 k v) (hx : x = σ 123 k) : m_q (F_set (mS σ) P d j) (G_set (mS σ) P d j v) σ x τ := by
  have hd0 : d ≠ 0 := fun e => by rw [e] at hj; simp [m_rl] at hj
  obtain ⟨d10, j7, jL⟩ := m_rl_d hM.sm hj
  have hlt := (m_ix_sc d d10 j j7 jL).2.2.2
  rw [F_set_t hP, G_set_t hP]
  refine m_q0 hM (by rw [ht]; exact w_f1.up0) (fun y hy => by rw [ht, w_up_j (by omega)]) (by rw [ht]; exact w_am_up hM.sm (by decide) hj hk) hW ?_ ?_ ?_ ?_
  · show w_up (w_am σ 123 0) d j v 0 0 = σ 122 3; rw [w_up_ne (by omega)]; rfl
  · show w_up (w_am σ 123 0) d j v 0 4 = σ 122 4; rw [w_up_ne (by omega)]; rfl
  · show w_up (w_am σ 123 0) d j v 0 5 = σ 122 5; rw [w_up_ne (by omega)]; rfl
  · rw [hx]; exact m_rd hd0 hj hk
theorem m_no {σ : w_M} {P : Prop} {d j : Nat} {v : Int} (hM : MI σ) (hP : ¬ P) : m_q (F_set (mS σ) P d j) (G_set (mS σ) P d j v) σ (-1) σ := by
  rw [F_set_f hP, G_set_f hP]
  exact m_qr hM rfl
noncomputable def p_Model_send (_ _ : Int) (σ : w_M) : Prop := MI σ
noncomputable def q_Model_send (r i : Int) (σ : w_M) (x : Int) (σ' : w_M) : Prop := m_q (F_send (mS σ) r i) (G_send (mS σ) r i) σ x σ' ∧ (σ' = σ ∨ ((0 ≤ r ∧ r < 4) ∧ σ' = w_up σ 123 (24 + 5 * r.toNat) i))
noncomputable def p_Model_whet (_x1 : Int) (_x2 : Int) (σ : w_M) : Prop := MI σ
noncomputable def q_Model_whet (x1 : Int) (x2 : Int) (σ : w_M) (x : Int) (σ' : w_M) : Prop := m_q (F_whet (mS σ) x1 x2) (G_whet (mS σ) x1 x2) σ x σ'
noncomputable def p_Model_fill (_x1 : Int) (_x2 : Int) (σ : w_M) : Prop := MI σ
noncomputable def q_Model_fill (x1 : Int) (x2 : Int) (σ : w_M) (x : Int) (σ' : w_M) : Prop := m_q (F_fill (mS σ) x1 x2) (G_fill (mS σ) x1 x2) σ x σ'
noncomputable def p_Model_own (_x1 : Int) (_x2 : Int) (σ : w_M) : Prop := MI σ
noncomputable def q_Model_own (x1 : Int) (x2 : Int) (σ : w_M) (x : Int) (σ' : w_M) : Prop := m_q (F_own (mS σ) x1 x2) (G_own (mS σ) x1 x2) σ x σ'
noncomputable def p_Model_grow (_x1 : Int) (_x2 : Int) (σ : w_M) : Prop := MI σ
noncomputable def q_Model_grow (x1 : Int) (x2 : Int) (σ : w_M) (x : Int) (σ' : w_M) : Prop := m_q (F_grow (mS σ) x1 x2) (G_grow (mS σ) x1 x2) σ x σ'
noncomputable def p_Model_thistle (_x1 : Int) (x2 : Int) (σ : w_M) : Prop := MI σ ∧ (x2 = 0 ∨ x2 = 1)
noncomputable def q_Model_thistle (x1 : Int) (x2 : Int) (σ : w_M) (x : Int) (σ' : w_M) : Prop := m_q (F_thistle (mS σ) x1 x2) (G_thistle (mS σ) x1 x2) σ x σ'
theorem fModel_send_0 : w_fe am_c184 0 1 (.aload 0) := ⟨rfl, rfl⟩
theorem fModel_send_1 : w_fe am_c184 1 2 (.iload 1) := ⟨rfl, rfl⟩
theorem fModel_send_2 : w_fe am_c184 2 3 (.invokestatic 181) := ⟨rfl, rfl⟩
theorem fModel_send_3 : w_if am_c184 3 4 .eq 19 := ⟨rfl, rfl⟩
theorem fModel_send_4 : w_fe am_c184 4 5 (.aload 0) := ⟨rfl, rfl⟩
theorem fModel_send_5 : w_fe am_c184 5 6 (.iload 2) := ⟨rfl, rfl⟩
theorem fModel_send_6 : w_fe am_c184 6 7 (.invokestatic 177) := ⟨rfl, rfl⟩
theorem fModel_send_7 : w_if am_c184 7 8 .eq 19 := ⟨rfl, rfl⟩
theorem fModel_send_8 : w_fe am_c184 8 9 (.aload 0) := ⟨rfl, rfl⟩
theorem fModel_send_9 : w_fe am_c184 9 10 (.bipush 21) := ⟨rfl, rfl⟩
theorem fModel_send_10 : w_fe am_c184 10 11 (.bipush 5) := ⟨rfl, rfl⟩
theorem fModel_send_11 : w_fe am_c184 11 12 (.iload 1) := ⟨rfl, rfl⟩
theorem fModel_send_12 : w_fe am_c184 12 13 (.imul) := ⟨rfl, rfl⟩
theorem fModel_send_13 : w_fe am_c184 13 14 (.iadd) := ⟨rfl, rfl⟩
theorem fModel_send_14 : w_fe am_c184 14 15 (.bipush 3) := ⟨rfl, rfl⟩
theorem fModel_send_15 : w_fe am_c184 15 16 (.iadd) := ⟨rfl, rfl⟩
theorem fModel_send_16 : w_fe am_c184 16 17 (.iload 2) := ⟨rfl, rfl⟩
theorem fModel_send_17 : w_fe am_c184 17 18 (.invokestatic 185) := ⟨rfl, rfl⟩
theorem fModel_send_18 : w_gt am_c184 18 20 := rfl
theorem fModel_send_19 : w_fe am_c184 19 20 (.bipush (-1)) := ⟨rfl, rfl⟩
theorem fModel_send_20 : w_fe am_c184 20 21 (.ireturn) := ⟨rfl, rfl⟩
set_option maxRecDepth 20000 in
theorem bModel_send_0 {xs : List Int} {d : Nat} {Q : Option w_V → w_M → Prop} {x1 : Int} {x2 : Int} {σ : w_M}
    (h : p_Model_isReaper x1 σ ∧ ((¬ (0 ≤ x1 ∧ x1 < σ 122 5) → Q (some (.inl (-1))) σ) ∧ ((0 ≤ x1 ∧ x1 < σ 122 5) → (p_Model_isStrip x2 σ ∧ ((¬ (0 ≤ x2 ∧ x2 < σ 122 4) → Q (some (.inl (-1))) σ) ∧ ((0 ≤ x2 ∧ x2 < σ 122 4) → (w_in (5 * x1) ∧ w_in (21 + (5 * x1)) ∧ w_in ((21 + (5 * x1)) + 3) ∧ p_Model_becomes ((21 + (5 * x1)) + 3) x2 σ ∧ (∀ (y1 : Int) (τ2 : w_M), q_Model_becomes ((21 + (5 * x1)) + 3) x2 σ y1 τ2 → Q (some (.inl y1)) τ2)))))))) : w_Call (xs, (d + 2)) 184 [.inr (.inr (9, 122)), .inl x1, .inl x2] σ Q :=
  (w_mk (mid := 184) (by decide) rfl rfl rfl rfl rfl (Nat.le_of_ble_eq_true rfl) ⟨rfl, Or.inl (by decide)⟩ (wi_aload0 fModel_send_0 (wi_iload1 fModel_send_1 (wi_call2 fModel_send_2 (Nat.le_of_ble_eq_true rfl) (k_Model_isReaper h.1 (wi_ifb_eq fModel_send_3 (fun c4 => (wi_bipush fModel_send_19 (wi_ret1 fModel_send_20 (h.2.1 c4)))) (fun c4 => (wi_aload0 fModel_send_4 (wi_iload2 fModel_send_5 (wi_call2 fModel_send_6 (Nat.le_of_ble_eq_true rfl) (k_Model_isStrip (h.2.2 c4).1 (wi_ifb_eq fModel_send_7 (fun c3 => (wi_bipush fModel_send_19 (wi_ret1 fModel_send_20 ((h.2.2 c4).2.1 c3)))) (fun c3 => (wi_aload0 fModel_send_8 (wi_bipush fModel_send_9 (wi_bipush fModel_send_10 (wi_iload1 fModel_send_11 (wi_imul fModel_send_12 ((h.2.2 c4).2.2 c3).1 (wi_iadd fModel_send_13 ((h.2.2 c4).2.2 c3).2.1 (wi_bipush fModel_send_14 (wi_iadd fModel_send_15 ((h.2.2 c4).2.2 c3).2.2.1 (wi_iload2 fModel_send_16 (wi_call3 fModel_send_17 (Nat.le_of_ble_eq_true rfl) (k_Model_becomes ((h.2.2 c4).2.2 c3).2.2.2.1 (fun y1 τ2 eτ2 => (wi_goto fModel_send_18 (wi_ret1 fModel_send_20 (((h.2.2 c4).2.2 c3).2.2.2.2 y1 τ2 eτ2))))))))))))))))))))))))))))
theorem fModel_whet_0 : w_fe am_c187 0 1 (.aload 0) := ⟨rfl, rfl⟩
theorem fModel_whet_1 : w_fe am_c187 1 2 (.iload 1) := ⟨rfl, rfl⟩
theorem fModel_whet_2 : w_fe am_c187 2 3 (.invokestatic 181) := ⟨rfl, rfl⟩
theorem fModel_whet_3 : w_if am_c187 3 4 .eq 21 := ⟨rfl, rfl⟩
theorem fModel_whet_4 : w_fe am_c187 4 5 (.iload 2) := ⟨rfl, rfl⟩
theorem fModel_whet_5 : w_fe am_c187 5 6 (.i2l) := ⟨rfl, rfl⟩
theorem fModel_whet_6 : w_fe am_c187 6 7 (.sipush 0) := ⟨rfl, rfl⟩
theorem fModel_whet_7 : w_fe am_c187 7 8 (.sipush 3) := ⟨rfl, rfl⟩
theorem fModel_whet_8 : w_fe am_c187 8 9 (.invokestatic 157) := ⟨rfl, rfl⟩
theorem fModel_whet_9 : w_if am_c187 9 10 .eq 21 := ⟨rfl, rfl⟩
theorem fModel_whet_10 : w_fe am_c187 10 11 (.aload 0) := ⟨rfl, rfl⟩
theorem fModel_whet_11 : w_fe am_c187 11 12 (.bipush 21) := ⟨rfl, rfl⟩
theorem fModel_whet_12 : w_fe am_c187 12 13 (.bipush 5) := ⟨rfl, rfl⟩
theorem fModel_whet_13 : w_fe am_c187 13 14 (.iload 1) := ⟨rfl, rfl⟩
theorem fModel_whet_14 : w_fe am_c187 14 15 (.imul) := ⟨rfl, rfl⟩
theorem fModel_whet_15 : w_fe am_c187 15 16 (.iadd) := ⟨rfl, rfl⟩
theorem fModel_whet_16 : w_fe am_c187 16 17 (.bipush 2) := ⟨rfl, rfl⟩
theorem fModel_whet_17 : w_fe am_c187 17 18 (.iadd) := ⟨rfl, rfl⟩
theorem fModel_whet_18 : w_fe am_c187 18 19 (.iload 2) := ⟨rfl, rfl⟩
theorem fModel_whet_19 : w_fe am_c187 19 20 (.invokestatic 185) := ⟨rfl, rfl⟩
theorem fModel_whet_20 : w_gt am_c187 20 22 := rfl
theorem fModel_whet_21 : w_fe am_c187 21 22 (.bipush (-1)) := ⟨rfl, rfl⟩
theorem fModel_whet_22 : w_fe am_c187 22 23 (.ireturn) := ⟨rfl, rfl⟩
set_option maxRecDepth 20000 in
theorem bModel_whet_0 {xs : List Int} {d : Nat} {Q : Option w_V → w_M → Prop} {x1 : Int} {x2 : Int} {σ : w_M}
    (h : p_Model_isReaper x1 σ ∧ ((¬ (0 ≤ x1 ∧ x1 < σ 122 5) → Q (some (.inl (-1))) σ) ∧ ((0 ≤ x1 ∧ x1 < σ 122 5) → ((¬ (0 ≤ x2 ∧ x2 ≤ 3) → Q (some (.inl (-1))) σ) ∧ ((0 ≤ x2 ∧ x2 ≤ 3) → (w_in (5 * x1) ∧ w_in (21 + (5 * x1)) ∧ w_in ((21 + (5 * x1)) + 2) ∧ p_Model_becomes ((21 + (5 * x1)) + 2) x2 σ ∧ (∀ (y1 : Int) (τ2 : w_M), q_Model_becomes ((21 + (5 * x1)) + 2) x2 σ y1 τ2 → Q (some (.inl y1)) τ2))))))) : w_Call (xs, (d + 2)) 187 [.inr (.inr (9, 122)), .inl x1, .inl x2] σ Q :=
  (w_mk (mid := 187) (by decide) rfl rfl rfl rfl rfl (Nat.le_of_ble_eq_true rfl) ⟨rfl, Or.inl (by decide)⟩ (wi_aload0 fModel_whet_0 (wi_iload1 fModel_whet_1 (wi_call2 fModel_whet_2 (Nat.le_of_ble_eq_true rfl) (k_Model_isReaper h.1 (wi_ifb_eq fModel_whet_3 (fun c4 => (wi_bipush fModel_whet_21 (wi_ret1 fModel_whet_22 (h.2.1 c4)))) (fun c4 => (wi_iload2 fModel_whet_4 (wi_i2l fModel_whet_5 (wi_sipush fModel_whet_6 (wi_sipush fModel_whet_7 (wi_call3 fModel_whet_8 (Nat.le_of_ble_eq_true rfl) (k_Model_in (wi_ifb_eq fModel_whet_9 (fun c3 => (wi_bipush fModel_whet_21 (wi_ret1 fModel_whet_22 ((h.2.2 c4).1 c3)))) (fun c3 => (wi_aload0 fModel_whet_10 (wi_bipush fModel_whet_11 (wi_bipush fModel_whet_12 (wi_iload1 fModel_whet_13 (wi_imul fModel_whet_14 ((h.2.2 c4).2 c3).1 (wi_iadd fModel_whet_15 ((h.2.2 c4).2 c3).2.1 (wi_bipush fModel_whet_16 (wi_iadd fModel_whet_17 ((h.2.2 c4).2 c3).2.2.1 (wi_iload2 fModel_whet_18 (wi_call3 fModel_whet_19 (Nat.le_of_ble_eq_true rfl) (k_Model_becomes ((h.2.2 c4).2 c3).2.2.2.1 (fun y1 τ2 eτ2 => (wi_goto fModel_whet_20 (wi_ret1 fModel_whet_22 (((h.2.2 c4).2 c3).2.2.2.2 y1 τ2 eτ2))))))))))))))))))))))))))))))
theorem fModel_fill_0 : w_fe am_c188 0 1 (.aload 0) := ⟨rfl, rfl⟩
theorem fModel_fill_1 : w_fe am_c188 1 2 (.iload 1) := ⟨rfl, rfl⟩
theorem fModel_fill_2 : w_fe am_c188 2 3 (.invokestatic 181) := ⟨rfl, rfl⟩
theorem fModel_fill_3 : w_if am_c188 3 4 .eq 21 := ⟨rfl, rfl⟩
theorem fModel_fill_4 : w_fe am_c188 4 5 (.iload 2) := ⟨rfl, rfl⟩
theorem fModel_fill_5 : w_fe am_c188 5 6 (.i2l) := ⟨rfl, rfl⟩
theorem fModel_fill_6 : w_fe am_c188 6 7 (.sipush 0) := ⟨rfl, rfl⟩
theorem fModel_fill_7 : w_fe am_c188 7 8 (.sipush 9) := ⟨rfl, rfl⟩
theorem fModel_fill_8 : w_fe am_c188 8 9 (.invokestatic 157) := ⟨rfl, rfl⟩
theorem fModel_fill_9 : w_if am_c188 9 10 .eq 21 := ⟨rfl, rfl⟩
theorem fModel_fill_10 : w_fe am_c188 10 11 (.aload 0) := ⟨rfl, rfl⟩
theorem fModel_fill_11 : w_fe am_c188 11 12 (.bipush 21) := ⟨rfl, rfl⟩
theorem fModel_fill_12 : w_fe am_c188 12 13 (.bipush 5) := ⟨rfl, rfl⟩
theorem fModel_fill_13 : w_fe am_c188 13 14 (.iload 1) := ⟨rfl, rfl⟩
theorem fModel_fill_14 : w_fe am_c188 14 15 (.imul) := ⟨rfl, rfl⟩
theorem fModel_fill_15 : w_fe am_c188 15 16 (.iadd) := ⟨rfl, rfl⟩
theorem fModel_fill_16 : w_fe am_c188 16 17 (.bipush 1) := ⟨rfl, rfl⟩
theorem fModel_fill_17 : w_fe am_c188 17 18 (.iadd) := ⟨rfl, rfl⟩
theorem fModel_fill_18 : w_fe am_c188 18 19 (.iload 2) := ⟨rfl, rfl⟩
theorem fModel_fill_19 : w_fe am_c188 19 20 (.invokestatic 185) := ⟨rfl, rfl⟩
theorem fModel_fill_20 : w_gt am_c188 20 22 := rfl
theorem fModel_fill_21 : w_fe am_c188 21 22 (.bipush (-1)) := ⟨rfl, rfl⟩
theorem fModel_fill_22 : w_fe am_c188 22 23 (.ireturn) := ⟨rfl, rfl⟩
set_option maxRecDepth 20000 in
theorem bModel_fill_0 {xs : List Int} {d : Nat} {Q : Option w_V → w_M → Prop} {x1 : Int} {x2 : Int} {σ : w_M}
    (h : p_Model_isReaper x1 σ ∧ ((¬ (0 ≤ x1 ∧ x1 < σ 122 5) → Q (some (.inl (-1))) σ) ∧ ((0 ≤ x1 ∧ x1 < σ 122 5) → ((¬ (0 ≤ x2 ∧ x2 ≤ 9) → Q (some (.inl (-1))) σ) ∧ ((0 ≤ x2 ∧ x2 ≤ 9) → (w_in (5 * x1) ∧ w_in (21 + (5 * x1)) ∧ w_in ((21 + (5 * x1)) + 1) ∧ p_Model_becomes ((21 + (5 * x1)) + 1) x2 σ ∧ (∀ (y1 : Int) (τ2 : w_M), q_Model_becomes ((21 + (5 * x1)) + 1) x2 σ y1 τ2 → Q (some (.inl y1)) τ2))))))) : w_Call (xs, (d + 2)) 188 [.inr (.inr (9, 122)), .inl x1, .inl x2] σ Q :=
  (w_mk (mid := 188) (by decide) rfl rfl rfl rfl rfl (Nat.le_of_ble_eq_true rfl) ⟨rfl, Or.inl (by decide)⟩ (wi_aload0 fModel_fill_0 (wi_iload1 fModel_fill_1 (wi_call2 fModel_fill_2 (Nat.le_of_ble_eq_true rfl) (k_Model_isReaper h.1 (wi_ifb_eq fModel_fill_3 (fun c4 => (wi_bipush fModel_fill_21 (wi_ret1 fModel_fill_22 (h.2.1 c4)))) (fun c4 => (wi_iload2 fModel_fill_4 (wi_i2l fModel_fill_5 (wi_sipush fModel_fill_6 (wi_sipush fModel_fill_7 (wi_call3 fModel_fill_8 (Nat.le_of_ble_eq_true rfl) (k_Model_in (wi_ifb_eq fModel_fill_9 (fun c3 => (wi_bipush fModel_fill_21 (wi_ret1 fModel_fill_22 ((h.2.2 c4).1 c3)))) (fun c3 => (wi_aload0 fModel_fill_10 (wi_bipush fModel_fill_11 (wi_bipush fModel_fill_12 (wi_iload1 fModel_fill_13 (wi_imul fModel_fill_14 ((h.2.2 c4).2 c3).1 (wi_iadd fModel_fill_15 ((h.2.2 c4).2 c3).2.1 (wi_bipush fModel_fill_16 (wi_iadd fModel_fill_17 ((h.2.2 c4).2 c3).2.2.1 (wi_iload2 fModel_fill_18 (wi_call3 fModel_fill_19 (Nat.le_of_ble_eq_true rfl) (k_Model_becomes ((h.2.2 c4).2 c3).2.2.2.1 (fun y1 τ2 eτ2 => (wi_goto fModel_fill_20 (wi_ret1 fModel_fill_22 (((h.2.2 c4).2 c3).2.2.2.2 y1 τ2 eτ2))))))))))))))))))))))))))))))
theorem fModel_own_0 : w_fe am_c191 0 1 (.aload 0) := ⟨rfl, rfl⟩
theorem fModel_own_1 : w_fe am_c191 1 2 (.iload 1) := ⟨rfl, rfl⟩
theorem fModel_own_2 : w_fe am_c191 2 3 (.invokestatic 177) := ⟨rfl, rfl⟩
theorem fModel_own_3 : w_if am_c191 3 4 .eq 14 := ⟨rfl, rfl⟩
theorem fModel_own_4 : w_fe am_c191 4 5 (.iload 2) := ⟨rfl, rfl⟩
theorem fModel_own_5 : w_fe am_c191 5 6 (.invokestatic 183) := ⟨rfl, rfl⟩
theorem fModel_own_6 : w_if am_c191 6 7 .eq 14 := ⟨rfl, rfl⟩
theorem fModel_own_7 : w_fe am_c191 7 8 (.aload 0) := ⟨rfl, rfl⟩
theorem fModel_own_8 : w_fe am_c191 8 9 (.bipush 7) := ⟨rfl, rfl⟩
theorem fModel_own_9 : w_fe am_c191 9 10 (.iload 1) := ⟨rfl, rfl⟩
theorem fModel_own_10 : w_fe am_c191 10 11 (.iadd) := ⟨rfl, rfl⟩
theorem fModel_own_11 : w_fe am_c191 11 12 (.iload 2) := ⟨rfl, rfl⟩
theorem fModel_own_12 : w_fe am_c191 12 13 (.invokestatic 185) := ⟨rfl, rfl⟩
theorem fModel_own_13 : w_gt am_c191 13 15 := rfl
theorem fModel_own_14 : w_fe am_c191 14 15 (.bipush (-1)) := ⟨rfl, rfl⟩
theorem fModel_own_15 : w_fe am_c191 15 16 (.ireturn) := ⟨rfl, rfl⟩
set_option maxRecDepth 20000 in
theorem bModel_own_0 {xs : List Int} {d : Nat} {Q : Option w_V → w_M → Prop} {x1 : Int} {x2 : Int} {σ : w_M}
    (h : p_Model_isStrip x1 σ ∧ ((¬ (0 ≤ x1 ∧ x1 < σ 122 4) → Q (some (.inl (-1))) σ) ∧ ((0 ≤ x1 ∧ x1 < σ 122 4) → ((¬ (0 ≤ x2 ∧ x2 ≤ 3) → Q (some (.inl (-1))) σ) ∧ ((0 ≤ x2 ∧ x2 ≤ 3) → (w_in (7 + x1) ∧ p_Model_becomes (7 + x1) x2 σ ∧ (∀ (y1 : Int) (τ2 : w_M), q_Model_becomes (7 + x1) x2 σ y1 τ2 → Q (some (.inl y1)) τ2))))))) : w_Call (xs, (d + 2)) 191 [.inr (.inr (9, 122)), .inl x1, .inl x2] σ Q :=
  (w_mk (mid := 191) (by decide) rfl rfl rfl rfl rfl (Nat.le_of_ble_eq_true rfl) ⟨rfl, Or.inl (by decide)⟩ (wi_aload0 fModel_own_0 (wi_iload1 fModel_own_1 (wi_call2 fModel_own_2 (Nat.le_of_ble_eq_true rfl) (k_Model_isStrip h.1 (wi_ifb_eq fModel_own_3 (fun c4 => (wi_bipush fModel_own_14 (wi_ret1 fModel_own_15 (h.2.1 c4)))) (fun c4 => (wi_iload2 fModel_own_4 (wi_call1 fModel_own_5 (Nat.le_of_ble_eq_true rfl) (k_Model_isOwner (wi_ifb_eq fModel_own_6 (fun c3 => (wi_bipush fModel_own_14 (wi_ret1 fModel_own_15 ((h.2.2 c4).1 c3)))) (fun c3 => (wi_aload0 fModel_own_7 (wi_bipush fModel_own_8 (wi_iload1 fModel_own_9 (wi_iadd fModel_own_10 ((h.2.2 c4).2 c3).1 (wi_iload2 fModel_own_11 (wi_call3 fModel_own_12 (Nat.le_of_ble_eq_true rfl) (k_Model_becomes ((h.2.2 c4).2 c3).2.1 (fun y1 τ2 eτ2 => (wi_goto fModel_own_13 (wi_ret1 fModel_own_15 (((h.2.2 c4).2 c3).2.2 y1 τ2 eτ2)))))))))))))))))))))))
theorem fModel_grow_0 : w_fe am_c192 0 1 (.aload 0) := ⟨rfl, rfl⟩
theorem fModel_grow_1 : w_fe am_c192 1 2 (.iload 1) := ⟨rfl, rfl⟩
theorem fModel_grow_2 : w_fe am_c192 2 3 (.invokestatic 177) := ⟨rfl, rfl⟩
theorem fModel_grow_3 : w_if am_c192 3 4 .eq 17 := ⟨rfl, rfl⟩
theorem fModel_grow_4 : w_fe am_c192 4 5 (.iload 2) := ⟨rfl, rfl⟩
theorem fModel_grow_5 : w_fe am_c192 5 6 (.i2l) := ⟨rfl, rfl⟩
theorem fModel_grow_6 : w_fe am_c192 6 7 (.sipush 0) := ⟨rfl, rfl⟩
theorem fModel_grow_7 : w_fe am_c192 7 8 (.sipush 40) := ⟨rfl, rfl⟩
theorem fModel_grow_8 : w_fe am_c192 8 9 (.invokestatic 157) := ⟨rfl, rfl⟩
theorem fModel_grow_9 : w_if am_c192 9 10 .eq 17 := ⟨rfl, rfl⟩
theorem fModel_grow_10 : w_fe am_c192 10 11 (.aload 0) := ⟨rfl, rfl⟩
theorem fModel_grow_11 : w_fe am_c192 11 12 (.bipush 0) := ⟨rfl, rfl⟩
theorem fModel_grow_12 : w_fe am_c192 12 13 (.iload 1) := ⟨rfl, rfl⟩
theorem fModel_grow_13 : w_fe am_c192 13 14 (.iadd) := ⟨rfl, rfl⟩
theorem fModel_grow_14 : w_fe am_c192 14 15 (.iload 2) := ⟨rfl, rfl⟩
theorem fModel_grow_15 : w_fe am_c192 15 16 (.invokestatic 185) := ⟨rfl, rfl⟩
theorem fModel_grow_16 : w_gt am_c192 16 18 := rfl
theorem fModel_grow_17 : w_fe am_c192 17 18 (.bipush (-1)) := ⟨rfl, rfl⟩
theorem fModel_grow_18 : w_fe am_c192 18 19 (.ireturn) := ⟨rfl, rfl⟩
set_option maxRecDepth 20000 in
theorem bModel_grow_0 {xs : List Int} {d : Nat} {Q : Option w_V → w_M → Prop} {x1 : Int} {x2 : Int} {σ : w_M}
    (h : p_Model_isStrip x1 σ ∧ ((¬ (0 ≤ x1 ∧ x1 < σ 122 4) → Q (some (.inl (-1))) σ) ∧ ((0 ≤ x1 ∧ x1 < σ 122 4) → ((¬ (0 ≤ x2 ∧ x2 ≤ 40) → Q (some (.inl (-1))) σ) ∧ ((0 ≤ x2 ∧ x2 ≤ 40) → (w_in (0 + x1) ∧ p_Model_becomes (0 + x1) x2 σ ∧ (∀ (y1 : Int) (τ2 : w_M), q_Model_becomes (0 + x1) x2 σ y1 τ2 → Q (some (.inl y1)) τ2))))))) : w_Call (xs, (d + 2)) 192 [.inr (.inr (9, 122)), .inl x1, .inl x2] σ Q :=
  (w_mk (mid := 192) (by decide) rfl rfl rfl rfl rfl (Nat.le_of_ble_eq_true rfl) ⟨rfl, Or.inl (by decide)⟩ (wi_aload0 fModel_grow_0 (wi_iload1 fModel_grow_1 (wi_call2 fModel_grow_2 (Nat.le_of_ble_eq_true rfl) (k_Model_isStrip h.1 (wi_ifb_eq fModel_grow_3 (fun c4 => (wi_bipush fModel_grow_17 (wi_ret1 fModel_grow_18 (h.2.1 c4)))) (fun c4 => (wi_iload2 fModel_grow_4 (wi_i2l fModel_grow_5 (wi_sipush fModel_grow_6 (wi_sipush fModel_grow_7 (wi_call3 fModel_grow_8 (Nat.le_of_ble_eq_true rfl) (k_Model_in (wi_ifb_eq fModel_grow_9 (fun c3 => (wi_bipush fModel_grow_17 (wi_ret1 fModel_grow_18 ((h.2.2 c4).1 c3)))) (fun c3 => (wi_aload0 fModel_grow_10 (wi_bipush fModel_grow_11 (wi_iload1 fModel_grow_12 (wi_iadd fModel_grow_13 ((h.2.2 c4).2 c3).1 (wi_iload2 fModel_grow_14 (wi_call3 fModel_grow_15 (Nat.le_of_ble_eq_true rfl) (k_Model_becomes ((h.2.2 c4).2 c3).2.1 (fun y1 τ2 eτ2 => (wi_goto fModel_grow_16 (wi_ret1 fModel_grow_18 (((h.2.2 c4).2 c3).2.2 y1 τ2 eτ2))))))))))))))))))))))))))
theorem fModel_thistle_0 : w_fe am_c190 0 1 (.aload 0) := ⟨rfl, rfl⟩
theorem fModel_thistle_1 : w_fe am_c190 1 2 (.iload 1) := ⟨rfl, rfl⟩
theorem fModel_thistle_2 : w_fe am_c190 2 3 (.invokestatic 177) := ⟨rfl, rfl⟩
theorem fModel_thistle_3 : w_if am_c190 3 4 .eq 12 := ⟨rfl, rfl⟩
theorem fModel_thistle_4 : w_fe am_c190 4 5 (.aload 0) := ⟨rfl, rfl⟩
theorem fModel_thistle_5 : w_fe am_c190 5 6 (.bipush 14) := ⟨rfl, rfl⟩
theorem fModel_thistle_6 : w_fe am_c190 6 7 (.iload 1) := ⟨rfl, rfl⟩
theorem fModel_thistle_7 : w_fe am_c190 7 8 (.iadd) := ⟨rfl, rfl⟩
theorem fModel_thistle_8 : w_fe am_c190 8 9 (.iload 2) := ⟨rfl, rfl⟩
theorem fModel_thistle_9 : w_fe am_c190 9 10 (.invokestatic 179) := ⟨rfl, rfl⟩
theorem fModel_thistle_10 : w_fe am_c190 10 11 (.invokestatic 185) := ⟨rfl, rfl⟩
theorem fModel_thistle_11 : w_gt am_c190 11 13 := rfl
theorem fModel_thistle_12 : w_fe am_c190 12 13 (.bipush (-1)) := ⟨rfl, rfl⟩
theorem fModel_thistle_13 : w_fe am_c190 13 14 (.ireturn) := ⟨rfl, rfl⟩
set_option maxRecDepth 20000 in
theorem bModel_thistle_0 {xs : List Int} {d : Nat} {Q : Option w_V → w_M → Prop} {x1 : Int} {x2 : Int} {σ : w_M}
    (h : p_Model_isStrip x1 σ ∧ ((¬ (0 ≤ x1 ∧ x1 < σ 122 4) → Q (some (.inl (-1))) σ) ∧ ((0 ≤ x1 ∧ x1 < σ 122 4) → (w_in (14 + x1) ∧ (∀ (y1 : Int), y1 = v_Model_flag x2 → (p_Model_becomes (14 + x1) y1 σ ∧ (∀ (y2 : Int) (τ3 : w_M), q_Model_becomes (14 + x1) y1 σ y2 τ3 → Q (some (.inl y2)) τ3))))))) : w_Call (xs, (d + 2)) 190 [.inr (.inr (9, 122)), .inl x1, .inl x2] σ Q :=
  (w_mk (mid := 190) (by decide) rfl rfl rfl rfl rfl (Nat.le_of_ble_eq_true rfl) ⟨rfl, Or.inl (by decide)⟩ (wi_aload0 fModel_thistle_0 (wi_iload1 fModel_thistle_1 (wi_call2 fModel_thistle_2 (Nat.le_of_ble_eq_true rfl) (k_Model_isStrip h.1 (wi_ifb_eq fModel_thistle_3 (fun c4 => (wi_bipush fModel_thistle_12 (wi_ret1 fModel_thistle_13 (h.2.1 c4)))) (fun c4 => (wi_aload0 fModel_thistle_4 (wi_bipush fModel_thistle_5 (wi_iload1 fModel_thistle_6 (wi_iadd fModel_thistle_7 (h.2.2 c4).1 (wi_iload2 fModel_thistle_8 (wi_call1 fModel_thistle_9 (Nat.le_of_ble_eq_true rfl) (k_Model_flag (wi_call3 fModel_thistle_10 (Nat.le_of_ble_eq_true rfl) (k_Model_becomes ((h.2.2 c4).2 _ rfl).1 (fun y2 τ3 eτ3 => (wi_goto fModel_thistle_11 (wi_ret1 fModel_thistle_13 (((h.2.2 c4).2 _ rfl).2 y2 τ3 eτ3))))))))))))))))))))
theorem k_Model_send {xs : List Int} {d : Nat} {Q : Option w_V → w_M → Prop} {x1 : Int} {x2 : Int} {σ : w_M} (hp : p_Model_send x1 x2 σ) (hQ : ∀ (x : Int) (σ' : w_M), q_Model_send x1 x2 σ x σ' → Q (some (.inl x)) σ') : w_Call (xs, d + 2) 184 [.inr (.inr (9, 122)), .inl x1, .inl x2] σ Q := by
  have hM : MI σ := hp
  have hn := hM.n
  have h04 : w_am σ 123 0 0 4 = σ 122 4 := rfl
  unfold q_Model_send F_send G_send at hQ
  refine bModel_send_0 ⟨hn, fun c => hQ _ _ ⟨m_no hM (fun q => c q.1), Or.inl rfl⟩, fun c => ⟨hM.s, fun c2 => hQ _ _ ⟨m_no hM (fun q => c2 q.2), Or.inl rfl⟩, fun c2 => ⟨⟨by omega, by omega⟩, ⟨by omega, by omega⟩, ⟨by omega, by omega⟩, ⟨by omega, by omega⟩, fun y τ hq => hQ _ _ ?_⟩⟩⟩
  refine ⟨?_, Or.inr ⟨by omega, by rw [hq.2]; exact congrArg (fun k => w_up σ 123 k x2) (by omega)⟩⟩
  refine m_set hM ⟨c, c2⟩ (by rw [m_rl37 (by decide) (by decide)]; omega) (by show _ = 0 + (24 + 5 * x1.toNat); omega) ?_ hq.2 hq.1
  refine n_WF_up hM.ok ?_ ?_ ?_ ?_ ?_ ?_ ?_ ?_ <;> (intros; omega)
theorem k_Model_whet {xs : List Int} {d : Nat} {Q : Option w_V → w_M → Prop} {x1 : Int} {x2 : Int} {σ : w_M} (hp : p_Model_whet x1 x2 σ) (hQ : ∀ (x : Int) (σ' : w_M), q_Model_whet x1 x2 σ x σ' → Q (some (.inl x)) σ') : w_Call (xs, d + 2) 187 [.inr (.inr (9, 122)), .inl x1, .inl x2] σ Q := by
  have hM : MI σ := hp
  have hn := hM.n
  unfold q_Model_whet F_whet G_whet at hQ
  refine bModel_whet_0 ⟨hn, fun c => hQ _ _ (m_no hM (fun q => c q.1)), fun c => ⟨fun c2 => hQ _ _ (m_no hM (fun q => c2 q.2)), fun c2 => ⟨⟨by omega, by omega⟩, ⟨by omega, by omega⟩, ⟨by omega, by omega⟩, ⟨by omega, by omega⟩, fun y τ hq => hQ _ _ ?_⟩⟩⟩
  refine m_set hM ⟨c, c2⟩ (by rw [m_rl37 (by decide) (by decide)]; omega) (by show _ = 0 + (23 + 5 * x1.toNat); omega) ?_ hq.2 hq.1
  refine n_WF_up hM.ok ?_ ?_ ?_ ?_ ?_ ?_ ?_ ?_ <;> (intros; omega)
theorem k_Model_fill {xs : List Int} {d : Nat} {Q : Option w_V → w_M → Prop} {x1 : Int} {x2 : Int} {σ : w_M} (hp : p_Model_fill x1 x2 σ) (hQ : ∀ (x : Int) (σ' : w_M), q_Model_fill x1 x2 σ x σ' → Q (some (.inl x)) σ') : w_Call (xs, d + 2) 188 [.inr (.inr (9, 122)), .inl x1, .inl x2] σ Q := by
  have hM : MI σ := hp
  have hn := hM.n
  unfold q_Model_fill F_fill G_fill at hQ
  refine bModel_fill_0 ⟨hn, fun c => hQ _ _ (m_no hM (fun q => c q.1)), fun c => ⟨fun c2 => hQ _ _ (m_no hM (fun q => c2 q.2)), fun c2 => ⟨⟨by omega, by omega⟩, ⟨by omega, by omega⟩, ⟨by omega, by omega⟩, ⟨by omega, by omega⟩, fun y τ hq => hQ _ _ ?_⟩⟩⟩
  refine m_set hM ⟨c, c2⟩ (by rw [m_rl37 (by decide) (by decide)]; omega) (by show _ = 0 + (22 + 5 * x1.toNat); omega) ?_ hq.2 hq.1
  refine n_WF_up hM.ok ?_ ?_ ?_ ?_ ?_ ?_ ?_ ?_ <;> (intros; omega)
theorem k_Model_own {xs : List Int} {d : Nat} {Q : Option w_V → w_M → Prop} {x1 : Int} {x2 : Int} {σ : w_M} (hp : p_Model_own x1 x2 σ) (hQ : ∀ (x : Int) (σ' : w_M), q_Model_own x1 x2 σ x σ' → Q (some (.inl x)) σ') : w_Call (xs, d + 2) 191 [.inr (.inr (9, 122)), .inl x1, .inl x2] σ Q := by
  have hM : MI σ := hp
  have hn := hM.s
  unfold q_Model_own F_own G_own at hQ
  refine bModel_own_0 ⟨hn, fun c => hQ _ _ (m_no hM (fun q => c q.1)), fun c => ⟨fun c2 => hQ _ _ (m_no hM (fun q => c2 q.2)), fun c2 => ⟨⟨by omega, by omega⟩, ⟨by omega, by omega⟩, fun y τ hq => hQ _ _ ?_⟩⟩⟩
  refine m_set hM ⟨c, c2⟩ (by rw [m_rl12 (by decide) (by decide)]; omega) (by show _ = 0 + (7 + x1.toNat); omega) ?_ hq.2 hq.1
  refine n_WF_up hM.ok ?_ ?_ ?_ ?_ ?_ ?_ ?_ ?_ <;> (intros; omega)
theorem k_Model_grow {xs : List Int} {d : Nat} {Q : Option w_V → w_M → Prop} {x1 : Int} {x2 : Int} {σ : w_M} (hp : p_Model_grow x1 x2 σ) (hQ : ∀ (x : Int) (σ' : w_M), q_Model_grow x1 x2 σ x σ' → Q (some (.inl x)) σ') : w_Call (xs, d + 2) 192 [.inr (.inr (9, 122)), .inl x1, .inl x2] σ Q := by
  have hM : MI σ := hp
  have hn := hM.s
  unfold q_Model_grow F_grow G_grow at hQ
  refine bModel_grow_0 ⟨hn, fun c => hQ _ _ (m_no hM (fun q => c q.1)), fun c => ⟨fun c2 => hQ _ _ (m_no hM (fun q => c2 q.2)), fun c2 => ⟨⟨by omega, by omega⟩, ⟨by omega, by omega⟩, fun y τ hq => hQ _ _ ?_⟩⟩⟩
  refine m_set hM ⟨c, c2⟩ (by rw [m_rl12 (by decide) (by decide)]; omega) (by show _ = 0 + x1.toNat; omega) ?_ hq.2 hq.1
  refine n_WF_up hM.ok ?_ ?_ ?_ ?_ ?_ ?_ ?_ ?_ <;> (intros; omega)
theorem k_Model_thistle {xs : List Int} {d : Nat} {Q : Option w_V → w_M → Prop} {x1 : Int} {x2 : Int} {σ : w_M} (hp : p_Model_thistle x1 x2 σ) (hQ : ∀ (x : Int) (σ' : w_M), q_Model_thistle x1 x2 σ x σ' → Q (some (.inl x)) σ') : w_Call (xs, d + 2) 190 [.inr (.inr (9, 122)), .inl x1, .inl x2] σ Q := by
  obtain ⟨hM, hb⟩ := hp
  have hn := hM.s
  unfold q_Model_thistle F_thistle G_thistle at hQ
  refine bModel_thistle_0 ⟨hn, fun c => hQ _ _ (m_no hM c), fun c => ⟨⟨by omega, by omega⟩, fun y ey => ⟨⟨by omega, by omega⟩, fun z τ hq => hQ _ _ ?_⟩⟩⟩
  have e : y = x2 := by rw [ey]; unfold v_Model_flag; rcases hb with rfl | rfl <;> rfl
  rw [e] at hq
  refine m_set hM c (by rw [m_rl9]; omega) (by show _ = 0 + (14 + x1.toNat); omega) ?_ hq.2 hq.1
  refine n_WF_up hM.ok ?_ ?_ ?_ ?_ ?_ ?_ ?_ ?_ <;> (intros; omega)
