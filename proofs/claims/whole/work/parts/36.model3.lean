/-! The reference's calls: the text, what is told, what is changed, hours -/
theorem MI.ta {σ : w_M} (h : MI σ) : 0 ≤ σ 122 15 ∧ σ 122 15 ≤ 160 := h.2.2.2.1.1
theorem m_q3 {σ σ' : w_M} {T : w_M} {F x : Int} (hM : MI σ) (h122 : ∀ j, j = 3 ∨ j = 4 ∨ j = 5 → σ' 122 j = σ 122 j) (h : ∀ b, b = 123 ∨ b = 125 ∨ b = 130 ∨ b = 131 ∨ b = 132 → σ' b = σ b) (hl : ∀ b, b < 122 → σ' b = σ b) (h27 : σ' 122 27 = σ 122 27) (hT : t_am σ' = T) (hW : taWF T) (hx : x = F) : m_q F (w_sp (mS σ) 3 T) σ x σ' := by
  have e : mS σ' = w_sp (mS σ) 3 T := by rw [mS_part3 hM h122 h, hT]
  exact ⟨hx, by unfold MI; rw [e]; exact sWF_3 hM hW, e, hl, h27⟩
def p_Model_feed (_x1 : Int) (σ : w_M) : Prop := MI σ
def q_Model_feed (x1 : Int) (σ : w_M) (x : Int) (σ' : w_M) : Prop := m_q (F_feed (mS σ) x1) (G_feed (mS σ) x1) σ x σ'
theorem f157_0 : w_fe am_c157 0 1 (.iload 1) := ⟨rfl, rfl⟩
theorem f157_1 : w_fe am_c157 1 2 (.i2l) := ⟨rfl, rfl⟩
theorem f157_2 : w_fe am_c157 2 3 (.sipush 0) := ⟨rfl, rfl⟩
theorem f157_3 : w_fe am_c157 3 4 (.sipush 127) := ⟨rfl, rfl⟩
theorem f157_4 : w_fe am_c157 4 5 (.invokestatic 158) := ⟨rfl, rfl⟩
theorem f157_5 : w_if am_c157 5 6 .ne 8 := ⟨rfl, rfl⟩
theorem f157_6 : w_fe am_c157 6 7 (.bipush (-1)) := ⟨rfl, rfl⟩
theorem f157_7 : w_fe am_c157 7 8 (.ireturn) := ⟨rfl, rfl⟩
theorem f157_8 : w_fe am_c157 8 9 (.aload 0) := ⟨rfl, rfl⟩
theorem f157_9 : w_fe am_c157 9 10 (.getfield 915) := ⟨rfl, rfl⟩
theorem f157_10 : w_fe am_c157 10 11 (.bipush 160) := ⟨rfl, rfl⟩
theorem f157_11 : w_ic am_c157 11 12 .ne 14 := ⟨rfl, rfl⟩
theorem f157_12 : w_fe am_c157 12 13 (.bipush (-3)) := ⟨rfl, rfl⟩
theorem f157_13 : w_fe am_c157 13 14 (.ireturn) := ⟨rfl, rfl⟩
theorem f157_14 : w_fe am_c157 14 15 (.aload 0) := ⟨rfl, rfl⟩
theorem f157_15 : w_fe am_c157 15 16 (.getfield 914) := ⟨rfl, rfl⟩
theorem f157_16 : w_fe am_c157 16 17 (.aload 0) := ⟨rfl, rfl⟩
theorem f157_17 : w_fe am_c157 17 18 (.getfield 915) := ⟨rfl, rfl⟩
theorem f157_18 : w_fe am_c157 18 19 (.iload 1) := ⟨rfl, rfl⟩
theorem f157_19 : w_fe am_c157 19 20 (.iastore) := ⟨rfl, rfl⟩
theorem f157_20 : w_fe am_c157 20 21 (.aload 0) := ⟨rfl, rfl⟩
theorem f157_21 : w_fe am_c157 21 22 (.dup) := ⟨rfl, rfl⟩
theorem f157_22 : w_fe am_c157 22 23 (.getfield 915) := ⟨rfl, rfl⟩
theorem f157_23 : w_fe am_c157 23 24 (.bipush 1) := ⟨rfl, rfl⟩
theorem f157_24 : w_fe am_c157 24 25 (.iadd) := ⟨rfl, rfl⟩
theorem f157_25 : w_fe am_c157 25 26 (.putfield 915) := ⟨rfl, rfl⟩
theorem f157_26 : w_fe am_c157 26 27 (.aload 0) := ⟨rfl, rfl⟩
theorem f157_27 : w_fe am_c157 27 28 (.getfield 915) := ⟨rfl, rfl⟩
theorem f157_28 : w_fe am_c157 28 29 (.ireturn) := ⟨rfl, rfl⟩
set_option maxRecDepth 20000 in
theorem b157_0 {xs : List Int} {d : Nat} {Q : Option w_V → w_M → Prop} {x1 : Int} {σ : w_M}
    (h : ((0 ≤ x1 ∧ x1 ≤ 127) → ((¬ (σ 122 15) = 160 → (0 ≤ (σ 122 15) ∧ (σ 122 15) < 160 ∧ (∀ (τ1 : w_M), τ1 = w_up σ 127 (σ 122 15).toNat x1 → (w_in ((τ1 122 15) + 1) ∧ (∀ (τ2 : w_M), τ2 = w_up τ1 122 15 ((τ1 122 15) + 1) → Q (some (.inl (τ2 122 15))) τ2))))) ∧ ((σ 122 15) = 160 → Q (some (.inl (-3))) σ))) ∧ (¬ (0 ≤ x1 ∧ x1 ≤ 127) → Q (some (.inl (-1))) σ)) : w_Call (xs, (d + 1)) 157 [.inr (.inr (9, 122)), .inl x1] σ Q :=
  (w_mk (mid := 157) (by decide) rfl rfl rfl rfl rfl (Nat.le_of_ble_eq_true rfl) ⟨rfl, Or.inl (by decide)⟩ (wi_iload1 f157_0 (wi_i2l f157_1 (wi_sipush f157_2 (wi_sipush f157_3 (wi_call3 f157_4 (Nat.le_of_ble_eq_true rfl) (k_Model_in (wi_ifb_ne f157_5 (fun c4 => (wi_aload0 f157_8 (wi_getf915 f157_9 (wi_bipush f157_10 (wi_ic_ne f157_11 (fun c3 => (wi_aload0 f157_14 (wi_getf914 f157_15 (wi_aload0 f157_16 (wi_getf915 f157_17 (wi_iload1 f157_18 (wi_iast1160 f157_19 ((h.1 c4).1 c3).1 ((h.1 c4).1 c3).2.1 (wi_aload0 f157_20 (wi_dup_a f157_21 (wi_getf915 f157_22 (wi_bipush f157_23 (wi_iadd f157_24 (((h.1 c4).1 c3).2.2 _ rfl).1 (wi_putf915 f157_25 (wi_aload0 f157_26 (wi_getf915 f157_27 (wi_ret1 f157_28 ((((h.1 c4).1 c3).2.2 _ rfl).2 _ rfl))))))))))))))))) (fun c3 => (wi_bipush f157_12 (wi_ret1 f157_13 ((h.1 c4).2 c3))))))))) (fun c4 => (wi_bipush f157_6 (wi_ret1 f157_7 (h.2 c4))))))))))))
theorem k_Model_feed {xs : List Int} {d : Nat} {Q : Option w_V → w_M → Prop} {x1 : Int} {σ : w_M} (hp : p_Model_feed x1 σ) (hQ : ∀ (x : Int) (σ' : w_M), q_Model_feed x1 σ x σ' → Q (some (.inl x)) σ') : w_Call (xs, d + 1) 157 [.inr (.inr (9, 122)), .inl x1] σ Q := by
  have hM : MI σ := hp
  have hl := hM.ta
  unfold q_Model_feed F_feed G_feed at hQ
  have el : mS σ 3 0 0 = σ 122 15 := rfl
  rw [el] at hQ
  refine b157_0 ⟨fun c => ⟨fun c2 => ⟨by omega, by omega, fun τ1 t1 => ?_⟩, fun c2 => ?_⟩, fun c => ?_⟩
  · have z1 : τ1 122 = σ 122 := by rw [t1]; exact w_up_ne (by decide)
    rw [z1]
    refine ⟨⟨by omega, by omega⟩, fun τ t => ?_⟩
    have c3 : σ 122 15 < 160 := by omega
    rw [if_pos c, if_pos c3, if_pos ⟨c, c3⟩] at hQ
    refine hQ _ _ (m_q3 hM (fun j hj => ?_) (fun b hb => ?_) (fun b hb => ?_) (by rw [t, w_up_j (by decide), z1]) ?_ (ta_up hM.2.2.2.1 c c3) ?_)
    · rw [t, w_up_j (by omega), z1]
    · rw [t, w_up_ne (by omega), t1, w_up_ne (by omega)]
    · rw [t, w_up_ne (by omega), t1, w_up_ne (by omega)]
    · have e1 : τ 122 15 = σ 122 15 + 1 := by rw [t]; exact w_up_at
      have e20 : τ 122 20 = σ 122 20 := by rw [t, w_up_j (by decide), z1]
      have e2 : τ 127 = w_up σ 127 (σ 122 15).toNat x1 127 := by rw [t, w_up_ne (by decide), t1]
      funext d i
      by_cases hd0 : d = 0
      · subst hd0
        by_cases hi : i = 0
        · subst hi
          show τ 122 15 = _
          rw [e1]
          exact w_up_at.symm
        · show (if i = 0 then τ 122 15 else if i = 1 then τ 122 20 else 0) = w_up _ 0 0 _ 0 i
          rw [if_neg hi, e20, w_up_j hi, w_up_ne (by decide)]
          show _ = (if i = 0 then σ 122 15 else if i = 1 then σ 122 20 else 0)
          rw [if_neg hi]
      · rw [w_up_ne (show d ≠ 0 from hd0)]
        by_cases hd1 : d = 1
        · subst hd1
          show (if i < (τ 122 15).toNat then τ 127 i else 0) = _
          rw [e1, e2, w_up_eq, w_up_eq]
          show _ = if 1 = 1 ∧ i = (σ 122 15).toNat then x1 else if i < (σ 122 15).toNat then σ 127 i else 0
          by_cases hi : i = (σ 122 15).toNat
          · rw [if_pos (by omega), if_pos ⟨rfl, hi⟩, if_pos ⟨rfl, hi⟩]
          · rw [if_neg (show ¬ (127 = 127 ∧ i = (σ 122 15).toNat) from fun e => hi e.2), if_neg (show ¬ (1 = 1 ∧ i = (σ 122 15).toNat) from fun e => hi e.2)]
            by_cases hlt : i < (σ 122 15).toNat
            · rw [if_pos (by omega), if_pos hlt]
            · rw [if_neg (by omega), if_neg hlt]
        · rw [w_up_ne (show d ≠ 1 from hd1)]
          show (if d = 0 then _ else if d = 1 then _ else 0) = (if d = 0 then _ else if d = 1 then _ else 0)
          rw [if_neg hd0, if_neg hd1, if_neg hd0, if_neg hd1]
    · rw [t]; exact w_up_at
  · rw [if_pos c, if_neg (by omega), if_neg (by omega)] at hQ
    exact hQ _ _ (m_qr hM rfl)
  · rw [if_neg c, if_neg (fun q => c q.1)] at hQ
    exact hQ _ _ (m_qr hM rfl)
def p_Model_end (_x1 : Int) (σ : w_M) : Prop := MI σ
def q_Model_end (x1 : Int) (σ : w_M) (x : Int) (σ' : w_M) : Prop := m_q (F_end (mS σ) x1) (G_end (mS σ) x1) σ x σ'
theorem f159_0 : w_fe am_c159 0 1 (.iload 1) := ⟨rfl, rfl⟩
theorem f159_1 : w_fe am_c159 1 2 (.i2l) := ⟨rfl, rfl⟩
theorem f159_2 : w_fe am_c159 2 3 (.sipush 0) := ⟨rfl, rfl⟩
theorem f159_3 : w_fe am_c159 3 4 (.aload 0) := ⟨rfl, rfl⟩
theorem f159_4 : w_fe am_c159 4 5 (.getfield 915) := ⟨rfl, rfl⟩
theorem f159_5 : w_fe am_c159 5 6 (.i2l) := ⟨rfl, rfl⟩
theorem f159_6 : w_fe am_c159 6 7 (.invokestatic 158) := ⟨rfl, rfl⟩
theorem f159_7 : w_if am_c159 7 8 .ne 10 := ⟨rfl, rfl⟩
theorem f159_8 : w_fe am_c159 8 9 (.bipush (-1)) := ⟨rfl, rfl⟩
theorem f159_9 : w_fe am_c159 9 10 (.ireturn) := ⟨rfl, rfl⟩
theorem f159_10 : w_fe am_c159 10 11 (.aload 0) := ⟨rfl, rfl⟩
theorem f159_11 : w_fe am_c159 11 12 (.getfield 915) := ⟨rfl, rfl⟩
theorem f159_12 : w_fe am_c159 12 13 (.istore 2) := ⟨rfl, rfl⟩
theorem f159_13 : w_fe am_c159 13 14 (.aload 0) := ⟨rfl, rfl⟩
theorem f159_14 : w_fe am_c159 14 15 (.iload 1) := ⟨rfl, rfl⟩
theorem f159_15 : w_fe am_c159 15 16 (.putfield 915) := ⟨rfl, rfl⟩
theorem f159_16 : w_fe am_c159 16 17 (.iload 2) := ⟨rfl, rfl⟩
theorem f159_17 : w_fe am_c159 17 18 (.ireturn) := ⟨rfl, rfl⟩
set_option maxRecDepth 20000 in
theorem b159_0 {xs : List Int} {d : Nat} {Q : Option w_V → w_M → Prop} {x1 : Int} {σ : w_M}
    (h : ((0 ≤ x1 ∧ x1 ≤ (σ 122 15)) → ∀ (y1 : Int), y1 = (σ 122 15) → ∀ (τ2 : w_M), τ2 = w_up σ 122 15 x1 → Q (some (.inl y1)) τ2) ∧ (¬ (0 ≤ x1 ∧ x1 ≤ (σ 122 15)) → Q (some (.inl (-1))) σ)) : w_Call (xs, (d + 1)) 159 [.inr (.inr (9, 122)), .inl x1] σ Q :=
  (w_mk (mid := 159) (by decide) rfl rfl rfl rfl rfl (Nat.le_of_ble_eq_true rfl) ⟨rfl, Or.inl (by decide)⟩ (wi_iload1 f159_0 (wi_i2l f159_1 (wi_sipush f159_2 (wi_aload0 f159_3 (wi_getf915 f159_4 (wi_i2l f159_5 (wi_call3 f159_6 (Nat.le_of_ble_eq_true rfl) (k_Model_in (wi_ifb_ne f159_7 (fun c3 => (wi_aload0 f159_10 (wi_getf915 f159_11 (wi_istore2 f159_12 trivial (wi_aload0 f159_13 (wi_iload1 f159_14 (wi_putf915 f159_15 (wi_iload2 f159_16 (wi_ret1 f159_17 (((h.1 c3) _ rfl) _ rfl)))))))))) (fun c3 => (wi_bipush f159_8 (wi_ret1 f159_9 (h.2 c3))))))))))))))
theorem k_Model_end {xs : List Int} {d : Nat} {Q : Option w_V → w_M → Prop} {x1 : Int} {σ : w_M} (hp : p_Model_end x1 σ) (hQ : ∀ (x : Int) (σ' : w_M), q_Model_end x1 σ x σ' → Q (some (.inl x)) σ') : w_Call (xs, d + 1) 159 [.inr (.inr (9, 122)), .inl x1] σ Q := by
  have hM : MI σ := hp
  have hl := hM.ta
  unfold q_Model_end F_end G_end at hQ
  have el : mS σ 3 0 0 = σ 122 15 := rfl
  rw [el] at hQ
  refine b159_0 ⟨fun c y e τ t => ?_, fun c => ?_⟩
  · rw [if_pos c, if_pos c] at hQ
    refine hQ _ _ (m_q3 hM (fun j hj => by rw [t, w_up_j (by omega)]) (fun b hb => by rw [t, w_up_ne (by omega)]) (fun b hb => by rw [t, w_up_ne (by omega)]) (by rw [t, w_up_j (by decide)]) ?_ (t_cut_WF hM.2.2.2.1 c) e)
    have e1 : τ 122 15 = x1 := by rw [t]; exact w_up_at
    have e20 : τ 122 20 = σ 122 20 := by rw [t, w_up_j (by decide)]
    have e2 : τ 127 = σ 127 := by rw [t, w_up_ne (by decide)]
    funext d i
    unfold t_am t_cut
    rw [e1, e20, e2]
    by_cases hd1 : d = 1
    · subst hd1
      show (if i < x1.toNat then σ 127 i else 0) = if i < x1.toNat then (if i < (σ 122 15).toNat then σ 127 i else 0) else 0
      by_cases hi : i < x1.toNat
      · rw [if_pos hi, if_pos hi, if_pos (by omega)]
      · rw [if_neg hi, if_neg hi]
    · rw [if_neg hd1, if_neg hd1]
      by_cases hd0 : d = 0
      · subst hd0
        by_cases hi : i = 0
        · subst hi; rfl
        · rw [if_pos rfl, if_neg hi, if_neg (show ¬ ((0 : Nat) = 0 ∧ i = 0) from fun q => hi q.2)]
          show _ = (if i = 0 then σ 122 15 else if i = 1 then σ 122 20 else 0)
          rw [if_neg hi]
      · rw [if_neg hd0, if_neg (fun q => hd0 q.1)]
        show 0 = if d = 0 then _ else if d = 1 then _ else 0
        rw [if_neg hd0, if_neg hd1]
  · rw [if_neg c, if_neg c] at hQ
    exact hQ _ _ (m_qr hM rfl)
def p_Model_fault  (σ : w_M) : Prop := MI σ
def q_Model_fault  (σ : w_M) (x : Int) (σ' : w_M) : Prop := m_q (F_fault (mS σ)) (mS σ) σ x σ'
def p_Model_torn (_ : w_M) : Prop := True
def q_Model_torn (σ : w_M) (x : Int) (σ' : w_M) : Prop := x = σ 122 27 ∧ σ' = σ
theorem f173_0 : w_fe am_c173 0 1 (.aload 0) := ⟨rfl, rfl⟩
theorem f173_1 : w_fe am_c173 1 2 (.getfield 920) := ⟨rfl, rfl⟩
theorem f173_2 : w_fe am_c173 2 3 (.ireturn) := ⟨rfl, rfl⟩
set_option maxRecDepth 20000 in
theorem b173_0 {xs : List Int} {d : Nat} {Q : Option w_V → w_M → Prop}  {σ : w_M}
    (h : Q (some (.inl (σ 122 20))) σ) : w_Call (xs, d) 173 [.inr (.inr (9, 122))] σ Q :=
  (w_mk (mid := 173) (by decide) rfl rfl rfl rfl rfl (Nat.le_of_ble_eq_true rfl) ⟨rfl, Or.inl (by decide)⟩ (wi_aload0 f173_0 (wi_getf920 f173_1 (wi_ret1 f173_2 h))))
theorem f238_0 : w_fe am_c238 0 1 (.aload 0) := ⟨rfl, rfl⟩
theorem f238_1 : w_fe am_c238 1 2 (.getfield 927) := ⟨rfl, rfl⟩
theorem f238_2 : w_fe am_c238 2 3 (.ireturn) := ⟨rfl, rfl⟩
set_option maxRecDepth 20000 in
theorem b238_0 {xs : List Int} {d : Nat} {Q : Option w_V → w_M → Prop}  {σ : w_M}
    (h : Q (some (.inl (σ 122 27))) σ) : w_Call (xs, d) 238 [.inr (.inr (9, 122))] σ Q :=
  (w_mk (mid := 238) (by decide) rfl rfl rfl rfl rfl (Nat.le_of_ble_eq_true rfl) ⟨rfl, Or.inl (by decide)⟩ (wi_aload0 f238_0 (wi_getf927 f238_1 (wi_ret1 f238_2 h))))
theorem k_Model_fault {xs : List Int} {d : Nat} {Q : Option w_V → w_M → Prop}  {σ : w_M} (hp : p_Model_fault σ) (hQ : ∀ (x : Int) (σ' : w_M), q_Model_fault σ x σ' → Q (some (.inl x)) σ') : w_Call (xs, d) 173 [.inr (.inr (9, 122))] σ Q := b173_0 (hQ _ _ (m_qr hp rfl))
theorem k_Model_torn {xs : List Int} {d : Nat} {Q : Option w_V → w_M → Prop}  {σ : w_M} (hp : p_Model_torn σ) (hQ : ∀ (x : Int) (σ' : w_M), q_Model_torn σ x σ' → Q (some (.inl x)) σ') : w_Call (xs, d) 238 [.inr (.inr (9, 122))] σ Q := b238_0 (hQ _ _ ⟨rfl, rfl⟩)
def p_Model_rule (_x1 : Int) (σ : w_M) : Prop := MI σ
def q_Model_rule (x1 : Int) (σ : w_M) (x : Int) (σ' : w_M) : Prop := m_q (F_rule (mS σ) x1) (mS σ) σ x σ'
theorem f174_0 : w_fe am_c174 0 1 (.aload 0) := ⟨rfl, rfl⟩
theorem f174_1 : w_fe am_c174 1 2 (.invokestatic 175) := ⟨rfl, rfl⟩
theorem f174_2 : w_fe am_c174 2 3 (.iload 1) := ⟨rfl, rfl⟩
theorem f174_3 {E : w_C} {rt : Nat} {Q : Option w_V → w_M → Prop} {ls : w_L} {st : List w_V} {σ : w_M} {x : Int} (h0 : x = 0 → w_Ex E rt am_c174 Q 4 ls st σ) (h1 : x = 1 → w_Ex E rt am_c174 Q 7 ls st σ) (h2 : x = 2 → w_Ex E rt am_c174 Q 12 ls st σ) (h3 : x = 3 → w_Ex E rt am_c174 Q 17 ls st σ) (h4 : x = 4 → w_Ex E rt am_c174 Q 20 ls st σ) (h5 : x = 5 → w_Ex E rt am_c174 Q 23 ls st σ) (h6 : x = 6 → w_Ex E rt am_c174 Q 28 ls st σ) (hd : x < 0 ∨ 6 < x → w_Ex E rt am_c174 Q 31 ls st σ) : w_Ex E rt am_c174 Q 3 ls (.inl x :: st) σ :=
  w_Ex_in (op := .tableswitch 31 0 6 #[4, 7, 12, 17, 20, 23, 28]) rfl ⟨rfl, hd, And.intro h0 (And.intro h1 (And.intro h2 (And.intro h3 (And.intro h4 (And.intro h5 (And.intro h6 ( trivial)))))))⟩
theorem f174_4 : w_fe am_c174 4 5 (.aload 0) := ⟨rfl, rfl⟩
theorem f174_5 : w_fe am_c174 5 6 (.getfield 903) := ⟨rfl, rfl⟩
theorem f174_6 : w_fe am_c174 6 7 (.ireturn) := ⟨rfl, rfl⟩
theorem f174_7 : w_fe am_c174 7 8 (.aload 0) := ⟨rfl, rfl⟩
theorem f174_8 : w_fe am_c174 8 9 (.getfield 900) := ⟨rfl, rfl⟩
theorem f174_9 : w_fe am_c174 9 10 (.bipush 42) := ⟨rfl, rfl⟩
theorem f174_10 : w_fe am_c174 10 11 (.iaload) := ⟨rfl, rfl⟩
theorem f174_11 : w_fe am_c174 11 12 (.ireturn) := ⟨rfl, rfl⟩
theorem f174_12 : w_fe am_c174 12 13 (.aload 0) := ⟨rfl, rfl⟩
theorem f174_13 : w_fe am_c174 13 14 (.getfield 900) := ⟨rfl, rfl⟩
theorem f174_14 : w_fe am_c174 14 15 (.bipush 41) := ⟨rfl, rfl⟩
theorem f174_15 : w_fe am_c174 15 16 (.iaload) := ⟨rfl, rfl⟩
theorem f174_16 : w_fe am_c174 16 17 (.ireturn) := ⟨rfl, rfl⟩
theorem f174_17 : w_fe am_c174 17 18 (.aload 0) := ⟨rfl, rfl⟩
theorem f174_18 : w_fe am_c174 18 19 (.getfield 904) := ⟨rfl, rfl⟩
theorem f174_19 : w_fe am_c174 19 20 (.ireturn) := ⟨rfl, rfl⟩
theorem f174_20 : w_fe am_c174 20 21 (.aload 0) := ⟨rfl, rfl⟩
theorem f174_21 : w_fe am_c174 21 22 (.getfield 905) := ⟨rfl, rfl⟩
theorem f174_22 : w_fe am_c174 22 23 (.ireturn) := ⟨rfl, rfl⟩
theorem f174_23 : w_fe am_c174 23 24 (.aload 0) := ⟨rfl, rfl⟩
theorem f174_24 : w_fe am_c174 24 25 (.getfield 900) := ⟨rfl, rfl⟩
theorem f174_25 : w_fe am_c174 25 26 (.bipush 47) := ⟨rfl, rfl⟩
theorem f174_26 : w_fe am_c174 26 27 (.iaload) := ⟨rfl, rfl⟩
theorem f174_27 : w_fe am_c174 27 28 (.ireturn) := ⟨rfl, rfl⟩
theorem f174_28 : w_fe am_c174 28 29 (.aload 0) := ⟨rfl, rfl⟩
theorem f174_29 : w_fe am_c174 29 30 (.invokestatic 176) := ⟨rfl, rfl⟩
theorem f174_30 : w_fe am_c174 30 31 (.ireturn) := ⟨rfl, rfl⟩
theorem f174_31 : w_fe am_c174 31 32 (.bipush (-1)) := ⟨rfl, rfl⟩
theorem f174_32 : w_fe am_c174 32 33 (.ireturn) := ⟨rfl, rfl⟩
set_option maxRecDepth 20000 in
theorem b174_0 {xs : List Int} {d : Nat} {Q : Option w_V → w_M → Prop} {x1 : Int} {σ : w_M}
    (h : p_Model_starts σ ∧ (∀ (τ1 : w_M), q_Model_starts σ τ1 → ((x1 = 0 → Q (some (.inl (τ1 122 3))) τ1) ∧ (x1 = 1 → Q (some (.inl (τ1 123 42))) τ1) ∧ (x1 = 2 → Q (some (.inl (τ1 123 41))) τ1) ∧ (x1 = 3 → Q (some (.inl (τ1 122 4))) τ1) ∧ (x1 = 4 → Q (some (.inl (τ1 122 5))) τ1) ∧ (x1 = 5 → Q (some (.inl (τ1 123 47))) τ1) ∧ (x1 = 6 → (p_Model_standing τ1 ∧ (∀ (y2 : Int), y2 = v_Model_standing τ1 → Q (some (.inl y2)) τ1))) ∧ (x1 < 0 ∨ 6 < x1 → Q (some (.inl (-1))) τ1)))) : w_Call (xs, (d + 1)) 174 [.inr (.inr (9, 122)), .inl x1] σ Q :=
  (w_mk (mid := 174) (by decide) rfl rfl rfl rfl rfl (Nat.le_of_ble_eq_true rfl) ⟨rfl, Or.inl (by decide)⟩ (wi_aload0 f174_0 (wi_call1 f174_1 (Nat.le_of_ble_eq_true rfl) (k_Model_starts h.1 (fun τ1 eτ1 => (wi_iload1 f174_2 (f174_3 (fun c => (wi_aload0 f174_4 (wi_getf903 f174_5 (wi_ret1 f174_6 ((h.2 τ1 eτ1).1 c))))) (fun c => (wi_aload0 f174_7 (wi_getf900 f174_8 (wi_bipush f174_9 (wi_iald1246 f174_10 (by decide) (by decide) (wi_ret1 f174_11 ((h.2 τ1 eτ1).2.1 c))))))) (fun c => (wi_aload0 f174_12 (wi_getf900 f174_13 (wi_bipush f174_14 (wi_iald1246 f174_15 (by decide) (by decide) (wi_ret1 f174_16 ((h.2 τ1 eτ1).2.2.1 c))))))) (fun c => (wi_aload0 f174_17 (wi_getf904 f174_18 (wi_ret1 f174_19 ((h.2 τ1 eτ1).2.2.2.1 c))))) (fun c => (wi_aload0 f174_20 (wi_getf905 f174_21 (wi_ret1 f174_22 ((h.2 τ1 eτ1).2.2.2.2.1 c))))) (fun c => (wi_aload0 f174_23 (wi_getf900 f174_24 (wi_bipush f174_25 (wi_iald1246 f174_26 (by decide) (by decide) (wi_ret1 f174_27 ((h.2 τ1 eτ1).2.2.2.2.2.1 c))))))) (fun c => (wi_aload0 f174_28 (wi_call1 f174_29 (Nat.le_of_ble_eq_true rfl) (k_Model_standing ((h.2 τ1 eτ1).2.2.2.2.2.2.1 c).1 (wi_ret1 f174_30 (((h.2 τ1 eτ1).2.2.2.2.2.2.1 c).2 _ rfl)))))) (fun c => (wi_bipush f174_31 (wi_ret1 f174_32 ((h.2 τ1 eτ1).2.2.2.2.2.2.2 c)))))))))))
theorem k_Model_rule {xs : List Int} {d : Nat} {Q : Option w_V → w_M → Prop} {x1 : Int} {σ : w_M} (hp : p_Model_rule x1 σ) (hQ : ∀ (x : Int) (σ' : w_M), q_Model_rule x1 σ x σ' → Q (some (.inl x)) σ') : w_Call (xs, d + 1) 174 [.inr (.inr (9, 122)), .inl x1] σ Q := by
  have hM : MI σ := hp
  unfold q_Model_rule F_rule at hQ
  refine b174_0 ⟨hM.sm, fun τ hq => ?_⟩
  obtain ⟨q1, q2, q3⟩ := hq
  have z2 : τ 122 = σ 122 := q2 122 (by decide)
  have z3 : τ 123 = σ 123 := q2 123 (by decide)
  rw [z2, z3]
  refine ⟨fun c => ?_, fun c => ?_, fun c => ?_, fun c => ?_, fun c => ?_, fun c => ?_, fun c => ⟨by show n_WF _; rw [q1]; exact hM.ok, fun y e => ?_⟩, fun c => ?_⟩
  · rw [if_pos c] at hQ; exact hQ _ _ (m_qs hM q2 rfl)
  · rw [if_neg (by omega), if_pos c] at hQ; exact hQ _ _ (m_qs hM q2 rfl)
  · rw [if_neg (by omega), if_neg (by omega), if_pos c] at hQ; exact hQ _ _ (m_qs hM q2 rfl)
  · rw [if_neg (by omega), if_neg (by omega), if_neg (by omega), if_pos c] at hQ; exact hQ _ _ (m_qs hM q2 rfl)
  · rw [if_neg (by omega), if_neg (by omega), if_neg (by omega), if_neg (by omega), if_pos c] at hQ; exact hQ _ _ (m_qs hM q2 rfl)
  · rw [if_neg (by omega), if_neg (by omega), if_neg (by omega), if_neg (by omega), if_neg (by omega), if_pos c] at hQ; exact hQ _ _ (m_qs hM q2 rfl)
  · rw [if_neg (by omega), if_neg (by omega), if_neg (by omega), if_neg (by omega), if_neg (by omega), if_neg (by omega), if_pos c] at hQ
    refine hQ _ _ (m_qs hM q2 ?_)
    rw [e]
    unfold v_Model_standing
    rw [q1]
    rfl
  · rw [if_neg (by omega), if_neg (by omega), if_neg (by omega), if_neg (by omega), if_neg (by omega), if_neg (by omega), if_neg (by omega)] at hQ; exact hQ _ _ (m_qs hM q2 rfl)
theorem m_rdi {σ : w_M} {c d : Nat} {i : Int} {x : Nat} (h1 : 1 ≤ d) (h2 : d ≤ 2 ∨ d = 9) (hi : 0 ≤ i ∧ i < σ 122 4) (hx : x = m_ix d i.toNat) : σ c x = w_am σ c 0 d i.toNat := m_rd (by omega) (by
  rcases h2 with h2 | rfl
  · rw [m_rl12 h1 h2]; omega
  · rw [m_rl9]; omega) (by omega)
theorem m_rdr {σ : w_M} {c d : Nat} {r : Int} {x : Nat} (h1 : 3 ≤ d) (h2 : d ≤ 7) (hr : 0 ≤ r ∧ r < σ 122 5) (hx : x = m_ix d r.toNat) : σ c x = w_am σ c 0 d r.toNat := m_rd (by omega) (by rw [m_rl37 h1 h2]; omega) (by omega)
theorem w_bit_or : ∀ k, k < 7 → ∀ x, x < 2 ^ k → w_or (x : Nat) (w_shl 1 (k : Nat)) = ((x + 2 ^ k : Nat) : Int) ∧ w_or (x : Nat) (w_shl 0 (k : Nat)) = ((x : Nat) : Int) := by decide +kernel
theorem MI.s {σ : w_M} (h : MI σ) : 0 ≤ σ 122 4 ∧ σ 122 4 ≤ 7 := m_ok.s h.ok
theorem MI.n {σ : w_M} (h : MI σ) : 0 ≤ σ 122 5 ∧ σ 122 5 ≤ 4 := m_ok.n h.ok
def p_Model_strip (_x1 : Int) (_x2 : Int) (σ : w_M) : Prop := MI σ
def q_Model_strip (x1 : Int) (x2 : Int) (σ : w_M) (x : Int) (σ' : w_M) : Prop := m_q (F_strip (mS σ) x1 x2) (mS σ) σ x σ'
theorem f177_0 : w_fe am_c177 0 1 (.aload 0) := ⟨rfl, rfl⟩
theorem f177_1 : w_fe am_c177 1 2 (.iload 1) := ⟨rfl, rfl⟩
theorem f177_2 : w_fe am_c177 2 3 (.invokestatic 178) := ⟨rfl, rfl⟩
theorem f177_3 : w_if am_c177 3 4 .eq 10 := ⟨rfl, rfl⟩
theorem f177_4 : w_fe am_c177 4 5 (.iload 2) := ⟨rfl, rfl⟩
theorem f177_5 : w_fe am_c177 5 6 (.i2l) := ⟨rfl, rfl⟩
theorem f177_6 : w_fe am_c177 6 7 (.sipush 0) := ⟨rfl, rfl⟩
theorem f177_7 : w_fe am_c177 7 8 (.sipush 3) := ⟨rfl, rfl⟩
theorem f177_8 : w_fe am_c177 8 9 (.invokestatic 158) := ⟨rfl, rfl⟩
theorem f177_9 : w_if am_c177 9 10 .ne 12 := ⟨rfl, rfl⟩
theorem f177_10 : w_fe am_c177 10 11 (.bipush (-1)) := ⟨rfl, rfl⟩
theorem f177_11 : w_fe am_c177 11 12 (.ireturn) := ⟨rfl, rfl⟩
theorem f177_12 : w_fe am_c177 12 13 (.bipush 0) := ⟨rfl, rfl⟩
theorem f177_13 : w_fe am_c177 13 14 (.istore 3) := ⟨rfl, rfl⟩
theorem f177_14 : w_fe am_c177 14 15 (.aload 0) := ⟨rfl, rfl⟩
theorem f177_15 : w_fe am_c177 15 16 (.invokestatic 175) := ⟨rfl, rfl⟩
theorem f177_16 : w_fe am_c177 16 17 (.bipush 0) := ⟨rfl, rfl⟩
theorem f177_17 : w_fe am_c177 17 18 (.istore 4) := ⟨rfl, rfl⟩
theorem f177_18 : w_fe am_c177 18 19 (.iload 4) := ⟨rfl, rfl⟩
theorem f177_19 : w_fe am_c177 19 20 (.aload 0) := ⟨rfl, rfl⟩
theorem f177_20 : w_fe am_c177 20 21 (.getfield 905) := ⟨rfl, rfl⟩
theorem f177_21 : w_ic am_c177 21 22 .ge 39 := ⟨rfl, rfl⟩
theorem f177_22 : w_fe am_c177 22 23 (.iload 3) := ⟨rfl, rfl⟩
theorem f177_23 : w_fe am_c177 23 24 (.aload 0) := ⟨rfl, rfl⟩
theorem f177_24 : w_fe am_c177 24 25 (.iload 4) := ⟨rfl, rfl⟩
theorem f177_25 : w_fe am_c177 25 26 (.bipush 3) := ⟨rfl, rfl⟩
theorem f177_26 : w_fe am_c177 26 27 (.invokestatic 179) := ⟨rfl, rfl⟩
theorem f177_27 : w_fe am_c177 27 28 (.iload 1) := ⟨rfl, rfl⟩
theorem f177_28 : w_ic am_c177 28 29 .ne 31 := ⟨rfl, rfl⟩
theorem f177_29 : w_fe am_c177 29 30 (.bipush 1) := ⟨rfl, rfl⟩
theorem f177_30 : w_gt am_c177 30 32 := rfl
theorem f177_31 : w_fe am_c177 31 32 (.bipush 0) := ⟨rfl, rfl⟩
theorem f177_32 : w_fe am_c177 32 33 (.invokestatic 180) := ⟨rfl, rfl⟩
theorem f177_33 : w_fe am_c177 33 34 (.iload 4) := ⟨rfl, rfl⟩
theorem f177_34 : w_fe am_c177 34 35 (.ishl) := ⟨rfl, rfl⟩
theorem f177_35 : w_fe am_c177 35 36 (.ior) := ⟨rfl, rfl⟩
theorem f177_36 : w_fe am_c177 36 37 (.istore 3) := ⟨rfl, rfl⟩
theorem f177_37 : w_fe am_c177 37 38 (.iinc 4 1) := ⟨rfl, rfl⟩
theorem f177_38 : w_gt am_c177 38 18 := rfl
theorem f177_39 : w_fe am_c177 39 40 (.iload 2) := ⟨rfl, rfl⟩
theorem f177_40 : w_fe am_c177 40 41 (.bipush 3) := ⟨rfl, rfl⟩
theorem f177_41 : w_ic am_c177 41 42 .ge 51 := ⟨rfl, rfl⟩
theorem f177_42 : w_fe am_c177 42 43 (.aload 0) := ⟨rfl, rfl⟩
theorem f177_43 : w_fe am_c177 43 44 (.getfield 900) := ⟨rfl, rfl⟩
theorem f177_44 : w_fe am_c177 44 45 (.bipush 7) := ⟨rfl, rfl⟩
theorem f177_45 : w_fe am_c177 45 46 (.iload 2) := ⟨rfl, rfl⟩
theorem f177_46 : w_fe am_c177 46 47 (.imul) := ⟨rfl, rfl⟩
theorem f177_47 : w_fe am_c177 47 48 (.iload 1) := ⟨rfl, rfl⟩
theorem f177_48 : w_fe am_c177 48 49 (.iadd) := ⟨rfl, rfl⟩
theorem f177_49 : w_fe am_c177 49 50 (.iaload) := ⟨rfl, rfl⟩
theorem f177_50 : w_gt am_c177 50 52 := rfl
theorem f177_51 : w_fe am_c177 51 52 (.iload 3) := ⟨rfl, rfl⟩
theorem f177_52 : w_fe am_c177 52 53 (.ireturn) := ⟨rfl, rfl⟩
def L177_18 (xs : List Int) (d : Nat) (Q : Option w_V → w_M → Prop) (v1 : Int) (v2 : Int) (v3 : Int) (v4 : Int) (σ : w_M) : Prop := w_Ex (xs, d) 1 am_c177 Q 18 [some (.inr (.inr (9, 122))), some (.inl v1), some (.inl v2), some (.inl v3), some (.inl v4)] [] σ
set_option maxRecDepth 20000 in
theorem b177_0 {xs : List Int} {d : Nat} {Q : Option w_V → w_M → Prop} {x1 : Int} {x2 : Int} {σ : w_M}
    (h : p_Model_isStrip x1 σ ∧ ((¬ (0 ≤ x1 ∧ x1 < σ 122 4) → Q (some (.inl (-1))) σ) ∧ ((0 ≤ x1 ∧ x1 < σ 122 4) → (((0 ≤ x2 ∧ x2 ≤ 3) → (p_Model_starts σ ∧ (∀ (τ1 : w_M), q_Model_starts σ τ1 → L177_18 xs (d + 2) Q x1 x2 0 0 τ1))) ∧ (¬ (0 ≤ x2 ∧ x2 ≤ 3) → Q (some (.inl (-1))) σ))))) : w_Call (xs, (d + 2)) 177 [.inr (.inr (9, 122)), .inl x1, .inl x2] σ Q :=
  (w_mk (mid := 177) (by decide) rfl rfl rfl rfl rfl (Nat.le_of_ble_eq_true rfl) ⟨rfl, Or.inl (by decide)⟩ (wi_aload0 f177_0 (wi_iload1 f177_1 (wi_call2 f177_2 (Nat.le_of_ble_eq_true rfl) (k_Model_isStrip h.1 (wi_ifb_eq f177_3 (fun c3 => (wi_bipush f177_10 (wi_ret1 f177_11 (h.2.1 c3)))) (fun c3 => (wi_iload2 f177_4 (wi_i2l f177_5 (wi_sipush f177_6 (wi_sipush f177_7 (wi_call3 f177_8 (Nat.le_of_ble_eq_true rfl) (k_Model_in (wi_ifb_ne f177_9 (fun c2 => (wi_bipush f177_12 (wi_istore3 f177_13 trivial (wi_aload0 f177_14 (wi_call1 f177_15 (Nat.le_of_ble_eq_true rfl) (k_Model_starts ((h.2.2 c3).1 c2).1 (fun τ1 eτ1 => (wi_bipush f177_16 (wi_istore4 f177_17 trivial (((h.2.2 c3).1 c2).2 τ1 eτ1)))))))))) (fun c2 => (wi_bipush f177_10 (wi_ret1 f177_11 ((h.2.2 c3).2 c2))))))))))))))))))
set_option maxRecDepth 20000 in
theorem b177_18 {xs : List Int} {d : Nat} {Q : Option w_V → w_M → Prop} {v1 : Int} {v2 : Int} {v3 : Int} {v4 : Int} {σ : w_M}
    (h : ((σ 122 5) ≤ v4 → ((3 ≤ v2 → Q (some (.inl v3)) σ) ∧ (v2 < 3 → (w_in (7 * v2) ∧ w_in ((7 * v2) + v1) ∧ 0 ≤ ((7 * v2) + v1) ∧ ((7 * v2) + v1) < 246 ∧ Q (some (.inl (σ 123 ((7 * v2) + v1).toNat))) σ)))) ∧ (v4 < (σ 122 5) → (p_Model_of v4 3 σ ∧ ((¬ (σ 124 (21 + 5 * v4 + 3).toNat) = v1 → ∀ (y2 : Int), y2 = (w_or v3 (w_shl 0 v4)) → (w_in (v4 + 1) ∧ L177_18 xs (d + 2) Q v1 v2 y2 (v4 + 1) σ)) ∧ ((σ 124 (21 + 5 * v4 + 3).toNat) = v1 → ∀ (y3 : Int), y3 = (w_or v3 (w_shl 1 v4)) → (w_in (v4 + 1) ∧ L177_18 xs (d + 2) Q v1 v2 y3 (v4 + 1) σ)))))) : L177_18 xs (d + 2) Q v1 v2 v3 v4 σ :=
  (wi_iload4 f177_18 (wi_aload0 f177_19 (wi_getf905 f177_20 (wi_ic_ge f177_21 (fun c5 => (wi_iload2 f177_39 (wi_bipush f177_40 (wi_ic_ge f177_41 (fun c1 => (wi_iload3 f177_51 (wi_ret1 f177_52 ((h.1 c5).1 c1)))) (fun c1 => (wi_aload0 f177_42 (wi_getf900 f177_43 (wi_bipush f177_44 (wi_iload2 f177_45 (wi_imul f177_46 ((h.1 c5).2 c1).1 (wi_iload1 f177_47 (wi_iadd f177_48 ((h.1 c5).2 c1).2.1 (wi_iald1246 f177_49 ((h.1 c5).2 c1).2.2.1 ((h.1 c5).2 c1).2.2.2.1 (wi_goto f177_50 (wi_ret1 f177_52 ((h.1 c5).2 c1).2.2.2.2))))))))))))))) (fun c5 => (wi_iload3 f177_22 (wi_aload0 f177_23 (wi_iload4 f177_24 (wi_bipush f177_25 (wi_call3 f177_26 (Nat.le_of_ble_eq_true rfl) (k_Model_of (h.2 c5).1 (wi_iload1 f177_27 (wi_ic_ne f177_28 (fun c4 => (wi_bipush f177_31 (wi_call1 f177_32 (Nat.le_of_ble_eq_true rfl) (k_Model_flag (wi_iload4 f177_33 (wi_ishl f177_34 (wi_ior f177_35 (wi_istore3 f177_36 trivial (wi_iinc4 f177_37 trivial (((h.2 c5).2.1 c4) _ rfl).1 (wi_goto f177_38 (((h.2 c5).2.1 c4) _ rfl).2)))))))))) (fun c4 => (wi_bipush f177_29 (wi_goto f177_30 (wi_call1 f177_32 (Nat.le_of_ble_eq_true rfl) (k_Model_flag (wi_iload4 f177_33 (wi_ishl f177_34 (wi_ior f177_35 (wi_istore3 f177_36 trivial (wi_iinc4 f177_37 trivial (((h.2 c5).2.2 c4) _ rfl).1 (wi_goto f177_38 (((h.2 c5).2.2 c4) _ rfl).2))))))))))))))))))))))))
theorem k_Model_strip {xs : List Int} {d : Nat} {Q : Option w_V → w_M → Prop} {x1 : Int} {x2 : Int} {σ : w_M} (hp : p_Model_strip x1 x2 σ) (hQ : ∀ (x : Int) (σ' : w_M), q_Model_strip x1 x2 σ x σ' → Q (some (.inl x)) σ') : w_Call (xs, d + 2) 177 [.inr (.inr (9, 122)), .inl x1, .inl x2] σ Q := by
  have hM : MI σ := hp
  have hs := hM.s
  have hn := hM.n
  unfold q_Model_strip F_strip at hQ
  have e4 : mS σ 0 0 4 = σ 122 4 := rfl
  rw [e4] at hQ
  refine b177_0 ⟨hs, fun c => ?_, fun c => ⟨fun c2 => ⟨hM.sm, fun τ hq => ?_⟩, fun c2 => ?_⟩⟩
  · rw [if_neg c] at hQ
    exact hQ _ _ (m_qr hM rfl)
  · rw [if_pos c] at hQ
    obtain ⟨q1, q2, q3⟩ := hq
    have z2 : τ 122 = σ 122 := q2 122 (by decide)
    have z3 : τ 123 = σ 123 := q2 123 (by decide)
    refine w_loop (n := (σ 122 5).toNat) (P := fun k => L177_18 xs (d + 2) Q x1 x2 ((n_rat (w_am σ 123 0) x1 k : Nat) : Int) (k : Int) τ) ?_ ?_
    · refine b177_18 ⟨fun _ => ⟨fun c3 => ?_, fun c3 => ⟨⟨by omega, by omega⟩, ⟨by omega, by omega⟩, by omega, by omega, ?_⟩⟩, fun h => by rw [z2] at h; omega⟩
      · rw [if_neg (by omega), if_neg (by omega), if_neg (by omega), if_pos (by omega)] at hQ
        exact hQ _ _ (m_qs hM q2 rfl)
      · rw [z3]
        rcases (show x2 = 0 ∨ x2 = 1 ∨ x2 = 2 by omega) with rfl | rfl | rfl
        · rw [if_pos rfl] at hQ
          exact hQ _ _ (m_qs hM q2 (m_rdi (d := 1) (by decide) (Or.inl (by decide)) c (by show _ = x1.toNat; omega)))
        · rw [if_neg (by decide), if_pos rfl] at hQ
          exact hQ _ _ (m_qs hM q2 (m_rdi (d := 2) (by decide) (Or.inl (by decide)) c (by show _ = 7 + x1.toNat; omega)))
        · rw [if_neg (by decide), if_neg (by decide), if_pos rfl] at hQ
          exact hQ _ _ (m_qs hM q2 (m_rdi (d := 9) (by decide) (Or.inr rfl) c (by show _ = 14 + x1.toNat; omega)))
    · intro k hk ih
      have hb := w_bit_or k (by omega) _ (n_rat_lt (w_am σ 123 0) x1 k)
      have e6 : τ 124 (21 + 5 * (k : Int) + 3).toNat = w_am σ 123 0 6 k := by
        rw [q3 _ (by omega)]
        exact m_rd (by decide) (by rw [m_rl37 (by decide) (by decide)]; exact hk) (by show _ = 0 + (24 + 5 * k); omega)
      refine b177_18 ⟨fun h => by rw [z2] at h; omega, fun h => ⟨⟨by omega, by omega⟩, fun c3 => fun y e => ⟨⟨by omega, by omega⟩, ?_⟩, fun c3 => fun y e => ⟨⟨by omega, by omega⟩, ?_⟩⟩⟩
      · rw [e6] at c3
        simp only [n_rat] at ih
        rw [if_neg c3, Nat.add_zero, w_cs1] at ih
        rw [e, hb.2]
        exact ih
      · rw [e6] at c3
        simp only [n_rat] at ih
        rw [if_pos c3, w_cs1] at ih
        rw [e, hb.1]
        exact ih
  · rw [if_pos c, if_neg (by omega), if_neg (by omega), if_neg (by omega), if_neg (by omega)] at hQ
    exact hQ _ _ (m_qr hM rfl)
def p_Model_reaper (_x1 : Int) (_x2 : Int) (σ : w_M) : Prop := MI σ
def q_Model_reaper (x1 : Int) (x2 : Int) (σ : w_M) (x : Int) (σ' : w_M) : Prop := m_q (F_reaper (mS σ) x1 x2) (mS σ) σ x σ'
theorem f181_0 : w_fe am_c181 0 1 (.aload 0) := ⟨rfl, rfl⟩
theorem f181_1 : w_fe am_c181 1 2 (.iload 1) := ⟨rfl, rfl⟩
theorem f181_2 : w_fe am_c181 2 3 (.invokestatic 182) := ⟨rfl, rfl⟩
theorem f181_3 : w_if am_c181 3 4 .eq 21 := ⟨rfl, rfl⟩
theorem f181_4 : w_fe am_c181 4 5 (.iload 2) := ⟨rfl, rfl⟩
theorem f181_5 : w_fe am_c181 5 6 (.i2l) := ⟨rfl, rfl⟩
theorem f181_6 : w_fe am_c181 6 7 (.sipush 0) := ⟨rfl, rfl⟩
theorem f181_7 : w_fe am_c181 7 8 (.sipush 4) := ⟨rfl, rfl⟩
theorem f181_8 : w_fe am_c181 8 9 (.invokestatic 158) := ⟨rfl, rfl⟩
theorem f181_9 : w_if am_c181 9 10 .eq 21 := ⟨rfl, rfl⟩
theorem f181_10 : w_fe am_c181 10 11 (.aload 0) := ⟨rfl, rfl⟩
theorem f181_11 : w_fe am_c181 11 12 (.getfield 900) := ⟨rfl, rfl⟩
theorem f181_12 : w_fe am_c181 12 13 (.bipush 21) := ⟨rfl, rfl⟩
theorem f181_13 : w_fe am_c181 13 14 (.bipush 5) := ⟨rfl, rfl⟩
theorem f181_14 : w_fe am_c181 14 15 (.iload 1) := ⟨rfl, rfl⟩
theorem f181_15 : w_fe am_c181 15 16 (.imul) := ⟨rfl, rfl⟩
theorem f181_16 : w_fe am_c181 16 17 (.iadd) := ⟨rfl, rfl⟩
theorem f181_17 : w_fe am_c181 17 18 (.iload 2) := ⟨rfl, rfl⟩
theorem f181_18 : w_fe am_c181 18 19 (.iadd) := ⟨rfl, rfl⟩
theorem f181_19 : w_fe am_c181 19 20 (.iaload) := ⟨rfl, rfl⟩
theorem f181_20 : w_gt am_c181 20 22 := rfl
theorem f181_21 : w_fe am_c181 21 22 (.bipush (-1)) := ⟨rfl, rfl⟩
theorem f181_22 : w_fe am_c181 22 23 (.ireturn) := ⟨rfl, rfl⟩
set_option maxRecDepth 20000 in
theorem b181_0 {xs : List Int} {d : Nat} {Q : Option w_V → w_M → Prop} {x1 : Int} {x2 : Int} {σ : w_M}
    (h : p_Model_isReaper x1 σ ∧ ((¬ (0 ≤ x1 ∧ x1 < σ 122 5) → Q (some (.inl (-1))) σ) ∧ ((0 ≤ x1 ∧ x1 < σ 122 5) → ((¬ (0 ≤ x2 ∧ x2 ≤ 4) → Q (some (.inl (-1))) σ) ∧ ((0 ≤ x2 ∧ x2 ≤ 4) → (w_in (5 * x1) ∧ w_in (21 + (5 * x1)) ∧ w_in ((21 + (5 * x1)) + x2) ∧ 0 ≤ ((21 + (5 * x1)) + x2) ∧ ((21 + (5 * x1)) + x2) < 246 ∧ Q (some (.inl (σ 123 ((21 + (5 * x1)) + x2).toNat))) σ)))))) : w_Call (xs, (d + 2)) 181 [.inr (.inr (9, 122)), .inl x1, .inl x2] σ Q :=
  (w_mk (mid := 181) (by decide) rfl rfl rfl rfl rfl (Nat.le_of_ble_eq_true rfl) ⟨rfl, Or.inl (by decide)⟩ (wi_aload0 f181_0 (wi_iload1 f181_1 (wi_call2 f181_2 (Nat.le_of_ble_eq_true rfl) (k_Model_isReaper h.1 (wi_ifb_eq f181_3 (fun c2 => (wi_bipush f181_21 (wi_ret1 f181_22 (h.2.1 c2)))) (fun c2 => (wi_iload2 f181_4 (wi_i2l f181_5 (wi_sipush f181_6 (wi_sipush f181_7 (wi_call3 f181_8 (Nat.le_of_ble_eq_true rfl) (k_Model_in (wi_ifb_eq f181_9 (fun c1 => (wi_bipush f181_21 (wi_ret1 f181_22 ((h.2.2 c2).1 c1)))) (fun c1 => (wi_aload0 f181_10 (wi_getf900 f181_11 (wi_bipush f181_12 (wi_bipush f181_13 (wi_iload1 f181_14 (wi_imul f181_15 ((h.2.2 c2).2 c1).1 (wi_iadd f181_16 ((h.2.2 c2).2 c1).2.1 (wi_iload2 f181_17 (wi_iadd f181_18 ((h.2.2 c2).2 c1).2.2.1 (wi_iald1246 f181_19 ((h.2.2 c2).2 c1).2.2.2.1 ((h.2.2 c2).2 c1).2.2.2.2.1 (wi_goto f181_20 (wi_ret1 f181_22 ((h.2.2 c2).2 c1).2.2.2.2.2)))))))))))))))))))))))))))
theorem m_tell {σ : w_M} {c : Nat} {r w : Int} (hr : 0 ≤ r ∧ r < σ 122 5) (hw : 0 ≤ w ∧ w ≤ 4) {x : Nat} (hx : (x : Int) = 21 + 5 * r + w) : σ c x = n_tell (w_am σ c 0) r w := by
  unfold n_tell
  rw [if_pos (show 0 ≤ r ∧ r < w_am σ c 0 0 5 from hr), if_pos hw]
  rcases (show w = 0 ∨ w = 1 ∨ w = 2 ∨ w = 3 ∨ w = 4 by omega) with rfl | rfl | rfl | rfl | rfl
  · exact m_rdr (d := 3) (by decide) (by decide) hr (by show x = 21 + 5 * r.toNat; omega)
  · exact m_rdr (d := 4) (by decide) (by decide) hr (by show x = 22 + 5 * r.toNat; omega)
  · exact m_rdr (d := 5) (by decide) (by decide) hr (by show x = 23 + 5 * r.toNat; omega)
  · exact m_rdr (d := 6) (by decide) (by decide) hr (by show x = 24 + 5 * r.toNat; omega)
  · exact m_rdr (d := 7) (by decide) (by decide) hr (by show x = 25 + 5 * r.toNat; omega)
theorem n_tell_bad {A : w_M} {r w : Int} (h : ¬ ((0 ≤ r ∧ r < A 0 5) ∧ (0 ≤ w ∧ w ≤ 4))) : n_tell A r w = -1 := by
  unfold n_tell
  split
  · rename_i h1
    rw [if_neg (fun q => h ⟨h1, q⟩)]
  · rfl
theorem k_Model_reaper {xs : List Int} {d : Nat} {Q : Option w_V → w_M → Prop} {x1 : Int} {x2 : Int} {σ : w_M} (hp : p_Model_reaper x1 x2 σ) (hQ : ∀ (x : Int) (σ' : w_M), q_Model_reaper x1 x2 σ x σ' → Q (some (.inl x)) σ') : w_Call (xs, d + 2) 181 [.inr (.inr (9, 122)), .inl x1, .inl x2] σ Q := by
  have hM : MI σ := hp
  have hn := hM.n
  unfold q_Model_reaper F_reaper at hQ
  refine b181_0 ⟨hn, fun c => ?_, fun c => ⟨fun c2 => ?_, fun c2 => ⟨⟨by omega, by omega⟩, ⟨by omega, by omega⟩, ⟨by omega, by omega⟩, by omega, by omega, ?_⟩⟩⟩
  · exact hQ _ _ (m_qr hM (n_tell_bad (fun q => c q.1)).symm)
  · exact hQ _ _ (m_qr hM (n_tell_bad (fun q => c2 q.2)).symm)
  · exact hQ _ _ (m_qr hM (m_tell c c2 (by omega)))
def p_Model_harvest (_x1 : Int) (σ : w_M) : Prop := MI σ
def q_Model_harvest (x1 : Int) (σ : w_M) (x : Int) (σ' : w_M) : Prop := m_q (F_harvest (mS σ) x1) (mS σ) σ x σ'
theorem f183_0 : w_fe am_c183 0 1 (.iload 1) := ⟨rfl, rfl⟩
theorem f183_1 : w_fe am_c183 1 2 (.invokestatic 184) := ⟨rfl, rfl⟩
theorem f183_2 : w_if am_c183 2 3 .eq 10 := ⟨rfl, rfl⟩
theorem f183_3 : w_fe am_c183 3 4 (.aload 0) := ⟨rfl, rfl⟩
theorem f183_4 : w_fe am_c183 4 5 (.getfield 900) := ⟨rfl, rfl⟩
theorem f183_5 : w_fe am_c183 5 6 (.bipush 43) := ⟨rfl, rfl⟩
theorem f183_6 : w_fe am_c183 6 7 (.iload 1) := ⟨rfl, rfl⟩
theorem f183_7 : w_fe am_c183 7 8 (.iadd) := ⟨rfl, rfl⟩
theorem f183_8 : w_fe am_c183 8 9 (.iaload) := ⟨rfl, rfl⟩
theorem f183_9 : w_gt am_c183 9 11 := rfl
theorem f183_10 : w_fe am_c183 10 11 (.bipush (-1)) := ⟨rfl, rfl⟩
theorem f183_11 : w_fe am_c183 11 12 (.ireturn) := ⟨rfl, rfl⟩
set_option maxRecDepth 20000 in
theorem b183_0 {xs : List Int} {d : Nat} {Q : Option w_V → w_M → Prop} {x1 : Int} {σ : w_M}
    (h : (¬ (0 ≤ x1 ∧ x1 ≤ 3) → Q (some (.inl (-1))) σ) ∧ ((0 ≤ x1 ∧ x1 ≤ 3) → (w_in (43 + x1) ∧ 0 ≤ (43 + x1) ∧ (43 + x1) < 246 ∧ Q (some (.inl (σ 123 (43 + x1).toNat))) σ))) : w_Call (xs, (d + 2)) 183 [.inr (.inr (9, 122)), .inl x1] σ Q :=
  (w_mk (mid := 183) (by decide) rfl rfl rfl rfl rfl (Nat.le_of_ble_eq_true rfl) ⟨rfl, Or.inl (by decide)⟩ (wi_iload1 f183_0 (wi_call1 f183_1 (Nat.le_of_ble_eq_true rfl) (k_Model_isOwner (wi_ifb_eq f183_2 (fun c1 => (wi_bipush f183_10 (wi_ret1 f183_11 (h.1 c1)))) (fun c1 => (wi_aload0 f183_3 (wi_getf900 f183_4 (wi_bipush f183_5 (wi_iload1 f183_6 (wi_iadd f183_7 (h.2 c1).1 (wi_iald1246 f183_8 (h.2 c1).2.1 (h.2 c1).2.2.1 (wi_goto f183_9 (wi_ret1 f183_11 (h.2 c1).2.2.2))))))))))))))
theorem k_Model_harvest {xs : List Int} {d : Nat} {Q : Option w_V → w_M → Prop} {x1 : Int} {σ : w_M} (hp : p_Model_harvest x1 σ) (hQ : ∀ (x : Int) (σ' : w_M), q_Model_harvest x1 σ x σ' → Q (some (.inl x)) σ') : w_Call (xs, d + 2) 183 [.inr (.inr (9, 122)), .inl x1] σ Q := by
  have hM : MI σ := hp
  unfold q_Model_harvest F_harvest at hQ
  refine b183_0 ⟨fun c => ?_, fun c => ⟨⟨by omega, by omega⟩, by omega, by omega, ?_⟩⟩
  · rw [if_neg c] at hQ; exact hQ _ _ (m_qr hM rfl)
  · rw [if_pos c] at hQ
    exact hQ _ _ (m_qr hM (m_rd (d := 8) (by decide) (show x1.toNat < 4 by omega) (by show _ = 0 + (43 + x1.toNat); omega)))
theorem m_set {σ τ : w_M} {P : Prop} {d j k : Nat} {v x : Int} (hM : MI σ) (hP : P) (hj : j < m_rl σ d) (hk : k = 0 + m_ix d j) (hW : n_WF (w_up (w_am σ 123 0) d j v)) (ht : τ = w_up σ 123 k v) (hx : x = σ 123 k) : m_q (F_set (mS σ) P d j) (G_set (mS σ) P d j v) σ x τ := by
  have hd0 : d ≠ 0 := fun e => by rw [e] at hj; simp [m_rl] at hj
  obtain ⟨d10, j7, jL⟩ := m_rl_d hM.sm hj
  have hlt := (m_ix_sc d d10 j j7 jL).2.2.2
  rw [F_set_t hP, G_set_t hP]
  refine m_q0 hM (by rw [ht]; exact w_f1.up0) (fun y hy => by rw [ht, w_up_j (by omega)]) (by rw [ht]; exact w_am_up hM.sm (by decide) hj hk) hW ?_ ?_ ?_ ?_
  · show w_up (w_am σ 123 0) d j v 0 0 = σ 122 3; rw [w_up_ne (by omega)]; rfl
  · show w_up (w_am σ 123 0) d j v 0 4 = σ 122 4; rw [w_up_ne (by omega)]; rfl
  · show w_up (w_am σ 123 0) d j v 0 5 = σ 122 5; rw [w_up_ne (by omega)]; rfl
  · rw [hx]; exact m_rd hd0 hj hk
theorem m_no {σ : w_M} {P : Prop} {d j : Nat} {v : Int} (hM : MI σ) (hP : ¬ P) : m_q (F_set (mS σ) P d j) (G_set (mS σ) P d j v) σ (-1) σ := by
  rw [F_set_f hP, G_set_f hP]
  exact m_qr hM rfl
def p_Model_send (_ _ : Int) (σ : w_M) : Prop := MI σ
def q_Model_send (r i : Int) (σ : w_M) (x : Int) (σ' : w_M) : Prop := m_q (F_send (mS σ) r i) (G_send (mS σ) r i) σ x σ' ∧ (σ' = σ ∨ ((0 ≤ r ∧ r < 4) ∧ σ' = w_up σ 123 (24 + 5 * r.toNat) i))
def p_Model_whet (_x1 : Int) (_x2 : Int) (σ : w_M) : Prop := MI σ
def q_Model_whet (x1 : Int) (x2 : Int) (σ : w_M) (x : Int) (σ' : w_M) : Prop := m_q (F_whet (mS σ) x1 x2) (G_whet (mS σ) x1 x2) σ x σ'
def p_Model_fill (_x1 : Int) (_x2 : Int) (σ : w_M) : Prop := MI σ
def q_Model_fill (x1 : Int) (x2 : Int) (σ : w_M) (x : Int) (σ' : w_M) : Prop := m_q (F_fill (mS σ) x1 x2) (G_fill (mS σ) x1 x2) σ x σ'
def p_Model_own (_x1 : Int) (_x2 : Int) (σ : w_M) : Prop := MI σ
def q_Model_own (x1 : Int) (x2 : Int) (σ : w_M) (x : Int) (σ' : w_M) : Prop := m_q (F_own (mS σ) x1 x2) (G_own (mS σ) x1 x2) σ x σ'
def p_Model_grow (_x1 : Int) (_x2 : Int) (σ : w_M) : Prop := MI σ
def q_Model_grow (x1 : Int) (x2 : Int) (σ : w_M) (x : Int) (σ' : w_M) : Prop := m_q (F_grow (mS σ) x1 x2) (G_grow (mS σ) x1 x2) σ x σ'
def p_Model_thistle (_x1 : Int) (x2 : Int) (σ : w_M) : Prop := MI σ ∧ (x2 = 0 ∨ x2 = 1)
def q_Model_thistle (x1 : Int) (x2 : Int) (σ : w_M) (x : Int) (σ' : w_M) : Prop := m_q (F_thistle (mS σ) x1 x2) (G_thistle (mS σ) x1 x2) σ x σ'
theorem f185_0 : w_fe am_c185 0 1 (.aload 0) := ⟨rfl, rfl⟩
theorem f185_1 : w_fe am_c185 1 2 (.iload 1) := ⟨rfl, rfl⟩
theorem f185_2 : w_fe am_c185 2 3 (.invokestatic 182) := ⟨rfl, rfl⟩
theorem f185_3 : w_if am_c185 3 4 .eq 19 := ⟨rfl, rfl⟩
theorem f185_4 : w_fe am_c185 4 5 (.aload 0) := ⟨rfl, rfl⟩
theorem f185_5 : w_fe am_c185 5 6 (.iload 2) := ⟨rfl, rfl⟩
theorem f185_6 : w_fe am_c185 6 7 (.invokestatic 178) := ⟨rfl, rfl⟩
theorem f185_7 : w_if am_c185 7 8 .eq 19 := ⟨rfl, rfl⟩
theorem f185_8 : w_fe am_c185 8 9 (.aload 0) := ⟨rfl, rfl⟩
theorem f185_9 : w_fe am_c185 9 10 (.bipush 21) := ⟨rfl, rfl⟩
theorem f185_10 : w_fe am_c185 10 11 (.bipush 5) := ⟨rfl, rfl⟩
theorem f185_11 : w_fe am_c185 11 12 (.iload 1) := ⟨rfl, rfl⟩
theorem f185_12 : w_fe am_c185 12 13 (.imul) := ⟨rfl, rfl⟩
theorem f185_13 : w_fe am_c185 13 14 (.iadd) := ⟨rfl, rfl⟩
theorem f185_14 : w_fe am_c185 14 15 (.bipush 3) := ⟨rfl, rfl⟩
theorem f185_15 : w_fe am_c185 15 16 (.iadd) := ⟨rfl, rfl⟩
theorem f185_16 : w_fe am_c185 16 17 (.iload 2) := ⟨rfl, rfl⟩
theorem f185_17 : w_fe am_c185 17 18 (.invokestatic 186) := ⟨rfl, rfl⟩
theorem f185_18 : w_gt am_c185 18 20 := rfl
theorem f185_19 : w_fe am_c185 19 20 (.bipush (-1)) := ⟨rfl, rfl⟩
theorem f185_20 : w_fe am_c185 20 21 (.ireturn) := ⟨rfl, rfl⟩
set_option maxRecDepth 20000 in
theorem b185_0 {xs : List Int} {d : Nat} {Q : Option w_V → w_M → Prop} {x1 : Int} {x2 : Int} {σ : w_M}
    (h : p_Model_isReaper x1 σ ∧ ((¬ (0 ≤ x1 ∧ x1 < σ 122 5) → Q (some (.inl (-1))) σ) ∧ ((0 ≤ x1 ∧ x1 < σ 122 5) → (p_Model_isStrip x2 σ ∧ ((¬ (0 ≤ x2 ∧ x2 < σ 122 4) → Q (some (.inl (-1))) σ) ∧ ((0 ≤ x2 ∧ x2 < σ 122 4) → (w_in (5 * x1) ∧ w_in (21 + (5 * x1)) ∧ w_in ((21 + (5 * x1)) + 3) ∧ p_Model_becomes ((21 + (5 * x1)) + 3) x2 σ ∧ (∀ (y1 : Int) (τ2 : w_M), q_Model_becomes ((21 + (5 * x1)) + 3) x2 σ y1 τ2 → Q (some (.inl y1)) τ2)))))))) : w_Call (xs, (d + 2)) 185 [.inr (.inr (9, 122)), .inl x1, .inl x2] σ Q :=
  (w_mk (mid := 185) (by decide) rfl rfl rfl rfl rfl (Nat.le_of_ble_eq_true rfl) ⟨rfl, Or.inl (by decide)⟩ (wi_aload0 f185_0 (wi_iload1 f185_1 (wi_call2 f185_2 (Nat.le_of_ble_eq_true rfl) (k_Model_isReaper h.1 (wi_ifb_eq f185_3 (fun c4 => (wi_bipush f185_19 (wi_ret1 f185_20 (h.2.1 c4)))) (fun c4 => (wi_aload0 f185_4 (wi_iload2 f185_5 (wi_call2 f185_6 (Nat.le_of_ble_eq_true rfl) (k_Model_isStrip (h.2.2 c4).1 (wi_ifb_eq f185_7 (fun c3 => (wi_bipush f185_19 (wi_ret1 f185_20 ((h.2.2 c4).2.1 c3)))) (fun c3 => (wi_aload0 f185_8 (wi_bipush f185_9 (wi_bipush f185_10 (wi_iload1 f185_11 (wi_imul f185_12 ((h.2.2 c4).2.2 c3).1 (wi_iadd f185_13 ((h.2.2 c4).2.2 c3).2.1 (wi_bipush f185_14 (wi_iadd f185_15 ((h.2.2 c4).2.2 c3).2.2.1 (wi_iload2 f185_16 (wi_call3 f185_17 (Nat.le_of_ble_eq_true rfl) (k_Model_becomes ((h.2.2 c4).2.2 c3).2.2.2.1 (fun y1 τ2 eτ2 => (wi_goto f185_18 (wi_ret1 f185_20 (((h.2.2 c4).2.2 c3).2.2.2.2 y1 τ2 eτ2))))))))))))))))))))))))))))
theorem f188_0 : w_fe am_c188 0 1 (.aload 0) := ⟨rfl, rfl⟩
theorem f188_1 : w_fe am_c188 1 2 (.iload 1) := ⟨rfl, rfl⟩
theorem f188_2 : w_fe am_c188 2 3 (.invokestatic 182) := ⟨rfl, rfl⟩
theorem f188_3 : w_if am_c188 3 4 .eq 21 := ⟨rfl, rfl⟩
theorem f188_4 : w_fe am_c188 4 5 (.iload 2) := ⟨rfl, rfl⟩
theorem f188_5 : w_fe am_c188 5 6 (.i2l) := ⟨rfl, rfl⟩
theorem f188_6 : w_fe am_c188 6 7 (.sipush 0) := ⟨rfl, rfl⟩
theorem f188_7 : w_fe am_c188 7 8 (.sipush 3) := ⟨rfl, rfl⟩
theorem f188_8 : w_fe am_c188 8 9 (.invokestatic 158) := ⟨rfl, rfl⟩
theorem f188_9 : w_if am_c188 9 10 .eq 21 := ⟨rfl, rfl⟩
theorem f188_10 : w_fe am_c188 10 11 (.aload 0) := ⟨rfl, rfl⟩
theorem f188_11 : w_fe am_c188 11 12 (.bipush 21) := ⟨rfl, rfl⟩
theorem f188_12 : w_fe am_c188 12 13 (.bipush 5) := ⟨rfl, rfl⟩
theorem f188_13 : w_fe am_c188 13 14 (.iload 1) := ⟨rfl, rfl⟩
theorem f188_14 : w_fe am_c188 14 15 (.imul) := ⟨rfl, rfl⟩
theorem f188_15 : w_fe am_c188 15 16 (.iadd) := ⟨rfl, rfl⟩
theorem f188_16 : w_fe am_c188 16 17 (.bipush 2) := ⟨rfl, rfl⟩
theorem f188_17 : w_fe am_c188 17 18 (.iadd) := ⟨rfl, rfl⟩
theorem f188_18 : w_fe am_c188 18 19 (.iload 2) := ⟨rfl, rfl⟩
theorem f188_19 : w_fe am_c188 19 20 (.invokestatic 186) := ⟨rfl, rfl⟩
theorem f188_20 : w_gt am_c188 20 22 := rfl
theorem f188_21 : w_fe am_c188 21 22 (.bipush (-1)) := ⟨rfl, rfl⟩
theorem f188_22 : w_fe am_c188 22 23 (.ireturn) := ⟨rfl, rfl⟩
set_option maxRecDepth 20000 in
theorem b188_0 {xs : List Int} {d : Nat} {Q : Option w_V → w_M → Prop} {x1 : Int} {x2 : Int} {σ : w_M}
    (h : p_Model_isReaper x1 σ ∧ ((¬ (0 ≤ x1 ∧ x1 < σ 122 5) → Q (some (.inl (-1))) σ) ∧ ((0 ≤ x1 ∧ x1 < σ 122 5) → ((¬ (0 ≤ x2 ∧ x2 ≤ 3) → Q (some (.inl (-1))) σ) ∧ ((0 ≤ x2 ∧ x2 ≤ 3) → (w_in (5 * x1) ∧ w_in (21 + (5 * x1)) ∧ w_in ((21 + (5 * x1)) + 2) ∧ p_Model_becomes ((21 + (5 * x1)) + 2) x2 σ ∧ (∀ (y1 : Int) (τ2 : w_M), q_Model_becomes ((21 + (5 * x1)) + 2) x2 σ y1 τ2 → Q (some (.inl y1)) τ2))))))) : w_Call (xs, (d + 2)) 188 [.inr (.inr (9, 122)), .inl x1, .inl x2] σ Q :=
  (w_mk (mid := 188) (by decide) rfl rfl rfl rfl rfl (Nat.le_of_ble_eq_true rfl) ⟨rfl, Or.inl (by decide)⟩ (wi_aload0 f188_0 (wi_iload1 f188_1 (wi_call2 f188_2 (Nat.le_of_ble_eq_true rfl) (k_Model_isReaper h.1 (wi_ifb_eq f188_3 (fun c4 => (wi_bipush f188_21 (wi_ret1 f188_22 (h.2.1 c4)))) (fun c4 => (wi_iload2 f188_4 (wi_i2l f188_5 (wi_sipush f188_6 (wi_sipush f188_7 (wi_call3 f188_8 (Nat.le_of_ble_eq_true rfl) (k_Model_in (wi_ifb_eq f188_9 (fun c3 => (wi_bipush f188_21 (wi_ret1 f188_22 ((h.2.2 c4).1 c3)))) (fun c3 => (wi_aload0 f188_10 (wi_bipush f188_11 (wi_bipush f188_12 (wi_iload1 f188_13 (wi_imul f188_14 ((h.2.2 c4).2 c3).1 (wi_iadd f188_15 ((h.2.2 c4).2 c3).2.1 (wi_bipush f188_16 (wi_iadd f188_17 ((h.2.2 c4).2 c3).2.2.1 (wi_iload2 f188_18 (wi_call3 f188_19 (Nat.le_of_ble_eq_true rfl) (k_Model_becomes ((h.2.2 c4).2 c3).2.2.2.1 (fun y1 τ2 eτ2 => (wi_goto f188_20 (wi_ret1 f188_22 (((h.2.2 c4).2 c3).2.2.2.2 y1 τ2 eτ2))))))))))))))))))))))))))))))
theorem f189_0 : w_fe am_c189 0 1 (.aload 0) := ⟨rfl, rfl⟩
theorem f189_1 : w_fe am_c189 1 2 (.iload 1) := ⟨rfl, rfl⟩
theorem f189_2 : w_fe am_c189 2 3 (.invokestatic 182) := ⟨rfl, rfl⟩
theorem f189_3 : w_if am_c189 3 4 .eq 21 := ⟨rfl, rfl⟩
theorem f189_4 : w_fe am_c189 4 5 (.iload 2) := ⟨rfl, rfl⟩
theorem f189_5 : w_fe am_c189 5 6 (.i2l) := ⟨rfl, rfl⟩
theorem f189_6 : w_fe am_c189 6 7 (.sipush 0) := ⟨rfl, rfl⟩
theorem f189_7 : w_fe am_c189 7 8 (.sipush 9) := ⟨rfl, rfl⟩
theorem f189_8 : w_fe am_c189 8 9 (.invokestatic 158) := ⟨rfl, rfl⟩
theorem f189_9 : w_if am_c189 9 10 .eq 21 := ⟨rfl, rfl⟩
theorem f189_10 : w_fe am_c189 10 11 (.aload 0) := ⟨rfl, rfl⟩
theorem f189_11 : w_fe am_c189 11 12 (.bipush 21) := ⟨rfl, rfl⟩
theorem f189_12 : w_fe am_c189 12 13 (.bipush 5) := ⟨rfl, rfl⟩
theorem f189_13 : w_fe am_c189 13 14 (.iload 1) := ⟨rfl, rfl⟩
theorem f189_14 : w_fe am_c189 14 15 (.imul) := ⟨rfl, rfl⟩
theorem f189_15 : w_fe am_c189 15 16 (.iadd) := ⟨rfl, rfl⟩
theorem f189_16 : w_fe am_c189 16 17 (.bipush 1) := ⟨rfl, rfl⟩
theorem f189_17 : w_fe am_c189 17 18 (.iadd) := ⟨rfl, rfl⟩
theorem f189_18 : w_fe am_c189 18 19 (.iload 2) := ⟨rfl, rfl⟩
theorem f189_19 : w_fe am_c189 19 20 (.invokestatic 186) := ⟨rfl, rfl⟩
theorem f189_20 : w_gt am_c189 20 22 := rfl
theorem f189_21 : w_fe am_c189 21 22 (.bipush (-1)) := ⟨rfl, rfl⟩
theorem f189_22 : w_fe am_c189 22 23 (.ireturn) := ⟨rfl, rfl⟩
set_option maxRecDepth 20000 in
theorem b189_0 {xs : List Int} {d : Nat} {Q : Option w_V → w_M → Prop} {x1 : Int} {x2 : Int} {σ : w_M}
    (h : p_Model_isReaper x1 σ ∧ ((¬ (0 ≤ x1 ∧ x1 < σ 122 5) → Q (some (.inl (-1))) σ) ∧ ((0 ≤ x1 ∧ x1 < σ 122 5) → ((¬ (0 ≤ x2 ∧ x2 ≤ 9) → Q (some (.inl (-1))) σ) ∧ ((0 ≤ x2 ∧ x2 ≤ 9) → (w_in (5 * x1) ∧ w_in (21 + (5 * x1)) ∧ w_in ((21 + (5 * x1)) + 1) ∧ p_Model_becomes ((21 + (5 * x1)) + 1) x2 σ ∧ (∀ (y1 : Int) (τ2 : w_M), q_Model_becomes ((21 + (5 * x1)) + 1) x2 σ y1 τ2 → Q (some (.inl y1)) τ2))))))) : w_Call (xs, (d + 2)) 189 [.inr (.inr (9, 122)), .inl x1, .inl x2] σ Q :=
  (w_mk (mid := 189) (by decide) rfl rfl rfl rfl rfl (Nat.le_of_ble_eq_true rfl) ⟨rfl, Or.inl (by decide)⟩ (wi_aload0 f189_0 (wi_iload1 f189_1 (wi_call2 f189_2 (Nat.le_of_ble_eq_true rfl) (k_Model_isReaper h.1 (wi_ifb_eq f189_3 (fun c4 => (wi_bipush f189_21 (wi_ret1 f189_22 (h.2.1 c4)))) (fun c4 => (wi_iload2 f189_4 (wi_i2l f189_5 (wi_sipush f189_6 (wi_sipush f189_7 (wi_call3 f189_8 (Nat.le_of_ble_eq_true rfl) (k_Model_in (wi_ifb_eq f189_9 (fun c3 => (wi_bipush f189_21 (wi_ret1 f189_22 ((h.2.2 c4).1 c3)))) (fun c3 => (wi_aload0 f189_10 (wi_bipush f189_11 (wi_bipush f189_12 (wi_iload1 f189_13 (wi_imul f189_14 ((h.2.2 c4).2 c3).1 (wi_iadd f189_15 ((h.2.2 c4).2 c3).2.1 (wi_bipush f189_16 (wi_iadd f189_17 ((h.2.2 c4).2 c3).2.2.1 (wi_iload2 f189_18 (wi_call3 f189_19 (Nat.le_of_ble_eq_true rfl) (k_Model_becomes ((h.2.2 c4).2 c3).2.2.2.1 (fun y1 τ2 eτ2 => (wi_goto f189_20 (wi_ret1 f189_22 (((h.2.2 c4).2 c3).2.2.2.2 y1 τ2 eτ2))))))))))))))))))))))))))))))
theorem f192_0 : w_fe am_c192 0 1 (.aload 0) := ⟨rfl, rfl⟩
theorem f192_1 : w_fe am_c192 1 2 (.iload 1) := ⟨rfl, rfl⟩
theorem f192_2 : w_fe am_c192 2 3 (.invokestatic 178) := ⟨rfl, rfl⟩
theorem f192_3 : w_if am_c192 3 4 .eq 14 := ⟨rfl, rfl⟩
theorem f192_4 : w_fe am_c192 4 5 (.iload 2) := ⟨rfl, rfl⟩
theorem f192_5 : w_fe am_c192 5 6 (.invokestatic 184) := ⟨rfl, rfl⟩
theorem f192_6 : w_if am_c192 6 7 .eq 14 := ⟨rfl, rfl⟩
theorem f192_7 : w_fe am_c192 7 8 (.aload 0) := ⟨rfl, rfl⟩
theorem f192_8 : w_fe am_c192 8 9 (.bipush 7) := ⟨rfl, rfl⟩
theorem f192_9 : w_fe am_c192 9 10 (.iload 1) := ⟨rfl, rfl⟩
theorem f192_10 : w_fe am_c192 10 11 (.iadd) := ⟨rfl, rfl⟩
theorem f192_11 : w_fe am_c192 11 12 (.iload 2) := ⟨rfl, rfl⟩
theorem f192_12 : w_fe am_c192 12 13 (.invokestatic 186) := ⟨rfl, rfl⟩
theorem f192_13 : w_gt am_c192 13 15 := rfl
theorem f192_14 : w_fe am_c192 14 15 (.bipush (-1)) := ⟨rfl, rfl⟩
theorem f192_15 : w_fe am_c192 15 16 (.ireturn) := ⟨rfl, rfl⟩
set_option maxRecDepth 20000 in
theorem b192_0 {xs : List Int} {d : Nat} {Q : Option w_V → w_M → Prop} {x1 : Int} {x2 : Int} {σ : w_M}
    (h : p_Model_isStrip x1 σ ∧ ((¬ (0 ≤ x1 ∧ x1 < σ 122 4) → Q (some (.inl (-1))) σ) ∧ ((0 ≤ x1 ∧ x1 < σ 122 4) → ((¬ (0 ≤ x2 ∧ x2 ≤ 3) → Q (some (.inl (-1))) σ) ∧ ((0 ≤ x2 ∧ x2 ≤ 3) → (w_in (7 + x1) ∧ p_Model_becomes (7 + x1) x2 σ ∧ (∀ (y1 : Int) (τ2 : w_M), q_Model_becomes (7 + x1) x2 σ y1 τ2 → Q (some (.inl y1)) τ2))))))) : w_Call (xs, (d + 2)) 192 [.inr (.inr (9, 122)), .inl x1, .inl x2] σ Q :=
  (w_mk (mid := 192) (by decide) rfl rfl rfl rfl rfl (Nat.le_of_ble_eq_true rfl) ⟨rfl, Or.inl (by decide)⟩ (wi_aload0 f192_0 (wi_iload1 f192_1 (wi_call2 f192_2 (Nat.le_of_ble_eq_true rfl) (k_Model_isStrip h.1 (wi_ifb_eq f192_3 (fun c4 => (wi_bipush f192_14 (wi_ret1 f192_15 (h.2.1 c4)))) (fun c4 => (wi_iload2 f192_4 (wi_call1 f192_5 (Nat.le_of_ble_eq_true rfl) (k_Model_isOwner (wi_ifb_eq f192_6 (fun c3 => (wi_bipush f192_14 (wi_ret1 f192_15 ((h.2.2 c4).1 c3)))) (fun c3 => (wi_aload0 f192_7 (wi_bipush f192_8 (wi_iload1 f192_9 (wi_iadd f192_10 ((h.2.2 c4).2 c3).1 (wi_iload2 f192_11 (wi_call3 f192_12 (Nat.le_of_ble_eq_true rfl) (k_Model_becomes ((h.2.2 c4).2 c3).2.1 (fun y1 τ2 eτ2 => (wi_goto f192_13 (wi_ret1 f192_15 (((h.2.2 c4).2 c3).2.2 y1 τ2 eτ2)))))))))))))))))))))))
theorem f193_0 : w_fe am_c193 0 1 (.aload 0) := ⟨rfl, rfl⟩
theorem f193_1 : w_fe am_c193 1 2 (.iload 1) := ⟨rfl, rfl⟩
theorem f193_2 : w_fe am_c193 2 3 (.invokestatic 178) := ⟨rfl, rfl⟩
theorem f193_3 : w_if am_c193 3 4 .eq 17 := ⟨rfl, rfl⟩
theorem f193_4 : w_fe am_c193 4 5 (.iload 2) := ⟨rfl, rfl⟩
theorem f193_5 : w_fe am_c193 5 6 (.i2l) := ⟨rfl, rfl⟩
theorem f193_6 : w_fe am_c193 6 7 (.sipush 0) := ⟨rfl, rfl⟩
theorem f193_7 : w_fe am_c193 7 8 (.sipush 40) := ⟨rfl, rfl⟩
theorem f193_8 : w_fe am_c193 8 9 (.invokestatic 158) := ⟨rfl, rfl⟩
theorem f193_9 : w_if am_c193 9 10 .eq 17 := ⟨rfl, rfl⟩
theorem f193_10 : w_fe am_c193 10 11 (.aload 0) := ⟨rfl, rfl⟩
theorem f193_11 : w_fe am_c193 11 12 (.bipush 0) := ⟨rfl, rfl⟩
theorem f193_12 : w_fe am_c193 12 13 (.iload 1) := ⟨rfl, rfl⟩
theorem f193_13 : w_fe am_c193 13 14 (.iadd) := ⟨rfl, rfl⟩
theorem f193_14 : w_fe am_c193 14 15 (.iload 2) := ⟨rfl, rfl⟩
theorem f193_15 : w_fe am_c193 15 16 (.invokestatic 186) := ⟨rfl, rfl⟩
theorem f193_16 : w_gt am_c193 16 18 := rfl
theorem f193_17 : w_fe am_c193 17 18 (.bipush (-1)) := ⟨rfl, rfl⟩
theorem f193_18 : w_fe am_c193 18 19 (.ireturn) := ⟨rfl, rfl⟩
set_option maxRecDepth 20000 in
theorem b193_0 {xs : List Int} {d : Nat} {Q : Option w_V → w_M → Prop} {x1 : Int} {x2 : Int} {σ : w_M}
    (h : p_Model_isStrip x1 σ ∧ ((¬ (0 ≤ x1 ∧ x1 < σ 122 4) → Q (some (.inl (-1))) σ) ∧ ((0 ≤ x1 ∧ x1 < σ 122 4) → ((¬ (0 ≤ x2 ∧ x2 ≤ 40) → Q (some (.inl (-1))) σ) ∧ ((0 ≤ x2 ∧ x2 ≤ 40) → (w_in (0 + x1) ∧ p_Model_becomes (0 + x1) x2 σ ∧ (∀ (y1 : Int) (τ2 : w_M), q_Model_becomes (0 + x1) x2 σ y1 τ2 → Q (some (.inl y1)) τ2))))))) : w_Call (xs, (d + 2)) 193 [.inr (.inr (9, 122)), .inl x1, .inl x2] σ Q :=
  (w_mk (mid := 193) (by decide) rfl rfl rfl rfl rfl (Nat.le_of_ble_eq_true rfl) ⟨rfl, Or.inl (by decide)⟩ (wi_aload0 f193_0 (wi_iload1 f193_1 (wi_call2 f193_2 (Nat.le_of_ble_eq_true rfl) (k_Model_isStrip h.1 (wi_ifb_eq f193_3 (fun c4 => (wi_bipush f193_17 (wi_ret1 f193_18 (h.2.1 c4)))) (fun c4 => (wi_iload2 f193_4 (wi_i2l f193_5 (wi_sipush f193_6 (wi_sipush f193_7 (wi_call3 f193_8 (Nat.le_of_ble_eq_true rfl) (k_Model_in (wi_ifb_eq f193_9 (fun c3 => (wi_bipush f193_17 (wi_ret1 f193_18 ((h.2.2 c4).1 c3)))) (fun c3 => (wi_aload0 f193_10 (wi_bipush f193_11 (wi_iload1 f193_12 (wi_iadd f193_13 ((h.2.2 c4).2 c3).1 (wi_iload2 f193_14 (wi_call3 f193_15 (Nat.le_of_ble_eq_true rfl) (k_Model_becomes ((h.2.2 c4).2 c3).2.1 (fun y1 τ2 eτ2 => (wi_goto f193_16 (wi_ret1 f193_18 (((h.2.2 c4).2 c3).2.2 y1 τ2 eτ2))))))))))))))))))))))))))
theorem f191_0 : w_fe am_c191 0 1 (.aload 0) := ⟨rfl, rfl⟩
theorem f191_1 : w_fe am_c191 1 2 (.iload 1) := ⟨rfl, rfl⟩
theorem f191_2 : w_fe am_c191 2 3 (.invokestatic 178) := ⟨rfl, rfl⟩
theorem f191_3 : w_if am_c191 3 4 .eq 12 := ⟨rfl, rfl⟩
theorem f191_4 : w_fe am_c191 4 5 (.aload 0) := ⟨rfl, rfl⟩
theorem f191_5 : w_fe am_c191 5 6 (.bipush 14) := ⟨rfl, rfl⟩
theorem f191_6 : w_fe am_c191 6 7 (.iload 1) := ⟨rfl, rfl⟩
theorem f191_7 : w_fe am_c191 7 8 (.iadd) := ⟨rfl, rfl⟩
theorem f191_8 : w_fe am_c191 8 9 (.iload 2) := ⟨rfl, rfl⟩
theorem f191_9 : w_fe am_c191 9 10 (.invokestatic 180) := ⟨rfl, rfl⟩
theorem f191_10 : w_fe am_c191 10 11 (.invokestatic 186) := ⟨rfl, rfl⟩
theorem f191_11 : w_gt am_c191 11 13 := rfl
theorem f191_12 : w_fe am_c191 12 13 (.bipush (-1)) := ⟨rfl, rfl⟩
theorem f191_13 : w_fe am_c191 13 14 (.ireturn) := ⟨rfl, rfl⟩
set_option maxRecDepth 20000 in
theorem b191_0 {xs : List Int} {d : Nat} {Q : Option w_V → w_M → Prop} {x1 : Int} {x2 : Int} {σ : w_M}
    (h : p_Model_isStrip x1 σ ∧ ((¬ (0 ≤ x1 ∧ x1 < σ 122 4) → Q (some (.inl (-1))) σ) ∧ ((0 ≤ x1 ∧ x1 < σ 122 4) → (w_in (14 + x1) ∧ (∀ (y1 : Int), y1 = v_Model_flag x2 → (p_Model_becomes (14 + x1) y1 σ ∧ (∀ (y2 : Int) (τ3 : w_M), q_Model_becomes (14 + x1) y1 σ y2 τ3 → Q (some (.inl y2)) τ3))))))) : w_Call (xs, (d + 2)) 191 [.inr (.inr (9, 122)), .inl x1, .inl x2] σ Q :=
  (w_mk (mid := 191) (by decide) rfl rfl rfl rfl rfl (Nat.le_of_ble_eq_true rfl) ⟨rfl, Or.inl (by decide)⟩ (wi_aload0 f191_0 (wi_iload1 f191_1 (wi_call2 f191_2 (Nat.le_of_ble_eq_true rfl) (k_Model_isStrip h.1 (wi_ifb_eq f191_3 (fun c4 => (wi_bipush f191_12 (wi_ret1 f191_13 (h.2.1 c4)))) (fun c4 => (wi_aload0 f191_4 (wi_bipush f191_5 (wi_iload1 f191_6 (wi_iadd f191_7 (h.2.2 c4).1 (wi_iload2 f191_8 (wi_call1 f191_9 (Nat.le_of_ble_eq_true rfl) (k_Model_flag (wi_call3 f191_10 (Nat.le_of_ble_eq_true rfl) (k_Model_becomes ((h.2.2 c4).2 _ rfl).1 (fun y2 τ3 eτ3 => (wi_goto f191_11 (wi_ret1 f191_13 (((h.2.2 c4).2 _ rfl).2 y2 τ3 eτ3))))))))))))))))))))
theorem k_Model_send {xs : List Int} {d : Nat} {Q : Option w_V → w_M → Prop} {x1 : Int} {x2 : Int} {σ : w_M} (hp : p_Model_send x1 x2 σ) (hQ : ∀ (x : Int) (σ' : w_M), q_Model_send x1 x2 σ x σ' → Q (some (.inl x)) σ') : w_Call (xs, d + 2) 185 [.inr (.inr (9, 122)), .inl x1, .inl x2] σ Q := by
  have hM : MI σ := hp
  have hn := hM.n
  have h04 : w_am σ 123 0 0 4 = σ 122 4 := rfl
  unfold q_Model_send F_send G_send at hQ
  refine b185_0 ⟨hn, fun c => hQ _ _ ⟨m_no hM (fun q => c q.1), Or.inl rfl⟩, fun c => ⟨hM.s, fun c2 => hQ _ _ ⟨m_no hM (fun q => c2 q.2), Or.inl rfl⟩, fun c2 => ⟨⟨by omega, by omega⟩, ⟨by omega, by omega⟩, ⟨by omega, by omega⟩, ⟨by omega, by omega⟩, fun y τ hq => hQ _ _ ?_⟩⟩⟩
  refine ⟨?_, Or.inr ⟨by omega, by rw [hq.2]; exact congrArg (fun k => w_up σ 123 k x2) (by omega)⟩⟩
  refine m_set hM ⟨c, c2⟩ (by rw [m_rl37 (by decide) (by decide)]; omega) (by show _ = 0 + (24 + 5 * x1.toNat); omega) ?_ hq.2 hq.1
  refine n_WF_up hM.ok ?_ ?_ ?_ ?_ ?_ ?_ ?_ ?_ <;> (intros; omega)
theorem k_Model_whet {xs : List Int} {d : Nat} {Q : Option w_V → w_M → Prop} {x1 : Int} {x2 : Int} {σ : w_M} (hp : p_Model_whet x1 x2 σ) (hQ : ∀ (x : Int) (σ' : w_M), q_Model_whet x1 x2 σ x σ' → Q (some (.inl x)) σ') : w_Call (xs, d + 2) 188 [.inr (.inr (9, 122)), .inl x1, .inl x2] σ Q := by
  have hM : MI σ := hp
  have hn := hM.n
  unfold q_Model_whet F_whet G_whet at hQ
  refine b188_0 ⟨hn, fun c => hQ _ _ (m_no hM (fun q => c q.1)), fun c => ⟨fun c2 => hQ _ _ (m_no hM (fun q => c2 q.2)), fun c2 => ⟨⟨by omega, by omega⟩, ⟨by omega, by omega⟩, ⟨by omega, by omega⟩, ⟨by omega, by omega⟩, fun y τ hq => hQ _ _ ?_⟩⟩⟩
  refine m_set hM ⟨c, c2⟩ (by rw [m_rl37 (by decide) (by decide)]; omega) (by show _ = 0 + (23 + 5 * x1.toNat); omega) ?_ hq.2 hq.1
  refine n_WF_up hM.ok ?_ ?_ ?_ ?_ ?_ ?_ ?_ ?_ <;> (intros; omega)
theorem k_Model_fill {xs : List Int} {d : Nat} {Q : Option w_V → w_M → Prop} {x1 : Int} {x2 : Int} {σ : w_M} (hp : p_Model_fill x1 x2 σ) (hQ : ∀ (x : Int) (σ' : w_M), q_Model_fill x1 x2 σ x σ' → Q (some (.inl x)) σ') : w_Call (xs, d + 2) 189 [.inr (.inr (9, 122)), .inl x1, .inl x2] σ Q := by
  have hM : MI σ := hp
  have hn := hM.n
  unfold q_Model_fill F_fill G_fill at hQ
  refine b189_0 ⟨hn, fun c => hQ _ _ (m_no hM (fun q => c q.1)), fun c => ⟨fun c2 => hQ _ _ (m_no hM (fun q => c2 q.2)), fun c2 => ⟨⟨by omega, by omega⟩, ⟨by omega, by omega⟩, ⟨by omega, by omega⟩, ⟨by omega, by omega⟩, fun y τ hq => hQ _ _ ?_⟩⟩⟩
  refine m_set hM ⟨c, c2⟩ (by rw [m_rl37 (by decide) (by decide)]; omega) (by show _ = 0 + (22 + 5 * x1.toNat); omega) ?_ hq.2 hq.1
  refine n_WF_up hM.ok ?_ ?_ ?_ ?_ ?_ ?_ ?_ ?_ <;> (intros; omega)
theorem k_Model_own {xs : List Int} {d : Nat} {Q : Option w_V → w_M → Prop} {x1 : Int} {x2 : Int} {σ : w_M} (hp : p_Model_own x1 x2 σ) (hQ : ∀ (x : Int) (σ' : w_M), q_Model_own x1 x2 σ x σ' → Q (some (.inl x)) σ') : w_Call (xs, d + 2) 192 [.inr (.inr (9, 122)), .inl x1, .inl x2] σ Q := by
  have hM : MI σ := hp
  have hn := hM.s
  unfold q_Model_own F_own G_own at hQ
  refine b192_0 ⟨hn, fun c => hQ _ _ (m_no hM (fun q => c q.1)), fun c => ⟨fun c2 => hQ _ _ (m_no hM (fun q => c2 q.2)), fun c2 => ⟨⟨by omega, by omega⟩, ⟨by omega, by omega⟩, fun y τ hq => hQ _ _ ?_⟩⟩⟩
  refine m_set hM ⟨c, c2⟩ (by rw [m_rl12 (by decide) (by decide)]; omega) (by show _ = 0 + (7 + x1.toNat); omega) ?_ hq.2 hq.1
  refine n_WF_up hM.ok ?_ ?_ ?_ ?_ ?_ ?_ ?_ ?_ <;> (intros; omega)
theorem k_Model_grow {xs : List Int} {d : Nat} {Q : Option w_V → w_M → Prop} {x1 : Int} {x2 : Int} {σ : w_M} (hp : p_Model_grow x1 x2 σ) (hQ : ∀ (x : Int) (σ' : w_M), q_Model_grow x1 x2 σ x σ' → Q (some (.inl x)) σ') : w_Call (xs, d + 2) 193 [.inr (.inr (9, 122)), .inl x1, .inl x2] σ Q := by
  have hM : MI σ := hp
  have hn := hM.s
  unfold q_Model_grow F_grow G_grow at hQ
  refine b193_0 ⟨hn, fun c => hQ _ _ (m_no hM (fun q => c q.1)), fun c => ⟨fun c2 => hQ _ _ (m_no hM (fun q => c2 q.2)), fun c2 => ⟨⟨by omega, by omega⟩, ⟨by omega, by omega⟩, fun y τ hq => hQ _ _ ?_⟩⟩⟩
  refine m_set hM ⟨c, c2⟩ (by rw [m_rl12 (by decide) (by decide)]; omega) (by show _ = 0 + x1.toNat; omega) ?_ hq.2 hq.1
  refine n_WF_up hM.ok ?_ ?_ ?_ ?_ ?_ ?_ ?_ ?_ <;> (intros; omega)
theorem k_Model_thistle {xs : List Int} {d : Nat} {Q : Option w_V → w_M → Prop} {x1 : Int} {x2 : Int} {σ : w_M} (hp : p_Model_thistle x1 x2 σ) (hQ : ∀ (x : Int) (σ' : w_M), q_Model_thistle x1 x2 σ x σ' → Q (some (.inl x)) σ') : w_Call (xs, d + 2) 191 [.inr (.inr (9, 122)), .inl x1, .inl x2] σ Q := by
  obtain ⟨hM, hb⟩ := hp
  have hn := hM.s
  unfold q_Model_thistle F_thistle G_thistle at hQ
  refine b191_0 ⟨hn, fun c => hQ _ _ (m_no hM c), fun c => ⟨⟨by omega, by omega⟩, fun y ey => ⟨⟨by omega, by omega⟩, fun z τ hq => hQ _ _ ?_⟩⟩⟩
  have e : y = x2 := by rw [ey]; unfold v_Model_flag; rcases hb with rfl | rfl <;> rfl
  rw [e] at hq
  refine m_set hM c (by rw [m_rl9]; omega) (by show _ = 0 + (14 + x1.toNat); omega) ?_ hq.2 hq.1
  refine n_WF_up hM.ok ?_ ?_ ?_ ?_ ?_ ?_ ?_ ?_ <;> (intros; omega)
