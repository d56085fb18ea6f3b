/-! Images, counts: the class -/
noncomputable def p_Seen_copyFrom (a b : Nat) (σ : w_M) : Prop := (0 ≤ σ b 0 ∧ σ b 0 ≤ 8) ∧ (a + 4 ≤ b ∨ b + 4 ≤ a)
noncomputable def q_Seen_copyFrom (a b : Nat) (σ σ' : w_M) : Prop := s_ab σ' a = s_ab σ b ∧ w_fr σ σ' a (a + 4)
theorem fSeen_copyFrom_0 : w_fe am_c58 0 1 (.aload 0) := ⟨rfl, rfl⟩
theorem fSeen_copyFrom_1 : w_fe am_c58 1 2 (.aload 1) := ⟨rfl, rfl⟩
theorem fSeen_copyFrom_2 : w_fe am_c58 2 3 (.getfield 400) := ⟨rfl, rfl⟩
theorem fSeen_copyFrom_3 : w_fe am_c58 3 4 (.putfield 400) := ⟨rfl, rfl⟩
theorem fSeen_copyFrom_4 : w_fe am_c58 4 5 (.aload 1) := ⟨rfl, rfl⟩
theorem fSeen_copyFrom_5 : w_fe am_c58 5 6 (.getfield 401) := ⟨rfl, rfl⟩
theorem fSeen_copyFrom_6 : w_fe am_c58 6 7 (.bipush 0) := ⟨rfl, rfl⟩
theorem fSeen_copyFrom_7 : w_fe am_c58 7 8 (.aload 0) := ⟨rfl, rfl⟩
theorem fSeen_copyFrom_8 : w_fe am_c58 8 9 (.getfield 401) := ⟨rfl, rfl⟩
theorem fSeen_copyFrom_9 : w_fe am_c58 9 10 (.bipush 0) := ⟨rfl, rfl⟩
theorem fSeen_copyFrom_10 : w_fe am_c58 10 11 (.bipush 8) := ⟨rfl, rfl⟩
theorem fSeen_copyFrom_11 : w_fe am_c58 11 12 (.invokedynamic 0) := ⟨rfl, rfl⟩
theorem fSeen_copyFrom_12 : w_fe am_c58 12 13 (.aload 1) := ⟨rfl, rfl⟩
theorem fSeen_copyFrom_13 : w_fe am_c58 13 14 (.getfield 402) := ⟨rfl, rfl⟩
theorem fSeen_copyFrom_14 : w_fe am_c58 14 15 (.bipush 0) := ⟨rfl, rfl⟩
theorem fSeen_copyFrom_15 : w_fe am_c58 15 16 (.aload 0) := ⟨rfl, rfl⟩
theorem fSeen_copyFrom_16 : w_fe am_c58 16 17 (.getfield 402) := ⟨rfl, rfl⟩
theorem fSeen_copyFrom_17 : w_fe am_c58 17 18 (.bipush 0) := ⟨rfl, rfl⟩
theorem fSeen_copyFrom_18 : w_fe am_c58 18 19 (.bipush 8) := ⟨rfl, rfl⟩
theorem fSeen_copyFrom_19 : w_fe am_c58 19 20 (.invokedynamic 0) := ⟨rfl, rfl⟩
theorem fSeen_copyFrom_20 : w_fe am_c58 20 21 (.aload 1) := ⟨rfl, rfl⟩
theorem fSeen_copyFrom_21 : w_fe am_c58 21 22 (.getfield 403) := ⟨rfl, rfl⟩
theorem fSeen_copyFrom_22 : w_fe am_c58 22 23 (.bipush 0) := ⟨rfl, rfl⟩
theorem fSeen_copyFrom_23 : w_fe am_c58 23 24 (.aload 0) := ⟨rfl, rfl⟩
theorem fSeen_copyFrom_24 : w_fe am_c58 24 25 (.getfield 403) := ⟨rfl, rfl⟩
theorem fSeen_copyFrom_25 : w_fe am_c58 25 26 (.bipush 0) := ⟨rfl, rfl⟩
theorem fSeen_copyFrom_26 : w_fe am_c58 26 27 (.bipush 8) := ⟨rfl, rfl⟩
theorem fSeen_copyFrom_27 : w_fe am_c58 27 28 (.invokedynamic 0) := ⟨rfl, rfl⟩
theorem fSeen_copyFrom_28 : w_fe am_c58 28 29 (.return_) := ⟨rfl, rfl⟩
set_option maxRecDepth 20000 in
theorem bSeen_copyFrom_0 {xs : List Int} {d : Nat} {Q : Option w_V → w_M → Prop} {a : Nat} {b : Nat} {σ : w_M}
    (h : ∀ (τ1 : w_M), τ1 = w_up σ a 0 (σ b 0) → ∀ (τ2 : w_M), τ2 = w_cpy τ1 (b + 1) (a + 1) 0 0 8 → ∀ (τ3 : w_M), τ3 = w_cpy τ2 (b + 2) (a + 2) 0 0 8 → ∀ (τ4 : w_M), τ4 = w_cpy τ3 (b + 3) (a + 3) 0 0 8 → Q none τ4) : w_Call (xs, d) 58 [.inr (.inr (4, a)), .inr (.inr (4, b))] σ Q :=
  (w_mk (mid := 58) (by decide) rfl rfl rfl rfl rfl (Nat.le_of_ble_eq_true rfl) ⟨rfl, Or.inl (by decide)⟩ (wi_aload0 fSeen_copyFrom_0 (wi_aload1 fSeen_copyFrom_1 (wi_getf400 fSeen_copyFrom_2 (wi_putf400 fSeen_copyFrom_3 (wi_aload1 fSeen_copyFrom_4 (wi_getf401 fSeen_copyFrom_5 (wi_bipush fSeen_copyFrom_6 (wi_aload0 fSeen_copyFrom_7 (wi_getf401 fSeen_copyFrom_8 (wi_bipush fSeen_copyFrom_9 (wi_bipush fSeen_copyFrom_10 (wi_acopy fSeen_copyFrom_11 (by decide) (Nat.le_of_ble_eq_true rfl) (by decide) (by decide) (by decide) (by decide) (by decide) (wi_aload1 fSeen_copyFrom_12 (wi_getf402 fSeen_copyFrom_13 (wi_bipush fSeen_copyFrom_14 (wi_aload0 fSeen_copyFrom_15 (wi_getf402 fSeen_copyFrom_16 (wi_bipush fSeen_copyFrom_17 (wi_bipush fSeen_copyFrom_18 (wi_acopy fSeen_copyFrom_19 (by decide) (Nat.le_of_ble_eq_true rfl) (by decide) (by decide) (by decide) (by decide) (by decide) (wi_aload1 fSeen_copyFrom_20 (wi_getf403 fSeen_copyFrom_21 (wi_bipush fSeen_copyFrom_22 (wi_aload0 fSeen_copyFrom_23 (wi_getf403 fSeen_copyFrom_24 (wi_bipush fSeen_copyFrom_25 (wi_bipush fSeen_copyFrom_26 (wi_acopy fSeen_copyFrom_27 (by decide) (Nat.le_of_ble_eq_true rfl) (by decide) (by decide) (by decide) (by decide) (by decide) (wi_ret0 fSeen_copyFrom_28 ((((h _ rfl) _ rfl) _ rfl) _ rfl)))))))))))))))))))))))))))))))
theorem k_Seen_copyFrom {xs : List Int} {d : Nat} {Q : Option w_V → w_M → Prop} {a : Nat} {b : Nat} {σ : w_M} (hp : p_Seen_copyFrom a b σ) (hQ : ∀ σ' : w_M, q_Seen_copyFrom a b σ σ' → Q none σ') : w_Call (xs, d) 58 [.inr (.inr (4, a)), .inr (.inr (4, b))] σ Q := by
  obtain ⟨h0, hab⟩ := hp
  refine bSeen_copyFrom_0 ?_
  intro τ1 t1 τ2 t2 τ3 t3 τ4 t4
  have f1 : w_fr σ τ1 a (a + 4) := by rw [t1]; exact w_fr.up0 (by omega) (by omega)
  have f2 : w_fr σ τ2 a (a + 4) := by rw [t2]; exact f1.cpy (by omega) (by omega)
  have f3 : w_fr σ τ3 a (a + 4) := by rw [t3]; exact f2.cpy (by omega) (by omega)
  have f4 : w_fr σ τ4 a (a + 4) := by rw [t4]; exact f3.cpy (by omega) (by omega)
  refine hQ _ ⟨?_, f4⟩
  rw [s_ab_g, s_ab_g]
  have e0 : τ4 a 0 = σ b 0 := by rw [t4, w_cpy_ne (by omega), t3, w_cpy_ne (by omega), t2, w_cpy_ne (by omega), t1, w_up_at]
  refine g_ab_congr e0 (fun d i h1 h2 h3 => ?_)
  show τ4 (a + d) i = σ (b + d) i
  have hi : i < 8 := by omega
  rcases (show d = 1 ∨ d = 2 ∨ d = 3 by omega) with rfl | rfl | rfl
  · rw [t4, w_cpy_ne (by omega), t3, w_cpy_ne (by omega), t2, w_cpy_at hi, f1 _ (by omega)]
  · rw [t4, w_cpy_ne (by omega), t3, w_cpy_at hi, f2 _ (by omega)]
  · rw [t4, w_cpy_at hi, f3 _ (by omega)]
noncomputable def p_Paid_copyFrom (a b : Nat) (σ : w_M) : Prop := (0 ≤ σ b 0 ∧ σ b 0 ≤ 4) ∧ (a + 3 ≤ b ∨ b + 3 ≤ a)
noncomputable def q_Paid_copyFrom (a b : Nat) (σ σ' : w_M) : Prop := c_ab σ' a = c_ab σ b ∧ w_fr σ σ' a (a + 3)
theorem fPaid_copyFrom_0 : w_fe am_c62 0 1 (.aload 0) := ⟨rfl, rfl⟩
theorem fPaid_copyFrom_1 : w_fe am_c62 1 2 (.aload 1) := ⟨rfl, rfl⟩
theorem fPaid_copyFrom_2 : w_fe am_c62 2 3 (.getfield 500) := ⟨rfl, rfl⟩
theorem fPaid_copyFrom_3 : w_fe am_c62 3 4 (.putfield 500) := ⟨rfl, rfl⟩
theorem fPaid_copyFrom_4 : w_fe am_c62 4 5 (.aload 1) := ⟨rfl, rfl⟩
theorem fPaid_copyFrom_5 : w_fe am_c62 5 6 (.getfield 501) := ⟨rfl, rfl⟩
theorem fPaid_copyFrom_6 : w_fe am_c62 6 7 (.bipush 0) := ⟨rfl, rfl⟩
theorem fPaid_copyFrom_7 : w_fe am_c62 7 8 (.aload 0) := ⟨rfl, rfl⟩
theorem fPaid_copyFrom_8 : w_fe am_c62 8 9 (.getfield 501) := ⟨rfl, rfl⟩
theorem fPaid_copyFrom_9 : w_fe am_c62 9 10 (.bipush 0) := ⟨rfl, rfl⟩
theorem fPaid_copyFrom_10 : w_fe am_c62 10 11 (.bipush 4) := ⟨rfl, rfl⟩
theorem fPaid_copyFrom_11 : w_fe am_c62 11 12 (.invokedynamic 0) := ⟨rfl, rfl⟩
theorem fPaid_copyFrom_12 : w_fe am_c62 12 13 (.aload 1) := ⟨rfl, rfl⟩
theorem fPaid_copyFrom_13 : w_fe am_c62 13 14 (.getfield 502) := ⟨rfl, rfl⟩
theorem fPaid_copyFrom_14 : w_fe am_c62 14 15 (.bipush 0) := ⟨rfl, rfl⟩
theorem fPaid_copyFrom_15 : w_fe am_c62 15 16 (.aload 0) := ⟨rfl, rfl⟩
theorem fPaid_copyFrom_16 : w_fe am_c62 16 17 (.getfield 502) := ⟨rfl, rfl⟩
theorem fPaid_copyFrom_17 : w_fe am_c62 17 18 (.bipush 0) := ⟨rfl, rfl⟩
theorem fPaid_copyFrom_18 : w_fe am_c62 18 19 (.bipush 4) := ⟨rfl, rfl⟩
theorem fPaid_copyFrom_19 : w_fe am_c62 19 20 (.invokedynamic 0) := ⟨rfl, rfl⟩
theorem fPaid_copyFrom_20 : w_fe am_c62 20 21 (.return_) := ⟨rfl, rfl⟩
set_option maxRecDepth 20000 in
theorem bPaid_copyFrom_0 {xs : List Int} {d : Nat} {Q : Option w_V → w_M → Prop} {a : Nat} {b : Nat} {σ : w_M}
    (h : ∀ (τ1 : w_M), τ1 = w_up σ a 0 (σ b 0) → ∀ (τ2 : w_M), τ2 = w_cpy τ1 (b + 1) (a + 1) 0 0 4 → ∀ (τ3 : w_M), τ3 = w_cpy τ2 (b + 2) (a + 2) 0 0 4 → Q none τ3) : w_Call (xs, d) 62 [.inr (.inr (5, a)), .inr (.inr (5, b))] σ Q :=
  (w_mk (mid := 62) (by decide) rfl rfl rfl rfl rfl (Nat.le_of_ble_eq_true rfl) ⟨rfl, Or.inl (by decide)⟩ (wi_aload0 fPaid_copyFrom_0 (wi_aload1 fPaid_copyFrom_1 (wi_getf500 fPaid_copyFrom_2 (wi_putf500 fPaid_copyFrom_3 (wi_aload1 fPaid_copyFrom_4 (wi_getf501 fPaid_copyFrom_5 (wi_bipush fPaid_copyFrom_6 (wi_aload0 fPaid_copyFrom_7 (wi_getf501 fPaid_copyFrom_8 (wi_bipush fPaid_copyFrom_9 (wi_bipush fPaid_copyFrom_10 (wi_acopy fPaid_copyFrom_11 (by decide) (Nat.le_of_ble_eq_true rfl) (by decide) (by decide) (by decide) (by decide) (by decide) (wi_aload1 fPaid_copyFrom_12 (wi_getf502 fPaid_copyFrom_13 (wi_bipush fPaid_copyFrom_14 (wi_aload0 fPaid_copyFrom_15 (wi_getf502 fPaid_copyFrom_16 (wi_bipush fPaid_copyFrom_17 (wi_bipush fPaid_copyFrom_18 (wi_acopy fPaid_copyFrom_19 (by decide) (Nat.le_of_ble_eq_true rfl) (by decide) (by decide) (by decide) (by decide) (by decide) (wi_ret0 fPaid_copyFrom_20 (((h _ rfl) _ rfl) _ rfl)))))))))))))))))))))))
theorem k_Paid_copyFrom {xs : List Int} {d : Nat} {Q : Option w_V → w_M → Prop} {a : Nat} {b : Nat} {σ : w_M} (hp : p_Paid_copyFrom a b σ) (hQ : ∀ σ' : w_M, q_Paid_copyFrom a b σ σ' → Q none σ') : w_Call (xs, d) 62 [.inr (.inr (5, a)), .inr (.inr (5, b))] σ Q := by
  obtain ⟨h0, hab⟩ := hp
  refine bPaid_copyFrom_0 ?_
  intro τ1 t1 τ2 t2 τ3 t3
  have f1 : w_fr σ τ1 a (a + 3) := by rw [t1]; exact w_fr.up0 (by omega) (by omega)
  have f2 : w_fr σ τ2 a (a + 3) := by rw [t2]; exact f1.cpy (by omega) (by omega)
  have f3 : w_fr σ τ3 a (a + 3) := by rw [t3]; exact f2.cpy (by omega) (by omega)
  refine hQ _ ⟨?_, f3⟩
  rw [c_ab_g, c_ab_g]
  have e0 : τ3 a 0 = σ b 0 := by rw [t3, w_cpy_ne (by omega), t2, w_cpy_ne (by omega), t1, w_up_at]
  refine g_ab_congr e0 (fun d i h1 h2 h3 => ?_)
  show τ3 (a + d) i = σ (b + d) i
  have hi : i < 4 := by omega
  rcases (show d = 1 ∨ d = 2 by omega) with rfl | rfl
  · rw [t3, w_cpy_ne (by omega), t2, w_cpy_at hi, f1 _ (by omega)]
  · rw [t3, w_cpy_at hi, f2 _ (by omega)]
noncomputable def p_State_copyFrom (a b : Nat) (σ : w_M) : Prop := n_ok σ (b + 1) ∧ (0 ≤ σ (b + 10) 0 ∧ σ (b + 10) 0 ≤ 8) ∧ (0 ≤ σ (b + 14) 0 ∧ σ (b + 14) 0 ≤ 4) ∧ (a + 17 ≤ b ∨ b + 17 ≤ a)
noncomputable def q_State_copyFrom (a b : Nat) (σ σ' : w_M) : Prop := w_ab σ' (a + 1) = w_ab σ (b + 1) ∧ σ' (a + 1) 6 = σ (b + 1) 6 ∧ s_ab σ' (a + 10) = s_ab σ (b + 10) ∧ c_ab σ' (a + 14) = c_ab σ (b + 14) ∧ w_fr σ σ' (a + 1) (a + 17)
theorem fState_copyFrom_0 : w_fe am_c54 0 1 (.aload 0) := ⟨rfl, rfl⟩
theorem fState_copyFrom_1 : w_fe am_c54 1 2 (.getfield 300) := ⟨rfl, rfl⟩
theorem fState_copyFrom_2 : w_fe am_c54 2 3 (.aload 1) := ⟨rfl, rfl⟩
theorem fState_copyFrom_3 : w_fe am_c54 3 4 (.getfield 300) := ⟨rfl, rfl⟩
theorem fState_copyFrom_4 : w_fe am_c54 4 5 (.invokestatic 34) := ⟨rfl, rfl⟩
theorem fState_copyFrom_5 : w_fe am_c54 5 6 (.aload 0) := ⟨rfl, rfl⟩
theorem fState_copyFrom_6 : w_fe am_c54 6 7 (.getfield 301) := ⟨rfl, rfl⟩
theorem fState_copyFrom_7 : w_fe am_c54 7 8 (.aload 1) := ⟨rfl, rfl⟩
theorem fState_copyFrom_8 : w_fe am_c54 8 9 (.getfield 301) := ⟨rfl, rfl⟩
theorem fState_copyFrom_9 : w_fe am_c54 9 10 (.invokestatic 58) := ⟨rfl, rfl⟩
theorem fState_copyFrom_10 : w_fe am_c54 10 11 (.aload 0) := ⟨rfl, rfl⟩
theorem fState_copyFrom_11 : w_fe am_c54 11 12 (.getfield 302) := ⟨rfl, rfl⟩
theorem fState_copyFrom_12 : w_fe am_c54 12 13 (.aload 1) := ⟨rfl, rfl⟩
theorem fState_copyFrom_13 : w_fe am_c54 13 14 (.getfield 302) := ⟨rfl, rfl⟩
theorem fState_copyFrom_14 : w_fe am_c54 14 15 (.invokestatic 62) := ⟨rfl, rfl⟩
theorem fState_copyFrom_15 : w_fe am_c54 15 16 (.return_) := ⟨rfl, rfl⟩
set_option maxRecDepth 20000 in
theorem bState_copyFrom_0 {xs : List Int} {d : Nat} {Q : Option w_V → w_M → Prop} {a : Nat} {b : Nat} {σ : w_M}
    (h : p_Field_copyFrom (a + 1) (b + 1) σ ∧ (∀ (τ1 : w_M), q_Field_copyFrom (a + 1) (b + 1) σ τ1 → (p_Seen_copyFrom (a + 10) (b + 10) τ1 ∧ (∀ (τ2 : w_M), q_Seen_copyFrom (a + 10) (b + 10) τ1 τ2 → (p_Paid_copyFrom (a + 14) (b + 14) τ2 ∧ (∀ (τ3 : w_M), q_Paid_copyFrom (a + 14) (b + 14) τ2 τ3 → Q none τ3)))))) : w_Call (xs, (d + 1)) 54 [.inr (.inr (3, a)), .inr (.inr (3, b))] σ Q :=
  (w_mk (mid := 54) (by decide) rfl rfl rfl rfl rfl (Nat.le_of_ble_eq_true rfl) ⟨rfl, Or.inl (by decide)⟩ (wi_aload0 fState_copyFrom_0 (wi_getf300 fState_copyFrom_1 (wi_aload1 fState_copyFrom_2 (wi_getf300 fState_copyFrom_3 (wi_call2 fState_copyFrom_4 (Nat.le_of_ble_eq_true rfl) (k_Field_copyFrom h.1 (fun τ1 eτ1 => (wi_aload0 fState_copyFrom_5 (wi_getf301 fState_copyFrom_6 (wi_aload1 fState_copyFrom_7 (wi_getf301 fState_copyFrom_8 (wi_call2 fState_copyFrom_9 (Nat.le_of_ble_eq_true rfl) (k_Seen_copyFrom (h.2 τ1 eτ1).1 (fun τ2 eτ2 => (wi_aload0 fState_copyFrom_10 (wi_getf302 fState_copyFrom_11 (wi_aload1 fState_copyFrom_12 (wi_getf302 fState_copyFrom_13 (wi_call2 fState_copyFrom_14 (Nat.le_of_ble_eq_true rfl) (k_Paid_copyFrom ((h.2 τ1 eτ1).2 τ2 eτ2).1 (fun τ3 eτ3 => (wi_ret0 fState_copyFrom_15 (((h.2 τ1 eτ1).2 τ2 eτ2).2 τ3 eτ3))))))))))))))))))))))))
theorem k_State_copyFrom {xs : List Int} {d : Nat} {Q : Option w_V → w_M → Prop} {a : Nat} {b : Nat} {σ : w_M} (hp : p_State_copyFrom a b σ) (hQ : ∀ σ' : w_M, q_State_copyFrom a b σ σ' → Q none σ') : w_Call (xs, d + 1) 54 [.inr (.inr (3, a)), .inr (.inr (3, b))] σ Q := by
  obtain ⟨h1, h2, h3, hab⟩ := hp
  refine bState_copyFrom_0 ⟨⟨h1, by omega⟩, fun τ1 q1 => ?_⟩
  obtain ⟨a1, a2, a3⟩ := q1
  refine ⟨⟨by rw [a3 (b + 10) (by omega)]; exact h2, by omega⟩, fun τ2 q2 => ?_⟩
  obtain ⟨b1, b2⟩ := q2
  refine ⟨⟨by rw [b2 (b + 14) (by omega), a3 (b + 14) (by omega)]; exact h3, by omega⟩, fun τ3 q3 => ?_⟩
  obtain ⟨c1, c2⟩ := q3
  have g2 : ∀ d, d < 9 → τ3 (a + 1 + d) = τ1 (a + 1 + d) := fun d hd => by rw [c2 _ (by omega), b2 _ (by omega)]
  refine hQ _ ⟨?_, ?_, ?_, ?_, fun x hx => ?_⟩
  · rw [← a1]; exact w_ab_fr g2
  · rw [show τ3 (a + 1) = τ1 (a + 1) from g2 0 (by decide)]; exact a2
  · rw [s_ab_fr (σ := τ2) (fun d hd => c2 _ (by omega)), b1]
    exact s_ab_fr (fun d hd => a3 _ (by omega))
  · rw [c1]
    exact c_ab_fr (fun d hd => by rw [b2 _ (by omega), a3 _ (by omega)])
  · rw [c2 x (by omega), b2 x (by omega), a3 x (by omega)]
theorem sWF_im {S : w_S} (h : sWF S) {k : Nat} (hk : k = 0 ∨ k = 1) : sWF (im_set S k) := by
  obtain ⟨h0, h1, h2, h3, h4, h5, h6, h7, h8⟩ := h
  have im0 : imWF (S 0) (S 0) (S 1) (S 2) := ⟨h0, ⟨rfl, rfl, rfl⟩, h1, h2⟩
  rcases hk with rfl | rfl
  · exact ⟨h0, h1, h2, h3, h4, Or.inr rfl, h6, fun _ => im0, h8⟩
  · exact ⟨h0, h1, h2, h3, h4, h5, Or.inr rfl, h7, fun _ => im0⟩
theorem sWF_bk {S : w_S} (h : sWF S) {k : Nat} (hk : k = 0 ∨ k = 1) (h1k : S 11 0 k = 1) : sWF (im_get S k) := by
  obtain ⟨h0, h1, h2, h3, h4, h5, h6, h7, h8⟩ := h
  rcases hk with rfl | rfl
  · obtain ⟨i1, ⟨i2, i3, i4⟩, i5, i6⟩ := h7 h1k
    refine ⟨i1, i5, i6, h3, h4, h5, h6, fun _ => ⟨i1, ⟨rfl, rfl, rfl⟩, i5, i6⟩, fun hk => ?_⟩
    obtain ⟨j1, ⟨j2, j3, j4⟩, j5, j6⟩ := h8 hk
    exact ⟨j1, ⟨j2.trans i2.symm, j3.trans i3.symm, j4.trans i4.symm⟩, j5, j6⟩
  · obtain ⟨i1, ⟨i2, i3, i4⟩, i5, i6⟩ := h8 h1k
    refine ⟨i1, i5, i6, h3, h4, h5, h6, fun hk => ?_, fun _ => ⟨i1, ⟨rfl, rfl, rfl⟩, i5, i6⟩⟩
    obtain ⟨j1, ⟨j2, j3, j4⟩, j5, j6⟩ := h7 hk
    exact ⟨j1, ⟨j2.trans i2.symm, j3.trans i3.symm, j4.trans i4.symm⟩, j5, j6⟩
theorem w_kp_bits : ∀ m, m < 4 → ∀ k, k < 2 → (0 ≤ v_Moon_withBit (m : Nat) (k : Nat) 1 ∧ v_Moon_withBit (m : Nat) (k : Nat) 1 ≤ 3) ∧ ∀ j, j < 2 → w_and (w_shr (v_Moon_withBit (m : Nat) (k : Nat) 1) ((j : Nat) : Int)) 1 = if j = k then 1 else w_and (w_shr ((m : Nat) : Int) ((j : Nat) : Int)) 1 := by decide +kernel
noncomputable def p_Moon_keep (_x1 : Int) (σ : w_M) : Prop := CI σ
noncomputable def q_Moon_keep (x1 : Int) (σ : w_M) (x : Int) (σ' : w_M) : Prop := c_q (F_keep (cS σ) x1) (G_keep (cS σ) x1) σ x σ'
theorem fMoon_keep_0 : w_fe am_c146 0 1 (.iload 1) := ⟨rfl, rfl⟩
theorem fMoon_keep_1 : w_fe am_c146 1 2 (.bipush 0) := ⟨rfl, rfl⟩
theorem fMoon_keep_2 : w_fe am_c146 2 3 (.bipush 1) := ⟨rfl, rfl⟩
theorem fMoon_keep_3 : w_fe am_c146 3 4 (.invokestatic 107) := ⟨rfl, rfl⟩
theorem fMoon_keep_4 : w_if am_c146 4 5 .ne 7 := ⟨rfl, rfl⟩
theorem fMoon_keep_5 : w_fe am_c146 5 6 (.bipush (-1)) := ⟨rfl, rfl⟩
theorem fMoon_keep_6 : w_fe am_c146 6 7 (.ireturn) := ⟨rfl, rfl⟩
theorem fMoon_keep_7 : w_fe am_c146 7 8 (.aload 0) := ⟨rfl, rfl⟩
theorem fMoon_keep_8 : w_fe am_c146 8 9 (.getfield 7) := ⟨rfl, rfl⟩
theorem fMoon_keep_9 : w_fe am_c146 9 10 (.iload 1) := ⟨rfl, rfl⟩
theorem fMoon_keep_10 : w_fe am_c146 10 11 (.ishr) := ⟨rfl, rfl⟩
theorem fMoon_keep_11 : w_fe am_c146 11 12 (.bipush 1) := ⟨rfl, rfl⟩
theorem fMoon_keep_12 : w_fe am_c146 12 13 (.iand) := ⟨rfl, rfl⟩
theorem fMoon_keep_13 : w_fe am_c146 13 14 (.istore 2) := ⟨rfl, rfl⟩
theorem fMoon_keep_14 : w_fe am_c146 14 15 (.aload 0) := ⟨rfl, rfl⟩
theorem fMoon_keep_15 : w_fe am_c146 15 16 (.getfield 3) := ⟨rfl, rfl⟩
theorem fMoon_keep_16 : w_fe am_c146 16 17 (.iload 1) := ⟨rfl, rfl⟩
theorem fMoon_keep_17 : w_fe am_c146 17 18 (.aaload) := ⟨rfl, rfl⟩
theorem fMoon_keep_18 : w_fe am_c146 18 19 (.aload 0) := ⟨rfl, rfl⟩
theorem fMoon_keep_19 : w_fe am_c146 19 20 (.getfield 1) := ⟨rfl, rfl⟩
theorem fMoon_keep_20 : w_fe am_c146 20 21 (.invokestatic 54) := ⟨rfl, rfl⟩
theorem fMoon_keep_21 : w_fe am_c146 21 22 (.aload 0) := ⟨rfl, rfl⟩
theorem fMoon_keep_22 : w_fe am_c146 22 23 (.aload 0) := ⟨rfl, rfl⟩
theorem fMoon_keep_23 : w_fe am_c146 23 24 (.getfield 7) := ⟨rfl, rfl⟩
theorem fMoon_keep_24 : w_fe am_c146 24 25 (.iload 1) := ⟨rfl, rfl⟩
theorem fMoon_keep_25 : w_fe am_c146 25 26 (.bipush 1) := ⟨rfl, rfl⟩
theorem fMoon_keep_26 : w_fe am_c146 26 27 (.invokestatic 110) := ⟨rfl, rfl⟩
theorem fMoon_keep_27 : w_fe am_c146 27 28 (.putfield 7) := ⟨rfl, rfl⟩
theorem fMoon_keep_28 : w_fe am_c146 28 29 (.iload 2) := ⟨rfl, rfl⟩
theorem fMoon_keep_29 : w_fe am_c146 29 30 (.ireturn) := ⟨rfl, rfl⟩
set_option maxRecDepth 20000 in
theorem bMoon_keep_0 {xs : List Int} {d : Nat} {Q : Option w_V → w_M → Prop} {x1 : Int} {σ : w_M}
    (h : ((0 ≤ x1 ∧ x1 ≤ 1) → ∀ (y1 : Int), y1 = (w_and (w_shr (σ 0 7) x1) 1) → (0 ≤ x1 ∧ x1 < 2 ∧ p_State_copyFrom (88 + 17 * x1.toNat) 13 σ ∧ (∀ (τ2 : w_M), q_State_copyFrom (88 + 17 * x1.toNat) 13 σ τ2 → ∀ (y3 : Int), y3 = v_Moon_withBit (τ2 0 7) x1 1 → ∀ (τ4 : w_M), τ4 = w_up τ2 0 7 y3 → Q (some (.inl y1)) τ4))) ∧ (¬ (0 ≤ x1 ∧ x1 ≤ 1) → Q (some (.inl (-1))) σ)) : w_Call (xs, (d + 2)) 146 [.inr (.inr (0, 0)), .inl x1] σ Q :=
  (w_mk (mid := 146) (by decide) rfl rfl rfl rfl rfl (Nat.le_of_ble_eq_true rfl) ⟨rfl, Or.inl (by decide)⟩ (wi_iload1 fMoon_keep_0 (wi_bipush fMoon_keep_1 (wi_bipush fMoon_keep_2 (wi_call3 fMoon_keep_3 (Nat.le_of_ble_eq_true rfl) (k_Moon_isWithin (wi_ifb_ne fMoon_keep_4 (fun c5 => (wi_aload0 fMoon_keep_7 (wi_getf7 fMoon_keep_8 (wi_iload1 fMoon_keep_9 (wi_ishr fMoon_keep_10 (wi_bipush fMoon_keep_11 (wi_iand fMoon_keep_12 (wi_istore2 fMoon_keep_13 trivial (wi_aload0 fMoon_keep_14 (wi_getf3 fMoon_keep_15 (wi_iload1 fMoon_keep_16 (wi_aald4002 fMoon_keep_17 ((h.1 c5) _ rfl).1 ((h.1 c5) _ rfl).2.1 (wi_aload0 fMoon_keep_18 (wi_getf1 fMoon_keep_19 (wi_call2 fMoon_keep_20 (Nat.le_of_ble_eq_true rfl) (k_State_copyFrom ((h.1 c5) _ rfl).2.2.1 (fun τ2 eτ2 => (wi_aload0 fMoon_keep_21 (wi_aload0 fMoon_keep_22 (wi_getf7 fMoon_keep_23 (wi_iload1 fMoon_keep_24 (wi_bipush fMoon_keep_25 (wi_call3 fMoon_keep_26 (Nat.le_of_ble_eq_true rfl) (k_Moon_withBit (wi_putf7 fMoon_keep_27 (wi_iload2 fMoon_keep_28 (wi_ret1 fMoon_keep_29 (((((h.1 c5) _ rfl).2.2.2 τ2 eτ2) _ rfl) _ rfl)))))))))))))))))))))))))))) (fun c5 => (wi_bipush fMoon_keep_5 (wi_ret1 fMoon_keep_6 (h.2 c5)))))))))))
theorem cS_11 {σ : w_M} {k : Nat} (hk : k < 2) : cS σ 11 0 k = k_ab σ k := by
  show (if 0 = 0 ∧ k < 2 then k_ab σ k else 0) = _
  rw [if_pos ⟨rfl, hk⟩]
set_option maxHeartbeats 1000000 in
theorem k_Moon_keep {xs : List Int} {d : Nat} {Q : Option w_V → w_M → Prop} {x1 : Int} {σ : w_M} (hp : p_Moon_keep x1 σ) (hQ : ∀ (x : Int) (σ' : w_M), q_Moon_keep x1 σ x σ' → Q (some (.inl x)) σ') : w_Call (xs, d + 2) 146 [.inr (.inr (0, 0)), .inl x1] σ Q := by
  have hC : CI σ := hp
  have hok := hC.ok
  unfold q_Moon_keep F_keep G_keep at hQ
  refine bMoon_keep_0 ⟨fun c => fun y1 e1 => ⟨c.1, by omega, ?_⟩, fun c => ?_⟩
  · rw [if_pos c, if_pos c] at hQ
    obtain ⟨k, rfl⟩ := Int.eq_ofNat_of_zero_le c.1
    have hk : k = 0 ∨ k = 1 := by omega
    rw [Int.toNat_natCast] at hQ ⊢
    refine ⟨⟨hok, hC.se, hC.pa, by omega⟩, fun τ2 q2 y3 e3 τ4 t4 => ?_⟩
    obtain ⟨a1, a2, a3, a4, a5⟩ := q2
    have z0 : τ2 0 = σ 0 := a5 0 (by omega)
    rw [z0] at e3
    have hX := hC.2
    have h7 := hX.2.1
    obtain ⟨m, em⟩ := Int.eq_ofNat_of_zero_le h7.1
    have hb := w_kp_bits m (by omega) k (by omega)
    rw [← em, ← e3] at hb
    have e7 : τ4 0 7 = y3 := by rw [t4]; exact w_up_at
    have z4 : ∀ b, b ≠ 0 → τ4 b = τ2 b := fun b hb => by rw [t4]; exact w_up_ne hb
    have kb : ∀ j, j < 2 → k_ab τ4 j = if j = k then 1 else k_ab σ j := fun j hj => by
      unfold k_ab
      rw [e7]
      exact hb.2 j hj
    have lo : ∀ b, b ≠ 0 → (b < 89 + 17 * k ∨ 105 + 17 * k ≤ b) → τ4 b = σ b := fun b h1 h2 => by rw [z4 b h1]; exact a5 b (by omega)
    have hS : cS τ4 = im_set (cS σ) k := by
      refine cS_ext ?_ ?_ ?_ ?_ ?_ (fun p hp => ?_)
      · show w_ab τ4 14 = _
        rw [w_ab_fr (fun d hd => lo _ (by omega) (by omega))]
        rcases hk with rfl | rfl <;> rfl
      · show s_ab τ4 23 = _
        rw [s_ab_fr (fun d hd => lo _ (by omega) (by omega))]
        rcases hk with rfl | rfl <;> rfl
      · show c_ab τ4 27 = _
        rw [c_ab_fr (fun d hd => lo _ (by omega) (by omega))]
        rcases hk with rfl | rfl <;> rfl
      · show t_ab τ4 = _
        rw [t_ab_fr (by rw [lo 1 (by decide) (by omega)]) (by rw [t4, w_up_j (by decide), z0]) (lo 2 (by decide) (by omega))]
        rcases hk with rfl | rfl <;> rfl
      · show h_ab τ4 = _
        rw [h_ab_fr (fun b h1 h2 => lo b (by omega) (by omega))]
        rcases hk with rfl | rfl <;> rfl
      · have kb0 := kb 0 (by decide)
        have kb1 := kb 1 (by decide)
        have A1 : w_ab τ4 (89 + 17 * k) = w_ab σ 14 := by
          rw [w_ab_fr (σ := τ2) (fun d hd => z4 _ (by omega))]
          rw [show 89 + 17 * k = 88 + 17 * k + 1 by omega]
          exact a1
        have A2 : s_ab τ4 (98 + 17 * k) = s_ab σ 23 := by
          rw [s_ab_fr (σ := τ2) (fun d hd => z4 _ (by omega))]
          rw [show 98 + 17 * k = 88 + 17 * k + 10 by omega]
          exact a3
        have A3 : c_ab τ4 (102 + 17 * k) = c_ab σ 27 := by
          rw [c_ab_fr (σ := τ2) (fun d hd => z4 _ (by omega))]
          rw [show 102 + 17 * k = 88 + 17 * k + 14 by omega]
          exact a4
        rcases hk with rfl | rfl
        · rw [if_pos rfl] at kb0
          rw [if_neg (by decide)] at kb1
          match p, hp with
          | 5, _ => simp only [cS]; rw [kb0, if_pos rfl]; exact A1
          | 6, _ => simp only [cS]; rw [kb0, if_pos rfl]; exact A2
          | 7, _ => simp only [cS]; rw [kb0, if_pos rfl]; exact A3
          | 8, _ => simp only [cS]; rw [kb1, w_ab_fr (σ := σ) (fun d hd => lo _ (by omega) (by omega))]; rfl
          | 9, _ => simp only [cS]; rw [kb1, s_ab_fr (σ := σ) (fun d hd => lo _ (by omega) (by omega))]; rfl
          | 10, _ => simp only [cS]; rw [kb1, c_ab_fr (σ := σ) (fun d hd => lo _ (by omega) (by omega))]; rfl
          | 11, _ =>
            show (fun d i => if d = 0 ∧ i < 2 then k_ab τ4 i else 0) = w_up (fun d i => if d = 0 ∧ i < 2 then k_ab σ i else 0) 0 0 1
            funext d i
            rw [w_up_eq]
            by_cases hd : d = 0 ∧ i < 2
            · rw [if_pos hd, if_pos hd, kb i hd.2]
              by_cases hi : i = 0
              · rw [if_pos hi, if_pos ⟨hd.1, hi⟩]
              · rw [if_neg hi, if_neg (fun e => hi e.2)]
            · rw [if_neg hd, if_neg hd, if_neg (fun e => hd ⟨e.1, by omega⟩)]
          | p + 12, _ => exact (show cS τ4 (p + 12) = w_0 from rfl).trans (show im_set (cS σ) 0 (p + 12) = w_0 by unfold im_set; rw [w_sp_ne (by omega), w_sp_ne (by omega), w_sp_ne (by omega), w_sp_ne (by omega)]; rfl).symm
        · rw [if_neg (by decide)] at kb0
          rw [if_pos rfl] at kb1
          match p, hp with
          | 5, _ => simp only [cS]; rw [kb0, w_ab_fr (σ := σ) (fun d hd => lo _ (by omega) (by omega))]; rfl
          | 6, _ => simp only [cS]; rw [kb0, s_ab_fr (σ := σ) (fun d hd => lo _ (by omega) (by omega))]; rfl
          | 7, _ => simp only [cS]; rw [kb0, c_ab_fr (σ := σ) (fun d hd => lo _ (by omega) (by omega))]; rfl
          | 8, _ => simp only [cS]; rw [kb1, if_pos rfl]; exact A1
          | 9, _ => simp only [cS]; rw [kb1, if_pos rfl]; exact A2
          | 10, _ => simp only [cS]; rw [kb1, if_pos rfl]; exact A3
          | 11, _ =>
            show (fun d i => if d = 0 ∧ i < 2 then k_ab τ4 i else 0) = w_up (fun d i => if d = 0 ∧ i < 2 then k_ab σ i else 0) 0 1 1
            funext d i
            rw [w_up_eq]
            by_cases hd : d = 0 ∧ i < 2
            · rw [if_pos hd, if_pos hd, kb i hd.2]
              by_cases hi : i = 1
              · rw [if_pos hi, if_pos ⟨hd.1, hi⟩]
              · rw [if_neg hi, if_neg (fun e => hi e.2)]
            · rw [if_neg hd, if_neg hd, if_neg (fun e => hd ⟨e.1, by omega⟩)]
          | p + 12, _ => exact (show cS τ4 (p + 12) = w_0 from rfl).trans (show im_set (cS σ) 1 (p + 12) = w_0 by unfold im_set; rw [w_sp_ne (by omega), w_sp_ne (by omega), w_sp_ne (by omega), w_sp_ne (by omega)]; rfl).symm
    have hm : τ2 (89 + 17 * k) 6 = σ 14 6 := by
      rw [show 89 + 17 * k = 88 + 17 * k + 1 by omega]
      exact a2
    refine hQ _ _ ⟨?_, ⟨by rw [hS]; exact sWF_im hC.1 hk, ?_⟩, hS, fun b hb => lo b (by omega) (by omega), by rw [t4, w_up_j (by decide), z0]⟩
    · rw [e1]; exact (cS_11 (by omega)).symm
    · refine ⟨by rw [lo 14 (by decide) (by omega)]; exact hX.1, by rw [e7]; exact hb.1, fun h => ?_, fun h => ?_⟩
      · rcases hk with rfl | rfl
        · rw [z4 89 (by decide)]
          rw [show τ2 89 6 = σ 14 6 from hm]
          exact hX.1
        · rw [lo 89 (by decide) (by omega)]
          rw [kb 0 (by decide), if_neg (by decide)] at h
          exact hX.2.2.1 h
      · rcases hk with rfl | rfl
        · rw [lo 106 (by decide) (by omega)]
          rw [kb 1 (by decide), if_neg (by decide)] at h
          exact hX.2.2.2 h
        · rw [z4 106 (by decide)]
          rw [show τ2 106 6 = σ 14 6 from hm]
          exact hX.1
  · rw [if_neg c, if_neg c] at hQ
    exact hQ _ _ (c_qr hC rfl)
noncomputable def p_Moon_back (_x1 : Int) (σ : w_M) : Prop := CI σ
noncomputable def q_Moon_back (x1 : Int) (σ : w_M) (x : Int) (σ' : w_M) : Prop := c_q (F_back (cS σ) x1) (G_back (cS σ) x1) σ x σ'
theorem fMoon_back_0 : w_fe am_c147 0 1 (.iload 1) := ⟨rfl, rfl⟩
theorem fMoon_back_1 : w_fe am_c147 1 2 (.bipush 0) := ⟨rfl, rfl⟩
theorem fMoon_back_2 : w_fe am_c147 2 3 (.bipush 1) := ⟨rfl, rfl⟩
theorem fMoon_back_3 : w_fe am_c147 3 4 (.invokestatic 107) := ⟨rfl, rfl⟩
theorem fMoon_back_4 : w_if am_c147 4 5 .ne 7 := ⟨rfl, rfl⟩
theorem fMoon_back_5 : w_fe am_c147 5 6 (.bipush (-1)) := ⟨rfl, rfl⟩
theorem fMoon_back_6 : w_fe am_c147 6 7 (.ireturn) := ⟨rfl, rfl⟩
theorem fMoon_back_7 : w_fe am_c147 7 8 (.aload 0) := ⟨rfl, rfl⟩
theorem fMoon_back_8 : w_fe am_c147 8 9 (.getfield 7) := ⟨rfl, rfl⟩
theorem fMoon_back_9 : w_fe am_c147 9 10 (.iload 1) := ⟨rfl, rfl⟩
theorem fMoon_back_10 : w_fe am_c147 10 11 (.ishr) := ⟨rfl, rfl⟩
theorem fMoon_back_11 : w_fe am_c147 11 12 (.bipush 1) := ⟨rfl, rfl⟩
theorem fMoon_back_12 : w_fe am_c147 12 13 (.iand) := ⟨rfl, rfl⟩
theorem fMoon_back_13 : w_if am_c147 13 14 .ne 16 := ⟨rfl, rfl⟩
theorem fMoon_back_14 : w_fe am_c147 14 15 (.bipush (-2)) := ⟨rfl, rfl⟩
theorem fMoon_back_15 : w_fe am_c147 15 16 (.ireturn) := ⟨rfl, rfl⟩
theorem fMoon_back_16 : w_fe am_c147 16 17 (.aload 0) := ⟨rfl, rfl⟩
theorem fMoon_back_17 : w_fe am_c147 17 18 (.getfield 1) := ⟨rfl, rfl⟩
theorem fMoon_back_18 : w_fe am_c147 18 19 (.aload 0) := ⟨rfl, rfl⟩
theorem fMoon_back_19 : w_fe am_c147 19 20 (.getfield 3) := ⟨rfl, rfl⟩
theorem fMoon_back_20 : w_fe am_c147 20 21 (.iload 1) := ⟨rfl, rfl⟩
theorem fMoon_back_21 : w_fe am_c147 21 22 (.aaload) := ⟨rfl, rfl⟩
theorem fMoon_back_22 : w_fe am_c147 22 23 (.invokestatic 54) := ⟨rfl, rfl⟩
theorem fMoon_back_23 : w_fe am_c147 23 24 (.aload 0) := ⟨rfl, rfl⟩
theorem fMoon_back_24 : w_fe am_c147 24 25 (.getfield 2) := ⟨rfl, rfl⟩
theorem fMoon_back_25 : w_fe am_c147 25 26 (.getfield 201) := ⟨rfl, rfl⟩
theorem fMoon_back_26 : w_fe am_c147 26 27 (.ireturn) := ⟨rfl, rfl⟩
set_option maxRecDepth 20000 in
theorem bMoon_back_0 {xs : List Int} {d : Nat} {Q : Option w_V → w_M → Prop} {x1 : Int} {σ : w_M}
    (h : ((0 ≤ x1 ∧ x1 ≤ 1) → ((¬ (w_and (w_shr (σ 0 7) x1) 1) = 0 → (0 ≤ x1 ∧ x1 < 2 ∧ p_State_copyFrom 13 (88 + 17 * x1.toNat) σ ∧ (∀ (τ1 : w_M), q_State_copyFrom 13 (88 + 17 * x1.toNat) σ τ1 → Q (some (.inl (τ1 14 1))) τ1))) ∧ ((w_and (w_shr (σ 0 7) x1) 1) = 0 → Q (some (.inl (-2))) σ))) ∧ (¬ (0 ≤ x1 ∧ x1 ≤ 1) → Q (some (.inl (-1))) σ)) : w_Call (xs, (d + 2)) 147 [.inr (.inr (0, 0)), .inl x1] σ Q :=
  (w_mk (mid := 147) (by decide) rfl rfl rfl rfl rfl (Nat.le_of_ble_eq_true rfl) ⟨rfl, Or.inl (by decide)⟩ (wi_iload1 fMoon_back_0 (wi_bipush fMoon_back_1 (wi_bipush fMoon_back_2 (wi_call3 fMoon_back_3 (Nat.le_of_ble_eq_true rfl) (k_Moon_isWithin (wi_ifb_ne fMoon_back_4 (fun c3 => (wi_aload0 fMoon_back_7 (wi_getf7 fMoon_back_8 (wi_iload1 fMoon_back_9 (wi_ishr fMoon_back_10 (wi_bipush fMoon_back_11 (wi_iand fMoon_back_12 (wi_if_ne fMoon_back_13 (fun c2 => (wi_aload0 fMoon_back_16 (wi_getf1 fMoon_back_17 (wi_aload0 fMoon_back_18 (wi_getf3 fMoon_back_19 (wi_iload1 fMoon_back_20 (wi_aald4002 fMoon_back_21 ((h.1 c3).1 c2).1 ((h.1 c3).1 c2).2.1 (wi_call2 fMoon_back_22 (Nat.le_of_ble_eq_true rfl) (k_State_copyFrom ((h.1 c3).1 c2).2.2.1 (fun τ1 eτ1 => (wi_aload0 fMoon_back_23 (wi_getf2 fMoon_back_24 (wi_getf201 fMoon_back_25 (wi_ret1 fMoon_back_26 (((h.1 c3).1 c2).2.2.2 τ1 eτ1))))))))))))))) (fun c2 => (wi_bipush fMoon_back_14 (wi_ret1 fMoon_back_15 ((h.1 c3).2 c2)))))))))))) (fun c3 => (wi_bipush fMoon_back_5 (wi_ret1 fMoon_back_6 (h.2 c3)))))))))))
set_option maxHeartbeats 1000000 in
theorem k_Moon_back {xs : List Int} {d : Nat} {Q : Option w_V → w_M → Prop} {x1 : Int} {σ : w_M} (hp : p_Moon_back x1 σ) (hQ : ∀ (x : Int) (σ' : w_M), q_Moon_back x1 σ x σ' → Q (some (.inl x)) σ') : w_Call (xs, d + 2) 147 [.inr (.inr (0, 0)), .inl x1] σ Q := by
  have hC : CI σ := hp
  unfold q_Moon_back F_back G_back at hQ
  have bits : ∀ k : Nat, k_ab σ k = 0 ∨ k_ab σ k = 1 := fun k => w_and1 _
  refine bMoon_back_0 ⟨fun c => ?_, fun c => ?_⟩
  · obtain ⟨k, rfl⟩ := Int.eq_ofNat_of_zero_le c.1
    have hk : k = 0 ∨ k = 1 := by omega
    have e11 : cS σ 11 0 k = k_ab σ k := cS_11 (by omega)
    rw [Int.toNat_natCast, if_pos c, e11] at hQ
    refine ⟨fun c2 => ⟨c.1, by omega, ?_⟩, fun c2 => ?_⟩
    · have h1 : k_ab σ k = 1 := (bits k).resolve_left c2
      rw [if_pos h1, if_pos ⟨c, h1⟩] at hQ
      rw [Int.toNat_natCast]
      have him : imWF (cS σ 0) (w_ab σ (89 + 17 * k)) (s_ab σ (98 + 17 * k)) (c_ab σ (102 + 17 * k)) ∧ (0 ≤ σ (89 + 17 * k) 6 ∧ σ (89 + 17 * k) 6 ≤ 127) ∧ cS σ (5 + 3 * k) = w_ab σ (89 + 17 * k) ∧ cS σ (6 + 3 * k) = s_ab σ (98 + 17 * k) ∧ cS σ (7 + 3 * k) = c_ab σ (102 + 17 * k) := by
        rcases hk with rfl | rfl
        · have e5 : cS σ 5 = w_ab σ 89 := by simp only [cS]; rw [if_pos h1]
          have e6 : cS σ 6 = s_ab σ 98 := by simp only [cS]; rw [if_pos h1]
          have e7 : cS σ 7 = c_ab σ 102 := by simp only [cS]; rw [if_pos h1]
          have := hC.1.2.2.2.2.2.2.2.1 (e11.trans h1)
          rw [e5, e6, e7] at this
          exact ⟨this, hC.2.2.2.1 h1, e5, e6, e7⟩
        · have e5 : cS σ 8 = w_ab σ 106 := by simp only [cS]; rw [if_pos h1]
          have e6 : cS σ 9 = s_ab σ 115 := by simp only [cS]; rw [if_pos h1]
          have e7 : cS σ 10 = c_ab σ 119 := by simp only [cS]; rw [if_pos h1]
          have := hC.1.2.2.2.2.2.2.2.2 (e11.trans h1)
          rw [e5, e6, e7] at this
          exact ⟨this, hC.2.2.2.2 h1, e5, e6, e7⟩
      obtain ⟨⟨i1, i2, i3, i4⟩, im, g5, g6, g7⟩ := him
      refine ⟨⟨by rw [show 88 + 17 * k + 1 = 89 + 17 * k by omega]; exact i1, by rw [show 88 + 17 * k + 10 = 98 + 17 * k by omega]; exact i3.1, by rw [show 88 + 17 * k + 14 = 102 + 17 * k by omega]; exact i4.1, by omega⟩, fun τ q => ?_⟩
      obtain ⟨a1, a2, a3, a4, a5⟩ := q
      rw [show 88 + 17 * k + 1 = 89 + 17 * k by omega] at a1 a2
      rw [show 88 + 17 * k + 10 = 98 + 17 * k by omega] at a3
      rw [show 88 + 17 * k + 14 = 102 + 17 * k by omega] at a4
      have hS : cS τ = im_get (cS σ) k := by
        refine cS_ext ?_ ?_ ?_ ?_ ?_ (fun p hp => ?_)
        · show w_ab τ 14 = cS σ (5 + 3 * k); rw [g5]; exact a1
        · show s_ab τ 23 = cS σ (6 + 3 * k); rw [g6]; exact a3
        · show c_ab τ 27 = cS σ (7 + 3 * k); rw [g7]; exact a4
        · show t_ab τ = t_ab σ; exact t_ab_fr (by rw [a5 1 (by omega)]) (by rw [a5 0 (by omega)]) (a5 2 (by omega))
        · show h_ab τ = h_ab σ; exact h_ab_fr (fun b h1 h2 => a5 b (by omega))
        · unfold im_get
          rw [w_sp_ne (by omega), w_sp_ne (by omega), w_sp_ne (by omega)]
          exact cS_im (by rw [a5 0 (by omega)]) (fun b h1 h2 => a5 b (by omega)) p hp
      refine hQ _ _ ⟨?_, ⟨by rw [hS]; exact sWF_bk hC.1 hk (e11.trans h1), ?_⟩, hS, fun b hb => a5 b (by omega), by rw [a5 0 (by omega)]⟩
      · show w_ab τ 14 0 1 = _
        rw [g5]
        exact congrFun (congrFun a1 0) 1
      · have hX := hC.2
        unfold cX k_ab at hX ⊢
        rw [a5 0 (by omega), a5 89 (by omega), a5 106 (by omega)]
        exact ⟨by rw [show τ 14 6 = σ (89 + 17 * k) 6 from a2]; exact im, hX.2⟩
    · have h0 : k_ab σ k = 0 := c2
      rw [h0, if_neg (by decide), if_neg (by omega)] at hQ
      exact hQ _ _ (c_qr hC rfl)
  · rw [if_neg c, if_neg (fun q => c q.1)] at hQ
    exact hQ _ _ (c_qr hC rfl)
