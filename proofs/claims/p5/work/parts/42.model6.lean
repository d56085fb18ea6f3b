/-! Sheets, counts: the reference -/
theorem m_q4 {σ σ' : w_M} {H : w_M} {F x : Int} (hM : MI σ) (h : ∀ b, b < 130 ∨ 132 < b → σ' b = σ b) (hH : h_am σ' = H) (hW : shWF H) (hx : x = F) : m_q F (w_sp (mS σ) 4 H) σ x σ' := by
  have e : mS σ' = w_sp (mS σ) 4 H := by rw [mS_part4 hM (h 122 (by omega)) (fun b hb => h b (by omega)), hH]
  exact ⟨hx, by unfold MI; rw [e]; exact sWF_4 hM hW, e, fun b hb => h b (by omega), by rw [h 122 (by omega)]⟩
theorem MI.sh {σ : w_M} (h : MI σ) {k : Nat} (hk : k < 4) : h_am σ k 0 = -4 ∨ ((0 ≤ h_am σ k 0 ∧ h_am σ k 0 ≤ 40) ∧ (0 ≤ h_am σ k 1 ∧ h_am σ k 1 ≤ 2)) := h.2.2.2.2.1 k hk
theorem h_am_no {σ : w_M} {k : Nat} (hk : k < 4) (h : σ 130 k = -4) : h_am σ k 0 = -4 := by
  unfold h_am
  rw [if_pos hk, if_pos h, if_pos rfl]
theorem h_am_yes {σ : w_M} {k : Nat} (hM : MI σ) (hk : k < 4) (h : ¬ σ 130 k = -4) : h_am σ k 0 = σ 131 k ∧ h_am σ k 1 = σ 130 k ∧ (0 ≤ σ 131 k ∧ σ 131 k ≤ 40) ∧ (0 ≤ σ 130 k ∧ σ 130 k ≤ 2) ∧ ∀ j, j < 40 → h_am σ k (2 + j) = σ 132 (40 * k + j) := by
  have e0 : h_am σ k 0 = if σ 131 k < 0 then -5 else σ 131 k := by unfold h_am; rw [if_pos hk, if_neg h, if_pos rfl]
  have e1 : h_am σ k 1 = σ 130 k := by unfold h_am; rw [if_pos hk, if_neg h, if_neg (by decide), if_pos rfl]
  have hw := hM.sh hk
  rw [e0, e1] at hw
  have hn : ¬ σ 131 k < 0 := fun q => by rw [if_pos q] at hw; omega
  rw [if_neg hn] at hw e0
  have hw2 := hw.resolve_left (by omega)
  refine ⟨e0, e1, hw2.1, hw2.2, fun j hj => ?_⟩
  unfold h_am
  rw [if_pos hk, if_neg h, if_neg (by omega), if_neg (by omega), if_pos (by omega), show 2 + j - 2 = j by omega]
theorem fModel_isSheet_0 : w_fe am_c234 0 1 (.iload 0) := ⟨rfl, rfl⟩
theorem fModel_isSheet_1 : w_fe am_c234 1 2 (.i2l) := ⟨rfl, rfl⟩
theorem fModel_isSheet_2 : w_fe am_c234 2 3 (.sipush 0) := ⟨rfl, rfl⟩
theorem fModel_isSheet_3 : w_fe am_c234 3 4 (.sipush 3) := ⟨rfl, rfl⟩
theorem fModel_isSheet_4 : w_fe am_c234 4 5 (.invokestatic 157) := ⟨rfl, rfl⟩
theorem fModel_isSheet_5 : w_if am_c234 5 6 .eq 14 := ⟨rfl, rfl⟩
theorem fModel_isSheet_6 : w_fe am_c234 6 7 (.iload 1) := ⟨rfl, rfl⟩
theorem fModel_isSheet_7 : w_fe am_c234 7 8 (.i2l) := ⟨rfl, rfl⟩
theorem fModel_isSheet_8 : w_fe am_c234 8 9 (.sipush 0) := ⟨rfl, rfl⟩
theorem fModel_isSheet_9 : w_fe am_c234 9 10 (.sipush 2) := ⟨rfl, rfl⟩
theorem fModel_isSheet_10 : w_fe am_c234 10 11 (.invokestatic 157) := ⟨rfl, rfl⟩
theorem fModel_isSheet_11 : w_if am_c234 11 12 .eq 14 := ⟨rfl, rfl⟩
theorem fModel_isSheet_12 : w_fe am_c234 12 13 (.bipush 1) := ⟨rfl, rfl⟩
theorem fModel_isSheet_13 : w_gt am_c234 13 15 := rfl
theorem fModel_isSheet_14 : w_fe am_c234 14 15 (.bipush 0) := ⟨rfl, rfl⟩
theorem fModel_isSheet_15 : w_fe am_c234 15 16 (.ireturn) := ⟨rfl, rfl⟩
set_option maxRecDepth 20000 in
theorem bModel_isSheet_0 {xs : List Int} {d : Nat} {Q : Option w_V → w_M → Prop} {x0 : Int} {x1 : Int} {σ : w_M}
    (h : (¬ (0 ≤ x0 ∧ x0 ≤ 3) → Q (some (.inl 0)) σ) ∧ ((0 ≤ x0 ∧ x0 ≤ 3) → ((¬ (0 ≤ x1 ∧ x1 ≤ 2) → Q (some (.inl 0)) σ) ∧ ((0 ≤ x1 ∧ x1 ≤ 2) → Q (some (.inl 1)) σ)))) : w_Call (xs, (d + 1)) 234 [.inl x0, .inl x1] σ Q :=
  (w_mk (mid := 234) (by decide) rfl rfl rfl rfl rfl (Nat.le_of_ble_eq_true rfl) trivial (wi_iload0 fModel_isSheet_0 (wi_i2l fModel_isSheet_1 (wi_sipush fModel_isSheet_2 (wi_sipush fModel_isSheet_3 (wi_call3 fModel_isSheet_4 (Nat.le_of_ble_eq_true rfl) (k_Model_in (wi_ifb_eq fModel_isSheet_5 (fun c2 => (wi_bipush fModel_isSheet_14 (wi_ret2 fModel_isSheet_15 (by decide) (h.1 c2)))) (fun c2 => (wi_iload1 fModel_isSheet_6 (wi_i2l fModel_isSheet_7 (wi_sipush fModel_isSheet_8 (wi_sipush fModel_isSheet_9 (wi_call3 fModel_isSheet_10 (Nat.le_of_ble_eq_true rfl) (k_Model_in (wi_ifb_eq fModel_isSheet_11 (fun c1 => (wi_bipush fModel_isSheet_14 (wi_ret2 fModel_isSheet_15 (by decide) ((h.2 c2).1 c1)))) (fun c1 => (wi_bipush fModel_isSheet_12 (wi_goto fModel_isSheet_13 (wi_ret2 fModel_isSheet_15 (by decide) ((h.2 c2).2 c1)))))))))))))))))))))
theorem k_Model_isSheet {xs : List Int} {d : Nat} {Q : Option w_V → w_M → Prop} {x0 : Int} {x1 : Int} {σ : w_M} (hQ : Q (some (.inl (w_bi ((0 ≤ x0 ∧ x0 ≤ 3) ∧ ((0 : Int) ≤ x1 ∧ x1 ≤ (2 : Int)))))) σ) : w_Call (xs, d + 1) 234 [.inl x0, .inl x1] σ Q := by
  refine bModel_isSheet_0 ⟨fun c => ?_, fun c => ⟨fun c2 => ?_, fun c2 => ?_⟩⟩
  · rw [w_bi_f (fun q => c q.1)] at hQ; exact hQ
  · rw [w_bi_f (fun q => c2 q.2)] at hQ; exact hQ
  · rw [w_bi_t ⟨c, c2⟩] at hQ; exact hQ
noncomputable def p_Model_sheet (_x1 : Int) (_x2 : Int) (_x3 : Int) (σ : w_M) : Prop := MI σ
noncomputable def q_Model_sheet (x1 : Int) (x2 : Int) (x3 : Int) (σ : w_M) (x : Int) (σ' : w_M) : Prop := m_q (F_sheet (mS σ) x1 x2 x3) (G_sheet (mS σ) x1 x2 x3) σ x σ'
theorem fModel_sheet_0 : w_fe am_c233 0 1 (.iload 1) := ⟨rfl, rfl⟩
theorem fModel_sheet_1 : w_fe am_c233 1 2 (.iload 2) := ⟨rfl, rfl⟩
theorem fModel_sheet_2 : w_fe am_c233 2 3 (.invokestatic 234) := ⟨rfl, rfl⟩
theorem fModel_sheet_3 : w_if am_c233 3 4 .eq 7 := ⟨rfl, rfl⟩
theorem fModel_sheet_4 : w_fe am_c233 4 5 (.iload 3) := ⟨rfl, rfl⟩
theorem fModel_sheet_5 : w_fe am_c233 5 6 (.bipush 40) := ⟨rfl, rfl⟩
theorem fModel_sheet_6 : w_ic am_c233 6 7 .le 9 := ⟨rfl, rfl⟩
theorem fModel_sheet_7 : w_fe am_c233 7 8 (.bipush (-1)) := ⟨rfl, rfl⟩
theorem fModel_sheet_8 : w_fe am_c233 8 9 (.ireturn) := ⟨rfl, rfl⟩
theorem fModel_sheet_9 : w_fe am_c233 9 10 (.iload 3) := ⟨rfl, rfl⟩
theorem fModel_sheet_10 : w_if am_c233 10 11 .ge 13 := ⟨rfl, rfl⟩
theorem fModel_sheet_11 : w_fe am_c233 11 12 (.bipush (-14)) := ⟨rfl, rfl⟩
theorem fModel_sheet_12 : w_fe am_c233 12 13 (.ireturn) := ⟨rfl, rfl⟩
theorem fModel_sheet_13 : w_fe am_c233 13 14 (.aload 0) := ⟨rfl, rfl⟩
theorem fModel_sheet_14 : w_fe am_c233 14 15 (.getfield 924) := ⟨rfl, rfl⟩
theorem fModel_sheet_15 : w_fe am_c233 15 16 (.iload 1) := ⟨rfl, rfl⟩
theorem fModel_sheet_16 : w_fe am_c233 16 17 (.iload 2) := ⟨rfl, rfl⟩
theorem fModel_sheet_17 : w_fe am_c233 17 18 (.iastore) := ⟨rfl, rfl⟩
theorem fModel_sheet_18 : w_fe am_c233 18 19 (.aload 0) := ⟨rfl, rfl⟩
theorem fModel_sheet_19 : w_fe am_c233 19 20 (.getfield 925) := ⟨rfl, rfl⟩
theorem fModel_sheet_20 : w_fe am_c233 20 21 (.iload 1) := ⟨rfl, rfl⟩
theorem fModel_sheet_21 : w_fe am_c233 21 22 (.iload 3) := ⟨rfl, rfl⟩
theorem fModel_sheet_22 : w_fe am_c233 22 23 (.iastore) := ⟨rfl, rfl⟩
theorem fModel_sheet_23 : w_fe am_c233 23 24 (.bipush 0) := ⟨rfl, rfl⟩
theorem fModel_sheet_24 : w_fe am_c233 24 25 (.istore 4) := ⟨rfl, rfl⟩
theorem fModel_sheet_25 : w_fe am_c233 25 26 (.iload 4) := ⟨rfl, rfl⟩
theorem fModel_sheet_26 : w_fe am_c233 26 27 (.bipush 40) := ⟨rfl, rfl⟩
theorem fModel_sheet_27 : w_ic am_c233 27 28 .ge 39 := ⟨rfl, rfl⟩
theorem fModel_sheet_28 : w_fe am_c233 28 29 (.aload 0) := ⟨rfl, rfl⟩
theorem fModel_sheet_29 : w_fe am_c233 29 30 (.getfield 926) := ⟨rfl, rfl⟩
theorem fModel_sheet_30 : w_fe am_c233 30 31 (.bipush 40) := ⟨rfl, rfl⟩
theorem fModel_sheet_31 : w_fe am_c233 31 32 (.iload 1) := ⟨rfl, rfl⟩
theorem fModel_sheet_32 : w_fe am_c233 32 33 (.imul) := ⟨rfl, rfl⟩
theorem fModel_sheet_33 : w_fe am_c233 33 34 (.iload 4) := ⟨rfl, rfl⟩
theorem fModel_sheet_34 : w_fe am_c233 34 35 (.iadd) := ⟨rfl, rfl⟩
theorem fModel_sheet_35 : w_fe am_c233 35 36 (.bipush 0) := ⟨rfl, rfl⟩
theorem fModel_sheet_36 : w_fe am_c233 36 37 (.iastore) := ⟨rfl, rfl⟩
theorem fModel_sheet_37 : w_fe am_c233 37 38 (.iinc 4 1) := ⟨rfl, rfl⟩
theorem fModel_sheet_38 : w_gt am_c233 38 25 := rfl
theorem fModel_sheet_39 : w_fe am_c233 39 40 (.bipush 1) := ⟨rfl, rfl⟩
theorem fModel_sheet_40 : w_fe am_c233 40 41 (.ireturn) := ⟨rfl, rfl⟩
noncomputable def LModel_sheet_25 (xs : List Int) (d : Nat) (Q : Option w_V → w_M → Prop) (v1 : Int) (v4 : Int) (σ : w_M) : Prop := ∀ l2, w_nl l2 → ∀ l3, w_nl l3 → w_Ex (xs, d) 1 am_c233 Q 25 [some (.inr (.inr (9, 122))), some (.inl v1), l2, l3, some (.inl v4)] [] σ
set_option maxRecDepth 20000 in
theorem bModel_sheet_0 {xs : List Int} {d : Nat} {Q : Option w_V → w_M → Prop} {x1 : Int} {x2 : Int} {x3 : Int} {σ : w_M}
    (h : (¬ ((0 ≤ x1 ∧ x1 ≤ 3) ∧ ((0 : Int) ≤ x2 ∧ x2 ≤ (2 : Int))) → Q (some (.inl (-1))) σ) ∧ (((0 ≤ x1 ∧ x1 ≤ 3) ∧ ((0 : Int) ≤ x2 ∧ x2 ≤ (2 : Int))) → ((x3 ≤ 40 → ((0 ≤ x3 → (0 ≤ x1 ∧ x1 < 4 ∧ (∀ (τ1 : w_M), τ1 = w_up σ 130 x1.toNat x2 → ∀ (τ2 : w_M), τ2 = w_up τ1 131 x1.toNat x3 → LModel_sheet_25 xs (d + 2) Q x1 0 τ2))) ∧ (x3 < 0 → Q (some (.inl (-14))) σ))) ∧ (40 < x3 → Q (some (.inl (-1))) σ)))) : w_Call (xs, (d + 2)) 233 [.inr (.inr (9, 122)), .inl x1, .inl x2, .inl x3] σ Q :=
  (w_mk (mid := 233) (by decide) rfl rfl rfl rfl rfl (Nat.le_of_ble_eq_true rfl) ⟨rfl, Or.inl (by decide)⟩ (wi_iload1 fModel_sheet_0 (wi_iload2 fModel_sheet_1 (wi_call2 fModel_sheet_2 (Nat.le_of_ble_eq_true rfl) (k_Model_isSheet (wi_ifb_eq fModel_sheet_3 (fun c5 => (wi_bipush fModel_sheet_7 (wi_ret1 fModel_sheet_8 (h.1 c5)))) (fun c5 => (wi_iload3 fModel_sheet_4 (wi_bipush fModel_sheet_5 (wi_ic_le fModel_sheet_6 (fun c4 => (wi_iload3 fModel_sheet_9 (wi_if_ge fModel_sheet_10 (fun c3 => (wi_aload0 fModel_sheet_13 (wi_getf924 fModel_sheet_14 (wi_iload1 fModel_sheet_15 (wi_iload2 fModel_sheet_16 (wi_iast1004 fModel_sheet_17 (((h.2 c5).1 c4).1 c3).1 (((h.2 c5).1 c4).1 c3).2.1 (wi_aload0 fModel_sheet_18 (wi_getf925 fModel_sheet_19 (wi_iload1 fModel_sheet_20 (wi_iload3 fModel_sheet_21 (wi_iast1004 fModel_sheet_22 (((h.2 c5).1 c4).1 c3).1 (((h.2 c5).1 c4).1 c3).2.1 (wi_bipush fModel_sheet_23 (wi_istore4 fModel_sheet_24 trivial ((((((h.2 c5).1 c4).1 c3).2.2 _ rfl) _ rfl) _ (by exact trivial) _ (by exact trivial))))))))))))))) (fun c3 => (wi_bipush fModel_sheet_11 (wi_ret1 fModel_sheet_12 (((h.2 c5).1 c4).2 c3))))))) (fun c4 => (wi_bipush fModel_sheet_7 (wi_ret1 fModel_sheet_8 ((h.2 c5).2 c4))))))))))))))
set_option maxRecDepth 20000 in
theorem bModel_sheet_25 {xs : List Int} {d : Nat} {Q : Option w_V → w_M → Prop} {v1 : Int} {v4 : Int} {σ : w_M}
    (h : (40 ≤ v4 → Q (some (.inl 1)) σ) ∧ (v4 < 40 → (w_in (40 * v1) ∧ w_in ((40 * v1) + v4) ∧ 0 ≤ ((40 * v1) + v4) ∧ ((40 * v1) + v4) < 160 ∧ (∀ (τ1 : w_M), τ1 = w_up σ 132 ((40 * v1) + v4).toNat 0 → (w_in (v4 + 1) ∧ LModel_sheet_25 xs (d + 2) Q v1 (v4 + 1) τ1))))) : LModel_sheet_25 xs (d + 2) Q v1 v4 σ :=
  fun l2 nl2 => fun l3 nl3 => (wi_iload4 fModel_sheet_25 (wi_bipush fModel_sheet_26 (wi_ic_ge fModel_sheet_27 (fun c2 => (wi_bipush fModel_sheet_39 (wi_ret1 fModel_sheet_40 (h.1 c2)))) (fun c2 => (wi_aload0 fModel_sheet_28 (wi_getf926 fModel_sheet_29 (wi_bipush fModel_sheet_30 (wi_iload1 fModel_sheet_31 (wi_imul fModel_sheet_32 (h.2 c2).1 (wi_iload4 fModel_sheet_33 (wi_iadd fModel_sheet_34 (h.2 c2).2.1 (wi_bipush fModel_sheet_35 (wi_iast1160 fModel_sheet_36 (h.2 c2).2.2.1 (h.2 c2).2.2.2.1 (wi_iinc4 fModel_sheet_37 nl3 ((h.2 c2).2.2.2.2 _ rfl).1 (wi_goto fModel_sheet_38 (((h.2 c2).2.2.2.2 _ rfl).2 _ nl2 _ nl3))))))))))))))))
theorem k_Model_sheet {xs : List Int} {d : Nat} {Q : Option w_V → w_M → Prop} {x1 : Int} {x2 : Int} {x3 : Int} {σ : w_M} (hp : p_Model_sheet x1 x2 x3 σ) (hQ : ∀ (x : Int) (σ' : w_M), q_Model_sheet x1 x2 x3 σ x σ' → Q (some (.inl x)) σ') : w_Call (xs, d + 2) 233 [.inr (.inr (9, 122)), .inl x1, .inl x2, .inl x3] σ Q := by
  have hM : MI σ := hp
  unfold q_Model_sheet at hQ
  have bad : ¬ P_sheet x1 x2 x3 → Q (some (.inl (-1))) σ := fun h => by
    have e1 : F_sheet (mS σ) x1 x2 x3 = -1 := if_neg h
    have e2 : G_sheet (mS σ) x1 x2 x3 = mS σ := if_neg (fun q => h q.1)
    rw [e1, e2] at hQ
    exact hQ _ _ (m_qr hM rfl)
  refine bModel_sheet_0 ⟨fun c => bad (fun q => c q.1), fun c => ⟨fun c3 => ⟨fun c4 => ⟨c.1.1, by omega, fun τ1 t1 τ2 t2 => ?_⟩, fun c4 => ?_⟩, fun c3 => bad (fun q => by have := q.2; omega)⟩⟩
  · have hP : P_sheet x1 x2 x3 := ⟨c, c3⟩
    have e1 : F_sheet (mS σ) x1 x2 x3 = 1 := (if_pos hP).trans (if_neg (by omega))
    have e2 : G_sheet (mS σ) x1 x2 x3 = w_sp (mS σ) 4 (shNew (h_am σ) x1.toNat x2 x3) := if_pos ⟨hP, c4⟩
    rw [e1, e2] at hQ
    have hk4 : x1.toNat < 4 := by omega
    refine (w_loop (n := 40) (P := fun k => ∀ τ : w_M, w_f1 τ2 τ 132 → (∀ j, j < k → τ 132 (40 * x1.toNat + j) = 0) → (∀ x, x < 40 * x1.toNat ∨ 40 * x1.toNat + k ≤ x → τ 132 x = σ 132 x) → LModel_sheet_25 xs (d + 2) Q x1 (k : Int) τ) ?_ ?_) τ2 w_f1.rfl' (fun j hj => by omega) (fun x hx => by rw [t2, w_up_ne (by decide), t1, w_up_ne (by decide)])
    · intro τ F h1 h2
      refine bModel_sheet_25 ⟨fun _ => hQ _ _ (m_q4 hM (fun b hb => ?_) ?_ (shNew_WF hM.2.2.2.2.1 c.2 ⟨c4, c3⟩) rfl), fun h => by omega⟩
      · rw [F b (by omega), t2, w_up_ne (by omega), t1, w_up_ne (by omega)]
      · have z131 : τ 131 = w_up σ 131 x1.toNat x3 131 := by
          rw [F 131 (by decide), t2]
          funext j
          show (if 131 = 131 ∧ j = x1.toNat then x3 else τ1 131 j) = (if 131 = 131 ∧ j = x1.toNat then x3 else σ 131 j)
          rw [t1, w_up_ne (by decide)]
        have z130 : τ 130 = w_up σ 130 x1.toNat x2 130 := by rw [F 130 (by decide), t2, w_up_ne (by decide), t1]
        funext q j
        unfold shNew
        by_cases hq4 : q < 4
        · by_cases hqk : q = x1.toNat
          · rw [if_pos hqk]
            unfold h_am
            rw [if_pos hq4, z131, z130, hqk, w_up_at, w_up_at, if_neg (show ¬ x2 = -4 by omega), if_neg (show ¬ x3 < 0 by omega)]
            by_cases hj0 : j = 0
            · rw [if_pos hj0, if_pos hj0]
            · rw [if_neg hj0, if_neg hj0]
              by_cases hj1 : j = 1
              · rw [if_pos hj1, if_pos hj1]
              · rw [if_neg hj1, if_neg hj1]
                by_cases hj : j < 42
                · rw [if_pos hj, h1 (j - 2) (by omega)]
                · rw [if_neg hj]
          · rw [if_neg hqk]
            show h_am τ q j = h_am σ q j
            unfold h_am
            rw [z131, z130, w_up_j hqk, w_up_j hqk]
            by_cases hj : j < 42
            · rw [h2 (40 * q + (j - 2)) (by omega)]
            · rw [if_neg hj, if_neg hj]
        · rw [if_neg (by omega)]
          show h_am τ q j = h_am σ q j
          unfold h_am
          rw [if_neg hq4, if_neg hq4]
    · intro k hk ih τ F h1 h2
      refine bModel_sheet_25 ⟨fun h => by omega, fun h => ⟨⟨by omega, by omega⟩, ⟨by omega, by omega⟩, by omega, by omega, fun τ3 t3 => ⟨⟨by omega, by omega⟩, ?_⟩⟩⟩
      rw [← w_cs1]
      have ea : (40 * x1 + (k : Int)).toNat = 40 * x1.toNat + k := by omega
      rw [ea] at t3
      refine ih τ3 (by rw [t3]; exact F.up) (fun j hj => ?_) (fun x hx => by rw [t3, w_up_j (by omega)]; exact h2 x (by omega))
      by_cases hjk : j = k
      · rw [hjk, t3, w_up_at]
      · rw [t3, w_up_j (by omega)]
        exact h1 j (by omega)
  · have hP : P_sheet x1 x2 x3 := ⟨c, c3⟩
    have e1 : F_sheet (mS σ) x1 x2 x3 = -14 := (if_pos hP).trans (if_pos c4)
    have e2 : G_sheet (mS σ) x1 x2 x3 = mS σ := if_neg (fun q => by have := q.2; omega)
    rw [e1, e2] at hQ
    exact hQ _ _ (m_qr hM rfl)
noncomputable def p_Model_lay (_x1 : Int) (_x2 : Int) (_x3 : Int) (σ : w_M) : Prop := MI σ
noncomputable def q_Model_lay (x1 : Int) (x2 : Int) (x3 : Int) (σ : w_M) (x : Int) (σ' : w_M) : Prop := m_q (F_lay (mS σ) x1 x2 x3) (G_lay (mS σ) x1 x2 x3) σ x σ'
theorem fModel_lay_0 : w_fe am_c235 0 1 (.iload 1) := ⟨rfl, rfl⟩
theorem fModel_lay_1 : w_fe am_c235 1 2 (.bipush 0) := ⟨rfl, rfl⟩
theorem fModel_lay_2 : w_fe am_c235 2 3 (.invokestatic 234) := ⟨rfl, rfl⟩
theorem fModel_lay_3 : w_if am_c235 3 4 .ne 6 := ⟨rfl, rfl⟩
theorem fModel_lay_4 : w_fe am_c235 4 5 (.bipush (-1)) := ⟨rfl, rfl⟩
theorem fModel_lay_5 : w_fe am_c235 5 6 (.ireturn) := ⟨rfl, rfl⟩
theorem fModel_lay_6 : w_fe am_c235 6 7 (.aload 0) := ⟨rfl, rfl⟩
theorem fModel_lay_7 : w_fe am_c235 7 8 (.getfield 924) := ⟨rfl, rfl⟩
theorem fModel_lay_8 : w_fe am_c235 8 9 (.iload 1) := ⟨rfl, rfl⟩
theorem fModel_lay_9 : w_fe am_c235 9 10 (.iaload) := ⟨rfl, rfl⟩
theorem fModel_lay_10 : w_fe am_c235 10 11 (.bipush (-4)) := ⟨rfl, rfl⟩
theorem fModel_lay_11 : w_ic am_c235 11 12 .ne 14 := ⟨rfl, rfl⟩
theorem fModel_lay_12 : w_fe am_c235 12 13 (.bipush (-11)) := ⟨rfl, rfl⟩
theorem fModel_lay_13 : w_fe am_c235 13 14 (.ireturn) := ⟨rfl, rfl⟩
theorem fModel_lay_14 : w_fe am_c235 14 15 (.iload 2) := ⟨rfl, rfl⟩
theorem fModel_lay_15 : w_fe am_c235 15 16 (.i2l) := ⟨rfl, rfl⟩
theorem fModel_lay_16 : w_fe am_c235 16 17 (.sipush 0) := ⟨rfl, rfl⟩
theorem fModel_lay_17 : w_fe am_c235 17 18 (.aload 0) := ⟨rfl, rfl⟩
theorem fModel_lay_18 : w_fe am_c235 18 19 (.getfield 925) := ⟨rfl, rfl⟩
theorem fModel_lay_19 : w_fe am_c235 19 20 (.iload 1) := ⟨rfl, rfl⟩
theorem fModel_lay_20 : w_fe am_c235 20 21 (.iaload) := ⟨rfl, rfl⟩
theorem fModel_lay_21 : w_fe am_c235 21 22 (.bipush 1) := ⟨rfl, rfl⟩
theorem fModel_lay_22 : w_fe am_c235 22 23 (.isub) := ⟨rfl, rfl⟩
theorem fModel_lay_23 : w_fe am_c235 23 24 (.i2l) := ⟨rfl, rfl⟩
theorem fModel_lay_24 : w_fe am_c235 24 25 (.invokestatic 157) := ⟨rfl, rfl⟩
theorem fModel_lay_25 : w_if am_c235 25 26 .ne 28 := ⟨rfl, rfl⟩
theorem fModel_lay_26 : w_fe am_c235 26 27 (.bipush (-12)) := ⟨rfl, rfl⟩
theorem fModel_lay_27 : w_fe am_c235 27 28 (.ireturn) := ⟨rfl, rfl⟩
theorem fModel_lay_28 : w_fe am_c235 28 29 (.aload 0) := ⟨rfl, rfl⟩
theorem fModel_lay_29 : w_fe am_c235 29 30 (.getfield 926) := ⟨rfl, rfl⟩
theorem fModel_lay_30 : w_fe am_c235 30 31 (.bipush 40) := ⟨rfl, rfl⟩
theorem fModel_lay_31 : w_fe am_c235 31 32 (.iload 1) := ⟨rfl, rfl⟩
theorem fModel_lay_32 : w_fe am_c235 32 33 (.imul) := ⟨rfl, rfl⟩
theorem fModel_lay_33 : w_fe am_c235 33 34 (.iload 2) := ⟨rfl, rfl⟩
theorem fModel_lay_34 : w_fe am_c235 34 35 (.iadd) := ⟨rfl, rfl⟩
theorem fModel_lay_35 : w_fe am_c235 35 36 (.aload 0) := ⟨rfl, rfl⟩
theorem fModel_lay_36 : w_fe am_c235 36 37 (.getfield 924) := ⟨rfl, rfl⟩
theorem fModel_lay_37 : w_fe am_c235 37 38 (.iload 1) := ⟨rfl, rfl⟩
theorem fModel_lay_38 : w_fe am_c235 38 39 (.iaload) := ⟨rfl, rfl⟩
theorem fModel_lay_39 : w_if am_c235 39 40 .ne 43 := ⟨rfl, rfl⟩
theorem fModel_lay_40 : w_fe am_c235 40 41 (.iload 3) := ⟨rfl, rfl⟩
theorem fModel_lay_41 : w_fe am_c235 41 42 (.i2b) := ⟨rfl, rfl⟩
theorem fModel_lay_42 : w_gt am_c235 42 53 := rfl
theorem fModel_lay_43 : w_fe am_c235 43 44 (.aload 0) := ⟨rfl, rfl⟩
theorem fModel_lay_44 : w_fe am_c235 44 45 (.getfield 924) := ⟨rfl, rfl⟩
theorem fModel_lay_45 : w_fe am_c235 45 46 (.iload 1) := ⟨rfl, rfl⟩
theorem fModel_lay_46 : w_fe am_c235 46 47 (.iaload) := ⟨rfl, rfl⟩
theorem fModel_lay_47 : w_fe am_c235 47 48 (.bipush 1) := ⟨rfl, rfl⟩
theorem fModel_lay_48 : w_ic am_c235 48 49 .ne 52 := ⟨rfl, rfl⟩
theorem fModel_lay_49 : w_fe am_c235 49 50 (.iload 3) := ⟨rfl, rfl⟩
theorem fModel_lay_50 : w_fe am_c235 50 51 (.i2s) := ⟨rfl, rfl⟩
theorem fModel_lay_51 : w_gt am_c235 51 53 := rfl
theorem fModel_lay_52 : w_fe am_c235 52 53 (.iload 3) := ⟨rfl, rfl⟩
theorem fModel_lay_53 : w_fe am_c235 53 54 (.iastore) := ⟨rfl, rfl⟩
theorem fModel_lay_54 : w_fe am_c235 54 55 (.bipush 1) := ⟨rfl, rfl⟩
theorem fModel_lay_55 : w_fe am_c235 55 56 (.ireturn) := ⟨rfl, rfl⟩
set_option maxRecDepth 20000 in
theorem bModel_lay_0 {xs : List Int} {d : Nat} {Q : Option w_V → w_M → Prop} {x1 : Int} {x2 : Int} {x3 : Int} {σ : w_M}
    (h : (((0 ≤ x1 ∧ x1 ≤ 3) ∧ ((0 : Int) ≤ 0 ∧ 0 ≤ (2 : Int))) → (0 ≤ x1 ∧ x1 < 4 ∧ ((¬ (σ 130 x1.toNat) = (-4) → (w_in ((σ 131 x1.toNat) - 1) ∧ (((0 ≤ x2 ∧ x2 ≤ ((σ 131 x1.toNat) - 1)) → (w_in (40 * x1) ∧ w_in ((40 * x1) + x2) ∧ ((¬ (σ 130 x1.toNat) = 0 → ((¬ (σ 130 x1.toNat) = 1 → (0 ≤ ((40 * x1) + x2) ∧ ((40 * x1) + x2) < 160 ∧ (∀ (τ1 : w_M), τ1 = w_up σ 132 ((40 * x1) + x2).toNat x3 → Q (some (.inl 1)) τ1))) ∧ ((σ 130 x1.toNat) = 1 → (0 ≤ ((40 * x1) + x2) ∧ ((40 * x1) + x2) < 160 ∧ (∀ (τ2 : w_M), τ2 = w_up σ 132 ((40 * x1) + x2).toNat (Int.bmod x3 65536) → Q (some (.inl 1)) τ2))))) ∧ ((σ 130 x1.toNat) = 0 → (0 ≤ ((40 * x1) + x2) ∧ ((40 * x1) + x2) < 160 ∧ (∀ (τ4 : w_M), τ4 = w_up σ 132 ((40 * x1) + x2).toNat (Int.bmod x3 256) → Q (some (.inl 1)) τ4)))))) ∧ (¬ (0 ≤ x2 ∧ x2 ≤ ((σ 131 x1.toNat) - 1)) → Q (some (.inl (-12))) σ)))) ∧ ((σ 130 x1.toNat) = (-4) → Q (some (.inl (-11))) σ)))) ∧ (¬ ((0 ≤ x1 ∧ x1 ≤ 3) ∧ ((0 : Int) ≤ 0 ∧ 0 ≤ (2 : Int))) → Q (some (.inl (-1))) σ)) : w_Call (xs, (d + 2)) 235 [.inr (.inr (9, 122)), .inl x1, .inl x2, .inl x3] σ Q :=
  (w_mk (mid := 235) (by decide) rfl rfl rfl rfl rfl (Nat.le_of_ble_eq_true rfl) ⟨rfl, Or.inl (by decide)⟩ (wi_iload1 fModel_lay_0 (wi_bipush fModel_lay_1 (wi_call2 fModel_lay_2 (Nat.le_of_ble_eq_true rfl) (k_Model_isSheet (wi_ifb_ne fModel_lay_3 (fun c8 => (wi_aload0 fModel_lay_6 (wi_getf924 fModel_lay_7 (wi_iload1 fModel_lay_8 (wi_iald1004 fModel_lay_9 (h.1 c8).1 (h.1 c8).2.1 (wi_bipush fModel_lay_10 (wi_ic_ne fModel_lay_11 (fun c7 => (wi_iload2 fModel_lay_14 (wi_i2l fModel_lay_15 (wi_sipush fModel_lay_16 (wi_aload0 fModel_lay_17 (wi_getf925 fModel_lay_18 (wi_iload1 fModel_lay_19 (wi_iald1004 fModel_lay_20 (h.1 c8).1 (h.1 c8).2.1 (wi_bipush fModel_lay_21 (wi_isub fModel_lay_22 ((h.1 c8).2.2.1 c7).1 (wi_i2l fModel_lay_23 (wi_call3 fModel_lay_24 (Nat.le_of_ble_eq_true rfl) (k_Model_in (wi_ifb_ne fModel_lay_25 (fun c6 => (wi_aload0 fModel_lay_28 (wi_getf926 fModel_lay_29 (wi_bipush fModel_lay_30 (wi_iload1 fModel_lay_31 (wi_imul fModel_lay_32 (((h.1 c8).2.2.1 c7).2.1 c6).1 (wi_iload2 fModel_lay_33 (wi_iadd fModel_lay_34 (((h.1 c8).2.2.1 c7).2.1 c6).2.1 (wi_aload0 fModel_lay_35 (wi_getf924 fModel_lay_36 (wi_iload1 fModel_lay_37 (wi_iald1004 fModel_lay_38 (h.1 c8).1 (h.1 c8).2.1 (wi_if_ne fModel_lay_39 (fun c5 => (wi_aload0 fModel_lay_43 (wi_getf924 fModel_lay_44 (wi_iload1 fModel_lay_45 (wi_iald1004 fModel_lay_46 (h.1 c8).1 (h.1 c8).2.1 (wi_bipush fModel_lay_47 (wi_ic_ne fModel_lay_48 (fun c3 => (wi_iload3 fModel_lay_52 (wi_iast1160 fModel_lay_53 (((((h.1 c8).2.2.1 c7).2.1 c6).2.2.1 c5).1 c3).1 (((((h.1 c8).2.2.1 c7).2.1 c6).2.2.1 c5).1 c3).2.1 (wi_bipush fModel_lay_54 (wi_ret1 fModel_lay_55 ((((((h.1 c8).2.2.1 c7).2.1 c6).2.2.1 c5).1 c3).2.2 _ rfl)))))) (fun c3 => (wi_iload3 fModel_lay_49 (wi_i2s fModel_lay_50 (wi_goto fModel_lay_51 (wi_iast1160 fModel_lay_53 (((((h.1 c8).2.2.1 c7).2.1 c6).2.2.1 c5).2 c3).1 (((((h.1 c8).2.2.1 c7).2.1 c6).2.2.1 c5).2 c3).2.1 (wi_bipush fModel_lay_54 (wi_ret1 fModel_lay_55 ((((((h.1 c8).2.2.1 c7).2.1 c6).2.2.1 c5).2 c3).2.2 _ rfl))))))))))))))) (fun c5 => (wi_iload3 fModel_lay_40 (wi_i2b fModel_lay_41 (wi_goto fModel_lay_42 (wi_iast1160 fModel_lay_53 ((((h.1 c8).2.2.1 c7).2.1 c6).2.2.2 c5).1 ((((h.1 c8).2.2.1 c7).2.1 c6).2.2.2 c5).2.1 (wi_bipush fModel_lay_54 (wi_ret1 fModel_lay_55 (((((h.1 c8).2.2.1 c7).2.1 c6).2.2.2 c5).2.2 _ rfl))))))))))))))))))))) (fun c6 => (wi_bipush fModel_lay_26 (wi_ret1 fModel_lay_27 (((h.1 c8).2.2.1 c7).2.2 c6)))))))))))))))))) (fun c7 => (wi_bipush fModel_lay_12 (wi_ret1 fModel_lay_13 ((h.1 c8).2.2.2 c7))))))))))) (fun c8 => (wi_bipush fModel_lay_4 (wi_ret1 fModel_lay_5 (h.2 c8))))))))))
theorem k_Model_lay {xs : List Int} {d : Nat} {Q : Option w_V → w_M → Prop} {x1 : Int} {x2 : Int} {x3 : Int} {σ : w_M} (hp : p_Model_lay x1 x2 x3 σ) (hQ : ∀ (x : Int) (σ' : w_M), q_Model_lay x1 x2 x3 σ x σ' → Q (some (.inl x)) σ') : w_Call (xs, d + 2) 235 [.inr (.inr (9, 122)), .inl x1, .inl x2, .inl x3] σ Q := by
  have hM : MI σ := hp
  unfold q_Model_lay F_lay G_lay at hQ
  have e4 : mS σ 4 = h_am σ := rfl
  rw [e4] at hQ
  refine bModel_lay_0 ⟨fun c => ⟨c.1.1, by omega, fun c2 => ?_, fun c2 => ?_⟩, fun c => ?_⟩
  · have h4 : x1.toNat < 4 := by omega
    obtain ⟨e0, e1, w0, w1, e2⟩ := h_am_yes hM h4 c2
    have hn : ¬ σ 131 x1.toNat = -4 := by omega
    rw [e0, if_pos c.1, if_neg hn] at hQ
    have fin : 0 ≤ x2 ∧ x2 < σ 131 x1.toNat → ∀ (v : Int) (τ : w_M), v = shVal (σ 130 x1.toNat) x3 → τ = w_up σ 132 (40 * x1 + x2).toNat v → Q (some (.inl 1)) τ := by
      intro h v τ hv t
      rw [show (40 * x1 + x2).toNat = 40 * x1.toNat + x2.toNat by omega] at t
      rw [if_pos h, if_pos ⟨c.1, hn, h⟩] at hQ
      refine hQ _ _ (m_q4 hM (fun b hb => by rw [t, w_up_ne (by omega)]) ?_ (shLay_WF hM.2.2.2.2.1) rfl)
      have f131 : τ 131 = σ 131 := by rw [t, w_up_ne (by decide)]
      have f130 : τ 130 = σ 130 := by rw [t, w_up_ne (by decide)]
      funext q j
      rw [w_up_eq]
      show _ = if q = x1.toNat ∧ j = 2 + x2.toNat then shVal (h_am σ x1.toNat 1) x3 else h_am σ q j
      rw [e1, ← hv]
      by_cases hq : q = x1.toNat ∧ j = 2 + x2.toNat
      · rw [if_pos hq, hq.1, hq.2]
        unfold h_am
        rw [f130, if_pos h4, if_neg c2, if_neg (by omega), if_neg (by omega), if_pos (by omega), show 2 + x2.toNat - 2 = x2.toNat by omega, t, w_up_at]
      · rw [if_neg hq]
        unfold h_am
        rw [f131, f130]
        by_cases hj0 : j = 0
        · rw [hj0]; rfl
        · by_cases hj1 : j = 1
          · rw [hj1]; rfl
          · by_cases hj : j < 42
            · by_cases hq4 : q < 4
              · rw [t, w_up_j (show 40 * q + (j - 2) ≠ 40 * x1.toNat + x2.toNat by omega)]
              · rw [if_neg hq4, if_neg hq4]
            · rw [if_neg hj, if_neg hj]
    refine ⟨⟨by omega, by omega⟩, fun c3 => ⟨⟨by omega, by omega⟩, ⟨by omega, by omega⟩, fun c4 => ⟨fun c5 => ⟨by omega, by omega, fun τ t => fin (by omega) _ _ ?_ t⟩, fun c5 => ⟨by omega, by omega, fun τ t => fin (by omega) _ _ ?_ t⟩⟩, fun c4 => ⟨by omega, by omega, fun τ t => fin (by omega) _ _ ?_ t⟩⟩, fun c3 => ?_⟩
    · unfold shVal; rw [if_neg c4, if_neg c5]
    · unfold shVal; rw [if_neg c4, if_pos c5]
    · unfold shVal; rw [if_pos c4]
    · rw [if_neg (by omega), if_neg (fun q => c3 (by have := q.2.2; omega))] at hQ
      exact hQ _ _ (m_qr hM rfl)
  · have h4 : x1.toNat < 4 := by omega
    have hn := h_am_no h4 c2
    rw [if_pos c.1, if_pos hn, if_neg (fun q => q.2.1 hn)] at hQ
    exact hQ _ _ (m_qr hM rfl)
  · have c1 : ¬ (0 ≤ x1 ∧ x1 ≤ 3) := fun q => c ⟨q, by decide⟩
    rw [if_neg c1, if_neg (fun q => c1 q.1)] at hQ
    exact hQ _ _ (m_qr hM rfl)
noncomputable def p_Model_count (_x1 : Int) (σ : w_M) : Prop := MI σ
noncomputable def q_Model_count (x1 : Int) (σ : w_M) (x : Int) (σ' : w_M) : Prop := m_q (F_count (mS σ) x1) (mS σ) σ x σ'
noncomputable def w_c238 : List Instr := [.bipush 0, .istore 2, .bipush 0, .istore 3, .bipush 0, .istore 4, .aload 0, .invokestatic 174, .bipush 0, .istore 5, .iload 5, .aload 0, .getfield 904, .if_icmp .ge 30, .iload 2, .aload 0, .getfield 900, .bipush 0, .iload 5, .iadd, .iaload, .ifCond .le 24, .bipush 1, .goto 25, .bipush 0, .invokestatic 179, .iadd, .istore 2, .iinc 5 1, .goto 10, .bipush 0, .istore 5, .iload 5, .aload 0, .getfield 905, .if_icmp .ge 52, .iload 3, .aload 0, .iload 5, .bipush 4, .invokestatic 178, .fadd, .istore 3, .iload 4, .aload 0, .iload 5, .bipush 1, .invokestatic 178, .iadd, .istore 4, .iinc 5 1, .goto 32, .iload 1, .tableswitch 98 0 7 #[54, 56, 58, 60, 65, 70, 82, 85], .iload 2, .ireturn, .iload 3, .ireturn, .iload 4, .ireturn, .aload 0, .getfield 900, .bipush 48, .iaload, .ireturn, .aload 0, .getfield 900, .bipush 73, .iaload, .ireturn, .aload 0, .getfield 902, .bipush 0, .baload, .invokestatic 179, .aload 0, .getfield 902, .bipush 1, .baload, .invokestatic 179, .iadd, .ireturn, .aload 0, .getfield 915, .ireturn, .aload 0, .getfield 924, .bipush 0, .iaload, .bipush (-4), .if_icmp .ne 93, .bipush (-4), .goto 97, .aload 0, .getfield 925, .bipush 0, .iaload, .ireturn, .bipush (-1), .ireturn]
theorem fModel_count_0 : w_fe w_c238 0 1 (.bipush 0) := ⟨rfl, rfl⟩
theorem fModel_count_1 : w_fe w_c238 1 2 (.istore 2) := ⟨rfl, rfl⟩
theorem fModel_count_2 : w_fe w_c238 2 3 (.bipush 0) := ⟨rfl, rfl⟩
theorem fModel_count_3 : w_fe w_c238 3 4 (.istore 3) := ⟨rfl, rfl⟩
theorem fModel_count_4 : w_fe w_c238 4 5 (.bipush 0) := ⟨rfl, rfl⟩
theorem fModel_count_5 : w_fe w_c238 5 6 (.istore 4) := ⟨rfl, rfl⟩
theorem fModel_count_6 : w_fe w_c238 6 7 (.aload 0) := ⟨rfl, rfl⟩
theorem fModel_count_7 : w_fe w_c238 7 8 (.invokestatic 174) := ⟨rfl, rfl⟩
theorem fModel_count_8 : w_fe w_c238 8 9 (.bipush 0) := ⟨rfl, rfl⟩
theorem fModel_count_9 : w_fe w_c238 9 10 (.istore 5) := ⟨rfl, rfl⟩
theorem fModel_count_10 : w_fe w_c238 10 11 (.iload 5) := ⟨rfl, rfl⟩
theorem fModel_count_11 : w_fe w_c238 11 12 (.aload 0) := ⟨rfl, rfl⟩
theorem fModel_count_12 : w_fe w_c238 12 13 (.getfield 904) := ⟨rfl, rfl⟩
theorem fModel_count_13 : w_ic w_c238 13 14 .ge 30 := ⟨rfl, rfl⟩
theorem fModel_count_14 : w_fe w_c238 14 15 (.iload 2) := ⟨rfl, rfl⟩
theorem fModel_count_15 : w_fe w_c238 15 16 (.aload 0) := ⟨rfl, rfl⟩
theorem fModel_count_16 : w_fe w_c238 16 17 (.getfield 900) := ⟨rfl, rfl⟩
theorem fModel_count_17 : w_fe w_c238 17 18 (.bipush 0) := ⟨rfl, rfl⟩
theorem fModel_count_18 : w_fe w_c238 18 19 (.iload 5) := ⟨rfl, rfl⟩
theorem fModel_count_19 : w_fe w_c238 19 20 (.iadd) := ⟨rfl, rfl⟩
theorem fModel_count_20 : w_fe w_c238 20 21 (.iaload) := ⟨rfl, rfl⟩
theorem fModel_count_21 : w_if w_c238 21 22 .le 24 := ⟨rfl, rfl⟩
theorem fModel_count_22 : w_fe w_c238 22 23 (.bipush 1) := ⟨rfl, rfl⟩
theorem fModel_count_23 : w_gt w_c238 23 25 := rfl
theorem fModel_count_24 : w_fe w_c238 24 25 (.bipush 0) := ⟨rfl, rfl⟩
theorem fModel_count_25 : w_fe w_c238 25 26 (.invokestatic 179) := ⟨rfl, rfl⟩
theorem fModel_count_26 : w_fe w_c238 26 27 (.iadd) := ⟨rfl, rfl⟩
theorem fModel_count_27 : w_fe w_c238 27 28 (.istore 2) := ⟨rfl, rfl⟩
theorem fModel_count_28 : w_fe w_c238 28 29 (.iinc 5 1) := ⟨rfl, rfl⟩
theorem fModel_count_29 : w_gt w_c238 29 10 := rfl
theorem fModel_count_30 : w_fe w_c238 30 31 (.bipush 0) := ⟨rfl, rfl⟩
theorem fModel_count_31 : w_fe w_c238 31 32 (.istore 5) := ⟨rfl, rfl⟩
theorem fModel_count_32 : w_fe w_c238 32 33 (.iload 5) := ⟨rfl, rfl⟩
theorem fModel_count_33 : w_fe w_c238 33 34 (.aload 0) := ⟨rfl, rfl⟩
theorem fModel_count_34 : w_fe w_c238 34 35 (.getfield 905) := ⟨rfl, rfl⟩
theorem fModel_count_35 : w_ic w_c238 35 36 .ge 52 := ⟨rfl, rfl⟩
theorem fModel_count_36 : w_fe w_c238 36 37 (.iload 3) := ⟨rfl, rfl⟩
theorem fModel_count_37 : w_fe w_c238 37 38 (.aload 0) := ⟨rfl, rfl⟩
theorem fModel_count_38 : w_fe w_c238 38 39 (.iload 5) := ⟨rfl, rfl⟩
theorem fModel_count_39 : w_fe w_c238 39 40 (.bipush 4) := ⟨rfl, rfl⟩
theorem fModel_count_40 : w_fe w_c238 40 41 (.invokestatic 178) := ⟨rfl, rfl⟩
theorem fModel_count_41 : w_fe w_c238 41 42 (.fadd) := ⟨rfl, rfl⟩
theorem fModel_count_42 : w_fe w_c238 42 43 (.istore 3) := ⟨rfl, rfl⟩
theorem fModel_count_43 : w_fe w_c238 43 44 (.iload 4) := ⟨rfl, rfl⟩
theorem fModel_count_44 : w_fe w_c238 44 45 (.aload 0) := ⟨rfl, rfl⟩
theorem fModel_count_45 : w_fe w_c238 45 46 (.iload 5) := ⟨rfl, rfl⟩
theorem fModel_count_46 : w_fe w_c238 46 47 (.bipush 1) := ⟨rfl, rfl⟩
theorem fModel_count_47 : w_fe w_c238 47 48 (.invokestatic 178) := ⟨rfl, rfl⟩
theorem fModel_count_48 : w_fe w_c238 48 49 (.iadd) := ⟨rfl, rfl⟩
theorem fModel_count_49 : w_fe w_c238 49 50 (.istore 4) := ⟨rfl, rfl⟩
theorem fModel_count_50 : w_fe w_c238 50 51 (.iinc 5 1) := ⟨rfl, rfl⟩
theorem fModel_count_51 : w_gt w_c238 51 32 := rfl
theorem fModel_count_52 : w_fe w_c238 52 53 (.iload 1) := ⟨rfl, rfl⟩
theorem fModel_count_53 {E : w_C} {rt : Nat} {Q : Option w_V → w_M → Prop} {ls : w_L} {st : List w_V} {σ : w_M} {x : Int} (h0 : x = 0 → w_Ex E rt w_c238 Q 54 ls st σ) (h1 : x = 1 → w_Ex E rt w_c238 Q 56 ls st σ) (h2 : x = 2 → w_Ex E rt w_c238 Q 58 ls st σ) (h3 : x = 3 → w_Ex E rt w_c238 Q 60 ls st σ) (h4 : x = 4 → w_Ex E rt w_c238 Q 65 ls st σ) (h5 : x = 5 → w_Ex E rt w_c238 Q 70 ls st σ) (h6 : x = 6 → w_Ex E rt w_c238 Q 82 ls st σ) (h7 : x = 7 → w_Ex E rt w_c238 Q 85 ls st σ) (hd : x < 0 ∨ 7 < x → w_Ex E rt w_c238 Q 98 ls st σ) : w_Ex E rt w_c238 Q 53 ls (.inl x :: st) σ :=
  w_Ex_in (op := .tableswitch 98 0 7 #[54, 56, 58, 60, 65, 70, 82, 85]) rfl ⟨rfl, hd, And.intro h0 (And.intro h1 (And.intro h2 (And.intro h3 (And.intro h4 (And.intro h5 (And.intro h6 (And.intro h7 ( trivial))))))))⟩
theorem fModel_count_54 : w_fe w_c238 54 55 (.iload 2) := ⟨rfl, rfl⟩
theorem fModel_count_55 : w_fe w_c238 55 56 (.ireturn) := ⟨rfl, rfl⟩
theorem fModel_count_56 : w_fe w_c238 56 57 (.iload 3) := ⟨rfl, rfl⟩
theorem fModel_count_57 : w_fe w_c238 57 58 (.ireturn) := ⟨rfl, rfl⟩
theorem fModel_count_58 : w_fe w_c238 58 59 (.iload 4) := ⟨rfl, rfl⟩
theorem fModel_count_59 : w_fe w_c238 59 60 (.ireturn) := ⟨rfl, rfl⟩
theorem fModel_count_60 : w_fe w_c238 60 61 (.aload 0) := ⟨rfl, rfl⟩
theorem fModel_count_61 : w_fe w_c238 61 62 (.getfield 900) := ⟨rfl, rfl⟩
theorem fModel_count_62 : w_fe w_c238 62 63 (.bipush 48) := ⟨rfl, rfl⟩
theorem fModel_count_63 : w_fe w_c238 63 64 (.iaload) := ⟨rfl, rfl⟩
theorem fModel_count_64 : w_fe w_c238 64 65 (.ireturn) := ⟨rfl, rfl⟩
theorem fModel_count_65 : w_fe w_c238 65 66 (.aload 0) := ⟨rfl, rfl⟩
theorem fModel_count_66 : w_fe w_c238 66 67 (.getfield 900) := ⟨rfl, rfl⟩
theorem fModel_count_67 : w_fe w_c238 67 68 (.bipush 73) := ⟨rfl, rfl⟩
theorem fModel_count_68 : w_fe w_c238 68 69 (.iaload) := ⟨rfl, rfl⟩
theorem fModel_count_69 : w_fe w_c238 69 70 (.ireturn) := ⟨rfl, rfl⟩
theorem fModel_count_70 : w_fe w_c238 70 71 (.aload 0) := ⟨rfl, rfl⟩
theorem fModel_count_71 : w_fe w_c238 71 72 (.getfield 902) := ⟨rfl, rfl⟩
theorem fModel_count_72 : w_fe w_c238 72 73 (.bipush 0) := ⟨rfl, rfl⟩
theorem fModel_count_73 : w_fe w_c238 73 74 (.baload) := ⟨rfl, rfl⟩
theorem fModel_count_74 : w_fe w_c238 74 75 (.invokestatic 179) := ⟨rfl, rfl⟩
theorem fModel_count_75 : w_fe w_c238 75 76 (.aload 0) := ⟨rfl, rfl⟩
theorem fModel_count_76 : w_fe w_c238 76 77 (.getfield 902) := ⟨rfl, rfl⟩
theorem fModel_count_77 : w_fe w_c238 77 78 (.bipush 1) := ⟨rfl, rfl⟩
theorem fModel_count_78 : w_fe w_c238 78 79 (.baload) := ⟨rfl, rfl⟩
theorem fModel_count_79 : w_fe w_c238 79 80 (.invokestatic 179) := ⟨rfl, rfl⟩
theorem fModel_count_80 : w_fe w_c238 80 81 (.iadd) := ⟨rfl, rfl⟩
theorem fModel_count_81 : w_fe w_c238 81 82 (.ireturn) := ⟨rfl, rfl⟩
theorem fModel_count_82 : w_fe w_c238 82 83 (.aload 0) := ⟨rfl, rfl⟩
theorem fModel_count_83 : w_fe w_c238 83 84 (.getfield 915) := ⟨rfl, rfl⟩
theorem fModel_count_84 : w_fe w_c238 84 85 (.ireturn) := ⟨rfl, rfl⟩
theorem fModel_count_85 : w_fe w_c238 85 86 (.aload 0) := ⟨rfl, rfl⟩
theorem fModel_count_86 : w_fe w_c238 86 87 (.getfield 924) := ⟨rfl, rfl⟩
theorem fModel_count_87 : w_fe w_c238 87 88 (.bipush 0) := ⟨rfl, rfl⟩
theorem fModel_count_88 : w_fe w_c238 88 89 (.iaload) := ⟨rfl, rfl⟩
theorem fModel_count_89 : w_fe w_c238 89 90 (.bipush (-4)) := ⟨rfl, rfl⟩
theorem fModel_count_90 : w_ic w_c238 90 91 .ne 93 := ⟨rfl, rfl⟩
theorem fModel_count_91 : w_fe w_c238 91 92 (.bipush (-4)) := ⟨rfl, rfl⟩
theorem fModel_count_92 : w_gt w_c238 92 97 := rfl
theorem fModel_count_93 : w_fe w_c238 93 94 (.aload 0) := ⟨rfl, rfl⟩
theorem fModel_count_94 : w_fe w_c238 94 95 (.getfield 925) := ⟨rfl, rfl⟩
theorem fModel_count_95 : w_fe w_c238 95 96 (.bipush 0) := ⟨rfl, rfl⟩
theorem fModel_count_96 : w_fe w_c238 96 97 (.iaload) := ⟨rfl, rfl⟩
theorem fModel_count_97 : w_fe w_c238 97 98 (.ireturn) := ⟨rfl, rfl⟩
theorem fModel_count_98 : w_fe w_c238 98 99 (.bipush (-1)) := ⟨rfl, rfl⟩
theorem fModel_count_99 : w_fe w_c238 99 100 (.ireturn) := ⟨rfl, rfl⟩
noncomputable def LModel_count_10 (xs : List Int) (d : Nat) (Q : Option w_V → w_M → Prop) (v1 : Int) (v2 : Int) (v3 : Int) (v4 : Int) (v5 : Int) (σ : w_M) : Prop := w_Ex (xs, d) 1 w_c238 Q 10 [some (.inr (.inr (9, 122))), some (.inl v1), some (.inl v2), some (.inl v3), some (.inl v4), some (.inl v5)] [] σ
noncomputable def LModel_count_32 (xs : List Int) (d : Nat) (Q : Option w_V → w_M → Prop) (v1 : Int) (v2 : Int) (v3 : Int) (v4 : Int) (v5 : Int) (σ : w_M) : Prop := w_Ex (xs, d) 1 w_c238 Q 32 [some (.inr (.inr (9, 122))), some (.inl v1), some (.inl v2), some (.inl v3), some (.inl v4), some (.inl v5)] [] σ
set_option maxRecDepth 20000 in
theorem bModel_count_0 {xs : List Int} {d : Nat} {Q : Option w_V → w_M → Prop} {x1 : Int} {σ : w_M}
    (h : p_Model_starts σ ∧ (∀ (τ1 : w_M), q_Model_starts σ τ1 → LModel_count_10 xs (d + 1) Q x1 0 0 0 0 τ1)) : w_Call (xs, (d + 1)) 238 [.inr (.inr (9, 122)), .inl x1] σ Q :=
  (w_mk (mid := 238) (by decide) rfl rfl rfl rfl rfl (Nat.le_of_ble_eq_true rfl) ⟨rfl, Or.inl (by decide)⟩ (wi_bipush fModel_count_0 (wi_istore2 fModel_count_1 trivial (wi_bipush fModel_count_2 (wi_istore3 fModel_count_3 trivial (wi_bipush fModel_count_4 (wi_istore4 fModel_count_5 trivial (wi_aload0 fModel_count_6 (wi_call1 fModel_count_7 (Nat.le_of_ble_eq_true rfl) (k_Model_starts h.1 (fun τ1 eτ1 => (wi_bipush fModel_count_8 (wi_istore5 fModel_count_9 trivial (h.2 τ1 eτ1))))))))))))))
set_option maxRecDepth 20000 in
theorem bModel_count_10 {xs : List Int} {d : Nat} {Q : Option w_V → w_M → Prop} {v1 : Int} {v2 : Int} {v3 : Int} {v4 : Int} {v5 : Int} {σ : w_M}
    (h : ((σ 122 4) ≤ v5 → LModel_count_32 xs (d + 1) Q v1 v2 v3 v4 0 σ) ∧ (v5 < (σ 122 4) → (w_in (0 + v5) ∧ 0 ≤ (0 + v5) ∧ (0 + v5) < 246 ∧ (((σ 123 (0 + v5).toNat) ≤ 0 → (w_in (v2 + 0) ∧ (∀ (y1 : Int), y1 = (v2 + 0) → (w_in (v5 + 1) ∧ LModel_count_10 xs (d + 1) Q v1 y1 v3 v4 (v5 + 1) σ)))) ∧ (0 < (σ 123 (0 + v5).toNat) → (w_in (v2 + 1) ∧ (∀ (y2 : Int), y2 = (v2 + 1) → (w_in (v5 + 1) ∧ LModel_count_10 xs (d + 1) Q v1 y2 v3 v4 (v5 + 1) σ)))))))) : LModel_count_10 xs (d + 1) Q v1 v2 v3 v4 v5 σ :=
  (wi_iload5 fModel_count_10 (wi_aload0 fModel_count_11 (wi_getf904 fModel_count_12 (wi_ic_ge fModel_count_13 (fun c4 => (wi_bipush fModel_count_30 (wi_istore5 fModel_count_31 trivial (h.1 c4)))) (fun c4 => (wi_iload2 fModel_count_14 (wi_aload0 fModel_count_15 (wi_getf900 fModel_count_16 (wi_bipush fModel_count_17 (wi_iload5 fModel_count_18 (wi_iadd fModel_count_19 (h.2 c4).1 (wi_iald1246 fModel_count_20 (h.2 c4).2.1 (h.2 c4).2.2.1 (wi_if_le fModel_count_21 (fun c3 => (wi_bipush fModel_count_24 (wi_call1 fModel_count_25 (Nat.le_of_ble_eq_true rfl) (k_Model_flag (wi_iadd fModel_count_26 ((h.2 c4).2.2.2.1 c3).1 (wi_istore2 fModel_count_27 trivial (wi_iinc5 fModel_count_28 trivial (((h.2 c4).2.2.2.1 c3).2 _ rfl).1 (wi_goto fModel_count_29 (((h.2 c4).2.2.2.1 c3).2 _ rfl).2)))))))) (fun c3 => (wi_bipush fModel_count_22 (wi_goto fModel_count_23 (wi_call1 fModel_count_25 (Nat.le_of_ble_eq_true rfl) (k_Model_flag (wi_iadd fModel_count_26 ((h.2 c4).2.2.2.2 c3).1 (wi_istore2 fModel_count_27 trivial (wi_iinc5 fModel_count_28 trivial (((h.2 c4).2.2.2.2 c3).2 _ rfl).1 (wi_goto fModel_count_29 (((h.2 c4).2.2.2.2 c3).2 _ rfl).2))))))))))))))))))))))
set_option maxRecDepth 20000 in
theorem bModel_count_32 {xs : List Int} {d : Nat} {Q : Option w_V → w_M → Prop} {v1 : Int} {v2 : Int} {v3 : Int} {v4 : Int} {v5 : Int} {σ : w_M}
    (h : ((σ 122 5) ≤ v5 → ((v1 = 0 → Q (some (.inl v2)) σ) ∧ (v1 = 1 → Q (some (.inl v3)) σ) ∧ (v1 = 2 → Q (some (.inl v4)) σ) ∧ (v1 = 3 → Q (some (.inl (σ 123 48))) σ) ∧ (v1 = 4 → Q (some (.inl (σ 123 73))) σ) ∧ (v1 = 5 → ∀ (y1 : Int), y1 = v_Model_flag (σ 125 0) → ∀ (y2 : Int), y2 = v_Model_flag (σ 125 1) → (w_in (y1 + y2) ∧ Q (some (.inl (y1 + y2))) σ)) ∧ (v1 = 6 → Q (some (.inl (σ 122 15))) σ) ∧ (v1 = 7 → ((¬ (σ 130 0) = (-4) → Q (some (.inl (σ 131 0))) σ) ∧ ((σ 130 0) = (-4) → Q (some (.inl (-4))) σ))) ∧ (v1 < 0 ∨ 7 < v1 → Q (some (.inl (-1))) σ))) ∧ (v5 < (σ 122 5) → (p_Model_of v5 4 σ ∧ (∀ (y4 : Int), y4 = (w_wr (v3 + (σ 124 (21 + 5 * v5 + 4).toNat))) → (p_Model_of v5 1 σ ∧ w_in (v4 + (σ 124 (21 + 5 * v5 + 1).toNat)) ∧ (∀ (y5 : Int), y5 = (v4 + (σ 124 (21 + 5 * v5 + 1).toNat)) → (w_in (v5 + 1) ∧ LModel_count_32 xs (d + 1) Q v1 v2 y4 y5 (v5 + 1) σ))))))) : LModel_count_32 xs (d + 1) Q v1 v2 v3 v4 v5 σ :=
  (wi_iload5 fModel_count_32 (wi_aload0 fModel_count_33 (wi_getf905 fModel_count_34 (wi_ic_ge fModel_count_35 (fun c6 => (wi_iload1 fModel_count_52 (fModel_count_53 (fun c => (wi_iload2 fModel_count_54 (wi_ret1 fModel_count_55 ((h.1 c6).1 c)))) (fun c => (wi_iload3 fModel_count_56 (wi_ret1 fModel_count_57 ((h.1 c6).2.1 c)))) (fun c => (wi_iload4 fModel_count_58 (wi_ret1 fModel_count_59 ((h.1 c6).2.2.1 c)))) (fun c => (wi_aload0 fModel_count_60 (wi_getf900 fModel_count_61 (wi_bipush fModel_count_62 (wi_iald1246 fModel_count_63 (by decide) (by decide) (wi_ret1 fModel_count_64 ((h.1 c6).2.2.2.1 c))))))) (fun c => (wi_aload0 fModel_count_65 (wi_getf900 fModel_count_66 (wi_bipush fModel_count_67 (wi_iald1246 fModel_count_68 (by decide) (by decide) (wi_ret1 fModel_count_69 ((h.1 c6).2.2.2.2.1 c))))))) (fun c => (wi_aload0 fModel_count_70 (wi_getf902 fModel_count_71 (wi_bipush fModel_count_72 (wi_bald3002 fModel_count_73 (by decide) (by decide) (wi_call1 fModel_count_74 (Nat.le_of_ble_eq_true rfl) (k_Model_flag (wi_aload0 fModel_count_75 (wi_getf902 fModel_count_76 (wi_bipush fModel_count_77 (wi_bald3002 fModel_count_78 (by decide) (by decide) (wi_call1 fModel_count_79 (Nat.le_of_ble_eq_true rfl) (k_Model_flag (wi_iadd fModel_count_80 ((((h.1 c6).2.2.2.2.2.1 c) _ rfl) _ rfl).1 (wi_ret1 fModel_count_81 ((((h.1 c6).2.2.2.2.2.1 c) _ rfl) _ rfl).2))))))))))))))) (fun c => (wi_aload0 fModel_count_82 (wi_getf915 fModel_count_83 (wi_ret1 fModel_count_84 ((h.1 c6).2.2.2.2.2.2.1 c))))) (fun c => (wi_aload0 fModel_count_85 (wi_getf924 fModel_count_86 (wi_bipush fModel_count_87 (wi_iald1004 fModel_count_88 (by decide) (by decide) (wi_bipush fModel_count_89 (wi_ic_ne fModel_count_90 (fun c3 => (wi_aload0 fModel_count_93 (wi_getf925 fModel_count_94 (wi_bipush fModel_count_95 (wi_iald1004 fModel_count_96 (by decide) (by decide) (wi_ret1 fModel_count_97 (((h.1 c6).2.2.2.2.2.2.2.1 c).1 c3))))))) (fun c3 => (wi_bipush fModel_count_91 (wi_goto fModel_count_92 (wi_ret1 fModel_count_97 (((h.1 c6).2.2.2.2.2.2.2.1 c).2 c3)))))))))))) (fun c => (wi_bipush fModel_count_98 (wi_ret1 fModel_count_99 ((h.1 c6).2.2.2.2.2.2.2.2 c))))))) (fun c6 => (wi_iload3 fModel_count_36 (wi_aload0 fModel_count_37 (wi_iload5 fModel_count_38 (wi_bipush fModel_count_39 (wi_call3 fModel_count_40 (Nat.le_of_ble_eq_true rfl) (k_Model_of (h.2 c6).1 (wi_fadd fModel_count_41 (wi_istore3 fModel_count_42 trivial (wi_iload4 fModel_count_43 (wi_aload0 fModel_count_44 (wi_iload5 fModel_count_45 (wi_bipush fModel_count_46 (wi_call3 fModel_count_47 (Nat.le_of_ble_eq_true rfl) (k_Model_of ((h.2 c6).2 _ rfl).1 (wi_iadd fModel_count_48 ((h.2 c6).2 _ rfl).2.1 (wi_istore4 fModel_count_49 trivial (wi_iinc5 fModel_count_50 trivial (((h.2 c6).2 _ rfl).2.2 _ rfl).1 (wi_goto fModel_count_51 (((h.2 c6).2 _ rfl).2.2 _ rfl).2)))))))))))))))))))))))
theorem k_Model_count {xs : List Int} {d : Nat} {Q : Option w_V → w_M → Prop} {x1 : Int} {σ : w_M} (hp : p_Model_count x1 σ) (hQ : ∀ (x : Int) (σ' : w_M), q_Model_count x1 σ x σ' → Q (some (.inl x)) σ') : w_Call (xs, d + 1) 238 [.inr (.inr (9, 122)), .inl x1] σ Q := by
  have hM : MI σ := hp
  have hok : n_WF (w_am σ 123 0) := hM.ok
  have hs := hM.s
  have hnn := hM.n
  unfold q_Model_count F_count at hQ
  refine bModel_count_0 ⟨hM.sm, fun τ hq => ?_⟩
  obtain ⟨q1, F, q3⟩ := hq
  have z : ∀ b, b ≠ 124 → τ b = σ b := fun b hb => F b hb
  have z4 : τ 122 4 = σ 122 4 := by rw [z 122 (by decide)]
  have z5 : τ 122 5 = σ 122 5 := by rw [z 122 (by decide)]
  refine w_loop (n := (σ 122 4).toNat) (P := fun i => LModel_count_10 xs (d + 1) Q x1 (f_sum (fun i => if 0 < w_am σ 123 0 1 i then 1 else 0) i) 0 0 (i : Int) τ) ?_ ?_
  · refine bModel_count_10 ⟨fun _ => ?_, fun h => by omega⟩
    refine w_loop (n := (σ 122 5).toNat) (P := fun i => LModel_count_32 xs (d + 1) Q x1 (n_swy (w_am σ 123 0)) (f_ws (w_am σ 123 0 7) i) (f_sum (w_am σ 123 0 4) i) (i : Int) τ) ?_ ?_
    · refine bModel_count_32 ⟨fun _ => ⟨fun c => ?_, fun c => ?_, fun c => ?_, fun c => ?_, fun c => ?_, fun c => fun y1 ey1 y2 ey2 => ?_, fun c => ?_, fun c => ⟨fun c2 => ?_, fun c2 => ?_⟩, fun c => ?_⟩, fun h => by omega⟩
      · rw [if_pos c] at hQ; exact hQ _ _ (m_qs hM F rfl)
      · rw [if_neg (by omega), if_pos c] at hQ; exact hQ _ _ (m_qs hM F rfl)
      · rw [if_neg (by omega), if_neg (by omega), if_pos c] at hQ; exact hQ _ _ (m_qs hM F rfl)
      · rw [if_neg (by omega), if_neg (by omega), if_neg (by omega), if_pos c] at hQ; exact hQ _ _ (m_qs hM F (by rw [z 123 (by decide)]; rfl))
      · rw [if_neg (by omega), if_neg (by omega), if_neg (by omega), if_neg (by omega), if_pos c] at hQ; exact hQ _ _ (m_qs hM F (by rw [z 123 (by decide)]; rfl))
      · rw [if_neg (by omega), if_neg (by omega), if_neg (by omega), if_neg (by omega), if_neg (by omega), if_pos c] at hQ
        have k0 := hM.k01 (k := 0) (Or.inl rfl)
        have k1 := hM.k01 (k := 1) (Or.inr rfl)
        rw [z 125 (by decide)] at ey1 ey2
        have f0 : y1 = σ 125 0 := by rw [ey1]; unfold v_Model_flag; rcases k0 with h | h <;> rw [h] <;> rfl
        have f1 : y2 = σ 125 1 := by rw [ey2]; unfold v_Model_flag; rcases k1 with h | h <;> rw [h] <;> rfl
        refine ⟨⟨by omega, by omega⟩, hQ _ _ (m_qs hM F ?_)⟩
        rw [mS_11 (by decide), mS_11 (by decide), f0, f1]
      · rw [if_neg (by omega), if_neg (by omega), if_neg (by omega), if_neg (by omega), if_neg (by omega), if_neg (by omega), if_pos c] at hQ; exact hQ _ _ (m_qs hM F (by rw [z 122 (by decide)]; rfl))
      · rw [if_neg (by omega), if_neg (by omega), if_neg (by omega), if_neg (by omega), if_neg (by omega), if_neg (by omega), if_neg (by omega), if_pos c] at hQ
        rw [z 130 (by decide)] at c2
        refine hQ _ _ (m_qs hM F ?_)
        show _ = h_am σ 0 0
        rw [(h_am_yes hM (by decide) c2).1, z 131 (by decide)]
      · rw [if_neg (by omega), if_neg (by omega), if_neg (by omega), if_neg (by omega), if_neg (by omega), if_neg (by omega), if_neg (by omega), if_pos c] at hQ
        rw [z 130 (by decide)] at c2
        exact hQ _ _ (m_qs hM F (h_am_no (by decide) c2).symm)
      · rw [if_neg (by omega), if_neg (by omega), if_neg (by omega), if_neg (by omega), if_neg (by omega), if_neg (by omega), if_neg (by omega), if_neg (by omega)] at hQ; exact hQ _ _ (m_qs hM F rfl)
    · intro i hi ih
      have hrl : ∀ d, 3 ≤ d → d ≤ 7 → m_rl σ d = (σ 122 5).toNat := fun d h1 h2 => by
        unfold m_rl
        rw [if_neg (by omega), if_neg (by omega), if_pos (by omega)]
      have e7 : τ 124 (21 + 5 * (i : Int) + 4).toNat = w_am σ 123 0 7 i := by
        rw [q3 _ (by omega)]
        exact m_rd (by decide) (by rw [hrl 7 (by decide) (by decide)]; exact hi) (by show _ = 0 + (25 + 5 * i); omega)
      have e4 : τ 124 (21 + 5 * (i : Int) + 1).toNat = w_am σ 123 0 4 i := by
        rw [q3 _ (by omega)]
        exact m_rd (by decide) (by rw [hrl 4 (by decide) (by decide)]; exact hi) (by show _ = 0 + (22 + 5 * i); omega)
      have hi4 : i < n_n (w_am σ 123 0) := hi
      have h2 := f_sum_le (f := w_am σ 123 0 4) (B := 9) (m := (σ 122 5).toNat) (fun i hi => by have := (n_WF.r hok hi).2.1; omega) (Nat.le_of_lt hi)
      have h3 := (n_WF.r hok hi4).2.1
      simp only [f_ws, f_sum] at ih
      rw [w_cs1] at ih
      refine bModel_count_32 ⟨fun h => by omega, fun h => ⟨⟨by omega, by omega⟩, fun y4 ey4 => ⟨⟨by omega, by omega⟩, ?_⟩⟩⟩
      rw [e4]
      refine ⟨⟨by omega, by omega⟩, fun y5 ey5 => ⟨⟨by omega, by omega⟩, ?_⟩⟩
      rw [e7] at ey4
      rw [ey4, ey5]
      exact ih
  · intro i hi ih
    have e : τ 123 (0 + (i : Int)).toNat = w_am σ 123 0 1 i := by
      rw [z 123 (by decide)]
      exact m_rd (by decide) (by unfold m_rl; rw [if_neg (by decide), if_pos (by decide)]; exact hi) (by show _ = 0 + i; omega)
    have h2 := f_sum_le (f := fun i => if 0 < w_am σ 123 0 1 i then 1 else 0) (B := 1) (m := i) (fun i hi => by split <;> omega) (Nat.le_refl _)
    simp only [f_sum] at ih
    rw [w_cs1] at ih
    refine bModel_count_10 ⟨fun h => by omega, fun h => ⟨⟨by omega, by omega⟩, by omega, by omega, fun c => ?_, fun c => ?_⟩⟩
    · rw [e] at c
      rw [if_neg (by omega)] at ih
      exact ⟨⟨by omega, by omega⟩, fun y ey => ⟨⟨by omega, by omega⟩, by rw [ey]; exact ih⟩⟩
    · rw [e] at c
      rw [if_pos c] at ih
      exact ⟨⟨by omega, by omega⟩, fun y ey => ⟨⟨by omega, by omega⟩, by rw [ey]; exact ih⟩⟩
