/-! Sheets, counts: the reference -/
theorem m_q4 {σ σ' : w_M} {H : w_M} {F x : Int} (hM : MI σ) (h : ∀ b, b < 130 ∨ 132 < b → σ' b = σ b) (hH : h_am σ' = H) (hW : shWF H) (hx : x = F) : m_q F (w_sp (mS σ) 4 H) σ x σ' := by
  have e : mS σ' = w_sp (mS σ) 4 H := by rw [mS_part4 hM (h 122 (by omega)) (fun b hb => h b (by omega)), hH]
  exact ⟨hx, by unfold MI; rw [e]; exact sWF_4 hM hW, e, fun b hb => h b (by omega), by rw [h 122 (by omega)]⟩
theorem MI.sh {σ : w_M} (h : MI σ) {k : Nat} (hk : k < 4) : h_am σ k 0 = -4 ∨ ((0 ≤ h_am σ k 0 ∧ h_am σ k 0 ≤ 40) ∧ (0 ≤ h_am σ k 1 ∧ h_am σ k 1 ≤ 2)) := h.2.2.2.2.1 k hk
theorem h_am_no {σ : w_M} {k : Nat} (hk : k < 4) (h : σ 130 k = -4) : h_am σ k 0 = -4 := by
  unfold h_am
  rw [if_pos hk, if_pos h, if_pos rfl]
theorem h_am_yes {σ : w_M} {k : Nat} (hM : MI σ) (hk : k < 4) (h : ¬ σ 130 k = -4) : h_am σ k 0 = σ 131 k ∧ h_am σ k 1 = σ 130 k ∧ (0 ≤ σ 131 k ∧ σ 131 k ≤ 40) ∧ (0 ≤ σ 130 k ∧ σ 130 k ≤ 2) ∧ ∀ j, j < 40 → h_am σ k (2 + j) = σ 132 (40 * k + j) := by
  have e0 : h_am σ k 0 = if σ 131 k < 0 then -5 else σ 131 k := by unfold h_am; rw [if_pos hk, if_neg h, if_pos rfl]
  have e1 : h_am σ k 1 = σ 130 k := by unfold h_am; rw [if_pos hk, if_neg h, if_neg (by decide), if_pos rfl]
  have hw := hM.sh hk
  rw [e0, e1] at hw
  have hn : ¬ σ 131 k < 0 := fun q => by rw [if_pos q] at hw; omega
  rw [if_neg hn] at hw e0
  have hw2 := hw.resolve_left (by omega)
  refine ⟨e0, e1, hw2.1, hw2.2, fun j hj => ?_⟩
  unfold h_am
  rw [if_pos hk, if_neg h, if_neg (by omega), if_neg (by omega), if_pos (by omega), show 2 + j - 2 = j by omega]
theorem f235_0 : w_fe am_c235 0 1 (.iload 0) := ⟨rfl, rfl⟩
theorem f235_1 : w_fe am_c235 1 2 (.i2l) := ⟨rfl, rfl⟩
theorem f235_2 : w_fe am_c235 2 3 (.sipush 0) := ⟨rfl, rfl⟩
theorem f235_3 : w_fe am_c235 3 4 (.sipush 3) := ⟨rfl, rfl⟩
theorem f235_4 : w_fe am_c235 4 5 (.invokestatic 158) := ⟨rfl, rfl⟩
theorem f235_5 : w_if am_c235 5 6 .eq 14 := ⟨rfl, rfl⟩
theorem f235_6 : w_fe am_c235 6 7 (.iload 1) := ⟨rfl, rfl⟩
theorem f235_7 : w_fe am_c235 7 8 (.i2l) := ⟨rfl, rfl⟩
theorem f235_8 : w_fe am_c235 8 9 (.sipush 0) := ⟨rfl, rfl⟩
theorem f235_9 : w_fe am_c235 9 10 (.sipush 2) := ⟨rfl, rfl⟩
theorem f235_10 : w_fe am_c235 10 11 (.invokestatic 158) := ⟨rfl, rfl⟩
theorem f235_11 : w_if am_c235 11 12 .eq 14 := ⟨rfl, rfl⟩
theorem f235_12 : w_fe am_c235 12 13 (.bipush 1) := ⟨rfl, rfl⟩
theorem f235_13 : w_gt am_c235 13 15 := rfl
theorem f235_14 : w_fe am_c235 14 15 (.bipush 0) := ⟨rfl, rfl⟩
theorem f235_15 : w_fe am_c235 15 16 (.ireturn) := ⟨rfl, rfl⟩
set_option maxRecDepth 20000 in
theorem b235_0 {xs : List Int} {d : Nat} {Q : Option w_V → w_M → Prop} {x0 : Int} {x1 : Int} {σ : w_M}
    (h : (¬ (0 ≤ x0 ∧ x0 ≤ 3) → Q (some (.inl 0)) σ) ∧ ((0 ≤ x0 ∧ x0 ≤ 3) → ((¬ (0 ≤ x1 ∧ x1 ≤ 2) → Q (some (.inl 0)) σ) ∧ ((0 ≤ x1 ∧ x1 ≤ 2) → Q (some (.inl 1)) σ)))) : w_Call (xs, (d + 1)) 235 [.inl x0, .inl x1] σ Q :=
  (w_mk (mid := 235) (by decide) rfl rfl rfl rfl rfl (Nat.le_of_ble_eq_true rfl) trivial (wi_iload0 f235_0 (wi_i2l f235_1 (wi_sipush f235_2 (wi_sipush f235_3 (wi_call3 f235_4 (Nat.le_of_ble_eq_true rfl) (k_Model_in (wi_ifb_eq f235_5 (fun c2 => (wi_bipush f235_14 (wi_ret2 f235_15 (by decide) (h.1 c2)))) (fun c2 => (wi_iload1 f235_6 (wi_i2l f235_7 (wi_sipush f235_8 (wi_sipush f235_9 (wi_call3 f235_10 (Nat.le_of_ble_eq_true rfl) (k_Model_in (wi_ifb_eq f235_11 (fun c1 => (wi_bipush f235_14 (wi_ret2 f235_15 (by decide) ((h.2 c2).1 c1)))) (fun c1 => (wi_bipush f235_12 (wi_goto f235_13 (wi_ret2 f235_15 (by decide) ((h.2 c2).2 c1)))))))))))))))))))))
theorem k_Model_isSheet {xs : List Int} {d : Nat} {Q : Option w_V → w_M → Prop} {x0 : Int} {x1 : Int} {σ : w_M} (hQ : Q (some (.inl (w_bi ((0 ≤ x0 ∧ x0 ≤ 3) ∧ ((0 : Int) ≤ x1 ∧ x1 ≤ (2 : Int)))))) σ) : w_Call (xs, d + 1) 235 [.inl x0, .inl x1] σ Q := by
  refine b235_0 ⟨fun c => ?_, fun c => ⟨fun c2 => ?_, fun c2 => ?_⟩⟩
  · rw [w_bi_f (fun q => c q.1)] at hQ; exact hQ
  · rw [w_bi_f (fun q => c2 q.2)] at hQ; exact hQ
  · rw [w_bi_t ⟨c, c2⟩] at hQ; exact hQ
def p_Model_sheet (_x1 : Int) (_x2 : Int) (_x3 : Int) (σ : w_M) : Prop := MI σ
def q_Model_sheet (x1 : Int) (x2 : Int) (x3 : Int) (σ : w_M) (x : Int) (σ' : w_M) : Prop := m_q (F_sheet (mS σ) x1 x2 x3) (G_sheet (mS σ) x1 x2 x3) σ x σ'
theorem f234_0 : w_fe am_c234 0 1 (.iload 1) := ⟨rfl, rfl⟩
theorem f234_1 : w_fe am_c234 1 2 (.iload 2) := ⟨rfl, rfl⟩
theorem f234_2 : w_fe am_c234 2 3 (.invokestatic 235) := ⟨rfl, rfl⟩
theorem f234_3 : w_if am_c234 3 4 .eq 7 := ⟨rfl, rfl⟩
theorem f234_4 : w_fe am_c234 4 5 (.iload 3) := ⟨rfl, rfl⟩
theorem f234_5 : w_fe am_c234 5 6 (.bipush 40) := ⟨rfl, rfl⟩
theorem f234_6 : w_ic am_c234 6 7 .le 9 := ⟨rfl, rfl⟩
theorem f234_7 : w_fe am_c234 7 8 (.bipush (-1)) := ⟨rfl, rfl⟩
theorem f234_8 : w_fe am_c234 8 9 (.ireturn) := ⟨rfl, rfl⟩
theorem f234_9 : w_fe am_c234 9 10 (.iload 3) := ⟨rfl, rfl⟩
theorem f234_10 : w_if am_c234 10 11 .ge 13 := ⟨rfl, rfl⟩
theorem f234_11 : w_fe am_c234 11 12 (.bipush (-14)) := ⟨rfl, rfl⟩
theorem f234_12 : w_fe am_c234 12 13 (.ireturn) := ⟨rfl, rfl⟩
theorem f234_13 : w_fe am_c234 13 14 (.aload 0) := ⟨rfl, rfl⟩
theorem f234_14 : w_fe am_c234 14 15 (.getfield 924) := ⟨rfl, rfl⟩
theorem f234_15 : w_fe am_c234 15 16 (.iload 1) := ⟨rfl, rfl⟩
theorem f234_16 : w_fe am_c234 16 17 (.iload 2) := ⟨rfl, rfl⟩
theorem f234_17 : w_fe am_c234 17 18 (.iastore) := ⟨rfl, rfl⟩
theorem f234_18 : w_fe am_c234 18 19 (.aload 0) := ⟨rfl, rfl⟩
theorem f234_19 : w_fe am_c234 19 20 (.getfield 925) := ⟨rfl, rfl⟩
theorem f234_20 : w_fe am_c234 20 21 (.iload 1) := ⟨rfl, rfl⟩
theorem f234_21 : w_fe am_c234 21 22 (.iload 3) := ⟨rfl, rfl⟩
theorem f234_22 : w_fe am_c234 22 23 (.iastore) := ⟨rfl, rfl⟩
theorem f234_23 : w_fe am_c234 23 24 (.bipush 0) := ⟨rfl, rfl⟩
theorem f234_24 : w_fe am_c234 24 25 (.istore 4) := ⟨rfl, rfl⟩
theorem f234_25 : w_fe am_c234 25 26 (.iload 4) := ⟨rfl, rfl⟩
theorem f234_26 : w_fe am_c234 26 27 (.bipush 40) := ⟨rfl, rfl⟩
theorem f234_27 : w_ic am_c234 27 28 .ge 39 := ⟨rfl, rfl⟩
theorem f234_28 : w_fe am_c234 28 29 (.aload 0) := ⟨rfl, rfl⟩
theorem f234_29 : w_fe am_c234 29 30 (.getfield 926) := ⟨rfl, rfl⟩
theorem f234_30 : w_fe am_c234 30 31 (.bipush 40) := ⟨rfl, rfl⟩
theorem f234_31 : w_fe am_c234 31 32 (.iload 1) := ⟨rfl, rfl⟩
theorem f234_32 : w_fe am_c234 32 33 (.imul) := ⟨rfl, rfl⟩
theorem f234_33 : w_fe am_c234 33 34 (.iload 4) := ⟨rfl, rfl⟩
theorem f234_34 : w_fe am_c234 34 35 (.iadd) := ⟨rfl, rfl⟩
theorem f234_35 : w_fe am_c234 35 36 (.bipush 0) := ⟨rfl, rfl⟩
theorem f234_36 : w_fe am_c234 36 37 (.iastore) := ⟨rfl, rfl⟩
theorem f234_37 : w_fe am_c234 37 38 (.iinc 4 1) := ⟨rfl, rfl⟩
theorem f234_38 : w_gt am_c234 38 25 := rfl
theorem f234_39 : w_fe am_c234 39 40 (.bipush 1) := ⟨rfl, rfl⟩
theorem f234_40 : w_fe am_c234 40 41 (.ireturn) := ⟨rfl, rfl⟩
def L234_25 (xs : List Int) (d : Nat) (Q : Option w_V → w_M → Prop) (v1 : Int) (v4 : Int) (σ : w_M) : Prop := ∀ l2, w_nl l2 → ∀ l3, w_nl l3 → w_Ex (xs, d) 1 am_c234 Q 25 [some (.inr (.inr (9, 122))), some (.inl v1), l2, l3, some (.inl v4)] [] σ
set_option maxRecDepth 20000 in
theorem b234_0 {xs : List Int} {d : Nat} {Q : Option w_V → w_M → Prop} {x1 : Int} {x2 : Int} {x3 : Int} {σ : w_M}
    (h : (¬ ((0 ≤ x1 ∧ x1 ≤ 3) ∧ ((0 : Int) ≤ x2 ∧ x2 ≤ (2 : Int))) → Q (some (.inl (-1))) σ) ∧ (((0 ≤ x1 ∧ x1 ≤ 3) ∧ ((0 : Int) ≤ x2 ∧ x2 ≤ (2 : Int))) → ((x3 ≤ 40 → ((0 ≤ x3 → (0 ≤ x1 ∧ x1 < 4 ∧ (∀ (τ1 : w_M), τ1 = w_up σ 130 x1.toNat x2 → ∀ (τ2 : w_M), τ2 = w_up τ1 131 x1.toNat x3 → L234_25 xs (d + 2) Q x1 0 τ2))) ∧ (x3 < 0 → Q (some (.inl (-14))) σ))) ∧ (40 < x3 → Q (some (.inl (-1))) σ)))) : w_Call (xs, (d + 2)) 234 [.inr (.inr (9, 122)), .inl x1, .inl x2, .inl x3] σ Q :=
  (w_mk (mid := 234) (by decide) rfl rfl rfl rfl rfl (Nat.le_of_ble_eq_true rfl) ⟨rfl, Or.inl (by decide)⟩ (wi_iload1 f234_0 (wi_iload2 f234_1 (wi_call2 f234_2 (Nat.le_of_ble_eq_true rfl) (k_Model_isSheet (wi_ifb_eq f234_3 (fun c5 => (wi_bipush f234_7 (wi_ret1 f234_8 (h.1 c5)))) (fun c5 => (wi_iload3 f234_4 (wi_bipush f234_5 (wi_ic_le f234_6 (fun c4 => (wi_iload3 f234_9 (wi_if_ge f234_10 (fun c3 => (wi_aload0 f234_13 (wi_getf924 f234_14 (wi_iload1 f234_15 (wi_iload2 f234_16 (wi_iast1004 f234_17 (((h.2 c5).1 c4).1 c3).1 (((h.2 c5).1 c4).1 c3).2.1 (wi_aload0 f234_18 (wi_getf925 f234_19 (wi_iload1 f234_20 (wi_iload3 f234_21 (wi_iast1004 f234_22 (((h.2 c5).1 c4).1 c3).1 (((h.2 c5).1 c4).1 c3).2.1 (wi_bipush f234_23 (wi_istore4 f234_24 trivial ((((((h.2 c5).1 c4).1 c3).2.2 _ rfl) _ rfl) _ (by exact trivial) _ (by exact trivial))))))))))))))) (fun c3 => (wi_bipush f234_11 (wi_ret1 f234_12 (((h.2 c5).1 c4).2 c3))))))) (fun c4 => (wi_bipush f234_7 (wi_ret1 f234_8 ((h.2 c5).2 c4))))))))))))))
set_option maxRecDepth 20000 in
theorem b234_25 {xs : List Int} {d : Nat} {Q : Option w_V → w_M → Prop} {v1 : Int} {v4 : Int} {σ : w_M}
    (h : (40 ≤ v4 → Q (some (.inl 1)) σ) ∧ (v4 < 40 → (w_in (40 * v1) ∧ w_in ((40 * v1) + v4) ∧ 0 ≤ ((40 * v1) + v4) ∧ ((40 * v1) + v4) < 160 ∧ (∀ (τ1 : w_M), τ1 = w_up σ 132 ((40 * v1) + v4).toNat 0 → (w_in (v4 + 1) ∧ L234_25 xs (d + 2) Q v1 (v4 + 1) τ1))))) : L234_25 xs (d + 2) Q v1 v4 σ :=
  fun l2 nl2 => fun l3 nl3 => (wi_iload4 f234_25 (wi_bipush f234_26 (wi_ic_ge f234_27 (fun c2 => (wi_bipush f234_39 (wi_ret1 f234_40 (h.1 c2)))) (fun c2 => (wi_aload0 f234_28 (wi_getf926 f234_29 (wi_bipush f234_30 (wi_iload1 f234_31 (wi_imul f234_32 (h.2 c2).1 (wi_iload4 f234_33 (wi_iadd f234_34 (h.2 c2).2.1 (wi_bipush f234_35 (wi_iast1160 f234_36 (h.2 c2).2.2.1 (h.2 c2).2.2.2.1 (wi_iinc4 f234_37 nl3 ((h.2 c2).2.2.2.2 _ rfl).1 (wi_goto f234_38 (((h.2 c2).2.2.2.2 _ rfl).2 _ nl2 _ nl3))))))))))))))))
theorem k_Model_sheet {xs : List Int} {d : Nat} {Q : Option w_V → w_M → Prop} {x1 : Int} {x2 : Int} {x3 : Int} {σ : w_M} (hp : p_Model_sheet x1 x2 x3 σ) (hQ : ∀ (x : Int) (σ' : w_M), q_Model_sheet x1 x2 x3 σ x σ' → Q (some (.inl x)) σ') : w_Call (xs, d + 2) 234 [.inr (.inr (9, 122)), .inl x1, .inl x2, .inl x3] σ Q := by
  have hM : MI σ := hp
  unfold q_Model_sheet at hQ
  have bad : ¬ P_sheet x1 x2 x3 → Q (some (.inl (-1))) σ := fun h => by
    have e1 : F_sheet (mS σ) x1 x2 x3 = -1 := if_neg h
    have e2 : G_sheet (mS σ) x1 x2 x3 = mS σ := if_neg (fun q => h q.1)
    rw [e1, e2] at hQ
    exact hQ _ _ (m_qr hM rfl)
  refine b234_0 ⟨fun c => bad (fun q => c q.1), fun c => ⟨fun c3 => ⟨fun c4 => ⟨c.1.1, by omega, fun τ1 t1 τ2 t2 => ?_⟩, fun c4 => ?_⟩, fun c3 => bad (fun q => by have := q.2; omega)⟩⟩
  · have hP : P_sheet x1 x2 x3 := ⟨c, c3⟩
    have e1 : F_sheet (mS σ) x1 x2 x3 = 1 := (if_pos hP).trans (if_neg (by omega))
    have e2 : G_sheet (mS σ) x1 x2 x3 = w_sp (mS σ) 4 (shNew (h_am σ) x1.toNat x2 x3) := if_pos ⟨hP, c4⟩
    rw [e1, e2] at hQ
    have hk4 : x1.toNat < 4 := by omega
    refine (w_loop (n := 40) (P := fun k => ∀ τ : w_M, w_f1 τ2 τ 132 → (∀ j, j < k → τ 132 (40 * x1.toNat + j) = 0) → (∀ x, x < 40 * x1.toNat ∨ 40 * x1.toNat + k ≤ x → τ 132 x = σ 132 x) → L234_25 xs (d + 2) Q x1 (k : Int) τ) ?_ ?_) τ2 w_f1.rfl' (fun j hj => by omega) (fun x hx => by rw [t2, w_up_ne (by decide), t1, w_up_ne (by decide)])
    · intro τ F h1 h2
      refine b234_25 ⟨fun _ => hQ _ _ (m_q4 hM (fun b hb => ?_) ?_ (shNew_WF hM.2.2.2.2.1 c.2 ⟨c4, c3⟩) rfl), fun h => by omega⟩
      · rw [F b (by omega), t2, w_up_ne (by omega), t1, w_up_ne (by omega)]
      · have z131 : τ 131 = w_up σ 131 x1.toNat x3 131 := by
          rw [F 131 (by decide), t2]
          funext j
          show (if 131 = 131 ∧ j = x1.toNat then x3 else τ1 131 j) = (if 131 = 131 ∧ j = x1.toNat then x3 else σ 131 j)
          rw [t1, w_up_ne (by decide)]
        have z130 : τ 130 = w_up σ 130 x1.toNat x2 130 := by rw [F 130 (by decide), t2, w_up_ne (by decide), t1]
        funext q j
        unfold shNew
        by_cases hq4 : q < 4
        · by_cases hqk : q = x1.toNat
          · rw [if_pos hqk]
            unfold h_am
            rw [if_pos hq4, z131, z130, hqk, w_up_at, w_up_at, if_neg (show ¬ x2 = -4 by omega), if_neg (show ¬ x3 < 0 by omega)]
            by_cases hj0 : j = 0
            · rw [if_pos hj0, if_pos hj0]
            · rw [if_neg hj0, if_neg hj0]
              by_cases hj1 : j = 1
              · rw [if_pos hj1, if_pos hj1]
              · rw [if_neg hj1, if_neg hj1]
                by_cases hj : j < 42
                · rw [if_pos hj, h1 (j - 2) (by omega)]
                · rw [if_neg hj]
          · rw [if_neg hqk]
            show h_am τ q j = h_am σ q j
            unfold h_am
            rw [z131, z130, w_up_j hqk, w_up_j hqk]
            by_cases hj : j < 42
            · rw [h2 (40 * q + (j - 2)) (by omega)]
            · rw [if_neg hj, if_neg hj]
        · rw [if_neg (by omega)]
          show h_am τ q j = h_am σ q j
          unfold h_am
          rw [if_neg hq4, if_neg hq4]
    · intro k hk ih τ F h1 h2
      refine b234_25 ⟨fun h => by omega, fun h => ⟨⟨by omega, by omega⟩, ⟨by omega, by omega⟩, by omega, by omega, fun τ3 t3 => ⟨⟨by omega, by omega⟩, ?_⟩⟩⟩
      rw [← w_cs1]
      have ea : (40 * x1 + (k : Int)).toNat = 40 * x1.toNat + k := by omega
      rw [ea] at t3
      refine ih τ3 (by rw [t3]; exact F.up) (fun j hj => ?_) (fun x hx => by rw [t3, w_up_j (by omega)]; exact h2 x (by omega))
      by_cases hjk : j = k
      · rw [hjk, t3, w_up_at]
      · rw [t3, w_up_j (by omega)]
        exact h1 j (by omega)
  · have hP : P_sheet x1 x2 x3 := ⟨c, c3⟩
    have e1 : F_sheet (mS σ) x1 x2 x3 = -14 := (if_pos hP).trans (if_pos c4)
    have e2 : G_sheet (mS σ) x1 x2 x3 = mS σ := if_neg (fun q => by have := q.2; omega)
    rw [e1, e2] at hQ
    exact hQ _ _ (m_qr hM rfl)
def p_Model_lay (_x1 : Int) (_x2 : Int) (_x3 : Int) (σ : w_M) : Prop := MI σ
def q_Model_lay (x1 : Int) (x2 : Int) (x3 : Int) (σ : w_M) (x : Int) (σ' : w_M) : Prop := m_q (F_lay (mS σ) x1 x2 x3) (G_lay (mS σ) x1 x2 x3) σ x σ'
theorem f236_0 : w_fe am_c236 0 1 (.iload 1) := ⟨rfl, rfl⟩
theorem f236_1 : w_fe am_c236 1 2 (.bipush 0) := ⟨rfl, rfl⟩
theorem f236_2 : w_fe am_c236 2 3 (.invokestatic 235) := ⟨rfl, rfl⟩
theorem f236_3 : w_if am_c236 3 4 .ne 6 := ⟨rfl, rfl⟩
theorem f236_4 : w_fe am_c236 4 5 (.bipush (-1)) := ⟨rfl, rfl⟩
theorem f236_5 : w_fe am_c236 5 6 (.ireturn) := ⟨rfl, rfl⟩
theorem f236_6 : w_fe am_c236 6 7 (.aload 0) := ⟨rfl, rfl⟩
theorem f236_7 : w_fe am_c236 7 8 (.getfield 924) := ⟨rfl, rfl⟩
theorem f236_8 : w_fe am_c236 8 9 (.iload 1) := ⟨rfl, rfl⟩
theorem f236_9 : w_fe am_c236 9 10 (.iaload) := ⟨rfl, rfl⟩
theorem f236_10 : w_fe am_c236 10 11 (.bipush (-4)) := ⟨rfl, rfl⟩
theorem f236_11 : w_ic am_c236 11 12 .ne 14 := ⟨rfl, rfl⟩
theorem f236_12 : w_fe am_c236 12 13 (.bipush (-11)) := ⟨rfl, rfl⟩
theorem f236_13 : w_fe am_c236 13 14 (.ireturn) := ⟨rfl, rfl⟩
theorem f236_14 : w_fe am_c236 14 15 (.iload 2) := ⟨rfl, rfl⟩
theorem f236_15 : w_fe am_c236 15 16 (.i2l) := ⟨rfl, rfl⟩
theorem f236_16 : w_fe am_c236 16 17 (.sipush 0) := ⟨rfl, rfl⟩
theorem f236_17 : w_fe am_c236 17 18 (.aload 0) := ⟨rfl, rfl⟩
theorem f236_18 : w_fe am_c236 18 19 (.getfield 925) := ⟨rfl, rfl⟩
theorem f236_19 : w_fe am_c236 19 20 (.iload 1) := ⟨rfl, rfl⟩
theorem f236_20 : w_fe am_c236 20 21 (.iaload) := ⟨rfl, rfl⟩
theorem f236_21 : w_fe am_c236 21 22 (.bipush 1) := ⟨rfl, rfl⟩
theorem f236_22 : w_fe am_c236 22 23 (.isub) := ⟨rfl, rfl⟩
theorem f236_23 : w_fe am_c236 23 24 (.i2l) := ⟨rfl, rfl⟩
theorem f236_24 : w_fe am_c236 24 25 (.invokestatic 158) := ⟨rfl, rfl⟩
theorem f236_25 : w_if am_c236 25 26 .ne 28 := ⟨rfl, rfl⟩
theorem f236_26 : w_fe am_c236 26 27 (.bipush (-12)) := ⟨rfl, rfl⟩
theorem f236_27 : w_fe am_c236 27 28 (.ireturn) := ⟨rfl, rfl⟩
theorem f236_28 : w_fe am_c236 28 29 (.aload 0) := ⟨rfl, rfl⟩
theorem f236_29 : w_fe am_c236 29 30 (.getfield 926) := ⟨rfl, rfl⟩
theorem f236_30 : w_fe am_c236 30 31 (.bipush 40) := ⟨rfl, rfl⟩
theorem f236_31 : w_fe am_c236 31 32 (.iload 1) := ⟨rfl, rfl⟩
theorem f236_32 : w_fe am_c236 32 33 (.imul) := ⟨rfl, rfl⟩
theorem f236_33 : w_fe am_c236 33 34 (.iload 2) := ⟨rfl, rfl⟩
theorem f236_34 : w_fe am_c236 34 35 (.iadd) := ⟨rfl, rfl⟩
theorem f236_35 : w_fe am_c236 35 36 (.aload 0) := ⟨rfl, rfl⟩
theorem f236_36 : w_fe am_c236 36 37 (.getfield 924) := ⟨rfl, rfl⟩
theorem f236_37 : w_fe am_c236 37 38 (.iload 1) := ⟨rfl, rfl⟩
theorem f236_38 : w_fe am_c236 38 39 (.iaload) := ⟨rfl, rfl⟩
theorem f236_39 : w_if am_c236 39 40 .ne 43 := ⟨rfl, rfl⟩
theorem f236_40 : w_fe am_c236 40 41 (.iload 3) := ⟨rfl, rfl⟩
theorem f236_41 : w_fe am_c236 41 42 (.i2b) := ⟨rfl, rfl⟩
theorem f236_42 : w_gt am_c236 42 53 := rfl
theorem f236_43 : w_fe am_c236 43 44 (.aload 0) := ⟨rfl, rfl⟩
theorem f236_44 : w_fe am_c236 44 45 (.getfield 924) := ⟨rfl, rfl⟩
theorem f236_45 : w_fe am_c236 45 46 (.iload 1) := ⟨rfl, rfl⟩
theorem f236_46 : w_fe am_c236 46 47 (.iaload) := ⟨rfl, rfl⟩
theorem f236_47 : w_fe am_c236 47 48 (.bipush 1) := ⟨rfl, rfl⟩
theorem f236_48 : w_ic am_c236 48 49 .ne 52 := ⟨rfl, rfl⟩
theorem f236_49 : w_fe am_c236 49 50 (.iload 3) := ⟨rfl, rfl⟩
theorem f236_50 : w_fe am_c236 50 51 (.i2s) := ⟨rfl, rfl⟩
theorem f236_51 : w_gt am_c236 51 53 := rfl
theorem f236_52 : w_fe am_c236 52 53 (.iload 3) := ⟨rfl, rfl⟩
theorem f236_53 : w_fe am_c236 53 54 (.iastore) := ⟨rfl, rfl⟩
theorem f236_54 : w_fe am_c236 54 55 (.bipush 1) := ⟨rfl, rfl⟩
theorem f236_55 : w_fe am_c236 55 56 (.ireturn) := ⟨rfl, rfl⟩
set_option maxRecDepth 20000 in
theorem b236_0 {xs : List Int} {d : Nat} {Q : Option w_V → w_M → Prop} {x1 : Int} {x2 : Int} {x3 : Int} {σ : w_M}
    (h : (((0 ≤ x1 ∧ x1 ≤ 3) ∧ ((0 : Int) ≤ 0 ∧ 0 ≤ (2 : Int))) → (0 ≤ x1 ∧ x1 < 4 ∧ ((¬ (σ 130 x1.toNat) = (-4) → (w_in ((σ 131 x1.toNat) - 1) ∧ (((0 ≤ x2 ∧ x2 ≤ ((σ 131 x1.toNat) - 1)) → (w_in (40 * x1) ∧ w_in ((40 * x1) + x2) ∧ ((¬ (σ 130 x1.toNat) = 0 → ((¬ (σ 130 x1.toNat) = 1 → (0 ≤ ((40 * x1) + x2) ∧ ((40 * x1) + x2) < 160 ∧ (∀ (τ1 : w_M), τ1 = w_up σ 132 ((40 * x1) + x2).toNat x3 → Q (some (.inl 1)) τ1))) ∧ ((σ 130 x1.toNat) = 1 → (0 ≤ ((40 * x1) + x2) ∧ ((40 * x1) + x2) < 160 ∧ (∀ (τ2 : w_M), τ2 = w_up σ 132 ((40 * x1) + x2).toNat (Int.bmod x3 65536) → Q (some (.inl 1)) τ2))))) ∧ ((σ 130 x1.toNat) = 0 → (0 ≤ ((40 * x1) + x2) ∧ ((40 * x1) + x2) < 160 ∧ (∀ (τ4 : w_M), τ4 = w_up σ 132 ((40 * x1) + x2).toNat (Int.bmod x3 256) → Q (some (.inl 1)) τ4)))))) ∧ (¬ (0 ≤ x2 ∧ x2 ≤ ((σ 131 x1.toNat) - 1)) → Q (some (.inl (-12))) σ)))) ∧ ((σ 130 x1.toNat) = (-4) → Q (some (.inl (-11))) σ)))) ∧ (¬ ((0 ≤ x1 ∧ x1 ≤ 3) ∧ ((0 : Int) ≤ 0 ∧ 0 ≤ (2 : Int))) → Q (some (.inl (-1))) σ)) : w_Call (xs, (d + 2)) 236 [.inr (.inr (9, 122)), .inl x1, .inl x2, .inl x3] σ Q :=
  (w_mk (mid := 236) (by decide) rfl rfl rfl rfl rfl (Nat.le_of_ble_eq_true rfl) ⟨rfl, Or.inl (by decide)⟩ (wi_iload1 f236_0 (wi_bipush f236_1 (wi_call2 f236_2 (Nat.le_of_ble_eq_true rfl) (k_Model_isSheet (wi_ifb_ne f236_3 (fun c8 => (wi_aload0 f236_6 (wi_getf924 f236_7 (wi_iload1 f236_8 (wi_iald1004 f236_9 (h.1 c8).1 (h.1 c8).2.1 (wi_bipush f236_10 (wi_ic_ne f236_11 (fun c7 => (wi_iload2 f236_14 (wi_i2l f236_15 (wi_sipush f236_16 (wi_aload0 f236_17 (wi_getf925 f236_18 (wi_iload1 f236_19 (wi_iald1004 f236_20 (h.1 c8).1 (h.1 c8).2.1 (wi_bipush f236_21 (wi_isub f236_22 ((h.1 c8).2.2.1 c7).1 (wi_i2l f236_23 (wi_call3 f236_24 (Nat.le_of_ble_eq_true rfl) (k_Model_in (wi_ifb_ne f236_25 (fun c6 => (wi_aload0 f236_28 (wi_getf926 f236_29 (wi_bipush f236_30 (wi_iload1 f236_31 (wi_imul f236_32 (((h.1 c8).2.2.1 c7).2.1 c6).1 (wi_iload2 f236_33 (wi_iadd f236_34 (((h.1 c8).2.2.1 c7).2.1 c6).2.1 (wi_aload0 f236_35 (wi_getf924 f236_36 (wi_iload1 f236_37 (wi_iald1004 f236_38 (h.1 c8).1 (h.1 c8).2.1 (wi_if_ne f236_39 (fun c5 => (wi_aload0 f236_43 (wi_getf924 f236_44 (wi_iload1 f236_45 (wi_iald1004 f236_46 (h.1 c8).1 (h.1 c8).2.1 (wi_bipush f236_47 (wi_ic_ne f236_48 (fun c3 => (wi_iload3 f236_52 (wi_iast1160 f236_53 (((((h.1 c8).2.2.1 c7).2.1 c6).2.2.1 c5).1 c3).1 (((((h.1 c8).2.2.1 c7).2.1 c6).2.2.1 c5).1 c3).2.1 (wi_bipush f236_54 (wi_ret1 f236_55 ((((((h.1 c8).2.2.1 c7).2.1 c6).2.2.1 c5).1 c3).2.2 _ rfl)))))) (fun c3 => (wi_iload3 f236_49 (wi_i2s f236_50 (wi_goto f236_51 (wi_iast1160 f236_53 (((((h.1 c8).2.2.1 c7).2.1 c6).2.2.1 c5).2 c3).1 (((((h.1 c8).2.2.1 c7).2.1 c6).2.2.1 c5).2 c3).2.1 (wi_bipush f236_54 (wi_ret1 f236_55 ((((((h.1 c8).2.2.1 c7).2.1 c6).2.2.1 c5).2 c3).2.2 _ rfl))))))))))))))) (fun c5 => (wi_iload3 f236_40 (wi_i2b f236_41 (wi_goto f236_42 (wi_iast1160 f236_53 ((((h.1 c8).2.2.1 c7).2.1 c6).2.2.2 c5).1 ((((h.1 c8).2.2.1 c7).2.1 c6).2.2.2 c5).2.1 (wi_bipush f236_54 (wi_ret1 f236_55 (((((h.1 c8).2.2.1 c7).2.1 c6).2.2.2 c5).2.2 _ rfl))))))))))))))))))))) (fun c6 => (wi_bipush f236_26 (wi_ret1 f236_27 (((h.1 c8).2.2.1 c7).2.2 c6)))))))))))))))))) (fun c7 => (wi_bipush f236_12 (wi_ret1 f236_13 ((h.1 c8).2.2.2 c7))))))))))) (fun c8 => (wi_bipush f236_4 (wi_ret1 f236_5 (h.2 c8))))))))))
theorem k_Model_lay {xs : List Int} {d : Nat} {Q : Option w_V → w_M → Prop} {x1 : Int} {x2 : Int} {x3 : Int} {σ : w_M} (hp : p_Model_lay x1 x2 x3 σ) (hQ : ∀ (x : Int) (σ' : w_M), q_Model_lay x1 x2 x3 σ x σ' → Q (some (.inl x)) σ') : w_Call (xs, d + 2) 236 [.inr (.inr (9, 122)), .inl x1, .inl x2, .inl x3] σ Q := by
  have hM : MI σ := hp
  unfold q_Model_lay F_lay G_lay at hQ
  have e4 : mS σ 4 = h_am σ := rfl
  rw [e4] at hQ
  refine b236_0 ⟨fun c => ⟨c.1.1, by omega, fun c2 => ?_, fun c2 => ?_⟩, fun c => ?_⟩
  · have h4 : x1.toNat < 4 := by omega
    obtain ⟨e0, e1, w0, w1, e2⟩ := h_am_yes hM h4 c2
    have hn : ¬ σ 131 x1.toNat = -4 := by omega
    rw [e0, if_pos c.1, if_neg hn] at hQ
    have fin : 0 ≤ x2 ∧ x2 < σ 131 x1.toNat → ∀ (v : Int) (τ : w_M), v = shVal (σ 130 x1.toNat) x3 → τ = w_up σ 132 (40 * x1 + x2).toNat v → Q (some (.inl 1)) τ := by
      intro h v τ hv t
      rw [show (40 * x1 + x2).toNat = 40 * x1.toNat + x2.toNat by omega] at t
      rw [if_pos h, if_pos ⟨c.1, hn, h⟩] at hQ
      refine hQ _ _ (m_q4 hM (fun b hb => by rw [t, w_up_ne (by omega)]) ?_ (shLay_WF hM.2.2.2.2.1) rfl)
      have f131 : τ 131 = σ 131 := by rw [t, w_up_ne (by decide)]
      have f130 : τ 130 = σ 130 := by rw [t, w_up_ne (by decide)]
      funext q j
      rw [w_up_eq]
      show _ = if q = x1.toNat ∧ j = 2 + x2.toNat then shVal (h_am σ x1.toNat 1) x3 else h_am σ q j
      rw [e1, ← hv]
      by_cases hq : q = x1.toNat ∧ j = 2 + x2.toNat
      · rw [if_pos hq, hq.1, hq.2]
        unfold h_am
        rw [f130, if_pos h4, if_neg c2, if_neg (by omega), if_neg (by omega), if_pos (by omega), show 2 + x2.toNat - 2 = x2.toNat by omega, t, w_up_at]
      · rw [if_neg hq]
        unfold h_am
        rw [f131, f130]
        by_cases hj0 : j = 0
        · rw [hj0]; rfl
        · by_cases hj1 : j = 1
          · rw [hj1]; rfl
          · by_cases hj : j < 42
            · by_cases hq4 : q < 4
              · rw [t, w_up_j (show 40 * q + (j - 2) ≠ 40 * x1.toNat + x2.toNat by omega)]
              · rw [if_neg hq4, if_neg hq4]
            · rw [if_neg hj, if_neg hj]
    refine ⟨⟨by omega, by omega⟩, fun c3 => ⟨⟨by omega, by omega⟩, ⟨by omega, by omega⟩, fun c4 => ⟨fun c5 => ⟨by omega, by omega, fun τ t => fin (by omega) _ _ ?_ t⟩, fun c5 => ⟨by omega, by omega, fun τ t => fin (by omega) _ _ ?_ t⟩⟩, fun c4 => ⟨by omega, by omega, fun τ t => fin (by omega) _ _ ?_ t⟩⟩, fun c3 => ?_⟩
    · unfold shVal; rw [if_neg c4, if_neg c5]
    · unfold shVal; rw [if_neg c4, if_pos c5]
    · unfold shVal; rw [if_pos c4]
    · rw [if_neg (by omega), if_neg (fun q => c3 (by have := q.2.2; omega))] at hQ
      exact hQ _ _ (m_qr hM rfl)
  · have h4 : x1.toNat < 4 := by omega
    have hn := h_am_no h4 c2
    rw [if_pos c.1, if_pos hn, if_neg (fun q => q.2.1 hn)] at hQ
    exact hQ _ _ (m_qr hM rfl)
  · have c1 : ¬ (0 ≤ x1 ∧ x1 ≤ 3) := fun q => c ⟨q, by decide⟩
    rw [if_neg c1, if_neg (fun q => c1 q.1)] at hQ
    exact hQ _ _ (m_qr hM rfl)
def p_Model_count (_x1 : Int) (σ : w_M) : Prop := MI σ
def q_Model_count (x1 : Int) (σ : w_M) (x : Int) (σ' : w_M) : Prop := m_q (F_count (mS σ) x1) (mS σ) σ x σ'
def w_c239 : List Instr := [.bipush 0, .istore 2, .bipush 0, .istore 3, .bipush 0, .istore 4, .aload 0, .invokestatic 175, .bipush 0, .istore 5, .iload 5, .aload 0, .getfield 904, .if_icmp .ge 30, .iload 2, .aload 0, .getfield 900, .bipush 0, .iload 5, .iadd, .iaload, .ifCond .le 24, .bipush 1, .goto 25, .bipush 0, .invokestatic 180, .iadd, .istore 2, .iinc 5 1, .goto 10, .bipush 0, .istore 5, .iload 5, .aload 0, .getfield 905, .if_icmp .ge 52, .iload 3, .aload 0, .iload 5, .bipush 4, .invokestatic 179, .fadd, .istore 3, .iload 4, .aload 0, .iload 5, .bipush 1, .invokestatic 179, .iadd, .istore 4, .iinc 5 1, .goto 32, .iload 1, .tableswitch 98 0 7 #[54, 56, 58, 60, 65, 70, 82, 85], .iload 2, .ireturn, .iload 3, .ireturn, .iload 4, .ireturn, .aload 0, .getfield 900, .bipush 48, .iaload, .ireturn, .aload 0, .getfield 900, .bipush 73, .iaload, .ireturn, .aload 0, .getfield 902, .bipush 0, .baload, .invokestatic 180, .aload 0, .getfield 902, .bipush 1, .baload, .invokestatic 180, .iadd, .ireturn, .aload 0, .getfield 915, .ireturn, .aload 0, .getfield 924, .bipush 0, .iaload, .bipush (-4), .if_icmp .ne 93, .bipush (-4), .goto 97, .aload 0, .getfield 925, .bipush 0, .iaload, .ireturn, .bipush (-1), .ireturn]
theorem f239_0 : w_fe w_c239 0 1 (.bipush 0) := ⟨rfl, rfl⟩
theorem f239_1 : w_fe w_c239 1 2 (.istore 2) := ⟨rfl, rfl⟩
theorem f239_2 : w_fe w_c239 2 3 (.bipush 0) := ⟨rfl, rfl⟩
theorem f239_3 : w_fe w_c239 3 4 (.istore 3) := ⟨rfl, rfl⟩
theorem f239_4 : w_fe w_c239 4 5 (.bipush 0) := ⟨rfl, rfl⟩
theorem f239_5 : w_fe w_c239 5 6 (.istore 4) := ⟨rfl, rfl⟩
theorem f239_6 : w_fe w_c239 6 7 (.aload 0) := ⟨rfl, rfl⟩
theorem f239_7 : w_fe w_c239 7 8 (.invokestatic 175) := ⟨rfl, rfl⟩
theorem f239_8 : w_fe w_c239 8 9 (.bipush 0) := ⟨rfl, rfl⟩
theorem f239_9 : w_fe w_c239 9 10 (.istore 5) := ⟨rfl, rfl⟩
theorem f239_10 : w_fe w_c239 10 11 (.iload 5) := ⟨rfl, rfl⟩
theorem f239_11 : w_fe w_c239 11 12 (.aload 0) := ⟨rfl, rfl⟩
theorem f239_12 : w_fe w_c239 12 13 (.getfield 904) := ⟨rfl, rfl⟩
theorem f239_13 : w_ic w_c239 13 14 .ge 30 := ⟨rfl, rfl⟩
theorem f239_14 : w_fe w_c239 14 15 (.iload 2) := ⟨rfl, rfl⟩
theorem f239_15 : w_fe w_c239 15 16 (.aload 0) := ⟨rfl, rfl⟩
theorem f239_16 : w_fe w_c239 16 17 (.getfield 900) := ⟨rfl, rfl⟩
theorem f239_17 : w_fe w_c239 17 18 (.bipush 0) := ⟨rfl, rfl⟩
theorem f239_18 : w_fe w_c239 18 19 (.iload 5) := ⟨rfl, rfl⟩
theorem f239_19 : w_fe w_c239 19 20 (.iadd) := ⟨rfl, rfl⟩
theorem f239_20 : w_fe w_c239 20 21 (.iaload) := ⟨rfl, rfl⟩
theorem f239_21 : w_if w_c239 21 22 .le 24 := ⟨rfl, rfl⟩
theorem f239_22 : w_fe w_c239 22 23 (.bipush 1) := ⟨rfl, rfl⟩
theorem f239_23 : w_gt w_c239 23 25 := rfl
theorem f239_24 : w_fe w_c239 24 25 (.bipush 0) := ⟨rfl, rfl⟩
theorem f239_25 : w_fe w_c239 25 26 (.invokestatic 180) := ⟨rfl, rfl⟩
theorem f239_26 : w_fe w_c239 26 27 (.iadd) := ⟨rfl, rfl⟩
theorem f239_27 : w_fe w_c239 27 28 (.istore 2) := ⟨rfl, rfl⟩
theorem f239_28 : w_fe w_c239 28 29 (.iinc 5 1) := ⟨rfl, rfl⟩
theorem f239_29 : w_gt w_c239 29 10 := rfl
theorem f239_30 : w_fe w_c239 30 31 (.bipush 0) := ⟨rfl, rfl⟩
theorem f239_31 : w_fe w_c239 31 32 (.istore 5) := ⟨rfl, rfl⟩
theorem f239_32 : w_fe w_c239 32 33 (.iload 5) := ⟨rfl, rfl⟩
theorem f239_33 : w_fe w_c239 33 34 (.aload 0) := ⟨rfl, rfl⟩
theorem f239_34 : w_fe w_c239 34 35 (.getfield 905) := ⟨rfl, rfl⟩
theorem f239_35 : w_ic w_c239 35 36 .ge 52 := ⟨rfl, rfl⟩
theorem f239_36 : w_fe w_c239 36 37 (.iload 3) := ⟨rfl, rfl⟩
theorem f239_37 : w_fe w_c239 37 38 (.aload 0) := ⟨rfl, rfl⟩
theorem f239_38 : w_fe w_c239 38 39 (.iload 5) := ⟨rfl, rfl⟩
theorem f239_39 : w_fe w_c239 39 40 (.bipush 4) := ⟨rfl, rfl⟩
theorem f239_40 : w_fe w_c239 40 41 (.invokestatic 179) := ⟨rfl, rfl⟩
theorem f239_41 : w_fe w_c239 41 42 (.fadd) := ⟨rfl, rfl⟩
theorem f239_42 : w_fe w_c239 42 43 (.istore 3) := ⟨rfl, rfl⟩
theorem f239_43 : w_fe w_c239 43 44 (.iload 4) := ⟨rfl, rfl⟩
theorem f239_44 : w_fe w_c239 44 45 (.aload 0) := ⟨rfl, rfl⟩
theorem f239_45 : w_fe w_c239 45 46 (.iload 5) := ⟨rfl, rfl⟩
theorem f239_46 : w_fe w_c239 46 47 (.bipush 1) := ⟨rfl, rfl⟩
theorem f239_47 : w_fe w_c239 47 48 (.invokestatic 179) := ⟨rfl, rfl⟩
theorem f239_48 : w_fe w_c239 48 49 (.iadd) := ⟨rfl, rfl⟩
theorem f239_49 : w_fe w_c239 49 50 (.istore 4) := ⟨rfl, rfl⟩
theorem f239_50 : w_fe w_c239 50 51 (.iinc 5 1) := ⟨rfl, rfl⟩
theorem f239_51 : w_gt w_c239 51 32 := rfl
theorem f239_52 : w_fe w_c239 52 53 (.iload 1) := ⟨rfl, rfl⟩
theorem f239_53 {E : w_C} {rt : Nat} {Q : Option w_V → w_M → Prop} {ls : w_L} {st : List w_V} {σ : w_M} {x : Int} (h0 : x = 0 → w_Ex E rt w_c239 Q 54 ls st σ) (h1 : x = 1 → w_Ex E rt w_c239 Q 56 ls st σ) (h2 : x = 2 → w_Ex E rt w_c239 Q 58 ls st σ) (h3 : x = 3 → w_Ex E rt w_c239 Q 60 ls st σ) (h4 : x = 4 → w_Ex E rt w_c239 Q 65 ls st σ) (h5 : x = 5 → w_Ex E rt w_c239 Q 70 ls st σ) (h6 : x = 6 → w_Ex E rt w_c239 Q 82 ls st σ) (h7 : x = 7 → w_Ex E rt w_c239 Q 85 ls st σ) (hd : x < 0 ∨ 7 < x → w_Ex E rt w_c239 Q 98 ls st σ) : w_Ex E rt w_c239 Q 53 ls (.inl x :: st) σ :=
  w_Ex_in (op := .tableswitch 98 0 7 #[54, 56, 58, 60, 65, 70, 82, 85]) rfl ⟨rfl, hd, And.intro h0 (And.intro h1 (And.intro h2 (And.intro h3 (And.intro h4 (And.intro h5 (And.intro h6 (And.intro h7 ( trivial))))))))⟩
theorem f239_54 : w_fe w_c239 54 55 (.iload 2) := ⟨rfl, rfl⟩
theorem f239_55 : w_fe w_c239 55 56 (.ireturn) := ⟨rfl, rfl⟩
theorem f239_56 : w_fe w_c239 56 57 (.iload 3) := ⟨rfl, rfl⟩
theorem f239_57 : w_fe w_c239 57 58 (.ireturn) := ⟨rfl, rfl⟩
theorem f239_58 : w_fe w_c239 58 59 (.iload 4) := ⟨rfl, rfl⟩
theorem f239_59 : w_fe w_c239 59 60 (.ireturn) := ⟨rfl, rfl⟩
theorem f239_60 : w_fe w_c239 60 61 (.aload 0) := ⟨rfl, rfl⟩
theorem f239_61 : w_fe w_c239 61 62 (.getfield 900) := ⟨rfl, rfl⟩
theorem f239_62 : w_fe w_c239 62 63 (.bipush 48) := ⟨rfl, rfl⟩
theorem f239_63 : w_fe w_c239 63 64 (.iaload) := ⟨rfl, rfl⟩
theorem f239_64 : w_fe w_c239 64 65 (.ireturn) := ⟨rfl, rfl⟩
theorem f239_65 : w_fe w_c239 65 66 (.aload 0) := ⟨rfl, rfl⟩
theorem f239_66 : w_fe w_c239 66 67 (.getfield 900) := ⟨rfl, rfl⟩
theorem f239_67 : w_fe w_c239 67 68 (.bipush 73) := ⟨rfl, rfl⟩
theorem f239_68 : w_fe w_c239 68 69 (.iaload) := ⟨rfl, rfl⟩
theorem f239_69 : w_fe w_c239 69 70 (.ireturn) := ⟨rfl, rfl⟩
theorem f239_70 : w_fe w_c239 70 71 (.aload 0) := ⟨rfl, rfl⟩
theorem f239_71 : w_fe w_c239 71 72 (.getfield 902) := ⟨rfl, rfl⟩
theorem f239_72 : w_fe w_c239 72 73 (.bipush 0) := ⟨rfl, rfl⟩
theorem f239_73 : w_fe w_c239 73 74 (.baload) := ⟨rfl, rfl⟩
theorem f239_74 : w_fe w_c239 74 75 (.invokestatic 180) := ⟨rfl, rfl⟩
theorem f239_75 : w_fe w_c239 75 76 (.aload 0) := ⟨rfl, rfl⟩
theorem f239_76 : w_fe w_c239 76 77 (.getfield 902) := ⟨rfl, rfl⟩
theorem f239_77 : w_fe w_c239 77 78 (.bipush 1) := ⟨rfl, rfl⟩
theorem f239_78 : w_fe w_c239 78 79 (.baload) := ⟨rfl, rfl⟩
theorem f239_79 : w_fe w_c239 79 80 (.invokestatic 180) := ⟨rfl, rfl⟩
theorem f239_80 : w_fe w_c239 80 81 (.iadd) := ⟨rfl, rfl⟩
theorem f239_81 : w_fe w_c239 81 82 (.ireturn) := ⟨rfl, rfl⟩
theorem f239_82 : w_fe w_c239 82 83 (.aload 0) := ⟨rfl, rfl⟩
theorem f239_83 : w_fe w_c239 83 84 (.getfield 915) := ⟨rfl, rfl⟩
theorem f239_84 : w_fe w_c239 84 85 (.ireturn) := ⟨rfl, rfl⟩
theorem f239_85 : w_fe w_c239 85 86 (.aload 0) := ⟨rfl, rfl⟩
theorem f239_86 : w_fe w_c239 86 87 (.getfield 924) := ⟨rfl, rfl⟩
theorem f239_87 : w_fe w_c239 87 88 (.bipush 0) := ⟨rfl, rfl⟩
theorem f239_88 : w_fe w_c239 88 89 (.iaload) := ⟨rfl, rfl⟩
theorem f239_89 : w_fe w_c239 89 90 (.bipush (-4)) := ⟨rfl, rfl⟩
theorem f239_90 : w_ic w_c239 90 91 .ne 93 := ⟨rfl, rfl⟩
theorem f239_91 : w_fe w_c239 91 92 (.bipush (-4)) := ⟨rfl, rfl⟩
theorem f239_92 : w_gt w_c239 92 97 := rfl
theorem f239_93 : w_fe w_c239 93 94 (.aload 0) := ⟨rfl, rfl⟩
theorem f239_94 : w_fe w_c239 94 95 (.getfield 925) := ⟨rfl, rfl⟩
theorem f239_95 : w_fe w_c239 95 96 (.bipush 0) := ⟨rfl, rfl⟩
theorem f239_96 : w_fe w_c239 96 97 (.iaload) := ⟨rfl, rfl⟩
theorem f239_97 : w_fe w_c239 97 98 (.ireturn) := ⟨rfl, rfl⟩
theorem f239_98 : w_fe w_c239 98 99 (.bipush (-1)) := ⟨rfl, rfl⟩
theorem f239_99 : w_fe w_c239 99 100 (.ireturn) := ⟨rfl, rfl⟩
def L239_10 (xs : List Int) (d : Nat) (Q : Option w_V → w_M → Prop) (v1 : Int) (v2 : Int) (v3 : Int) (v4 : Int) (v5 : Int) (σ : w_M) : Prop := w_Ex (xs, d) 1 w_c239 Q 10 [some (.inr (.inr (9, 122))), some (.inl v1), some (.inl v2), some (.inl v3), some (.inl v4), some (.inl v5)] [] σ
def L239_32 (xs : List Int) (d : Nat) (Q : Option w_V → w_M → Prop) (v1 : Int) (v2 : Int) (v3 : Int) (v4 : Int) (v5 : Int) (σ : w_M) : Prop := w_Ex (xs, d) 1 w_c239 Q 32 [some (.inr (.inr (9, 122))), some (.inl v1), some (.inl v2), some (.inl v3), some (.inl v4), some (.inl v5)] [] σ
set_option maxRecDepth 20000 in
theorem b239_0 {xs : List Int} {d : Nat} {Q : Option w_V → w_M → Prop} {x1 : Int} {σ : w_M}
    (h : p_Model_starts σ ∧ (∀ (τ1 : w_M), q_Model_starts σ τ1 → L239_10 xs (d + 1) Q x1 0 0 0 0 τ1)) : w_Call (xs, (d + 1)) 239 [.inr (.inr (9, 122)), .inl x1] σ Q :=
  (w_mk (mid := 239) (by decide) rfl rfl rfl rfl rfl (Nat.le_of_ble_eq_true rfl) ⟨rfl, Or.inl (by decide)⟩ (wi_bipush f239_0 (wi_istore2 f239_1 trivial (wi_bipush f239_2 (wi_istore3 f239_3 trivial (wi_bipush f239_4 (wi_istore4 f239_5 trivial (wi_aload0 f239_6 (wi_call1 f239_7 (Nat.le_of_ble_eq_true rfl) (k_Model_starts h.1 (fun τ1 eτ1 => (wi_bipush f239_8 (wi_istore5 f239_9 trivial (h.2 τ1 eτ1))))))))))))))
set_option maxRecDepth 20000 in
theorem b239_10 {xs : List Int} {d : Nat} {Q : Option w_V → w_M → Prop} {v1 : Int} {v2 : Int} {v3 : Int} {v4 : Int} {v5 : Int} {σ : w_M}
    (h : ((σ 122 4) ≤ v5 → L239_32 xs (d + 1) Q v1 v2 v3 v4 0 σ) ∧ (v5 < (σ 122 4) → (w_in (0 + v5) ∧ 0 ≤ (0 + v5) ∧ (0 + v5) < 246 ∧ (((σ 123 (0 + v5).toNat) ≤ 0 → (w_in (v2 + 0) ∧ (∀ (y1 : Int), y1 = (v2 + 0) → (w_in (v5 + 1) ∧ L239_10 xs (d + 1) Q v1 y1 v3 v4 (v5 + 1) σ)))) ∧ (0 < (σ 123 (0 + v5).toNat) → (w_in (v2 + 1) ∧ (∀ (y2 : Int), y2 = (v2 + 1) → (w_in (v5 + 1) ∧ L239_10 xs (d + 1) Q v1 y2 v3 v4 (v5 + 1) σ)))))))) : L239_10 xs (d + 1) Q v1 v2 v3 v4 v5 σ :=
  (wi_iload5 f239_10 (wi_aload0 f239_11 (wi_getf904 f239_12 (wi_ic_ge f239_13 (fun c4 => (wi_bipush f239_30 (wi_istore5 f239_31 trivial (h.1 c4)))) (fun c4 => (wi_iload2 f239_14 (wi_aload0 f239_15 (wi_getf900 f239_16 (wi_bipush f239_17 (wi_iload5 f239_18 (wi_iadd f239_19 (h.2 c4).1 (wi_iald1246 f239_20 (h.2 c4).2.1 (h.2 c4).2.2.1 (wi_if_le f239_21 (fun c3 => (wi_bipush f239_24 (wi_call1 f239_25 (Nat.le_of_ble_eq_true rfl) (k_Model_flag (wi_iadd f239_26 ((h.2 c4).2.2.2.1 c3).1 (wi_istore2 f239_27 trivial (wi_iinc5 f239_28 trivial (((h.2 c4).2.2.2.1 c3).2 _ rfl).1 (wi_goto f239_29 (((h.2 c4).2.2.2.1 c3).2 _ rfl).2)))))))) (fun c3 => (wi_bipush f239_22 (wi_goto f239_23 (wi_call1 f239_25 (Nat.le_of_ble_eq_true rfl) (k_Model_flag (wi_iadd f239_26 ((h.2 c4).2.2.2.2 c3).1 (wi_istore2 f239_27 trivial (wi_iinc5 f239_28 trivial (((h.2 c4).2.2.2.2 c3).2 _ rfl).1 (wi_goto f239_29 (((h.2 c4).2.2.2.2 c3).2 _ rfl).2))))))))))))))))))))))
set_option maxRecDepth 20000 in
theorem b239_32 {xs : List Int} {d : Nat} {Q : Option w_V → w_M → Prop} {v1 : Int} {v2 : Int} {v3 : Int} {v4 : Int} {v5 : Int} {σ : w_M}
    (h : ((σ 122 5) ≤ v5 → ((v1 = 0 → Q (some (.inl v2)) σ) ∧ (v1 = 1 → Q (some (.inl v3)) σ) ∧ (v1 = 2 → Q (some (.inl v4)) σ) ∧ (v1 = 3 → Q (some (.inl (σ 123 48))) σ) ∧ (v1 = 4 → Q (some (.inl (σ 123 73))) σ) ∧ (v1 = 5 → ∀ (y1 : Int), y1 = v_Model_flag (σ 125 0) → ∀ (y2 : Int), y2 = v_Model_flag (σ 125 1) → (w_in (y1 + y2) ∧ Q (some (.inl (y1 + y2))) σ)) ∧ (v1 = 6 → Q (some (.inl (σ 122 15))) σ) ∧ (v1 = 7 → ((¬ (σ 130 0) = (-4) → Q (some (.inl (σ 131 0))) σ) ∧ ((σ 130 0) = (-4) → Q (some (.inl (-4))) σ))) ∧ (v1 < 0 ∨ 7 < v1 → Q (some (.inl (-1))) σ))) ∧ (v5 < (σ 122 5) → (p_Model_of v5 4 σ ∧ (∀ (y4 : Int), y4 = (w_wr (v3 + (σ 124 (21 + 5 * v5 + 4).toNat))) → (p_Model_of v5 1 σ ∧ w_in (v4 + (σ 124 (21 + 5 * v5 + 1).toNat)) ∧ (∀ (y5 : Int), y5 = (v4 + (σ 124 (21 + 5 * v5 + 1).toNat)) → (w_in (v5 + 1) ∧ L239_32 xs (d + 1) Q v1 v2 y4 y5 (v5 + 1) σ))))))) : L239_32 xs (d + 1) Q v1 v2 v3 v4 v5 σ :=
  (wi_iload5 f239_32 (wi_aload0 f239_33 (wi_getf905 f239_34 (wi_ic_ge f239_35 (fun c6 => (wi_iload1 f239_52 (f239_53 (fun c => (wi_iload2 f239_54 (wi_ret1 f239_55 ((h.1 c6).1 c)))) (fun c => (wi_iload3 f239_56 (wi_ret1 f239_57 ((h.1 c6).2.1 c)))) (fun c => (wi_iload4 f239_58 (wi_ret1 f239_59 ((h.1 c6).2.2.1 c)))) (fun c => (wi_aload0 f239_60 (wi_getf900 f239_61 (wi_bipush f239_62 (wi_iald1246 f239_63 (by decide) (by decide) (wi_ret1 f239_64 ((h.1 c6).2.2.2.1 c))))))) (fun c => (wi_aload0 f239_65 (wi_getf900 f239_66 (wi_bipush f239_67 (wi_iald1246 f239_68 (by decide) (by decide) (wi_ret1 f239_69 ((h.1 c6).2.2.2.2.1 c))))))) (fun c => (wi_aload0 f239_70 (wi_getf902 f239_71 (wi_bipush f239_72 (wi_bald3002 f239_73 (by decide) (by decide) (wi_call1 f239_74 (Nat.le_of_ble_eq_true rfl) (k_Model_flag (wi_aload0 f239_75 (wi_getf902 f239_76 (wi_bipush f239_77 (wi_bald3002 f239_78 (by decide) (by decide) (wi_call1 f239_79 (Nat.le_of_ble_eq_true rfl) (k_Model_flag (wi_iadd f239_80 ((((h.1 c6).2.2.2.2.2.1 c) _ rfl) _ rfl).1 (wi_ret1 f239_81 ((((h.1 c6).2.2.2.2.2.1 c) _ rfl) _ rfl).2))))))))))))))) (fun c => (wi_aload0 f239_82 (wi_getf915 f239_83 (wi_ret1 f239_84 ((h.1 c6).2.2.2.2.2.2.1 c))))) (fun c => (wi_aload0 f239_85 (wi_getf924 f239_86 (wi_bipush f239_87 (wi_iald1004 f239_88 (by decide) (by decide) (wi_bipush f239_89 (wi_ic_ne f239_90 (fun c3 => (wi_aload0 f239_93 (wi_getf925 f239_94 (wi_bipush f239_95 (wi_iald1004 f239_96 (by decide) (by decide) (wi_ret1 f239_97 (((h.1 c6).2.2.2.2.2.2.2.1 c).1 c3))))))) (fun c3 => (wi_bipush f239_91 (wi_goto f239_92 (wi_ret1 f239_97 (((h.1 c6).2.2.2.2.2.2.2.1 c).2 c3)))))))))))) (fun c => (wi_bipush f239_98 (wi_ret1 f239_99 ((h.1 c6).2.2.2.2.2.2.2.2 c))))))) (fun c6 => (wi_iload3 f239_36 (wi_aload0 f239_37 (wi_iload5 f239_38 (wi_bipush f239_39 (wi_call3 f239_40 (Nat.le_of_ble_eq_true rfl) (k_Model_of (h.2 c6).1 (wi_fadd f239_41 (wi_istore3 f239_42 trivial (wi_iload4 f239_43 (wi_aload0 f239_44 (wi_iload5 f239_45 (wi_bipush f239_46 (wi_call3 f239_47 (Nat.le_of_ble_eq_true rfl) (k_Model_of ((h.2 c6).2 _ rfl).1 (wi_iadd f239_48 ((h.2 c6).2 _ rfl).2.1 (wi_istore4 f239_49 trivial (wi_iinc5 f239_50 trivial (((h.2 c6).2 _ rfl).2.2 _ rfl).1 (wi_goto f239_51 (((h.2 c6).2 _ rfl).2.2 _ rfl).2)))))))))))))))))))))))
theorem k_Model_count {xs : List Int} {d : Nat} {Q : Option w_V → w_M → Prop} {x1 : Int} {σ : w_M} (hp : p_Model_count x1 σ) (hQ : ∀ (x : Int) (σ' : w_M), q_Model_count x1 σ x σ' → Q (some (.inl x)) σ') : w_Call (xs, d + 1) 239 [.inr (.inr (9, 122)), .inl x1] σ Q := by
  have hM : MI σ := hp
  have hok : n_WF (w_am σ 123 0) := hM.ok
  have hs := hM.s
  have hnn := hM.n
  unfold q_Model_count F_count at hQ
  refine b239_0 ⟨hM.sm, fun τ hq => ?_⟩
  obtain ⟨q1, F, q3⟩ := hq
  have z : ∀ b, b ≠ 124 → τ b = σ b := fun b hb => F b hb
  have z4 : τ 122 4 = σ 122 4 := by rw [z 122 (by decide)]
  have z5 : τ 122 5 = σ 122 5 := by rw [z 122 (by decide)]
  refine w_loop (n := (σ 122 4).toNat) (P := fun i => L239_10 xs (d + 1) Q x1 (f_sum (fun i => if 0 < w_am σ 123 0 1 i then 1 else 0) i) 0 0 (i : Int) τ) ?_ ?_
  · refine b239_10 ⟨fun _ => ?_, fun h => by omega⟩
    refine w_loop (n := (σ 122 5).toNat) (P := fun i => L239_32 xs (d + 1) Q x1 (n_swy (w_am σ 123 0)) (f_ws (w_am σ 123 0 7) i) (f_sum (w_am σ 123 0 4) i) (i : Int) τ) ?_ ?_
    · refine b239_32 ⟨fun _ => ⟨fun c => ?_, fun c => ?_, fun c => ?_, fun c => ?_, fun c => ?_, fun c => fun y1 ey1 y2 ey2 => ?_, fun c => ?_, fun c => ⟨fun c2 => ?_, fun c2 => ?_⟩, fun c => ?_⟩, fun h => by omega⟩
      · rw [if_pos c] at hQ; exact hQ _ _ (m_qs hM F rfl)
      · rw [if_neg (by omega), if_pos c] at hQ; exact hQ _ _ (m_qs hM F rfl)
      · rw [if_neg (by omega), if_neg (by omega), if_pos c] at hQ; exact hQ _ _ (m_qs hM F rfl)
      · rw [if_neg (by omega), if_neg (by omega), if_neg (by omega), if_pos c] at hQ; exact hQ _ _ (m_qs hM F (by rw [z 123 (by decide)]; rfl))
      · rw [if_neg (by omega), if_neg (by omega), if_neg (by omega), if_neg (by omega), if_pos c] at hQ; exact hQ _ _ (m_qs hM F (by rw [z 123 (by decide)]; rfl))
      · rw [if_neg (by omega), if_neg (by omega), if_neg (by omega), if_neg (by omega), if_neg (by omega), if_pos c] at hQ
        have k0 := hM.k01 (k := 0) (Or.inl rfl)
        have k1 := hM.k01 (k := 1) (Or.inr rfl)
        rw [z 125 (by decide)] at ey1 ey2
        have f0 : y1 = σ 125 0 := by rw [ey1]; unfold v_Model_flag; rcases k0 with h | h <;> rw [h] <;> rfl
        have f1 : y2 = σ 125 1 := by rw [ey2]; unfold v_Model_flag; rcases k1 with h | h <;> rw [h] <;> rfl
        refine ⟨⟨by omega, by omega⟩, hQ _ _ (m_qs hM F ?_)⟩
        rw [mS_11 (by decide), mS_11 (by decide), f0, f1]
      · rw [if_neg (by omega), if_neg (by omega), if_neg (by omega), if_neg (by omega), if_neg (by omega), if_neg (by omega), if_pos c] at hQ; exact hQ _ _ (m_qs hM F (by rw [z 122 (by decide)]; rfl))
      · rw [if_neg (by omega), if_neg (by omega), if_neg (by omega), if_neg (by omega), if_neg (by omega), if_neg (by omega), if_neg (by omega), if_pos c] at hQ
        rw [z 130 (by decide)] at c2
        refine hQ _ _ (m_qs hM F ?_)
        show _ = h_am σ 0 0
        rw [(h_am_yes hM (by decide) c2).1, z 131 (by decide)]
      · rw [if_neg (by omega), if_neg (by omega), if_neg (by omega), if_neg (by omega), if_neg (by omega), if_neg (by omega), if_neg (by omega), if_pos c] at hQ
        rw [z 130 (by decide)] at c2
        exact hQ _ _ (m_qs hM F (h_am_no (by decide) c2).symm)
      · rw [if_neg (by omega), if_neg (by omega), if_neg (by omega), if_neg (by omega), if_neg (by omega), if_neg (by omega), if_neg (by omega), if_neg (by omega)] at hQ; exact hQ _ _ (m_qs hM F rfl)
    · intro i hi ih
      have hrl : ∀ d, 3 ≤ d → d ≤ 7 → m_rl σ d = (σ 122 5).toNat := fun d h1 h2 => by
        unfold m_rl
        rw [if_neg (by omega), if_neg (by omega), if_pos (by omega)]
      have e7 : τ 124 (21 + 5 * (i : Int) + 4).toNat = w_am σ 123 0 7 i := by
        rw [q3 _ (by omega)]
        exact m_rd (by decide) (by rw [hrl 7 (by decide) (by decide)]; exact hi) (by show _ = 0 + (25 + 5 * i); omega)
      have e4 : τ 124 (21 + 5 * (i : Int) + 1).toNat = w_am σ 123 0 4 i := by
        rw [q3 _ (by omega)]
        exact m_rd (by decide) (by rw [hrl 4 (by decide) (by decide)]; exact hi) (by show _ = 0 + (22 + 5 * i); omega)
      have hi4 : i < n_n (w_am σ 123 0) := hi
      have h2 := f_sum_le (f := w_am σ 123 0 4) (B := 9) (m := (σ 122 5).toNat) (fun i hi => by have := (n_WF.r hok hi).2.1; omega) (Nat.le_of_lt hi)
      have h3 := (n_WF.r hok hi4).2.1
      simp only [f_ws, f_sum] at ih
      rw [w_cs1] at ih
      refine b239_32 ⟨fun h => by omega, fun h => ⟨⟨by omega, by omega⟩, fun y4 ey4 => ⟨⟨by omega, by omega⟩, ?_⟩⟩⟩
      rw [e4]
      refine ⟨⟨by omega, by omega⟩, fun y5 ey5 => ⟨⟨by omega, by omega⟩, ?_⟩⟩
      rw [e7] at ey4
      rw [ey4, ey5]
      exact ih
  · intro i hi ih
    have e : τ 123 (0 + (i : Int)).toNat = w_am σ 123 0 1 i := by
      rw [z 123 (by decide)]
      exact m_rd (by decide) (by unfold m_rl; rw [if_neg (by decide), if_pos (by decide)]; exact hi) (by show _ = 0 + i; omega)
    have h2 := f_sum_le (f := fun i => if 0 < w_am σ 123 0 1 i then 1 else 0) (B := 1) (m := i) (fun i hi => by split <;> omega) (Nat.le_refl _)
    simp only [f_sum] at ih
    rw [w_cs1] at ih
    refine b239_10 ⟨fun h => by omega, fun h => ⟨⟨by omega, by omega⟩, by omega, by omega, fun c => ?_, fun c => ?_⟩⟩
    · rw [e] at c
      rw [if_neg (by omega)] at ih
      exact ⟨⟨by omega, by omega⟩, fun y ey => ⟨⟨by omega, by omega⟩, by rw [ey]; exact ih⟩⟩
    · rw [e] at c
      rw [if_pos c] at ih
      exact ⟨⟨by omega, by omega⟩, fun y ey => ⟨⟨by omega, by omega⟩, by rw [ey]; exact ih⟩⟩
