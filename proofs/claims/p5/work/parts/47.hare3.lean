/-! The ways beside a strip -/
noncomputable def p_Hare_besides (b : Nat) (i : Int) (σ : w_M) : Prop := (0 ≤ i ∧ i < σ 63 0) ∧ σ 63 0 ≤ 7 ∧ ∀ j, j < (σ 63 0).toNat → 0 ≤ σ b j ∧ σ b j ≤ 729
noncomputable def v_Hare_besides (b : Nat) (i : Int) (σ : w_M) : Int := r_bes (σ 63 0).toNat (σ b) i.toNat
theorem fHare_besides_0 : w_fe am_c90 0 1 (.bipush 0) := ⟨rfl, rfl⟩
theorem fHare_besides_1 : w_fe am_c90 1 2 (.istore 3) := ⟨rfl, rfl⟩
theorem fHare_besides_2 : w_fe am_c90 2 3 (.bipush 0) := ⟨rfl, rfl⟩
theorem fHare_besides_3 : w_fe am_c90 3 4 (.iload 2) := ⟨rfl, rfl⟩
theorem fHare_besides_4 : w_fe am_c90 4 5 (.bipush 1) := ⟨rfl, rfl⟩
theorem fHare_besides_5 : w_fe am_c90 5 6 (.isub) := ⟨rfl, rfl⟩
theorem fHare_besides_6 : w_fe am_c90 6 7 (.invokestatic 2) := ⟨rfl, rfl⟩
theorem fHare_besides_7 : w_fe am_c90 7 8 (.istore 4) := ⟨rfl, rfl⟩
theorem fHare_besides_8 : w_fe am_c90 8 9 (.iload 4) := ⟨rfl, rfl⟩
theorem fHare_besides_9 : w_fe am_c90 9 10 (.iload 2) := ⟨rfl, rfl⟩
theorem fHare_besides_10 : w_fe am_c90 10 11 (.bipush 1) := ⟨rfl, rfl⟩
theorem fHare_besides_11 : w_fe am_c90 11 12 (.iadd) := ⟨rfl, rfl⟩
theorem fHare_besides_12 : w_ic am_c90 12 13 .gt 25 := ⟨rfl, rfl⟩
theorem fHare_besides_13 : w_fe am_c90 13 14 (.iload 4) := ⟨rfl, rfl⟩
theorem fHare_besides_14 : w_fe am_c90 14 15 (.aload 0) := ⟨rfl, rfl⟩
theorem fHare_besides_15 : w_fe am_c90 15 16 (.getfield 700) := ⟨rfl, rfl⟩
theorem fHare_besides_16 : w_ic am_c90 16 17 .ge 25 := ⟨rfl, rfl⟩
theorem fHare_besides_17 : w_fe am_c90 17 18 (.iload 3) := ⟨rfl, rfl⟩
theorem fHare_besides_18 : w_fe am_c90 18 19 (.aload 1) := ⟨rfl, rfl⟩
theorem fHare_besides_19 : w_fe am_c90 19 20 (.iload 4) := ⟨rfl, rfl⟩
theorem fHare_besides_20 : w_fe am_c90 20 21 (.iaload) := ⟨rfl, rfl⟩
theorem fHare_besides_21 : w_fe am_c90 21 22 (.iadd) := ⟨rfl, rfl⟩
theorem fHare_besides_22 : w_fe am_c90 22 23 (.istore 3) := ⟨rfl, rfl⟩
theorem fHare_besides_23 : w_fe am_c90 23 24 (.iinc 4 1) := ⟨rfl, rfl⟩
theorem fHare_besides_24 : w_gt am_c90 24 8 := rfl
theorem fHare_besides_25 : w_fe am_c90 25 26 (.iload 3) := ⟨rfl, rfl⟩
theorem fHare_besides_26 : w_fe am_c90 26 27 (.ireturn) := ⟨rfl, rfl⟩
noncomputable def LHare_besides_8 (xs : List Int) (d : Nat) (Q : Option w_V → w_M → Prop) (r1 : Nat) (v2 : Int) (v3 : Int) (v4 : Int) (σ : w_M) : Prop := w_Ex (xs, d) 1 am_c90 Q 8 [some (.inr (.inr (7, 63))), some (.inr (.inr (1007, r1))), some (.inl v2), some (.inl v3), some (.inl v4)] [] σ
set_option maxRecDepth 20000 in
theorem bHare_besides_0 {xs : List Int} {d : Nat} {Q : Option w_V → w_M → Prop} {b : Nat} {x2 : Int} {σ : w_M}
    (h : w_in (x2 - 1) ∧ (∀ (y1 : Int), y1 = v_Math_max 0 (x2 - 1) → LHare_besides_8 xs (d + 1) Q b x2 0 y1 σ)) : w_Call (xs, (d + 1)) 90 [.inr (.inr (7, 63)), .inr (.inr (1007, b)), .inl x2] σ Q :=
  (w_mk (mid := 90) (by decide) rfl rfl rfl rfl rfl (Nat.le_of_ble_eq_true rfl) ⟨rfl, Or.inl (by decide)⟩ (wi_bipush fHare_besides_0 (wi_istore3 fHare_besides_1 trivial (wi_bipush fHare_besides_2 (wi_iload2 fHare_besides_3 (wi_bipush fHare_besides_4 (wi_isub fHare_besides_5 h.1 (wi_call2 fHare_besides_6 (Nat.le_of_ble_eq_true rfl) (k_Math_max (wi_istore4 fHare_besides_7 trivial (h.2 _ rfl)))))))))))
set_option maxRecDepth 20000 in
theorem bHare_besides_8 {xs : List Int} {d : Nat} {Q : Option w_V → w_M → Prop} {r1 : Nat} {v2 : Int} {v3 : Int} {v4 : Int} {σ : w_M}
    (h : w_in (v2 + 1) ∧ (((v2 + 1) < v4 → Q (some (.inl v3)) σ) ∧ (v4 ≤ (v2 + 1) → (((σ 63 0) ≤ v4 → Q (some (.inl v3)) σ) ∧ (v4 < (σ 63 0) → (0 ≤ v4 ∧ v4 < 7 ∧ w_in (v3 + (σ r1 v4.toNat)) ∧ (∀ (y1 : Int), y1 = (v3 + (σ r1 v4.toNat)) → (w_in (v4 + 1) ∧ LHare_besides_8 xs (d + 1) Q r1 v2 y1 (v4 + 1) σ)))))))) : LHare_besides_8 xs (d + 1) Q r1 v2 v3 v4 σ :=
  (wi_iload4 fHare_besides_8 (wi_iload2 fHare_besides_9 (wi_bipush fHare_besides_10 (wi_iadd fHare_besides_11 h.1 (wi_ic_gt fHare_besides_12 (fun c3 => (wi_iload3 fHare_besides_25 (wi_ret1 fHare_besides_26 (h.2.1 c3)))) (fun c3 => (wi_iload4 fHare_besides_13 (wi_aload0 fHare_besides_14 (wi_getf700 fHare_besides_15 (wi_ic_ge fHare_besides_16 (fun c2 => (wi_iload3 fHare_besides_25 (wi_ret1 fHare_besides_26 ((h.2.2 c3).1 c2)))) (fun c2 => (wi_iload3 fHare_besides_17 (wi_aload1 fHare_besides_18 (wi_iload4 fHare_besides_19 (wi_iald1007 fHare_besides_20 ((h.2.2 c3).2 c2).1 ((h.2.2 c3).2 c2).2.1 (wi_iadd fHare_besides_21 ((h.2.2 c3).2 c2).2.2.1 (wi_istore3 fHare_besides_22 trivial (wi_iinc4 fHare_besides_23 trivial (((h.2.2 c3).2 c2).2.2.2 _ rfl).1 (wi_goto fHare_besides_24 (((h.2.2 c3).2 c2).2.2.2 _ rfl).2)))))))))))))))))))
theorem k_Hare_besides {xs : List Int} {d : Nat} {Q : Option w_V → w_M → Prop} {b : Nat} {x2 : Int} {σ : w_M} (hp : p_Hare_besides b x2 σ) (hQ : Q (some (.inl (v_Hare_besides b x2 σ))) σ) : w_Call (xs, d + 1) 90 [.inr (.inr (7, 63)), .inr (.inr (1007, b)), .inl x2] σ Q := by
  obtain ⟨hi, hs, hb⟩ := hp
  have stop : ∀ v3 v4 : Int, x2 + 1 < v4 ∨ σ 63 0 ≤ v4 → Q (some (.inl v3)) σ → LHare_besides_8 xs (d + 1) Q b x2 v3 v4 σ := fun v3 v4 h q =>
    bHare_besides_8 ⟨⟨by omega, by omega⟩, fun _ => q, fun h1 => ⟨fun _ => q, fun h2 => by omega⟩⟩
  have stp : ∀ v3 : Int, ∀ j : Nat, 0 ≤ v3 ∧ v3 ≤ 2000 → (j : Int) ≤ x2 + 1 → (j : Int) < σ 63 0 → LHare_besides_8 xs (d + 1) Q b x2 (v3 + σ b j) ((j : Int) + 1) σ → LHare_besides_8 xs (d + 1) Q b x2 v3 (j : Int) σ := fun v3 j h3 h4 h5 nx => by
    have hj := hb j (by omega)
    refine bHare_besides_8 ⟨⟨by omega, by omega⟩, fun h => by omega, fun _ => ⟨fun h => by omega, fun _ => ⟨by omega, by omega, ?_⟩⟩⟩
    rw [Int.toNat_natCast]
    exact ⟨⟨by omega, by omega⟩, fun y ey => ⟨⟨by omega, by omega⟩, by rw [ey]; exact nx⟩⟩
  obtain ⟨k, ek⟩ := Int.eq_ofNat_of_zero_le hi.1
  subst ek
  have hk := hb k (by omega)
  unfold v_Hare_besides r_bes at hQ
  rw [Int.toNat_natCast] at hQ
  refine bHare_besides_0 ⟨⟨by omega, by omega⟩, fun y ey => ?_⟩
  have fin : ∀ v : Int, 0 ≤ v ∧ v ≤ 729 → v = (if 0 < k then σ b (k - 1) else 0) → LHare_besides_8 xs (d + 1) Q b (k : Int) v (k : Int) σ := by
    intro v hv e
    refine stp v k (by omega) (by omega) hi.2 ?_
    rw [← e] at hQ
    by_cases c : k + 1 < (σ 63 0).toNat
    · rw [if_pos c] at hQ
      have := stp (v + σ b k) (k + 1) (by omega) (by omega) (by omega) (stop _ _ (Or.inl (by omega)) hQ)
      rw [w_cs1] at this
      exact this
    · rw [if_neg c, Int.add_zero] at hQ
      exact stop _ _ (Or.inr (by omega)) hQ
  by_cases c : 0 < k
  · have e : y = ((k - 1 : Nat) : Int) := by rw [ey]; unfold v_Math_max; split <;> omega
    have hk1 := hb (k - 1) (by omega)
    rw [e]
    refine stp 0 (k - 1) (by decide) (by omega) (by omega) ?_
    rw [Int.zero_add, show ((k - 1 : Nat) : Int) + 1 = (k : Int) by omega]
    exact fin _ hk1 (if_pos c).symm
  · have e : y = (k : Int) := by rw [ey]; unfold v_Math_max; split <;> omega
    rw [e]
    exact fin 0 (by decide) (if_neg c).symm
noncomputable def p_Model_inRow (_ : Nat) (n i : Int) (_ : w_M) : Prop := (0 ≤ n ∧ n ≤ 6) ∧ (0 ≤ i ∧ i ≤ 6)
noncomputable def v_Model_inRow (b : Nat) (n i : Int) (σ : w_M) : Int := σ b (7 * n.toNat + i.toNat)
theorem fModel_inRow_0 : w_fe am_c220 0 1 (.aload 0) := ⟨rfl, rfl⟩
theorem fModel_inRow_1 : w_fe am_c220 1 2 (.bipush 7) := ⟨rfl, rfl⟩
theorem fModel_inRow_2 : w_fe am_c220 2 3 (.iload 1) := ⟨rfl, rfl⟩
theorem fModel_inRow_3 : w_fe am_c220 3 4 (.imul) := ⟨rfl, rfl⟩
theorem fModel_inRow_4 : w_fe am_c220 4 5 (.iload 2) := ⟨rfl, rfl⟩
theorem fModel_inRow_5 : w_fe am_c220 5 6 (.iadd) := ⟨rfl, rfl⟩
theorem fModel_inRow_6 : w_fe am_c220 6 7 (.iaload) := ⟨rfl, rfl⟩
theorem fModel_inRow_7 : w_fe am_c220 7 8 (.ireturn) := ⟨rfl, rfl⟩
set_option maxRecDepth 20000 in
theorem bModel_inRow_0 {xs : List Int} {d : Nat} {Q : Option w_V → w_M → Prop} {b : Nat} {x1 : Int} {x2 : Int} {σ : w_M}
    (h : w_in (7 * x1) ∧ w_in ((7 * x1) + x2) ∧ 0 ≤ ((7 * x1) + x2) ∧ ((7 * x1) + x2) < 49 ∧ Q (some (.inl (σ b ((7 * x1) + x2).toNat))) σ) : w_Call (xs, d) 220 [.inr (.inr (1049, b)), .inl x1, .inl x2] σ Q :=
  (w_mk (mid := 220) (by decide) rfl rfl rfl rfl rfl (Nat.le_of_ble_eq_true rfl) trivial (wi_aload0 fModel_inRow_0 (wi_bipush fModel_inRow_1 (wi_iload1 fModel_inRow_2 (wi_imul fModel_inRow_3 h.1 (wi_iload2 fModel_inRow_4 (wi_iadd fModel_inRow_5 h.2.1 (wi_iald1049 fModel_inRow_6 h.2.2.1 h.2.2.2.1 (wi_ret1 fModel_inRow_7 h.2.2.2.2)))))))))
theorem k_Model_inRow {xs : List Int} {d : Nat} {Q : Option w_V → w_M → Prop} {b : Nat} {x1 : Int} {x2 : Int} {σ : w_M} (hp : p_Model_inRow b x1 x2 σ) (hQ : Q (some (.inl (v_Model_inRow b x1 x2 σ))) σ) : w_Call (xs, d) 220 [.inr (.inr (1049, b)), .inl x1, .inl x2] σ Q := by
  obtain ⟨h1, h2⟩ := hp
  unfold v_Model_inRow at hQ
  refine bModel_inRow_0 ⟨⟨by omega, by omega⟩, ⟨by omega, by omega⟩, by omega, by omega, ?_⟩
  rw [show (7 * x1 + x2).toNat = 7 * x1.toNat + x2.toNat by omega]
  exact hQ
noncomputable def p_Model_besides (b : Nat) (n i : Int) (σ : w_M) : Prop := (0 ≤ n ∧ n ≤ 6) ∧ (0 ≤ i ∧ i < σ 122 4) ∧ σ 122 4 ≤ 7 ∧ ∀ j, j < (σ 122 4).toNat → 0 ≤ σ b (7 * n.toNat + j) ∧ σ b (7 * n.toNat + j) ≤ 729
noncomputable def v_Model_besides (b : Nat) (n i : Int) (σ : w_M) : Int := r_bes (σ 122 4).toNat (fun j => σ b (7 * n.toNat + j)) i.toNat
theorem fModel_besides_0 : w_fe am_c219 0 1 (.aload 1) := ⟨rfl, rfl⟩
theorem fModel_besides_1 : w_fe am_c219 1 2 (.iload 2) := ⟨rfl, rfl⟩
theorem fModel_besides_2 : w_fe am_c219 2 3 (.iload 3) := ⟨rfl, rfl⟩
theorem fModel_besides_3 : w_fe am_c219 3 4 (.invokestatic 220) := ⟨rfl, rfl⟩
theorem fModel_besides_4 : w_fe am_c219 4 5 (.istore 4) := ⟨rfl, rfl⟩
theorem fModel_besides_5 : w_fe am_c219 5 6 (.iload 4) := ⟨rfl, rfl⟩
theorem fModel_besides_6 : w_fe am_c219 6 7 (.iload 3) := ⟨rfl, rfl⟩
theorem fModel_besides_7 : w_if am_c219 7 8 .le 15 := ⟨rfl, rfl⟩
theorem fModel_besides_8 : w_fe am_c219 8 9 (.aload 1) := ⟨rfl, rfl⟩
theorem fModel_besides_9 : w_fe am_c219 9 10 (.iload 2) := ⟨rfl, rfl⟩
theorem fModel_besides_10 : w_fe am_c219 10 11 (.iload 3) := ⟨rfl, rfl⟩
theorem fModel_besides_11 : w_fe am_c219 11 12 (.bipush 1) := ⟨rfl, rfl⟩
theorem fModel_besides_12 : w_fe am_c219 12 13 (.isub) := ⟨rfl, rfl⟩
theorem fModel_besides_13 : w_fe am_c219 13 14 (.invokestatic 220) := ⟨rfl, rfl⟩
theorem fModel_besides_14 : w_gt am_c219 14 16 := rfl
theorem fModel_besides_15 : w_fe am_c219 15 16 (.bipush 0) := ⟨rfl, rfl⟩
theorem fModel_besides_16 : w_fe am_c219 16 17 (.iadd) := ⟨rfl, rfl⟩
theorem fModel_besides_17 : w_fe am_c219 17 18 (.istore 4) := ⟨rfl, rfl⟩
theorem fModel_besides_18 : w_fe am_c219 18 19 (.iload 4) := ⟨rfl, rfl⟩
theorem fModel_besides_19 : w_fe am_c219 19 20 (.iload 3) := ⟨rfl, rfl⟩
theorem fModel_besides_20 : w_fe am_c219 20 21 (.bipush 1) := ⟨rfl, rfl⟩
theorem fModel_besides_21 : w_fe am_c219 21 22 (.iadd) := ⟨rfl, rfl⟩
theorem fModel_besides_22 : w_fe am_c219 22 23 (.aload 0) := ⟨rfl, rfl⟩
theorem fModel_besides_23 : w_fe am_c219 23 24 (.getfield 904) := ⟨rfl, rfl⟩
theorem fModel_besides_24 : w_ic am_c219 24 25 .ge 32 := ⟨rfl, rfl⟩
theorem fModel_besides_25 : w_fe am_c219 25 26 (.aload 1) := ⟨rfl, rfl⟩
theorem fModel_besides_26 : w_fe am_c219 26 27 (.iload 2) := ⟨rfl, rfl⟩
theorem fModel_besides_27 : w_fe am_c219 27 28 (.iload 3) := ⟨rfl, rfl⟩
theorem fModel_besides_28 : w_fe am_c219 28 29 (.bipush 1) := ⟨rfl, rfl⟩
theorem fModel_besides_29 : w_fe am_c219 29 30 (.iadd) := ⟨rfl, rfl⟩
theorem fModel_besides_30 : w_fe am_c219 30 31 (.invokestatic 220) := ⟨rfl, rfl⟩
theorem fModel_besides_31 : w_gt am_c219 31 33 := rfl
theorem fModel_besides_32 : w_fe am_c219 32 33 (.bipush 0) := ⟨rfl, rfl⟩
theorem fModel_besides_33 : w_fe am_c219 33 34 (.iadd) := ⟨rfl, rfl⟩
theorem fModel_besides_34 : w_fe am_c219 34 35 (.ireturn) := ⟨rfl, rfl⟩
set_option maxRecDepth 20000 in
theorem bModel_besides_0 {xs : List Int} {d : Nat} {Q : Option w_V → w_M → Prop} {b : Nat} {x2 : Int} {x3 : Int} {σ : w_M}
    (h : p_Model_inRow b x2 x3 σ ∧ (∀ (y1 : Int), y1 = v_Model_inRow b x2 x3 σ → ((x3 ≤ 0 → (w_in (y1 + 0) ∧ (∀ (y2 : Int), y2 = (y1 + 0) → (w_in (x3 + 1) ∧ (((σ 122 4) ≤ (x3 + 1) → (w_in (y2 + 0) ∧ Q (some (.inl (y2 + 0))) σ)) ∧ ((x3 + 1) < (σ 122 4) → (p_Model_inRow b x2 (x3 + 1) σ ∧ (∀ (y3 : Int), y3 = v_Model_inRow b x2 (x3 + 1) σ → (w_in (y2 + y3) ∧ Q (some (.inl (y2 + y3))) σ))))))))) ∧ (0 < x3 → (w_in (x3 - 1) ∧ p_Model_inRow b x2 (x3 - 1) σ ∧ (∀ (y5 : Int), y5 = v_Model_inRow b x2 (x3 - 1) σ → (w_in (y1 + y5) ∧ (∀ (y6 : Int), y6 = (y1 + y5) → (w_in (x3 + 1) ∧ (((σ 122 4) ≤ (x3 + 1) → (w_in (y6 + 0) ∧ Q (some (.inl (y6 + 0))) σ)) ∧ ((x3 + 1) < (σ 122 4) → (p_Model_inRow b x2 (x3 + 1) σ ∧ (∀ (y7 : Int), y7 = v_Model_inRow b x2 (x3 + 1) σ → (w_in (y6 + y7) ∧ Q (some (.inl (y6 + y7))) σ)))))))))))))) : w_Call (xs, (d + 1)) 219 [.inr (.inr (9, 122)), .inr (.inr (1049, b)), .inl x2, .inl x3] σ Q :=
  (w_mk (mid := 219) (by decide) rfl rfl rfl rfl rfl (Nat.le_of_ble_eq_true rfl) ⟨rfl, Or.inl (by decide)⟩ (wi_aload1 fModel_besides_0 (wi_iload2 fModel_besides_1 (wi_iload3 fModel_besides_2 (wi_call3 fModel_besides_3 (Nat.le_of_ble_eq_true rfl) (k_Model_inRow h.1 (wi_istore4 fModel_besides_4 trivial (wi_iload4 fModel_besides_5 (wi_iload3 fModel_besides_6 (wi_if_le fModel_besides_7 (fun c9 => (wi_bipush fModel_besides_15 (wi_iadd fModel_besides_16 ((h.2 _ rfl).1 c9).1 (wi_istore4 fModel_besides_17 trivial (wi_iload4 fModel_besides_18 (wi_iload3 fModel_besides_19 (wi_bipush fModel_besides_20 (wi_iadd fModel_besides_21 (((h.2 _ rfl).1 c9).2 _ rfl).1 (wi_aload0 fModel_besides_22 (wi_getf904 fModel_besides_23 (wi_ic_ge fModel_besides_24 (fun c4 => (wi_bipush fModel_besides_32 (wi_iadd fModel_besides_33 ((((h.2 _ rfl).1 c9).2 _ rfl).2.1 c4).1 (wi_ret1 fModel_besides_34 ((((h.2 _ rfl).1 c9).2 _ rfl).2.1 c4).2)))) (fun c4 => (wi_aload1 fModel_besides_25 (wi_iload2 fModel_besides_26 (wi_iload3 fModel_besides_27 (wi_bipush fModel_besides_28 (wi_iadd fModel_besides_29 (((h.2 _ rfl).1 c9).2 _ rfl).1 (wi_call3 fModel_besides_30 (Nat.le_of_ble_eq_true rfl) (k_Model_inRow ((((h.2 _ rfl).1 c9).2 _ rfl).2.2 c4).1 (wi_goto fModel_besides_31 (wi_iadd fModel_besides_33 (((((h.2 _ rfl).1 c9).2 _ rfl).2.2 c4).2 _ rfl).1 (wi_ret1 fModel_besides_34 (((((h.2 _ rfl).1 c9).2 _ rfl).2.2 c4).2 _ rfl).2)))))))))))))))))))))) (fun c9 => (wi_aload1 fModel_besides_8 (wi_iload2 fModel_besides_9 (wi_iload3 fModel_besides_10 (wi_bipush fModel_besides_11 (wi_isub fModel_besides_12 ((h.2 _ rfl).2 c9).1 (wi_call3 fModel_besides_13 (Nat.le_of_ble_eq_true rfl) (k_Model_inRow ((h.2 _ rfl).2 c9).2.1 (wi_goto fModel_besides_14 (wi_iadd fModel_besides_16 (((h.2 _ rfl).2 c9).2.2 _ rfl).1 (wi_istore4 fModel_besides_17 trivial (wi_iload4 fModel_besides_18 (wi_iload3 fModel_besides_19 (wi_bipush fModel_besides_20 (wi_iadd fModel_besides_21 ((((h.2 _ rfl).2 c9).2.2 _ rfl).2 _ rfl).1 (wi_aload0 fModel_besides_22 (wi_getf904 fModel_besides_23 (wi_ic_ge fModel_besides_24 (fun c8 => (wi_bipush fModel_besides_32 (wi_iadd fModel_besides_33 (((((h.2 _ rfl).2 c9).2.2 _ rfl).2 _ rfl).2.1 c8).1 (wi_ret1 fModel_besides_34 (((((h.2 _ rfl).2 c9).2.2 _ rfl).2 _ rfl).2.1 c8).2)))) (fun c8 => (wi_aload1 fModel_besides_25 (wi_iload2 fModel_besides_26 (wi_iload3 fModel_besides_27 (wi_bipush fModel_besides_28 (wi_iadd fModel_besides_29 ((((h.2 _ rfl).2 c9).2.2 _ rfl).2 _ rfl).1 (wi_call3 fModel_besides_30 (Nat.le_of_ble_eq_true rfl) (k_Model_inRow (((((h.2 _ rfl).2 c9).2.2 _ rfl).2 _ rfl).2.2 c8).1 (wi_goto fModel_besides_31 (wi_iadd fModel_besides_33 ((((((h.2 _ rfl).2 c9).2.2 _ rfl).2 _ rfl).2.2 c8).2 _ rfl).1 (wi_ret1 fModel_besides_34 ((((((h.2 _ rfl).2 c9).2.2 _ rfl).2 _ rfl).2.2 c8).2 _ rfl).2)))))))))))))))))))))))))))))))))))))))
theorem k_Model_besides {xs : List Int} {d : Nat} {Q : Option w_V → w_M → Prop} {b : Nat} {x2 : Int} {x3 : Int} {σ : w_M} (hp : p_Model_besides b x2 x3 σ) (hQ : Q (some (.inl (v_Model_besides b x2 x3 σ))) σ) : w_Call (xs, d + 1) 219 [.inr (.inr (9, 122)), .inr (.inr (1049, b)), .inl x2, .inl x3] σ Q := by
  obtain ⟨hn, hi, hs, hb⟩ := hp
  have h0 := hb x3.toNat (by omega)
  unfold v_Model_besides r_bes at hQ
  simp only [] at hQ
  refine bModel_besides_0 ⟨⟨hn, by omega⟩, fun y1 e1 => ?_⟩
  unfold v_Model_inRow at e1
  refine ⟨fun c => ⟨⟨by omega, by omega⟩, fun y2 e2 => ⟨⟨by omega, by omega⟩, fun c2 => ⟨⟨by omega, by omega⟩, ?_⟩, fun c2 => ⟨⟨hn, by omega⟩, fun y3 e3 => ?_⟩⟩⟩, fun c => ⟨⟨by omega, by omega⟩, ⟨hn, by omega⟩, fun y5 e5 => ?_⟩⟩
  · rw [if_neg (by omega), if_neg (by omega)] at hQ
    exact w_Qe hQ (by omega)
  · have h3 := hb (x3.toNat + 1) (by omega)
    unfold v_Model_inRow at e3
    rw [show (x3 + 1).toNat = x3.toNat + 1 by omega] at e3
    rw [if_neg (by omega), if_pos (by omega)] at hQ
    exact ⟨⟨by omega, by omega⟩, w_Qe hQ (by omega)⟩
  · have h5 := hb (x3.toNat - 1) (by omega)
    unfold v_Model_inRow at e5
    rw [show (x3 - 1).toNat = x3.toNat - 1 by omega] at e5
    rw [if_pos (by omega)] at hQ
    refine ⟨⟨by omega, by omega⟩, fun y6 e6 => ⟨⟨by omega, by omega⟩, fun c2 => ⟨⟨by omega, by omega⟩, ?_⟩, fun c2 => ⟨⟨hn, by omega⟩, fun y7 e7 => ?_⟩⟩⟩
    · rw [if_neg (by omega)] at hQ
      exact w_Qe hQ (by omega)
    · have h3 := hb (x3.toNat + 1) (by omega)
      unfold v_Model_inRow at e7
      rw [show (x3 + 1).toNat = x3.toNat + 1 by omega] at e7
      rw [if_pos (by omega)] at hQ
      exact ⟨⟨by omega, by omega⟩, w_Qe hQ (by omega)⟩
