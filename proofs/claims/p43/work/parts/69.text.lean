section
/-! The reference reads tokens -/
noncomputable def mL (σ : w_M) : Nat := (σ 122 15).toNat
noncomputable def mT (σ : w_M) : Nat → Int := fun i => if i < (σ 122 15).toNat then σ 127 i else 0
noncomputable def m_rk (σ : w_M) : Prop := (0 ≤ σ 122 15 ∧ σ 122 15 ≤ 160) ∧ ∀ i, i < (σ 122 15).toNat → 0 ≤ σ 127 i ∧ σ 127 i ≤ 127
/-- the reader's own alone may have changed -/
noncomputable def mo_fr (σ σ' : w_M) : Prop := (∀ b, b ≠ 122 → σ' b = σ b) ∧ ∀ j, j < 16 ∨ 22 ≤ j → σ' 122 j = σ 122 j
theorem mo_fr.rfl' {σ : w_M} : mo_fr σ σ := ⟨fun _ _ => rfl, fun _ _ => rfl⟩
theorem mo_fr.tr {σ σ1 σ2 : w_M} (h : mo_fr σ σ1) (g : mo_fr σ1 σ2) : mo_fr σ σ2 := ⟨fun b hb => (g.1 b hb).trans (h.1 b hb), fun j hj => (g.2 j hj).trans (h.2 j hj)⟩
theorem mo_fr.up {σ σ1 : w_M} (h : mo_fr σ σ1) {j : Nat} {x : Int} (h1 : 16 ≤ j) (h2 : j < 22) : mo_fr σ (w_up σ1 122 j x) := ⟨fun b hb => by rw [w_up_ne hb]; exact h.1 b hb, fun i hi => by rw [w_up_j (by omega)]; exact h.2 i hi⟩
/-- what both tape and its length hold by -/
noncomputable def mo_tp (σ σ' : w_M) : Prop := σ' 127 = σ 127 ∧ σ' 122 15 = σ 122 15
theorem mo_fr.tp {σ τ : w_M} (h : mo_fr σ τ) : mo_tp σ τ := ⟨h.1 127 (by decide), h.2 15 (by omega)⟩
theorem mo_tp.L {σ τ : w_M} (h : mo_tp σ τ) : mL τ = mL σ := by unfold mL; rw [h.2]
theorem mo_tp.T {σ τ : w_M} (h : mo_tp σ τ) : mT τ = mT σ := by unfold mT; rw [h.2, h.1]
theorem mo_tp.ok {σ τ : w_M} (h : mo_tp σ τ) (hk : m_rk σ) : m_rk τ := by unfold m_rk at hk ⊢; rw [h.2, h.1]; exact hk
theorem m_tb {σ : w_M} {p : Nat} : tb (mT σ) (mL σ) p = if p < (σ 122 15).toNat then σ 127 p else -1 := by
  unfold tb mT mL
  by_cases h : p < (σ 122 15).toNat
  · rw [if_pos h, if_pos h, if_pos h]
  · rw [if_neg h, if_neg h]
noncomputable def p_Model_byteAt (x : Int) (σ : w_M) : Prop := 0 ≤ x ∧ σ 122 15 ≤ 160
noncomputable def v_Model_byteAt (x : Int) (σ : w_M) : Int := if σ 122 15 ≤ x then -1 else σ 127 x.toNat
theorem m_byte {σ : w_M} (h : m_rk σ) {x : Int} (hx : 0 ≤ x) : v_Model_byteAt x σ = tb (mT σ) (mL σ) x.toNat := by
  have := h.1
  unfold v_Model_byteAt
  rw [m_tb]
  by_cases c : σ 122 15 ≤ x
  · rw [if_pos c, if_neg (by omega)]
  · rw [if_neg c, if_pos (by omega)]
noncomputable def q_Model_needs (g n : Int) (σ σ' : w_M) : Prop := (g = 0 → σ 122 20 = 0 → σ' = w_up (w_up σ 122 20 n) 122 21 (σ 122 17)) ∧ (¬ (g = 0 ∧ σ 122 20 = 0) → σ' = σ)
theorem fModel_byteAt_0 : w_fe am_c161 0 1 (.iload 1) := ⟨rfl, rfl⟩
theorem fModel_byteAt_1 : w_fe am_c161 1 2 (.aload 0) := ⟨rfl, rfl⟩
theorem fModel_byteAt_2 : w_fe am_c161 2 3 (.getfield 915) := ⟨rfl, rfl⟩
theorem fModel_byteAt_3 : w_ic am_c161 3 4 .ge 9 := ⟨rfl, rfl⟩
theorem fModel_byteAt_4 : w_fe am_c161 4 5 (.aload 0) := ⟨rfl, rfl⟩
theorem fModel_byteAt_5 : w_fe am_c161 5 6 (.getfield 914) := ⟨rfl, rfl⟩
theorem fModel_byteAt_6 : w_fe am_c161 6 7 (.iload 1) := ⟨rfl, rfl⟩
theorem fModel_byteAt_7 : w_fe am_c161 7 8 (.iaload) := ⟨rfl, rfl⟩
theorem fModel_byteAt_8 : w_gt am_c161 8 10 := rfl
theorem fModel_byteAt_9 : w_fe am_c161 9 10 (.bipush (-1)) := ⟨rfl, rfl⟩
theorem fModel_byteAt_10 : w_fe am_c161 10 11 (.ireturn) := ⟨rfl, rfl⟩
set_option maxRecDepth 20000 in
theorem bModel_byteAt_0 {xs : List Int} {d : Nat} {Q : Option w_V → w_M → Prop} {x1 : Int} {σ : w_M}
    (h : ((σ 122 15) ≤ x1 → Q (some (.inl (-1))) σ) ∧ (x1 < (σ 122 15) → (0 ≤ x1 ∧ x1 < 160 ∧ Q (some (.inl (σ 127 x1.toNat))) σ))) : w_Call (xs, d) 161 [.inr (.inr (9, 122)), .inl x1] σ Q :=
  (w_mk (mid := 161) (by decide) rfl rfl rfl rfl rfl (Nat.le_of_ble_eq_true rfl) ⟨rfl, Or.inl (by decide)⟩ (wi_iload1 fModel_byteAt_0 (wi_aload0 fModel_byteAt_1 (wi_getf915 fModel_byteAt_2 (wi_ic_ge fModel_byteAt_3 (fun c1 => (wi_bipush fModel_byteAt_9 (wi_ret1 fModel_byteAt_10 (h.1 c1)))) (fun c1 => (wi_aload0 fModel_byteAt_4 (wi_getf914 fModel_byteAt_5 (wi_iload1 fModel_byteAt_6 (wi_iald1160 fModel_byteAt_7 (h.2 c1).1 (h.2 c1).2.1 (wi_goto fModel_byteAt_8 (wi_ret1 fModel_byteAt_10 (h.2 c1).2.2))))))))))))
theorem fModel_needs_0 : w_fe am_c162 0 1 (.iload 1) := ⟨rfl, rfl⟩
theorem fModel_needs_1 : w_if am_c162 1 2 .ne 12 := ⟨rfl, rfl⟩
theorem fModel_needs_2 : w_fe am_c162 2 3 (.aload 0) := ⟨rfl, rfl⟩
theorem fModel_needs_3 : w_fe am_c162 3 4 (.getfield 920) := ⟨rfl, rfl⟩
theorem fModel_needs_4 : w_if am_c162 4 5 .ne 12 := ⟨rfl, rfl⟩
theorem fModel_needs_5 : w_fe am_c162 5 6 (.aload 0) := ⟨rfl, rfl⟩
theorem fModel_needs_6 : w_fe am_c162 6 7 (.iload 2) := ⟨rfl, rfl⟩
theorem fModel_needs_7 : w_fe am_c162 7 8 (.putfield 920) := ⟨rfl, rfl⟩
theorem fModel_needs_8 : w_fe am_c162 8 9 (.aload 0) := ⟨rfl, rfl⟩
theorem fModel_needs_9 : w_fe am_c162 9 10 (.aload 0) := ⟨rfl, rfl⟩
theorem fModel_needs_10 : w_fe am_c162 10 11 (.getfield 917) := ⟨rfl, rfl⟩
theorem fModel_needs_11 : w_fe am_c162 11 12 (.putfield 921) := ⟨rfl, rfl⟩
theorem fModel_needs_12 : w_fe am_c162 12 13 (.return_) := ⟨rfl, rfl⟩
set_option maxRecDepth 20000 in
theorem bModel_needs_0 {xs : List Int} {d : Nat} {Q : Option w_V → w_M → Prop} {x1 : Int} {x2 : Int} {σ : w_M}
    (h : (¬ x1 = 0 → Q none σ) ∧ (x1 = 0 → ((¬ (σ 122 20) = 0 → Q none σ) ∧ ((σ 122 20) = 0 → ∀ (τ1 : w_M), τ1 = w_up σ 122 20 x2 → ∀ (τ2 : w_M), τ2 = w_up τ1 122 21 (τ1 122 17) → Q none τ2)))) : w_Call (xs, d) 162 [.inr (.inr (9, 122)), .inl x1, .inl x2] σ Q :=
  (w_mk (mid := 162) (by decide) rfl rfl rfl rfl rfl (Nat.le_of_ble_eq_true rfl) ⟨rfl, Or.inl (by decide)⟩ (wi_iload1 fModel_needs_0 (wi_if_ne fModel_needs_1 (fun c4 => (wi_ret0 fModel_needs_12 (h.1 c4))) (fun c4 => (wi_aload0 fModel_needs_2 (wi_getf920 fModel_needs_3 (wi_if_ne fModel_needs_4 (fun c3 => (wi_ret0 fModel_needs_12 ((h.2 c4).1 c3))) (fun c3 => (wi_aload0 fModel_needs_5 (wi_iload2 fModel_needs_6 (wi_putf920 fModel_needs_7 (wi_aload0 fModel_needs_8 (wi_aload0 fModel_needs_9 (wi_getf917 fModel_needs_10 (wi_putf921 fModel_needs_11 (wi_ret0 fModel_needs_12 ((((h.2 c4).2 c3) _ rfl) _ rfl)))))))))))))))))
theorem k_Model_byteAt {xs : List Int} {d : Nat} {Q : Option w_V → w_M → Prop} {x1 : Int} {σ : w_M} (hp : p_Model_byteAt x1 σ) (hQ : Q (some (.inl (v_Model_byteAt x1 σ))) σ) : w_Call (xs, d) 161 [.inr (.inr (9, 122)), .inl x1] σ Q := by
  have h : 0 ≤ x1 ∧ σ 122 15 ≤ 160 := hp
  unfold v_Model_byteAt at hQ
  refine bModel_byteAt_0 ⟨fun c => ?_, fun c => ⟨h.1, by omega, ?_⟩⟩
  · rw [if_pos c] at hQ; exact hQ
  · rw [if_neg (by omega)] at hQ; exact hQ
theorem k_Model_needs {xs : List Int} {d : Nat} {Q : Option w_V → w_M → Prop} {x1 : Int} {x2 : Int} {σ : w_M} (hQ : ∀ σ' : w_M, q_Model_needs x1 x2 σ σ' → Q none σ') : w_Call (xs, d) 162 [.inr (.inr (9, 122)), .inl x1, .inl x2] σ Q := by
  refine bModel_needs_0 ⟨fun c => hQ _ ⟨fun h => absurd h c, fun _ => rfl⟩, fun c => ⟨fun c2 => hQ _ ⟨fun _ h => absurd h c2, fun _ => rfl⟩, fun c2 τ1 t1 τ2 t2 => hQ _ ⟨fun _ _ => ?_, fun h => absurd ⟨c, c2⟩ h⟩⟩⟩
  rw [t2, t1, w_up_j (by decide)]
theorem need_y {n : Int} {σ σ' : w_M} (h : q_Model_needs 1 n σ σ') : σ' = σ := h.2 (fun q => absurd q.1 (by decide))
theorem need_n {g n : Int} {σ σ' : w_M} (h : q_Model_needs g n σ σ') (hg : g = 0) (h0 : σ 122 20 = 0) : σ' 122 20 = n ∧ σ' 122 21 = σ 122 17 ∧ mo_fr σ σ' ∧ (∀ j, j ≠ 20 → j ≠ 21 → σ' 122 j = σ 122 j) := by
  have e := h.1 hg h0
  rw [e]
  refine ⟨by rw [w_up_j (by decide), w_up_at], by rw [w_up_at], (mo_fr.rfl'.up (by decide) (by decide)).up (by decide) (by decide), fun j h1 h2 => by rw [w_up_j h2, w_up_j h1]⟩
noncomputable def p_Model_next (σ : w_M) : Prop := 0 ≤ σ 122 20 ∧ (σ 122 20 = 0 → m_rk σ ∧ (0 ≤ σ 122 16 ∧ σ 122 16 ≤ σ 122 15))
noncomputable def m_tok (T : Nat → Int) (L p : Nat) (σ σ' : w_M) : Prop := mo_fr σ σ' ∧ σ' 122 17 = ((tk_f T L p : Nat) : Int) ∧ (¬ tk_k T L p = 0 → σ' 122 16 = ((tk_b T L p : Nat) : Int)) ∧ (tk_k T L p = 4 → σ' 122 20 = 1 ∧ σ' 122 21 = ((tk_f T L p : Nat) : Int)) ∧ (¬ tk_k T L p = 4 → σ' 122 20 = 0 ∧ σ' 122 18 = tk_k T L p) ∧ (tk_k T L p = 2 → σ' 122 19 = tk_v T L p)
noncomputable def q_Model_next (σ σ' : w_M) : Prop := (¬ σ 122 20 = 0 → σ' = σ) ∧ (σ 122 20 = 0 → m_tok (mT σ) (mL σ) (σ 122 16).toNat σ σ')
theorem fModel_next_0 : w_fe am_c160 0 1 (.aload 0) := ⟨rfl, rfl⟩
theorem fModel_next_1 : w_fe am_c160 1 2 (.getfield 920) := ⟨rfl, rfl⟩
theorem fModel_next_2 : w_if am_c160 2 3 .le 4 := ⟨rfl, rfl⟩
theorem fModel_next_3 : w_fe am_c160 3 4 (.return_) := ⟨rfl, rfl⟩
theorem fModel_next_4 : w_fe am_c160 4 5 (.aload 0) := ⟨rfl, rfl⟩
theorem fModel_next_5 : w_fe am_c160 5 6 (.aload 0) := ⟨rfl, rfl⟩
theorem fModel_next_6 : w_fe am_c160 6 7 (.getfield 916) := ⟨rfl, rfl⟩
theorem fModel_next_7 : w_fe am_c160 7 8 (.invokestatic 161) := ⟨rfl, rfl⟩
theorem fModel_next_8 : w_fe am_c160 8 9 (.bipush 32) := ⟨rfl, rfl⟩
theorem fModel_next_9 : w_ic am_c160 9 10 .ne 17 := ⟨rfl, rfl⟩
theorem fModel_next_10 : w_fe am_c160 10 11 (.aload 0) := ⟨rfl, rfl⟩
theorem fModel_next_11 : w_fe am_c160 11 12 (.dup) := ⟨rfl, rfl⟩
theorem fModel_next_12 : w_fe am_c160 12 13 (.getfield 916) := ⟨rfl, rfl⟩
theorem fModel_next_13 : w_fe am_c160 13 14 (.bipush 1) := ⟨rfl, rfl⟩
theorem fModel_next_14 : w_fe am_c160 14 15 (.iadd) := ⟨rfl, rfl⟩
theorem fModel_next_15 : w_fe am_c160 15 16 (.putfield 916) := ⟨rfl, rfl⟩
theorem fModel_next_16 : w_gt am_c160 16 4 := rfl
theorem fModel_next_17 : w_fe am_c160 17 18 (.aload 0) := ⟨rfl, rfl⟩
theorem fModel_next_18 : w_fe am_c160 18 19 (.aload 0) := ⟨rfl, rfl⟩
theorem fModel_next_19 : w_fe am_c160 19 20 (.getfield 916) := ⟨rfl, rfl⟩
theorem fModel_next_20 : w_fe am_c160 20 21 (.putfield 917) := ⟨rfl, rfl⟩
theorem fModel_next_21 : w_fe am_c160 21 22 (.aload 0) := ⟨rfl, rfl⟩
theorem fModel_next_22 : w_fe am_c160 22 23 (.aload 0) := ⟨rfl, rfl⟩
theorem fModel_next_23 : w_fe am_c160 23 24 (.getfield 916) := ⟨rfl, rfl⟩
theorem fModel_next_24 : w_fe am_c160 24 25 (.invokestatic 161) := ⟨rfl, rfl⟩
theorem fModel_next_25 : w_fe am_c160 25 26 (.istore 1) := ⟨rfl, rfl⟩
theorem fModel_next_26 : w_fe am_c160 26 27 (.iload 1) := ⟨rfl, rfl⟩
theorem fModel_next_27 : w_if am_c160 27 28 .ge 32 := ⟨rfl, rfl⟩
theorem fModel_next_28 : w_fe am_c160 28 29 (.aload 0) := ⟨rfl, rfl⟩
theorem fModel_next_29 : w_fe am_c160 29 30 (.bipush 0) := ⟨rfl, rfl⟩
theorem fModel_next_30 : w_fe am_c160 30 31 (.putfield 918) := ⟨rfl, rfl⟩
theorem fModel_next_31 : w_gt am_c160 31 140 := rfl
theorem fModel_next_32 : w_fe am_c160 32 33 (.iload 1) := ⟨rfl, rfl⟩
theorem fModel_next_33 : w_fe am_c160 33 34 (.i2l) := ⟨rfl, rfl⟩
theorem fModel_next_34 : w_fe am_c160 34 35 (.sipush 97) := ⟨rfl, rfl⟩
theorem fModel_next_35 : w_fe am_c160 35 36 (.sipush 122) := ⟨rfl, rfl⟩
theorem fModel_next_36 : w_fe am_c160 36 37 (.invokestatic 157) := ⟨rfl, rfl⟩
theorem fModel_next_37 : w_if am_c160 37 38 .eq 57 := ⟨rfl, rfl⟩
theorem fModel_next_38 : w_fe am_c160 38 39 (.aload 0) := ⟨rfl, rfl⟩
theorem fModel_next_39 : w_fe am_c160 39 40 (.bipush 1) := ⟨rfl, rfl⟩
theorem fModel_next_40 : w_fe am_c160 40 41 (.putfield 918) := ⟨rfl, rfl⟩
theorem fModel_next_41 : w_fe am_c160 41 42 (.aload 0) := ⟨rfl, rfl⟩
theorem fModel_next_42 : w_fe am_c160 42 43 (.aload 0) := ⟨rfl, rfl⟩
theorem fModel_next_43 : w_fe am_c160 43 44 (.getfield 916) := ⟨rfl, rfl⟩
theorem fModel_next_44 : w_fe am_c160 44 45 (.invokestatic 161) := ⟨rfl, rfl⟩
theorem fModel_next_45 : w_fe am_c160 45 46 (.i2l) := ⟨rfl, rfl⟩
theorem fModel_next_46 : w_fe am_c160 46 47 (.sipush 97) := ⟨rfl, rfl⟩
theorem fModel_next_47 : w_fe am_c160 47 48 (.sipush 122) := ⟨rfl, rfl⟩
theorem fModel_next_48 : w_fe am_c160 48 49 (.invokestatic 157) := ⟨rfl, rfl⟩
theorem fModel_next_49 : w_if am_c160 49 50 .eq 140 := ⟨rfl, rfl⟩
theorem fModel_next_50 : w_fe am_c160 50 51 (.aload 0) := ⟨rfl, rfl⟩
theorem fModel_next_51 : w_fe am_c160 51 52 (.dup) := ⟨rfl, rfl⟩
theorem fModel_next_52 : w_fe am_c160 52 53 (.getfield 916) := ⟨rfl, rfl⟩
theorem fModel_next_53 : w_fe am_c160 53 54 (.bipush 1) := ⟨rfl, rfl⟩
theorem fModel_next_54 : w_fe am_c160 54 55 (.iadd) := ⟨rfl, rfl⟩
theorem fModel_next_55 : w_fe am_c160 55 56 (.putfield 916) := ⟨rfl, rfl⟩
theorem fModel_next_56 : w_gt am_c160 56 41 := rfl
theorem fModel_next_57 : w_fe am_c160 57 58 (.iload 1) := ⟨rfl, rfl⟩
theorem fModel_next_58 : w_fe am_c160 58 59 (.i2l) := ⟨rfl, rfl⟩
theorem fModel_next_59 : w_fe am_c160 59 60 (.sipush 48) := ⟨rfl, rfl⟩
theorem fModel_next_60 : w_fe am_c160 60 61 (.sipush 57) := ⟨rfl, rfl⟩
theorem fModel_next_61 : w_fe am_c160 61 62 (.invokestatic 157) := ⟨rfl, rfl⟩
theorem fModel_next_62 : w_if am_c160 62 63 .eq 122 := ⟨rfl, rfl⟩
theorem fModel_next_63 : w_fe am_c160 63 64 (.aload 0) := ⟨rfl, rfl⟩
theorem fModel_next_64 : w_fe am_c160 64 65 (.bipush 2) := ⟨rfl, rfl⟩
theorem fModel_next_65 : w_fe am_c160 65 66 (.putfield 918) := ⟨rfl, rfl⟩
theorem fModel_next_66 : w_fe am_c160 66 67 (.aload 0) := ⟨rfl, rfl⟩
theorem fModel_next_67 : w_fe am_c160 67 68 (.bipush 0) := ⟨rfl, rfl⟩
theorem fModel_next_68 : w_fe am_c160 68 69 (.putfield 919) := ⟨rfl, rfl⟩
theorem fModel_next_69 : w_fe am_c160 69 70 (.aload 0) := ⟨rfl, rfl⟩
theorem fModel_next_70 : w_fe am_c160 70 71 (.aload 0) := ⟨rfl, rfl⟩
theorem fModel_next_71 : w_fe am_c160 71 72 (.getfield 916) := ⟨rfl, rfl⟩
theorem fModel_next_72 : w_fe am_c160 72 73 (.invokestatic 161) := ⟨rfl, rfl⟩
theorem fModel_next_73 : w_fe am_c160 73 74 (.i2l) := ⟨rfl, rfl⟩
theorem fModel_next_74 : w_fe am_c160 74 75 (.sipush 48) := ⟨rfl, rfl⟩
theorem fModel_next_75 : w_fe am_c160 75 76 (.sipush 57) := ⟨rfl, rfl⟩
theorem fModel_next_76 : w_fe am_c160 76 77 (.invokestatic 157) := ⟨rfl, rfl⟩
theorem fModel_next_77 : w_if am_c160 77 78 .eq 108 := ⟨rfl, rfl⟩
theorem fModel_next_78 : w_fe am_c160 78 79 (.aload 0) := ⟨rfl, rfl⟩
theorem fModel_next_79 : w_fe am_c160 79 80 (.aload 0) := ⟨rfl, rfl⟩
theorem fModel_next_80 : w_fe am_c160 80 81 (.getfield 916) := ⟨rfl, rfl⟩
theorem fModel_next_81 : w_fe am_c160 81 82 (.aload 0) := ⟨rfl, rfl⟩
theorem fModel_next_82 : w_fe am_c160 82 83 (.getfield 917) := ⟨rfl, rfl⟩
theorem fModel_next_83 : w_fe am_c160 83 84 (.isub) := ⟨rfl, rfl⟩
theorem fModel_next_84 : w_fe am_c160 84 85 (.bipush 2) := ⟨rfl, rfl⟩
theorem fModel_next_85 : w_ic am_c160 85 86 .ge 98 := ⟨rfl, rfl⟩
theorem fModel_next_86 : w_fe am_c160 86 87 (.bipush 10) := ⟨rfl, rfl⟩
theorem fModel_next_87 : w_fe am_c160 87 88 (.aload 0) := ⟨rfl, rfl⟩
theorem fModel_next_88 : w_fe am_c160 88 89 (.getfield 919) := ⟨rfl, rfl⟩
theorem fModel_next_89 : w_fe am_c160 89 90 (.imul) := ⟨rfl, rfl⟩
theorem fModel_next_90 : w_fe am_c160 90 91 (.aload 0) := ⟨rfl, rfl⟩
theorem fModel_next_91 : w_fe am_c160 91 92 (.aload 0) := ⟨rfl, rfl⟩
theorem fModel_next_92 : w_fe am_c160 92 93 (.getfield 916) := ⟨rfl, rfl⟩
theorem fModel_next_93 : w_fe am_c160 93 94 (.invokestatic 161) := ⟨rfl, rfl⟩
theorem fModel_next_94 : w_fe am_c160 94 95 (.iadd) := ⟨rfl, rfl⟩
theorem fModel_next_95 : w_fe am_c160 95 96 (.bipush 48) := ⟨rfl, rfl⟩
theorem fModel_next_96 : w_fe am_c160 96 97 (.isub) := ⟨rfl, rfl⟩
theorem fModel_next_97 : w_gt am_c160 97 100 := rfl
theorem fModel_next_98 : w_fe am_c160 98 99 (.aload 0) := ⟨rfl, rfl⟩
theorem fModel_next_99 : w_fe am_c160 99 100 (.getfield 919) := ⟨rfl, rfl⟩
theorem fModel_next_100 : w_fe am_c160 100 101 (.putfield 919) := ⟨rfl, rfl⟩
theorem fModel_next_101 : w_fe am_c160 101 102 (.aload 0) := ⟨rfl, rfl⟩
theorem fModel_next_102 : w_fe am_c160 102 103 (.dup) := ⟨rfl, rfl⟩
theorem fModel_next_103 : w_fe am_c160 103 104 (.getfield 916) := ⟨rfl, rfl⟩
theorem fModel_next_104 : w_fe am_c160 104 105 (.bipush 1) := ⟨rfl, rfl⟩
theorem fModel_next_105 : w_fe am_c160 105 106 (.iadd) := ⟨rfl, rfl⟩
theorem fModel_next_106 : w_fe am_c160 106 107 (.putfield 916) := ⟨rfl, rfl⟩
theorem fModel_next_107 : w_gt am_c160 107 69 := rfl
theorem fModel_next_108 : w_fe am_c160 108 109 (.aload 0) := ⟨rfl, rfl⟩
theorem fModel_next_109 : w_fe am_c160 109 110 (.aload 0) := ⟨rfl, rfl⟩
theorem fModel_next_110 : w_fe am_c160 110 111 (.getfield 916) := ⟨rfl, rfl⟩
theorem fModel_next_111 : w_fe am_c160 111 112 (.aload 0) := ⟨rfl, rfl⟩
theorem fModel_next_112 : w_fe am_c160 112 113 (.getfield 917) := ⟨rfl, rfl⟩
theorem fModel_next_113 : w_fe am_c160 113 114 (.isub) := ⟨rfl, rfl⟩
theorem fModel_next_114 : w_fe am_c160 114 115 (.bipush 2) := ⟨rfl, rfl⟩
theorem fModel_next_115 : w_ic am_c160 115 116 .gt 118 := ⟨rfl, rfl⟩
theorem fModel_next_116 : w_fe am_c160 116 117 (.bipush 1) := ⟨rfl, rfl⟩
theorem fModel_next_117 : w_gt am_c160 117 119 := rfl
theorem fModel_next_118 : w_fe am_c160 118 119 (.bipush 0) := ⟨rfl, rfl⟩
theorem fModel_next_119 : w_fe am_c160 119 120 (.bipush 1) := ⟨rfl, rfl⟩
theorem fModel_next_120 : w_fe am_c160 120 121 (.invokestatic 162) := ⟨rfl, rfl⟩
theorem fModel_next_121 : w_gt am_c160 121 140 := rfl
theorem fModel_next_122 : w_fe am_c160 122 123 (.aload 0) := ⟨rfl, rfl⟩
theorem fModel_next_123 : w_fe am_c160 123 124 (.bipush 3) := ⟨rfl, rfl⟩
theorem fModel_next_124 : w_fe am_c160 124 125 (.putfield 918) := ⟨rfl, rfl⟩
theorem fModel_next_125 : w_fe am_c160 125 126 (.aload 0) := ⟨rfl, rfl⟩
theorem fModel_next_126 : w_fe am_c160 126 127 (.iload 1) := ⟨rfl, rfl⟩
theorem fModel_next_127 : w_fe am_c160 127 128 (.bipush 59) := ⟨rfl, rfl⟩
theorem fModel_next_128 : w_ic am_c160 128 129 .ne 131 := ⟨rfl, rfl⟩
theorem fModel_next_129 : w_fe am_c160 129 130 (.bipush 1) := ⟨rfl, rfl⟩
theorem fModel_next_130 : w_gt am_c160 130 132 := rfl
theorem fModel_next_131 : w_fe am_c160 131 132 (.bipush 0) := ⟨rfl, rfl⟩
theorem fModel_next_132 : w_fe am_c160 132 133 (.bipush 1) := ⟨rfl, rfl⟩
theorem fModel_next_133 : w_fe am_c160 133 134 (.invokestatic 162) := ⟨rfl, rfl⟩
theorem fModel_next_134 : w_fe am_c160 134 135 (.aload 0) := ⟨rfl, rfl⟩
theorem fModel_next_135 : w_fe am_c160 135 136 (.dup) := ⟨rfl, rfl⟩
theorem fModel_next_136 : w_fe am_c160 136 137 (.getfield 916) := ⟨rfl, rfl⟩
theorem fModel_next_137 : w_fe am_c160 137 138 (.bipush 1) := ⟨rfl, rfl⟩
theorem fModel_next_138 : w_fe am_c160 138 139 (.iadd) := ⟨rfl, rfl⟩
theorem fModel_next_139 : w_fe am_c160 139 140 (.putfield 916) := ⟨rfl, rfl⟩
theorem fModel_next_140 : w_fe am_c160 140 141 (.return_) := ⟨rfl, rfl⟩
noncomputable def LModel_next_4 (xs : List Int) (d : Nat) (Q : Option w_V → w_M → Prop)  (σ : w_M) : Prop := ∀ l1, w_nl l1 → w_Ex (xs, d) 0 am_c160 Q 4 [some (.inr (.inr (9, 122))), l1] [] σ
noncomputable def LModel_next_69 (xs : List Int) (d : Nat) (Q : Option w_V → w_M → Prop)  (σ : w_M) : Prop := ∀ l1, w_nl l1 → w_Ex (xs, d) 0 am_c160 Q 69 [some (.inr (.inr (9, 122))), l1] [] σ
noncomputable def LModel_next_41 (xs : List Int) (d : Nat) (Q : Option w_V → w_M → Prop)  (σ : w_M) : Prop := ∀ l1, w_nl l1 → w_Ex (xs, d) 0 am_c160 Q 41 [some (.inr (.inr (9, 122))), l1] [] σ
set_option maxRecDepth 20000 in
theorem bModel_next_0 {xs : List Int} {d : Nat} {Q : Option w_V → w_M → Prop}  {σ : w_M}
    (h : ((σ 122 20) ≤ 0 → LModel_next_4 xs (d + 1) Q σ) ∧ (0 < (σ 122 20) → Q none σ)) : w_Call (xs, (d + 1)) 160 [.inr (.inr (9, 122))] σ Q :=
  (w_mk (mid := 160) (by decide) rfl rfl rfl rfl rfl (Nat.le_of_ble_eq_true rfl) ⟨rfl, Or.inl (by decide)⟩ (wi_aload0 fModel_next_0 (wi_getf920 fModel_next_1 (wi_if_le fModel_next_2 (fun c1 => ((h.1 c1) _ (by exact trivial))) (fun c1 => (wi_ret0 fModel_next_3 (h.2 c1)))))))
set_option maxRecDepth 20000 in
theorem bModel_next_4 {xs : List Int} {d : Nat} {Q : Option w_V → w_M → Prop}  {σ : w_M}
    (h : p_Model_byteAt (σ 122 16) σ ∧ (∀ (y1 : Int), y1 = v_Model_byteAt (σ 122 16) σ → ((¬ y1 = 32 → ∀ (τ2 : w_M), τ2 = w_up σ 122 17 (σ 122 16) → (p_Model_byteAt (τ2 122 16) τ2 ∧ (∀ (y3 : Int), y3 = v_Model_byteAt (τ2 122 16) τ2 → ((0 ≤ y3 → ((¬ (97 ≤ y3 ∧ y3 ≤ 122) → ((¬ (48 ≤ y3 ∧ y3 ≤ 57) → ∀ (τ4 : w_M), τ4 = w_up τ2 122 18 3 → ((¬ y3 = 59 → ∀ (τ5 : w_M), q_Model_needs 0 1 τ4 τ5 → (w_in ((τ5 122 16) + 1) ∧ (∀ (τ6 : w_M), τ6 = w_up τ5 122 16 ((τ5 122 16) + 1) → Q none τ6))) ∧ (y3 = 59 → ∀ (τ7 : w_M), q_Model_needs 1 1 τ4 τ7 → (w_in ((τ7 122 16) + 1) ∧ (∀ (τ8 : w_M), τ8 = w_up τ7 122 16 ((τ7 122 16) + 1) → Q none τ8))))) ∧ ((48 ≤ y3 ∧ y3 ≤ 57) → ∀ (τ10 : w_M), τ10 = w_up τ2 122 18 2 → ∀ (τ11 : w_M), τ11 = w_up τ10 122 19 0 → LModel_next_69 xs (d + 1) Q τ11))) ∧ ((97 ≤ y3 ∧ y3 ≤ 122) → ∀ (τ13 : w_M), τ13 = w_up τ2 122 18 1 → LModel_next_41 xs (d + 1) Q τ13))) ∧ (y3 < 0 → ∀ (τ15 : w_M), τ15 = w_up τ2 122 18 0 → Q none τ15))))) ∧ (y1 = 32 → (w_in ((σ 122 16) + 1) ∧ (∀ (τ17 : w_M), τ17 = w_up σ 122 16 ((σ 122 16) + 1) → LModel_next_4 xs (d + 1) Q τ17)))))) : LModel_next_4 xs (d + 1) Q  σ :=
  fun l1 nl1 => (wi_aload0 fModel_next_4 (wi_aload0 fModel_next_5 (wi_getf916 fModel_next_6 (wi_call2 fModel_next_7 (Nat.le_of_ble_eq_true rfl) (k_Model_byteAt h.1 (wi_bipush fModel_next_8 (wi_ic_ne fModel_next_9 (fun c18 => (wi_aload0 fModel_next_17 (wi_aload0 fModel_next_18 (wi_getf916 fModel_next_19 (wi_putf917 fModel_next_20 (wi_aload0 fModel_next_21 (wi_aload0 fModel_next_22 (wi_getf916 fModel_next_23 (wi_call2 fModel_next_24 (Nat.le_of_ble_eq_true rfl) (k_Model_byteAt (((h.2 _ rfl).1 c18) _ rfl).1 (wi_istore1 fModel_next_25 trivial (wi_iload1 fModel_next_26 (wi_if_ge fModel_next_27 (fun c16 => (wi_iload1 fModel_next_32 (wi_i2l fModel_next_33 (wi_sipush fModel_next_34 (wi_sipush fModel_next_35 (wi_call3 fModel_next_36 (Nat.le_of_ble_eq_true rfl) (k_Model_in (wi_ifb_eq fModel_next_37 (fun c14 => (wi_iload1 fModel_next_57 (wi_i2l fModel_next_58 (wi_sipush fModel_next_59 (wi_sipush fModel_next_60 (wi_call3 fModel_next_61 (Nat.le_of_ble_eq_true rfl) (k_Model_in (wi_ifb_eq fModel_next_62 (fun c12 => (wi_aload0 fModel_next_122 (wi_bipush fModel_next_123 (wi_putf918 fModel_next_124 (wi_aload0 fModel_next_125 (wi_iload1 fModel_next_126 (wi_bipush fModel_next_127 (wi_ic_ne fModel_next_128 (fun c9 => (wi_bipush fModel_next_131 (wi_bipush fModel_next_132 (wi_call3 fModel_next_133 (Nat.le_of_ble_eq_true rfl) (k_Model_needs (fun τ5 eτ5 => (wi_aload0 fModel_next_134 (wi_dup_a fModel_next_135 (wi_getf916 fModel_next_136 (wi_bipush fModel_next_137 (wi_iadd fModel_next_138 ((((((((((h.2 _ rfl).1 c18) _ rfl).2 _ rfl).1 c16).1 c14).1 c12) _ rfl).1 c9) τ5 eτ5).1 (wi_putf916 fModel_next_139 (wi_ret0 fModel_next_140 (((((((((((h.2 _ rfl).1 c18) _ rfl).2 _ rfl).1 c16).1 c14).1 c12) _ rfl).1 c9) τ5 eτ5).2 _ rfl)))))))))))))) (fun c9 => (wi_bipush fModel_next_129 (wi_goto fModel_next_130 (wi_bipush fModel_next_132 (wi_call3 fModel_next_133 (Nat.le_of_ble_eq_true rfl) (k_Model_needs (fun τ7 eτ7 => (wi_aload0 fModel_next_134 (wi_dup_a fModel_next_135 (wi_getf916 fModel_next_136 (wi_bipush fModel_next_137 (wi_iadd fModel_next_138 ((((((((((h.2 _ rfl).1 c18) _ rfl).2 _ rfl).1 c16).1 c14).1 c12) _ rfl).2 c9) τ7 eτ7).1 (wi_putf916 fModel_next_139 (wi_ret0 fModel_next_140 (((((((((((h.2 _ rfl).1 c18) _ rfl).2 _ rfl).1 c16).1 c14).1 c12) _ rfl).2 c9) τ7 eτ7).2 _ rfl))))))))))))))))))))))) (fun c12 => (wi_aload0 fModel_next_63 (wi_bipush fModel_next_64 (wi_putf918 fModel_next_65 (wi_aload0 fModel_next_66 (wi_bipush fModel_next_67 (wi_putf919 fModel_next_68 ((((((((((h.2 _ rfl).1 c18) _ rfl).2 _ rfl).1 c16).1 c14).2 c12) _ rfl) _ rfl) _ (by exact trivial))))))))))))))))) (fun c14 => (wi_aload0 fModel_next_38 (wi_bipush fModel_next_39 (wi_putf918 fModel_next_40 ((((((((h.2 _ rfl).1 c18) _ rfl).2 _ rfl).1 c16).2 c14) _ rfl) _ (by exact trivial)))))))))))))) (fun c16 => (wi_aload0 fModel_next_28 (wi_bipush fModel_next_29 (wi_putf918 fModel_next_30 (wi_goto fModel_next_31 (wi_ret0 fModel_next_140 ((((((h.2 _ rfl).1 c18) _ rfl).2 _ rfl).2 c16) _ rfl)))))))))))))))))))) (fun c18 => (wi_aload0 fModel_next_10 (wi_dup_a fModel_next_11 (wi_getf916 fModel_next_12 (wi_bipush fModel_next_13 (wi_iadd fModel_next_14 ((h.2 _ rfl).2 c18).1 (wi_putf916 fModel_next_15 (wi_goto fModel_next_16 ((((h.2 _ rfl).2 c18).2 _ rfl) _ nl1))))))))))))))))
set_option maxRecDepth 20000 in
theorem bModel_next_69 {xs : List Int} {d : Nat} {Q : Option w_V → w_M → Prop}  {σ : w_M}
    (h : p_Model_byteAt (σ 122 16) σ ∧ (∀ (y1 : Int), y1 = v_Model_byteAt (σ 122 16) σ → ((¬ (48 ≤ y1 ∧ y1 ≤ 57) → (w_in ((σ 122 16) - (σ 122 17)) ∧ ((2 < ((σ 122 16) - (σ 122 17)) → ∀ (τ2 : w_M), q_Model_needs 0 1 σ τ2 → Q none τ2) ∧ (((σ 122 16) - (σ 122 17)) ≤ 2 → ∀ (τ3 : w_M), q_Model_needs 1 1 σ τ3 → Q none τ3)))) ∧ ((48 ≤ y1 ∧ y1 ≤ 57) → (w_in ((σ 122 16) - (σ 122 17)) ∧ ((2 ≤ ((σ 122 16) - (σ 122 17)) → ∀ (τ5 : w_M), τ5 = w_up σ 122 19 (σ 122 19) → (w_in ((τ5 122 16) + 1) ∧ (∀ (τ6 : w_M), τ6 = w_up τ5 122 16 ((τ5 122 16) + 1) → LModel_next_69 xs (d + 1) Q τ6))) ∧ (((σ 122 16) - (σ 122 17)) < 2 → (w_in (10 * (σ 122 19)) ∧ (∀ (y7 : Int), y7 = v_Model_byteAt (σ 122 16) σ → (w_in ((10 * (σ 122 19)) + y7) ∧ w_in (((10 * (σ 122 19)) + y7) - 48) ∧ (∀ (τ8 : w_M), τ8 = w_up σ 122 19 (((10 * (σ 122 19)) + y7) - 48) → (w_in ((τ8 122 16) + 1) ∧ (∀ (τ9 : w_M), τ9 = w_up τ8 122 16 ((τ8 122 16) + 1) → LModel_next_69 xs (d + 1) Q τ9))))))))))))) : LModel_next_69 xs (d + 1) Q  σ :=
  fun l1 nl1 => (wi_aload0 fModel_next_69 (wi_aload0 fModel_next_70 (wi_getf916 fModel_next_71 (wi_call2 fModel_next_72 (Nat.le_of_ble_eq_true rfl) (k_Model_byteAt h.1 (wi_i2l fModel_next_73 (wi_sipush fModel_next_74 (wi_sipush fModel_next_75 (wi_call3 fModel_next_76 (Nat.le_of_ble_eq_true rfl) (k_Model_in (wi_ifb_eq fModel_next_77 (fun c11 => (wi_aload0 fModel_next_108 (wi_aload0 fModel_next_109 (wi_getf916 fModel_next_110 (wi_aload0 fModel_next_111 (wi_getf917 fModel_next_112 (wi_isub fModel_next_113 ((h.2 _ rfl).1 c11).1 (wi_bipush fModel_next_114 (wi_ic_gt fModel_next_115 (fun c4 => (wi_bipush fModel_next_118 (wi_bipush fModel_next_119 (wi_call3 fModel_next_120 (Nat.le_of_ble_eq_true rfl) (k_Model_needs (fun τ2 eτ2 => (wi_goto fModel_next_121 (wi_ret0 fModel_next_140 ((((h.2 _ rfl).1 c11).2.1 c4) τ2 eτ2))))))))) (fun c4 => (wi_bipush fModel_next_116 (wi_goto fModel_next_117 (wi_bipush fModel_next_119 (wi_call3 fModel_next_120 (Nat.le_of_ble_eq_true rfl) (k_Model_needs (fun τ3 eτ3 => (wi_goto fModel_next_121 (wi_ret0 fModel_next_140 ((((h.2 _ rfl).1 c11).2.2 c4) τ3 eτ3))))))))))))))))))) (fun c11 => (wi_aload0 fModel_next_78 (wi_aload0 fModel_next_79 (wi_getf916 fModel_next_80 (wi_aload0 fModel_next_81 (wi_getf917 fModel_next_82 (wi_isub fModel_next_83 ((h.2 _ rfl).2 c11).1 (wi_bipush fModel_next_84 (wi_ic_ge fModel_next_85 (fun c10 => (wi_aload0 fModel_next_98 (wi_getf919 fModel_next_99 (wi_putf919 fModel_next_100 (wi_aload0 fModel_next_101 (wi_dup_a fModel_next_102 (wi_getf916 fModel_next_103 (wi_bipush fModel_next_104 (wi_iadd fModel_next_105 ((((h.2 _ rfl).2 c11).2.1 c10) _ rfl).1 (wi_putf916 fModel_next_106 (wi_goto fModel_next_107 ((((((h.2 _ rfl).2 c11).2.1 c10) _ rfl).2 _ rfl) _ nl1)))))))))))) (fun c10 => (wi_bipush fModel_next_86 (wi_aload0 fModel_next_87 (wi_getf919 fModel_next_88 (wi_imul fModel_next_89 (((h.2 _ rfl).2 c11).2.2 c10).1 (wi_aload0 fModel_next_90 (wi_aload0 fModel_next_91 (wi_getf916 fModel_next_92 (wi_call2 fModel_next_93 (Nat.le_of_ble_eq_true rfl) (k_Model_byteAt h.1 (wi_iadd fModel_next_94 ((((h.2 _ rfl).2 c11).2.2 c10).2 _ rfl).1 (wi_bipush fModel_next_95 (wi_isub fModel_next_96 ((((h.2 _ rfl).2 c11).2.2 c10).2 _ rfl).2.1 (wi_goto fModel_next_97 (wi_putf919 fModel_next_100 (wi_aload0 fModel_next_101 (wi_dup_a fModel_next_102 (wi_getf916 fModel_next_103 (wi_bipush fModel_next_104 (wi_iadd fModel_next_105 (((((h.2 _ rfl).2 c11).2.2 c10).2 _ rfl).2.2 _ rfl).1 (wi_putf916 fModel_next_106 (wi_goto fModel_next_107 (((((((h.2 _ rfl).2 c11).2.2 c10).2 _ rfl).2.2 _ rfl).2 _ rfl) _ nl1)))))))))))))))))))))))))))))))))))))))))))
set_option maxRecDepth 20000 in
theorem bModel_next_41 {xs : List Int} {d : Nat} {Q : Option w_V → w_M → Prop}  {σ : w_M}
    (h : p_Model_byteAt (σ 122 16) σ ∧ (∀ (y1 : Int), y1 = v_Model_byteAt (σ 122 16) σ → ((¬ (97 ≤ y1 ∧ y1 ≤ 122) → Q none σ) ∧ ((97 ≤ y1 ∧ y1 ≤ 122) → (w_in ((σ 122 16) + 1) ∧ (∀ (τ2 : w_M), τ2 = w_up σ 122 16 ((σ 122 16) + 1) → LModel_next_41 xs (d + 1) Q τ2)))))) : LModel_next_41 xs (d + 1) Q  σ :=
  fun l1 nl1 => (wi_aload0 fModel_next_41 (wi_aload0 fModel_next_42 (wi_getf916 fModel_next_43 (wi_call2 fModel_next_44 (Nat.le_of_ble_eq_true rfl) (k_Model_byteAt h.1 (wi_i2l fModel_next_45 (wi_sipush fModel_next_46 (wi_sipush fModel_next_47 (wi_call3 fModel_next_48 (Nat.le_of_ble_eq_true rfl) (k_Model_in (wi_ifb_eq fModel_next_49 (fun c3 => (wi_ret0 fModel_next_140 ((h.2 _ rfl).1 c3))) (fun c3 => (wi_aload0 fModel_next_50 (wi_dup_a fModel_next_51 (wi_getf916 fModel_next_52 (wi_bipush fModel_next_53 (wi_iadd fModel_next_54 ((h.2 _ rfl).2 c3).1 (wi_putf916 fModel_next_55 (wi_goto fModel_next_56 ((((h.2 _ rfl).2 c3).2 _ rfl) _ nl1))))))))))))))))))))
set_option maxHeartbeats 2000000 in
theorem k_Model_next {xs : List Int} {d : Nat} {Q : Option w_V → w_M → Prop}  {σ : w_M} (hp : p_Model_next σ) (hQ : ∀ σ' : w_M, q_Model_next σ σ' → Q none σ') : w_Call (xs, d + 1) 160 [.inr (.inr (9, 122))] σ Q := by
  obtain ⟨h20, hz⟩ := hp
  refine bModel_next_0 ⟨fun c => ?_, fun c => hQ _ ⟨fun _ => rfl, fun h => by omega⟩⟩
  have h0 : σ 122 20 = 0 := by omega
  obtain ⟨hk, h16⟩ := hz h0
  have hk1 := hk.1
  have hQ' : ∀ σ' : w_M, m_tok (mT σ) (mL σ) (σ 122 16).toNat σ σ' → Q none σ' := fun σ' h => hQ _ ⟨fun q => absurd h0 q, fun _ => h⟩
  obtain ⟨p, hp16⟩ : ∃ p : Nat, σ 122 16 = (p : Int) := ⟨(σ 122 16).toNat, by omega⟩
  rw [hp16, Int.toNat_natCast] at hQ'
  rw [hp16] at h16
  have hLe : mL σ = (σ 122 15).toNat := rfl
  have tbb : ∀ τ : w_M, mo_fr σ τ → ∀ x : Int, 0 ≤ x → v_Model_byteAt x τ = tb (mT σ) (mL σ) x.toNat := fun τ F x hx => by rw [m_byte (F.tp.ok hk) hx, F.tp.T, F.tp.L]
  have pb : ∀ τ : w_M, mo_fr σ τ → ∀ x : Int, 0 ≤ x → p_Model_byteAt x τ := fun τ F x hx => ⟨hx, by rw [F.tp.2]; omega⟩
  have tbn : ∀ q, q < mL σ → 0 ≤ tb (mT σ) (mL σ) q ∧ tb (mT σ) (mL σ) q ≤ 127 := fun q hq => by
    rw [m_tb, if_pos (show q < (σ 122 15).toNat from hq)]
    exact hk.2 q hq
  generalize hT : mT σ = T at *
  generalize hL : mL σ = L at *
  refine (w_loop (n := L - p) (P := fun i => ∀ τ : w_M, mo_fr σ τ → τ 122 20 = 0 → τ 122 16 = ((p + i : Nat) : Int) → (∀ j, p ≤ j → j < p + i → tP_s (tb T L j) = true) → LModel_next_4 xs (d + 1) Q τ) ?_ ?_) σ mo_fr.rfl' h0 hp16 (fun j h1 h2 => by omega)
  · intro τ F i20 i16 hsp
    have hend : tb T L (p + (L - p)) = -1 := by unfold tb; rw [if_neg (by omega)]
    have ef : tk_f T L p = p + (L - p) := rn_of (by rw [hend]; decide) _ _ (by omega) hsp (by omega)
    have ek : tk_k T L p = 0 := by unfold tk_k; rw [if_pos (by omega)]
    refine bModel_next_4 ⟨pb τ F _ (by omega), fun y1 e1 => ?_⟩
    rw [tbb τ F _ (by omega), i16, Int.toNat_natCast, hend] at e1
    refine ⟨fun c => fun τ2 t2 => ?_, fun c => by omega⟩
    have F2 : mo_fr σ τ2 := by rw [t2]; exact F.up (by decide) (by decide)
    have z16 : τ2 122 16 = ((p + (L - p) : Nat) : Int) := by rw [t2, w_up_j (by decide)]; exact i16
    refine ⟨pb τ2 F2 _ (by omega), fun y3 e3 => ?_⟩
    rw [tbb τ2 F2 _ (by omega), z16, Int.toNat_natCast, hend] at e3
    refine ⟨fun c2 => by omega, fun c2 τ15 t15 => hQ' _ ⟨by rw [t15]; exact F2.up (by decide) (by decide), ?_, fun h => absurd ek h, fun h => by omega, fun _ => ⟨?_, by rw [t15, w_up_at, ek]⟩, fun h => by omega⟩⟩
    · rw [t15, w_up_j (by decide), t2, w_up_at, i16, ef]
    · rw [t15, w_up_j (by decide), t2, w_up_j (by decide)]; exact i20
  · intro i hi ih τ F i20 i16 hsp
    have hb := tbn (p + i) (by omega)
    refine bModel_next_4 ⟨pb τ F _ (by omega), fun y1 e1 => ?_⟩
    rw [tbb τ F _ (by omega), i16, Int.toNat_natCast] at e1
    refine ⟨fun c => fun τ2 t2 => ?_, fun c => ⟨⟨by omega, by omega⟩, fun τ17 t17 => ?_⟩⟩
    · have ef : tk_f T L p = p + i := rn_of (tP_sf (by rw [← e1]; exact c)) _ _ (by omega) hsp (by omega)
      have ec : tk_c T L p = tb T L (p + i) := by unfold tk_c; rw [ef]
      have F2 : mo_fr σ τ2 := by rw [t2]; exact F.up (by decide) (by decide)
      have z16 : τ2 122 16 = ((p + i : Nat) : Int) := by rw [t2, w_up_j (by decide)]; exact i16
      have z17 : τ2 122 17 = ((p + i : Nat) : Int) := by rw [t2, w_up_at]; exact i16
      have z20 : τ2 122 20 = 0 := by rw [t2, w_up_j (by decide)]; exact i20
      have kk : Unit → (tk_k T L p = if 97 ≤ tk_c T L p ∧ tk_c T L p ≤ 122 then 1 else if 48 ≤ tk_c T L p ∧ tk_c T L p ≤ 57 then (if tk_d T L p ≤ tk_f T L p + 2 then 2 else 4) else if tk_c T L p = 59 then 3 else 4) := fun _ => by unfold tk_k; rw [if_neg (by omega)]
      refine ⟨pb τ2 F2 _ (by omega), fun y3 e3 => ?_⟩
      rw [tbb τ2 F2 _ (by omega), z16, Int.toNat_natCast, ← ec] at e3
      rw [e3]
      refine ⟨fun c2 => ⟨fun c3 => ⟨fun c4 τ4 t4 => ⟨fun c5 τ5 q5 => ?_, fun c5 τ7 q7 => ?_⟩, fun c4 τ10 t10 τ11 t11 => ?_⟩, fun c3 τ13 t13 => ?_⟩, fun c2 => by omega⟩
      · -- a flaw
        have ek : tk_k T L p = 4 := by rw [kk (), if_neg c3, if_neg c4, if_neg c5]
        have eb : tk_b T L p = p + i + 1 := by unfold tk_b; rw [if_neg c3, if_neg c4, ef]
        have y20 : τ4 122 20 = 0 := by rw [t4, w_up_j (by decide)]; exact z20
        have y17 : τ4 122 17 = ((p + i : Nat) : Int) := by rw [t4, w_up_j (by decide)]; exact z17
        have y16 : τ4 122 16 = ((p + i : Nat) : Int) := by rw [t4, w_up_j (by decide)]; exact z16
        obtain ⟨n1, n2, n3, n4⟩ := need_n q5 rfl y20
        have x16 : τ5 122 16 = ((p + i : Nat) : Int) := by rw [n4 16 (by decide) (by decide)]; exact y16
        refine ⟨⟨by omega, by omega⟩, fun τ6 t6 => hQ' _ ⟨by rw [t6]; exact ((F2.up (by decide) (by decide)).tr (t4 ▸ n3)).up (by decide) (by decide), ?_, fun _ => ?_, fun _ => ⟨?_, ?_⟩, fun h => absurd ek h, fun h => by omega⟩⟩
        · rw [t6, w_up_j (by decide), n4 17 (by decide) (by decide), y17, ef]
        · rw [t6, w_up_at, x16, eb]; omega
        · rw [t6, w_up_j (by decide)]; exact n1
        · rw [t6, w_up_j (by decide), n2, y17, ef]
      · -- a stop
        have ek : tk_k T L p = 3 := by rw [kk (), if_neg c3, if_neg c4, if_pos c5]
        have eb : tk_b T L p = p + i + 1 := by unfold tk_b; rw [if_neg c3, if_neg c4, ef]
        have e7 := need_y q7
        rw [e7]
        have y16 : τ4 122 16 = ((p + i : Nat) : Int) := by rw [t4, w_up_j (by decide)]; exact z16
        refine ⟨⟨by omega, by omega⟩, fun τ6 t6 => hQ' _ ⟨by rw [t6, t4]; exact (F2.up (by decide) (by decide)).up (by decide) (by decide), ?_, fun _ => ?_, fun h => by omega, fun _ => ⟨?_, ?_⟩, fun h => by omega⟩⟩
        · rw [t6, w_up_j (by decide), t4, w_up_j (by decide), z17, ef]
        · rw [t6, w_up_at, y16, eb]; omega
        · rw [t6, w_up_j (by decide), t4, w_up_j (by decide)]; exact z20
        · rw [t6, w_up_j (by decide), t4, w_up_at, ek]
      · -- a number
        have kk2 := kk ()
        rw [if_neg c3, if_pos c4] at kk2
        replace kk : Unit → _ := fun _ => kk2
        clear kk2
        have eb : tk_b T L p = tk_d T L p := by unfold tk_b; rw [if_neg c3, if_pos c4]
        have F11 : mo_fr σ τ11 := by rw [t11, t10]; exact (F2.up (by decide) (by decide)).up (by decide) (by decide)
        refine (w_loop (n := L - (p + i)) (P := fun k => ∀ τ : w_M, mo_fr σ τ → τ 122 20 = 0 → τ 122 18 = 2 → τ 122 17 = ((p + i : Nat) : Int) → τ 122 16 = ((p + i + k : Nat) : Int) → (∀ j, p + i ≤ j → j < p + i + k → tP_f (tb T L j) = true) → τ 122 19 = (if k = 0 then 0 else if k = 1 then tb T L (p + i) - 48 else (tb T L (p + i) - 48) * 10 + tb T L (p + i + 1) - 48) → LModel_next_69 xs (d + 1) Q τ) ?_ ?_) τ11 F11 ?_ ?_ ?_ ?_ (fun j h1 h2 => by omega) ?_
        · intro τ F' j20 j18 j17 j16 hd hv
          have hend : tb T L (p + i + (L - (p + i))) = -1 := by unfold tb; rw [if_neg (by omega)]
          refine bModel_next_69 ⟨pb τ F' _ (by omega), fun y1' e1' => ?_⟩
          rw [tbb τ F' _ (by omega), j16, Int.toNat_natCast, hend] at e1'
          have ed : tk_d T L p = p + i + (L - (p + i)) := by
            unfold tk_d
            rw [ef]
            exact rn_of (by rw [hend]; decide) _ _ (by omega) (fun j h1 h2 => hd j (by omega) h2) (by omega)
          refine ⟨fun c6 => ⟨⟨by omega, by omega⟩, fun c7 τ3 q3 => ?_, fun c7 τ3 q3 => ?_⟩, fun c6 => by omega⟩
          · obtain ⟨n1, n2, n3, n4⟩ := need_n q3 rfl j20
            replace kk := kk ()
            rw [if_neg (by omega)] at kk
            exact hQ' _ ⟨F'.tr n3, by rw [n4 17 (by decide) (by decide), j17, ef], fun _ => by rw [n4 16 (by decide) (by decide), j16, eb, ed], fun _ => ⟨n1, by rw [n2, j17, ef]⟩, fun h => absurd kk h, fun h => by omega⟩
          · rw [need_y q3]
            replace kk := kk ()
            rw [if_pos (by omega)] at kk
            refine hQ' _ ⟨F', by rw [j17, ef], fun _ => by rw [j16, eb, ed], fun h => by omega, fun _ => ⟨j20, by rw [j18, kk]⟩, fun _ => ?_⟩
            rw [hv, if_neg (by omega)]
            unfold tk_v
            rw [ef, ec]
            by_cases e : L - (p + i) = 1
            · rw [if_pos e, if_pos (by omega)]
            · rw [if_neg e, if_neg (by omega)]
        · intro k hk2 ih2 τ F' j20 j18 j17 j16 hd hv
          refine bModel_next_69 ⟨pb τ F' _ (by omega), fun y1' e1' => ?_⟩
          have ey : v_Model_byteAt (τ 122 16) τ = tb T L (p + i + k) := by rw [tbb τ F' _ (by omega), j16, Int.toNat_natCast]
          rw [ey] at e1'
          refine ⟨fun c6 => ⟨⟨by omega, by omega⟩, fun c7 τ3 q3 => ?_, fun c7 τ3 q3 => ?_⟩, fun c6 => ⟨⟨by omega, by omega⟩, fun c7 τ5 t5 => ?_, fun c7 => ?_⟩⟩
          · have k1 : 1 ≤ k := by
              by_cases h : k = 0
              · subst h
                rw [Nat.add_zero, ← ec] at e1'
                rw [e1'] at c6
                exact absurd c4 c6
              · omega
            have ed : tk_d T L p = p + i + k := by
              unfold tk_d
              rw [ef]
              exact rn_of (tP_ff (by rw [← e1']; exact c6)) _ _ (by omega) (fun j h1 h2 => hd j (by omega) h2) (by omega)
            obtain ⟨n1, n2, n3, n4⟩ := need_n q3 rfl j20
            replace kk := kk ()
            rw [if_neg (by omega)] at kk
            exact hQ' _ ⟨F'.tr n3, by rw [n4 17 (by decide) (by decide), j17, ef], fun _ => by rw [n4 16 (by decide) (by decide), j16, eb, ed], fun _ => ⟨n1, by rw [n2, j17, ef]⟩, fun h => absurd kk h, fun h => by omega⟩
          · have k1 : 1 ≤ k := by
              by_cases h : k = 0
              · subst h
                rw [Nat.add_zero, ← ec] at e1'
                rw [e1'] at c6
                exact absurd c4 c6
              · omega
            have ed : tk_d T L p = p + i + k := by
              unfold tk_d
              rw [ef]
              exact rn_of (tP_ff (by rw [← e1']; exact c6)) _ _ (by omega) (fun j h1 h2 => hd j (by omega) h2) (by omega)
            rw [need_y q3]
            replace kk := kk ()
            rw [if_pos (by omega)] at kk
            refine hQ' _ ⟨F', by rw [j17, ef], fun _ => by rw [j16, eb, ed], fun h => by omega, fun _ => ⟨j20, by rw [j18, kk]⟩, fun _ => ?_⟩
            rw [hv, if_neg (by omega)]
            unfold tk_v
            rw [ef, ec]
            by_cases e : k = 1
            · rw [if_pos e, if_pos (by omega)]
            · rw [if_neg e, if_neg (by omega)]
          · have hdk : tP_f (tb T L (p + i + k)) = true := tP_ft.mpr (by rw [← e1']; exact c6)
            have w16 : τ5 122 16 = ((p + i + k : Nat) : Int) := by rw [t5, w_up_j (by decide)]; exact j16
            refine ⟨⟨by omega, by omega⟩, fun τ6 t6 => ih2 τ6 (by rw [t6, t5]; exact (F'.up (by decide) (by decide)).up (by decide) (by decide)) ?_ ?_ ?_ ?_ (fun j h1 h2 => ?_) ?_⟩
            · rw [t6, w_up_j (by decide), t5, w_up_j (by decide)]; exact j20
            · rw [t6, w_up_j (by decide), t5, w_up_j (by decide)]; exact j18
            · rw [t6, w_up_j (by decide), t5, w_up_j (by decide)]; exact j17
            · rw [t6, w_up_at, w16]; omega
            · by_cases e : j = p + i + k
              · rw [e]; exact hdk
              · exact hd j h1 (by omega)
            · rw [t6, w_up_j (by decide), t5, w_up_at, hv, if_neg (by omega), if_neg (by omega), if_neg (by omega), if_neg (by omega)]
          · have hdk : tP_f (tb T L (p + i + k)) = true := tP_ft.mpr (by rw [← e1']; exact c6)
            have hvb : 0 ≤ τ 122 19 ∧ τ 122 19 ≤ 9 := by
              rw [hv]
              by_cases h : k = 0
              · rw [if_pos h]; omega
              · have h1 : k = 1 := by omega
                rw [if_neg h, if_pos h1, ← ec]
                omega
            refine ⟨⟨by omega, by omega⟩, fun y7 e7 => ?_⟩
            rw [ey, ← e1'] at e7
            refine ⟨⟨by omega, by omega⟩, ⟨by omega, by omega⟩, fun τ8 t8 => ?_⟩
            have w16 : τ8 122 16 = ((p + i + k : Nat) : Int) := by rw [t8, w_up_j (by decide)]; exact j16
            refine ⟨⟨by omega, by omega⟩, fun τ9 t9 => ih2 τ9 (by rw [t9, t8]; exact (F'.up (by decide) (by decide)).up (by decide) (by decide)) ?_ ?_ ?_ ?_ (fun j h1 h2 => ?_) ?_⟩
            · rw [t9, w_up_j (by decide), t8, w_up_j (by decide)]; exact j20
            · rw [t9, w_up_j (by decide), t8, w_up_j (by decide)]; exact j18
            · rw [t9, w_up_j (by decide), t8, w_up_j (by decide)]; exact j17
            · rw [t9, w_up_at, w16]; omega
            · by_cases e : j = p + i + k
              · rw [e]; exact hdk
              · exact hd j h1 (by omega)
            · rw [t9, w_up_j (by decide), t8, w_up_at, hv, e7, e1']
              rcases (show k = 0 ∨ k = 1 by omega) with rfl | rfl
              · rw [if_pos rfl, if_neg (by decide), if_pos (by decide), Nat.add_zero]; omega
              · rw [if_neg (by decide), if_pos rfl, if_neg (by decide), if_neg (by decide)]; omega
        · rw [t11, w_up_j (by decide), t10, w_up_j (by decide)]; exact z20
        · rw [t11, w_up_j (by decide), t10, w_up_at]
        · rw [t11, w_up_j (by decide), t10, w_up_j (by decide)]; exact z17
        · rw [t11, w_up_j (by decide), t10, w_up_j (by decide)]; exact z16
        · rw [t11, w_up_at, if_pos rfl]
      · -- a name
        have ek : tk_k T L p = 1 := by rw [kk (), if_pos c3]
        refine (w_loop (n := L - (p + i)) (P := fun k => ∀ τ : w_M, mo_fr σ τ → τ 122 20 = 0 → τ 122 18 = 1 → τ 122 17 = ((p + i : Nat) : Int) → τ 122 16 = ((p + i + k : Nat) : Int) → (∀ j, p + i ≤ j → j < p + i + k → tP_l (tb T L j) = true) → LModel_next_41 xs (d + 1) Q τ) ?_ ?_) τ13 ?_ ?_ ?_ ?_ ?_ (fun j h1 h2 => by omega)
        · intro τ F' j20 j18 j17 j16 hl
          have hend : tb T L (p + i + (L - (p + i))) = -1 := by unfold tb; rw [if_neg (by omega)]
          have eb : tk_b T L p = p + i + (L - (p + i)) := by
            unfold tk_b
            rw [if_pos c3, ef]
            exact rn_of (by rw [hend]; decide) _ _ (by omega) (fun j h1 h2 => hl j (by omega) h2) (by omega)
          refine bModel_next_41 ⟨pb τ F' _ (by omega), fun y1' e1' => ?_⟩
          rw [tbb τ F' _ (by omega), j16, Int.toNat_natCast, hend] at e1'
          exact ⟨fun _ => hQ' _ ⟨F', by rw [j17, ef], fun _ => by rw [j16, eb], fun h => by omega, fun _ => ⟨j20, by rw [j18, ek]⟩, fun h => by omega⟩, fun h => by omega⟩
        · intro k hk2 ih2 τ F' j20 j18 j17 j16 hl
          refine bModel_next_41 ⟨pb τ F' _ (by omega), fun y1' e1' => ?_⟩
          rw [tbb τ F' _ (by omega), j16, Int.toNat_natCast] at e1'
          refine ⟨fun c6 => ?_, fun c6 => ⟨⟨by omega, by omega⟩, fun τ2' t2' => ?_⟩⟩
          · have k1 : 1 ≤ k := by
              by_cases h : k = 0
              · subst h
                rw [Nat.add_zero, ← ec] at e1'
                rw [e1'] at c6
                exact absurd c3 c6
              · omega
            have eb : tk_b T L p = p + i + k := by
              unfold tk_b
              rw [if_pos c3, ef]
              exact rn_of (tP_lf (by rw [← e1']; exact c6)) _ _ (by omega) (fun j h1 h2 => hl j (by omega) h2) (by omega)
            exact hQ' _ ⟨F', by rw [j17, ef], fun _ => by rw [j16, eb], fun h => by omega, fun _ => ⟨j20, by rw [j18, ek]⟩, fun h => by omega⟩
          · refine ih2 τ2' (by rw [t2']; exact F'.up (by decide) (by decide)) ?_ ?_ ?_ ?_ (fun j h1 h2 => ?_)
            · rw [t2', w_up_j (by decide)]; exact j20
            · rw [t2', w_up_j (by decide)]; exact j18
            · rw [t2', w_up_j (by decide)]; exact j17
            · rw [t2', w_up_at, j16]; omega
            · by_cases e : j = p + i + k
              · rw [e]; exact tP_lt.mpr (by rw [← e1']; exact c6)
              · exact hl j h1 (by omega)
        · rw [t13]; exact F2.up (by decide) (by decide)
        · rw [t13, w_up_j (by decide)]; exact z20
        · rw [t13, w_up_at]
        · rw [t13, w_up_j (by decide)]; exact z17
        · rw [t13, w_up_j (by decide)]; exact z16
    · refine ih τ17 (by rw [t17]; exact F.up (by decide) (by decide)) ?_ ?_ (fun j h1 h2 => ?_)
      · rw [t17, w_up_j (by decide)]; exact i20
      · rw [t17, w_up_at, i16]; omega
      · by_cases e : j = p + i
        · rw [e]; exact tP_st (by rw [← e1]; exact c)
        · exact hsp j h1 (by omega)
end
section
/-! The reference reads names and numbers -/
noncomputable def m_pos (σ : w_M) : Prop := m_rk σ ∧ (0 ≤ σ 122 17 ∧ σ 122 17 ≤ σ 122 16) ∧ σ 122 16 ≤ σ 122 15
noncomputable def mb (σ : w_M) (i : Nat) : Int := tb (mT σ) (mL σ) ((σ 122 17).toNat + i)
theorem mb_at {σ : w_M} (h : m_pos σ) (i : Nat) : p_Model_byteAt (σ 122 17 + (i : Int)) σ ∧ v_Model_byteAt (σ 122 17 + (i : Int)) σ = mb σ i := by
  have h1 := h.1.1
  have h2 := h.2.1
  refine ⟨⟨by omega, h1.2⟩, ?_⟩
  rw [m_byte h.1 (by omega)]
  unfold mb
  rw [show (σ 122 17 + (i : Int)).toNat = (σ 122 17).toNat + i by omega]
theorem mb_0 {σ : w_M} (h : m_pos σ) : p_Model_byteAt (σ 122 17) σ ∧ v_Model_byteAt (σ 122 17) σ = mb σ 0 := by
  have := mb_at h 0
  rw [show σ 122 17 + ((0 : Nat) : Int) = σ 122 17 by omega] at this
  exact this
noncomputable def p_Model_is (_ _ _ _ : Int) (σ : w_M) : Prop := m_pos σ
noncomputable def P_Model_is (n a b c : Int) (σ : w_M) : Prop := σ 122 16 - σ 122 17 = n ∧ mb σ 0 = a ∧ mb σ 1 = b ∧ mb σ 2 = c
noncomputable def p_Model_ends (_ _ _ _ : Int) (σ : w_M) : Prop := m_pos σ
noncomputable def P_Model_ends (a b c d : Int) (σ : w_M) : Prop := mb σ 3 = a ∧ mb σ 4 = b ∧ (c = 0 ∨ mb σ 5 = c) ∧ (d = 0 ∨ mb σ 6 = d)
theorem fModel_is_0 : w_fe am_c165 0 1 (.aload 0) := ⟨rfl, rfl⟩
theorem fModel_is_1 : w_fe am_c165 1 2 (.getfield 916) := ⟨rfl, rfl⟩
theorem fModel_is_2 : w_fe am_c165 2 3 (.aload 0) := ⟨rfl, rfl⟩
theorem fModel_is_3 : w_fe am_c165 3 4 (.getfield 917) := ⟨rfl, rfl⟩
theorem fModel_is_4 : w_fe am_c165 4 5 (.isub) := ⟨rfl, rfl⟩
theorem fModel_is_5 : w_fe am_c165 5 6 (.iload 1) := ⟨rfl, rfl⟩
theorem fModel_is_6 : w_ic am_c165 6 7 .ne 31 := ⟨rfl, rfl⟩
theorem fModel_is_7 : w_fe am_c165 7 8 (.aload 0) := ⟨rfl, rfl⟩
theorem fModel_is_8 : w_fe am_c165 8 9 (.aload 0) := ⟨rfl, rfl⟩
theorem fModel_is_9 : w_fe am_c165 9 10 (.getfield 917) := ⟨rfl, rfl⟩
theorem fModel_is_10 : w_fe am_c165 10 11 (.invokestatic 161) := ⟨rfl, rfl⟩
theorem fModel_is_11 : w_fe am_c165 11 12 (.iload 2) := ⟨rfl, rfl⟩
theorem fModel_is_12 : w_ic am_c165 12 13 .ne 31 := ⟨rfl, rfl⟩
theorem fModel_is_13 : w_fe am_c165 13 14 (.aload 0) := ⟨rfl, rfl⟩
theorem fModel_is_14 : w_fe am_c165 14 15 (.aload 0) := ⟨rfl, rfl⟩
theorem fModel_is_15 : w_fe am_c165 15 16 (.getfield 917) := ⟨rfl, rfl⟩
theorem fModel_is_16 : w_fe am_c165 16 17 (.bipush 1) := ⟨rfl, rfl⟩
theorem fModel_is_17 : w_fe am_c165 17 18 (.iadd) := ⟨rfl, rfl⟩
theorem fModel_is_18 : w_fe am_c165 18 19 (.invokestatic 161) := ⟨rfl, rfl⟩
theorem fModel_is_19 : w_fe am_c165 19 20 (.iload 3) := ⟨rfl, rfl⟩
theorem fModel_is_20 : w_ic am_c165 20 21 .ne 31 := ⟨rfl, rfl⟩
theorem fModel_is_21 : w_fe am_c165 21 22 (.aload 0) := ⟨rfl, rfl⟩
theorem fModel_is_22 : w_fe am_c165 22 23 (.aload 0) := ⟨rfl, rfl⟩
theorem fModel_is_23 : w_fe am_c165 23 24 (.getfield 917) := ⟨rfl, rfl⟩
theorem fModel_is_24 : w_fe am_c165 24 25 (.bipush 2) := ⟨rfl, rfl⟩
theorem fModel_is_25 : w_fe am_c165 25 26 (.iadd) := ⟨rfl, rfl⟩
theorem fModel_is_26 : w_fe am_c165 26 27 (.invokestatic 161) := ⟨rfl, rfl⟩
theorem fModel_is_27 : w_fe am_c165 27 28 (.iload 4) := ⟨rfl, rfl⟩
theorem fModel_is_28 : w_ic am_c165 28 29 .ne 31 := ⟨rfl, rfl⟩
theorem fModel_is_29 : w_fe am_c165 29 30 (.bipush 1) := ⟨rfl, rfl⟩
theorem fModel_is_30 : w_gt am_c165 30 32 := rfl
theorem fModel_is_31 : w_fe am_c165 31 32 (.bipush 0) := ⟨rfl, rfl⟩
theorem fModel_is_32 : w_fe am_c165 32 33 (.ireturn) := ⟨rfl, rfl⟩
set_option maxRecDepth 20000 in
theorem bModel_is_0 {xs : List Int} {d : Nat} {Q : Option w_V → w_M → Prop} {x1 : Int} {x2 : Int} {x3 : Int} {x4 : Int} {σ : w_M}
    (h : w_in ((σ 122 16) - (σ 122 17)) ∧ ((¬ ((σ 122 16) - (σ 122 17)) = x1 → Q (some (.inl 0)) σ) ∧ (((σ 122 16) - (σ 122 17)) = x1 → (p_Model_byteAt (σ 122 17) σ ∧ (∀ (y1 : Int), y1 = v_Model_byteAt (σ 122 17) σ → ((¬ y1 = x2 → Q (some (.inl 0)) σ) ∧ (y1 = x2 → (w_in ((σ 122 17) + 1) ∧ p_Model_byteAt ((σ 122 17) + 1) σ ∧ (∀ (y2 : Int), y2 = v_Model_byteAt ((σ 122 17) + 1) σ → ((¬ y2 = x3 → Q (some (.inl 0)) σ) ∧ (y2 = x3 → (w_in ((σ 122 17) + 2) ∧ p_Model_byteAt ((σ 122 17) + 2) σ ∧ (∀ (y3 : Int), y3 = v_Model_byteAt ((σ 122 17) + 2) σ → ((¬ y3 = x4 → Q (some (.inl 0)) σ) ∧ (y3 = x4 → Q (some (.inl 1)) σ))))))))))))))) : w_Call (xs, (d + 1)) 165 [.inr (.inr (9, 122)), .inl x1, .inl x2, .inl x3, .inl x4] σ Q :=
  (w_mk (mid := 165) (by decide) rfl rfl rfl rfl rfl (Nat.le_of_ble_eq_true rfl) ⟨rfl, Or.inl (by decide)⟩ (wi_aload0 fModel_is_0 (wi_getf916 fModel_is_1 (wi_aload0 fModel_is_2 (wi_getf917 fModel_is_3 (wi_isub fModel_is_4 h.1 (wi_iload1 fModel_is_5 (wi_ic_ne fModel_is_6 (fun c7 => (wi_bipush fModel_is_31 (wi_ret2 fModel_is_32 (by decide) (h.2.1 c7)))) (fun c7 => (wi_aload0 fModel_is_7 (wi_aload0 fModel_is_8 (wi_getf917 fModel_is_9 (wi_call2 fModel_is_10 (Nat.le_of_ble_eq_true rfl) (k_Model_byteAt (h.2.2 c7).1 (wi_iload2 fModel_is_11 (wi_ic_ne fModel_is_12 (fun c6 => (wi_bipush fModel_is_31 (wi_ret2 fModel_is_32 (by decide) (((h.2.2 c7).2 _ rfl).1 c6)))) (fun c6 => (wi_aload0 fModel_is_13 (wi_aload0 fModel_is_14 (wi_getf917 fModel_is_15 (wi_bipush fModel_is_16 (wi_iadd fModel_is_17 (((h.2.2 c7).2 _ rfl).2 c6).1 (wi_call2 fModel_is_18 (Nat.le_of_ble_eq_true rfl) (k_Model_byteAt (((h.2.2 c7).2 _ rfl).2 c6).2.1 (wi_iload3 fModel_is_19 (wi_ic_ne fModel_is_20 (fun c5 => (wi_bipush fModel_is_31 (wi_ret2 fModel_is_32 (by decide) (((((h.2.2 c7).2 _ rfl).2 c6).2.2 _ rfl).1 c5)))) (fun c5 => (wi_aload0 fModel_is_21 (wi_aload0 fModel_is_22 (wi_getf917 fModel_is_23 (wi_bipush fModel_is_24 (wi_iadd fModel_is_25 (((((h.2.2 c7).2 _ rfl).2 c6).2.2 _ rfl).2 c5).1 (wi_call2 fModel_is_26 (Nat.le_of_ble_eq_true rfl) (k_Model_byteAt (((((h.2.2 c7).2 _ rfl).2 c6).2.2 _ rfl).2 c5).2.1 (wi_iload4 fModel_is_27 (wi_ic_ne fModel_is_28 (fun c4 => (wi_bipush fModel_is_31 (wi_ret2 fModel_is_32 (by decide) (((((((h.2.2 c7).2 _ rfl).2 c6).2.2 _ rfl).2 c5).2.2 _ rfl).1 c4)))) (fun c4 => (wi_bipush fModel_is_29 (wi_goto fModel_is_30 (wi_ret2 fModel_is_32 (by decide) (((((((h.2.2 c7).2 _ rfl).2 c6).2.2 _ rfl).2 c5).2.2 _ rfl).2 c4)))))))))))))))))))))))))))))))))))))))))
theorem fModel_ends_0 : w_fe am_c166 0 1 (.aload 0) := ⟨rfl, rfl⟩
theorem fModel_ends_1 : w_fe am_c166 1 2 (.aload 0) := ⟨rfl, rfl⟩
theorem fModel_ends_2 : w_fe am_c166 2 3 (.getfield 917) := ⟨rfl, rfl⟩
theorem fModel_ends_3 : w_fe am_c166 3 4 (.bipush 3) := ⟨rfl, rfl⟩
theorem fModel_ends_4 : w_fe am_c166 4 5 (.iadd) := ⟨rfl, rfl⟩
theorem fModel_ends_5 : w_fe am_c166 5 6 (.invokestatic 161) := ⟨rfl, rfl⟩
theorem fModel_ends_6 : w_fe am_c166 6 7 (.iload 1) := ⟨rfl, rfl⟩
theorem fModel_ends_7 : w_ic am_c166 7 8 .ne 38 := ⟨rfl, rfl⟩
theorem fModel_ends_8 : w_fe am_c166 8 9 (.aload 0) := ⟨rfl, rfl⟩
theorem fModel_ends_9 : w_fe am_c166 9 10 (.aload 0) := ⟨rfl, rfl⟩
theorem fModel_ends_10 : w_fe am_c166 10 11 (.getfield 917) := ⟨rfl, rfl⟩
theorem fModel_ends_11 : w_fe am_c166 11 12 (.bipush 4) := ⟨rfl, rfl⟩
theorem fModel_ends_12 : w_fe am_c166 12 13 (.iadd) := ⟨rfl, rfl⟩
theorem fModel_ends_13 : w_fe am_c166 13 14 (.invokestatic 161) := ⟨rfl, rfl⟩
theorem fModel_ends_14 : w_fe am_c166 14 15 (.iload 2) := ⟨rfl, rfl⟩
theorem fModel_ends_15 : w_ic am_c166 15 16 .ne 38 := ⟨rfl, rfl⟩
theorem fModel_ends_16 : w_fe am_c166 16 17 (.iload 3) := ⟨rfl, rfl⟩
theorem fModel_ends_17 : w_if am_c166 17 18 .eq 26 := ⟨rfl, rfl⟩
theorem fModel_ends_18 : w_fe am_c166 18 19 (.aload 0) := ⟨rfl, rfl⟩
theorem fModel_ends_19 : w_fe am_c166 19 20 (.aload 0) := ⟨rfl, rfl⟩
theorem fModel_ends_20 : w_fe am_c166 20 21 (.getfield 917) := ⟨rfl, rfl⟩
theorem fModel_ends_21 : w_fe am_c166 21 22 (.bipush 5) := ⟨rfl, rfl⟩
theorem fModel_ends_22 : w_fe am_c166 22 23 (.iadd) := ⟨rfl, rfl⟩
theorem fModel_ends_23 : w_fe am_c166 23 24 (.invokestatic 161) := ⟨rfl, rfl⟩
theorem fModel_ends_24 : w_fe am_c166 24 25 (.iload 3) := ⟨rfl, rfl⟩
theorem fModel_ends_25 : w_ic am_c166 25 26 .ne 38 := ⟨rfl, rfl⟩
theorem fModel_ends_26 : w_fe am_c166 26 27 (.iload 4) := ⟨rfl, rfl⟩
theorem fModel_ends_27 : w_if am_c166 27 28 .eq 36 := ⟨rfl, rfl⟩
theorem fModel_ends_28 : w_fe am_c166 28 29 (.aload 0) := ⟨rfl, rfl⟩
theorem fModel_ends_29 : w_fe am_c166 29 30 (.aload 0) := ⟨rfl, rfl⟩
theorem fModel_ends_30 : w_fe am_c166 30 31 (.getfield 917) := ⟨rfl, rfl⟩
theorem fModel_ends_31 : w_fe am_c166 31 32 (.bipush 6) := ⟨rfl, rfl⟩
theorem fModel_ends_32 : w_fe am_c166 32 33 (.iadd) := ⟨rfl, rfl⟩
theorem fModel_ends_33 : w_fe am_c166 33 34 (.invokestatic 161) := ⟨rfl, rfl⟩
theorem fModel_ends_34 : w_fe am_c166 34 35 (.iload 4) := ⟨rfl, rfl⟩
theorem fModel_ends_35 : w_ic am_c166 35 36 .ne 38 := ⟨rfl, rfl⟩
theorem fModel_ends_36 : w_fe am_c166 36 37 (.bipush 1) := ⟨rfl, rfl⟩
theorem fModel_ends_37 : w_gt am_c166 37 39 := rfl
theorem fModel_ends_38 : w_fe am_c166 38 39 (.bipush 0) := ⟨rfl, rfl⟩
theorem fModel_ends_39 : w_fe am_c166 39 40 (.ireturn) := ⟨rfl, rfl⟩
set_option maxRecDepth 20000 in
theorem bModel_ends_0 {xs : List Int} {d : Nat} {Q : Option w_V → w_M → Prop} {x1 : Int} {x2 : Int} {x3 : Int} {x4 : Int} {σ : w_M}
    (h : w_in ((σ 122 17) + 3) ∧ p_Model_byteAt ((σ 122 17) + 3) σ ∧ (∀ (y1 : Int), y1 = v_Model_byteAt ((σ 122 17) + 3) σ → ((¬ y1 = x1 → Q (some (.inl 0)) σ) ∧ (y1 = x1 → (w_in ((σ 122 17) + 4) ∧ p_Model_byteAt ((σ 122 17) + 4) σ ∧ (∀ (y2 : Int), y2 = v_Model_byteAt ((σ 122 17) + 4) σ → ((¬ y2 = x2 → Q (some (.inl 0)) σ) ∧ (y2 = x2 → ((x3 = 0 → ((x4 = 0 → Q (some (.inl 1)) σ) ∧ (¬ x4 = 0 → (w_in ((σ 122 17) + 6) ∧ p_Model_byteAt ((σ 122 17) + 6) σ ∧ (∀ (y3 : Int), y3 = v_Model_byteAt ((σ 122 17) + 6) σ → ((¬ y3 = x4 → Q (some (.inl 0)) σ) ∧ (y3 = x4 → Q (some (.inl 1)) σ))))))) ∧ (¬ x3 = 0 → (w_in ((σ 122 17) + 5) ∧ p_Model_byteAt ((σ 122 17) + 5) σ ∧ (∀ (y6 : Int), y6 = v_Model_byteAt ((σ 122 17) + 5) σ → ((¬ y6 = x3 → Q (some (.inl 0)) σ) ∧ (y6 = x3 → ((x4 = 0 → Q (some (.inl 1)) σ) ∧ (¬ x4 = 0 → (w_in ((σ 122 17) + 6) ∧ p_Model_byteAt ((σ 122 17) + 6) σ ∧ (∀ (y7 : Int), y7 = v_Model_byteAt ((σ 122 17) + 6) σ → ((¬ y7 = x4 → Q (some (.inl 0)) σ) ∧ (y7 = x4 → Q (some (.inl 1)) σ)))))))))))))))))))) : w_Call (xs, (d + 1)) 166 [.inr (.inr (9, 122)), .inl x1, .inl x2, .inl x3, .inl x4] σ Q :=
  (w_mk (mid := 166) (by decide) rfl rfl rfl rfl rfl (Nat.le_of_ble_eq_true rfl) ⟨rfl, Or.inl (by decide)⟩ (wi_aload0 fModel_ends_0 (wi_aload0 fModel_ends_1 (wi_getf917 fModel_ends_2 (wi_bipush fModel_ends_3 (wi_iadd fModel_ends_4 h.1 (wi_call2 fModel_ends_5 (Nat.le_of_ble_eq_true rfl) (k_Model_byteAt h.2.1 (wi_iload1 fModel_ends_6 (wi_ic_ne fModel_ends_7 (fun c13 => (wi_bipush fModel_ends_38 (wi_ret2 fModel_ends_39 (by decide) ((h.2.2 _ rfl).1 c13)))) (fun c13 => (wi_aload0 fModel_ends_8 (wi_aload0 fModel_ends_9 (wi_getf917 fModel_ends_10 (wi_bipush fModel_ends_11 (wi_iadd fModel_ends_12 ((h.2.2 _ rfl).2 c13).1 (wi_call2 fModel_ends_13 (Nat.le_of_ble_eq_true rfl) (k_Model_byteAt ((h.2.2 _ rfl).2 c13).2.1 (wi_iload2 fModel_ends_14 (wi_ic_ne fModel_ends_15 (fun c12 => (wi_bipush fModel_ends_38 (wi_ret2 fModel_ends_39 (by decide) ((((h.2.2 _ rfl).2 c13).2.2 _ rfl).1 c12)))) (fun c12 => (wi_iload3 fModel_ends_16 (wi_if_eq fModel_ends_17 (fun c11 => (wi_iload4 fModel_ends_26 (wi_if_eq fModel_ends_27 (fun c5 => (wi_bipush fModel_ends_36 (wi_goto fModel_ends_37 (wi_ret2 fModel_ends_39 (by decide) ((((((h.2.2 _ rfl).2 c13).2.2 _ rfl).2 c12).1 c11).1 c5))))) (fun c5 => (wi_aload0 fModel_ends_28 (wi_aload0 fModel_ends_29 (wi_getf917 fModel_ends_30 (wi_bipush fModel_ends_31 (wi_iadd fModel_ends_32 ((((((h.2.2 _ rfl).2 c13).2.2 _ rfl).2 c12).1 c11).2 c5).1 (wi_call2 fModel_ends_33 (Nat.le_of_ble_eq_true rfl) (k_Model_byteAt ((((((h.2.2 _ rfl).2 c13).2.2 _ rfl).2 c12).1 c11).2 c5).2.1 (wi_iload4 fModel_ends_34 (wi_ic_ne fModel_ends_35 (fun c4 => (wi_bipush fModel_ends_38 (wi_ret2 fModel_ends_39 (by decide) ((((((((h.2.2 _ rfl).2 c13).2.2 _ rfl).2 c12).1 c11).2 c5).2.2 _ rfl).1 c4)))) (fun c4 => (wi_bipush fModel_ends_36 (wi_goto fModel_ends_37 (wi_ret2 fModel_ends_39 (by decide) ((((((((h.2.2 _ rfl).2 c13).2.2 _ rfl).2 c12).1 c11).2 c5).2.2 _ rfl).2 c4)))))))))))))))))) (fun c11 => (wi_aload0 fModel_ends_18 (wi_aload0 fModel_ends_19 (wi_getf917 fModel_ends_20 (wi_bipush fModel_ends_21 (wi_iadd fModel_ends_22 (((((h.2.2 _ rfl).2 c13).2.2 _ rfl).2 c12).2 c11).1 (wi_call2 fModel_ends_23 (Nat.le_of_ble_eq_true rfl) (k_Model_byteAt (((((h.2.2 _ rfl).2 c13).2.2 _ rfl).2 c12).2 c11).2.1 (wi_iload3 fModel_ends_24 (wi_ic_ne fModel_ends_25 (fun c10 => (wi_bipush fModel_ends_38 (wi_ret2 fModel_ends_39 (by decide) (((((((h.2.2 _ rfl).2 c13).2.2 _ rfl).2 c12).2 c11).2.2 _ rfl).1 c10)))) (fun c10 => (wi_iload4 fModel_ends_26 (wi_if_eq fModel_ends_27 (fun c9 => (wi_bipush fModel_ends_36 (wi_goto fModel_ends_37 (wi_ret2 fModel_ends_39 (by decide) ((((((((h.2.2 _ rfl).2 c13).2.2 _ rfl).2 c12).2 c11).2.2 _ rfl).2 c10).1 c9))))) (fun c9 => (wi_aload0 fModel_ends_28 (wi_aload0 fModel_ends_29 (wi_getf917 fModel_ends_30 (wi_bipush fModel_ends_31 (wi_iadd fModel_ends_32 ((((((((h.2.2 _ rfl).2 c13).2.2 _ rfl).2 c12).2 c11).2.2 _ rfl).2 c10).2 c9).1 (wi_call2 fModel_ends_33 (Nat.le_of_ble_eq_true rfl) (k_Model_byteAt ((((((((h.2.2 _ rfl).2 c13).2.2 _ rfl).2 c12).2 c11).2.2 _ rfl).2 c10).2 c9).2.1 (wi_iload4 fModel_ends_34 (wi_ic_ne fModel_ends_35 (fun c8 => (wi_bipush fModel_ends_38 (wi_ret2 fModel_ends_39 (by decide) ((((((((((h.2.2 _ rfl).2 c13).2.2 _ rfl).2 c12).2 c11).2.2 _ rfl).2 c10).2 c9).2.2 _ rfl).1 c8)))) (fun c8 => (wi_bipush fModel_ends_36 (wi_goto fModel_ends_37 (wi_ret2 fModel_ends_39 (by decide) ((((((((((h.2.2 _ rfl).2 c13).2.2 _ rfl).2 c12).2 c11).2.2 _ rfl).2 c10).2 c9).2.2 _ rfl).2 c8)))))))))))))))))))))))))))))))))))))))))))))))))))
theorem k_Model_is {xs : List Int} {d : Nat} {Q : Option w_V → w_M → Prop} {x1 : Int} {x2 : Int} {x3 : Int} {x4 : Int} {σ : w_M} (hp : p_Model_is x1 x2 x3 x4 σ) (hQ : Q (some (.inl (w_bi (P_Model_is x1 x2 x3 x4 σ)))) σ) : w_Call (xs, d + 1) 165 [.inr (.inr (9, 122)), .inl x1, .inl x2, .inl x3, .inl x4] σ Q := by
  have h : m_pos σ := hp
  have h1 := h.1.1
  have h2 := h.2
  have no : ¬ P_Model_is x1 x2 x3 x4 σ → Q (some (.inl 0)) σ := fun q => by rw [w_bi_f q] at hQ; exact hQ
  have b0 := mb_0 h
  have b1 := mb_at h 1
  have b2 := mb_at h 2
  refine bModel_is_0 ⟨⟨by omega, by omega⟩, fun c => no (fun q => c q.1), fun c => ⟨b0.1, fun y1 e1 => ⟨fun c1 => no (fun q => c1 (by rw [e1, b0.2]; exact q.2.1)), fun c1 => ⟨⟨by omega, by omega⟩, b1.1, fun y2 e2 => ⟨fun c2 => no (fun q => c2 (by rw [e2]; exact b1.2.trans q.2.2.1)), fun c2 => ⟨⟨by omega, by omega⟩, b2.1, fun y3 e3 => ⟨fun c3 => no (fun q => c3 (by rw [e3]; exact b2.2.trans q.2.2.2)), fun c3 => ?_⟩⟩⟩⟩⟩⟩⟩
  rw [w_bi_t (show P_Model_is x1 x2 x3 x4 σ from ⟨c, by rw [← b0.2, ← e1]; exact c1, by rw [← b1.2]; exact e2.symm.trans c2, by rw [← b2.2]; exact e3.symm.trans c3⟩)] at hQ
  exact hQ
theorem k_Model_ends {xs : List Int} {d : Nat} {Q : Option w_V → w_M → Prop} {x1 : Int} {x2 : Int} {x3 : Int} {x4 : Int} {σ : w_M} (hp : p_Model_ends x1 x2 x3 x4 σ) (hQ : Q (some (.inl (w_bi (P_Model_ends x1 x2 x3 x4 σ)))) σ) : w_Call (xs, d + 1) 166 [.inr (.inr (9, 122)), .inl x1, .inl x2, .inl x3, .inl x4] σ Q := by
  have h : m_pos σ := hp
  have h1 := h.1.1
  have h2 := h.2
  have no : ¬ P_Model_ends x1 x2 x3 x4 σ → Q (some (.inl 0)) σ := fun q => by rw [w_bi_f q] at hQ; exact hQ
  have ys : P_Model_ends x1 x2 x3 x4 σ → Q (some (.inl 1)) σ := fun q => by rw [w_bi_t q] at hQ; exact hQ
  have b3 := mb_at h 3
  have b4 := mb_at h 4
  have b5 := mb_at h 5
  have b6 := mb_at h 6
  refine bModel_ends_0 ⟨⟨by omega, by omega⟩, b3.1, fun y1 e1 => ⟨fun c1 => no (fun q => c1 (e1.trans (b3.2.trans q.1))), fun c1 => ⟨⟨by omega, by omega⟩, b4.1, fun y2 e2 => ⟨fun c2 => no (fun q => c2 (e2.trans (b4.2.trans q.2.1))), fun c2 => ?_⟩⟩⟩⟩
  have q3 : mb σ 3 = x1 := b3.2.symm.trans (e1.symm.trans c1)
  have q4 : mb σ 4 = x2 := b4.2.symm.trans (e2.symm.trans c2)
  refine ⟨fun c3 => ⟨fun c4 => ys ⟨q3, q4, Or.inl c3, Or.inl c4⟩, fun c4 => ⟨⟨by omega, by omega⟩, b6.1, fun y3 e3 => ⟨fun c5 => no (fun q => q.2.2.2.elim c4 (fun q => c5 (e3.trans (b6.2.trans q)))), fun c5 => ys ⟨q3, q4, Or.inl c3, Or.inr (b6.2.symm.trans (e3.symm.trans c5))⟩⟩⟩⟩, fun c3 => ⟨⟨by omega, by omega⟩, b5.1, fun y6 e6 => ⟨fun c5 => no (fun q => q.2.2.1.elim c3 (fun q => c5 (e6.trans (b5.2.trans q)))), fun c5 => ⟨fun c4 => ys ⟨q3, q4, Or.inr (b5.2.symm.trans (e6.symm.trans c5)), Or.inl c4⟩, fun c4 => ⟨⟨by omega, by omega⟩, b6.1, fun y7 e7 => ⟨fun c6 => no (fun q => q.2.2.2.elim c4 (fun q => c6 (e7.trans (b6.2.trans q)))), fun c6 => ys ⟨q3, q4, Or.inr (b5.2.symm.trans (e6.symm.trans c5)), Or.inr (b6.2.symm.trans (e7.symm.trans c6))⟩⟩⟩⟩⟩⟩⟩
noncomputable def p_Model_lineNow (σ : w_M) : Prop := m_pos σ
noncomputable def v_Model_lineNow (σ : w_M) : Int := if ln_n (mT σ) (mL σ) (σ 122 17).toNat (σ 122 16).toNat = -1 then -4 else ln_n (mT σ) (mL σ) (σ 122 17).toNat (σ 122 16).toNat
theorem nm_m {σ : w_M} (h : m_pos σ) : (nm_is (mT σ) (mL σ) (σ 122 17).toNat (σ 122 16).toNat 0 ↔ P_Model_is 5 110 105 103 σ ∧ P_Model_ends 104 116 0 0 σ) ∧ (nm_is (mT σ) (mL σ) (σ 122 17).toNat (σ 122 16).toNat 1 ↔ P_Model_is 5 115 116 114 σ ∧ P_Model_ends 105 112 0 0 σ) ∧ (nm_is (mT σ) (mL σ) (σ 122 17).toNat (σ 122 16).toNat 2 ↔ P_Model_is 6 114 101 97 σ ∧ P_Model_ends 112 101 114 0 σ) ∧ (nm_is (mT σ) (mL σ) (σ 122 17).toNat (σ 122 16).toNat 3 ↔ P_Model_is 5 99 108 111 σ ∧ P_Model_ends 117 100 0 0 σ) ∧ (nm_is (mT σ) (mL σ) (σ 122 17).toNat (σ 122 16).toNat 4 ↔ P_Model_is 7 116 104 105 σ ∧ P_Model_ends 115 116 108 101 σ) := by
  have h1 := h.1.1
  have h2 := h.2
  unfold nm_is P_Model_is P_Model_ends mb
  refine ⟨?_, ?_, ?_, ?_, ?_⟩
  · constructor
    · rintro ⟨a, b⟩
      have a' : (σ 122 16).toNat = (σ 122 17).toNat + 5 := a
      exact ⟨⟨by omega, b 0 (by decide), b 1 (by decide), b 2 (by decide)⟩, b 3 (by decide), b 4 (by decide), Or.inl rfl, Or.inl rfl⟩
    · rintro ⟨⟨a, b0, b1, b2⟩, b3, b4, -, -⟩
      refine ⟨by show (σ 122 16).toNat = (σ 122 17).toNat + 5; omega, fun i hi => ?_⟩
      have hi' : i < 5 := hi
      rcases (show i = 0 ∨ i = 1 ∨ i = 2 ∨ i = 3 ∨ i = 4 by omega) with rfl | rfl | rfl | rfl | rfl <;> assumption
  · constructor
    · rintro ⟨a, b⟩
      have a' : (σ 122 16).toNat = (σ 122 17).toNat + 5 := a
      exact ⟨⟨by omega, b 0 (by decide), b 1 (by decide), b 2 (by decide)⟩, b 3 (by decide), b 4 (by decide), Or.inl rfl, Or.inl rfl⟩
    · rintro ⟨⟨a, b0, b1, b2⟩, b3, b4, -, -⟩
      refine ⟨by show (σ 122 16).toNat = (σ 122 17).toNat + 5; omega, fun i hi => ?_⟩
      have hi' : i < 5 := hi
      rcases (show i = 0 ∨ i = 1 ∨ i = 2 ∨ i = 3 ∨ i = 4 by omega) with rfl | rfl | rfl | rfl | rfl <;> assumption
  · constructor
    · rintro ⟨a, b⟩
      have a' : (σ 122 16).toNat = (σ 122 17).toNat + 6 := a
      exact ⟨⟨by omega, b 0 (by decide), b 1 (by decide), b 2 (by decide)⟩, b 3 (by decide), b 4 (by decide), Or.inr (b 5 (by decide)), Or.inl rfl⟩
    · rintro ⟨⟨a, b0, b1, b2⟩, b3, b4, b5, -⟩
      have b5' := b5.resolve_left (by decide)
      refine ⟨by show (σ 122 16).toNat = (σ 122 17).toNat + 6; omega, fun i hi => ?_⟩
      have hi' : i < 6 := hi
      rcases (show i = 0 ∨ i = 1 ∨ i = 2 ∨ i = 3 ∨ i = 4 ∨ i = 5 by omega) with rfl | rfl | rfl | rfl | rfl | rfl <;> assumption
  · constructor
    · rintro ⟨a, b⟩
      have a' : (σ 122 16).toNat = (σ 122 17).toNat + 5 := a
      exact ⟨⟨by omega, b 0 (by decide), b 1 (by decide), b 2 (by decide)⟩, b 3 (by decide), b 4 (by decide), Or.inl rfl, Or.inl rfl⟩
    · rintro ⟨⟨a, b0, b1, b2⟩, b3, b4, -, -⟩
      refine ⟨by show (σ 122 16).toNat = (σ 122 17).toNat + 5; omega, fun i hi => ?_⟩
      have hi' : i < 5 := hi
      rcases (show i = 0 ∨ i = 1 ∨ i = 2 ∨ i = 3 ∨ i = 4 by omega) with rfl | rfl | rfl | rfl | rfl <;> assumption
  · constructor
    · rintro ⟨a, b⟩
      have a' : (σ 122 16).toNat = (σ 122 17).toNat + 7 := a
      exact ⟨⟨by omega, b 0 (by decide), b 1 (by decide), b 2 (by decide)⟩, b 3 (by decide), b 4 (by decide), Or.inr (b 5 (by decide)), Or.inr (b 6 (by decide))⟩
    · rintro ⟨⟨a, b0, b1, b2⟩, b3, b4, b5, b6⟩
      have b5' := b5.resolve_left (by decide)
      have b6' := b6.resolve_left (by decide)
      refine ⟨by show (σ 122 16).toNat = (σ 122 17).toNat + 7; omega, fun i hi => ?_⟩
      have hi' : i < 7 := hi
      rcases (show i = 0 ∨ i = 1 ∨ i = 2 ∨ i = 3 ∨ i = 4 ∨ i = 5 ∨ i = 6 by omega) with rfl | rfl | rfl | rfl | rfl | rfl | rfl <;> assumption
theorem fModel_lineNow_0 : w_fe am_c164 0 1 (.aload 0) := ⟨rfl, rfl⟩
theorem fModel_lineNow_1 : w_fe am_c164 1 2 (.bipush 5) := ⟨rfl, rfl⟩
theorem fModel_lineNow_2 : w_fe am_c164 2 3 (.bipush 110) := ⟨rfl, rfl⟩
theorem fModel_lineNow_3 : w_fe am_c164 3 4 (.bipush 105) := ⟨rfl, rfl⟩
theorem fModel_lineNow_4 : w_fe am_c164 4 5 (.bipush 103) := ⟨rfl, rfl⟩
theorem fModel_lineNow_5 : w_fe am_c164 5 6 (.invokestatic 165) := ⟨rfl, rfl⟩
theorem fModel_lineNow_6 : w_if am_c164 6 7 .eq 16 := ⟨rfl, rfl⟩
theorem fModel_lineNow_7 : w_fe am_c164 7 8 (.aload 0) := ⟨rfl, rfl⟩
theorem fModel_lineNow_8 : w_fe am_c164 8 9 (.bipush 104) := ⟨rfl, rfl⟩
theorem fModel_lineNow_9 : w_fe am_c164 9 10 (.bipush 116) := ⟨rfl, rfl⟩
theorem fModel_lineNow_10 : w_fe am_c164 10 11 (.bipush 0) := ⟨rfl, rfl⟩
theorem fModel_lineNow_11 : w_fe am_c164 11 12 (.bipush 0) := ⟨rfl, rfl⟩
theorem fModel_lineNow_12 : w_fe am_c164 12 13 (.invokestatic 166) := ⟨rfl, rfl⟩
theorem fModel_lineNow_13 : w_if am_c164 13 14 .eq 16 := ⟨rfl, rfl⟩
theorem fModel_lineNow_14 : w_fe am_c164 14 15 (.bipush 0) := ⟨rfl, rfl⟩
theorem fModel_lineNow_15 : w_fe am_c164 15 16 (.ireturn) := ⟨rfl, rfl⟩
theorem fModel_lineNow_16 : w_fe am_c164 16 17 (.aload 0) := ⟨rfl, rfl⟩
theorem fModel_lineNow_17 : w_fe am_c164 17 18 (.bipush 5) := ⟨rfl, rfl⟩
theorem fModel_lineNow_18 : w_fe am_c164 18 19 (.bipush 115) := ⟨rfl, rfl⟩
theorem fModel_lineNow_19 : w_fe am_c164 19 20 (.bipush 116) := ⟨rfl, rfl⟩
theorem fModel_lineNow_20 : w_fe am_c164 20 21 (.bipush 114) := ⟨rfl, rfl⟩
theorem fModel_lineNow_21 : w_fe am_c164 21 22 (.invokestatic 165) := ⟨rfl, rfl⟩
theorem fModel_lineNow_22 : w_if am_c164 22 23 .eq 32 := ⟨rfl, rfl⟩
theorem fModel_lineNow_23 : w_fe am_c164 23 24 (.aload 0) := ⟨rfl, rfl⟩
theorem fModel_lineNow_24 : w_fe am_c164 24 25 (.bipush 105) := ⟨rfl, rfl⟩
theorem fModel_lineNow_25 : w_fe am_c164 25 26 (.bipush 112) := ⟨rfl, rfl⟩
theorem fModel_lineNow_26 : w_fe am_c164 26 27 (.bipush 0) := ⟨rfl, rfl⟩
theorem fModel_lineNow_27 : w_fe am_c164 27 28 (.bipush 0) := ⟨rfl, rfl⟩
theorem fModel_lineNow_28 : w_fe am_c164 28 29 (.invokestatic 166) := ⟨rfl, rfl⟩
theorem fModel_lineNow_29 : w_if am_c164 29 30 .eq 32 := ⟨rfl, rfl⟩
theorem fModel_lineNow_30 : w_fe am_c164 30 31 (.bipush 1) := ⟨rfl, rfl⟩
theorem fModel_lineNow_31 : w_fe am_c164 31 32 (.ireturn) := ⟨rfl, rfl⟩
theorem fModel_lineNow_32 : w_fe am_c164 32 33 (.aload 0) := ⟨rfl, rfl⟩
theorem fModel_lineNow_33 : w_fe am_c164 33 34 (.bipush 6) := ⟨rfl, rfl⟩
theorem fModel_lineNow_34 : w_fe am_c164 34 35 (.bipush 114) := ⟨rfl, rfl⟩
theorem fModel_lineNow_35 : w_fe am_c164 35 36 (.bipush 101) := ⟨rfl, rfl⟩
theorem fModel_lineNow_36 : w_fe am_c164 36 37 (.bipush 97) := ⟨rfl, rfl⟩
theorem fModel_lineNow_37 : w_fe am_c164 37 38 (.invokestatic 165) := ⟨rfl, rfl⟩
theorem fModel_lineNow_38 : w_if am_c164 38 39 .eq 48 := ⟨rfl, rfl⟩
theorem fModel_lineNow_39 : w_fe am_c164 39 40 (.aload 0) := ⟨rfl, rfl⟩
theorem fModel_lineNow_40 : w_fe am_c164 40 41 (.bipush 112) := ⟨rfl, rfl⟩
theorem fModel_lineNow_41 : w_fe am_c164 41 42 (.bipush 101) := ⟨rfl, rfl⟩
theorem fModel_lineNow_42 : w_fe am_c164 42 43 (.bipush 114) := ⟨rfl, rfl⟩
theorem fModel_lineNow_43 : w_fe am_c164 43 44 (.bipush 0) := ⟨rfl, rfl⟩
theorem fModel_lineNow_44 : w_fe am_c164 44 45 (.invokestatic 166) := ⟨rfl, rfl⟩
theorem fModel_lineNow_45 : w_if am_c164 45 46 .eq 48 := ⟨rfl, rfl⟩
theorem fModel_lineNow_46 : w_fe am_c164 46 47 (.bipush 2) := ⟨rfl, rfl⟩
theorem fModel_lineNow_47 : w_fe am_c164 47 48 (.ireturn) := ⟨rfl, rfl⟩
theorem fModel_lineNow_48 : w_fe am_c164 48 49 (.aload 0) := ⟨rfl, rfl⟩
theorem fModel_lineNow_49 : w_fe am_c164 49 50 (.bipush 5) := ⟨rfl, rfl⟩
theorem fModel_lineNow_50 : w_fe am_c164 50 51 (.bipush 99) := ⟨rfl, rfl⟩
theorem fModel_lineNow_51 : w_fe am_c164 51 52 (.bipush 108) := ⟨rfl, rfl⟩
theorem fModel_lineNow_52 : w_fe am_c164 52 53 (.bipush 111) := ⟨rfl, rfl⟩
theorem fModel_lineNow_53 : w_fe am_c164 53 54 (.invokestatic 165) := ⟨rfl, rfl⟩
theorem fModel_lineNow_54 : w_if am_c164 54 55 .eq 64 := ⟨rfl, rfl⟩
theorem fModel_lineNow_55 : w_fe am_c164 55 56 (.aload 0) := ⟨rfl, rfl⟩
theorem fModel_lineNow_56 : w_fe am_c164 56 57 (.bipush 117) := ⟨rfl, rfl⟩
theorem fModel_lineNow_57 : w_fe am_c164 57 58 (.bipush 100) := ⟨rfl, rfl⟩
theorem fModel_lineNow_58 : w_fe am_c164 58 59 (.bipush 0) := ⟨rfl, rfl⟩
theorem fModel_lineNow_59 : w_fe am_c164 59 60 (.bipush 0) := ⟨rfl, rfl⟩
theorem fModel_lineNow_60 : w_fe am_c164 60 61 (.invokestatic 166) := ⟨rfl, rfl⟩
theorem fModel_lineNow_61 : w_if am_c164 61 62 .eq 64 := ⟨rfl, rfl⟩
theorem fModel_lineNow_62 : w_fe am_c164 62 63 (.bipush 3) := ⟨rfl, rfl⟩
theorem fModel_lineNow_63 : w_gt am_c164 63 81 := rfl
theorem fModel_lineNow_64 : w_fe am_c164 64 65 (.aload 0) := ⟨rfl, rfl⟩
theorem fModel_lineNow_65 : w_fe am_c164 65 66 (.bipush 7) := ⟨rfl, rfl⟩
theorem fModel_lineNow_66 : w_fe am_c164 66 67 (.bipush 116) := ⟨rfl, rfl⟩
theorem fModel_lineNow_67 : w_fe am_c164 67 68 (.bipush 104) := ⟨rfl, rfl⟩
theorem fModel_lineNow_68 : w_fe am_c164 68 69 (.bipush 105) := ⟨rfl, rfl⟩
theorem fModel_lineNow_69 : w_fe am_c164 69 70 (.invokestatic 165) := ⟨rfl, rfl⟩
theorem fModel_lineNow_70 : w_if am_c164 70 71 .eq 80 := ⟨rfl, rfl⟩
theorem fModel_lineNow_71 : w_fe am_c164 71 72 (.aload 0) := ⟨rfl, rfl⟩
theorem fModel_lineNow_72 : w_fe am_c164 72 73 (.bipush 115) := ⟨rfl, rfl⟩
theorem fModel_lineNow_73 : w_fe am_c164 73 74 (.bipush 116) := ⟨rfl, rfl⟩
theorem fModel_lineNow_74 : w_fe am_c164 74 75 (.bipush 108) := ⟨rfl, rfl⟩
theorem fModel_lineNow_75 : w_fe am_c164 75 76 (.bipush 101) := ⟨rfl, rfl⟩
theorem fModel_lineNow_76 : w_fe am_c164 76 77 (.invokestatic 166) := ⟨rfl, rfl⟩
theorem fModel_lineNow_77 : w_if am_c164 77 78 .eq 80 := ⟨rfl, rfl⟩
theorem fModel_lineNow_78 : w_fe am_c164 78 79 (.bipush 4) := ⟨rfl, rfl⟩
theorem fModel_lineNow_79 : w_gt am_c164 79 81 := rfl
theorem fModel_lineNow_80 : w_fe am_c164 80 81 (.bipush (-4)) := ⟨rfl, rfl⟩
theorem fModel_lineNow_81 : w_fe am_c164 81 82 (.ireturn) := ⟨rfl, rfl⟩
noncomputable def LModel_lineNow_16 (xs : List Int) (d : Nat) (Q : Option w_V → w_M → Prop)  (σ : w_M) : Prop := w_Ex (xs, d) 1 am_c164 Q 16 [some (.inr (.inr (9, 122)))] [] σ
noncomputable def LModel_lineNow_32 (xs : List Int) (d : Nat) (Q : Option w_V → w_M → Prop)  (σ : w_M) : Prop := w_Ex (xs, d) 1 am_c164 Q 32 [some (.inr (.inr (9, 122)))] [] σ
noncomputable def LModel_lineNow_48 (xs : List Int) (d : Nat) (Q : Option w_V → w_M → Prop)  (σ : w_M) : Prop := w_Ex (xs, d) 1 am_c164 Q 48 [some (.inr (.inr (9, 122)))] [] σ
noncomputable def LModel_lineNow_64 (xs : List Int) (d : Nat) (Q : Option w_V → w_M → Prop)  (σ : w_M) : Prop := w_Ex (xs, d) 1 am_c164 Q 64 [some (.inr (.inr (9, 122)))] [] σ
set_option maxRecDepth 20000 in
theorem bModel_lineNow_0 {xs : List Int} {d : Nat} {Q : Option w_V → w_M → Prop}  {σ : w_M}
    (h : p_Model_is 5 110 105 103 σ ∧ ((¬ (P_Model_is 5 110 105 103 σ) → LModel_lineNow_16 xs (d + 2) Q σ) ∧ ((P_Model_is 5 110 105 103 σ) → (p_Model_ends 104 116 0 0 σ ∧ ((¬ (P_Model_ends 104 116 0 0 σ) → LModel_lineNow_16 xs (d + 2) Q σ) ∧ ((P_Model_ends 104 116 0 0 σ) → Q (some (.inl 0)) σ)))))) : w_Call (xs, (d + 2)) 164 [.inr (.inr (9, 122))] σ Q :=
  (w_mk (mid := 164) (by decide) rfl rfl rfl rfl rfl (Nat.le_of_ble_eq_true rfl) ⟨rfl, Or.inl (by decide)⟩ (wi_aload0 fModel_lineNow_0 (wi_bipush fModel_lineNow_1 (wi_bipush fModel_lineNow_2 (wi_bipush fModel_lineNow_3 (wi_bipush fModel_lineNow_4 (wi_call5 fModel_lineNow_5 (Nat.le_of_ble_eq_true rfl) (k_Model_is h.1 (wi_ifb_eq fModel_lineNow_6 (fun c2 => (h.2.1 c2)) (fun c2 => (wi_aload0 fModel_lineNow_7 (wi_bipush fModel_lineNow_8 (wi_bipush fModel_lineNow_9 (wi_bipush fModel_lineNow_10 (wi_bipush fModel_lineNow_11 (wi_call5 fModel_lineNow_12 (Nat.le_of_ble_eq_true rfl) (k_Model_ends (h.2.2 c2).1 (wi_ifb_eq fModel_lineNow_13 (fun c1 => ((h.2.2 c2).2.1 c1)) (fun c1 => (wi_bipush fModel_lineNow_14 (wi_ret1 fModel_lineNow_15 ((h.2.2 c2).2.2 c1))))))))))))))))))))))
set_option maxRecDepth 20000 in
theorem bModel_lineNow_16 {xs : List Int} {d : Nat} {Q : Option w_V → w_M → Prop}  {σ : w_M}
    (h : p_Model_is 5 115 116 114 σ ∧ ((¬ (P_Model_is 5 115 116 114 σ) → LModel_lineNow_32 xs (d + 2) Q σ) ∧ ((P_Model_is 5 115 116 114 σ) → (p_Model_ends 105 112 0 0 σ ∧ ((¬ (P_Model_ends 105 112 0 0 σ) → LModel_lineNow_32 xs (d + 2) Q σ) ∧ ((P_Model_ends 105 112 0 0 σ) → Q (some (.inl 1)) σ)))))) : LModel_lineNow_16 xs (d + 2) Q  σ :=
  (wi_aload0 fModel_lineNow_16 (wi_bipush fModel_lineNow_17 (wi_bipush fModel_lineNow_18 (wi_bipush fModel_lineNow_19 (wi_bipush fModel_lineNow_20 (wi_call5 fModel_lineNow_21 (Nat.le_of_ble_eq_true rfl) (k_Model_is h.1 (wi_ifb_eq fModel_lineNow_22 (fun c2 => (h.2.1 c2)) (fun c2 => (wi_aload0 fModel_lineNow_23 (wi_bipush fModel_lineNow_24 (wi_bipush fModel_lineNow_25 (wi_bipush fModel_lineNow_26 (wi_bipush fModel_lineNow_27 (wi_call5 fModel_lineNow_28 (Nat.le_of_ble_eq_true rfl) (k_Model_ends (h.2.2 c2).1 (wi_ifb_eq fModel_lineNow_29 (fun c1 => ((h.2.2 c2).2.1 c1)) (fun c1 => (wi_bipush fModel_lineNow_30 (wi_ret1 fModel_lineNow_31 ((h.2.2 c2).2.2 c1)))))))))))))))))))))
set_option maxRecDepth 20000 in
theorem bModel_lineNow_32 {xs : List Int} {d : Nat} {Q : Option w_V → w_M → Prop}  {σ : w_M}
    (h : p_Model_is 6 114 101 97 σ ∧ ((¬ (P_Model_is 6 114 101 97 σ) → LModel_lineNow_48 xs (d + 2) Q σ) ∧ ((P_Model_is 6 114 101 97 σ) → (p_Model_ends 112 101 114 0 σ ∧ ((¬ (P_Model_ends 112 101 114 0 σ) → LModel_lineNow_48 xs (d + 2) Q σ) ∧ ((P_Model_ends 112 101 114 0 σ) → Q (some (.inl 2)) σ)))))) : LModel_lineNow_32 xs (d + 2) Q  σ :=
  (wi_aload0 fModel_lineNow_32 (wi_bipush fModel_lineNow_33 (wi_bipush fModel_lineNow_34 (wi_bipush fModel_lineNow_35 (wi_bipush fModel_lineNow_36 (wi_call5 fModel_lineNow_37 (Nat.le_of_ble_eq_true rfl) (k_Model_is h.1 (wi_ifb_eq fModel_lineNow_38 (fun c2 => (h.2.1 c2)) (fun c2 => (wi_aload0 fModel_lineNow_39 (wi_bipush fModel_lineNow_40 (wi_bipush fModel_lineNow_41 (wi_bipush fModel_lineNow_42 (wi_bipush fModel_lineNow_43 (wi_call5 fModel_lineNow_44 (Nat.le_of_ble_eq_true rfl) (k_Model_ends (h.2.2 c2).1 (wi_ifb_eq fModel_lineNow_45 (fun c1 => ((h.2.2 c2).2.1 c1)) (fun c1 => (wi_bipush fModel_lineNow_46 (wi_ret1 fModel_lineNow_47 ((h.2.2 c2).2.2 c1)))))))))))))))))))))
set_option maxRecDepth 20000 in
theorem bModel_lineNow_48 {xs : List Int} {d : Nat} {Q : Option w_V → w_M → Prop}  {σ : w_M}
    (h : p_Model_is 5 99 108 111 σ ∧ ((¬ (P_Model_is 5 99 108 111 σ) → LModel_lineNow_64 xs (d + 2) Q σ) ∧ ((P_Model_is 5 99 108 111 σ) → (p_Model_ends 117 100 0 0 σ ∧ ((¬ (P_Model_ends 117 100 0 0 σ) → LModel_lineNow_64 xs (d + 2) Q σ) ∧ ((P_Model_ends 117 100 0 0 σ) → Q (some (.inl 3)) σ)))))) : LModel_lineNow_48 xs (d + 2) Q  σ :=
  (wi_aload0 fModel_lineNow_48 (wi_bipush fModel_lineNow_49 (wi_bipush fModel_lineNow_50 (wi_bipush fModel_lineNow_51 (wi_bipush fModel_lineNow_52 (wi_call5 fModel_lineNow_53 (Nat.le_of_ble_eq_true rfl) (k_Model_is h.1 (wi_ifb_eq fModel_lineNow_54 (fun c2 => (h.2.1 c2)) (fun c2 => (wi_aload0 fModel_lineNow_55 (wi_bipush fModel_lineNow_56 (wi_bipush fModel_lineNow_57 (wi_bipush fModel_lineNow_58 (wi_bipush fModel_lineNow_59 (wi_call5 fModel_lineNow_60 (Nat.le_of_ble_eq_true rfl) (k_Model_ends (h.2.2 c2).1 (wi_ifb_eq fModel_lineNow_61 (fun c1 => ((h.2.2 c2).2.1 c1)) (fun c1 => (wi_bipush fModel_lineNow_62 (wi_goto fModel_lineNow_63 (wi_ret1 fModel_lineNow_81 ((h.2.2 c2).2.2 c1))))))))))))))))))))))
set_option maxRecDepth 20000 in
theorem bModel_lineNow_64 {xs : List Int} {d : Nat} {Q : Option w_V → w_M → Prop}  {σ : w_M}
    (h : p_Model_is 7 116 104 105 σ ∧ ((¬ (P_Model_is 7 116 104 105 σ) → Q (some (.inl (-4))) σ) ∧ ((P_Model_is 7 116 104 105 σ) → (p_Model_ends 115 116 108 101 σ ∧ ((¬ (P_Model_ends 115 116 108 101 σ) → Q (some (.inl (-4))) σ) ∧ ((P_Model_ends 115 116 108 101 σ) → Q (some (.inl 4)) σ)))))) : LModel_lineNow_64 xs (d + 2) Q  σ :=
  (wi_aload0 fModel_lineNow_64 (wi_bipush fModel_lineNow_65 (wi_bipush fModel_lineNow_66 (wi_bipush fModel_lineNow_67 (wi_bipush fModel_lineNow_68 (wi_call5 fModel_lineNow_69 (Nat.le_of_ble_eq_true rfl) (k_Model_is h.1 (wi_ifb_eq fModel_lineNow_70 (fun c2 => (wi_bipush fModel_lineNow_80 (wi_ret1 fModel_lineNow_81 (h.2.1 c2)))) (fun c2 => (wi_aload0 fModel_lineNow_71 (wi_bipush fModel_lineNow_72 (wi_bipush fModel_lineNow_73 (wi_bipush fModel_lineNow_74 (wi_bipush fModel_lineNow_75 (wi_call5 fModel_lineNow_76 (Nat.le_of_ble_eq_true rfl) (k_Model_ends (h.2.2 c2).1 (wi_ifb_eq fModel_lineNow_77 (fun c1 => (wi_bipush fModel_lineNow_80 (wi_ret1 fModel_lineNow_81 ((h.2.2 c2).2.1 c1)))) (fun c1 => (wi_bipush fModel_lineNow_78 (wi_goto fModel_lineNow_79 (wi_ret1 fModel_lineNow_81 ((h.2.2 c2).2.2 c1))))))))))))))))))))))
theorem k_Model_lineNow {xs : List Int} {d : Nat} {Q : Option w_V → w_M → Prop}  {σ : w_M} (hp : p_Model_lineNow σ) (hQ : Q (some (.inl (v_Model_lineNow σ))) σ) : w_Call (xs, d + 2) 164 [.inr (.inr (9, 122))] σ Q := by
  have h : m_pos σ := hp
  obtain ⟨n0, n1, n2, n3, n4⟩ := nm_m h
  unfold v_Model_lineNow at hQ
  have hit : ∀ k : Nat, k < 5 → ln_k (mT σ) (mL σ) (σ 122 17).toNat (σ 122 16).toNat k = -1 → nm_is (mT σ) (mL σ) (σ 122 17).toNat (σ 122 16).toNat k → Q (some (.inl (k : Int))) σ := fun k hk h0 h1 => by
    rw [ln_hit h0 h1 hk, if_neg (by omega)] at hQ
    exact hQ
  have m0 : ln_k (mT σ) (mL σ) (σ 122 17).toNat (σ 122 16).toNat 0 = -1 := rfl
  have s4 : ln_k (mT σ) (mL σ) (σ 122 17).toNat (σ 122 16).toNat 4 = -1 → LModel_lineNow_64 xs (d + 2) Q σ := fun e => by
    have miss : ¬ nm_is (mT σ) (mL σ) (σ 122 17).toNat (σ 122 16).toNat 4 → Q (some (.inl (-4))) σ := fun q => by
      have e5 : ln_n (mT σ) (mL σ) (σ 122 17).toNat (σ 122 16).toNat = -1 := ln_miss e q
      rw [if_pos e5] at hQ
      exact hQ
    exact bModel_lineNow_64 ⟨h, fun c => miss (fun q => c (n4.mp q).1), fun c => ⟨h, fun c2 => miss (fun q => c2 (n4.mp q).2), fun c2 => hit 4 (by decide) e (n4.mpr ⟨c, c2⟩)⟩⟩
  have s3 : ln_k (mT σ) (mL σ) (σ 122 17).toNat (σ 122 16).toNat 3 = -1 → LModel_lineNow_48 xs (d + 2) Q σ := fun e =>
    bModel_lineNow_48 ⟨h, fun c => s4 (ln_miss e (fun q => c (n3.mp q).1)), fun c => ⟨h, fun c2 => s4 (ln_miss e (fun q => c2 (n3.mp q).2)), fun c2 => hit 3 (by decide) e (n3.mpr ⟨c, c2⟩)⟩⟩
  have s2 : ln_k (mT σ) (mL σ) (σ 122 17).toNat (σ 122 16).toNat 2 = -1 → LModel_lineNow_32 xs (d + 2) Q σ := fun e =>
    bModel_lineNow_32 ⟨h, fun c => s3 (ln_miss e (fun q => c (n2.mp q).1)), fun c => ⟨h, fun c2 => s3 (ln_miss e (fun q => c2 (n2.mp q).2)), fun c2 => hit 2 (by decide) e (n2.mpr ⟨c, c2⟩)⟩⟩
  have s1 : ln_k (mT σ) (mL σ) (σ 122 17).toNat (σ 122 16).toNat 1 = -1 → LModel_lineNow_16 xs (d + 2) Q σ := fun e =>
    bModel_lineNow_16 ⟨h, fun c => s2 (ln_miss e (fun q => c (n1.mp q).1)), fun c => ⟨h, fun c2 => s2 (ln_miss e (fun q => c2 (n1.mp q).2)), fun c2 => hit 1 (by decide) e (n1.mpr ⟨c, c2⟩)⟩⟩
  exact bModel_lineNow_0 ⟨h, fun c => s1 (ln_miss m0 (fun q => c (n0.mp q).1)), fun c => ⟨h, fun c2 => s1 (ln_miss m0 (fun q => c2 (n0.mp q).2)), fun c2 => hit 0 (by decide) m0 (n0.mpr ⟨c, c2⟩)⟩⟩
noncomputable def lo_ok (lo hi : Int) (σ : w_M) : Prop := σ 122 18 = 2 ∧ lo ≤ σ 122 19 ∧ σ 122 19 ≤ hi
noncomputable def p_Model_looked (_ _ : Int) (_ : w_M) : Prop := True
noncomputable def q_Model_looked (lo hi : Int) (σ : w_M) (x : Int) (σ' : w_M) : Prop := (¬ σ 122 20 = 0 → x = 0 ∧ σ' = σ) ∧ (σ 122 20 = 0 → (lo_ok lo hi σ → x = σ 122 19 ∧ σ' = σ) ∧ (¬ lo_ok lo hi σ → x = 0 ∧ σ' 122 20 = (if σ 122 18 = 2 then 3 else 2) ∧ σ' 122 21 = σ 122 17 ∧ mo_fr σ σ' ∧ ∀ j, j ≠ 20 → j ≠ 21 → σ' 122 j = σ 122 j))
theorem fModel_looked_0 : w_fe am_c169 0 1 (.aload 0) := ⟨rfl, rfl⟩
theorem fModel_looked_1 : w_fe am_c169 1 2 (.getfield 920) := ⟨rfl, rfl⟩
theorem fModel_looked_2 : w_if am_c169 2 3 .ne 13 := ⟨rfl, rfl⟩
theorem fModel_looked_3 : w_fe am_c169 3 4 (.aload 0) := ⟨rfl, rfl⟩
theorem fModel_looked_4 : w_fe am_c169 4 5 (.aload 0) := ⟨rfl, rfl⟩
theorem fModel_looked_5 : w_fe am_c169 5 6 (.getfield 918) := ⟨rfl, rfl⟩
theorem fModel_looked_6 : w_fe am_c169 6 7 (.bipush 2) := ⟨rfl, rfl⟩
theorem fModel_looked_7 : w_ic am_c169 7 8 .ne 10 := ⟨rfl, rfl⟩
theorem fModel_looked_8 : w_fe am_c169 8 9 (.bipush 1) := ⟨rfl, rfl⟩
theorem fModel_looked_9 : w_gt am_c169 9 11 := rfl
theorem fModel_looked_10 : w_fe am_c169 10 11 (.bipush 0) := ⟨rfl, rfl⟩
theorem fModel_looked_11 : w_fe am_c169 11 12 (.bipush 2) := ⟨rfl, rfl⟩
theorem fModel_looked_12 : w_fe am_c169 12 13 (.invokestatic 162) := ⟨rfl, rfl⟩
theorem fModel_looked_13 : w_fe am_c169 13 14 (.aload 0) := ⟨rfl, rfl⟩
theorem fModel_looked_14 : w_fe am_c169 14 15 (.getfield 920) := ⟨rfl, rfl⟩
theorem fModel_looked_15 : w_if am_c169 15 16 .ne 27 := ⟨rfl, rfl⟩
theorem fModel_looked_16 : w_fe am_c169 16 17 (.aload 0) := ⟨rfl, rfl⟩
theorem fModel_looked_17 : w_fe am_c169 17 18 (.aload 0) := ⟨rfl, rfl⟩
theorem fModel_looked_18 : w_fe am_c169 18 19 (.getfield 919) := ⟨rfl, rfl⟩
theorem fModel_looked_19 : w_fe am_c169 19 20 (.i2l) := ⟨rfl, rfl⟩
theorem fModel_looked_20 : w_fe am_c169 20 21 (.iload 1) := ⟨rfl, rfl⟩
theorem fModel_looked_21 : w_fe am_c169 21 22 (.i2l) := ⟨rfl, rfl⟩
theorem fModel_looked_22 : w_fe am_c169 22 23 (.iload 2) := ⟨rfl, rfl⟩
theorem fModel_looked_23 : w_fe am_c169 23 24 (.i2l) := ⟨rfl, rfl⟩
theorem fModel_looked_24 : w_fe am_c169 24 25 (.invokestatic 157) := ⟨rfl, rfl⟩
theorem fModel_looked_25 : w_fe am_c169 25 26 (.bipush 3) := ⟨rfl, rfl⟩
theorem fModel_looked_26 : w_fe am_c169 26 27 (.invokestatic 162) := ⟨rfl, rfl⟩
theorem fModel_looked_27 : w_fe am_c169 27 28 (.aload 0) := ⟨rfl, rfl⟩
theorem fModel_looked_28 : w_fe am_c169 28 29 (.getfield 920) := ⟨rfl, rfl⟩
theorem fModel_looked_29 : w_if am_c169 29 30 .ne 33 := ⟨rfl, rfl⟩
theorem fModel_looked_30 : w_fe am_c169 30 31 (.aload 0) := ⟨rfl, rfl⟩
theorem fModel_looked_31 : w_fe am_c169 31 32 (.getfield 919) := ⟨rfl, rfl⟩
theorem fModel_looked_32 : w_gt am_c169 32 34 := rfl
theorem fModel_looked_33 : w_fe am_c169 33 34 (.bipush 0) := ⟨rfl, rfl⟩
theorem fModel_looked_34 : w_fe am_c169 34 35 (.ireturn) := ⟨rfl, rfl⟩
set_option maxRecDepth 20000 in
theorem bModel_looked_0 {xs : List Int} {d : Nat} {Q : Option w_V → w_M → Prop} {x1 : Int} {x2 : Int} {σ : w_M}
    (h : (¬ (σ 122 20) = 0 → Q (some (.inl 0)) σ) ∧ ((σ 122 20) = 0 → ((¬ (σ 122 18) = 2 → ∀ (τ1 : w_M), q_Model_needs 0 2 σ τ1 → ((¬ (τ1 122 20) = 0 → Q (some (.inl 0)) τ1) ∧ ((τ1 122 20) = 0 → ∀ (τ2 : w_M), q_Model_needs (w_bi (x1 ≤ (τ1 122 19) ∧ (τ1 122 19) ≤ x2)) 3 τ1 τ2 → ((¬ (τ2 122 20) = 0 → Q (some (.inl 0)) τ2) ∧ ((τ2 122 20) = 0 → Q (some (.inl (τ2 122 19))) τ2))))) ∧ ((σ 122 18) = 2 → ∀ (τ5 : w_M), q_Model_needs 1 2 σ τ5 → ((¬ (τ5 122 20) = 0 → Q (some (.inl 0)) τ5) ∧ ((τ5 122 20) = 0 → ∀ (τ6 : w_M), q_Model_needs (w_bi (x1 ≤ (τ5 122 19) ∧ (τ5 122 19) ≤ x2)) 3 τ5 τ6 → ((¬ (τ6 122 20) = 0 → Q (some (.inl 0)) τ6) ∧ ((τ6 122 20) = 0 → Q (some (.inl (τ6 122 19))) τ6)))))))) : w_Call (xs, (d + 1)) 169 [.inr (.inr (9, 122)), .inl x1, .inl x2] σ Q :=
  (w_mk (mid := 169) (by decide) rfl rfl rfl rfl rfl (Nat.le_of_ble_eq_true rfl) ⟨rfl, Or.inl (by decide)⟩ (wi_aload0 fModel_looked_0 (wi_getf920 fModel_looked_1 (wi_if_ne fModel_looked_2 (fun c10 => (wi_aload0 fModel_looked_13 (wi_getf920 fModel_looked_14 (wi_if_ne fModel_looked_15 (fun _ => (wi_aload0 fModel_looked_27 (wi_getf920 fModel_looked_28 (wi_if_ne fModel_looked_29 (fun _ => (wi_bipush fModel_looked_33 (wi_ret1 fModel_looked_34 (h.1 c10)))) (fun e => absurd c10 (w_n_ne e)))))) (fun e => absurd c10 (w_n_ne e)))))) (fun c10 => (wi_aload0 fModel_looked_3 (wi_aload0 fModel_looked_4 (wi_getf918 fModel_looked_5 (wi_bipush fModel_looked_6 (wi_ic_ne fModel_looked_7 (fun c9 => (wi_bipush fModel_looked_10 (wi_bipush fModel_looked_11 (wi_call3 fModel_looked_12 (Nat.le_of_ble_eq_true rfl) (k_Model_needs (fun τ1 eτ1 => (wi_aload0 fModel_looked_13 (wi_getf920 fModel_looked_14 (wi_if_ne fModel_looked_15 (fun c4 => (wi_aload0 fModel_looked_27 (wi_getf920 fModel_looked_28 (wi_if_ne fModel_looked_29 (fun _ => (wi_bipush fModel_looked_33 (wi_ret1 fModel_looked_34 ((((h.2 c10).1 c9) τ1 eτ1).1 c4)))) (fun e => absurd c4 (w_n_ne e)))))) (fun c4 => (wi_aload0 fModel_looked_16 (wi_aload0 fModel_looked_17 (wi_getf919 fModel_looked_18 (wi_i2l fModel_looked_19 (wi_iload1 fModel_looked_20 (wi_i2l fModel_looked_21 (wi_iload2 fModel_looked_22 (wi_i2l fModel_looked_23 (wi_call3 fModel_looked_24 (Nat.le_of_ble_eq_true rfl) (k_Model_in (wi_bipush fModel_looked_25 (wi_call3 fModel_looked_26 (Nat.le_of_ble_eq_true rfl) (k_Model_needs (fun τ2 eτ2 => (wi_aload0 fModel_looked_27 (wi_getf920 fModel_looked_28 (wi_if_ne fModel_looked_29 (fun c3 => (wi_bipush fModel_looked_33 (wi_ret1 fModel_looked_34 ((((((h.2 c10).1 c9) τ1 eτ1).2 c4) τ2 eτ2).1 c3)))) (fun c3 => (wi_aload0 fModel_looked_30 (wi_getf919 fModel_looked_31 (wi_goto fModel_looked_32 (wi_ret1 fModel_looked_34 ((((((h.2 c10).1 c9) τ1 eτ1).2 c4) τ2 eτ2).2 c3))))))))))))))))))))))))))))))))) (fun c9 => (wi_bipush fModel_looked_8 (wi_goto fModel_looked_9 (wi_bipush fModel_looked_11 (wi_call3 fModel_looked_12 (Nat.le_of_ble_eq_true rfl) (k_Model_needs (fun τ5 eτ5 => (wi_aload0 fModel_looked_13 (wi_getf920 fModel_looked_14 (wi_if_ne fModel_looked_15 (fun c8 => (wi_aload0 fModel_looked_27 (wi_getf920 fModel_looked_28 (wi_if_ne fModel_looked_29 (fun _ => (wi_bipush fModel_looked_33 (wi_ret1 fModel_looked_34 ((((h.2 c10).2 c9) τ5 eτ5).1 c8)))) (fun e => absurd c8 (w_n_ne e)))))) (fun c8 => (wi_aload0 fModel_looked_16 (wi_aload0 fModel_looked_17 (wi_getf919 fModel_looked_18 (wi_i2l fModel_looked_19 (wi_iload1 fModel_looked_20 (wi_i2l fModel_looked_21 (wi_iload2 fModel_looked_22 (wi_i2l fModel_looked_23 (wi_call3 fModel_looked_24 (Nat.le_of_ble_eq_true rfl) (k_Model_in (wi_bipush fModel_looked_25 (wi_call3 fModel_looked_26 (Nat.le_of_ble_eq_true rfl) (k_Model_needs (fun τ6 eτ6 => (wi_aload0 fModel_looked_27 (wi_getf920 fModel_looked_28 (wi_if_ne fModel_looked_29 (fun c7 => (wi_bipush fModel_looked_33 (wi_ret1 fModel_looked_34 ((((((h.2 c10).2 c9) τ5 eτ5).2 c8) τ6 eτ6).1 c7)))) (fun c7 => (wi_aload0 fModel_looked_30 (wi_getf919 fModel_looked_31 (wi_goto fModel_looked_32 (wi_ret1 fModel_looked_34 ((((((h.2 c10).2 c9) τ5 eτ5).2 c8) τ6 eτ6).2 c7))))))))))))))))))))))))))))))))))))))))))))
theorem k_Model_looked {xs : List Int} {d : Nat} {Q : Option w_V → w_M → Prop} {x1 : Int} {x2 : Int} {σ : w_M} (hp : p_Model_looked x1 x2 σ) (hQ : ∀ (x : Int) (σ' : w_M), q_Model_looked x1 x2 σ x σ' → Q (some (.inl x)) σ') : w_Call (xs, d + 1) 169 [.inr (.inr (9, 122)), .inl x1, .inl x2] σ Q := by
  refine bModel_looked_0 ⟨fun c => hQ _ _ ⟨fun _ => ⟨rfl, rfl⟩, fun h => absurd h c⟩, fun c => ⟨fun c2 τ1 q1 => ?_, fun c2 τ5 q5 => ?_⟩⟩
  · obtain ⟨n1, n2, n3, n4⟩ := need_n q1 rfl c
    refine ⟨fun _ => hQ _ _ ⟨fun h => absurd c h, fun _ => ⟨fun h => absurd h.1 c2, fun _ => ⟨rfl, by rw [n1, if_neg c2], n2, n3, n4⟩⟩⟩, fun h => by rw [n1] at h; exact absurd h (by decide)⟩
  · have e5 := need_y q5
    rw [e5]
    refine ⟨fun h => absurd c h, fun _ τ6 q6 => ?_⟩
    by_cases g : x1 ≤ σ 122 19 ∧ σ 122 19 ≤ x2
    · rw [w_bi_t g] at q6
      rw [need_y q6]
      exact ⟨fun h => absurd c h, fun _ => hQ _ _ ⟨fun h => absurd c h, fun _ => ⟨fun _ => ⟨rfl, rfl⟩, fun h => absurd ⟨c2, g⟩ h⟩⟩⟩
    · rw [w_bi_f g] at q6
      obtain ⟨n1, n2, n3, n4⟩ := need_n q6 rfl c
      refine ⟨fun _ => hQ _ _ ⟨fun h => absurd c h, fun _ => ⟨fun h => absurd h.2 g, fun _ => ⟨rfl, by rw [n1, if_pos c2], n2, n3, n4⟩⟩⟩, fun h => by rw [n1] at h; exact absurd h (by decide)⟩
/-- the token that is held was read from p on -/
noncomputable def m_cur (T : Nat → Int) (L p : Nat) (σ : w_M) : Prop := σ 122 17 = ((tk_f T L p : Nat) : Int) ∧ (¬ tk_k T L p = 0 → σ 122 16 = ((tk_b T L p : Nat) : Int)) ∧ (tk_k T L p = 4 → σ 122 20 = 1 ∧ σ 122 21 = ((tk_f T L p : Nat) : Int)) ∧ (¬ tk_k T L p = 4 → σ 122 20 = 0 ∧ σ 122 18 = tk_k T L p) ∧ (tk_k T L p = 2 → σ 122 19 = tk_v T L p)
theorem m_tok.cur {T : Nat → Int} {L p : Nat} {σ σ' : w_M} (h : m_tok T L p σ σ') : m_cur T L p σ' := h.2
theorem m_cur_fr {T : Nat → Int} {L p : Nat} {σ σ' : w_M} (h : m_cur T L p σ) (e : ∀ j, 16 ≤ j → j < 22 → σ' 122 j = σ 122 j) : m_cur T L p σ' := by
  unfold m_cur at h ⊢
  rw [e 16 (by decide) (by decide), e 17 (by decide) (by decide), e 18 (by decide) (by decide), e 19 (by decide) (by decide), e 20 (by decide) (by decide), e 21 (by decide) (by decide)]
  exact h
/-- what a number is found to be -/
noncomputable def nt_0 (T : Nat → Int) (L : Nat) (lo hi : Int) (p : Nat) : Int := if tk_k T L p = 4 then 1 else if ¬ tk_k T L p = 2 then 2 else if tk_v T L p < lo ∨ hi < tk_v T L p then 3 else 0
/-- a reader that may go on: its token was read from p on, or it has failed -/
noncomputable def m_at (T : Nat → Int) (L p : Nat) (σ : w_M) : Prop := (mT σ = T ∧ mL σ = L ∧ m_rk σ) ∧ p ≤ L ∧ m_cur T L p σ
noncomputable def p_Model_readNumber (_ _ : Int) (σ : w_M) : Prop := 0 ≤ σ 122 20 ∧ (σ 122 20 = 0 → ∃ p, m_at (mT σ) (mL σ) p σ)
noncomputable def q_Model_readNumber (lo hi : Int) (σ : w_M) (x : Int) (σ' : w_M) : Prop := mo_fr σ σ' ∧ (¬ σ 122 20 = 0 → x = 0 ∧ σ' = σ) ∧ (σ 122 20 = 0 → ∀ p, m_at (mT σ) (mL σ) p σ → (nt_0 (mT σ) (mL σ) lo hi p = 0 → x = tk_v (mT σ) (mL σ) p ∧ m_cur (mT σ) (mL σ) (tk_b (mT σ) (mL σ) p) σ') ∧ (¬ nt_0 (mT σ) (mL σ) lo hi p = 0 → x = 0 ∧ σ' 122 20 = nt_0 (mT σ) (mL σ) lo hi p ∧ σ' 122 21 = ((tk_f (mT σ) (mL σ) p : Nat) : Int)))
theorem fModel_readNumber_0 : w_fe am_c168 0 1 (.aload 0) := ⟨rfl, rfl⟩
theorem fModel_readNumber_1 : w_fe am_c168 1 2 (.iload 1) := ⟨rfl, rfl⟩
theorem fModel_readNumber_2 : w_fe am_c168 2 3 (.iload 2) := ⟨rfl, rfl⟩
theorem fModel_readNumber_3 : w_fe am_c168 3 4 (.invokestatic 169) := ⟨rfl, rfl⟩
theorem fModel_readNumber_4 : w_fe am_c168 4 5 (.istore 3) := ⟨rfl, rfl⟩
theorem fModel_readNumber_5 : w_fe am_c168 5 6 (.aload 0) := ⟨rfl, rfl⟩
theorem fModel_readNumber_6 : w_fe am_c168 6 7 (.invokestatic 160) := ⟨rfl, rfl⟩
theorem fModel_readNumber_7 : w_fe am_c168 7 8 (.iload 3) := ⟨rfl, rfl⟩
theorem fModel_readNumber_8 : w_fe am_c168 8 9 (.ireturn) := ⟨rfl, rfl⟩
set_option maxRecDepth 20000 in
theorem bModel_readNumber_0 {xs : List Int} {d : Nat} {Q : Option w_V → w_M → Prop} {x1 : Int} {x2 : Int} {σ : w_M}
    (h : p_Model_looked x1 x2 σ ∧ (∀ (y1 : Int) (τ2 : w_M), q_Model_looked x1 x2 σ y1 τ2 → (p_Model_next τ2 ∧ (∀ (τ3 : w_M), q_Model_next τ2 τ3 → Q (some (.inl y1)) τ3)))) : w_Call (xs, (d + 2)) 168 [.inr (.inr (9, 122)), .inl x1, .inl x2] σ Q :=
  (w_mk (mid := 168) (by decide) rfl rfl rfl rfl rfl (Nat.le_of_ble_eq_true rfl) ⟨rfl, Or.inl (by decide)⟩ (wi_aload0 fModel_readNumber_0 (wi_iload1 fModel_readNumber_1 (wi_iload2 fModel_readNumber_2 (wi_call3 fModel_readNumber_3 (Nat.le_of_ble_eq_true rfl) (k_Model_looked h.1 (fun y1 τ2 eτ2 => (wi_istore3 fModel_readNumber_4 trivial (wi_aload0 fModel_readNumber_5 (wi_call1 fModel_readNumber_6 (Nat.le_of_ble_eq_true rfl) (k_Model_next (h.2 y1 τ2 eτ2).1 (fun τ3 eτ3 => (wi_iload3 fModel_readNumber_7 (wi_ret1 fModel_readNumber_8 ((h.2 y1 τ2 eτ2).2 τ3 eτ3)))))))))))))))
theorem nt_lo {T : Nat → Int} {L p : Nat} {lo hi : Int} {σ : w_M} (h : m_cur T L p σ) (h0 : σ 122 20 = 0) : (lo_ok lo hi σ ↔ nt_0 T L lo hi p = 0) ∧ (¬ lo_ok lo hi σ → (if σ 122 18 = 2 then (3 : Int) else 2) = nt_0 T L lo hi p) ∧ (lo_ok lo hi σ → tk_k T L p = 2) := by
  obtain ⟨c1, c2, c3, c4, c5⟩ := h
  have k4 : ¬ tk_k T L p = 4 := fun q => by have := (c3 q).1; omega
  have e18 := (c4 k4).2
  unfold lo_ok nt_0
  rw [if_neg k4, e18]
  by_cases k2 : tk_k T L p = 2
  · rw [if_neg (fun q => q k2), c5 k2, if_pos k2]
    by_cases g : tk_v T L p < lo ∨ hi < tk_v T L p
    · rw [if_pos g]
      exact ⟨⟨fun q => by omega, fun q => by omega⟩, fun _ => rfl, fun _ => k2⟩
    · rw [if_neg g]
      exact ⟨⟨fun _ => rfl, fun _ => ⟨k2, by omega⟩⟩, fun q => absurd ⟨k2, by omega⟩ q, fun _ => k2⟩
  · rw [if_pos k2, if_neg k2]
    exact ⟨⟨fun q => absurd q.1 k2, fun q => by omega⟩, fun _ => rfl, fun q => absurd q.1 k2⟩
theorem nt_0_le {T : Nat → Int} {L p : Nat} {lo hi : Int} : 0 ≤ nt_0 T L lo hi p ∧ nt_0 T L lo hi p ≤ 3 := by
  unfold nt_0
  repeat' split
  all_goals omega
theorem k_Model_readNumber {xs : List Int} {d : Nat} {Q : Option w_V → w_M → Prop} {x1 : Int} {x2 : Int} {σ : w_M} (hp : p_Model_readNumber x1 x2 σ) (hQ : ∀ (x : Int) (σ' : w_M), q_Model_readNumber x1 x2 σ x σ' → Q (some (.inl x)) σ') : w_Call (xs, d + 2) 168 [.inr (.inr (9, 122)), .inl x1, .inl x2] σ Q := by
  obtain ⟨h20, hp'⟩ := hp
  refine bModel_readNumber_0 ⟨trivial, fun y1 τ2 q2 => ?_⟩
  by_cases h0 : σ 122 20 = 0
  · obtain ⟨p, ⟨-, -, hk⟩, hpL, hcur⟩ := hp' h0
    obtain ⟨n1, n2, n3⟩ := nt_lo (lo := x1) (hi := x2) hcur h0
    have same : ∀ p', m_at (mT σ) (mL σ) p' σ → (lo_ok x1 x2 σ ↔ nt_0 (mT σ) (mL σ) x1 x2 p' = 0) ∧ (¬ lo_ok x1 x2 σ → (if σ 122 18 = 2 then (3 : Int) else 2) = nt_0 (mT σ) (mL σ) x1 x2 p') ∧ (lo_ok x1 x2 σ → tk_k (mT σ) (mL σ) p' = 2) := fun p' h => nt_lo h.2.2 h0
    by_cases ok : lo_ok x1 x2 σ
    · obtain ⟨e1, e2⟩ := (q2.2 h0).1 ok
      rw [e2]
      have k2 := n3 ok
      have e16 := hcur.2.1 (by omega)
      have hbL := tk_b_le (T := mT σ) (L := mL σ) (p := p) (tk_k0 (by omega))
      have hLe : mL σ = (σ 122 15).toNat := rfl
      have hk1 := hk.1
      refine ⟨⟨h20, fun _ => ⟨hk, by omega, by omega⟩⟩, fun τ3 q3 => hQ _ _ ?_⟩
      have t := q3.2 h0
      rw [e16, Int.toNat_natCast] at t
      refine ⟨t.1, fun h => absurd h0 h, fun _ p' hp2 => ?_⟩
      obtain ⟨s1, s2, s3⟩ := same p' hp2
      have k2' := s3 ok
      have eb : tk_b (mT σ) (mL σ) p' = tk_b (mT σ) (mL σ) p := by
        have a := hp2.2.2.2.1 (by omega)
        rw [e16] at a
        omega
      refine ⟨fun _ => ⟨by rw [e1]; exact hp2.2.2.2.2.2.2 k2', by rw [eb]; exact t.cur⟩, fun h => absurd (s1.mp ok) h⟩
    · obtain ⟨e1, e2, e3, e4, e5⟩ := (q2.2 h0).2 ok
      have hb := nt_0_le (T := mT σ) (L := mL σ) (p := p) (lo := x1) (hi := x2)
      have hnz : ¬ τ2 122 20 = 0 := by rw [e2, n2 ok]; exact fun q => ok (n1.mpr q)
      refine ⟨⟨by rw [e2, n2 ok]; exact hb.1, fun h => absurd h hnz⟩, fun τ3 q3 => hQ _ _ ?_⟩
      rw [q3.1 hnz]
      refine ⟨e4, fun h => absurd h0 h, fun _ p' hp2 => ?_⟩
      obtain ⟨s1, s2, s3⟩ := same p' hp2
      exact ⟨fun h => absurd (s1.mpr h) ok, fun _ => ⟨e1, by rw [e2]; exact s2 ok, by rw [e3]; exact hp2.2.2.1⟩⟩
  · obtain ⟨e1, e2⟩ := q2.1 h0
    rw [e2]
    refine ⟨⟨h20, fun h => absurd h h0⟩, fun τ3 q3 => hQ _ _ ?_⟩
    rw [q3.1 h0]
    exact ⟨mo_fr.rfl', fun _ => ⟨e1, rfl⟩, fun h => absurd h h0⟩
end
section
/-! The reference reads what must be fresh -/
theorem tk_same {T : Nat → Int} {L p p' : Nat} (h : tk_f T L p' = tk_f T L p) : tk_k T L p' = tk_k T L p ∧ tk_b T L p' = tk_b T L p ∧ tk_v T L p' = tk_v T L p := by
  unfold tk_k tk_b tk_v tk_c tk_d
  rw [h]
  exact ⟨rfl, rfl, rfl⟩
noncomputable def mo_g (σ σ' : w_M) : Prop := (∀ b, b ≠ 122 → σ' b = σ b) ∧ ∀ j, j < 12 ∨ j = 14 ∨ j = 15 ∨ 22 ≤ j → σ' 122 j = σ 122 j
theorem mo_g.rfl' {σ : w_M} : mo_g σ σ := ⟨fun _ _ => rfl, fun _ _ => rfl⟩
theorem mo_fr.g {σ σ' : w_M} (h : mo_fr σ σ') : mo_g σ σ' := ⟨h.1, fun j hj => h.2 j (by omega)⟩
theorem mo_g.tp {σ τ : w_M} (h : mo_g σ τ) : mo_tp σ τ := ⟨h.1 127 (by decide), h.2 15 (by omega)⟩
noncomputable def nr_ok (σ : w_M) : Prop := 0 ≤ σ 122 20 ∧ (σ 122 20 = 0 → ∃ p, m_at (mT σ) (mL σ) p σ)
/-- what is found of a number that must be fresh -/
noncomputable def fr_f (T : Nat → Int) (L : Nat) (some most : Int) (p : Nat) : Int := if nt_0 T L 0 most p = 0 then (if w_and (w_shr some (tk_v T L p)) 1 = 0 then 0 else 4) else nt_0 T L 0 most p
noncomputable def p_Model_readFresh (_ _ : Int) (σ : w_M) : Prop := nr_ok σ
noncomputable def q_Model_readFresh (some most : Int) (σ : w_M) (x : Int) (σ' : w_M) : Prop := mo_g σ σ' ∧ (¬ σ 122 20 = 0 → σ' 122 20 = σ 122 20 ∧ σ' 122 21 = σ 122 21) ∧ (σ 122 20 = 0 → ∀ p, m_at (mT σ) (mL σ) p σ →
  (fr_f (mT σ) (mL σ) some most p = 0 → x = w_or some (w_shl 1 (tk_v (mT σ) (mL σ) p)) ∧ m_cur (mT σ) (mL σ) (tk_b (mT σ) (mL σ) p) σ' ∧ σ' 122 12 = (if most < 7 ∧ σ 122 12 < tk_v (mT σ) (mL σ) p then tk_v (mT σ) (mL σ) p else σ 122 12) ∧ σ' 122 13 = (if 7 ≤ most ∧ σ 122 13 < tk_v (mT σ) (mL σ) p then tk_v (mT σ) (mL σ) p else σ 122 13)) ∧
  (¬ fr_f (mT σ) (mL σ) some most p = 0 → σ' 122 20 = fr_f (mT σ) (mL σ) some most p ∧ σ' 122 21 = ((tk_f (mT σ) (mL σ) p : Nat) : Int)))
theorem fModel_readFresh_0 : w_fe am_c171 0 1 (.aload 0) := ⟨rfl, rfl⟩
theorem fModel_readFresh_1 : w_fe am_c171 1 2 (.bipush 0) := ⟨rfl, rfl⟩
theorem fModel_readFresh_2 : w_fe am_c171 2 3 (.iload 2) := ⟨rfl, rfl⟩
theorem fModel_readFresh_3 : w_fe am_c171 3 4 (.invokestatic 169) := ⟨rfl, rfl⟩
theorem fModel_readFresh_4 : w_fe am_c171 4 5 (.istore 3) := ⟨rfl, rfl⟩
theorem fModel_readFresh_5 : w_fe am_c171 5 6 (.aload 0) := ⟨rfl, rfl⟩
theorem fModel_readFresh_6 : w_fe am_c171 6 7 (.getfield 920) := ⟨rfl, rfl⟩
theorem fModel_readFresh_7 : w_if am_c171 7 8 .ne 20 := ⟨rfl, rfl⟩
theorem fModel_readFresh_8 : w_fe am_c171 8 9 (.aload 0) := ⟨rfl, rfl⟩
theorem fModel_readFresh_9 : w_fe am_c171 9 10 (.iload 1) := ⟨rfl, rfl⟩
theorem fModel_readFresh_10 : w_fe am_c171 10 11 (.iload 3) := ⟨rfl, rfl⟩
theorem fModel_readFresh_11 : w_fe am_c171 11 12 (.ishr) := ⟨rfl, rfl⟩
theorem fModel_readFresh_12 : w_fe am_c171 12 13 (.bipush 1) := ⟨rfl, rfl⟩
theorem fModel_readFresh_13 : w_fe am_c171 13 14 (.iand) := ⟨rfl, rfl⟩
theorem fModel_readFresh_14 : w_if am_c171 14 15 .ne 17 := ⟨rfl, rfl⟩
theorem fModel_readFresh_15 : w_fe am_c171 15 16 (.bipush 1) := ⟨rfl, rfl⟩
theorem fModel_readFresh_16 : w_gt am_c171 16 18 := rfl
theorem fModel_readFresh_17 : w_fe am_c171 17 18 (.bipush 0) := ⟨rfl, rfl⟩
theorem fModel_readFresh_18 : w_fe am_c171 18 19 (.bipush 4) := ⟨rfl, rfl⟩
theorem fModel_readFresh_19 : w_fe am_c171 19 20 (.invokestatic 162) := ⟨rfl, rfl⟩
theorem fModel_readFresh_20 : w_fe am_c171 20 21 (.aload 0) := ⟨rfl, rfl⟩
theorem fModel_readFresh_21 : w_fe am_c171 21 22 (.aload 0) := ⟨rfl, rfl⟩
theorem fModel_readFresh_22 : w_fe am_c171 22 23 (.getfield 920) := ⟨rfl, rfl⟩
theorem fModel_readFresh_23 : w_if am_c171 23 24 .ne 33 := ⟨rfl, rfl⟩
theorem fModel_readFresh_24 : w_fe am_c171 24 25 (.iload 2) := ⟨rfl, rfl⟩
theorem fModel_readFresh_25 : w_fe am_c171 25 26 (.bipush 7) := ⟨rfl, rfl⟩
theorem fModel_readFresh_26 : w_ic am_c171 26 27 .ge 33 := ⟨rfl, rfl⟩
theorem fModel_readFresh_27 : w_fe am_c171 27 28 (.iload 3) := ⟨rfl, rfl⟩
theorem fModel_readFresh_28 : w_fe am_c171 28 29 (.aload 0) := ⟨rfl, rfl⟩
theorem fModel_readFresh_29 : w_fe am_c171 29 30 (.getfield 912) := ⟨rfl, rfl⟩
theorem fModel_readFresh_30 : w_ic am_c171 30 31 .le 33 := ⟨rfl, rfl⟩
theorem fModel_readFresh_31 : w_fe am_c171 31 32 (.iload 3) := ⟨rfl, rfl⟩
theorem fModel_readFresh_32 : w_gt am_c171 32 35 := rfl
theorem fModel_readFresh_33 : w_fe am_c171 33 34 (.aload 0) := ⟨rfl, rfl⟩
theorem fModel_readFresh_34 : w_fe am_c171 34 35 (.getfield 912) := ⟨rfl, rfl⟩
theorem fModel_readFresh_35 : w_fe am_c171 35 36 (.putfield 912) := ⟨rfl, rfl⟩
theorem fModel_readFresh_36 : w_fe am_c171 36 37 (.aload 0) := ⟨rfl, rfl⟩
theorem fModel_readFresh_37 : w_fe am_c171 37 38 (.aload 0) := ⟨rfl, rfl⟩
theorem fModel_readFresh_38 : w_fe am_c171 38 39 (.getfield 920) := ⟨rfl, rfl⟩
theorem fModel_readFresh_39 : w_if am_c171 39 40 .ne 49 := ⟨rfl, rfl⟩
theorem fModel_readFresh_40 : w_fe am_c171 40 41 (.iload 2) := ⟨rfl, rfl⟩
theorem fModel_readFresh_41 : w_fe am_c171 41 42 (.bipush 7) := ⟨rfl, rfl⟩
theorem fModel_readFresh_42 : w_ic am_c171 42 43 .lt 49 := ⟨rfl, rfl⟩
theorem fModel_readFresh_43 : w_fe am_c171 43 44 (.iload 3) := ⟨rfl, rfl⟩
theorem fModel_readFresh_44 : w_fe am_c171 44 45 (.aload 0) := ⟨rfl, rfl⟩
theorem fModel_readFresh_45 : w_fe am_c171 45 46 (.getfield 913) := ⟨rfl, rfl⟩
theorem fModel_readFresh_46 : w_ic am_c171 46 47 .le 49 := ⟨rfl, rfl⟩
theorem fModel_readFresh_47 : w_fe am_c171 47 48 (.iload 3) := ⟨rfl, rfl⟩
theorem fModel_readFresh_48 : w_gt am_c171 48 51 := rfl
theorem fModel_readFresh_49 : w_fe am_c171 49 50 (.aload 0) := ⟨rfl, rfl⟩
theorem fModel_readFresh_50 : w_fe am_c171 50 51 (.getfield 913) := ⟨rfl, rfl⟩
theorem fModel_readFresh_51 : w_fe am_c171 51 52 (.putfield 913) := ⟨rfl, rfl⟩
theorem fModel_readFresh_52 : w_fe am_c171 52 53 (.aload 0) := ⟨rfl, rfl⟩
theorem fModel_readFresh_53 : w_fe am_c171 53 54 (.invokestatic 160) := ⟨rfl, rfl⟩
theorem fModel_readFresh_54 : w_fe am_c171 54 55 (.iload 1) := ⟨rfl, rfl⟩
theorem fModel_readFresh_55 : w_fe am_c171 55 56 (.bipush 1) := ⟨rfl, rfl⟩
theorem fModel_readFresh_56 : w_fe am_c171 56 57 (.iload 3) := ⟨rfl, rfl⟩
theorem fModel_readFresh_57 : w_fe am_c171 57 58 (.ishl) := ⟨rfl, rfl⟩
theorem fModel_readFresh_58 : w_fe am_c171 58 59 (.ior) := ⟨rfl, rfl⟩
theorem fModel_readFresh_59 : w_fe am_c171 59 60 (.ireturn) := ⟨rfl, rfl⟩
noncomputable def LModel_readFresh_20 (xs : List Int) (d : Nat) (Q : Option w_V → w_M → Prop) (v1 : Int) (v2 : Int) (v3 : Int) (σ : w_M) : Prop := w_Ex (xs, d) 1 am_c171 Q 20 [some (.inr (.inr (9, 122))), some (.inl v1), some (.inl v2), some (.inl v3)] [] σ
noncomputable def LModel_readFresh_18 (xs : List Int) (d : Nat) (Q : Option w_V → w_M → Prop) (v1 : Int) (v2 : Int) (v3 : Int) (s0 : Int) (σ : w_M) : Prop := w_Ex (xs, d) 1 am_c171 Q 18 [some (.inr (.inr (9, 122))), some (.inl v1), some (.inl v2), some (.inl v3)] [.inl s0, .inr (.inr (9, 122))] σ
noncomputable def LModel_readFresh_35 (xs : List Int) (d : Nat) (Q : Option w_V → w_M → Prop) (v1 : Int) (v2 : Int) (v3 : Int) (s0 : Int) (σ : w_M) : Prop := w_Ex (xs, d) 1 am_c171 Q 35 [some (.inr (.inr (9, 122))), some (.inl v1), some (.inl v2), some (.inl v3)] [.inl s0, .inr (.inr (9, 122))] σ
noncomputable def LModel_readFresh_51 (xs : List Int) (d : Nat) (Q : Option w_V → w_M → Prop) (v1 : Int) (v3 : Int) (s0 : Int) (σ : w_M) : Prop := ∀ l2, w_nl l2 → w_Ex (xs, d) 1 am_c171 Q 51 [some (.inr (.inr (9, 122))), some (.inl v1), l2, some (.inl v3)] [.inl s0, .inr (.inr (9, 122))] σ
set_option maxRecDepth 20000 in
theorem bModel_readFresh_0 {xs : List Int} {d : Nat} {Q : Option w_V → w_M → Prop} {x1 : Int} {x2 : Int} {σ : w_M}
    (h : p_Model_looked 0 x2 σ ∧ (∀ (y1 : Int) (τ2 : w_M), q_Model_looked 0 x2 σ y1 τ2 → ((¬ (τ2 122 20) = 0 → LModel_readFresh_20 xs (d + 2) Q x1 x2 y1 τ2) ∧ ((τ2 122 20) = 0 → ((¬ (w_and (w_shr x1 y1) 1) = 0 → LModel_readFresh_18 xs (d + 2) Q x1 x2 y1 0 τ2) ∧ ((w_and (w_shr x1 y1) 1) = 0 → LModel_readFresh_18 xs (d + 2) Q x1 x2 y1 1 τ2)))))) : w_Call (xs, (d + 2)) 171 [.inr (.inr (9, 122)), .inl x1, .inl x2] σ Q :=
  (w_mk (mid := 171) (by decide) rfl rfl rfl rfl rfl (Nat.le_of_ble_eq_true rfl) ⟨rfl, Or.inl (by decide)⟩ (wi_aload0 fModel_readFresh_0 (wi_bipush fModel_readFresh_1 (wi_iload2 fModel_readFresh_2 (wi_call3 fModel_readFresh_3 (Nat.le_of_ble_eq_true rfl) (k_Model_looked h.1 (fun y1 τ2 eτ2 => (wi_istore3 fModel_readFresh_4 trivial (wi_aload0 fModel_readFresh_5 (wi_getf920 fModel_readFresh_6 (wi_if_ne fModel_readFresh_7 (fun c4 => ((h.2 y1 τ2 eτ2).1 c4)) (fun c4 => (wi_aload0 fModel_readFresh_8 (wi_iload1 fModel_readFresh_9 (wi_iload3 fModel_readFresh_10 (wi_ishr fModel_readFresh_11 (wi_bipush fModel_readFresh_12 (wi_iand fModel_readFresh_13 (wi_if_ne fModel_readFresh_14 (fun c3 => (wi_bipush fModel_readFresh_17 (((h.2 y1 τ2 eτ2).2 c4).1 c3))) (fun c3 => (wi_bipush fModel_readFresh_15 (wi_goto fModel_readFresh_16 (((h.2 y1 τ2 eτ2).2 c4).2 c3)))))))))))))))))))))))
set_option maxRecDepth 20000 in
theorem bModel_readFresh_20 {xs : List Int} {d : Nat} {Q : Option w_V → w_M → Prop} {v1 : Int} {v2 : Int} {v3 : Int} {σ : w_M}
    (h : (¬ (σ 122 20) = 0 → LModel_readFresh_35 xs (d + 2) Q v1 v2 v3 (σ 122 12) σ) ∧ ((σ 122 20) = 0 → ((7 ≤ v2 → LModel_readFresh_35 xs (d + 2) Q v1 v2 v3 (σ 122 12) σ) ∧ (v2 < 7 → ((v3 ≤ (σ 122 12) → LModel_readFresh_35 xs (d + 2) Q v1 v2 v3 (σ 122 12) σ) ∧ ((σ 122 12) < v3 → LModel_readFresh_35 xs (d + 2) Q v1 v2 v3 v3 σ)))))) : LModel_readFresh_20 xs (d + 2) Q v1 v2 v3 σ :=
  (wi_aload0 fModel_readFresh_20 (wi_aload0 fModel_readFresh_21 (wi_getf920 fModel_readFresh_22 (wi_if_ne fModel_readFresh_23 (fun c3 => (wi_aload0 fModel_readFresh_33 (wi_getf912 fModel_readFresh_34 (h.1 c3)))) (fun c3 => (wi_iload2 fModel_readFresh_24 (wi_bipush fModel_readFresh_25 (wi_ic_ge fModel_readFresh_26 (fun c2 => (wi_aload0 fModel_readFresh_33 (wi_getf912 fModel_readFresh_34 ((h.2 c3).1 c2)))) (fun c2 => (wi_iload3 fModel_readFresh_27 (wi_aload0 fModel_readFresh_28 (wi_getf912 fModel_readFresh_29 (wi_ic_le fModel_readFresh_30 (fun c1 => (wi_aload0 fModel_readFresh_33 (wi_getf912 fModel_readFresh_34 (((h.2 c3).2 c2).1 c1)))) (fun c1 => (wi_iload3 fModel_readFresh_31 (wi_goto fModel_readFresh_32 (((h.2 c3).2 c2).2 c1)))))))))))))))))
set_option maxRecDepth 20000 in
theorem bModel_readFresh_18 {xs : List Int} {d : Nat} {Q : Option w_V → w_M → Prop} {v1 : Int} {v2 : Int} {v3 : Int} {s0 : Int} {σ : w_M}
    (h : ∀ (τ1 : w_M), q_Model_needs s0 4 σ τ1 → LModel_readFresh_20 xs (d + 2) Q v1 v2 v3 τ1) : LModel_readFresh_18 xs (d + 2) Q v1 v2 v3 s0 σ :=
  (wi_bipush fModel_readFresh_18 (wi_call3 fModel_readFresh_19 (Nat.le_of_ble_eq_true rfl) (k_Model_needs (fun τ1 eτ1 => (h τ1 eτ1)))))
set_option maxRecDepth 20000 in
theorem bModel_readFresh_35 {xs : List Int} {d : Nat} {Q : Option w_V → w_M → Prop} {v1 : Int} {v2 : Int} {v3 : Int} {s0 : Int} {σ : w_M}
    (h : ∀ (τ1 : w_M), τ1 = w_up σ 122 12 s0 → ((¬ (τ1 122 20) = 0 → LModel_readFresh_51 xs (d + 2) Q v1 v3 (τ1 122 13) τ1) ∧ ((τ1 122 20) = 0 → ((v2 < 7 → LModel_readFresh_51 xs (d + 2) Q v1 v3 (τ1 122 13) τ1) ∧ (7 ≤ v2 → ((v3 ≤ (τ1 122 13) → LModel_readFresh_51 xs (d + 2) Q v1 v3 (τ1 122 13) τ1) ∧ ((τ1 122 13) < v3 → LModel_readFresh_51 xs (d + 2) Q v1 v3 v3 τ1))))))) : LModel_readFresh_35 xs (d + 2) Q v1 v2 v3 s0 σ :=
  (wi_putf912 fModel_readFresh_35 (wi_aload0 fModel_readFresh_36 (wi_aload0 fModel_readFresh_37 (wi_getf920 fModel_readFresh_38 (wi_if_ne fModel_readFresh_39 (fun c4 => (wi_aload0 fModel_readFresh_49 (wi_getf913 fModel_readFresh_50 (((h _ rfl).1 c4) _ (by exact trivial))))) (fun c4 => (wi_iload2 fModel_readFresh_40 (wi_bipush fModel_readFresh_41 (wi_ic_lt fModel_readFresh_42 (fun c3 => (wi_aload0 fModel_readFresh_49 (wi_getf913 fModel_readFresh_50 ((((h _ rfl).2 c4).1 c3) _ (by exact trivial))))) (fun c3 => (wi_iload3 fModel_readFresh_43 (wi_aload0 fModel_readFresh_44 (wi_getf913 fModel_readFresh_45 (wi_ic_le fModel_readFresh_46 (fun c2 => (wi_aload0 fModel_readFresh_49 (wi_getf913 fModel_readFresh_50 (((((h _ rfl).2 c4).2 c3).1 c2) _ (by exact trivial))))) (fun c2 => (wi_iload3 fModel_readFresh_47 (wi_goto fModel_readFresh_48 (((((h _ rfl).2 c4).2 c3).2 c2) _ (by exact trivial)))))))))))))))))))
set_option maxRecDepth 20000 in
theorem bModel_readFresh_51 {xs : List Int} {d : Nat} {Q : Option w_V → w_M → Prop} {v1 : Int} {v3 : Int} {s0 : Int} {σ : w_M}
    (h : ∀ (τ1 : w_M), τ1 = w_up σ 122 13 s0 → (p_Model_next τ1 ∧ (∀ (τ2 : w_M), q_Model_next τ1 τ2 → Q (some (.inl (w_or v1 (w_shl 1 v3)))) τ2))) : LModel_readFresh_51 xs (d + 2) Q v1 v3 s0 σ :=
  fun l2 nl2 => (wi_putf913 fModel_readFresh_51 (wi_aload0 fModel_readFresh_52 (wi_call1 fModel_readFresh_53 (Nat.le_of_ble_eq_true rfl) (k_Model_next (h _ rfl).1 (fun τ2 eτ2 => (wi_iload1 fModel_readFresh_54 (wi_bipush fModel_readFresh_55 (wi_iload3 fModel_readFresh_56 (wi_ishl fModel_readFresh_57 (wi_ior fModel_readFresh_58 (wi_ret1 fModel_readFresh_59 ((h _ rfl).2 τ2 eτ2))))))))))))
theorem k_Model_readFresh {xs : List Int} {d : Nat} {Q : Option w_V → w_M → Prop} {x1 : Int} {x2 : Int} {σ : w_M} (hp : p_Model_readFresh x1 x2 σ) (hQ : ∀ (x : Int) (σ' : w_M), q_Model_readFresh x1 x2 σ x σ' → Q (some (.inl x)) σ') : w_Call (xs, d + 2) 171 [.inr (.inr (9, 122)), .inl x1, .inl x2] σ Q := by
  obtain ⟨h20, hp'⟩ := hp
  have stay : ∀ (v : Int) (τ : w_M), 0 ≤ τ 122 20 → ¬ τ 122 20 = 0 → Q (some (.inl (w_or x1 (w_shl 1 v)))) τ → LModel_readFresh_20 xs (d + 2) Q x1 x2 v τ := fun v τ a c hq => by
    refine bModel_readFresh_20 ⟨fun _ => bModel_readFresh_35 (fun τ1 t1 => ?_), fun h => absurd h c⟩
    rw [w_up_same rfl] at t1
    rw [t1]
    refine ⟨fun _ => bModel_readFresh_51 (fun τ2 t2 => ?_), fun h => absurd h c⟩
    rw [w_up_same rfl] at t2
    rw [t2]
    exact ⟨⟨a, fun h => absurd h c⟩, fun τ3 q3 => by rw [q3.1 c]; exact hq⟩
  refine bModel_readFresh_0 ⟨trivial, fun y1 τ2 q2 => ?_⟩
  by_cases h0 : σ 122 20 = 0
  · obtain ⟨p, ⟨-, -, hk⟩, hpL, hcur⟩ := hp' h0
    obtain ⟨n1, n2, n3⟩ := nt_lo (lo := 0) (hi := x2) hcur h0
    unfold q_Model_readFresh at hQ
    have hLe : mL σ = (σ 122 15).toNat := rfl
    have hk1 := hk.1
    have tpT : ∀ τ : w_M, mo_tp σ τ → mT τ = mT σ ∧ mL τ = mL σ ∧ m_rk τ := fun τ F => ⟨F.T, F.L, F.ok hk⟩
    generalize hT : mT σ = T at *
    generalize hL : mL σ = L at *
    have fin : ∀ (x : Int) (σ' : w_M), mo_g σ σ' → (fr_f T L x1 x2 p = 0 → x = w_or x1 (w_shl 1 (tk_v T L p)) ∧ m_cur T L (tk_b T L p) σ' ∧ σ' 122 12 = (if x2 < 7 ∧ σ 122 12 < tk_v T L p then tk_v T L p else σ 122 12) ∧ σ' 122 13 = (if 7 ≤ x2 ∧ σ 122 13 < tk_v T L p then tk_v T L p else σ 122 13)) → (¬ fr_f T L x1 x2 p = 0 → σ' 122 20 = fr_f T L x1 x2 p ∧ σ' 122 21 = ((tk_f T L p : Nat) : Int)) → Q (some (.inl x)) σ' := fun x σ' F a b => by
      refine hQ _ _ ⟨F, fun h => absurd h0 h, fun _ p' hp2 => ?_⟩
      have e : tk_f T L p' = tk_f T L p := by
        have a1 := hp2.2.2.1
        have b1 := hcur.1
        omega
      obtain ⟨e1, e2, e3⟩ := tk_same e
      have ef : fr_f T L x1 x2 p' = fr_f T L x1 x2 p := by unfold fr_f nt_0; rw [e1, e3]
      rw [ef, e2, e3, e]
      exact ⟨a, b⟩
    by_cases ok : lo_ok 0 x2 σ
    · obtain ⟨e1, e2⟩ := (q2.2 h0).1 ok
      rw [e2]
      have k2 := n3 ok
      have nz := n1.mp ok
      have e16 := hcur.2.1 (by omega)
      have hbL := tk_b_le (T := T) (L := L) (p := p) (tk_k0 (by omega))
      have ev : y1 = tk_v T L p := by rw [e1]; exact hcur.2.2.2.2 k2
      rw [ev]
      refine ⟨fun c => absurd h0 c, fun _ => ⟨fun c => bModel_readFresh_18 (fun τ1 q1 => ?_), fun c => bModel_readFresh_18 (fun τ1 q1 => ?_)⟩⟩
      · obtain ⟨m1, m2, m3, m4⟩ := need_n q1 rfl h0
        have ff : fr_f T L x1 x2 p = 4 := by unfold fr_f; rw [if_pos nz, if_neg c]
        exact stay _ τ1 (by rw [m1]; decide) (by rw [m1]; decide) (fin _ _ m3.g (fun h => absurd (ff.symm.trans h) (by decide)) (fun _ => ⟨by rw [m1, ff], by rw [m2]; exact hcur.1⟩))
      · rw [need_y q1]
        have ff : fr_f T L x1 x2 p = 0 := by unfold fr_f; rw [if_pos nz, if_pos c]
        generalize hv : tk_v T L p = v at *
        have s51 : ∀ (τ : w_M) (s0 : Int), (∀ b, b ≠ 122 → τ b = σ b) → (∀ j, j ≠ 12 → τ 122 j = σ 122 j) → τ 122 12 = (if x2 < 7 ∧ σ 122 12 < v then v else σ 122 12) → s0 = (if 7 ≤ x2 ∧ σ 122 13 < v then v else σ 122 13) → LModel_readFresh_51 xs (d + 2) Q x1 v s0 τ := fun τ s0 a b e12 e13 => by
          refine bModel_readFresh_51 (fun τ1 t1 => ?_)
          have z : ∀ j, j ≠ 12 → j ≠ 13 → τ1 122 j = σ 122 j := fun j h1 h2 => by rw [t1, w_up_j h2]; exact b j h1
          have zb : ∀ b, b ≠ 122 → τ1 b = σ b := fun b' hb' => by rw [t1, w_up_ne hb']; exact a b' hb'
          have z20 : τ1 122 20 = 0 := by rw [z 20 (by decide) (by decide)]; exact h0
          have z16 : τ1 122 16 = ((tk_b T L p : Nat) : Int) := by rw [z 16 (by decide) (by decide)]; exact e16
          have z15 : τ1 122 15 = σ 122 15 := z 15 (by decide) (by decide)
          have tp : mo_tp σ τ1 := ⟨zb 127 (by decide), z15⟩
          obtain ⟨g1, g2, g3⟩ := tpT τ1 tp
          refine ⟨⟨by omega, fun _ => ⟨g3, by omega, by omega⟩⟩, fun τ2 q => ?_⟩
          have t := q.2 z20
          rw [z16, Int.toNat_natCast, g1, g2] at t
          refine fin _ _ ⟨fun b hb => (t.1.1 b hb).trans (zb b hb), fun j hj => (t.1.2 j (by omega)).trans (z j (by omega) (by omega))⟩ (fun _ => ⟨rfl, t.cur, ?_, ?_⟩) (fun h => absurd ff h)
          · rw [t.1.2 12 (by omega), t1, w_up_j (by decide)]; exact e12
          · rw [t.1.2 13 (by omega), t1, w_up_at]; exact e13
        have s35 : ∀ s0 : Int, s0 = (if x2 < 7 ∧ σ 122 12 < v then v else σ 122 12) → LModel_readFresh_35 xs (d + 2) Q x1 x2 v s0 σ := fun s0 e => by
          refine bModel_readFresh_35 (fun τ1 t1 => ?_)
          have z : ∀ j, j ≠ 12 → τ1 122 j = σ 122 j := fun j h => by rw [t1, w_up_j h]
          have zb : ∀ b, b ≠ 122 → τ1 b = σ b := fun b hb => by rw [t1, w_up_ne hb]
          have e12 : τ1 122 12 = s0 := by rw [t1, w_up_at]
          have z13 := z 13 (by decide)
          exact ⟨fun c => absurd ((z 20 (by decide)).trans h0) c, fun _ => ⟨fun c => s51 τ1 _ zb z (e12.trans e) (by rw [z13, if_neg (by omega)]), fun c => ⟨fun c2 => s51 τ1 _ zb z (e12.trans e) (by rw [z13, if_neg (by omega)]), fun c2 => s51 τ1 _ zb z (e12.trans e) (by rw [if_pos (by omega)])⟩⟩⟩
        exact bModel_readFresh_20 ⟨fun c => absurd h0 c, fun _ => ⟨fun c => s35 _ (by rw [if_neg (by omega)]), fun c => ⟨fun c2 => s35 _ (by rw [if_neg (by omega)]), fun c2 => s35 _ (by rw [if_pos (by omega)])⟩⟩⟩
    · obtain ⟨e1, e2, e3, e4, e5⟩ := (q2.2 h0).2 ok
      have ff : fr_f T L x1 x2 p = nt_0 T L 0 x2 p := by unfold fr_f; rw [if_neg (fun q => ok (n1.mpr q))]
      have hb := nt_0_le (T := T) (L := L) (p := p) (lo := 0) (hi := x2)
      have hnz : ¬ τ2 122 20 = 0 := by rw [e2, n2 ok]; exact fun q => ok (n1.mpr q)
      exact ⟨fun _ => stay _ τ2 (by rw [e2, n2 ok]; exact hb.1) hnz (fin _ _ e4.g (fun h => absurd (n1.mpr (ff.symm.trans h)) ok) (fun _ => ⟨by rw [e2, n2 ok, ff], by rw [e3]; exact hcur.1⟩)), fun c => absurd c hnz⟩
  · obtain ⟨e1, e2⟩ := q2.1 h0
    rw [e2]
    exact ⟨fun c => stay _ σ h20 c (hQ _ _ ⟨mo_g.rfl', fun _ => ⟨rfl, rfl⟩, fun h => absurd h h0⟩), fun c => absurd c h0⟩
theorem nf_nn {T : Nat → Int} {L : Nat} {D : w_M} {k b : Nat} : ∀ j, 0 ≤ (nf T L D k b j).1 := by
  intro j
  induction j with
  | zero => exact Int.le_refl _
  | succ j ih =>
    simp only [nf]
    split
    · exact nt_f_le.1
    · exact ih
/-- the reader has come to the j-th number of a line, or has failed before -/
noncomputable def rs (T : Nat → Int) (L : Nat) (D : w_M) (k b j : Nat) (σ : w_M) : Prop := (mT σ = T ∧ mL σ = L ∧ m_rk σ) ∧ ((nf T L D k b j).1 = 0 → pp T L b j ≤ L ∧ m_cur T L (pp T L b j) σ) ∧ (¬ (nf T L D k b j).1 = 0 → σ 122 20 = (nf T L D k b j).1 ∧ σ 122 21 = (((nf T L D k b j).2 : Nat) : Int))
theorem m_cur.f {T : Nat → Int} {L p : Nat} {σ : w_M} (h : m_cur T L p σ) : (σ 122 20 = 0 ∨ σ 122 20 = 1) ∧ (σ 122 20 = 0 ↔ ¬ tk_k T L p = 4) := by
  by_cases k4 : tk_k T L p = 4
  · have := (h.2.2.1 k4).1
    exact ⟨Or.inr this, fun q => by omega, fun q => absurd k4 q⟩
  · have := (h.2.2.2.1 k4).1
    exact ⟨Or.inl this, fun _ => k4, fun _ => this⟩
theorem rs.pre {T : Nat → Int} {L : Nat} {D : w_M} {k b j : Nat} {σ : w_M} (h : rs T L D k b j σ) : nr_ok σ := by
  obtain ⟨⟨rfl, rfl, hk⟩, h1, h2⟩ := h
  by_cases e : (nf (mT σ) (mL σ) D k b j).1 = 0
  · obtain ⟨a1, a2⟩ := h1 e
    exact ⟨by have := a2.f.1; omega, fun _ => ⟨_, ⟨rfl, rfl, hk⟩, a1, a2⟩⟩
  · have a := (h2 e).1
    exact ⟨by rw [a]; exact nf_nn _, fun h => absurd (a.symm.trans h) e⟩
theorem rs.fr {T : Nat → Int} {L : Nat} {D : w_M} {k b j : Nat} {σ σ' : w_M} (h : rs T L D k b j σ) (e7 : σ' 127 = σ 127) (e : ∀ j, 15 ≤ j → j < 22 → σ' 122 j = σ 122 j) : rs T L D k b j σ' := by
  obtain ⟨⟨g1, g2, g3⟩, h1, h2⟩ := h
  have tp : mo_tp σ σ' := ⟨e7, e 15 (by decide) (by decide)⟩
  refine ⟨⟨tp.T.trans g1, tp.L.trans g2, tp.ok g3⟩, fun h => ⟨(h1 h).1, m_cur_fr (h1 h).2 (fun j a b => e j (by omega) b)⟩, fun h => ?_⟩
  rw [e 20 (by decide) (by decide), e 21 (by decide) (by decide)]
  exact h2 h
theorem rs.num {T : Nat → Int} {L : Nat} {D : w_M} {k b j : Nat} {σ σ' : w_M} {x lo hi : Int} (h : rs T L D k b j σ) (h3 : k ≠ 3) (h4 : k ≠ 4) (elo : lo = ln_lo k j) (ehi : hi = ln_hi k j) (q : q_Model_readNumber lo hi σ x σ') : rs T L D k b (j + 1) σ' ∧ mo_fr σ σ' ∧ ((nf T L D k b (j + 1)).1 = 0 → x = tk_v T L (pp T L b j)) := by
  obtain ⟨⟨rfl, rfl, hk⟩, h1, h2⟩ := h
  obtain ⟨F, q1, q2⟩ := q
  have tl : mT σ' = mT σ ∧ mL σ' = mL σ ∧ m_rk σ' := ⟨F.tp.T, F.tp.L, F.tp.ok hk⟩
  by_cases e : (nf (mT σ) (mL σ) D k b j).1 = 0
  · have en : nf (mT σ) (mL σ) D k b (j + 1) = (nt_f (mT σ) (mL σ) D k j (pp (mT σ) (mL σ) b j), tk_f (mT σ) (mL σ) (pp (mT σ) (mL σ) b j)) := by simp only [nf]; rw [if_pos e]
    obtain ⟨hp, hc⟩ := h1 e
    have et : nt_f (mT σ) (mL σ) D k j (pp (mT σ) (mL σ) b j) = nt_0 (mT σ) (mL σ) lo hi (pp (mT σ) (mL σ) b j) := by
      unfold nt_f nt_0
      rw [if_neg (show ¬ ((k = 3 ∧ _) ∨ (k = 4 ∧ _)) from fun z => z.elim (fun z => h3 z.1) (fun z => h4 z.1)), elo, ehi]
    by_cases k4 : tk_k (mT σ) (mL σ) (pp (mT σ) (mL σ) b j) = 4
    · obtain ⟨c1, c2⟩ := hc.2.2.1 k4
      obtain ⟨e1, e2⟩ := q1 (by rw [c1]; decide)
      have ef : nt_f (mT σ) (mL σ) D k j (pp (mT σ) (mL σ) b j) = 1 := by unfold nt_f; rw [if_pos k4]
      rw [e2]
      refine ⟨⟨⟨rfl, rfl, hk⟩, fun h => ?_, fun _ => ?_⟩, mo_fr.rfl', fun h => ?_⟩
      · rw [en] at h
        exact absurd (ef.symm.trans h) (by decide)
      · rw [en]
        exact ⟨c1.trans ef.symm, c2⟩
      · rw [en] at h
        exact absurd (ef.symm.trans h) (by decide)
    · have h0 := (hc.2.2.2.1 k4).1
      have r := q2 h0 _ ⟨⟨rfl, rfl, hk⟩, hp, hc⟩
      rw [← et] at r
      refine ⟨⟨tl, fun h => ?_, fun h => ?_⟩, F, fun h => ?_⟩
      · rw [en] at h
        have k2 := (nt_f_0 h).1
        exact ⟨(tk_b_le (tk_k0 (by omega))).2, (r.1 h).2⟩
      · rw [en] at h ⊢
        exact (r.2 h).2
      · rw [en] at h
        exact (r.1 h).1
  · have hnz : ¬ σ 122 20 = 0 := by rw [(h2 e).1]; exact e
    obtain ⟨e1, e2⟩ := q1 hnz
    have en : nf (mT σ) (mL σ) D k b (j + 1) = nf (mT σ) (mL σ) D k b j := nf_stay e 1
    rw [e2]
    refine ⟨⟨⟨rfl, rfl, hk⟩, fun h => ?_, fun _ => ?_⟩, mo_fr.rfl', fun h => ?_⟩
    · rw [en] at h; exact absurd h e
    · rw [en]; exact h2 e
    · rw [en] at h; exact absurd h e
theorem rs.fresh {T : Nat → Int} {L : Nat} {D : w_M} {k b : Nat} {σ σ' : w_M} {x m hi : Int} (h : rs T L D k b 0 σ) (hk : (k = 3 ∧ m = D 0 2 ∧ hi = 11) ∨ (k = 4 ∧ m = D 0 6 ∧ hi = 6)) (q : q_Model_readFresh m hi σ x σ') : rs T L D k b 1 σ' ∧ ((nf T L D k b 1).1 = 0 → x = w_or m (w_shl 1 (tk_v T L b)) ∧ σ' 122 12 = (if hi < 7 ∧ σ 122 12 < tk_v T L b then tk_v T L b else σ 122 12) ∧ σ' 122 13 = (if 7 ≤ hi ∧ σ 122 13 < tk_v T L b then tk_v T L b else σ 122 13)) := by
  obtain ⟨⟨rfl, rfl, hkk⟩, h1, h2⟩ := h
  obtain ⟨F, q1, q2⟩ := q
  have tl : mT σ' = mT σ ∧ mL σ' = mL σ ∧ m_rk σ' := ⟨F.tp.T, F.tp.L, F.tp.ok hkk⟩
  have en : nf (mT σ) (mL σ) D k b 1 = (nt_f (mT σ) (mL σ) D k 0 b, tk_f (mT σ) (mL σ) b) := rfl
  obtain ⟨hp, hc⟩ := h1 rfl
  have hp' : b ≤ mL σ := hp
  have hc' : m_cur (mT σ) (mL σ) b σ := hc
  have et : nt_f (mT σ) (mL σ) D k 0 b = fr_f (mT σ) (mL σ) m hi b := by
    unfold nt_f fr_f nt_0
    rcases hk with ⟨rfl, rfl, rfl⟩ | ⟨rfl, rfl, rfl⟩
    · have e1 : ln_lo 3 0 = 0 := by decide
      have e2 : ln_hi 3 0 = 11 := by decide
      rw [e1, e2]
      by_cases a : tk_k (mT σ) (mL σ) b = 4
      · simp [a]
      · by_cases a2 : tk_k (mT σ) (mL σ) b = 2
        · by_cases a3 : tk_v (mT σ) (mL σ) b < 0 ∨ 11 < tk_v (mT σ) (mL σ) b
          · simp [a2, a3]
          · by_cases a4 : w_and (w_shr (D 0 2) (tk_v (mT σ) (mL σ) b)) 1 = 0
            · simp [a2, a3, a4]
            · simp [a2, a3, a4]
        · simp [a, a2]
    · have e1 : ln_lo 4 0 = 0 := by decide
      have e2 : ln_hi 4 0 = 6 := by decide
      rw [e1, e2]
      by_cases a : tk_k (mT σ) (mL σ) b = 4
      · simp [a]
      · by_cases a2 : tk_k (mT σ) (mL σ) b = 2
        · by_cases a3 : tk_v (mT σ) (mL σ) b < 0 ∨ 6 < tk_v (mT σ) (mL σ) b
          · simp [a2, a3]
          · by_cases a4 : w_and (w_shr (D 0 6) (tk_v (mT σ) (mL σ) b)) 1 = 0
            · simp [a2, a3, a4]
            · simp [a2, a3, a4]
        · simp [a, a2]
  by_cases k4 : tk_k (mT σ) (mL σ) b = 4
  · obtain ⟨c1, c2⟩ := hc'.2.2.1 k4
    obtain ⟨e1, e2⟩ := q1 (by rw [c1]; decide)
    have ef : nt_f (mT σ) (mL σ) D k 0 b = 1 := by unfold nt_f; rw [if_pos k4]
    refine ⟨⟨tl, fun h => ?_, fun _ => ?_⟩, fun h => ?_⟩
    · rw [en] at h
      exact absurd (ef.symm.trans h) (by decide)
    · rw [en]
      exact ⟨(e1.trans c1).trans ef.symm, e2.trans c2⟩
    · rw [en] at h
      exact absurd (ef.symm.trans h) (by decide)
  · have h0 := (hc'.2.2.2.1 k4).1
    have r := q2 h0 _ ⟨⟨rfl, rfl, hkk⟩, hp', hc'⟩
    rw [← et] at r
    refine ⟨⟨tl, fun h => ?_, fun h => ?_⟩, fun h => ?_⟩
    · rw [en] at h
      have k2 := (nt_f_0 h).1
      exact ⟨(tk_b_le (T := mT σ) (L := mL σ) (p := b) (tk_k0 (by omega))).2, (r.1 h).2.1⟩
    · rw [en] at h ⊢
      exact r.2 h
    · rw [en] at h
      have := r.1 h
      exact ⟨this.1, this.2.2.1, this.2.2.2⟩
end
section
/-! The reference reads the numbers of a line -/
theorem w_up_v {σ : w_M} {a i x : Nat} {v : Int} : w_up σ a i v a x = if x = i then v else σ a x := by
  by_cases h : x = i
  · rw [if_pos h, h, w_up_at]
  · rw [if_neg h, w_up_j h]
theorem nf_pre {T : Nat → Int} {L : Nat} {D : w_M} {k b j : Nat} (h : (nf T L D k b (j + 1)).1 = 0) : (nf T L D k b j).1 = 0 := by
  by_cases q : (nf T L D k b j).1 = 0
  · exact q
  · rw [nf_stay q 1] at h
    exact absurd h q
noncomputable def mo_h (σ σ' : w_M) : Prop := (∀ b, b ≠ 122 → b ≠ 126 → σ' b = σ b) ∧ ∀ j, j < 7 ∨ j = 14 ∨ j = 15 ∨ 22 ≤ j → σ' 122 j = σ 122 j
theorem mo_h.rfl' {σ : w_M} : mo_h σ σ := ⟨fun _ _ _ => rfl, fun _ _ => rfl⟩
theorem mo_h.tr {σ σ1 σ2 : w_M} (h : mo_h σ σ1) (g : mo_h σ1 σ2) : mo_h σ σ2 := ⟨fun b h1 h2 => (g.1 b h1 h2).trans (h.1 b h1 h2), fun j hj => (g.2 j hj).trans (h.2 j hj)⟩
theorem mo_g.h {σ σ' : w_M} (h : mo_g σ σ') : mo_h σ σ' := ⟨fun b hb _ => h.1 b hb, fun j hj => h.2 j (by omega)⟩
theorem mo_fr.h {σ σ' : w_M} (h : mo_fr σ σ') : mo_h σ σ' := h.g.h
theorem mo_h.tp {σ τ : w_M} (h : mo_h σ τ) : mo_tp σ τ := ⟨h.1 127 (by decide) (by decide), h.2 15 (by omega)⟩
theorem mo_h.up6 {σ σ1 : w_M} (h : mo_h σ σ1) {i : Nat} {v : Int} : mo_h σ (w_up σ1 126 i v) := ⟨fun b h1 h2 => by rw [w_up_ne h2]; exact h.1 b h1 h2, fun j hj => by rw [w_up_ne (by decide)]; exact h.2 j hj⟩
theorem mo_h.up2 {σ σ1 : w_M} (h : mo_h σ σ1) {i : Nat} {v : Int} (h1 : 7 ≤ i) (h2 : i < 14) : mo_h σ (w_up σ1 122 i v) := ⟨fun b h3 h4 => by rw [w_up_ne h3]; exact h.1 b h3 h4, fun j hj => by rw [w_up_j (by omega)]; exact h.2 j hj⟩
theorem rs.up6 {T : Nat → Int} {L : Nat} {D : w_M} {k b j i : Nat} {v : Int} {σ : w_M} (h : rs T L D k b j σ) : rs T L D k b j (w_up σ 126 i v) := h.fr (by rw [w_up_ne (by decide)]) (fun j _ _ => by rw [w_up_ne (by decide)])
theorem rs.up2 {T : Nat → Int} {L : Nat} {D : w_M} {k b j i : Nat} {v : Int} {σ : w_M} (h : rs T L D k b j σ) (hi : i < 15) : rs T L D k b j (w_up σ 122 i v) := h.fr (by rw [w_up_ne (by decide)]) (fun j _ _ => by rw [w_up_j (by omega)])
/-- what a line has changed, by sorts -/
noncomputable def le_0 (v0 : Int) (σ σ' : w_M) : Prop := σ' 126 = σ 126 ∧ σ' 122 7 = v0 ∧ ∀ j, j < 16 → j ≠ 7 → σ' 122 j = σ 122 j
noncomputable def le_1 (v0 v1 : Int) (σ σ' : w_M) : Prop := (∀ x, σ' 126 x = if x = 7 + (σ 122 8).toNat then v1 else if x = (σ 122 8).toNat then v0 else σ 126 x) ∧ σ' 122 8 = σ 122 8 + 1 ∧ ∀ j, j < 16 → j ≠ 8 → σ' 122 j = σ 122 j
noncomputable def le_2 (v0 v1 v2 : Int) (σ σ' : w_M) : Prop := (∀ x, σ' 126 x = if x = 24 + 5 * (σ 122 9).toNat then v2 else if x = 23 + 5 * (σ 122 9).toNat then 3 else if x = 22 + 5 * (σ 122 9).toNat then v1 else if x = 21 + 5 * (σ 122 9).toNat then v0 else σ 126 x) ∧ σ' 122 9 = σ 122 9 + 1 ∧ σ' 122 12 = (if σ 122 12 < v2 then v2 else σ 122 12) ∧ ∀ j, j < 16 → j ≠ 9 → j ≠ 12 → σ' 122 j = σ 122 j
noncomputable def le_3 (v0 : Int) (σ σ' : w_M) : Prop := (∀ x, σ' 126 x = if x = 41 then w_or (σ 126 41) (w_shl 1 v0) else σ 126 x) ∧ σ' 122 13 = (if σ 122 13 < v0 then v0 else σ 122 13) ∧ ∀ j, j < 16 → j ≠ 13 → σ' 122 j = σ 122 j
noncomputable def le_4 (v0 : Int) (σ σ' : w_M) : Prop := σ' 126 = σ 126 ∧ σ' 122 11 = w_or (σ 122 11) (w_shl 1 v0) ∧ σ' 122 12 = (if σ 122 12 < v0 then v0 else σ 122 12) ∧ ∀ j, j < 16 → j ≠ 11 → j ≠ 12 → σ' 122 j = σ 122 j
noncomputable def le_q (k : Nat) (v0 v1 v2 : Int) (σ σ' : w_M) : Prop := (k = 0 → le_0 v0 σ σ') ∧ (k = 1 → le_1 v0 v1 σ σ') ∧ (k = 2 → le_2 v0 v1 v2 σ σ') ∧ (k = 3 → le_3 v0 σ σ') ∧ (k = 4 → le_4 v0 σ σ')
noncomputable def p_Model_readReaper (σ : w_M) : Prop := (0 ≤ σ 122 9 ∧ σ 122 9 < 4) ∧ ∃ D b, rs (mT σ) (mL σ) D 2 b 0 σ
noncomputable def q_Model_readReaper (σ σ' : w_M) : Prop := mo_h σ σ' ∧ ∀ D b, rs (mT σ) (mL σ) D 2 b 0 σ → rs (mT σ) (mL σ) D 2 b 3 σ' ∧ ((nf (mT σ) (mL σ) D 2 b 3).1 = 0 → σ' 122 20 = 0 → le_2 (tk_v (mT σ) (mL σ) b) (tk_v (mT σ) (mL σ) (pp (mT σ) (mL σ) b 1)) (tk_v (mT σ) (mL σ) (pp (mT σ) (mL σ) b 2)) σ σ')
theorem fModel_readReaper_0 : w_fe am_c170 0 1 (.bipush 21) := ⟨rfl, rfl⟩
theorem fModel_readReaper_1 : w_fe am_c170 1 2 (.bipush 5) := ⟨rfl, rfl⟩
theorem fModel_readReaper_2 : w_fe am_c170 2 3 (.aload 0) := ⟨rfl, rfl⟩
theorem fModel_readReaper_3 : w_fe am_c170 3 4 (.getfield 909) := ⟨rfl, rfl⟩
theorem fModel_readReaper_4 : w_fe am_c170 4 5 (.imul) := ⟨rfl, rfl⟩
theorem fModel_readReaper_5 : w_fe am_c170 5 6 (.iadd) := ⟨rfl, rfl⟩
theorem fModel_readReaper_6 : w_fe am_c170 6 7 (.istore 1) := ⟨rfl, rfl⟩
theorem fModel_readReaper_7 : w_fe am_c170 7 8 (.aload 0) := ⟨rfl, rfl⟩
theorem fModel_readReaper_8 : w_fe am_c170 8 9 (.getfield 906) := ⟨rfl, rfl⟩
theorem fModel_readReaper_9 : w_fe am_c170 9 10 (.iload 1) := ⟨rfl, rfl⟩
theorem fModel_readReaper_10 : w_fe am_c170 10 11 (.bipush 0) := ⟨rfl, rfl⟩
theorem fModel_readReaper_11 : w_fe am_c170 11 12 (.iadd) := ⟨rfl, rfl⟩
theorem fModel_readReaper_12 : w_fe am_c170 12 13 (.aload 0) := ⟨rfl, rfl⟩
theorem fModel_readReaper_13 : w_fe am_c170 13 14 (.bipush 1) := ⟨rfl, rfl⟩
theorem fModel_readReaper_14 : w_fe am_c170 14 15 (.bipush 9) := ⟨rfl, rfl⟩
theorem fModel_readReaper_15 : w_fe am_c170 15 16 (.invokestatic 168) := ⟨rfl, rfl⟩
theorem fModel_readReaper_16 : w_fe am_c170 16 17 (.iastore) := ⟨rfl, rfl⟩
theorem fModel_readReaper_17 : w_fe am_c170 17 18 (.aload 0) := ⟨rfl, rfl⟩
theorem fModel_readReaper_18 : w_fe am_c170 18 19 (.getfield 906) := ⟨rfl, rfl⟩
theorem fModel_readReaper_19 : w_fe am_c170 19 20 (.iload 1) := ⟨rfl, rfl⟩
theorem fModel_readReaper_20 : w_fe am_c170 20 21 (.bipush 1) := ⟨rfl, rfl⟩
theorem fModel_readReaper_21 : w_fe am_c170 21 22 (.iadd) := ⟨rfl, rfl⟩
theorem fModel_readReaper_22 : w_fe am_c170 22 23 (.aload 0) := ⟨rfl, rfl⟩
theorem fModel_readReaper_23 : w_fe am_c170 23 24 (.bipush 0) := ⟨rfl, rfl⟩
theorem fModel_readReaper_24 : w_fe am_c170 24 25 (.bipush 9) := ⟨rfl, rfl⟩
theorem fModel_readReaper_25 : w_fe am_c170 25 26 (.invokestatic 168) := ⟨rfl, rfl⟩
theorem fModel_readReaper_26 : w_fe am_c170 26 27 (.iastore) := ⟨rfl, rfl⟩
theorem fModel_readReaper_27 : w_fe am_c170 27 28 (.aload 0) := ⟨rfl, rfl⟩
theorem fModel_readReaper_28 : w_fe am_c170 28 29 (.getfield 906) := ⟨rfl, rfl⟩
theorem fModel_readReaper_29 : w_fe am_c170 29 30 (.iload 1) := ⟨rfl, rfl⟩
theorem fModel_readReaper_30 : w_fe am_c170 30 31 (.bipush 2) := ⟨rfl, rfl⟩
theorem fModel_readReaper_31 : w_fe am_c170 31 32 (.iadd) := ⟨rfl, rfl⟩
theorem fModel_readReaper_32 : w_fe am_c170 32 33 (.bipush 3) := ⟨rfl, rfl⟩
theorem fModel_readReaper_33 : w_fe am_c170 33 34 (.iastore) := ⟨rfl, rfl⟩
theorem fModel_readReaper_34 : w_fe am_c170 34 35 (.aload 0) := ⟨rfl, rfl⟩
theorem fModel_readReaper_35 : w_fe am_c170 35 36 (.bipush 0) := ⟨rfl, rfl⟩
theorem fModel_readReaper_36 : w_fe am_c170 36 37 (.bipush 6) := ⟨rfl, rfl⟩
theorem fModel_readReaper_37 : w_fe am_c170 37 38 (.invokestatic 168) := ⟨rfl, rfl⟩
theorem fModel_readReaper_38 : w_fe am_c170 38 39 (.istore 2) := ⟨rfl, rfl⟩
theorem fModel_readReaper_39 : w_fe am_c170 39 40 (.aload 0) := ⟨rfl, rfl⟩
theorem fModel_readReaper_40 : w_fe am_c170 40 41 (.aload 0) := ⟨rfl, rfl⟩
theorem fModel_readReaper_41 : w_fe am_c170 41 42 (.getfield 920) := ⟨rfl, rfl⟩
theorem fModel_readReaper_42 : w_if am_c170 42 43 .ne 49 := ⟨rfl, rfl⟩
theorem fModel_readReaper_43 : w_fe am_c170 43 44 (.iload 2) := ⟨rfl, rfl⟩
theorem fModel_readReaper_44 : w_fe am_c170 44 45 (.aload 0) := ⟨rfl, rfl⟩
theorem fModel_readReaper_45 : w_fe am_c170 45 46 (.getfield 912) := ⟨rfl, rfl⟩
theorem fModel_readReaper_46 : w_ic am_c170 46 47 .le 49 := ⟨rfl, rfl⟩
theorem fModel_readReaper_47 : w_fe am_c170 47 48 (.iload 2) := ⟨rfl, rfl⟩
theorem fModel_readReaper_48 : w_gt am_c170 48 51 := rfl
theorem fModel_readReaper_49 : w_fe am_c170 49 50 (.aload 0) := ⟨rfl, rfl⟩
theorem fModel_readReaper_50 : w_fe am_c170 50 51 (.getfield 912) := ⟨rfl, rfl⟩
theorem fModel_readReaper_51 : w_fe am_c170 51 52 (.putfield 912) := ⟨rfl, rfl⟩
theorem fModel_readReaper_52 : w_fe am_c170 52 53 (.aload 0) := ⟨rfl, rfl⟩
theorem fModel_readReaper_53 : w_fe am_c170 53 54 (.getfield 906) := ⟨rfl, rfl⟩
theorem fModel_readReaper_54 : w_fe am_c170 54 55 (.iload 1) := ⟨rfl, rfl⟩
theorem fModel_readReaper_55 : w_fe am_c170 55 56 (.bipush 3) := ⟨rfl, rfl⟩
theorem fModel_readReaper_56 : w_fe am_c170 56 57 (.iadd) := ⟨rfl, rfl⟩
theorem fModel_readReaper_57 : w_fe am_c170 57 58 (.iload 2) := ⟨rfl, rfl⟩
theorem fModel_readReaper_58 : w_fe am_c170 58 59 (.iastore) := ⟨rfl, rfl⟩
theorem fModel_readReaper_59 : w_fe am_c170 59 60 (.aload 0) := ⟨rfl, rfl⟩
theorem fModel_readReaper_60 : w_fe am_c170 60 61 (.dup) := ⟨rfl, rfl⟩
theorem fModel_readReaper_61 : w_fe am_c170 61 62 (.getfield 909) := ⟨rfl, rfl⟩
theorem fModel_readReaper_62 : w_fe am_c170 62 63 (.bipush 1) := ⟨rfl, rfl⟩
theorem fModel_readReaper_63 : w_fe am_c170 63 64 (.iadd) := ⟨rfl, rfl⟩
theorem fModel_readReaper_64 : w_fe am_c170 64 65 (.putfield 909) := ⟨rfl, rfl⟩
theorem fModel_readReaper_65 : w_fe am_c170 65 66 (.return_) := ⟨rfl, rfl⟩
set_option maxRecDepth 20000 in
theorem bModel_readReaper_0 {xs : List Int} {d : Nat} {Q : Option w_V → w_M → Prop}  {σ : w_M}
    (h : w_in (5 * (σ 122 9)) ∧ w_in (21 + (5 * (σ 122 9))) ∧ (∀ (y1 : Int), y1 = (21 + (5 * (σ 122 9))) → (w_in (y1 + 0) ∧ p_Model_readNumber 1 9 σ ∧ (∀ (y2 : Int) (τ3 : w_M), q_Model_readNumber 1 9 σ y2 τ3 → (0 ≤ (y1 + 0) ∧ (y1 + 0) < 82 ∧ (∀ (τ4 : w_M), τ4 = w_up τ3 126 (y1 + 0).toNat y2 → (w_in (y1 + 1) ∧ p_Model_readNumber 0 9 τ4 ∧ (∀ (y5 : Int) (τ6 : w_M), q_Model_readNumber 0 9 τ4 y5 τ6 → (0 ≤ (y1 + 1) ∧ (y1 + 1) < 82 ∧ (∀ (τ7 : w_M), τ7 = w_up τ6 126 (y1 + 1).toNat y5 → (w_in (y1 + 2) ∧ 0 ≤ (y1 + 2) ∧ (y1 + 2) < 82 ∧ (∀ (τ8 : w_M), τ8 = w_up τ7 126 (y1 + 2).toNat 3 → (p_Model_readNumber 0 6 τ8 ∧ (∀ (y9 : Int) (τ10 : w_M), q_Model_readNumber 0 6 τ8 y9 τ10 → ((¬ (τ10 122 20) = 0 → ∀ (τ11 : w_M), τ11 = w_up τ10 122 12 (τ10 122 12) → (w_in (y1 + 3) ∧ 0 ≤ (y1 + 3) ∧ (y1 + 3) < 82 ∧ (∀ (τ12 : w_M), τ12 = w_up τ11 126 (y1 + 3).toNat y9 → (w_in ((τ12 122 9) + 1) ∧ (∀ (τ13 : w_M), τ13 = w_up τ12 122 9 ((τ12 122 9) + 1) → Q none τ13))))) ∧ ((τ10 122 20) = 0 → ((y9 ≤ (τ10 122 12) → ∀ (τ14 : w_M), τ14 = w_up τ10 122 12 (τ10 122 12) → (w_in (y1 + 3) ∧ 0 ≤ (y1 + 3) ∧ (y1 + 3) < 82 ∧ (∀ (τ15 : w_M), τ15 = w_up τ14 126 (y1 + 3).toNat y9 → (w_in ((τ15 122 9) + 1) ∧ (∀ (τ16 : w_M), τ16 = w_up τ15 122 9 ((τ15 122 9) + 1) → Q none τ16))))) ∧ ((τ10 122 12) < y9 → ∀ (τ17 : w_M), τ17 = w_up τ10 122 12 y9 → (w_in (y1 + 3) ∧ 0 ≤ (y1 + 3) ∧ (y1 + 3) < 82 ∧ (∀ (τ18 : w_M), τ18 = w_up τ17 126 (y1 + 3).toNat y9 → (w_in ((τ18 122 9) + 1) ∧ (∀ (τ19 : w_M), τ19 = w_up τ18 122 9 ((τ18 122 9) + 1) → Q none τ19)))))))))))))))))))))) : w_Call (xs, (d + 3)) 170 [.inr (.inr (9, 122))] σ Q :=
  (w_mk (mid := 170) (by decide) rfl rfl rfl rfl rfl (Nat.le_of_ble_eq_true rfl) ⟨rfl, Or.inl (by decide)⟩ (wi_bipush fModel_readReaper_0 (wi_bipush fModel_readReaper_1 (wi_aload0 fModel_readReaper_2 (wi_getf909 fModel_readReaper_3 (wi_imul fModel_readReaper_4 h.1 (wi_iadd fModel_readReaper_5 h.2.1 (wi_istore1 fModel_readReaper_6 trivial (wi_aload0 fModel_readReaper_7 (wi_getf906 fModel_readReaper_8 (wi_iload1 fModel_readReaper_9 (wi_bipush fModel_readReaper_10 (wi_iadd fModel_readReaper_11 (h.2.2 _ rfl).1 (wi_aload0 fModel_readReaper_12 (wi_bipush fModel_readReaper_13 (wi_bipush fModel_readReaper_14 (wi_call3 fModel_readReaper_15 (Nat.le_of_ble_eq_true rfl) (k_Model_readNumber (h.2.2 _ rfl).2.1 (fun y2 τ3 eτ3 => (wi_iast1082 fModel_readReaper_16 ((h.2.2 _ rfl).2.2 y2 τ3 eτ3).1 ((h.2.2 _ rfl).2.2 y2 τ3 eτ3).2.1 (wi_aload0 fModel_readReaper_17 (wi_getf906 fModel_readReaper_18 (wi_iload1 fModel_readReaper_19 (wi_bipush fModel_readReaper_20 (wi_iadd fModel_readReaper_21 (((h.2.2 _ rfl).2.2 y2 τ3 eτ3).2.2 _ rfl).1 (wi_aload0 fModel_readReaper_22 (wi_bipush fModel_readReaper_23 (wi_bipush fModel_readReaper_24 (wi_call3 fModel_readReaper_25 (Nat.le_of_ble_eq_true rfl) (k_Model_readNumber (((h.2.2 _ rfl).2.2 y2 τ3 eτ3).2.2 _ rfl).2.1 (fun y5 τ6 eτ6 => (wi_iast1082 fModel_readReaper_26 ((((h.2.2 _ rfl).2.2 y2 τ3 eτ3).2.2 _ rfl).2.2 y5 τ6 eτ6).1 ((((h.2.2 _ rfl).2.2 y2 τ3 eτ3).2.2 _ rfl).2.2 y5 τ6 eτ6).2.1 (wi_aload0 fModel_readReaper_27 (wi_getf906 fModel_readReaper_28 (wi_iload1 fModel_readReaper_29 (wi_bipush fModel_readReaper_30 (wi_iadd fModel_readReaper_31 (((((h.2.2 _ rfl).2.2 y2 τ3 eτ3).2.2 _ rfl).2.2 y5 τ6 eτ6).2.2 _ rfl).1 (wi_bipush fModel_readReaper_32 (wi_iast1082 fModel_readReaper_33 (((((h.2.2 _ rfl).2.2 y2 τ3 eτ3).2.2 _ rfl).2.2 y5 τ6 eτ6).2.2 _ rfl).2.1 (((((h.2.2 _ rfl).2.2 y2 τ3 eτ3).2.2 _ rfl).2.2 y5 τ6 eτ6).2.2 _ rfl).2.2.1 (wi_aload0 fModel_readReaper_34 (wi_bipush fModel_readReaper_35 (wi_bipush fModel_readReaper_36 (wi_call3 fModel_readReaper_37 (Nat.le_of_ble_eq_true rfl) (k_Model_readNumber ((((((h.2.2 _ rfl).2.2 y2 τ3 eτ3).2.2 _ rfl).2.2 y5 τ6 eτ6).2.2 _ rfl).2.2.2 _ rfl).1 (fun y9 τ10 eτ10 => (wi_istore2 fModel_readReaper_38 trivial (wi_aload0 fModel_readReaper_39 (wi_aload0 fModel_readReaper_40 (wi_getf920 fModel_readReaper_41 (wi_if_ne fModel_readReaper_42 (fun c21 => (wi_aload0 fModel_readReaper_49 (wi_getf912 fModel_readReaper_50 (wi_putf912 fModel_readReaper_51 (wi_aload0 fModel_readReaper_52 (wi_getf906 fModel_readReaper_53 (wi_iload1 fModel_readReaper_54 (wi_bipush fModel_readReaper_55 (wi_iadd fModel_readReaper_56 (((((((((h.2.2 _ rfl).2.2 y2 τ3 eτ3).2.2 _ rfl).2.2 y5 τ6 eτ6).2.2 _ rfl).2.2.2 _ rfl).2 y9 τ10 eτ10).1 c21) _ rfl).1 (wi_iload2 fModel_readReaper_57 (wi_iast1082 fModel_readReaper_58 (((((((((h.2.2 _ rfl).2.2 y2 τ3 eτ3).2.2 _ rfl).2.2 y5 τ6 eτ6).2.2 _ rfl).2.2.2 _ rfl).2 y9 τ10 eτ10).1 c21) _ rfl).2.1 (((((((((h.2.2 _ rfl).2.2 y2 τ3 eτ3).2.2 _ rfl).2.2 y5 τ6 eτ6).2.2 _ rfl).2.2.2 _ rfl).2 y9 τ10 eτ10).1 c21) _ rfl).2.2.1 (wi_aload0 fModel_readReaper_59 (wi_dup_a fModel_readReaper_60 (wi_getf909 fModel_readReaper_61 (wi_bipush fModel_readReaper_62 (wi_iadd fModel_readReaper_63 ((((((((((h.2.2 _ rfl).2.2 y2 τ3 eτ3).2.2 _ rfl).2.2 y5 τ6 eτ6).2.2 _ rfl).2.2.2 _ rfl).2 y9 τ10 eτ10).1 c21) _ rfl).2.2.2 _ rfl).1 (wi_putf909 fModel_readReaper_64 (wi_ret0 fModel_readReaper_65 (((((((((((h.2.2 _ rfl).2.2 y2 τ3 eτ3).2.2 _ rfl).2.2 y5 τ6 eτ6).2.2 _ rfl).2.2.2 _ rfl).2 y9 τ10 eτ10).1 c21) _ rfl).2.2.2 _ rfl).2 _ rfl))))))))))))))))))) (fun c21 => (wi_iload2 fModel_readReaper_43 (wi_aload0 fModel_readReaper_44 (wi_getf912 fModel_readReaper_45 (wi_ic_le fModel_readReaper_46 (fun c20 => (wi_aload0 fModel_readReaper_49 (wi_getf912 fModel_readReaper_50 (wi_putf912 fModel_readReaper_51 (wi_aload0 fModel_readReaper_52 (wi_getf906 fModel_readReaper_53 (wi_iload1 fModel_readReaper_54 (wi_bipush fModel_readReaper_55 (wi_iadd fModel_readReaper_56 ((((((((((h.2.2 _ rfl).2.2 y2 τ3 eτ3).2.2 _ rfl).2.2 y5 τ6 eτ6).2.2 _ rfl).2.2.2 _ rfl).2 y9 τ10 eτ10).2 c21).1 c20) _ rfl).1 (wi_iload2 fModel_readReaper_57 (wi_iast1082 fModel_readReaper_58 ((((((((((h.2.2 _ rfl).2.2 y2 τ3 eτ3).2.2 _ rfl).2.2 y5 τ6 eτ6).2.2 _ rfl).2.2.2 _ rfl).2 y9 τ10 eτ10).2 c21).1 c20) _ rfl).2.1 ((((((((((h.2.2 _ rfl).2.2 y2 τ3 eτ3).2.2 _ rfl).2.2 y5 τ6 eτ6).2.2 _ rfl).2.2.2 _ rfl).2 y9 τ10 eτ10).2 c21).1 c20) _ rfl).2.2.1 (wi_aload0 fModel_readReaper_59 (wi_dup_a fModel_readReaper_60 (wi_getf909 fModel_readReaper_61 (wi_bipush fModel_readReaper_62 (wi_iadd fModel_readReaper_63 (((((((((((h.2.2 _ rfl).2.2 y2 τ3 eτ3).2.2 _ rfl).2.2 y5 τ6 eτ6).2.2 _ rfl).2.2.2 _ rfl).2 y9 τ10 eτ10).2 c21).1 c20) _ rfl).2.2.2 _ rfl).1 (wi_putf909 fModel_readReaper_64 (wi_ret0 fModel_readReaper_65 ((((((((((((h.2.2 _ rfl).2.2 y2 τ3 eτ3).2.2 _ rfl).2.2 y5 τ6 eτ6).2.2 _ rfl).2.2.2 _ rfl).2 y9 τ10 eτ10).2 c21).1 c20) _ rfl).2.2.2 _ rfl).2 _ rfl))))))))))))))))))) (fun c20 => (wi_iload2 fModel_readReaper_47 (wi_goto fModel_readReaper_48 (wi_putf912 fModel_readReaper_51 (wi_aload0 fModel_readReaper_52 (wi_getf906 fModel_readReaper_53 (wi_iload1 fModel_readReaper_54 (wi_bipush fModel_readReaper_55 (wi_iadd fModel_readReaper_56 ((((((((((h.2.2 _ rfl).2.2 y2 τ3 eτ3).2.2 _ rfl).2.2 y5 τ6 eτ6).2.2 _ rfl).2.2.2 _ rfl).2 y9 τ10 eτ10).2 c21).2 c20) _ rfl).1 (wi_iload2 fModel_readReaper_57 (wi_iast1082 fModel_readReaper_58 ((((((((((h.2.2 _ rfl).2.2 y2 τ3 eτ3).2.2 _ rfl).2.2 y5 τ6 eτ6).2.2 _ rfl).2.2.2 _ rfl).2 y9 τ10 eτ10).2 c21).2 c20) _ rfl).2.1 ((((((((((h.2.2 _ rfl).2.2 y2 τ3 eτ3).2.2 _ rfl).2.2 y5 τ6 eτ6).2.2 _ rfl).2.2.2 _ rfl).2 y9 τ10 eτ10).2 c21).2 c20) _ rfl).2.2.1 (wi_aload0 fModel_readReaper_59 (wi_dup_a fModel_readReaper_60 (wi_getf909 fModel_readReaper_61 (wi_bipush fModel_readReaper_62 (wi_iadd fModel_readReaper_63 (((((((((((h.2.2 _ rfl).2.2 y2 τ3 eτ3).2.2 _ rfl).2.2 y5 τ6 eτ6).2.2 _ rfl).2.2.2 _ rfl).2 y9 τ10 eτ10).2 c21).2 c20) _ rfl).2.2.2 _ rfl).1 (wi_putf909 fModel_readReaper_64 (wi_ret0 fModel_readReaper_65 ((((((((((((h.2.2 _ rfl).2.2 y2 τ3 eτ3).2.2 _ rfl).2.2 y5 τ6 eτ6).2.2 _ rfl).2.2.2 _ rfl).2 y9 τ10 eτ10).2 c21).2 c20) _ rfl).2.2.2 _ rfl).2 _ rfl))))))))))))))))))))))))))))))))))))))))))))))))))))))))))))))))))))))))))
set_option maxHeartbeats 1000000 in
theorem k_Model_readReaper {xs : List Int} {d : Nat} {Q : Option w_V → w_M → Prop}  {σ : w_M} (hp : p_Model_readReaper σ) (hQ : ∀ σ' : w_M, q_Model_readReaper σ σ' → Q none σ') : w_Call (xs, d + 3) 170 [.inr (.inr (9, 122))] σ Q := by
  obtain ⟨h9, D0, b0, r0⟩ := hp
  unfold q_Model_readReaper at hQ
  generalize hT : mT σ = T at *
  generalize hL : mL σ = L at *
  obtain ⟨n, hn⟩ : ∃ n : Nat, σ 122 9 = (n : Int) := ⟨(σ 122 9).toNat, by omega⟩
  refine bModel_readReaper_0 ⟨⟨by omega, by omega⟩, ⟨by omega, by omega⟩, fun y1 e1 => ⟨⟨by omega, by omega⟩, r0.pre, fun y2 τ3 q3 => ⟨by omega, by omega, fun τ4 t4 => ⟨⟨by omega, by omega⟩, ?_⟩⟩⟩⟩
  have i0 : (y1 + 0).toNat = 21 + 5 * n := by omega
  have i1 : (y1 + 1).toNat = 22 + 5 * n := by omega
  have i2 : (y1 + 2).toNat = 23 + 5 * n := by omega
  have i3 : (y1 + 3).toNat = 24 + 5 * n := by omega
  rw [i0] at t4
  have s1 : ∀ D b, rs T L D 2 b 0 σ → rs T L D 2 b 1 τ4 ∧ ((nf T L D 2 b 1).1 = 0 → y2 = tk_v T L b) := fun D b r => by
    obtain ⟨a1, a2, a3⟩ := r.num (by decide) (by decide) (by decide) (by decide) q3
    rw [t4]
    exact ⟨a1.up6, a3⟩
  refine ⟨(s1 D0 b0 r0).1.pre, fun y5 τ6 q6 => ⟨by omega, by omega, fun τ7 t7 => ⟨⟨by omega, by omega⟩, by omega, by omega, fun τ8 t8 => ?_⟩⟩⟩
  rw [i1] at t7
  rw [i2] at t8
  have s2 : ∀ D b, rs T L D 2 b 0 σ → rs T L D 2 b 2 τ8 ∧ ((nf T L D 2 b 2).1 = 0 → y2 = tk_v T L b ∧ y5 = tk_v T L (pp T L b 1)) := fun D b r => by
    obtain ⟨c1, c2⟩ := s1 D b r
    obtain ⟨a1, a2, a3⟩ := c1.num (by decide) (by decide) (by decide) (by decide) q6
    rw [t8, t7]
    exact ⟨a1.up6.up6, fun h => ⟨c2 (nf_pre h), a3 h⟩⟩
  refine ⟨(s2 D0 b0 r0).1.pre, fun y9 τ10 q10 => ?_⟩
  have s3 : ∀ D b, rs T L D 2 b 0 σ → rs T L D 2 b 3 τ10 ∧ ((nf T L D 2 b 3).1 = 0 → y2 = tk_v T L b ∧ y5 = tk_v T L (pp T L b 1) ∧ y9 = tk_v T L (pp T L b 2)) := fun D b r => by
    obtain ⟨c1, c2⟩ := s2 D b r
    obtain ⟨a1, a2, a3⟩ := c1.num (by decide) (by decide) (by decide) (by decide) q10
    exact ⟨a1, fun h => ⟨(c2 (nf_pre h)).1, (c2 (nf_pre h)).2, a3 h⟩⟩
  have F3 : mo_fr σ τ3 := q3.1
  have F6 : mo_fr τ4 τ6 := q6.1
  have F10 : mo_fr τ8 τ10 := q10.1
  have z6 : ∀ x, τ10 126 x = if x = 23 + 5 * n then 3 else if x = 22 + 5 * n then y5 else if x = 21 + 5 * n then y2 else σ 126 x := fun x => by
    rw [F10.1 126 (by decide), t8, w_up_v, t7, w_up_v, F6.1 126 (by decide), t4, w_up_v, F3.1 126 (by decide)]
  have z2 : ∀ j, j < 16 ∨ 22 ≤ j → τ10 122 j = σ 122 j := fun j hj => by
    rw [F10.2 j hj, t8, w_up_ne (by decide), t7, w_up_ne (by decide), F6.2 j hj, t4, w_up_ne (by decide), F3.2 j hj]
  have zb : mo_h σ τ10 := by
    have a := F3.h
    have b : mo_h σ τ4 := by rw [t4]; exact a.up6
    have c : mo_h σ τ8 := by rw [t8, t7]; exact (b.tr F6.h).up6.up6
    exact c.tr F10.h
  have z9 : τ10 122 9 = (n : Int) := by rw [z2 9 (by omega)]; exact hn
  have z12 : τ10 122 12 = σ 122 12 := z2 12 (by omega)
  have tail : ∀ z : Int, (τ10 122 20 = 0 → z = (if τ10 122 12 < y9 then y9 else τ10 122 12)) → ∀ τ11, τ11 = w_up τ10 122 12 z → w_in (y1 + 3) ∧ 0 ≤ y1 + 3 ∧ y1 + 3 < 82 ∧ ∀ τ12, τ12 = w_up τ11 126 (y1 + 3).toNat y9 → w_in (τ12 122 9 + 1) ∧ ∀ τ13, τ13 = w_up τ12 122 9 (τ12 122 9 + 1) → Q none τ13 := fun z hz τ11 t11 => by
    refine ⟨⟨by omega, by omega⟩, by omega, by omega, fun τ12 t12 => ?_⟩
    rw [i3] at t12
    have y9' : τ12 122 9 = (n : Int) := by rw [t12, w_up_ne (by decide), t11, w_up_j (by decide)]; exact z9
    refine ⟨⟨by omega, by omega⟩, fun τ13 t13 => hQ _ ⟨?_, fun D b r => ⟨?_, fun h h20 => ?_⟩⟩⟩
    · rw [t13, t12, t11]; exact ((zb.up2 (by decide) (by decide)).up6).up2 (by decide) (by decide)
    · rw [t13, t12, t11]; exact (((s3 D b r).1.up2 (by decide)).up6).up2 (by decide)
    · have hz' := hz (by rw [t13, w_up_j (by decide), t12, w_up_ne (by decide), t11, w_up_j (by decide)] at h20; exact h20)
      obtain ⟨v0, v1, v2⟩ := (s3 D b r).2 h
      rw [← v0, ← v1, ← v2]
      have en : (σ 122 9).toNat = n := by omega
      refine ⟨fun x => ?_, ?_, ?_, fun j h1 h2 h3 => ?_⟩
      · rw [en, t13, w_up_ne (by decide), t12, w_up_v, t11, w_up_ne (by decide), z6]
      · rw [t13, w_up_at, y9', hn]
      · rw [t13, w_up_j (by decide), t12, w_up_ne (by decide), t11, w_up_at, hz', z12]
      · rw [t13, w_up_j h2, t12, w_up_ne (by decide), t11, w_up_j h3]; exact z2 j (by omega)
  refine ⟨fun c => tail _ (fun h => absurd h c), fun c => ⟨fun c2 => tail _ (fun _ => by rw [if_neg (by omega)]), fun c2 => tail _ (fun _ => by rw [if_pos c2])⟩⟩
noncomputable def p_Model_readLineOf (k : Int) (σ : w_M) : Prop := (0 ≤ k ∧ k ≤ 4) ∧ (k = 1 → 0 ≤ σ 122 8 ∧ σ 122 8 < 7) ∧ (k = 2 → 0 ≤ σ 122 9 ∧ σ 122 9 < 4) ∧ ∃ D b, rs (mT σ) (mL σ) D k.toNat b 0 σ
noncomputable def q_Model_readLineOf (k : Int) (σ σ' : w_M) : Prop := mo_h σ σ' ∧ ∀ D b, rs (mT σ) (mL σ) D k.toNat b 0 σ → D 0 2 = σ 126 41 → D 0 6 = σ 122 11 → rs (mT σ) (mL σ) D k.toNat b (ln_m k.toNat) σ' ∧ ((nf (mT σ) (mL σ) D k.toNat b (ln_m k.toNat)).1 = 0 → σ' 122 20 = 0 → le_q k.toNat (tk_v (mT σ) (mL σ) b) (tk_v (mT σ) (mL σ) (pp (mT σ) (mL σ) b 1)) (tk_v (mT σ) (mL σ) (pp (mT σ) (mL σ) b 2)) σ σ')
theorem fModel_readLineOf_0 : w_fe am_c167 0 1 (.iload 1) := ⟨rfl, rfl⟩
theorem fModel_readLineOf_1 {E : w_C} {rt : Nat} {Q : Option w_V → w_M → Prop} {ls : w_L} {st : List w_V} {σ : w_M} {x : Int} (h0 : x = 0 → w_Ex E rt am_c167 Q 2 ls st σ) (h1 : x = 1 → w_Ex E rt am_c167 Q 9 ls st σ) (h2 : x = 2 → w_Ex E rt am_c167 Q 38 ls st σ) (h3 : x = 3 → w_Ex E rt am_c167 Q 41 ls st σ) (hd : x < 0 ∨ 3 < x → w_Ex E rt am_c167 Q 53 ls st σ) : w_Ex E rt am_c167 Q 1 ls (.inl x :: st) σ :=
  w_Ex_in (op := .tableswitch 53 0 3 #[2, 9, 38, 41]) rfl ⟨rfl, hd, And.intro h0 (And.intro h1 (And.intro h2 (And.intro h3 ( trivial))))⟩
theorem fModel_readLineOf_2 : w_fe am_c167 2 3 (.aload 0) := ⟨rfl, rfl⟩
theorem fModel_readLineOf_3 : w_fe am_c167 3 4 (.aload 0) := ⟨rfl, rfl⟩
theorem fModel_readLineOf_4 : w_fe am_c167 4 5 (.bipush 1) := ⟨rfl, rfl⟩
theorem fModel_readLineOf_5 : w_fe am_c167 5 6 (.bipush 12) := ⟨rfl, rfl⟩
theorem fModel_readLineOf_6 : w_fe am_c167 6 7 (.invokestatic 168) := ⟨rfl, rfl⟩
theorem fModel_readLineOf_7 : w_fe am_c167 7 8 (.putfield 907) := ⟨rfl, rfl⟩
theorem fModel_readLineOf_8 : w_gt am_c167 8 60 := rfl
theorem fModel_readLineOf_9 : w_fe am_c167 9 10 (.aload 0) := ⟨rfl, rfl⟩
theorem fModel_readLineOf_10 : w_fe am_c167 10 11 (.getfield 906) := ⟨rfl, rfl⟩
theorem fModel_readLineOf_11 : w_fe am_c167 11 12 (.bipush 0) := ⟨rfl, rfl⟩
theorem fModel_readLineOf_12 : w_fe am_c167 12 13 (.aload 0) := ⟨rfl, rfl⟩
theorem fModel_readLineOf_13 : w_fe am_c167 13 14 (.getfield 908) := ⟨rfl, rfl⟩
theorem fModel_readLineOf_14 : w_fe am_c167 14 15 (.iadd) := ⟨rfl, rfl⟩
theorem fModel_readLineOf_15 : w_fe am_c167 15 16 (.aload 0) := ⟨rfl, rfl⟩
theorem fModel_readLineOf_16 : w_fe am_c167 16 17 (.bipush 0) := ⟨rfl, rfl⟩
theorem fModel_readLineOf_17 : w_fe am_c167 17 18 (.bipush 40) := ⟨rfl, rfl⟩
theorem fModel_readLineOf_18 : w_fe am_c167 18 19 (.invokestatic 168) := ⟨rfl, rfl⟩
theorem fModel_readLineOf_19 : w_fe am_c167 19 20 (.iastore) := ⟨rfl, rfl⟩
theorem fModel_readLineOf_20 : w_fe am_c167 20 21 (.aload 0) := ⟨rfl, rfl⟩
theorem fModel_readLineOf_21 : w_fe am_c167 21 22 (.getfield 906) := ⟨rfl, rfl⟩
theorem fModel_readLineOf_22 : w_fe am_c167 22 23 (.bipush 7) := ⟨rfl, rfl⟩
theorem fModel_readLineOf_23 : w_fe am_c167 23 24 (.aload 0) := ⟨rfl, rfl⟩
theorem fModel_readLineOf_24 : w_fe am_c167 24 25 (.getfield 908) := ⟨rfl, rfl⟩
theorem fModel_readLineOf_25 : w_fe am_c167 25 26 (.iadd) := ⟨rfl, rfl⟩
theorem fModel_readLineOf_26 : w_fe am_c167 26 27 (.aload 0) := ⟨rfl, rfl⟩
theorem fModel_readLineOf_27 : w_fe am_c167 27 28 (.bipush 0) := ⟨rfl, rfl⟩
theorem fModel_readLineOf_28 : w_fe am_c167 28 29 (.bipush 3) := ⟨rfl, rfl⟩
theorem fModel_readLineOf_29 : w_fe am_c167 29 30 (.invokestatic 168) := ⟨rfl, rfl⟩
theorem fModel_readLineOf_30 : w_fe am_c167 30 31 (.iastore) := ⟨rfl, rfl⟩
theorem fModel_readLineOf_31 : w_fe am_c167 31 32 (.aload 0) := ⟨rfl, rfl⟩
theorem fModel_readLineOf_32 : w_fe am_c167 32 33 (.dup) := ⟨rfl, rfl⟩
theorem fModel_readLineOf_33 : w_fe am_c167 33 34 (.getfield 908) := ⟨rfl, rfl⟩
theorem fModel_readLineOf_34 : w_fe am_c167 34 35 (.bipush 1) := ⟨rfl, rfl⟩
theorem fModel_readLineOf_35 : w_fe am_c167 35 36 (.iadd) := ⟨rfl, rfl⟩
theorem fModel_readLineOf_36 : w_fe am_c167 36 37 (.putfield 908) := ⟨rfl, rfl⟩
theorem fModel_readLineOf_37 : w_gt am_c167 37 60 := rfl
theorem fModel_readLineOf_38 : w_fe am_c167 38 39 (.aload 0) := ⟨rfl, rfl⟩
theorem fModel_readLineOf_39 : w_fe am_c167 39 40 (.invokestatic 170) := ⟨rfl, rfl⟩
theorem fModel_readLineOf_40 : w_gt am_c167 40 60 := rfl
theorem fModel_readLineOf_41 : w_fe am_c167 41 42 (.aload 0) := ⟨rfl, rfl⟩
theorem fModel_readLineOf_42 : w_fe am_c167 42 43 (.getfield 906) := ⟨rfl, rfl⟩
theorem fModel_readLineOf_43 : w_fe am_c167 43 44 (.bipush 41) := ⟨rfl, rfl⟩
theorem fModel_readLineOf_44 : w_fe am_c167 44 45 (.aload 0) := ⟨rfl, rfl⟩
theorem fModel_readLineOf_45 : w_fe am_c167 45 46 (.aload 0) := ⟨rfl, rfl⟩
theorem fModel_readLineOf_46 : w_fe am_c167 46 47 (.getfield 906) := ⟨rfl, rfl⟩
theorem fModel_readLineOf_47 : w_fe am_c167 47 48 (.bipush 41) := ⟨rfl, rfl⟩
theorem fModel_readLineOf_48 : w_fe am_c167 48 49 (.iaload) := ⟨rfl, rfl⟩
theorem fModel_readLineOf_49 : w_fe am_c167 49 50 (.bipush 11) := ⟨rfl, rfl⟩
theorem fModel_readLineOf_50 : w_fe am_c167 50 51 (.invokestatic 171) := ⟨rfl, rfl⟩
theorem fModel_readLineOf_51 : w_fe am_c167 51 52 (.iastore) := ⟨rfl, rfl⟩
theorem fModel_readLineOf_52 : w_gt am_c167 52 60 := rfl
theorem fModel_readLineOf_53 : w_fe am_c167 53 54 (.aload 0) := ⟨rfl, rfl⟩
theorem fModel_readLineOf_54 : w_fe am_c167 54 55 (.aload 0) := ⟨rfl, rfl⟩
theorem fModel_readLineOf_55 : w_fe am_c167 55 56 (.aload 0) := ⟨rfl, rfl⟩
theorem fModel_readLineOf_56 : w_fe am_c167 56 57 (.getfield 911) := ⟨rfl, rfl⟩
theorem fModel_readLineOf_57 : w_fe am_c167 57 58 (.bipush 6) := ⟨rfl, rfl⟩
theorem fModel_readLineOf_58 : w_fe am_c167 58 59 (.invokestatic 171) := ⟨rfl, rfl⟩
theorem fModel_readLineOf_59 : w_fe am_c167 59 60 (.putfield 911) := ⟨rfl, rfl⟩
theorem fModel_readLineOf_60 : w_fe am_c167 60 61 (.return_) := ⟨rfl, rfl⟩
set_option maxRecDepth 20000 in
theorem bModel_readLineOf_0 {xs : List Int} {d : Nat} {Q : Option w_V → w_M → Prop} {x1 : Int} {σ : w_M}
    (h : (x1 = 0 → (p_Model_readNumber 1 12 σ ∧ (∀ (y1 : Int) (τ2 : w_M), q_Model_readNumber 1 12 σ y1 τ2 → ∀ (τ3 : w_M), τ3 = w_up τ2 122 7 y1 → Q none τ3))) ∧ (x1 = 1 → (w_in (0 + (σ 122 8)) ∧ p_Model_readNumber 0 40 σ ∧ (∀ (y4 : Int) (τ5 : w_M), q_Model_readNumber 0 40 σ y4 τ5 → (0 ≤ (0 + (σ 122 8)) ∧ (0 + (σ 122 8)) < 82 ∧ (∀ (τ6 : w_M), τ6 = w_up τ5 126 (0 + (σ 122 8)).toNat y4 → (w_in (7 + (τ6 122 8)) ∧ p_Model_readNumber 0 3 τ6 ∧ (∀ (y7 : Int) (τ8 : w_M), q_Model_readNumber 0 3 τ6 y7 τ8 → (0 ≤ (7 + (τ6 122 8)) ∧ (7 + (τ6 122 8)) < 82 ∧ (∀ (τ9 : w_M), τ9 = w_up τ8 126 (7 + (τ6 122 8)).toNat y7 → (w_in ((τ9 122 8) + 1) ∧ (∀ (τ10 : w_M), τ10 = w_up τ9 122 8 ((τ9 122 8) + 1) → Q none τ10))))))))))) ∧ (x1 = 2 → (p_Model_readReaper σ ∧ (∀ (τ11 : w_M), q_Model_readReaper σ τ11 → Q none τ11))) ∧ (x1 = 3 → (p_Model_readFresh (σ 126 41) 11 σ ∧ (∀ (y12 : Int) (τ13 : w_M), q_Model_readFresh (σ 126 41) 11 σ y12 τ13 → ∀ (τ14 : w_M), τ14 = w_up τ13 126 41 y12 → Q none τ14))) ∧ (x1 < 0 ∨ 3 < x1 → (p_Model_readFresh (σ 122 11) 6 σ ∧ (∀ (y15 : Int) (τ16 : w_M), q_Model_readFresh (σ 122 11) 6 σ y15 τ16 → ∀ (τ17 : w_M), τ17 = w_up τ16 122 11 y15 → Q none τ17)))) : w_Call (xs, (d + 4)) 167 [.inr (.inr (9, 122)), .inl x1] σ Q :=
  (w_mk (mid := 167) (by decide) rfl rfl rfl rfl rfl (Nat.le_of_ble_eq_true rfl) ⟨rfl, Or.inl (by decide)⟩ (wi_iload1 fModel_readLineOf_0 (fModel_readLineOf_1 (fun c => (wi_aload0 fModel_readLineOf_2 (wi_aload0 fModel_readLineOf_3 (wi_bipush fModel_readLineOf_4 (wi_bipush fModel_readLineOf_5 (wi_call3 fModel_readLineOf_6 (Nat.le_of_ble_eq_true rfl) (k_Model_readNumber (h.1 c).1 (fun y1 τ2 eτ2 => (wi_putf907 fModel_readLineOf_7 (wi_goto fModel_readLineOf_8 (wi_ret0 fModel_readLineOf_60 (((h.1 c).2 y1 τ2 eτ2) _ rfl)))))))))))) (fun c => (wi_aload0 fModel_readLineOf_9 (wi_getf906 fModel_readLineOf_10 (wi_bipush fModel_readLineOf_11 (wi_aload0 fModel_readLineOf_12 (wi_getf908 fModel_readLineOf_13 (wi_iadd fModel_readLineOf_14 (h.2.1 c).1 (wi_aload0 fModel_readLineOf_15 (wi_bipush fModel_readLineOf_16 (wi_bipush fModel_readLineOf_17 (wi_call3 fModel_readLineOf_18 (Nat.le_of_ble_eq_true rfl) (k_Model_readNumber (h.2.1 c).2.1 (fun y4 τ5 eτ5 => (wi_iast1082 fModel_readLineOf_19 ((h.2.1 c).2.2 y4 τ5 eτ5).1 ((h.2.1 c).2.2 y4 τ5 eτ5).2.1 (wi_aload0 fModel_readLineOf_20 (wi_getf906 fModel_readLineOf_21 (wi_bipush fModel_readLineOf_22 (wi_aload0 fModel_readLineOf_23 (wi_getf908 fModel_readLineOf_24 (wi_iadd fModel_readLineOf_25 (((h.2.1 c).2.2 y4 τ5 eτ5).2.2 _ rfl).1 (wi_aload0 fModel_readLineOf_26 (wi_bipush fModel_readLineOf_27 (wi_bipush fModel_readLineOf_28 (wi_call3 fModel_readLineOf_29 (Nat.le_of_ble_eq_true rfl) (k_Model_readNumber (((h.2.1 c).2.2 y4 τ5 eτ5).2.2 _ rfl).2.1 (fun y7 τ8 eτ8 => (wi_iast1082 fModel_readLineOf_30 ((((h.2.1 c).2.2 y4 τ5 eτ5).2.2 _ rfl).2.2 y7 τ8 eτ8).1 ((((h.2.1 c).2.2 y4 τ5 eτ5).2.2 _ rfl).2.2 y7 τ8 eτ8).2.1 (wi_aload0 fModel_readLineOf_31 (wi_dup_a fModel_readLineOf_32 (wi_getf908 fModel_readLineOf_33 (wi_bipush fModel_readLineOf_34 (wi_iadd fModel_readLineOf_35 (((((h.2.1 c).2.2 y4 τ5 eτ5).2.2 _ rfl).2.2 y7 τ8 eτ8).2.2 _ rfl).1 (wi_putf908 fModel_readLineOf_36 (wi_goto fModel_readLineOf_37 (wi_ret0 fModel_readLineOf_60 ((((((h.2.1 c).2.2 y4 τ5 eτ5).2.2 _ rfl).2.2 y7 τ8 eτ8).2.2 _ rfl).2 _ rfl)))))))))))))))))))))))))))))))))))) (fun c => (wi_aload0 fModel_readLineOf_38 (wi_call1 fModel_readLineOf_39 (Nat.le_of_ble_eq_true rfl) (k_Model_readReaper (h.2.2.1 c).1 (fun τ11 eτ11 => (wi_goto fModel_readLineOf_40 (wi_ret0 fModel_readLineOf_60 ((h.2.2.1 c).2 τ11 eτ11)))))))) (fun c => (wi_aload0 fModel_readLineOf_41 (wi_getf906 fModel_readLineOf_42 (wi_bipush fModel_readLineOf_43 (wi_aload0 fModel_readLineOf_44 (wi_aload0 fModel_readLineOf_45 (wi_getf906 fModel_readLineOf_46 (wi_bipush fModel_readLineOf_47 (wi_iald1082 fModel_readLineOf_48 (by decide) (by decide) (wi_bipush fModel_readLineOf_49 (wi_call3 fModel_readLineOf_50 (Nat.le_of_ble_eq_true rfl) (k_Model_readFresh (h.2.2.2.1 c).1 (fun y12 τ13 eτ13 => (wi_iast1082 fModel_readLineOf_51 (by decide) (by decide) (wi_goto fModel_readLineOf_52 (wi_ret0 fModel_readLineOf_60 (((h.2.2.2.1 c).2 y12 τ13 eτ13) _ rfl))))))))))))))))) (fun c => (wi_aload0 fModel_readLineOf_53 (wi_aload0 fModel_readLineOf_54 (wi_aload0 fModel_readLineOf_55 (wi_getf911 fModel_readLineOf_56 (wi_bipush fModel_readLineOf_57 (wi_call3 fModel_readLineOf_58 (Nat.le_of_ble_eq_true rfl) (k_Model_readFresh (h.2.2.2.2 c).1 (fun y15 τ16 eτ16 => (wi_putf911 fModel_readLineOf_59 (wi_ret0 fModel_readLineOf_60 (((h.2.2.2.2 c).2 y15 τ16 eτ16) _ rfl)))))))))))))))
set_option maxHeartbeats 1000000 in
theorem k_Model_readLineOf {xs : List Int} {d : Nat} {Q : Option w_V → w_M → Prop} {x1 : Int} {σ : w_M} (hp : p_Model_readLineOf x1 σ) (hQ : ∀ σ' : w_M, q_Model_readLineOf x1 σ σ' → Q none σ') : w_Call (xs, d + 4) 167 [.inr (.inr (9, 122)), .inl x1] σ Q := by
  obtain ⟨hk, hk1, hk2, D0, b0, r0⟩ := hp
  unfold q_Model_readLineOf at hQ
  generalize hT : mT σ = T at *
  generalize hL : mL σ = L at *
  refine bModel_readLineOf_0 ⟨fun c => ?_, fun c => ?_, fun c => ?_, fun c => ?_, fun c => ?_⟩
  · subst c
    refine ⟨r0.pre, fun y1 τ2 q2 τ3 t3 => hQ _ ⟨?_, fun D b r _ _ => ?_⟩⟩
    · rw [t3]; exact q2.1.h.up2 (by decide) (by decide)
    · obtain ⟨a1, a2, a3⟩ := r.num (by decide) (by decide) (by decide) (by decide) q2
      refine ⟨by rw [t3]; exact a1.up2 (by decide), fun h _ => ⟨fun _ => ?_, fun h => absurd h (by decide), fun h => absurd h (by decide), fun h => absurd h (by decide), fun h => absurd h (by decide)⟩⟩
      have v0 : y1 = tk_v T L b := a3 h
      rw [← v0]
      exact ⟨by rw [t3, w_up_ne (by decide)]; exact a2.1 126 (by decide), by rw [t3, w_up_at], fun j h1 h2 => by rw [t3, w_up_j h2]; exact a2.2 j (by omega)⟩
  · subst c
    have h8 := hk1 rfl
    obtain ⟨n, hn⟩ : ∃ n : Nat, σ 122 8 = (n : Int) := ⟨(σ 122 8).toNat, by omega⟩
    refine ⟨⟨by omega, by omega⟩, r0.pre, fun y4 τ5 q5 => ⟨by omega, by omega, fun τ6 t6 => ?_⟩⟩
    rw [show (0 + σ 122 8).toNat = n by omega] at t6
    have F5 : mo_fr σ τ5 := q5.1
    have z8 : τ6 122 8 = (n : Int) := by rw [t6, w_up_ne (by decide), F5.2 8 (by omega)]; exact hn
    have s1 : ∀ D b, rs T L D 1 b 0 σ → rs T L D 1 b 1 τ6 ∧ ((nf T L D 1 b 1).1 = 0 → y4 = tk_v T L b) := fun D b r => by
      obtain ⟨a1, a2, a3⟩ := r.num (by decide) (by decide) (by decide) (by decide) q5
      rw [t6]
      exact ⟨a1.up6, a3⟩
    refine ⟨⟨by omega, by omega⟩, (s1 D0 b0 r0).1.pre, fun y7 τ8 q8 => ⟨by omega, by omega, fun τ9 t9 => ?_⟩⟩
    rw [show (7 + τ6 122 8).toNat = 7 + n by omega] at t9
    have F8 : mo_fr τ6 τ8 := q8.1
    have w8 : τ9 122 8 = (n : Int) := by rw [t9, w_up_ne (by decide), F8.2 8 (by omega)]; exact z8
    refine ⟨⟨by omega, by omega⟩, fun τ10 t10 => hQ _ ⟨?_, fun D b r _ _ => ?_⟩⟩
    · have a : mo_h σ τ6 := by rw [t6]; exact F5.h.up6
      rw [t10, t9]
      exact ((a.tr F8.h).up6).up2 (by decide) (by decide)
    · obtain ⟨c1, c2⟩ := s1 D b r
      obtain ⟨a1, a2, a3⟩ := c1.num (by decide) (by decide) (by decide) (by decide) q8
      refine ⟨by rw [t10, t9]; exact a1.up6.up2 (by decide), fun h _ => ⟨fun h => absurd h (by decide), fun _ => ?_, fun h => absurd h (by decide), fun h => absurd h (by decide), fun h => absurd h (by decide)⟩⟩
      have h' : (nf T L D 1 b 2).1 = 0 := h
      rw [← c2 (nf_pre h'), ← a3 h']
      have en : (σ 122 8).toNat = n := by omega
      refine ⟨fun x => ?_, by rw [t10, w_up_at, w8, hn], fun j h1 h2 => ?_⟩
      · rw [en, t10, w_up_ne (by decide), t9, w_up_v, F8.1 126 (by decide), t6, w_up_v, F5.1 126 (by decide)]
      · rw [t10, w_up_j h2, t9, w_up_ne (by decide), F8.2 j (by omega), t6, w_up_ne (by decide), F5.2 j (by omega)]
  · subst c
    refine ⟨⟨hk2 rfl, D0, b0, by rw [hT, hL]; exact r0⟩, fun τ11 q11 => hQ _ ?_⟩
    unfold q_Model_readReaper at q11
    rw [hT, hL] at q11
    refine ⟨q11.1, fun D b r _ _ => ?_⟩
    have q := q11.2 D b r
    exact ⟨q.1, fun h h2 => ⟨fun h => absurd h (by decide), fun h => absurd h (by decide), fun _ => q.2 h h2, fun h => absurd h (by decide), fun h => absurd h (by decide)⟩⟩
  · subst c
    refine ⟨r0.pre, fun y12 τ13 q13 τ14 t14 => hQ _ ⟨by rw [t14]; exact q13.1.h.up6, fun D b r e2 e6 => ?_⟩⟩
    obtain ⟨a1, a2⟩ := r.fresh (Or.inl ⟨rfl, e2.symm, rfl⟩) q13
    refine ⟨by rw [t14]; exact a1.up6, fun h _ => ⟨fun h => absurd h (by decide), fun h => absurd h (by decide), fun h => absurd h (by decide), fun _ => ?_, fun h => absurd h (by decide)⟩⟩
    obtain ⟨x1, x2, x3⟩ := a2 h
    refine ⟨fun x => ?_, ?_, fun j h1 h2 => ?_⟩
    · rw [t14, w_up_v, x1, q13.1.1 126 (by decide)]
    · rw [t14, w_up_ne (by decide), x3]
      by_cases g : σ 122 13 < tk_v T L b
      · rw [if_pos ⟨by decide, g⟩, if_pos g]
      · rw [if_neg (fun z => g z.2), if_neg g]
    · rw [t14, w_up_ne (by decide)]
      by_cases e : j = 12
      · subst e
        rw [x2, if_neg (fun z => absurd z.1 (by decide))]
      · exact q13.1.2 j (by omega)
  · obtain rfl : x1 = 4 := by omega
    refine ⟨r0.pre, fun y15 τ16 q16 τ17 t17 => hQ _ ⟨by rw [t17]; exact q16.1.h.up2 (by decide) (by decide), fun D b r e2 e6 => ?_⟩⟩
    obtain ⟨a1, a2⟩ := r.fresh (Or.inr ⟨rfl, e6.symm, rfl⟩) q16
    refine ⟨by rw [t17]; exact a1.up2 (by decide), fun h _ => ⟨fun h => absurd h (by decide), fun h => absurd h (by decide), fun h => absurd h (by decide), fun h => absurd h (by decide), fun _ => ?_⟩⟩
    obtain ⟨x1, x2, x3⟩ := a2 h
    refine ⟨?_, ?_, ?_, fun j h1 h2 h3 => ?_⟩
    · rw [t17, w_up_ne (by decide)]; exact q16.1.1 126 (by decide)
    · rw [t17, w_up_at, x1]
    · rw [t17, w_up_j (by decide), x2]
      by_cases g : σ 122 12 < tk_v T L b
      · rw [if_pos ⟨by decide, g⟩, if_pos g]
      · rw [if_neg (fun z => g z.2), if_neg g]
    · rw [t17, w_up_j h2]
      by_cases e : j = 13
      · subst e
        rw [x3, if_neg (fun z => absurd z.1 (by decide))]
      · exact q16.1.2 j (by omega)
end
