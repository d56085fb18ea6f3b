/-! The reference reads tokens -/
noncomputable def mL (σ : w_M) : Nat := (σ 122 15).toNat
noncomputable def mT (σ : w_M) : Nat → Int := fun i => if i < (σ 122 15).toNat then σ 127 i else 0
noncomputable def m_rk (σ : w_M) : Prop := (0 ≤ σ 122 15 ∧ σ 122 15 ≤ 160) ∧ ∀ i, i < (σ 122 15).toNat → 0 ≤ σ 127 i ∧ σ 127 i ≤ 127
/-- the reader's own alone may have changed -/
noncomputable def mo_fr (σ σ' : w_M) : Prop := (∀ b, b ≠ 122 → σ' b = σ b) ∧ ∀ j, j < 16 ∨ 22 ≤ j → σ' 122 j = σ 122 j
theorem mo_fr.rfl' {σ : w_M} : mo_fr σ σ := ⟨fun _ _ => rfl, fun _ _ => rfl⟩
theorem mo_fr.tr {σ σ1 σ2 : w_M} (h : mo_fr σ σ1) (g : mo_fr σ1 σ2) : mo_fr σ σ2 := ⟨fun b hb => (g.1 b hb).trans (h.1 b hb), fun j hj => (g.2 j hj).trans (h.2 j hj)⟩
theorem mo_fr.up {σ σ1 : w_M} (h : mo_fr σ σ1) {j : Nat} {x : Int} (h1 : 16 ≤ j) (h2 : j < 22) : mo_fr σ (w_up σ1 122 j x) := ⟨fun b hb => by rw [w_up_ne hb]; exact h.1 b hb, fun i hi => by rw [w_up_j (by omega)]; exact h.2 i hi⟩
/-- what both tape and its length hold by -/
noncomputable def mo_tp (σ σ' : w_M) : Prop := σ' 127 = σ 127 ∧ σ' 122 15 = σ 122 15
theorem mo_fr.tp {σ τ : w_M} (h : mo_fr σ τ) : mo_tp σ τ := ⟨h.1 127 (by decide), h.2 15 (by omega)⟩
theorem mo_tp.L {σ τ : w_M} (h : mo_tp σ τ) : mL τ = mL σ := by unfold mL; rw [h.2]
theorem mo_tp.T {σ τ : w_M} (h : mo_tp σ τ) : mT τ = mT σ := by unfold mT; rw [h.2, h.1]
theorem mo_tp.ok {σ τ : w_M} (h : mo_tp σ τ) (hk : m_rk σ) : m_rk τ := by unfold m_rk at hk ⊢; rw [h.2, h.1]; exact hk
theorem m_tb {σ : w_M} {p : Nat} : tb (mT σ) (mL σ) p = if p < (σ 122 15).toNat then σ 127 p else -1 := by
  unfold tb mT mL
  by_cases h : p < (σ 122 15).toNat
  · rw [if_pos h, if_pos h, if_pos h]
  · rw [if_neg h, if_neg h]
noncomputable def p_Model_byteAt (x : Int) (σ : w_M) : Prop := 0 ≤ x ∧ σ 122 15 ≤ 160
noncomputable def v_Model_byteAt (x : Int) (σ : w_M) : Int := if σ 122 15 ≤ x then -1 else σ 127 x.toNat
theorem m_byte {σ : w_M} (h : m_rk σ) {x : Int} (hx : 0 ≤ x) : v_Model_byteAt x σ = tb (mT σ) (mL σ) x.toNat := by
  have := h.1
  unfold v_Model_byteAt
  rw [m_tb]
  by_cases c : σ 122 15 ≤ x
  · rw [if_pos c, if_neg (by omega)]
  · rw [if_neg c, if_pos (by omega)]
noncomputable def q_Model_needs (g n : Int) (σ σ' : w_M) : Prop := (g = 0 → σ 122 20 = 0 → σ' = w_up (w_up σ 122 20 n) 122 21 (σ 122 17)) ∧ (¬ (g = 0 ∧ σ 122 20 = 0) → σ' = σ)
theorem fModel_byteAt_0 : w_fe am_c161 0 1 (.iload 1) := ⟨rfl, rfl⟩
theorem fModel_byteAt_1 : w_fe am_c161 1 2 (.aload 0) := ⟨rfl, rfl⟩
theorem fModel_byteAt_2 : w_fe am_c161 2 3 (.getfield 915) := ⟨rfl, rfl⟩
theorem fModel_byteAt_3 : w_ic am_c161 3 4 .ge 9 := ⟨rfl, rfl⟩
theorem fModel_byteAt_4 : w_fe am_c161 4 5 (.aload 0) := ⟨rfl, rfl⟩
theorem fModel_byteAt_5 : w_fe am_c161 5 6 (.getfield 914) := ⟨rfl, rfl⟩
theorem fModel_byteAt_6 : w_fe am_c161 6 7 (.iload 1) := ⟨rfl, rfl⟩
theorem fModel_byteAt_7 : w_fe am_c161 7 8 (.iaload) := ⟨rfl, rfl⟩
theorem fModel_byteAt_8 : w_gt am_c161 8 10 := rfl
theorem fModel_byteAt_9 : w_fe am_c161 9 10 (.bipush (-1)) := ⟨rfl, rfl⟩
theorem fModel_byteAt_10 : w_fe am_c161 10 11 (.ireturn) := ⟨rfl, rfl⟩
set_option maxRecDepth 20000 in
theorem bModel_byteAt_0 {xs : List Int} {d : Nat} {Q : Option w_V → w_M → Prop} {x1 : Int} {σ : w_M}
    (h : ((σ 122 15) ≤ x1 → Q (some (.inl (-1))) σ) ∧ (x1 < (σ 122 15) → (0 ≤ x1 ∧ x1 < 160 ∧ Q (some (.inl (σ 127 x1.toNat))) σ))) : w_Call (xs, d) 161 [.inr (.inr (9, 122)), .inl x1] σ Q :=
  (w_mk (mid := 161) (by decide) rfl rfl rfl rfl rfl (Nat.le_of_ble_eq_true rfl) ⟨rfl, Or.inl (by decide)⟩ (wi_iload1 fModel_byteAt_0 (wi_aload0 fModel_byteAt_1 (wi_getf915 fModel_byteAt_2 (wi_ic_ge fModel_byteAt_3 (fun c1 => (wi_bipush fModel_byteAt_9 (wi_ret1 fModel_byteAt_10 (h.1 c1)))) (fun c1 => (wi_aload0 fModel_byteAt_4 (wi_getf914 fModel_byteAt_5 (wi_iload1 fModel_byteAt_6 (wi_iald1160 fModel_byteAt_7 (h.2 c1).1 (h.2 c1).2.1 (wi_goto fModel_byteAt_8 (wi_ret1 fModel_byteAt_10 (h.2 c1).2.2))))))))))))
theorem fModel_needs_0 : w_fe am_c162 0 1 (.iload 1) := ⟨rfl, rfl⟩
theorem fModel_needs_1 : w_if am_c162 1 2 .ne 12 := ⟨rfl, rfl⟩
theorem fModel_needs_2 : w_fe am_c162 2 3 (.aload 0) := ⟨rfl, rfl⟩
theorem fModel_needs_3 : w_fe am_c162 3 4 (.getfield 920) := ⟨rfl, rfl⟩
theorem fModel_needs_4 : w_if am_c162 4 5 .ne 12 := ⟨rfl, rfl⟩
theorem fModel_needs_5 : w_fe am_c162 5 6 (.aload 0) := ⟨rfl, rfl⟩
theorem fModel_needs_6 : w_fe am_c162 6 7 (.iload 2) := ⟨rfl, rfl⟩
theorem fModel_needs_7 : w_fe am_c162 7 8 (.putfield 920) := ⟨rfl, rfl⟩
theorem fModel_needs_8 : w_fe am_c162 8 9 (.aload 0) := ⟨rfl, rfl⟩
theorem fModel_needs_9 : w_fe am_c162 9 10 (.aload 0) := ⟨rfl, rfl⟩
theorem fModel_needs_10 : w_fe am_c162 10 11 (.getfield 917) := ⟨rfl, rfl⟩
theorem fModel_needs_11 : w_fe am_c162 11 12 (.putfield 921) := ⟨rfl, rfl⟩
theorem fModel_needs_12 : w_fe am_c162 12 13 (.return_) := ⟨rfl, rfl⟩
set_option maxRecDepth 20000 in
theorem bModel_needs_0 {xs : List Int} {d : Nat} {Q : Option w_V → w_M → Prop} {x1 : Int} {x2 : Int} {σ : w_M}
    (h : (¬ x1 = 0 → Q none σ) ∧ (x1 = 0 → ((¬ (σ 122 20) = 0 → Q none σ) ∧ ((σ 122 20) = 0 → ∀ (τ1 : w_M), τ1 = w_up σ 122 20 x2 → ∀ (τ2 : w_M), τ2 = w_up τ1 122 21 (τ1 122 17) → Q none τ2)))) : w_Call (xs, d) 162 [.inr (.inr (9, 122)), .inl x1, .inl x2] σ Q :=
  (w_mk (mid := 162) (by decide) rfl rfl rfl rfl rfl (Nat.le_of_ble_eq_true rfl) ⟨rfl, Or.inl (by decide)⟩ (wi_iload1 fModel_needs_0 (wi_if_ne fModel_needs_1 (fun c4 => (wi_ret0 fModel_needs_12 (h.1 c4))) (fun c4 => (wi_aload0 fModel_needs_2 (wi_getf920 fModel_needs_3 (wi_if_ne fModel_needs_4 (fun c3 => (wi_ret0 fModel_needs_12 ((h.2 c4).1 c3))) (fun c3 => (wi_aload0 fModel_needs_5 (wi_iload2 fModel_needs_6 (wi_putf920 fModel_needs_7 (wi_aload0 fModel_needs_8 (wi_aload0 fModel_needs_9 (wi_getf917 fModel_needs_10 (wi_putf921 fModel_needs_11 (wi_ret0 fModel_needs_12 ((((h.2 c4).2 c3) _ rfl) _ rfl)))))))))))))))))
theorem k_Model_byteAt {xs : List Int} {d : Nat} {Q : Option w_V → w_M → Prop} {x1 : Int} {σ : w_M} (hp : p_Model_byteAt x1 σ) (hQ : Q (some (.inl (v_Model_byteAt x1 σ))) σ) : w_Call (xs, d) 161 [.inr (.inr (9, 122)), .inl x1] σ Q := by
  have h : 0 ≤ x1 ∧ σ 122 15 ≤ 160 := hp
  unfold v_Model_byteAt at hQ
  refine bModel_byteAt_0 ⟨fun c => ?_, fun c => ⟨h.1, by omega, ?_⟩⟩
  · rw [if_pos c] at hQ; exact hQ
  · rw [if_neg (by omega)] at hQ; exact hQ
theorem k_Model_needs {xs : List Int} {d : Nat} {Q : Option w_V → w_M → Prop} {x1 : Int} {x2 : Int} {σ : w_M} (hQ : ∀ σ' : w_M, q_Model_needs x1 x2 σ σ' → Q none σ') : w_Call (xs, d) 162 [.inr (.inr (9, 122)), .inl x1, .inl x2] σ Q := by
  refine bModel_needs_0 ⟨fun c => hQ _ ⟨fun h => absurd h c, fun _ => rfl⟩, fun c => ⟨fun c2 => hQ _ ⟨fun _ h => absurd h c2, fun _ => rfl⟩, fun c2 τ1 t1 τ2 t2 => hQ _ ⟨fun _ _ => ?_, fun h => absurd ⟨c, c2⟩ h⟩⟩⟩
  rw [t2, t1, w_up_j (by decide)]
theorem need_y {n : Int} {σ σ' : w_M} (h : q_Model_needs 1 n σ σ') : σ' = σ := h.2 (fun q => absurd q.1 (by decide))
theorem need_n {g n : Int} {σ σ' : w_M} (h : q_Model_needs g n σ σ') (hg : g = 0) (h0 : σ 122 20 = 0) : σ' 122 20 = n ∧ σ' 122 21 = σ 122 17 ∧ mo_fr σ σ' ∧ (∀ j, j ≠ 20 → j ≠ 21 → σ' 122 j = σ 122 j) := by
  have e := h.1 hg h0
  rw [e]
  refine ⟨by rw [w_up_j (by decide), w_up_at], by rw [w_up_at], (mo_fr.rfl'.up (by decide) (by decide)).up (by decide) (by decide), fun j h1 h2 => by rw [w_up_j h2, w_up_j h1]⟩
noncomputable def p_Model_next (σ : w_M) : Prop := 0 ≤ σ 122 20 ∧ (σ 122 20 = 0 → m_rk σ ∧ (0 ≤ σ 122 16 ∧ σ 122 16 ≤ σ 122 15))
noncomputable def m_tok (T : Nat → Int) (L p : Nat) (σ σ' : w_M) : Prop := mo_fr σ σ' ∧ σ' 122 17 = ((tk_f T L p : Nat) : Int) ∧ (¬ tk_k T L p = 0 → σ' 122 16 = ((tk_b T L p : Nat) : Int)) ∧ (tk_k T L p = 4 → σ' 122 20 = 1 ∧ σ' 122 21 = ((tk_f T L p : Nat) : Int)) ∧ (¬ tk_k T L p = 4 → σ' 122 20 = 0 ∧ σ' 122 18 = tk_k T L p) ∧ (tk_k T L p = 2 → σ' 122 19 = tk_v T L p)
noncomputable def q_Model_next (σ σ' : w_M) : Prop := (¬ σ 122 20 = 0 → σ' = σ) ∧ (σ 122 20 = 0 → m_tok (mT σ) (mL σ) (σ 122 16).toNat σ σ')
theorem fModel_next_0 : w_fe am_c160 0 1 (.aload 0) := ⟨rfl, rfl⟩
theorem fModel_next_1 : w_fe am_c160 1 2 (.getfield 920) := ⟨rfl, rfl⟩
theorem fModel_next_2 : w_if am_c160 2 3 .le 4 := ⟨rfl, rfl⟩
theorem fModel_next_3 : w_fe am_c160 3 4 (.return_) := ⟨rfl, rfl⟩
theorem fModel_next_4 : w_fe am_c160 4 5 (.aload 0) := ⟨rfl, rfl⟩
theorem fModel_next_5 : w_fe am_c160 5 6 (.aload 0) := ⟨rfl, rfl⟩
theorem fModel_next_6 : w_fe am_c160 6 7 (.getfield 916) := ⟨rfl, rfl⟩
theorem fModel_next_7 : w_fe am_c160 7 8 (.invokestatic 161) := ⟨rfl, rfl⟩
theorem fModel_next_8 : w_fe am_c160 8 9 (.bipush 32) := ⟨rfl, rfl⟩
theorem fModel_next_9 : w_ic am_c160 9 10 .ne 17 := ⟨rfl, rfl⟩
theorem fModel_next_10 : w_fe am_c160 10 11 (.aload 0) := ⟨rfl, rfl⟩
theorem fModel_next_11 : w_fe am_c160 11 12 (.dup) := ⟨rfl, rfl⟩
theorem fModel_next_12 : w_fe am_c160 12 13 (.getfield 916) := ⟨rfl, rfl⟩
theorem fModel_next_13 : w_fe am_c160 13 14 (.bipush 1) := ⟨rfl, rfl⟩
theorem fModel_next_14 : w_fe am_c160 14 15 (.iadd) := ⟨rfl, rfl⟩
theorem fModel_next_15 : w_fe am_c160 15 16 (.putfield 916) := ⟨rfl, rfl⟩
theorem fModel_next_16 : w_gt am_c160 16 4 := rfl
theorem fModel_next_17 : w_fe am_c160 17 18 (.aload 0) := ⟨rfl, rfl⟩
theorem fModel_next_18 : w_fe am_c160 18 19 (.aload 0) := ⟨rfl, rfl⟩
theorem fModel_next_19 : w_fe am_c160 19 20 (.getfield 916) := ⟨rfl, rfl⟩
theorem fModel_next_20 : w_fe am_c160 20 21 (.putfield 917) := ⟨rfl, rfl⟩
theorem fModel_next_21 : w_fe am_c160 21 22 (.aload 0) := ⟨rfl, rfl⟩
theorem fModel_next_22 : w_fe am_c160 22 23 (.aload 0) := ⟨rfl, rfl⟩
theorem fModel_next_23 : w_fe am_c160 23 24 (.getfield 916) := ⟨rfl, rfl⟩
theorem fModel_next_24 : w_fe am_c160 24 25 (.invokestatic 161) := ⟨rfl, rfl⟩
theorem fModel_next_25 : w_fe am_c160 25 26 (.istore 1) := ⟨rfl, rfl⟩
theorem fModel_next_26 : w_fe am_c160 26 27 (.iload 1) := ⟨rfl, rfl⟩
theorem fModel_next_27 : w_if am_c160 27 28 .ge 32 := ⟨rfl, rfl⟩
theorem fModel_next_28 : w_fe am_c160 28 29 (.aload 0) := ⟨rfl, rfl⟩
theorem fModel_next_29 : w_fe am_c160 29 30 (.bipush 0) := ⟨rfl, rfl⟩
theorem fModel_next_30 : w_fe am_c160 30 31 (.putfield 918) := ⟨rfl, rfl⟩
theorem fModel_next_31 : w_gt am_c160 31 140 := rfl
theorem fModel_next_32 : w_fe am_c160 32 33 (.iload 1) := ⟨rfl, rfl⟩
theorem fModel_next_33 : w_fe am_c160 33 34 (.i2l) := ⟨rfl, rfl⟩
theorem fModel_next_34 : w_fe am_c160 34 35 (.sipush 97) := ⟨rfl, rfl⟩
theorem fModel_next_35 : w_fe am_c160 35 36 (.sipush 122) := ⟨rfl, rfl⟩
theorem fModel_next_36 : w_fe am_c160 36 37 (.invokestatic 157) := ⟨rfl, rfl⟩
theorem fModel_next_37 : w_if am_c160 37 38 .eq 57 := ⟨rfl, rfl⟩
theorem fModel_next_38 : w_fe am_c160 38 39 (.aload 0) := ⟨rfl, rfl⟩
theorem fModel_next_39 : w_fe am_c160 39 40 (.bipush 1) := ⟨rfl, rfl⟩
theorem fModel_next_40 : w_fe am_c160 40 41 (.putfield 918) := ⟨rfl, rfl⟩
theorem fModel_next_41 : w_fe am_c160 41 42 (.aload 0) := ⟨rfl, rfl⟩
theorem fModel_next_42 : w_fe am_c160 42 43 (.aload 0) := ⟨rfl, rfl⟩
theorem fModel_next_43 : w_fe am_c160 43 44 (.getfield 916) := ⟨rfl, rfl⟩
theorem fModel_next_44 : w_fe am_c160 44 45 (.invokestatic 161) := ⟨rfl, rfl⟩
theorem fModel_next_45 : w_fe am_c160 45 46 (.i2l) := ⟨rfl, rfl⟩
theorem fModel_next_46 : w_fe am_c160 46 47 (.sipush 97) := ⟨rfl, rfl⟩
theorem fModel_next_47 : w_fe am_c160 47 48 (.sipush 122) := ⟨rfl, rfl⟩
theorem fModel_next_48 : w_fe am_c160 48 49 (.invokestatic 157) := ⟨rfl, rfl⟩
theorem fModel_next_49 : w_if am_c160 49 50 .eq 140 := ⟨rfl, rfl⟩
theorem fModel_next_50 : w_fe am_c160 50 51 (.aload 0) := ⟨rfl, rfl⟩
theorem fModel_next_51 : w_fe am_c160 51 52 (.dup) := ⟨rfl, rfl⟩
theorem fModel_next_52 : w_fe am_c160 52 53 (.getfield 916) := ⟨rfl, rfl⟩
theorem fModel_next_53 : w_fe am_c160 53 54 (.bipush 1) := ⟨rfl, rfl⟩
theorem fModel_next_54 : w_fe am_c160 54 55 (.iadd) := ⟨rfl, rfl⟩
theorem fModel_next_55 : w_fe am_c160 55 56 (.putfield 916) := ⟨rfl, rfl⟩
theorem fModel_next_56 : w_gt am_c160 56 41 := rfl
theorem fModel_next_57 : w_fe am_c160 57 58 (.iload 1) := ⟨rfl, rfl⟩
theorem fModel_next_58 : w_fe am_c160 58 59 (.i2l) := ⟨rfl, rfl⟩
theorem fModel_next_59 : w_fe am_c160 59 60 (.sipush 48) := ⟨rfl, rfl⟩
theorem fModel_next_60 : w_fe am_c160 60 61 (.sipush 57) := ⟨rfl, rfl⟩
theorem fModel_next_61 : w_fe am_c160 61 62 (.invokestatic 157) := ⟨rfl, rfl⟩
theorem fModel_next_62 : w_if am_c160 62 63 .eq 122 := ⟨rfl, rfl⟩
theorem fModel_next_63 : w_fe am_c160 63 64 (.aload 0) := ⟨rfl, rfl⟩
theorem fModel_next_64 : w_fe am_c160 64 65 (.bipush 2) := ⟨rfl, rfl⟩
theorem fModel_next_65 : w_fe am_c160 65 66 (.putfield 918) := ⟨rfl, rfl⟩
theorem fModel_next_66 : w_fe am_c160 66 67 (.aload 0) := ⟨rfl, rfl⟩
theorem fModel_next_67 : w_fe am_c160 67 68 (.bipush 0) := ⟨rfl, rfl⟩
theorem fModel_next_68 : w_fe am_c160 68 69 (.putfield 919) := ⟨rfl, rfl⟩
theorem fModel_next_69 : w_fe am_c160 69 70 (.aload 0) := ⟨rfl, rfl⟩
theorem fModel_next_70 : w_fe am_c160 70 71 (.aload 0) := ⟨rfl, rfl⟩
theorem fModel_next_71 : w_fe am_c160 71 72 (.getfield 916) := ⟨rfl, rfl⟩
theorem fModel_next_72 : w_fe am_c160 72 73 (.invokestatic 161) := ⟨rfl, rfl⟩
theorem fModel_next_73 : w_fe am_c160 73 74 (.i2l) := ⟨rfl, rfl⟩
theorem fModel_next_74 : w_fe am_c160 74 75 (.sipush 48) := ⟨rfl, rfl⟩
theorem fModel_next_75 : w_fe am_c160 75 76 (.sipush 57) := ⟨rfl, rfl⟩
theorem fModel_next_76 : w_fe am_c160 76 77 (.invokestatic 157) := ⟨rfl, rfl⟩
theorem fModel_next_77 : w_if am_c160 77 78 .eq 108 := ⟨rfl, rfl⟩
theorem fModel_next_78 : w_fe am_c160 78 79 (.aload 0) := ⟨rfl, rfl⟩
theorem fModel_next_79 : w_fe am_c160 79 80 (.aload 0) := ⟨rfl, rfl⟩
theorem fModel_next_80 : w_fe am_c160 80 81 (.getfield 916) := ⟨rfl, rfl⟩
theorem fModel_next_81 : w_fe am_c160 81 82 (.aload 0) := ⟨rfl, rfl⟩
theorem fModel_next_82 : w_fe am_c160 82 83 (.getfield 917) := ⟨rfl, rfl⟩
theorem fModel_next_83 : w_fe am_c160 83 84 (.isub) := ⟨rfl, rfl⟩
theorem fModel_next_84 : w_fe am_c160 84 85 (.bipush 2) := ⟨rfl, rfl⟩
theorem fModel_next_85 : w_ic am_c160 85 86 .ge 98 := ⟨rfl, rfl⟩
theorem fModel_next_86 : w_fe am_c160 86 87 (.bipush 10) := ⟨rfl, rfl⟩
theorem fModel_next_87 : w_fe am_c160 87 88 (.aload 0) := ⟨rfl, rfl⟩
theorem fModel_next_88 : w_fe am_c160 88 89 (.getfield 919) := ⟨rfl, rfl⟩
theorem fModel_next_89 : w_fe am_c160 89 90 (.imul) := ⟨rfl, rfl⟩
theorem fModel_next_90 : w_fe am_c160 90 91 (.aload 0) := ⟨rfl, rfl⟩
theorem fModel_next_91 : w_fe am_c160 91 92 (.aload 0) := ⟨rfl, rfl⟩
theorem fModel_next_92 : w_fe am_c160 92 93 (.getfield 916) := ⟨rfl, rfl⟩
theorem fModel_next_93 : w_fe am_c160 93 94 (.invokestatic 161) := ⟨rfl, rfl⟩
theorem fModel_next_94 : w_fe am_c160 94 95 (.iadd) := ⟨rfl, rfl⟩
theorem fModel_next_95 : w_fe am_c160 95 96 (.bipush 48) := ⟨rfl, rfl⟩
theorem fModel_next_96 : w_fe am_c160 96 97 (.isub) := ⟨rfl, rfl⟩
theorem fModel_next_97 : w_gt am_c160 97 100 := rfl
theorem fModel_next_98 : w_fe am_c160 98 99 (.aload 0) := ⟨rfl, rfl⟩
theorem fModel_next_99 : w_fe am_c160 99 100 (.getfield 919) := ⟨rfl, rfl⟩
theorem fModel_next_100 : w_fe am_c160 100 101 (.putfield 919) := ⟨rfl, rfl⟩
theorem fModel_next_101 : w_fe am_c160 101 102 (.aload 0) := ⟨rfl, rfl⟩
theorem fModel_next_102 : w_fe am_c160 102 103 (.dup) := ⟨rfl, rfl⟩
theorem fModel_next_103 : w_fe am_c160 103 104 (.getfield 916) := ⟨rfl, rfl⟩
theorem fModel_next_104 : w_fe am_c160 104 105 (.bipush 1) := ⟨rfl, rfl⟩
theorem fModel_next_105 : w_fe am_c160 105 106 (.iadd) := ⟨rfl, rfl⟩
theorem fModel_next_106 : w_fe am_c160 106 107 (.putfield 916) := ⟨rfl, rfl⟩
theorem fModel_next_107 : w_gt am_c160 107 69 := rfl
theorem fModel_next_108 : w_fe am_c160 108 109 (.aload 0) := ⟨rfl, rfl⟩
theorem fModel_next_109 : w_fe am_c160 109 110 (.aload 0) := ⟨rfl, rfl⟩
theorem fModel_next_110 : w_fe am_c160 110 111 (.getfield 916) := ⟨rfl, rfl⟩
theorem fModel_next_111 : w_fe am_c160 111 112 (.aload 0) := ⟨rfl, rfl⟩
theorem fModel_next_112 : w_fe am_c160 112 113 (.getfield 917) := ⟨rfl, rfl⟩
theorem fModel_next_113 : w_fe am_c160 113 114 (.isub) := ⟨rfl, rfl⟩
theorem fModel_next_114 : w_fe am_c160 114 115 (.bipush 2) := ⟨rfl, rfl⟩
theorem fModel_next_115 : w_ic am_c160 115 116 .gt 118 := ⟨rfl, rfl⟩
theorem fModel_next_116 : w_fe am_c160 116 117 (.bipush 1) := ⟨rfl, rfl⟩
theorem fModel_next_117 : w_gt am_c160 117 119 := rfl
theorem fModel_next_118 : w_fe am_c160 118 119 (.bipush 0) := ⟨rfl, rfl⟩
theorem fModel_next_119 : w_fe am_c160 119 120 (.bipush 1) := ⟨rfl, rfl⟩
theorem fModel_next_120 : w_fe am_c160 120 121 (.invokestatic 162) := ⟨rfl, rfl⟩
theorem fModel_next_121 : w_gt am_c160 121 140 := rfl
theorem fModel_next_122 : w_fe am_c160 122 123 (.aload 0) := ⟨rfl, rfl⟩
theorem fModel_next_123 : w_fe am_c160 123 124 (.bipush 3) := ⟨rfl, rfl⟩
theorem fModel_next_124 : w_fe am_c160 124 125 (.putfield 918) := ⟨rfl, rfl⟩
theorem fModel_next_125 : w_fe am_c160 125 126 (.aload 0) := ⟨rfl, rfl⟩
theorem fModel_next_126 : w_fe am_c160 126 127 (.iload 1) := ⟨rfl, rfl⟩
theorem fModel_next_127 : w_fe am_c160 127 128 (.bipush 59) := ⟨rfl, rfl⟩
theorem fModel_next_128 : w_ic am_c160 128 129 .ne 131 := ⟨rfl, rfl⟩
theorem fModel_next_129 : w_fe am_c160 129 130 (.bipush 1) := ⟨rfl, rfl⟩
theorem fModel_next_130 : w_gt am_c160 130 132 := rfl
theorem fModel_next_131 : w_fe am_c160 131 132 (.bipush 0) := ⟨rfl, rfl⟩
theorem fModel_next_132 : w_fe am_c160 132 133 (.bipush 1) := ⟨rfl, rfl⟩
theorem fModel_next_133 : w_fe am_c160 133 134 (.invokestatic 162) := ⟨rfl, rfl⟩
theorem fModel_next_134 : w_fe am_c160 134 135 (.aload 0) := ⟨rfl, rfl⟩
theorem fModel_next_135 : w_fe am_c160 135 136 (.dup) := ⟨rfl, rfl⟩
theorem fModel_next_136 : w_fe am_c160 136 137 (.getfield 916) := ⟨rfl, rfl⟩
theorem fModel_next_137 : w_fe am_c160 137 138 (.bipush 1) := ⟨rfl, rfl⟩
theorem fModel_next_138 : w_fe am_c160 138 139 (.iadd) := ⟨rfl, rfl⟩
theorem fModel_next_139 : w_fe am_c160 139 140 (.putfield 916) := ⟨rfl, rfl⟩
theorem fModel_next_140 : w_fe am_c160 140 141 (.return_) := ⟨rfl, rfl⟩
noncomputable def LModel_next_4 (xs : List Int) (d : Nat) (Q : Option w_V → w_M → Prop)  (σ : w_M) : Prop := ∀ l1, w_nl l1 → w_Ex (xs, d) 0 am_c160 Q 4 [some (.inr (.inr (9, 122))), l1] [] σ
noncomputable def LModel_next_69 (xs : List Int) (d : Nat) (Q : Option w_V → w_M → Prop)  (σ : w_M) : Prop := ∀ l1, w_nl l1 → w_Ex (xs, d) 0 am_c160 Q 69 [some (.inr (.inr (9, 122))), l1] [] σ
noncomputable def LModel_next_41 (xs : List Int) (d : Nat) (Q : Option w_V → w_M → Prop)  (σ : w_M) : Prop := ∀ l1, w_nl l1 → w_Ex (xs, d) 0 am_c160 Q 41 [some (.inr (.inr (9, 122))), l1] [] σ
set_option maxRecDepth 20000 in
theorem bModel_next_0 {xs : List Int} {d : Nat} {Q : Option w_V → w_M → Prop}  {σ : w_M}
    (h : ((σ 122 20) ≤ 0 → LModel_next_4 xs (d + 1) Q σ) ∧ (0 < (σ 122 20) → Q none σ)) : w_Call (xs, (d + 1)) 160 [.inr (.inr (9, 122))] σ Q :=
  (w_mk (mid := 160) (by decide) rfl rfl rfl rfl rfl (Nat.le_of_ble_eq_true rfl) ⟨rfl, Or.inl (by decide)⟩ (wi_aload0 fModel_next_0 (wi_getf920 fModel_next_1 (wi_if_le fModel_next_2 (fun c1 => ((h.1 c1) _ (by exact trivial))) (fun c1 => (wi_ret0 fModel_next_3 (h.2 c1)))))))
set_option maxRecDepth 20000 in
theorem bModel_next_4 {xs : List Int} {d : Nat} {Q : Option w_V → w_M → Prop}  {σ : w_M}
    (h : p_Model_byteAt (σ 122 16) σ ∧ (∀ (y1 : Int), y1 = v_Model_byteAt (σ 122 16) σ → ((¬ y1 = 32 → ∀ (τ2 : w_M), τ2 = w_up σ 122 17 (σ 122 16) → (p_Model_byteAt (τ2 122 16) τ2 ∧ (∀ (y3 : Int), y3 = v_Model_byteAt (τ2 122 16) τ2 → ((0 ≤ y3 → ((¬ (97 ≤ y3 ∧ y3 ≤ 122) → ((¬ (48 ≤ y3 ∧ y3 ≤ 57) → ∀ (τ4 : w_M), τ4 = w_up τ2 122 18 3 → ((¬ y3 = 59 → ∀ (τ5 : w_M), q_Model_needs 0 1 τ4 τ5 → (w_in ((τ5 122 16) + 1) ∧ (∀ (τ6 : w_M), τ6 = w_up τ5 122 16 ((τ5 122 16) + 1) → Q none τ6))) ∧ (y3 = 59 → ∀ (τ7 : w_M), q_Model_needs 1 1 τ4 τ7 → (w_in ((τ7 122 16) + 1) ∧ (∀ (τ8 : w_M), τ8 = w_up τ7 122 16 ((τ7 122 16) + 1) → Q none τ8))))) ∧ ((48 ≤ y3 ∧ y3 ≤ 57) → ∀ (τ10 : w_M), τ10 = w_up τ2 122 18 2 → ∀ (τ11 : w_M), τ11 = w_up τ10 122 19 0 → LModel_next_69 xs (d + 1) Q τ11))) ∧ ((97 ≤ y3 ∧ y3 ≤ 122) → ∀ (τ13 : w_M), τ13 = w_up τ2 122 18 1 → LModel_next_41 xs (d + 1) Q τ13))) ∧ (y3 < 0 → ∀ (τ15 : w_M), τ15 = w_up τ2 122 18 0 → Q none τ15))))) ∧ (y1 = 32 → (w_in ((σ 122 16) + 1) ∧ (∀ (τ17 : w_M), τ17 = w_up σ 122 16 ((σ 122 16) + 1) → LModel_next_4 xs (d + 1) Q τ17)))))) : LModel_next_4 xs (d + 1) Q  σ :=
  fun l1 nl1 => (wi_aload0 fModel_next_4 (wi_aload0 fModel_next_5 (wi_getf916 fModel_next_6 (wi_call2 fModel_next_7 (Nat.le_of_ble_eq_true rfl) (k_Model_byteAt h.1 (wi_bipush fModel_next_8 (wi_ic_ne fModel_next_9 (fun c18 => (wi_aload0 fModel_next_17 (wi_aload0 fModel_next_18 (wi_getf916 fModel_next_19 (wi_putf917 fModel_next_20 (wi_aload0 fModel_next_21 (wi_aload0 fModel_next_22 (wi_getf916 fModel_next_23 (wi_call2 fModel_next_24 (Nat.le_of_ble_eq_true rfl) (k_Model_byteAt (((h.2 _ rfl).1 c18) _ rfl).1 (wi_istore1 fModel_next_25 trivial (wi_iload1 fModel_next_26 (wi_if_ge fModel_next_27 (fun c16 => (wi_iload1 fModel_next_32 (wi_i2l fModel_next_33 (wi_sipush fModel_next_34 (wi_sipush fModel_next_35 (wi_call3 fModel_next_36 (Nat.le_of_ble_eq_true rfl) (k_Model_in (wi_ifb_eq fModel_next_37 (fun c14 => (wi_iload1 fModel_next_57 (wi_i2l fModel_next_58 (wi_sipush fModel_next_59 (wi_sipush fModel_next_60 (wi_call3 fModel_next_61 (Nat.le_of_ble_eq_true rfl) (k_Model_in (wi_ifb_eq fModel_next_62 (fun c12 => (wi_aload0 fModel_next_122 (wi_bipush fModel_next_123 (wi_putf918 fModel_next_124 (wi_aload0 fModel_next_125 (wi_iload1 fModel_next_126 (wi_bipush fModel_next_127 (wi_ic_ne fModel_next_128 (fun c9 => (wi_bipush fModel_next_131 (wi_bipush fModel_next_132 (wi_call3 fModel_next_133 (Nat.le_of_ble_eq_true rfl) (k_Model_needs (fun τ5 eτ5 => (wi_aload0 fModel_next_134 (wi_dup_a fModel_next_135 (wi_getf916 fModel_next_136 (wi_bipush fModel_next_137 (wi_iadd fModel_next_138 ((((((((((h.2 _ rfl).1 c18) _ rfl).2 _ rfl).1 c16).1 c14).1 c12) _ rfl).1 c9) τ5 eτ5).1 (wi_putf916 fModel_next_139 (wi_ret0 fModel_next_140 (((((((((((h.2 _ rfl).1 c18) _ rfl).2 _ rfl).1 c16).1 c14).1 c12) _ rfl).1 c9) τ5 eτ5).2 _ rfl)))))))))))))) (fun c9 => (wi_bipush fModel_next_129 (wi_goto fModel_next_130 (wi_bipush fModel_next_132 (wi_call3 fModel_next_133 (Nat.le_of_ble_eq_true rfl) (k_Model_needs (fun τ7 eτ7 => (wi_aload0 fModel_next_134 (wi_dup_a fModel_next_135 (wi_getf916 fModel_next_136 (wi_bipush fModel_next_137 (wi_iadd fModel_next_138 ((((((((((h.2 _ rfl).1 c18) _ rfl).2 _ rfl).1 c16).1 c14).1 c12) _ rfl).2 c9) τ7 eτ7).1 (wi_putf916 fModel_next_139 (wi_ret0 fModel_next_140 (((((((((((h.2 _ rfl).1 c18) _ rfl).2 _ rfl).1 c16).1 c14).1 c12) _ rfl).2 c9) τ7 eτ7).2 _ rfl))))))))))))))))))))))) (fun c12 => (wi_aload0 fModel_next_63 (wi_bipush fModel_next_64 (wi_putf918 fModel_next_65 (wi_aload0 fModel_next_66 (wi_bipush fModel_next_67 (wi_putf919 fModel_next_68 ((((((((((h.2 _ rfl).1 c18) _ rfl).2 _ rfl).1 c16).1 c14).2 c12) _ rfl) _ rfl) _ (by exact trivial))))))))))))))))) (fun c14 => (wi_aload0 fModel_next_38 (wi_bipush fModel_next_39 (wi_putf918 fModel_next_40 ((((((((h.2 _ rfl).1 c18) _ rfl).2 _ rfl).1 c16).2 c14) _ rfl) _ (by exact trivial)))))))))))))) (fun c16 => (wi_aload0 fModel_next_28 (wi_bipush fModel_next_29 (wi_putf918 fModel_next_30 (wi_goto fModel_next_31 (wi_ret0 fModel_next_140 ((((((h.2 _ rfl).1 c18) _ rfl).2 _ rfl).2 c16) _ rfl)))))))))))))))))))) (fun c18 => (wi_aload0 fModel_next_10 (wi_dup_a fModel_next_11 (wi_getf916 fModel_next_12 (wi_bipush fModel_next_13 (wi_iadd fModel_next_14 ((h.2 _ rfl).2 c18).1 (wi_putf916 fModel_next_15 (wi_goto fModel_next_16 ((((h.2 _ rfl).2 c18).2 _ rfl) _ nl1))))))))))))))))
set_option maxRecDepth 20000 in
theorem bModel_next_69 {xs : List Int} {d : Nat} {Q : Option w_V → w_M → Prop}  {σ : w_M}
    (h : p_Model_byteAt (σ 122 16) σ ∧ (∀ (y1 : Int), y1 = v_Model_byteAt (σ 122 16) σ → ((¬ (48 ≤ y1 ∧ y1 ≤ 57) → (w_in ((σ 122 16) - (σ 122 17)) ∧ ((2 < ((σ 122 16) - (σ 122 17)) → ∀ (τ2 : w_M), q_Model_needs 0 1 σ τ2 → Q none τ2) ∧ (((σ 122 16) - (σ 122 17)) ≤ 2 → ∀ (τ3 : w_M), q_Model_needs 1 1 σ τ3 → Q none τ3)))) ∧ ((48 ≤ y1 ∧ y1 ≤ 57) → (w_in ((σ 122 16) - (σ 122 17)) ∧ ((2 ≤ ((σ 122 16) - (σ 122 17)) → ∀ (τ5 : w_M), τ5 = w_up σ 122 19 (σ 122 19) → (w_in ((τ5 122 16) + 1) ∧ (∀ (τ6 : w_M), τ6 = w_up τ5 122 16 ((τ5 122 16) + 1) → LModel_next_69 xs (d + 1) Q τ6))) ∧ (((σ 122 16) - (σ 122 17)) < 2 → (w_in (10 * (σ 122 19)) ∧ (∀ (y7 : Int), y7 = v_Model_byteAt (σ 122 16) σ → (w_in ((10 * (σ 122 19)) + y7) ∧ w_in (((10 * (σ 122 19)) + y7) - 48) ∧ (∀ (τ8 : w_M), τ8 = w_up σ 122 19 (((10 * (σ 122 19)) + y7) - 48) → (w_in ((τ8 122 16) + 1) ∧ (∀ (τ9 : w_M), τ9 = w_up τ8 122 16 ((τ8 122 16) + 1) → LModel_next_69 xs (d + 1) Q τ9))))))))))))) : LModel_next_69 xs (d + 1) Q  σ :=
  fun l1 nl1 => (wi_aload0 fModel_next_69 (wi_aload0 fModel_next_70 (wi_getf916 fModel_next_71 (wi_call2 fModel_next_72 (Nat.le_of_ble_eq_true rfl) (k_Model_byteAt h.1 (wi_i2l fModel_next_73 (wi_sipush fModel_next_74 (wi_sipush fModel_next_75 (wi_call3 fModel_next_76 (Nat.le_of_ble_eq_true rfl) (k_Model_in (wi_ifb_eq fModel_next_77 (fun c11 => (wi_aload0 fModel_next_108 (wi_aload0 fModel_next_109 (wi_getf916 fModel_next_110 (wi_aload0 fModel_next_111 (wi_getf917 fModel_next_112 (wi_isub fModel_next_113 ((h.2 _ rfl).1 c11).1 (wi_bipush fModel_next_114 (wi_ic_gt fModel_next_115 (fun c4 => (wi_bipush fModel_next_118 (wi_bipush fModel_next_119 (wi_call3 fModel_next_120 (Nat.le_of_ble_eq_true rfl) (k_Model_needs (fun τ2 eτ2 => (wi_goto fModel_next_121 (wi_ret0 fModel_next_140 ((((h.2 _ rfl).1 c11).2.1 c4) τ2 eτ2))))))))) (fun c4 => (wi_bipush fModel_next_116 (wi_goto fModel_next_117 (wi_bipush fModel_next_119 (wi_call3 fModel_next_120 (Nat.le_of_ble_eq_true rfl) (k_Model_needs (fun τ3 eτ3 => (wi_goto fModel_next_121 (wi_ret0 fModel_next_140 ((((h.2 _ rfl).1 c11).2.2 c4) τ3 eτ3))))))))))))))))))) (fun c11 => (wi_aload0 fModel_next_78 (wi_aload0 fModel_next_79 (wi_getf916 fModel_next_80 (wi_aload0 fModel_next_81 (wi_getf917 fModel_next_82 (wi_isub fModel_next_83 ((h.2 _ rfl).2 c11).1 (wi_bipush fModel_next_84 (wi_ic_ge fModel_next_85 (fun c10 => (wi_aload0 fModel_next_98 (wi_getf919 fModel_next_99 (wi_putf919 fModel_next_100 (wi_aload0 fModel_next_101 (wi_dup_a fModel_next_102 (wi_getf916 fModel_next_103 (wi_bipush fModel_next_104 (wi_iadd fModel_next_105 ((((h.2 _ rfl).2 c11).2.1 c10) _ rfl).1 (wi_putf916 fModel_next_106 (wi_goto fModel_next_107 ((((((h.2 _ rfl).2 c11).2.1 c10) _ rfl).2 _ rfl) _ nl1)))))))))))) (fun c10 => (wi_bipush fModel_next_86 (wi_aload0 fModel_next_87 (wi_getf919 fModel_next_88 (wi_imul fModel_next_89 (((h.2 _ rfl).2 c11).2.2 c10).1 (wi_aload0 fModel_next_90 (wi_aload0 fModel_next_91 (wi_getf916 fModel_next_92 (wi_call2 fModel_next_93 (Nat.le_of_ble_eq_true rfl) (k_Model_byteAt h.1 (wi_iadd fModel_next_94 ((((h.2 _ rfl).2 c11).2.2 c10).2 _ rfl).1 (wi_bipush fModel_next_95 (wi_isub fModel_next_96 ((((h.2 _ rfl).2 c11).2.2 c10).2 _ rfl).2.1 (wi_goto fModel_next_97 (wi_putf919 fModel_next_100 (wi_aload0 fModel_next_101 (wi_dup_a fModel_next_102 (wi_getf916 fModel_next_103 (wi_bipush fModel_next_104 (wi_iadd fModel_next_105 (((((h.2 _ rfl).2 c11).2.2 c10).2 _ rfl).2.2 _ rfl).1 (wi_putf916 fModel_next_106 (wi_goto fModel_next_107 (((((((h.2 _ rfl).2 c11).2.2 c10).2 _ rfl).2.2 _ rfl).2 _ rfl) _ nl1)))))))))))))))))))))))))))))))))))))))))))
set_option maxRecDepth 20000 in
theorem bModel_next_41 {xs : List Int} {d : Nat} {Q : Option w_V → w_M → Prop}  {σ : w_M}
    (h : p_Model_byteAt (σ 122 16) σ ∧ (∀ (y1 : Int), y1 = v_Model_byteAt (σ 122 16) σ → ((¬ (97 ≤ y1 ∧ y1 ≤ 122) → Q none σ) ∧ ((97 ≤ y1 ∧ y1 ≤ 122) → (w_in ((σ 122 16) + 1) ∧ (∀ (τ2 : w_M), τ2 = w_up σ 122 16 ((σ 122 16) + 1) → LModel_next_41 xs (d + 1) Q τ2)))))) : LModel_next_41 xs (d + 1) Q  σ :=
  fun l1 nl1 => (wi_aload0 fModel_next_41 (wi_aload0 fModel_next_42 (wi_getf916 fModel_next_43 (wi_call2 fModel_next_44 (Nat.le_of_ble_eq_true rfl) (k_Model_byteAt h.1 (wi_i2l fModel_next_45 (wi_sipush fModel_next_46 (wi_sipush fModel_next_47 (wi_call3 fModel_next_48 (Nat.le_of_ble_eq_true rfl) (k_Model_in (wi_ifb_eq fModel_next_49 (fun c3 => (wi_ret0 fModel_next_140 ((h.2 _ rfl).1 c3))) (fun c3 => (wi_aload0 fModel_next_50 (wi_dup_a fModel_next_51 (wi_getf916 fModel_next_52 (wi_bipush fModel_next_53 (wi_iadd fModel_next_54 ((h.2 _ rfl).2 c3).1 (wi_putf916 fModel_next_55 (wi_goto fModel_next_56 ((((h.2 _ rfl).2 c3).2 _ rfl) _ nl1))))))))))))))))))))
set_option maxHeartbeats 2000000 in
theorem k_Model_next {xs : List Int} {d : Nat} {Q : Option w_V → w_M → Prop}  {σ : w_M} (hp : p_Model_next σ) (hQ : ∀ σ' : w_M, q_Model_next σ σ' → Q none σ') : w_Call (xs, d + 1) 160 [.inr (.inr (9, 122))] σ Q := by
  obtain ⟨h20, hz⟩ := hp
  refine bModel_next_0 ⟨fun c => ?_, fun c => hQ _ ⟨fun _ => rfl, fun h => by omega⟩⟩
  have h0 : σ 122 20 = 0 := by omega
  obtain ⟨hk, h16⟩ := hz h0
  have hk1 := hk.1
  have hQ' : ∀ σ' : w_M, m_tok (mT σ) (mL σ) (σ 122 16).toNat σ σ' → Q none σ' := fun σ' h => hQ _ ⟨fun q => absurd h0 q, fun _ => h⟩
  obtain ⟨p, hp16⟩ : ∃ p : Nat, σ 122 16 = (p : Int) := ⟨(σ 122 16).toNat, by omega⟩
  rw [hp16, Int.toNat_natCast] at hQ'
  rw [hp16] at h16
  have hLe : mL σ = (σ 122 15).toNat := rfl
  have tbb : ∀ τ : w_M, mo_fr σ τ → ∀ x : Int, 0 ≤ x → v_Model_byteAt x τ = tb (mT σ) (mL σ) x.toNat := fun τ F x hx => by rw [m_byte (F.tp.ok hk) hx, F.tp.T, F.tp.L]
  have pb : ∀ τ : w_M, mo_fr σ τ → ∀ x : Int, 0 ≤ x → p_Model_byteAt x τ := fun τ F x hx => ⟨hx, by rw [F.tp.2]; omega⟩
  have tbn : ∀ q, q < mL σ → 0 ≤ tb (mT σ) (mL σ) q ∧ tb (mT σ) (mL σ) q ≤ 127 := fun q hq => by
    rw [m_tb, if_pos (show q < (σ 122 15).toNat from hq)]
    exact hk.2 q hq
  generalize hT : mT σ = T at *
  generalize hL : mL σ = L at *
  refine (w_loop (n := L - p) (P := fun i => ∀ τ : w_M, mo_fr σ τ → τ 122 20 = 0 → τ 122 16 = ((p + i : Nat) : Int) → (∀ j, p ≤ j → j < p + i → tP_s (tb T L j) = true) → LModel_next_4 xs (d + 1) Q τ) ?_ ?_) σ mo_fr.rfl' h0 hp16 (fun j h1 h2 => by omega)
  · intro τ F i20 i16 hsp
    have hend : tb T L (p + (L - p)) = -1 := by unfold tb; rw [if_neg (by omega)]
    have ef : tk_f T L p = p + (L - p) := rn_of (by rw [hend]; decide) _ _ (by omega) hsp (by omega)
    have ek : tk_k T L p = 0 := by unfold tk_k; rw [if_pos (by omega)]
    refine bModel_next_4 ⟨pb τ F _ (by omega), fun y1 e1 => ?_⟩
    rw [tbb τ F _ (by omega), i16, Int.toNat_natCast, hend] at e1
    refine ⟨fun c => fun τ2 t2 => ?_, fun c => by omega⟩
    have F2 : mo_fr σ τ2 := by rw [t2]; exact F.up (by decide) (by decide)
    have z16 : τ2 122 16 = ((p + (L - p) : Nat) : Int) := by rw [t2, w_up_j (by decide)]; exact i16
    refine ⟨pb τ2 F2 _ (by omega), fun y3 e3 => ?_⟩
    rw [tbb τ2 F2 _ (by omega), z16, Int.toNat_natCast, hend] at e3
    refine ⟨fun c2 => by omega, fun c2 τ15 t15 => hQ' _ ⟨by rw [t15]; exact F2.up (by decide) (by decide), ?_, fun h => absurd ek h, fun h => by omega, fun _ => ⟨?_, by rw [t15, w_up_at, ek]⟩, fun h => by omega⟩⟩
    · rw [t15, w_up_j (by decide), t2, w_up_at, i16, ef]
    · rw [t15, w_up_j (by decide), t2, w_up_j (by decide)]; exact i20
  · intro i hi ih τ F i20 i16 hsp
    have hb := tbn (p + i) (by omega)
    refine bModel_next_4 ⟨pb τ F _ (by omega), fun y1 e1 => ?_⟩
    rw [tbb τ F _ (by omega), i16, Int.toNat_natCast] at e1
    refine ⟨fun c => fun τ2 t2 => ?_, fun c => ⟨⟨by omega, by omega⟩, fun τ17 t17 => ?_⟩⟩
    · have ef : tk_f T L p = p + i := rn_of (tP_sf (by rw [← e1]; exact c)) _ _ (by omega) hsp (by omega)
      have ec : tk_c T L p = tb T L (p + i) := by unfold tk_c; rw [ef]
      have F2 : mo_fr σ τ2 := by rw [t2]; exact F.up (by decide) (by decide)
      have z16 : τ2 122 16 = ((p + i : Nat) : Int) := by rw [t2, w_up_j (by decide)]; exact i16
      have z17 : τ2 122 17 = ((p + i : Nat) : Int) := by rw [t2, w_up_at]; exact i16
      have z20 : τ2 122 20 = 0 := by rw [t2, w_up_j (by decide)]; exact i20
      have kk : Unit → (tk_k T L p = if 97 ≤ tk_c T L p ∧ tk_c T L p ≤ 122 then 1 else if 48 ≤ tk_c T L p ∧ tk_c T L p ≤ 57 then (if tk_d T L p ≤ tk_f T L p + 2 then 2 else 4) else if tk_c T L p = 59 then 3 else 4) := fun _ => by unfold tk_k; rw [if_neg (by omega)]
      refine ⟨pb τ2 F2 _ (by omega), fun y3 e3 => ?_⟩
      rw [tbb τ2 F2 _ (by omega), z16, Int.toNat_natCast, ← ec] at e3
      rw [e3]
      refine ⟨fun c2 => ⟨fun c3 => ⟨fun c4 τ4 t4 => ⟨fun c5 τ5 q5 => ?_, fun c5 τ7 q7 => ?_⟩, fun c4 τ10 t10 τ11 t11 => ?_⟩, fun c3 τ13 t13 => ?_⟩, fun c2 => by omega⟩
      · -- a flaw
        have ek : tk_k T L p = 4 := by rw [kk (), if_neg c3, if_neg c4, if_neg c5]
        have eb : tk_b T L p = p + i + 1 := by unfold tk_b; rw [if_neg c3, if_neg c4, ef]
        have y20 : τ4 122 20 = 0 := by rw [t4, w_up_j (by decide)]; exact z20
        have y17 : τ4 122 17 = ((p + i : Nat) : Int) := by rw [t4, w_up_j (by decide)]; exact z17
        have y16 : τ4 122 16 = ((p + i : Nat) : Int) := by rw [t4, w_up_j (by decide)]; exact z16
        obtain ⟨n1, n2, n3, n4⟩ := need_n q5 rfl y20
        have x16 : τ5 122 16 = ((p + i : Nat) : Int) := by rw [n4 16 (by decide) (by decide)]; exact y16
        refine ⟨⟨by omega, by omega⟩, fun τ6 t6 => hQ' _ ⟨by rw [t6]; exact ((F2.up (by decide) (by decide)).tr (t4 ▸ n3)).up (by decide) (by decide), ?_, fun _ => ?_, fun _ => ⟨?_, ?_⟩, fun h => absurd ek h, fun h => by omega⟩⟩
        · rw [t6, w_up_j (by decide), n4 17 (by decide) (by decide), y17, ef]
        · rw [t6, w_up_at, x16, eb]; omega
        · rw [t6, w_up_j (by decide)]; exact n1
        · rw [t6, w_up_j (by decide), n2, y17, ef]
      · -- a stop
        have ek : tk_k T L p = 3 := by rw [kk (), if_neg c3, if_neg c4, if_pos c5]
        have eb : tk_b T L p = p + i + 1 := by unfold tk_b; rw [if_neg c3, if_neg c4, ef]
        have e7 := need_y q7
        rw [e7]
        have y16 : τ4 122 16 = ((p + i : Nat) : Int) := by rw [t4, w_up_j (by decide)]; exact z16
        refine ⟨⟨by omega, by omega⟩, fun τ6 t6 => hQ' _ ⟨by rw [t6, t4]; exact (F2.up (by decide) (by decide)).up (by decide) (by decide), ?_, fun _ => ?_, fun h => by omega, fun _ => ⟨?_, ?_⟩, fun h => by omega⟩⟩
        · rw [t6, w_up_j (by decide), t4, w_up_j (by decide), z17, ef]
        · rw [t6, w_up_at, y16, eb]; omega
        · rw [t6, w_up_j (by decide), t4, w_up_j (by decide)]; exact z20
        · rw [t6, w_up_j (by decide), t4, w_up_at, ek]
      · -- a number
        have kk2 := kk ()
        rw [if_neg c3, if_pos c4] at kk2
        replace kk : Unit → _ := fun _ => kk2
        clear kk2
        have eb : tk_b T L p = tk_d T L p := by unfold tk_b; rw [if_neg c3, if_pos c4]
        have F11 : mo_fr σ τ11 := by rw [t11, t10]; exact (F2.up (by decide) (by decide)).up (by decide) (by decide)
        refine (w_loop (n := L - (p + i)) (P := fun k => ∀ τ : w_M, mo_fr σ τ → τ 122 20 = 0 → τ 122 18 = 2 → τ 122 17 = ((p + i : Nat) : Int) → τ 122 16 = ((p + i + k : Nat) : Int) → (∀ j, p + i ≤ j → j < p + i + k → tP_f (tb T L j) = true) → τ 122 19 = (if k = 0 then 0 else if k = 1 then tb T L (p + i) - 48 else (tb T L (p + i) - 48) * 10 + tb T L (p + i + 1) - 48) → LModel_next_69 xs (d + 1) Q τ) ?_ ?_) τ11 F11 ?_ ?_ ?_ ?_ (fun j h1 h2 => by omega) ?_
        · intro τ F' j20 j18 j17 j16 hd hv
          have hend : tb T L (p + i + (L - (p + i))) = -1 := by unfold tb; rw [if_neg (by omega)]
          refine bModel_next_69 ⟨pb τ F' _ (by omega), fun y1' e1' => ?_⟩
          rw [tbb τ F' _ (by omega), j16, Int.toNat_natCast, hend] at e1'
          have ed : tk_d T L p = p + i + (L - (p + i)) := by
            unfold tk_d
            rw [ef]
            exact rn_of (by rw [hend]; decide) _ _ (by omega) (fun j h1 h2 => hd j (by omega) h2) (by omega)
          refine ⟨fun c6 => ⟨⟨by omega, by omega⟩, fun c7 τ3 q3 => ?_, fun c7 τ3 q3 => ?_⟩, fun c6 => by omega⟩
          · obtain ⟨n1, n2, n3, n4⟩ := need_n q3 rfl j20
            replace kk := kk ()
            rw [if_neg (by omega)] at kk
            exact hQ' _ ⟨F'.tr n3, by rw [n4 17 (by decide) (by decide), j17, ef], fun _ => by rw [n4 16 (by decide) (by decide), j16, eb, ed], fun _ => ⟨n1, by rw [n2, j17, ef]⟩, fun h => absurd kk h, fun h => by omega⟩
          · rw [need_y q3]
            replace kk := kk ()
            rw [if_pos (by omega)] at kk
            refine hQ' _ ⟨F', by rw [j17, ef], fun _ => by rw [j16, eb, ed], fun h => by omega, fun _ => ⟨j20, by rw [j18, kk]⟩, fun _ => ?_⟩
            rw [hv, if_neg (by omega)]
            unfold tk_v
            rw [ef, ec]
            by_cases e : L - (p + i) = 1
            · rw [if_pos e, if_pos (by omega)]
            · rw [if_neg e, if_neg (by omega)]
        · intro k hk2 ih2 τ F' j20 j18 j17 j16 hd hv
          refine bModel_next_69 ⟨pb τ F' _ (by omega), fun y1' e1' => ?_⟩
          have ey : v_Model_byteAt (τ 122 16) τ = tb T L (p + i + k) := by rw [tbb τ F' _ (by omega), j16, Int.toNat_natCast]
          rw [ey] at e1'
          refine ⟨fun c6 => ⟨⟨by omega, by omega⟩, fun c7 τ3 q3 => ?_, fun c7 τ3 q3 => ?_⟩, fun c6 => ⟨⟨by omega, by omega⟩, fun c7 τ5 t5 => ?_, fun c7 => ?_⟩⟩
          · have k1 : 1 ≤ k := by
              by_cases h : k = 0
              · subst h
                rw [Nat.add_zero, ← ec] at e1'
                rw [e1'] at c6
                exact absurd c4 c6
              · omega
            have ed : tk_d T L p = p + i + k := by
              unfold tk_d
              rw [ef]
              exact rn_of (tP_ff (by rw [← e1']; exact c6)) _ _ (by omega) (fun j h1 h2 => hd j (by omega) h2) (by omega)
            obtain ⟨n1, n2, n3, n4⟩ := need_n q3 rfl j20
            replace kk := kk ()
            rw [if_neg (by omega)] at kk
            exact hQ' _ ⟨F'.tr n3, by rw [n4 17 (by decide) (by decide), j17, ef], fun _ => by rw [n4 16 (by decide) (by decide), j16, eb, ed], fun _ => ⟨n1, by rw [n2, j17, ef]⟩, fun h => absurd kk h, fun h => by omega⟩
          · have k1 : 1 ≤ k := by
              by_cases h : k = 0
              · subst h
                rw [Nat.add_zero, ← ec] at e1'
                rw [e1'] at c6
                exact absurd c4 c6
              · omega
            have ed : tk_d T L p = p + i + k := by
              unfold tk_d
              rw [ef]
              exact rn_of (tP_ff (by rw [← e1']; exact c6)) _ _ (by omega) (fun j h1 h2 => hd j (by omega) h2) (by omega)
            rw [need_y q3]
            replace kk := kk ()
            rw [if_pos (by omega)] at kk
            refine hQ' _ ⟨F', by rw [j17, ef], fun _ => by rw [j16, eb, ed], fun h => by omega, fun _ => ⟨j20, by rw [j18, kk]⟩, fun _ => ?_⟩
            rw [hv, if_neg (by omega)]
            unfold tk_v
            rw [ef, ec]
            by_cases e : k = 1
            · rw [if_pos e, if_pos (by omega)]
            · rw [if_neg e, if_neg (by omega)]
          · have hdk : tP_f (tb T L (p + i + k)) = true := tP_ft.mpr (by rw [← e1']; exact c6)
            have w16 : τ5 122 16 = ((p + i + k : Nat) : Int) := by rw [t5, w_up_j (by decide)]; exact j16
            refine ⟨⟨by omega, by omega⟩, fun τ6 t6 => ih2 τ6 (by rw [t6, t5]; exact (F'.up (by decide) (by decide)).up (by decide) (by decide)) ?_ ?_ ?_ ?_ (fun j h1 h2 => ?_) ?_⟩
            · rw [t6, w_up_j (by decide), t5, w_up_j (by decide)]; exact j20
            · rw [t6, w_up_j (by decide), t5, w_up_j (by decide)]; exact j18
            · rw [t6, w_up_j (by decide), t5, w_up_j (by decide)]; exact j17
            · rw [t6, w_up_at, w16]; omega
            · by_cases e : j = p + i + k
              · rw [e]; exact hdk
              · exact hd j h1 (by omega)
            · rw [t6, w_up_j (by decide), t5, w_up_at, hv, if_neg (by omega), if_neg (by omega), if_neg (by omega), if_neg (by omega)]
          · have hdk : tP_f (tb T L (p + i + k)) = true := tP_ft.mpr (by rw [← e1']; exact c6)
            have hvb : 0 ≤ τ 122 19 ∧ τ 122 19 ≤ 9 := by
              rw [hv]
              by_cases h : k = 0
              · rw [if_pos h]; omega
              · have h1 : k = 1 := by omega
                rw [if_neg h, if_pos h1, ← ec]
                omega
            refine ⟨⟨by omega, by omega⟩, fun y7 e7 => ?_⟩
            rw [ey, ← e1'] at e7
            refine ⟨⟨by omega, by omega⟩, ⟨by omega, by omega⟩, fun τ8 t8 => ?_⟩
            have w16 : τ8 122 16 = ((p + i + k : Nat) : Int) := by rw [t8, w_up_j (by decide)]; exact j16
            refine ⟨⟨by omega, by omega⟩, fun τ9 t9 => ih2 τ9 (by rw [t9, t8]; exact (F'.up (by decide) (by decide)).up (by decide) (by decide)) ?_ ?_ ?_ ?_ (fun j h1 h2 => ?_) ?_⟩
            · rw [t9, w_up_j (by decide), t8, w_up_j (by decide)]; exact j20
            · rw [t9, w_up_j (by decide), t8, w_up_j (by decide)]; exact j18
            · rw [t9, w_up_j (by decide), t8, w_up_j (by decide)]; exact j17
            · rw [t9, w_up_at, w16]; omega
            · by_cases e : j = p + i + k
              · rw [e]; exact hdk
              · exact hd j h1 (by omega)
            · rw [t9, w_up_j (by decide), t8, w_up_at, hv, e7, e1']
              rcases (show k = 0 ∨ k = 1 by omega) with rfl | rfl
              · rw [if_pos rfl, if_neg (by decide), if_pos (by decide), Nat.add_zero]; omega
              · rw [if_neg (by decide), if_pos rfl, if_neg (by decide), if_neg (by decide)]; omega
        · rw [t11, w_up_j (by decide), t10, w_up_j (by decide)]; exact z20
        · rw [t11, w_up_j (by decide), t10, w_up_at]
        · rw [t11, w_up_j (by decide), t10, w_up_j (by decide)]; exact z17
        · rw [t11, w_up_j (by decide), t10, w_up_j (by decide)]; exact z16
        · rw [t11, w_up_at, if_pos rfl]
      · -- a name
        have ek : tk_k T L p = 1 := by rw [kk (), if_pos c3]
        refine (w_loop (n := L - (p + i)) (P := fun k => ∀ τ : w_M, mo_fr σ τ → τ 122 20 = 0 → τ 122 18 = 1 → τ 122 17 = ((p + i : Nat) : Int) → τ 122 16 = ((p + i + k : Nat) : Int) → (∀ j, p + i ≤ j → j < p + i + k → tP_l (tb T L j) = true) → LModel_next_41 xs (d + 1) Q τ) ?_ ?_) τ13 ?_ ?_ ?_ ?_ ?_ (fun j h1 h2 => by omega)
        · intro τ F' j20 j18 j17 j16 hl
          have hend : tb T L (p + i + (L - (p + i))) = -1 := by unfold tb; rw [if_neg (by omega)]
          have eb : tk_b T L p = p + i + (L - (p + i)) := by
            unfold tk_b
            rw [if_pos c3, ef]
            exact rn_of (by rw [hend]; decide) _ _ (by omega) (fun j h1 h2 => hl j (by omega) h2) (by omega)
          refine bModel_next_41 ⟨pb τ F' _ (by omega), fun y1' e1' => ?_⟩
          rw [tbb τ F' _ (by omega), j16, Int.toNat_natCast, hend] at e1'
          exact ⟨fun _ => hQ' _ ⟨F', by rw [j17, ef], fun _ => by rw [j16, eb], fun h => by omega, fun _ => ⟨j20, by rw [j18, ek]⟩, fun h => by omega⟩, fun h => by omega⟩
        · intro k hk2 ih2 τ F' j20 j18 j17 j16 hl
          refine bModel_next_41 ⟨pb τ F' _ (by omega), fun y1' e1' => ?_⟩
          rw [tbb τ F' _ (by omega), j16, Int.toNat_natCast] at e1'
          refine ⟨fun c6 => ?_, fun c6 => ⟨⟨by omega, by omega⟩, fun τ2' t2' => ?_⟩⟩
          · have k1 : 1 ≤ k := by
              by_cases h : k = 0
              · subst h
                rw [Nat.add_zero, ← ec] at e1'
                rw [e1'] at c6
                exact absurd c3 c6
              · omega
            have eb : tk_b T L p = p + i + k := by
              unfold tk_b
              rw [if_pos c3, ef]
              exact rn_of (tP_lf (by rw [← e1']; exact c6)) _ _ (by omega) (fun j h1 h2 => hl j (by omega) h2) (by omega)
            exact hQ' _ ⟨F', by rw [j17, ef], fun _ => by rw [j16, eb], fun h => by omega, fun _ => ⟨j20, by rw [j18, ek]⟩, fun h => by omega⟩
          · refine ih2 τ2' (by rw [t2']; exact F'.up (by decide) (by decide)) ?_ ?_ ?_ ?_ (fun j h1 h2 => ?_)
            · rw [t2', w_up_j (by decide)]; exact j20
            · rw [t2', w_up_j (by decide)]; exact j18
            · rw [t2', w_up_j (by decide)]; exact j17
            · rw [t2', w_up_at, j16]; omega
            · by_cases e : j = p + i + k
              · rw [e]; exact tP_lt.mpr (by rw [← e1']; exact c6)
              · exact hl j h1 (by omega)
        · rw [t13]; exact F2.up (by decide) (by decide)
        · rw [t13, w_up_j (by decide)]; exact z20
        · rw [t13, w_up_at]
        · rw [t13, w_up_j (by decide)]; exact z17
        · rw [t13, w_up_j (by decide)]; exact z16
    · refine ih τ17 (by rw [t17]; exact F.up (by decide) (by decide)) ?_ ?_ (fun j h1 h2 => ?_)
      · rw [t17, w_up_j (by decide)]; exact i20
      · rw [t17, w_up_at, i16]; omega
      · by_cases e : j = p + i
        · rw [e]; exact tP_st (by rw [← e1]; exact c)
        · exact hsp j h1 (by omega)
