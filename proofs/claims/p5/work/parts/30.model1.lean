/-! The reference's night -/
/-- one cell alone may have changed -/
noncomputable def w_f1 (σ σ' : w_M) (c : Nat) : Prop := ∀ b, b ≠ c → σ' b = σ b
theorem w_f1.rfl' {σ : w_M} {c : Nat} : w_f1 σ σ c := fun _ _ => rfl
theorem w_f1.tr {σ σ1 σ2 : w_M} {c : Nat} (h : w_f1 σ σ1 c) (h2 : w_f1 σ1 σ2 c) : w_f1 σ σ2 c := fun b hb => (h2 b hb).trans (h b hb)
theorem w_f1.up {σ σ' : w_M} {c i : Nat} {x : Int} (h : w_f1 σ σ' c) : w_f1 σ (w_up σ' c i x) c := fun b hb => by rw [w_up_ne hb]; exact h b hb
theorem w_f1.up0 {σ : w_M} {c i : Nat} {x : Int} : w_f1 σ (w_up σ c i x) c := w_f1.rfl'.up
/-- of the reference's trial alone, and there of the night alone -/
noncomputable def w_g1 (σ σ' : w_M) : Prop := w_f1 σ σ' 124 ∧ ∀ x, 48 ≤ x → σ' 124 x = σ 124 x
theorem w_g1.rfl' {σ : w_M} : w_g1 σ σ := ⟨w_f1.rfl', fun _ _ => rfl⟩
theorem w_g1.tr {σ σ1 σ2 : w_M} (h : w_g1 σ σ1) (h2 : w_g1 σ1 σ2) : w_g1 σ σ2 := ⟨h.1.tr h2.1, fun x hx => (h2.2 x hx).trans (h.2 x hx)⟩
theorem w_g1.up {σ σ' : w_M} {i : Nat} {x : Int} (h : w_g1 σ σ') (hi : i < 48) : w_g1 σ (w_up σ' 124 i x) := ⟨h.1.up, fun y hy => by rw [w_up_j (by omega)]; exact h.2 y hy⟩
theorem w_g1.up0 {σ : w_M} {i : Nat} {x : Int} (hi : i < 48) : w_g1 σ (w_up σ 124 i x) := w_g1.rfl'.up hi
noncomputable def v_Model_flag (x : Int) : Int := if x = 0 then 0 else 1
theorem fModel_in_0 : w_fe am_c157 0 1 (.lload 0) := ⟨rfl, rfl⟩
theorem fModel_in_1 : w_fe am_c157 1 2 (.lload 2) := ⟨rfl, rfl⟩
theorem fModel_in_2 : w_fe am_c157 2 3 (.lcmp) := ⟨rfl, rfl⟩
theorem fModel_in_3 : w_if am_c157 3 4 .lt 10 := ⟨rfl, rfl⟩
theorem fModel_in_4 : w_fe am_c157 4 5 (.lload 0) := ⟨rfl, rfl⟩
theorem fModel_in_5 : w_fe am_c157 5 6 (.lload 4) := ⟨rfl, rfl⟩
theorem fModel_in_6 : w_fe am_c157 6 7 (.lcmp) := ⟨rfl, rfl⟩
theorem fModel_in_7 : w_if am_c157 7 8 .gt 10 := ⟨rfl, rfl⟩
theorem fModel_in_8 : w_fe am_c157 8 9 (.bipush 1) := ⟨rfl, rfl⟩
theorem fModel_in_9 : w_gt am_c157 9 11 := rfl
theorem fModel_in_10 : w_fe am_c157 10 11 (.bipush 0) := ⟨rfl, rfl⟩
theorem fModel_in_11 : w_fe am_c157 11 12 (.ireturn) := ⟨rfl, rfl⟩
set_option maxRecDepth 20000 in
theorem bModel_in_0 {xs : List Int} {d : Nat} {Q : Option w_V → w_M → Prop} {x0 : Int} {x1 : Int} {x2 : Int} {σ : w_M}
    (h : (x0 < x1 → Q (some (.inl 0)) σ) ∧ (x1 ≤ x0 → ((x2 < x0 → Q (some (.inl 0)) σ) ∧ (x0 ≤ x2 → Q (some (.inl 1)) σ)))) : w_Call (xs, d) 157 [.inr (.inl x0), .inr (.inl x1), .inr (.inl x2)] σ Q :=
  (w_mk (mid := 157) (by decide) rfl rfl rfl rfl rfl (Nat.le_of_ble_eq_true rfl) trivial (wi_lload0 fModel_in_0 (wi_lload2 fModel_in_1 (wi_lcmp_lt fModel_in_2 fModel_in_3 (fun c2 => (wi_bipush fModel_in_10 (wi_ret2 fModel_in_11 (by decide) (h.1 c2)))) (fun c2 => (wi_lload0 fModel_in_4 (wi_lload4 fModel_in_5 (wi_lcmp_gt fModel_in_6 fModel_in_7 (fun c1 => (wi_bipush fModel_in_10 (wi_ret2 fModel_in_11 (by decide) ((h.2 c2).1 c1)))) (fun c1 => (wi_bipush fModel_in_8 (wi_goto fModel_in_9 (wi_ret2 fModel_in_11 (by decide) ((h.2 c2).2 c1)))))))))))))
theorem fModel_flag_0 : w_fe am_c179 0 1 (.iload 0) := ⟨rfl, rfl⟩
theorem fModel_flag_1 : w_if am_c179 1 2 .eq 4 := ⟨rfl, rfl⟩
theorem fModel_flag_2 : w_fe am_c179 2 3 (.bipush 1) := ⟨rfl, rfl⟩
theorem fModel_flag_3 : w_gt am_c179 3 5 := rfl
theorem fModel_flag_4 : w_fe am_c179 4 5 (.bipush 0) := ⟨rfl, rfl⟩
theorem fModel_flag_5 : w_fe am_c179 5 6 (.ireturn) := ⟨rfl, rfl⟩
set_option maxRecDepth 20000 in
theorem bModel_flag_0 {xs : List Int} {d : Nat} {Q : Option w_V → w_M → Prop} {x0 : Int} {σ : w_M}
    (h : (x0 = 0 → Q (some (.inl 0)) σ) ∧ (¬ x0 = 0 → Q (some (.inl 1)) σ)) : w_Call (xs, d) 179 [.inl x0] σ Q :=
  (w_mk (mid := 179) (by decide) rfl rfl rfl rfl rfl (Nat.le_of_ble_eq_true rfl) trivial (wi_iload0 fModel_flag_0 (wi_if_eq fModel_flag_1 (fun c1 => (wi_bipush fModel_flag_4 (wi_ret1 fModel_flag_5 (h.1 c1)))) (fun c1 => (wi_bipush fModel_flag_2 (wi_goto fModel_flag_3 (wi_ret1 fModel_flag_5 (h.2 c1))))))))
theorem k_Model_in {xs : List Int} {d : Nat} {Q : Option w_V → w_M → Prop} {x0 : Int} {x1 : Int} {x2 : Int} {σ : w_M} (hQ : Q (some (.inl (w_bi (x1 ≤ x0 ∧ x0 ≤ x2)))) σ) : w_Call (xs, d) 157 [.inr (.inl x0), .inr (.inl x1), .inr (.inl x2)] σ Q := by
  refine bModel_in_0 ⟨fun h => ?_, fun h => ⟨fun h2 => ?_, fun h2 => ?_⟩⟩
  · rw [w_bi_f (by omega)] at hQ; exact hQ
  · rw [w_bi_f (by omega)] at hQ; exact hQ
  · rw [w_bi_t (by omega)] at hQ; exact hQ
theorem k_Model_flag {xs : List Int} {d : Nat} {Q : Option w_V → w_M → Prop} {x0 : Int} {σ : w_M} (hQ : Q (some (.inl (v_Model_flag x0))) σ) : w_Call (xs, d) 179 [.inl x0] σ Q := by
  unfold v_Model_flag at hQ
  refine bModel_flag_0 ⟨fun h => ?_, fun h => ?_⟩
  · rw [if_pos h] at hQ; exact hQ
  · rw [if_neg h] at hQ; exact hQ
noncomputable def p_Model_isStrip (_ : Int) (σ : w_M) : Prop := 0 ≤ σ 122 4 ∧ σ 122 4 ≤ 7
noncomputable def p_Model_isReaper (_ : Int) (σ : w_M) : Prop := 0 ≤ σ 122 5 ∧ σ 122 5 ≤ 4
theorem fModel_isStrip_0 : w_fe am_c177 0 1 (.iload 1) := ⟨rfl, rfl⟩
theorem fModel_isStrip_1 : w_fe am_c177 1 2 (.i2l) := ⟨rfl, rfl⟩
theorem fModel_isStrip_2 : w_fe am_c177 2 3 (.sipush 0) := ⟨rfl, rfl⟩
theorem fModel_isStrip_3 : w_fe am_c177 3 4 (.aload 0) := ⟨rfl, rfl⟩
theorem fModel_isStrip_4 : w_fe am_c177 4 5 (.getfield 904) := ⟨rfl, rfl⟩
theorem fModel_isStrip_5 : w_fe am_c177 5 6 (.bipush 1) := ⟨rfl, rfl⟩
theorem fModel_isStrip_6 : w_fe am_c177 6 7 (.isub) := ⟨rfl, rfl⟩
theorem fModel_isStrip_7 : w_fe am_c177 7 8 (.i2l) := ⟨rfl, rfl⟩
theorem fModel_isStrip_8 : w_fe am_c177 8 9 (.invokestatic 157) := ⟨rfl, rfl⟩
theorem fModel_isStrip_9 : w_fe am_c177 9 10 (.ireturn) := ⟨rfl, rfl⟩
set_option maxRecDepth 20000 in
theorem bModel_isStrip_0 {xs : List Int} {d : Nat} {Q : Option w_V → w_M → Prop} {x1 : Int} {σ : w_M}
    (h : w_in ((σ 122 4) - 1) ∧ Q (some (.inl (w_bi (0 ≤ x1 ∧ x1 ≤ ((σ 122 4) - 1))))) σ) : w_Call (xs, (d + 1)) 177 [.inr (.inr (9, 122)), .inl x1] σ Q :=
  (w_mk (mid := 177) (by decide) rfl rfl rfl rfl rfl (Nat.le_of_ble_eq_true rfl) ⟨rfl, Or.inl (by decide)⟩ (wi_iload1 fModel_isStrip_0 (wi_i2l fModel_isStrip_1 (wi_sipush fModel_isStrip_2 (wi_aload0 fModel_isStrip_3 (wi_getf904 fModel_isStrip_4 (wi_bipush fModel_isStrip_5 (wi_isub fModel_isStrip_6 h.1 (wi_i2l fModel_isStrip_7 (wi_call3 fModel_isStrip_8 (Nat.le_of_ble_eq_true rfl) (k_Model_in (wi_ret2 fModel_isStrip_9 (w_bi01 _) h.2))))))))))))
theorem fModel_isReaper_0 : w_fe am_c181 0 1 (.iload 1) := ⟨rfl, rfl⟩
theorem fModel_isReaper_1 : w_fe am_c181 1 2 (.i2l) := ⟨rfl, rfl⟩
theorem fModel_isReaper_2 : w_fe am_c181 2 3 (.sipush 0) := ⟨rfl, rfl⟩
theorem fModel_isReaper_3 : w_fe am_c181 3 4 (.aload 0) := ⟨rfl, rfl⟩
theorem fModel_isReaper_4 : w_fe am_c181 4 5 (.getfield 905) := ⟨rfl, rfl⟩
theorem fModel_isReaper_5 : w_fe am_c181 5 6 (.bipush 1) := ⟨rfl, rfl⟩
theorem fModel_isReaper_6 : w_fe am_c181 6 7 (.isub) := ⟨rfl, rfl⟩
theorem fModel_isReaper_7 : w_fe am_c181 7 8 (.i2l) := ⟨rfl, rfl⟩
theorem fModel_isReaper_8 : w_fe am_c181 8 9 (.invokestatic 157) := ⟨rfl, rfl⟩
theorem fModel_isReaper_9 : w_fe am_c181 9 10 (.ireturn) := ⟨rfl, rfl⟩
set_option maxRecDepth 20000 in
theorem bModel_isReaper_0 {xs : List Int} {d : Nat} {Q : Option w_V → w_M → Prop} {x1 : Int} {σ : w_M}
    (h : w_in ((σ 122 5) - 1) ∧ Q (some (.inl (w_bi (0 ≤ x1 ∧ x1 ≤ ((σ 122 5) - 1))))) σ) : w_Call (xs, (d + 1)) 181 [.inr (.inr (9, 122)), .inl x1] σ Q :=
  (w_mk (mid := 181) (by decide) rfl rfl rfl rfl rfl (Nat.le_of_ble_eq_true rfl) ⟨rfl, Or.inl (by decide)⟩ (wi_iload1 fModel_isReaper_0 (wi_i2l fModel_isReaper_1 (wi_sipush fModel_isReaper_2 (wi_aload0 fModel_isReaper_3 (wi_getf905 fModel_isReaper_4 (wi_bipush fModel_isReaper_5 (wi_isub fModel_isReaper_6 h.1 (wi_i2l fModel_isReaper_7 (wi_call3 fModel_isReaper_8 (Nat.le_of_ble_eq_true rfl) (k_Model_in (wi_ret2 fModel_isReaper_9 (w_bi01 _) h.2))))))))))))
theorem fModel_isOwner_0 : w_fe am_c183 0 1 (.iload 0) := ⟨rfl, rfl⟩
theorem fModel_isOwner_1 : w_fe am_c183 1 2 (.i2l) := ⟨rfl, rfl⟩
theorem fModel_isOwner_2 : w_fe am_c183 2 3 (.sipush 0) := ⟨rfl, rfl⟩
theorem fModel_isOwner_3 : w_fe am_c183 3 4 (.sipush 3) := ⟨rfl, rfl⟩
theorem fModel_isOwner_4 : w_fe am_c183 4 5 (.invokestatic 157) := ⟨rfl, rfl⟩
theorem fModel_isOwner_5 : w_fe am_c183 5 6 (.ireturn) := ⟨rfl, rfl⟩
set_option maxRecDepth 20000 in
theorem bModel_isOwner_0 {xs : List Int} {d : Nat} {Q : Option w_V → w_M → Prop} {x0 : Int} {σ : w_M}
    (h : Q (some (.inl (w_bi (0 ≤ x0 ∧ x0 ≤ 3)))) σ) : w_Call (xs, (d + 1)) 183 [.inl x0] σ Q :=
  (w_mk (mid := 183) (by decide) rfl rfl rfl rfl rfl (Nat.le_of_ble_eq_true rfl) trivial (wi_iload0 fModel_isOwner_0 (wi_i2l fModel_isOwner_1 (wi_sipush fModel_isOwner_2 (wi_sipush fModel_isOwner_3 (wi_call3 fModel_isOwner_4 (Nat.le_of_ble_eq_true rfl) (k_Model_in (wi_ret2 fModel_isOwner_5 (w_bi01 _) h))))))))
theorem k_Model_isStrip {xs : List Int} {d : Nat} {Q : Option w_V → w_M → Prop} {x1 : Int} {σ : w_M} (hp : p_Model_isStrip x1 σ) (hQ : Q (some (.inl (w_bi (0 ≤ x1 ∧ x1 < σ 122 4)))) σ) : w_Call (xs, d + 1) 177 [.inr (.inr (9, 122)), .inl x1] σ Q := by
  unfold p_Model_isStrip at hp
  refine bModel_isStrip_0 ⟨⟨by omega, by omega⟩, ?_⟩
  rw [w_bi_congr (show (0 ≤ x1 ∧ x1 ≤ σ 122 4 - 1) ↔ (0 ≤ x1 ∧ x1 < σ 122 4) by omega)]
  exact hQ
theorem k_Model_isReaper {xs : List Int} {d : Nat} {Q : Option w_V → w_M → Prop} {x1 : Int} {σ : w_M} (hp : p_Model_isReaper x1 σ) (hQ : Q (some (.inl (w_bi (0 ≤ x1 ∧ x1 < σ 122 5)))) σ) : w_Call (xs, d + 1) 181 [.inr (.inr (9, 122)), .inl x1] σ Q := by
  unfold p_Model_isReaper at hp
  refine bModel_isReaper_0 ⟨⟨by omega, by omega⟩, ?_⟩
  rw [w_bi_congr (show (0 ≤ x1 ∧ x1 ≤ σ 122 5 - 1) ↔ (0 ≤ x1 ∧ x1 < σ 122 5) by omega)]
  exact hQ
theorem k_Model_isOwner {xs : List Int} {d : Nat} {Q : Option w_V → w_M → Prop} {x0 : Int} {σ : w_M} (hQ : Q (some (.inl (w_bi (0 ≤ x0 ∧ x0 ≤ 3)))) σ) : w_Call (xs, d + 1) 183 [.inl x0] σ Q := bModel_isOwner_0 hQ
noncomputable def p_Model_starts (σ : w_M) : Prop := m_sm σ
noncomputable def q_Model_starts (σ σ' : w_M) : Prop := w_am σ' 124 0 = w_am σ 123 0 ∧ w_f1 σ σ' 124 ∧ (∀ j, j < 82 → σ' 124 j = σ 123 j)
theorem fModel_starts_0 : w_fe am_c174 0 1 (.bipush 0) := ⟨rfl, rfl⟩
theorem fModel_starts_1 : w_fe am_c174 1 2 (.istore 1) := ⟨rfl, rfl⟩
theorem fModel_starts_2 : w_fe am_c174 2 3 (.iload 1) := ⟨rfl, rfl⟩
theorem fModel_starts_3 : w_fe am_c174 3 4 (.bipush 82) := ⟨rfl, rfl⟩
theorem fModel_starts_4 : w_ic am_c174 4 5 .ge 15 := ⟨rfl, rfl⟩
theorem fModel_starts_5 : w_fe am_c174 5 6 (.aload 0) := ⟨rfl, rfl⟩
theorem fModel_starts_6 : w_fe am_c174 6 7 (.getfield 901) := ⟨rfl, rfl⟩
theorem fModel_starts_7 : w_fe am_c174 7 8 (.iload 1) := ⟨rfl, rfl⟩
theorem fModel_starts_8 : w_fe am_c174 8 9 (.aload 0) := ⟨rfl, rfl⟩
theorem fModel_starts_9 : w_fe am_c174 9 10 (.getfield 900) := ⟨rfl, rfl⟩
theorem fModel_starts_10 : w_fe am_c174 10 11 (.iload 1) := ⟨rfl, rfl⟩
theorem fModel_starts_11 : w_fe am_c174 11 12 (.iaload) := ⟨rfl, rfl⟩
theorem fModel_starts_12 : w_fe am_c174 12 13 (.iastore) := ⟨rfl, rfl⟩
theorem fModel_starts_13 : w_fe am_c174 13 14 (.iinc 1 1) := ⟨rfl, rfl⟩
theorem fModel_starts_14 : w_gt am_c174 14 2 := rfl
theorem fModel_starts_15 : w_fe am_c174 15 16 (.return_) := ⟨rfl, rfl⟩
noncomputable def LModel_starts_2 (xs : List Int) (d : Nat) (Q : Option w_V → w_M → Prop) (v1 : Int) (σ : w_M) : Prop := w_Ex (xs, d) 0 am_c174 Q 2 [some (.inr (.inr (9, 122))), some (.inl v1)] [] σ
set_option maxRecDepth 20000 in
theorem bModel_starts_0 {xs : List Int} {d : Nat} {Q : Option w_V → w_M → Prop}  {σ : w_M}
    (h : LModel_starts_2 xs d Q 0 σ) : w_Call (xs, d) 174 [.inr (.inr (9, 122))] σ Q :=
  (w_mk (mid := 174) (by decide) rfl rfl rfl rfl rfl (Nat.le_of_ble_eq_true rfl) ⟨rfl, Or.inl (by decide)⟩ (wi_bipush fModel_starts_0 (wi_istore1 fModel_starts_1 trivial h)))
set_option maxRecDepth 20000 in
theorem bModel_starts_2 {xs : List Int} {d : Nat} {Q : Option w_V → w_M → Prop} {v1 : Int} {σ : w_M}
    (h : (82 ≤ v1 → Q none σ) ∧ (v1 < 82 → (0 ≤ v1 ∧ v1 < 246 ∧ (∀ (τ1 : w_M), τ1 = w_up σ 124 v1.toNat (σ 123 v1.toNat) → (w_in (v1 + 1) ∧ LModel_starts_2 xs d Q (v1 + 1) τ1))))) : LModel_starts_2 xs d Q v1 σ :=
  (wi_iload1 fModel_starts_2 (wi_bipush fModel_starts_3 (wi_ic_ge fModel_starts_4 (fun c2 => (wi_ret0 fModel_starts_15 (h.1 c2))) (fun c2 => (wi_aload0 fModel_starts_5 (wi_getf901 fModel_starts_6 (wi_iload1 fModel_starts_7 (wi_aload0 fModel_starts_8 (wi_getf900 fModel_starts_9 (wi_iload1 fModel_starts_10 (wi_iald1246 fModel_starts_11 (h.2 c2).1 (h.2 c2).2.1 (wi_iast1082 fModel_starts_12 (h.2 c2).1 c2 (wi_iinc1 fModel_starts_13 trivial ((h.2 c2).2.2 _ rfl).1 (wi_goto fModel_starts_14 ((h.2 c2).2.2 _ rfl).2))))))))))))))
theorem k_Model_starts {xs : List Int} {d : Nat} {Q : Option w_V → w_M → Prop}  {σ : w_M} (hp : p_Model_starts σ) (hQ : ∀ σ' : w_M, q_Model_starts σ σ' → Q none σ') : w_Call (xs, d) 174 [.inr (.inr (9, 122))] σ Q := by
  refine bModel_starts_0 ?_
  refine (w_loop (n := 82) (P := fun k => ∀ τ : w_M, w_f1 σ τ 124 → (∀ j, j < k → τ 124 j = σ 123 j) → LModel_starts_2 xs d Q (k : Int) τ) ?_ ?_) σ w_f1.rfl' (fun j hj => by omega)
  · intro τ F h
    refine bModel_starts_2 ⟨fun _ => hQ _ ⟨?_, F, h⟩, fun h => by omega⟩
    have h122 : τ 122 = σ 122 := F 122 (by decide)
    have hr : ∀ k, m_rl τ k = m_rl σ k := fun k => by unfold m_rl; rw [h122]
    funext k j
    unfold w_am
    rw [h122, hr, h 42 (by decide), h 41 (by decide), h 47 (by decide)]
    by_cases hj : j < m_rl σ k
    · obtain ⟨k10, j7, jL⟩ := m_rl_d hp hj
      have := (m_ix_sc k k10 j j7 jL).2.2.2
      rw [if_pos hj, if_pos hj, Nat.zero_add, h _ (by omega)]
    · rw [if_neg hj, if_neg hj]
  · intro k hk ih τ F h
    refine bModel_starts_2 ⟨fun h => by omega, fun _ => ⟨by omega, by omega, fun τ1 t1 => ⟨⟨by omega, by omega⟩, ?_⟩⟩⟩
    rw [← w_cs1]
    refine ih τ1 (by rw [t1]; exact F.up) (fun j hj => ?_)
    rw [t1, Int.toNat_natCast, w_up_eq]
    by_cases hjk : j = k
    · rw [if_pos ⟨rfl, hjk⟩, F 123 (by decide), hjk]
    · rw [if_neg (fun e => hjk e.2)]
      exact h j (by omega)
noncomputable def p_Model_of (r k : Int) (_ : w_M) : Prop := (0 ≤ r ∧ r ≤ 3) ∧ (0 ≤ k ∧ k ≤ 4)
noncomputable def p_Model_becomesOf (r k _v : Int) (_ : w_M) : Prop := (0 ≤ r ∧ r ≤ 3) ∧ (0 ≤ k ∧ k ≤ 4)
noncomputable def q_Model_becomesOf (r k v : Int) (σ σ' : w_M) : Prop := σ' = w_up σ 124 (21 + 5 * r + k).toNat v
theorem fModel_of_0 : w_fe am_c178 0 1 (.aload 0) := ⟨rfl, rfl⟩
theorem fModel_of_1 : w_fe am_c178 1 2 (.getfield 901) := ⟨rfl, rfl⟩
theorem fModel_of_2 : w_fe am_c178 2 3 (.bipush 21) := ⟨rfl, rfl⟩
theorem fModel_of_3 : w_fe am_c178 3 4 (.bipush 5) := ⟨rfl, rfl⟩
theorem fModel_of_4 : w_fe am_c178 4 5 (.iload 1) := ⟨rfl, rfl⟩
theorem fModel_of_5 : w_fe am_c178 5 6 (.imul) := ⟨rfl, rfl⟩
theorem fModel_of_6 : w_fe am_c178 6 7 (.iadd) := ⟨rfl, rfl⟩
theorem fModel_of_7 : w_fe am_c178 7 8 (.iload 2) := ⟨rfl, rfl⟩
theorem fModel_of_8 : w_fe am_c178 8 9 (.iadd) := ⟨rfl, rfl⟩
theorem fModel_of_9 : w_fe am_c178 9 10 (.iaload) := ⟨rfl, rfl⟩
theorem fModel_of_10 : w_fe am_c178 10 11 (.ireturn) := ⟨rfl, rfl⟩
set_option maxRecDepth 20000 in
theorem bModel_of_0 {xs : List Int} {d : Nat} {Q : Option w_V → w_M → Prop} {x1 : Int} {x2 : Int} {σ : w_M}
    (h : w_in (5 * x1) ∧ w_in (21 + (5 * x1)) ∧ w_in ((21 + (5 * x1)) + x2) ∧ 0 ≤ ((21 + (5 * x1)) + x2) ∧ ((21 + (5 * x1)) + x2) < 82 ∧ Q (some (.inl (σ 124 ((21 + (5 * x1)) + x2).toNat))) σ) : w_Call (xs, d) 178 [.inr (.inr (9, 122)), .inl x1, .inl x2] σ Q :=
  (w_mk (mid := 178) (by decide) rfl rfl rfl rfl rfl (Nat.le_of_ble_eq_true rfl) ⟨rfl, Or.inl (by decide)⟩ (wi_aload0 fModel_of_0 (wi_getf901 fModel_of_1 (wi_bipush fModel_of_2 (wi_bipush fModel_of_3 (wi_iload1 fModel_of_4 (wi_imul fModel_of_5 h.1 (wi_iadd fModel_of_6 h.2.1 (wi_iload2 fModel_of_7 (wi_iadd fModel_of_8 h.2.2.1 (wi_iald1082 fModel_of_9 h.2.2.2.1 h.2.2.2.2.1 (wi_ret1 fModel_of_10 h.2.2.2.2.2))))))))))))
theorem fModel_becomesOf_0 : w_fe am_c199 0 1 (.aload 0) := ⟨rfl, rfl⟩
theorem fModel_becomesOf_1 : w_fe am_c199 1 2 (.getfield 901) := ⟨rfl, rfl⟩
theorem fModel_becomesOf_2 : w_fe am_c199 2 3 (.bipush 21) := ⟨rfl, rfl⟩
theorem fModel_becomesOf_3 : w_fe am_c199 3 4 (.bipush 5) := ⟨rfl, rfl⟩
theorem fModel_becomesOf_4 : w_fe am_c199 4 5 (.iload 1) := ⟨rfl, rfl⟩
theorem fModel_becomesOf_5 : w_fe am_c199 5 6 (.imul) := ⟨rfl, rfl⟩
theorem fModel_becomesOf_6 : w_fe am_c199 6 7 (.iadd) := ⟨rfl, rfl⟩
theorem fModel_becomesOf_7 : w_fe am_c199 7 8 (.iload 2) := ⟨rfl, rfl⟩
theorem fModel_becomesOf_8 : w_fe am_c199 8 9 (.iadd) := ⟨rfl, rfl⟩
theorem fModel_becomesOf_9 : w_fe am_c199 9 10 (.iload 3) := ⟨rfl, rfl⟩
theorem fModel_becomesOf_10 : w_fe am_c199 10 11 (.iastore) := ⟨rfl, rfl⟩
theorem fModel_becomesOf_11 : w_fe am_c199 11 12 (.return_) := ⟨rfl, rfl⟩
set_option maxRecDepth 20000 in
theorem bModel_becomesOf_0 {xs : List Int} {d : Nat} {Q : Option w_V → w_M → Prop} {x1 : Int} {x2 : Int} {x3 : Int} {σ : w_M}
    (h : w_in (5 * x1) ∧ w_in (21 + (5 * x1)) ∧ w_in ((21 + (5 * x1)) + x2) ∧ 0 ≤ ((21 + (5 * x1)) + x2) ∧ ((21 + (5 * x1)) + x2) < 82 ∧ (∀ (τ1 : w_M), τ1 = w_up σ 124 ((21 + (5 * x1)) + x2).toNat x3 → Q none τ1)) : w_Call (xs, d) 199 [.inr (.inr (9, 122)), .inl x1, .inl x2, .inl x3] σ Q :=
  (w_mk (mid := 199) (by decide) rfl rfl rfl rfl rfl (Nat.le_of_ble_eq_true rfl) ⟨rfl, Or.inl (by decide)⟩ (wi_aload0 fModel_becomesOf_0 (wi_getf901 fModel_becomesOf_1 (wi_bipush fModel_becomesOf_2 (wi_bipush fModel_becomesOf_3 (wi_iload1 fModel_becomesOf_4 (wi_imul fModel_becomesOf_5 h.1 (wi_iadd fModel_becomesOf_6 h.2.1 (wi_iload2 fModel_becomesOf_7 (wi_iadd fModel_becomesOf_8 h.2.2.1 (wi_iload3 fModel_becomesOf_9 (wi_iast1082 fModel_becomesOf_10 h.2.2.2.1 h.2.2.2.2.1 (wi_ret0 fModel_becomesOf_11 (h.2.2.2.2.2 _ rfl))))))))))))))
theorem k_Model_of {xs : List Int} {d : Nat} {Q : Option w_V → w_M → Prop} {x1 : Int} {x2 : Int} {σ : w_M} (hp : p_Model_of x1 x2 σ) (hQ : Q (some (.inl (σ 124 (21 + 5 * x1 + x2).toNat))) σ) : w_Call (xs, d) 178 [.inr (.inr (9, 122)), .inl x1, .inl x2] σ Q := by
  unfold p_Model_of at hp
  exact bModel_of_0 ⟨⟨by omega, by omega⟩, ⟨by omega, by omega⟩, ⟨by omega, by omega⟩, by omega, by omega, hQ⟩
theorem k_Model_becomesOf {xs : List Int} {d : Nat} {Q : Option w_V → w_M → Prop} {x1 : Int} {x2 : Int} {x3 : Int} {σ : w_M} (hp : p_Model_becomesOf x1 x2 x3 σ) (hQ : ∀ σ' : w_M, q_Model_becomesOf x1 x2 x3 σ σ' → Q none σ') : w_Call (xs, d) 199 [.inr (.inr (9, 122)), .inl x1, .inl x2, .inl x3] σ Q := by
  unfold p_Model_becomesOf at hp
  exact bModel_becomesOf_0 ⟨⟨by omega, by omega⟩, ⟨by omega, by omega⟩, ⟨by omega, by omega⟩, by omega, by omega, fun τ t => hQ _ t⟩
theorem m_rl12 {σ : w_M} {d : Nat} (h1 : 1 ≤ d) (h2 : d ≤ 2) : m_rl σ d = (σ 122 4).toNat := by
  unfold m_rl
  rw [if_neg (by omega), if_pos h2]
theorem m_rl37 {σ : w_M} {d : Nat} (h1 : 3 ≤ d) (h2 : d ≤ 7) : m_rl σ d = (σ 122 5).toNat := by
  unfold m_rl
  rw [if_neg (by omega), if_neg (by omega), if_pos h2]
theorem m_rl9 {σ : w_M} : m_rl σ 9 = (σ 122 4).toNat := rfl
noncomputable def p_Model_standing (σ : w_M) : Prop := m_ok σ 124 0
noncomputable def v_Model_standing (σ : w_M) : Int := n_sd (w_am σ 124 0)
theorem fModel_standing_0 : w_fe am_c175 0 1 (.bipush 0) := ⟨rfl, rfl⟩
theorem fModel_standing_1 : w_fe am_c175 1 2 (.istore 1) := ⟨rfl, rfl⟩
theorem fModel_standing_2 : w_fe am_c175 2 3 (.bipush 0) := ⟨rfl, rfl⟩
theorem fModel_standing_3 : w_fe am_c175 3 4 (.istore 2) := ⟨rfl, rfl⟩
theorem fModel_standing_4 : w_fe am_c175 4 5 (.iload 2) := ⟨rfl, rfl⟩
theorem fModel_standing_5 : w_fe am_c175 5 6 (.aload 0) := ⟨rfl, rfl⟩
theorem fModel_standing_6 : w_fe am_c175 6 7 (.getfield 904) := ⟨rfl, rfl⟩
theorem fModel_standing_7 : w_ic am_c175 7 8 .ge 19 := ⟨rfl, rfl⟩
theorem fModel_standing_8 : w_fe am_c175 8 9 (.iload 1) := ⟨rfl, rfl⟩
theorem fModel_standing_9 : w_fe am_c175 9 10 (.aload 0) := ⟨rfl, rfl⟩
theorem fModel_standing_10 : w_fe am_c175 10 11 (.getfield 901) := ⟨rfl, rfl⟩
theorem fModel_standing_11 : w_fe am_c175 11 12 (.bipush 0) := ⟨rfl, rfl⟩
theorem fModel_standing_12 : w_fe am_c175 12 13 (.iload 2) := ⟨rfl, rfl⟩
theorem fModel_standing_13 : w_fe am_c175 13 14 (.iadd) := ⟨rfl, rfl⟩
theorem fModel_standing_14 : w_fe am_c175 14 15 (.iaload) := ⟨rfl, rfl⟩
theorem fModel_standing_15 : w_fe am_c175 15 16 (.iadd) := ⟨rfl, rfl⟩
theorem fModel_standing_16 : w_fe am_c175 16 17 (.istore 1) := ⟨rfl, rfl⟩
theorem fModel_standing_17 : w_fe am_c175 17 18 (.iinc 2 1) := ⟨rfl, rfl⟩
theorem fModel_standing_18 : w_gt am_c175 18 4 := rfl
theorem fModel_standing_19 : w_fe am_c175 19 20 (.iload 1) := ⟨rfl, rfl⟩
theorem fModel_standing_20 : w_fe am_c175 20 21 (.ireturn) := ⟨rfl, rfl⟩
noncomputable def LModel_standing_4 (xs : List Int) (d : Nat) (Q : Option w_V → w_M → Prop) (v1 : Int) (v2 : Int) (σ : w_M) : Prop := w_Ex (xs, d) 1 am_c175 Q 4 [some (.inr (.inr (9, 122))), some (.inl v1), some (.inl v2)] [] σ
set_option maxRecDepth 20000 in
theorem bModel_standing_0 {xs : List Int} {d : Nat} {Q : Option w_V → w_M → Prop}  {σ : w_M}
    (h : LModel_standing_4 xs d Q 0 0 σ) : w_Call (xs, d) 175 [.inr (.inr (9, 122))] σ Q :=
  (w_mk (mid := 175) (by decide) rfl rfl rfl rfl rfl (Nat.le_of_ble_eq_true rfl) ⟨rfl, Or.inl (by decide)⟩ (wi_bipush fModel_standing_0 (wi_istore1 fModel_standing_1 trivial (wi_bipush fModel_standing_2 (wi_istore2 fModel_standing_3 trivial h)))))
set_option maxRecDepth 20000 in
theorem bModel_standing_4 {xs : List Int} {d : Nat} {Q : Option w_V → w_M → Prop} {v1 : Int} {v2 : Int} {σ : w_M}
    (h : ((σ 122 4) ≤ v2 → Q (some (.inl v1)) σ) ∧ (v2 < (σ 122 4) → (w_in (0 + v2) ∧ 0 ≤ (0 + v2) ∧ (0 + v2) < 82 ∧ w_in (v1 + (σ 124 (0 + v2).toNat)) ∧ (∀ (y1 : Int), y1 = (v1 + (σ 124 (0 + v2).toNat)) → (w_in (v2 + 1) ∧ LModel_standing_4 xs d Q y1 (v2 + 1) σ))))) : LModel_standing_4 xs d Q v1 v2 σ :=
  (wi_iload2 fModel_standing_4 (wi_aload0 fModel_standing_5 (wi_getf904 fModel_standing_6 (wi_ic_ge fModel_standing_7 (fun c2 => (wi_iload1 fModel_standing_19 (wi_ret1 fModel_standing_20 (h.1 c2)))) (fun c2 => (wi_iload1 fModel_standing_8 (wi_aload0 fModel_standing_9 (wi_getf901 fModel_standing_10 (wi_bipush fModel_standing_11 (wi_iload2 fModel_standing_12 (wi_iadd fModel_standing_13 (h.2 c2).1 (wi_iald1082 fModel_standing_14 (h.2 c2).2.1 (h.2 c2).2.2.1 (wi_iadd fModel_standing_15 (h.2 c2).2.2.2.1 (wi_istore1 fModel_standing_16 trivial (wi_iinc2 fModel_standing_17 trivial ((h.2 c2).2.2.2.2 _ rfl).1 (wi_goto fModel_standing_18 ((h.2 c2).2.2.2.2 _ rfl).2))))))))))))))))
theorem k_Model_standing {xs : List Int} {d : Nat} {Q : Option w_V → w_M → Prop}  {σ : w_M} (hp : p_Model_standing σ) (hQ : Q (some (.inl (v_Model_standing σ))) σ) : w_Call (xs, d) 175 [.inr (.inr (9, 122))] σ Q := by
  refine bModel_standing_0 ?_
  have hs := m_ok.s hp
  refine w_loop (n := (σ 122 4).toNat) (P := fun i => LModel_standing_4 xs d Q (f_sum (w_am σ 124 0 1) i) (i : Int) σ) ?_ ?_
  · exact bModel_standing_4 ⟨fun _ => hQ, fun h => by omega⟩
  · intro i hi ih
    have e : σ 124 ((0 : Int) + (i : Int)).toNat = w_am σ 124 0 1 i := m_rd (by decide) (by rw [m_rl12 (by decide) (by decide)]; exact hi) (by show _ = 0 + i; omega)
    have h1 := (n_WF.i hp (show i < n_s (w_am σ 124 0) from hi)).1
    have h2 := f_sum_le (f := w_am σ 124 0 1) (B := 40) (m := n_s (w_am σ 124 0)) (fun i hi => (n_WF.i hp hi).1) (Nat.le_of_lt hi)
    refine bModel_standing_4 ⟨fun h => by omega, fun h => ⟨⟨by omega, by omega⟩, by omega, by omega, ?_, fun y e2 => ⟨⟨by omega, by omega⟩, ?_⟩⟩⟩
    · rw [e]; exact ⟨by omega, by omega⟩
    · rw [e2, e, ← w_cs1]; exact ih
noncomputable def p_Model_nearest (f : Int) (σ : w_M) : Prop := m_ok σ 124 0 ∧ 0 ≤ f ∧ f ≤ 7
noncomputable def v_Model_nearest (f : Int) (σ : w_M) : Int := n_near (w_am σ 124 0) f
theorem fModel_nearest_0 : w_fe am_c198 0 1 (.bipush (-4)) := ⟨rfl, rfl⟩
theorem fModel_nearest_1 : w_fe am_c198 1 2 (.istore 2) := ⟨rfl, rfl⟩
theorem fModel_nearest_2 : w_fe am_c198 2 3 (.bipush 1000000) := ⟨rfl, rfl⟩
theorem fModel_nearest_3 : w_fe am_c198 3 4 (.istore 3) := ⟨rfl, rfl⟩
theorem fModel_nearest_4 : w_fe am_c198 4 5 (.bipush 0) := ⟨rfl, rfl⟩
theorem fModel_nearest_5 : w_fe am_c198 5 6 (.istore 4) := ⟨rfl, rfl⟩
theorem fModel_nearest_6 : w_fe am_c198 6 7 (.iload 4) := ⟨rfl, rfl⟩
theorem fModel_nearest_7 : w_fe am_c198 7 8 (.aload 0) := ⟨rfl, rfl⟩
theorem fModel_nearest_8 : w_fe am_c198 8 9 (.getfield 904) := ⟨rfl, rfl⟩
theorem fModel_nearest_9 : w_ic am_c198 9 10 .ge 49 := ⟨rfl, rfl⟩
theorem fModel_nearest_10 : w_fe am_c198 10 11 (.iload 4) := ⟨rfl, rfl⟩
theorem fModel_nearest_11 : w_fe am_c198 11 12 (.iload 1) := ⟨rfl, rfl⟩
theorem fModel_nearest_12 : w_ic am_c198 12 13 .ge 17 := ⟨rfl, rfl⟩
theorem fModel_nearest_13 : w_fe am_c198 13 14 (.iload 1) := ⟨rfl, rfl⟩
theorem fModel_nearest_14 : w_fe am_c198 14 15 (.iload 4) := ⟨rfl, rfl⟩
theorem fModel_nearest_15 : w_fe am_c198 15 16 (.isub) := ⟨rfl, rfl⟩
theorem fModel_nearest_16 : w_gt am_c198 16 20 := rfl
theorem fModel_nearest_17 : w_fe am_c198 17 18 (.iload 4) := ⟨rfl, rfl⟩
theorem fModel_nearest_18 : w_fe am_c198 18 19 (.iload 1) := ⟨rfl, rfl⟩
theorem fModel_nearest_19 : w_fe am_c198 19 20 (.isub) := ⟨rfl, rfl⟩
theorem fModel_nearest_20 : w_fe am_c198 20 21 (.istore 5) := ⟨rfl, rfl⟩
theorem fModel_nearest_21 : w_fe am_c198 21 22 (.aload 0) := ⟨rfl, rfl⟩
theorem fModel_nearest_22 : w_fe am_c198 22 23 (.getfield 901) := ⟨rfl, rfl⟩
theorem fModel_nearest_23 : w_fe am_c198 23 24 (.bipush 0) := ⟨rfl, rfl⟩
theorem fModel_nearest_24 : w_fe am_c198 24 25 (.iload 4) := ⟨rfl, rfl⟩
theorem fModel_nearest_25 : w_fe am_c198 25 26 (.iadd) := ⟨rfl, rfl⟩
theorem fModel_nearest_26 : w_fe am_c198 26 27 (.iaload) := ⟨rfl, rfl⟩
theorem fModel_nearest_27 : w_if am_c198 27 28 .le 33 := ⟨rfl, rfl⟩
theorem fModel_nearest_28 : w_fe am_c198 28 29 (.iload 5) := ⟨rfl, rfl⟩
theorem fModel_nearest_29 : w_fe am_c198 29 30 (.iload 3) := ⟨rfl, rfl⟩
theorem fModel_nearest_30 : w_ic am_c198 30 31 .ge 33 := ⟨rfl, rfl⟩
theorem fModel_nearest_31 : w_fe am_c198 31 32 (.bipush 1) := ⟨rfl, rfl⟩
theorem fModel_nearest_32 : w_gt am_c198 32 34 := rfl
theorem fModel_nearest_33 : w_fe am_c198 33 34 (.bipush 0) := ⟨rfl, rfl⟩
theorem fModel_nearest_34 : w_fe am_c198 34 35 (.istore 6) := ⟨rfl, rfl⟩
theorem fModel_nearest_35 : w_fe am_c198 35 36 (.iload 6) := ⟨rfl, rfl⟩
theorem fModel_nearest_36 : w_if am_c198 36 37 .eq 39 := ⟨rfl, rfl⟩
theorem fModel_nearest_37 : w_fe am_c198 37 38 (.iload 4) := ⟨rfl, rfl⟩
theorem fModel_nearest_38 : w_gt am_c198 38 40 := rfl
theorem fModel_nearest_39 : w_fe am_c198 39 40 (.iload 2) := ⟨rfl, rfl⟩
theorem fModel_nearest_40 : w_fe am_c198 40 41 (.istore 2) := ⟨rfl, rfl⟩
theorem fModel_nearest_41 : w_fe am_c198 41 42 (.iload 6) := ⟨rfl, rfl⟩
theorem fModel_nearest_42 : w_if am_c198 42 43 .eq 45 := ⟨rfl, rfl⟩
theorem fModel_nearest_43 : w_fe am_c198 43 44 (.iload 5) := ⟨rfl, rfl⟩
theorem fModel_nearest_44 : w_gt am_c198 44 46 := rfl
theorem fModel_nearest_45 : w_fe am_c198 45 46 (.iload 3) := ⟨rfl, rfl⟩
theorem fModel_nearest_46 : w_fe am_c198 46 47 (.istore 3) := ⟨rfl, rfl⟩
theorem fModel_nearest_47 : w_fe am_c198 47 48 (.iinc 4 1) := ⟨rfl, rfl⟩
theorem fModel_nearest_48 : w_gt am_c198 48 6 := rfl
theorem fModel_nearest_49 : w_fe am_c198 49 50 (.iload 2) := ⟨rfl, rfl⟩
theorem fModel_nearest_50 : w_fe am_c198 50 51 (.ireturn) := ⟨rfl, rfl⟩
noncomputable def LModel_nearest_6 (xs : List Int) (d : Nat) (Q : Option w_V → w_M → Prop) (v1 : Int) (v2 : Int) (v3 : Int) (v4 : Int) (σ : w_M) : Prop := ∀ l5, w_nl l5 → ∀ l6, w_nl l6 → w_Ex (xs, d) 1 am_c198 Q 6 [some (.inr (.inr (9, 122))), some (.inl v1), some (.inl v2), some (.inl v3), some (.inl v4), l5, l6] [] σ
set_option maxRecDepth 20000 in
theorem bModel_nearest_0 {xs : List Int} {d : Nat} {Q : Option w_V → w_M → Prop} {x1 : Int} {σ : w_M}
    (h : LModel_nearest_6 xs d Q x1 (-4) 1000000 0 σ) : w_Call (xs, d) 198 [.inr (.inr (9, 122)), .inl x1] σ Q :=
  (w_mk (mid := 198) (by decide) rfl rfl rfl rfl rfl (Nat.le_of_ble_eq_true rfl) ⟨rfl, Or.inl (by decide)⟩ (wi_bipush fModel_nearest_0 (wi_istore2 fModel_nearest_1 trivial (wi_bipush fModel_nearest_2 (wi_istore3 fModel_nearest_3 trivial (wi_bipush fModel_nearest_4 (wi_istore4 fModel_nearest_5 trivial (h _ (by exact trivial) _ (by exact trivial)))))))))
set_option maxRecDepth 20000 in
theorem bModel_nearest_6 {xs : List Int} {d : Nat} {Q : Option w_V → w_M → Prop} {v1 : Int} {v2 : Int} {v3 : Int} {v4 : Int} {σ : w_M}
    (h : ((σ 122 4) ≤ v4 → Q (some (.inl v2)) σ) ∧ (v4 < (σ 122 4) → ((v1 ≤ v4 → (w_in (v4 - v1) ∧ (∀ (y1 : Int), y1 = (v4 - v1) → (w_in (0 + v4) ∧ 0 ≤ (0 + v4) ∧ (0 + v4) < 82 ∧ (((σ 124 (0 + v4).toNat) ≤ 0 → (w_in (v4 + 1) ∧ LModel_nearest_6 xs d Q v1 v2 v3 (v4 + 1) σ)) ∧ (0 < (σ 124 (0 + v4).toNat) → ((v3 ≤ y1 → (w_in (v4 + 1) ∧ LModel_nearest_6 xs d Q v1 v2 v3 (v4 + 1) σ)) ∧ (y1 < v3 → (w_in (v4 + 1) ∧ LModel_nearest_6 xs d Q v1 v4 y1 (v4 + 1) σ))))))))) ∧ (v4 < v1 → (w_in (v1 - v4) ∧ (∀ (y4 : Int), y4 = (v1 - v4) → (w_in (0 + v4) ∧ 0 ≤ (0 + v4) ∧ (0 + v4) < 82 ∧ (((σ 124 (0 + v4).toNat) ≤ 0 → (w_in (v4 + 1) ∧ LModel_nearest_6 xs d Q v1 v2 v3 (v4 + 1) σ)) ∧ (0 < (σ 124 (0 + v4).toNat) → ((v3 ≤ y4 → (w_in (v4 + 1) ∧ LModel_nearest_6 xs d Q v1 v2 v3 (v4 + 1) σ)) ∧ (y4 < v3 → (w_in (v4 + 1) ∧ LModel_nearest_6 xs d Q v1 v4 y4 (v4 + 1) σ)))))))))))) : LModel_nearest_6 xs d Q v1 v2 v3 v4 σ :=
  fun l5 nl5 => fun l6 nl6 => (wi_iload4 fModel_nearest_6 (wi_aload0 fModel_nearest_7 (wi_getf904 fModel_nearest_8 (wi_ic_ge fModel_nearest_9 (fun c8 => (wi_iload2 fModel_nearest_49 (wi_ret1 fModel_nearest_50 (h.1 c8)))) (fun c8 => (wi_iload4 fModel_nearest_10 (wi_iload1 fModel_nearest_11 (wi_ic_ge fModel_nearest_12 (fun c7 => (wi_iload4 fModel_nearest_17 (wi_iload1 fModel_nearest_18 (wi_isub fModel_nearest_19 ((h.2 c8).1 c7).1 (wi_istore5 fModel_nearest_20 trivial (wi_aload0 fModel_nearest_21 (wi_getf901 fModel_nearest_22 (wi_bipush fModel_nearest_23 (wi_iload4 fModel_nearest_24 (wi_iadd fModel_nearest_25 (((h.2 c8).1 c7).2 _ rfl).1 (wi_iald1082 fModel_nearest_26 (((h.2 c8).1 c7).2 _ rfl).2.1 (((h.2 c8).1 c7).2 _ rfl).2.2.1 (wi_if_le fModel_nearest_27 (fun c3 => (wi_bipush fModel_nearest_33 (wi_istore6 fModel_nearest_34 trivial (wi_iload6 fModel_nearest_35 (wi_if_eq fModel_nearest_36 (fun _ => (wi_iload2 fModel_nearest_39 (wi_istore2 fModel_nearest_40 trivial (wi_iload6 fModel_nearest_41 (wi_if_eq fModel_nearest_42 (fun _ => (wi_iload3 fModel_nearest_45 (wi_istore3 fModel_nearest_46 trivial (wi_iinc4 fModel_nearest_47 trivial ((((h.2 c8).1 c7).2 _ rfl).2.2.2.1 c3).1 (wi_goto fModel_nearest_48 (((((h.2 c8).1 c7).2 _ rfl).2.2.2.1 c3).2 _ (by exact trivial) _ (by exact trivial))))))) (fun e => absurd e (by decide))))))) (fun e => absurd e (by decide))))))) (fun c3 => (wi_iload5 fModel_nearest_28 (wi_iload3 fModel_nearest_29 (wi_ic_ge fModel_nearest_30 (fun c2 => (wi_bipush fModel_nearest_33 (wi_istore6 fModel_nearest_34 trivial (wi_iload6 fModel_nearest_35 (wi_if_eq fModel_nearest_36 (fun _ => (wi_iload2 fModel_nearest_39 (wi_istore2 fModel_nearest_40 trivial (wi_iload6 fModel_nearest_41 (wi_if_eq fModel_nearest_42 (fun _ => (wi_iload3 fModel_nearest_45 (wi_istore3 fModel_nearest_46 trivial (wi_iinc4 fModel_nearest_47 trivial (((((h.2 c8).1 c7).2 _ rfl).2.2.2.2 c3).1 c2).1 (wi_goto fModel_nearest_48 ((((((h.2 c8).1 c7).2 _ rfl).2.2.2.2 c3).1 c2).2 _ (by exact trivial) _ (by exact trivial))))))) (fun e => absurd e (by decide))))))) (fun e => absurd e (by decide))))))) (fun c2 => (wi_bipush fModel_nearest_31 (wi_goto fModel_nearest_32 (wi_istore6 fModel_nearest_34 trivial (wi_iload6 fModel_nearest_35 (wi_if_eq fModel_nearest_36 (fun e => absurd e (by decide)) (fun _ => (wi_iload4 fModel_nearest_37 (wi_goto fModel_nearest_38 (wi_istore2 fModel_nearest_40 trivial (wi_iload6 fModel_nearest_41 (wi_if_eq fModel_nearest_42 (fun e => absurd e (by decide)) (fun _ => (wi_iload5 fModel_nearest_43 (wi_goto fModel_nearest_44 (wi_istore3 fModel_nearest_46 trivial (wi_iinc4 fModel_nearest_47 trivial (((((h.2 c8).1 c7).2 _ rfl).2.2.2.2 c3).2 c2).1 (wi_goto fModel_nearest_48 ((((((h.2 c8).1 c7).2 _ rfl).2.2.2.2 c3).2 c2).2 _ (by exact trivial) _ (by exact trivial)))))))))))))))))))))))))))))))))))) (fun c7 => (wi_iload1 fModel_nearest_13 (wi_iload4 fModel_nearest_14 (wi_isub fModel_nearest_15 ((h.2 c8).2 c7).1 (wi_goto fModel_nearest_16 (wi_istore5 fModel_nearest_20 trivial (wi_aload0 fModel_nearest_21 (wi_getf901 fModel_nearest_22 (wi_bipush fModel_nearest_23 (wi_iload4 fModel_nearest_24 (wi_iadd fModel_nearest_25 (((h.2 c8).2 c7).2 _ rfl).1 (wi_iald1082 fModel_nearest_26 (((h.2 c8).2 c7).2 _ rfl).2.1 (((h.2 c8).2 c7).2 _ rfl).2.2.1 (wi_if_le fModel_nearest_27 (fun c6 => (wi_bipush fModel_nearest_33 (wi_istore6 fModel_nearest_34 trivial (wi_iload6 fModel_nearest_35 (wi_if_eq fModel_nearest_36 (fun _ => (wi_iload2 fModel_nearest_39 (wi_istore2 fModel_nearest_40 trivial (wi_iload6 fModel_nearest_41 (wi_if_eq fModel_nearest_42 (fun _ => (wi_iload3 fModel_nearest_45 (wi_istore3 fModel_nearest_46 trivial (wi_iinc4 fModel_nearest_47 trivial ((((h.2 c8).2 c7).2 _ rfl).2.2.2.1 c6).1 (wi_goto fModel_nearest_48 (((((h.2 c8).2 c7).2 _ rfl).2.2.2.1 c6).2 _ (by exact trivial) _ (by exact trivial))))))) (fun e => absurd e (by decide))))))) (fun e => absurd e (by decide))))))) (fun c6 => (wi_iload5 fModel_nearest_28 (wi_iload3 fModel_nearest_29 (wi_ic_ge fModel_nearest_30 (fun c5 => (wi_bipush fModel_nearest_33 (wi_istore6 fModel_nearest_34 trivial (wi_iload6 fModel_nearest_35 (wi_if_eq fModel_nearest_36 (fun _ => (wi_iload2 fModel_nearest_39 (wi_istore2 fModel_nearest_40 trivial (wi_iload6 fModel_nearest_41 (wi_if_eq fModel_nearest_42 (fun _ => (wi_iload3 fModel_nearest_45 (wi_istore3 fModel_nearest_46 trivial (wi_iinc4 fModel_nearest_47 trivial (((((h.2 c8).2 c7).2 _ rfl).2.2.2.2 c6).1 c5).1 (wi_goto fModel_nearest_48 ((((((h.2 c8).2 c7).2 _ rfl).2.2.2.2 c6).1 c5).2 _ (by exact trivial) _ (by exact trivial))))))) (fun e => absurd e (by decide))))))) (fun e => absurd e (by decide))))))) (fun c5 => (wi_bipush fModel_nearest_31 (wi_goto fModel_nearest_32 (wi_istore6 fModel_nearest_34 trivial (wi_iload6 fModel_nearest_35 (wi_if_eq fModel_nearest_36 (fun e => absurd e (by decide)) (fun _ => (wi_iload4 fModel_nearest_37 (wi_goto fModel_nearest_38 (wi_istore2 fModel_nearest_40 trivial (wi_iload6 fModel_nearest_41 (wi_if_eq fModel_nearest_42 (fun e => absurd e (by decide)) (fun _ => (wi_iload5 fModel_nearest_43 (wi_goto fModel_nearest_44 (wi_istore3 fModel_nearest_46 trivial (wi_iinc4 fModel_nearest_47 trivial (((((h.2 c8).2 c7).2 _ rfl).2.2.2.2 c6).2 c5).1 (wi_goto fModel_nearest_48 ((((((h.2 c8).2 c7).2 _ rfl).2.2.2.2 c6).2 c5).2 _ (by exact trivial) _ (by exact trivial)))))))))))))))))))))))))))))))))))))))))))))
theorem k_Model_nearest {xs : List Int} {d : Nat} {Q : Option w_V → w_M → Prop} {x1 : Int} {σ : w_M} (hp : p_Model_nearest x1 σ) (hQ : Q (some (.inl (v_Model_nearest x1 σ))) σ) : w_Call (xs, d) 198 [.inr (.inr (9, 122)), .inl x1] σ Q := by
  obtain ⟨hok, f0, f1⟩ := hp
  have hs := m_ok.s hok
  refine bModel_nearest_0 ?_
  refine w_loop (n := (σ 122 4).toNat) (P := fun k => LModel_nearest_6 xs d Q x1 (n_nearF (w_am σ 124 0) x1 k).1 (n_nearF (w_am σ 124 0) x1 k).2 (k : Int) σ) ?_ ?_
  · exact bModel_nearest_6 ⟨fun _ => hQ, fun h => by omega⟩
  · intro k hk ih
    have e : σ 124 ((0 : Int) + (k : Int)).toNat = w_am σ 124 0 1 k := m_rd (by decide) (by rw [m_rl12 (by decide) (by decide)]; exact hk) (by show _ = 0 + k; omega)
    simp only [n_nearF] at ih
    rw [w_cs1] at ih
    refine bModel_nearest_6 ⟨fun h => by omega, fun h => ⟨fun c => ⟨⟨by omega, by omega⟩, fun y ey => ⟨⟨by omega, by omega⟩, by omega, by omega, ?_⟩⟩, fun c => ⟨⟨by omega, by omega⟩, fun y ey => ⟨⟨by omega, by omega⟩, by omega, by omega, ?_⟩⟩⟩⟩
    · rw [if_neg (show ¬ (k : Int) < x1 by omega), ← ey] at ih
      rw [e]
      refine ⟨fun c2 => ⟨⟨by omega, by omega⟩, ?_⟩, fun c2 => ⟨fun c3 => ⟨⟨by omega, by omega⟩, ?_⟩, fun c3 => ⟨⟨by omega, by omega⟩, ?_⟩⟩⟩
      · rw [if_neg (by omega)] at ih; exact ih
      · rw [if_neg (by omega)] at ih; exact ih
      · rw [if_pos ⟨c2, c3⟩] at ih; exact ih
    · rw [if_pos (show (k : Int) < x1 by omega), ← ey] at ih
      rw [e]
      refine ⟨fun c2 => ⟨⟨by omega, by omega⟩, ?_⟩, fun c2 => ⟨fun c3 => ⟨⟨by omega, by omega⟩, ?_⟩, fun c3 => ⟨⟨by omega, by omega⟩, ?_⟩⟩⟩
      · rw [if_neg (by omega)] at ih; exact ih
      · rw [if_neg (by omega)] at ih; exact ih
      · rw [if_pos ⟨c2, c3⟩] at ih; exact ih
noncomputable def m_cut (A : w_M) (r : Nat) (c : Int) : w_M := n_cut (w_up (w_up A 5 r (A 5 r - 1)) 4 r (A 4 r - c)) r (A 6 r).toNat
noncomputable def p_Model_cuts (r c : Int) (σ : w_M) : Prop := m_ok σ 124 0 ∧ (0 ≤ r ∧ r < σ 122 5) ∧ (c = 0 ∨ c = 1)
noncomputable def q_Model_cuts (r c : Int) (σ σ' : w_M) : Prop := w_am σ' 124 0 = m_cut (w_am σ 124 0) r.toNat c ∧ w_g1 σ σ'
noncomputable def w_c200 : List Instr := [.aload 0, .iload 1, .bipush 3, .invokestatic 178, .istore 3, .aload 0, .getfield 901, .bipush 14, .iload 3, .iadd, .iaload, .bipush 1, .if_icmp .ne 22, .aload 0, .iload 1, .bipush 0, .invokestatic 178, .bipush 1, .iadd, .bipush 2, .idiv, .goto 26, .aload 0, .iload 1, .bipush 0, .invokestatic 178, .istore 4, .iload 4, .aload 0, .getfield 901, .bipush 0, .iload 3, .iadd, .iaload, .if_icmp .ge 37, .iload 4, .goto 43, .aload 0, .getfield 901, .bipush 0, .iload 3, .iadd, .iaload, .istore 5, .aload 0, .getfield 901, .bipush 0, .iload 3, .iadd, .dup2, .iaload, .iload 5, .isub, .iastore, .aload 0, .iload 1, .bipush 4, .aload 0, .iload 1, .bipush 4, .invokestatic 178, .iload 5, .fadd, .invokestatic 199, .aload 0, .getfield 901, .bipush 43, .aload 0, .getfield 901, .bipush 7, .iload 3, .iadd, .iaload, .iadd, .dup2, .iaload, .iload 5, .fadd, .iastore, .aload 0, .getfield 901, .bipush 47, .iload 1, .iastore, .aload 0, .iload 1, .bipush 2, .aload 0, .iload 1, .bipush 2, .invokestatic 178, .bipush 1, .isub, .invokestatic 199, .aload 0, .iload 1, .bipush 1, .aload 0, .iload 1, .bipush 1, .invokestatic 178, .iload 2, .invokestatic 179, .isub, .invokestatic 199, .return_]
theorem fModel_cuts_0 : w_fe w_c200 0 1 (.aload 0) := ⟨rfl, rfl⟩
theorem fModel_cuts_1 : w_fe w_c200 1 2 (.iload 1) := ⟨rfl, rfl⟩
theorem fModel_cuts_2 : w_fe w_c200 2 3 (.bipush 3) := ⟨rfl, rfl⟩
theorem fModel_cuts_3 : w_fe w_c200 3 4 (.invokestatic 178) := ⟨rfl, rfl⟩
theorem fModel_cuts_4 : w_fe w_c200 4 5 (.istore 3) := ⟨rfl, rfl⟩
theorem fModel_cuts_5 : w_fe w_c200 5 6 (.aload 0) := ⟨rfl, rfl⟩
theorem fModel_cuts_6 : w_fe w_c200 6 7 (.getfield 901) := ⟨rfl, rfl⟩
theorem fModel_cuts_7 : w_fe w_c200 7 8 (.bipush 14) := ⟨rfl, rfl⟩
theorem fModel_cuts_8 : w_fe w_c200 8 9 (.iload 3) := ⟨rfl, rfl⟩
theorem fModel_cuts_9 : w_fe w_c200 9 10 (.iadd) := ⟨rfl, rfl⟩
theorem fModel_cuts_10 : w_fe w_c200 10 11 (.iaload) := ⟨rfl, rfl⟩
theorem fModel_cuts_11 : w_fe w_c200 11 12 (.bipush 1) := ⟨rfl, rfl⟩
theorem fModel_cuts_12 : w_ic w_c200 12 13 .ne 22 := ⟨rfl, rfl⟩
theorem fModel_cuts_13 : w_fe w_c200 13 14 (.aload 0) := ⟨rfl, rfl⟩
theorem fModel_cuts_14 : w_fe w_c200 14 15 (.iload 1) := ⟨rfl, rfl⟩
theorem fModel_cuts_15 : w_fe w_c200 15 16 (.bipush 0) := ⟨rfl, rfl⟩
theorem fModel_cuts_16 : w_fe w_c200 16 17 (.invokestatic 178) := ⟨rfl, rfl⟩
theorem fModel_cuts_17 : w_fe w_c200 17 18 (.bipush 1) := ⟨rfl, rfl⟩
theorem fModel_cuts_18 : w_fe w_c200 18 19 (.iadd) := ⟨rfl, rfl⟩
theorem fModel_cuts_19 : w_fe w_c200 19 20 (.bipush 2) := ⟨rfl, rfl⟩
theorem fModel_cuts_20 : w_fe w_c200 20 21 (.idiv) := ⟨rfl, rfl⟩
theorem fModel_cuts_21 : w_gt w_c200 21 26 := rfl
theorem fModel_cuts_22 : w_fe w_c200 22 23 (.aload 0) := ⟨rfl, rfl⟩
theorem fModel_cuts_23 : w_fe w_c200 23 24 (.iload 1) := ⟨rfl, rfl⟩
theorem fModel_cuts_24 : w_fe w_c200 24 25 (.bipush 0) := ⟨rfl, rfl⟩
theorem fModel_cuts_25 : w_fe w_c200 25 26 (.invokestatic 178) := ⟨rfl, rfl⟩
theorem fModel_cuts_26 : w_fe w_c200 26 27 (.istore 4) := ⟨rfl, rfl⟩
theorem fModel_cuts_27 : w_fe w_c200 27 28 (.iload 4) := ⟨rfl, rfl⟩
theorem fModel_cuts_28 : w_fe w_c200 28 29 (.aload 0) := ⟨rfl, rfl⟩
theorem fModel_cuts_29 : w_fe w_c200 29 30 (.getfield 901) := ⟨rfl, rfl⟩
theorem fModel_cuts_30 : w_fe w_c200 30 31 (.bipush 0) := ⟨rfl, rfl⟩
theorem fModel_cuts_31 : w_fe w_c200 31 32 (.iload 3) := ⟨rfl, rfl⟩
theorem fModel_cuts_32 : w_fe w_c200 32 33 (.iadd) := ⟨rfl, rfl⟩
theorem fModel_cuts_33 : w_fe w_c200 33 34 (.iaload) := ⟨rfl, rfl⟩
theorem fModel_cuts_34 : w_ic w_c200 34 35 .ge 37 := ⟨rfl, rfl⟩
theorem fModel_cuts_35 : w_fe w_c200 35 36 (.iload 4) := ⟨rfl, rfl⟩
theorem fModel_cuts_36 : w_gt w_c200 36 43 := rfl
theorem fModel_cuts_37 : w_fe w_c200 37 38 (.aload 0) := ⟨rfl, rfl⟩
theorem fModel_cuts_38 : w_fe w_c200 38 39 (.getfield 901) := ⟨rfl, rfl⟩
theorem fModel_cuts_39 : w_fe w_c200 39 40 (.bipush 0) := ⟨rfl, rfl⟩
theorem fModel_cuts_40 : w_fe w_c200 40 41 (.iload 3) := ⟨rfl, rfl⟩
theorem fModel_cuts_41 : w_fe w_c200 41 42 (.iadd) := ⟨rfl, rfl⟩
theorem fModel_cuts_42 : w_fe w_c200 42 43 (.iaload) := ⟨rfl, rfl⟩
theorem fModel_cuts_43 : w_fe w_c200 43 44 (.istore 5) := ⟨rfl, rfl⟩
theorem fModel_cuts_44 : w_fe w_c200 44 45 (.aload 0) := ⟨rfl, rfl⟩
theorem fModel_cuts_45 : w_fe w_c200 45 46 (.getfield 901) := ⟨rfl, rfl⟩
theorem fModel_cuts_46 : w_fe w_c200 46 47 (.bipush 0) := ⟨rfl, rfl⟩
theorem fModel_cuts_47 : w_fe w_c200 47 48 (.iload 3) := ⟨rfl, rfl⟩
theorem fModel_cuts_48 : w_fe w_c200 48 49 (.iadd) := ⟨rfl, rfl⟩
theorem fModel_cuts_49 : w_fe w_c200 49 50 (.dup2) := ⟨rfl, rfl⟩
theorem fModel_cuts_50 : w_fe w_c200 50 51 (.iaload) := ⟨rfl, rfl⟩
theorem fModel_cuts_51 : w_fe w_c200 51 52 (.iload 5) := ⟨rfl, rfl⟩
theorem fModel_cuts_52 : w_fe w_c200 52 53 (.isub) := ⟨rfl, rfl⟩
theorem fModel_cuts_53 : w_fe w_c200 53 54 (.iastore) := ⟨rfl, rfl⟩
theorem fModel_cuts_54 : w_fe w_c200 54 55 (.aload 0) := ⟨rfl, rfl⟩
theorem fModel_cuts_55 : w_fe w_c200 55 56 (.iload 1) := ⟨rfl, rfl⟩
theorem fModel_cuts_56 : w_fe w_c200 56 57 (.bipush 4) := ⟨rfl, rfl⟩
theorem fModel_cuts_57 : w_fe w_c200 57 58 (.aload 0) := ⟨rfl, rfl⟩
theorem fModel_cuts_58 : w_fe w_c200 58 59 (.iload 1) := ⟨rfl, rfl⟩
theorem fModel_cuts_59 : w_fe w_c200 59 60 (.bipush 4) := ⟨rfl, rfl⟩
theorem fModel_cuts_60 : w_fe w_c200 60 61 (.invokestatic 178) := ⟨rfl, rfl⟩
theorem fModel_cuts_61 : w_fe w_c200 61 62 (.iload 5) := ⟨rfl, rfl⟩
theorem fModel_cuts_62 : w_fe w_c200 62 63 (.fadd) := ⟨rfl, rfl⟩
theorem fModel_cuts_63 : w_fe w_c200 63 64 (.invokestatic 199) := ⟨rfl, rfl⟩
theorem fModel_cuts_64 : w_fe w_c200 64 65 (.aload 0) := ⟨rfl, rfl⟩
theorem fModel_cuts_65 : w_fe w_c200 65 66 (.getfield 901) := ⟨rfl, rfl⟩
theorem fModel_cuts_66 : w_fe w_c200 66 67 (.bipush 43) := ⟨rfl, rfl⟩
theorem fModel_cuts_67 : w_fe w_c200 67 68 (.aload 0) := ⟨rfl, rfl⟩
theorem fModel_cuts_68 : w_fe w_c200 68 69 (.getfield 901) := ⟨rfl, rfl⟩
theorem fModel_cuts_69 : w_fe w_c200 69 70 (.bipush 7) := ⟨rfl, rfl⟩
theorem fModel_cuts_70 : w_fe w_c200 70 71 (.iload 3) := ⟨rfl, rfl⟩
theorem fModel_cuts_71 : w_fe w_c200 71 72 (.iadd) := ⟨rfl, rfl⟩
theorem fModel_cuts_72 : w_fe w_c200 72 73 (.iaload) := ⟨rfl, rfl⟩
theorem fModel_cuts_73 : w_fe w_c200 73 74 (.iadd) := ⟨rfl, rfl⟩
theorem fModel_cuts_74 : w_fe w_c200 74 75 (.dup2) := ⟨rfl, rfl⟩
theorem fModel_cuts_75 : w_fe w_c200 75 76 (.iaload) := ⟨rfl, rfl⟩
theorem fModel_cuts_76 : w_fe w_c200 76 77 (.iload 5) := ⟨rfl, rfl⟩
theorem fModel_cuts_77 : w_fe w_c200 77 78 (.fadd) := ⟨rfl, rfl⟩
theorem fModel_cuts_78 : w_fe w_c200 78 79 (.iastore) := ⟨rfl, rfl⟩
theorem fModel_cuts_79 : w_fe w_c200 79 80 (.aload 0) := ⟨rfl, rfl⟩
theorem fModel_cuts_80 : w_fe w_c200 80 81 (.getfield 901) := ⟨rfl, rfl⟩
theorem fModel_cuts_81 : w_fe w_c200 81 82 (.bipush 47) := ⟨rfl, rfl⟩
theorem fModel_cuts_82 : w_fe w_c200 82 83 (.iload 1) := ⟨rfl, rfl⟩
theorem fModel_cuts_83 : w_fe w_c200 83 84 (.iastore) := ⟨rfl, rfl⟩
theorem fModel_cuts_84 : w_fe w_c200 84 85 (.aload 0) := ⟨rfl, rfl⟩
theorem fModel_cuts_85 : w_fe w_c200 85 86 (.iload 1) := ⟨rfl, rfl⟩
theorem fModel_cuts_86 : w_fe w_c200 86 87 (.bipush 2) := ⟨rfl, rfl⟩
theorem fModel_cuts_87 : w_fe w_c200 87 88 (.aload 0) := ⟨rfl, rfl⟩
theorem fModel_cuts_88 : w_fe w_c200 88 89 (.iload 1) := ⟨rfl, rfl⟩
theorem fModel_cuts_89 : w_fe w_c200 89 90 (.bipush 2) := ⟨rfl, rfl⟩
theorem fModel_cuts_90 : w_fe w_c200 90 91 (.invokestatic 178) := ⟨rfl, rfl⟩
theorem fModel_cuts_91 : w_fe w_c200 91 92 (.bipush 1) := ⟨rfl, rfl⟩
theorem fModel_cuts_92 : w_fe w_c200 92 93 (.isub) := ⟨rfl, rfl⟩
theorem fModel_cuts_93 : w_fe w_c200 93 94 (.invokestatic 199) := ⟨rfl, rfl⟩
theorem fModel_cuts_94 : w_fe w_c200 94 95 (.aload 0) := ⟨rfl, rfl⟩
theorem fModel_cuts_95 : w_fe w_c200 95 96 (.iload 1) := ⟨rfl, rfl⟩
theorem fModel_cuts_96 : w_fe w_c200 96 97 (.bipush 1) := ⟨rfl, rfl⟩
theorem fModel_cuts_97 : w_fe w_c200 97 98 (.aload 0) := ⟨rfl, rfl⟩
theorem fModel_cuts_98 : w_fe w_c200 98 99 (.iload 1) := ⟨rfl, rfl⟩
theorem fModel_cuts_99 : w_fe w_c200 99 100 (.bipush 1) := ⟨rfl, rfl⟩
theorem fModel_cuts_100 : w_fe w_c200 100 101 (.invokestatic 178) := ⟨rfl, rfl⟩
theorem fModel_cuts_101 : w_fe w_c200 101 102 (.iload 2) := ⟨rfl, rfl⟩
theorem fModel_cuts_102 : w_fe w_c200 102 103 (.invokestatic 179) := ⟨rfl, rfl⟩
theorem fModel_cuts_103 : w_fe w_c200 103 104 (.isub) := ⟨rfl, rfl⟩
theorem fModel_cuts_104 : w_fe w_c200 104 105 (.invokestatic 199) := ⟨rfl, rfl⟩
theorem fModel_cuts_105 : w_fe w_c200 105 106 (.return_) := ⟨rfl, rfl⟩
noncomputable def LModel_cuts_27 (xs : List Int) (d : Nat) (Q : Option w_V → w_M → Prop) (v1 : Int) (v2 : Int) (v3 : Int) (v4 : Int) (σ : w_M) : Prop := ∀ l5, w_nl l5 → w_Ex (xs, d) 0 w_c200 Q 27 [some (.inr (.inr (9, 122))), some (.inl v1), some (.inl v2), some (.inl v3), some (.inl v4), l5] [] σ
noncomputable def LModel_cuts_44 (xs : List Int) (d : Nat) (Q : Option w_V → w_M → Prop) (v1 : Int) (v2 : Int) (v3 : Int) (v5 : Int) (σ : w_M) : Prop := ∀ l4, w_nl l4 → w_Ex (xs, d) 0 w_c200 Q 44 [some (.inr (.inr (9, 122))), some (.inl v1), some (.inl v2), some (.inl v3), l4, some (.inl v5)] [] σ
set_option maxRecDepth 20000 in
theorem bModel_cuts_0 {xs : List Int} {d : Nat} {Q : Option w_V → w_M → Prop} {x1 : Int} {x2 : Int} {σ : w_M}
    (h : p_Model_of x1 3 σ ∧ (∀ (y1 : Int), y1 = (σ 124 (21 + 5 * x1 + 3).toNat) → (w_in (14 + y1) ∧ 0 ≤ (14 + y1) ∧ (14 + y1) < 82 ∧ ((¬ (σ 124 (14 + y1).toNat) = 1 → (p_Model_of x1 0 σ ∧ (∀ (y2 : Int), y2 = (σ 124 (21 + 5 * x1 + 0).toNat) → LModel_cuts_27 xs (d + 1) Q x1 x2 y1 y2 σ))) ∧ ((σ 124 (14 + y1).toNat) = 1 → (p_Model_of x1 0 σ ∧ w_in ((σ 124 (21 + 5 * x1 + 0).toNat) + 1) ∧ w_in (((σ 124 (21 + 5 * x1 + 0).toNat) + 1).tdiv 2) ∧ (∀ (y3 : Int), y3 = (((σ 124 (21 + 5 * x1 + 0).toNat) + 1).tdiv 2) → LModel_cuts_27 xs (d + 1) Q x1 x2 y1 y3 σ))))))) : w_Call (xs, (d + 1)) 200 [.inr (.inr (9, 122)), .inl x1, .inl x2] σ Q :=
  (w_mk (mid := 200) (by decide) rfl rfl rfl rfl rfl (Nat.le_of_ble_eq_true rfl) ⟨rfl, Or.inl (by decide)⟩ (wi_aload0 fModel_cuts_0 (wi_iload1 fModel_cuts_1 (wi_bipush fModel_cuts_2 (wi_call3 fModel_cuts_3 (Nat.le_of_ble_eq_true rfl) (k_Model_of h.1 (wi_istore3 fModel_cuts_4 trivial (wi_aload0 fModel_cuts_5 (wi_getf901 fModel_cuts_6 (wi_bipush fModel_cuts_7 (wi_iload3 fModel_cuts_8 (wi_iadd fModel_cuts_9 (h.2 _ rfl).1 (wi_iald1082 fModel_cuts_10 (h.2 _ rfl).2.1 (h.2 _ rfl).2.2.1 (wi_bipush fModel_cuts_11 (wi_ic_ne fModel_cuts_12 (fun c4 => (wi_aload0 fModel_cuts_22 (wi_iload1 fModel_cuts_23 (wi_bipush fModel_cuts_24 (wi_call3 fModel_cuts_25 (Nat.le_of_ble_eq_true rfl) (k_Model_of ((h.2 _ rfl).2.2.2.1 c4).1 (wi_istore4 fModel_cuts_26 trivial ((((h.2 _ rfl).2.2.2.1 c4).2 _ rfl) _ (by exact trivial))))))))) (fun c4 => (wi_aload0 fModel_cuts_13 (wi_iload1 fModel_cuts_14 (wi_bipush fModel_cuts_15 (wi_call3 fModel_cuts_16 (Nat.le_of_ble_eq_true rfl) (k_Model_of ((h.2 _ rfl).2.2.2.2 c4).1 (wi_bipush fModel_cuts_17 (wi_iadd fModel_cuts_18 ((h.2 _ rfl).2.2.2.2 c4).2.1 (wi_bipush fModel_cuts_19 (wi_idiv fModel_cuts_20 (by decide) ((h.2 _ rfl).2.2.2.2 c4).2.2.1 (wi_goto fModel_cuts_21 (wi_istore4 fModel_cuts_26 trivial ((((h.2 _ rfl).2.2.2.2 c4).2.2.2 _ rfl) _ (by exact trivial)))))))))))))))))))))))))))))
set_option maxRecDepth 20000 in
theorem bModel_cuts_27 {xs : List Int} {d : Nat} {Q : Option w_V → w_M → Prop} {v1 : Int} {v2 : Int} {v3 : Int} {v4 : Int} {σ : w_M}
    (h : w_in (0 + v3) ∧ 0 ≤ (0 + v3) ∧ (0 + v3) < 82 ∧ (((σ 124 (0 + v3).toNat) ≤ v4 → ∀ (y1 : Int), y1 = (σ 124 (0 + v3).toNat) → LModel_cuts_44 xs (d + 1) Q v1 v2 v3 y1 σ) ∧ (v4 < (σ 124 (0 + v3).toNat) → LModel_cuts_44 xs (d + 1) Q v1 v2 v3 v4 σ))) : LModel_cuts_27 xs (d + 1) Q v1 v2 v3 v4 σ :=
  fun l5 nl5 => (wi_iload4 fModel_cuts_27 (wi_aload0 fModel_cuts_28 (wi_getf901 fModel_cuts_29 (wi_bipush fModel_cuts_30 (wi_iload3 fModel_cuts_31 (wi_iadd fModel_cuts_32 h.1 (wi_iald1082 fModel_cuts_33 h.2.1 h.2.2.1 (wi_ic_ge fModel_cuts_34 (fun c2 => (wi_aload0 fModel_cuts_37 (wi_getf901 fModel_cuts_38 (wi_bipush fModel_cuts_39 (wi_iload3 fModel_cuts_40 (wi_iadd fModel_cuts_41 h.1 (wi_iald1082 fModel_cuts_42 h.2.1 h.2.2.1 (wi_istore5 fModel_cuts_43 trivial (((h.2.2.2.1 c2) _ rfl) _ (by exact trivial)))))))))) (fun c2 => (wi_iload4 fModel_cuts_35 (wi_goto fModel_cuts_36 (wi_istore5 fModel_cuts_43 trivial ((h.2.2.2.2 c2) _ (by exact trivial))))))))))))))
set_option maxRecDepth 20000 in
theorem bModel_cuts_44 {xs : List Int} {d : Nat} {Q : Option w_V → w_M → Prop} {v1 : Int} {v2 : Int} {v3 : Int} {v5 : Int} {σ : w_M}
    (h : w_in (0 + v3) ∧ 0 ≤ (0 + v3) ∧ (0 + v3) < 82 ∧ w_in ((σ 124 (0 + v3).toNat) - v5) ∧ (∀ (τ1 : w_M), τ1 = w_up σ 124 (0 + v3).toNat ((σ 124 (0 + v3).toNat) - v5) → (p_Model_of v1 4 τ1 ∧ p_Model_becomesOf v1 4 (w_wr ((τ1 124 (21 + 5 * v1 + 4).toNat) + v5)) τ1 ∧ (∀ (τ2 : w_M), q_Model_becomesOf v1 4 (w_wr ((τ1 124 (21 + 5 * v1 + 4).toNat) + v5)) τ1 τ2 → (w_in (7 + v3) ∧ 0 ≤ (7 + v3) ∧ (7 + v3) < 82 ∧ w_in (43 + (τ2 124 (7 + v3).toNat)) ∧ 0 ≤ (43 + (τ2 124 (7 + v3).toNat)) ∧ (43 + (τ2 124 (7 + v3).toNat)) < 82 ∧ (∀ (τ3 : w_M), τ3 = w_up τ2 124 (43 + (τ2 124 (7 + v3).toNat)).toNat (w_wr ((τ2 124 (43 + (τ2 124 (7 + v3).toNat)).toNat) + v5)) → ∀ (τ4 : w_M), τ4 = w_up τ3 124 47 v1 → (p_Model_of v1 2 τ4 ∧ w_in ((τ4 124 (21 + 5 * v1 + 2).toNat) - 1) ∧ p_Model_becomesOf v1 2 ((τ4 124 (21 + 5 * v1 + 2).toNat) - 1) τ4 ∧ (∀ (τ5 : w_M), q_Model_becomesOf v1 2 ((τ4 124 (21 + 5 * v1 + 2).toNat) - 1) τ4 τ5 → (p_Model_of v1 1 τ5 ∧ (∀ (y6 : Int), y6 = v_Model_flag v2 → (w_in ((τ5 124 (21 + 5 * v1 + 1).toNat) - y6) ∧ p_Model_becomesOf v1 1 ((τ5 124 (21 + 5 * v1 + 1).toNat) - y6) τ5 ∧ (∀ (τ7 : w_M), q_Model_becomesOf v1 1 ((τ5 124 (21 + 5 * v1 + 1).toNat) - y6) τ5 τ7 → Q none τ7)))))))))))) : LModel_cuts_44 xs (d + 1) Q v1 v2 v3 v5 σ :=
  fun l4 nl4 => (wi_aload0 fModel_cuts_44 (wi_getf901 fModel_cuts_45 (wi_bipush fModel_cuts_46 (wi_iload3 fModel_cuts_47 (wi_iadd fModel_cuts_48 h.1 (wi_dup2 fModel_cuts_49 (wi_iald1082 fModel_cuts_50 h.2.1 h.2.2.1 (wi_iload5 fModel_cuts_51 (wi_isub fModel_cuts_52 h.2.2.2.1 (wi_iast1082 fModel_cuts_53 h.2.1 h.2.2.1 (wi_aload0 fModel_cuts_54 (wi_iload1 fModel_cuts_55 (wi_bipush fModel_cuts_56 (wi_aload0 fModel_cuts_57 (wi_iload1 fModel_cuts_58 (wi_bipush fModel_cuts_59 (wi_call3 fModel_cuts_60 (Nat.le_of_ble_eq_true rfl) (k_Model_of (h.2.2.2.2 _ rfl).1 (wi_iload5 fModel_cuts_61 (wi_fadd fModel_cuts_62 (wi_call4 fModel_cuts_63 (Nat.le_of_ble_eq_true rfl) (k_Model_becomesOf (h.2.2.2.2 _ rfl).2.1 (fun τ2 eτ2 => (wi_aload0 fModel_cuts_64 (wi_getf901 fModel_cuts_65 (wi_bipush fModel_cuts_66 (wi_aload0 fModel_cuts_67 (wi_getf901 fModel_cuts_68 (wi_bipush fModel_cuts_69 (wi_iload3 fModel_cuts_70 (wi_iadd fModel_cuts_71 ((h.2.2.2.2 _ rfl).2.2 τ2 eτ2).1 (wi_iald1082 fModel_cuts_72 ((h.2.2.2.2 _ rfl).2.2 τ2 eτ2).2.1 ((h.2.2.2.2 _ rfl).2.2 τ2 eτ2).2.2.1 (wi_iadd fModel_cuts_73 ((h.2.2.2.2 _ rfl).2.2 τ2 eτ2).2.2.2.1 (wi_dup2 fModel_cuts_74 (wi_iald1082 fModel_cuts_75 ((h.2.2.2.2 _ rfl).2.2 τ2 eτ2).2.2.2.2.1 ((h.2.2.2.2 _ rfl).2.2 τ2 eτ2).2.2.2.2.2.1 (wi_iload5 fModel_cuts_76 (wi_fadd fModel_cuts_77 (wi_iast1082 fModel_cuts_78 ((h.2.2.2.2 _ rfl).2.2 τ2 eτ2).2.2.2.2.1 ((h.2.2.2.2 _ rfl).2.2 τ2 eτ2).2.2.2.2.2.1 (wi_aload0 fModel_cuts_79 (wi_getf901 fModel_cuts_80 (wi_bipush fModel_cuts_81 (wi_iload1 fModel_cuts_82 (wi_iast1082 fModel_cuts_83 (by decide) (by decide) (wi_aload0 fModel_cuts_84 (wi_iload1 fModel_cuts_85 (wi_bipush fModel_cuts_86 (wi_aload0 fModel_cuts_87 (wi_iload1 fModel_cuts_88 (wi_bipush fModel_cuts_89 (wi_call3 fModel_cuts_90 (Nat.le_of_ble_eq_true rfl) (k_Model_of ((((h.2.2.2.2 _ rfl).2.2 τ2 eτ2).2.2.2.2.2.2 _ rfl) _ rfl).1 (wi_bipush fModel_cuts_91 (wi_isub fModel_cuts_92 ((((h.2.2.2.2 _ rfl).2.2 τ2 eτ2).2.2.2.2.2.2 _ rfl) _ rfl).2.1 (wi_call4 fModel_cuts_93 (Nat.le_of_ble_eq_true rfl) (k_Model_becomesOf ((((h.2.2.2.2 _ rfl).2.2 τ2 eτ2).2.2.2.2.2.2 _ rfl) _ rfl).2.2.1 (fun τ5 eτ5 => (wi_aload0 fModel_cuts_94 (wi_iload1 fModel_cuts_95 (wi_bipush fModel_cuts_96 (wi_aload0 fModel_cuts_97 (wi_iload1 fModel_cuts_98 (wi_bipush fModel_cuts_99 (wi_call3 fModel_cuts_100 (Nat.le_of_ble_eq_true rfl) (k_Model_of (((((h.2.2.2.2 _ rfl).2.2 τ2 eτ2).2.2.2.2.2.2 _ rfl) _ rfl).2.2.2 τ5 eτ5).1 (wi_iload2 fModel_cuts_101 (wi_call1 fModel_cuts_102 (Nat.le_of_ble_eq_true rfl) (k_Model_flag (wi_isub fModel_cuts_103 ((((((h.2.2.2.2 _ rfl).2.2 τ2 eτ2).2.2.2.2.2.2 _ rfl) _ rfl).2.2.2 τ5 eτ5).2 _ rfl).1 (wi_call4 fModel_cuts_104 (Nat.le_of_ble_eq_true rfl) (k_Model_becomesOf ((((((h.2.2.2.2 _ rfl).2.2 τ2 eτ2).2.2.2.2.2.2 _ rfl) _ rfl).2.2.2 τ5 eτ5).2 _ rfl).2.1 (fun τ7 eτ7 => (wi_ret0 fModel_cuts_105 (((((((h.2.2.2.2 _ rfl).2.2 τ2 eτ2).2.2.2.2.2.2 _ rfl) _ rfl).2.2.2 τ5 eτ5).2 _ rfl).2.2 τ7 eτ7)))))))))))))))))))))))))))))))))))))))))))))))))))))))))))))))))))))))))
theorem m_cut_order {A : w_M} {r i o : Nat} {a b c e f g : Int} : w_up (w_up (w_up (w_up (w_up (w_up A 1 i a) 7 r b) 8 o c) 0 3 e) 5 r f) 4 r g = w_up (w_up (w_up (w_up (w_up (w_up A 5 r f) 4 r g) 1 i a) 7 r b) 0 3 e) 8 o c := by
  funext k j
  by_cases h0 : k = 0
  · subst h0; simp [w_up]
  by_cases h1 : k = 1
  · subst h1; simp [w_up]
  by_cases h4 : k = 4
  · subst h4; simp [w_up]
  by_cases h5 : k = 5
  · subst h5; simp [w_up]
  by_cases h7 : k = 7
  · subst h7; simp [w_up]
  by_cases h8 : k = 8
  · subst h8; simp [w_up]
  simp [w_up, h0, h1, h4, h5, h7, h8]
set_option maxHeartbeats 1000000 in
theorem k_cuts_tail {xs : List Int} {d : Nat} {Q : Option w_V → w_M → Prop} {r i : Nat} {c v : Int} {σ : w_M} (hok : m_ok σ 124 0) (hr : r < (σ 122 5).toNat) (hi : i < (σ 122 4).toNat) (hi6 : w_am σ 124 0 6 r = i) (hc : c = 0 ∨ c = 1) (hv : v = n_amt (w_am σ 124 0) r i) (hQ : ∀ σ' : w_M, q_Model_cuts r c σ σ' → Q none σ') : LModel_cuts_44 xs (d + 1) Q r c i v σ := by
  have hs := m_ok.s hok
  have hn := m_ok.n hok
  have hsm := m_ok.sm hok
  have i1 : i < m_rl σ 1 := by rw [m_rl12 (by decide) (by decide)]; exact hi
  have i2 : i < m_rl σ 2 := by rw [m_rl12 (by decide) (by decide)]; exact hi
  have rk : ∀ k, 3 ≤ k → k ≤ 7 → r < m_rl σ k := fun k a b => by rw [m_rl37 a b]; exact hr
  have x1 : ((0 : Int) + (i : Int)).toNat = i := by omega
  have e1 : σ 124 i = w_am σ 124 0 1 i := m_rd (by decide) i1 (by show i = 0 + i; omega)
  have h1 := n_WF.i hok hi
  have h2 := n_WF.r hok hr
  have ham := n_amt_le hok hr hi
  have sm : ∀ {τ : w_M}, w_g1 σ τ → m_sm τ ∧ (∀ k, m_rl τ k = m_rl σ k) := fun {τ} F => by
    have : τ 122 = σ 122 := F.1 122 (by decide)
    refine ⟨by unfold m_sm; rw [this]; exact hsm, fun k => by unfold m_rl; rw [this]⟩
  refine bModel_cuts_44 ⟨⟨by omega, by omega⟩, by omega, by omega, ?_⟩
  rw [x1, e1]
  refine ⟨⟨by omega, by omega⟩, ?_⟩
  intro τ1 t1
  have F1 : w_g1 σ τ1 := by rw [t1]; exact w_g1.up0 (by omega)
  have A1 : w_am τ1 124 0 = w_up (w_am σ 124 0) 1 i (w_am σ 124 0 1 i - v) := by rw [t1]; exact w_am_up hsm (by decide) i1 (by show i = 0 + i; omega)
  obtain ⟨m1, l1⟩ := sm F1
  have a7 : τ1 124 (21 + 5 * (r : Int) + 4).toNat = w_am σ 124 0 7 r := (m_rd (o := 0) (d := 7) (i := r) (by decide) (by rw [l1]; exact rk 7 (by decide) (by decide)) (by show _ = 0 + (25 + 5 * r); omega)).trans (by rw [A1, w_up_ne (by decide)])
  rw [a7]
  refine ⟨⟨by omega, by omega⟩, ⟨by omega, by omega⟩, ?_⟩
  intro τ2 t2
  have F2 : w_g1 σ τ2 := by rw [t2]; exact F1.up (by omega)
  obtain ⟨m2, l2⟩ := sm F2
  have A2 : w_am τ2 124 0 = w_up (w_am τ1 124 0) 7 r (w_wr (w_am σ 124 0 7 r + v)) := by
    rw [t2]
    exact w_am_up m1 (by decide) (by rw [l1]; exact rk 7 (by decide) (by decide)) (by show _ = 0 + (25 + 5 * r); omega)
  have a2 : τ2 124 (7 + (i : Int)).toNat = w_am σ 124 0 2 i := (m_rd (o := 0) (d := 2) (i := i) (by decide) (by rw [l2]; exact i2) (by show _ = 0 + (7 + i); omega)).trans (by rw [A2, w_up_ne (by decide), A1, w_up_ne (by decide)])
  rw [a2]
  have ho := h1.2.1
  have a8 : τ2 124 (43 + w_am σ 124 0 2 i).toNat = w_am σ 124 0 8 (w_am σ 124 0 2 i).toNat := (m_rd (o := 0) (d := 8) (i := (w_am σ 124 0 2 i).toNat) (by decide) (show _ < 4 by omega) (by show _ = 0 + (43 + (w_am σ 124 0 2 i).toNat); omega)).trans (by rw [A2, w_up_ne (by decide), A1, w_up_ne (by decide)])
  rw [a8]
  refine ⟨⟨by omega, by omega⟩, by omega, by omega, ⟨by omega, by omega⟩, by omega, by omega, ?_⟩
  intro τ3 t3
  have F3 : w_g1 σ τ3 := by rw [t3]; exact F2.up (by omega)
  obtain ⟨m3, l3⟩ := sm F3
  have A3 : w_am τ3 124 0 = w_up (w_am τ2 124 0) 8 (w_am σ 124 0 2 i).toNat (w_wr (w_am σ 124 0 8 (w_am σ 124 0 2 i).toNat + v)) := by
    rw [t3]
    exact w_am_up m2 (by decide) (show _ < 4 by omega) (by show _ = 0 + (43 + (w_am σ 124 0 2 i).toNat); omega)
  intro τ4 t4
  have F4 : w_g1 σ τ4 := by rw [t4]; exact F3.up (by omega)
  obtain ⟨m4, l4⟩ := sm F4
  have A4 : w_am τ4 124 0 = w_up (w_am τ3 124 0) 0 3 r := by rw [t4]; exact w_am_up0 m3 (by decide) (Or.inr (Or.inr ⟨rfl, rfl⟩))
  have a5 : τ4 124 (21 + 5 * (r : Int) + 2).toNat = w_am σ 124 0 5 r := (m_rd (o := 0) (d := 5) (i := r) (by decide) (by rw [l4]; exact rk 5 (by decide) (by decide)) (by show _ = 0 + (23 + 5 * r); omega)).trans (by rw [A4, w_up_ne (by decide), A3, w_up_ne (by decide), A2, w_up_ne (by decide), A1, w_up_ne (by decide)])
  rw [a5]
  refine ⟨⟨by omega, by omega⟩, ⟨by omega, by omega⟩, ⟨by omega, by omega⟩, ?_⟩
  intro τ5 t5
  have F5 : w_g1 σ τ5 := by rw [t5]; exact F4.up (by omega)
  obtain ⟨m5, l5⟩ := sm F5
  have A5 : w_am τ5 124 0 = w_up (w_am τ4 124 0) 5 r (w_am σ 124 0 5 r - 1) := by
    rw [t5]
    exact w_am_up m4 (by decide) (by rw [l4]; exact rk 5 (by decide) (by decide)) (by show _ = 0 + (23 + 5 * r); omega)
  have a4 : τ5 124 (21 + 5 * (r : Int) + 1).toNat = w_am σ 124 0 4 r := (m_rd (o := 0) (d := 4) (i := r) (by decide) (by rw [l5]; exact rk 4 (by decide) (by decide)) (by show _ = 0 + (22 + 5 * r); omega)).trans (by rw [A5, w_up_ne (by decide), A4, w_up_ne (by decide), A3, w_up_ne (by decide), A2, w_up_ne (by decide), A1, w_up_ne (by decide)])
  rw [a4]
  refine ⟨⟨by omega, by omega⟩, ?_⟩
  intro y6 e6
  have e6' : y6 = c := by rw [e6]; unfold v_Model_flag; rcases hc with rfl | rfl <;> rfl
  refine ⟨⟨by omega, by omega⟩, ⟨by omega, by omega⟩, ?_⟩
  intro τ7 t7
  have A7 : w_am τ7 124 0 = w_up (w_am τ5 124 0) 4 r (w_am σ 124 0 4 r - y6) := by
    rw [t7]
    exact w_am_up m5 (by decide) (by rw [l5]; exact rk 4 (by decide) (by decide)) (by show _ = 0 + (22 + 5 * r); omega)
  refine hQ _ ⟨?_, by rw [t7]; exact F5.up (by omega)⟩
  have ht : ((r : Int)).toNat = r := Int.toNat_natCast r
  have hit : (w_am σ 124 0 6 r).toNat = i := by rw [hi6]; exact Int.toNat_natCast i
  rw [A7, A5, A4, A3, A2, A1, e6', ht]
  unfold m_cut
  rw [hit, m_cut_order]
  generalize hB : w_up (w_up (w_am σ 124 0) 5 r (w_am σ 124 0 5 r - 1)) 4 r (w_am σ 124 0 4 r - c) = B
  have b1 : B 1 = w_am σ 124 0 1 := by rw [← hB, w_up_ne (by decide), w_up_ne (by decide)]
  have b2 : B 2 = w_am σ 124 0 2 := by rw [← hB, w_up_ne (by decide), w_up_ne (by decide)]
  have b3 : B 3 = w_am σ 124 0 3 := by rw [← hB, w_up_ne (by decide), w_up_ne (by decide)]
  have b7 : B 7 = w_am σ 124 0 7 := by rw [← hB, w_up_ne (by decide), w_up_ne (by decide)]
  have b8 : B 8 = w_am σ 124 0 8 := by rw [← hB, w_up_ne (by decide), w_up_ne (by decide)]
  have b9 : B 9 = w_am σ 124 0 9 := by rw [← hB, w_up_ne (by decide), w_up_ne (by decide)]
  unfold n_cut
  rw [n_amt_congr b1 b3 b9, b1, b2, b7, b8, hv]
theorem k_Model_cuts {xs : List Int} {d : Nat} {Q : Option w_V → w_M → Prop} {x1 : Int} {x2 : Int} {σ : w_M} (hp : p_Model_cuts x1 x2 σ) (hQ : ∀ σ' : w_M, q_Model_cuts x1 x2 σ σ' → Q none σ') : w_Call (xs, d + 1) 200 [.inr (.inr (9, 122)), .inl x1, .inl x2] σ Q := by
  obtain ⟨hok, ⟨r0, r1⟩, hc⟩ := hp
  obtain ⟨r, rfl⟩ := Int.eq_ofNat_of_zero_le r0
  have hs := m_ok.s hok
  have hn := m_ok.n hok
  have hr : r < (σ 122 5).toNat := by omega
  have h2 := n_WF.r hok hr
  have rk : ∀ k, 3 ≤ k → k ≤ 7 → r < m_rl σ k := fun k a b => by rw [m_rl37 a b]; exact hr
  have e6 : σ 124 (21 + 5 * (r : Int) + 3).toNat = w_am σ 124 0 6 r := m_rd (by decide) (rk 6 (by decide) (by decide)) (by show _ = 0 + (24 + 5 * r); omega)
  have e3 : σ 124 (21 + 5 * (r : Int) + 0).toNat = w_am σ 124 0 3 r := m_rd (by decide) (rk 3 (by decide) (by decide)) (by show _ = 0 + (21 + 5 * r); omega)
  have h04 : w_am σ 124 0 0 4 = σ 122 4 := rfl
  obtain ⟨i, hi6⟩ := Int.eq_ofNat_of_zero_le h2.2.2.2.1
  have hi : i < (σ 122 4).toNat := by omega
  have h1 := n_WF.i hok hi
  have e9 : σ 124 (14 + (i : Int)).toNat = w_am σ 124 0 9 i := m_rd (by decide) (by rw [m_rl9]; exact hi) (by show _ = 0 + (14 + i); omega)
  have e1 : σ 124 ((0 : Int) + (i : Int)).toNat = w_am σ 124 0 1 i := m_rd (by decide) (by rw [m_rl12 (by decide) (by decide)]; exact hi) (by show _ = 0 + i; omega)
  have next : ∀ y, y = n_pc (w_am σ 124 0) r i → LModel_cuts_27 xs (d + 1) Q r x2 i y σ := by
    intro y ey
    refine bModel_cuts_27 ⟨⟨by omega, by omega⟩, by omega, by omega, fun c => fun z ez => ?_, fun c => ?_⟩
    · rw [e1] at c ez
      refine k_cuts_tail hok hr hi hi6 hc ?_ hQ
      rw [ez]
      unfold n_amt
      rw [if_neg (by omega)]
    · rw [e1] at c
      refine k_cuts_tail hok hr hi hi6 hc ?_ hQ
      unfold n_amt
      rw [← ey, if_pos c]
  refine bModel_cuts_0 ⟨⟨by omega, by omega⟩, fun y1 ey => ?_⟩
  rw [e6, hi6] at ey
  rw [ey, e9, e3]
  refine ⟨⟨by omega, by omega⟩, by omega, by omega, fun c => ⟨⟨by omega, by omega⟩, fun y e => next y ?_⟩, fun c => ⟨⟨by omega, by omega⟩, ?_⟩⟩
  · rw [e]; unfold n_pc; rw [if_neg c]
  · have hd : ((w_am σ 124 0 3 r) + 1).tdiv 2 = (w_am σ 124 0 3 r + 1) / 2 := Int.tdiv_eq_ediv_of_nonneg (by omega)
    refine ⟨⟨by omega, by omega⟩, by rw [hd]; exact ⟨by omega, by omega⟩, fun y e => next y ?_⟩
    rw [e]; unfold n_pc; rw [if_pos c]
noncomputable def p_Model_does (r c : Int) (σ : w_M) : Prop := m_ok σ 124 0 ∧ (0 ≤ r ∧ r < σ 122 5) ∧ (c = 0 ∨ c = 1)
noncomputable def q_Model_does (r c : Int) (σ σ' : w_M) : Prop := w_am σ' 124 0 = n_work (w_am σ 124 0) r.toNat c ∧ w_g1 σ σ'
theorem fModel_does_0 : w_fe am_c197 0 1 (.aload 0) := ⟨rfl, rfl⟩
theorem fModel_does_1 : w_fe am_c197 1 2 (.aload 0) := ⟨rfl, rfl⟩
theorem fModel_does_2 : w_fe am_c197 2 3 (.iload 1) := ⟨rfl, rfl⟩
theorem fModel_does_3 : w_fe am_c197 3 4 (.bipush 3) := ⟨rfl, rfl⟩
theorem fModel_does_4 : w_fe am_c197 4 5 (.invokestatic 178) := ⟨rfl, rfl⟩
theorem fModel_does_5 : w_fe am_c197 5 6 (.invokestatic 198) := ⟨rfl, rfl⟩
theorem fModel_does_6 : w_fe am_c197 6 7 (.istore 3) := ⟨rfl, rfl⟩
theorem fModel_does_7 : w_fe am_c197 7 8 (.iload 3) := ⟨rfl, rfl⟩
theorem fModel_does_8 : w_fe am_c197 8 9 (.bipush (-4)) := ⟨rfl, rfl⟩
theorem fModel_does_9 : w_ic am_c197 9 10 .ne 11 := ⟨rfl, rfl⟩
theorem fModel_does_10 : w_fe am_c197 10 11 (.return_) := ⟨rfl, rfl⟩
theorem fModel_does_11 : w_fe am_c197 11 12 (.aload 0) := ⟨rfl, rfl⟩
theorem fModel_does_12 : w_fe am_c197 12 13 (.iload 1) := ⟨rfl, rfl⟩
theorem fModel_does_13 : w_fe am_c197 13 14 (.bipush 3) := ⟨rfl, rfl⟩
theorem fModel_does_14 : w_fe am_c197 14 15 (.iload 3) := ⟨rfl, rfl⟩
theorem fModel_does_15 : w_fe am_c197 15 16 (.invokestatic 199) := ⟨rfl, rfl⟩
theorem fModel_does_16 : w_fe am_c197 16 17 (.aload 0) := ⟨rfl, rfl⟩
theorem fModel_does_17 : w_fe am_c197 17 18 (.iload 1) := ⟨rfl, rfl⟩
theorem fModel_does_18 : w_fe am_c197 18 19 (.bipush 2) := ⟨rfl, rfl⟩
theorem fModel_does_19 : w_fe am_c197 19 20 (.invokestatic 178) := ⟨rfl, rfl⟩
theorem fModel_does_20 : w_if am_c197 20 21 .ne 27 := ⟨rfl, rfl⟩
theorem fModel_does_21 : w_fe am_c197 21 22 (.aload 0) := ⟨rfl, rfl⟩
theorem fModel_does_22 : w_fe am_c197 22 23 (.iload 1) := ⟨rfl, rfl⟩
theorem fModel_does_23 : w_fe am_c197 23 24 (.bipush 2) := ⟨rfl, rfl⟩
theorem fModel_does_24 : w_fe am_c197 24 25 (.bipush 3) := ⟨rfl, rfl⟩
theorem fModel_does_25 : w_fe am_c197 25 26 (.invokestatic 199) := ⟨rfl, rfl⟩
theorem fModel_does_26 : w_gt am_c197 26 38 := rfl
theorem fModel_does_27 : w_fe am_c197 27 28 (.iload 2) := ⟨rfl, rfl⟩
theorem fModel_does_28 : w_if am_c197 28 29 .eq 34 := ⟨rfl, rfl⟩
theorem fModel_does_29 : w_fe am_c197 29 30 (.aload 0) := ⟨rfl, rfl⟩
theorem fModel_does_30 : w_fe am_c197 30 31 (.iload 1) := ⟨rfl, rfl⟩
theorem fModel_does_31 : w_fe am_c197 31 32 (.bipush 1) := ⟨rfl, rfl⟩
theorem fModel_does_32 : w_fe am_c197 32 33 (.invokestatic 178) := ⟨rfl, rfl⟩
theorem fModel_does_33 : w_if am_c197 33 34 .le 38 := ⟨rfl, rfl⟩
theorem fModel_does_34 : w_fe am_c197 34 35 (.aload 0) := ⟨rfl, rfl⟩
theorem fModel_does_35 : w_fe am_c197 35 36 (.iload 1) := ⟨rfl, rfl⟩
theorem fModel_does_36 : w_fe am_c197 36 37 (.iload 2) := ⟨rfl, rfl⟩
theorem fModel_does_37 : w_fe am_c197 37 38 (.invokestatic 200) := ⟨rfl, rfl⟩
theorem fModel_does_38 : w_fe am_c197 38 39 (.return_) := ⟨rfl, rfl⟩
set_option maxRecDepth 20000 in
theorem bModel_does_0 {xs : List Int} {d : Nat} {Q : Option w_V → w_M → Prop} {x1 : Int} {x2 : Int} {σ : w_M}
    (h : p_Model_of x1 3 σ ∧ p_Model_nearest (σ 124 (21 + 5 * x1 + 3).toNat) σ ∧ (∀ (y1 : Int), y1 = v_Model_nearest (σ 124 (21 + 5 * x1 + 3).toNat) σ → ((¬ y1 = (-4) → (p_Model_becomesOf x1 3 y1 σ ∧ (∀ (τ2 : w_M), q_Model_becomesOf x1 3 y1 σ τ2 → (p_Model_of x1 2 τ2 ∧ ((¬ (τ2 124 (21 + 5 * x1 + 2).toNat) = 0 → ((x2 = 0 → (p_Model_cuts x1 x2 τ2 ∧ (∀ (τ3 : w_M), q_Model_cuts x1 x2 τ2 τ3 → Q none τ3))) ∧ (¬ x2 = 0 → (p_Model_of x1 1 τ2 ∧ (((τ2 124 (21 + 5 * x1 + 1).toNat) ≤ 0 → Q none τ2) ∧ (0 < (τ2 124 (21 + 5 * x1 + 1).toNat) → (p_Model_cuts x1 x2 τ2 ∧ (∀ (τ4 : w_M), q_Model_cuts x1 x2 τ2 τ4 → Q none τ4)))))))) ∧ ((τ2 124 (21 + 5 * x1 + 2).toNat) = 0 → (p_Model_becomesOf x1 2 3 τ2 ∧ (∀ (τ7 : w_M), q_Model_becomesOf x1 2 3 τ2 τ7 → Q none τ7)))))))) ∧ (y1 = (-4) → Q none σ)))) : w_Call (xs, (d + 2)) 197 [.inr (.inr (9, 122)), .inl x1, .inl x2] σ Q :=
  (w_mk (mid := 197) (by decide) rfl rfl rfl rfl rfl (Nat.le_of_ble_eq_true rfl) ⟨rfl, Or.inl (by decide)⟩ (wi_aload0 fModel_does_0 (wi_aload0 fModel_does_1 (wi_iload1 fModel_does_2 (wi_bipush fModel_does_3 (wi_call3 fModel_does_4 (Nat.le_of_ble_eq_true rfl) (k_Model_of h.1 (wi_call2 fModel_does_5 (Nat.le_of_ble_eq_true rfl) (k_Model_nearest h.2.1 (wi_istore3 fModel_does_6 trivial (wi_iload3 fModel_does_7 (wi_bipush fModel_does_8 (wi_ic_ne fModel_does_9 (fun c9 => (wi_aload0 fModel_does_11 (wi_iload1 fModel_does_12 (wi_bipush fModel_does_13 (wi_iload3 fModel_does_14 (wi_call4 fModel_does_15 (Nat.le_of_ble_eq_true rfl) (k_Model_becomesOf ((h.2.2 _ rfl).1 c9).1 (fun τ2 eτ2 => (wi_aload0 fModel_does_16 (wi_iload1 fModel_does_17 (wi_bipush fModel_does_18 (wi_call3 fModel_does_19 (Nat.le_of_ble_eq_true rfl) (k_Model_of (((h.2.2 _ rfl).1 c9).2 τ2 eτ2).1 (wi_if_ne fModel_does_20 (fun c8 => (wi_iload2 fModel_does_27 (wi_if_eq fModel_does_28 (fun c6 => (wi_aload0 fModel_does_34 (wi_iload1 fModel_does_35 (wi_iload2 fModel_does_36 (wi_call3 fModel_does_37 (Nat.le_of_ble_eq_true rfl) (k_Model_cuts (((((h.2.2 _ rfl).1 c9).2 τ2 eτ2).2.1 c8).1 c6).1 (fun τ3 eτ3 => (wi_ret0 fModel_does_38 ((((((h.2.2 _ rfl).1 c9).2 τ2 eτ2).2.1 c8).1 c6).2 τ3 eτ3))))))))) (fun c6 => (wi_aload0 fModel_does_29 (wi_iload1 fModel_does_30 (wi_bipush fModel_does_31 (wi_call3 fModel_does_32 (Nat.le_of_ble_eq_true rfl) (k_Model_of (((((h.2.2 _ rfl).1 c9).2 τ2 eτ2).2.1 c8).2 c6).1 (wi_if_le fModel_does_33 (fun c5 => (wi_ret0 fModel_does_38 ((((((h.2.2 _ rfl).1 c9).2 τ2 eτ2).2.1 c8).2 c6).2.1 c5))) (fun c5 => (wi_aload0 fModel_does_34 (wi_iload1 fModel_does_35 (wi_iload2 fModel_does_36 (wi_call3 fModel_does_37 (Nat.le_of_ble_eq_true rfl) (k_Model_cuts ((((((h.2.2 _ rfl).1 c9).2 τ2 eτ2).2.1 c8).2 c6).2.2 c5).1 (fun τ4 eτ4 => (wi_ret0 fModel_does_38 (((((((h.2.2 _ rfl).1 c9).2 τ2 eτ2).2.1 c8).2 c6).2.2 c5).2 τ4 eτ4))))))))))))))))))) (fun c8 => (wi_aload0 fModel_does_21 (wi_iload1 fModel_does_22 (wi_bipush fModel_does_23 (wi_bipush fModel_does_24 (wi_call4 fModel_does_25 (Nat.le_of_ble_eq_true rfl) (k_Model_becomesOf ((((h.2.2 _ rfl).1 c9).2 τ2 eτ2).2.2 c8).1 (fun τ7 eτ7 => (wi_goto fModel_does_26 (wi_ret0 fModel_does_38 (((((h.2.2 _ rfl).1 c9).2 τ2 eτ2).2.2 c8).2 τ7 eτ7))))))))))))))))))))))))) (fun c9 => (wi_ret0 fModel_does_10 ((h.2.2 _ rfl).2 c9))))))))))))))))
set_option maxHeartbeats 1000000 in
theorem k_Model_does {xs : List Int} {d : Nat} {Q : Option w_V → w_M → Prop} {x1 : Int} {x2 : Int} {σ : w_M} (hp : p_Model_does x1 x2 σ) (hQ : ∀ σ' : w_M, q_Model_does x1 x2 σ σ' → Q none σ') : w_Call (xs, d + 2) 197 [.inr (.inr (9, 122)), .inl x1, .inl x2] σ Q := by
  obtain ⟨hok, ⟨r0, r1⟩, hc⟩ := hp
  obtain ⟨r, rfl⟩ := Int.eq_ofNat_of_zero_le r0
  have hs := m_ok.s hok
  have hn := m_ok.n hok
  have hsm := m_ok.sm hok
  have hr : r < (σ 122 5).toNat := by omega
  have h2 := n_WF.r hok hr
  have rk : ∀ k, 3 ≤ k → k ≤ 7 → r < m_rl σ k := fun k a b => by rw [m_rl37 a b]; exact hr
  have e6 : σ 124 (21 + 5 * (r : Int) + 3).toNat = w_am σ 124 0 6 r := m_rd (by decide) (rk 6 (by decide) (by decide)) (by show _ = 0 + (24 + 5 * r); omega)
  have h04 : w_am σ 124 0 0 4 = σ 122 4 := rfl
  have hsn : n_s (w_am σ 124 0) ≤ 1000 := by rw [n_s_am]; omega
  unfold q_Model_does at hQ
  rw [Int.toNat_natCast] at hQ
  refine bModel_does_0 ⟨⟨by omega, by omega⟩, ?_⟩
  rw [e6]
  refine ⟨⟨hok, by omega, by omega⟩, fun y1 ey => ?_⟩
  unfold v_Model_nearest at ey
  rcases n_near_cases (A := w_am σ 124 0) (f := w_am σ 124 0 6 r) (by omega) hsn with ⟨g1, g2⟩ | ⟨i, g1, g2, g3⟩
  · refine ⟨fun c => absurd (ey.trans g1) c, fun c => hQ _ ⟨?_, w_g1.rfl'⟩⟩
    unfold n_work
    rw [if_pos g1]
  · rw [n_s_am] at g1
    have hne : ¬ n_near (w_am σ 124 0) (w_am σ 124 0 6 r) = -4 := by omega
    refine ⟨fun c => ⟨⟨by omega, by omega⟩, fun τ2 t2 => ?_⟩, fun c => absurd (ey.symm.trans c) hne⟩
    have F2 : w_g1 σ τ2 := by rw [t2]; exact w_g1.up0 (by omega)
    have z2 : τ2 122 = σ 122 := F2.1 122 (by decide)
    have A2 : w_am τ2 124 0 = w_up (w_am σ 124 0) 6 r y1 := by
      rw [t2]
      exact w_am_up hsm (by decide) (rk 6 (by decide) (by decide)) (by show _ = 0 + (24 + 5 * r); omega)
    have l2 : ∀ k, m_rl τ2 k = m_rl σ k := fun k => by unfold m_rl; rw [z2]
    have m2 : m_sm τ2 := by unfold m_sm; rw [z2]; exact hsm
    have f5 : τ2 124 (21 + 5 * (r : Int) + 2).toNat = w_am σ 124 0 5 r := (m_rd (o := 0) (d := 5) (i := r) (by decide) (by rw [l2]; exact rk 5 (by decide) (by decide)) (by show _ = 0 + (23 + 5 * r); omega)).trans (by rw [A2, w_up_ne (by decide)])
    have f4 : τ2 124 (21 + 5 * (r : Int) + 1).toNat = w_am σ 124 0 4 r := (m_rd (o := 0) (d := 4) (i := r) (by decide) (by rw [l2]; exact rk 4 (by decide) (by decide)) (by show _ = 0 + (22 + 5 * r); omega)).trans (by rw [A2, w_up_ne (by decide)])
    rw [f5, f4]
    have W2 : m_ok τ2 124 0 := by
      unfold m_ok
      rw [A2]
      refine n_WF_up hok ?_ ?_ ?_ ?_ ?_ ?_ ?_ ?_ <;> (intros; omega)
    have cutting : x2 = 0 ∨ 0 < w_am σ 124 0 4 r → ¬ w_am σ 124 0 5 r = 0 → p_Model_cuts r x2 τ2 ∧ ∀ τ', q_Model_cuts r x2 τ2 τ' → Q none τ' := by
      intro ho h5
      refine ⟨⟨W2, by rw [z2]; exact ⟨r0, r1⟩, hc⟩, fun τ' hq => ?_⟩
      obtain ⟨q1, q2⟩ := hq
      refine hQ _ ⟨?_, F2.tr q2⟩
      rw [q1, Int.toNat_natCast]
      unfold n_work m_cut
      rw [← ey, if_neg c, if_neg h5, if_pos ho, A2, w_up_at, w_up_eq, if_neg (by omega), w_up_eq, if_neg (by omega)]
    refine ⟨⟨by omega, by omega⟩, fun h5 => ⟨fun hx => cutting (Or.inl hx) h5, fun hx => ⟨⟨by omega, by omega⟩, fun ho => ?_, fun ho => cutting (Or.inr ho) h5⟩⟩, fun h5 => ⟨⟨by omega, by omega⟩, fun τ7 t7 => ?_⟩⟩
    · refine hQ _ ⟨?_, F2⟩
      unfold n_work
      rw [← ey, if_neg c, if_neg h5, if_neg (by omega), A2]
    · refine hQ _ ⟨?_, by rw [t7]; exact F2.up (by omega)⟩
      unfold n_work
      rw [← ey, if_neg c, if_pos h5, t7, w_am_up m2 (by decide) (by rw [l2]; exact rk 5 (by decide) (by decide)) (by show _ = 0 + (23 + 5 * r); omega), A2]
