/-! The reference's night -/
/-- one cell alone may have changed -/
def w_f1 (σ σ' : w_M) (c : Nat) : Prop := ∀ b, b ≠ c → σ' b = σ b
theorem w_f1.rfl' {σ : w_M} {c : Nat} : w_f1 σ σ c := fun _ _ => rfl
theorem w_f1.tr {σ σ1 σ2 : w_M} {c : Nat} (h : w_f1 σ σ1 c) (h2 : w_f1 σ1 σ2 c) : w_f1 σ σ2 c := fun b hb => (h2 b hb).trans (h b hb)
theorem w_f1.up {σ σ' : w_M} {c i : Nat} {x : Int} (h : w_f1 σ σ' c) : w_f1 σ (w_up σ' c i x) c := fun b hb => by rw [w_up_ne hb]; exact h b hb
theorem w_f1.up0 {σ : w_M} {c i : Nat} {x : Int} : w_f1 σ (w_up σ c i x) c := w_f1.rfl'.up
/-- of the reference's trial alone, and there of the night alone -/
def w_g1 (σ σ' : w_M) : Prop := w_f1 σ σ' 124 ∧ ∀ x, 48 ≤ x → σ' 124 x = σ 124 x
theorem w_g1.rfl' {σ : w_M} : w_g1 σ σ := ⟨w_f1.rfl', fun _ _ => rfl⟩
theorem w_g1.tr {σ σ1 σ2 : w_M} (h : w_g1 σ σ1) (h2 : w_g1 σ1 σ2) : w_g1 σ σ2 := ⟨h.1.tr h2.1, fun x hx => (h2.2 x hx).trans (h.2 x hx)⟩
theorem w_g1.up {σ σ' : w_M} {i : Nat} {x : Int} (h : w_g1 σ σ') (hi : i < 48) : w_g1 σ (w_up σ' 124 i x) := ⟨h.1.up, fun y hy => by rw [w_up_j (by omega)]; exact h.2 y hy⟩
theorem w_g1.up0 {σ : w_M} {i : Nat} {x : Int} (hi : i < 48) : w_g1 σ (w_up σ 124 i x) := w_g1.rfl'.up hi
def v_Model_flag (x : Int) : Int := if x = 0 then 0 else 1
theorem f158_0 : w_fe am_c158 0 1 (.lload 0) := ⟨rfl, rfl⟩
theorem f158_1 : w_fe am_c158 1 2 (.lload 2) := ⟨rfl, rfl⟩
theorem f158_2 : w_fe am_c158 2 3 (.lcmp) := ⟨rfl, rfl⟩
theorem f158_3 : w_if am_c158 3 4 .lt 10 := ⟨rfl, rfl⟩
theorem f158_4 : w_fe am_c158 4 5 (.lload 0) := ⟨rfl, rfl⟩
theorem f158_5 : w_fe am_c158 5 6 (.lload 4) := ⟨rfl, rfl⟩
theorem f158_6 : w_fe am_c158 6 7 (.lcmp) := ⟨rfl, rfl⟩
theorem f158_7 : w_if am_c158 7 8 .gt 10 := ⟨rfl, rfl⟩
theorem f158_8 : w_fe am_c158 8 9 (.bipush 1) := ⟨rfl, rfl⟩
theorem f158_9 : w_gt am_c158 9 11 := rfl
theorem f158_10 : w_fe am_c158 10 11 (.bipush 0) := ⟨rfl, rfl⟩
theorem f158_11 : w_fe am_c158 11 12 (.ireturn) := ⟨rfl, rfl⟩
set_option maxRecDepth 20000 in
theorem b158_0 {xs : List Int} {d : Nat} {Q : Option w_V → w_M → Prop} {x0 : Int} {x1 : Int} {x2 : Int} {σ : w_M}
    (h : (x0 < x1 → Q (some (.inl 0)) σ) ∧ (x1 ≤ x0 → ((x2 < x0 → Q (some (.inl 0)) σ) ∧ (x0 ≤ x2 → Q (some (.inl 1)) σ)))) : w_Call (xs, d) 158 [.inr (.inl x0), .inr (.inl x1), .inr (.inl x2)] σ Q :=
  (w_mk (mid := 158) (by decide) rfl rfl rfl rfl rfl (Nat.le_of_ble_eq_true rfl) trivial (wi_lload0 f158_0 (wi_lload2 f158_1 (wi_lcmp_lt f158_2 f158_3 (fun c2 => (wi_bipush f158_10 (wi_ret2 f158_11 (by decide) (h.1 c2)))) (fun c2 => (wi_lload0 f158_4 (wi_lload4 f158_5 (wi_lcmp_gt f158_6 f158_7 (fun c1 => (wi_bipush f158_10 (wi_ret2 f158_11 (by decide) ((h.2 c2).1 c1)))) (fun c1 => (wi_bipush f158_8 (wi_goto f158_9 (wi_ret2 f158_11 (by decide) ((h.2 c2).2 c1)))))))))))))
theorem f180_0 : w_fe am_c180 0 1 (.iload 0) := ⟨rfl, rfl⟩
theorem f180_1 : w_if am_c180 1 2 .eq 4 := ⟨rfl, rfl⟩
theorem f180_2 : w_fe am_c180 2 3 (.bipush 1) := ⟨rfl, rfl⟩
theorem f180_3 : w_gt am_c180 3 5 := rfl
theorem f180_4 : w_fe am_c180 4 5 (.bipush 0) := ⟨rfl, rfl⟩
theorem f180_5 : w_fe am_c180 5 6 (.ireturn) := ⟨rfl, rfl⟩
set_option maxRecDepth 20000 in
theorem b180_0 {xs : List Int} {d : Nat} {Q : Option w_V → w_M → Prop} {x0 : Int} {σ : w_M}
    (h : (x0 = 0 → Q (some (.inl 0)) σ) ∧ (¬ x0 = 0 → Q (some (.inl 1)) σ)) : w_Call (xs, d) 180 [.inl x0] σ Q :=
  (w_mk (mid := 180) (by decide) rfl rfl rfl rfl rfl (Nat.le_of_ble_eq_true rfl) trivial (wi_iload0 f180_0 (wi_if_eq f180_1 (fun c1 => (wi_bipush f180_4 (wi_ret1 f180_5 (h.1 c1)))) (fun c1 => (wi_bipush f180_2 (wi_goto f180_3 (wi_ret1 f180_5 (h.2 c1))))))))
theorem k_Model_in {xs : List Int} {d : Nat} {Q : Option w_V → w_M → Prop} {x0 : Int} {x1 : Int} {x2 : Int} {σ : w_M} (hQ : Q (some (.inl (w_bi (x1 ≤ x0 ∧ x0 ≤ x2)))) σ) : w_Call (xs, d) 158 [.inr (.inl x0), .inr (.inl x1), .inr (.inl x2)] σ Q := by
  refine b158_0 ⟨fun h => ?_, fun h => ⟨fun h2 => ?_, fun h2 => ?_⟩⟩
  · rw [w_bi_f (by omega)] at hQ; exact hQ
  · rw [w_bi_f (by omega)] at hQ; exact hQ
  · rw [w_bi_t (by omega)] at hQ; exact hQ
theorem k_Model_flag {xs : List Int} {d : Nat} {Q : Option w_V → w_M → Prop} {x0 : Int} {σ : w_M} (hQ : Q (some (.inl (v_Model_flag x0))) σ) : w_Call (xs, d) 180 [.inl x0] σ Q := by
  unfold v_Model_flag at hQ
  refine b180_0 ⟨fun h => ?_, fun h => ?_⟩
  · rw [if_pos h] at hQ; exact hQ
  · rw [if_neg h] at hQ; exact hQ
def p_Model_isStrip (_ : Int) (σ : w_M) : Prop := 0 ≤ σ 122 4 ∧ σ 122 4 ≤ 7
def p_Model_isReaper (_ : Int) (σ : w_M) : Prop := 0 ≤ σ 122 5 ∧ σ 122 5 ≤ 4
theorem f178_0 : w_fe am_c178 0 1 (.iload 1) := ⟨rfl, rfl⟩
theorem f178_1 : w_fe am_c178 1 2 (.i2l) := ⟨rfl, rfl⟩
theorem f178_2 : w_fe am_c178 2 3 (.sipush 0) := ⟨rfl, rfl⟩
theorem f178_3 : w_fe am_c178 3 4 (.aload 0) := ⟨rfl, rfl⟩
theorem f178_4 : w_fe am_c178 4 5 (.getfield 904) := ⟨rfl, rfl⟩
theorem f178_5 : w_fe am_c178 5 6 (.bipush 1) := ⟨rfl, rfl⟩
theorem f178_6 : w_fe am_c178 6 7 (.isub) := ⟨rfl, rfl⟩
theorem f178_7 : w_fe am_c178 7 8 (.i2l) := ⟨rfl, rfl⟩
theorem f178_8 : w_fe am_c178 8 9 (.invokestatic 158) := ⟨rfl, rfl⟩
theorem f178_9 : w_fe am_c178 9 10 (.ireturn) := ⟨rfl, rfl⟩
set_option maxRecDepth 20000 in
theorem b178_0 {xs : List Int} {d : Nat} {Q : Option w_V → w_M → Prop} {x1 : Int} {σ : w_M}
    (h : w_in ((σ 122 4) - 1) ∧ Q (some (.inl (w_bi (0 ≤ x1 ∧ x1 ≤ ((σ 122 4) - 1))))) σ) : w_Call (xs, (d + 1)) 178 [.inr (.inr (9, 122)), .inl x1] σ Q :=
  (w_mk (mid := 178) (by decide) rfl rfl rfl rfl rfl (Nat.le_of_ble_eq_true rfl) ⟨rfl, Or.inl (by decide)⟩ (wi_iload1 f178_0 (wi_i2l f178_1 (wi_sipush f178_2 (wi_aload0 f178_3 (wi_getf904 f178_4 (wi_bipush f178_5 (wi_isub f178_6 h.1 (wi_i2l f178_7 (wi_call3 f178_8 (Nat.le_of_ble_eq_true rfl) (k_Model_in (wi_ret2 f178_9 (w_bi01 _) h.2))))))))))))
theorem f182_0 : w_fe am_c182 0 1 (.iload 1) := ⟨rfl, rfl⟩
theorem f182_1 : w_fe am_c182 1 2 (.i2l) := ⟨rfl, rfl⟩
theorem f182_2 : w_fe am_c182 2 3 (.sipush 0) := ⟨rfl, rfl⟩
theorem f182_3 : w_fe am_c182 3 4 (.aload 0) := ⟨rfl, rfl⟩
theorem f182_4 : w_fe am_c182 4 5 (.getfield 905) := ⟨rfl, rfl⟩
theorem f182_5 : w_fe am_c182 5 6 (.bipush 1) := ⟨rfl, rfl⟩
theorem f182_6 : w_fe am_c182 6 7 (.isub) := ⟨rfl, rfl⟩
theorem f182_7 : w_fe am_c182 7 8 (.i2l) := ⟨rfl, rfl⟩
theorem f182_8 : w_fe am_c182 8 9 (.invokestatic 158) := ⟨rfl, rfl⟩
theorem f182_9 : w_fe am_c182 9 10 (.ireturn) := ⟨rfl, rfl⟩
set_option maxRecDepth 20000 in
theorem b182_0 {xs : List Int} {d : Nat} {Q : Option w_V → w_M → Prop} {x1 : Int} {σ : w_M}
    (h : w_in ((σ 122 5) - 1) ∧ Q (some (.inl (w_bi (0 ≤ x1 ∧ x1 ≤ ((σ 122 5) - 1))))) σ) : w_Call (xs, (d + 1)) 182 [.inr (.inr (9, 122)), .inl x1] σ Q :=
  (w_mk (mid := 182) (by decide) rfl rfl rfl rfl rfl (Nat.le_of_ble_eq_true rfl) ⟨rfl, Or.inl (by decide)⟩ (wi_iload1 f182_0 (wi_i2l f182_1 (wi_sipush f182_2 (wi_aload0 f182_3 (wi_getf905 f182_4 (wi_bipush f182_5 (wi_isub f182_6 h.1 (wi_i2l f182_7 (wi_call3 f182_8 (Nat.le_of_ble_eq_true rfl) (k_Model_in (wi_ret2 f182_9 (w_bi01 _) h.2))))))))))))
theorem f184_0 : w_fe am_c184 0 1 (.iload 0) := ⟨rfl, rfl⟩
theorem f184_1 : w_fe am_c184 1 2 (.i2l) := ⟨rfl, rfl⟩
theorem f184_2 : w_fe am_c184 2 3 (.sipush 0) := ⟨rfl, rfl⟩
theorem f184_3 : w_fe am_c184 3 4 (.sipush 3) := ⟨rfl, rfl⟩
theorem f184_4 : w_fe am_c184 4 5 (.invokestatic 158) := ⟨rfl, rfl⟩
theorem f184_5 : w_fe am_c184 5 6 (.ireturn) := ⟨rfl, rfl⟩
set_option maxRecDepth 20000 in
theorem b184_0 {xs : List Int} {d : Nat} {Q : Option w_V → w_M → Prop} {x0 : Int} {σ : w_M}
    (h : Q (some (.inl (w_bi (0 ≤ x0 ∧ x0 ≤ 3)))) σ) : w_Call (xs, (d + 1)) 184 [.inl x0] σ Q :=
  (w_mk (mid := 184) (by decide) rfl rfl rfl rfl rfl (Nat.le_of_ble_eq_true rfl) trivial (wi_iload0 f184_0 (wi_i2l f184_1 (wi_sipush f184_2 (wi_sipush f184_3 (wi_call3 f184_4 (Nat.le_of_ble_eq_true rfl) (k_Model_in (wi_ret2 f184_5 (w_bi01 _) h))))))))
theorem k_Model_isStrip {xs : List Int} {d : Nat} {Q : Option w_V → w_M → Prop} {x1 : Int} {σ : w_M} (hp : p_Model_isStrip x1 σ) (hQ : Q (some (.inl (w_bi (0 ≤ x1 ∧ x1 < σ 122 4)))) σ) : w_Call (xs, d + 1) 178 [.inr (.inr (9, 122)), .inl x1] σ Q := by
  unfold p_Model_isStrip at hp
  refine b178_0 ⟨⟨by omega, by omega⟩, ?_⟩
  rw [w_bi_congr (show (0 ≤ x1 ∧ x1 ≤ σ 122 4 - 1) ↔ (0 ≤ x1 ∧ x1 < σ 122 4) by omega)]
  exact hQ
theorem k_Model_isReaper {xs : List Int} {d : Nat} {Q : Option w_V → w_M → Prop} {x1 : Int} {σ : w_M} (hp : p_Model_isReaper x1 σ) (hQ : Q (some (.inl (w_bi (0 ≤ x1 ∧ x1 < σ 122 5)))) σ) : w_Call (xs, d + 1) 182 [.inr (.inr (9, 122)), .inl x1] σ Q := by
  unfold p_Model_isReaper at hp
  refine b182_0 ⟨⟨by omega, by omega⟩, ?_⟩
  rw [w_bi_congr (show (0 ≤ x1 ∧ x1 ≤ σ 122 5 - 1) ↔ (0 ≤ x1 ∧ x1 < σ 122 5) by omega)]
  exact hQ
theorem k_Model_isOwner {xs : List Int} {d : Nat} {Q : Option w_V → w_M → Prop} {x0 : Int} {σ : w_M} (hQ : Q (some (.inl (w_bi (0 ≤ x0 ∧ x0 ≤ 3)))) σ) : w_Call (xs, d + 1) 184 [.inl x0] σ Q := b184_0 hQ
def p_Model_starts (σ : w_M) : Prop := m_sm σ
def q_Model_starts (σ σ' : w_M) : Prop := w_am σ' 124 0 = w_am σ 123 0 ∧ w_f1 σ σ' 124 ∧ (∀ j, j < 82 → σ' 124 j = σ 123 j)
theorem f175_0 : w_fe am_c175 0 1 (.bipush 0) := ⟨rfl, rfl⟩
theorem f175_1 : w_fe am_c175 1 2 (.istore 1) := ⟨rfl, rfl⟩
theorem f175_2 : w_fe am_c175 2 3 (.iload 1) := ⟨rfl, rfl⟩
theorem f175_3 : w_fe am_c175 3 4 (.bipush 82) := ⟨rfl, rfl⟩
theorem f175_4 : w_ic am_c175 4 5 .ge 15 := ⟨rfl, rfl⟩
theorem f175_5 : w_fe am_c175 5 6 (.aload 0) := ⟨rfl, rfl⟩
theorem f175_6 : w_fe am_c175 6 7 (.getfield 901) := ⟨rfl, rfl⟩
theorem f175_7 : w_fe am_c175 7 8 (.iload 1) := ⟨rfl, rfl⟩
theorem f175_8 : w_fe am_c175 8 9 (.aload 0) := ⟨rfl, rfl⟩
theorem f175_9 : w_fe am_c175 9 10 (.getfield 900) := ⟨rfl, rfl⟩
theorem f175_10 : w_fe am_c175 10 11 (.iload 1) := ⟨rfl, rfl⟩
theorem f175_11 : w_fe am_c175 11 12 (.iaload) := ⟨rfl, rfl⟩
theorem f175_12 : w_fe am_c175 12 13 (.iastore) := ⟨rfl, rfl⟩
theorem f175_13 : w_fe am_c175 13 14 (.iinc 1 1) := ⟨rfl, rfl⟩
theorem f175_14 : w_gt am_c175 14 2 := rfl
theorem f175_15 : w_fe am_c175 15 16 (.return_) := ⟨rfl, rfl⟩
def L175_2 (xs : List Int) (d : Nat) (Q : Option w_V → w_M → Prop) (v1 : Int) (σ : w_M) : Prop := w_Ex (xs, d) 0 am_c175 Q 2 [some (.inr (.inr (9, 122))), some (.inl v1)] [] σ
set_option maxRecDepth 20000 in
theorem b175_0 {xs : List Int} {d : Nat} {Q : Option w_V → w_M → Prop}  {σ : w_M}
    (h : L175_2 xs d Q 0 σ) : w_Call (xs, d) 175 [.inr (.inr (9, 122))] σ Q :=
  (w_mk (mid := 175) (by decide) rfl rfl rfl rfl rfl (Nat.le_of_ble_eq_true rfl) ⟨rfl, Or.inl (by decide)⟩ (wi_bipush f175_0 (wi_istore1 f175_1 trivial h)))
set_option maxRecDepth 20000 in
theorem b175_2 {xs : List Int} {d : Nat} {Q : Option w_V → w_M → Prop} {v1 : Int} {σ : w_M}
    (h : (82 ≤ v1 → Q none σ) ∧ (v1 < 82 → (0 ≤ v1 ∧ v1 < 246 ∧ (∀ (τ1 : w_M), τ1 = w_up σ 124 v1.toNat (σ 123 v1.toNat) → (w_in (v1 + 1) ∧ L175_2 xs d Q (v1 + 1) τ1))))) : L175_2 xs d Q v1 σ :=
  (wi_iload1 f175_2 (wi_bipush f175_3 (wi_ic_ge f175_4 (fun c2 => (wi_ret0 f175_15 (h.1 c2))) (fun c2 => (wi_aload0 f175_5 (wi_getf901 f175_6 (wi_iload1 f175_7 (wi_aload0 f175_8 (wi_getf900 f175_9 (wi_iload1 f175_10 (wi_iald1246 f175_11 (h.2 c2).1 (h.2 c2).2.1 (wi_iast1082 f175_12 (h.2 c2).1 c2 (wi_iinc1 f175_13 trivial ((h.2 c2).2.2 _ rfl).1 (wi_goto f175_14 ((h.2 c2).2.2 _ rfl).2))))))))))))))
theorem k_Model_starts {xs : List Int} {d : Nat} {Q : Option w_V → w_M → Prop}  {σ : w_M} (hp : p_Model_starts σ) (hQ : ∀ σ' : w_M, q_Model_starts σ σ' → Q none σ') : w_Call (xs, d) 175 [.inr (.inr (9, 122))] σ Q := by
  refine b175_0 ?_
  refine (w_loop (n := 82) (P := fun k => ∀ τ : w_M, w_f1 σ τ 124 → (∀ j, j < k → τ 124 j = σ 123 j) → L175_2 xs d Q (k : Int) τ) ?_ ?_) σ w_f1.rfl' (fun j hj => by omega)
  · intro τ F h
    refine b175_2 ⟨fun _ => hQ _ ⟨?_, F, h⟩, fun h => by omega⟩
    have h122 : τ 122 = σ 122 := F 122 (by decide)
    have hr : ∀ k, m_rl τ k = m_rl σ k := fun k => by unfold m_rl; rw [h122]
    funext k j
    unfold w_am
    rw [h122, hr, h 42 (by decide), h 41 (by decide), h 47 (by decide)]
    by_cases hj : j < m_rl σ k
    · obtain ⟨k10, j7, jL⟩ := m_rl_d hp hj
      have := (m_ix_sc k k10 j j7 jL).2.2.2
      rw [if_pos hj, if_pos hj, Nat.zero_add, h _ (by omega)]
    · rw [if_neg hj, if_neg hj]
  · intro k hk ih τ F h
    refine b175_2 ⟨fun h => by omega, fun _ => ⟨by omega, by omega, fun τ1 t1 => ⟨⟨by omega, by omega⟩, ?_⟩⟩⟩
    rw [← w_cs1]
    refine ih τ1 (by rw [t1]; exact F.up) (fun j hj => ?_)
    rw [t1, Int.toNat_natCast, w_up_eq]
    by_cases hjk : j = k
    · rw [if_pos ⟨rfl, hjk⟩, F 123 (by decide), hjk]
    · rw [if_neg (fun e => hjk e.2)]
      exact h j (by omega)
def p_Model_of (r k : Int) (_ : w_M) : Prop := (0 ≤ r ∧ r ≤ 3) ∧ (0 ≤ k ∧ k ≤ 4)
def p_Model_becomesOf (r k _v : Int) (_ : w_M) : Prop := (0 ≤ r ∧ r ≤ 3) ∧ (0 ≤ k ∧ k ≤ 4)
def q_Model_becomesOf (r k v : Int) (σ σ' : w_M) : Prop := σ' = w_up σ 124 (21 + 5 * r + k).toNat v
theorem f179_0 : w_fe am_c179 0 1 (.aload 0) := ⟨rfl, rfl⟩
theorem f179_1 : w_fe am_c179 1 2 (.getfield 901) := ⟨rfl, rfl⟩
theorem f179_2 : w_fe am_c179 2 3 (.bipush 21) := ⟨rfl, rfl⟩
theorem f179_3 : w_fe am_c179 3 4 (.bipush 5) := ⟨rfl, rfl⟩
theorem f179_4 : w_fe am_c179 4 5 (.iload 1) := ⟨rfl, rfl⟩
theorem f179_5 : w_fe am_c179 5 6 (.imul) := ⟨rfl, rfl⟩
theorem f179_6 : w_fe am_c179 6 7 (.iadd) := ⟨rfl, rfl⟩
theorem f179_7 : w_fe am_c179 7 8 (.iload 2) := ⟨rfl, rfl⟩
theorem f179_8 : w_fe am_c179 8 9 (.iadd) := ⟨rfl, rfl⟩
theorem f179_9 : w_fe am_c179 9 10 (.iaload) := ⟨rfl, rfl⟩
theorem f179_10 : w_fe am_c179 10 11 (.ireturn) := ⟨rfl, rfl⟩
set_option maxRecDepth 20000 in
theorem b179_0 {xs : List Int} {d : Nat} {Q : Option w_V → w_M → Prop} {x1 : Int} {x2 : Int} {σ : w_M}
    (h : w_in (5 * x1) ∧ w_in (21 + (5 * x1)) ∧ w_in ((21 + (5 * x1)) + x2) ∧ 0 ≤ ((21 + (5 * x1)) + x2) ∧ ((21 + (5 * x1)) + x2) < 82 ∧ Q (some (.inl (σ 124 ((21 + (5 * x1)) + x2).toNat))) σ) : w_Call (xs, d) 179 [.inr (.inr (9, 122)), .inl x1, .inl x2] σ Q :=
  (w_mk (mid := 179) (by decide) rfl rfl rfl rfl rfl (Nat.le_of_ble_eq_true rfl) ⟨rfl, Or.inl (by decide)⟩ (wi_aload0 f179_0 (wi_getf901 f179_1 (wi_bipush f179_2 (wi_bipush f179_3 (wi_iload1 f179_4 (wi_imul f179_5 h.1 (wi_iadd f179_6 h.2.1 (wi_iload2 f179_7 (wi_iadd f179_8 h.2.2.1 (wi_iald1082 f179_9 h.2.2.2.1 h.2.2.2.2.1 (wi_ret1 f179_10 h.2.2.2.2.2))))))))))))
theorem f200_0 : w_fe am_c200 0 1 (.aload 0) := ⟨rfl, rfl⟩
theorem f200_1 : w_fe am_c200 1 2 (.getfield 901) := ⟨rfl, rfl⟩
theorem f200_2 : w_fe am_c200 2 3 (.bipush 21) := ⟨rfl, rfl⟩
theorem f200_3 : w_fe am_c200 3 4 (.bipush 5) := ⟨rfl, rfl⟩
theorem f200_4 : w_fe am_c200 4 5 (.iload 1) := ⟨rfl, rfl⟩
theorem f200_5 : w_fe am_c200 5 6 (.imul) := ⟨rfl, rfl⟩
theorem f200_6 : w_fe am_c200 6 7 (.iadd) := ⟨rfl, rfl⟩
theorem f200_7 : w_fe am_c200 7 8 (.iload 2) := ⟨rfl, rfl⟩
theorem f200_8 : w_fe am_c200 8 9 (.iadd) := ⟨rfl, rfl⟩
theorem f200_9 : w_fe am_c200 9 10 (.iload 3) := ⟨rfl, rfl⟩
theorem f200_10 : w_fe am_c200 10 11 (.iastore) := ⟨rfl, rfl⟩
theorem f200_11 : w_fe am_c200 11 12 (.return_) := ⟨rfl, rfl⟩
set_option maxRecDepth 20000 in
theorem b200_0 {xs : List Int} {d : Nat} {Q : Option w_V → w_M → Prop} {x1 : Int} {x2 : Int} {x3 : Int} {σ : w_M}
    (h : w_in (5 * x1) ∧ w_in (21 + (5 * x1)) ∧ w_in ((21 + (5 * x1)) + x2) ∧ 0 ≤ ((21 + (5 * x1)) + x2) ∧ ((21 + (5 * x1)) + x2) < 82 ∧ (∀ (τ1 : w_M), τ1 = w_up σ 124 ((21 + (5 * x1)) + x2).toNat x3 → Q none τ1)) : w_Call (xs, d) 200 [.inr (.inr (9, 122)), .inl x1, .inl x2, .inl x3] σ Q :=
  (w_mk (mid := 200) (by decide) rfl rfl rfl rfl rfl (Nat.le_of_ble_eq_true rfl) ⟨rfl, Or.inl (by decide)⟩ (wi_aload0 f200_0 (wi_getf901 f200_1 (wi_bipush f200_2 (wi_bipush f200_3 (wi_iload1 f200_4 (wi_imul f200_5 h.1 (wi_iadd f200_6 h.2.1 (wi_iload2 f200_7 (wi_iadd f200_8 h.2.2.1 (wi_iload3 f200_9 (wi_iast1082 f200_10 h.2.2.2.1 h.2.2.2.2.1 (wi_ret0 f200_11 (h.2.2.2.2.2 _ rfl))))))))))))))
theorem k_Model_of {xs : List Int} {d : Nat} {Q : Option w_V → w_M → Prop} {x1 : Int} {x2 : Int} {σ : w_M} (hp : p_Model_of x1 x2 σ) (hQ : Q (some (.inl (σ 124 (21 + 5 * x1 + x2).toNat))) σ) : w_Call (xs, d) 179 [.inr (.inr (9, 122)), .inl x1, .inl x2] σ Q := by
  unfold p_Model_of at hp
  exact b179_0 ⟨⟨by omega, by omega⟩, ⟨by omega, by omega⟩, ⟨by omega, by omega⟩, by omega, by omega, hQ⟩
theorem k_Model_becomesOf {xs : List Int} {d : Nat} {Q : Option w_V → w_M → Prop} {x1 : Int} {x2 : Int} {x3 : Int} {σ : w_M} (hp : p_Model_becomesOf x1 x2 x3 σ) (hQ : ∀ σ' : w_M, q_Model_becomesOf x1 x2 x3 σ σ' → Q none σ') : w_Call (xs, d) 200 [.inr (.inr (9, 122)), .inl x1, .inl x2, .inl x3] σ Q := by
  unfold p_Model_becomesOf at hp
  exact b200_0 ⟨⟨by omega, by omega⟩, ⟨by omega, by omega⟩, ⟨by omega, by omega⟩, by omega, by omega, fun τ t => hQ _ t⟩
theorem m_rl12 {σ : w_M} {d : Nat} (h1 : 1 ≤ d) (h2 : d ≤ 2) : m_rl σ d = (σ 122 4).toNat := by
  unfold m_rl
  rw [if_neg (by omega), if_pos h2]
theorem m_rl37 {σ : w_M} {d : Nat} (h1 : 3 ≤ d) (h2 : d ≤ 7) : m_rl σ d = (σ 122 5).toNat := by
  unfold m_rl
  rw [if_neg (by omega), if_neg (by omega), if_pos h2]
theorem m_rl9 {σ : w_M} : m_rl σ 9 = (σ 122 4).toNat := rfl
def p_Model_standing (σ : w_M) : Prop := m_ok σ 124 0
def v_Model_standing (σ : w_M) : Int := n_sd (w_am σ 124 0)
theorem f176_0 : w_fe am_c176 0 1 (.bipush 0) := ⟨rfl, rfl⟩
theorem f176_1 : w_fe am_c176 1 2 (.istore 1) := ⟨rfl, rfl⟩
theorem f176_2 : w_fe am_c176 2 3 (.bipush 0) := ⟨rfl, rfl⟩
theorem f176_3 : w_fe am_c176 3 4 (.istore 2) := ⟨rfl, rfl⟩
theorem f176_4 : w_fe am_c176 4 5 (.iload 2) := ⟨rfl, rfl⟩
theorem f176_5 : w_fe am_c176 5 6 (.aload 0) := ⟨rfl, rfl⟩
theorem f176_6 : w_fe am_c176 6 7 (.getfield 904) := ⟨rfl, rfl⟩
theorem f176_7 : w_ic am_c176 7 8 .ge 19 := ⟨rfl, rfl⟩
theorem f176_8 : w_fe am_c176 8 9 (.iload 1) := ⟨rfl, rfl⟩
theorem f176_9 : w_fe am_c176 9 10 (.aload 0) := ⟨rfl, rfl⟩
theorem f176_10 : w_fe am_c176 10 11 (.getfield 901) := ⟨rfl, rfl⟩
theorem f176_11 : w_fe am_c176 11 12 (.bipush 0) := ⟨rfl, rfl⟩
theorem f176_12 : w_fe am_c176 12 13 (.iload 2) := ⟨rfl, rfl⟩
theorem f176_13 : w_fe am_c176 13 14 (.iadd) := ⟨rfl, rfl⟩
theorem f176_14 : w_fe am_c176 14 15 (.iaload) := ⟨rfl, rfl⟩
theorem f176_15 : w_fe am_c176 15 16 (.iadd) := ⟨rfl, rfl⟩
theorem f176_16 : w_fe am_c176 16 17 (.istore 1) := ⟨rfl, rfl⟩
theorem f176_17 : w_fe am_c176 17 18 (.iinc 2 1) := ⟨rfl, rfl⟩
theorem f176_18 : w_gt am_c176 18 4 := rfl
theorem f176_19 : w_fe am_c176 19 20 (.iload 1) := ⟨rfl, rfl⟩
theorem f176_20 : w_fe am_c176 20 21 (.ireturn) := ⟨rfl, rfl⟩
def L176_4 (xs : List Int) (d : Nat) (Q : Option w_V → w_M → Prop) (v1 : Int) (v2 : Int) (σ : w_M) : Prop := w_Ex (xs, d) 1 am_c176 Q 4 [some (.inr (.inr (9, 122))), some (.inl v1), some (.inl v2)] [] σ
set_option maxRecDepth 20000 in
theorem b176_0 {xs : List Int} {d : Nat} {Q : Option w_V → w_M → Prop}  {σ : w_M}
    (h : L176_4 xs d Q 0 0 σ) : w_Call (xs, d) 176 [.inr (.inr (9, 122))] σ Q :=
  (w_mk (mid := 176) (by decide) rfl rfl rfl rfl rfl (Nat.le_of_ble_eq_true rfl) ⟨rfl, Or.inl (by decide)⟩ (wi_bipush f176_0 (wi_istore1 f176_1 trivial (wi_bipush f176_2 (wi_istore2 f176_3 trivial h)))))
set_option maxRecDepth 20000 in
theorem b176_4 {xs : List Int} {d : Nat} {Q : Option w_V → w_M → Prop} {v1 : Int} {v2 : Int} {σ : w_M}
    (h : ((σ 122 4) ≤ v2 → Q (some (.inl v1)) σ) ∧ (v2 < (σ 122 4) → (w_in (0 + v2) ∧ 0 ≤ (0 + v2) ∧ (0 + v2) < 82 ∧ w_in (v1 + (σ 124 (0 + v2).toNat)) ∧ (∀ (y1 : Int), y1 = (v1 + (σ 124 (0 + v2).toNat)) → (w_in (v2 + 1) ∧ L176_4 xs d Q y1 (v2 + 1) σ))))) : L176_4 xs d Q v1 v2 σ :=
  (wi_iload2 f176_4 (wi_aload0 f176_5 (wi_getf904 f176_6 (wi_ic_ge f176_7 (fun c2 => (wi_iload1 f176_19 (wi_ret1 f176_20 (h.1 c2)))) (fun c2 => (wi_iload1 f176_8 (wi_aload0 f176_9 (wi_getf901 f176_10 (wi_bipush f176_11 (wi_iload2 f176_12 (wi_iadd f176_13 (h.2 c2).1 (wi_iald1082 f176_14 (h.2 c2).2.1 (h.2 c2).2.2.1 (wi_iadd f176_15 (h.2 c2).2.2.2.1 (wi_istore1 f176_16 trivial (wi_iinc2 f176_17 trivial ((h.2 c2).2.2.2.2 _ rfl).1 (wi_goto f176_18 ((h.2 c2).2.2.2.2 _ rfl).2))))))))))))))))
theorem k_Model_standing {xs : List Int} {d : Nat} {Q : Option w_V → w_M → Prop}  {σ : w_M} (hp : p_Model_standing σ) (hQ : Q (some (.inl (v_Model_standing σ))) σ) : w_Call (xs, d) 176 [.inr (.inr (9, 122))] σ Q := by
  refine b176_0 ?_
  have hs := m_ok.s hp
  refine w_loop (n := (σ 122 4).toNat) (P := fun i => L176_4 xs d Q (f_sum (w_am σ 124 0 1) i) (i : Int) σ) ?_ ?_
  · exact b176_4 ⟨fun _ => hQ, fun h => by omega⟩
  · intro i hi ih
    have e : σ 124 ((0 : Int) + (i : Int)).toNat = w_am σ 124 0 1 i := m_rd (by decide) (by rw [m_rl12 (by decide) (by decide)]; exact hi) (by show _ = 0 + i; omega)
    have h1 := (n_WF.i hp (show i < n_s (w_am σ 124 0) from hi)).1
    have h2 := f_sum_le (f := w_am σ 124 0 1) (B := 40) (m := n_s (w_am σ 124 0)) (fun i hi => (n_WF.i hp hi).1) (Nat.le_of_lt hi)
    refine b176_4 ⟨fun h => by omega, fun h => ⟨⟨by omega, by omega⟩, by omega, by omega, ?_, fun y e2 => ⟨⟨by omega, by omega⟩, ?_⟩⟩⟩
    · rw [e]; exact ⟨by omega, by omega⟩
    · rw [e2, e, ← w_cs1]; exact ih
def p_Model_nearest (f : Int) (σ : w_M) : Prop := m_ok σ 124 0 ∧ 0 ≤ f ∧ f ≤ 7
def v_Model_nearest (f : Int) (σ : w_M) : Int := n_near (w_am σ 124 0) f
theorem f199_0 : w_fe am_c199 0 1 (.bipush (-4)) := ⟨rfl, rfl⟩
theorem f199_1 : w_fe am_c199 1 2 (.istore 2) := ⟨rfl, rfl⟩
theorem f199_2 : w_fe am_c199 2 3 (.bipush 1000000) := ⟨rfl, rfl⟩
theorem f199_3 : w_fe am_c199 3 4 (.istore 3) := ⟨rfl, rfl⟩
theorem f199_4 : w_fe am_c199 4 5 (.bipush 0) := ⟨rfl, rfl⟩
theorem f199_5 : w_fe am_c199 5 6 (.istore 4) := ⟨rfl, rfl⟩
theorem f199_6 : w_fe am_c199 6 7 (.iload 4) := ⟨rfl, rfl⟩
theorem f199_7 : w_fe am_c199 7 8 (.aload 0) := ⟨rfl, rfl⟩
theorem f199_8 : w_fe am_c199 8 9 (.getfield 904) := ⟨rfl, rfl⟩
theorem f199_9 : w_ic am_c199 9 10 .ge 49 := ⟨rfl, rfl⟩
theorem f199_10 : w_fe am_c199 10 11 (.iload 4) := ⟨rfl, rfl⟩
theorem f199_11 : w_fe am_c199 11 12 (.iload 1) := ⟨rfl, rfl⟩
theorem f199_12 : w_ic am_c199 12 13 .ge 17 := ⟨rfl, rfl⟩
theorem f199_13 : w_fe am_c199 13 14 (.iload 1) := ⟨rfl, rfl⟩
theorem f199_14 : w_fe am_c199 14 15 (.iload 4) := ⟨rfl, rfl⟩
theorem f199_15 : w_fe am_c199 15 16 (.isub) := ⟨rfl, rfl⟩
theorem f199_16 : w_gt am_c199 16 20 := rfl
theorem f199_17 : w_fe am_c199 17 18 (.iload 4) := ⟨rfl, rfl⟩
theorem f199_18 : w_fe am_c199 18 19 (.iload 1) := ⟨rfl, rfl⟩
theorem f199_19 : w_fe am_c199 19 20 (.isub) := ⟨rfl, rfl⟩
theorem f199_20 : w_fe am_c199 20 21 (.istore 5) := ⟨rfl, rfl⟩
theorem f199_21 : w_fe am_c199 21 22 (.aload 0) := ⟨rfl, rfl⟩
theorem f199_22 : w_fe am_c199 22 23 (.getfield 901) := ⟨rfl, rfl⟩
theorem f199_23 : w_fe am_c199 23 24 (.bipush 0) := ⟨rfl, rfl⟩
theorem f199_24 : w_fe am_c199 24 25 (.iload 4) := ⟨rfl, rfl⟩
theorem f199_25 : w_fe am_c199 25 26 (.iadd) := ⟨rfl, rfl⟩
theorem f199_26 : w_fe am_c199 26 27 (.iaload) := ⟨rfl, rfl⟩
theorem f199_27 : w_if am_c199 27 28 .le 33 := ⟨rfl, rfl⟩
theorem f199_28 : w_fe am_c199 28 29 (.iload 5) := ⟨rfl, rfl⟩
theorem f199_29 : w_fe am_c199 29 30 (.iload 3) := ⟨rfl, rfl⟩
theorem f199_30 : w_ic am_c199 30 31 .ge 33 := ⟨rfl, rfl⟩
theorem f199_31 : w_fe am_c199 31 32 (.bipush 1) := ⟨rfl, rfl⟩
theorem f199_32 : w_gt am_c199 32 34 := rfl
theorem f199_33 : w_fe am_c199 33 34 (.bipush 0) := ⟨rfl, rfl⟩
theorem f199_34 : w_fe am_c199 34 35 (.istore 6) := ⟨rfl, rfl⟩
theorem f199_35 : w_fe am_c199 35 36 (.iload 6) := ⟨rfl, rfl⟩
theorem f199_36 : w_if am_c199 36 37 .eq 39 := ⟨rfl, rfl⟩
theorem f199_37 : w_fe am_c199 37 38 (.iload 4) := ⟨rfl, rfl⟩
theorem f199_38 : w_gt am_c199 38 40 := rfl
theorem f199_39 : w_fe am_c199 39 40 (.iload 2) := ⟨rfl, rfl⟩
theorem f199_40 : w_fe am_c199 40 41 (.istore 2) := ⟨rfl, rfl⟩
theorem f199_41 : w_fe am_c199 41 42 (.iload 6) := ⟨rfl, rfl⟩
theorem f199_42 : w_if am_c199 42 43 .eq 45 := ⟨rfl, rfl⟩
theorem f199_43 : w_fe am_c199 43 44 (.iload 5) := ⟨rfl, rfl⟩
theorem f199_44 : w_gt am_c199 44 46 := rfl
theorem f199_45 : w_fe am_c199 45 46 (.iload 3) := ⟨rfl, rfl⟩
theorem f199_46 : w_fe am_c199 46 47 (.istore 3) := ⟨rfl, rfl⟩
theorem f199_47 : w_fe am_c199 47 48 (.iinc 4 1) := ⟨rfl, rfl⟩
theorem f199_48 : w_gt am_c199 48 6 := rfl
theorem f199_49 : w_fe am_c199 49 50 (.iload 2) := ⟨rfl, rfl⟩
theorem f199_50 : w_fe am_c199 50 51 (.ireturn) := ⟨rfl, rfl⟩
def L199_6 (xs : List Int) (d : Nat) (Q : Option w_V → w_M → Prop) (v1 : Int) (v2 : Int) (v3 : Int) (v4 : Int) (σ : w_M) : Prop := ∀ l5, w_nl l5 → ∀ l6, w_nl l6 → w_Ex (xs, d) 1 am_c199 Q 6 [some (.inr (.inr (9, 122))), some (.inl v1), some (.inl v2), some (.inl v3), some (.inl v4), l5, l6] [] σ
set_option maxRecDepth 20000 in
theorem b199_0 {xs : List Int} {d : Nat} {Q : Option w_V → w_M → Prop} {x1 : Int} {σ : w_M}
    (h : L199_6 xs d Q x1 (-4) 1000000 0 σ) : w_Call (xs, d) 199 [.inr (.inr (9, 122)), .inl x1] σ Q :=
  (w_mk (mid := 199) (by decide) rfl rfl rfl rfl rfl (Nat.le_of_ble_eq_true rfl) ⟨rfl, Or.inl (by decide)⟩ (wi_bipush f199_0 (wi_istore2 f199_1 trivial (wi_bipush f199_2 (wi_istore3 f199_3 trivial (wi_bipush f199_4 (wi_istore4 f199_5 trivial (h _ (by exact trivial) _ (by exact trivial)))))))))
set_option maxRecDepth 20000 in
theorem b199_6 {xs : List Int} {d : Nat} {Q : Option w_V → w_M → Prop} {v1 : Int} {v2 : Int} {v3 : Int} {v4 : Int} {σ : w_M}
    (h : ((σ 122 4) ≤ v4 → Q (some (.inl v2)) σ) ∧ (v4 < (σ 122 4) → ((v1 ≤ v4 → (w_in (v4 - v1) ∧ (∀ (y1 : Int), y1 = (v4 - v1) → (w_in (0 + v4) ∧ 0 ≤ (0 + v4) ∧ (0 + v4) < 82 ∧ (((σ 124 (0 + v4).toNat) ≤ 0 → (w_in (v4 + 1) ∧ L199_6 xs d Q v1 v2 v3 (v4 + 1) σ)) ∧ (0 < (σ 124 (0 + v4).toNat) → ((v3 ≤ y1 → (w_in (v4 + 1) ∧ L199_6 xs d Q v1 v2 v3 (v4 + 1) σ)) ∧ (y1 < v3 → (w_in (v4 + 1) ∧ L199_6 xs d Q v1 v4 y1 (v4 + 1) σ))))))))) ∧ (v4 < v1 → (w_in (v1 - v4) ∧ (∀ (y4 : Int), y4 = (v1 - v4) → (w_in (0 + v4) ∧ 0 ≤ (0 + v4) ∧ (0 + v4) < 82 ∧ (((σ 124 (0 + v4).toNat) ≤ 0 → (w_in (v4 + 1) ∧ L199_6 xs d Q v1 v2 v3 (v4 + 1) σ)) ∧ (0 < (σ 124 (0 + v4).toNat) → ((v3 ≤ y4 → (w_in (v4 + 1) ∧ L199_6 xs d Q v1 v2 v3 (v4 + 1) σ)) ∧ (y4 < v3 → (w_in (v4 + 1) ∧ L199_6 xs d Q v1 v4 y4 (v4 + 1) σ)))))))))))) : L199_6 xs d Q v1 v2 v3 v4 σ :=
  fun l5 nl5 => fun l6 nl6 => (wi_iload4 f199_6 (wi_aload0 f199_7 (wi_getf904 f199_8 (wi_ic_ge f199_9 (fun c8 => (wi_iload2 f199_49 (wi_ret1 f199_50 (h.1 c8)))) (fun c8 => (wi_iload4 f199_10 (wi_iload1 f199_11 (wi_ic_ge f199_12 (fun c7 => (wi_iload4 f199_17 (wi_iload1 f199_18 (wi_isub f199_19 ((h.2 c8).1 c7).1 (wi_istore5 f199_20 trivial (wi_aload0 f199_21 (wi_getf901 f199_22 (wi_bipush f199_23 (wi_iload4 f199_24 (wi_iadd f199_25 (((h.2 c8).1 c7).2 _ rfl).1 (wi_iald1082 f199_26 (((h.2 c8).1 c7).2 _ rfl).2.1 (((h.2 c8).1 c7).2 _ rfl).2.2.1 (wi_if_le f199_27 (fun c3 => (wi_bipush f199_33 (wi_istore6 f199_34 trivial (wi_iload6 f199_35 (wi_if_eq f199_36 (fun _ => (wi_iload2 f199_39 (wi_istore2 f199_40 trivial (wi_iload6 f199_41 (wi_if_eq f199_42 (fun _ => (wi_iload3 f199_45 (wi_istore3 f199_46 trivial (wi_iinc4 f199_47 trivial ((((h.2 c8).1 c7).2 _ rfl).2.2.2.1 c3).1 (wi_goto f199_48 (((((h.2 c8).1 c7).2 _ rfl).2.2.2.1 c3).2 _ (by exact trivial) _ (by exact trivial))))))) (fun e => absurd e (by decide))))))) (fun e => absurd e (by decide))))))) (fun c3 => (wi_iload5 f199_28 (wi_iload3 f199_29 (wi_ic_ge f199_30 (fun c2 => (wi_bipush f199_33 (wi_istore6 f199_34 trivial (wi_iload6 f199_35 (wi_if_eq f199_36 (fun _ => (wi_iload2 f199_39 (wi_istore2 f199_40 trivial (wi_iload6 f199_41 (wi_if_eq f199_42 (fun _ => (wi_iload3 f199_45 (wi_istore3 f199_46 trivial (wi_iinc4 f199_47 trivial (((((h.2 c8).1 c7).2 _ rfl).2.2.2.2 c3).1 c2).1 (wi_goto f199_48 ((((((h.2 c8).1 c7).2 _ rfl).2.2.2.2 c3).1 c2).2 _ (by exact trivial) _ (by exact trivial))))))) (fun e => absurd e (by decide))))))) (fun e => absurd e (by decide))))))) (fun c2 => (wi_bipush f199_31 (wi_goto f199_32 (wi_istore6 f199_34 trivial (wi_iload6 f199_35 (wi_if_eq f199_36 (fun e => absurd e (by decide)) (fun _ => (wi_iload4 f199_37 (wi_goto f199_38 (wi_istore2 f199_40 trivial (wi_iload6 f199_41 (wi_if_eq f199_42 (fun e => absurd e (by decide)) (fun _ => (wi_iload5 f199_43 (wi_goto f199_44 (wi_istore3 f199_46 trivial (wi_iinc4 f199_47 trivial (((((h.2 c8).1 c7).2 _ rfl).2.2.2.2 c3).2 c2).1 (wi_goto f199_48 ((((((h.2 c8).1 c7).2 _ rfl).2.2.2.2 c3).2 c2).2 _ (by exact trivial) _ (by exact trivial)))))))))))))))))))))))))))))))))))) (fun c7 => (wi_iload1 f199_13 (wi_iload4 f199_14 (wi_isub f199_15 ((h.2 c8).2 c7).1 (wi_goto f199_16 (wi_istore5 f199_20 trivial (wi_aload0 f199_21 (wi_getf901 f199_22 (wi_bipush f199_23 (wi_iload4 f199_24 (wi_iadd f199_25 (((h.2 c8).2 c7).2 _ rfl).1 (wi_iald1082 f199_26 (((h.2 c8).2 c7).2 _ rfl).2.1 (((h.2 c8).2 c7).2 _ rfl).2.2.1 (wi_if_le f199_27 (fun c6 => (wi_bipush f199_33 (wi_istore6 f199_34 trivial (wi_iload6 f199_35 (wi_if_eq f199_36 (fun _ => (wi_iload2 f199_39 (wi_istore2 f199_40 trivial (wi_iload6 f199_41 (wi_if_eq f199_42 (fun _ => (wi_iload3 f199_45 (wi_istore3 f199_46 trivial (wi_iinc4 f199_47 trivial ((((h.2 c8).2 c7).2 _ rfl).2.2.2.1 c6).1 (wi_goto f199_48 (((((h.2 c8).2 c7).2 _ rfl).2.2.2.1 c6).2 _ (by exact trivial) _ (by exact trivial))))))) (fun e => absurd e (by decide))))))) (fun e => absurd e (by decide))))))) (fun c6 => (wi_iload5 f199_28 (wi_iload3 f199_29 (wi_ic_ge f199_30 (fun c5 => (wi_bipush f199_33 (wi_istore6 f199_34 trivial (wi_iload6 f199_35 (wi_if_eq f199_36 (fun _ => (wi_iload2 f199_39 (wi_istore2 f199_40 trivial (wi_iload6 f199_41 (wi_if_eq f199_42 (fun _ => (wi_iload3 f199_45 (wi_istore3 f199_46 trivial (wi_iinc4 f199_47 trivial (((((h.2 c8).2 c7).2 _ rfl).2.2.2.2 c6).1 c5).1 (wi_goto f199_48 ((((((h.2 c8).2 c7).2 _ rfl).2.2.2.2 c6).1 c5).2 _ (by exact trivial) _ (by exact trivial))))))) (fun e => absurd e (by decide))))))) (fun e => absurd e (by decide))))))) (fun c5 => (wi_bipush f199_31 (wi_goto f199_32 (wi_istore6 f199_34 trivial (wi_iload6 f199_35 (wi_if_eq f199_36 (fun e => absurd e (by decide)) (fun _ => (wi_iload4 f199_37 (wi_goto f199_38 (wi_istore2 f199_40 trivial (wi_iload6 f199_41 (wi_if_eq f199_42 (fun e => absurd e (by decide)) (fun _ => (wi_iload5 f199_43 (wi_goto f199_44 (wi_istore3 f199_46 trivial (wi_iinc4 f199_47 trivial (((((h.2 c8).2 c7).2 _ rfl).2.2.2.2 c6).2 c5).1 (wi_goto f199_48 ((((((h.2 c8).2 c7).2 _ rfl).2.2.2.2 c6).2 c5).2 _ (by exact trivial) _ (by exact trivial)))))))))))))))))))))))))))))))))))))))))))))
theorem k_Model_nearest {xs : List Int} {d : Nat} {Q : Option w_V → w_M → Prop} {x1 : Int} {σ : w_M} (hp : p_Model_nearest x1 σ) (hQ : Q (some (.inl (v_Model_nearest x1 σ))) σ) : w_Call (xs, d) 199 [.inr (.inr (9, 122)), .inl x1] σ Q := by
  obtain ⟨hok, f0, f1⟩ := hp
  have hs := m_ok.s hok
  refine b199_0 ?_
  refine w_loop (n := (σ 122 4).toNat) (P := fun k => L199_6 xs d Q x1 (n_nearF (w_am σ 124 0) x1 k).1 (n_nearF (w_am σ 124 0) x1 k).2 (k : Int) σ) ?_ ?_
  · exact b199_6 ⟨fun _ => hQ, fun h => by omega⟩
  · intro k hk ih
    have e : σ 124 ((0 : Int) + (k : Int)).toNat = w_am σ 124 0 1 k := m_rd (by decide) (by rw [m_rl12 (by decide) (by decide)]; exact hk) (by show _ = 0 + k; omega)
    simp only [n_nearF] at ih
    rw [w_cs1] at ih
    refine b199_6 ⟨fun h => by omega, fun h => ⟨fun c => ⟨⟨by omega, by omega⟩, fun y ey => ⟨⟨by omega, by omega⟩, by omega, by omega, ?_⟩⟩, fun c => ⟨⟨by omega, by omega⟩, fun y ey => ⟨⟨by omega, by omega⟩, by omega, by omega, ?_⟩⟩⟩⟩
    · rw [if_neg (show ¬ (k : Int) < x1 by omega), ← ey] at ih
      rw [e]
      refine ⟨fun c2 => ⟨⟨by omega, by omega⟩, ?_⟩, fun c2 => ⟨fun c3 => ⟨⟨by omega, by omega⟩, ?_⟩, fun c3 => ⟨⟨by omega, by omega⟩, ?_⟩⟩⟩
      · rw [if_neg (by omega)] at ih; exact ih
      · rw [if_neg (by omega)] at ih; exact ih
      · rw [if_pos ⟨c2, c3⟩] at ih; exact ih
    · rw [if_pos (show (k : Int) < x1 by omega), ← ey] at ih
      rw [e]
      refine ⟨fun c2 => ⟨⟨by omega, by omega⟩, ?_⟩, fun c2 => ⟨fun c3 => ⟨⟨by omega, by omega⟩, ?_⟩, fun c3 => ⟨⟨by omega, by omega⟩, ?_⟩⟩⟩
      · rw [if_neg (by omega)] at ih; exact ih
      · rw [if_neg (by omega)] at ih; exact ih
      · rw [if_pos ⟨c2, c3⟩] at ih; exact ih
def m_cut (A : w_M) (r : Nat) (c : Int) : w_M := n_cut (w_up (w_up A 5 r (A 5 r - 1)) 4 r (A 4 r - c)) r (A 6 r).toNat
def p_Model_cuts (r c : Int) (σ : w_M) : Prop := m_ok σ 124 0 ∧ (0 ≤ r ∧ r < σ 122 5) ∧ (c = 0 ∨ c = 1)
def q_Model_cuts (r c : Int) (σ σ' : w_M) : Prop := w_am σ' 124 0 = m_cut (w_am σ 124 0) r.toNat c ∧ w_g1 σ σ'
def w_c201 : List Instr := [.aload 0, .iload 1, .bipush 3, .invokestatic 179, .istore 3, .aload 0, .getfield 901, .bipush 14, .iload 3, .iadd, .iaload, .bipush 1, .if_icmp .ne 22, .aload 0, .iload 1, .bipush 0, .invokestatic 179, .bipush 1, .iadd, .bipush 2, .idiv, .goto 26, .aload 0, .iload 1, .bipush 0, .invokestatic 179, .istore 4, .iload 4, .aload 0, .getfield 901, .bipush 0, .iload 3, .iadd, .iaload, .if_icmp .ge 37, .iload 4, .goto 43, .aload 0, .getfield 901, .bipush 0, .iload 3, .iadd, .iaload, .istore 5, .aload 0, .getfield 901, .bipush 0, .iload 3, .iadd, .dup2, .iaload, .iload 5, .isub, .iastore, .aload 0, .iload 1, .bipush 4, .aload 0, .iload 1, .bipush 4, .invokestatic 179, .iload 5, .fadd, .invokestatic 200, .aload 0, .getfield 901, .bipush 43, .aload 0, .getfield 901, .bipush 7, .iload 3, .iadd, .iaload, .iadd, .dup2, .iaload, .iload 5, .fadd, .iastore, .aload 0, .getfield 901, .bipush 47, .iload 1, .iastore, .aload 0, .iload 1, .bipush 2, .aload 0, .iload 1, .bipush 2, .invokestatic 179, .bipush 1, .isub, .invokestatic 200, .aload 0, .iload 1, .bipush 1, .aload 0, .iload 1, .bipush 1, .invokestatic 179, .iload 2, .invokestatic 180, .isub, .invokestatic 200, .return_]
theorem f201_0 : w_fe w_c201 0 1 (.aload 0) := ⟨rfl, rfl⟩
theorem f201_1 : w_fe w_c201 1 2 (.iload 1) := ⟨rfl, rfl⟩
theorem f201_2 : w_fe w_c201 2 3 (.bipush 3) := ⟨rfl, rfl⟩
theorem f201_3 : w_fe w_c201 3 4 (.invokestatic 179) := ⟨rfl, rfl⟩
theorem f201_4 : w_fe w_c201 4 5 (.istore 3) := ⟨rfl, rfl⟩
theorem f201_5 : w_fe w_c201 5 6 (.aload 0) := ⟨rfl, rfl⟩
theorem f201_6 : w_fe w_c201 6 7 (.getfield 901) := ⟨rfl, rfl⟩
theorem f201_7 : w_fe w_c201 7 8 (.bipush 14) := ⟨rfl, rfl⟩
theorem f201_8 : w_fe w_c201 8 9 (.iload 3) := ⟨rfl, rfl⟩
theorem f201_9 : w_fe w_c201 9 10 (.iadd) := ⟨rfl, rfl⟩
theorem f201_10 : w_fe w_c201 10 11 (.iaload) := ⟨rfl, rfl⟩
theorem f201_11 : w_fe w_c201 11 12 (.bipush 1) := ⟨rfl, rfl⟩
theorem f201_12 : w_ic w_c201 12 13 .ne 22 := ⟨rfl, rfl⟩
theorem f201_13 : w_fe w_c201 13 14 (.aload 0) := ⟨rfl, rfl⟩
theorem f201_14 : w_fe w_c201 14 15 (.iload 1) := ⟨rfl, rfl⟩
theorem f201_15 : w_fe w_c201 15 16 (.bipush 0) := ⟨rfl, rfl⟩
theorem f201_16 : w_fe w_c201 16 17 (.invokestatic 179) := ⟨rfl, rfl⟩
theorem f201_17 : w_fe w_c201 17 18 (.bipush 1) := ⟨rfl, rfl⟩
theorem f201_18 : w_fe w_c201 18 19 (.iadd) := ⟨rfl, rfl⟩
theorem f201_19 : w_fe w_c201 19 20 (.bipush 2) := ⟨rfl, rfl⟩
theorem f201_20 : w_fe w_c201 20 21 (.idiv) := ⟨rfl, rfl⟩
theorem f201_21 : w_gt w_c201 21 26 := rfl
theorem f201_22 : w_fe w_c201 22 23 (.aload 0) := ⟨rfl, rfl⟩
theorem f201_23 : w_fe w_c201 23 24 (.iload 1) := ⟨rfl, rfl⟩
theorem f201_24 : w_fe w_c201 24 25 (.bipush 0) := ⟨rfl, rfl⟩
theorem f201_25 : w_fe w_c201 25 26 (.invokestatic 179) := ⟨rfl, rfl⟩
theorem f201_26 : w_fe w_c201 26 27 (.istore 4) := ⟨rfl, rfl⟩
theorem f201_27 : w_fe w_c201 27 28 (.iload 4) := ⟨rfl, rfl⟩
theorem f201_28 : w_fe w_c201 28 29 (.aload 0) := ⟨rfl, rfl⟩
theorem f201_29 : w_fe w_c201 29 30 (.getfield 901) := ⟨rfl, rfl⟩
theorem f201_30 : w_fe w_c201 30 31 (.bipush 0) := ⟨rfl, rfl⟩
theorem f201_31 : w_fe w_c201 31 32 (.iload 3) := ⟨rfl, rfl⟩
theorem f201_32 : w_fe w_c201 32 33 (.iadd) := ⟨rfl, rfl⟩
theorem f201_33 : w_fe w_c201 33 34 (.iaload) := ⟨rfl, rfl⟩
theorem f201_34 : w_ic w_c201 34 35 .ge 37 := ⟨rfl, rfl⟩
theorem f201_35 : w_fe w_c201 35 36 (.iload 4) := ⟨rfl, rfl⟩
theorem f201_36 : w_gt w_c201 36 43 := rfl
theorem f201_37 : w_fe w_c201 37 38 (.aload 0) := ⟨rfl, rfl⟩
theorem f201_38 : w_fe w_c201 38 39 (.getfield 901) := ⟨rfl, rfl⟩
theorem f201_39 : w_fe w_c201 39 40 (.bipush 0) := ⟨rfl, rfl⟩
theorem f201_40 : w_fe w_c201 40 41 (.iload 3) := ⟨rfl, rfl⟩
theorem f201_41 : w_fe w_c201 41 42 (.iadd) := ⟨rfl, rfl⟩
theorem f201_42 : w_fe w_c201 42 43 (.iaload) := ⟨rfl, rfl⟩
theorem f201_43 : w_fe w_c201 43 44 (.istore 5) := ⟨rfl, rfl⟩
theorem f201_44 : w_fe w_c201 44 45 (.aload 0) := ⟨rfl, rfl⟩
theorem f201_45 : w_fe w_c201 45 46 (.getfield 901) := ⟨rfl, rfl⟩
theorem f201_46 : w_fe w_c201 46 47 (.bipush 0) := ⟨rfl, rfl⟩
theorem f201_47 : w_fe w_c201 47 48 (.iload 3) := ⟨rfl, rfl⟩
theorem f201_48 : w_fe w_c201 48 49 (.iadd) := ⟨rfl, rfl⟩
theorem f201_49 : w_fe w_c201 49 50 (.dup2) := ⟨rfl, rfl⟩
theorem f201_50 : w_fe w_c201 50 51 (.iaload) := ⟨rfl, rfl⟩
theorem f201_51 : w_fe w_c201 51 52 (.iload 5) := ⟨rfl, rfl⟩
theorem f201_52 : w_fe w_c201 52 53 (.isub) := ⟨rfl, rfl⟩
theorem f201_53 : w_fe w_c201 53 54 (.iastore) := ⟨rfl, rfl⟩
theorem f201_54 : w_fe w_c201 54 55 (.aload 0) := ⟨rfl, rfl⟩
theorem f201_55 : w_fe w_c201 55 56 (.iload 1) := ⟨rfl, rfl⟩
theorem f201_56 : w_fe w_c201 56 57 (.bipush 4) := ⟨rfl, rfl⟩
theorem f201_57 : w_fe w_c201 57 58 (.aload 0) := ⟨rfl, rfl⟩
theorem f201_58 : w_fe w_c201 58 59 (.iload 1) := ⟨rfl, rfl⟩
theorem f201_59 : w_fe w_c201 59 60 (.bipush 4) := ⟨rfl, rfl⟩
theorem f201_60 : w_fe w_c201 60 61 (.invokestatic 179) := ⟨rfl, rfl⟩
theorem f201_61 : w_fe w_c201 61 62 (.iload 5) := ⟨rfl, rfl⟩
theorem f201_62 : w_fe w_c201 62 63 (.fadd) := ⟨rfl, rfl⟩
theorem f201_63 : w_fe w_c201 63 64 (.invokestatic 200) := ⟨rfl, rfl⟩
theorem f201_64 : w_fe w_c201 64 65 (.aload 0) := ⟨rfl, rfl⟩
theorem f201_65 : w_fe w_c201 65 66 (.getfield 901) := ⟨rfl, rfl⟩
theorem f201_66 : w_fe w_c201 66 67 (.bipush 43) := ⟨rfl, rfl⟩
theorem f201_67 : w_fe w_c201 67 68 (.aload 0) := ⟨rfl, rfl⟩
theorem f201_68 : w_fe w_c201 68 69 (.getfield 901) := ⟨rfl, rfl⟩
theorem f201_69 : w_fe w_c201 69 70 (.bipush 7) := ⟨rfl, rfl⟩
theorem f201_70 : w_fe w_c201 70 71 (.iload 3) := ⟨rfl, rfl⟩
theorem f201_71 : w_fe w_c201 71 72 (.iadd) := ⟨rfl, rfl⟩
theorem f201_72 : w_fe w_c201 72 73 (.iaload) := ⟨rfl, rfl⟩
theorem f201_73 : w_fe w_c201 73 74 (.iadd) := ⟨rfl, rfl⟩
theorem f201_74 : w_fe w_c201 74 75 (.dup2) := ⟨rfl, rfl⟩
theorem f201_75 : w_fe w_c201 75 76 (.iaload) := ⟨rfl, rfl⟩
theorem f201_76 : w_fe w_c201 76 77 (.iload 5) := ⟨rfl, rfl⟩
theorem f201_77 : w_fe w_c201 77 78 (.fadd) := ⟨rfl, rfl⟩
theorem f201_78 : w_fe w_c201 78 79 (.iastore) := ⟨rfl, rfl⟩
theorem f201_79 : w_fe w_c201 79 80 (.aload 0) := ⟨rfl, rfl⟩
theorem f201_80 : w_fe w_c201 80 81 (.getfield 901) := ⟨rfl, rfl⟩
theorem f201_81 : w_fe w_c201 81 82 (.bipush 47) := ⟨rfl, rfl⟩
theorem f201_82 : w_fe w_c201 82 83 (.iload 1) := ⟨rfl, rfl⟩
theorem f201_83 : w_fe w_c201 83 84 (.iastore) := ⟨rfl, rfl⟩
theorem f201_84 : w_fe w_c201 84 85 (.aload 0) := ⟨rfl, rfl⟩
theorem f201_85 : w_fe w_c201 85 86 (.iload 1) := ⟨rfl, rfl⟩
theorem f201_86 : w_fe w_c201 86 87 (.bipush 2) := ⟨rfl, rfl⟩
theorem f201_87 : w_fe w_c201 87 88 (.aload 0) := ⟨rfl, rfl⟩
theorem f201_88 : w_fe w_c201 88 89 (.iload 1) := ⟨rfl, rfl⟩
theorem f201_89 : w_fe w_c201 89 90 (.bipush 2) := ⟨rfl, rfl⟩
theorem f201_90 : w_fe w_c201 90 91 (.invokestatic 179) := ⟨rfl, rfl⟩
theorem f201_91 : w_fe w_c201 91 92 (.bipush 1) := ⟨rfl, rfl⟩
theorem f201_92 : w_fe w_c201 92 93 (.isub) := ⟨rfl, rfl⟩
theorem f201_93 : w_fe w_c201 93 94 (.invokestatic 200) := ⟨rfl, rfl⟩
theorem f201_94 : w_fe w_c201 94 95 (.aload 0) := ⟨rfl, rfl⟩
theorem f201_95 : w_fe w_c201 95 96 (.iload 1) := ⟨rfl, rfl⟩
theorem f201_96 : w_fe w_c201 96 97 (.bipush 1) := ⟨rfl, rfl⟩
theorem f201_97 : w_fe w_c201 97 98 (.aload 0) := ⟨rfl, rfl⟩
theorem f201_98 : w_fe w_c201 98 99 (.iload 1) := ⟨rfl, rfl⟩
theorem f201_99 : w_fe w_c201 99 100 (.bipush 1) := ⟨rfl, rfl⟩
theorem f201_100 : w_fe w_c201 100 101 (.invokestatic 179) := ⟨rfl, rfl⟩
theorem f201_101 : w_fe w_c201 101 102 (.iload 2) := ⟨rfl, rfl⟩
theorem f201_102 : w_fe w_c201 102 103 (.invokestatic 180) := ⟨rfl, rfl⟩
theorem f201_103 : w_fe w_c201 103 104 (.isub) := ⟨rfl, rfl⟩
theorem f201_104 : w_fe w_c201 104 105 (.invokestatic 200) := ⟨rfl, rfl⟩
theorem f201_105 : w_fe w_c201 105 106 (.return_) := ⟨rfl, rfl⟩
def L201_27 (xs : List Int) (d : Nat) (Q : Option w_V → w_M → Prop) (v1 : Int) (v2 : Int) (v3 : Int) (v4 : Int) (σ : w_M) : Prop := ∀ l5, w_nl l5 → w_Ex (xs, d) 0 w_c201 Q 27 [some (.inr (.inr (9, 122))), some (.inl v1), some (.inl v2), some (.inl v3), some (.inl v4), l5] [] σ
def L201_44 (xs : List Int) (d : Nat) (Q : Option w_V → w_M → Prop) (v1 : Int) (v2 : Int) (v3 : Int) (v5 : Int) (σ : w_M) : Prop := ∀ l4, w_nl l4 → w_Ex (xs, d) 0 w_c201 Q 44 [some (.inr (.inr (9, 122))), some (.inl v1), some (.inl v2), some (.inl v3), l4, some (.inl v5)] [] σ
set_option maxRecDepth 20000 in
theorem b201_0 {xs : List Int} {d : Nat} {Q : Option w_V → w_M → Prop} {x1 : Int} {x2 : Int} {σ : w_M}
    (h : p_Model_of x1 3 σ ∧ (∀ (y1 : Int), y1 = (σ 124 (21 + 5 * x1 + 3).toNat) → (w_in (14 + y1) ∧ 0 ≤ (14 + y1) ∧ (14 + y1) < 82 ∧ ((¬ (σ 124 (14 + y1).toNat) = 1 → (p_Model_of x1 0 σ ∧ (∀ (y2 : Int), y2 = (σ 124 (21 + 5 * x1 + 0).toNat) → L201_27 xs (d + 1) Q x1 x2 y1 y2 σ))) ∧ ((σ 124 (14 + y1).toNat) = 1 → (p_Model_of x1 0 σ ∧ w_in ((σ 124 (21 + 5 * x1 + 0).toNat) + 1) ∧ w_in (((σ 124 (21 + 5 * x1 + 0).toNat) + 1).tdiv 2) ∧ (∀ (y3 : Int), y3 = (((σ 124 (21 + 5 * x1 + 0).toNat) + 1).tdiv 2) → L201_27 xs (d + 1) Q x1 x2 y1 y3 σ))))))) : w_Call (xs, (d + 1)) 201 [.inr (.inr (9, 122)), .inl x1, .inl x2] σ Q :=
  (w_mk (mid := 201) (by decide) rfl rfl rfl rfl rfl (Nat.le_of_ble_eq_true rfl) ⟨rfl, Or.inl (by decide)⟩ (wi_aload0 f201_0 (wi_iload1 f201_1 (wi_bipush f201_2 (wi_call3 f201_3 (Nat.le_of_ble_eq_true rfl) (k_Model_of h.1 (wi_istore3 f201_4 trivial (wi_aload0 f201_5 (wi_getf901 f201_6 (wi_bipush f201_7 (wi_iload3 f201_8 (wi_iadd f201_9 (h.2 _ rfl).1 (wi_iald1082 f201_10 (h.2 _ rfl).2.1 (h.2 _ rfl).2.2.1 (wi_bipush f201_11 (wi_ic_ne f201_12 (fun c4 => (wi_aload0 f201_22 (wi_iload1 f201_23 (wi_bipush f201_24 (wi_call3 f201_25 (Nat.le_of_ble_eq_true rfl) (k_Model_of ((h.2 _ rfl).2.2.2.1 c4).1 (wi_istore4 f201_26 trivial ((((h.2 _ rfl).2.2.2.1 c4).2 _ rfl) _ (by exact trivial))))))))) (fun c4 => (wi_aload0 f201_13 (wi_iload1 f201_14 (wi_bipush f201_15 (wi_call3 f201_16 (Nat.le_of_ble_eq_true rfl) (k_Model_of ((h.2 _ rfl).2.2.2.2 c4).1 (wi_bipush f201_17 (wi_iadd f201_18 ((h.2 _ rfl).2.2.2.2 c4).2.1 (wi_bipush f201_19 (wi_idiv f201_20 (by decide) ((h.2 _ rfl).2.2.2.2 c4).2.2.1 (wi_goto f201_21 (wi_istore4 f201_26 trivial ((((h.2 _ rfl).2.2.2.2 c4).2.2.2 _ rfl) _ (by exact trivial)))))))))))))))))))))))))))))
set_option maxRecDepth 20000 in
theorem b201_27 {xs : List Int} {d : Nat} {Q : Option w_V → w_M → Prop} {v1 : Int} {v2 : Int} {v3 : Int} {v4 : Int} {σ : w_M}
    (h : w_in (0 + v3) ∧ 0 ≤ (0 + v3) ∧ (0 + v3) < 82 ∧ (((σ 124 (0 + v3).toNat) ≤ v4 → ∀ (y1 : Int), y1 = (σ 124 (0 + v3).toNat) → L201_44 xs (d + 1) Q v1 v2 v3 y1 σ) ∧ (v4 < (σ 124 (0 + v3).toNat) → L201_44 xs (d + 1) Q v1 v2 v3 v4 σ))) : L201_27 xs (d + 1) Q v1 v2 v3 v4 σ :=
  fun l5 nl5 => (wi_iload4 f201_27 (wi_aload0 f201_28 (wi_getf901 f201_29 (wi_bipush f201_30 (wi_iload3 f201_31 (wi_iadd f201_32 h.1 (wi_iald1082 f201_33 h.2.1 h.2.2.1 (wi_ic_ge f201_34 (fun c2 => (wi_aload0 f201_37 (wi_getf901 f201_38 (wi_bipush f201_39 (wi_iload3 f201_40 (wi_iadd f201_41 h.1 (wi_iald1082 f201_42 h.2.1 h.2.2.1 (wi_istore5 f201_43 trivial (((h.2.2.2.1 c2) _ rfl) _ (by exact trivial)))))))))) (fun c2 => (wi_iload4 f201_35 (wi_goto f201_36 (wi_istore5 f201_43 trivial ((h.2.2.2.2 c2) _ (by exact trivial))))))))))))))
set_option maxRecDepth 20000 in
theorem b201_44 {xs : List Int} {d : Nat} {Q : Option w_V → w_M → Prop} {v1 : Int} {v2 : Int} {v3 : Int} {v5 : Int} {σ : w_M}
    (h : w_in (0 + v3) ∧ 0 ≤ (0 + v3) ∧ (0 + v3) < 82 ∧ w_in ((σ 124 (0 + v3).toNat) - v5) ∧ (∀ (τ1 : w_M), τ1 = w_up σ 124 (0 + v3).toNat ((σ 124 (0 + v3).toNat) - v5) → (p_Model_of v1 4 τ1 ∧ p_Model_becomesOf v1 4 (w_wr ((τ1 124 (21 + 5 * v1 + 4).toNat) + v5)) τ1 ∧ (∀ (τ2 : w_M), q_Model_becomesOf v1 4 (w_wr ((τ1 124 (21 + 5 * v1 + 4).toNat) + v5)) τ1 τ2 → (w_in (7 + v3) ∧ 0 ≤ (7 + v3) ∧ (7 + v3) < 82 ∧ w_in (43 + (τ2 124 (7 + v3).toNat)) ∧ 0 ≤ (43 + (τ2 124 (7 + v3).toNat)) ∧ (43 + (τ2 124 (7 + v3).toNat)) < 82 ∧ (∀ (τ3 : w_M), τ3 = w_up τ2 124 (43 + (τ2 124 (7 + v3).toNat)).toNat (w_wr ((τ2 124 (43 + (τ2 124 (7 + v3).toNat)).toNat) + v5)) → ∀ (τ4 : w_M), τ4 = w_up τ3 124 47 v1 → (p_Model_of v1 2 τ4 ∧ w_in ((τ4 124 (21 + 5 * v1 + 2).toNat) - 1) ∧ p_Model_becomesOf v1 2 ((τ4 124 (21 + 5 * v1 + 2).toNat) - 1) τ4 ∧ (∀ (τ5 : w_M), q_Model_becomesOf v1 2 ((τ4 124 (21 + 5 * v1 + 2).toNat) - 1) τ4 τ5 → (p_Model_of v1 1 τ5 ∧ (∀ (y6 : Int), y6 = v_Model_flag v2 → (w_in ((τ5 124 (21 + 5 * v1 + 1).toNat) - y6) ∧ p_Model_becomesOf v1 1 ((τ5 124 (21 + 5 * v1 + 1).toNat) - y6) τ5 ∧ (∀ (τ7 : w_M), q_Model_becomesOf v1 1 ((τ5 124 (21 + 5 * v1 + 1).toNat) - y6) τ5 τ7 → Q none τ7)))))))))))) : L201_44 xs (d + 1) Q v1 v2 v3 v5 σ :=
  fun l4 nl4 => (wi_aload0 f201_44 (wi_getf901 f201_45 (wi_bipush f201_46 (wi_iload3 f201_47 (wi_iadd f201_48 h.1 (wi_dup2 f201_49 (wi_iald1082 f201_50 h.2.1 h.2.2.1 (wi_iload5 f201_51 (wi_isub f201_52 h.2.2.2.1 (wi_iast1082 f201_53 h.2.1 h.2.2.1 (wi_aload0 f201_54 (wi_iload1 f201_55 (wi_bipush f201_56 (wi_aload0 f201_57 (wi_iload1 f201_58 (wi_bipush f201_59 (wi_call3 f201_60 (Nat.le_of_ble_eq_true rfl) (k_Model_of (h.2.2.2.2 _ rfl).1 (wi_iload5 f201_61 (wi_fadd f201_62 (wi_call4 f201_63 (Nat.le_of_ble_eq_true rfl) (k_Model_becomesOf (h.2.2.2.2 _ rfl).2.1 (fun τ2 eτ2 => (wi_aload0 f201_64 (wi_getf901 f201_65 (wi_bipush f201_66 (wi_aload0 f201_67 (wi_getf901 f201_68 (wi_bipush f201_69 (wi_iload3 f201_70 (wi_iadd f201_71 ((h.2.2.2.2 _ rfl).2.2 τ2 eτ2).1 (wi_iald1082 f201_72 ((h.2.2.2.2 _ rfl).2.2 τ2 eτ2).2.1 ((h.2.2.2.2 _ rfl).2.2 τ2 eτ2).2.2.1 (wi_iadd f201_73 ((h.2.2.2.2 _ rfl).2.2 τ2 eτ2).2.2.2.1 (wi_dup2 f201_74 (wi_iald1082 f201_75 ((h.2.2.2.2 _ rfl).2.2 τ2 eτ2).2.2.2.2.1 ((h.2.2.2.2 _ rfl).2.2 τ2 eτ2).2.2.2.2.2.1 (wi_iload5 f201_76 (wi_fadd f201_77 (wi_iast1082 f201_78 ((h.2.2.2.2 _ rfl).2.2 τ2 eτ2).2.2.2.2.1 ((h.2.2.2.2 _ rfl).2.2 τ2 eτ2).2.2.2.2.2.1 (wi_aload0 f201_79 (wi_getf901 f201_80 (wi_bipush f201_81 (wi_iload1 f201_82 (wi_iast1082 f201_83 (by decide) (by decide) (wi_aload0 f201_84 (wi_iload1 f201_85 (wi_bipush f201_86 (wi_aload0 f201_87 (wi_iload1 f201_88 (wi_bipush f201_89 (wi_call3 f201_90 (Nat.le_of_ble_eq_true rfl) (k_Model_of ((((h.2.2.2.2 _ rfl).2.2 τ2 eτ2).2.2.2.2.2.2 _ rfl) _ rfl).1 (wi_bipush f201_91 (wi_isub f201_92 ((((h.2.2.2.2 _ rfl).2.2 τ2 eτ2).2.2.2.2.2.2 _ rfl) _ rfl).2.1 (wi_call4 f201_93 (Nat.le_of_ble_eq_true rfl) (k_Model_becomesOf ((((h.2.2.2.2 _ rfl).2.2 τ2 eτ2).2.2.2.2.2.2 _ rfl) _ rfl).2.2.1 (fun τ5 eτ5 => (wi_aload0 f201_94 (wi_iload1 f201_95 (wi_bipush f201_96 (wi_aload0 f201_97 (wi_iload1 f201_98 (wi_bipush f201_99 (wi_call3 f201_100 (Nat.le_of_ble_eq_true rfl) (k_Model_of (((((h.2.2.2.2 _ rfl).2.2 τ2 eτ2).2.2.2.2.2.2 _ rfl) _ rfl).2.2.2 τ5 eτ5).1 (wi_iload2 f201_101 (wi_call1 f201_102 (Nat.le_of_ble_eq_true rfl) (k_Model_flag (wi_isub f201_103 ((((((h.2.2.2.2 _ rfl).2.2 τ2 eτ2).2.2.2.2.2.2 _ rfl) _ rfl).2.2.2 τ5 eτ5).2 _ rfl).1 (wi_call4 f201_104 (Nat.le_of_ble_eq_true rfl) (k_Model_becomesOf ((((((h.2.2.2.2 _ rfl).2.2 τ2 eτ2).2.2.2.2.2.2 _ rfl) _ rfl).2.2.2 τ5 eτ5).2 _ rfl).2.1 (fun τ7 eτ7 => (wi_ret0 f201_105 (((((((h.2.2.2.2 _ rfl).2.2 τ2 eτ2).2.2.2.2.2.2 _ rfl) _ rfl).2.2.2 τ5 eτ5).2 _ rfl).2.2 τ7 eτ7)))))))))))))))))))))))))))))))))))))))))))))))))))))))))))))))))))))))))
theorem m_cut_order {A : w_M} {r i o : Nat} {a b c e f g : Int} : w_up (w_up (w_up (w_up (w_up (w_up A 1 i a) 7 r b) 8 o c) 0 3 e) 5 r f) 4 r g = w_up (w_up (w_up (w_up (w_up (w_up A 5 r f) 4 r g) 1 i a) 7 r b) 0 3 e) 8 o c := by
  funext k j
  by_cases h0 : k = 0
  · subst h0; simp [w_up]
  by_cases h1 : k = 1
  · subst h1; simp [w_up]
  by_cases h4 : k = 4
  · subst h4; simp [w_up]
  by_cases h5 : k = 5
  · subst h5; simp [w_up]
  by_cases h7 : k = 7
  · subst h7; simp [w_up]
  by_cases h8 : k = 8
  · subst h8; simp [w_up]
  simp [w_up, h0, h1, h4, h5, h7, h8]
set_option maxHeartbeats 1000000 in
theorem k_cuts_tail {xs : List Int} {d : Nat} {Q : Option w_V → w_M → Prop} {r i : Nat} {c v : Int} {σ : w_M} (hok : m_ok σ 124 0) (hr : r < (σ 122 5).toNat) (hi : i < (σ 122 4).toNat) (hi6 : w_am σ 124 0 6 r = i) (hc : c = 0 ∨ c = 1) (hv : v = n_amt (w_am σ 124 0) r i) (hQ : ∀ σ' : w_M, q_Model_cuts r c σ σ' → Q none σ') : L201_44 xs (d + 1) Q r c i v σ := by
  have hs := m_ok.s hok
  have hn := m_ok.n hok
  have hsm := m_ok.sm hok
  have i1 : i < m_rl σ 1 := by rw [m_rl12 (by decide) (by decide)]; exact hi
  have i2 : i < m_rl σ 2 := by rw [m_rl12 (by decide) (by decide)]; exact hi
  have rk : ∀ k, 3 ≤ k → k ≤ 7 → r < m_rl σ k := fun k a b => by rw [m_rl37 a b]; exact hr
  have x1 : ((0 : Int) + (i : Int)).toNat = i := by omega
  have e1 : σ 124 i = w_am σ 124 0 1 i := m_rd (by decide) i1 (by show i = 0 + i; omega)
  have h1 := n_WF.i hok hi
  have h2 := n_WF.r hok hr
  have ham := n_amt_le hok hr hi
  have sm : ∀ {τ : w_M}, w_g1 σ τ → m_sm τ ∧ (∀ k, m_rl τ k = m_rl σ k) := fun {τ} F => by
    have : τ 122 = σ 122 := F.1 122 (by decide)
    refine ⟨by unfold m_sm; rw [this]; exact hsm, fun k => by unfold m_rl; rw [this]⟩
  refine b201_44 ⟨⟨by omega, by omega⟩, by omega, by omega, ?_⟩
  rw [x1, e1]
  refine ⟨⟨by omega, by omega⟩, ?_⟩
  intro τ1 t1
  have F1 : w_g1 σ τ1 := by rw [t1]; exact w_g1.up0 (by omega)
  have A1 : w_am τ1 124 0 = w_up (w_am σ 124 0) 1 i (w_am σ 124 0 1 i - v) := by rw [t1]; exact w_am_up hsm (by decide) i1 (by show i = 0 + i; omega)
  obtain ⟨m1, l1⟩ := sm F1
  have a7 : τ1 124 (21 + 5 * (r : Int) + 4).toNat = w_am σ 124 0 7 r := (m_rd (o := 0) (d := 7) (i := r) (by decide) (by rw [l1]; exact rk 7 (by decide) (by decide)) (by show _ = 0 + (25 + 5 * r); omega)).trans (by rw [A1, w_up_ne (by decide)])
  rw [a7]
  refine ⟨⟨by omega, by omega⟩, ⟨by omega, by omega⟩, ?_⟩
  intro τ2 t2
  have F2 : w_g1 σ τ2 := by rw [t2]; exact F1.up (by omega)
  obtain ⟨m2, l2⟩ := sm F2
  have A2 : w_am τ2 124 0 = w_up (w_am τ1 124 0) 7 r (w_wr (w_am σ 124 0 7 r + v)) := by
    rw [t2]
    exact w_am_up m1 (by decide) (by rw [l1]; exact rk 7 (by decide) (by decide)) (by show _ = 0 + (25 + 5 * r); omega)
  have a2 : τ2 124 (7 + (i : Int)).toNat = w_am σ 124 0 2 i := (m_rd (o := 0) (d := 2) (i := i) (by decide) (by rw [l2]; exact i2) (by show _ = 0 + (7 + i); omega)).trans (by rw [A2, w_up_ne (by decide), A1, w_up_ne (by decide)])
  rw [a2]
  have ho := h1.2.1
  have a8 : τ2 124 (43 + w_am σ 124 0 2 i).toNat = w_am σ 124 0 8 (w_am σ 124 0 2 i).toNat := (m_rd (o := 0) (d := 8) (i := (w_am σ 124 0 2 i).toNat) (by decide) (show _ < 4 by omega) (by show _ = 0 + (43 + (w_am σ 124 0 2 i).toNat); omega)).trans (by rw [A2, w_up_ne (by decide), A1, w_up_ne (by decide)])
  rw [a8]
  refine ⟨⟨by omega, by omega⟩, by omega, by omega, ⟨by omega, by omega⟩, by omega, by omega, ?_⟩
  intro τ3 t3
  have F3 : w_g1 σ τ3 := by rw [t3]; exact F2.up (by omega)
  obtain ⟨m3, l3⟩ := sm F3
  have A3 : w_am τ3 124 0 = w_up (w_am τ2 124 0) 8 (w_am σ 124 0 2 i).toNat (w_wr (w_am σ 124 0 8 (w_am σ 124 0 2 i).toNat + v)) := by
    rw [t3]
    exact w_am_up m2 (by decide) (show _ < 4 by omega) (by show _ = 0 + (43 + (w_am σ 124 0 2 i).toNat); omega)
  intro τ4 t4
  have F4 : w_g1 σ τ4 := by rw [t4]; exact F3.up (by omega)
  obtain ⟨m4, l4⟩ := sm F4
  have A4 : w_am τ4 124 0 = w_up (w_am τ3 124 0) 0 3 r := by rw [t4]; exact w_am_up0 m3 (by decide) (Or.inr (Or.inr ⟨rfl, rfl⟩))
  have a5 : τ4 124 (21 + 5 * (r : Int) + 2).toNat = w_am σ 124 0 5 r := (m_rd (o := 0) (d := 5) (i := r) (by decide) (by rw [l4]; exact rk 5 (by decide) (by decide)) (by show _ = 0 + (23 + 5 * r); omega)).trans (by rw [A4, w_up_ne (by decide), A3, w_up_ne (by decide), A2, w_up_ne (by decide), A1, w_up_ne (by decide)])
  rw [a5]
  refine ⟨⟨by omega, by omega⟩, ⟨by omega, by omega⟩, ⟨by omega, by omega⟩, ?_⟩
  intro τ5 t5
  have F5 : w_g1 σ τ5 := by rw [t5]; exact F4.up (by omega)
  obtain ⟨m5, l5⟩ := sm F5
  have A5 : w_am τ5 124 0 = w_up (w_am τ4 124 0) 5 r (w_am σ 124 0 5 r - 1) := by
    rw [t5]
    exact w_am_up m4 (by decide) (by rw [l4]; exact rk 5 (by decide) (by decide)) (by show _ = 0 + (23 + 5 * r); omega)
  have a4 : τ5 124 (21 + 5 * (r : Int) + 1).toNat = w_am σ 124 0 4 r := (m_rd (o := 0) (d := 4) (i := r) (by decide) (by rw [l5]; exact rk 4 (by decide) (by decide)) (by show _ = 0 + (22 + 5 * r); omega)).trans (by rw [A5, w_up_ne (by decide), A4, w_up_ne (by decide), A3, w_up_ne (by decide), A2, w_up_ne (by decide), A1, w_up_ne (by decide)])
  rw [a4]
  refine ⟨⟨by omega, by omega⟩, ?_⟩
  intro y6 e6
  have e6' : y6 = c := by rw [e6]; unfold v_Model_flag; rcases hc with rfl | rfl <;> rfl
  refine ⟨⟨by omega, by omega⟩, ⟨by omega, by omega⟩, ?_⟩
  intro τ7 t7
  have A7 : w_am τ7 124 0 = w_up (w_am τ5 124 0) 4 r (w_am σ 124 0 4 r - y6) := by
    rw [t7]
    exact w_am_up m5 (by decide) (by rw [l5]; exact rk 4 (by decide) (by decide)) (by show _ = 0 + (22 + 5 * r); omega)
  refine hQ _ ⟨?_, by rw [t7]; exact F5.up (by omega)⟩
  have ht : ((r : Int)).toNat = r := Int.toNat_natCast r
  have hit : (w_am σ 124 0 6 r).toNat = i := by rw [hi6]; exact Int.toNat_natCast i
  rw [A7, A5, A4, A3, A2, A1, e6', ht]
  unfold m_cut
  rw [hit, m_cut_order]
  generalize hB : w_up (w_up (w_am σ 124 0) 5 r (w_am σ 124 0 5 r - 1)) 4 r (w_am σ 124 0 4 r - c) = B
  have b1 : B 1 = w_am σ 124 0 1 := by rw [← hB, w_up_ne (by decide), w_up_ne (by decide)]
  have b2 : B 2 = w_am σ 124 0 2 := by rw [← hB, w_up_ne (by decide), w_up_ne (by decide)]
  have b3 : B 3 = w_am σ 124 0 3 := by rw [← hB, w_up_ne (by decide), w_up_ne (by decide)]
  have b7 : B 7 = w_am σ 124 0 7 := by rw [← hB, w_up_ne (by decide), w_up_ne (by decide)]
  have b8 : B 8 = w_am σ 124 0 8 := by rw [← hB, w_up_ne (by decide), w_up_ne (by decide)]
  have b9 : B 9 = w_am σ 124 0 9 := by rw [← hB, w_up_ne (by decide), w_up_ne (by decide)]
  unfold n_cut
  rw [n_amt_congr b1 b3 b9, b1, b2, b7, b8, hv]
theorem k_Model_cuts {xs : List Int} {d : Nat} {Q : Option w_V → w_M → Prop} {x1 : Int} {x2 : Int} {σ : w_M} (hp : p_Model_cuts x1 x2 σ) (hQ : ∀ σ' : w_M, q_Model_cuts x1 x2 σ σ' → Q none σ') : w_Call (xs, d + 1) 201 [.inr (.inr (9, 122)), .inl x1, .inl x2] σ Q := by
  obtain ⟨hok, ⟨r0, r1⟩, hc⟩ := hp
  obtain ⟨r, rfl⟩ := Int.eq_ofNat_of_zero_le r0
  have hs := m_ok.s hok
  have hn := m_ok.n hok
  have hr : r < (σ 122 5).toNat := by omega
  have h2 := n_WF.r hok hr
  have rk : ∀ k, 3 ≤ k → k ≤ 7 → r < m_rl σ k := fun k a b => by rw [m_rl37 a b]; exact hr
  have e6 : σ 124 (21 + 5 * (r : Int) + 3).toNat = w_am σ 124 0 6 r := m_rd (by decide) (rk 6 (by decide) (by decide)) (by show _ = 0 + (24 + 5 * r); omega)
  have e3 : σ 124 (21 + 5 * (r : Int) + 0).toNat = w_am σ 124 0 3 r := m_rd (by decide) (rk 3 (by decide) (by decide)) (by show _ = 0 + (21 + 5 * r); omega)
  have h04 : w_am σ 124 0 0 4 = σ 122 4 := rfl
  obtain ⟨i, hi6⟩ := Int.eq_ofNat_of_zero_le h2.2.2.2.1
  have hi : i < (σ 122 4).toNat := by omega
  have h1 := n_WF.i hok hi
  have e9 : σ 124 (14 + (i : Int)).toNat = w_am σ 124 0 9 i := m_rd (by decide) (by rw [m_rl9]; exact hi) (by show _ = 0 + (14 + i); omega)
  have e1 : σ 124 ((0 : Int) + (i : Int)).toNat = w_am σ 124 0 1 i := m_rd (by decide) (by rw [m_rl12 (by decide) (by decide)]; exact hi) (by show _ = 0 + i; omega)
  have next : ∀ y, y = n_pc (w_am σ 124 0) r i → L201_27 xs (d + 1) Q r x2 i y σ := by
    intro y ey
    refine b201_27 ⟨⟨by omega, by omega⟩, by omega, by omega, fun c => fun z ez => ?_, fun c => ?_⟩
    · rw [e1] at c ez
      refine k_cuts_tail hok hr hi hi6 hc ?_ hQ
      rw [ez]
      unfold n_amt
      rw [if_neg (by omega)]
    · rw [e1] at c
      refine k_cuts_tail hok hr hi hi6 hc ?_ hQ
      unfold n_amt
      rw [← ey, if_pos c]
  refine b201_0 ⟨⟨by omega, by omega⟩, fun y1 ey => ?_⟩
  rw [e6, hi6] at ey
  rw [ey, e9, e3]
  refine ⟨⟨by omega, by omega⟩, by omega, by omega, fun c => ⟨⟨by omega, by omega⟩, fun y e => next y ?_⟩, fun c => ⟨⟨by omega, by omega⟩, ?_⟩⟩
  · rw [e]; unfold n_pc; rw [if_neg c]
  · have hd : ((w_am σ 124 0 3 r) + 1).tdiv 2 = (w_am σ 124 0 3 r + 1) / 2 := Int.tdiv_eq_ediv_of_nonneg (by omega)
    refine ⟨⟨by omega, by omega⟩, by rw [hd]; exact ⟨by omega, by omega⟩, fun y e => next y ?_⟩
    rw [e]; unfold n_pc; rw [if_pos c]
def p_Model_does (r c : Int) (σ : w_M) : Prop := m_ok σ 124 0 ∧ (0 ≤ r ∧ r < σ 122 5) ∧ (c = 0 ∨ c = 1)
def q_Model_does (r c : Int) (σ σ' : w_M) : Prop := w_am σ' 124 0 = n_work (w_am σ 124 0) r.toNat c ∧ w_g1 σ σ'
theorem f198_0 : w_fe am_c198 0 1 (.aload 0) := ⟨rfl, rfl⟩
theorem f198_1 : w_fe am_c198 1 2 (.aload 0) := ⟨rfl, rfl⟩
theorem f198_2 : w_fe am_c198 2 3 (.iload 1) := ⟨rfl, rfl⟩
theorem f198_3 : w_fe am_c198 3 4 (.bipush 3) := ⟨rfl, rfl⟩
theorem f198_4 : w_fe am_c198 4 5 (.invokestatic 179) := ⟨rfl, rfl⟩
theorem f198_5 : w_fe am_c198 5 6 (.invokestatic 199) := ⟨rfl, rfl⟩
theorem f198_6 : w_fe am_c198 6 7 (.istore 3) := ⟨rfl, rfl⟩
theorem f198_7 : w_fe am_c198 7 8 (.iload 3) := ⟨rfl, rfl⟩
theorem f198_8 : w_fe am_c198 8 9 (.bipush (-4)) := ⟨rfl, rfl⟩
theorem f198_9 : w_ic am_c198 9 10 .ne 11 := ⟨rfl, rfl⟩
theorem f198_10 : w_fe am_c198 10 11 (.return_) := ⟨rfl, rfl⟩
theorem f198_11 : w_fe am_c198 11 12 (.aload 0) := ⟨rfl, rfl⟩
theorem f198_12 : w_fe am_c198 12 13 (.iload 1) := ⟨rfl, rfl⟩
theorem f198_13 : w_fe am_c198 13 14 (.bipush 3) := ⟨rfl, rfl⟩
theorem f198_14 : w_fe am_c198 14 15 (.iload 3) := ⟨rfl, rfl⟩
theorem f198_15 : w_fe am_c198 15 16 (.invokestatic 200) := ⟨rfl, rfl⟩
theorem f198_16 : w_fe am_c198 16 17 (.aload 0) := ⟨rfl, rfl⟩
theorem f198_17 : w_fe am_c198 17 18 (.iload 1) := ⟨rfl, rfl⟩
theorem f198_18 : w_fe am_c198 18 19 (.bipush 2) := ⟨rfl, rfl⟩
theorem f198_19 : w_fe am_c198 19 20 (.invokestatic 179) := ⟨rfl, rfl⟩
theorem f198_20 : w_if am_c198 20 21 .ne 27 := ⟨rfl, rfl⟩
theorem f198_21 : w_fe am_c198 21 22 (.aload 0) := ⟨rfl, rfl⟩
theorem f198_22 : w_fe am_c198 22 23 (.iload 1) := ⟨rfl, rfl⟩
theorem f198_23 : w_fe am_c198 23 24 (.bipush 2) := ⟨rfl, rfl⟩
theorem f198_24 : w_fe am_c198 24 25 (.bipush 3) := ⟨rfl, rfl⟩
theorem f198_25 : w_fe am_c198 25 26 (.invokestatic 200) := ⟨rfl, rfl⟩
theorem f198_26 : w_gt am_c198 26 38 := rfl
theorem f198_27 : w_fe am_c198 27 28 (.iload 2) := ⟨rfl, rfl⟩
theorem f198_28 : w_if am_c198 28 29 .eq 34 := ⟨rfl, rfl⟩
theorem f198_29 : w_fe am_c198 29 30 (.aload 0) := ⟨rfl, rfl⟩
theorem f198_30 : w_fe am_c198 30 31 (.iload 1) := ⟨rfl, rfl⟩
theorem f198_31 : w_fe am_c198 31 32 (.bipush 1) := ⟨rfl, rfl⟩
theorem f198_32 : w_fe am_c198 32 33 (.invokestatic 179) := ⟨rfl, rfl⟩
theorem f198_33 : w_if am_c198 33 34 .le 38 := ⟨rfl, rfl⟩
theorem f198_34 : w_fe am_c198 34 35 (.aload 0) := ⟨rfl, rfl⟩
theorem f198_35 : w_fe am_c198 35 36 (.iload 1) := ⟨rfl, rfl⟩
theorem f198_36 : w_fe am_c198 36 37 (.iload 2) := ⟨rfl, rfl⟩
theorem f198_37 : w_fe am_c198 37 38 (.invokestatic 201) := ⟨rfl, rfl⟩
theorem f198_38 : w_fe am_c198 38 39 (.return_) := ⟨rfl, rfl⟩
set_option maxRecDepth 20000 in
theorem b198_0 {xs : List Int} {d : Nat} {Q : Option w_V → w_M → Prop} {x1 : Int} {x2 : Int} {σ : w_M}
    (h : p_Model_of x1 3 σ ∧ p_Model_nearest (σ 124 (21 + 5 * x1 + 3).toNat) σ ∧ (∀ (y1 : Int), y1 = v_Model_nearest (σ 124 (21 + 5 * x1 + 3).toNat) σ → ((¬ y1 = (-4) → (p_Model_becomesOf x1 3 y1 σ ∧ (∀ (τ2 : w_M), q_Model_becomesOf x1 3 y1 σ τ2 → (p_Model_of x1 2 τ2 ∧ ((¬ (τ2 124 (21 + 5 * x1 + 2).toNat) = 0 → ((x2 = 0 → (p_Model_cuts x1 x2 τ2 ∧ (∀ (τ3 : w_M), q_Model_cuts x1 x2 τ2 τ3 → Q none τ3))) ∧ (¬ x2 = 0 → (p_Model_of x1 1 τ2 ∧ (((τ2 124 (21 + 5 * x1 + 1).toNat) ≤ 0 → Q none τ2) ∧ (0 < (τ2 124 (21 + 5 * x1 + 1).toNat) → (p_Model_cuts x1 x2 τ2 ∧ (∀ (τ4 : w_M), q_Model_cuts x1 x2 τ2 τ4 → Q none τ4)))))))) ∧ ((τ2 124 (21 + 5 * x1 + 2).toNat) = 0 → (p_Model_becomesOf x1 2 3 τ2 ∧ (∀ (τ7 : w_M), q_Model_becomesOf x1 2 3 τ2 τ7 → Q none τ7)))))))) ∧ (y1 = (-4) → Q none σ)))) : w_Call (xs, (d + 2)) 198 [.inr (.inr (9, 122)), .inl x1, .inl x2] σ Q :=
  (w_mk (mid := 198) (by decide) rfl rfl rfl rfl rfl (Nat.le_of_ble_eq_true rfl) ⟨rfl, Or.inl (by decide)⟩ (wi_aload0 f198_0 (wi_aload0 f198_1 (wi_iload1 f198_2 (wi_bipush f198_3 (wi_call3 f198_4 (Nat.le_of_ble_eq_true rfl) (k_Model_of h.1 (wi_call2 f198_5 (Nat.le_of_ble_eq_true rfl) (k_Model_nearest h.2.1 (wi_istore3 f198_6 trivial (wi_iload3 f198_7 (wi_bipush f198_8 (wi_ic_ne f198_9 (fun c9 => (wi_aload0 f198_11 (wi_iload1 f198_12 (wi_bipush f198_13 (wi_iload3 f198_14 (wi_call4 f198_15 (Nat.le_of_ble_eq_true rfl) (k_Model_becomesOf ((h.2.2 _ rfl).1 c9).1 (fun τ2 eτ2 => (wi_aload0 f198_16 (wi_iload1 f198_17 (wi_bipush f198_18 (wi_call3 f198_19 (Nat.le_of_ble_eq_true rfl) (k_Model_of (((h.2.2 _ rfl).1 c9).2 τ2 eτ2).1 (wi_if_ne f198_20 (fun c8 => (wi_iload2 f198_27 (wi_if_eq f198_28 (fun c6 => (wi_aload0 f198_34 (wi_iload1 f198_35 (wi_iload2 f198_36 (wi_call3 f198_37 (Nat.le_of_ble_eq_true rfl) (k_Model_cuts (((((h.2.2 _ rfl).1 c9).2 τ2 eτ2).2.1 c8).1 c6).1 (fun τ3 eτ3 => (wi_ret0 f198_38 ((((((h.2.2 _ rfl).1 c9).2 τ2 eτ2).2.1 c8).1 c6).2 τ3 eτ3))))))))) (fun c6 => (wi_aload0 f198_29 (wi_iload1 f198_30 (wi_bipush f198_31 (wi_call3 f198_32 (Nat.le_of_ble_eq_true rfl) (k_Model_of (((((h.2.2 _ rfl).1 c9).2 τ2 eτ2).2.1 c8).2 c6).1 (wi_if_le f198_33 (fun c5 => (wi_ret0 f198_38 ((((((h.2.2 _ rfl).1 c9).2 τ2 eτ2).2.1 c8).2 c6).2.1 c5))) (fun c5 => (wi_aload0 f198_34 (wi_iload1 f198_35 (wi_iload2 f198_36 (wi_call3 f198_37 (Nat.le_of_ble_eq_true rfl) (k_Model_cuts ((((((h.2.2 _ rfl).1 c9).2 τ2 eτ2).2.1 c8).2 c6).2.2 c5).1 (fun τ4 eτ4 => (wi_ret0 f198_38 (((((((h.2.2 _ rfl).1 c9).2 τ2 eτ2).2.1 c8).2 c6).2.2 c5).2 τ4 eτ4))))))))))))))))))) (fun c8 => (wi_aload0 f198_21 (wi_iload1 f198_22 (wi_bipush f198_23 (wi_bipush f198_24 (wi_call4 f198_25 (Nat.le_of_ble_eq_true rfl) (k_Model_becomesOf ((((h.2.2 _ rfl).1 c9).2 τ2 eτ2).2.2 c8).1 (fun τ7 eτ7 => (wi_goto f198_26 (wi_ret0 f198_38 (((((h.2.2 _ rfl).1 c9).2 τ2 eτ2).2.2 c8).2 τ7 eτ7))))))))))))))))))))))))) (fun c9 => (wi_ret0 f198_10 ((h.2.2 _ rfl).2 c9))))))))))))))))
set_option maxHeartbeats 1000000 in
theorem k_Model_does {xs : List Int} {d : Nat} {Q : Option w_V → w_M → Prop} {x1 : Int} {x2 : Int} {σ : w_M} (hp : p_Model_does x1 x2 σ) (hQ : ∀ σ' : w_M, q_Model_does x1 x2 σ σ' → Q none σ') : w_Call (xs, d + 2) 198 [.inr (.inr (9, 122)), .inl x1, .inl x2] σ Q := by
  obtain ⟨hok, ⟨r0, r1⟩, hc⟩ := hp
  obtain ⟨r, rfl⟩ := Int.eq_ofNat_of_zero_le r0
  have hs := m_ok.s hok
  have hn := m_ok.n hok
  have hsm := m_ok.sm hok
  have hr : r < (σ 122 5).toNat := by omega
  have h2 := n_WF.r hok hr
  have rk : ∀ k, 3 ≤ k → k ≤ 7 → r < m_rl σ k := fun k a b => by rw [m_rl37 a b]; exact hr
  have e6 : σ 124 (21 + 5 * (r : Int) + 3).toNat = w_am σ 124 0 6 r := m_rd (by decide) (rk 6 (by decide) (by decide)) (by show _ = 0 + (24 + 5 * r); omega)
  have h04 : w_am σ 124 0 0 4 = σ 122 4 := rfl
  have hsn : n_s (w_am σ 124 0) ≤ 1000 := by rw [n_s_am]; omega
  unfold q_Model_does at hQ
  rw [Int.toNat_natCast] at hQ
  refine b198_0 ⟨⟨by omega, by omega⟩, ?_⟩
  rw [e6]
  refine ⟨⟨hok, by omega, by omega⟩, fun y1 ey => ?_⟩
  unfold v_Model_nearest at ey
  rcases n_near_cases (A := w_am σ 124 0) (f := w_am σ 124 0 6 r) (by omega) hsn with ⟨g1, g2⟩ | ⟨i, g1, g2, g3⟩
  · refine ⟨fun c => absurd (ey.trans g1) c, fun c => hQ _ ⟨?_, w_g1.rfl'⟩⟩
    unfold n_work
    rw [if_pos g1]
  · rw [n_s_am] at g1
    have hne : ¬ n_near (w_am σ 124 0) (w_am σ 124 0 6 r) = -4 := by omega
    refine ⟨fun c => ⟨⟨by omega, by omega⟩, fun τ2 t2 => ?_⟩, fun c => absurd (ey.symm.trans c) hne⟩
    have F2 : w_g1 σ τ2 := by rw [t2]; exact w_g1.up0 (by omega)
    have z2 : τ2 122 = σ 122 := F2.1 122 (by decide)
    have A2 : w_am τ2 124 0 = w_up (w_am σ 124 0) 6 r y1 := by
      rw [t2]
      exact w_am_up hsm (by decide) (rk 6 (by decide) (by decide)) (by show _ = 0 + (24 + 5 * r); omega)
    have l2 : ∀ k, m_rl τ2 k = m_rl σ k := fun k => by unfold m_rl; rw [z2]
    have m2 : m_sm τ2 := by unfold m_sm; rw [z2]; exact hsm
    have f5 : τ2 124 (21 + 5 * (r : Int) + 2).toNat = w_am σ 124 0 5 r := (m_rd (o := 0) (d := 5) (i := r) (by decide) (by rw [l2]; exact rk 5 (by decide) (by decide)) (by show _ = 0 + (23 + 5 * r); omega)).trans (by rw [A2, w_up_ne (by decide)])
    have f4 : τ2 124 (21 + 5 * (r : Int) + 1).toNat = w_am σ 124 0 4 r := (m_rd (o := 0) (d := 4) (i := r) (by decide) (by rw [l2]; exact rk 4 (by decide) (by decide)) (by show _ = 0 + (22 + 5 * r); omega)).trans (by rw [A2, w_up_ne (by decide)])
    rw [f5, f4]
    have W2 : m_ok τ2 124 0 := by
      unfold m_ok
      rw [A2]
      refine n_WF_up hok ?_ ?_ ?_ ?_ ?_ ?_ ?_ ?_ <;> (intros; omega)
    have cutting : x2 = 0 ∨ 0 < w_am σ 124 0 4 r → ¬ w_am σ 124 0 5 r = 0 → p_Model_cuts r x2 τ2 ∧ ∀ τ', q_Model_cuts r x2 τ2 τ' → Q none τ' := by
      intro ho h5
      refine ⟨⟨W2, by rw [z2]; exact ⟨r0, r1⟩, hc⟩, fun τ' hq => ?_⟩
      obtain ⟨q1, q2⟩ := hq
      refine hQ _ ⟨?_, F2.tr q2⟩
      rw [q1, Int.toNat_natCast]
      unfold n_work m_cut
      rw [← ey, if_neg c, if_neg h5, if_pos ho, A2, w_up_at, w_up_eq, if_neg (by omega), w_up_eq, if_neg (by omega)]
    refine ⟨⟨by omega, by omega⟩, fun h5 => ⟨fun hx => cutting (Or.inl hx) h5, fun hx => ⟨⟨by omega, by omega⟩, fun ho => ?_, fun ho => cutting (Or.inr ho) h5⟩⟩, fun h5 => ⟨⟨by omega, by omega⟩, fun τ7 t7 => ?_⟩⟩
    · refine hQ _ ⟨?_, F2⟩
      unfold n_work
      rw [← ey, if_neg c, if_neg h5, if_neg (by omega), A2]
    · refine hQ _ ⟨?_, by rw [t7]; exact F2.up (by omega)⟩
      unfold n_work
      rw [← ey, if_neg c, if_pos h5, t7, w_am_up m2 (by decide) (by rw [l2]; exact rk 5 (by decide) (by decide)) (by show _ = 0 + (23 + 5 * r); omega), A2]
