/-! The odds, as the class counts them -/
noncomputable def p_Moon_tenTo (n : Int) (_ : w_M) : Prop := 0 ≤ n ∧ n ≤ 12
noncomputable def q_Moon_tenTo (n : Int) (σ : w_M) (x : Int) (σ' : w_M) : Prop := x = lk_p n.toNat ∧ σ' = σ
theorem fMoon_tenTo_0 : w_fe am_c135 0 1 (.sipush 1) := ⟨rfl, rfl⟩
theorem fMoon_tenTo_1 : w_fe am_c135 1 2 (.lstore 1) := ⟨rfl, rfl⟩
theorem fMoon_tenTo_2 : w_fe am_c135 2 3 (.bipush 0) := ⟨rfl, rfl⟩
theorem fMoon_tenTo_3 : w_fe am_c135 3 4 (.istore 3) := ⟨rfl, rfl⟩
theorem fMoon_tenTo_4 : w_fe am_c135 4 5 (.iload 3) := ⟨rfl, rfl⟩
theorem fMoon_tenTo_5 : w_fe am_c135 5 6 (.iload 0) := ⟨rfl, rfl⟩
theorem fMoon_tenTo_6 : w_ic am_c135 6 7 .ge 16 := ⟨rfl, rfl⟩
theorem fMoon_tenTo_7 : w_fe am_c135 7 8 (.iload 3) := ⟨rfl, rfl⟩
theorem fMoon_tenTo_8 : w_fe am_c135 8 9 (.bipush 12) := ⟨rfl, rfl⟩
theorem fMoon_tenTo_9 : w_ic am_c135 9 10 .ge 16 := ⟨rfl, rfl⟩
theorem fMoon_tenTo_10 : w_fe am_c135 10 11 (.lload 1) := ⟨rfl, rfl⟩
theorem fMoon_tenTo_11 : w_fe am_c135 11 12 (.sipush 10) := ⟨rfl, rfl⟩
theorem fMoon_tenTo_12 : w_fe am_c135 12 13 (.lmul) := ⟨rfl, rfl⟩
theorem fMoon_tenTo_13 : w_fe am_c135 13 14 (.lstore 1) := ⟨rfl, rfl⟩
theorem fMoon_tenTo_14 : w_fe am_c135 14 15 (.iinc 3 1) := ⟨rfl, rfl⟩
theorem fMoon_tenTo_15 : w_gt am_c135 15 4 := rfl
theorem fMoon_tenTo_16 : w_fe am_c135 16 17 (.lload 1) := ⟨rfl, rfl⟩
theorem fMoon_tenTo_17 : w_fe am_c135 17 18 (.ireturn) := ⟨rfl, rfl⟩
noncomputable def LMoon_tenTo_4 (xs : List Int) (d : Nat) (Q : Option w_V → w_M → Prop) (v0 : Int) (v1 : Int) (v3 : Int) (σ : w_M) : Prop := w_Ex (xs, d) 3 am_c135 Q 4 [some (.inl v0), some (.inr (.inl v1)), none, some (.inl v3)] [] σ
set_option maxRecDepth 20000 in
theorem bMoon_tenTo_0 {xs : List Int} {d : Nat} {Q : Option w_V → w_M → Prop} {x0 : Int} {σ : w_M}
    (h : LMoon_tenTo_4 xs d Q x0 1 0 σ) : w_Call (xs, d) 135 [.inl x0] σ Q :=
  (w_mk (mid := 135) (by decide) rfl rfl rfl rfl rfl (Nat.le_of_ble_eq_true rfl) trivial (wi_sipush fMoon_tenTo_0 (wi_lstore1 fMoon_tenTo_1 trivial (wi_bipush fMoon_tenTo_2 (wi_istore3 fMoon_tenTo_3 trivial h)))))
set_option maxRecDepth 20000 in
theorem bMoon_tenTo_4 {xs : List Int} {d : Nat} {Q : Option w_V → w_M → Prop} {v0 : Int} {v1 : Int} {v3 : Int} {σ : w_M}
    (h : (v0 ≤ v3 → Q (some (.inr (.inl v1))) σ) ∧ (v3 < v0 → ((12 ≤ v3 → Q (some (.inr (.inl v1))) σ) ∧ (v3 < 12 → (w_inl (v1 * 10) ∧ (∀ (y1 : Int), y1 = (v1 * 10) → (w_in (v3 + 1) ∧ LMoon_tenTo_4 xs d Q v0 y1 (v3 + 1) σ))))))) : LMoon_tenTo_4 xs d Q v0 v1 v3 σ :=
  (wi_iload3 fMoon_tenTo_4 (wi_iload0 fMoon_tenTo_5 (wi_ic_ge fMoon_tenTo_6 (fun c3 => (wi_lload1 fMoon_tenTo_16 (wi_ret3 fMoon_tenTo_17 (h.1 c3)))) (fun c3 => (wi_iload3 fMoon_tenTo_7 (wi_bipush fMoon_tenTo_8 (wi_ic_ge fMoon_tenTo_9 (fun c2 => (wi_lload1 fMoon_tenTo_16 (wi_ret3 fMoon_tenTo_17 ((h.2 c3).1 c2)))) (fun c2 => (wi_lload1 fMoon_tenTo_10 (wi_sipush fMoon_tenTo_11 (wi_lmul fMoon_tenTo_12 ((h.2 c3).2 c2).1 (wi_lstore1 fMoon_tenTo_13 trivial (wi_iinc3 fMoon_tenTo_14 trivial (((h.2 c3).2 c2).2 _ rfl).1 (wi_goto fMoon_tenTo_15 (((h.2 c3).2 c2).2 _ rfl).2))))))))))))))
theorem k_Moon_tenTo {xs : List Int} {d : Nat} {Q : Option w_V → w_M → Prop} {x0 : Int} {σ : w_M} (hp : p_Moon_tenTo x0 σ) (hQ : ∀ (x : Int) (σ' : w_M), q_Moon_tenTo x0 σ x σ' → Q (some (.inr (.inl x))) σ') : w_Call (xs, d) 135 [.inl x0] σ Q := by
  refine bMoon_tenTo_0 ?_
  refine w_loop (n := x0.toNat) (P := fun k => LMoon_tenTo_4 xs d Q x0 (lk_p k) (k : Int) σ) ?_ ?_
  · have := hp.1
    exact bMoon_tenTo_4 ⟨fun _ => hQ _ _ ⟨rfl, rfl⟩, fun h => by omega⟩
  · intro k hk ih
    have h12 := hp.2
    have w3 := lk_p_le (k := k + 1) (by omega)
    have w4 := lk_p_pos (k + 1)
    rw [lk_p_s] at w3 w4
    refine bMoon_tenTo_4 ⟨fun h => by omega, fun _ => ⟨fun h => by omega, fun _ => ⟨⟨by omega, by omega⟩, fun y e => ⟨⟨by omega, by omega⟩, ?_⟩⟩⟩⟩
    rw [e, ← lk_p_s, ← w_cs1]
    exact ih
noncomputable def lk_fb : Nat → Nat
  | 0 => 0
  | 1 => 1
  | n + 2 => lk_fb (n + 1) + lk_fb n
noncomputable def lk_fbp : Nat → Nat × Nat
  | 0 => (0, 1)
  | n + 1 => ((lk_fbp n).2, (lk_fbp n).1 + (lk_fbp n).2)
theorem lk_fbp_ok : ∀ n, lk_fbp n = (lk_fb n, lk_fb (n + 1)) := by
  intro n
  induction n with
  | zero => rfl
  | succ n ih =>
    simp only [lk_fbp, lk_fb]
    rw [ih, Nat.add_comm (lk_fb n)]
theorem lk_fb65 : 1000000000000 < lk_fb 65 := by
  have h := lk_fbp_ok 65
  have h2 : (lk_fbp 65).1 = 17167680177565 := by decide +kernel
  rw [h] at h2
  have h3 : lk_fb 65 = 17167680177565 := h2
  omega
noncomputable def lk_fin (n : Nat) (a b : Int) : Prop := a < lk_fb (n + 2) ∨ b < lk_fb (n + 1)
theorem lk_fin_0 {a b : Int} (h0 : 0 ≤ b) (hab : b ≤ a) (h : lk_fin 0 a b) : b = 0 := by
  unfold lk_fin at h
  simp [lk_fb] at h
  omega
theorem lk_fin_s {n : Nat} {a b : Int} (h0 : 0 ≤ b) (hb : ¬ b = 0) (hab : b ≤ a) (h : lk_fin (n + 1) a b) : lk_fin n b (a.tmod b) := by
  unfold lk_fin at h ⊢
  have e : lk_fb (n + 1 + 2) = lk_fb (n + 2) + lk_fb (n + 1) := rfl
  have e2 : n + 1 + 1 = n + 2 := rfl
  rw [e2] at h
  by_cases h2 : b < lk_fb (n + 2)
  · exact Or.inl h2
  · right
    have ht := lk_tmod (a := a) (by omega) h0 hb
    have hd := Int.tmod_add_tdiv_mul a b
    obtain ⟨m, rfl⟩ := Int.eq_ofNat_of_zero_le (show 0 ≤ a by omega)
    obtain ⟨q, rfl⟩ := Int.eq_ofNat_of_zero_le h0
    rw [← Int.ofNat_tmod] at ht ⊢
    have h3 : m % q + q * (m / q) = m := Nat.mod_add_div m q
    have h4 : 1 ≤ m / q := by
      have : q ≤ m := by omega
      exact (Nat.one_le_div_iff (by omega)).mpr this
    have h5 : q * 1 ≤ q * (m / q) := Nat.mul_le_mul_left q h4
    omega
noncomputable def p_Moon_commonDivisor (a b : Int) (_ : w_M) : Prop := (0 ≤ b ∧ b ≤ a) ∧ a ≤ 1000000000000
noncomputable def q_Moon_commonDivisor (a b : Int) (σ : w_M) (x : Int) (σ' : w_M) : Prop := x = lk_g a b ∧ σ' = σ
theorem fMoon_commonDivisor_0 : w_fe am_c136 0 1 (.lload 0) := ⟨rfl, rfl⟩
theorem fMoon_commonDivisor_1 : w_fe am_c136 1 2 (.lstore 4) := ⟨rfl, rfl⟩
theorem fMoon_commonDivisor_2 : w_fe am_c136 2 3 (.lload 2) := ⟨rfl, rfl⟩
theorem fMoon_commonDivisor_3 : w_fe am_c136 3 4 (.lstore 6) := ⟨rfl, rfl⟩
theorem fMoon_commonDivisor_4 : w_fe am_c136 4 5 (.bipush 0) := ⟨rfl, rfl⟩
theorem fMoon_commonDivisor_5 : w_fe am_c136 5 6 (.istore 8) := ⟨rfl, rfl⟩
theorem fMoon_commonDivisor_6 : w_fe am_c136 6 7 (.iload 8) := ⟨rfl, rfl⟩
theorem fMoon_commonDivisor_7 : w_fe am_c136 7 8 (.bipush 64) := ⟨rfl, rfl⟩
theorem fMoon_commonDivisor_8 : w_ic am_c136 8 9 .ge 23 := ⟨rfl, rfl⟩
theorem fMoon_commonDivisor_9 : w_fe am_c136 9 10 (.lload 6) := ⟨rfl, rfl⟩
theorem fMoon_commonDivisor_10 : w_fe am_c136 10 11 (.sipush 0) := ⟨rfl, rfl⟩
theorem fMoon_commonDivisor_11 : w_fe am_c136 11 12 (.lcmp) := ⟨rfl, rfl⟩
theorem fMoon_commonDivisor_12 : w_if am_c136 12 13 .eq 23 := ⟨rfl, rfl⟩
theorem fMoon_commonDivisor_13 : w_fe am_c136 13 14 (.lload 4) := ⟨rfl, rfl⟩
theorem fMoon_commonDivisor_14 : w_fe am_c136 14 15 (.lload 6) := ⟨rfl, rfl⟩
theorem fMoon_commonDivisor_15 : w_fe am_c136 15 16 (.lrem) := ⟨rfl, rfl⟩
theorem fMoon_commonDivisor_16 : w_fe am_c136 16 17 (.lstore 9) := ⟨rfl, rfl⟩
theorem fMoon_commonDivisor_17 : w_fe am_c136 17 18 (.lload 6) := ⟨rfl, rfl⟩
theorem fMoon_commonDivisor_18 : w_fe am_c136 18 19 (.lstore 4) := ⟨rfl, rfl⟩
theorem fMoon_commonDivisor_19 : w_fe am_c136 19 20 (.lload 9) := ⟨rfl, rfl⟩
theorem fMoon_commonDivisor_20 : w_fe am_c136 20 21 (.lstore 6) := ⟨rfl, rfl⟩
theorem fMoon_commonDivisor_21 : w_fe am_c136 21 22 (.iinc 8 1) := ⟨rfl, rfl⟩
theorem fMoon_commonDivisor_22 : w_gt am_c136 22 6 := rfl
theorem fMoon_commonDivisor_23 : w_fe am_c136 23 24 (.lload 4) := ⟨rfl, rfl⟩
theorem fMoon_commonDivisor_24 : w_fe am_c136 24 25 (.ireturn) := ⟨rfl, rfl⟩
noncomputable def LMoon_commonDivisor_6 (xs : List Int) (d : Nat) (Q : Option w_V → w_M → Prop) (v4 : Int) (v6 : Int) (v8 : Int) (σ : w_M) : Prop := ∀ L0 : Option w_V, ∀ l1, w_nl l1 → ∀ L2 : Option w_V, ∀ l3, w_nl l3 → ∀ L9 : Option w_V, ∀ l10, w_nl l10 → w_Ex (xs, d) 3 am_c136 Q 6 [L0, l1, L2, l3, some (.inr (.inl v4)), none, some (.inr (.inl v6)), none, some (.inl v8), L9, l10] [] σ
set_option maxRecDepth 20000 in
theorem bMoon_commonDivisor_0 {xs : List Int} {d : Nat} {Q : Option w_V → w_M → Prop} {x0 : Int} {x1 : Int} {σ : w_M}
    (h : LMoon_commonDivisor_6 xs d Q x0 x1 0 σ) : w_Call (xs, d) 136 [.inr (.inl x0), .inr (.inl x1)] σ Q :=
  (w_mk (mid := 136) (by decide) rfl rfl rfl rfl rfl (Nat.le_of_ble_eq_true rfl) trivial (wi_lload0 fMoon_commonDivisor_0 (wi_lstore4 fMoon_commonDivisor_1 trivial (wi_lload2 fMoon_commonDivisor_2 (wi_lstore6 fMoon_commonDivisor_3 trivial (wi_bipush fMoon_commonDivisor_4 (wi_istore8 fMoon_commonDivisor_5 trivial (h _ _ (by exact trivial) _ _ (by exact trivial) _ _ (by exact trivial)))))))))
set_option maxRecDepth 20000 in
theorem bMoon_commonDivisor_6 {xs : List Int} {d : Nat} {Q : Option w_V → w_M → Prop} {v4 : Int} {v6 : Int} {v8 : Int} {σ : w_M}
    (h : (64 ≤ v8 → Q (some (.inr (.inl v4))) σ) ∧ (v8 < 64 → ((v6 = 0 → Q (some (.inr (.inl v4))) σ) ∧ (¬ v6 = 0 → ∀ (y1 : Int), y1 = (v4.tmod v6) → (w_in (v8 + 1) ∧ LMoon_commonDivisor_6 xs d Q v6 y1 (v8 + 1) σ))))) : LMoon_commonDivisor_6 xs d Q v4 v6 v8 σ :=
  fun L0 => fun l1 nl1 => fun L2 => fun l3 nl3 => fun L9 => fun l10 nl10 => (wi_iload8 fMoon_commonDivisor_6 (wi_bipush fMoon_commonDivisor_7 (wi_ic_ge fMoon_commonDivisor_8 (fun c3 => (wi_lload4 fMoon_commonDivisor_23 (wi_ret3 fMoon_commonDivisor_24 (h.1 c3)))) (fun c3 => (wi_lload6 fMoon_commonDivisor_9 (wi_sipush fMoon_commonDivisor_10 (wi_lcmp_eq fMoon_commonDivisor_11 fMoon_commonDivisor_12 (fun c2 => (wi_lload4 fMoon_commonDivisor_23 (wi_ret3 fMoon_commonDivisor_24 ((h.2 c3).1 c2)))) (fun c2 => (wi_lload4 fMoon_commonDivisor_13 (wi_lload6 fMoon_commonDivisor_14 (wi_lrem fMoon_commonDivisor_15 c2 (wi_lstore9 fMoon_commonDivisor_16 trivial (wi_lload6 fMoon_commonDivisor_17 (wi_lstore4 fMoon_commonDivisor_18 nl3 (wi_lload9 fMoon_commonDivisor_19 (wi_lstore6 fMoon_commonDivisor_20 trivial (wi_iinc8 fMoon_commonDivisor_21 trivial (((h.2 c3).2 c2) _ rfl).1 (wi_goto fMoon_commonDivisor_22 ((((h.2 c3).2 c2) _ rfl).2 _ _ nl1 _ _ nl3 _ _ (by exact trivial))))))))))))))))))))
theorem k_Moon_commonDivisor {xs : List Int} {d : Nat} {Q : Option w_V → w_M → Prop} {x0 : Int} {x1 : Int} {σ : w_M} (hp : p_Moon_commonDivisor x0 x1 σ) (hQ : ∀ (x : Int) (σ' : w_M), q_Moon_commonDivisor x0 x1 σ x σ' → Q (some (.inr (.inl x))) σ') : w_Call (xs, d) 136 [.inr (.inl x0), .inr (.inl x1)] σ Q := by
  obtain ⟨⟨p0, p1⟩, p2⟩ := hp
  refine bMoon_commonDivisor_0 ?_
  have main : ∀ (n : Nat) (a b k : Int), k + n = 64 → 0 ≤ k → 0 ≤ b → b ≤ a → lk_fin n a b → lk_g a b = lk_g x0 x1 → LMoon_commonDivisor_6 xs d Q a b k σ := by
    intro n
    induction n with
    | zero =>
      intro a b k hk k0 h0 hab hf hg
      have hb := lk_fin_0 h0 hab hf
      refine bMoon_commonDivisor_6 ⟨fun _ => hQ _ _ ⟨?_, rfl⟩, fun h => by omega⟩
      rw [← hg, hb, lk_g_z (by omega)]
    | succ n ih =>
      intro a b k hk k0 h0 hab hf hg
      refine bMoon_commonDivisor_6 ⟨fun h => by omega, fun _ => ⟨fun hb => hQ _ _ ⟨?_, rfl⟩, fun hb y e => ⟨⟨by omega, by omega⟩, ?_⟩⟩⟩
      · rw [← hg, hb, lk_g_z (by omega)]
      · have ht := lk_tmod (a := a) (by omega) h0 hb
        rw [e]
        exact ih _ _ _ (by omega) (by omega) ht.1 (by omega) (lk_fin_s h0 hb hab hf) (by rw [lk_g_r (by omega) h0]; exact hg)
  have h65 := lk_fb65
  exact main 64 x0 x1 0 (by decide) (by decide) p0 p1 (Or.inr (by show x1 < ((lk_fb 65 : Nat) : Int); omega)) rfl
noncomputable def p_Plan_save (b : Nat) (_ : w_M) : Prop := 51 ≤ b
noncomputable def q_Plan_save (b : Nat) (σ σ' : w_M) : Prop := σ' b 0 = σ 32 1 ∧ (∀ i, i < 7 → σ' b (1 + i) = σ 33 i) ∧ (∀ i, i < 4 → σ' b (8 + i) = σ 38 i) ∧ (∀ i, i < 4 → σ' b (12 + i) = σ 37 i) ∧ (∀ i, i < 4 → σ' b (16 + i) = σ 36 i) ∧ w_f1 σ σ' b
noncomputable def p_Plan_restore (b : Nat) (_ : w_M) : Prop := 51 ≤ b
noncomputable def q_Plan_restore (b : Nat) (σ σ' : w_M) : Prop := σ' 32 1 = σ b 0 ∧ (∀ j, j ≠ 1 → σ' 32 j = σ 32 j) ∧ (∀ i, i < 7 → σ' 33 i = σ b (1 + i)) ∧ (∀ i, i < 4 → σ' 38 i = σ b (8 + i)) ∧ (∀ i, i < 4 → σ' 37 i = σ b (12 + i)) ∧ (∀ i, i < 4 → σ' 36 i = σ b (16 + i)) ∧ (∀ c, c < 32 ∨ 39 ≤ c ∨ c = 34 ∨ c = 35 → σ' c = σ c)
theorem w_cpy_q {σ : w_M} {s d sp dp n b j : Nat} : w_cpy σ s d sp dp n b j = if b = d ∧ dp ≤ j ∧ j < dp + n then σ s (sp + (j - dp)) else σ b j := rfl
theorem fPlan_save_0 : w_fe am_c83 0 1 (.aload 1) := ⟨rfl, rfl⟩
theorem fPlan_save_1 : w_fe am_c83 1 2 (.bipush 0) := ⟨rfl, rfl⟩
theorem fPlan_save_2 : w_fe am_c83 2 3 (.aload 0) := ⟨rfl, rfl⟩
theorem fPlan_save_3 : w_fe am_c83 3 4 (.getfield 600) := ⟨rfl, rfl⟩
theorem fPlan_save_4 : w_fe am_c83 4 5 (.getfield 201) := ⟨rfl, rfl⟩
theorem fPlan_save_5 : w_fe am_c83 5 6 (.iastore) := ⟨rfl, rfl⟩
theorem fPlan_save_6 : w_fe am_c83 6 7 (.aload 0) := ⟨rfl, rfl⟩
theorem fPlan_save_7 : w_fe am_c83 7 8 (.getfield 600) := ⟨rfl, rfl⟩
theorem fPlan_save_8 : w_fe am_c83 8 9 (.getfield 207) := ⟨rfl, rfl⟩
theorem fPlan_save_9 : w_fe am_c83 9 10 (.bipush 0) := ⟨rfl, rfl⟩
theorem fPlan_save_10 : w_fe am_c83 10 11 (.aload 1) := ⟨rfl, rfl⟩
theorem fPlan_save_11 : w_fe am_c83 11 12 (.bipush 1) := ⟨rfl, rfl⟩
theorem fPlan_save_12 : w_fe am_c83 12 13 (.bipush 7) := ⟨rfl, rfl⟩
theorem fPlan_save_13 : w_fe am_c83 13 14 (.invokedynamic 0) := ⟨rfl, rfl⟩
theorem fPlan_save_14 : w_fe am_c83 14 15 (.aload 0) := ⟨rfl, rfl⟩
theorem fPlan_save_15 : w_fe am_c83 15 16 (.getfield 600) := ⟨rfl, rfl⟩
theorem fPlan_save_16 : w_fe am_c83 16 17 (.getfield 212) := ⟨rfl, rfl⟩
theorem fPlan_save_17 : w_fe am_c83 17 18 (.bipush 0) := ⟨rfl, rfl⟩
theorem fPlan_save_18 : w_fe am_c83 18 19 (.aload 1) := ⟨rfl, rfl⟩
theorem fPlan_save_19 : w_fe am_c83 19 20 (.bipush 8) := ⟨rfl, rfl⟩
theorem fPlan_save_20 : w_fe am_c83 20 21 (.bipush 4) := ⟨rfl, rfl⟩
theorem fPlan_save_21 : w_fe am_c83 21 22 (.invokedynamic 0) := ⟨rfl, rfl⟩
theorem fPlan_save_22 : w_fe am_c83 22 23 (.aload 0) := ⟨rfl, rfl⟩
theorem fPlan_save_23 : w_fe am_c83 23 24 (.getfield 600) := ⟨rfl, rfl⟩
theorem fPlan_save_24 : w_fe am_c83 24 25 (.getfield 211) := ⟨rfl, rfl⟩
theorem fPlan_save_25 : w_fe am_c83 25 26 (.bipush 0) := ⟨rfl, rfl⟩
theorem fPlan_save_26 : w_fe am_c83 26 27 (.aload 1) := ⟨rfl, rfl⟩
theorem fPlan_save_27 : w_fe am_c83 27 28 (.bipush 12) := ⟨rfl, rfl⟩
theorem fPlan_save_28 : w_fe am_c83 28 29 (.bipush 4) := ⟨rfl, rfl⟩
theorem fPlan_save_29 : w_fe am_c83 29 30 (.invokedynamic 0) := ⟨rfl, rfl⟩
theorem fPlan_save_30 : w_fe am_c83 30 31 (.aload 0) := ⟨rfl, rfl⟩
theorem fPlan_save_31 : w_fe am_c83 31 32 (.getfield 600) := ⟨rfl, rfl⟩
theorem fPlan_save_32 : w_fe am_c83 32 33 (.getfield 210) := ⟨rfl, rfl⟩
theorem fPlan_save_33 : w_fe am_c83 33 34 (.bipush 0) := ⟨rfl, rfl⟩
theorem fPlan_save_34 : w_fe am_c83 34 35 (.aload 1) := ⟨rfl, rfl⟩
theorem fPlan_save_35 : w_fe am_c83 35 36 (.bipush 16) := ⟨rfl, rfl⟩
theorem fPlan_save_36 : w_fe am_c83 36 37 (.bipush 4) := ⟨rfl, rfl⟩
theorem fPlan_save_37 : w_fe am_c83 37 38 (.invokedynamic 0) := ⟨rfl, rfl⟩
theorem fPlan_save_38 : w_fe am_c83 38 39 (.return_) := ⟨rfl, rfl⟩
set_option maxRecDepth 20000 in
theorem bPlan_save_0 {xs : List Int} {d : Nat} {Q : Option w_V → w_M → Prop} {b : Nat} {σ : w_M}
    (h : ∀ (τ1 : w_M), τ1 = w_up σ b 0 (σ 32 1) → ∀ (τ2 : w_M), τ2 = w_cpy τ1 33 b 0 1 7 → ∀ (τ3 : w_M), τ3 = w_cpy τ2 38 b 0 8 4 → ∀ (τ4 : w_M), τ4 = w_cpy τ3 37 b 0 12 4 → ∀ (τ5 : w_M), τ5 = w_cpy τ4 36 b 0 16 4 → Q none τ5) : w_Call (xs, d) 83 [.inr (.inr (6, 31)), .inr (.inr (1020, b))] σ Q :=
  (w_mk (mid := 83) (by decide) rfl rfl rfl rfl rfl (Nat.le_of_ble_eq_true rfl) ⟨rfl, Or.inl (by decide)⟩ (wi_aload1 fPlan_save_0 (wi_bipush fPlan_save_1 (wi_aload0 fPlan_save_2 (wi_getf600 fPlan_save_3 (wi_getf201 fPlan_save_4 (wi_iast1020 fPlan_save_5 (by decide) (by decide) (wi_aload0 fPlan_save_6 (wi_getf600 fPlan_save_7 (wi_getf207 fPlan_save_8 (wi_bipush fPlan_save_9 (wi_aload1 fPlan_save_10 (wi_bipush fPlan_save_11 (wi_bipush fPlan_save_12 (wi_acopy fPlan_save_13 (by decide) (Nat.le_of_ble_eq_true rfl) (by decide) (by decide) (by decide) (by decide) (by decide) (wi_aload0 fPlan_save_14 (wi_getf600 fPlan_save_15 (wi_getf212 fPlan_save_16 (wi_bipush fPlan_save_17 (wi_aload1 fPlan_save_18 (wi_bipush fPlan_save_19 (wi_bipush fPlan_save_20 (wi_acopy fPlan_save_21 (by decide) (Nat.le_of_ble_eq_true rfl) (by decide) (by decide) (by decide) (by decide) (by decide) (wi_aload0 fPlan_save_22 (wi_getf600 fPlan_save_23 (wi_getf211 fPlan_save_24 (wi_bipush fPlan_save_25 (wi_aload1 fPlan_save_26 (wi_bipush fPlan_save_27 (wi_bipush fPlan_save_28 (wi_acopy fPlan_save_29 (by decide) (Nat.le_of_ble_eq_true rfl) (by decide) (by decide) (by decide) (by decide) (by decide) (wi_aload0 fPlan_save_30 (wi_getf600 fPlan_save_31 (wi_getf210 fPlan_save_32 (wi_bipush fPlan_save_33 (wi_aload1 fPlan_save_34 (wi_bipush fPlan_save_35 (wi_bipush fPlan_save_36 (wi_acopy fPlan_save_37 (by decide) (Nat.le_of_ble_eq_true rfl) (by decide) (by decide) (by decide) (by decide) (by decide) (wi_ret0 fPlan_save_38 (((((h _ rfl) _ rfl) _ rfl) _ rfl) _ rfl)))))))))))))))))))))))))))))))))))))))))
theorem fPlan_restore_0 : w_fe am_c84 0 1 (.aload 0) := ⟨rfl, rfl⟩
theorem fPlan_restore_1 : w_fe am_c84 1 2 (.getfield 600) := ⟨rfl, rfl⟩
theorem fPlan_restore_2 : w_fe am_c84 2 3 (.aload 1) := ⟨rfl, rfl⟩
theorem fPlan_restore_3 : w_fe am_c84 3 4 (.bipush 0) := ⟨rfl, rfl⟩
theorem fPlan_restore_4 : w_fe am_c84 4 5 (.iaload) := ⟨rfl, rfl⟩
theorem fPlan_restore_5 : w_fe am_c84 5 6 (.putfield 201) := ⟨rfl, rfl⟩
theorem fPlan_restore_6 : w_fe am_c84 6 7 (.aload 1) := ⟨rfl, rfl⟩
theorem fPlan_restore_7 : w_fe am_c84 7 8 (.bipush 1) := ⟨rfl, rfl⟩
theorem fPlan_restore_8 : w_fe am_c84 8 9 (.aload 0) := ⟨rfl, rfl⟩
theorem fPlan_restore_9 : w_fe am_c84 9 10 (.getfield 600) := ⟨rfl, rfl⟩
theorem fPlan_restore_10 : w_fe am_c84 10 11 (.getfield 207) := ⟨rfl, rfl⟩
theorem fPlan_restore_11 : w_fe am_c84 11 12 (.bipush 0) := ⟨rfl, rfl⟩
theorem fPlan_restore_12 : w_fe am_c84 12 13 (.bipush 7) := ⟨rfl, rfl⟩
theorem fPlan_restore_13 : w_fe am_c84 13 14 (.invokedynamic 0) := ⟨rfl, rfl⟩
theorem fPlan_restore_14 : w_fe am_c84 14 15 (.aload 1) := ⟨rfl, rfl⟩
theorem fPlan_restore_15 : w_fe am_c84 15 16 (.bipush 8) := ⟨rfl, rfl⟩
theorem fPlan_restore_16 : w_fe am_c84 16 17 (.aload 0) := ⟨rfl, rfl⟩
theorem fPlan_restore_17 : w_fe am_c84 17 18 (.getfield 600) := ⟨rfl, rfl⟩
theorem fPlan_restore_18 : w_fe am_c84 18 19 (.getfield 212) := ⟨rfl, rfl⟩
theorem fPlan_restore_19 : w_fe am_c84 19 20 (.bipush 0) := ⟨rfl, rfl⟩
theorem fPlan_restore_20 : w_fe am_c84 20 21 (.bipush 4) := ⟨rfl, rfl⟩
theorem fPlan_restore_21 : w_fe am_c84 21 22 (.invokedynamic 0) := ⟨rfl, rfl⟩
theorem fPlan_restore_22 : w_fe am_c84 22 23 (.aload 1) := ⟨rfl, rfl⟩
theorem fPlan_restore_23 : w_fe am_c84 23 24 (.bipush 12) := ⟨rfl, rfl⟩
theorem fPlan_restore_24 : w_fe am_c84 24 25 (.aload 0) := ⟨rfl, rfl⟩
theorem fPlan_restore_25 : w_fe am_c84 25 26 (.getfield 600) := ⟨rfl, rfl⟩
theorem fPlan_restore_26 : w_fe am_c84 26 27 (.getfield 211) := ⟨rfl, rfl⟩
theorem fPlan_restore_27 : w_fe am_c84 27 28 (.bipush 0) := ⟨rfl, rfl⟩
theorem fPlan_restore_28 : w_fe am_c84 28 29 (.bipush 4) := ⟨rfl, rfl⟩
theorem fPlan_restore_29 : w_fe am_c84 29 30 (.invokedynamic 0) := ⟨rfl, rfl⟩
theorem fPlan_restore_30 : w_fe am_c84 30 31 (.aload 1) := ⟨rfl, rfl⟩
theorem fPlan_restore_31 : w_fe am_c84 31 32 (.bipush 16) := ⟨rfl, rfl⟩
theorem fPlan_restore_32 : w_fe am_c84 32 33 (.aload 0) := ⟨rfl, rfl⟩
theorem fPlan_restore_33 : w_fe am_c84 33 34 (.getfield 600) := ⟨rfl, rfl⟩
theorem fPlan_restore_34 : w_fe am_c84 34 35 (.getfield 210) := ⟨rfl, rfl⟩
theorem fPlan_restore_35 : w_fe am_c84 35 36 (.bipush 0) := ⟨rfl, rfl⟩
theorem fPlan_restore_36 : w_fe am_c84 36 37 (.bipush 4) := ⟨rfl, rfl⟩
theorem fPlan_restore_37 : w_fe am_c84 37 38 (.invokedynamic 0) := ⟨rfl, rfl⟩
theorem fPlan_restore_38 : w_fe am_c84 38 39 (.return_) := ⟨rfl, rfl⟩
set_option maxRecDepth 20000 in
theorem bPlan_restore_0 {xs : List Int} {d : Nat} {Q : Option w_V → w_M → Prop} {b : Nat} {σ : w_M}
    (h : ∀ (τ1 : w_M), τ1 = w_up σ 32 1 (σ b 0) → ∀ (τ2 : w_M), τ2 = w_cpy τ1 b 33 1 0 7 → ∀ (τ3 : w_M), τ3 = w_cpy τ2 b 38 8 0 4 → ∀ (τ4 : w_M), τ4 = w_cpy τ3 b 37 12 0 4 → ∀ (τ5 : w_M), τ5 = w_cpy τ4 b 36 16 0 4 → Q none τ5) : w_Call (xs, d) 84 [.inr (.inr (6, 31)), .inr (.inr (1020, b))] σ Q :=
  (w_mk (mid := 84) (by decide) rfl rfl rfl rfl rfl (Nat.le_of_ble_eq_true rfl) ⟨rfl, Or.inl (by decide)⟩ (wi_aload0 fPlan_restore_0 (wi_getf600 fPlan_restore_1 (wi_aload1 fPlan_restore_2 (wi_bipush fPlan_restore_3 (wi_iald1020 fPlan_restore_4 (by decide) (by decide) (wi_putf201 fPlan_restore_5 (wi_aload1 fPlan_restore_6 (wi_bipush fPlan_restore_7 (wi_aload0 fPlan_restore_8 (wi_getf600 fPlan_restore_9 (wi_getf207 fPlan_restore_10 (wi_bipush fPlan_restore_11 (wi_bipush fPlan_restore_12 (wi_acopy fPlan_restore_13 (by decide) (Nat.le_of_ble_eq_true rfl) (by decide) (by decide) (by decide) (by decide) (by decide) (wi_aload1 fPlan_restore_14 (wi_bipush fPlan_restore_15 (wi_aload0 fPlan_restore_16 (wi_getf600 fPlan_restore_17 (wi_getf212 fPlan_restore_18 (wi_bipush fPlan_restore_19 (wi_bipush fPlan_restore_20 (wi_acopy fPlan_restore_21 (by decide) (Nat.le_of_ble_eq_true rfl) (by decide) (by decide) (by decide) (by decide) (by decide) (wi_aload1 fPlan_restore_22 (wi_bipush fPlan_restore_23 (wi_aload0 fPlan_restore_24 (wi_getf600 fPlan_restore_25 (wi_getf211 fPlan_restore_26 (wi_bipush fPlan_restore_27 (wi_bipush fPlan_restore_28 (wi_acopy fPlan_restore_29 (by decide) (Nat.le_of_ble_eq_true rfl) (by decide) (by decide) (by decide) (by decide) (by decide) (wi_aload1 fPlan_restore_30 (wi_bipush fPlan_restore_31 (wi_aload0 fPlan_restore_32 (wi_getf600 fPlan_restore_33 (wi_getf210 fPlan_restore_34 (wi_bipush fPlan_restore_35 (wi_bipush fPlan_restore_36 (wi_acopy fPlan_restore_37 (by decide) (Nat.le_of_ble_eq_true rfl) (by decide) (by decide) (by decide) (by decide) (by decide) (wi_ret0 fPlan_restore_38 (((((h _ rfl) _ rfl) _ rfl) _ rfl) _ rfl)))))))))))))))))))))))))))))))))))))))))
theorem k_Plan_save {xs : List Int} {d : Nat} {Q : Option w_V → w_M → Prop} {b : Nat} {σ : w_M} (hp : p_Plan_save b σ) (hQ : ∀ σ' : w_M, q_Plan_save b σ σ' → Q none σ') : w_Call (xs, d) 83 [.inr (.inr (6, 31)), .inr (.inr (1020, b))] σ Q := by
  have hb : 51 ≤ b := hp
  refine bPlan_save_0 (fun τ1 t1 τ2 t2 τ3 t3 τ4 t4 τ5 t5 => hQ _ ?_)
  have a1 : ∀ c, c ≠ b → τ1 c = σ c := fun c hc => by rw [t1, w_up_ne hc]
  have a2 : ∀ c, c ≠ b → τ2 c = σ c := fun c hc => by rw [t2, w_cpy_ne hc, a1 c hc]
  have a3 : ∀ c, c ≠ b → τ3 c = σ c := fun c hc => by rw [t3, w_cpy_ne hc, a2 c hc]
  have a4 : ∀ c, c ≠ b → τ4 c = σ c := fun c hc => by rw [t4, w_cpy_ne hc, a3 c hc]
  have a5 : ∀ c, c ≠ b → τ5 c = σ c := fun c hc => by rw [t5, w_cpy_ne hc, a4 c hc]
  refine ⟨?_, fun i hi => ?_, fun i hi => ?_, fun i hi => ?_, fun i hi => ?_, a5⟩
  · rw [t5, w_cpy_q, if_neg (by omega), t4, w_cpy_q, if_neg (by omega), t3, w_cpy_q, if_neg (by omega), t2, w_cpy_q, if_neg (by omega), t1, w_up_at]
  · rw [t5, w_cpy_q, if_neg (by omega), t4, w_cpy_q, if_neg (by omega), t3, w_cpy_q, if_neg (by omega), t2, w_cpy_q, if_pos (by omega), a1 33 (by omega), show 0 + (1 + i - 1) = i by omega]
  · rw [t5, w_cpy_q, if_neg (by omega), t4, w_cpy_q, if_neg (by omega), t3, w_cpy_q, if_pos (by omega), a2 38 (by omega), show 0 + (8 + i - 8) = i by omega]
  · rw [t5, w_cpy_q, if_neg (by omega), t4, w_cpy_q, if_pos (by omega), a3 37 (by omega), show 0 + (12 + i - 12) = i by omega]
  · rw [t5, w_cpy_q, if_pos (by omega), a4 36 (by omega), show 0 + (16 + i - 16) = i by omega]
theorem k_Plan_restore {xs : List Int} {d : Nat} {Q : Option w_V → w_M → Prop} {b : Nat} {σ : w_M} (hp : p_Plan_restore b σ) (hQ : ∀ σ' : w_M, q_Plan_restore b σ σ' → Q none σ') : w_Call (xs, d) 84 [.inr (.inr (6, 31)), .inr (.inr (1020, b))] σ Q := by
  have hb : 51 ≤ b := hp
  refine bPlan_restore_0 (fun τ1 t1 τ2 t2 τ3 t3 τ4 t4 τ5 t5 => hQ _ ?_)
  have b1 : τ1 b = σ b := by rw [t1, w_up_ne (by omega)]
  have b2 : τ2 b = σ b := by rw [t2, w_cpy_ne (by omega), b1]
  have b3 : τ3 b = σ b := by rw [t3, w_cpy_ne (by omega), b2]
  have b4 : τ4 b = σ b := by rw [t4, w_cpy_ne (by omega), b3]
  refine ⟨?_, fun j hj => ?_, fun i hi => ?_, fun i hi => ?_, fun i hi => ?_, fun i hi => ?_, fun c hc => ?_⟩
  · rw [t5, w_cpy_ne (by decide), t4, w_cpy_ne (by decide), t3, w_cpy_ne (by decide), t2, w_cpy_ne (by decide), t1, w_up_at]
  · rw [t5, w_cpy_ne (by decide), t4, w_cpy_ne (by decide), t3, w_cpy_ne (by decide), t2, w_cpy_ne (by decide), t1, w_up_j hj]
  · rw [t5, w_cpy_ne (by decide), t4, w_cpy_ne (by decide), t3, w_cpy_ne (by decide), t2, w_cpy_q, if_pos (by omega), b1, Nat.sub_zero]
  · rw [t5, w_cpy_ne (by decide), t4, w_cpy_ne (by decide), t3, w_cpy_q, if_pos (by omega), b2, Nat.sub_zero]
  · rw [t5, w_cpy_ne (by decide), t4, w_cpy_q, if_pos (by omega), b3, Nat.sub_zero]
  · rw [t5, w_cpy_q, if_pos (by omega), b4, Nat.sub_zero]
  · rw [t5, w_cpy_ne (by omega), t4, w_cpy_ne (by omega), t3, w_cpy_ne (by omega), t2, w_cpy_ne (by omega), t1, w_up_ne (by omega)]
theorem w_ab_row {σ : w_M} {a d i : Nat} (hd : d < 9) : w_ab σ a d i = if i < w_rl σ a d then σ (a + d) i else 0 := by unfold w_ab; rw [if_pos hd]
theorem w_ab_9 {σ : w_M} {a i : Nat} : w_ab σ a 9 i = if i < (σ a 4).toNat then w_and (w_shr (σ a 6) i) 1 else 0 := rfl
theorem w_ab_10 {σ : w_M} {a d i : Nat} (hd : 10 ≤ d) : w_ab σ a d i = 0 := by unfold w_ab; rw [if_neg (by omega), if_neg (by omega)]
theorem lk_rs {σ τ τ' : w_M} (hok : n_ok σ 32) (hs : n_same (w_ab σ 32) (w_ab τ 32)) (h1 : τ' 32 1 = σ 32 1) (h0 : ∀ j, j ≠ 1 → τ' 32 j = τ 32 j) (hy : ∀ i, i < 7 → τ' 33 i = σ 33 i) (ho : ∀ i, i < 4 → τ' 36 i = σ 36 i) (he : ∀ i, i < 4 → τ' 37 i = σ 37 i) (ha : ∀ i, i < 4 → τ' 38 i = σ 38 i) (h34 : τ' 34 = τ 34) (h35 : τ' 35 = τ 35) : n_lk (w_ab σ 32) (w_ab τ' 32) := by
  have hsn := n_ok.s hok
  have hnn := n_ok.n hok
  have t4 : τ 32 4 = σ 32 4 := hs.1 4 (by decide) (by decide)
  have t5 : τ 32 5 = σ 32 5 := hs.1 5 (by decide) (by decide)
  have e4 : τ' 32 4 = σ 32 4 := (h0 4 (by decide)).trans t4
  have e5 : τ' 32 5 = σ 32 5 := (h0 5 (by decide)).trans t5
  have rl : ∀ d, w_rl τ' 32 d = w_rl σ 32 d := fun d => by unfold w_rl; rw [e4, e5]
  have rl2 : ∀ d, w_rl τ' 32 d = w_rl τ 32 d := fun d => by unfold w_rl; rw [e4, e5, t4, t5]
  have r1 : ∀ d i, 1 ≤ d → d ≤ 2 → i < w_rl σ 32 d → i < 7 := fun d i h1 h2 hi => by
    unfold w_rl at hi
    rw [if_neg (by omega), if_pos (by omega)] at hi
    omega
  have r3 : ∀ d i, 3 ≤ d → d ≤ 7 → i < w_rl σ 32 d → i < 4 := fun d i h1 h2 hi => by
    unfold w_rl at hi
    rw [if_neg (by omega), if_neg (by omega), if_pos (by omega)] at hi
    omega
  refine ⟨fun j hj => ?_, fun d d1 d7 d8 => ?_⟩
  · by_cases hj6 : j < 6
    · rw [w_ab0 hj6, w_ab0 hj6]
      by_cases hj1 : j = 1
      · rw [hj1]; exact h1
      · rw [h0 j hj1]
        have := hs.1 j hj1 hj
        rw [w_ab0 hj6, w_ab0 hj6] at this
        exact this
    · have z : ∀ σ : w_M, w_ab σ 32 0 j = 0 := fun σ => by rw [w_ab_row (by decide)]; exact if_neg (show ¬ j < 6 from hj6)
      rw [z, z]
  · funext i
    by_cases h9 : d < 9
    · rw [w_ab_row h9, w_ab_row h9, rl]
      by_cases hi : i < w_rl σ 32 d
      · rw [if_pos hi, if_pos hi]
        rcases (show d = 1 ∨ d = 2 ∨ d = 3 ∨ d = 4 ∨ d = 5 ∨ d = 6 by omega) with rfl | rfl | rfl | rfl | rfl | rfl
        · exact hy i (r1 1 i (by decide) (by decide) hi)
        · have := congrFun hs.2.1 i
          rw [w_ab_row (by decide), w_ab_row (by decide), ← rl2, rl, if_pos hi, if_pos hi] at this
          show τ' 34 i = σ 34 i
          rw [h34]
          exact this
        · have := congrFun hs.2.2.1 i
          rw [w_ab_row (by decide), w_ab_row (by decide), ← rl2, rl, if_pos hi, if_pos hi] at this
          show τ' 35 i = σ 35 i
          rw [h35]
          exact this
        · exact ho i (r3 4 i (by decide) (by decide) hi)
        · exact he i (r3 5 i (by decide) (by decide) hi)
        · exact ha i (r3 6 i (by decide) (by decide) hi)
      · rw [if_neg hi, if_neg hi]
    · by_cases hd9 : d = 9
      · subst hd9
        have := congrFun hs.2.2.2 i
        rw [w_ab_9, w_ab_9, t4] at this
        rw [w_ab_9, w_ab_9, e4, h0 6 (by decide)]
        exact this
      · rw [w_ab_10 (by omega), w_ab_10 (by omega)]
theorem lk_s_lep {v : Int} (hv : 0 ≤ v ∧ v ≤ 10) : ∀ (n : Nat) (A : w_M), n ≤ 12 → 0 ≤ lk_s A v n (2 ^ n) ∧ lk_s A v n (2 ^ n) ≤ lk_p n := by
  intro n
  induction n with
  | zero => intro A _; rw [lk_0]; have := lk_p_pos 0; split <;> omega
  | succ n ih =>
    intro A hn
    rw [lk_rec (by omega), lk_p_s]
    have a := ih (n_hour A 0) (by omega)
    have b := ih (n_hour A 1) (by omega)
    have p := lk_p_pos n
    have a1 : 0 ≤ (10 - v) * lk_s (n_hour A 0) v n (2 ^ n) := Int.mul_nonneg (by omega) a.1
    have b1 : 0 ≤ v * lk_s (n_hour A 1) v n (2 ^ n) := Int.mul_nonneg (by omega) b.1
    have a2 : (10 - v) * lk_s (n_hour A 0) v n (2 ^ n) ≤ (10 - v) * lk_p n := Int.mul_le_mul_of_nonneg_left a.2 (by omega)
    have b2 : v * lk_s (n_hour A 1) v n (2 ^ n) ≤ v * lk_p n := Int.mul_le_mul_of_nonneg_left b.2 (by omega)
    have e : (10 - v) * lk_p n + v * lk_p n = lk_p n * 10 := by rw [← Int.add_mul, Int.mul_comm]; congr 1; omega
    omega
noncomputable def lk_U (A : w_M) (v : Int) : Int := lk_s A v (n_left A) (2 ^ n_left A)
noncomputable def p_Plan_weightFrom (x1 x2 : Int) (σ : w_M) : Prop := n_ok σ 32 ∧ (0 ≤ x2 ∧ x2 ≤ 10) ∧ (0 ≤ x1 ∧ x1 + (σ 32 0 - σ 32 1) ≤ 12)
noncomputable def q_Plan_weightFrom (x1 x2 : Int) (σ : w_M) (y : Int) (σ' : w_M) : Prop := y = lk_U (w_ab σ 32) x2 ∧ n_same (w_ab σ 32) (w_ab σ' 32) ∧ (∀ b, b < 32 ∨ 63 ≤ b ∨ (41 ≤ b ∧ b < 51 + x1.toNat) → σ' b = σ b)
theorem fPlan_weightFrom_0 : w_fe am_c82 0 1 (.aload 0) := ⟨rfl, rfl⟩
theorem fPlan_weightFrom_1 : w_fe am_c82 1 2 (.getfield 600) := ⟨rfl, rfl⟩
theorem fPlan_weightFrom_2 : w_fe am_c82 2 3 (.invokestatic 35) := ⟨rfl, rfl⟩
theorem fPlan_weightFrom_3 : w_fe am_c82 3 4 (.istore 3) := ⟨rfl, rfl⟩
theorem fPlan_weightFrom_4 : w_fe am_c82 4 5 (.aload 0) := ⟨rfl, rfl⟩
theorem fPlan_weightFrom_5 : w_fe am_c82 5 6 (.getfield 600) := ⟨rfl, rfl⟩
theorem fPlan_weightFrom_6 : w_fe am_c82 6 7 (.invokestatic 39) := ⟨rfl, rfl⟩
theorem fPlan_weightFrom_7 : w_fe am_c82 7 8 (.istore 4) := ⟨rfl, rfl⟩
theorem fPlan_weightFrom_8 : w_fe am_c82 8 9 (.iload 3) := ⟨rfl, rfl⟩
theorem fPlan_weightFrom_9 : w_if am_c82 9 10 .ne 13 := ⟨rfl, rfl⟩
theorem fPlan_weightFrom_10 : w_fe am_c82 10 11 (.iload 4) := ⟨rfl, rfl⟩
theorem fPlan_weightFrom_11 : w_fe am_c82 11 12 (.invokestatic 135) := ⟨rfl, rfl⟩
theorem fPlan_weightFrom_12 : w_fe am_c82 12 13 (.ireturn) := ⟨rfl, rfl⟩
theorem fPlan_weightFrom_13 : w_fe am_c82 13 14 (.iload 1) := ⟨rfl, rfl⟩
theorem fPlan_weightFrom_14 : w_fe am_c82 14 15 (.bipush 12) := ⟨rfl, rfl⟩
theorem fPlan_weightFrom_15 : w_ic am_c82 15 16 .ge 25 := ⟨rfl, rfl⟩
theorem fPlan_weightFrom_16 : w_fe am_c82 16 17 (.iload 4) := ⟨rfl, rfl⟩
theorem fPlan_weightFrom_17 : w_if am_c82 17 18 .le 25 := ⟨rfl, rfl⟩
theorem fPlan_weightFrom_18 : w_fe am_c82 18 19 (.iload 3) := ⟨rfl, rfl⟩
theorem fPlan_weightFrom_19 : w_fe am_c82 19 20 (.iload 4) := ⟨rfl, rfl⟩
theorem fPlan_weightFrom_20 : w_fe am_c82 20 21 (.aload 0) := ⟨rfl, rfl⟩
theorem fPlan_weightFrom_21 : w_fe am_c82 21 22 (.getfield 600) := ⟨rfl, rfl⟩
theorem fPlan_weightFrom_22 : w_fe am_c82 22 23 (.invokestatic 48) := ⟨rfl, rfl⟩
theorem fPlan_weightFrom_23 : w_fe am_c82 23 24 (.imul) := ⟨rfl, rfl⟩
theorem fPlan_weightFrom_24 : w_ic am_c82 24 25 .le 27 := ⟨rfl, rfl⟩
theorem fPlan_weightFrom_25 : w_fe am_c82 25 26 (.sipush 0) := ⟨rfl, rfl⟩
theorem fPlan_weightFrom_26 : w_fe am_c82 26 27 (.ireturn) := ⟨rfl, rfl⟩
theorem fPlan_weightFrom_27 : w_fe am_c82 27 28 (.aload 0) := ⟨rfl, rfl⟩
theorem fPlan_weightFrom_28 : w_fe am_c82 28 29 (.getfield 606) := ⟨rfl, rfl⟩
theorem fPlan_weightFrom_29 : w_fe am_c82 29 30 (.iload 1) := ⟨rfl, rfl⟩
theorem fPlan_weightFrom_30 : w_fe am_c82 30 31 (.aaload) := ⟨rfl, rfl⟩
theorem fPlan_weightFrom_31 : w_fe am_c82 31 32 (.astore 5) := ⟨rfl, rfl⟩
theorem fPlan_weightFrom_32 : w_fe am_c82 32 33 (.aload 0) := ⟨rfl, rfl⟩
theorem fPlan_weightFrom_33 : w_fe am_c82 33 34 (.aload 5) := ⟨rfl, rfl⟩
theorem fPlan_weightFrom_34 : w_fe am_c82 34 35 (.invokestatic 83) := ⟨rfl, rfl⟩
theorem fPlan_weightFrom_35 : w_fe am_c82 35 36 (.sipush 0) := ⟨rfl, rfl⟩
theorem fPlan_weightFrom_36 : w_fe am_c82 36 37 (.lstore 6) := ⟨rfl, rfl⟩
theorem fPlan_weightFrom_37 : w_fe am_c82 37 38 (.iload 2) := ⟨rfl, rfl⟩
theorem fPlan_weightFrom_38 : w_if am_c82 38 39 .le 59 := ⟨rfl, rfl⟩
theorem fPlan_weightFrom_39 : w_fe am_c82 39 40 (.aload 0) := ⟨rfl, rfl⟩
theorem fPlan_weightFrom_40 : w_fe am_c82 40 41 (.getfield 600) := ⟨rfl, rfl⟩
theorem fPlan_weightFrom_41 : w_fe am_c82 41 42 (.bipush 1) := ⟨rfl, rfl⟩
theorem fPlan_weightFrom_42 : w_fe am_c82 42 43 (.invokestatic 41) := ⟨rfl, rfl⟩
theorem fPlan_weightFrom_43 : w_fe am_c82 43 44 (.pop) := ⟨rfl, rfl⟩
theorem fPlan_weightFrom_44 : w_fe am_c82 44 45 (.lload 6) := ⟨rfl, rfl⟩
theorem fPlan_weightFrom_45 : w_fe am_c82 45 46 (.iload 2) := ⟨rfl, rfl⟩
theorem fPlan_weightFrom_46 : w_fe am_c82 46 47 (.i2l) := ⟨rfl, rfl⟩
theorem fPlan_weightFrom_47 : w_fe am_c82 47 48 (.aload 0) := ⟨rfl, rfl⟩
theorem fPlan_weightFrom_48 : w_fe am_c82 48 49 (.iload 1) := ⟨rfl, rfl⟩
theorem fPlan_weightFrom_49 : w_fe am_c82 49 50 (.bipush 1) := ⟨rfl, rfl⟩
theorem fPlan_weightFrom_50 : w_fe am_c82 50 51 (.iadd) := ⟨rfl, rfl⟩
theorem fPlan_weightFrom_51 : w_fe am_c82 51 52 (.iload 2) := ⟨rfl, rfl⟩
theorem fPlan_weightFrom_52 : w_fe am_c82 52 53 (.invokestatic 82) := ⟨rfl, rfl⟩
theorem fPlan_weightFrom_53 : w_fe am_c82 53 54 (.lmul) := ⟨rfl, rfl⟩
theorem fPlan_weightFrom_54 : w_fe am_c82 54 55 (.ladd) := ⟨rfl, rfl⟩
theorem fPlan_weightFrom_55 : w_fe am_c82 55 56 (.lstore 6) := ⟨rfl, rfl⟩
theorem fPlan_weightFrom_56 : w_fe am_c82 56 57 (.aload 0) := ⟨rfl, rfl⟩
theorem fPlan_weightFrom_57 : w_fe am_c82 57 58 (.aload 5) := ⟨rfl, rfl⟩
theorem fPlan_weightFrom_58 : w_fe am_c82 58 59 (.invokestatic 84) := ⟨rfl, rfl⟩
theorem fPlan_weightFrom_59 : w_fe am_c82 59 60 (.iload 2) := ⟨rfl, rfl⟩
theorem fPlan_weightFrom_60 : w_fe am_c82 60 61 (.bipush 10) := ⟨rfl, rfl⟩
theorem fPlan_weightFrom_61 : w_ic am_c82 61 62 .ge 81 := ⟨rfl, rfl⟩
theorem fPlan_weightFrom_62 : w_fe am_c82 62 63 (.aload 0) := ⟨rfl, rfl⟩
theorem fPlan_weightFrom_63 : w_fe am_c82 63 64 (.getfield 600) := ⟨rfl, rfl⟩
theorem fPlan_weightFrom_64 : w_fe am_c82 64 65 (.bipush 0) := ⟨rfl, rfl⟩
theorem fPlan_weightFrom_65 : w_fe am_c82 65 66 (.invokestatic 41) := ⟨rfl, rfl⟩
theorem fPlan_weightFrom_66 : w_fe am_c82 66 67 (.pop) := ⟨rfl, rfl⟩
theorem fPlan_weightFrom_67 : w_fe am_c82 67 68 (.lload 6) := ⟨rfl, rfl⟩
theorem fPlan_weightFrom_68 : w_fe am_c82 68 69 (.bipush 10) := ⟨rfl, rfl⟩
theorem fPlan_weightFrom_69 : w_fe am_c82 69 70 (.iload 2) := ⟨rfl, rfl⟩
theorem fPlan_weightFrom_70 : w_fe am_c82 70 71 (.isub) := ⟨rfl, rfl⟩
theorem fPlan_weightFrom_71 : w_fe am_c82 71 72 (.i2l) := ⟨rfl, rfl⟩
theorem fPlan_weightFrom_72 : w_fe am_c82 72 73 (.aload 0) := ⟨rfl, rfl⟩
theorem fPlan_weightFrom_73 : w_fe am_c82 73 74 (.iload 1) := ⟨rfl, rfl⟩
theorem fPlan_weightFrom_74 : w_fe am_c82 74 75 (.bipush 1) := ⟨rfl, rfl⟩
theorem fPlan_weightFrom_75 : w_fe am_c82 75 76 (.iadd) := ⟨rfl, rfl⟩
theorem fPlan_weightFrom_76 : w_fe am_c82 76 77 (.iload 2) := ⟨rfl, rfl⟩
theorem fPlan_weightFrom_77 : w_fe am_c82 77 78 (.invokestatic 82) := ⟨rfl, rfl⟩
theorem fPlan_weightFrom_78 : w_fe am_c82 78 79 (.lmul) := ⟨rfl, rfl⟩
theorem fPlan_weightFrom_79 : w_fe am_c82 79 80 (.ladd) := ⟨rfl, rfl⟩
theorem fPlan_weightFrom_80 : w_fe am_c82 80 81 (.lstore 6) := ⟨rfl, rfl⟩
theorem fPlan_weightFrom_81 : w_fe am_c82 81 82 (.lload 6) := ⟨rfl, rfl⟩
theorem fPlan_weightFrom_82 : w_fe am_c82 82 83 (.ireturn) := ⟨rfl, rfl⟩
set_option maxRecDepth 20000 in
theorem bPlan_weightFrom_0 {xs : List Int} {d : Nat} {Q : Option w_V → w_M → Prop} {x1 : Int} {x2 : Int} {σ : w_M}
    {pW : Int → Int → w_M → Prop} (kW : ∀ {Q : Option w_V → w_M → Prop} {x1 : Int} {x2 : Int} {σ : w_M}, pW x1 x2 σ → (∀ (x : Int) (σ' : w_M), q_Plan_weightFrom x1 x2 σ x σ' → Q (some (.inr (.inl x))) σ') → w_Call (xs, d + 3) 82 [.inr (.inr (6, 31)), .inl x1, .inl x2] σ Q)
    (h : p_Field_standing 32 σ ∧ (∀ (y1 : Int), y1 = v_Field_standing 32 σ → (p_Field_hoursLeft 32 σ ∧ (∀ (y2 : Int), y2 = (σ 32 0 - σ 32 1) → ((¬ y1 = 0 → ((12 ≤ x1 → Q (some (.inr (.inl 0))) σ) ∧ (x1 < 12 → ((y2 ≤ 0 → Q (some (.inr (.inl 0))) σ) ∧ (0 < y2 → (p_Field_allPaces 32 σ ∧ (∀ (y3 : Int), y3 = v_Field_allPaces 32 σ → (w_in (y2 * y3) ∧ ((y1 ≤ (y2 * y3) → (0 ≤ x1 ∧ p_Plan_save (51 + x1.toNat) σ ∧ (∀ (τ4 : w_M), q_Plan_save (51 + x1.toNat) σ τ4 → ((x2 ≤ 0 → ((10 ≤ x2 → Q (some (.inr (.inl 0))) τ4) ∧ (x2 < 10 → (p_Field_passHour 32 0 τ4 ∧ (∀ (y5 : Int) (τ6 : w_M), q_Field_passHour 32 0 τ4 y5 τ6 → (w_in (10 - x2) ∧ w_in (x1 + 1) ∧ pW (x1 + 1) x2 τ6 ∧ (∀ (y7 : Int) (τ8 : w_M), q_Plan_weightFrom (x1 + 1) x2 τ6 y7 τ8 → (w_inl ((10 - x2) * y7) ∧ w_inl (0 + ((10 - x2) * y7)) ∧ (∀ (y9 : Int), y9 = (0 + ((10 - x2) * y7)) → Q (some (.inr (.inl y9))) τ8))))))))) ∧ (0 < x2 → (p_Field_passHour 32 1 τ4 ∧ (∀ (y11 : Int) (τ12 : w_M), q_Field_passHour 32 1 τ4 y11 τ12 → (w_in (x1 + 1) ∧ pW (x1 + 1) x2 τ12 ∧ (∀ (y13 : Int) (τ14 : w_M), q_Plan_weightFrom (x1 + 1) x2 τ12 y13 τ14 → (w_inl (x2 * y13) ∧ w_inl (0 + (x2 * y13)) ∧ (∀ (y15 : Int), y15 = (0 + (x2 * y13)) → (p_Plan_restore (51 + x1.toNat) τ14 ∧ (∀ (τ16 : w_M), q_Plan_restore (51 + x1.toNat) τ14 τ16 → ((10 ≤ x2 → Q (some (.inr (.inl y15))) τ16) ∧ (x2 < 10 → (p_Field_passHour 32 0 τ16 ∧ (∀ (y17 : Int) (τ18 : w_M), q_Field_passHour 32 0 τ16 y17 τ18 → (w_in (10 - x2) ∧ pW (x1 + 1) x2 τ18 ∧ (∀ (y19 : Int) (τ20 : w_M), q_Plan_weightFrom (x1 + 1) x2 τ18 y19 τ20 → (w_inl ((10 - x2) * y19) ∧ w_inl (y15 + ((10 - x2) * y19)) ∧ (∀ (y21 : Int), y21 = (y15 + ((10 - x2) * y19)) → Q (some (.inr (.inl y21))) τ20))))))))))))))))))))) ∧ ((y2 * y3) < y1 → Q (some (.inr (.inl 0))) σ)))))))))) ∧ (y1 = 0 → (p_Moon_tenTo y2 σ ∧ (∀ (y27 : Int) (τ28 : w_M), q_Moon_tenTo y2 σ y27 τ28 → Q (some (.inr (.inl y27))) τ28)))))))) : w_Call (xs, (d + 4)) 82 [.inr (.inr (6, 31)), .inl x1, .inl x2] σ Q :=
  (w_mk (mid := 82) (by decide) rfl rfl rfl rfl rfl (Nat.le_of_ble_eq_true rfl) ⟨rfl, Or.inl (by decide)⟩ (wi_aload0 fPlan_weightFrom_0 (wi_getf600 fPlan_weightFrom_1 (wi_call1 fPlan_weightFrom_2 (Nat.le_of_ble_eq_true rfl) (k_Field_standing h.1 (wi_istore3 fPlan_weightFrom_3 trivial (wi_aload0 fPlan_weightFrom_4 (wi_getf600 fPlan_weightFrom_5 (wi_call1 fPlan_weightFrom_6 (Nat.le_of_ble_eq_true rfl) (k_Field_hoursLeft (h.2 _ rfl).1 (wi_istore4 fPlan_weightFrom_7 trivial (wi_iload3 fPlan_weightFrom_8 (wi_if_ne fPlan_weightFrom_9 (fun c29 => (wi_iload1 fPlan_weightFrom_13 (wi_bipush fPlan_weightFrom_14 (wi_ic_ge fPlan_weightFrom_15 (fun c26 => (wi_sipush fPlan_weightFrom_25 (wi_ret3 fPlan_weightFrom_26 ((((h.2 _ rfl).2 _ rfl).1 c29).1 c26)))) (fun c26 => (wi_iload4 fPlan_weightFrom_16 (wi_if_le fPlan_weightFrom_17 (fun c25 => (wi_sipush fPlan_weightFrom_25 (wi_ret3 fPlan_weightFrom_26 (((((h.2 _ rfl).2 _ rfl).1 c29).2 c26).1 c25)))) (fun c25 => (wi_iload3 fPlan_weightFrom_18 (wi_iload4 fPlan_weightFrom_19 (wi_aload0 fPlan_weightFrom_20 (wi_getf600 fPlan_weightFrom_21 (wi_call1 fPlan_weightFrom_22 (Nat.le_of_ble_eq_true rfl) (k_Field_allPaces (((((h.2 _ rfl).2 _ rfl).1 c29).2 c26).2 c25).1 (wi_imul fPlan_weightFrom_23 ((((((h.2 _ rfl).2 _ rfl).1 c29).2 c26).2 c25).2 _ rfl).1 (wi_ic_le fPlan_weightFrom_24 (fun c24 => (wi_aload0 fPlan_weightFrom_27 (wi_getf606 fPlan_weightFrom_28 (wi_iload1 fPlan_weightFrom_29 (wi_aald11220 fPlan_weightFrom_30 (((((((h.2 _ rfl).2 _ rfl).1 c29).2 c26).2 c25).2 _ rfl).2.1 c24).1 c26 (wi_astore5 fPlan_weightFrom_31 trivial (wi_aload0 fPlan_weightFrom_32 (wi_aload5 fPlan_weightFrom_33 (wi_call2 fPlan_weightFrom_34 (Nat.le_of_ble_eq_true rfl) (k_Plan_save (((((((h.2 _ rfl).2 _ rfl).1 c29).2 c26).2 c25).2 _ rfl).2.1 c24).2.1 (fun τ4 eτ4 => (wi_sipush fPlan_weightFrom_35 (wi_lstore6 fPlan_weightFrom_36 trivial (wi_iload2 fPlan_weightFrom_37 (wi_if_le fPlan_weightFrom_38 (fun c23 => (wi_iload2 fPlan_weightFrom_59 (wi_bipush fPlan_weightFrom_60 (wi_ic_ge fPlan_weightFrom_61 (fun c10 => (wi_lload6 fPlan_weightFrom_81 (wi_ret3 fPlan_weightFrom_82 ((((((((((h.2 _ rfl).2 _ rfl).1 c29).2 c26).2 c25).2 _ rfl).2.1 c24).2.2 τ4 eτ4).1 c23).1 c10)))) (fun c10 => (wi_aload0 fPlan_weightFrom_62 (wi_getf600 fPlan_weightFrom_63 (wi_bipush fPlan_weightFrom_64 (wi_call2 fPlan_weightFrom_65 (Nat.le_of_ble_eq_true rfl) (k_Field_passHour ((((((((((h.2 _ rfl).2 _ rfl).1 c29).2 c26).2 c25).2 _ rfl).2.1 c24).2.2 τ4 eτ4).1 c23).2 c10).1 (fun y5 τ6 eτ6 => (wi_pop_i fPlan_weightFrom_66 (wi_lload6 fPlan_weightFrom_67 (wi_bipush fPlan_weightFrom_68 (wi_iload2 fPlan_weightFrom_69 (wi_isub fPlan_weightFrom_70 (((((((((((h.2 _ rfl).2 _ rfl).1 c29).2 c26).2 c25).2 _ rfl).2.1 c24).2.2 τ4 eτ4).1 c23).2 c10).2 y5 τ6 eτ6).1 (wi_i2l fPlan_weightFrom_71 (wi_aload0 fPlan_weightFrom_72 (wi_iload1 fPlan_weightFrom_73 (wi_bipush fPlan_weightFrom_74 (wi_iadd fPlan_weightFrom_75 (((((((((((h.2 _ rfl).2 _ rfl).1 c29).2 c26).2 c25).2 _ rfl).2.1 c24).2.2 τ4 eτ4).1 c23).2 c10).2 y5 τ6 eτ6).2.1 (wi_iload2 fPlan_weightFrom_76 (wi_call3 fPlan_weightFrom_77 (Nat.le_of_ble_eq_true rfl) (kW (((((((((((h.2 _ rfl).2 _ rfl).1 c29).2 c26).2 c25).2 _ rfl).2.1 c24).2.2 τ4 eτ4).1 c23).2 c10).2 y5 τ6 eτ6).2.2.1 (fun y7 τ8 eτ8 => (wi_lmul fPlan_weightFrom_78 ((((((((((((h.2 _ rfl).2 _ rfl).1 c29).2 c26).2 c25).2 _ rfl).2.1 c24).2.2 τ4 eτ4).1 c23).2 c10).2 y5 τ6 eτ6).2.2.2 y7 τ8 eτ8).1 (wi_ladd fPlan_weightFrom_79 ((((((((((((h.2 _ rfl).2 _ rfl).1 c29).2 c26).2 c25).2 _ rfl).2.1 c24).2.2 τ4 eτ4).1 c23).2 c10).2 y5 τ6 eτ6).2.2.2 y7 τ8 eτ8).2.1 (wi_lstore6 fPlan_weightFrom_80 trivial (wi_lload6 fPlan_weightFrom_81 (wi_ret3 fPlan_weightFrom_82 (((((((((((((h.2 _ rfl).2 _ rfl).1 c29).2 c26).2 c25).2 _ rfl).2.1 c24).2.2 τ4 eτ4).1 c23).2 c10).2 y5 τ6 eτ6).2.2.2 y7 τ8 eτ8).2.2 _ rfl))))))))))))))))))))))))))))))) (fun c23 => (wi_aload0 fPlan_weightFrom_39 (wi_getf600 fPlan_weightFrom_40 (wi_bipush fPlan_weightFrom_41 (wi_call2 fPlan_weightFrom_42 (Nat.le_of_ble_eq_true rfl) (k_Field_passHour (((((((((h.2 _ rfl).2 _ rfl).1 c29).2 c26).2 c25).2 _ rfl).2.1 c24).2.2 τ4 eτ4).2 c23).1 (fun y11 τ12 eτ12 => (wi_pop_i fPlan_weightFrom_43 (wi_lload6 fPlan_weightFrom_44 (wi_iload2 fPlan_weightFrom_45 (wi_i2l fPlan_weightFrom_46 (wi_aload0 fPlan_weightFrom_47 (wi_iload1 fPlan_weightFrom_48 (wi_bipush fPlan_weightFrom_49 (wi_iadd fPlan_weightFrom_50 ((((((((((h.2 _ rfl).2 _ rfl).1 c29).2 c26).2 c25).2 _ rfl).2.1 c24).2.2 τ4 eτ4).2 c23).2 y11 τ12 eτ12).1 (wi_iload2 fPlan_weightFrom_51 (wi_call3 fPlan_weightFrom_52 (Nat.le_of_ble_eq_true rfl) (kW ((((((((((h.2 _ rfl).2 _ rfl).1 c29).2 c26).2 c25).2 _ rfl).2.1 c24).2.2 τ4 eτ4).2 c23).2 y11 τ12 eτ12).2.1 (fun y13 τ14 eτ14 => (wi_lmul fPlan_weightFrom_53 (((((((((((h.2 _ rfl).2 _ rfl).1 c29).2 c26).2 c25).2 _ rfl).2.1 c24).2.2 τ4 eτ4).2 c23).2 y11 τ12 eτ12).2.2 y13 τ14 eτ14).1 (wi_ladd fPlan_weightFrom_54 (((((((((((h.2 _ rfl).2 _ rfl).1 c29).2 c26).2 c25).2 _ rfl).2.1 c24).2.2 τ4 eτ4).2 c23).2 y11 τ12 eτ12).2.2 y13 τ14 eτ14).2.1 (wi_lstore6 fPlan_weightFrom_55 trivial (wi_aload0 fPlan_weightFrom_56 (wi_aload5 fPlan_weightFrom_57 (wi_call2 fPlan_weightFrom_58 (Nat.le_of_ble_eq_true rfl) (k_Plan_restore ((((((((((((h.2 _ rfl).2 _ rfl).1 c29).2 c26).2 c25).2 _ rfl).2.1 c24).2.2 τ4 eτ4).2 c23).2 y11 τ12 eτ12).2.2 y13 τ14 eτ14).2.2 _ rfl).1 (fun τ16 eτ16 => (wi_iload2 fPlan_weightFrom_59 (wi_bipush fPlan_weightFrom_60 (wi_ic_ge fPlan_weightFrom_61 (fun c22 => (wi_lload6 fPlan_weightFrom_81 (wi_ret3 fPlan_weightFrom_82 ((((((((((((((h.2 _ rfl).2 _ rfl).1 c29).2 c26).2 c25).2 _ rfl).2.1 c24).2.2 τ4 eτ4).2 c23).2 y11 τ12 eτ12).2.2 y13 τ14 eτ14).2.2 _ rfl).2 τ16 eτ16).1 c22)))) (fun c22 => (wi_aload0 fPlan_weightFrom_62 (wi_getf600 fPlan_weightFrom_63 (wi_bipush fPlan_weightFrom_64 (wi_call2 fPlan_weightFrom_65 (Nat.le_of_ble_eq_true rfl) (k_Field_passHour ((((((((((((((h.2 _ rfl).2 _ rfl).1 c29).2 c26).2 c25).2 _ rfl).2.1 c24).2.2 τ4 eτ4).2 c23).2 y11 τ12 eτ12).2.2 y13 τ14 eτ14).2.2 _ rfl).2 τ16 eτ16).2 c22).1 (fun y17 τ18 eτ18 => (wi_pop_i fPlan_weightFrom_66 (wi_lload6 fPlan_weightFrom_67 (wi_bipush fPlan_weightFrom_68 (wi_iload2 fPlan_weightFrom_69 (wi_isub fPlan_weightFrom_70 (((((((((((((((h.2 _ rfl).2 _ rfl).1 c29).2 c26).2 c25).2 _ rfl).2.1 c24).2.2 τ4 eτ4).2 c23).2 y11 τ12 eτ12).2.2 y13 τ14 eτ14).2.2 _ rfl).2 τ16 eτ16).2 c22).2 y17 τ18 eτ18).1 (wi_i2l fPlan_weightFrom_71 (wi_aload0 fPlan_weightFrom_72 (wi_iload1 fPlan_weightFrom_73 (wi_bipush fPlan_weightFrom_74 (wi_iadd fPlan_weightFrom_75 ((((((((((h.2 _ rfl).2 _ rfl).1 c29).2 c26).2 c25).2 _ rfl).2.1 c24).2.2 τ4 eτ4).2 c23).2 y11 τ12 eτ12).1 (wi_iload2 fPlan_weightFrom_76 (wi_call3 fPlan_weightFrom_77 (Nat.le_of_ble_eq_true rfl) (kW (((((((((((((((h.2 _ rfl).2 _ rfl).1 c29).2 c26).2 c25).2 _ rfl).2.1 c24).2.2 τ4 eτ4).2 c23).2 y11 τ12 eτ12).2.2 y13 τ14 eτ14).2.2 _ rfl).2 τ16 eτ16).2 c22).2 y17 τ18 eτ18).2.1 (fun y19 τ20 eτ20 => (wi_lmul fPlan_weightFrom_78 ((((((((((((((((h.2 _ rfl).2 _ rfl).1 c29).2 c26).2 c25).2 _ rfl).2.1 c24).2.2 τ4 eτ4).2 c23).2 y11 τ12 eτ12).2.2 y13 τ14 eτ14).2.2 _ rfl).2 τ16 eτ16).2 c22).2 y17 τ18 eτ18).2.2 y19 τ20 eτ20).1 (wi_ladd fPlan_weightFrom_79 ((((((((((((((((h.2 _ rfl).2 _ rfl).1 c29).2 c26).2 c25).2 _ rfl).2.1 c24).2.2 τ4 eτ4).2 c23).2 y11 τ12 eτ12).2.2 y13 τ14 eτ14).2.2 _ rfl).2 τ16 eτ16).2 c22).2 y17 τ18 eτ18).2.2 y19 τ20 eτ20).2.1 (wi_lstore6 fPlan_weightFrom_80 trivial (wi_lload6 fPlan_weightFrom_81 (wi_ret3 fPlan_weightFrom_82 (((((((((((((((((h.2 _ rfl).2 _ rfl).1 c29).2 c26).2 c25).2 _ rfl).2.1 c24).2.2 τ4 eτ4).2 c23).2 y11 τ12 eτ12).2.2 y13 τ14 eτ14).2.2 _ rfl).2 τ16 eτ16).2 c22).2 y17 τ18 eτ18).2.2 y19 τ20 eτ20).2.2 _ rfl)))))))))))))))))))))))))))))))))))))))))))))))))))))))))))))))))))))))) (fun c24 => (wi_sipush fPlan_weightFrom_25 (wi_ret3 fPlan_weightFrom_26 (((((((h.2 _ rfl).2 _ rfl).1 c29).2 c26).2 c25).2 _ rfl).2.2 c24)))))))))))))))))))) (fun c29 => (wi_iload4 fPlan_weightFrom_10 (wi_call1 fPlan_weightFrom_11 (Nat.le_of_ble_eq_true rfl) (k_Moon_tenTo (((h.2 _ rfl).2 _ rfl).2 c29).1 (fun y27 τ28 eτ28 => (wi_ret3 fPlan_weightFrom_12 ((((h.2 _ rfl).2 _ rfl).2 c29).2 y27 τ28 eτ28))))))))))))))))))))
theorem lk_nl {A B : w_M} (h : B 0 0 = A 0 0) (h1 : B 0 1 = A 0 1 + 1) (hh : A 0 1 < A 0 0) : n_left A = n_left B + 1 := by
  unfold n_left
  omega
set_option maxHeartbeats 4000000 in
theorem kk_Plan_weightFrom {xs : List Int} : ∀ (n : Nat) {d : Nat} {Q : Option w_V → w_M → Prop} {x1 x2 : Int} {σ : w_M}, p_Plan_weightFrom x1 x2 σ ∧ n_left (w_ab σ 32) = n → (∀ (x : Int) (σ' : w_M), q_Plan_weightFrom x1 x2 σ x σ' → Q (some (.inr (.inl x))) σ') → w_Call (xs, d + 4 + n) 82 [.inr (.inr (6, 31)), .inl x1, .inl x2] σ Q := by
  intro n
  induction n with
  | zero =>
    intro d Q x1 x2 σ hp hQ
    obtain ⟨⟨hok, hv, hx⟩, hn⟩ := hp
    have hrs := n_ok.hrs hok
    have hr := n_ok.hr hok
    have hl : σ 32 0 = σ 32 1 := by
      have : (σ 32 0 - σ 32 1).toNat = 0 := hn
      omega
    have hsd := n_sd_le hok
    have eU : lk_U (w_ab σ 32) x2 = if n_sd (w_ab σ 32) = 0 then 1 else 0 := by unfold lk_U; rw [hn]; exact lk_0
    refine bPlan_weightFrom_0 (pW := fun _ _ _ => False) (fun h => h.elim) ⟨hok, fun y1 e1 => ⟨⟨by omega, by omega⟩, fun y2 e2 => ⟨fun c => ⟨fun c2 => ?_, fun c2 => ⟨fun c3 => ?_, fun c3 => by omega⟩⟩, fun c => ⟨⟨by omega, by omega⟩, fun y τ hq => ?_⟩⟩⟩⟩
    · exact hQ _ _ ⟨by rw [eU, if_neg (by rw [← show v_Field_standing 32 σ = n_sd (w_ab σ 32) from rfl, ← e1]; exact c)], n_same.rfl', fun _ _ => rfl⟩
    · exact hQ _ _ ⟨by rw [eU, if_neg (by rw [← show v_Field_standing 32 σ = n_sd (w_ab σ 32) from rfl, ← e1]; exact c)], n_same.rfl', fun _ _ => rfl⟩
    · obtain ⟨rfl, rfl⟩ := hq
      refine hQ _ _ ⟨?_, n_same.rfl', fun _ _ => rfl⟩
      rw [eU, if_pos (by rw [← show v_Field_standing 32 τ = n_sd (w_ab τ 32) from rfl, ← e1]; exact c), show y2.toNat = 0 by omega]
      rfl
  | succ n ih =>
    intro d Q x1 x2 σ hp hQ
    obtain ⟨⟨hok, hv, hx⟩, hn⟩ := hp
    have hrs := n_ok.hrs hok
    have hr := n_ok.hr hok
    have hl : σ 32 0 - σ 32 1 = ((n + 1 : Nat) : Int) := by
      have : (σ 32 0 - σ 32 1).toNat = n + 1 := hn
      omega
    have hA1 : w_ab σ 32 0 1 = σ 32 1 := rfl
    have hA0 : w_ab σ 32 0 0 = σ 32 0 := rfl
    have hsd := n_sd_le hok
    have hpc := n_pcs_le hok
    have esd : v_Field_standing 32 σ = n_sd (w_ab σ 32) := rfl
    have epc : v_Field_allPaces 32 σ = n_pcs (w_ab σ 32) := rfl
    have eU : lk_U (w_ab σ 32) x2 = (10 - x2) * lk_s (n_hour (w_ab σ 32) 0) x2 n (2 ^ n) + x2 * lk_s (n_hour (w_ab σ 32) 1) x2 n (2 ^ n) := by unfold lk_U; rw [hn]; exact lk_rec (by omega)
    have s0 := lk_s_lep hv n (n_hour (w_ab σ 32) 0) (by omega)
    have s1 := lk_s_lep hv n (n_hour (w_ab σ 32) 1) (by omega)
    have pn := lk_p_le (k := n) (by omega)
    have m0 : 0 ≤ (10 - x2) * lk_s (n_hour (w_ab σ 32) 0) x2 n (2 ^ n) ∧ (10 - x2) * lk_s (n_hour (w_ab σ 32) 0) x2 n (2 ^ n) ≤ 10 * 1000000000000 := ⟨Int.mul_nonneg (by omega) s0.1, Int.mul_le_mul (by omega) (by omega) s0.1 (by decide)⟩
    have m1 : 0 ≤ x2 * lk_s (n_hour (w_ab σ 32) 1) x2 n (2 ^ n) ∧ x2 * lk_s (n_hour (w_ab σ 32) 1) x2 n (2 ^ n) ≤ 10 * 1000000000000 := ⟨Int.mul_nonneg (by omega) s1.1, Int.mul_le_mul (by omega) (by omega) s1.1 (by decide)⟩
    have ed : d + 4 + (n + 1) = (d + n + 1) + 4 := by omega
    have ed3 : (d + n + 1) + 3 = d + 4 + n := by omega
    rw [ed]
    refine bPlan_weightFrom_0 (d := d + n + 1) (pW := fun x1 x2 σ => p_Plan_weightFrom x1 x2 σ ∧ n_left (w_ab σ 32) = n) (fun h hQ => by rw [ed3]; exact ih h hQ) ⟨hok, fun y1 e1 => ⟨⟨by omega, by omega⟩, fun y2 e2 => ⟨fun c => ⟨fun c2 => by omega, fun c2 => ⟨fun c3 => by omega, fun c3 => ⟨hok, fun y3 e3 => ?_⟩⟩⟩, fun c => ⟨⟨by omega, by omega⟩, fun y τ hq => ?_⟩⟩⟩⟩
    · rw [epc] at e3
      rw [esd] at e1
      have e23 : y2 * y3 = ((n + 1 : Nat) : Int) * n_pcs (w_ab σ 32) := by rw [e2, e3, hl]
      have b23 : 0 ≤ y2 * y3 ∧ y2 * y3 ≤ 12 * 36 := by
        rw [e23]
        exact ⟨Int.mul_nonneg (by omega) hpc.1, Int.mul_le_mul (by omega) hpc.2 hpc.1 (by decide)⟩
      refine ⟨⟨by omega, by omega⟩, fun c4 => ⟨hx.1, (by show 51 ≤ 51 + x1.toNat; omega), fun τ4 hq4 => ?_⟩, fun c4 => ?_⟩
      · obtain ⟨v0, v1, v8, v12, v16, F4⟩ := hq4
        have ab4 : w_ab τ4 32 = w_ab σ 32 := w_ab_fr (fun d hd => F4 _ (by omega))
        have ok4 : n_ok τ4 32 := n_ok.of ab4 hok
        have z32 : τ4 32 = σ 32 := F4 32 (by omega)
        have lt4 : τ4 32 1 < τ4 32 0 := by rw [z32]; omega
        have fin0 : ∀ (τ5 : w_M) (y : Int) (τ6 : w_M), n_lk (w_ab σ 32) (w_ab τ5 32) → q_Field_passHour 32 0 τ5 y τ6 → (p_Plan_weightFrom (x1 + 1) x2 τ6 ∧ n_left (w_ab τ6 32) = n) ∧ lk_U (w_ab τ6 32) x2 = lk_s (n_hour (w_ab σ 32) 0) x2 n (2 ^ n) := fun τ5 y τ6 hl5 hq => by
          have g := (hl5.hour 0)
          rw [← hq.1] at g
          obtain ⟨w1, w2, w3, -⟩ := n_hour_all hok (c := 0) (by omega) (Or.inl rfl)
          have ok6 : n_ok τ6 32 := g.WF w1
          have a0 : τ6 32 0 = σ 32 0 := (g.1 0 (by decide)).trans (w2.1 0 (by decide) (by decide))
          have a1 : τ6 32 1 = σ 32 1 + 1 := (g.1 1 (by decide)).trans w3
          have nl : n_left (w_ab τ6 32) = n := by show (τ6 32 0 - τ6 32 1).toNat = n; omega
          refine ⟨⟨⟨ok6, hv, by omega, by omega⟩, nl⟩, ?_⟩
          unfold lk_U
          rw [nl]
          exact g.lk
        have fin1 : ∀ (τ5 : w_M) (y : Int) (τ6 : w_M), n_lk (w_ab σ 32) (w_ab τ5 32) → q_Field_passHour 32 1 τ5 y τ6 → (p_Plan_weightFrom (x1 + 1) x2 τ6 ∧ n_left (w_ab τ6 32) = n) ∧ lk_U (w_ab τ6 32) x2 = lk_s (n_hour (w_ab σ 32) 1) x2 n (2 ^ n) := fun τ5 y τ6 hl5 hq => by
          have g := (hl5.hour 1)
          rw [← hq.1] at g
          obtain ⟨w1, w2, w3, -⟩ := n_hour_all hok (c := 1) (by omega) (Or.inr rfl)
          have ok6 : n_ok τ6 32 := g.WF w1
          have a0 : τ6 32 0 = σ 32 0 := (g.1 0 (by decide)).trans (w2.1 0 (by decide) (by decide))
          have a1 : τ6 32 1 = σ 32 1 + 1 := (g.1 1 (by decide)).trans w3
          have nl : n_left (w_ab τ6 32) = n := by show (τ6 32 0 - τ6 32 1).toNat = n; omega
          refine ⟨⟨⟨ok6, hv, by omega, by omega⟩, nl⟩, ?_⟩
          unfold lk_U
          rw [nl]
          exact g.lk
        have lk4 : n_lk (w_ab σ 32) (w_ab τ4 32) := by rw [ab4]; exact n_lk.rfl'
        refine ⟨fun c5 => ⟨fun c6 => by omega, fun c6 => ⟨⟨ok4, lt4, Or.inl rfl⟩, fun y5 τ6 hq6 => ?_⟩⟩, fun c5 => ⟨⟨ok4, lt4, Or.inr rfl⟩, fun y11 τ12 hq12 => ?_⟩⟩
        · obtain ⟨pw, eu⟩ := fin0 τ4 y5 τ6 lk4 hq6
          refine ⟨⟨by omega, by omega⟩, ⟨by omega, by omega⟩, pw, fun y7 τ8 hq8 => ?_⟩
          obtain ⟨r1, r2, r3⟩ := hq8
          rw [eu] at r1
          rw [r1]
          refine ⟨⟨by omega, by omega⟩, ⟨by omega, by omega⟩, fun y9 e9 => hQ _ _ ⟨?_, ?_, ?_⟩⟩
          · rw [eU, e9, show x2 = 0 by omega]; omega
          · have n6 := (n_hour_all hok (c := 0) (by omega) (Or.inl rfl)).2.1
            have := hq6.1
            rw [ab4] at this
            rw [← this] at n6
            exact n6.tr r2
          · intro b hb
            rw [r3 b (by omega), hq6.2.2.1 b (by omega), F4 b (by omega)]
        · obtain ⟨pw, eu⟩ := fin1 τ4 y11 τ12 lk4 hq12
          refine ⟨⟨by omega, by omega⟩, pw, fun y13 τ14 hq14 => ?_⟩
          obtain ⟨r1, r2, r3⟩ := hq14
          rw [eu] at r1
          have n12 : n_same (w_ab σ 32) (w_ab τ14 32) := by
            have n6 := (n_hour_all hok (c := 1) (by omega) (Or.inr rfl)).2.1
            have := hq12.1
            rw [ab4] at this
            rw [← this] at n6
            exact n6.tr r2
          have row : τ14 (51 + x1.toNat) = τ4 (51 + x1.toNat) := by rw [r3 _ (by omega), hq12.2.2.1 _ (by omega)]
          rw [r1]
          refine ⟨⟨by omega, by omega⟩, ⟨by omega, by omega⟩, fun y15 e15 => ⟨(by show 51 ≤ 51 + x1.toNat; omega), fun τ16 hq16 => ?_⟩⟩
          obtain ⟨u1, u2, u3, u4, u5, u6, u7⟩ := hq16
          rw [row] at u1 u3 u4 u5 u6
          have lk16 : n_lk (w_ab σ 32) (w_ab τ16 32) := lk_rs hok n12 (u1.trans v0) u2 (fun i hi => (u3 i hi).trans (v1 i hi)) (fun i hi => (u6 i hi).trans (v16 i hi)) (fun i hi => (u5 i hi).trans (v12 i hi)) (fun i hi => (u4 i hi).trans (v8 i hi)) (u7 34 (by omega)) (u7 35 (by omega))
          have same16 : n_same (w_ab σ 32) (w_ab τ16 32) := ⟨fun j j1 j3 => lk16.1 j j3, lk16.2 2 (by decide) (by decide) (by decide), lk16.2 3 (by decide) (by decide) (by decide), lk16.2 9 (by decide) (by decide) (by decide)⟩
          have fr16 : ∀ b, b < 32 ∨ 63 ≤ b ∨ (41 ≤ b ∧ b < 51 + x1.toNat) → τ16 b = σ b := fun b hb => by
            rw [u7 b (by omega), r3 b (by omega), hq12.2.2.1 b (by omega), F4 b (by omega)]
          have ok16 : n_ok τ16 32 := lk16.WF hok
          have lt16 : τ16 32 1 < τ16 32 0 := by
            have a0 : τ16 32 0 = σ 32 0 := lk16.1 0 (by decide)
            have a1 : τ16 32 1 = σ 32 1 := lk16.1 1 (by decide)
            omega
          refine ⟨fun c6 => hQ _ _ ⟨?_, same16, fr16⟩, fun c6 => ⟨⟨ok16, lt16, Or.inl rfl⟩, fun y17 τ18 hq18 => ?_⟩⟩
          · rw [eU, e15, show x2 = 10 by omega]; omega
          · obtain ⟨pw2, eu2⟩ := fin0 τ16 y17 τ18 lk16 hq18
            refine ⟨⟨by omega, by omega⟩, pw2, fun y19 τ20 hq20 => ?_⟩
            obtain ⟨k1, k2, k3⟩ := hq20
            rw [eu2] at k1
            rw [k1]
            refine ⟨⟨by omega, by omega⟩, ⟨by omega, by omega⟩, fun y21 e21 => hQ _ _ ⟨?_, ?_, ?_⟩⟩
            · rw [eU, e21, e15]; omega
            · have n6 := (n_hour_all ok16 (c := 0) lt16 (Or.inl rfl)).2.1
              rw [← hq18.1] at n6
              exact same16.tr (n6.tr k2)
            · intro b hb
              rw [k3 b (by omega), hq18.2.2.1 b (by omega), fr16 b hb]
      · refine hQ _ _ ⟨?_, n_same.rfl', fun _ _ => rfl⟩
        unfold lk_U
        rw [hn, lk_zero (n + 1) _ hok (by rw [← e23]; omega) (by omega) (by rw [hA1, hA0]; omega)]
    · obtain ⟨rfl, rfl⟩ := hq
      rw [esd] at e1
      refine hQ _ _ ⟨?_, n_same.rfl', fun _ _ => rfl⟩
      unfold lk_U
      rw [hn, lk_done (n + 1) _ hok (by omega) (by omega) (by rw [hA1, hA0]; omega), show y2.toNat = n + 1 by omega]
theorem k_Plan_weightFrom {xs : List Int} {d : Nat} {Q : Option w_V → w_M → Prop} {x1 x2 : Int} {σ : w_M} (hp : p_Plan_weightFrom x1 x2 σ) (hQ : ∀ (x : Int) (σ' : w_M), q_Plan_weightFrom x1 x2 σ x σ' → Q (some (.inr (.inl x))) σ') : w_Call (xs, d + 17) 82 [.inr (.inr (6, 31)), .inl x1, .inl x2] σ Q := by
  have hr := n_ok.hr hp.1
  have hl : n_left (w_ab σ 32) ≤ 12 := by
    have h2 := hp.2.2
    show (σ 32 0 - σ 32 1).toNat ≤ 12
    omega
  have h := kk_Plan_weightFrom (xs := xs) (n_left (w_ab σ 32)) (d := d + 13 - n_left (w_ab σ 32)) ⟨hp, rfl⟩ hQ
  rw [show d + 13 - n_left (w_ab σ 32) + 4 + n_left (w_ab σ 32) = d + 17 by omega] at h
  exact h
noncomputable def p_Plan_weightDone (b : Nat) (v : Int) (σ : w_M) : Prop := (n_ok σ b ∧ (32 + 9 ≤ b ∨ b + 9 ≤ 32)) ∧ (0 ≤ v ∧ v ≤ 10)
noncomputable def q_Plan_weightDone (b : Nat) (v : Int) (σ : w_M) (x : Int) (σ' : w_M) : Prop := x = lk_U (w_ab σ b) v ∧ w_fr σ σ' 31 80
theorem fPlan_weightDone_0 : w_fe am_c81 0 1 (.aload 0) := ⟨rfl, rfl⟩
theorem fPlan_weightDone_1 : w_fe am_c81 1 2 (.getfield 600) := ⟨rfl, rfl⟩
theorem fPlan_weightDone_2 : w_fe am_c81 2 3 (.aload 1) := ⟨rfl, rfl⟩
theorem fPlan_weightDone_3 : w_fe am_c81 3 4 (.invokestatic 34) := ⟨rfl, rfl⟩
theorem fPlan_weightDone_4 : w_fe am_c81 4 5 (.aload 0) := ⟨rfl, rfl⟩
theorem fPlan_weightDone_5 : w_fe am_c81 5 6 (.bipush 0) := ⟨rfl, rfl⟩
theorem fPlan_weightDone_6 : w_fe am_c81 6 7 (.iload 2) := ⟨rfl, rfl⟩
theorem fPlan_weightDone_7 : w_fe am_c81 7 8 (.invokestatic 82) := ⟨rfl, rfl⟩
theorem fPlan_weightDone_8 : w_fe am_c81 8 9 (.ireturn) := ⟨rfl, rfl⟩
set_option maxRecDepth 20000 in
theorem bPlan_weightDone_0 {xs : List Int} {d : Nat} {Q : Option w_V → w_M → Prop} {b : Nat} {x2 : Int} {σ : w_M}
    (h : p_Field_copyFrom 32 b σ ∧ (∀ (τ1 : w_M), q_Field_copyFrom 32 b σ τ1 → (p_Plan_weightFrom 0 x2 τ1 ∧ (∀ (y2 : Int) (τ3 : w_M), q_Plan_weightFrom 0 x2 τ1 y2 τ3 → Q (some (.inr (.inl y2))) τ3)))) : w_Call (xs, (d + 18)) 81 [.inr (.inr (6, 31)), .inr (.inr (2, b)), .inl x2] σ Q :=
  (w_mk (mid := 81) (by decide) rfl rfl rfl rfl rfl (Nat.le_of_ble_eq_true rfl) ⟨rfl, Or.inl (by decide)⟩ (wi_aload0 fPlan_weightDone_0 (wi_getf600 fPlan_weightDone_1 (wi_aload1 fPlan_weightDone_2 (wi_call2 fPlan_weightDone_3 (Nat.le_of_ble_eq_true rfl) (k_Field_copyFrom h.1 (fun τ1 eτ1 => (wi_aload0 fPlan_weightDone_4 (wi_bipush fPlan_weightDone_5 (wi_iload2 fPlan_weightDone_6 (wi_call3 fPlan_weightDone_7 (Nat.le_of_ble_eq_true rfl) (k_Plan_weightFrom (h.2 τ1 eτ1).1 (fun y2 τ3 eτ3 => (wi_ret3 fPlan_weightDone_8 ((h.2 τ1 eτ1).2 y2 τ3 eτ3)))))))))))))))
theorem k_Plan_weightDone {xs : List Int} {d : Nat} {Q : Option w_V → w_M → Prop} {b : Nat} {x2 : Int} {σ : w_M} (hp : p_Plan_weightDone b x2 σ) (hQ : ∀ (x : Int) (σ' : w_M), q_Plan_weightDone b x2 σ x σ' → Q (some (.inr (.inl x))) σ') : w_Call (xs, d + 18) 81 [.inr (.inr (6, 31)), .inr (.inr (2, b)), .inl x2] σ Q := by
  obtain ⟨hp1, hv⟩ := hp
  have hrs := n_ok.hrs hp1.1
  have hr := n_ok.hr hp1.1
  refine bPlan_weightDone_0 ⟨hp1, fun τ1 hq => ⟨⟨n_ok.of hq.1 hp1.1, hv, by omega, ?_⟩, fun y τ3 hq3 => hQ _ _ ⟨?_, fun c hc => ?_⟩⟩⟩
  · have a0 : τ1 32 0 = σ b 0 := congrFun (congrFun hq.1 0) 0
    have a1 : τ1 32 1 = σ b 1 := congrFun (congrFun hq.1 0) 1
    omega
  · rw [hq3.1, hq.1]
  · rw [hq3.2.2 c (by omega), hq.2.2 c (by omega)]
noncomputable def p_Moon_luck (_x1 : Int) (_x2 : Int) (σ : w_M) : Prop := CI σ
noncomputable def q_Moon_luck (x1 : Int) (x2 : Int) (σ : w_M) (x : Int) (σ' : w_M) : Prop := c_q (F_luck (cS σ) x1 x2) (cS σ) σ x σ'
theorem fMoon_luck_0 : w_fe am_c134 0 1 (.iload 1) := ⟨rfl, rfl⟩
theorem fMoon_luck_1 : w_fe am_c134 1 2 (.bipush 0) := ⟨rfl, rfl⟩
theorem fMoon_luck_2 : w_fe am_c134 2 3 (.bipush 10) := ⟨rfl, rfl⟩
theorem fMoon_luck_3 : w_fe am_c134 3 4 (.invokestatic 107) := ⟨rfl, rfl⟩
theorem fMoon_luck_4 : w_if am_c134 4 5 .eq 10 := ⟨rfl, rfl⟩
theorem fMoon_luck_5 : w_fe am_c134 5 6 (.iload 2) := ⟨rfl, rfl⟩
theorem fMoon_luck_6 : w_fe am_c134 6 7 (.bipush 0) := ⟨rfl, rfl⟩
theorem fMoon_luck_7 : w_fe am_c134 7 8 (.bipush 1) := ⟨rfl, rfl⟩
theorem fMoon_luck_8 : w_fe am_c134 8 9 (.invokestatic 107) := ⟨rfl, rfl⟩
theorem fMoon_luck_9 : w_if am_c134 9 10 .ne 12 := ⟨rfl, rfl⟩
theorem fMoon_luck_10 : w_fe am_c134 10 11 (.sipush (-1)) := ⟨rfl, rfl⟩
theorem fMoon_luck_11 : w_fe am_c134 11 12 (.ireturn) := ⟨rfl, rfl⟩
theorem fMoon_luck_12 : w_fe am_c134 12 13 (.aload 0) := ⟨rfl, rfl⟩
theorem fMoon_luck_13 : w_fe am_c134 13 14 (.getfield 4) := ⟨rfl, rfl⟩
theorem fMoon_luck_14 : w_fe am_c134 14 15 (.aload 0) := ⟨rfl, rfl⟩
theorem fMoon_luck_15 : w_fe am_c134 15 16 (.getfield 2) := ⟨rfl, rfl⟩
theorem fMoon_luck_16 : w_fe am_c134 16 17 (.iload 1) := ⟨rfl, rfl⟩
theorem fMoon_luck_17 : w_fe am_c134 17 18 (.invokestatic 81) := ⟨rfl, rfl⟩
theorem fMoon_luck_18 : w_fe am_c134 18 19 (.lstore 3) := ⟨rfl, rfl⟩
theorem fMoon_luck_19 : w_fe am_c134 19 20 (.aload 0) := ⟨rfl, rfl⟩
theorem fMoon_luck_20 : w_fe am_c134 20 21 (.getfield 2) := ⟨rfl, rfl⟩
theorem fMoon_luck_21 : w_fe am_c134 21 22 (.invokestatic 39) := ⟨rfl, rfl⟩
theorem fMoon_luck_22 : w_fe am_c134 22 23 (.invokestatic 135) := ⟨rfl, rfl⟩
theorem fMoon_luck_23 : w_fe am_c134 23 24 (.lstore 5) := ⟨rfl, rfl⟩
theorem fMoon_luck_24 : w_fe am_c134 24 25 (.lload 5) := ⟨rfl, rfl⟩
theorem fMoon_luck_25 : w_fe am_c134 25 26 (.lload 3) := ⟨rfl, rfl⟩
theorem fMoon_luck_26 : w_fe am_c134 26 27 (.invokestatic 136) := ⟨rfl, rfl⟩
theorem fMoon_luck_27 : w_fe am_c134 27 28 (.lstore 7) := ⟨rfl, rfl⟩
theorem fMoon_luck_28 : w_fe am_c134 28 29 (.lload 7) := ⟨rfl, rfl⟩
theorem fMoon_luck_29 : w_fe am_c134 29 30 (.sipush 0) := ⟨rfl, rfl⟩
theorem fMoon_luck_30 : w_fe am_c134 30 31 (.lcmp) := ⟨rfl, rfl⟩
theorem fMoon_luck_31 : w_if am_c134 31 32 .gt 34 := ⟨rfl, rfl⟩
theorem fMoon_luck_32 : w_fe am_c134 32 33 (.sipush (-1)) := ⟨rfl, rfl⟩
theorem fMoon_luck_33 : w_fe am_c134 33 34 (.ireturn) := ⟨rfl, rfl⟩
theorem fMoon_luck_34 : w_fe am_c134 34 35 (.iload 2) := ⟨rfl, rfl⟩
theorem fMoon_luck_35 : w_if am_c134 35 36 .ne 40 := ⟨rfl, rfl⟩
theorem fMoon_luck_36 : w_fe am_c134 36 37 (.lload 3) := ⟨rfl, rfl⟩
theorem fMoon_luck_37 : w_fe am_c134 37 38 (.lload 7) := ⟨rfl, rfl⟩
theorem fMoon_luck_38 : w_fe am_c134 38 39 (.ldiv) := ⟨rfl, rfl⟩
theorem fMoon_luck_39 : w_gt am_c134 39 43 := rfl
theorem fMoon_luck_40 : w_fe am_c134 40 41 (.lload 5) := ⟨rfl, rfl⟩
theorem fMoon_luck_41 : w_fe am_c134 41 42 (.lload 7) := ⟨rfl, rfl⟩
theorem fMoon_luck_42 : w_fe am_c134 42 43 (.ldiv) := ⟨rfl, rfl⟩
theorem fMoon_luck_43 : w_fe am_c134 43 44 (.ireturn) := ⟨rfl, rfl⟩
set_option maxRecDepth 20000 in
theorem bMoon_luck_0 {xs : List Int} {d : Nat} {Q : Option w_V → w_M → Prop} {x1 : Int} {x2 : Int} {σ : w_M}
    (h : (¬ (0 ≤ x1 ∧ x1 ≤ 10) → Q (some (.inr (.inl (-1)))) σ) ∧ ((0 ≤ x1 ∧ x1 ≤ 10) → (((0 ≤ x2 ∧ x2 ≤ 1) → (p_Plan_weightDone 14 x1 σ ∧ (∀ (y1 : Int) (τ2 : w_M), q_Plan_weightDone 14 x1 σ y1 τ2 → (p_Field_hoursLeft 14 τ2 ∧ p_Moon_tenTo (τ2 14 0 - τ2 14 1) τ2 ∧ (∀ (y3 : Int) (τ4 : w_M), q_Moon_tenTo (τ2 14 0 - τ2 14 1) τ2 y3 τ4 → (p_Moon_commonDivisor y3 y1 τ4 ∧ (∀ (y5 : Int) (τ6 : w_M), q_Moon_commonDivisor y3 y1 τ4 y5 τ6 → ((0 < y5 → ((¬ x2 = 0 → (¬ y5 = 0 ∧ w_inl (y3.tdiv y5) ∧ Q (some (.inr (.inl (y3.tdiv y5)))) τ6)) ∧ (x2 = 0 → (¬ y5 = 0 ∧ w_inl (y1.tdiv y5) ∧ Q (some (.inr (.inl (y1.tdiv y5)))) τ6)))) ∧ (y5 ≤ 0 → Q (some (.inr (.inl (-1)))) τ6))))))))) ∧ (¬ (0 ≤ x2 ∧ x2 ≤ 1) → Q (some (.inr (.inl (-1)))) σ)))) : w_Call (xs, (d + 19)) 134 [.inr (.inr (0, 0)), .inl x1, .inl x2] σ Q :=
  (w_mk (mid := 134) (by decide) rfl rfl rfl rfl rfl (Nat.le_of_ble_eq_true rfl) ⟨rfl, Or.inl (by decide)⟩ (wi_iload1 fMoon_luck_0 (wi_bipush fMoon_luck_1 (wi_bipush fMoon_luck_2 (wi_call3 fMoon_luck_3 (Nat.le_of_ble_eq_true rfl) (k_Moon_isWithin (wi_ifb_eq fMoon_luck_4 (fun c10 => (wi_sipush fMoon_luck_10 (wi_ret3 fMoon_luck_11 (h.1 c10)))) (fun c10 => (wi_iload2 fMoon_luck_5 (wi_bipush fMoon_luck_6 (wi_bipush fMoon_luck_7 (wi_call3 fMoon_luck_8 (Nat.le_of_ble_eq_true rfl) (k_Moon_isWithin (wi_ifb_ne fMoon_luck_9 (fun c9 => (wi_aload0 fMoon_luck_12 (wi_getf4 fMoon_luck_13 (wi_aload0 fMoon_luck_14 (wi_getf2 fMoon_luck_15 (wi_iload1 fMoon_luck_16 (wi_call3 fMoon_luck_17 (Nat.le_of_ble_eq_true rfl) (k_Plan_weightDone ((h.2 c10).1 c9).1 (fun y1 τ2 eτ2 => (wi_lstore3 fMoon_luck_18 trivial (wi_aload0 fMoon_luck_19 (wi_getf2 fMoon_luck_20 (wi_call1 fMoon_luck_21 (Nat.le_of_ble_eq_true rfl) (k_Field_hoursLeft (((h.2 c10).1 c9).2 y1 τ2 eτ2).1 (wi_call1 fMoon_luck_22 (Nat.le_of_ble_eq_true rfl) (k_Moon_tenTo (((h.2 c10).1 c9).2 y1 τ2 eτ2).2.1 (fun y3 τ4 eτ4 => (wi_lstore5 fMoon_luck_23 trivial (wi_lload5 fMoon_luck_24 (wi_lload3 fMoon_luck_25 (wi_call2 fMoon_luck_26 (Nat.le_of_ble_eq_true rfl) (k_Moon_commonDivisor ((((h.2 c10).1 c9).2 y1 τ2 eτ2).2.2 y3 τ4 eτ4).1 (fun y5 τ6 eτ6 => (wi_lstore7 fMoon_luck_27 trivial (wi_lload7 fMoon_luck_28 (wi_sipush fMoon_luck_29 (wi_lcmp_gt fMoon_luck_30 fMoon_luck_31 (fun c8 => (wi_iload2 fMoon_luck_34 (wi_if_ne fMoon_luck_35 (fun c7 => (wi_lload5 fMoon_luck_40 (wi_lload7 fMoon_luck_41 (wi_ldiv fMoon_luck_42 (((((((h.2 c10).1 c9).2 y1 τ2 eτ2).2.2 y3 τ4 eτ4).2 y5 τ6 eτ6).1 c8).1 c7).1 (((((((h.2 c10).1 c9).2 y1 τ2 eτ2).2.2 y3 τ4 eτ4).2 y5 τ6 eτ6).1 c8).1 c7).2.1 (wi_ret3 fMoon_luck_43 (((((((h.2 c10).1 c9).2 y1 τ2 eτ2).2.2 y3 τ4 eτ4).2 y5 τ6 eτ6).1 c8).1 c7).2.2))))) (fun c7 => (wi_lload3 fMoon_luck_36 (wi_lload7 fMoon_luck_37 (wi_ldiv fMoon_luck_38 (((((((h.2 c10).1 c9).2 y1 τ2 eτ2).2.2 y3 τ4 eτ4).2 y5 τ6 eτ6).1 c8).2 c7).1 (((((((h.2 c10).1 c9).2 y1 τ2 eτ2).2.2 y3 τ4 eτ4).2 y5 τ6 eτ6).1 c8).2 c7).2.1 (wi_goto fMoon_luck_39 (wi_ret3 fMoon_luck_43 (((((((h.2 c10).1 c9).2 y1 τ2 eτ2).2.2 y3 τ4 eτ4).2 y5 τ6 eτ6).1 c8).2 c7).2.2))))))))) (fun c8 => (wi_sipush fMoon_luck_32 (wi_ret3 fMoon_luck_33 ((((((h.2 c10).1 c9).2 y1 τ2 eτ2).2.2 y3 τ4 eτ4).2 y5 τ6 eτ6).2 c8))))))))))))))))))))))))))))))) (fun c9 => (wi_sipush fMoon_luck_10 (wi_ret3 fMoon_luck_11 ((h.2 c10).2 c9))))))))))))))))))
theorem k_Moon_luck {xs : List Int} {d : Nat} {Q : Option w_V → w_M → Prop} {x1 : Int} {x2 : Int} {σ : w_M} (hp : p_Moon_luck x1 x2 σ) (hQ : ∀ (x : Int) (σ' : w_M), q_Moon_luck x1 x2 σ x σ' → Q (some (.inr (.inl x))) σ') : w_Call (xs, d + 19) 134 [.inr (.inr (0, 0)), .inl x1, .inl x2] σ Q := by
  have hC : CI σ := hp
  have hok := hC.ok
  have hrs := n_ok.hrs hok
  have hr := n_ok.hr hok
  unfold q_Moon_luck F_luck at hQ
  have eA : cS σ 0 = w_ab σ 14 := rfl
  rw [eA] at hQ
  refine bMoon_luck_0 ⟨fun c => ?_, fun c => ⟨fun c2 => ⟨⟨⟨hok, by decide⟩, c⟩, fun y1 τ2 hq => ?_⟩, fun c2 => ?_⟩⟩
  · rw [if_neg (fun q => c q.1)] at hQ
    exact hQ _ _ (c_qr hC rfl)
  · rw [if_pos ⟨c, c2⟩] at hQ
    obtain ⟨e1, F1⟩ := hq
    have z : τ2 14 = σ 14 := F1 14 (by omega)
    have hL : n_left (w_ab σ 14) = (σ 14 0 - σ 14 1).toNat := rfl
    have p1 := lk_p_pos (n_left (w_ab σ 14))
    have p2 := lk_p_le (k := n_left (w_ab σ 14)) (by omega)
    have s1 := lk_s_lep c (n_left (w_ab σ 14)) (w_ab σ 14) (by omega)
    have e1' : y1 = lk_s (w_ab σ 14) x1 (n_left (w_ab σ 14)) (2 ^ n_left (w_ab σ 14)) := e1
    refine ⟨by unfold p_Field_hoursLeft; rw [z]; exact ⟨by omega, by omega⟩, by unfold p_Moon_tenTo; rw [z]; omega, fun y3 τ4 hq3 => ?_⟩
    obtain ⟨e3, rfl⟩ := hq3
    rw [z, ← hL] at e3
    refine ⟨⟨⟨by omega, by omega⟩, by omega⟩, fun y5 τ6 hq5 => ?_⟩
    obtain ⟨e5, rfl⟩ := hq5
    have g1 : 1 ≤ y5 := by rw [e5]; exact lk_g_pos (by omega)
    refine ⟨fun c3 => ⟨fun c4 => ⟨by omega, ?_, ?_⟩, fun c4 => ⟨by omega, ?_, ?_⟩⟩, fun c3 => by omega⟩
    · have := lk_div (a := y3) (by omega) g1
      exact ⟨by omega, by omega⟩
    · rw [if_neg c4] at hQ
      refine hQ _ _ (c_qs hC F1 ?_)
      rw [e5, e3, e1']
    · have := lk_div (a := y1) (by omega) g1
      exact ⟨by omega, by omega⟩
    · rw [if_pos c4] at hQ
      refine hQ _ _ (c_qs hC F1 ?_)
      rw [e5, e3, e1']
  · rw [if_neg (fun q => c2 q.2)] at hQ
    exact hQ _ _ (c_qr hC rfl)
