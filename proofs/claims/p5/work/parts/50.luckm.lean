/-! The odds, as the reference counts them -/
noncomputable def lk_b (c k : Nat) : Int := w_and (w_shr (c : Int) (k : Int)) 1
noncomputable def lk_f (v b : Int) : Int := if b = 1 then v else 10 - v
noncomputable def lk_w (v : Int) (c : Nat) : Nat → Int
  | 0 => 1
  | k + 1 => lk_w v c k * lk_f v (lk_b c k)
noncomputable def lk_A (A : w_M) (c : Nat) : Nat → w_M
  | 0 => A
  | k + 1 => n_hour (lk_A A c k) (lk_b c k)
noncomputable def lk_p (k : Nat) : Int := ((10 ^ k : Nat) : Int)
noncomputable def lk_t (A : w_M) (v : Int) (n c : Nat) : Int := if n_sd (lk_A A c n) = 0 then lk_w v c n else 0
noncomputable def lk_s (A : w_M) (v : Int) (n : Nat) : Nat → Int := f_sum (lk_t A v n)
theorem lk_b01 (c k : Nat) : lk_b c k = 0 ∨ lk_b c k = 1 := w_and1 _
theorem lk_f_le {v : Int} (hv : 0 ≤ v ∧ v ≤ 10) (b : Int) : 0 ≤ lk_f v b ∧ lk_f v b ≤ 10 := by unfold lk_f; split <;> omega
theorem lk_p_s (k : Nat) : lk_p (k + 1) = lk_p k * 10 := by
  unfold lk_p
  rw [Nat.pow_succ, Int.natCast_mul]
  rfl
theorem lk_p_pos (k : Nat) : 1 ≤ lk_p k := by
  unfold lk_p
  have : 0 < 10 ^ k := Nat.pow_pos (by decide)
  omega
theorem lk_p_le {k : Nat} (h : k ≤ 12) : lk_p k ≤ 1000000000000 := by
  unfold lk_p
  have : 10 ^ k ≤ 10 ^ 12 := Nat.pow_le_pow_right (by decide) h
  omega
theorem lk_w_le {v : Int} (hv : 0 ≤ v ∧ v ≤ 10) (c : Nat) : ∀ k : Nat, 0 ≤ lk_w v c k ∧ lk_w v c k ≤ lk_p k := by
  intro k
  induction k with
  | zero => simp [lk_w, lk_p]
  | succ k ih =>
    have hf := lk_f_le hv (lk_b c k)
    simp only [lk_w]
    rw [lk_p_s]
    exact ⟨Int.mul_nonneg ih.1 hf.1, Int.mul_le_mul ih.2 hf.2 hf.1 (by have := lk_p_pos k; omega)⟩
theorem lk_A_all {A : w_M} (h : n_WF A) (c : Nat) : ∀ k : Nat, A 0 1 + k ≤ A 0 0 → n_WF (lk_A A c k) ∧ n_same A (lk_A A c k) ∧ (lk_A A c k) 0 1 = A 0 1 + k := by
  intro k
  induction k with
  | zero => intro _; exact ⟨h, n_same.rfl', by simp [lk_A]⟩
  | succ k ih =>
    intro hk
    obtain ⟨h1, h2, h3⟩ := ih (by omega)
    have h0 : (lk_A A c k) 0 0 = A 0 0 := h2.1 0 (by decide) (by decide)
    obtain ⟨g1, g2, g3, -⟩ := n_hour_all h1 (by omega) (lk_b01 c k)
    refine ⟨g1, h2.tr g2, ?_⟩
    simp only [lk_A]
    rw [g3, h3]
    omega
theorem lk_t_le {A : w_M} {v : Int} (hv : 0 ≤ v ∧ v ≤ 10) (n c : Nat) : 0 ≤ lk_t A v n c ∧ lk_t A v n c ≤ lk_p n := by
  have := lk_w_le hv c n
  have := lk_p_pos n
  unfold lk_t
  split <;> omega
theorem lk_s_le {A : w_M} {v : Int} (hv : 0 ≤ v ∧ v ≤ 10) {n : Nat} (hn : n ≤ 12) {c : Nat} (hc : c ≤ 4096) : 0 ≤ lk_s A v n c ∧ lk_s A v n c ≤ 4096000000000000 := by
  have h1 := f_sum_le (f := lk_t A v n) (m := c) (B := lk_p n) (fun i _ => lk_t_le hv n i) (Nat.le_refl _)
  have h2 := lk_p_le hn
  have h3 : lk_p n * (c : Int) ≤ 1000000000000 * 4096 := Int.mul_le_mul h2 (by omega) (by omega) (by decide)
  unfold lk_s
  omega
theorem w_shl13 : ∀ t, t < 13 → w_shl 1 ((t : Nat) : Int) = ((2 ^ t : Nat) : Int) := by decide +kernel
noncomputable def lk_g (a b : Int) : Int := ((a.toNat.gcd b.toNat : Nat) : Int)
noncomputable def F_luck (S : w_S) (v w : Int) : Int := if (0 ≤ v ∧ v ≤ 10) ∧ (0 ≤ w ∧ w ≤ 1) then
    (if w = 0 then (lk_s (S 0) v (n_left (S 0)) (2 ^ n_left (S 0))).tdiv (lk_g (lk_p (n_left (S 0))) (lk_s (S 0) v (n_left (S 0)) (2 ^ n_left (S 0))))
    else (lk_p (n_left (S 0))).tdiv (lk_g (lk_p (n_left (S 0))) (lk_s (S 0) v (n_left (S 0)) (2 ^ n_left (S 0))))) else -1
noncomputable def p_Model_common (a b : Int) (_ : w_M) : Prop := 0 ≤ a ∧ 0 ≤ b
noncomputable def q_Model_common (a b : Int) (σ : w_M) (x : Int) (σ' : w_M) : Prop := x = lk_g a b ∧ σ' = σ
theorem lk_g_z {a : Int} (h : 0 ≤ a) : lk_g a 0 = a := by
  unfold lk_g
  rw [show (0 : Int).toNat = 0 from rfl, Nat.gcd_zero_right]
  omega
theorem lk_g_r {a b : Int} (h : 0 ≤ a) (hb : 0 ≤ b) : lk_g b (a.tmod b) = lk_g a b := by
  obtain ⟨m, rfl⟩ := Int.eq_ofNat_of_zero_le h
  obtain ⟨n, rfl⟩ := Int.eq_ofNat_of_zero_le hb
  unfold lk_g
  rw [← Int.ofNat_tmod, Int.toNat_natCast, Int.toNat_natCast, Int.toNat_natCast, Nat.gcd_comm n, ← Nat.gcd_rec, Nat.gcd_comm]
theorem lk_tmod {a b : Int} (h : 0 ≤ a) (hb : 0 ≤ b) (h0 : ¬ b = 0) : 0 ≤ a.tmod b ∧ a.tmod b < b := ⟨Int.tmod_nonneg _ h, Int.tmod_lt_of_pos _ (by omega)⟩
theorem fModel_common_0 : w_fe am_c214 0 1 (.lload 0) := ⟨rfl, rfl⟩
theorem fModel_common_1 : w_fe am_c214 1 2 (.lstore 4) := ⟨rfl, rfl⟩
theorem fModel_common_2 : w_fe am_c214 2 3 (.lload 2) := ⟨rfl, rfl⟩
theorem fModel_common_3 : w_fe am_c214 3 4 (.lstore 6) := ⟨rfl, rfl⟩
theorem fModel_common_4 : w_fe am_c214 4 5 (.lload 6) := ⟨rfl, rfl⟩
theorem fModel_common_5 : w_fe am_c214 5 6 (.sipush 0) := ⟨rfl, rfl⟩
theorem fModel_common_6 : w_fe am_c214 6 7 (.lcmp) := ⟨rfl, rfl⟩
theorem fModel_common_7 : w_if am_c214 7 8 .eq 17 := ⟨rfl, rfl⟩
theorem fModel_common_8 : w_fe am_c214 8 9 (.lload 4) := ⟨rfl, rfl⟩
theorem fModel_common_9 : w_fe am_c214 9 10 (.lload 6) := ⟨rfl, rfl⟩
theorem fModel_common_10 : w_fe am_c214 10 11 (.lrem) := ⟨rfl, rfl⟩
theorem fModel_common_11 : w_fe am_c214 11 12 (.lstore 8) := ⟨rfl, rfl⟩
theorem fModel_common_12 : w_fe am_c214 12 13 (.lload 6) := ⟨rfl, rfl⟩
theorem fModel_common_13 : w_fe am_c214 13 14 (.lstore 4) := ⟨rfl, rfl⟩
theorem fModel_common_14 : w_fe am_c214 14 15 (.lload 8) := ⟨rfl, rfl⟩
theorem fModel_common_15 : w_fe am_c214 15 16 (.lstore 6) := ⟨rfl, rfl⟩
theorem fModel_common_16 : w_gt am_c214 16 4 := rfl
theorem fModel_common_17 : w_fe am_c214 17 18 (.lload 4) := ⟨rfl, rfl⟩
theorem fModel_common_18 : w_fe am_c214 18 19 (.ireturn) := ⟨rfl, rfl⟩
noncomputable def LModel_common_4 (xs : List Int) (d : Nat) (Q : Option w_V → w_M → Prop) (v4 : Int) (v6 : Int) (σ : w_M) : Prop := ∀ L0 : Option w_V, ∀ l1, w_nl l1 → ∀ L2 : Option w_V, ∀ l3, w_nl l3 → ∀ L8 : Option w_V, ∀ l9, w_nl l9 → w_Ex (xs, d) 3 am_c214 Q 4 [L0, l1, L2, l3, some (.inr (.inl v4)), none, some (.inr (.inl v6)), none, L8, l9] [] σ
set_option maxRecDepth 20000 in
theorem bModel_common_0 {xs : List Int} {d : Nat} {Q : Option w_V → w_M → Prop} {x0 : Int} {x1 : Int} {σ : w_M}
    (h : LModel_common_4 xs d Q x0 x1 σ) : w_Call (xs, d) 214 [.inr (.inl x0), .inr (.inl x1)] σ Q :=
  (w_mk (mid := 214) (by decide) rfl rfl rfl rfl rfl (Nat.le_of_ble_eq_true rfl) trivial (wi_lload0 fModel_common_0 (wi_lstore4 fModel_common_1 trivial (wi_lload2 fModel_common_2 (wi_lstore6 fModel_common_3 trivial (h _ _ (by exact trivial) _ _ (by exact trivial) _ _ (by exact trivial)))))))
set_option maxRecDepth 20000 in
theorem bModel_common_4 {xs : List Int} {d : Nat} {Q : Option w_V → w_M → Prop} {v4 : Int} {v6 : Int} {σ : w_M}
    (h : (v6 = 0 → Q (some (.inr (.inl v4))) σ) ∧ (¬ v6 = 0 → ∀ (y1 : Int), y1 = (v4.tmod v6) → LModel_common_4 xs d Q v6 y1 σ)) : LModel_common_4 xs d Q v4 v6 σ :=
  fun L0 => fun l1 nl1 => fun L2 => fun l3 nl3 => fun L8 => fun l9 nl9 => (wi_lload6 fModel_common_4 (wi_sipush fModel_common_5 (wi_lcmp_eq fModel_common_6 fModel_common_7 (fun c2 => (wi_lload4 fModel_common_17 (wi_ret3 fModel_common_18 (h.1 c2)))) (fun c2 => (wi_lload4 fModel_common_8 (wi_lload6 fModel_common_9 (wi_lrem fModel_common_10 c2 (wi_lstore8 fModel_common_11 trivial (wi_lload6 fModel_common_12 (wi_lstore4 fModel_common_13 nl3 (wi_lload8 fModel_common_14 (wi_lstore6 fModel_common_15 trivial (wi_goto fModel_common_16 (((h.2 c2) _ rfl) _ _ nl1 _ _ nl3 _ _ (by exact trivial)))))))))))))))
theorem k_Model_common {xs : List Int} {d : Nat} {Q : Option w_V → w_M → Prop} {x0 : Int} {x1 : Int} {σ : w_M} (hp : p_Model_common x0 x1 σ) (hQ : ∀ (x : Int) (σ' : w_M), q_Model_common x0 x1 σ x σ' → Q (some (.inr (.inl x))) σ') : w_Call (xs, d) 214 [.inr (.inl x0), .inr (.inl x1)] σ Q := by
  refine bModel_common_0 ?_
  have main : ∀ (n : Nat) (a b : Int), b.toNat ≤ n → 0 ≤ a → 0 ≤ b → lk_g a b = lk_g x0 x1 → LModel_common_4 xs d Q a b σ := by
    intro n
    induction n with
    | zero =>
      intro a b hn ha hb hg
      have h0 : b = 0 := by omega
      refine bModel_common_4 ⟨fun _ => hQ _ _ ⟨?_, rfl⟩, fun h => absurd h0 h⟩
      rw [← hg, h0, lk_g_z ha]
    | succ n ih =>
      intro a b hn ha hb hg
      refine bModel_common_4 ⟨fun h0 => hQ _ _ ⟨?_, rfl⟩, fun h y e => ?_⟩
      · rw [← hg, h0, lk_g_z ha]
      · have ht := lk_tmod ha hb h
        rw [e]
        exact ih _ _ (by omega) hb ht.1 (by rw [lk_g_r ha hb]; exact hg)
  exact main _ x0 x1 (Nat.le_refl _) hp.1 hp.2 rfl
theorem lk_div {a g : Int} (ha : 0 ≤ a) (hg : 1 ≤ g) : 0 ≤ a.tdiv g ∧ a.tdiv g ≤ a := by
  obtain ⟨m, rfl⟩ := Int.eq_ofNat_of_zero_le ha
  obtain ⟨n, rfl⟩ := Int.eq_ofNat_of_zero_le (show 0 ≤ g by omega)
  rw [← Int.ofNat_tdiv]
  exact ⟨Int.natCast_nonneg _, Int.ofNat_le.mpr (Nat.div_le_self m n)⟩
theorem lk_g_pos {a b : Int} (ha : 1 ≤ a) : 1 ≤ lk_g a b := by
  unfold lk_g
  have := Nat.gcd_pos_of_pos_left b.toNat (show 0 < a.toNat by omega)
  omega
noncomputable def p_Model_luck (_x1 : Int) (_x2 : Int) (σ : w_M) : Prop := MI σ
noncomputable def q_Model_luck (x1 : Int) (x2 : Int) (σ : w_M) (x : Int) (σ' : w_M) : Prop := m_q (F_luck (mS σ) x1 x2) (mS σ) σ x σ'
theorem fModel_luck_0 : w_fe am_c213 0 1 (.iload 1) := ⟨rfl, rfl⟩
theorem fModel_luck_1 : w_fe am_c213 1 2 (.i2l) := ⟨rfl, rfl⟩
theorem fModel_luck_2 : w_fe am_c213 2 3 (.sipush 0) := ⟨rfl, rfl⟩
theorem fModel_luck_3 : w_fe am_c213 3 4 (.sipush 10) := ⟨rfl, rfl⟩
theorem fModel_luck_4 : w_fe am_c213 4 5 (.invokestatic 157) := ⟨rfl, rfl⟩
theorem fModel_luck_5 : w_if am_c213 5 6 .eq 12 := ⟨rfl, rfl⟩
theorem fModel_luck_6 : w_fe am_c213 6 7 (.iload 2) := ⟨rfl, rfl⟩
theorem fModel_luck_7 : w_fe am_c213 7 8 (.i2l) := ⟨rfl, rfl⟩
theorem fModel_luck_8 : w_fe am_c213 8 9 (.sipush 0) := ⟨rfl, rfl⟩
theorem fModel_luck_9 : w_fe am_c213 9 10 (.sipush 1) := ⟨rfl, rfl⟩
theorem fModel_luck_10 : w_fe am_c213 10 11 (.invokestatic 157) := ⟨rfl, rfl⟩
theorem fModel_luck_11 : w_if am_c213 11 12 .ne 14 := ⟨rfl, rfl⟩
theorem fModel_luck_12 : w_fe am_c213 12 13 (.sipush (-1)) := ⟨rfl, rfl⟩
theorem fModel_luck_13 : w_fe am_c213 13 14 (.ireturn) := ⟨rfl, rfl⟩
theorem fModel_luck_14 : w_fe am_c213 14 15 (.aload 0) := ⟨rfl, rfl⟩
theorem fModel_luck_15 : w_fe am_c213 15 16 (.getfield 903) := ⟨rfl, rfl⟩
theorem fModel_luck_16 : w_fe am_c213 16 17 (.aload 0) := ⟨rfl, rfl⟩
theorem fModel_luck_17 : w_fe am_c213 17 18 (.getfield 900) := ⟨rfl, rfl⟩
theorem fModel_luck_18 : w_fe am_c213 18 19 (.bipush 42) := ⟨rfl, rfl⟩
theorem fModel_luck_19 : w_fe am_c213 19 20 (.iaload) := ⟨rfl, rfl⟩
theorem fModel_luck_20 : w_fe am_c213 20 21 (.isub) := ⟨rfl, rfl⟩
theorem fModel_luck_21 : w_fe am_c213 21 22 (.istore 3) := ⟨rfl, rfl⟩
theorem fModel_luck_22 : w_fe am_c213 22 23 (.sipush 1) := ⟨rfl, rfl⟩
theorem fModel_luck_23 : w_fe am_c213 23 24 (.lstore 4) := ⟨rfl, rfl⟩
theorem fModel_luck_24 : w_fe am_c213 24 25 (.sipush 0) := ⟨rfl, rfl⟩
theorem fModel_luck_25 : w_fe am_c213 25 26 (.lstore 6) := ⟨rfl, rfl⟩
theorem fModel_luck_26 : w_fe am_c213 26 27 (.bipush 0) := ⟨rfl, rfl⟩
theorem fModel_luck_27 : w_fe am_c213 27 28 (.istore 8) := ⟨rfl, rfl⟩
theorem fModel_luck_28 : w_fe am_c213 28 29 (.iload 8) := ⟨rfl, rfl⟩
theorem fModel_luck_29 : w_fe am_c213 29 30 (.iload 3) := ⟨rfl, rfl⟩
theorem fModel_luck_30 : w_ic am_c213 30 31 .ge 37 := ⟨rfl, rfl⟩
theorem fModel_luck_31 : w_fe am_c213 31 32 (.lload 4) := ⟨rfl, rfl⟩
theorem fModel_luck_32 : w_fe am_c213 32 33 (.sipush 10) := ⟨rfl, rfl⟩
theorem fModel_luck_33 : w_fe am_c213 33 34 (.lmul) := ⟨rfl, rfl⟩
theorem fModel_luck_34 : w_fe am_c213 34 35 (.lstore 4) := ⟨rfl, rfl⟩
theorem fModel_luck_35 : w_fe am_c213 35 36 (.iinc 8 1) := ⟨rfl, rfl⟩
theorem fModel_luck_36 : w_gt am_c213 36 28 := rfl
theorem fModel_luck_37 : w_fe am_c213 37 38 (.bipush 0) := ⟨rfl, rfl⟩
theorem fModel_luck_38 : w_fe am_c213 38 39 (.istore 8) := ⟨rfl, rfl⟩
theorem fModel_luck_39 : w_fe am_c213 39 40 (.iload 8) := ⟨rfl, rfl⟩
theorem fModel_luck_40 : w_fe am_c213 40 41 (.bipush 1) := ⟨rfl, rfl⟩
theorem fModel_luck_41 : w_fe am_c213 41 42 (.iload 3) := ⟨rfl, rfl⟩
theorem fModel_luck_42 : w_fe am_c213 42 43 (.ishl) := ⟨rfl, rfl⟩
theorem fModel_luck_43 : w_ic am_c213 43 44 .ge 92 := ⟨rfl, rfl⟩
theorem fModel_luck_44 : w_fe am_c213 44 45 (.sipush 1) := ⟨rfl, rfl⟩
theorem fModel_luck_45 : w_fe am_c213 45 46 (.lstore 9) := ⟨rfl, rfl⟩
theorem fModel_luck_46 : w_fe am_c213 46 47 (.aload 0) := ⟨rfl, rfl⟩
theorem fModel_luck_47 : w_fe am_c213 47 48 (.invokestatic 174) := ⟨rfl, rfl⟩
theorem fModel_luck_48 : w_fe am_c213 48 49 (.bipush 0) := ⟨rfl, rfl⟩
theorem fModel_luck_49 : w_fe am_c213 49 50 (.istore 11) := ⟨rfl, rfl⟩
theorem fModel_luck_50 : w_fe am_c213 50 51 (.iload 11) := ⟨rfl, rfl⟩
theorem fModel_luck_51 : w_fe am_c213 51 52 (.iload 3) := ⟨rfl, rfl⟩
theorem fModel_luck_52 : w_ic am_c213 52 53 .ge 81 := ⟨rfl, rfl⟩
theorem fModel_luck_53 : w_fe am_c213 53 54 (.iload 8) := ⟨rfl, rfl⟩
theorem fModel_luck_54 : w_fe am_c213 54 55 (.iload 11) := ⟨rfl, rfl⟩
theorem fModel_luck_55 : w_fe am_c213 55 56 (.ishr) := ⟨rfl, rfl⟩
theorem fModel_luck_56 : w_fe am_c213 56 57 (.bipush 1) := ⟨rfl, rfl⟩
theorem fModel_luck_57 : w_fe am_c213 57 58 (.iand) := ⟨rfl, rfl⟩
theorem fModel_luck_58 : w_fe am_c213 58 59 (.bipush 1) := ⟨rfl, rfl⟩
theorem fModel_luck_59 : w_ic am_c213 59 60 .ne 62 := ⟨rfl, rfl⟩
theorem fModel_luck_60 : w_fe am_c213 60 61 (.bipush 1) := ⟨rfl, rfl⟩
theorem fModel_luck_61 : w_gt am_c213 61 63 := rfl
theorem fModel_luck_62 : w_fe am_c213 62 63 (.bipush 0) := ⟨rfl, rfl⟩
theorem fModel_luck_63 : w_fe am_c213 63 64 (.istore 12) := ⟨rfl, rfl⟩
theorem fModel_luck_64 : w_fe am_c213 64 65 (.lload 9) := ⟨rfl, rfl⟩
theorem fModel_luck_65 : w_fe am_c213 65 66 (.iload 12) := ⟨rfl, rfl⟩
theorem fModel_luck_66 : w_if am_c213 66 67 .eq 70 := ⟨rfl, rfl⟩
theorem fModel_luck_67 : w_fe am_c213 67 68 (.iload 1) := ⟨rfl, rfl⟩
theorem fModel_luck_68 : w_fe am_c213 68 69 (.i2l) := ⟨rfl, rfl⟩
theorem fModel_luck_69 : w_gt am_c213 69 74 := rfl
theorem fModel_luck_70 : w_fe am_c213 70 71 (.bipush 10) := ⟨rfl, rfl⟩
theorem fModel_luck_71 : w_fe am_c213 71 72 (.iload 1) := ⟨rfl, rfl⟩
theorem fModel_luck_72 : w_fe am_c213 72 73 (.isub) := ⟨rfl, rfl⟩
theorem fModel_luck_73 : w_fe am_c213 73 74 (.i2l) := ⟨rfl, rfl⟩
theorem fModel_luck_74 : w_fe am_c213 74 75 (.lmul) := ⟨rfl, rfl⟩
theorem fModel_luck_75 : w_fe am_c213 75 76 (.lstore 9) := ⟨rfl, rfl⟩
theorem fModel_luck_76 : w_fe am_c213 76 77 (.aload 0) := ⟨rfl, rfl⟩
theorem fModel_luck_77 : w_fe am_c213 77 78 (.iload 12) := ⟨rfl, rfl⟩
theorem fModel_luck_78 : w_fe am_c213 78 79 (.invokestatic 196) := ⟨rfl, rfl⟩
theorem fModel_luck_79 : w_fe am_c213 79 80 (.iinc 11 1) := ⟨rfl, rfl⟩
theorem fModel_luck_80 : w_gt am_c213 80 50 := rfl
theorem fModel_luck_81 : w_fe am_c213 81 82 (.lload 6) := ⟨rfl, rfl⟩
theorem fModel_luck_82 : w_fe am_c213 82 83 (.aload 0) := ⟨rfl, rfl⟩
theorem fModel_luck_83 : w_fe am_c213 83 84 (.invokestatic 175) := ⟨rfl, rfl⟩
theorem fModel_luck_84 : w_if am_c213 84 85 .ne 87 := ⟨rfl, rfl⟩
theorem fModel_luck_85 : w_fe am_c213 85 86 (.lload 9) := ⟨rfl, rfl⟩
theorem fModel_luck_86 : w_gt am_c213 86 88 := rfl
theorem fModel_luck_87 : w_fe am_c213 87 88 (.sipush 0) := ⟨rfl, rfl⟩
theorem fModel_luck_88 : w_fe am_c213 88 89 (.ladd) := ⟨rfl, rfl⟩
theorem fModel_luck_89 : w_fe am_c213 89 90 (.lstore 6) := ⟨rfl, rfl⟩
theorem fModel_luck_90 : w_fe am_c213 90 91 (.iinc 8 1) := ⟨rfl, rfl⟩
theorem fModel_luck_91 : w_gt am_c213 91 39 := rfl
theorem fModel_luck_92 : w_fe am_c213 92 93 (.lload 4) := ⟨rfl, rfl⟩
theorem fModel_luck_93 : w_fe am_c213 93 94 (.lload 6) := ⟨rfl, rfl⟩
theorem fModel_luck_94 : w_fe am_c213 94 95 (.invokestatic 214) := ⟨rfl, rfl⟩
theorem fModel_luck_95 : w_fe am_c213 95 96 (.lstore 8) := ⟨rfl, rfl⟩
theorem fModel_luck_96 : w_fe am_c213 96 97 (.iload 2) := ⟨rfl, rfl⟩
theorem fModel_luck_97 : w_if am_c213 97 98 .ne 102 := ⟨rfl, rfl⟩
theorem fModel_luck_98 : w_fe am_c213 98 99 (.lload 6) := ⟨rfl, rfl⟩
theorem fModel_luck_99 : w_fe am_c213 99 100 (.lload 8) := ⟨rfl, rfl⟩
theorem fModel_luck_100 : w_fe am_c213 100 101 (.ldiv) := ⟨rfl, rfl⟩
theorem fModel_luck_101 : w_gt am_c213 101 105 := rfl
theorem fModel_luck_102 : w_fe am_c213 102 103 (.lload 4) := ⟨rfl, rfl⟩
theorem fModel_luck_103 : w_fe am_c213 103 104 (.lload 8) := ⟨rfl, rfl⟩
theorem fModel_luck_104 : w_fe am_c213 104 105 (.ldiv) := ⟨rfl, rfl⟩
theorem fModel_luck_105 : w_fe am_c213 105 106 (.ireturn) := ⟨rfl, rfl⟩
noncomputable def LModel_luck_28 (xs : List Int) (d : Nat) (Q : Option w_V → w_M → Prop) (v1 : Int) (v2 : Int) (v3 : Int) (v4 : Int) (v6 : Int) (v8 : Int) (σ : w_M) : Prop := ∀ l9, w_nl l9 → ∀ l10, w_nl l10 → ∀ l11, w_nl l11 → ∀ l12, w_nl l12 → w_Ex (xs, d) 3 am_c213 Q 28 [some (.inr (.inr (9, 122))), some (.inl v1), some (.inl v2), some (.inl v3), some (.inr (.inl v4)), none, some (.inr (.inl v6)), none, some (.inl v8), l9, l10, l11, l12] [] σ
noncomputable def LModel_luck_39 (xs : List Int) (d : Nat) (Q : Option w_V → w_M → Prop) (v1 : Int) (v2 : Int) (v3 : Int) (v4 : Int) (v6 : Int) (v8 : Int) (σ : w_M) : Prop := ∀ L9 : Option w_V, ∀ l10, w_nl l10 → ∀ l11, w_nl l11 → ∀ l12, w_nl l12 → w_Ex (xs, d) 3 am_c213 Q 39 [some (.inr (.inr (9, 122))), some (.inl v1), some (.inl v2), some (.inl v3), some (.inr (.inl v4)), none, some (.inr (.inl v6)), none, some (.inl v8), L9, l10, l11, l12] [] σ
noncomputable def LModel_luck_50 (xs : List Int) (d : Nat) (Q : Option w_V → w_M → Prop) (v1 : Int) (v2 : Int) (v3 : Int) (v4 : Int) (v6 : Int) (v8 : Int) (v9 : Int) (v11 : Int) (σ : w_M) : Prop := ∀ l12, w_nl l12 → w_Ex (xs, d) 3 am_c213 Q 50 [some (.inr (.inr (9, 122))), some (.inl v1), some (.inl v2), some (.inl v3), some (.inr (.inl v4)), none, some (.inr (.inl v6)), none, some (.inl v8), some (.inr (.inl v9)), none, some (.inl v11), l12] [] σ
set_option maxRecDepth 20000 in
theorem bModel_luck_0 {xs : List Int} {d : Nat} {Q : Option w_V → w_M → Prop} {x1 : Int} {x2 : Int} {σ : w_M}
    (h : (¬ (0 ≤ x1 ∧ x1 ≤ 10) → Q (some (.inr (.inl (-1)))) σ) ∧ ((0 ≤ x1 ∧ x1 ≤ 10) → (((0 ≤ x2 ∧ x2 ≤ 1) → (w_in ((σ 122 3) - (σ 123 42)) ∧ (∀ (y1 : Int), y1 = ((σ 122 3) - (σ 123 42)) → LModel_luck_28 xs (d + 4) Q x1 x2 y1 1 0 0 σ))) ∧ (¬ (0 ≤ x2 ∧ x2 ≤ 1) → Q (some (.inr (.inl (-1)))) σ)))) : w_Call (xs, (d + 4)) 213 [.inr (.inr (9, 122)), .inl x1, .inl x2] σ Q :=
  (w_mk (mid := 213) (by decide) rfl rfl rfl rfl rfl (Nat.le_of_ble_eq_true rfl) ⟨rfl, Or.inl (by decide)⟩ (wi_iload1 fModel_luck_0 (wi_i2l fModel_luck_1 (wi_sipush fModel_luck_2 (wi_sipush fModel_luck_3 (wi_call3 fModel_luck_4 (Nat.le_of_ble_eq_true rfl) (k_Model_in (wi_ifb_eq fModel_luck_5 (fun c3 => (wi_sipush fModel_luck_12 (wi_ret3 fModel_luck_13 (h.1 c3)))) (fun c3 => (wi_iload2 fModel_luck_6 (wi_i2l fModel_luck_7 (wi_sipush fModel_luck_8 (wi_sipush fModel_luck_9 (wi_call3 fModel_luck_10 (Nat.le_of_ble_eq_true rfl) (k_Model_in (wi_ifb_ne fModel_luck_11 (fun c2 => (wi_aload0 fModel_luck_14 (wi_getf903 fModel_luck_15 (wi_aload0 fModel_luck_16 (wi_getf900 fModel_luck_17 (wi_bipush fModel_luck_18 (wi_iald1246 fModel_luck_19 (by decide) (by decide) (wi_isub fModel_luck_20 ((h.2 c3).1 c2).1 (wi_istore3 fModel_luck_21 trivial (wi_sipush fModel_luck_22 (wi_lstore4 fModel_luck_23 trivial (wi_sipush fModel_luck_24 (wi_lstore6 fModel_luck_25 trivial (wi_bipush fModel_luck_26 (wi_istore8 fModel_luck_27 trivial ((((h.2 c3).1 c2).2 _ rfl) _ (by exact trivial) _ (by exact trivial) _ (by exact trivial) _ (by exact trivial))))))))))))))))) (fun c2 => (wi_sipush fModel_luck_12 (wi_ret3 fModel_luck_13 ((h.2 c3).2 c2))))))))))))))))))))
set_option maxRecDepth 20000 in
theorem bModel_luck_28 {xs : List Int} {d : Nat} {Q : Option w_V → w_M → Prop} {v1 : Int} {v2 : Int} {v3 : Int} {v4 : Int} {v6 : Int} {v8 : Int} {σ : w_M}
    (h : (v3 ≤ v8 → LModel_luck_39 xs (d + 4) Q v1 v2 v3 v4 v6 0 σ) ∧ (v8 < v3 → (w_inl (v4 * 10) ∧ (∀ (y1 : Int), y1 = (v4 * 10) → (w_in (v8 + 1) ∧ LModel_luck_28 xs (d + 4) Q v1 v2 v3 y1 v6 (v8 + 1) σ))))) : LModel_luck_28 xs (d + 4) Q v1 v2 v3 v4 v6 v8 σ :=
  fun l9 nl9 => fun l10 nl10 => fun l11 nl11 => fun l12 nl12 => (wi_iload8 fModel_luck_28 (wi_iload3 fModel_luck_29 (wi_ic_ge fModel_luck_30 (fun c2 => (wi_bipush fModel_luck_37 (wi_istore8 fModel_luck_38 trivial ((h.1 c2) _ _ nl10 _ nl11 _ nl12)))) (fun c2 => (wi_lload4 fModel_luck_31 (wi_sipush fModel_luck_32 (wi_lmul fModel_luck_33 (h.2 c2).1 (wi_lstore4 fModel_luck_34 trivial (wi_iinc8 fModel_luck_35 trivial ((h.2 c2).2 _ rfl).1 (wi_goto fModel_luck_36 (((h.2 c2).2 _ rfl).2 _ nl9 _ nl10 _ nl11 _ nl12)))))))))))
set_option maxRecDepth 20000 in
theorem bModel_luck_39 {xs : List Int} {d : Nat} {Q : Option w_V → w_M → Prop} {v1 : Int} {v2 : Int} {v3 : Int} {v4 : Int} {v6 : Int} {v8 : Int} {σ : w_M}
    (h : ((w_shl 1 v3) ≤ v8 → (p_Model_common v4 v6 σ ∧ (∀ (y1 : Int) (τ2 : w_M), q_Model_common v4 v6 σ y1 τ2 → ((¬ v2 = 0 → (¬ y1 = 0 ∧ w_inl (v4.tdiv y1) ∧ Q (some (.inr (.inl (v4.tdiv y1)))) τ2)) ∧ (v2 = 0 → (¬ y1 = 0 ∧ w_inl (v6.tdiv y1) ∧ Q (some (.inr (.inl (v6.tdiv y1)))) τ2)))))) ∧ (v8 < (w_shl 1 v3) → (p_Model_starts σ ∧ (∀ (τ4 : w_M), q_Model_starts σ τ4 → LModel_luck_50 xs (d + 4) Q v1 v2 v3 v4 v6 v8 1 0 τ4)))) : LModel_luck_39 xs (d + 4) Q v1 v2 v3 v4 v6 v8 σ :=
  fun L9 => fun l10 nl10 => fun l11 nl11 => fun l12 nl12 => (wi_iload8 fModel_luck_39 (wi_bipush fModel_luck_40 (wi_iload3 fModel_luck_41 (wi_ishl fModel_luck_42 (wi_ic_ge fModel_luck_43 (fun c5 => (wi_lload4 fModel_luck_92 (wi_lload6 fModel_luck_93 (wi_call2 fModel_luck_94 (Nat.le_of_ble_eq_true rfl) (k_Model_common (h.1 c5).1 (fun y1 τ2 eτ2 => (wi_lstore8 fModel_luck_95 trivial (wi_iload2 fModel_luck_96 (wi_if_ne fModel_luck_97 (fun c3 => (wi_lload4 fModel_luck_102 (wi_lload8 fModel_luck_103 (wi_ldiv fModel_luck_104 (((h.1 c5).2 y1 τ2 eτ2).1 c3).1 (((h.1 c5).2 y1 τ2 eτ2).1 c3).2.1 (wi_ret3 fModel_luck_105 (((h.1 c5).2 y1 τ2 eτ2).1 c3).2.2))))) (fun c3 => (wi_lload6 fModel_luck_98 (wi_lload8 fModel_luck_99 (wi_ldiv fModel_luck_100 (((h.1 c5).2 y1 τ2 eτ2).2 c3).1 (((h.1 c5).2 y1 τ2 eτ2).2 c3).2.1 (wi_goto fModel_luck_101 (wi_ret3 fModel_luck_105 (((h.1 c5).2 y1 τ2 eτ2).2 c3).2.2))))))))))))))) (fun c5 => (wi_sipush fModel_luck_44 (wi_lstore9 fModel_luck_45 trivial (wi_aload0 fModel_luck_46 (wi_call1 fModel_luck_47 (Nat.le_of_ble_eq_true rfl) (k_Model_starts (h.2 c5).1 (fun τ4 eτ4 => (wi_bipush fModel_luck_48 (wi_istore11 fModel_luck_49 trivial (((h.2 c5).2 τ4 eτ4) _ nl12)))))))))))))))
set_option maxRecDepth 20000 in
theorem bModel_luck_50 {xs : List Int} {d : Nat} {Q : Option w_V → w_M → Prop} {v1 : Int} {v2 : Int} {v3 : Int} {v4 : Int} {v6 : Int} {v8 : Int} {v9 : Int} {v11 : Int} {σ : w_M}
    (h : (v3 ≤ v11 → (p_Model_standing σ ∧ (∀ (y1 : Int), y1 = v_Model_standing σ → ((¬ y1 = 0 → (w_inl (v6 + 0) ∧ (∀ (y2 : Int), y2 = (v6 + 0) → (w_in (v8 + 1) ∧ LModel_luck_39 xs (d + 4) Q v1 v2 v3 v4 y2 (v8 + 1) σ)))) ∧ (y1 = 0 → (w_inl (v6 + v9) ∧ (∀ (y3 : Int), y3 = (v6 + v9) → (w_in (v8 + 1) ∧ LModel_luck_39 xs (d + 4) Q v1 v2 v3 v4 y3 (v8 + 1) σ)))))))) ∧ (v11 < v3 → ((¬ (w_and (w_shr v8 v11) 1) = 1 → (w_in (10 - v1) ∧ w_inl (v9 * (10 - v1)) ∧ (∀ (y5 : Int), y5 = (v9 * (10 - v1)) → (p_Model_goesBy 0 σ ∧ (∀ (τ6 : w_M), q_Model_goesBy 0 σ τ6 → (w_in (v11 + 1) ∧ LModel_luck_50 xs (d + 4) Q v1 v2 v3 v4 v6 v8 y5 (v11 + 1) τ6)))))) ∧ ((w_and (w_shr v8 v11) 1) = 1 → (w_inl (v9 * v1) ∧ (∀ (y7 : Int), y7 = (v9 * v1) → (p_Model_goesBy 1 σ ∧ (∀ (τ8 : w_M), q_Model_goesBy 1 σ τ8 → (w_in (v11 + 1) ∧ LModel_luck_50 xs (d + 4) Q v1 v2 v3 v4 v6 v8 y7 (v11 + 1) τ8))))))))) : LModel_luck_50 xs (d + 4) Q v1 v2 v3 v4 v6 v8 v9 v11 σ :=
  fun l12 nl12 => (wi_iload11 fModel_luck_50 (wi_iload3 fModel_luck_51 (wi_ic_ge fModel_luck_52 (fun c10 => (wi_lload6 fModel_luck_81 (wi_aload0 fModel_luck_82 (wi_call1 fModel_luck_83 (Nat.le_of_ble_eq_true rfl) (k_Model_standing (h.1 c10).1 (wi_if_ne fModel_luck_84 (fun c4 => (wi_sipush fModel_luck_87 (wi_ladd fModel_luck_88 (((h.1 c10).2 _ rfl).1 c4).1 (wi_lstore6 fModel_luck_89 trivial (wi_iinc8 fModel_luck_90 trivial ((((h.1 c10).2 _ rfl).1 c4).2 _ rfl).1 (wi_goto fModel_luck_91 (((((h.1 c10).2 _ rfl).1 c4).2 _ rfl).2 _ _ (by exact trivial) _ (by exact trivial) _ nl12))))))) (fun c4 => (wi_lload9 fModel_luck_85 (wi_goto fModel_luck_86 (wi_ladd fModel_luck_88 (((h.1 c10).2 _ rfl).2 c4).1 (wi_lstore6 fModel_luck_89 trivial (wi_iinc8 fModel_luck_90 trivial ((((h.1 c10).2 _ rfl).2 c4).2 _ rfl).1 (wi_goto fModel_luck_91 (((((h.1 c10).2 _ rfl).2 c4).2 _ rfl).2 _ _ (by exact trivial) _ (by exact trivial) _ nl12)))))))))))))) (fun c10 => (wi_iload8 fModel_luck_53 (wi_iload11 fModel_luck_54 (wi_ishr fModel_luck_55 (wi_bipush fModel_luck_56 (wi_iand fModel_luck_57 (wi_bipush fModel_luck_58 (wi_ic_ne fModel_luck_59 (fun c9 => (wi_bipush fModel_luck_62 (wi_istore12 fModel_luck_63 trivial (wi_lload9 fModel_luck_64 (wi_iload12 fModel_luck_65 (wi_if_eq fModel_luck_66 (fun _ => (wi_bipush fModel_luck_70 (wi_iload1 fModel_luck_71 (wi_isub fModel_luck_72 ((h.2 c10).1 c9).1 (wi_i2l fModel_luck_73 (wi_lmul fModel_luck_74 ((h.2 c10).1 c9).2.1 (wi_lstore9 fModel_luck_75 trivial (wi_aload0 fModel_luck_76 (wi_iload12 fModel_luck_77 (wi_call2 fModel_luck_78 (Nat.le_of_ble_eq_true rfl) (k_Model_goesBy (((h.2 c10).1 c9).2.2 _ rfl).1 (fun τ6 eτ6 => (wi_iinc11 fModel_luck_79 trivial ((((h.2 c10).1 c9).2.2 _ rfl).2 τ6 eτ6).1 (wi_goto fModel_luck_80 (((((h.2 c10).1 c9).2.2 _ rfl).2 τ6 eτ6).2 _ (by exact trivial)))))))))))))))) (fun e => absurd e (by decide)))))))) (fun c9 => (wi_bipush fModel_luck_60 (wi_goto fModel_luck_61 (wi_istore12 fModel_luck_63 trivial (wi_lload9 fModel_luck_64 (wi_iload12 fModel_luck_65 (wi_if_eq fModel_luck_66 (fun e => absurd e (by decide)) (fun _ => (wi_iload1 fModel_luck_67 (wi_i2l fModel_luck_68 (wi_goto fModel_luck_69 (wi_lmul fModel_luck_74 ((h.2 c10).2 c9).1 (wi_lstore9 fModel_luck_75 trivial (wi_aload0 fModel_luck_76 (wi_iload12 fModel_luck_77 (wi_call2 fModel_luck_78 (Nat.le_of_ble_eq_true rfl) (k_Model_goesBy (((h.2 c10).2 c9).2 _ rfl).1 (fun τ8 eτ8 => (wi_iinc11 fModel_luck_79 trivial ((((h.2 c10).2 c9).2 _ rfl).2 τ8 eτ8).1 (wi_goto fModel_luck_80 (((((h.2 c10).2 c9).2 _ rfl).2 τ8 eτ8).2 _ (by exact trivial)))))))))))))))))))))))))))))))))
set_option maxHeartbeats 2000000 in
theorem k_Model_luck {xs : List Int} {d : Nat} {Q : Option w_V → w_M → Prop} {x1 : Int} {x2 : Int} {σ : w_M} (hp : p_Model_luck x1 x2 σ) (hQ : ∀ (x : Int) (σ' : w_M), q_Model_luck x1 x2 σ x σ' → Q (some (.inr (.inl x))) σ') : w_Call (xs, d + 4) 213 [.inr (.inr (9, 122)), .inl x1, .inl x2] σ Q := by
  have hM : MI σ := hp
  have hok := hM.ok
  have hrs := m_ok.hrs hok
  have hr : 0 ≤ σ 123 42 ∧ σ 123 42 ≤ σ 122 3 := m_ok.hr hok
  unfold q_Model_luck F_luck at hQ
  have eA : mS σ 0 = w_am σ 123 0 := rfl
  rw [eA] at hQ
  refine bModel_luck_0 ⟨fun c => ?_, fun c => ⟨fun c2 => ⟨⟨by omega, by omega⟩, fun y1 e1 => ?_⟩, fun c2 => ?_⟩⟩
  · rw [if_neg (fun q => c q.1)] at hQ
    exact hQ _ _ (m_qr hM rfl)
  · rw [if_pos ⟨c, c2⟩] at hQ
    have hL : ((n_left (w_am σ 123 0) : Nat) : Int) = y1 := by
      show (((σ 122 3 - σ 123 42).toNat : Nat) : Int) = y1
      omega
    generalize hA : w_am σ 123 0 = A at hQ hL
    generalize hLn : n_left A = L at hQ hL
    have hok' : n_WF A := by rw [← hA]; exact hok
    have a1 : A 0 1 = σ 123 42 := by rw [← hA]; rfl
    have a0 : A 0 0 = σ 122 3 := by rw [← hA]; rfl
    have hL12 : L ≤ 12 := by omega
    have hp2 : 2 ^ L ≤ 4096 := Nat.pow_le_pow_right (n := 2) (by decide) hL12
    have sh : w_shl 1 y1 = ((2 ^ L : Nat) : Int) := by rw [← hL]; exact w_shl13 L (by omega)
    have p1 := lk_p_pos L
    have p2 := lk_p_le hL12
    refine w_loop (n := L) (P := fun k => LModel_luck_28 xs (d + 4) Q x1 x2 y1 (lk_p k) 0 (k : Int) σ) ?_ ?_
    · refine bModel_luck_28 ⟨fun _ => ?_, fun h => by omega⟩
      refine (w_loop (n := 2 ^ L) (P := fun q => ∀ τ : w_M, w_f1 σ τ 124 → LModel_luck_39 xs (d + 4) Q x1 x2 y1 (lk_p L) (lk_s A x1 L q) (q : Int) τ) ?_ ?_) σ w_f1.rfl'
      · intro τ F1
        have s1 := lk_s_le (A := A) c hL12 hp2
        refine bModel_luck_39 ⟨fun _ => ⟨⟨by omega, s1.1⟩, fun y τ2 hq => ?_⟩, fun h => by rw [sh] at h; omega⟩
        obtain ⟨rfl, rfl⟩ := hq
        have g1 := lk_g_pos (b := lk_s A x1 L (2 ^ L)) p1
        refine ⟨fun c3 => ⟨by omega, ?_, ?_⟩, fun c3 => ⟨by omega, ?_, ?_⟩⟩
        · have := lk_div (a := lk_p L) (by omega) g1
          exact ⟨by omega, by omega⟩
        · rw [if_neg c3] at hQ
          exact hQ _ _ (m_qs hM F1 rfl)
        · have := lk_div (a := lk_s A x1 L (2 ^ L)) s1.1 g1
          exact ⟨by omega, by omega⟩
        · rw [if_pos c3] at hQ
          exact hQ _ _ (m_qs hM F1 rfl)
      · intro q hq ih τ F1
        have z2 : τ 122 = σ 122 := F1 122 (by decide)
        have z3 : τ 123 = σ 123 := F1 123 (by decide)
        have s1 := lk_s_le (A := A) c hL12 (c := q) (by omega)
        refine bModel_luck_39 ⟨fun h => by rw [sh] at h; omega, fun _ => ⟨by unfold p_Model_starts m_sm; rw [z2]; exact hM.sm, fun τ4 hq4 => ?_⟩⟩
        obtain ⟨q1, q2, -⟩ := hq4
        have B1 : w_am τ4 124 0 = lk_A A q 0 := by
          rw [q1, ← hA]
          exact w_am_fr (by rw [z2]; exact ⟨rfl, rfl, rfl⟩) z3
        refine (w_loop (n := L) (P := fun k => ∀ τ' : w_M, w_f1 σ τ' 124 → w_am τ' 124 0 = lk_A A q k → LModel_luck_50 xs (d + 4) Q x1 x2 y1 (lk_p L) (lk_s A x1 L q) (q : Int) (lk_w x1 q k) (k : Int) τ') ?_ ?_) τ4 (F1.tr q2) B1
        · intro τ' F' B'
          obtain ⟨g1, -, -⟩ := lk_A_all hok' q L (by omega)
          have w1 := lk_w_le c q L
          have hst : m_ok τ' 124 0 := by unfold m_ok; rw [B']; exact g1
          refine bModel_luck_50 ⟨fun _ => ⟨hst, fun y ey => ⟨fun c3 => ⟨⟨by omega, by omega⟩, fun y2 e2 => ⟨⟨by omega, by omega⟩, ?_⟩⟩, fun c3 => ⟨⟨by omega, by omega⟩, fun y2 e2 => ⟨⟨by omega, by omega⟩, ?_⟩⟩⟩⟩, fun h => by omega⟩
          · unfold v_Model_standing at ey
            rw [B'] at ey
            have et : lk_s A x1 L (q + 1) = y2 := by
              show lk_s A x1 L q + lk_t A x1 L q = y2
              unfold lk_t
              rw [if_neg (by rw [← ey]; exact c3)]
              omega
            rw [← et, ← w_cs1]
            exact ih τ' F'
          · unfold v_Model_standing at ey
            rw [B'] at ey
            have et : lk_s A x1 L (q + 1) = y2 := by
              show lk_s A x1 L q + lk_t A x1 L q = y2
              unfold lk_t
              rw [if_pos (by rw [← ey]; exact c3)]
              omega
            rw [← et, ← w_cs1]
            exact ih τ' F'
        · intro k hk ih2 τ' F' B'
          obtain ⟨g1, g2, g3⟩ := lk_A_all hok' q k (by omega)
          rw [← B'] at g1 g2 g3
          have z2' : τ' 122 = σ 122 := F' 122 (by decide)
          have t1 : τ' 124 42 = A 0 1 + k := g3
          have w1 := lk_w_le c q k
          have w2 := lk_w_le c q (k + 1)
          have w3 := lk_p_le (k := k + 1) (by omega)
          refine bModel_luck_50 ⟨fun h => by omega, fun _ => ⟨fun c3 => ?_, fun c3 => ?_⟩⟩
          · have ew : lk_w x1 q k * (10 - x1) = lk_w x1 q (k + 1) := by
              simp only [lk_w]
              unfold lk_f
              rw [if_neg (show ¬ lk_b q k = 1 from c3)]
            have eb : lk_b q k = 0 := (lk_b01 q k).resolve_right c3
            rw [ew]
            refine ⟨⟨by omega, by omega⟩, ⟨by omega, by omega⟩, fun y5 e5 => ⟨⟨g1, by rw [t1, z2']; omega, Or.inl rfl⟩, fun τ6 hq6 => ⟨⟨by omega, by omega⟩, ?_⟩⟩⟩
            rw [e5, ← w_cs1]
            refine ih2 τ6 (F'.tr hq6.2.1) ?_
            rw [hq6.1, B']
            simp only [lk_A]
            rw [eb]
          · have eb : lk_b q k = 1 := c3
            have ew : lk_w x1 q k * x1 = lk_w x1 q (k + 1) := by
              simp only [lk_w]
              unfold lk_f
              rw [if_pos eb]
            rw [ew]
            refine ⟨⟨by omega, by omega⟩, fun y5 e5 => ⟨⟨g1, by rw [t1, z2']; omega, Or.inr rfl⟩, fun τ6 hq6 => ⟨⟨by omega, by omega⟩, ?_⟩⟩⟩
            rw [e5, ← w_cs1]
            refine ih2 τ6 (F'.tr hq6.2.1) ?_
            rw [hq6.1, B']
            simp only [lk_A]
            rw [eb]
    · intro k hk ih
      have w3 := lk_p_le (k := k + 1) (by omega)
      have w4 := lk_p_pos (k + 1)
      rw [lk_p_s] at w3 w4
      refine bModel_luck_28 ⟨fun h => by omega, fun _ => ⟨⟨by omega, by omega⟩, fun y e => ⟨⟨by omega, by omega⟩, ?_⟩⟩⟩
      rw [e, ← lk_p_s, ← w_cs1]
      exact ih
  · rw [if_neg (fun q => c2 q.2)] at hQ
    exact hQ _ _ (m_qr hM rfl)
