/-! Who began where, by wages -/
noncomputable def ft_ok (A C : w_M) (k : Nat) : Prop := ∀ q, q < (C 0 0).toNat → (n_goes (n_row A k) 12) 7 (C 1 q).toNat = C 2 q
noncomputable def ft_n (A C : w_M) : Nat → Int
  | 0 => 0
  | k + 1 => ft_n A C k + @ite _ (ft_ok A C k) (Classical.propDecidable _) 1 0
noncomputable def ft_m (A C : w_M) (r : Nat) : Nat → Int
  | 0 => 0
  | k + 1 => @ite _ (ft_ok A C k) (Classical.propDecidable _) (w_or (ft_m A C r k) (w_shl 1 ((dg (n_s A) (n_n A) k r : Nat) : Int))) (ft_m A C r k)
theorem ft_n_t {A C : w_M} {k : Nat} (h : ft_ok A C k) : ft_n A C (k + 1) = ft_n A C k + 1 := by simp only [ft_n]; rw [if_pos h]
theorem ft_n_f {A C : w_M} {k : Nat} (h : ¬ ft_ok A C k) : ft_n A C (k + 1) = ft_n A C k := by simp only [ft_n]; rw [if_neg h, Int.add_zero]
theorem ft_m_t {A C : w_M} {r k : Nat} (h : ft_ok A C k) : ft_m A C r (k + 1) = w_or (ft_m A C r k) (w_shl 1 ((dg (n_s A) (n_n A) k r : Nat) : Int)) := by simp only [ft_m]; rw [if_pos h]
theorem ft_m_f {A C : w_M} {r k : Nat} (h : ¬ ft_ok A C k) : ft_m A C r (k + 1) = ft_m A C r k := by simp only [ft_m]; rw [if_neg h]
theorem ft_n_le {A C : w_M} : ∀ k : Nat, 0 ≤ ft_n A C k ∧ ft_n A C k ≤ k := by
  intro k
  induction k with
  | zero => simp [ft_n]
  | succ k ih =>
    by_cases h : ft_ok A C k
    · rw [ft_n_t h]; omega
    · rw [ft_n_f h]; omega
theorem ft_m_in {A C : w_M} {r : Nat} : ∀ k : Nat, w_in (ft_m A C r k) := by
  intro k
  induction k with
  | zero => exact w_in0
  | succ k ih =>
    by_cases h : ft_ok A C k
    · rw [ft_m_t h]; exact w_toInt_in _
    · rw [ft_m_f h]; exact ih
theorem w_or0 {x : Int} (h : w_in x) : w_or x 0 = x := by
  show (Int32.ofInt x ||| Int32.ofInt 0).toInt = x
  have : Int32.ofInt x ||| Int32.ofInt 0 = Int32.ofInt x := by
    apply Int32.toBitVec_inj.mp
    rw [Int32.toBitVec_or]
    show (Int32.ofInt x).toBitVec ||| 0#32 = _
    exact BitVec.or_zero
  rw [this, w_ci h]
noncomputable def ft_r (A : w_M) : Nat := n_s A ^ n_n A
noncomputable def F_fits (S : w_S) (w : Int) : Int := if w = 0 then ft_n (S 0) (S 2) (ft_r (S 0)) else if 10 ≤ w ∧ w - 10 < S 0 0 5 then ft_m (S 0) (S 2) (w - 10).toNat (ft_r (S 0)) else -1
/-- a row of beginnings is a night -/
theorem n_row_WF {A : w_M} (h : n_WF A) (hs : 1 ≤ n_s A ∨ n_n A = 0) (k : Nat) : n_WF (n_row A k) := by
  refine n_bg_WF h (fun r hr => ?_)
  have h4 := h.s
  have := dg_lt (B := n_s A) (n := n_n A) (k := k) (r := r) (by omega)
  unfold n_s at this ⊢
  omega
theorem n_s_pos {A : w_M} (h : n_WF A) : 1 ≤ n_s A ∨ n_n A = 0 := by
  by_cases hn : n_n A = 0
  · exact Or.inr hn
  · have := (h.r (r := 0) (by omega)).2.2.2
    refine Or.inl ?_
    unfold n_s
    omega
theorem n_row12 {A : w_M} (h : n_WF A) (d : Nat) (hd : d ≠ 0) : (n_goes A 12) d = (n_goes A (n_fin A)) d := by
  obtain ⟨x, hx⟩ := n_goes12 h
  rw [hx, w_up_ne hd]
noncomputable def p_Paid_isAsPaid (a b : Nat) (σ : w_M) : Prop := (0 ≤ σ a 0 ∧ σ a 0 ≤ 4) ∧ σ b 5 ≤ 4
noncomputable def P_Paid_isAsPaid (a b : Nat) (σ : w_M) : Prop := ∀ q : Nat, q < (σ a 0).toNat → (0 ≤ σ (a + 1) q ∧ σ (a + 1) q < σ b 5) ∧ σ (b + 7) (σ (a + 1) q).toNat = σ (a + 2) q
theorem fPaid_isAsPaid_0 : w_fe am_c61 0 1 (.bipush 0) := ⟨rfl, rfl⟩
theorem fPaid_isAsPaid_1 : w_fe am_c61 1 2 (.istore 2) := ⟨rfl, rfl⟩
theorem fPaid_isAsPaid_2 : w_fe am_c61 2 3 (.iload 2) := ⟨rfl, rfl⟩
theorem fPaid_isAsPaid_3 : w_fe am_c61 3 4 (.aload 0) := ⟨rfl, rfl⟩
theorem fPaid_isAsPaid_4 : w_fe am_c61 4 5 (.getfield 500) := ⟨rfl, rfl⟩
theorem fPaid_isAsPaid_5 : w_ic am_c61 5 6 .ge 28 := ⟨rfl, rfl⟩
theorem fPaid_isAsPaid_6 : w_fe am_c61 6 7 (.aload 0) := ⟨rfl, rfl⟩
theorem fPaid_isAsPaid_7 : w_fe am_c61 7 8 (.getfield 501) := ⟨rfl, rfl⟩
theorem fPaid_isAsPaid_8 : w_fe am_c61 8 9 (.iload 2) := ⟨rfl, rfl⟩
theorem fPaid_isAsPaid_9 : w_fe am_c61 9 10 (.iaload) := ⟨rfl, rfl⟩
theorem fPaid_isAsPaid_10 : w_fe am_c61 10 11 (.istore 3) := ⟨rfl, rfl⟩
theorem fPaid_isAsPaid_11 : w_fe am_c61 11 12 (.aload 1) := ⟨rfl, rfl⟩
theorem fPaid_isAsPaid_12 : w_fe am_c61 12 13 (.iload 3) := ⟨rfl, rfl⟩
theorem fPaid_isAsPaid_13 : w_fe am_c61 13 14 (.invokestatic 38) := ⟨rfl, rfl⟩
theorem fPaid_isAsPaid_14 : w_if am_c61 14 15 .eq 24 := ⟨rfl, rfl⟩
theorem fPaid_isAsPaid_15 : w_fe am_c61 15 16 (.aload 1) := ⟨rfl, rfl⟩
theorem fPaid_isAsPaid_16 : w_fe am_c61 16 17 (.getfield 213) := ⟨rfl, rfl⟩
theorem fPaid_isAsPaid_17 : w_fe am_c61 17 18 (.iload 3) := ⟨rfl, rfl⟩
theorem fPaid_isAsPaid_18 : w_fe am_c61 18 19 (.iaload) := ⟨rfl, rfl⟩
theorem fPaid_isAsPaid_19 : w_fe am_c61 19 20 (.aload 0) := ⟨rfl, rfl⟩
theorem fPaid_isAsPaid_20 : w_fe am_c61 20 21 (.getfield 502) := ⟨rfl, rfl⟩
theorem fPaid_isAsPaid_21 : w_fe am_c61 21 22 (.iload 2) := ⟨rfl, rfl⟩
theorem fPaid_isAsPaid_22 : w_fe am_c61 22 23 (.iaload) := ⟨rfl, rfl⟩
theorem fPaid_isAsPaid_23 : w_ic am_c61 23 24 .eq 26 := ⟨rfl, rfl⟩
theorem fPaid_isAsPaid_24 : w_fe am_c61 24 25 (.bipush 0) := ⟨rfl, rfl⟩
theorem fPaid_isAsPaid_25 : w_fe am_c61 25 26 (.ireturn) := ⟨rfl, rfl⟩
theorem fPaid_isAsPaid_26 : w_fe am_c61 26 27 (.iinc 2 1) := ⟨rfl, rfl⟩
theorem fPaid_isAsPaid_27 : w_gt am_c61 27 2 := rfl
theorem fPaid_isAsPaid_28 : w_fe am_c61 28 29 (.bipush 1) := ⟨rfl, rfl⟩
theorem fPaid_isAsPaid_29 : w_fe am_c61 29 30 (.ireturn) := ⟨rfl, rfl⟩
noncomputable def LPaid_isAsPaid_2 (xs : List Int) (d : Nat) (Q : Option w_V → w_M → Prop) (r0 : Nat) (r1 : Nat) (v2 : Int) (σ : w_M) : Prop := ∀ l3, w_nl l3 → w_Ex (xs, d) 2 am_c61 Q 2 [some (.inr (.inr (5, r0))), some (.inr (.inr (2, r1))), some (.inl v2), l3] [] σ
set_option maxRecDepth 20000 in
theorem bPaid_isAsPaid_0 {xs : List Int} {d : Nat} {Q : Option w_V → w_M → Prop} {a : Nat} {b : Nat} {σ : w_M}
    (h : LPaid_isAsPaid_2 xs (d + 1) Q a b 0 σ) : w_Call (xs, (d + 1)) 61 [.inr (.inr (5, a)), .inr (.inr (2, b))] σ Q :=
  (w_mk (mid := 61) (by decide) rfl rfl rfl rfl rfl (Nat.le_of_ble_eq_true rfl) ⟨rfl, Or.inl (by decide)⟩ (wi_bipush fPaid_isAsPaid_0 (wi_istore2 fPaid_isAsPaid_1 trivial (h _ (by exact trivial)))))
set_option maxRecDepth 20000 in
theorem bPaid_isAsPaid_2 {xs : List Int} {d : Nat} {Q : Option w_V → w_M → Prop} {r0 : Nat} {r1 : Nat} {v2 : Int} {σ : w_M}
    (h : ((σ r0 0) ≤ v2 → Q (some (.inl 1)) σ) ∧ (v2 < (σ r0 0) → (0 ≤ v2 ∧ v2 < 4 ∧ (∀ (y1 : Int), y1 = (σ (r0 + 1) v2.toNat) → ((¬ (0 ≤ y1 ∧ y1 < σ r1 5) → Q (some (.inl 0)) σ) ∧ ((0 ≤ y1 ∧ y1 < σ r1 5) → (0 ≤ y1 ∧ y1 < 4 ∧ (((σ (r1 + 7) y1.toNat) = (σ (r0 + 2) v2.toNat) → (w_in (v2 + 1) ∧ LPaid_isAsPaid_2 xs (d + 1) Q r0 r1 (v2 + 1) σ)) ∧ (¬ (σ (r1 + 7) y1.toNat) = (σ (r0 + 2) v2.toNat) → Q (some (.inl 0)) σ))))))))) : LPaid_isAsPaid_2 xs (d + 1) Q r0 r1 v2 σ :=
  fun l3 nl3 => (wi_iload2 fPaid_isAsPaid_2 (wi_aload0 fPaid_isAsPaid_3 (wi_getf500 fPaid_isAsPaid_4 (wi_ic_ge fPaid_isAsPaid_5 (fun c4 => (wi_bipush fPaid_isAsPaid_28 (wi_ret2 fPaid_isAsPaid_29 (by decide) (h.1 c4)))) (fun c4 => (wi_aload0 fPaid_isAsPaid_6 (wi_getf501 fPaid_isAsPaid_7 (wi_iload2 fPaid_isAsPaid_8 (wi_iald1004 fPaid_isAsPaid_9 (h.2 c4).1 (h.2 c4).2.1 (wi_istore3 fPaid_isAsPaid_10 trivial (wi_aload1 fPaid_isAsPaid_11 (wi_iload3 fPaid_isAsPaid_12 (wi_call2 fPaid_isAsPaid_13 (Nat.le_of_ble_eq_true rfl) (k_Field_isReaper (wi_ifb_eq fPaid_isAsPaid_14 (fun c3 => (wi_bipush fPaid_isAsPaid_24 (wi_ret2 fPaid_isAsPaid_25 (by decide) (((h.2 c4).2.2 _ rfl).1 c3)))) (fun c3 => (wi_aload1 fPaid_isAsPaid_15 (wi_getf213 fPaid_isAsPaid_16 (wi_iload3 fPaid_isAsPaid_17 (wi_iald1004 fPaid_isAsPaid_18 (((h.2 c4).2.2 _ rfl).2 c3).1 (((h.2 c4).2.2 _ rfl).2 c3).2.1 (wi_aload0 fPaid_isAsPaid_19 (wi_getf502 fPaid_isAsPaid_20 (wi_iload2 fPaid_isAsPaid_21 (wi_iald1004 fPaid_isAsPaid_22 (h.2 c4).1 (h.2 c4).2.1 (wi_ic_eq fPaid_isAsPaid_23 (fun c2 => (wi_iinc2 fPaid_isAsPaid_26 trivial ((((h.2 c4).2.2 _ rfl).2 c3).2.2.1 c2).1 (wi_goto fPaid_isAsPaid_27 (((((h.2 c4).2.2 _ rfl).2 c3).2.2.1 c2).2 _ (by exact trivial))))) (fun c2 => (wi_bipush fPaid_isAsPaid_24 (wi_ret2 fPaid_isAsPaid_25 (by decide) ((((h.2 c4).2.2 _ rfl).2 c3).2.2.2 c2)))))))))))))))))))))))))))))
theorem k_Paid_isAsPaid {xs : List Int} {d : Nat} {Q : Option w_V → w_M → Prop} {a : Nat} {b : Nat} {σ : w_M} (hp : p_Paid_isAsPaid a b σ) (hQ : Q (some (.inl (w_bi (P_Paid_isAsPaid a b σ)))) σ) : w_Call (xs, d + 1) 61 [.inr (.inr (5, a)), .inr (.inr (2, b))] σ Q := by
  obtain ⟨h0, h5⟩ := hp
  refine bPaid_isAsPaid_0 ?_
  refine (w_loop (n := (σ a 0).toNat) (P := fun k => (∀ q, q < k → (0 ≤ σ (a + 1) q ∧ σ (a + 1) q < σ b 5) ∧ σ (b + 7) (σ (a + 1) q).toNat = σ (a + 2) q) → LPaid_isAsPaid_2 xs (d + 1) Q a b (k : Int) σ) ?_ ?_) (fun q hq => by omega)
  · intro h
    rw [w_bi_t (show P_Paid_isAsPaid a b σ from h)] at hQ
    exact bPaid_isAsPaid_2 ⟨fun _ => hQ, fun h => by omega⟩
  · intro k hk ih h
    have no : ¬ ((0 ≤ σ (a + 1) k ∧ σ (a + 1) k < σ b 5) ∧ σ (b + 7) (σ (a + 1) k).toNat = σ (a + 2) k) → Q (some (.inl 0)) σ := fun q => by
      rw [w_bi_f (fun z : P_Paid_isAsPaid a b σ => q (z k hk))] at hQ
      exact hQ
    refine bPaid_isAsPaid_2 ⟨fun h => by omega, fun _ => ⟨by omega, by omega, fun y ey => ?_⟩⟩
    rw [Int.toNat_natCast] at ey
    rw [Int.toNat_natCast]
    refine ⟨fun c => no (fun q => c (by rw [ey]; exact q.1)), fun c => ⟨by omega, by omega, fun c2 => ⟨⟨by omega, by omega⟩, ?_⟩, fun c2 => no (fun q => c2 (by rw [ey]; exact q.2))⟩⟩
    rw [← w_cs1]
    refine ih (fun q hq => ?_)
    by_cases e : q = k
    · rw [e, ← ey]; exact ⟨c, c2⟩
    · exact h q (by omega)
noncomputable def p_Plan_isFitting (b b2 : Nat) (σ : w_M) : Prop := ((n_ok σ b ∧ (32 + 9 ≤ b ∨ b + 9 ≤ 32)) ∧ b2 + 3 ≤ 32) ∧ paWF (w_ab σ b) (c_ab σ b2) ∧ ∃ k : Nat, ∀ r, r < n_n (w_ab σ b) → σ 41 r = ((dg (n_s (w_ab σ b)) (n_n (w_ab σ b)) k r : Nat) : Int)
noncomputable def q_Plan_isFitting (b b2 : Nat) (σ : w_M) (x : Int) (σ' : w_M) : Prop := (x = 0 ∨ x = 1) ∧ (∀ k : Nat, (∀ r, r < n_n (w_ab σ b) → σ 41 r = ((dg (n_s (w_ab σ b)) (n_n (w_ab σ b)) k r : Nat) : Int)) → (x = 1 ↔ ft_ok (w_ab σ b) (c_ab σ b2) k)) ∧ w_fr σ σ' 32 41
theorem fPlan_isFitting_0 : w_fe am_c86 0 1 (.aload 2) := ⟨rfl, rfl⟩
theorem fPlan_isFitting_1 : w_fe am_c86 1 2 (.getfield 500) := ⟨rfl, rfl⟩
theorem fPlan_isFitting_2 : w_if am_c86 2 3 .ne 5 := ⟨rfl, rfl⟩
theorem fPlan_isFitting_3 : w_fe am_c86 3 4 (.bipush 1) := ⟨rfl, rfl⟩
theorem fPlan_isFitting_4 : w_fe am_c86 4 5 (.ireturn) := ⟨rfl, rfl⟩
theorem fPlan_isFitting_5 : w_fe am_c86 5 6 (.aload 0) := ⟨rfl, rfl⟩
theorem fPlan_isFitting_6 : w_fe am_c86 6 7 (.aload 1) := ⟨rfl, rfl⟩
theorem fPlan_isFitting_7 : w_fe am_c86 7 8 (.invokestatic 70) := ⟨rfl, rfl⟩
theorem fPlan_isFitting_8 : w_fe am_c86 8 9 (.aload 0) := ⟨rfl, rfl⟩
theorem fPlan_isFitting_9 : w_fe am_c86 9 10 (.getfield 600) := ⟨rfl, rfl⟩
theorem fPlan_isFitting_10 : w_fe am_c86 10 11 (.bipush 12) := ⟨rfl, rfl⟩
theorem fPlan_isFitting_11 : w_fe am_c86 11 12 (.bipush 1000000) := ⟨rfl, rfl⟩
theorem fPlan_isFitting_12 : w_fe am_c86 12 13 (.invokestatic 45) := ⟨rfl, rfl⟩
theorem fPlan_isFitting_13 : w_fe am_c86 13 14 (.pop) := ⟨rfl, rfl⟩
theorem fPlan_isFitting_14 : w_fe am_c86 14 15 (.aload 2) := ⟨rfl, rfl⟩
theorem fPlan_isFitting_15 : w_fe am_c86 15 16 (.aload 0) := ⟨rfl, rfl⟩
theorem fPlan_isFitting_16 : w_fe am_c86 16 17 (.getfield 600) := ⟨rfl, rfl⟩
theorem fPlan_isFitting_17 : w_fe am_c86 17 18 (.invokestatic 61) := ⟨rfl, rfl⟩
theorem fPlan_isFitting_18 : w_fe am_c86 18 19 (.ireturn) := ⟨rfl, rfl⟩
set_option maxRecDepth 20000 in
theorem bPlan_isFitting_0 {xs : List Int} {d : Nat} {Q : Option w_V → w_M → Prop} {b : Nat} {b2 : Nat} {σ : w_M}
    (h : (¬ (σ b2 0) = 0 → (p_Plan_beginAsPicked b σ ∧ (∀ (τ1 : w_M), q_Plan_beginAsPicked b σ τ1 → (p_Field_passUntilDone 32 12 1000000 τ1 ∧ (∀ (y2 : Int) (τ3 : w_M), q_Field_passUntilDone 32 12 1000000 τ1 y2 τ3 → (p_Paid_isAsPaid b2 32 τ3 ∧ Q (some (.inl (w_bi (P_Paid_isAsPaid b2 32 τ3)))) τ3)))))) ∧ ((σ b2 0) = 0 → Q (some (.inl 1)) σ)) : w_Call (xs, (d + 5)) 86 [.inr (.inr (6, 31)), .inr (.inr (2, b)), .inr (.inr (5, b2))] σ Q :=
  (w_mk (mid := 86) (by decide) rfl rfl rfl rfl rfl (Nat.le_of_ble_eq_true rfl) ⟨rfl, Or.inl (by decide)⟩ (wi_aload2 fPlan_isFitting_0 (wi_getf500 fPlan_isFitting_1 (wi_if_ne fPlan_isFitting_2 (fun c4 => (wi_aload0 fPlan_isFitting_5 (wi_aload1 fPlan_isFitting_6 (wi_call2 fPlan_isFitting_7 (Nat.le_of_ble_eq_true rfl) (k_Plan_beginAsPicked (h.1 c4).1 (fun τ1 eτ1 => (wi_aload0 fPlan_isFitting_8 (wi_getf600 fPlan_isFitting_9 (wi_bipush fPlan_isFitting_10 (wi_bipush fPlan_isFitting_11 (wi_call3 fPlan_isFitting_12 (Nat.le_of_ble_eq_true rfl) (k_Field_passUntilDone ((h.1 c4).2 τ1 eτ1).1 (fun y2 τ3 eτ3 => (wi_pop_i fPlan_isFitting_13 (wi_aload2 fPlan_isFitting_14 (wi_aload0 fPlan_isFitting_15 (wi_getf600 fPlan_isFitting_16 (wi_call2 fPlan_isFitting_17 (Nat.le_of_ble_eq_true rfl) (k_Paid_isAsPaid (((h.1 c4).2 τ1 eτ1).2 y2 τ3 eτ3).1 (wi_ret2 fPlan_isFitting_18 (w_bi01 _) (((h.1 c4).2 τ1 eτ1).2 y2 τ3 eτ3).2)))))))))))))))))))) (fun c4 => (wi_bipush fPlan_isFitting_3 (wi_ret2 fPlan_isFitting_4 (by decide) (h.2 c4))))))))
theorem w_bi_1 {P : Prop} : w_bi P = 1 ↔ P := by
  by_cases h : P
  · rw [w_bi_t h]; exact ⟨fun _ => h, fun _ => rfl⟩
  · rw [w_bi_f h]; exact ⟨fun q => absurd q (by decide), fun q => absurd q h⟩
theorem k_Plan_isFitting {xs : List Int} {d : Nat} {Q : Option w_V → w_M → Prop} {b : Nat} {b2 : Nat} {σ : w_M} (hp : p_Plan_isFitting b b2 σ) (hQ : ∀ (x : Int) (σ' : w_M), q_Plan_isFitting b b2 σ x σ' → Q (some (.inl x)) σ') : w_Call (xs, d + 5) 86 [.inr (.inr (6, 31)), .inr (.inr (2, b)), .inr (.inr (5, b2))] σ Q := by
  obtain ⟨⟨⟨hok, hb⟩, hb2⟩, hpa, k0, hk0⟩ := hp
  have hn := n_ok.n hok
  have hc : 0 ≤ σ b2 0 ∧ σ b2 0 ≤ 4 := hpa.1
  refine bPlan_isFitting_0 ⟨fun c => ⟨⟨hok, hb⟩, fun τ1 hq1 => ?_⟩, fun c => hQ _ _ ⟨Or.inr rfl, fun k _ => ⟨fun _ q hq => ?_, fun _ => rfl⟩, w_fr.rfl'⟩⟩
  · obtain ⟨a1, F1⟩ := hq1
    have er : n_bg (w_ab σ b) (σ 41) = n_row (w_ab σ b) k0 := n_bg_congr hk0
    rw [er] at a1
    have W1 : n_WF (n_row (w_ab σ b) k0) := n_row_WF hok (n_s_pos hok) k0
    refine ⟨⟨n_ok.of a1 W1, by decide, by decide⟩, fun y2 τ3 hq3 => ?_⟩
    obtain ⟨j, p1, p2, p3⟩ := hq3
    rw [a1] at p1 p2
    obtain ⟨ej, -⟩ := n_pud_done W1 p2
    have G := n_goes_all W1 j
    have F3 : w_fr σ τ3 32 41 := F1.tr p3
    have e5 : τ3 32 5 = σ b 5 := by
      have h1 : w_ab τ3 32 0 5 = τ3 32 5 := rfl
      have h2 : (n_row (w_ab σ b) k0) 0 5 = σ b 5 := by unfold n_row; rw [n_bg_ne (by decide)]; rfl
      rw [← h1, p1, G.2.1.1 5 (by decide) (by decide), h2]
    have z0 : τ3 b2 = σ b2 := F3 b2 (by omega)
    have z1 : τ3 (b2 + 1) = σ (b2 + 1) := F3 _ (by omega)
    have z2 : τ3 (b2 + 2) = σ (b2 + 2) := F3 _ (by omega)
    refine ⟨⟨by rw [z0]; exact hc, by rw [e5]; omega⟩, hQ _ _ ⟨?_, fun k hk => ?_, F3⟩⟩
    · by_cases h : P_Paid_isAsPaid b2 32 τ3
      · exact Or.inr (w_bi_t h)
      · exact Or.inl (w_bi_f h)
    · have ek : n_row (w_ab σ b) k = n_row (w_ab σ b) k0 := by
        unfold n_row
        exact n_bg_congr (fun r hr => by rw [← hk r hr, ← hk0 r hr])
      rw [w_bi_1]
      unfold P_Paid_isAsPaid ft_ok
      rw [z0, z1, z2, e5, ek]
      have eC0 : c_ab σ b2 0 0 = σ b2 0 := rfl
      rw [eC0]
      have key : ∀ q, q < (σ b2 0).toNat → (0 ≤ σ (b2 + 1) q ∧ σ (b2 + 1) q < σ b 5) ∧ c_ab σ b2 1 q = σ (b2 + 1) q ∧ c_ab σ b2 2 q = σ (b2 + 2) q ∧ τ3 (32 + 7) (σ (b2 + 1) q).toNat = (n_goes (n_row (w_ab σ b) k0) 12) 7 (c_ab σ b2 1 q).toNat := fun q hq => by
        have w1 := (hpa.2 q hq).1
        have e1 : c_ab σ b2 1 q = σ (b2 + 1) q := by unfold c_ab; rw [if_neg (by decide), if_pos (by decide), if_pos hq]
        have e2 : c_ab σ b2 2 q = σ (b2 + 2) q := by unfold c_ab; rw [if_neg (by decide), if_pos (by decide), if_pos hq]
        rw [e1] at w1
        have w1' : 0 ≤ σ (b2 + 1) q ∧ σ (b2 + 1) q < σ b 5 := w1
        refine ⟨w1', e1, e2, ?_⟩
        rw [e1, n_row12 W1 7 (by decide), ← ej, ← p1]
        exact w_rd (by decide) (by rw [w_rl37 (by decide) (by decide), e5]; omega)
      refine ⟨fun h q hq => ?_, fun h q hq => ?_⟩
      · obtain ⟨k1, k2, k3, k4⟩ := key q hq
        rw [← k4, k3]
        exact (h q hq).2
      · obtain ⟨k1, k2, k3, k4⟩ := key q hq
        refine ⟨k1, ?_⟩
        rw [k4, ← k3]
        exact h q hq
  · have : (σ b2 0).toNat = 0 := by omega
    have eC0 : c_ab σ b2 0 0 = σ b2 0 := rfl
    rw [eC0] at hq
    omega
noncomputable def p_Plan_countFitting (b b2 : Nat) (σ : w_M) : Prop := ((n_ok σ b ∧ b + 9 ≤ 32) ∧ b2 + 3 ≤ 32) ∧ paWF (w_ab σ b) (c_ab σ b2)
noncomputable def q_Plan_countFitting (b b2 : Nat) (σ : w_M) (x : Int) (σ' : w_M) : Prop := x = ft_n (w_ab σ b) (c_ab σ b2) (ft_r (w_ab σ b)) ∧ (∀ r, r < n_n (w_ab σ b) → σ' 43 r = ft_m (w_ab σ b) (c_ab σ b2) r (ft_r (w_ab σ b))) ∧ w_fr σ σ' 31 80
theorem fPlan_countFitting_0 : w_fe am_c85 0 1 (.aload 0) := ⟨rfl, rfl⟩
theorem fPlan_countFitting_1 : w_fe am_c85 1 2 (.aload 1) := ⟨rfl, rfl⟩
theorem fPlan_countFitting_2 : w_fe am_c85 2 3 (.getfield 204) := ⟨rfl, rfl⟩
theorem fPlan_countFitting_3 : w_fe am_c85 3 4 (.bipush 1) := ⟨rfl, rfl⟩
theorem fPlan_countFitting_4 : w_fe am_c85 4 5 (.isub) := ⟨rfl, rfl⟩
theorem fPlan_countFitting_5 : w_fe am_c85 5 6 (.invokestatic 68) := ⟨rfl, rfl⟩
theorem fPlan_countFitting_6 : w_fe am_c85 6 7 (.aload 0) := ⟨rfl, rfl⟩
theorem fPlan_countFitting_7 : w_fe am_c85 7 8 (.getfield 603) := ⟨rfl, rfl⟩
theorem fPlan_countFitting_8 : w_fe am_c85 8 9 (.bipush 0) := ⟨rfl, rfl⟩
theorem fPlan_countFitting_9 : w_fe am_c85 9 10 (.invokestatic 4) := ⟨rfl, rfl⟩
theorem fPlan_countFitting_10 : w_fe am_c85 10 11 (.bipush 0) := ⟨rfl, rfl⟩
theorem fPlan_countFitting_11 : w_fe am_c85 11 12 (.istore 3) := ⟨rfl, rfl⟩
theorem fPlan_countFitting_12 : w_fe am_c85 12 13 (.bipush 0) := ⟨rfl, rfl⟩
theorem fPlan_countFitting_13 : w_fe am_c85 13 14 (.istore 4) := ⟨rfl, rfl⟩
theorem fPlan_countFitting_14 : w_fe am_c85 14 15 (.iload 4) := ⟨rfl, rfl⟩
theorem fPlan_countFitting_15 : w_fe am_c85 15 16 (.bipush 2401) := ⟨rfl, rfl⟩
theorem fPlan_countFitting_16 : w_ic am_c85 16 17 .ge 53 := ⟨rfl, rfl⟩
theorem fPlan_countFitting_17 : w_fe am_c85 17 18 (.aload 0) := ⟨rfl, rfl⟩
theorem fPlan_countFitting_18 : w_fe am_c85 18 19 (.aload 1) := ⟨rfl, rfl⟩
theorem fPlan_countFitting_19 : w_fe am_c85 19 20 (.aload 2) := ⟨rfl, rfl⟩
theorem fPlan_countFitting_20 : w_fe am_c85 20 21 (.invokestatic 86) := ⟨rfl, rfl⟩
theorem fPlan_countFitting_21 : w_if am_c85 21 22 .eq 45 := ⟨rfl, rfl⟩
theorem fPlan_countFitting_22 : w_fe am_c85 22 23 (.iinc 3 1) := ⟨rfl, rfl⟩
theorem fPlan_countFitting_23 : w_fe am_c85 23 24 (.bipush 0) := ⟨rfl, rfl⟩
theorem fPlan_countFitting_24 : w_fe am_c85 24 25 (.istore 5) := ⟨rfl, rfl⟩
theorem fPlan_countFitting_25 : w_fe am_c85 25 26 (.iload 5) := ⟨rfl, rfl⟩
theorem fPlan_countFitting_26 : w_fe am_c85 26 27 (.aload 1) := ⟨rfl, rfl⟩
theorem fPlan_countFitting_27 : w_fe am_c85 27 28 (.getfield 205) := ⟨rfl, rfl⟩
theorem fPlan_countFitting_28 : w_ic am_c85 28 29 .ge 45 := ⟨rfl, rfl⟩
theorem fPlan_countFitting_29 : w_fe am_c85 29 30 (.aload 0) := ⟨rfl, rfl⟩
theorem fPlan_countFitting_30 : w_fe am_c85 30 31 (.getfield 603) := ⟨rfl, rfl⟩
theorem fPlan_countFitting_31 : w_fe am_c85 31 32 (.iload 5) := ⟨rfl, rfl⟩
theorem fPlan_countFitting_32 : w_fe am_c85 32 33 (.aload 0) := ⟨rfl, rfl⟩
theorem fPlan_countFitting_33 : w_fe am_c85 33 34 (.getfield 603) := ⟨rfl, rfl⟩
theorem fPlan_countFitting_34 : w_fe am_c85 34 35 (.iload 5) := ⟨rfl, rfl⟩
theorem fPlan_countFitting_35 : w_fe am_c85 35 36 (.iaload) := ⟨rfl, rfl⟩
theorem fPlan_countFitting_36 : w_fe am_c85 36 37 (.aload 0) := ⟨rfl, rfl⟩
theorem fPlan_countFitting_37 : w_fe am_c85 37 38 (.getfield 601) := ⟨rfl, rfl⟩
theorem fPlan_countFitting_38 : w_fe am_c85 38 39 (.iload 5) := ⟨rfl, rfl⟩
theorem fPlan_countFitting_39 : w_fe am_c85 39 40 (.iaload) := ⟨rfl, rfl⟩
theorem fPlan_countFitting_40 : w_fe am_c85 40 41 (.bipush 1) := ⟨rfl, rfl⟩
theorem fPlan_countFitting_41 : w_fe am_c85 41 42 (.invokestatic 110) := ⟨rfl, rfl⟩
theorem fPlan_countFitting_42 : w_fe am_c85 42 43 (.iastore) := ⟨rfl, rfl⟩
theorem fPlan_countFitting_43 : w_fe am_c85 43 44 (.iinc 5 1) := ⟨rfl, rfl⟩
theorem fPlan_countFitting_44 : w_gt am_c85 44 25 := rfl
theorem fPlan_countFitting_45 : w_fe am_c85 45 46 (.aload 0) := ⟨rfl, rfl⟩
theorem fPlan_countFitting_46 : w_fe am_c85 46 47 (.aload 1) := ⟨rfl, rfl⟩
theorem fPlan_countFitting_47 : w_fe am_c85 47 48 (.getfield 205) := ⟨rfl, rfl⟩
theorem fPlan_countFitting_48 : w_fe am_c85 48 49 (.invokestatic 72) := ⟨rfl, rfl⟩
theorem fPlan_countFitting_49 : w_if am_c85 49 50 .ne 51 := ⟨rfl, rfl⟩
theorem fPlan_countFitting_50 : w_gt am_c85 50 53 := rfl
theorem fPlan_countFitting_51 : w_fe am_c85 51 52 (.iinc 4 1) := ⟨rfl, rfl⟩
theorem fPlan_countFitting_52 : w_gt am_c85 52 14 := rfl
theorem fPlan_countFitting_53 : w_fe am_c85 53 54 (.iload 3) := ⟨rfl, rfl⟩
theorem fPlan_countFitting_54 : w_fe am_c85 54 55 (.ireturn) := ⟨rfl, rfl⟩
noncomputable def LPlan_countFitting_14 (xs : List Int) (d : Nat) (Q : Option w_V → w_M → Prop) (r1 : Nat) (r2 : Nat) (v3 : Int) (v4 : Int) (σ : w_M) : Prop := ∀ l5, w_nl l5 → w_Ex (xs, d) 1 am_c85 Q 14 [some (.inr (.inr (6, 31))), some (.inr (.inr (2, r1))), some (.inr (.inr (5, r2))), some (.inl v3), some (.inl v4), l5] [] σ
noncomputable def LPlan_countFitting_25 (xs : List Int) (d : Nat) (Q : Option w_V → w_M → Prop) (r1 : Nat) (r2 : Nat) (v3 : Int) (v4 : Int) (v5 : Int) (σ : w_M) : Prop := w_Ex (xs, d) 1 am_c85 Q 25 [some (.inr (.inr (6, 31))), some (.inr (.inr (2, r1))), some (.inr (.inr (5, r2))), some (.inl v3), some (.inl v4), some (.inl v5)] [] σ
set_option maxRecDepth 20000 in
theorem bPlan_countFitting_0 {xs : List Int} {d : Nat} {Q : Option w_V → w_M → Prop} {b : Nat} {b2 : Nat} {σ : w_M}
    (h : w_in ((σ b 4) - 1) ∧ p_Plan_startPicks ((σ b 4) - 1) σ ∧ (∀ (τ1 : w_M), q_Plan_startPicks ((σ b 4) - 1) σ τ1 → ∀ (τ2 : w_M), q_Arrays_fill 43 0 τ1 τ2 → LPlan_countFitting_14 xs (d + 6) Q b b2 0 0 τ2)) : w_Call (xs, (d + 6)) 85 [.inr (.inr (6, 31)), .inr (.inr (2, b)), .inr (.inr (5, b2))] σ Q :=
  (w_mk (mid := 85) (by decide) rfl rfl rfl rfl rfl (Nat.le_of_ble_eq_true rfl) ⟨rfl, Or.inl (by decide)⟩ (wi_aload0 fPlan_countFitting_0 (wi_aload1 fPlan_countFitting_1 (wi_getf204 fPlan_countFitting_2 (wi_bipush fPlan_countFitting_3 (wi_isub fPlan_countFitting_4 h.1 (wi_call2 fPlan_countFitting_5 (Nat.le_of_ble_eq_true rfl) (k_Plan_startPicks h.2.1 (fun τ1 eτ1 => (wi_aload0 fPlan_countFitting_6 (wi_getf603 fPlan_countFitting_7 (wi_bipush fPlan_countFitting_8 (wi_call2 fPlan_countFitting_9 (Nat.le_of_ble_eq_true rfl) (k_Arrays_fill (fun τ2 eτ2 => (wi_bipush fPlan_countFitting_10 (wi_istore3 fPlan_countFitting_11 trivial (wi_bipush fPlan_countFitting_12 (wi_istore4 fPlan_countFitting_13 trivial (((h.2.2 τ1 eτ1) τ2 eτ2) _ (by exact trivial)))))))))))))))))))))
set_option maxRecDepth 20000 in
theorem bPlan_countFitting_14 {xs : List Int} {d : Nat} {Q : Option w_V → w_M → Prop} {r1 : Nat} {r2 : Nat} {v3 : Int} {v4 : Int} {σ : w_M}
    (h : (2401 ≤ v4 → Q (some (.inl v3)) σ) ∧ (v4 < 2401 → (p_Plan_isFitting r1 r2 σ ∧ (∀ (y1 : Int) (τ2 : w_M), q_Plan_isFitting r1 r2 σ y1 τ2 → ((y1 = 0 → (p_Plan_turnPicks (τ2 r1 5) τ2 ∧ (∀ (y3 : Int) (τ4 : w_M), q_Plan_turnPicks (τ2 r1 5) τ2 y3 τ4 → ((¬ y3 = 0 → (w_in (v4 + 1) ∧ LPlan_countFitting_14 xs (d + 6) Q r1 r2 v3 (v4 + 1) τ4)) ∧ (y3 = 0 → Q (some (.inl v3)) τ4))))) ∧ (¬ y1 = 0 → (w_in (v3 + 1) ∧ LPlan_countFitting_25 xs (d + 6) Q r1 r2 (v3 + 1) v4 0 τ2))))))) : LPlan_countFitting_14 xs (d + 6) Q r1 r2 v3 v4 σ :=
  fun l5 nl5 => (wi_iload4 fPlan_countFitting_14 (wi_bipush fPlan_countFitting_15 (wi_ic_ge fPlan_countFitting_16 (fun c7 => (wi_iload3 fPlan_countFitting_53 (wi_ret1 fPlan_countFitting_54 (h.1 c7)))) (fun c7 => (wi_aload0 fPlan_countFitting_17 (wi_aload1 fPlan_countFitting_18 (wi_aload2 fPlan_countFitting_19 (wi_call3 fPlan_countFitting_20 (Nat.le_of_ble_eq_true rfl) (k_Plan_isFitting (h.2 c7).1 (fun y1 τ2 eτ2 => (wi_if_eq fPlan_countFitting_21 (fun c6 => (wi_aload0 fPlan_countFitting_45 (wi_aload1 fPlan_countFitting_46 (wi_getf205 fPlan_countFitting_47 (wi_call2 fPlan_countFitting_48 (Nat.le_of_ble_eq_true rfl) (k_Plan_turnPicks (((h.2 c7).2 y1 τ2 eτ2).1 c6).1 (fun y3 τ4 eτ4 => (wi_if_ne fPlan_countFitting_49 (fun c5 => (wi_iinc4 fPlan_countFitting_51 trivial (((((h.2 c7).2 y1 τ2 eτ2).1 c6).2 y3 τ4 eτ4).1 c5).1 (wi_goto fPlan_countFitting_52 ((((((h.2 c7).2 y1 τ2 eτ2).1 c6).2 y3 τ4 eτ4).1 c5).2 _ nl5)))) (fun c5 => (wi_goto fPlan_countFitting_50 (wi_iload3 fPlan_countFitting_53 (wi_ret1 fPlan_countFitting_54 (((((h.2 c7).2 y1 τ2 eτ2).1 c6).2 y3 τ4 eτ4).2 c5))))))))))))) (fun c6 => (wi_iinc3 fPlan_countFitting_22 trivial (((h.2 c7).2 y1 τ2 eτ2).2 c6).1 (wi_bipush fPlan_countFitting_23 (wi_istore5 fPlan_countFitting_24 trivial (((h.2 c7).2 y1 τ2 eτ2).2 c6).2)))))))))))))))
set_option maxRecDepth 20000 in
theorem bPlan_countFitting_25 {xs : List Int} {d : Nat} {Q : Option w_V → w_M → Prop} {r1 : Nat} {r2 : Nat} {v3 : Int} {v4 : Int} {v5 : Int} {σ : w_M}
    (h : ((σ r1 5) ≤ v5 → (p_Plan_turnPicks (σ r1 5) σ ∧ (∀ (y1 : Int) (τ2 : w_M), q_Plan_turnPicks (σ r1 5) σ y1 τ2 → ((¬ y1 = 0 → (w_in (v4 + 1) ∧ LPlan_countFitting_14 xs (d + 6) Q r1 r2 v3 (v4 + 1) τ2)) ∧ (y1 = 0 → Q (some (.inl v3)) τ2))))) ∧ (v5 < (σ r1 5) → (0 ≤ v5 ∧ v5 < 4 ∧ (∀ (y4 : Int), y4 = v_Moon_withBit (σ 43 v5.toNat) (σ 41 v5.toNat) 1 → ∀ (τ5 : w_M), τ5 = w_up σ 43 v5.toNat y4 → (w_in (v5 + 1) ∧ LPlan_countFitting_25 xs (d + 6) Q r1 r2 v3 v4 (v5 + 1) τ5))))) : LPlan_countFitting_25 xs (d + 6) Q r1 r2 v3 v4 v5 σ :=
  (wi_iload5 fPlan_countFitting_25 (wi_aload1 fPlan_countFitting_26 (wi_getf205 fPlan_countFitting_27 (wi_ic_ge fPlan_countFitting_28 (fun c6 => (wi_aload0 fPlan_countFitting_45 (wi_aload1 fPlan_countFitting_46 (wi_getf205 fPlan_countFitting_47 (wi_call2 fPlan_countFitting_48 (Nat.le_of_ble_eq_true rfl) (k_Plan_turnPicks (h.1 c6).1 (fun y1 τ2 eτ2 => (wi_if_ne fPlan_countFitting_49 (fun c3 => (wi_iinc4 fPlan_countFitting_51 trivial (((h.1 c6).2 y1 τ2 eτ2).1 c3).1 (wi_goto fPlan_countFitting_52 ((((h.1 c6).2 y1 τ2 eτ2).1 c3).2 _ (by exact trivial))))) (fun c3 => (wi_goto fPlan_countFitting_50 (wi_iload3 fPlan_countFitting_53 (wi_ret1 fPlan_countFitting_54 (((h.1 c6).2 y1 τ2 eτ2).2 c3))))))))))))) (fun c6 => (wi_aload0 fPlan_countFitting_29 (wi_getf603 fPlan_countFitting_30 (wi_iload5 fPlan_countFitting_31 (wi_aload0 fPlan_countFitting_32 (wi_getf603 fPlan_countFitting_33 (wi_iload5 fPlan_countFitting_34 (wi_iald1004 fPlan_countFitting_35 (h.2 c6).1 (h.2 c6).2.1 (wi_aload0 fPlan_countFitting_36 (wi_getf601 fPlan_countFitting_37 (wi_iload5 fPlan_countFitting_38 (wi_iald1004 fPlan_countFitting_39 (h.2 c6).1 (h.2 c6).2.1 (wi_bipush fPlan_countFitting_40 (wi_call3 fPlan_countFitting_41 (Nat.le_of_ble_eq_true rfl) (k_Moon_withBit (wi_iast1004 fPlan_countFitting_42 (h.2 c6).1 (h.2 c6).2.1 (wi_iinc5 fPlan_countFitting_43 trivial (((h.2 c6).2.2 _ rfl) _ rfl).1 (wi_goto fPlan_countFitting_44 (((h.2 c6).2.2 _ rfl) _ rfl).2))))))))))))))))))))))
set_option maxHeartbeats 2000000 in
theorem k_Plan_countFitting {xs : List Int} {d : Nat} {Q : Option w_V → w_M → Prop} {b : Nat} {b2 : Nat} {σ : w_M} (hp : p_Plan_countFitting b b2 σ) (hQ : ∀ (x : Int) (σ' : w_M), q_Plan_countFitting b b2 σ x σ' → Q (some (.inl x)) σ') : w_Call (xs, d + 6) 85 [.inr (.inr (6, 31)), .inr (.inr (2, b)), .inr (.inr (5, b2))] σ Q := by
  obtain ⟨⟨⟨hok, hb⟩, hb2⟩, hpa⟩ := hp
  have hs := n_ok.s hok
  have hn := n_ok.n hok
  have hs1 := n_s_pos hok
  have en : n_n (w_ab σ b) = (σ b 5).toNat := rfl
  have es : n_s (w_ab σ b) = (σ b 4).toNat := rfl
  unfold q_Plan_countFitting ft_r at hQ
  have fab : ∀ τ : w_M, w_fr σ τ 32 63 → w_ab τ b = w_ab σ b ∧ c_ab τ b2 = c_ab σ b2 ∧ τ b = σ b := fun τ F => ⟨w_ab_fr (fun d hd => F _ (by omega)), c_ab_fr (fun d hd => F _ (by omega)), F b (by omega)⟩
  have hW : n_WF (w_ab σ b) := hok
  generalize hA : w_ab σ b = A at *
  generalize hC : c_ab σ b2 = C at *
  have hB7 : n_s A ≤ 7 := by omega
  have hn4 : n_n A ≤ 4 := by omega
  have p7 := pow7 hB7 hn4
  refine bPlan_countFitting_0 ⟨⟨by omega, by omega⟩, trivial, fun τ1 hq1 τ2 hq2 => ?_⟩
  obtain ⟨s1, s2⟩ := hq1
  unfold q_Arrays_fill at hq2
  have F2 : w_fr σ τ2 32 63 := fun c hc => by rw [hq2, f_fill_ne (by omega), s2 c (by omega) (by omega)]
  refine (w_loop (n := n_s A ^ n_n A) (P := fun k => k < n_s A ^ n_n A → ∀ τ : w_M, w_fr σ τ 32 63 → pk_at τ (n_s A) (n_n A) k → (∀ r, r < n_n A → τ 43 r = ft_m A C r k) → LPlan_countFitting_14 xs (d + 6) Q b b2 (ft_n A C k) (k : Int) τ) ?_ ?_) ?_ τ2 F2 ?_ ?_
  · intro h; omega
  · intro k hk ih _ τ F hpk hch
    obtain ⟨f1, f2, f3⟩ := fab τ F
    have hfn := ft_n_le (A := A) (C := C) k
    -- the turning of the picks
    have turn : ∀ (τ' : w_M) (v : Int), w_fr σ τ' 32 63 → pk_at τ' (n_s A) (n_n A) k → (∀ r, r < n_n A → τ' 43 r = ft_m A C r (k + 1)) → v = ft_n A C (k + 1) → (p_Plan_turnPicks (τ' b 5) τ' ∧ (∀ (y3 : Int) (τ4 : w_M), q_Plan_turnPicks (τ' b 5) τ' y3 τ4 → ((¬ y3 = 0 → (w_in ((k : Int) + 1) ∧ LPlan_countFitting_14 xs (d + 6) Q b b2 v ((k : Int) + 1) τ4)) ∧ (y3 = 0 → Q (some (.inl v)) τ4)))) := fun τ' v F' hp' hc' ev => by
      obtain ⟨-, -, g3⟩ := fab τ' F'
      rw [g3]
      refine ⟨⟨hn, n_s A, k, by omega, by omega, by rw [← en]; exact hk, by rw [← en]; exact hp'⟩, fun y3 τ4 hq => ?_⟩
      obtain ⟨q1, q2⟩ := hq
      have F4 : w_fr σ τ4 32 63 := fun c hc => by rw [q1 c (by omega), F' c hc]
      have c4 : ∀ r, r < n_n A → τ4 43 r = ft_m A C r (k + 1) := fun r hr => by rw [q1 43 (by decide)]; exact hc' r hr
      have q2' := q2 (n_s A) k (by omega) (by omega) (by rw [← en]; exact hk) (by rw [← en]; exact hp')
      rw [← en] at q2'
      refine ⟨fun c => ⟨⟨by omega, by omega⟩, ?_⟩, fun c => ?_⟩
      · rcases q2' with ⟨a1, a2, a3⟩ | ⟨a1, a2⟩
        · rw [ev, ← w_cs1]
          exact ih a2 τ4 F4 a3 c4
        · exact absurd a1 c
      · rcases q2' with ⟨a1, a2, a3⟩ | ⟨a1, a2⟩
        · omega
        · refine hQ _ _ ⟨by rw [ev, a2], fun r hr => by rw [c4 r hr, a2], F4.wide (by decide) (by decide)⟩
    refine bPlan_countFitting_14 ⟨fun h => by omega, fun _ => ⟨⟨⟨⟨n_ok.of f1 hW, Or.inr hb⟩, hb2⟩, by rw [f1, f2]; exact hpa, k, fun r hr => by rw [f1] at hr ⊢; exact (hpk r hr).1⟩, fun y1 τ3 hq3 => ?_⟩⟩
    obtain ⟨o1, o2, o3⟩ := hq3
    rw [f1, f2] at o2
    have o2' := o2 k (fun r hr => (hpk r hr).1)
    have F3 : w_fr σ τ3 32 63 := F.tr (o3.wide (by decide) (by decide))
    have pk3 : pk_at τ3 (n_s A) (n_n A) k := fun r hr => by rw [o3 41 (by omega), o3 42 (by omega)]; exact hpk r hr
    have ch3 : ∀ r, r < n_n A → τ3 43 r = ft_m A C r k := fun r hr => by rw [o3 43 (by omega)]; exact hch r hr
    refine ⟨fun c => ?_, fun c => ⟨⟨by omega, by omega⟩, ?_⟩⟩
    · have nok : ¬ ft_ok A C k := fun h => by have := o2'.mpr h; omega
      exact turn τ3 _ F3 pk3 (fun r hr => by rw [ft_m_f nok]; exact ch3 r hr) (ft_n_f nok).symm
    · have yok : ft_ok A C k := o2'.mp (o1.resolve_left c)
      refine (w_loop (n := n_n A) (P := fun r => ∀ τ : w_M, w_fr σ τ 32 63 → pk_at τ (n_s A) (n_n A) k → (∀ q, q < r → τ 43 q = ft_m A C q (k + 1)) → (∀ q, r ≤ q → q < n_n A → τ 43 q = ft_m A C q k) → LPlan_countFitting_25 xs (d + 6) Q b b2 (ft_n A C k + 1) (k : Int) (r : Int) τ) ?_ ?_) τ3 F3 pk3 (fun q hq => by omega) (fun q _ hq => ch3 q hq)
      · intro τ5 F5 p5 h1 h2
        obtain ⟨-, -, g3⟩ := fab τ5 F5
        exact bPlan_countFitting_25 ⟨fun _ => turn τ5 _ F5 p5 h1 (ft_n_t yok).symm, fun h => by rw [g3] at h; omega⟩
      · intro r hr ih2 τ5 F5 p5 h1 h2
        obtain ⟨-, -, g3⟩ := fab τ5 F5
        refine bPlan_countFitting_25 ⟨fun h => by rw [g3] at h; omega, fun _ => ⟨by omega, by omega, fun y4 e4 τ6 t6 => ⟨⟨by omega, by omega⟩, ?_⟩⟩⟩
        rw [Int.toNat_natCast] at e4 t6
        have e4' : y4 = ft_m A C r (k + 1) := by
          rw [e4, ft_m_t yok, h2 r (Nat.le_refl _) hr, (p5 r hr).1]
          rfl
        rw [← w_cs1]
        refine ih2 τ6 (by rw [t6]; exact F5.up (by decide) (by decide)) (fun q hq => by rw [t6, w_up_ne (by decide), w_up_ne (by decide)]; exact p5 q hq) (fun q hq => ?_) (fun q hq1 hq2 => ?_)
        · rw [t6]
          by_cases e : q = r
          · rw [e, w_up_at]; exact e4'
          · rw [w_up_j e]; exact h1 q (by omega)
        · rw [t6, w_up_j (by omega)]; exact h2 q (by omega) hq2
  · by_cases h : n_n A = 0
    · rw [h]; simp
    · exact Nat.pow_pos (by omega)
  · refine pk_start hn4 (fun r hr => ?_)
    rw [hq2, f_fill_ne (by decide), f_fill_ne (by decide)]
    refine ⟨(s1 r hr).1, ?_⟩
    rw [(s1 r hr).2]
    omega
  · intro r hr
    rw [hq2, f_fill_at (by omega)]
    rfl
noncomputable def p_Moon_fits (_x1 : Int) (σ : w_M) : Prop := CI σ
noncomputable def q_Moon_fits (x1 : Int) (σ : w_M) (x : Int) (σ' : w_M) : Prop := c_q (F_fits (cS σ) x1) (cS σ) σ x σ'
theorem fMoon_fits_0 : w_fe am_c144 0 1 (.iload 1) := ⟨rfl, rfl⟩
theorem fMoon_fits_1 : w_if am_c144 1 2 .eq 8 := ⟨rfl, rfl⟩
theorem fMoon_fits_2 : w_fe am_c144 2 3 (.aload 0) := ⟨rfl, rfl⟩
theorem fMoon_fits_3 : w_fe am_c144 3 4 (.iload 1) := ⟨rfl, rfl⟩
theorem fMoon_fits_4 : w_fe am_c144 4 5 (.invokestatic 130) := ⟨rfl, rfl⟩
theorem fMoon_fits_5 : w_if am_c144 5 6 .ne 8 := ⟨rfl, rfl⟩
theorem fMoon_fits_6 : w_fe am_c144 6 7 (.bipush (-1)) := ⟨rfl, rfl⟩
theorem fMoon_fits_7 : w_fe am_c144 7 8 (.ireturn) := ⟨rfl, rfl⟩
theorem fMoon_fits_8 : w_fe am_c144 8 9 (.aload 0) := ⟨rfl, rfl⟩
theorem fMoon_fits_9 : w_fe am_c144 9 10 (.getfield 4) := ⟨rfl, rfl⟩
theorem fMoon_fits_10 : w_fe am_c144 10 11 (.aload 0) := ⟨rfl, rfl⟩
theorem fMoon_fits_11 : w_fe am_c144 11 12 (.getfield 2) := ⟨rfl, rfl⟩
theorem fMoon_fits_12 : w_fe am_c144 12 13 (.aload 0) := ⟨rfl, rfl⟩
theorem fMoon_fits_13 : w_fe am_c144 13 14 (.getfield 1) := ⟨rfl, rfl⟩
theorem fMoon_fits_14 : w_fe am_c144 14 15 (.getfield 302) := ⟨rfl, rfl⟩
theorem fMoon_fits_15 : w_fe am_c144 15 16 (.invokestatic 85) := ⟨rfl, rfl⟩
theorem fMoon_fits_16 : w_fe am_c144 16 17 (.istore 2) := ⟨rfl, rfl⟩
theorem fMoon_fits_17 : w_fe am_c144 17 18 (.iload 1) := ⟨rfl, rfl⟩
theorem fMoon_fits_18 : w_if am_c144 18 19 .ne 21 := ⟨rfl, rfl⟩
theorem fMoon_fits_19 : w_fe am_c144 19 20 (.iload 2) := ⟨rfl, rfl⟩
theorem fMoon_fits_20 : w_gt am_c144 20 27 := rfl
theorem fMoon_fits_21 : w_fe am_c144 21 22 (.aload 0) := ⟨rfl, rfl⟩
theorem fMoon_fits_22 : w_fe am_c144 22 23 (.getfield 4) := ⟨rfl, rfl⟩
theorem fMoon_fits_23 : w_fe am_c144 23 24 (.iload 1) := ⟨rfl, rfl⟩
theorem fMoon_fits_24 : w_fe am_c144 24 25 (.bipush 10) := ⟨rfl, rfl⟩
theorem fMoon_fits_25 : w_fe am_c144 25 26 (.isub) := ⟨rfl, rfl⟩
theorem fMoon_fits_26 : w_fe am_c144 26 27 (.invokestatic 73) := ⟨rfl, rfl⟩
theorem fMoon_fits_27 : w_fe am_c144 27 28 (.ireturn) := ⟨rfl, rfl⟩
set_option maxRecDepth 20000 in
theorem bMoon_fits_0 {xs : List Int} {d : Nat} {Q : Option w_V → w_M → Prop} {x1 : Int} {σ : w_M}
    (h : (x1 = 0 → (p_Plan_countFitting 14 27 σ ∧ (∀ (y1 : Int) (τ2 : w_M), q_Plan_countFitting 14 27 σ y1 τ2 → Q (some (.inl y1)) τ2))) ∧ (¬ x1 = 0 → (((10 ≤ x1 ∧ x1 - 10 < σ 14 5) → (p_Plan_countFitting 14 27 σ ∧ (∀ (y3 : Int) (τ4 : w_M), q_Plan_countFitting 14 27 σ y3 τ4 → (w_in (x1 - 10) ∧ p_Plan_chosenOf (x1 - 10) τ4 ∧ (∀ (y5 : Int), y5 = v_Plan_chosenOf (x1 - 10) τ4 → Q (some (.inl y5)) τ4))))) ∧ (¬ (10 ≤ x1 ∧ x1 - 10 < σ 14 5) → Q (some (.inl (-1))) σ)))) : w_Call (xs, (d + 7)) 144 [.inr (.inr (0, 0)), .inl x1] σ Q :=
  (w_mk (mid := 144) (by decide) rfl rfl rfl rfl rfl (Nat.le_of_ble_eq_true rfl) ⟨rfl, Or.inl (by decide)⟩ (wi_iload1 fMoon_fits_0 (wi_if_eq fMoon_fits_1 (fun c7 => (wi_aload0 fMoon_fits_8 (wi_getf4 fMoon_fits_9 (wi_aload0 fMoon_fits_10 (wi_getf2 fMoon_fits_11 (wi_aload0 fMoon_fits_12 (wi_getf1 fMoon_fits_13 (wi_getf302 fMoon_fits_14 (wi_call3 fMoon_fits_15 (Nat.le_of_ble_eq_true rfl) (k_Plan_countFitting (h.1 c7).1 (fun y1 τ2 eτ2 => (wi_istore2 fMoon_fits_16 trivial (wi_iload1 fMoon_fits_17 (wi_if_ne fMoon_fits_18 (fun e => absurd c7 (w_m_ne e)) (fun _ => (wi_iload2 fMoon_fits_19 (wi_goto fMoon_fits_20 (wi_ret1 fMoon_fits_27 ((h.1 c7).2 y1 τ2 eτ2))))))))))))))))))) (fun c7 => (wi_aload0 fMoon_fits_2 (wi_iload1 fMoon_fits_3 (wi_call2 fMoon_fits_4 (Nat.le_of_ble_eq_true rfl) (k_Moon_asksOfReaper (wi_ifb_ne fMoon_fits_5 (fun c6 => (wi_aload0 fMoon_fits_8 (wi_getf4 fMoon_fits_9 (wi_aload0 fMoon_fits_10 (wi_getf2 fMoon_fits_11 (wi_aload0 fMoon_fits_12 (wi_getf1 fMoon_fits_13 (wi_getf302 fMoon_fits_14 (wi_call3 fMoon_fits_15 (Nat.le_of_ble_eq_true rfl) (k_Plan_countFitting ((h.2 c7).1 c6).1 (fun y3 τ4 eτ4 => (wi_istore2 fMoon_fits_16 trivial (wi_iload1 fMoon_fits_17 (wi_if_ne fMoon_fits_18 (fun _ => (wi_aload0 fMoon_fits_21 (wi_getf4 fMoon_fits_22 (wi_iload1 fMoon_fits_23 (wi_bipush fMoon_fits_24 (wi_isub fMoon_fits_25 (((h.2 c7).1 c6).2 y3 τ4 eτ4).1 (wi_call2 fMoon_fits_26 (Nat.le_of_ble_eq_true rfl) (k_Plan_chosenOf (((h.2 c7).1 c6).2 y3 τ4 eτ4).2.1 (wi_ret1 fMoon_fits_27 ((((h.2 c7).1 c6).2 y3 τ4 eτ4).2.2 _ rfl)))))))))) (fun e => absurd c7 (w_n_ne e)))))))))))))))) (fun c6 => (wi_bipush fMoon_fits_6 (wi_ret1 fMoon_fits_7 ((h.2 c7).2 c6)))))))))))))
theorem k_Moon_fits {xs : List Int} {d : Nat} {Q : Option w_V → w_M → Prop} {x1 : Int} {σ : w_M} (hp : p_Moon_fits x1 σ) (hQ : ∀ (x : Int) (σ' : w_M), q_Moon_fits x1 σ x σ' → Q (some (.inl x)) σ') : w_Call (xs, d + 7) 144 [.inr (.inr (0, 0)), .inl x1] σ Q := by
  have hC : CI σ := hp
  have hok := hC.ok
  have hn := n_ok.n hok
  unfold q_Moon_fits F_fits at hQ
  have e5 : cS σ 0 0 5 = σ 14 5 := rfl
  have eA : cS σ 0 = w_ab σ 14 := rfl
  have eC : cS σ 2 = c_ab σ 27 := rfl
  rw [e5, eA, eC] at hQ
  have pre : p_Plan_countFitting 14 27 σ := ⟨⟨⟨hok, by decide⟩, by decide⟩, hC.1.2.2.1⟩
  refine bMoon_fits_0 ⟨fun c => ⟨pre, fun y τ hq => ?_⟩, fun c => ⟨fun c2 => ⟨pre, fun y τ hq => ⟨⟨by omega, by omega⟩, ⟨by omega, by omega⟩, fun y5 e5' => ?_⟩⟩, fun c2 => ?_⟩⟩
  · rw [if_pos c] at hQ
    exact hQ _ _ (c_qs hC hq.2.2 hq.1)
  · rw [if_neg c, if_pos c2] at hQ
    refine hQ _ _ (c_qs hC hq.2.2 ?_)
    rw [e5']
    exact hq.2.1 _ (by show (x1 - 10).toNat < (σ 14 5).toNat; omega)
  · rw [if_neg c, if_neg c2] at hQ
    exact hQ _ _ (c_qr hC rfl)
theorem w_wr10 {x n : Int} (hx : w_in x) (hn : 0 ≤ n ∧ n ≤ 4) : (0 ≤ w_wr (x - 10) ∧ w_wr (x - 10) < n) ↔ (10 ≤ x ∧ x - 10 < n) := by
  obtain ⟨h1, h2⟩ := hx
  by_cases h : -2147483648 ≤ x - 10
  · rw [w_wr_of ⟨h, by omega⟩]
    omega
  · have : w_wr (x - 10) = x - 10 + 4294967296 := by
      unfold w_wr
      rw [Int.bmod_def]
      have : (x - 10) % ((4294967296 : Nat) : Int) = x - 10 + 4294967296 := by omega
      rw [this, if_pos (by omega)]
    rw [this]
    omega
noncomputable def p_Model_fits (_x1 : Int) (σ : w_M) : Prop := MI σ
noncomputable def q_Model_fits (x1 : Int) (σ : w_M) (x : Int) (σ' : w_M) : Prop := m_q (F_fits (mS σ) x1) (mS σ) σ x σ'
noncomputable def w_c228 : List Instr := [.iload 1, .ifCond .eq 10, .aload 0, .iload 1, .bipush 10, .fsub, .invokestatic 181, .ifCond .ne 10, .bipush (-1), .ireturn, .bipush 0, .istore 2, .bipush 0, .istore 3, .bipush 0, .istore 4, .iload 4, .aload 0, .aload 0, .getfield 904, .invokestatic 207, .if_icmp .ge 95, .aload 0, .iload 4, .invokestatic 208, .aload 0, .bipush 12, .invokestatic 194, .bipush 1, .istore 5, .bipush 0, .istore 6, .iload 6, .aload 0, .getfield 900, .bipush 73, .iaload, .if_icmp .ge 68, .iload 5, .ifCond .eq 64, .aload 0, .aload 0, .getfield 900, .bipush 74, .bipush 2, .iload 6, .imul, .iadd, .iaload, .bipush 4, .invokestatic 178, .aload 0, .getfield 900, .bipush 74, .bipush 2, .iload 6, .imul, .iadd, .bipush 1, .iadd, .iaload, .if_icmp .ne 64, .bipush 1, .goto 65, .bipush 0, .istore 5, .iinc 6 1, .goto 32, .iload 2, .iload 5, .invokestatic 179, .iadd, .istore 2, .iload 3, .iload 5, .ifCond .eq 90, .iload 1, .bipush 10, .if_icmp .lt 90, .bipush 1, .aload 0, .iload 4, .iload 1, .bipush 10, .isub, .aload 0, .getfield 904, .invokestatic 209, .ishl, .goto 91, .bipush 0, .ior, .istore 3, .iinc 4 1, .goto 16, .iload 1, .ifCond .ne 99, .iload 2, .goto 100, .iload 3, .ireturn]
theorem fModel_fits_0 : w_fe w_c228 0 1 (.iload 1) := ⟨rfl, rfl⟩
theorem fModel_fits_1 : w_if w_c228 1 2 .eq 10 := ⟨rfl, rfl⟩
theorem fModel_fits_2 : w_fe w_c228 2 3 (.aload 0) := ⟨rfl, rfl⟩
theorem fModel_fits_3 : w_fe w_c228 3 4 (.iload 1) := ⟨rfl, rfl⟩
theorem fModel_fits_4 : w_fe w_c228 4 5 (.bipush 10) := ⟨rfl, rfl⟩
theorem fModel_fits_5 : w_fe w_c228 5 6 (.fsub) := ⟨rfl, rfl⟩
theorem fModel_fits_6 : w_fe w_c228 6 7 (.invokestatic 181) := ⟨rfl, rfl⟩
theorem fModel_fits_7 : w_if w_c228 7 8 .ne 10 := ⟨rfl, rfl⟩
theorem fModel_fits_8 : w_fe w_c228 8 9 (.bipush (-1)) := ⟨rfl, rfl⟩
theorem fModel_fits_9 : w_fe w_c228 9 10 (.ireturn) := ⟨rfl, rfl⟩
theorem fModel_fits_10 : w_fe w_c228 10 11 (.bipush 0) := ⟨rfl, rfl⟩
theorem fModel_fits_11 : w_fe w_c228 11 12 (.istore 2) := ⟨rfl, rfl⟩
theorem fModel_fits_12 : w_fe w_c228 12 13 (.bipush 0) := ⟨rfl, rfl⟩
theorem fModel_fits_13 : w_fe w_c228 13 14 (.istore 3) := ⟨rfl, rfl⟩
theorem fModel_fits_14 : w_fe w_c228 14 15 (.bipush 0) := ⟨rfl, rfl⟩
theorem fModel_fits_15 : w_fe w_c228 15 16 (.istore 4) := ⟨rfl, rfl⟩
theorem fModel_fits_16 : w_fe w_c228 16 17 (.iload 4) := ⟨rfl, rfl⟩
theorem fModel_fits_17 : w_fe w_c228 17 18 (.aload 0) := ⟨rfl, rfl⟩
theorem fModel_fits_18 : w_fe w_c228 18 19 (.aload 0) := ⟨rfl, rfl⟩
theorem fModel_fits_19 : w_fe w_c228 19 20 (.getfield 904) := ⟨rfl, rfl⟩
theorem fModel_fits_20 : w_fe w_c228 20 21 (.invokestatic 207) := ⟨rfl, rfl⟩
theorem fModel_fits_21 : w_ic w_c228 21 22 .ge 95 := ⟨rfl, rfl⟩
theorem fModel_fits_22 : w_fe w_c228 22 23 (.aload 0) := ⟨rfl, rfl⟩
theorem fModel_fits_23 : w_fe w_c228 23 24 (.iload 4) := ⟨rfl, rfl⟩
theorem fModel_fits_24 : w_fe w_c228 24 25 (.invokestatic 208) := ⟨rfl, rfl⟩
theorem fModel_fits_25 : w_fe w_c228 25 26 (.aload 0) := ⟨rfl, rfl⟩
theorem fModel_fits_26 : w_fe w_c228 26 27 (.bipush 12) := ⟨rfl, rfl⟩
theorem fModel_fits_27 : w_fe w_c228 27 28 (.invokestatic 194) := ⟨rfl, rfl⟩
theorem fModel_fits_28 : w_fe w_c228 28 29 (.bipush 1) := ⟨rfl, rfl⟩
theorem fModel_fits_29 : w_fe w_c228 29 30 (.istore 5) := ⟨rfl, rfl⟩
theorem fModel_fits_30 : w_fe w_c228 30 31 (.bipush 0) := ⟨rfl, rfl⟩
theorem fModel_fits_31 : w_fe w_c228 31 32 (.istore 6) := ⟨rfl, rfl⟩
theorem fModel_fits_32 : w_fe w_c228 32 33 (.iload 6) := ⟨rfl, rfl⟩
theorem fModel_fits_33 : w_fe w_c228 33 34 (.aload 0) := ⟨rfl, rfl⟩
theorem fModel_fits_34 : w_fe w_c228 34 35 (.getfield 900) := ⟨rfl, rfl⟩
theorem fModel_fits_35 : w_fe w_c228 35 36 (.bipush 73) := ⟨rfl, rfl⟩
theorem fModel_fits_36 : w_fe w_c228 36 37 (.iaload) := ⟨rfl, rfl⟩
theorem fModel_fits_37 : w_ic w_c228 37 38 .ge 68 := ⟨rfl, rfl⟩
theorem fModel_fits_38 : w_fe w_c228 38 39 (.iload 5) := ⟨rfl, rfl⟩
theorem fModel_fits_39 : w_if w_c228 39 40 .eq 64 := ⟨rfl, rfl⟩
theorem fModel_fits_40 : w_fe w_c228 40 41 (.aload 0) := ⟨rfl, rfl⟩
theorem fModel_fits_41 : w_fe w_c228 41 42 (.aload 0) := ⟨rfl, rfl⟩
theorem fModel_fits_42 : w_fe w_c228 42 43 (.getfield 900) := ⟨rfl, rfl⟩
theorem fModel_fits_43 : w_fe w_c228 43 44 (.bipush 74) := ⟨rfl, rfl⟩
theorem fModel_fits_44 : w_fe w_c228 44 45 (.bipush 2) := ⟨rfl, rfl⟩
theorem fModel_fits_45 : w_fe w_c228 45 46 (.iload 6) := ⟨rfl, rfl⟩
theorem fModel_fits_46 : w_fe w_c228 46 47 (.imul) := ⟨rfl, rfl⟩
theorem fModel_fits_47 : w_fe w_c228 47 48 (.iadd) := ⟨rfl, rfl⟩
theorem fModel_fits_48 : w_fe w_c228 48 49 (.iaload) := ⟨rfl, rfl⟩
theorem fModel_fits_49 : w_fe w_c228 49 50 (.bipush 4) := ⟨rfl, rfl⟩
theorem fModel_fits_50 : w_fe w_c228 50 51 (.invokestatic 178) := ⟨rfl, rfl⟩
theorem fModel_fits_51 : w_fe w_c228 51 52 (.aload 0) := ⟨rfl, rfl⟩
theorem fModel_fits_52 : w_fe w_c228 52 53 (.getfield 900) := ⟨rfl, rfl⟩
theorem fModel_fits_53 : w_fe w_c228 53 54 (.bipush 74) := ⟨rfl, rfl⟩
theorem fModel_fits_54 : w_fe w_c228 54 55 (.bipush 2) := ⟨rfl, rfl⟩
theorem fModel_fits_55 : w_fe w_c228 55 56 (.iload 6) := ⟨rfl, rfl⟩
theorem fModel_fits_56 : w_fe w_c228 56 57 (.imul) := ⟨rfl, rfl⟩
theorem fModel_fits_57 : w_fe w_c228 57 58 (.iadd) := ⟨rfl, rfl⟩
theorem fModel_fits_58 : w_fe w_c228 58 59 (.bipush 1) := ⟨rfl, rfl⟩
theorem fModel_fits_59 : w_fe w_c228 59 60 (.iadd) := ⟨rfl, rfl⟩
theorem fModel_fits_60 : w_fe w_c228 60 61 (.iaload) := ⟨rfl, rfl⟩
theorem fModel_fits_61 : w_ic w_c228 61 62 .ne 64 := ⟨rfl, rfl⟩
theorem fModel_fits_62 : w_fe w_c228 62 63 (.bipush 1) := ⟨rfl, rfl⟩
theorem fModel_fits_63 : w_gt w_c228 63 65 := rfl
theorem fModel_fits_64 : w_fe w_c228 64 65 (.bipush 0) := ⟨rfl, rfl⟩
theorem fModel_fits_65 : w_fe w_c228 65 66 (.istore 5) := ⟨rfl, rfl⟩
theorem fModel_fits_66 : w_fe w_c228 66 67 (.iinc 6 1) := ⟨rfl, rfl⟩
theorem fModel_fits_67 : w_gt w_c228 67 32 := rfl
theorem fModel_fits_68 : w_fe w_c228 68 69 (.iload 2) := ⟨rfl, rfl⟩
theorem fModel_fits_69 : w_fe w_c228 69 70 (.iload 5) := ⟨rfl, rfl⟩
theorem fModel_fits_70 : w_fe w_c228 70 71 (.invokestatic 179) := ⟨rfl, rfl⟩
theorem fModel_fits_71 : w_fe w_c228 71 72 (.iadd) := ⟨rfl, rfl⟩
theorem fModel_fits_72 : w_fe w_c228 72 73 (.istore 2) := ⟨rfl, rfl⟩
theorem fModel_fits_73 : w_fe w_c228 73 74 (.iload 3) := ⟨rfl, rfl⟩
theorem fModel_fits_74 : w_fe w_c228 74 75 (.iload 5) := ⟨rfl, rfl⟩
theorem fModel_fits_75 : w_if w_c228 75 76 .eq 90 := ⟨rfl, rfl⟩
theorem fModel_fits_76 : w_fe w_c228 76 77 (.iload 1) := ⟨rfl, rfl⟩
theorem fModel_fits_77 : w_fe w_c228 77 78 (.bipush 10) := ⟨rfl, rfl⟩
theorem fModel_fits_78 : w_ic w_c228 78 79 .lt 90 := ⟨rfl, rfl⟩
theorem fModel_fits_79 : w_fe w_c228 79 80 (.bipush 1) := ⟨rfl, rfl⟩
theorem fModel_fits_80 : w_fe w_c228 80 81 (.aload 0) := ⟨rfl, rfl⟩
theorem fModel_fits_81 : w_fe w_c228 81 82 (.iload 4) := ⟨rfl, rfl⟩
theorem fModel_fits_82 : w_fe w_c228 82 83 (.iload 1) := ⟨rfl, rfl⟩
theorem fModel_fits_83 : w_fe w_c228 83 84 (.bipush 10) := ⟨rfl, rfl⟩
theorem fModel_fits_84 : w_fe w_c228 84 85 (.isub) := ⟨rfl, rfl⟩
theorem fModel_fits_85 : w_fe w_c228 85 86 (.aload 0) := ⟨rfl, rfl⟩
theorem fModel_fits_86 : w_fe w_c228 86 87 (.getfield 904) := ⟨rfl, rfl⟩
theorem fModel_fits_87 : w_fe w_c228 87 88 (.invokestatic 209) := ⟨rfl, rfl⟩
theorem fModel_fits_88 : w_fe w_c228 88 89 (.ishl) := ⟨rfl, rfl⟩
theorem fModel_fits_89 : w_gt w_c228 89 91 := rfl
theorem fModel_fits_90 : w_fe w_c228 90 91 (.bipush 0) := ⟨rfl, rfl⟩
theorem fModel_fits_91 : w_fe w_c228 91 92 (.ior) := ⟨rfl, rfl⟩
theorem fModel_fits_92 : w_fe w_c228 92 93 (.istore 3) := ⟨rfl, rfl⟩
theorem fModel_fits_93 : w_fe w_c228 93 94 (.iinc 4 1) := ⟨rfl, rfl⟩
theorem fModel_fits_94 : w_gt w_c228 94 16 := rfl
theorem fModel_fits_95 : w_fe w_c228 95 96 (.iload 1) := ⟨rfl, rfl⟩
theorem fModel_fits_96 : w_if w_c228 96 97 .ne 99 := ⟨rfl, rfl⟩
theorem fModel_fits_97 : w_fe w_c228 97 98 (.iload 2) := ⟨rfl, rfl⟩
theorem fModel_fits_98 : w_gt w_c228 98 100 := rfl
theorem fModel_fits_99 : w_fe w_c228 99 100 (.iload 3) := ⟨rfl, rfl⟩
theorem fModel_fits_100 : w_fe w_c228 100 101 (.ireturn) := ⟨rfl, rfl⟩
noncomputable def LModel_fits_16 (xs : List Int) (d : Nat) (Q : Option w_V → w_M → Prop) (v1 : Int) (v2 : Int) (v3 : Int) (v4 : Int) (σ : w_M) : Prop := ∀ l5, w_nl l5 → ∀ l6, w_nl l6 → w_Ex (xs, d) 1 w_c228 Q 16 [some (.inr (.inr (9, 122))), some (.inl v1), some (.inl v2), some (.inl v3), some (.inl v4), l5, l6] [] σ
noncomputable def LModel_fits_32 (xs : List Int) (d : Nat) (Q : Option w_V → w_M → Prop) (v1 : Int) (v2 : Int) (v3 : Int) (v4 : Int) (v5 : Int) (v6 : Int) (σ : w_M) : Prop := w_Ex (xs, d) 1 w_c228 Q 32 [some (.inr (.inr (9, 122))), some (.inl v1), some (.inl v2), some (.inl v3), some (.inl v4), some (.inl v5), some (.inl v6)] [] σ
set_option maxRecDepth 20000 in
theorem bModel_fits_0 {xs : List Int} {d : Nat} {Q : Option w_V → w_M → Prop} {x1 : Int} {σ : w_M}
    (h : (x1 = 0 → LModel_fits_16 xs (d + 6) Q x1 0 0 0 σ) ∧ (¬ x1 = 0 → (p_Model_isReaper (w_wr (x1 - 10)) σ ∧ (((0 ≤ (w_wr (x1 - 10)) ∧ (w_wr (x1 - 10)) < σ 122 5) → LModel_fits_16 xs (d + 6) Q x1 0 0 0 σ) ∧ (¬ (0 ≤ (w_wr (x1 - 10)) ∧ (w_wr (x1 - 10)) < σ 122 5) → Q (some (.inl (-1))) σ))))) : w_Call (xs, (d + 6)) 228 [.inr (.inr (9, 122)), .inl x1] σ Q :=
  (w_mk (mid := 228) (by decide) rfl rfl rfl rfl rfl (Nat.le_of_ble_eq_true rfl) ⟨rfl, Or.inl (by decide)⟩ (wi_iload1 fModel_fits_0 (wi_if_eq fModel_fits_1 (fun c2 => (wi_bipush fModel_fits_10 (wi_istore2 fModel_fits_11 trivial (wi_bipush fModel_fits_12 (wi_istore3 fModel_fits_13 trivial (wi_bipush fModel_fits_14 (wi_istore4 fModel_fits_15 trivial ((h.1 c2) _ (by exact trivial) _ (by exact trivial))))))))) (fun c2 => (wi_aload0 fModel_fits_2 (wi_iload1 fModel_fits_3 (wi_bipush fModel_fits_4 (wi_fsub fModel_fits_5 (wi_call2 fModel_fits_6 (Nat.le_of_ble_eq_true rfl) (k_Model_isReaper (h.2 c2).1 (wi_ifb_ne fModel_fits_7 (fun c1 => (wi_bipush fModel_fits_10 (wi_istore2 fModel_fits_11 trivial (wi_bipush fModel_fits_12 (wi_istore3 fModel_fits_13 trivial (wi_bipush fModel_fits_14 (wi_istore4 fModel_fits_15 trivial (((h.2 c2).2.1 c1) _ (by exact trivial) _ (by exact trivial))))))))) (fun c1 => (wi_bipush fModel_fits_8 (wi_ret1 fModel_fits_9 ((h.2 c2).2.2 c1)))))))))))))))
set_option maxRecDepth 20000 in
theorem bModel_fits_16 {xs : List Int} {d : Nat} {Q : Option w_V → w_M → Prop} {v1 : Int} {v2 : Int} {v3 : Int} {v4 : Int} {σ : w_M}
    (h : p_Model_rowsOf (σ 122 4) σ ∧ (∀ (y1 : Int), y1 = v_Model_rowsOf (σ 122 4) σ → ((y1 ≤ v4 → ((¬ v1 = 0 → Q (some (.inl v3)) σ) ∧ (v1 = 0 → Q (some (.inl v2)) σ))) ∧ (v4 < y1 → (p_Model_begins v4 σ ∧ (∀ (τ3 : w_M), q_Model_begins v4 σ τ3 → (p_Model_goesTo 12 τ3 ∧ (∀ (τ4 : w_M), q_Model_goesTo 12 τ3 τ4 → LModel_fits_32 xs (d + 6) Q v1 v2 v3 v4 1 0 τ4)))))))) : LModel_fits_16 xs (d + 6) Q v1 v2 v3 v4 σ :=
  fun l5 nl5 => fun l6 nl6 => (wi_iload4 fModel_fits_16 (wi_aload0 fModel_fits_17 (wi_aload0 fModel_fits_18 (wi_getf904 fModel_fits_19 (wi_call2 fModel_fits_20 (Nat.le_of_ble_eq_true rfl) (k_Model_rowsOf h.1 (wi_ic_ge fModel_fits_21 (fun c5 => (wi_iload1 fModel_fits_95 (wi_if_ne fModel_fits_96 (fun c2 => (wi_iload3 fModel_fits_99 (wi_ret1 fModel_fits_100 (((h.2 _ rfl).1 c5).1 c2)))) (fun c2 => (wi_iload2 fModel_fits_97 (wi_goto fModel_fits_98 (wi_ret1 fModel_fits_100 (((h.2 _ rfl).1 c5).2 c2)))))))) (fun c5 => (wi_aload0 fModel_fits_22 (wi_iload4 fModel_fits_23 (wi_call2 fModel_fits_24 (Nat.le_of_ble_eq_true rfl) (k_Model_begins ((h.2 _ rfl).2 c5).1 (fun τ3 eτ3 => (wi_aload0 fModel_fits_25 (wi_bipush fModel_fits_26 (wi_call2 fModel_fits_27 (Nat.le_of_ble_eq_true rfl) (k_Model_goesTo (((h.2 _ rfl).2 c5).2 τ3 eτ3).1 (fun τ4 eτ4 => (wi_bipush fModel_fits_28 (wi_istore5 fModel_fits_29 trivial (wi_bipush fModel_fits_30 (wi_istore6 fModel_fits_31 trivial ((((h.2 _ rfl).2 c5).2 τ3 eτ3).2 τ4 eτ4)))))))))))))))))))))))
set_option maxRecDepth 20000 in
theorem bModel_fits_32 {xs : List Int} {d : Nat} {Q : Option w_V → w_M → Prop} {v1 : Int} {v2 : Int} {v3 : Int} {v4 : Int} {v5 : Int} {v6 : Int} {σ : w_M}
    (h : ((σ 123 73) ≤ v6 → ∀ (y1 : Int), y1 = v_Model_flag v5 → (w_in (v2 + y1) ∧ (∀ (y2 : Int), y2 = (v2 + y1) → ((v5 = 0 → ∀ (y3 : Int), y3 = (w_or v3 0) → (w_in (v4 + 1) ∧ LModel_fits_16 xs (d + 6) Q v1 y2 y3 (v4 + 1) σ)) ∧ (¬ v5 = 0 → ((v1 < 10 → ∀ (y4 : Int), y4 = (w_or v3 0) → (w_in (v4 + 1) ∧ LModel_fits_16 xs (d + 6) Q v1 y2 y4 (v4 + 1) σ)) ∧ (10 ≤ v1 → (w_in (v1 - 10) ∧ p_Model_toldBy v4 (v1 - 10) (σ 122 4) σ ∧ (∀ (y5 : Int), y5 = v_Model_toldBy v4 (v1 - 10) (σ 122 4) σ → ∀ (y6 : Int), y6 = (w_or v3 (w_shl 1 y5)) → (w_in (v4 + 1) ∧ LModel_fits_16 xs (d + 6) Q v1 y2 y6 (v4 + 1) σ)))))))))) ∧ (v6 < (σ 123 73) → ((v5 = 0 → (w_in (v6 + 1) ∧ LModel_fits_32 xs (d + 6) Q v1 v2 v3 v4 0 (v6 + 1) σ)) ∧ (¬ v5 = 0 → (w_in (2 * v6) ∧ w_in (74 + (2 * v6)) ∧ 0 ≤ (74 + (2 * v6)) ∧ (74 + (2 * v6)) < 246 ∧ p_Model_of (σ 123 (74 + (2 * v6)).toNat) 4 σ ∧ w_in ((74 + (2 * v6)) + 1) ∧ 0 ≤ ((74 + (2 * v6)) + 1) ∧ ((74 + (2 * v6)) + 1) < 246 ∧ ((¬ (σ 124 (21 + 5 * (σ 123 (74 + (2 * v6)).toNat) + 4).toNat) = (σ 123 ((74 + (2 * v6)) + 1).toNat) → (w_in (v6 + 1) ∧ LModel_fits_32 xs (d + 6) Q v1 v2 v3 v4 0 (v6 + 1) σ)) ∧ ((σ 124 (21 + 5 * (σ 123 (74 + (2 * v6)).toNat) + 4).toNat) = (σ 123 ((74 + (2 * v6)) + 1).toNat) → (w_in (v6 + 1) ∧ LModel_fits_32 xs (d + 6) Q v1 v2 v3 v4 1 (v6 + 1) σ)))))))) : LModel_fits_32 xs (d + 6) Q v1 v2 v3 v4 v5 v6 σ :=
  (wi_iload6 fModel_fits_32 (wi_aload0 fModel_fits_33 (wi_getf900 fModel_fits_34 (wi_bipush fModel_fits_35 (wi_iald1246 fModel_fits_36 (by decide) (by decide) (wi_ic_ge fModel_fits_37 (fun c11 => (wi_iload2 fModel_fits_68 (wi_iload5 fModel_fits_69 (wi_call1 fModel_fits_70 (Nat.le_of_ble_eq_true rfl) (k_Model_flag (wi_iadd fModel_fits_71 ((h.1 c11) _ rfl).1 (wi_istore2 fModel_fits_72 trivial (wi_iload3 fModel_fits_73 (wi_iload5 fModel_fits_74 (wi_if_eq fModel_fits_75 (fun c8 => (wi_bipush fModel_fits_90 (wi_ior fModel_fits_91 (wi_istore3 fModel_fits_92 trivial (wi_iinc4 fModel_fits_93 trivial (((((h.1 c11) _ rfl).2 _ rfl).1 c8) _ rfl).1 (wi_goto fModel_fits_94 ((((((h.1 c11) _ rfl).2 _ rfl).1 c8) _ rfl).2 _ (by exact trivial) _ (by exact trivial)))))))) (fun c8 => (wi_iload1 fModel_fits_76 (wi_bipush fModel_fits_77 (wi_ic_lt fModel_fits_78 (fun c7 => (wi_bipush fModel_fits_90 (wi_ior fModel_fits_91 (wi_istore3 fModel_fits_92 trivial (wi_iinc4 fModel_fits_93 trivial ((((((h.1 c11) _ rfl).2 _ rfl).2 c8).1 c7) _ rfl).1 (wi_goto fModel_fits_94 (((((((h.1 c11) _ rfl).2 _ rfl).2 c8).1 c7) _ rfl).2 _ (by exact trivial) _ (by exact trivial)))))))) (fun c7 => (wi_bipush fModel_fits_79 (wi_aload0 fModel_fits_80 (wi_iload4 fModel_fits_81 (wi_iload1 fModel_fits_82 (wi_bipush fModel_fits_83 (wi_isub fModel_fits_84 (((((h.1 c11) _ rfl).2 _ rfl).2 c8).2 c7).1 (wi_aload0 fModel_fits_85 (wi_getf904 fModel_fits_86 (wi_call4 fModel_fits_87 (Nat.le_of_ble_eq_true rfl) (k_Model_toldBy (((((h.1 c11) _ rfl).2 _ rfl).2 c8).2 c7).2.1 (wi_ishl fModel_fits_88 (wi_goto fModel_fits_89 (wi_ior fModel_fits_91 (wi_istore3 fModel_fits_92 trivial (wi_iinc4 fModel_fits_93 trivial (((((((h.1 c11) _ rfl).2 _ rfl).2 c8).2 c7).2.2 _ rfl) _ rfl).1 (wi_goto fModel_fits_94 ((((((((h.1 c11) _ rfl).2 _ rfl).2 c8).2 c7).2.2 _ rfl) _ rfl).2 _ (by exact trivial) _ (by exact trivial))))))))))))))))))))))))))))))))) (fun c11 => (wi_iload5 fModel_fits_38 (wi_if_eq fModel_fits_39 (fun c10 => (wi_bipush fModel_fits_64 (wi_istore5 fModel_fits_65 trivial (wi_iinc6 fModel_fits_66 trivial ((h.2 c11).1 c10).1 (wi_goto fModel_fits_67 ((h.2 c11).1 c10).2))))) (fun c10 => (wi_aload0 fModel_fits_40 (wi_aload0 fModel_fits_41 (wi_getf900 fModel_fits_42 (wi_bipush fModel_fits_43 (wi_bipush fModel_fits_44 (wi_iload6 fModel_fits_45 (wi_imul fModel_fits_46 ((h.2 c11).2 c10).1 (wi_iadd fModel_fits_47 ((h.2 c11).2 c10).2.1 (wi_iald1246 fModel_fits_48 ((h.2 c11).2 c10).2.2.1 ((h.2 c11).2 c10).2.2.2.1 (wi_bipush fModel_fits_49 (wi_call3 fModel_fits_50 (Nat.le_of_ble_eq_true rfl) (k_Model_of ((h.2 c11).2 c10).2.2.2.2.1 (wi_aload0 fModel_fits_51 (wi_getf900 fModel_fits_52 (wi_bipush fModel_fits_53 (wi_bipush fModel_fits_54 (wi_iload6 fModel_fits_55 (wi_imul fModel_fits_56 ((h.2 c11).2 c10).1 (wi_iadd fModel_fits_57 ((h.2 c11).2 c10).2.1 (wi_bipush fModel_fits_58 (wi_iadd fModel_fits_59 ((h.2 c11).2 c10).2.2.2.2.2.1 (wi_iald1246 fModel_fits_60 ((h.2 c11).2 c10).2.2.2.2.2.2.1 ((h.2 c11).2 c10).2.2.2.2.2.2.2.1 (wi_ic_ne fModel_fits_61 (fun c9 => (wi_bipush fModel_fits_64 (wi_istore5 fModel_fits_65 trivial (wi_iinc6 fModel_fits_66 trivial (((h.2 c11).2 c10).2.2.2.2.2.2.2.2.1 c9).1 (wi_goto fModel_fits_67 (((h.2 c11).2 c10).2.2.2.2.2.2.2.2.1 c9).2))))) (fun c9 => (wi_bipush fModel_fits_62 (wi_goto fModel_fits_63 (wi_istore5 fModel_fits_65 trivial (wi_iinc6 fModel_fits_66 trivial (((h.2 c11).2 c10).2.2.2.2.2.2.2.2.2 c9).1 (wi_goto fModel_fits_67 (((h.2 c11).2 c10).2.2.2.2.2.2.2.2.2 c9).2)))))))))))))))))))))))))))))))))))))))
set_option maxHeartbeats 2000000 in
theorem k_Model_fits {xs : List Int} {d : Nat} {Q : Option w_V → w_M → Prop} {x1 : Int} {σ : w_M} (hp : p_Model_fits x1 σ) (hQ : ∀ (x : Int) (σ' : w_M), q_Model_fits x1 σ x σ' → Q (some (.inl x)) σ') : w_Call (xs, d + 6) 228 [.inr (.inr (9, 122)), .inl x1] σ Q := by
  refine w_Call_as (fun has => ?_)
  have hx : w_in x1 := has (.inl x1) (by simp)
  have hM : MI σ := hp
  have hok := hM.ok
  have hs := hM.s
  have hn := hM.n
  have hpa : paWF (w_am σ 123 0) (c_am σ 0) := hM.2.2.1
  have hs1 := n_s_pos hok
  unfold q_Model_fits F_fits ft_r at hQ
  have e5 : mS σ 0 0 5 = σ 122 5 := rfl
  have eA : mS σ 0 = w_am σ 123 0 := rfl
  have eC : mS σ 2 = c_am σ 0 := rfl
  rw [e5, eA, eC] at hQ
  have en : n_n (w_am σ 123 0) = (σ 122 5).toNat := rfl
  have es : n_s (w_am σ 123 0) = (σ 122 4).toNat := rfl
  have main : x1 = 0 ∨ (10 ≤ x1 ∧ x1 - 10 < σ 122 5) → LModel_fits_16 xs (d + 6) Q x1 0 0 0 σ := by
    intro hw
    have hW : n_WF (w_am σ 123 0) := hok
    generalize hA : w_am σ 123 0 = A at *
    generalize hCc : c_am σ 0 = C at *
    have hB7 : n_s A ≤ 7 := by omega
    have hn4 : n_n A ≤ 4 := by omega
    have p7 := pow7 hB7 hn4
    refine (w_loop (n := n_s A ^ n_n A) (P := fun k => ∀ (τ : w_M) (v3 : Int), w_f1 σ τ 124 → ((x1 = 0 ∧ v3 = 0) ∨ (10 ≤ x1 ∧ v3 = ft_m A C (x1 - 10).toNat k)) → LModel_fits_16 xs (d + 6) Q x1 (ft_n A C k) v3 (k : Int) τ) ?_ ?_) σ 0 w_f1.rfl' ?_
    · intro τ v3 F h3
      have z2 : τ 122 = σ 122 := F 122 (by decide)
      refine bModel_fits_16 ⟨⟨by rw [z2]; omega, by rw [z2]; exact hn⟩, fun y ey => ?_⟩
      unfold v_Model_rowsOf at ey
      rw [z2, ← es, ← en] at ey
      refine ⟨fun _ => ⟨fun c => ?_, fun c => ?_⟩, fun h => by omega⟩
      · rw [if_neg c, if_pos (by omega)] at hQ
        exact hQ _ _ (m_qs hM F (by omega))
      · rw [if_pos c] at hQ
        exact hQ _ _ (m_qs hM F rfl)
    · intro k hk ih τ v3 F h3
      have z2 : τ 122 = σ 122 := F 122 (by decide)
      have z3 : τ 123 = σ 123 := F 123 (by decide)
      have hfn := ft_n_le (A := A) (C := C) k
      have v3in : w_in v3 := by
        rcases h3 with ⟨-, h⟩ | ⟨-, h⟩
        · rw [h]; exact w_in0
        · rw [h]; exact ft_m_in k
      refine bModel_fits_16 ⟨⟨by rw [z2]; omega, by rw [z2]; exact hn⟩, fun y ey => ?_⟩
      unfold v_Model_rowsOf at ey
      rw [z2, ← es, ← en] at ey
      refine ⟨fun h => by omega, fun _ => ⟨⟨⟨by unfold m_sm; rw [z2]; exact hM.sm, by omega, by omega⟩, by rw [z2]; exact hs, by rw [z2]; exact hn, by rw [z2]; omega⟩, fun τ3 hq3 => ?_⟩⟩
      obtain ⟨a3, F3⟩ := hq3
      have eA2 : w_am τ 123 0 = A := by rw [← hA]; exact w_am_fr (by rw [z2]; exact ⟨rfl, rfl, rfl⟩) z3
      rw [eA2, Int.toNat_natCast] at a3
      have W3 : n_WF (n_row A k) := n_row_WF hW hs1 k
      refine ⟨⟨by unfold m_ok; rw [a3]; exact W3, by decide⟩, fun τ4 hq4 => ?_⟩
      obtain ⟨a4, F4⟩ := hq4
      rw [a3] at a4
      have F4' : w_f1 σ τ4 124 := (F.tr F3).tr F4.1
      have z42 : τ4 122 = σ 122 := F4' 122 (by decide)
      have z43 : τ4 123 = σ 123 := F4' 123 (by decide)
      have eC0 : C 0 0 = σ 123 73 := by rw [← hCc]; rfl
      have hc4 : 0 ≤ σ 123 73 ∧ σ 123 73 ≤ 4 := hM.pa
      have rd : ∀ q : Nat, q < (σ 123 73).toNat → C 1 q = σ 123 (74 + 2 * q) ∧ C 2 q = σ 123 (74 + 2 * q + 1) ∧ (0 ≤ C 1 q ∧ C 1 q < σ 122 5) := fun q hq => by
        have w := (hpa.2 q (by rw [eC0]; exact hq)).1
        refine ⟨?_, ?_, ?_⟩
        · rw [← hCc]; unfold c_am; rw [if_neg (by decide), if_pos (by decide), if_pos hq, show 0 + 74 + 2 * q + (1 - 1) = 74 + 2 * q by omega]
        · rw [← hCc]; unfold c_am; rw [if_neg (by decide), if_pos (by decide), if_pos hq]
        · have e5' : A 0 5 = σ 122 5 := by rw [← hA]; rfl
          rw [e5'] at w
          exact w
      refine (w_loop (n := (σ 123 73).toNat) (P := fun q => ∀ b : Int, (b = 1 ∧ (∀ p, p < q → (n_goes (n_row A k) 12) 7 (C 1 p).toNat = C 2 p)) ∨ (b = 0 ∧ ¬ (∀ p, p < q → (n_goes (n_row A k) 12) 7 (C 1 p).toNat = C 2 p)) → LModel_fits_32 xs (d + 6) Q x1 (ft_n A C k) v3 (k : Int) b (q : Int) τ4) ?_ ?_) 1 (Or.inl ⟨rfl, fun p hp => by omega⟩)
      · intro b hb
        have okI : (∀ p, p < (σ 123 73).toNat → (n_goes (n_row A k) 12) 7 (C 1 p).toNat = C 2 p) ↔ ft_ok A C k := by
          unfold ft_ok
          rw [eC0]
        rw [okI] at hb
        refine bModel_fits_32 ⟨fun _ => fun y1 e1 => ⟨?_, fun y2 e2 => ⟨fun c y3 e3 => ⟨⟨by omega, by omega⟩, ?_⟩, fun c => ⟨fun c2 y4 e4 => ⟨⟨by omega, by omega⟩, ?_⟩, fun c2 => ⟨⟨by omega, by omega⟩, ?_⟩⟩⟩⟩, fun h => by rw [z43] at h; omega⟩
        · have : y1 = 0 ∨ y1 = 1 := by rw [e1]; unfold v_Model_flag; split <;> simp
          exact ⟨by omega, by omega⟩
        · have nok : ¬ ft_ok A C k := by rcases hb with ⟨h, -⟩ | ⟨-, h⟩ <;> first | omega | exact h
          have y0 : y1 = 0 := by rw [e1]; unfold v_Model_flag; rw [if_pos c]
          have e2' : ft_n A C (k + 1) = y2 := by rw [ft_n_f nok]; omega
          rw [← e2', e3, w_or0 v3in, ← w_cs1]
          refine ih τ4 v3 F4' ?_
          rw [ft_m_f nok]
          exact h3
        · have yok : ft_ok A C k := by rcases hb with ⟨-, h⟩ | ⟨h, -⟩ <;> first | exact h | omega
          have y1' : y1 = 1 := by rw [e1]; unfold v_Model_flag; rw [if_neg c]
          have e2' : ft_n A C (k + 1) = y2 := by rw [ft_n_t yok]; omega
          rw [← e2', e4, w_or0 v3in, ← w_cs1]
          refine ih τ4 v3 F4' ?_
          rcases h3 with h | h
          · exact Or.inl h
          · omega
        · have yok : ft_ok A C k := by rcases hb with ⟨-, h⟩ | ⟨h, -⟩ <;> first | exact h | omega
          have y1' : y1 = 1 := by rw [e1]; unfold v_Model_flag; rw [if_neg c]
          have e2' : ft_n A C (k + 1) = y2 := by rw [ft_n_t yok]; omega
          refine ⟨⟨by omega, by rw [z42]; omega, by rw [z42]; omega, by rw [z42]; omega⟩, fun y5 e5' y6 e6 => ⟨⟨by omega, by omega⟩, ?_⟩⟩
          unfold v_Model_toldBy at e5'
          rw [z42, Int.toNat_natCast, ← es, ← en] at e5'
          rw [← e2', ← w_cs1]
          refine ih τ4 y6 F4' (Or.inr ⟨c2, ?_⟩)
          rcases h3 with h | h
          · omega
          · rw [ft_m_t yok, e6, h.2, e5']
      · intro q hq ih2 b hb
        obtain ⟨r1, r2, r3⟩ := rd q hq
        have no : ¬ (∀ p, p < q + 1 → (n_goes (n_row A k) 12) 7 (C 1 p).toNat = C 2 p) → LModel_fits_32 xs (d + 6) Q x1 (ft_n A C k) v3 (k : Int) 0 ((q : Int) + 1) τ4 := fun h => by
          rw [← w_cs1]
          exact ih2 0 (Or.inr ⟨rfl, h⟩)
        refine bModel_fits_32 ⟨fun h => by rw [z43] at h; omega, fun _ => ⟨fun c => ⟨⟨by omega, by omega⟩, no ?_⟩, fun c => ?_⟩⟩
        · rcases hb with ⟨h, -⟩ | ⟨-, h⟩
          · omega
          · exact fun z => h (fun p hp => z p (by omega))
        · have hall : ∀ p, p < q → (n_goes (n_row A k) 12) 7 (C 1 p).toNat = C 2 p := by rcases hb with ⟨-, h⟩ | ⟨h, -⟩ <;> first | exact h | omega
          have i1 : (74 + 2 * (q : Int)).toNat = 74 + 2 * q := by omega
          have i2 : (74 + 2 * (q : Int) + 1).toNat = 74 + 2 * q + 1 := by omega
          rw [i1, i2, z43, ← r1, ← r2]
          have ew : τ4 124 (21 + 5 * C 1 q + 4).toNat = (n_goes (n_row A k) 12) 7 (C 1 q).toNat := by
            rw [show (12 : Nat) = (12 : Int).toNat from rfl, ← a4]
            exact m_rdr (by decide) (by decide) (by rw [z42]; exact r3) (by show _ = 25 + 5 * (C 1 q).toNat; omega)
          rw [ew]
          refine ⟨⟨by omega, by omega⟩, ⟨by omega, by omega⟩, by omega, by omega, ⟨by omega, by decide⟩, ⟨by omega, by omega⟩, by omega, by omega, fun c2 => ⟨⟨by omega, by omega⟩, no (fun z => c2 (z q (by omega)))⟩, fun c2 => ⟨⟨by omega, by omega⟩, ?_⟩⟩
          rw [← w_cs1]
          refine ih2 1 (Or.inl ⟨rfl, fun p hp => ?_⟩)
          by_cases e : p = q
          · rw [e]; exact c2
          · exact hall p (by omega)
    · by_cases h : x1 = 0
      · exact Or.inl ⟨h, rfl⟩
      · exact Or.inr ⟨by omega, rfl⟩
  have hi := w_wr10 hx hn
  refine bModel_fits_0 ⟨fun c => main (Or.inl c), fun c => ⟨hn, fun c2 => main (Or.inr (hi.mp c2)), fun c2 => ?_⟩⟩
  rw [if_neg c, if_neg (fun q => c2 (hi.mpr q))] at hQ
  exact hQ _ _ (m_qr hM rfl)
