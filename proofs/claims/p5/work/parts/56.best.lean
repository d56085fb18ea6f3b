/-! Where one is to begin; how little oil one needs -/
theorem n_sd12 {A : w_M} (h : n_WF A) : n_sd (n_goes A 12) = n_sd (n_goes A (n_fin A)) := by
  obtain ⟨x, hx⟩ := n_goes12 h
  rw [hx, n_sd_up (by decide) (by decide)]
theorem n_WF6 {A : w_M} (h : n_WF A) {r : Nat} {i : Int} (hi : 0 ≤ i ∧ i < A 0 4) : n_WF (w_up A 6 r i) := by
  refine n_WF_up h ?_ ?_ ?_ ?_ ?_ ?_ ?_ ?_ <;> (intros; omega)
theorem n_WF4 {A : w_M} (h : n_WF A) {r : Nat} {v : Int} (hv : 0 ≤ v ∧ v ≤ 9) : n_WF (w_up A 4 r v) := by
  refine n_WF_up h ?_ ?_ ?_ ?_ ?_ ?_ ?_ ?_ <;> (intros; omega)
noncomputable def bs_f (A : w_M) (r i : Nat) : Int := n_sd (n_goes (w_up A 6 r (i : Int)) 12)
noncomputable def bs_F (f : Nat → Int) : Nat → Int × Int
  | 0 => (-4, 1000000)
  | k + 1 => if f k < (bs_F f k).2 then ((k : Int), f k) else bs_F f k
theorem bs_f_le {A : w_M} (h : n_WF A) {r i : Nat} (hi : i < n_s A) : 0 ≤ bs_f A r i ∧ bs_f A r i ≤ 280 := by
  have hs := h.s
  unfold n_s at hi
  exact n_sd_le (n_goes_all (n_WF6 h (by omega)) 12).1
theorem bs_F_1 {f : Nat → Int} : ∀ {k : Nat}, (∀ i, i < k → 0 ≤ f i ∧ f i ≤ 280) → 1 ≤ k → (0 ≤ (bs_F f k).1 ∧ (bs_F f k).1 < k) ∧ (0 ≤ (bs_F f k).2 ∧ (bs_F f k).2 ≤ 280) := by
  intro k
  induction k with
  | zero => intro _ h; omega
  | succ k ih =>
    intro hf _
    have hk := hf k (by omega)
    simp only [bs_F]
    by_cases h0 : k = 0
    · subst h0
      rw [if_pos (by show f 0 < 1000000; omega)]
      simp only []
      omega
    · have := ih (fun i hi => hf i (by omega)) (by omega)
      split
      · simp only []; omega
      · omega
noncomputable def F_best (S : w_S) (r w : Int) : Int := if (0 ≤ r ∧ r < S 0 0 5) ∧ (0 ≤ w ∧ w ≤ 1) then (if w = 0 then (bs_F (bs_f (S 0) r.toNat) (n_s (S 0))).1 else (bs_F (bs_f (S 0) r.toNat) (n_s (S 0))).2) else -1
noncomputable def p_Plan_fewestStanding (b : Nat) (r w : Int) (σ : w_M) : Prop := (n_ok σ b ∧ (32 + 9 ≤ b ∨ b + 9 ≤ 32)) ∧ (0 ≤ r ∧ r < σ b 5) ∧ (w = 0 ∨ w = 1)
noncomputable def q_Plan_fewestStanding (b : Nat) (r w : Int) (σ : w_M) (x : Int) (σ' : w_M) : Prop := x = (if w = 0 then (bs_F (bs_f (w_ab σ b) r.toNat) (n_s (w_ab σ b))).2 else (bs_F (bs_f (w_ab σ b) r.toNat) (n_s (w_ab σ b))).1) ∧ w_fr σ σ' 32 41
theorem fPlan_fewestStanding_0 : w_fe am_c74 0 1 (.bipush (-4)) := ⟨rfl, rfl⟩
theorem fPlan_fewestStanding_1 : w_fe am_c74 1 2 (.istore 4) := ⟨rfl, rfl⟩
theorem fPlan_fewestStanding_2 : w_fe am_c74 2 3 (.bipush 0) := ⟨rfl, rfl⟩
theorem fPlan_fewestStanding_3 : w_fe am_c74 3 4 (.istore 5) := ⟨rfl, rfl⟩
theorem fPlan_fewestStanding_4 : w_fe am_c74 4 5 (.bipush 0) := ⟨rfl, rfl⟩
theorem fPlan_fewestStanding_5 : w_fe am_c74 5 6 (.istore 6) := ⟨rfl, rfl⟩
theorem fPlan_fewestStanding_6 : w_fe am_c74 6 7 (.iload 6) := ⟨rfl, rfl⟩
theorem fPlan_fewestStanding_7 : w_fe am_c74 7 8 (.aload 1) := ⟨rfl, rfl⟩
theorem fPlan_fewestStanding_8 : w_fe am_c74 8 9 (.getfield 204) := ⟨rfl, rfl⟩
theorem fPlan_fewestStanding_9 : w_ic am_c74 9 10 .ge 47 := ⟨rfl, rfl⟩
theorem fPlan_fewestStanding_10 : w_fe am_c74 10 11 (.aload 0) := ⟨rfl, rfl⟩
theorem fPlan_fewestStanding_11 : w_fe am_c74 11 12 (.getfield 600) := ⟨rfl, rfl⟩
theorem fPlan_fewestStanding_12 : w_fe am_c74 12 13 (.aload 1) := ⟨rfl, rfl⟩
theorem fPlan_fewestStanding_13 : w_fe am_c74 13 14 (.invokestatic 34) := ⟨rfl, rfl⟩
theorem fPlan_fewestStanding_14 : w_fe am_c74 14 15 (.aload 0) := ⟨rfl, rfl⟩
theorem fPlan_fewestStanding_15 : w_fe am_c74 15 16 (.getfield 600) := ⟨rfl, rfl⟩
theorem fPlan_fewestStanding_16 : w_fe am_c74 16 17 (.iload 2) := ⟨rfl, rfl⟩
theorem fPlan_fewestStanding_17 : w_fe am_c74 17 18 (.invokestatic 38) := ⟨rfl, rfl⟩
theorem fPlan_fewestStanding_18 : w_if am_c74 18 19 .eq 25 := ⟨rfl, rfl⟩
theorem fPlan_fewestStanding_19 : w_fe am_c74 19 20 (.aload 0) := ⟨rfl, rfl⟩
theorem fPlan_fewestStanding_20 : w_fe am_c74 20 21 (.getfield 600) := ⟨rfl, rfl⟩
theorem fPlan_fewestStanding_21 : w_fe am_c74 21 22 (.getfield 212) := ⟨rfl, rfl⟩
theorem fPlan_fewestStanding_22 : w_fe am_c74 22 23 (.iload 2) := ⟨rfl, rfl⟩
theorem fPlan_fewestStanding_23 : w_fe am_c74 23 24 (.iload 6) := ⟨rfl, rfl⟩
theorem fPlan_fewestStanding_24 : w_fe am_c74 24 25 (.iastore) := ⟨rfl, rfl⟩
theorem fPlan_fewestStanding_25 : w_fe am_c74 25 26 (.aload 0) := ⟨rfl, rfl⟩
theorem fPlan_fewestStanding_26 : w_fe am_c74 26 27 (.getfield 600) := ⟨rfl, rfl⟩
theorem fPlan_fewestStanding_27 : w_fe am_c74 27 28 (.bipush 12) := ⟨rfl, rfl⟩
theorem fPlan_fewestStanding_28 : w_fe am_c74 28 29 (.bipush 1000000) := ⟨rfl, rfl⟩
theorem fPlan_fewestStanding_29 : w_fe am_c74 29 30 (.invokestatic 45) := ⟨rfl, rfl⟩
theorem fPlan_fewestStanding_30 : w_fe am_c74 30 31 (.pop) := ⟨rfl, rfl⟩
theorem fPlan_fewestStanding_31 : w_fe am_c74 31 32 (.aload 0) := ⟨rfl, rfl⟩
theorem fPlan_fewestStanding_32 : w_fe am_c74 32 33 (.getfield 600) := ⟨rfl, rfl⟩
theorem fPlan_fewestStanding_33 : w_fe am_c74 33 34 (.invokestatic 35) := ⟨rfl, rfl⟩
theorem fPlan_fewestStanding_34 : w_fe am_c74 34 35 (.istore 7) := ⟨rfl, rfl⟩
theorem fPlan_fewestStanding_35 : w_fe am_c74 35 36 (.iload 4) := ⟨rfl, rfl⟩
theorem fPlan_fewestStanding_36 : w_fe am_c74 36 37 (.bipush (-4)) := ⟨rfl, rfl⟩
theorem fPlan_fewestStanding_37 : w_ic am_c74 37 38 .eq 41 := ⟨rfl, rfl⟩
theorem fPlan_fewestStanding_38 : w_fe am_c74 38 39 (.iload 7) := ⟨rfl, rfl⟩
theorem fPlan_fewestStanding_39 : w_fe am_c74 39 40 (.iload 5) := ⟨rfl, rfl⟩
theorem fPlan_fewestStanding_40 : w_ic am_c74 40 41 .ge 45 := ⟨rfl, rfl⟩
theorem fPlan_fewestStanding_41 : w_fe am_c74 41 42 (.iload 6) := ⟨rfl, rfl⟩
theorem fPlan_fewestStanding_42 : w_fe am_c74 42 43 (.istore 4) := ⟨rfl, rfl⟩
theorem fPlan_fewestStanding_43 : w_fe am_c74 43 44 (.iload 7) := ⟨rfl, rfl⟩
theorem fPlan_fewestStanding_44 : w_fe am_c74 44 45 (.istore 5) := ⟨rfl, rfl⟩
theorem fPlan_fewestStanding_45 : w_fe am_c74 45 46 (.iinc 6 1) := ⟨rfl, rfl⟩
theorem fPlan_fewestStanding_46 : w_gt am_c74 46 6 := rfl
theorem fPlan_fewestStanding_47 : w_fe am_c74 47 48 (.iload 3) := ⟨rfl, rfl⟩
theorem fPlan_fewestStanding_48 : w_if am_c74 48 49 .eq 51 := ⟨rfl, rfl⟩
theorem fPlan_fewestStanding_49 : w_fe am_c74 49 50 (.iload 4) := ⟨rfl, rfl⟩
theorem fPlan_fewestStanding_50 : w_gt am_c74 50 52 := rfl
theorem fPlan_fewestStanding_51 : w_fe am_c74 51 52 (.iload 5) := ⟨rfl, rfl⟩
theorem fPlan_fewestStanding_52 : w_fe am_c74 52 53 (.ireturn) := ⟨rfl, rfl⟩
noncomputable def LPlan_fewestStanding_6 (xs : List Int) (d : Nat) (Q : Option w_V → w_M → Prop) (r1 : Nat) (v2 : Int) (v3 : Int) (v4 : Int) (v5 : Int) (v6 : Int) (σ : w_M) : Prop := ∀ l7, w_nl l7 → w_Ex (xs, d) 1 am_c74 Q 6 [some (.inr (.inr (6, 31))), some (.inr (.inr (2, r1))), some (.inl v2), some (.inl v3), some (.inl v4), some (.inl v5), some (.inl v6), l7] [] σ
set_option maxRecDepth 20000 in
theorem bPlan_fewestStanding_0 {xs : List Int} {d : Nat} {Q : Option w_V → w_M → Prop} {b : Nat} {x2 : Int} {x3 : Int} {σ : w_M}
    (h : LPlan_fewestStanding_6 xs (d + 5) Q b x2 x3 (-4) 0 0 σ) : w_Call (xs, (d + 5)) 74 [.inr (.inr (6, 31)), .inr (.inr (2, b)), .inl x2, .inl x3] σ Q :=
  (w_mk (mid := 74) (by decide) rfl rfl rfl rfl rfl (Nat.le_of_ble_eq_true rfl) ⟨rfl, Or.inl (by decide)⟩ (wi_bipush fPlan_fewestStanding_0 (wi_istore4 fPlan_fewestStanding_1 trivial (wi_bipush fPlan_fewestStanding_2 (wi_istore5 fPlan_fewestStanding_3 trivial (wi_bipush fPlan_fewestStanding_4 (wi_istore6 fPlan_fewestStanding_5 trivial (h _ (by exact trivial)))))))))
set_option maxRecDepth 20000 in
theorem bPlan_fewestStanding_6 {xs : List Int} {d : Nat} {Q : Option w_V → w_M → Prop} {r1 : Nat} {v2 : Int} {v3 : Int} {v4 : Int} {v5 : Int} {v6 : Int} {σ : w_M}
    (h : ((σ r1 4) ≤ v6 → ((v3 = 0 → Q (some (.inl v5)) σ) ∧ (¬ v3 = 0 → Q (some (.inl v4)) σ))) ∧ (v6 < (σ r1 4) → (p_Field_copyFrom 32 r1 σ ∧ (∀ (τ2 : w_M), q_Field_copyFrom 32 r1 σ τ2 → ((¬ (0 ≤ v2 ∧ v2 < τ2 32 5) → (p_Field_passUntilDone 32 12 1000000 τ2 ∧ (∀ (y3 : Int) (τ4 : w_M), q_Field_passUntilDone 32 12 1000000 τ2 y3 τ4 → (p_Field_standing 32 τ4 ∧ (∀ (y5 : Int), y5 = v_Field_standing 32 τ4 → ((v4 = (-4) → (w_in (v6 + 1) ∧ LPlan_fewestStanding_6 xs (d + 5) Q r1 v2 v3 v6 y5 (v6 + 1) τ4)) ∧ (¬ v4 = (-4) → ((v5 ≤ y5 → (w_in (v6 + 1) ∧ LPlan_fewestStanding_6 xs (d + 5) Q r1 v2 v3 v4 v5 (v6 + 1) τ4)) ∧ (y5 < v5 → (w_in (v6 + 1) ∧ LPlan_fewestStanding_6 xs (d + 5) Q r1 v2 v3 v6 y5 (v6 + 1) τ4)))))))))) ∧ ((0 ≤ v2 ∧ v2 < τ2 32 5) → (0 ≤ v2 ∧ v2 < 4 ∧ (∀ (τ8 : w_M), τ8 = w_up τ2 38 v2.toNat v6 → (p_Field_passUntilDone 32 12 1000000 τ8 ∧ (∀ (y9 : Int) (τ10 : w_M), q_Field_passUntilDone 32 12 1000000 τ8 y9 τ10 → (p_Field_standing 32 τ10 ∧ (∀ (y11 : Int), y11 = v_Field_standing 32 τ10 → ((v4 = (-4) → (w_in (v6 + 1) ∧ LPlan_fewestStanding_6 xs (d + 5) Q r1 v2 v3 v6 y11 (v6 + 1) τ10)) ∧ (¬ v4 = (-4) → ((v5 ≤ y11 → (w_in (v6 + 1) ∧ LPlan_fewestStanding_6 xs (d + 5) Q r1 v2 v3 v4 v5 (v6 + 1) τ10)) ∧ (y11 < v5 → (w_in (v6 + 1) ∧ LPlan_fewestStanding_6 xs (d + 5) Q r1 v2 v3 v6 y11 (v6 + 1) τ10))))))))))))))))) : LPlan_fewestStanding_6 xs (d + 5) Q r1 v2 v3 v4 v5 v6 σ :=
  fun l7 nl7 => (wi_iload6 fPlan_fewestStanding_6 (wi_aload1 fPlan_fewestStanding_7 (wi_getf204 fPlan_fewestStanding_8 (wi_ic_ge fPlan_fewestStanding_9 (fun c15 => (wi_iload3 fPlan_fewestStanding_47 (wi_if_eq fPlan_fewestStanding_48 (fun c1 => (wi_iload5 fPlan_fewestStanding_51 (wi_ret1 fPlan_fewestStanding_52 ((h.1 c15).1 c1)))) (fun c1 => (wi_iload4 fPlan_fewestStanding_49 (wi_goto fPlan_fewestStanding_50 (wi_ret1 fPlan_fewestStanding_52 ((h.1 c15).2 c1)))))))) (fun c15 => (wi_aload0 fPlan_fewestStanding_10 (wi_getf600 fPlan_fewestStanding_11 (wi_aload1 fPlan_fewestStanding_12 (wi_call2 fPlan_fewestStanding_13 (Nat.le_of_ble_eq_true rfl) (k_Field_copyFrom (h.2 c15).1 (fun τ2 eτ2 => (wi_aload0 fPlan_fewestStanding_14 (wi_getf600 fPlan_fewestStanding_15 (wi_iload2 fPlan_fewestStanding_16 (wi_call2 fPlan_fewestStanding_17 (Nat.le_of_ble_eq_true rfl) (k_Field_isReaper (wi_ifb_eq fPlan_fewestStanding_18 (fun c14 => (wi_aload0 fPlan_fewestStanding_25 (wi_getf600 fPlan_fewestStanding_26 (wi_bipush fPlan_fewestStanding_27 (wi_bipush fPlan_fewestStanding_28 (wi_call3 fPlan_fewestStanding_29 (Nat.le_of_ble_eq_true rfl) (k_Field_passUntilDone (((h.2 c15).2 τ2 eτ2).1 c14).1 (fun y3 τ4 eτ4 => (wi_pop_i fPlan_fewestStanding_30 (wi_aload0 fPlan_fewestStanding_31 (wi_getf600 fPlan_fewestStanding_32 (wi_call1 fPlan_fewestStanding_33 (Nat.le_of_ble_eq_true rfl) (k_Field_standing ((((h.2 c15).2 τ2 eτ2).1 c14).2 y3 τ4 eτ4).1 (wi_istore7 fPlan_fewestStanding_34 trivial (wi_iload4 fPlan_fewestStanding_35 (wi_bipush fPlan_fewestStanding_36 (wi_ic_eq fPlan_fewestStanding_37 (fun c7 => (wi_iload6 fPlan_fewestStanding_41 (wi_istore4 fPlan_fewestStanding_42 trivial (wi_iload7 fPlan_fewestStanding_43 (wi_istore5 fPlan_fewestStanding_44 trivial (wi_iinc6 fPlan_fewestStanding_45 trivial ((((((h.2 c15).2 τ2 eτ2).1 c14).2 y3 τ4 eτ4).2 _ rfl).1 c7).1 (wi_goto fPlan_fewestStanding_46 (((((((h.2 c15).2 τ2 eτ2).1 c14).2 y3 τ4 eτ4).2 _ rfl).1 c7).2 _ (by exact trivial))))))))) (fun c7 => (wi_iload7 fPlan_fewestStanding_38 (wi_iload5 fPlan_fewestStanding_39 (wi_ic_ge fPlan_fewestStanding_40 (fun c6 => (wi_iinc6 fPlan_fewestStanding_45 trivial (((((((h.2 c15).2 τ2 eτ2).1 c14).2 y3 τ4 eτ4).2 _ rfl).2 c7).1 c6).1 (wi_goto fPlan_fewestStanding_46 ((((((((h.2 c15).2 τ2 eτ2).1 c14).2 y3 τ4 eτ4).2 _ rfl).2 c7).1 c6).2 _ (by exact trivial))))) (fun c6 => (wi_iload6 fPlan_fewestStanding_41 (wi_istore4 fPlan_fewestStanding_42 trivial (wi_iload7 fPlan_fewestStanding_43 (wi_istore5 fPlan_fewestStanding_44 trivial (wi_iinc6 fPlan_fewestStanding_45 trivial (((((((h.2 c15).2 τ2 eτ2).1 c14).2 y3 τ4 eτ4).2 _ rfl).2 c7).2 c6).1 (wi_goto fPlan_fewestStanding_46 ((((((((h.2 c15).2 τ2 eτ2).1 c14).2 y3 τ4 eτ4).2 _ rfl).2 c7).2 c6).2 _ (by exact trivial)))))))))))))))))))))))))))))) (fun c14 => (wi_aload0 fPlan_fewestStanding_19 (wi_getf600 fPlan_fewestStanding_20 (wi_getf212 fPlan_fewestStanding_21 (wi_iload2 fPlan_fewestStanding_22 (wi_iload6 fPlan_fewestStanding_23 (wi_iast1004 fPlan_fewestStanding_24 (((h.2 c15).2 τ2 eτ2).2 c14).1 (((h.2 c15).2 τ2 eτ2).2 c14).2.1 (wi_aload0 fPlan_fewestStanding_25 (wi_getf600 fPlan_fewestStanding_26 (wi_bipush fPlan_fewestStanding_27 (wi_bipush fPlan_fewestStanding_28 (wi_call3 fPlan_fewestStanding_29 (Nat.le_of_ble_eq_true rfl) (k_Field_passUntilDone ((((h.2 c15).2 τ2 eτ2).2 c14).2.2 _ rfl).1 (fun y9 τ10 eτ10 => (wi_pop_i fPlan_fewestStanding_30 (wi_aload0 fPlan_fewestStanding_31 (wi_getf600 fPlan_fewestStanding_32 (wi_call1 fPlan_fewestStanding_33 (Nat.le_of_ble_eq_true rfl) (k_Field_standing (((((h.2 c15).2 τ2 eτ2).2 c14).2.2 _ rfl).2 y9 τ10 eτ10).1 (wi_istore7 fPlan_fewestStanding_34 trivial (wi_iload4 fPlan_fewestStanding_35 (wi_bipush fPlan_fewestStanding_36 (wi_ic_eq fPlan_fewestStanding_37 (fun c13 => (wi_iload6 fPlan_fewestStanding_41 (wi_istore4 fPlan_fewestStanding_42 trivial (wi_iload7 fPlan_fewestStanding_43 (wi_istore5 fPlan_fewestStanding_44 trivial (wi_iinc6 fPlan_fewestStanding_45 trivial (((((((h.2 c15).2 τ2 eτ2).2 c14).2.2 _ rfl).2 y9 τ10 eτ10).2 _ rfl).1 c13).1 (wi_goto fPlan_fewestStanding_46 ((((((((h.2 c15).2 τ2 eτ2).2 c14).2.2 _ rfl).2 y9 τ10 eτ10).2 _ rfl).1 c13).2 _ (by exact trivial))))))))) (fun c13 => (wi_iload7 fPlan_fewestStanding_38 (wi_iload5 fPlan_fewestStanding_39 (wi_ic_ge fPlan_fewestStanding_40 (fun c12 => (wi_iinc6 fPlan_fewestStanding_45 trivial ((((((((h.2 c15).2 τ2 eτ2).2 c14).2.2 _ rfl).2 y9 τ10 eτ10).2 _ rfl).2 c13).1 c12).1 (wi_goto fPlan_fewestStanding_46 (((((((((h.2 c15).2 τ2 eτ2).2 c14).2.2 _ rfl).2 y9 τ10 eτ10).2 _ rfl).2 c13).1 c12).2 _ (by exact trivial))))) (fun c12 => (wi_iload6 fPlan_fewestStanding_41 (wi_istore4 fPlan_fewestStanding_42 trivial (wi_iload7 fPlan_fewestStanding_43 (wi_istore5 fPlan_fewestStanding_44 trivial (wi_iinc6 fPlan_fewestStanding_45 trivial ((((((((h.2 c15).2 τ2 eτ2).2 c14).2.2 _ rfl).2 y9 τ10 eτ10).2 _ rfl).2 c13).2 c12).1 (wi_goto fPlan_fewestStanding_46 (((((((((h.2 c15).2 τ2 eτ2).2 c14).2.2 _ rfl).2 y9 τ10 eτ10).2 _ rfl).2 c13).2 c12).2 _ (by exact trivial)))))))))))))))))))))))))))))))))))))))))))))))))))))
theorem k_Plan_fewestStanding {xs : List Int} {d : Nat} {Q : Option w_V → w_M → Prop} {b : Nat} {x2 : Int} {x3 : Int} {σ : w_M} (hp : p_Plan_fewestStanding b x2 x3 σ) (hQ : ∀ (x : Int) (σ' : w_M), q_Plan_fewestStanding b x2 x3 σ x σ' → Q (some (.inl x)) σ') : w_Call (xs, d + 5) 74 [.inr (.inr (6, 31)), .inr (.inr (2, b)), .inl x2, .inl x3] σ Q := by
  obtain ⟨⟨hok, hb⟩, hr, hw⟩ := hp
  have hs := n_ok.s hok
  have hn := n_ok.n hok
  obtain ⟨r, rfl⟩ := Int.eq_ofNat_of_zero_le hr.1
  unfold q_Plan_fewestStanding at hQ
  rw [Int.toNat_natCast] at hQ
  have hrn : r < n_n (w_ab σ b) := by rw [n_n_ab]; omega
  have hR := n_WF.r hok hrn
  have h04 : w_ab σ b 0 4 = σ b 4 := rfl
  generalize hf : bs_f (w_ab σ b) r = f at hQ
  have hfl : ∀ i, i < n_s (w_ab σ b) → 0 ≤ f i ∧ f i ≤ 280 := fun i hi => by rw [← hf]; exact bs_f_le hok hi
  have es : n_s (w_ab σ b) = (σ b 4).toNat := rfl
  refine bPlan_fewestStanding_0 ?_
  refine (w_loop (n := (σ b 4).toNat) (P := fun i => ∀ (τ : w_M) (v5 : Int), w_fr σ τ 32 41 → ((i = 0 ∧ v5 = 0) ∨ (1 ≤ i ∧ v5 = (bs_F f i).2)) → LPlan_fewestStanding_6 xs (d + 5) Q b (r : Int) x3 (bs_F f i).1 v5 (i : Int) τ) ?_ ?_) σ 0 w_fr.rfl' (Or.inl ⟨rfl, rfl⟩)
  · intro τ v5 F h5
    have zb : τ b = σ b := F b (by omega)
    refine bPlan_fewestStanding_6 ⟨fun _ => ⟨fun c => hQ _ _ ⟨?_, F⟩, fun c => hQ _ _ ⟨?_, F⟩⟩, fun h => by rw [zb] at h; omega⟩
    · rw [if_pos c, es]; omega
    · rw [if_neg c, es]
  · intro i hi ih τ v5 F h5
    have zb : τ b = σ b := F b (by omega)
    have abb : w_ab τ b = w_ab σ b := w_ab_fr (fun d hd => F _ (by omega))
    have okb : n_ok τ b := n_ok.of abb hok
    have hfi := hfl i hi
    simp only [bs_F] at ih
    rw [w_cs1] at ih
    refine bPlan_fewestStanding_6 ⟨fun h => by rw [zb] at h; omega, fun _ => ⟨⟨okb, hb⟩, fun τ2 hq2 => ?_⟩⟩
    obtain ⟨q1, q2, q3⟩ := hq2
    rw [abb] at q1
    have z5 : τ2 32 5 = σ b 5 := congrFun (congrFun q1 0) 5
    have nx : ∀ (y : Int) (τ' : w_M), w_fr σ τ' 32 41 → y = f i → (((bs_F f i).1 = (-4) → (w_in ((i : Int) + 1) ∧ LPlan_fewestStanding_6 xs (d + 5) Q b (r : Int) x3 (i : Int) y ((i : Int) + 1) τ')) ∧ (¬ (bs_F f i).1 = (-4) → ((v5 ≤ y → (w_in ((i : Int) + 1) ∧ LPlan_fewestStanding_6 xs (d + 5) Q b (r : Int) x3 (bs_F f i).1 v5 ((i : Int) + 1) τ')) ∧ (y < v5 → (w_in ((i : Int) + 1) ∧ LPlan_fewestStanding_6 xs (d + 5) Q b (r : Int) x3 (i : Int) y ((i : Int) + 1) τ'))))) := fun y τ' F' ey => by
      have key : 1 ≤ i → (0 ≤ (bs_F f i).1 ∧ (bs_F f i).1 < i) ∧ (0 ≤ (bs_F f i).2 ∧ (bs_F f i).2 ≤ 280) := fun h => bs_F_1 (fun j hj => hfl j (by rw [es]; omega)) h
      have b0 : i = 0 → (bs_F f i).1 = -4 ∧ (bs_F f i).2 = 1000000 := fun h => by rw [h]; exact ⟨rfl, rfl⟩
      refine ⟨fun c => ⟨⟨by omega, by omega⟩, ?_⟩, fun c => ⟨fun c2 => ⟨⟨by omega, by omega⟩, ?_⟩, fun c2 => ⟨⟨by omega, by omega⟩, ?_⟩⟩⟩
      · have hi0 : i = 0 := by
          by_cases h : i = 0
          · exact h
          · have := key (by omega); omega
        rw [if_pos (by rw [(b0 hi0).2]; omega)] at ih
        rw [ey]
        exact ih τ' (f i) F' (Or.inr ⟨by omega, rfl⟩)
      · have hi1 : 1 ≤ i := by
          by_cases h : i = 0
          · exact absurd (b0 h).1 c
          · omega
        have e5 : v5 = (bs_F f i).2 := by omega
        rw [if_neg (by omega)] at ih
        exact ih τ' v5 F' (Or.inr ⟨by omega, e5⟩)
      · have hi1 : 1 ≤ i := by
          by_cases h : i = 0
          · exact absurd (b0 h).1 c
          · omega
        have e5 : v5 = (bs_F f i).2 := by omega
        rw [if_pos (by omega)] at ih
        rw [ey]
        exact ih τ' (f i) F' (Or.inr ⟨by omega, rfl⟩)
    refine ⟨fun c => by omega, fun c => ⟨by omega, by omega, fun τ8 t8 => ?_⟩⟩
    rw [Int.toNat_natCast] at t8
    have ab8 : w_ab τ8 32 = w_up (w_ab σ b) 6 r (i : Int) := by
      rw [t8, show (38 : Nat) = 32 + 6 from rfl, w_ab_up (by decide) (by decide) (by rw [w_rl37 (by decide) (by decide), z5]; omega), q1]
    have W8 : n_WF (w_up (w_ab σ b) 6 r (i : Int)) := n_WF6 hok (by omega)
    have F8 : w_fr σ τ8 32 41 := by rw [t8]; exact (F.tr q3).up (by decide) (by decide)
    refine ⟨⟨n_ok.of ab8 W8, by decide, by decide⟩, fun y9 τ10 hq10 => ?_⟩
    obtain ⟨j, p1, p2, p3⟩ := hq10
    rw [ab8] at p1 p2
    obtain ⟨ej, -⟩ := n_pud_done W8 p2
    refine ⟨n_ok.of p1 (n_goes_all W8 j).1, fun y11 e11 => ?_⟩
    refine nx y11 τ10 (F8.tr p3) ?_
    rw [e11]
    unfold v_Field_standing
    rw [p1, ej, ← n_sd12 W8, ← hf]
    rfl
noncomputable def p_Moon_best (_x1 : Int) (_x2 : Int) (σ : w_M) : Prop := CI σ
noncomputable def q_Moon_best (x1 : Int) (x2 : Int) (σ : w_M) (x : Int) (σ' : w_M) : Prop := c_q (F_best (cS σ) x1 x2) (cS σ) σ x σ'
theorem fMoon_best_0 : w_fe am_c131 0 1 (.aload 0) := ⟨rfl, rfl⟩
theorem fMoon_best_1 : w_fe am_c131 1 2 (.getfield 2) := ⟨rfl, rfl⟩
theorem fMoon_best_2 : w_fe am_c131 2 3 (.iload 1) := ⟨rfl, rfl⟩
theorem fMoon_best_3 : w_fe am_c131 3 4 (.invokestatic 38) := ⟨rfl, rfl⟩
theorem fMoon_best_4 : w_if am_c131 4 5 .eq 10 := ⟨rfl, rfl⟩
theorem fMoon_best_5 : w_fe am_c131 5 6 (.iload 2) := ⟨rfl, rfl⟩
theorem fMoon_best_6 : w_fe am_c131 6 7 (.bipush 0) := ⟨rfl, rfl⟩
theorem fMoon_best_7 : w_fe am_c131 7 8 (.bipush 1) := ⟨rfl, rfl⟩
theorem fMoon_best_8 : w_fe am_c131 8 9 (.invokestatic 107) := ⟨rfl, rfl⟩
theorem fMoon_best_9 : w_if am_c131 9 10 .ne 12 := ⟨rfl, rfl⟩
theorem fMoon_best_10 : w_fe am_c131 10 11 (.bipush (-1)) := ⟨rfl, rfl⟩
theorem fMoon_best_11 : w_fe am_c131 11 12 (.ireturn) := ⟨rfl, rfl⟩
theorem fMoon_best_12 : w_fe am_c131 12 13 (.aload 0) := ⟨rfl, rfl⟩
theorem fMoon_best_13 : w_fe am_c131 13 14 (.getfield 4) := ⟨rfl, rfl⟩
theorem fMoon_best_14 : w_fe am_c131 14 15 (.aload 0) := ⟨rfl, rfl⟩
theorem fMoon_best_15 : w_fe am_c131 15 16 (.getfield 2) := ⟨rfl, rfl⟩
theorem fMoon_best_16 : w_fe am_c131 16 17 (.iload 1) := ⟨rfl, rfl⟩
theorem fMoon_best_17 : w_fe am_c131 17 18 (.iload 2) := ⟨rfl, rfl⟩
theorem fMoon_best_18 : w_if am_c131 18 19 .ne 21 := ⟨rfl, rfl⟩
theorem fMoon_best_19 : w_fe am_c131 19 20 (.bipush 1) := ⟨rfl, rfl⟩
theorem fMoon_best_20 : w_gt am_c131 20 22 := rfl
theorem fMoon_best_21 : w_fe am_c131 21 22 (.bipush 0) := ⟨rfl, rfl⟩
theorem fMoon_best_22 : w_fe am_c131 22 23 (.invokestatic 74) := ⟨rfl, rfl⟩
theorem fMoon_best_23 : w_fe am_c131 23 24 (.ireturn) := ⟨rfl, rfl⟩
set_option maxRecDepth 20000 in
theorem bMoon_best_0 {xs : List Int} {d : Nat} {Q : Option w_V → w_M → Prop} {x1 : Int} {x2 : Int} {σ : w_M}
    (h : (¬ (0 ≤ x1 ∧ x1 < σ 14 5) → Q (some (.inl (-1))) σ) ∧ ((0 ≤ x1 ∧ x1 < σ 14 5) → (((0 ≤ x2 ∧ x2 ≤ 1) → ((¬ x2 = 0 → (p_Plan_fewestStanding 14 x1 0 σ ∧ (∀ (y1 : Int) (τ2 : w_M), q_Plan_fewestStanding 14 x1 0 σ y1 τ2 → Q (some (.inl y1)) τ2))) ∧ (x2 = 0 → (p_Plan_fewestStanding 14 x1 1 σ ∧ (∀ (y3 : Int) (τ4 : w_M), q_Plan_fewestStanding 14 x1 1 σ y3 τ4 → Q (some (.inl y3)) τ4))))) ∧ (¬ (0 ≤ x2 ∧ x2 ≤ 1) → Q (some (.inl (-1))) σ)))) : w_Call (xs, (d + 6)) 131 [.inr (.inr (0, 0)), .inl x1, .inl x2] σ Q :=
  (w_mk (mid := 131) (by decide) rfl rfl rfl rfl rfl (Nat.le_of_ble_eq_true rfl) ⟨rfl, Or.inl (by decide)⟩ (wi_aload0 fMoon_best_0 (wi_getf2 fMoon_best_1 (wi_iload1 fMoon_best_2 (wi_call2 fMoon_best_3 (Nat.le_of_ble_eq_true rfl) (k_Field_isReaper (wi_ifb_eq fMoon_best_4 (fun c7 => (wi_bipush fMoon_best_10 (wi_ret1 fMoon_best_11 (h.1 c7)))) (fun c7 => (wi_iload2 fMoon_best_5 (wi_bipush fMoon_best_6 (wi_bipush fMoon_best_7 (wi_call3 fMoon_best_8 (Nat.le_of_ble_eq_true rfl) (k_Moon_isWithin (wi_ifb_ne fMoon_best_9 (fun c6 => (wi_aload0 fMoon_best_12 (wi_getf4 fMoon_best_13 (wi_aload0 fMoon_best_14 (wi_getf2 fMoon_best_15 (wi_iload1 fMoon_best_16 (wi_iload2 fMoon_best_17 (wi_if_ne fMoon_best_18 (fun c5 => (wi_bipush fMoon_best_21 (wi_call4 fMoon_best_22 (Nat.le_of_ble_eq_true rfl) (k_Plan_fewestStanding (((h.2 c7).1 c6).1 c5).1 (fun y1 τ2 eτ2 => (wi_ret1 fMoon_best_23 ((((h.2 c7).1 c6).1 c5).2 y1 τ2 eτ2))))))) (fun c5 => (wi_bipush fMoon_best_19 (wi_goto fMoon_best_20 (wi_call4 fMoon_best_22 (Nat.le_of_ble_eq_true rfl) (k_Plan_fewestStanding (((h.2 c7).1 c6).2 c5).1 (fun y3 τ4 eτ4 => (wi_ret1 fMoon_best_23 ((((h.2 c7).1 c6).2 c5).2 y3 τ4 eτ4)))))))))))))))) (fun c6 => (wi_bipush fMoon_best_10 (wi_ret1 fMoon_best_11 ((h.2 c7).2 c6))))))))))))))))))
theorem k_Moon_best {xs : List Int} {d : Nat} {Q : Option w_V → w_M → Prop} {x1 : Int} {x2 : Int} {σ : w_M} (hp : p_Moon_best x1 x2 σ) (hQ : ∀ (x : Int) (σ' : w_M), q_Moon_best x1 x2 σ x σ' → Q (some (.inl x)) σ') : w_Call (xs, d + 6) 131 [.inr (.inr (0, 0)), .inl x1, .inl x2] σ Q := by
  have hC : CI σ := hp
  have hok := hC.ok
  unfold q_Moon_best F_best at hQ
  have e5 : cS σ 0 0 5 = σ 14 5 := rfl
  have eA : cS σ 0 = w_ab σ 14 := rfl
  rw [e5, eA] at hQ
  refine bMoon_best_0 ⟨fun c => ?_, fun c => ⟨fun c2 => ⟨fun c3 => ⟨⟨⟨hok, by decide⟩, c, Or.inl rfl⟩, fun y τ hq => ?_⟩, fun c3 => ⟨⟨⟨hok, by decide⟩, c, Or.inr rfl⟩, fun y τ hq => ?_⟩⟩, fun c2 => ?_⟩⟩
  · rw [if_neg (fun q => c q.1)] at hQ
    exact hQ _ _ (c_qr hC rfl)
  · rw [if_pos ⟨c, c2⟩, if_neg c3] at hQ
    exact hQ _ _ (c_qs hC (hq.2.wide (by decide) (by decide)) hq.1)
  · rw [if_pos ⟨c, c2⟩, if_pos c3] at hQ
    exact hQ _ _ (c_qs hC (hq.2.wide (by decide) (by decide)) hq.1)
  · rw [if_neg (fun q => c2 q.2)] at hQ
    exact hQ _ _ (c_qr hC rfl)
theorem m_becomes {σ τ τ2 : w_M} (hM : MI σ) (F : w_f1 σ τ 124) {d : Nat} {k r v : Int} (h3 : 3 ≤ d) (h7 : d ≤ 7) (hk : k = (d : Int) - 3) (hr : 0 ≤ r ∧ r < σ 122 5) (ha : w_am τ 124 0 = w_am σ 123 0) (ht : q_Model_becomesOf r k v τ τ2) : w_am τ2 124 0 = w_up (w_am σ 123 0) d r.toNat v ∧ w_f1 σ τ2 124 := by
  have z2 : τ 122 = σ 122 := F 122 (by decide)
  have ht' : τ2 = w_up τ 124 (21 + 5 * r + k).toNat v := ht
  refine ⟨?_, by rw [ht']; exact F.up⟩
  rw [ht', ← ha]
  refine w_am_up (by unfold m_sm; rw [z2]; exact hM.sm) (by decide) (by rw [m_rl37 h3 h7, z2]; omega) ?_
  rcases (show d = 3 ∨ d = 4 ∨ d = 5 ∨ d = 6 ∨ d = 7 by omega) with rfl | rfl | rfl | rfl | rfl
  · show _ = 0 + (21 + 5 * r.toNat); omega
  · show _ = 0 + (22 + 5 * r.toNat); omega
  · show _ = 0 + (23 + 5 * r.toNat); omega
  · show _ = 0 + (24 + 5 * r.toNat); omega
  · show _ = 0 + (25 + 5 * r.toNat); omega
theorem m_starts {σ τ τ1 : w_M} (hM : MI σ) (F : w_f1 σ τ 124) : p_Model_starts τ ∧ (q_Model_starts τ τ1 → w_am τ1 124 0 = w_am σ 123 0 ∧ w_f1 σ τ1 124 ∧ ∀ j, j < 82 → τ1 124 j = σ 123 j) := by
  have z2 : τ 122 = σ 122 := F 122 (by decide)
  have z3 : τ 123 = σ 123 := F 123 (by decide)
  refine ⟨by unfold p_Model_starts m_sm; rw [z2]; exact hM.sm, fun h => ⟨?_, F.tr h.2.1, fun j hj => by rw [h.2.2 j hj, z3]⟩⟩
  rw [h.1]
  exact w_am_fr (by rw [z2]; exact ⟨rfl, rfl, rfl⟩) z3
noncomputable def p_Model_best (_x1 : Int) (_x2 : Int) (σ : w_M) : Prop := MI σ
noncomputable def q_Model_best (x1 : Int) (x2 : Int) (σ : w_M) (x : Int) (σ' : w_M) : Prop := m_q (F_best (mS σ) x1 x2) (mS σ) σ x σ'
theorem fModel_best_0 : w_fe am_c210 0 1 (.aload 0) := ⟨rfl, rfl⟩
theorem fModel_best_1 : w_fe am_c210 1 2 (.iload 1) := ⟨rfl, rfl⟩
theorem fModel_best_2 : w_fe am_c210 2 3 (.invokestatic 181) := ⟨rfl, rfl⟩
theorem fModel_best_3 : w_if am_c210 3 4 .eq 10 := ⟨rfl, rfl⟩
theorem fModel_best_4 : w_fe am_c210 4 5 (.iload 2) := ⟨rfl, rfl⟩
theorem fModel_best_5 : w_fe am_c210 5 6 (.i2l) := ⟨rfl, rfl⟩
theorem fModel_best_6 : w_fe am_c210 6 7 (.sipush 0) := ⟨rfl, rfl⟩
theorem fModel_best_7 : w_fe am_c210 7 8 (.sipush 1) := ⟨rfl, rfl⟩
theorem fModel_best_8 : w_fe am_c210 8 9 (.invokestatic 157) := ⟨rfl, rfl⟩
theorem fModel_best_9 : w_if am_c210 9 10 .ne 12 := ⟨rfl, rfl⟩
theorem fModel_best_10 : w_fe am_c210 10 11 (.bipush (-1)) := ⟨rfl, rfl⟩
theorem fModel_best_11 : w_fe am_c210 11 12 (.ireturn) := ⟨rfl, rfl⟩
theorem fModel_best_12 : w_fe am_c210 12 13 (.bipush 1000000) := ⟨rfl, rfl⟩
theorem fModel_best_13 : w_fe am_c210 13 14 (.istore 3) := ⟨rfl, rfl⟩
theorem fModel_best_14 : w_fe am_c210 14 15 (.bipush (-4)) := ⟨rfl, rfl⟩
theorem fModel_best_15 : w_fe am_c210 15 16 (.istore 4) := ⟨rfl, rfl⟩
theorem fModel_best_16 : w_fe am_c210 16 17 (.bipush 0) := ⟨rfl, rfl⟩
theorem fModel_best_17 : w_fe am_c210 17 18 (.istore 5) := ⟨rfl, rfl⟩
theorem fModel_best_18 : w_fe am_c210 18 19 (.iload 5) := ⟨rfl, rfl⟩
theorem fModel_best_19 : w_fe am_c210 19 20 (.aload 0) := ⟨rfl, rfl⟩
theorem fModel_best_20 : w_fe am_c210 20 21 (.getfield 904) := ⟨rfl, rfl⟩
theorem fModel_best_21 : w_ic am_c210 21 22 .ge 51 := ⟨rfl, rfl⟩
theorem fModel_best_22 : w_fe am_c210 22 23 (.aload 0) := ⟨rfl, rfl⟩
theorem fModel_best_23 : w_fe am_c210 23 24 (.invokestatic 174) := ⟨rfl, rfl⟩
theorem fModel_best_24 : w_fe am_c210 24 25 (.aload 0) := ⟨rfl, rfl⟩
theorem fModel_best_25 : w_fe am_c210 25 26 (.iload 1) := ⟨rfl, rfl⟩
theorem fModel_best_26 : w_fe am_c210 26 27 (.bipush 3) := ⟨rfl, rfl⟩
theorem fModel_best_27 : w_fe am_c210 27 28 (.iload 5) := ⟨rfl, rfl⟩
theorem fModel_best_28 : w_fe am_c210 28 29 (.invokestatic 199) := ⟨rfl, rfl⟩
theorem fModel_best_29 : w_fe am_c210 29 30 (.aload 0) := ⟨rfl, rfl⟩
theorem fModel_best_30 : w_fe am_c210 30 31 (.bipush 12) := ⟨rfl, rfl⟩
theorem fModel_best_31 : w_fe am_c210 31 32 (.invokestatic 194) := ⟨rfl, rfl⟩
theorem fModel_best_32 : w_fe am_c210 32 33 (.aload 0) := ⟨rfl, rfl⟩
theorem fModel_best_33 : w_fe am_c210 33 34 (.invokestatic 175) := ⟨rfl, rfl⟩
theorem fModel_best_34 : w_fe am_c210 34 35 (.iload 3) := ⟨rfl, rfl⟩
theorem fModel_best_35 : w_ic am_c210 35 36 .ge 38 := ⟨rfl, rfl⟩
theorem fModel_best_36 : w_fe am_c210 36 37 (.iload 5) := ⟨rfl, rfl⟩
theorem fModel_best_37 : w_gt am_c210 37 39 := rfl
theorem fModel_best_38 : w_fe am_c210 38 39 (.iload 4) := ⟨rfl, rfl⟩
theorem fModel_best_39 : w_fe am_c210 39 40 (.istore 4) := ⟨rfl, rfl⟩
theorem fModel_best_40 : w_fe am_c210 40 41 (.aload 0) := ⟨rfl, rfl⟩
theorem fModel_best_41 : w_fe am_c210 41 42 (.invokestatic 175) := ⟨rfl, rfl⟩
theorem fModel_best_42 : w_fe am_c210 42 43 (.iload 3) := ⟨rfl, rfl⟩
theorem fModel_best_43 : w_ic am_c210 43 44 .ge 47 := ⟨rfl, rfl⟩
theorem fModel_best_44 : w_fe am_c210 44 45 (.aload 0) := ⟨rfl, rfl⟩
theorem fModel_best_45 : w_fe am_c210 45 46 (.invokestatic 175) := ⟨rfl, rfl⟩
theorem fModel_best_46 : w_gt am_c210 46 48 := rfl
theorem fModel_best_47 : w_fe am_c210 47 48 (.iload 3) := ⟨rfl, rfl⟩
theorem fModel_best_48 : w_fe am_c210 48 49 (.istore 3) := ⟨rfl, rfl⟩
theorem fModel_best_49 : w_fe am_c210 49 50 (.iinc 5 1) := ⟨rfl, rfl⟩
theorem fModel_best_50 : w_gt am_c210 50 18 := rfl
theorem fModel_best_51 : w_fe am_c210 51 52 (.iload 2) := ⟨rfl, rfl⟩
theorem fModel_best_52 : w_if am_c210 52 53 .ne 55 := ⟨rfl, rfl⟩
theorem fModel_best_53 : w_fe am_c210 53 54 (.iload 4) := ⟨rfl, rfl⟩
theorem fModel_best_54 : w_gt am_c210 54 56 := rfl
theorem fModel_best_55 : w_fe am_c210 55 56 (.iload 3) := ⟨rfl, rfl⟩
theorem fModel_best_56 : w_fe am_c210 56 57 (.ireturn) := ⟨rfl, rfl⟩
noncomputable def LModel_best_18 (xs : List Int) (d : Nat) (Q : Option w_V → w_M → Prop) (v1 : Int) (v2 : Int) (v3 : Int) (v4 : Int) (v5 : Int) (σ : w_M) : Prop := w_Ex (xs, d) 1 am_c210 Q 18 [some (.inr (.inr (9, 122))), some (.inl v1), some (.inl v2), some (.inl v3), some (.inl v4), some (.inl v5)] [] σ
set_option maxRecDepth 20000 in
theorem bModel_best_0 {xs : List Int} {d : Nat} {Q : Option w_V → w_M → Prop} {x1 : Int} {x2 : Int} {σ : w_M}
    (h : p_Model_isReaper x1 σ ∧ ((¬ (0 ≤ x1 ∧ x1 < σ 122 5) → Q (some (.inl (-1))) σ) ∧ ((0 ≤ x1 ∧ x1 < σ 122 5) → (((0 ≤ x2 ∧ x2 ≤ 1) → LModel_best_18 xs (d + 6) Q x1 x2 1000000 (-4) 0 σ) ∧ (¬ (0 ≤ x2 ∧ x2 ≤ 1) → Q (some (.inl (-1))) σ))))) : w_Call (xs, (d + 6)) 210 [.inr (.inr (9, 122)), .inl x1, .inl x2] σ Q :=
  (w_mk (mid := 210) (by decide) rfl rfl rfl rfl rfl (Nat.le_of_ble_eq_true rfl) ⟨rfl, Or.inl (by decide)⟩ (wi_aload0 fModel_best_0 (wi_iload1 fModel_best_1 (wi_call2 fModel_best_2 (Nat.le_of_ble_eq_true rfl) (k_Model_isReaper h.1 (wi_ifb_eq fModel_best_3 (fun c2 => (wi_bipush fModel_best_10 (wi_ret1 fModel_best_11 (h.2.1 c2)))) (fun c2 => (wi_iload2 fModel_best_4 (wi_i2l fModel_best_5 (wi_sipush fModel_best_6 (wi_sipush fModel_best_7 (wi_call3 fModel_best_8 (Nat.le_of_ble_eq_true rfl) (k_Model_in (wi_ifb_ne fModel_best_9 (fun c1 => (wi_bipush fModel_best_12 (wi_istore3 fModel_best_13 trivial (wi_bipush fModel_best_14 (wi_istore4 fModel_best_15 trivial (wi_bipush fModel_best_16 (wi_istore5 fModel_best_17 trivial ((h.2.2 c2).1 c1)))))))) (fun c1 => (wi_bipush fModel_best_10 (wi_ret1 fModel_best_11 ((h.2.2 c2).2 c1))))))))))))))))))
set_option maxRecDepth 20000 in
theorem bModel_best_18 {xs : List Int} {d : Nat} {Q : Option w_V → w_M → Prop} {v1 : Int} {v2 : Int} {v3 : Int} {v4 : Int} {v5 : Int} {σ : w_M}
    (h : ((σ 122 4) ≤ v5 → ((¬ v2 = 0 → Q (some (.inl v3)) σ) ∧ (v2 = 0 → Q (some (.inl v4)) σ))) ∧ (v5 < (σ 122 4) → (p_Model_starts σ ∧ (∀ (τ2 : w_M), q_Model_starts σ τ2 → (p_Model_becomesOf v1 3 v5 τ2 ∧ (∀ (τ3 : w_M), q_Model_becomesOf v1 3 v5 τ2 τ3 → (p_Model_goesTo 12 τ3 ∧ (∀ (τ4 : w_M), q_Model_goesTo 12 τ3 τ4 → (p_Model_standing τ4 ∧ (∀ (y5 : Int), y5 = v_Model_standing τ4 → ((v3 ≤ y5 → ∀ (y6 : Int), y6 = v_Model_standing τ4 → ((v3 ≤ y6 → (w_in (v5 + 1) ∧ LModel_best_18 xs (d + 6) Q v1 v2 v3 v4 (v5 + 1) τ4)) ∧ (y6 < v3 → ∀ (y7 : Int), y7 = v_Model_standing τ4 → (w_in (v5 + 1) ∧ LModel_best_18 xs (d + 6) Q v1 v2 y7 v4 (v5 + 1) τ4)))) ∧ (y5 < v3 → ∀ (y9 : Int), y9 = v_Model_standing τ4 → ((v3 ≤ y9 → (w_in (v5 + 1) ∧ LModel_best_18 xs (d + 6) Q v1 v2 v3 v5 (v5 + 1) τ4)) ∧ (y9 < v3 → ∀ (y10 : Int), y10 = v_Model_standing τ4 → (w_in (v5 + 1) ∧ LModel_best_18 xs (d + 6) Q v1 v2 y10 v5 (v5 + 1) τ4))))))))))))))) : LModel_best_18 xs (d + 6) Q v1 v2 v3 v4 v5 σ :=
  (wi_iload5 fModel_best_18 (wi_aload0 fModel_best_19 (wi_getf904 fModel_best_20 (wi_ic_ge fModel_best_21 (fun c13 => (wi_iload2 fModel_best_51 (wi_if_ne fModel_best_52 (fun c1 => (wi_iload3 fModel_best_55 (wi_ret1 fModel_best_56 ((h.1 c13).1 c1)))) (fun c1 => (wi_iload4 fModel_best_53 (wi_goto fModel_best_54 (wi_ret1 fModel_best_56 ((h.1 c13).2 c1)))))))) (fun c13 => (wi_aload0 fModel_best_22 (wi_call1 fModel_best_23 (Nat.le_of_ble_eq_true rfl) (k_Model_starts (h.2 c13).1 (fun τ2 eτ2 => (wi_aload0 fModel_best_24 (wi_iload1 fModel_best_25 (wi_bipush fModel_best_26 (wi_iload5 fModel_best_27 (wi_call4 fModel_best_28 (Nat.le_of_ble_eq_true rfl) (k_Model_becomesOf ((h.2 c13).2 τ2 eτ2).1 (fun τ3 eτ3 => (wi_aload0 fModel_best_29 (wi_bipush fModel_best_30 (wi_call2 fModel_best_31 (Nat.le_of_ble_eq_true rfl) (k_Model_goesTo (((h.2 c13).2 τ2 eτ2).2 τ3 eτ3).1 (fun τ4 eτ4 => (wi_aload0 fModel_best_32 (wi_call1 fModel_best_33 (Nat.le_of_ble_eq_true rfl) (k_Model_standing ((((h.2 c13).2 τ2 eτ2).2 τ3 eτ3).2 τ4 eτ4).1 (wi_iload3 fModel_best_34 (wi_ic_ge fModel_best_35 (fun c12 => (wi_iload4 fModel_best_38 (wi_istore4 fModel_best_39 trivial (wi_aload0 fModel_best_40 (wi_call1 fModel_best_41 (Nat.le_of_ble_eq_true rfl) (k_Model_standing ((((h.2 c13).2 τ2 eτ2).2 τ3 eτ3).2 τ4 eτ4).1 (wi_iload3 fModel_best_42 (wi_ic_ge fModel_best_43 (fun c8 => (wi_iload3 fModel_best_47 (wi_istore3 fModel_best_48 trivial (wi_iinc5 fModel_best_49 trivial ((((((((h.2 c13).2 τ2 eτ2).2 τ3 eτ3).2 τ4 eτ4).2 _ rfl).1 c12) _ rfl).1 c8).1 (wi_goto fModel_best_50 ((((((((h.2 c13).2 τ2 eτ2).2 τ3 eτ3).2 τ4 eτ4).2 _ rfl).1 c12) _ rfl).1 c8).2))))) (fun c8 => (wi_aload0 fModel_best_44 (wi_call1 fModel_best_45 (Nat.le_of_ble_eq_true rfl) (k_Model_standing ((((h.2 c13).2 τ2 eτ2).2 τ3 eτ3).2 τ4 eτ4).1 (wi_goto fModel_best_46 (wi_istore3 fModel_best_48 trivial (wi_iinc5 fModel_best_49 trivial (((((((((h.2 c13).2 τ2 eτ2).2 τ3 eτ3).2 τ4 eτ4).2 _ rfl).1 c12) _ rfl).2 c8) _ rfl).1 (wi_goto fModel_best_50 (((((((((h.2 c13).2 τ2 eτ2).2 τ3 eτ3).2 τ4 eτ4).2 _ rfl).1 c12) _ rfl).2 c8) _ rfl).2)))))))))))))))) (fun c12 => (wi_iload5 fModel_best_36 (wi_goto fModel_best_37 (wi_istore4 fModel_best_39 trivial (wi_aload0 fModel_best_40 (wi_call1 fModel_best_41 (Nat.le_of_ble_eq_true rfl) (k_Model_standing ((((h.2 c13).2 τ2 eτ2).2 τ3 eτ3).2 τ4 eτ4).1 (wi_iload3 fModel_best_42 (wi_ic_ge fModel_best_43 (fun c11 => (wi_iload3 fModel_best_47 (wi_istore3 fModel_best_48 trivial (wi_iinc5 fModel_best_49 trivial ((((((((h.2 c13).2 τ2 eτ2).2 τ3 eτ3).2 τ4 eτ4).2 _ rfl).2 c12) _ rfl).1 c11).1 (wi_goto fModel_best_50 ((((((((h.2 c13).2 τ2 eτ2).2 τ3 eτ3).2 τ4 eτ4).2 _ rfl).2 c12) _ rfl).1 c11).2))))) (fun c11 => (wi_aload0 fModel_best_44 (wi_call1 fModel_best_45 (Nat.le_of_ble_eq_true rfl) (k_Model_standing ((((h.2 c13).2 τ2 eτ2).2 τ3 eτ3).2 τ4 eτ4).1 (wi_goto fModel_best_46 (wi_istore3 fModel_best_48 trivial (wi_iinc5 fModel_best_49 trivial (((((((((h.2 c13).2 τ2 eτ2).2 τ3 eτ3).2 τ4 eτ4).2 _ rfl).2 c12) _ rfl).2 c11) _ rfl).1 (wi_goto fModel_best_50 (((((((((h.2 c13).2 τ2 eτ2).2 τ3 eτ3).2 τ4 eτ4).2 _ rfl).2 c12) _ rfl).2 c11) _ rfl).2)))))))))))))))))))))))))))))))))))))))))))
theorem k_Model_best {xs : List Int} {d : Nat} {Q : Option w_V → w_M → Prop} {x1 : Int} {x2 : Int} {σ : w_M} (hp : p_Model_best x1 x2 σ) (hQ : ∀ (x : Int) (σ' : w_M), q_Model_best x1 x2 σ x σ' → Q (some (.inl x)) σ') : w_Call (xs, d + 6) 210 [.inr (.inr (9, 122)), .inl x1, .inl x2] σ Q := by
  have hM : MI σ := hp
  have hok := hM.ok
  have hs := hM.s
  have hn := hM.n
  unfold q_Model_best F_best at hQ
  have e5 : mS σ 0 0 5 = σ 122 5 := rfl
  have eA : mS σ 0 = w_am σ 123 0 := rfl
  rw [e5, eA] at hQ
  refine bModel_best_0 ⟨hn, fun c => ?_, fun c => ⟨fun c2 => ?_, fun c2 => ?_⟩⟩
  · rw [if_neg (fun q => c q.1)] at hQ
    exact hQ _ _ (m_qr hM rfl)
  · rw [if_pos ⟨c, c2⟩] at hQ
    have hrn : x1.toNat < n_n (w_am σ 123 0) := by rw [n_n_am]; omega
    have es : n_s (w_am σ 123 0) = (σ 122 4).toNat := rfl
    have h04 : w_am σ 123 0 0 4 = σ 122 4 := rfl
    generalize hf : bs_f (w_am σ 123 0) x1.toNat = f at hQ
    refine (w_loop (n := (σ 122 4).toNat) (P := fun i => ∀ τ : w_M, w_f1 σ τ 124 → LModel_best_18 xs (d + 6) Q x1 x2 (bs_F f i).2 (bs_F f i).1 (i : Int) τ) ?_ ?_) σ w_f1.rfl'
    · intro τ F
      have z2 : τ 122 = σ 122 := F 122 (by decide)
      refine bModel_best_18 ⟨fun _ => ⟨fun c3 => ?_, fun c3 => ?_⟩, fun h => by rw [z2] at h; omega⟩
      · rw [if_neg c3] at hQ
        exact hQ _ _ (m_qs hM F rfl)
      · rw [if_pos c3] at hQ
        exact hQ _ _ (m_qs hM F rfl)
    · intro i hi ih τ F
      have z2 : τ 122 = σ 122 := F 122 (by decide)
      simp only [bs_F] at ih
      rw [w_cs1] at ih
      refine bModel_best_18 ⟨fun h => by rw [z2] at h; omega, fun _ => ⟨(m_starts (τ1 := τ) hM F).1, fun τ2 hq2 => ?_⟩⟩
      obtain ⟨a2, F2, -⟩ := (m_starts hM F).2 hq2
      refine ⟨⟨by omega, by decide⟩, fun τ3 hq3 => ?_⟩
      obtain ⟨a3, F3⟩ := m_becomes (d := 6) hM F2 (by decide) (by decide) (by decide) c a2 hq3
      have W3 : n_WF (w_up (w_am σ 123 0) 6 x1.toNat (i : Int)) := n_WF6 hok (by omega)
      have ok3 : m_ok τ3 124 0 := by unfold m_ok; rw [a3]; exact W3
      refine ⟨⟨ok3, by decide⟩, fun τ4 hq4 => ?_⟩
      obtain ⟨a4, F4⟩ := hq4
      rw [a3] at a4
      have ok4 : m_ok τ4 124 0 := by unfold m_ok; rw [a4]; exact (n_goes_all W3 _).1
      have F4' : w_f1 σ τ4 124 := F3.tr F4.1
      have ef : v_Model_standing τ4 = f i := by
        unfold v_Model_standing
        rw [a4, ← hf]
        rfl
      rw [ef]
      refine ⟨ok4, fun y5 e5' => ⟨fun c3 y6 e6 => ⟨fun c4 => ⟨⟨by omega, by omega⟩, ?_⟩, fun c4 => by omega⟩, fun c3 y9 e9 => ⟨fun c4 => by omega, fun c4 y10 e10 => ⟨⟨by omega, by omega⟩, ?_⟩⟩⟩⟩
      · rw [if_neg (by omega)] at ih
        exact ih τ4 F4'
      · rw [if_pos (by omega)] at ih
        rw [e10]
        exact ih τ4 F4'
  · rw [if_neg (fun q => c2 q.2)] at hQ
    exact hQ _ _ (m_qr hM rfl)
/-- the first below k at which it is not -4 -/
noncomputable def ol_g (f : Nat → Int) : Nat → Int
  | 0 => -4
  | k + 1 => if ol_g f k = -4 then (if f k = -4 then -4 else (k : Int)) else ol_g f k
theorem ol_stay {f : Nat → Int} {m : Nat} (h : ¬ ol_g f m = -4) : ∀ n, ol_g f (m + n) = ol_g f m := by
  intro n
  induction n with
  | zero => rfl
  | succ n ih =>
    show (if ol_g f (m + n) = -4 then _ else ol_g f (m + n)) = _
    rw [ih, if_neg h]
noncomputable def ol_f (A : w_M) (r v : Nat) : Int := n_done (w_up A 4 r (v : Int))
noncomputable def F_oil (S : w_S) (r : Int) : Int := if 0 ≤ r ∧ r < S 0 0 5 then ol_g (ol_f (S 0) r.toNat) 10 else -1
noncomputable def p_Plan_leastOilOf (b : Nat) (r : Int) (σ : w_M) : Prop := (n_ok σ b ∧ (32 + 9 ≤ b ∨ b + 9 ≤ 32)) ∧ (0 ≤ r ∧ r < σ b 5)
noncomputable def q_Plan_leastOilOf (b : Nat) (r : Int) (σ : w_M) (x : Int) (σ' : w_M) : Prop := x = ol_g (ol_f (w_ab σ b) r.toNat) 10 ∧ w_fr σ σ' 32 41
theorem fPlan_leastOilOf_0 : w_fe am_c75 0 1 (.bipush 0) := ⟨rfl, rfl⟩
theorem fPlan_leastOilOf_1 : w_fe am_c75 1 2 (.istore 3) := ⟨rfl, rfl⟩
theorem fPlan_leastOilOf_2 : w_fe am_c75 2 3 (.iload 3) := ⟨rfl, rfl⟩
theorem fPlan_leastOilOf_3 : w_fe am_c75 3 4 (.bipush 9) := ⟨rfl, rfl⟩
theorem fPlan_leastOilOf_4 : w_ic am_c75 4 5 .gt 31 := ⟨rfl, rfl⟩
theorem fPlan_leastOilOf_5 : w_fe am_c75 5 6 (.aload 0) := ⟨rfl, rfl⟩
theorem fPlan_leastOilOf_6 : w_fe am_c75 6 7 (.getfield 600) := ⟨rfl, rfl⟩
theorem fPlan_leastOilOf_7 : w_fe am_c75 7 8 (.aload 1) := ⟨rfl, rfl⟩
theorem fPlan_leastOilOf_8 : w_fe am_c75 8 9 (.invokestatic 34) := ⟨rfl, rfl⟩
theorem fPlan_leastOilOf_9 : w_fe am_c75 9 10 (.aload 0) := ⟨rfl, rfl⟩
theorem fPlan_leastOilOf_10 : w_fe am_c75 10 11 (.getfield 600) := ⟨rfl, rfl⟩
theorem fPlan_leastOilOf_11 : w_fe am_c75 11 12 (.iload 2) := ⟨rfl, rfl⟩
theorem fPlan_leastOilOf_12 : w_fe am_c75 12 13 (.invokestatic 38) := ⟨rfl, rfl⟩
theorem fPlan_leastOilOf_13 : w_if am_c75 13 14 .eq 20 := ⟨rfl, rfl⟩
theorem fPlan_leastOilOf_14 : w_fe am_c75 14 15 (.aload 0) := ⟨rfl, rfl⟩
theorem fPlan_leastOilOf_15 : w_fe am_c75 15 16 (.getfield 600) := ⟨rfl, rfl⟩
theorem fPlan_leastOilOf_16 : w_fe am_c75 16 17 (.getfield 210) := ⟨rfl, rfl⟩
theorem fPlan_leastOilOf_17 : w_fe am_c75 17 18 (.iload 2) := ⟨rfl, rfl⟩
theorem fPlan_leastOilOf_18 : w_fe am_c75 18 19 (.iload 3) := ⟨rfl, rfl⟩
theorem fPlan_leastOilOf_19 : w_fe am_c75 19 20 (.iastore) := ⟨rfl, rfl⟩
theorem fPlan_leastOilOf_20 : w_fe am_c75 20 21 (.aload 0) := ⟨rfl, rfl⟩
theorem fPlan_leastOilOf_21 : w_fe am_c75 21 22 (.getfield 600) := ⟨rfl, rfl⟩
theorem fPlan_leastOilOf_22 : w_fe am_c75 22 23 (.bipush 12) := ⟨rfl, rfl⟩
theorem fPlan_leastOilOf_23 : w_fe am_c75 23 24 (.bipush 1000000) := ⟨rfl, rfl⟩
theorem fPlan_leastOilOf_24 : w_fe am_c75 24 25 (.invokestatic 45) := ⟨rfl, rfl⟩
theorem fPlan_leastOilOf_25 : w_fe am_c75 25 26 (.bipush (-4)) := ⟨rfl, rfl⟩
theorem fPlan_leastOilOf_26 : w_ic am_c75 26 27 .eq 29 := ⟨rfl, rfl⟩
theorem fPlan_leastOilOf_27 : w_fe am_c75 27 28 (.iload 3) := ⟨rfl, rfl⟩
theorem fPlan_leastOilOf_28 : w_fe am_c75 28 29 (.ireturn) := ⟨rfl, rfl⟩
theorem fPlan_leastOilOf_29 : w_fe am_c75 29 30 (.iinc 3 1) := ⟨rfl, rfl⟩
theorem fPlan_leastOilOf_30 : w_gt am_c75 30 2 := rfl
theorem fPlan_leastOilOf_31 : w_fe am_c75 31 32 (.bipush (-4)) := ⟨rfl, rfl⟩
theorem fPlan_leastOilOf_32 : w_fe am_c75 32 33 (.ireturn) := ⟨rfl, rfl⟩
noncomputable def LPlan_leastOilOf_2 (xs : List Int) (d : Nat) (Q : Option w_V → w_M → Prop) (r1 : Nat) (v2 : Int) (v3 : Int) (σ : w_M) : Prop := w_Ex (xs, d) 1 am_c75 Q 2 [some (.inr (.inr (6, 31))), some (.inr (.inr (2, r1))), some (.inl v2), some (.inl v3)] [] σ
set_option maxRecDepth 20000 in
theorem bPlan_leastOilOf_0 {xs : List Int} {d : Nat} {Q : Option w_V → w_M → Prop} {b : Nat} {x2 : Int} {σ : w_M}
    (h : LPlan_leastOilOf_2 xs (d + 5) Q b x2 0 σ) : w_Call (xs, (d + 5)) 75 [.inr (.inr (6, 31)), .inr (.inr (2, b)), .inl x2] σ Q :=
  (w_mk (mid := 75) (by decide) rfl rfl rfl rfl rfl (Nat.le_of_ble_eq_true rfl) ⟨rfl, Or.inl (by decide)⟩ (wi_bipush fPlan_leastOilOf_0 (wi_istore3 fPlan_leastOilOf_1 trivial h)))
set_option maxRecDepth 20000 in
theorem bPlan_leastOilOf_2 {xs : List Int} {d : Nat} {Q : Option w_V → w_M → Prop} {r1 : Nat} {v2 : Int} {v3 : Int} {σ : w_M}
    (h : (9 < v3 → Q (some (.inl (-4))) σ) ∧ (v3 ≤ 9 → (p_Field_copyFrom 32 r1 σ ∧ (∀ (τ1 : w_M), q_Field_copyFrom 32 r1 σ τ1 → ((¬ (0 ≤ v2 ∧ v2 < τ1 32 5) → (p_Field_passUntilDone 32 12 1000000 τ1 ∧ (∀ (y2 : Int) (τ3 : w_M), q_Field_passUntilDone 32 12 1000000 τ1 y2 τ3 → ((y2 = (-4) → (w_in (v3 + 1) ∧ LPlan_leastOilOf_2 xs (d + 5) Q r1 v2 (v3 + 1) τ3)) ∧ (¬ y2 = (-4) → Q (some (.inl v3)) τ3))))) ∧ ((0 ≤ v2 ∧ v2 < τ1 32 5) → (0 ≤ v2 ∧ v2 < 4 ∧ (∀ (τ5 : w_M), τ5 = w_up τ1 36 v2.toNat v3 → (p_Field_passUntilDone 32 12 1000000 τ5 ∧ (∀ (y6 : Int) (τ7 : w_M), q_Field_passUntilDone 32 12 1000000 τ5 y6 τ7 → ((y6 = (-4) → (w_in (v3 + 1) ∧ LPlan_leastOilOf_2 xs (d + 5) Q r1 v2 (v3 + 1) τ7)) ∧ (¬ y6 = (-4) → Q (some (.inl v3)) τ7)))))))))))) : LPlan_leastOilOf_2 xs (d + 5) Q r1 v2 v3 σ :=
  (wi_iload3 fPlan_leastOilOf_2 (wi_bipush fPlan_leastOilOf_3 (wi_ic_gt fPlan_leastOilOf_4 (fun c10 => (wi_bipush fPlan_leastOilOf_31 (wi_ret1 fPlan_leastOilOf_32 (h.1 c10)))) (fun c10 => (wi_aload0 fPlan_leastOilOf_5 (wi_getf600 fPlan_leastOilOf_6 (wi_aload1 fPlan_leastOilOf_7 (wi_call2 fPlan_leastOilOf_8 (Nat.le_of_ble_eq_true rfl) (k_Field_copyFrom (h.2 c10).1 (fun τ1 eτ1 => (wi_aload0 fPlan_leastOilOf_9 (wi_getf600 fPlan_leastOilOf_10 (wi_iload2 fPlan_leastOilOf_11 (wi_call2 fPlan_leastOilOf_12 (Nat.le_of_ble_eq_true rfl) (k_Field_isReaper (wi_ifb_eq fPlan_leastOilOf_13 (fun c9 => (wi_aload0 fPlan_leastOilOf_20 (wi_getf600 fPlan_leastOilOf_21 (wi_bipush fPlan_leastOilOf_22 (wi_bipush fPlan_leastOilOf_23 (wi_call3 fPlan_leastOilOf_24 (Nat.le_of_ble_eq_true rfl) (k_Field_passUntilDone (((h.2 c10).2 τ1 eτ1).1 c9).1 (fun y2 τ3 eτ3 => (wi_bipush fPlan_leastOilOf_25 (wi_ic_eq fPlan_leastOilOf_26 (fun c4 => (wi_iinc3 fPlan_leastOilOf_29 trivial (((((h.2 c10).2 τ1 eτ1).1 c9).2 y2 τ3 eτ3).1 c4).1 (wi_goto fPlan_leastOilOf_30 (((((h.2 c10).2 τ1 eτ1).1 c9).2 y2 τ3 eτ3).1 c4).2))) (fun c4 => (wi_iload3 fPlan_leastOilOf_27 (wi_ret1 fPlan_leastOilOf_28 (((((h.2 c10).2 τ1 eτ1).1 c9).2 y2 τ3 eτ3).2 c4)))))))))))))) (fun c9 => (wi_aload0 fPlan_leastOilOf_14 (wi_getf600 fPlan_leastOilOf_15 (wi_getf210 fPlan_leastOilOf_16 (wi_iload2 fPlan_leastOilOf_17 (wi_iload3 fPlan_leastOilOf_18 (wi_iast1004 fPlan_leastOilOf_19 (((h.2 c10).2 τ1 eτ1).2 c9).1 (((h.2 c10).2 τ1 eτ1).2 c9).2.1 (wi_aload0 fPlan_leastOilOf_20 (wi_getf600 fPlan_leastOilOf_21 (wi_bipush fPlan_leastOilOf_22 (wi_bipush fPlan_leastOilOf_23 (wi_call3 fPlan_leastOilOf_24 (Nat.le_of_ble_eq_true rfl) (k_Field_passUntilDone ((((h.2 c10).2 τ1 eτ1).2 c9).2.2 _ rfl).1 (fun y6 τ7 eτ7 => (wi_bipush fPlan_leastOilOf_25 (wi_ic_eq fPlan_leastOilOf_26 (fun c8 => (wi_iinc3 fPlan_leastOilOf_29 trivial ((((((h.2 c10).2 τ1 eτ1).2 c9).2.2 _ rfl).2 y6 τ7 eτ7).1 c8).1 (wi_goto fPlan_leastOilOf_30 ((((((h.2 c10).2 τ1 eτ1).2 c9).2.2 _ rfl).2 y6 τ7 eτ7).1 c8).2))) (fun c8 => (wi_iload3 fPlan_leastOilOf_27 (wi_ret1 fPlan_leastOilOf_28 ((((((h.2 c10).2 τ1 eτ1).2 c9).2.2 _ rfl).2 y6 τ7 eτ7).2 c8))))))))))))))))))))))))))))))))))))
theorem k_Plan_leastOilOf {xs : List Int} {d : Nat} {Q : Option w_V → w_M → Prop} {b : Nat} {x2 : Int} {σ : w_M} (hp : p_Plan_leastOilOf b x2 σ) (hQ : ∀ (x : Int) (σ' : w_M), q_Plan_leastOilOf b x2 σ x σ' → Q (some (.inl x)) σ') : w_Call (xs, d + 5) 75 [.inr (.inr (6, 31)), .inr (.inr (2, b)), .inl x2] σ Q := by
  obtain ⟨⟨hok, hb⟩, hr⟩ := hp
  have hn := n_ok.n hok
  obtain ⟨r, rfl⟩ := Int.eq_ofNat_of_zero_le hr.1
  unfold q_Plan_leastOilOf at hQ
  rw [Int.toNat_natCast] at hQ
  generalize hf : ol_f (w_ab σ b) r = f at hQ
  refine bPlan_leastOilOf_0 ?_
  refine (w_loop (n := 10) (P := fun v => ∀ τ : w_M, w_fr σ τ 32 41 → ol_g f v = -4 → LPlan_leastOilOf_2 xs (d + 5) Q b (r : Int) (v : Int) τ) ?_ ?_) σ w_fr.rfl' rfl
  · intro τ F hg
    exact bPlan_leastOilOf_2 ⟨fun _ => hQ _ _ ⟨hg.symm, F⟩, fun h => by omega⟩
  · intro v hv ih τ F hg
    have zb : τ b = σ b := F b (by omega)
    have abb : w_ab τ b = w_ab σ b := w_ab_fr (fun d hd => F _ (by omega))
    have okb : n_ok τ b := n_ok.of abb hok
    refine bPlan_leastOilOf_2 ⟨fun h => by omega, fun _ => ⟨⟨okb, hb⟩, fun τ2 hq2 => ?_⟩⟩
    obtain ⟨q1, q2, q3⟩ := hq2
    rw [abb] at q1
    have z5 : τ2 32 5 = σ b 5 := congrFun (congrFun q1 0) 5
    refine ⟨fun c => by omega, fun c => ⟨by omega, by omega, fun τ8 t8 => ?_⟩⟩
    rw [Int.toNat_natCast] at t8
    have ab8 : w_ab τ8 32 = w_up (w_ab σ b) 4 r (v : Int) := by
      rw [t8, show (36 : Nat) = 32 + 4 from rfl, w_ab_up (by decide) (by decide) (by rw [w_rl37 (by decide) (by decide), z5]; omega), q1]
    have W8 : n_WF (w_up (w_ab σ b) 4 r (v : Int)) := n_WF4 hok (by omega)
    have F8 : w_fr σ τ8 32 41 := by rw [t8]; exact (F.tr q3).up (by decide) (by decide)
    refine ⟨⟨n_ok.of ab8 W8, by decide, by decide⟩, fun y9 τ10 hq10 => ?_⟩
    obtain ⟨j, p1, p2, p3⟩ := hq10
    rw [ab8] at p1 p2
    obtain ⟨-, ey⟩ := n_pud_done W8 p2
    have ef : y9 = f v := by rw [ey, ← hf]; rfl
    refine ⟨fun c2 => ⟨⟨by omega, by omega⟩, ?_⟩, fun c2 => hQ _ _ ⟨?_, F8.tr p3⟩⟩
    · rw [← w_cs1]
      refine ih τ10 (F8.tr p3) ?_
      show (if ol_g f v = -4 then (if f v = -4 then -4 else (v : Int)) else ol_g f v) = -4
      rw [if_pos hg, if_pos (by omega)]
    · have h1 : ol_g f (v + 1) = (v : Int) := by
        show (if ol_g f v = -4 then (if f v = -4 then -4 else (v : Int)) else ol_g f v) = (v : Int)
        rw [if_pos hg, if_neg (by omega)]
      have h2 := ol_stay (f := f) (m := v + 1) (by omega) (10 - (v + 1))
      rw [show v + 1 + (10 - (v + 1)) = 10 by omega, h1] at h2
      exact h2.symm
noncomputable def p_Moon_oil (_x1 : Int) (σ : w_M) : Prop := CI σ
noncomputable def q_Moon_oil (x1 : Int) (σ : w_M) (x : Int) (σ' : w_M) : Prop := c_q (F_oil (cS σ) x1) (cS σ) σ x σ'
theorem fMoon_oil_0 : w_fe am_c132 0 1 (.aload 0) := ⟨rfl, rfl⟩
theorem fMoon_oil_1 : w_fe am_c132 1 2 (.getfield 2) := ⟨rfl, rfl⟩
theorem fMoon_oil_2 : w_fe am_c132 2 3 (.iload 1) := ⟨rfl, rfl⟩
theorem fMoon_oil_3 : w_fe am_c132 3 4 (.invokestatic 38) := ⟨rfl, rfl⟩
theorem fMoon_oil_4 : w_if am_c132 4 5 .eq 12 := ⟨rfl, rfl⟩
theorem fMoon_oil_5 : w_fe am_c132 5 6 (.aload 0) := ⟨rfl, rfl⟩
theorem fMoon_oil_6 : w_fe am_c132 6 7 (.getfield 4) := ⟨rfl, rfl⟩
theorem fMoon_oil_7 : w_fe am_c132 7 8 (.aload 0) := ⟨rfl, rfl⟩
theorem fMoon_oil_8 : w_fe am_c132 8 9 (.getfield 2) := ⟨rfl, rfl⟩
theorem fMoon_oil_9 : w_fe am_c132 9 10 (.iload 1) := ⟨rfl, rfl⟩
theorem fMoon_oil_10 : w_fe am_c132 10 11 (.invokestatic 75) := ⟨rfl, rfl⟩
theorem fMoon_oil_11 : w_gt am_c132 11 13 := rfl
theorem fMoon_oil_12 : w_fe am_c132 12 13 (.bipush (-1)) := ⟨rfl, rfl⟩
theorem fMoon_oil_13 : w_fe am_c132 13 14 (.ireturn) := ⟨rfl, rfl⟩
set_option maxRecDepth 20000 in
theorem bMoon_oil_0 {xs : List Int} {d : Nat} {Q : Option w_V → w_M → Prop} {x1 : Int} {σ : w_M}
    (h : (¬ (0 ≤ x1 ∧ x1 < σ 14 5) → Q (some (.inl (-1))) σ) ∧ ((0 ≤ x1 ∧ x1 < σ 14 5) → (p_Plan_leastOilOf 14 x1 σ ∧ (∀ (y1 : Int) (τ2 : w_M), q_Plan_leastOilOf 14 x1 σ y1 τ2 → Q (some (.inl y1)) τ2)))) : w_Call (xs, (d + 6)) 132 [.inr (.inr (0, 0)), .inl x1] σ Q :=
  (w_mk (mid := 132) (by decide) rfl rfl rfl rfl rfl (Nat.le_of_ble_eq_true rfl) ⟨rfl, Or.inl (by decide)⟩ (wi_aload0 fMoon_oil_0 (wi_getf2 fMoon_oil_1 (wi_iload1 fMoon_oil_2 (wi_call2 fMoon_oil_3 (Nat.le_of_ble_eq_true rfl) (k_Field_isReaper (wi_ifb_eq fMoon_oil_4 (fun c3 => (wi_bipush fMoon_oil_12 (wi_ret1 fMoon_oil_13 (h.1 c3)))) (fun c3 => (wi_aload0 fMoon_oil_5 (wi_getf4 fMoon_oil_6 (wi_aload0 fMoon_oil_7 (wi_getf2 fMoon_oil_8 (wi_iload1 fMoon_oil_9 (wi_call3 fMoon_oil_10 (Nat.le_of_ble_eq_true rfl) (k_Plan_leastOilOf (h.2 c3).1 (fun y1 τ2 eτ2 => (wi_goto fMoon_oil_11 (wi_ret1 fMoon_oil_13 ((h.2 c3).2 y1 τ2 eτ2)))))))))))))))))))
theorem k_Moon_oil {xs : List Int} {d : Nat} {Q : Option w_V → w_M → Prop} {x1 : Int} {σ : w_M} (hp : p_Moon_oil x1 σ) (hQ : ∀ (x : Int) (σ' : w_M), q_Moon_oil x1 σ x σ' → Q (some (.inl x)) σ') : w_Call (xs, d + 6) 132 [.inr (.inr (0, 0)), .inl x1] σ Q := by
  have hC : CI σ := hp
  have hok := hC.ok
  unfold q_Moon_oil F_oil at hQ
  have e5 : cS σ 0 0 5 = σ 14 5 := rfl
  have eA : cS σ 0 = w_ab σ 14 := rfl
  rw [e5, eA] at hQ
  refine bMoon_oil_0 ⟨fun c => ?_, fun c => ⟨⟨⟨hok, by decide⟩, c⟩, fun y τ hq => ?_⟩⟩
  · rw [if_neg c] at hQ
    exact hQ _ _ (c_qr hC rfl)
  · rw [if_pos c] at hQ
    exact hQ _ _ (c_qs hC (hq.2.wide (by decide) (by decide)) hq.1)
noncomputable def p_Model_oil (_x1 : Int) (σ : w_M) : Prop := MI σ
noncomputable def q_Model_oil (x1 : Int) (σ : w_M) (x : Int) (σ' : w_M) : Prop := m_q (F_oil (mS σ) x1) (mS σ) σ x σ'
theorem fModel_oil_0 : w_fe am_c211 0 1 (.aload 0) := ⟨rfl, rfl⟩
theorem fModel_oil_1 : w_fe am_c211 1 2 (.iload 1) := ⟨rfl, rfl⟩
theorem fModel_oil_2 : w_fe am_c211 2 3 (.invokestatic 181) := ⟨rfl, rfl⟩
theorem fModel_oil_3 : w_if am_c211 3 4 .ne 6 := ⟨rfl, rfl⟩
theorem fModel_oil_4 : w_fe am_c211 4 5 (.bipush (-1)) := ⟨rfl, rfl⟩
theorem fModel_oil_5 : w_fe am_c211 5 6 (.ireturn) := ⟨rfl, rfl⟩
theorem fModel_oil_6 : w_fe am_c211 6 7 (.bipush 0) := ⟨rfl, rfl⟩
theorem fModel_oil_7 : w_fe am_c211 7 8 (.istore 2) := ⟨rfl, rfl⟩
theorem fModel_oil_8 : w_fe am_c211 8 9 (.iload 2) := ⟨rfl, rfl⟩
theorem fModel_oil_9 : w_fe am_c211 9 10 (.bipush 9) := ⟨rfl, rfl⟩
theorem fModel_oil_10 : w_ic am_c211 10 11 .gt 26 := ⟨rfl, rfl⟩
theorem fModel_oil_11 : w_fe am_c211 11 12 (.aload 0) := ⟨rfl, rfl⟩
theorem fModel_oil_12 : w_fe am_c211 12 13 (.invokestatic 174) := ⟨rfl, rfl⟩
theorem fModel_oil_13 : w_fe am_c211 13 14 (.aload 0) := ⟨rfl, rfl⟩
theorem fModel_oil_14 : w_fe am_c211 14 15 (.iload 1) := ⟨rfl, rfl⟩
theorem fModel_oil_15 : w_fe am_c211 15 16 (.bipush 1) := ⟨rfl, rfl⟩
theorem fModel_oil_16 : w_fe am_c211 16 17 (.iload 2) := ⟨rfl, rfl⟩
theorem fModel_oil_17 : w_fe am_c211 17 18 (.invokestatic 199) := ⟨rfl, rfl⟩
theorem fModel_oil_18 : w_fe am_c211 18 19 (.aload 0) := ⟨rfl, rfl⟩
theorem fModel_oil_19 : w_fe am_c211 19 20 (.invokestatic 204) := ⟨rfl, rfl⟩
theorem fModel_oil_20 : w_fe am_c211 20 21 (.bipush (-4)) := ⟨rfl, rfl⟩
theorem fModel_oil_21 : w_ic am_c211 21 22 .eq 24 := ⟨rfl, rfl⟩
theorem fModel_oil_22 : w_fe am_c211 22 23 (.iload 2) := ⟨rfl, rfl⟩
theorem fModel_oil_23 : w_fe am_c211 23 24 (.ireturn) := ⟨rfl, rfl⟩
theorem fModel_oil_24 : w_fe am_c211 24 25 (.iinc 2 1) := ⟨rfl, rfl⟩
theorem fModel_oil_25 : w_gt am_c211 25 8 := rfl
theorem fModel_oil_26 : w_fe am_c211 26 27 (.bipush (-4)) := ⟨rfl, rfl⟩
theorem fModel_oil_27 : w_fe am_c211 27 28 (.ireturn) := ⟨rfl, rfl⟩
noncomputable def LModel_oil_8 (xs : List Int) (d : Nat) (Q : Option w_V → w_M → Prop) (v1 : Int) (v2 : Int) (σ : w_M) : Prop := w_Ex (xs, d) 1 am_c211 Q 8 [some (.inr (.inr (9, 122))), some (.inl v1), some (.inl v2)] [] σ
set_option maxRecDepth 20000 in
theorem bModel_oil_0 {xs : List Int} {d : Nat} {Q : Option w_V → w_M → Prop} {x1 : Int} {σ : w_M}
    (h : p_Model_isReaper x1 σ ∧ (((0 ≤ x1 ∧ x1 < σ 122 5) → LModel_oil_8 xs (d + 6) Q x1 0 σ) ∧ (¬ (0 ≤ x1 ∧ x1 < σ 122 5) → Q (some (.inl (-1))) σ))) : w_Call (xs, (d + 6)) 211 [.inr (.inr (9, 122)), .inl x1] σ Q :=
  (w_mk (mid := 211) (by decide) rfl rfl rfl rfl rfl (Nat.le_of_ble_eq_true rfl) ⟨rfl, Or.inl (by decide)⟩ (wi_aload0 fModel_oil_0 (wi_iload1 fModel_oil_1 (wi_call2 fModel_oil_2 (Nat.le_of_ble_eq_true rfl) (k_Model_isReaper h.1 (wi_ifb_ne fModel_oil_3 (fun c1 => (wi_bipush fModel_oil_6 (wi_istore2 fModel_oil_7 trivial (h.2.1 c1)))) (fun c1 => (wi_bipush fModel_oil_4 (wi_ret1 fModel_oil_5 (h.2.2 c1))))))))))
set_option maxRecDepth 20000 in
theorem bModel_oil_8 {xs : List Int} {d : Nat} {Q : Option w_V → w_M → Prop} {v1 : Int} {v2 : Int} {σ : w_M}
    (h : (9 < v2 → Q (some (.inl (-4))) σ) ∧ (v2 ≤ 9 → (p_Model_starts σ ∧ (∀ (τ1 : w_M), q_Model_starts σ τ1 → (p_Model_becomesOf v1 1 v2 τ1 ∧ (∀ (τ2 : w_M), q_Model_becomesOf v1 1 v2 τ1 τ2 → (p_Model_doneBehind τ2 ∧ (∀ (y3 : Int) (τ4 : w_M), q_Model_doneBehind τ2 y3 τ4 → ((y3 = (-4) → (w_in (v2 + 1) ∧ LModel_oil_8 xs (d + 6) Q v1 (v2 + 1) τ4)) ∧ (¬ y3 = (-4) → Q (some (.inl v2)) τ4)))))))))) : LModel_oil_8 xs (d + 6) Q v1 v2 σ :=
  (wi_iload2 fModel_oil_8 (wi_bipush fModel_oil_9 (wi_ic_gt fModel_oil_10 (fun c6 => (wi_bipush fModel_oil_26 (wi_ret1 fModel_oil_27 (h.1 c6)))) (fun c6 => (wi_aload0 fModel_oil_11 (wi_call1 fModel_oil_12 (Nat.le_of_ble_eq_true rfl) (k_Model_starts (h.2 c6).1 (fun τ1 eτ1 => (wi_aload0 fModel_oil_13 (wi_iload1 fModel_oil_14 (wi_bipush fModel_oil_15 (wi_iload2 fModel_oil_16 (wi_call4 fModel_oil_17 (Nat.le_of_ble_eq_true rfl) (k_Model_becomesOf ((h.2 c6).2 τ1 eτ1).1 (fun τ2 eτ2 => (wi_aload0 fModel_oil_18 (wi_call1 fModel_oil_19 (Nat.le_of_ble_eq_true rfl) (k_Model_doneBehind (((h.2 c6).2 τ1 eτ1).2 τ2 eτ2).1 (fun y3 τ4 eτ4 => (wi_bipush fModel_oil_20 (wi_ic_eq fModel_oil_21 (fun c5 => (wi_iinc2 fModel_oil_24 trivial (((((h.2 c6).2 τ1 eτ1).2 τ2 eτ2).2 y3 τ4 eτ4).1 c5).1 (wi_goto fModel_oil_25 (((((h.2 c6).2 τ1 eτ1).2 τ2 eτ2).2 y3 τ4 eτ4).1 c5).2))) (fun c5 => (wi_iload2 fModel_oil_22 (wi_ret1 fModel_oil_23 (((((h.2 c6).2 τ1 eτ1).2 τ2 eτ2).2 y3 τ4 eτ4).2 c5)))))))))))))))))))))))))
theorem k_Model_oil {xs : List Int} {d : Nat} {Q : Option w_V → w_M → Prop} {x1 : Int} {σ : w_M} (hp : p_Model_oil x1 σ) (hQ : ∀ (x : Int) (σ' : w_M), q_Model_oil x1 σ x σ' → Q (some (.inl x)) σ') : w_Call (xs, d + 6) 211 [.inr (.inr (9, 122)), .inl x1] σ Q := by
  have hM : MI σ := hp
  have hok := hM.ok
  have hn := hM.n
  unfold q_Model_oil F_oil at hQ
  have e5 : mS σ 0 0 5 = σ 122 5 := rfl
  have eA : mS σ 0 = w_am σ 123 0 := rfl
  rw [e5, eA] at hQ
  refine bModel_oil_0 ⟨hn, fun c => ?_, fun c => ?_⟩
  · rw [if_pos c] at hQ
    generalize hf : ol_f (w_am σ 123 0) x1.toNat = f at hQ
    refine (w_loop (n := 10) (P := fun v => ∀ τ : w_M, w_f1 σ τ 124 → ol_g f v = -4 → LModel_oil_8 xs (d + 6) Q x1 (v : Int) τ) ?_ ?_) σ w_f1.rfl' rfl
    · intro τ F hg
      exact bModel_oil_8 ⟨fun _ => hQ _ _ (m_qs hM F hg.symm), fun h => by omega⟩
    · intro v hv ih τ F hg
      refine bModel_oil_8 ⟨fun h => by omega, fun _ => ⟨(m_starts (τ1 := τ) hM F).1, fun τ2 hq2 => ?_⟩⟩
      obtain ⟨a2, F2, -⟩ := (m_starts hM F).2 hq2
      refine ⟨⟨by omega, by decide⟩, fun τ3 hq3 => ?_⟩
      obtain ⟨a3, F3⟩ := m_becomes (d := 4) hM F2 (by decide) (by decide) (by decide) c a2 hq3
      have W3 : n_WF (w_up (w_am σ 123 0) 4 x1.toNat (v : Int)) := n_WF4 hok (by omega)
      have ok3 : m_ok τ3 124 0 := by unfold m_ok; rw [a3]; exact W3
      refine ⟨ok3, fun y τ4 hq4 => ?_⟩
      obtain ⟨-, ey, F4⟩ := hq4
      rw [a3] at ey
      have ef : y = f v := by rw [ey, ← hf]; rfl
      refine ⟨fun c2 => ⟨⟨by omega, by omega⟩, ?_⟩, fun c2 => hQ _ _ (m_qs hM (F3.tr F4) ?_)⟩
      · rw [← w_cs1]
        refine ih τ4 (F3.tr F4) ?_
        show (if ol_g f v = -4 then (if f v = -4 then -4 else (v : Int)) else ol_g f v) = -4
        rw [if_pos hg, if_pos (by omega)]
      · have h1 : ol_g f (v + 1) = (v : Int) := by
          show (if ol_g f v = -4 then (if f v = -4 then -4 else (v : Int)) else ol_g f v) = (v : Int)
          rw [if_pos hg, if_neg (by omega)]
        have h2 := ol_stay (f := f) (m := v + 1) (by omega) (10 - (v + 1))
        rw [show v + 1 + (10 - (v + 1)) = 10 by omega, h1] at h2
        exact h2.symm
  · rw [if_neg c] at hQ
    exact hQ _ _ (m_qr hM rfl)
