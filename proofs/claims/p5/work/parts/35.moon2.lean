/-! The class's calls: lend, cloud, thistle, hours -/
theorem n_ok.of {σ : w_M} {a : Nat} {A : w_M} (h : w_ab σ a = A) (hA : n_WF A) : n_ok σ a := by unfold n_ok; rw [h]; exact hA
noncomputable def p_Plan_after (b : Nat) (n : Int) (σ : w_M) : Prop := (n_ok σ b ∧ (32 + 9 ≤ b ∨ b + 9 ≤ 32)) ∧ (0 ≤ n ∧ n ≤ 12)
noncomputable def q_Plan_after (b : Nat) (n : Int) (σ σ' : w_M) : Prop := w_ab σ' 32 = n_goes (w_ab σ b) n.toNat ∧ w_fr σ σ' 32 41
theorem fPlan_after_0 : w_fe am_c64 0 1 (.aload 0) := ⟨rfl, rfl⟩
theorem fPlan_after_1 : w_fe am_c64 1 2 (.getfield 600) := ⟨rfl, rfl⟩
theorem fPlan_after_2 : w_fe am_c64 2 3 (.aload 1) := ⟨rfl, rfl⟩
theorem fPlan_after_3 : w_fe am_c64 3 4 (.invokestatic 34) := ⟨rfl, rfl⟩
theorem fPlan_after_4 : w_fe am_c64 4 5 (.aload 0) := ⟨rfl, rfl⟩
theorem fPlan_after_5 : w_fe am_c64 5 6 (.getfield 600) := ⟨rfl, rfl⟩
theorem fPlan_after_6 : w_fe am_c64 6 7 (.iload 2) := ⟨rfl, rfl⟩
theorem fPlan_after_7 : w_fe am_c64 7 8 (.invokestatic 40) := ⟨rfl, rfl⟩
theorem fPlan_after_8 : w_fe am_c64 8 9 (.pop) := ⟨rfl, rfl⟩
theorem fPlan_after_9 : w_fe am_c64 9 10 (.aload 0) := ⟨rfl, rfl⟩
theorem fPlan_after_10 : w_fe am_c64 10 11 (.getfield 600) := ⟨rfl, rfl⟩
theorem fPlan_after_11 : w_fe am_c64 11 12 (.ireturn) := ⟨rfl, rfl⟩
set_option maxRecDepth 20000 in
theorem bPlan_after_0 {xs : List Int} {d : Nat} {Q : Option w_V → w_M → Prop} {b : Nat} {x2 : Int} {σ : w_M}
    (h : p_Field_copyFrom 32 b σ ∧ (∀ (τ1 : w_M), q_Field_copyFrom 32 b σ τ1 → (p_Field_pass 32 x2 τ1 ∧ (∀ (y2 : Int) (τ3 : w_M), q_Field_pass 32 x2 τ1 y2 τ3 → Q (some (.inr (.inr (2, 32)))) τ3)))) : w_Call (xs, (d + 5)) 64 [.inr (.inr (6, 31)), .inr (.inr (2, b)), .inl x2] σ Q :=
  (w_mk (mid := 64) (by decide) rfl rfl rfl rfl rfl (Nat.le_of_ble_eq_true rfl) ⟨rfl, Or.inl (by decide)⟩ (wi_aload0 fPlan_after_0 (wi_getf600 fPlan_after_1 (wi_aload1 fPlan_after_2 (wi_call2 fPlan_after_3 (Nat.le_of_ble_eq_true rfl) (k_Field_copyFrom h.1 (fun τ1 eτ1 => (wi_aload0 fPlan_after_4 (wi_getf600 fPlan_after_5 (wi_iload2 fPlan_after_6 (wi_call2 fPlan_after_7 (Nat.le_of_ble_eq_true rfl) (k_Field_pass (h.2 τ1 eτ1).1 (fun y2 τ3 eτ3 => (wi_pop_i fPlan_after_8 (wi_aload0 fPlan_after_9 (wi_getf600 fPlan_after_10 (wi_ret4 fPlan_after_11 ((h.2 τ1 eτ1).2 y2 τ3 eτ3))))))))))))))))))
theorem k_Plan_after {xs : List Int} {d : Nat} {Q : Option w_V → w_M → Prop} {b : Nat} {x2 : Int} {σ : w_M} (hp : p_Plan_after b x2 σ) (hQ : ∀ σ' : w_M, q_Plan_after b x2 σ σ' → Q (some (.inr (.inr (2, 32)))) σ') : w_Call (xs, d + 5) 64 [.inr (.inr (6, 31)), .inr (.inr (2, b)), .inl x2] σ Q := by
  obtain ⟨hp1, hn⟩ := hp
  refine bPlan_after_0 ⟨hp1, fun τ1 hq => ⟨⟨n_ok.of hq.1 hp1.1, hn⟩, fun y τ3 hq3 => hQ _ ⟨?_, hq.2.2.tr hq3.2.2.1⟩⟩⟩
  rw [hq3.1, hq.1]
noncomputable def p_Plan_doneAfter (b : Nat) (σ : w_M) : Prop := n_ok σ b ∧ (32 + 9 ≤ b ∨ b + 9 ≤ 32)
noncomputable def q_Plan_doneAfter (b : Nat) (σ : w_M) (x : Int) (σ' : w_M) : Prop := x = n_done (w_ab σ b) ∧ w_fr σ σ' 32 41
theorem fPlan_doneAfter_0 : w_fe am_c65 0 1 (.aload 0) := ⟨rfl, rfl⟩
theorem fPlan_doneAfter_1 : w_fe am_c65 1 2 (.getfield 600) := ⟨rfl, rfl⟩
theorem fPlan_doneAfter_2 : w_fe am_c65 2 3 (.aload 1) := ⟨rfl, rfl⟩
theorem fPlan_doneAfter_3 : w_fe am_c65 3 4 (.invokestatic 34) := ⟨rfl, rfl⟩
theorem fPlan_doneAfter_4 : w_fe am_c65 4 5 (.aload 0) := ⟨rfl, rfl⟩
theorem fPlan_doneAfter_5 : w_fe am_c65 5 6 (.getfield 600) := ⟨rfl, rfl⟩
theorem fPlan_doneAfter_6 : w_fe am_c65 6 7 (.bipush 12) := ⟨rfl, rfl⟩
theorem fPlan_doneAfter_7 : w_fe am_c65 7 8 (.bipush 1000000) := ⟨rfl, rfl⟩
theorem fPlan_doneAfter_8 : w_fe am_c65 8 9 (.invokestatic 45) := ⟨rfl, rfl⟩
theorem fPlan_doneAfter_9 : w_fe am_c65 9 10 (.ireturn) := ⟨rfl, rfl⟩
set_option maxRecDepth 20000 in
theorem bPlan_doneAfter_0 {xs : List Int} {d : Nat} {Q : Option w_V → w_M → Prop} {b : Nat} {σ : w_M}
    (h : p_Field_copyFrom 32 b σ ∧ (∀ (τ1 : w_M), q_Field_copyFrom 32 b σ τ1 → (p_Field_passUntilDone 32 12 1000000 τ1 ∧ (∀ (y2 : Int) (τ3 : w_M), q_Field_passUntilDone 32 12 1000000 τ1 y2 τ3 → Q (some (.inl y2)) τ3)))) : w_Call (xs, (d + 5)) 65 [.inr (.inr (6, 31)), .inr (.inr (2, b))] σ Q :=
  (w_mk (mid := 65) (by decide) rfl rfl rfl rfl rfl (Nat.le_of_ble_eq_true rfl) ⟨rfl, Or.inl (by decide)⟩ (wi_aload0 fPlan_doneAfter_0 (wi_getf600 fPlan_doneAfter_1 (wi_aload1 fPlan_doneAfter_2 (wi_call2 fPlan_doneAfter_3 (Nat.le_of_ble_eq_true rfl) (k_Field_copyFrom h.1 (fun τ1 eτ1 => (wi_aload0 fPlan_doneAfter_4 (wi_getf600 fPlan_doneAfter_5 (wi_bipush fPlan_doneAfter_6 (wi_bipush fPlan_doneAfter_7 (wi_call3 fPlan_doneAfter_8 (Nat.le_of_ble_eq_true rfl) (k_Field_passUntilDone (h.2 τ1 eτ1).1 (fun y2 τ3 eτ3 => (wi_ret1 fPlan_doneAfter_9 ((h.2 τ1 eτ1).2 y2 τ3 eτ3))))))))))))))))
theorem k_Plan_doneAfter {xs : List Int} {d : Nat} {Q : Option w_V → w_M → Prop} {b : Nat} {σ : w_M} (hp : p_Plan_doneAfter b σ) (hQ : ∀ (x : Int) (σ' : w_M), q_Plan_doneAfter b σ x σ' → Q (some (.inl x)) σ') : w_Call (xs, d + 5) 65 [.inr (.inr (6, 31)), .inr (.inr (2, b))] σ Q := by
  refine bPlan_doneAfter_0 ⟨hp, fun τ1 hq => ⟨⟨n_ok.of hq.1 hp.1, by decide, by decide⟩, fun y τ3 hq3 => hQ _ _ ?_⟩⟩
  obtain ⟨j, h1, h2, h3⟩ := hq3
  rw [hq.1] at h2
  exact ⟨(n_pud_done hp.1 h2).2, hq.2.2.tr h3⟩
noncomputable def p_Moon_lend (_x1 : Int) (_x2 : Int) (_x3 : Int) (σ : w_M) : Prop := CI σ
noncomputable def q_Moon_lend (x1 : Int) (x2 : Int) (x3 : Int) (σ : w_M) (x : Int) (σ' : w_M) : Prop := c_q (F_lend (cS σ) x1 x2 x3) (G_lend (cS σ) x1 x2 x3) σ x σ'
theorem fMoon_lend_0 : w_fe am_c117 0 1 (.aload 0) := ⟨rfl, rfl⟩
theorem fMoon_lend_1 : w_fe am_c117 1 2 (.getfield 2) := ⟨rfl, rfl⟩
theorem fMoon_lend_2 : w_fe am_c117 2 3 (.iload 1) := ⟨rfl, rfl⟩
theorem fMoon_lend_3 : w_fe am_c117 3 4 (.invokestatic 38) := ⟨rfl, rfl⟩
theorem fMoon_lend_4 : w_if am_c117 4 5 .eq 18 := ⟨rfl, rfl⟩
theorem fMoon_lend_5 : w_fe am_c117 5 6 (.aload 0) := ⟨rfl, rfl⟩
theorem fMoon_lend_6 : w_fe am_c117 6 7 (.getfield 2) := ⟨rfl, rfl⟩
theorem fMoon_lend_7 : w_fe am_c117 7 8 (.iload 2) := ⟨rfl, rfl⟩
theorem fMoon_lend_8 : w_fe am_c117 8 9 (.invokestatic 38) := ⟨rfl, rfl⟩
theorem fMoon_lend_9 : w_if am_c117 9 10 .eq 18 := ⟨rfl, rfl⟩
theorem fMoon_lend_10 : w_fe am_c117 10 11 (.iload 1) := ⟨rfl, rfl⟩
theorem fMoon_lend_11 : w_fe am_c117 11 12 (.iload 2) := ⟨rfl, rfl⟩
theorem fMoon_lend_12 : w_ic am_c117 12 13 .eq 18 := ⟨rfl, rfl⟩
theorem fMoon_lend_13 : w_fe am_c117 13 14 (.iload 3) := ⟨rfl, rfl⟩
theorem fMoon_lend_14 : w_fe am_c117 14 15 (.bipush 0) := ⟨rfl, rfl⟩
theorem fMoon_lend_15 : w_fe am_c117 15 16 (.bipush 9) := ⟨rfl, rfl⟩
theorem fMoon_lend_16 : w_fe am_c117 16 17 (.invokestatic 107) := ⟨rfl, rfl⟩
theorem fMoon_lend_17 : w_if am_c117 17 18 .ne 20 := ⟨rfl, rfl⟩
theorem fMoon_lend_18 : w_fe am_c117 18 19 (.bipush (-1)) := ⟨rfl, rfl⟩
theorem fMoon_lend_19 : w_fe am_c117 19 20 (.ireturn) := ⟨rfl, rfl⟩
theorem fMoon_lend_20 : w_fe am_c117 20 21 (.aload 0) := ⟨rfl, rfl⟩
theorem fMoon_lend_21 : w_fe am_c117 21 22 (.getfield 2) := ⟨rfl, rfl⟩
theorem fMoon_lend_22 : w_fe am_c117 22 23 (.getfield 212) := ⟨rfl, rfl⟩
theorem fMoon_lend_23 : w_fe am_c117 23 24 (.iload 1) := ⟨rfl, rfl⟩
theorem fMoon_lend_24 : w_fe am_c117 24 25 (.iaload) := ⟨rfl, rfl⟩
theorem fMoon_lend_25 : w_fe am_c117 25 26 (.aload 0) := ⟨rfl, rfl⟩
theorem fMoon_lend_26 : w_fe am_c117 26 27 (.getfield 2) := ⟨rfl, rfl⟩
theorem fMoon_lend_27 : w_fe am_c117 27 28 (.getfield 212) := ⟨rfl, rfl⟩
theorem fMoon_lend_28 : w_fe am_c117 28 29 (.iload 2) := ⟨rfl, rfl⟩
theorem fMoon_lend_29 : w_fe am_c117 29 30 (.iaload) := ⟨rfl, rfl⟩
theorem fMoon_lend_30 : w_fe am_c117 30 31 (.isub) := ⟨rfl, rfl⟩
theorem fMoon_lend_31 : w_fe am_c117 31 32 (.invokestatic 0) := ⟨rfl, rfl⟩
theorem fMoon_lend_32 : w_fe am_c117 32 33 (.bipush 1) := ⟨rfl, rfl⟩
theorem fMoon_lend_33 : w_ic am_c117 33 34 .gt 41 := ⟨rfl, rfl⟩
theorem fMoon_lend_34 : w_fe am_c117 34 35 (.aload 0) := ⟨rfl, rfl⟩
theorem fMoon_lend_35 : w_fe am_c117 35 36 (.getfield 2) := ⟨rfl, rfl⟩
theorem fMoon_lend_36 : w_fe am_c117 36 37 (.getfield 210) := ⟨rfl, rfl⟩
theorem fMoon_lend_37 : w_fe am_c117 37 38 (.iload 1) := ⟨rfl, rfl⟩
theorem fMoon_lend_38 : w_fe am_c117 38 39 (.iaload) := ⟨rfl, rfl⟩
theorem fMoon_lend_39 : w_fe am_c117 39 40 (.iload 3) := ⟨rfl, rfl⟩
theorem fMoon_lend_40 : w_ic am_c117 40 41 .ge 43 := ⟨rfl, rfl⟩
theorem fMoon_lend_41 : w_fe am_c117 41 42 (.bipush (-2)) := ⟨rfl, rfl⟩
theorem fMoon_lend_42 : w_fe am_c117 42 43 (.ireturn) := ⟨rfl, rfl⟩
theorem fMoon_lend_43 : w_fe am_c117 43 44 (.aload 0) := ⟨rfl, rfl⟩
theorem fMoon_lend_44 : w_fe am_c117 44 45 (.getfield 2) := ⟨rfl, rfl⟩
theorem fMoon_lend_45 : w_fe am_c117 45 46 (.getfield 210) := ⟨rfl, rfl⟩
theorem fMoon_lend_46 : w_fe am_c117 46 47 (.iload 2) := ⟨rfl, rfl⟩
theorem fMoon_lend_47 : w_fe am_c117 47 48 (.iaload) := ⟨rfl, rfl⟩
theorem fMoon_lend_48 : w_fe am_c117 48 49 (.iload 3) := ⟨rfl, rfl⟩
theorem fMoon_lend_49 : w_fe am_c117 49 50 (.iadd) := ⟨rfl, rfl⟩
theorem fMoon_lend_50 : w_fe am_c117 50 51 (.bipush 9) := ⟨rfl, rfl⟩
theorem fMoon_lend_51 : w_ic am_c117 51 52 .le 54 := ⟨rfl, rfl⟩
theorem fMoon_lend_52 : w_fe am_c117 52 53 (.bipush (-3)) := ⟨rfl, rfl⟩
theorem fMoon_lend_53 : w_fe am_c117 53 54 (.ireturn) := ⟨rfl, rfl⟩
theorem fMoon_lend_54 : w_fe am_c117 54 55 (.aload 0) := ⟨rfl, rfl⟩
theorem fMoon_lend_55 : w_fe am_c117 55 56 (.getfield 2) := ⟨rfl, rfl⟩
theorem fMoon_lend_56 : w_fe am_c117 56 57 (.getfield 210) := ⟨rfl, rfl⟩
theorem fMoon_lend_57 : w_fe am_c117 57 58 (.iload 1) := ⟨rfl, rfl⟩
theorem fMoon_lend_58 : w_fe am_c117 58 59 (.dup2) := ⟨rfl, rfl⟩
theorem fMoon_lend_59 : w_fe am_c117 59 60 (.iaload) := ⟨rfl, rfl⟩
theorem fMoon_lend_60 : w_fe am_c117 60 61 (.iload 3) := ⟨rfl, rfl⟩
theorem fMoon_lend_61 : w_fe am_c117 61 62 (.isub) := ⟨rfl, rfl⟩
theorem fMoon_lend_62 : w_fe am_c117 62 63 (.iastore) := ⟨rfl, rfl⟩
theorem fMoon_lend_63 : w_fe am_c117 63 64 (.aload 0) := ⟨rfl, rfl⟩
theorem fMoon_lend_64 : w_fe am_c117 64 65 (.getfield 2) := ⟨rfl, rfl⟩
theorem fMoon_lend_65 : w_fe am_c117 65 66 (.getfield 210) := ⟨rfl, rfl⟩
theorem fMoon_lend_66 : w_fe am_c117 66 67 (.iload 2) := ⟨rfl, rfl⟩
theorem fMoon_lend_67 : w_fe am_c117 67 68 (.dup2) := ⟨rfl, rfl⟩
theorem fMoon_lend_68 : w_fe am_c117 68 69 (.iaload) := ⟨rfl, rfl⟩
theorem fMoon_lend_69 : w_fe am_c117 69 70 (.iload 3) := ⟨rfl, rfl⟩
theorem fMoon_lend_70 : w_fe am_c117 70 71 (.iadd) := ⟨rfl, rfl⟩
theorem fMoon_lend_71 : w_fe am_c117 71 72 (.iastore) := ⟨rfl, rfl⟩
theorem fMoon_lend_72 : w_fe am_c117 72 73 (.aload 0) := ⟨rfl, rfl⟩
theorem fMoon_lend_73 : w_fe am_c117 73 74 (.getfield 2) := ⟨rfl, rfl⟩
theorem fMoon_lend_74 : w_fe am_c117 74 75 (.getfield 210) := ⟨rfl, rfl⟩
theorem fMoon_lend_75 : w_fe am_c117 75 76 (.iload 2) := ⟨rfl, rfl⟩
theorem fMoon_lend_76 : w_fe am_c117 76 77 (.iaload) := ⟨rfl, rfl⟩
theorem fMoon_lend_77 : w_fe am_c117 77 78 (.ireturn) := ⟨rfl, rfl⟩
set_option maxRecDepth 20000 in
theorem bMoon_lend_0 {xs : List Int} {d : Nat} {Q : Option w_V → w_M → Prop} {x1 : Int} {x2 : Int} {x3 : Int} {σ : w_M}
    (h : (¬ (0 ≤ x1 ∧ x1 < σ 14 5) → Q (some (.inl (-1))) σ) ∧ ((0 ≤ x1 ∧ x1 < σ 14 5) → ((¬ (0 ≤ x2 ∧ x2 < σ 14 5) → Q (some (.inl (-1))) σ) ∧ ((0 ≤ x2 ∧ x2 < σ 14 5) → ((x1 = x2 → Q (some (.inl (-1))) σ) ∧ (¬ x1 = x2 → (((0 ≤ x3 ∧ x3 ≤ 9) → (0 ≤ x1 ∧ x1 < 4 ∧ 0 ≤ x2 ∧ x2 < 4 ∧ w_in ((σ 20 x1.toNat) - (σ 20 x2.toNat)) ∧ p_Math_abs ((σ 20 x1.toNat) - (σ 20 x2.toNat)) ∧ (∀ (y1 : Int), y1 = v_Math_abs ((σ 20 x1.toNat) - (σ 20 x2.toNat)) → ((1 < y1 → Q (some (.inl (-2))) σ) ∧ (y1 ≤ 1 → ((x3 ≤ (σ 18 x1.toNat) → (w_in ((σ 18 x2.toNat) + x3) ∧ ((((σ 18 x2.toNat) + x3) ≤ 9 → (w_in ((σ 18 x1.toNat) - x3) ∧ (∀ (τ2 : w_M), τ2 = w_up σ 18 x1.toNat ((σ 18 x1.toNat) - x3) → (w_in ((τ2 18 x2.toNat) + x3) ∧ (∀ (τ3 : w_M), τ3 = w_up τ2 18 x2.toNat ((τ2 18 x2.toNat) + x3) → Q (some (.inl (τ3 18 x2.toNat))) τ3))))) ∧ (9 < ((σ 18 x2.toNat) + x3) → Q (some (.inl (-3))) σ)))) ∧ ((σ 18 x1.toNat) < x3 → Q (some (.inl (-2))) σ))))))) ∧ (¬ (0 ≤ x3 ∧ x3 ≤ 9) → Q (some (.inl (-1))) σ)))))))) : w_Call (xs, (d + 1)) 117 [.inr (.inr (0, 0)), .inl x1, .inl x2, .inl x3] σ Q :=
  (w_mk (mid := 117) (by decide) rfl rfl rfl rfl rfl (Nat.le_of_ble_eq_true rfl) ⟨rfl, Or.inl (by decide)⟩ (wi_aload0 fMoon_lend_0 (wi_getf2 fMoon_lend_1 (wi_iload1 fMoon_lend_2 (wi_call2 fMoon_lend_3 (Nat.le_of_ble_eq_true rfl) (k_Field_isReaper (wi_ifb_eq fMoon_lend_4 (fun c10 => (wi_bipush fMoon_lend_18 (wi_ret1 fMoon_lend_19 (h.1 c10)))) (fun c10 => (wi_aload0 fMoon_lend_5 (wi_getf2 fMoon_lend_6 (wi_iload2 fMoon_lend_7 (wi_call2 fMoon_lend_8 (Nat.le_of_ble_eq_true rfl) (k_Field_isReaper (wi_ifb_eq fMoon_lend_9 (fun c9 => (wi_bipush fMoon_lend_18 (wi_ret1 fMoon_lend_19 ((h.2 c10).1 c9)))) (fun c9 => (wi_iload1 fMoon_lend_10 (wi_iload2 fMoon_lend_11 (wi_ic_eq fMoon_lend_12 (fun c8 => (wi_bipush fMoon_lend_18 (wi_ret1 fMoon_lend_19 (((h.2 c10).2 c9).1 c8)))) (fun c8 => (wi_iload3 fMoon_lend_13 (wi_bipush fMoon_lend_14 (wi_bipush fMoon_lend_15 (wi_call3 fMoon_lend_16 (Nat.le_of_ble_eq_true rfl) (k_Moon_isWithin (wi_ifb_ne fMoon_lend_17 (fun c7 => (wi_aload0 fMoon_lend_20 (wi_getf2 fMoon_lend_21 (wi_getf212 fMoon_lend_22 (wi_iload1 fMoon_lend_23 (wi_iald1004 fMoon_lend_24 ((((h.2 c10).2 c9).2 c8).1 c7).1 ((((h.2 c10).2 c9).2 c8).1 c7).2.1 (wi_aload0 fMoon_lend_25 (wi_getf2 fMoon_lend_26 (wi_getf212 fMoon_lend_27 (wi_iload2 fMoon_lend_28 (wi_iald1004 fMoon_lend_29 ((((h.2 c10).2 c9).2 c8).1 c7).2.2.1 ((((h.2 c10).2 c9).2 c8).1 c7).2.2.2.1 (wi_isub fMoon_lend_30 ((((h.2 c10).2 c9).2 c8).1 c7).2.2.2.2.1 (wi_call1 fMoon_lend_31 (Nat.le_of_ble_eq_true rfl) (k_Math_abs ((((h.2 c10).2 c9).2 c8).1 c7).2.2.2.2.2.1 (wi_bipush fMoon_lend_32 (wi_ic_gt fMoon_lend_33 (fun c6 => (wi_bipush fMoon_lend_41 (wi_ret1 fMoon_lend_42 ((((((h.2 c10).2 c9).2 c8).1 c7).2.2.2.2.2.2 _ rfl).1 c6)))) (fun c6 => (wi_aload0 fMoon_lend_34 (wi_getf2 fMoon_lend_35 (wi_getf210 fMoon_lend_36 (wi_iload1 fMoon_lend_37 (wi_iald1004 fMoon_lend_38 ((((h.2 c10).2 c9).2 c8).1 c7).1 ((((h.2 c10).2 c9).2 c8).1 c7).2.1 (wi_iload3 fMoon_lend_39 (wi_ic_ge fMoon_lend_40 (fun c5 => (wi_aload0 fMoon_lend_43 (wi_getf2 fMoon_lend_44 (wi_getf210 fMoon_lend_45 (wi_iload2 fMoon_lend_46 (wi_iald1004 fMoon_lend_47 ((((h.2 c10).2 c9).2 c8).1 c7).2.2.1 ((((h.2 c10).2 c9).2 c8).1 c7).2.2.2.1 (wi_iload3 fMoon_lend_48 (wi_iadd fMoon_lend_49 (((((((h.2 c10).2 c9).2 c8).1 c7).2.2.2.2.2.2 _ rfl).2 c6).1 c5).1 (wi_bipush fMoon_lend_50 (wi_ic_le fMoon_lend_51 (fun c4 => (wi_aload0 fMoon_lend_54 (wi_getf2 fMoon_lend_55 (wi_getf210 fMoon_lend_56 (wi_iload1 fMoon_lend_57 (wi_dup2 fMoon_lend_58 (wi_iald1004 fMoon_lend_59 ((((h.2 c10).2 c9).2 c8).1 c7).1 ((((h.2 c10).2 c9).2 c8).1 c7).2.1 (wi_iload3 fMoon_lend_60 (wi_isub fMoon_lend_61 ((((((((h.2 c10).2 c9).2 c8).1 c7).2.2.2.2.2.2 _ rfl).2 c6).1 c5).2.1 c4).1 (wi_iast1004 fMoon_lend_62 ((((h.2 c10).2 c9).2 c8).1 c7).1 ((((h.2 c10).2 c9).2 c8).1 c7).2.1 (wi_aload0 fMoon_lend_63 (wi_getf2 fMoon_lend_64 (wi_getf210 fMoon_lend_65 (wi_iload2 fMoon_lend_66 (wi_dup2 fMoon_lend_67 (wi_iald1004 fMoon_lend_68 ((((h.2 c10).2 c9).2 c8).1 c7).2.2.1 ((((h.2 c10).2 c9).2 c8).1 c7).2.2.2.1 (wi_iload3 fMoon_lend_69 (wi_iadd fMoon_lend_70 (((((((((h.2 c10).2 c9).2 c8).1 c7).2.2.2.2.2.2 _ rfl).2 c6).1 c5).2.1 c4).2 _ rfl).1 (wi_iast1004 fMoon_lend_71 ((((h.2 c10).2 c9).2 c8).1 c7).2.2.1 ((((h.2 c10).2 c9).2 c8).1 c7).2.2.2.1 (wi_aload0 fMoon_lend_72 (wi_getf2 fMoon_lend_73 (wi_getf210 fMoon_lend_74 (wi_iload2 fMoon_lend_75 (wi_iald1004 fMoon_lend_76 ((((h.2 c10).2 c9).2 c8).1 c7).2.2.1 ((((h.2 c10).2 c9).2 c8).1 c7).2.2.2.1 (wi_ret1 fMoon_lend_77 ((((((((((h.2 c10).2 c9).2 c8).1 c7).2.2.2.2.2.2 _ rfl).2 c6).1 c5).2.1 c4).2 _ rfl).2 _ rfl)))))))))))))))))))))))))) (fun c4 => (wi_bipush fMoon_lend_52 (wi_ret1 fMoon_lend_53 ((((((((h.2 c10).2 c9).2 c8).1 c7).2.2.2.2.2.2 _ rfl).2 c6).1 c5).2.2 c4)))))))))))))) (fun c5 => (wi_bipush fMoon_lend_41 (wi_ret1 fMoon_lend_42 (((((((h.2 c10).2 c9).2 c8).1 c7).2.2.2.2.2.2 _ rfl).2 c6).2 c5)))))))))))))))))))))))))))) (fun c7 => (wi_bipush fMoon_lend_18 (wi_ret1 fMoon_lend_19 ((((h.2 c10).2 c9).2 c8).2 c7)))))))))))))))))))))))))))))
theorem F_lend_bad {S : w_S} {a b o : Int} (h : ¬ P_lend S a b o) : F_lend S a b o = -1 ∧ G_lend S a b o = S := ⟨if_neg h, if_neg (fun q => h q.1)⟩
theorem F_lend_state {S : w_S} {a b o : Int} (h : P_lend S a b o) (h2 : ¬ P_near S a b o) : F_lend S a b o = -2 ∧ G_lend S a b o = S := ⟨(if_pos h).trans (if_neg h2), if_neg (fun q => h2 q.2.1)⟩
theorem F_lend_full {S : w_S} {a b o : Int} (h : P_lend S a b o) (h2 : P_near S a b o) (h3 : ¬ S 0 4 b.toNat + o ≤ 9) : F_lend S a b o = -3 ∧ G_lend S a b o = S := ⟨((if_pos h).trans (if_pos h2)).trans (if_neg h3), if_neg (fun q => h3 q.2.2)⟩
theorem F_lend_ok {S : w_S} {a b o : Int} (h : P_lend S a b o) (h2 : P_near S a b o) (h3 : S 0 4 b.toNat + o ≤ 9) : F_lend S a b o = S 0 4 b.toNat + o ∧ G_lend S a b o = w_sp S 0 (w_up (w_up (S 0) 4 a.toNat (S 0 4 a.toNat - o)) 4 b.toNat (S 0 4 b.toNat + o)) := ⟨((if_pos h).trans (if_pos h2)).trans (if_pos h3), if_pos ⟨h, h2, h3⟩⟩
theorem n_WF_lend {A : w_M} (h : n_WF A) {a b : Nat} {o : Int} (ha : a < n_n A) (hb : b < n_n A) (ho : 0 ≤ o) (h1 : o ≤ A 4 a) (h2 : A 4 b + o ≤ 9) : n_WF (w_up (w_up A 4 a (A 4 a - o)) 4 b (A 4 b + o)) := by
  have r1 := (h.r ha).2.1
  have r2 := (h.r hb).2.1
  refine n_WF_up (n_WF_up h ?_ ?_ ?_ ?_ ?_ ?_ ?_ ?_) ?_ ?_ ?_ ?_ ?_ ?_ ?_ ?_ <;> (intros; omega)
set_option maxHeartbeats 1000000 in
theorem k_Moon_lend {xs : List Int} {d : Nat} {Q : Option w_V → w_M → Prop} {x1 : Int} {x2 : Int} {x3 : Int} {σ : w_M} (hp : p_Moon_lend x1 x2 x3 σ) (hQ : ∀ (x : Int) (σ' : w_M), q_Moon_lend x1 x2 x3 σ x σ' → Q (some (.inl x)) σ') : w_Call (xs, d + 1) 117 [.inr (.inr (0, 0)), .inl x1, .inl x2, .inl x3] σ Q := by
  have hC : CI σ := hp
  have hok := hC.ok
  have hn := n_ok.n hok
  unfold q_Moon_lend at hQ
  have bad : ¬ P_lend (cS σ) x1 x2 x3 → Q (some (.inl (-1))) σ := fun h => by
    obtain ⟨e1, e2⟩ := F_lend_bad h
    rw [e1, e2] at hQ
    exact hQ _ _ (c_qr hC rfl)
  refine bMoon_lend_0 ⟨fun c => bad (fun q => c q.1.1), fun c => ⟨fun c2 => bad (fun q => c2 q.1.2.1), fun c2 => ⟨fun c3 => bad (fun q => q.1.2.2 c3), fun c3 => ⟨fun c4 => ?_, fun c4 => bad (fun q => c4 q.2)⟩⟩⟩⟩
  have hL : P_lend (cS σ) x1 x2 x3 := ⟨⟨c, c2, c3⟩, c4⟩
  have r1 := n_WF.r hok (show x1.toNat < n_n (w_ab σ 14) by rw [n_n_ab]; omega)
  have r2 := n_WF.r hok (show x2.toNat < n_n (w_ab σ 14) by rw [n_n_ab]; omega)
  have a1 : σ 20 x1.toNat = w_ab σ 14 6 x1.toNat := c_rdr (a := 14) (d := 6) hok (by decide) (by decide) c
  have a2 : σ 20 x2.toNat = w_ab σ 14 6 x2.toNat := c_rdr (a := 14) (d := 6) hok (by decide) (by decide) c2
  have o1 : σ 18 x1.toNat = w_ab σ 14 4 x1.toNat := c_rdr (a := 14) (d := 4) hok (by decide) (by decide) c
  have o2 : σ 18 x2.toNat = w_ab σ 14 4 x2.toNat := c_rdr (a := 14) (d := 4) hok (by decide) (by decide) c2
  have h04 : w_ab σ 14 0 4 = σ 14 4 := rfl
  have hs := n_ok.s hok
  have hne : x2.toNat ≠ x1.toNat := by omega
  rw [a1, a2, o1, o2]
  refine ⟨c.1, by omega, c2.1, by omega, ⟨by omega, by omega⟩, ⟨by omega, by omega⟩, fun y ey => ⟨fun d1 => ?_, fun d1 => ⟨fun d2 => ⟨⟨by omega, by omega⟩, fun d3 => ⟨⟨by omega, by omega⟩, fun τ2 t2 => ?_⟩, fun d3 => ?_⟩, fun d2 => ?_⟩⟩⟩
  · obtain ⟨e1, e2⟩ := F_lend_state hL (fun q => by
      have q1 : -1 ≤ w_ab σ 14 6 x1.toNat - w_ab σ 14 6 x2.toNat ∧ w_ab σ 14 6 x1.toNat - w_ab σ 14 6 x2.toNat ≤ 1 := q.1
      unfold v_Math_abs at ey
      split at ey <;> omega)
    rw [e1, e2] at hQ
    exact hQ _ _ (c_qr hC rfl)
  · have hN : P_near (cS σ) x1 x2 x3 := by
      refine ⟨?_, d2⟩
      show -1 ≤ w_ab σ 14 6 x1.toNat - w_ab σ 14 6 x2.toNat ∧ w_ab σ 14 6 x1.toNat - w_ab σ 14 6 x2.toNat ≤ 1
      unfold v_Math_abs at ey
      split at ey <;> omega
    obtain ⟨e1, e2⟩ := F_lend_ok hL hN d3
    rw [e1, e2] at hQ
    have z2 : τ2 14 = σ 14 := by rw [t2]; exact w_up_ne (by decide)
    have v2 : τ2 18 x2.toNat = w_ab σ 14 4 x2.toNat := by rw [t2, w_up_j hne]; exact o2
    rw [v2]
    refine ⟨⟨by omega, by omega⟩, fun τ3 t3 => hQ _ _ ?_⟩
    have A2 : w_ab τ2 14 = w_up (w_ab σ 14) 4 x1.toNat (w_ab σ 14 4 x1.toNat - x3) := by rw [t2]; exact w_ab_up (a := 14) (d := 4) (by decide) (by decide) (by rw [w_rl37 (by decide) (by decide)]; omega)
    have A3 : w_ab τ3 14 = w_up (w_ab τ2 14) 4 x2.toNat (w_ab σ 14 4 x2.toNat + x3) := by rw [t3]; exact w_ab_up (a := 14) (d := 4) (by decide) (by decide) (by rw [w_rl37 (by decide) (by decide), z2]; omega)
    refine c_q0 hC (by rw [t3, t2]; exact (w_fr.up0 (by omega) (by omega)).up (by omega) (by omega)) (by rw [A3, A2]; rfl) (n_WF_lend hok (by rw [n_n_ab]; omega) (by rw [n_n_ab]; omega) c4.1 d2 d3) ?_ ?_ ?_ ?_ ?_
    · show w_up (w_up (w_ab σ 14) 4 _ _) 4 _ _ 0 0 = σ 14 0; rw [w_up_ne (by decide), w_up_ne (by decide)]; rfl
    · show w_up (w_up (w_ab σ 14) 4 _ _) 4 _ _ 0 4 = σ 14 4; rw [w_up_ne (by decide), w_up_ne (by decide)]; rfl
    · show w_up (w_up (w_ab σ 14) 4 _ _) 4 _ _ 0 5 = σ 14 5; rw [w_up_ne (by decide), w_up_ne (by decide)]; rfl
    · rw [t3, w_up_ne (by decide), z2]; exact hC.2.1
    · rw [t3, w_up_at]; rfl
  · have hN : P_near (cS σ) x1 x2 x3 := by
      refine ⟨?_, d2⟩
      show -1 ≤ w_ab σ 14 6 x1.toNat - w_ab σ 14 6 x2.toNat ∧ w_ab σ 14 6 x1.toNat - w_ab σ 14 6 x2.toNat ≤ 1
      unfold v_Math_abs at ey
      split at ey <;> omega
    obtain ⟨e1, e2⟩ := F_lend_full hL hN (fun q => by have q' : w_ab σ 14 4 x2.toNat + x3 ≤ 9 := q; omega)
    rw [e1, e2] at hQ
    exact hQ _ _ (c_qr hC rfl)
  · obtain ⟨e1, e2⟩ := F_lend_state hL (fun q => by have q' : x3 ≤ w_ab σ 14 4 x1.toNat := q.2; omega)
    rw [e1, e2] at hQ
    exact hQ _ _ (c_qr hC rfl)
noncomputable def p_Moon_cloud (_x1 : Int) (x2 : Int) (σ : w_M) : Prop := CI σ ∧ (x2 = 0 ∨ x2 = 1)
noncomputable def q_Moon_cloud (x1 : Int) (x2 : Int) (σ : w_M) (x : Int) (σ' : w_M) : Prop := c_q (F_cloud (cS σ) x1 x2) (G_cloud (cS σ) x1 x2) σ x σ'
theorem fMoon_cloud_0 : w_fe am_c120 0 1 (.iload 1) := ⟨rfl, rfl⟩
theorem fMoon_cloud_1 : w_fe am_c120 1 2 (.bipush 0) := ⟨rfl, rfl⟩
theorem fMoon_cloud_2 : w_fe am_c120 2 3 (.aload 0) := ⟨rfl, rfl⟩
theorem fMoon_cloud_3 : w_fe am_c120 3 4 (.getfield 2) := ⟨rfl, rfl⟩
theorem fMoon_cloud_4 : w_fe am_c120 4 5 (.getfield 200) := ⟨rfl, rfl⟩
theorem fMoon_cloud_5 : w_fe am_c120 5 6 (.bipush 1) := ⟨rfl, rfl⟩
theorem fMoon_cloud_6 : w_fe am_c120 6 7 (.isub) := ⟨rfl, rfl⟩
theorem fMoon_cloud_7 : w_fe am_c120 7 8 (.invokestatic 107) := ⟨rfl, rfl⟩
theorem fMoon_cloud_8 : w_if am_c120 8 9 .ne 11 := ⟨rfl, rfl⟩
theorem fMoon_cloud_9 : w_fe am_c120 9 10 (.bipush (-1)) := ⟨rfl, rfl⟩
theorem fMoon_cloud_10 : w_fe am_c120 10 11 (.ireturn) := ⟨rfl, rfl⟩
theorem fMoon_cloud_11 : w_fe am_c120 11 12 (.aload 0) := ⟨rfl, rfl⟩
theorem fMoon_cloud_12 : w_fe am_c120 12 13 (.getfield 2) := ⟨rfl, rfl⟩
theorem fMoon_cloud_13 : w_fe am_c120 13 14 (.iload 1) := ⟨rfl, rfl⟩
theorem fMoon_cloud_14 : w_fe am_c120 14 15 (.invokestatic 29) := ⟨rfl, rfl⟩
theorem fMoon_cloud_15 : w_if am_c120 15 16 .eq 18 := ⟨rfl, rfl⟩
theorem fMoon_cloud_16 : w_fe am_c120 16 17 (.bipush 1) := ⟨rfl, rfl⟩
theorem fMoon_cloud_17 : w_gt am_c120 17 19 := rfl
theorem fMoon_cloud_18 : w_fe am_c120 18 19 (.bipush 0) := ⟨rfl, rfl⟩
theorem fMoon_cloud_19 : w_fe am_c120 19 20 (.istore 3) := ⟨rfl, rfl⟩
theorem fMoon_cloud_20 : w_fe am_c120 20 21 (.aload 0) := ⟨rfl, rfl⟩
theorem fMoon_cloud_21 : w_fe am_c120 21 22 (.getfield 2) := ⟨rfl, rfl⟩
theorem fMoon_cloud_22 : w_fe am_c120 22 23 (.aload 0) := ⟨rfl, rfl⟩
theorem fMoon_cloud_23 : w_fe am_c120 23 24 (.getfield 2) := ⟨rfl, rfl⟩
theorem fMoon_cloud_24 : w_fe am_c120 24 25 (.getfield 202) := ⟨rfl, rfl⟩
theorem fMoon_cloud_25 : w_fe am_c120 25 26 (.iload 1) := ⟨rfl, rfl⟩
theorem fMoon_cloud_26 : w_fe am_c120 26 27 (.iload 2) := ⟨rfl, rfl⟩
theorem fMoon_cloud_27 : w_fe am_c120 27 28 (.invokestatic 110) := ⟨rfl, rfl⟩
theorem fMoon_cloud_28 : w_fe am_c120 28 29 (.putfield 202) := ⟨rfl, rfl⟩
theorem fMoon_cloud_29 : w_fe am_c120 29 30 (.iload 3) := ⟨rfl, rfl⟩
theorem fMoon_cloud_30 : w_fe am_c120 30 31 (.ireturn) := ⟨rfl, rfl⟩
set_option maxRecDepth 20000 in
theorem bMoon_cloud_0 {xs : List Int} {d : Nat} {Q : Option w_V → w_M → Prop} {x1 : Int} {x2 : Int} {σ : w_M}
    (h : w_in ((σ 14 0) - 1) ∧ (((0 ≤ x1 ∧ x1 ≤ ((σ 14 0) - 1)) → ((¬ (¬ w_and (w_shr (σ 14 2) x1) 1 = 0) → ∀ (y1 : Int), y1 = v_Moon_withBit (σ 14 2) x1 x2 → ∀ (τ2 : w_M), τ2 = w_up σ 14 2 y1 → Q (some (.inl 0)) τ2) ∧ ((¬ w_and (w_shr (σ 14 2) x1) 1 = 0) → ∀ (y3 : Int), y3 = v_Moon_withBit (σ 14 2) x1 x2 → ∀ (τ4 : w_M), τ4 = w_up σ 14 2 y3 → Q (some (.inl 1)) τ4))) ∧ (¬ (0 ≤ x1 ∧ x1 ≤ ((σ 14 0) - 1)) → Q (some (.inl (-1))) σ))) : w_Call (xs, (d + 1)) 120 [.inr (.inr (0, 0)), .inl x1, .inl x2] σ Q :=
  (w_mk (mid := 120) (by decide) rfl rfl rfl rfl rfl (Nat.le_of_ble_eq_true rfl) ⟨rfl, Or.inl (by decide)⟩ (wi_iload1 fMoon_cloud_0 (wi_bipush fMoon_cloud_1 (wi_aload0 fMoon_cloud_2 (wi_getf2 fMoon_cloud_3 (wi_getf200 fMoon_cloud_4 (wi_bipush fMoon_cloud_5 (wi_isub fMoon_cloud_6 h.1 (wi_call3 fMoon_cloud_7 (Nat.le_of_ble_eq_true rfl) (k_Moon_isWithin (wi_ifb_ne fMoon_cloud_8 (fun c6 => (wi_aload0 fMoon_cloud_11 (wi_getf2 fMoon_cloud_12 (wi_iload1 fMoon_cloud_13 (wi_call2 fMoon_cloud_14 (Nat.le_of_ble_eq_true rfl) (k_Field_isCloudy (wi_ifb_eq fMoon_cloud_15 (fun c5 => (wi_bipush fMoon_cloud_18 (wi_istore3 fMoon_cloud_19 trivial (wi_aload0 fMoon_cloud_20 (wi_getf2 fMoon_cloud_21 (wi_aload0 fMoon_cloud_22 (wi_getf2 fMoon_cloud_23 (wi_getf202 fMoon_cloud_24 (wi_iload1 fMoon_cloud_25 (wi_iload2 fMoon_cloud_26 (wi_call3 fMoon_cloud_27 (Nat.le_of_ble_eq_true rfl) (k_Moon_withBit (wi_putf202 fMoon_cloud_28 (wi_iload3 fMoon_cloud_29 (wi_ret1 fMoon_cloud_30 ((((h.2.1 c6).1 c5) _ rfl) _ rfl)))))))))))))))) (fun c5 => (wi_bipush fMoon_cloud_16 (wi_goto fMoon_cloud_17 (wi_istore3 fMoon_cloud_19 trivial (wi_aload0 fMoon_cloud_20 (wi_getf2 fMoon_cloud_21 (wi_aload0 fMoon_cloud_22 (wi_getf2 fMoon_cloud_23 (wi_getf202 fMoon_cloud_24 (wi_iload1 fMoon_cloud_25 (wi_iload2 fMoon_cloud_26 (wi_call3 fMoon_cloud_27 (Nat.le_of_ble_eq_true rfl) (k_Moon_withBit (wi_putf202 fMoon_cloud_28 (wi_iload3 fMoon_cloud_29 (wi_ret1 fMoon_cloud_30 ((((h.2.1 c6).2 c5) _ rfl) _ rfl)))))))))))))))))))))))) (fun c6 => (wi_bipush fMoon_cloud_9 (wi_ret1 fMoon_cloud_10 (h.2.2 c6)))))))))))))))
theorem k_Moon_cloud {xs : List Int} {d : Nat} {Q : Option w_V → w_M → Prop} {x1 : Int} {x2 : Int} {σ : w_M} (hp : p_Moon_cloud x1 x2 σ) (hQ : ∀ (x : Int) (σ' : w_M), q_Moon_cloud x1 x2 σ x σ' → Q (some (.inl x)) σ') : w_Call (xs, d + 1) 120 [.inr (.inr (0, 0)), .inl x1, .inl x2] σ Q := by
  obtain ⟨hC, hb⟩ := hp
  have hok := hC.ok
  have hrs := n_ok.hrs hok
  have hcl : 0 ≤ σ 14 2 ∧ σ 14 2 ≤ 4095 := hok.2.2.1
  unfold q_Moon_cloud F_cloud G_cloud at hQ
  have e0 : cS σ 0 0 0 = σ 14 0 := rfl
  have e2 : cS σ 0 0 2 = σ 14 2 := rfl
  have ec : n_cl (cS σ 0) x1 = w_and (w_shr (σ 14 2) x1) 1 := rfl
  rw [e0, e2, ec] at hQ
  have h01 := w_and1 (w_shr (σ 14 2) x1)
  have main : 0 ≤ x1 ∧ x1 < σ 14 0 → ∀ (x : Int), x = w_and (w_shr (σ 14 2) x1) 1 → ∀ y : Int, y = v_Moon_withBit (σ 14 2) x1 x2 → ∀ τ : w_M, τ = w_up σ 14 2 y → Q (some (.inl x)) τ := by
    intro c x ex y ey τ t
    have hb2 := w_cl_bits (is := x2) hcl (show 0 ≤ x1 ∧ x1 < 12 by omega)
    rw [if_pos c, if_pos c] at hQ
    refine hQ _ _ (c_q0 hC (by rw [t]; exact w_fr.up0 (by omega) (by omega)) (by rw [t, ey]; exact w_ab_up0 (by decide)) ?_ ?_ ?_ ?_ ?_ ex)
    · refine n_WF_up hok ?_ ?_ ?_ ?_ ?_ ?_ ?_ ?_ <;> (intros; omega)
    · show w_up (w_ab σ 14) 0 2 _ 0 0 = σ 14 0; rw [w_up_j (by decide)]; rfl
    · show w_up (w_ab σ 14) 0 2 _ 0 4 = σ 14 4; rw [w_up_j (by decide)]; rfl
    · show w_up (w_ab σ 14) 0 2 _ 0 5 = σ 14 5; rw [w_up_j (by decide)]; rfl
    · rw [t, w_up_j (by decide)]; exact hC.2.1
  refine bMoon_cloud_0 ⟨⟨by omega, by omega⟩, fun c => ⟨fun z y ey τ t => ?_, fun z y ey τ t => ?_⟩, fun c => ?_⟩
  · exact main (by omega) 0 (Classical.not_not.mp z).symm y ey τ t
  · exact main (by omega) 1 (h01.resolve_left z).symm y ey τ t
  · rw [if_neg (by omega), if_neg (by omega)] at hQ
    exact hQ _ _ (c_qr hC rfl)
theorem w_th_rng : ∀ m, m < 128 → ∀ i, i < 7 → (0 ≤ v_Moon_withBit (m : Nat) (i : Nat) 1 ∧ v_Moon_withBit (m : Nat) (i : Nat) 1 ≤ 127) ∧ (0 ≤ v_Moon_withBit (m : Nat) (i : Nat) 0 ∧ v_Moon_withBit (m : Nat) (i : Nat) 0 ≤ 127) := by decide +kernel
theorem w_ab_up6 {σ : w_M} {a i : Nat} {is : Int} (hs : (σ a 4).toNat ≤ 7) (hi : i < (σ a 4).toNat) (hm : 0 ≤ σ a 6 ∧ σ a 6 ≤ 127) (hb : is = 0 ∨ is = 1) : w_ab (w_up σ a 6 (v_Moon_withBit (σ a 6) i is)) a = w_up (w_ab σ a) 9 i is := by
  have h4 : w_up σ a 6 (v_Moon_withBit (σ a 6) i is) a 4 = σ a 4 := w_up_j (by decide)
  have h5 : w_up σ a 6 (v_Moon_withBit (σ a 6) i is) a 5 = σ a 5 := w_up_j (by decide)
  have hr : ∀ k, w_rl (w_up σ a 6 (v_Moon_withBit (σ a 6) i is)) a k = w_rl σ a k := fun k => by unfold w_rl; rw [h4, h5]
  obtain ⟨m, em⟩ := Int.eq_ofNat_of_zero_le hm.1
  funext k q
  rw [show w_up (w_ab σ a) 9 i is k q = if k = 9 ∧ q = i then is else w_ab σ a k q from rfl]
  unfold w_ab
  rw [hr, h4, w_up_at]
  by_cases hk : k < 9
  · rw [if_pos hk]
    rw [if_neg (show ¬ (k = 9 ∧ q = i) by omega), if_pos hk]
    by_cases hq : q < w_rl σ a k
    · rw [if_pos hq, if_pos hq]
      by_cases hk0 : k = 0
      · subst hk0
        have : q < 6 := hq
        exact w_up_j (by omega)
      · rw [w_up_ne (by omega)]
    · rw [if_neg hq, if_neg hq]
  · rw [if_neg hk]
    by_cases h9 : k = 9
    · subst h9
      rw [if_pos rfl]
      by_cases hq : q < (σ a 4).toNat
      · rw [if_pos hq]
        have hb2 := w_th_bits m (by omega) (7 * i + q) (by omega)
        rw [show (7 * i + q) / 7 = i by omega, show (7 * i + q) % 7 = q by omega] at hb2
        by_cases hqi : q = i
        · rw [if_pos ⟨rfl, hqi⟩, em]
          rcases hb with rfl | rfl
          · rw [hb2.2, if_pos hqi]
          · rw [hb2.1, if_pos hqi]
        · rw [if_neg (show ¬ (9 = 9 ∧ q = i) from fun e => hqi e.2), if_neg (show ¬ 9 < 9 by decide), if_pos rfl, if_pos hq, em]
          rcases hb with rfl | rfl
          · rw [hb2.2, if_neg hqi]
          · rw [hb2.1, if_neg hqi]
      · rw [if_neg hq, if_neg (show ¬ (9 = 9 ∧ q = i) by omega), if_neg (show ¬ 9 < 9 by decide), if_pos rfl, if_neg hq]
    · rw [if_neg h9, if_neg (show ¬ (k = 9 ∧ q = i) from fun e => h9 e.1), if_neg hk, if_neg h9]
noncomputable def p_Moon_thistle (_x1 : Int) (x2 : Int) (σ : w_M) : Prop := CI σ ∧ (x2 = 0 ∨ x2 = 1)
noncomputable def q_Moon_thistle (x1 : Int) (x2 : Int) (σ : w_M) (x : Int) (σ' : w_M) : Prop := c_q (F_thistle (cS σ) x1 x2) (G_thistle (cS σ) x1 x2) σ x σ'
theorem fMoon_thistle_0 : w_fe am_c121 0 1 (.aload 0) := ⟨rfl, rfl⟩
theorem fMoon_thistle_1 : w_fe am_c121 1 2 (.getfield 2) := ⟨rfl, rfl⟩
theorem fMoon_thistle_2 : w_fe am_c121 2 3 (.iload 1) := ⟨rfl, rfl⟩
theorem fMoon_thistle_3 : w_fe am_c121 3 4 (.invokestatic 33) := ⟨rfl, rfl⟩
theorem fMoon_thistle_4 : w_if am_c121 4 5 .ne 7 := ⟨rfl, rfl⟩
theorem fMoon_thistle_5 : w_fe am_c121 5 6 (.bipush (-1)) := ⟨rfl, rfl⟩
theorem fMoon_thistle_6 : w_fe am_c121 6 7 (.ireturn) := ⟨rfl, rfl⟩
theorem fMoon_thistle_7 : w_fe am_c121 7 8 (.aload 0) := ⟨rfl, rfl⟩
theorem fMoon_thistle_8 : w_fe am_c121 8 9 (.getfield 2) := ⟨rfl, rfl⟩
theorem fMoon_thistle_9 : w_fe am_c121 9 10 (.iload 1) := ⟨rfl, rfl⟩
theorem fMoon_thistle_10 : w_fe am_c121 10 11 (.invokestatic 30) := ⟨rfl, rfl⟩
theorem fMoon_thistle_11 : w_if am_c121 11 12 .eq 14 := ⟨rfl, rfl⟩
theorem fMoon_thistle_12 : w_fe am_c121 12 13 (.bipush 1) := ⟨rfl, rfl⟩
theorem fMoon_thistle_13 : w_gt am_c121 13 15 := rfl
theorem fMoon_thistle_14 : w_fe am_c121 14 15 (.bipush 0) := ⟨rfl, rfl⟩
theorem fMoon_thistle_15 : w_fe am_c121 15 16 (.istore 3) := ⟨rfl, rfl⟩
theorem fMoon_thistle_16 : w_fe am_c121 16 17 (.aload 0) := ⟨rfl, rfl⟩
theorem fMoon_thistle_17 : w_fe am_c121 17 18 (.getfield 2) := ⟨rfl, rfl⟩
theorem fMoon_thistle_18 : w_fe am_c121 18 19 (.aload 0) := ⟨rfl, rfl⟩
theorem fMoon_thistle_19 : w_fe am_c121 19 20 (.getfield 2) := ⟨rfl, rfl⟩
theorem fMoon_thistle_20 : w_fe am_c121 20 21 (.getfield 206) := ⟨rfl, rfl⟩
theorem fMoon_thistle_21 : w_fe am_c121 21 22 (.iload 1) := ⟨rfl, rfl⟩
theorem fMoon_thistle_22 : w_fe am_c121 22 23 (.iload 2) := ⟨rfl, rfl⟩
theorem fMoon_thistle_23 : w_fe am_c121 23 24 (.invokestatic 110) := ⟨rfl, rfl⟩
theorem fMoon_thistle_24 : w_fe am_c121 24 25 (.putfield 206) := ⟨rfl, rfl⟩
theorem fMoon_thistle_25 : w_fe am_c121 25 26 (.iload 3) := ⟨rfl, rfl⟩
theorem fMoon_thistle_26 : w_fe am_c121 26 27 (.ireturn) := ⟨rfl, rfl⟩
set_option maxRecDepth 20000 in
theorem bMoon_thistle_0 {xs : List Int} {d : Nat} {Q : Option w_V → w_M → Prop} {x1 : Int} {x2 : Int} {σ : w_M}
    (h : ((0 ≤ x1 ∧ x1 < σ 14 4) → ((¬ (¬ w_and (w_shr (σ 14 6) x1) 1 = 0) → ∀ (y1 : Int), y1 = v_Moon_withBit (σ 14 6) x1 x2 → ∀ (τ2 : w_M), τ2 = w_up σ 14 6 y1 → Q (some (.inl 0)) τ2) ∧ ((¬ w_and (w_shr (σ 14 6) x1) 1 = 0) → ∀ (y3 : Int), y3 = v_Moon_withBit (σ 14 6) x1 x2 → ∀ (τ4 : w_M), τ4 = w_up σ 14 6 y3 → Q (some (.inl 1)) τ4))) ∧ (¬ (0 ≤ x1 ∧ x1 < σ 14 4) → Q (some (.inl (-1))) σ)) : w_Call (xs, (d + 1)) 121 [.inr (.inr (0, 0)), .inl x1, .inl x2] σ Q :=
  (w_mk (mid := 121) (by decide) rfl rfl rfl rfl rfl (Nat.le_of_ble_eq_true rfl) ⟨rfl, Or.inl (by decide)⟩ (wi_aload0 fMoon_thistle_0 (wi_getf2 fMoon_thistle_1 (wi_iload1 fMoon_thistle_2 (wi_call2 fMoon_thistle_3 (Nat.le_of_ble_eq_true rfl) (k_Field_isStrip (wi_ifb_ne fMoon_thistle_4 (fun c6 => (wi_aload0 fMoon_thistle_7 (wi_getf2 fMoon_thistle_8 (wi_iload1 fMoon_thistle_9 (wi_call2 fMoon_thistle_10 (Nat.le_of_ble_eq_true rfl) (k_Field_isThistly (wi_ifb_eq fMoon_thistle_11 (fun c5 => (wi_bipush fMoon_thistle_14 (wi_istore3 fMoon_thistle_15 trivial (wi_aload0 fMoon_thistle_16 (wi_getf2 fMoon_thistle_17 (wi_aload0 fMoon_thistle_18 (wi_getf2 fMoon_thistle_19 (wi_getf206 fMoon_thistle_20 (wi_iload1 fMoon_thistle_21 (wi_iload2 fMoon_thistle_22 (wi_call3 fMoon_thistle_23 (Nat.le_of_ble_eq_true rfl) (k_Moon_withBit (wi_putf206 fMoon_thistle_24 (wi_iload3 fMoon_thistle_25 (wi_ret1 fMoon_thistle_26 ((((h.1 c6).1 c5) _ rfl) _ rfl)))))))))))))))) (fun c5 => (wi_bipush fMoon_thistle_12 (wi_goto fMoon_thistle_13 (wi_istore3 fMoon_thistle_15 trivial (wi_aload0 fMoon_thistle_16 (wi_getf2 fMoon_thistle_17 (wi_aload0 fMoon_thistle_18 (wi_getf2 fMoon_thistle_19 (wi_getf206 fMoon_thistle_20 (wi_iload1 fMoon_thistle_21 (wi_iload2 fMoon_thistle_22 (wi_call3 fMoon_thistle_23 (Nat.le_of_ble_eq_true rfl) (k_Moon_withBit (wi_putf206 fMoon_thistle_24 (wi_iload3 fMoon_thistle_25 (wi_ret1 fMoon_thistle_26 ((((h.1 c6).2 c5) _ rfl) _ rfl)))))))))))))))))))))))) (fun c6 => (wi_bipush fMoon_thistle_5 (wi_ret1 fMoon_thistle_6 (h.2 c6)))))))))))
theorem k_Moon_thistle {xs : List Int} {d : Nat} {Q : Option w_V → w_M → Prop} {x1 : Int} {x2 : Int} {σ : w_M} (hp : p_Moon_thistle x1 x2 σ) (hQ : ∀ (x : Int) (σ' : w_M), q_Moon_thistle x1 x2 σ x σ' → Q (some (.inl x)) σ') : w_Call (xs, d + 1) 121 [.inr (.inr (0, 0)), .inl x1, .inl x2] σ Q := by
  obtain ⟨hC, hb⟩ := hp
  have hok := hC.ok
  have hs := n_ok.s hok
  unfold q_Moon_thistle F_thistle G_thistle at hQ
  have h01 := w_and1 (w_shr (σ 14 6) x1)
  have main : 0 ≤ x1 ∧ x1 < σ 14 4 → ∀ (x : Int), x = w_and (w_shr (σ 14 6) x1) 1 → ∀ y : Int, y = v_Moon_withBit (σ 14 6) x1 x2 → ∀ τ : w_M, τ = w_up σ 14 6 y → Q (some (.inl x)) τ := by
    intro c x ex y ey τ t
    have hP : P_thistle (cS σ) x1 := c
    have hi : (x1.toNat : Int) = x1 := Int.toNat_of_nonneg c.1
    have hm := hC.2.1
    rw [F_set_t hP, G_set_t hP] at hQ
    obtain ⟨m, em⟩ := Int.eq_ofNat_of_zero_le hm.1
    have hr := w_th_rng m (by omega) x1.toNat (by omega)
    refine hQ _ _ (c_q0 hC (by rw [t]; exact w_fr.up0 (by omega) (by omega)) ?_ ?_ ?_ ?_ ?_ ?_ (ex.trans (c_rd9 c).symm))
    · rw [t, ey, ← hi]
      exact w_ab_up6 (by omega) (by omega) hm hb
    · refine n_WF_up hok ?_ ?_ ?_ ?_ ?_ ?_ ?_ ?_ <;> (intros; omega)
    · show w_up (w_ab σ 14) 9 _ _ 0 0 = σ 14 0; rw [w_up_ne (by decide)]; rfl
    · show w_up (w_ab σ 14) 9 _ _ 0 4 = σ 14 4; rw [w_up_ne (by decide)]; rfl
    · show w_up (w_ab σ 14) 9 _ _ 0 5 = σ 14 5; rw [w_up_ne (by decide)]; rfl
    · rw [t, w_up_at, ey, ← hi, em]
      rcases hb with rfl | rfl
      · exact hr.2
      · exact hr.1
  refine bMoon_thistle_0 ⟨fun c => ⟨fun z y ey τ t => ?_, fun z y ey τ t => ?_⟩, fun c => ?_⟩
  · exact main c 0 (Classical.not_not.mp z).symm y ey τ t
  · exact main c 1 (h01.resolve_left z).symm y ey τ t
  · exact hQ _ _ (c_no hC c)
theorem n_goes_hd {A : w_M} (h : n_WF A) (k : Nat) : (n_goes A k) 0 0 = A 0 0 ∧ (n_goes A k) 0 4 = A 0 4 ∧ (n_goes A k) 0 5 = A 0 5 := by
  have := (n_goes_all h k).2.1.1
  exact ⟨this 0 (by decide) (by decide), this 4 (by decide) (by decide), this 5 (by decide) (by decide)⟩
noncomputable def p_Moon_go (_x1 : Int) (σ : w_M) : Prop := CI σ
noncomputable def q_Moon_go (x1 : Int) (σ : w_M) (x : Int) (σ' : w_M) : Prop := c_q (F_go (cS σ) x1) (G_go (cS σ) x1) σ x σ'
noncomputable def p_Moon_ahead (_x1 : Int) (_x2 : Int) (_x3 : Int) (σ : w_M) : Prop := CI σ
noncomputable def q_Moon_ahead (x1 : Int) (x2 : Int) (x3 : Int) (σ : w_M) (x : Int) (σ' : w_M) : Prop := c_q (F_ahead (cS σ) x1 x2 x3) (cS σ) σ x σ'
noncomputable def p_Moon_stands (_x1 : Int) (_x2 : Int) (σ : w_M) : Prop := CI σ
noncomputable def q_Moon_stands (x1 : Int) (x2 : Int) (σ : w_M) (x : Int) (σ' : w_M) : Prop := c_q (F_stands (cS σ) x1 x2) (cS σ) σ x σ'
noncomputable def p_Moon_done (_x1 : Int) (σ : w_M) : Prop := CI σ
noncomputable def q_Moon_done (x1 : Int) (σ : w_M) (x : Int) (σ' : w_M) : Prop := c_q (F_done (cS σ) x1) (cS σ) σ x σ'
noncomputable def p_Moon_left  (σ : w_M) : Prop := CI σ
noncomputable def q_Moon_left  (σ : w_M) (x : Int) (σ' : w_M) : Prop := c_q (F_left (cS σ)) (cS σ) σ x σ'
theorem fMoon_go_0 : w_fe am_c124 0 1 (.iload 1) := ⟨rfl, rfl⟩
theorem fMoon_go_1 : w_fe am_c124 1 2 (.bipush 0) := ⟨rfl, rfl⟩
theorem fMoon_go_2 : w_fe am_c124 2 3 (.bipush 12) := ⟨rfl, rfl⟩
theorem fMoon_go_3 : w_fe am_c124 3 4 (.invokestatic 107) := ⟨rfl, rfl⟩
theorem fMoon_go_4 : w_if am_c124 4 5 .ne 7 := ⟨rfl, rfl⟩
theorem fMoon_go_5 : w_fe am_c124 5 6 (.bipush (-1)) := ⟨rfl, rfl⟩
theorem fMoon_go_6 : w_fe am_c124 6 7 (.ireturn) := ⟨rfl, rfl⟩
theorem fMoon_go_7 : w_fe am_c124 7 8 (.iload 1) := ⟨rfl, rfl⟩
theorem fMoon_go_8 : w_fe am_c124 8 9 (.aload 0) := ⟨rfl, rfl⟩
theorem fMoon_go_9 : w_fe am_c124 9 10 (.getfield 2) := ⟨rfl, rfl⟩
theorem fMoon_go_10 : w_fe am_c124 10 11 (.invokestatic 39) := ⟨rfl, rfl⟩
theorem fMoon_go_11 : w_ic am_c124 11 12 .le 14 := ⟨rfl, rfl⟩
theorem fMoon_go_12 : w_fe am_c124 12 13 (.bipush (-3)) := ⟨rfl, rfl⟩
theorem fMoon_go_13 : w_fe am_c124 13 14 (.ireturn) := ⟨rfl, rfl⟩
theorem fMoon_go_14 : w_fe am_c124 14 15 (.aload 0) := ⟨rfl, rfl⟩
theorem fMoon_go_15 : w_fe am_c124 15 16 (.getfield 2) := ⟨rfl, rfl⟩
theorem fMoon_go_16 : w_fe am_c124 16 17 (.iload 1) := ⟨rfl, rfl⟩
theorem fMoon_go_17 : w_fe am_c124 17 18 (.invokestatic 40) := ⟨rfl, rfl⟩
theorem fMoon_go_18 : w_fe am_c124 18 19 (.ireturn) := ⟨rfl, rfl⟩
set_option maxRecDepth 20000 in
theorem bMoon_go_0 {xs : List Int} {d : Nat} {Q : Option w_V → w_M → Prop} {x1 : Int} {σ : w_M}
    (h : ((0 ≤ x1 ∧ x1 ≤ 12) → (p_Field_hoursLeft 14 σ ∧ ((x1 ≤ (σ 14 0 - σ 14 1) → (p_Field_pass 14 x1 σ ∧ (∀ (y1 : Int) (τ2 : w_M), q_Field_pass 14 x1 σ y1 τ2 → Q (some (.inl y1)) τ2))) ∧ ((σ 14 0 - σ 14 1) < x1 → Q (some (.inl (-3))) σ)))) ∧ (¬ (0 ≤ x1 ∧ x1 ≤ 12) → Q (some (.inl (-1))) σ)) : w_Call (xs, (d + 5)) 124 [.inr (.inr (0, 0)), .inl x1] σ Q :=
  (w_mk (mid := 124) (by decide) rfl rfl rfl rfl rfl (Nat.le_of_ble_eq_true rfl) ⟨rfl, Or.inl (by decide)⟩ (wi_iload1 fMoon_go_0 (wi_bipush fMoon_go_1 (wi_bipush fMoon_go_2 (wi_call3 fMoon_go_3 (Nat.le_of_ble_eq_true rfl) (k_Moon_isWithin (wi_ifb_ne fMoon_go_4 (fun c4 => (wi_iload1 fMoon_go_7 (wi_aload0 fMoon_go_8 (wi_getf2 fMoon_go_9 (wi_call1 fMoon_go_10 (Nat.le_of_ble_eq_true rfl) (k_Field_hoursLeft (h.1 c4).1 (wi_ic_le fMoon_go_11 (fun c3 => (wi_aload0 fMoon_go_14 (wi_getf2 fMoon_go_15 (wi_iload1 fMoon_go_16 (wi_call2 fMoon_go_17 (Nat.le_of_ble_eq_true rfl) (k_Field_pass ((h.1 c4).2.1 c3).1 (fun y1 τ2 eτ2 => (wi_ret1 fMoon_go_18 (((h.1 c4).2.1 c3).2 y1 τ2 eτ2))))))))) (fun c3 => (wi_bipush fMoon_go_12 (wi_ret1 fMoon_go_13 ((h.1 c4).2.2 c3))))))))))) (fun c4 => (wi_bipush fMoon_go_5 (wi_ret1 fMoon_go_6 (h.2 c4)))))))))))
theorem fMoon_ahead_0 : w_fe am_c125 0 1 (.iload 2) := ⟨rfl, rfl⟩
theorem fMoon_ahead_1 : w_fe am_c125 1 2 (.bipush 0) := ⟨rfl, rfl⟩
theorem fMoon_ahead_2 : w_fe am_c125 2 3 (.bipush 12) := ⟨rfl, rfl⟩
theorem fMoon_ahead_3 : w_fe am_c125 3 4 (.invokestatic 107) := ⟨rfl, rfl⟩
theorem fMoon_ahead_4 : w_if am_c125 4 5 .ne 7 := ⟨rfl, rfl⟩
theorem fMoon_ahead_5 : w_fe am_c125 5 6 (.bipush (-1)) := ⟨rfl, rfl⟩
theorem fMoon_ahead_6 : w_fe am_c125 6 7 (.ireturn) := ⟨rfl, rfl⟩
theorem fMoon_ahead_7 : w_fe am_c125 7 8 (.aload 0) := ⟨rfl, rfl⟩
theorem fMoon_ahead_8 : w_fe am_c125 8 9 (.getfield 4) := ⟨rfl, rfl⟩
theorem fMoon_ahead_9 : w_fe am_c125 9 10 (.aload 0) := ⟨rfl, rfl⟩
theorem fMoon_ahead_10 : w_fe am_c125 10 11 (.getfield 2) := ⟨rfl, rfl⟩
theorem fMoon_ahead_11 : w_fe am_c125 11 12 (.iload 2) := ⟨rfl, rfl⟩
theorem fMoon_ahead_12 : w_fe am_c125 12 13 (.invokestatic 64) := ⟨rfl, rfl⟩
theorem fMoon_ahead_13 : w_fe am_c125 13 14 (.iload 1) := ⟨rfl, rfl⟩
theorem fMoon_ahead_14 : w_fe am_c125 14 15 (.iload 3) := ⟨rfl, rfl⟩
theorem fMoon_ahead_15 : w_fe am_c125 15 16 (.invokestatic 37) := ⟨rfl, rfl⟩
theorem fMoon_ahead_16 : w_fe am_c125 16 17 (.ireturn) := ⟨rfl, rfl⟩
set_option maxRecDepth 20000 in
theorem bMoon_ahead_0 {xs : List Int} {d : Nat} {Q : Option w_V → w_M → Prop} {x1 : Int} {x2 : Int} {x3 : Int} {σ : w_M}
    (h : ((0 ≤ x2 ∧ x2 ≤ 12) → (p_Plan_after 14 x2 σ ∧ (∀ (τ1 : w_M), q_Plan_after 14 x2 σ τ1 → (p_Field_tellOf 32 x1 x3 τ1 ∧ (∀ (y2 : Int), y2 = v_Field_tellOf 32 x1 x3 τ1 → Q (some (.inl y2)) τ1))))) ∧ (¬ (0 ≤ x2 ∧ x2 ≤ 12) → Q (some (.inl (-1))) σ)) : w_Call (xs, (d + 6)) 125 [.inr (.inr (0, 0)), .inl x1, .inl x2, .inl x3] σ Q :=
  (w_mk (mid := 125) (by decide) rfl rfl rfl rfl rfl (Nat.le_of_ble_eq_true rfl) ⟨rfl, Or.inl (by decide)⟩ (wi_iload2 fMoon_ahead_0 (wi_bipush fMoon_ahead_1 (wi_bipush fMoon_ahead_2 (wi_call3 fMoon_ahead_3 (Nat.le_of_ble_eq_true rfl) (k_Moon_isWithin (wi_ifb_ne fMoon_ahead_4 (fun c3 => (wi_aload0 fMoon_ahead_7 (wi_getf4 fMoon_ahead_8 (wi_aload0 fMoon_ahead_9 (wi_getf2 fMoon_ahead_10 (wi_iload2 fMoon_ahead_11 (wi_call3 fMoon_ahead_12 (Nat.le_of_ble_eq_true rfl) (k_Plan_after (h.1 c3).1 (fun τ1 eτ1 => (wi_iload1 fMoon_ahead_13 (wi_iload3 fMoon_ahead_14 (wi_call3 fMoon_ahead_15 (Nat.le_of_ble_eq_true rfl) (k_Field_tellOf ((h.1 c3).2 τ1 eτ1).1 (wi_ret1 fMoon_ahead_16 (((h.1 c3).2 τ1 eτ1).2 _ rfl))))))))))))))) (fun c3 => (wi_bipush fMoon_ahead_5 (wi_ret1 fMoon_ahead_6 (h.2 c3)))))))))))
theorem fMoon_stands_0 : w_fe am_c126 0 1 (.aload 0) := ⟨rfl, rfl⟩
theorem fMoon_stands_1 : w_fe am_c126 1 2 (.getfield 2) := ⟨rfl, rfl⟩
theorem fMoon_stands_2 : w_fe am_c126 2 3 (.iload 1) := ⟨rfl, rfl⟩
theorem fMoon_stands_3 : w_fe am_c126 3 4 (.invokestatic 33) := ⟨rfl, rfl⟩
theorem fMoon_stands_4 : w_if am_c126 4 5 .eq 10 := ⟨rfl, rfl⟩
theorem fMoon_stands_5 : w_fe am_c126 5 6 (.iload 2) := ⟨rfl, rfl⟩
theorem fMoon_stands_6 : w_fe am_c126 6 7 (.bipush 0) := ⟨rfl, rfl⟩
theorem fMoon_stands_7 : w_fe am_c126 7 8 (.bipush 12) := ⟨rfl, rfl⟩
theorem fMoon_stands_8 : w_fe am_c126 8 9 (.invokestatic 107) := ⟨rfl, rfl⟩
theorem fMoon_stands_9 : w_if am_c126 9 10 .ne 12 := ⟨rfl, rfl⟩
theorem fMoon_stands_10 : w_fe am_c126 10 11 (.bipush (-1)) := ⟨rfl, rfl⟩
theorem fMoon_stands_11 : w_fe am_c126 11 12 (.ireturn) := ⟨rfl, rfl⟩
theorem fMoon_stands_12 : w_fe am_c126 12 13 (.aload 0) := ⟨rfl, rfl⟩
theorem fMoon_stands_13 : w_fe am_c126 13 14 (.getfield 4) := ⟨rfl, rfl⟩
theorem fMoon_stands_14 : w_fe am_c126 14 15 (.aload 0) := ⟨rfl, rfl⟩
theorem fMoon_stands_15 : w_fe am_c126 15 16 (.getfield 2) := ⟨rfl, rfl⟩
theorem fMoon_stands_16 : w_fe am_c126 16 17 (.iload 2) := ⟨rfl, rfl⟩
theorem fMoon_stands_17 : w_fe am_c126 17 18 (.invokestatic 64) := ⟨rfl, rfl⟩
theorem fMoon_stands_18 : w_fe am_c126 18 19 (.getfield 207) := ⟨rfl, rfl⟩
theorem fMoon_stands_19 : w_fe am_c126 19 20 (.iload 1) := ⟨rfl, rfl⟩
theorem fMoon_stands_20 : w_fe am_c126 20 21 (.iaload) := ⟨rfl, rfl⟩
theorem fMoon_stands_21 : w_fe am_c126 21 22 (.ireturn) := ⟨rfl, rfl⟩
set_option maxRecDepth 20000 in
theorem bMoon_stands_0 {xs : List Int} {d : Nat} {Q : Option w_V → w_M → Prop} {x1 : Int} {x2 : Int} {σ : w_M}
    (h : (¬ (0 ≤ x1 ∧ x1 < σ 14 4) → Q (some (.inl (-1))) σ) ∧ ((0 ≤ x1 ∧ x1 < σ 14 4) → (((0 ≤ x2 ∧ x2 ≤ 12) → (p_Plan_after 14 x2 σ ∧ (∀ (τ1 : w_M), q_Plan_after 14 x2 σ τ1 → (0 ≤ x1 ∧ x1 < 7 ∧ Q (some (.inl (τ1 33 x1.toNat))) τ1)))) ∧ (¬ (0 ≤ x2 ∧ x2 ≤ 12) → Q (some (.inl (-1))) σ)))) : w_Call (xs, (d + 6)) 126 [.inr (.inr (0, 0)), .inl x1, .inl x2] σ Q :=
  (w_mk (mid := 126) (by decide) rfl rfl rfl rfl rfl (Nat.le_of_ble_eq_true rfl) ⟨rfl, Or.inl (by decide)⟩ (wi_aload0 fMoon_stands_0 (wi_getf2 fMoon_stands_1 (wi_iload1 fMoon_stands_2 (wi_call2 fMoon_stands_3 (Nat.le_of_ble_eq_true rfl) (k_Field_isStrip (wi_ifb_eq fMoon_stands_4 (fun c3 => (wi_bipush fMoon_stands_10 (wi_ret1 fMoon_stands_11 (h.1 c3)))) (fun c3 => (wi_iload2 fMoon_stands_5 (wi_bipush fMoon_stands_6 (wi_bipush fMoon_stands_7 (wi_call3 fMoon_stands_8 (Nat.le_of_ble_eq_true rfl) (k_Moon_isWithin (wi_ifb_ne fMoon_stands_9 (fun c2 => (wi_aload0 fMoon_stands_12 (wi_getf4 fMoon_stands_13 (wi_aload0 fMoon_stands_14 (wi_getf2 fMoon_stands_15 (wi_iload2 fMoon_stands_16 (wi_call3 fMoon_stands_17 (Nat.le_of_ble_eq_true rfl) (k_Plan_after ((h.2 c3).1 c2).1 (fun τ1 eτ1 => (wi_getf207 fMoon_stands_18 (wi_iload1 fMoon_stands_19 (wi_iald1007 fMoon_stands_20 (((h.2 c3).1 c2).2 τ1 eτ1).1 (((h.2 c3).1 c2).2 τ1 eτ1).2.1 (wi_ret1 fMoon_stands_21 (((h.2 c3).1 c2).2 τ1 eτ1).2.2))))))))))))) (fun c2 => (wi_bipush fMoon_stands_10 (wi_ret1 fMoon_stands_11 ((h.2 c3).2 c2))))))))))))))))))
theorem fMoon_done_0 : w_fe am_c127 0 1 (.iload 1) := ⟨rfl, rfl⟩
theorem fMoon_done_1 {E : w_C} {rt : Nat} {Q : Option w_V → w_M → Prop} {ls : w_L} {st : List w_V} {σ : w_M} {x : Int} (h0 : x = 0 → w_Ex E rt am_c127 Q 2 ls st σ) (h1 : x = 1 → w_Ex E rt am_c127 Q 8 ls st σ) (hd : ¬ x = 0 → ¬ x = 1 → w_Ex E rt am_c127 Q 16 ls st σ) : w_Ex E rt am_c127 Q 1 ls (.inl x :: st) σ :=
  w_Ex_in (op := .lookupswitch 16 #[(0, 2), (1, 8)]) rfl (And.intro h0 (fun c0 => And.intro h1 (fun c1 =>  hd c0 c1)))
theorem fMoon_done_2 : w_fe am_c127 2 3 (.aload 0) := ⟨rfl, rfl⟩
theorem fMoon_done_3 : w_fe am_c127 3 4 (.getfield 4) := ⟨rfl, rfl⟩
theorem fMoon_done_4 : w_fe am_c127 4 5 (.aload 0) := ⟨rfl, rfl⟩
theorem fMoon_done_5 : w_fe am_c127 5 6 (.getfield 2) := ⟨rfl, rfl⟩
theorem fMoon_done_6 : w_fe am_c127 6 7 (.invokestatic 65) := ⟨rfl, rfl⟩
theorem fMoon_done_7 : w_fe am_c127 7 8 (.ireturn) := ⟨rfl, rfl⟩
theorem fMoon_done_8 : w_fe am_c127 8 9 (.aload 0) := ⟨rfl, rfl⟩
theorem fMoon_done_9 : w_fe am_c127 9 10 (.getfield 4) := ⟨rfl, rfl⟩
theorem fMoon_done_10 : w_fe am_c127 10 11 (.aload 0) := ⟨rfl, rfl⟩
theorem fMoon_done_11 : w_fe am_c127 11 12 (.getfield 2) := ⟨rfl, rfl⟩
theorem fMoon_done_12 : w_fe am_c127 12 13 (.bipush 12) := ⟨rfl, rfl⟩
theorem fMoon_done_13 : w_fe am_c127 13 14 (.invokestatic 64) := ⟨rfl, rfl⟩
theorem fMoon_done_14 : w_fe am_c127 14 15 (.getfield 203) := ⟨rfl, rfl⟩
theorem fMoon_done_15 : w_fe am_c127 15 16 (.ireturn) := ⟨rfl, rfl⟩
theorem fMoon_done_16 : w_fe am_c127 16 17 (.bipush (-1)) := ⟨rfl, rfl⟩
theorem fMoon_done_17 : w_fe am_c127 17 18 (.ireturn) := ⟨rfl, rfl⟩
set_option maxRecDepth 20000 in
theorem bMoon_done_0 {xs : List Int} {d : Nat} {Q : Option w_V → w_M → Prop} {x1 : Int} {σ : w_M}
    (h : (x1 = 0 → (p_Plan_doneAfter 14 σ ∧ (∀ (y1 : Int) (τ2 : w_M), q_Plan_doneAfter 14 σ y1 τ2 → Q (some (.inl y1)) τ2))) ∧ (x1 = 1 → (p_Plan_after 14 12 σ ∧ (∀ (τ3 : w_M), q_Plan_after 14 12 σ τ3 → Q (some (.inl (τ3 32 3))) τ3))) ∧ (¬ x1 = 0 → ¬ x1 = 1 → Q (some (.inl (-1))) σ)) : w_Call (xs, (d + 6)) 127 [.inr (.inr (0, 0)), .inl x1] σ Q :=
  (w_mk (mid := 127) (by decide) rfl rfl rfl rfl rfl (Nat.le_of_ble_eq_true rfl) ⟨rfl, Or.inl (by decide)⟩ (wi_iload1 fMoon_done_0 (fMoon_done_1 (fun c => (wi_aload0 fMoon_done_2 (wi_getf4 fMoon_done_3 (wi_aload0 fMoon_done_4 (wi_getf2 fMoon_done_5 (wi_call2 fMoon_done_6 (Nat.le_of_ble_eq_true rfl) (k_Plan_doneAfter (h.1 c).1 (fun y1 τ2 eτ2 => (wi_ret1 fMoon_done_7 ((h.1 c).2 y1 τ2 eτ2)))))))))) (fun c => (wi_aload0 fMoon_done_8 (wi_getf4 fMoon_done_9 (wi_aload0 fMoon_done_10 (wi_getf2 fMoon_done_11 (wi_bipush fMoon_done_12 (wi_call3 fMoon_done_13 (Nat.le_of_ble_eq_true rfl) (k_Plan_after (h.2.1 c).1 (fun τ3 eτ3 => (wi_getf203 fMoon_done_14 (wi_ret1 fMoon_done_15 ((h.2.1 c).2 τ3 eτ3)))))))))))) (fun c0 c1 => (wi_bipush fMoon_done_16 (wi_ret1 fMoon_done_17 (h.2.2 c0 c1)))))))
theorem fMoon_left_0 : w_fe am_c128 0 1 (.aload 0) := ⟨rfl, rfl⟩
theorem fMoon_left_1 : w_fe am_c128 1 2 (.getfield 4) := ⟨rfl, rfl⟩
theorem fMoon_left_2 : w_fe am_c128 2 3 (.aload 0) := ⟨rfl, rfl⟩
theorem fMoon_left_3 : w_fe am_c128 3 4 (.getfield 2) := ⟨rfl, rfl⟩
theorem fMoon_left_4 : w_fe am_c128 4 5 (.bipush 12) := ⟨rfl, rfl⟩
theorem fMoon_left_5 : w_fe am_c128 5 6 (.invokestatic 64) := ⟨rfl, rfl⟩
theorem fMoon_left_6 : w_fe am_c128 6 7 (.invokestatic 35) := ⟨rfl, rfl⟩
theorem fMoon_left_7 : w_fe am_c128 7 8 (.ireturn) := ⟨rfl, rfl⟩
set_option maxRecDepth 20000 in
theorem bMoon_left_0 {xs : List Int} {d : Nat} {Q : Option w_V → w_M → Prop}  {σ : w_M}
    (h : p_Plan_after 14 12 σ ∧ (∀ (τ1 : w_M), q_Plan_after 14 12 σ τ1 → (p_Field_standing 32 τ1 ∧ (∀ (y2 : Int), y2 = v_Field_standing 32 τ1 → Q (some (.inl y2)) τ1)))) : w_Call (xs, (d + 6)) 128 [.inr (.inr (0, 0))] σ Q :=
  (w_mk (mid := 128) (by decide) rfl rfl rfl rfl rfl (Nat.le_of_ble_eq_true rfl) ⟨rfl, Or.inl (by decide)⟩ (wi_aload0 fMoon_left_0 (wi_getf4 fMoon_left_1 (wi_aload0 fMoon_left_2 (wi_getf2 fMoon_left_3 (wi_bipush fMoon_left_4 (wi_call3 fMoon_left_5 (Nat.le_of_ble_eq_true rfl) (k_Plan_after h.1 (fun τ1 eτ1 => (wi_call1 fMoon_left_6 (Nat.le_of_ble_eq_true rfl) (k_Field_standing (h.2 τ1 eτ1).1 (wi_ret1 fMoon_left_7 ((h.2 τ1 eτ1).2 _ rfl)))))))))))))
theorem k_Moon_go {xs : List Int} {d : Nat} {Q : Option w_V → w_M → Prop} {x1 : Int} {σ : w_M} (hp : p_Moon_go x1 σ) (hQ : ∀ (x : Int) (σ' : w_M), q_Moon_go x1 σ x σ' → Q (some (.inl x)) σ') : w_Call (xs, d + 5) 124 [.inr (.inr (0, 0)), .inl x1] σ Q := by
  have hC : CI σ := hp
  have hok := hC.ok
  have hrs := n_ok.hrs hok
  have hr := n_ok.hr hok
  unfold q_Moon_go F_go G_go at hQ
  have e0 : cS σ 0 0 0 = σ 14 0 := rfl
  have e1 : cS σ 0 0 1 = σ 14 1 := rfl
  have eA : cS σ 0 = w_ab σ 14 := rfl
  rw [e0, e1, eA] at hQ
  refine bMoon_go_0 ⟨fun c => ⟨⟨by omega, by omega⟩, fun c2 => ⟨⟨hok, c⟩, fun y τ hq => ?_⟩, fun c2 => ?_⟩, fun c => ?_⟩
  · rw [if_pos c, if_pos c2, if_pos ⟨c, c2⟩] at hQ
    obtain ⟨q1, q2, q3, q4⟩ := hq
    obtain ⟨g0, g4, g5⟩ := n_goes_hd hok x1.toNat
    refine hQ _ _ (c_q0 hC q3 q1 (n_goes_all hok _).1 g0 g4 g5 ?_ q2)
    rw [q4]; exact hC.2.1
  · rw [if_pos c, if_neg (by omega), if_neg (by omega)] at hQ
    exact hQ _ _ (c_qr hC rfl)
  · rw [if_neg c, if_neg (fun q => c q.1)] at hQ
    exact hQ _ _ (c_qr hC rfl)
theorem k_Moon_ahead {xs : List Int} {d : Nat} {Q : Option w_V → w_M → Prop} {x1 : Int} {x2 : Int} {x3 : Int} {σ : w_M} (hp : p_Moon_ahead x1 x2 x3 σ) (hQ : ∀ (x : Int) (σ' : w_M), q_Moon_ahead x1 x2 x3 σ x σ' → Q (some (.inl x)) σ') : w_Call (xs, d + 6) 125 [.inr (.inr (0, 0)), .inl x1, .inl x2, .inl x3] σ Q := by
  have hC : CI σ := hp
  have hok := hC.ok
  unfold q_Moon_ahead F_ahead at hQ
  refine bMoon_ahead_0 ⟨fun c => ⟨⟨⟨hok, by decide⟩, c⟩, fun τ hq => ⟨n_ok.of hq.1 (n_goes_all hok _).1, fun y ey => ?_⟩⟩, fun c => ?_⟩
  · rw [if_pos c] at hQ
    refine hQ _ _ (c_qs hC (hq.2.wide (by decide) (by decide)) ?_)
    rw [ey]
    unfold v_Field_tellOf
    rw [hq.1]
    rfl
  · rw [if_neg c] at hQ
    exact hQ _ _ (c_qr hC rfl)
theorem k_Moon_stands {xs : List Int} {d : Nat} {Q : Option w_V → w_M → Prop} {x1 : Int} {x2 : Int} {σ : w_M} (hp : p_Moon_stands x1 x2 σ) (hQ : ∀ (x : Int) (σ' : w_M), q_Moon_stands x1 x2 σ x σ' → Q (some (.inl x)) σ') : w_Call (xs, d + 6) 126 [.inr (.inr (0, 0)), .inl x1, .inl x2] σ Q := by
  have hC : CI σ := hp
  have hok := hC.ok
  have hs := n_ok.s hok
  unfold q_Moon_stands F_stands at hQ
  have e4 : cS σ 0 0 4 = σ 14 4 := rfl
  rw [e4] at hQ
  refine bMoon_stands_0 ⟨fun c => ?_, fun c => ⟨fun c2 => ⟨⟨⟨hok, by decide⟩, c2⟩, fun τ hq => ⟨c.1, by omega, ?_⟩⟩, fun c2 => ?_⟩⟩
  · rw [if_neg (fun q => c q.1)] at hQ
    exact hQ _ _ (c_qr hC rfl)
  · rw [if_pos ⟨c, c2⟩] at hQ
    refine hQ _ _ (c_qs hC (hq.2.wide (by decide) (by decide)) ?_)
    have g4 : τ 32 4 = σ 14 4 := by
      have : w_ab τ 32 0 4 = w_ab σ 14 0 4 := by rw [hq.1]; exact (n_goes_hd hok x2.toNat).2.1
      exact this
    have := c_rd (σ := τ) (a := 32) (d := 1) (i := x1) (n_ok.of hq.1 (n_goes_all hok _).1) (by decide) (by decide) (by rw [g4]; exact c)
    rw [hq.1] at this
    exact this
  · rw [if_neg (fun q => c2 q.2)] at hQ
    exact hQ _ _ (c_qr hC rfl)
theorem k_Moon_done {xs : List Int} {d : Nat} {Q : Option w_V → w_M → Prop} {x1 : Int} {σ : w_M} (hp : p_Moon_done x1 σ) (hQ : ∀ (x : Int) (σ' : w_M), q_Moon_done x1 σ x σ' → Q (some (.inl x)) σ') : w_Call (xs, d + 6) 127 [.inr (.inr (0, 0)), .inl x1] σ Q := by
  have hC : CI σ := hp
  have hok := hC.ok
  unfold q_Moon_done F_done at hQ
  refine bMoon_done_0 ⟨fun c => ⟨⟨hok, by decide⟩, fun y τ hq => ?_⟩, fun c => ⟨⟨⟨hok, by decide⟩, by decide, by decide⟩, fun τ hq => ?_⟩, fun c0 c1 => ?_⟩
  · rw [if_pos c] at hQ
    exact hQ _ _ (c_qs hC (hq.2.wide (by decide) (by decide)) hq.1)
  · rw [if_neg (by omega), if_pos c] at hQ
    refine hQ _ _ (c_qs hC (hq.2.wide (by decide) (by decide)) ?_)
    show w_ab τ 32 0 3 = _
    rw [hq.1]
    rfl
  · rw [if_neg c0, if_neg c1] at hQ
    exact hQ _ _ (c_qr hC rfl)
theorem k_Moon_left {xs : List Int} {d : Nat} {Q : Option w_V → w_M → Prop}  {σ : w_M} (hp : p_Moon_left σ) (hQ : ∀ (x : Int) (σ' : w_M), q_Moon_left σ x σ' → Q (some (.inl x)) σ') : w_Call (xs, d + 6) 128 [.inr (.inr (0, 0))] σ Q := by
  have hC : CI σ := hp
  have hok := hC.ok
  unfold q_Moon_left F_left at hQ
  refine bMoon_left_0 ⟨⟨⟨hok, by decide⟩, by decide, by decide⟩, fun τ hq => ⟨n_ok.of hq.1 (n_goes_all hok _).1, fun y ey => hQ _ _ (c_qs hC (hq.2.wide (by decide) (by decide)) ?_)⟩⟩
  rw [ey]
  unfold v_Field_standing
  rw [hq.1]
  rfl
