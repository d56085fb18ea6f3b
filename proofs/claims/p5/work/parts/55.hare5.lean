/-! The hare, as the reference counts -/
noncomputable def w_f2 (σ σ' : w_M) : Prop := ∀ b, b ≠ 128 → b ≠ 129 → σ' b = σ b
noncomputable def mc_1 (σ : w_M) (B : w_M) (s : Nat) (τ : w_M) (n : Nat) : Prop := w_f2 σ τ ∧ ∀ m, m < n → ∀ i, i < s → τ 128 (7 * m + i) = r_c B s m i
noncomputable def mc_2 (σ : w_M) (B : w_M) (s : Nat) (τ : w_M) (k : Nat) : Prop := mc_1 σ B s τ 7 ∧ ∀ m, m ≤ 6 → 7 ≤ m + k → ∀ i, i < s → τ 129 (7 * m + i) = r_g B s (6 - m) i
noncomputable def p_Model_findRuns (σ : w_M) : Prop := MI σ
noncomputable def q_Model_findRuns (σ σ' : w_M) : Prop := mc_2 σ (s_am σ 0) (σ 122 4).toNat σ' 7
theorem fModel_findRuns_0 : w_fe am_c218 0 1 (.bipush 0) := ⟨rfl, rfl⟩
theorem fModel_findRuns_1 : w_fe am_c218 1 2 (.istore 1) := ⟨rfl, rfl⟩
theorem fModel_findRuns_2 : w_fe am_c218 2 3 (.iload 1) := ⟨rfl, rfl⟩
theorem fModel_findRuns_3 : w_fe am_c218 3 4 (.bipush 6) := ⟨rfl, rfl⟩
theorem fModel_findRuns_4 : w_ic am_c218 4 5 .gt 44 := ⟨rfl, rfl⟩
theorem fModel_findRuns_5 : w_fe am_c218 5 6 (.bipush 0) := ⟨rfl, rfl⟩
theorem fModel_findRuns_6 : w_fe am_c218 6 7 (.istore 2) := ⟨rfl, rfl⟩
theorem fModel_findRuns_7 : w_fe am_c218 7 8 (.iload 2) := ⟨rfl, rfl⟩
theorem fModel_findRuns_8 : w_fe am_c218 8 9 (.aload 0) := ⟨rfl, rfl⟩
theorem fModel_findRuns_9 : w_fe am_c218 9 10 (.getfield 904) := ⟨rfl, rfl⟩
theorem fModel_findRuns_10 : w_ic am_c218 10 11 .ge 42 := ⟨rfl, rfl⟩
theorem fModel_findRuns_11 : w_fe am_c218 11 12 (.iload 1) := ⟨rfl, rfl⟩
theorem fModel_findRuns_12 : w_if am_c218 12 13 .ne 15 := ⟨rfl, rfl⟩
theorem fModel_findRuns_13 : w_fe am_c218 13 14 (.bipush 1) := ⟨rfl, rfl⟩
theorem fModel_findRuns_14 : w_gt am_c218 14 23 := rfl
theorem fModel_findRuns_15 : w_fe am_c218 15 16 (.aload 0) := ⟨rfl, rfl⟩
theorem fModel_findRuns_16 : w_fe am_c218 16 17 (.aload 0) := ⟨rfl, rfl⟩
theorem fModel_findRuns_17 : w_fe am_c218 17 18 (.getfield 922) := ⟨rfl, rfl⟩
theorem fModel_findRuns_18 : w_fe am_c218 18 19 (.iload 1) := ⟨rfl, rfl⟩
theorem fModel_findRuns_19 : w_fe am_c218 19 20 (.bipush 1) := ⟨rfl, rfl⟩
theorem fModel_findRuns_20 : w_fe am_c218 20 21 (.isub) := ⟨rfl, rfl⟩
theorem fModel_findRuns_21 : w_fe am_c218 21 22 (.iload 2) := ⟨rfl, rfl⟩
theorem fModel_findRuns_22 : w_fe am_c218 22 23 (.invokestatic 219) := ⟨rfl, rfl⟩
theorem fModel_findRuns_23 : w_fe am_c218 23 24 (.istore 3) := ⟨rfl, rfl⟩
theorem fModel_findRuns_24 : w_fe am_c218 24 25 (.aload 0) := ⟨rfl, rfl⟩
theorem fModel_findRuns_25 : w_fe am_c218 25 26 (.getfield 922) := ⟨rfl, rfl⟩
theorem fModel_findRuns_26 : w_fe am_c218 26 27 (.bipush 7) := ⟨rfl, rfl⟩
theorem fModel_findRuns_27 : w_fe am_c218 27 28 (.iload 1) := ⟨rfl, rfl⟩
theorem fModel_findRuns_28 : w_fe am_c218 28 29 (.imul) := ⟨rfl, rfl⟩
theorem fModel_findRuns_29 : w_fe am_c218 29 30 (.iload 2) := ⟨rfl, rfl⟩
theorem fModel_findRuns_30 : w_fe am_c218 30 31 (.iadd) := ⟨rfl, rfl⟩
theorem fModel_findRuns_31 : w_fe am_c218 31 32 (.aload 0) := ⟨rfl, rfl⟩
theorem fModel_findRuns_32 : w_fe am_c218 32 33 (.iload 1) := ⟨rfl, rfl⟩
theorem fModel_findRuns_33 : w_fe am_c218 33 34 (.iload 2) := ⟨rfl, rfl⟩
theorem fModel_findRuns_34 : w_fe am_c218 34 35 (.invokestatic 221) := ⟨rfl, rfl⟩
theorem fModel_findRuns_35 : w_if am_c218 35 36 .eq 38 := ⟨rfl, rfl⟩
theorem fModel_findRuns_36 : w_fe am_c218 36 37 (.iload 3) := ⟨rfl, rfl⟩
theorem fModel_findRuns_37 : w_gt am_c218 37 39 := rfl
theorem fModel_findRuns_38 : w_fe am_c218 38 39 (.bipush 0) := ⟨rfl, rfl⟩
theorem fModel_findRuns_39 : w_fe am_c218 39 40 (.iastore) := ⟨rfl, rfl⟩
theorem fModel_findRuns_40 : w_fe am_c218 40 41 (.iinc 2 1) := ⟨rfl, rfl⟩
theorem fModel_findRuns_41 : w_gt am_c218 41 7 := rfl
theorem fModel_findRuns_42 : w_fe am_c218 42 43 (.iinc 1 1) := ⟨rfl, rfl⟩
theorem fModel_findRuns_43 : w_gt am_c218 43 2 := rfl
theorem fModel_findRuns_44 : w_fe am_c218 44 45 (.bipush 6) := ⟨rfl, rfl⟩
theorem fModel_findRuns_45 : w_fe am_c218 45 46 (.istore 1) := ⟨rfl, rfl⟩
theorem fModel_findRuns_46 : w_fe am_c218 46 47 (.iload 1) := ⟨rfl, rfl⟩
theorem fModel_findRuns_47 : w_if am_c218 47 48 .lt 88 := ⟨rfl, rfl⟩
theorem fModel_findRuns_48 : w_fe am_c218 48 49 (.bipush 0) := ⟨rfl, rfl⟩
theorem fModel_findRuns_49 : w_fe am_c218 49 50 (.istore 2) := ⟨rfl, rfl⟩
theorem fModel_findRuns_50 : w_fe am_c218 50 51 (.iload 2) := ⟨rfl, rfl⟩
theorem fModel_findRuns_51 : w_fe am_c218 51 52 (.aload 0) := ⟨rfl, rfl⟩
theorem fModel_findRuns_52 : w_fe am_c218 52 53 (.getfield 904) := ⟨rfl, rfl⟩
theorem fModel_findRuns_53 : w_ic am_c218 53 54 .ge 86 := ⟨rfl, rfl⟩
theorem fModel_findRuns_54 : w_fe am_c218 54 55 (.iload 1) := ⟨rfl, rfl⟩
theorem fModel_findRuns_55 : w_fe am_c218 55 56 (.bipush 6) := ⟨rfl, rfl⟩
theorem fModel_findRuns_56 : w_ic am_c218 56 57 .ne 59 := ⟨rfl, rfl⟩
theorem fModel_findRuns_57 : w_fe am_c218 57 58 (.bipush 1) := ⟨rfl, rfl⟩
theorem fModel_findRuns_58 : w_gt am_c218 58 67 := rfl
theorem fModel_findRuns_59 : w_fe am_c218 59 60 (.aload 0) := ⟨rfl, rfl⟩
theorem fModel_findRuns_60 : w_fe am_c218 60 61 (.aload 0) := ⟨rfl, rfl⟩
theorem fModel_findRuns_61 : w_fe am_c218 61 62 (.getfield 923) := ⟨rfl, rfl⟩
theorem fModel_findRuns_62 : w_fe am_c218 62 63 (.iload 1) := ⟨rfl, rfl⟩
theorem fModel_findRuns_63 : w_fe am_c218 63 64 (.bipush 1) := ⟨rfl, rfl⟩
theorem fModel_findRuns_64 : w_fe am_c218 64 65 (.iadd) := ⟨rfl, rfl⟩
theorem fModel_findRuns_65 : w_fe am_c218 65 66 (.iload 2) := ⟨rfl, rfl⟩
theorem fModel_findRuns_66 : w_fe am_c218 66 67 (.invokestatic 219) := ⟨rfl, rfl⟩
theorem fModel_findRuns_67 : w_fe am_c218 67 68 (.istore 3) := ⟨rfl, rfl⟩
theorem fModel_findRuns_68 : w_fe am_c218 68 69 (.aload 0) := ⟨rfl, rfl⟩
theorem fModel_findRuns_69 : w_fe am_c218 69 70 (.getfield 923) := ⟨rfl, rfl⟩
theorem fModel_findRuns_70 : w_fe am_c218 70 71 (.bipush 7) := ⟨rfl, rfl⟩
theorem fModel_findRuns_71 : w_fe am_c218 71 72 (.iload 1) := ⟨rfl, rfl⟩
theorem fModel_findRuns_72 : w_fe am_c218 72 73 (.imul) := ⟨rfl, rfl⟩
theorem fModel_findRuns_73 : w_fe am_c218 73 74 (.iload 2) := ⟨rfl, rfl⟩
theorem fModel_findRuns_74 : w_fe am_c218 74 75 (.iadd) := ⟨rfl, rfl⟩
theorem fModel_findRuns_75 : w_fe am_c218 75 76 (.aload 0) := ⟨rfl, rfl⟩
theorem fModel_findRuns_76 : w_fe am_c218 76 77 (.iload 1) := ⟨rfl, rfl⟩
theorem fModel_findRuns_77 : w_fe am_c218 77 78 (.iload 2) := ⟨rfl, rfl⟩
theorem fModel_findRuns_78 : w_fe am_c218 78 79 (.invokestatic 221) := ⟨rfl, rfl⟩
theorem fModel_findRuns_79 : w_if am_c218 79 80 .eq 82 := ⟨rfl, rfl⟩
theorem fModel_findRuns_80 : w_fe am_c218 80 81 (.iload 3) := ⟨rfl, rfl⟩
theorem fModel_findRuns_81 : w_gt am_c218 81 83 := rfl
theorem fModel_findRuns_82 : w_fe am_c218 82 83 (.bipush 0) := ⟨rfl, rfl⟩
theorem fModel_findRuns_83 : w_fe am_c218 83 84 (.iastore) := ⟨rfl, rfl⟩
theorem fModel_findRuns_84 : w_fe am_c218 84 85 (.iinc 2 1) := ⟨rfl, rfl⟩
theorem fModel_findRuns_85 : w_gt am_c218 85 50 := rfl
theorem fModel_findRuns_86 : w_fe am_c218 86 87 (.iinc 1 (-1)) := ⟨rfl, rfl⟩
theorem fModel_findRuns_87 : w_gt am_c218 87 46 := rfl
theorem fModel_findRuns_88 : w_fe am_c218 88 89 (.return_) := ⟨rfl, rfl⟩
noncomputable def LModel_findRuns_2 (xs : List Int) (d : Nat) (Q : Option w_V → w_M → Prop) (v1 : Int) (σ : w_M) : Prop := ∀ l2, w_nl l2 → ∀ l3, w_nl l3 → w_Ex (xs, d) 0 am_c218 Q 2 [some (.inr (.inr (9, 122))), some (.inl v1), l2, l3] [] σ
noncomputable def LModel_findRuns_46 (xs : List Int) (d : Nat) (Q : Option w_V → w_M → Prop) (v1 : Int) (σ : w_M) : Prop := ∀ l2, w_nl l2 → ∀ l3, w_nl l3 → w_Ex (xs, d) 0 am_c218 Q 46 [some (.inr (.inr (9, 122))), some (.inl v1), l2, l3] [] σ
noncomputable def LModel_findRuns_7 (xs : List Int) (d : Nat) (Q : Option w_V → w_M → Prop) (v1 : Int) (v2 : Int) (σ : w_M) : Prop := ∀ l3, w_nl l3 → w_Ex (xs, d) 0 am_c218 Q 7 [some (.inr (.inr (9, 122))), some (.inl v1), some (.inl v2), l3] [] σ
noncomputable def LModel_findRuns_50 (xs : List Int) (d : Nat) (Q : Option w_V → w_M → Prop) (v1 : Int) (v2 : Int) (σ : w_M) : Prop := ∀ l3, w_nl l3 → w_Ex (xs, d) 0 am_c218 Q 50 [some (.inr (.inr (9, 122))), some (.inl v1), some (.inl v2), l3] [] σ
set_option maxRecDepth 20000 in
theorem bModel_findRuns_0 {xs : List Int} {d : Nat} {Q : Option w_V → w_M → Prop}  {σ : w_M}
    (h : LModel_findRuns_2 xs (d + 2) Q 0 σ) : w_Call (xs, (d + 2)) 218 [.inr (.inr (9, 122))] σ Q :=
  (w_mk (mid := 218) (by decide) rfl rfl rfl rfl rfl (Nat.le_of_ble_eq_true rfl) ⟨rfl, Or.inl (by decide)⟩ (wi_bipush fModel_findRuns_0 (wi_istore1 fModel_findRuns_1 trivial (h _ (by exact trivial) _ (by exact trivial)))))
set_option maxRecDepth 20000 in
theorem bModel_findRuns_2 {xs : List Int} {d : Nat} {Q : Option w_V → w_M → Prop} {v1 : Int} {σ : w_M}
    (h : (6 < v1 → LModel_findRuns_46 xs (d + 2) Q 6 σ) ∧ (v1 ≤ 6 → LModel_findRuns_7 xs (d + 2) Q v1 0 σ)) : LModel_findRuns_2 xs (d + 2) Q v1 σ :=
  fun l2 nl2 => fun l3 nl3 => (wi_iload1 fModel_findRuns_2 (wi_bipush fModel_findRuns_3 (wi_ic_gt fModel_findRuns_4 (fun c1 => (wi_bipush fModel_findRuns_44 (wi_istore1 fModel_findRuns_45 trivial ((h.1 c1) _ nl2 _ nl3)))) (fun c1 => (wi_bipush fModel_findRuns_5 (wi_istore2 fModel_findRuns_6 trivial ((h.2 c1) _ nl3)))))))
set_option maxRecDepth 20000 in
theorem bModel_findRuns_46 {xs : List Int} {d : Nat} {Q : Option w_V → w_M → Prop} {v1 : Int} {σ : w_M}
    (h : (v1 < 0 → Q none σ) ∧ (0 ≤ v1 → LModel_findRuns_50 xs (d + 2) Q v1 0 σ)) : LModel_findRuns_46 xs (d + 2) Q v1 σ :=
  fun l2 nl2 => fun l3 nl3 => (wi_iload1 fModel_findRuns_46 (wi_if_lt fModel_findRuns_47 (fun c1 => (wi_ret0 fModel_findRuns_88 (h.1 c1))) (fun c1 => (wi_bipush fModel_findRuns_48 (wi_istore2 fModel_findRuns_49 trivial ((h.2 c1) _ nl3))))))
set_option maxRecDepth 20000 in
theorem bModel_findRuns_7 {xs : List Int} {d : Nat} {Q : Option w_V → w_M → Prop} {v1 : Int} {v2 : Int} {σ : w_M}
    (h : ((σ 122 4) ≤ v2 → (w_in (v1 + 1) ∧ LModel_findRuns_2 xs (d + 2) Q (v1 + 1) σ)) ∧ (v2 < (σ 122 4) → ((¬ v1 = 0 → (w_in (v1 - 1) ∧ p_Model_besides 128 (v1 - 1) v2 σ ∧ (∀ (y1 : Int), y1 = v_Model_besides 128 (v1 - 1) v2 σ → (w_in (7 * v1) ∧ w_in ((7 * v1) + v2) ∧ p_Model_canStand v1 v2 σ ∧ ((¬ (P_Model_canStand v1 v2 σ) → (0 ≤ ((7 * v1) + v2) ∧ ((7 * v1) + v2) < 49 ∧ (∀ (τ2 : w_M), τ2 = w_up σ 128 ((7 * v1) + v2).toNat 0 → (w_in (v2 + 1) ∧ LModel_findRuns_7 xs (d + 2) Q v1 (v2 + 1) τ2)))) ∧ ((P_Model_canStand v1 v2 σ) → (0 ≤ ((7 * v1) + v2) ∧ ((7 * v1) + v2) < 49 ∧ (∀ (τ3 : w_M), τ3 = w_up σ 128 ((7 * v1) + v2).toNat y1 → (w_in (v2 + 1) ∧ LModel_findRuns_7 xs (d + 2) Q v1 (v2 + 1) τ3))))))))) ∧ (v1 = 0 → (w_in (7 * v1) ∧ w_in ((7 * v1) + v2) ∧ p_Model_canStand v1 v2 σ ∧ ((¬ (P_Model_canStand v1 v2 σ) → (0 ≤ ((7 * v1) + v2) ∧ ((7 * v1) + v2) < 49 ∧ (∀ (τ5 : w_M), τ5 = w_up σ 128 ((7 * v1) + v2).toNat 0 → (w_in (v2 + 1) ∧ LModel_findRuns_7 xs (d + 2) Q v1 (v2 + 1) τ5)))) ∧ ((P_Model_canStand v1 v2 σ) → (0 ≤ ((7 * v1) + v2) ∧ ((7 * v1) + v2) < 49 ∧ (∀ (τ6 : w_M), τ6 = w_up σ 128 ((7 * v1) + v2).toNat 1 → (w_in (v2 + 1) ∧ LModel_findRuns_7 xs (d + 2) Q v1 (v2 + 1) τ6)))))))))) : LModel_findRuns_7 xs (d + 2) Q v1 v2 σ :=
  fun l3 nl3 => (wi_iload2 fModel_findRuns_7 (wi_aload0 fModel_findRuns_8 (wi_getf904 fModel_findRuns_9 (wi_ic_ge fModel_findRuns_10 (fun c9 => (wi_iinc1 fModel_findRuns_42 trivial (h.1 c9).1 (wi_goto fModel_findRuns_43 ((h.1 c9).2 _ (by exact trivial) _ nl3)))) (fun c9 => (wi_iload1 fModel_findRuns_11 (wi_if_ne fModel_findRuns_12 (fun c8 => (wi_aload0 fModel_findRuns_15 (wi_aload0 fModel_findRuns_16 (wi_getf922 fModel_findRuns_17 (wi_iload1 fModel_findRuns_18 (wi_bipush fModel_findRuns_19 (wi_isub fModel_findRuns_20 ((h.2 c9).1 c8).1 (wi_iload2 fModel_findRuns_21 (wi_call4 fModel_findRuns_22 (Nat.le_of_ble_eq_true rfl) (k_Model_besides ((h.2 c9).1 c8).2.1 (wi_istore3 fModel_findRuns_23 trivial (wi_aload0 fModel_findRuns_24 (wi_getf922 fModel_findRuns_25 (wi_bipush fModel_findRuns_26 (wi_iload1 fModel_findRuns_27 (wi_imul fModel_findRuns_28 (((h.2 c9).1 c8).2.2 _ rfl).1 (wi_iload2 fModel_findRuns_29 (wi_iadd fModel_findRuns_30 (((h.2 c9).1 c8).2.2 _ rfl).2.1 (wi_aload0 fModel_findRuns_31 (wi_iload1 fModel_findRuns_32 (wi_iload2 fModel_findRuns_33 (wi_call3 fModel_findRuns_34 (Nat.le_of_ble_eq_true rfl) (k_Model_canStand (((h.2 c9).1 c8).2.2 _ rfl).2.2.1 (wi_ifb_eq fModel_findRuns_35 (fun c4 => (wi_bipush fModel_findRuns_38 (wi_iast1049 fModel_findRuns_39 ((((h.2 c9).1 c8).2.2 _ rfl).2.2.2.1 c4).1 ((((h.2 c9).1 c8).2.2 _ rfl).2.2.2.1 c4).2.1 (wi_iinc2 fModel_findRuns_40 trivial (((((h.2 c9).1 c8).2.2 _ rfl).2.2.2.1 c4).2.2 _ rfl).1 (wi_goto fModel_findRuns_41 ((((((h.2 c9).1 c8).2.2 _ rfl).2.2.2.1 c4).2.2 _ rfl).2 _ (by exact trivial))))))) (fun c4 => (wi_iload3 fModel_findRuns_36 (wi_goto fModel_findRuns_37 (wi_iast1049 fModel_findRuns_39 ((((h.2 c9).1 c8).2.2 _ rfl).2.2.2.2 c4).1 ((((h.2 c9).1 c8).2.2 _ rfl).2.2.2.2 c4).2.1 (wi_iinc2 fModel_findRuns_40 trivial (((((h.2 c9).1 c8).2.2 _ rfl).2.2.2.2 c4).2.2 _ rfl).1 (wi_goto fModel_findRuns_41 ((((((h.2 c9).1 c8).2.2 _ rfl).2.2.2.2 c4).2.2 _ rfl).2 _ (by exact trivial)))))))))))))))))))))))))))))))) (fun c8 => (wi_bipush fModel_findRuns_13 (wi_goto fModel_findRuns_14 (wi_istore3 fModel_findRuns_23 trivial (wi_aload0 fModel_findRuns_24 (wi_getf922 fModel_findRuns_25 (wi_bipush fModel_findRuns_26 (wi_iload1 fModel_findRuns_27 (wi_imul fModel_findRuns_28 ((h.2 c9).2 c8).1 (wi_iload2 fModel_findRuns_29 (wi_iadd fModel_findRuns_30 ((h.2 c9).2 c8).2.1 (wi_aload0 fModel_findRuns_31 (wi_iload1 fModel_findRuns_32 (wi_iload2 fModel_findRuns_33 (wi_call3 fModel_findRuns_34 (Nat.le_of_ble_eq_true rfl) (k_Model_canStand ((h.2 c9).2 c8).2.2.1 (wi_ifb_eq fModel_findRuns_35 (fun c7 => (wi_bipush fModel_findRuns_38 (wi_iast1049 fModel_findRuns_39 (((h.2 c9).2 c8).2.2.2.1 c7).1 (((h.2 c9).2 c8).2.2.2.1 c7).2.1 (wi_iinc2 fModel_findRuns_40 trivial ((((h.2 c9).2 c8).2.2.2.1 c7).2.2 _ rfl).1 (wi_goto fModel_findRuns_41 (((((h.2 c9).2 c8).2.2.2.1 c7).2.2 _ rfl).2 _ (by exact trivial))))))) (fun c7 => (wi_iload3 fModel_findRuns_36 (wi_goto fModel_findRuns_37 (wi_iast1049 fModel_findRuns_39 (((h.2 c9).2 c8).2.2.2.2 c7).1 (((h.2 c9).2 c8).2.2.2.2 c7).2.1 (wi_iinc2 fModel_findRuns_40 trivial ((((h.2 c9).2 c8).2.2.2.2 c7).2.2 _ rfl).1 (wi_goto fModel_findRuns_41 (((((h.2 c9).2 c8).2.2.2.2 c7).2.2 _ rfl).2 _ (by exact trivial))))))))))))))))))))))))))))))))
set_option maxRecDepth 20000 in
theorem bModel_findRuns_50 {xs : List Int} {d : Nat} {Q : Option w_V → w_M → Prop} {v1 : Int} {v2 : Int} {σ : w_M}
    (h : ((σ 122 4) ≤ v2 → (w_in (v1 + (-1)) ∧ LModel_findRuns_46 xs (d + 2) Q (v1 + (-1)) σ)) ∧ (v2 < (σ 122 4) → ((¬ v1 = 6 → (w_in (v1 + 1) ∧ p_Model_besides 129 (v1 + 1) v2 σ ∧ (∀ (y1 : Int), y1 = v_Model_besides 129 (v1 + 1) v2 σ → (w_in (7 * v1) ∧ w_in ((7 * v1) + v2) ∧ p_Model_canStand v1 v2 σ ∧ ((¬ (P_Model_canStand v1 v2 σ) → (0 ≤ ((7 * v1) + v2) ∧ ((7 * v1) + v2) < 49 ∧ (∀ (τ2 : w_M), τ2 = w_up σ 129 ((7 * v1) + v2).toNat 0 → (w_in (v2 + 1) ∧ LModel_findRuns_50 xs (d + 2) Q v1 (v2 + 1) τ2)))) ∧ ((P_Model_canStand v1 v2 σ) → (0 ≤ ((7 * v1) + v2) ∧ ((7 * v1) + v2) < 49 ∧ (∀ (τ3 : w_M), τ3 = w_up σ 129 ((7 * v1) + v2).toNat y1 → (w_in (v2 + 1) ∧ LModel_findRuns_50 xs (d + 2) Q v1 (v2 + 1) τ3))))))))) ∧ (v1 = 6 → (w_in (7 * v1) ∧ w_in ((7 * v1) + v2) ∧ p_Model_canStand v1 v2 σ ∧ ((¬ (P_Model_canStand v1 v2 σ) → (0 ≤ ((7 * v1) + v2) ∧ ((7 * v1) + v2) < 49 ∧ (∀ (τ5 : w_M), τ5 = w_up σ 129 ((7 * v1) + v2).toNat 0 → (w_in (v2 + 1) ∧ LModel_findRuns_50 xs (d + 2) Q v1 (v2 + 1) τ5)))) ∧ ((P_Model_canStand v1 v2 σ) → (0 ≤ ((7 * v1) + v2) ∧ ((7 * v1) + v2) < 49 ∧ (∀ (τ6 : w_M), τ6 = w_up σ 129 ((7 * v1) + v2).toNat 1 → (w_in (v2 + 1) ∧ LModel_findRuns_50 xs (d + 2) Q v1 (v2 + 1) τ6)))))))))) : LModel_findRuns_50 xs (d + 2) Q v1 v2 σ :=
  fun l3 nl3 => (wi_iload2 fModel_findRuns_50 (wi_aload0 fModel_findRuns_51 (wi_getf904 fModel_findRuns_52 (wi_ic_ge fModel_findRuns_53 (fun c9 => (wi_iinc1 fModel_findRuns_86 trivial (h.1 c9).1 (wi_goto fModel_findRuns_87 ((h.1 c9).2 _ (by exact trivial) _ nl3)))) (fun c9 => (wi_iload1 fModel_findRuns_54 (wi_bipush fModel_findRuns_55 (wi_ic_ne fModel_findRuns_56 (fun c8 => (wi_aload0 fModel_findRuns_59 (wi_aload0 fModel_findRuns_60 (wi_getf923 fModel_findRuns_61 (wi_iload1 fModel_findRuns_62 (wi_bipush fModel_findRuns_63 (wi_iadd fModel_findRuns_64 ((h.2 c9).1 c8).1 (wi_iload2 fModel_findRuns_65 (wi_call4 fModel_findRuns_66 (Nat.le_of_ble_eq_true rfl) (k_Model_besides ((h.2 c9).1 c8).2.1 (wi_istore3 fModel_findRuns_67 trivial (wi_aload0 fModel_findRuns_68 (wi_getf923 fModel_findRuns_69 (wi_bipush fModel_findRuns_70 (wi_iload1 fModel_findRuns_71 (wi_imul fModel_findRuns_72 (((h.2 c9).1 c8).2.2 _ rfl).1 (wi_iload2 fModel_findRuns_73 (wi_iadd fModel_findRuns_74 (((h.2 c9).1 c8).2.2 _ rfl).2.1 (wi_aload0 fModel_findRuns_75 (wi_iload1 fModel_findRuns_76 (wi_iload2 fModel_findRuns_77 (wi_call3 fModel_findRuns_78 (Nat.le_of_ble_eq_true rfl) (k_Model_canStand (((h.2 c9).1 c8).2.2 _ rfl).2.2.1 (wi_ifb_eq fModel_findRuns_79 (fun c4 => (wi_bipush fModel_findRuns_82 (wi_iast1049 fModel_findRuns_83 ((((h.2 c9).1 c8).2.2 _ rfl).2.2.2.1 c4).1 ((((h.2 c9).1 c8).2.2 _ rfl).2.2.2.1 c4).2.1 (wi_iinc2 fModel_findRuns_84 trivial (((((h.2 c9).1 c8).2.2 _ rfl).2.2.2.1 c4).2.2 _ rfl).1 (wi_goto fModel_findRuns_85 ((((((h.2 c9).1 c8).2.2 _ rfl).2.2.2.1 c4).2.2 _ rfl).2 _ (by exact trivial))))))) (fun c4 => (wi_iload3 fModel_findRuns_80 (wi_goto fModel_findRuns_81 (wi_iast1049 fModel_findRuns_83 ((((h.2 c9).1 c8).2.2 _ rfl).2.2.2.2 c4).1 ((((h.2 c9).1 c8).2.2 _ rfl).2.2.2.2 c4).2.1 (wi_iinc2 fModel_findRuns_84 trivial (((((h.2 c9).1 c8).2.2 _ rfl).2.2.2.2 c4).2.2 _ rfl).1 (wi_goto fModel_findRuns_85 ((((((h.2 c9).1 c8).2.2 _ rfl).2.2.2.2 c4).2.2 _ rfl).2 _ (by exact trivial)))))))))))))))))))))))))))))))) (fun c8 => (wi_bipush fModel_findRuns_57 (wi_goto fModel_findRuns_58 (wi_istore3 fModel_findRuns_67 trivial (wi_aload0 fModel_findRuns_68 (wi_getf923 fModel_findRuns_69 (wi_bipush fModel_findRuns_70 (wi_iload1 fModel_findRuns_71 (wi_imul fModel_findRuns_72 ((h.2 c9).2 c8).1 (wi_iload2 fModel_findRuns_73 (wi_iadd fModel_findRuns_74 ((h.2 c9).2 c8).2.1 (wi_aload0 fModel_findRuns_75 (wi_iload1 fModel_findRuns_76 (wi_iload2 fModel_findRuns_77 (wi_call3 fModel_findRuns_78 (Nat.le_of_ble_eq_true rfl) (k_Model_canStand ((h.2 c9).2 c8).2.2.1 (wi_ifb_eq fModel_findRuns_79 (fun c7 => (wi_bipush fModel_findRuns_82 (wi_iast1049 fModel_findRuns_83 (((h.2 c9).2 c8).2.2.2.1 c7).1 (((h.2 c9).2 c8).2.2.2.1 c7).2.1 (wi_iinc2 fModel_findRuns_84 trivial ((((h.2 c9).2 c8).2.2.2.1 c7).2.2 _ rfl).1 (wi_goto fModel_findRuns_85 (((((h.2 c9).2 c8).2.2.2.1 c7).2.2 _ rfl).2 _ (by exact trivial))))))) (fun c7 => (wi_iload3 fModel_findRuns_80 (wi_goto fModel_findRuns_81 (wi_iast1049 fModel_findRuns_83 (((h.2 c9).2 c8).2.2.2.2 c7).1 (((h.2 c9).2 c8).2.2.2.2 c7).2.1 (wi_iinc2 fModel_findRuns_84 trivial ((((h.2 c9).2 c8).2.2.2.2 c7).2.2 _ rfl).1 (wi_goto fModel_findRuns_85 (((((h.2 c9).2 c8).2.2.2.2 c7).2.2 _ rfl).2 _ (by exact trivial)))))))))))))))))))))))))))))))))
set_option maxHeartbeats 2000000 in
theorem k_Model_findRuns {xs : List Int} {d : Nat} {Q : Option w_V → w_M → Prop}  {σ : w_M} (hp : p_Model_findRuns σ) (hQ : ∀ σ' : w_M, q_Model_findRuns σ σ' → Q none σ') : w_Call (xs, d + 2) 218 [.inr (.inr (9, 122))] σ Q := by
  have hM : MI σ := hp
  have hs := hM.s
  have hse := hM.se
  unfold q_Model_findRuns at hQ
  generalize hB : s_am σ 0 = B at *
  have hsB : ∀ τ : w_M, w_f2 σ τ → s_am τ 0 = B ∧ τ 122 = σ 122 ∧ τ 123 = σ 123 := fun τ F => by
    have h123 := F 123 (by decide) (by decide)
    refine ⟨?_, F 122 (by decide) (by decide), h123⟩
    rw [← hB]
    funext d i
    unfold s_am
    rw [h123]
  refine bModel_findRuns_0 ?_
  have back : ∀ τ : w_M, mc_1 σ B (σ 122 4).toNat τ 7 → LModel_findRuns_46 xs (d + 2) Q 6 τ := by
    intro τ0 h0
    refine (w_loop (n := 7) (P := fun k => ∀ τ : w_M, mc_2 σ B (σ 122 4).toNat τ k → LModel_findRuns_46 xs (d + 2) Q (6 - (k : Int)) τ) ?_ ?_) τ0 ⟨h0, fun m h1 h2 => by omega⟩
    · intro τ h
      exact bModel_findRuns_46 ⟨fun _ => hQ _ h, fun h => by omega⟩
    · intro k hk nx τ h
      refine bModel_findRuns_46 ⟨fun h => by omega, fun _ => ?_⟩
      obtain ⟨n, hn⟩ : ∃ n : Nat, n = 6 - k := ⟨_, rfl⟩
      rw [show (6 : Int) - (k : Int) = (n : Int) by omega]
      refine (w_loop (n := (σ 122 4).toNat) (P := fun i => ∀ τ : w_M, mc_2 σ B (σ 122 4).toNat τ k → (∀ j, j < i → τ 129 (7 * n + j) = r_g B (σ 122 4).toNat (6 - n) j) → LModel_findRuns_50 xs (d + 2) Q (n : Int) (i : Int) τ) ?_ ?_) τ h (fun j hj => by omega)
      · intro τ h hj
        obtain ⟨eB, z2, z3⟩ := hsB τ h.1.1
        refine bModel_findRuns_50 ⟨fun _ => ⟨⟨by omega, by omega⟩, ?_⟩, fun h => by rw [z2] at h; omega⟩
        rw [show (n : Int) + (-1) = 6 - ((k + 1 : Nat) : Int) by omega]
        refine nx τ ⟨h.1, fun m h1 h2 i hi => ?_⟩
        by_cases hm : m = n
        · rw [hm]; exact hj i hi
        · exact h.2 m h1 (by omega) i hi
      · intro i hi ih τ h hj
        obtain ⟨eB, z2, z3⟩ := hsB τ h.1.1
        have pc : p_Model_canStand (n : Int) (i : Int) τ := by unfold p_Model_canStand; rw [z3]; exact hse
        have ix : (7 * (n : Int) + (i : Int)).toNat = 7 * n + i := by omega
        have wr : ∀ v : Int, v = r_g B (σ 122 4).toNat (6 - n) i → LModel_findRuns_50 xs (d + 2) Q (n : Int) ((i : Int) + 1) (w_up τ 129 (7 * n + i) v) := fun v ev => by
          rw [← w_cs1]
          refine ih _ ⟨⟨fun b h1 h2 => by rw [w_up_ne h2]; exact h.1.1 b h1 h2, fun m hm q hq => by rw [w_up_ne (by decide)]; exact h.1.2 m hm q hq⟩, fun m h1 h2 q hq => by rw [w_up_j (by omega)]; exact h.2 m h1 h2 q hq⟩ (fun j hj2 => ?_)
          by_cases hji : j = i
          · rw [hji, w_up_at]; exact ev
          · rw [w_up_j (by omega)]; exact hj j (by omega)
        rw [r_gs (by omega)] at wr
        unfold P_Model_canStand at *
        refine bModel_findRuns_50 ⟨fun h => by rw [z2] at h; omega, fun _ => ⟨fun c2 => ⟨⟨by omega, by omega⟩, ⟨⟨by omega, by omega⟩, ⟨by omega, by rw [z2]; omega⟩, by rw [z2]; omega, fun j hj2 => ?_⟩, fun y ey => ⟨⟨by omega, by omega⟩, ⟨by omega, by omega⟩, pc, fun c => ⟨by omega, by omega, fun τ3 t3 => ⟨⟨by omega, by omega⟩, ?_⟩⟩, fun c => ⟨by omega, by omega, fun τ3 t3 => ⟨⟨by omega, by omega⟩, ?_⟩⟩⟩⟩, fun c2 => ⟨⟨by omega, by omega⟩, ⟨by omega, by omega⟩, pc, fun c => ⟨by omega, by omega, fun τ3 t3 => ⟨⟨by omega, by omega⟩, ?_⟩⟩, fun c => ⟨by omega, by omega, fun τ3 t3 => ⟨⟨by omega, by omega⟩, ?_⟩⟩⟩⟩⟩
        · rw [z2] at hj2
          rw [show ((n : Int) + 1).toNat = n + 1 by omega, h.2 (n + 1) (by omega) (by omega) j hj2]
          exact r_g_le6 (by omega) hj2
        · rw [t3, ix]
          refine wr _ ?_
          have c' : ¬ se_al (s_am τ 0) (n : Int) (i : Int) := c
          rw [eB] at c'
          rw [r_if_f c']
        · rw [t3, ix]
          refine wr _ ?_
          have c' : se_al (s_am τ 0) (n : Int) (i : Int) := c
          rw [eB] at c'
          rw [r_if_t c', if_neg (by omega), ey]
          unfold v_Model_besides
          rw [z2, Int.toNat_natCast, show ((n : Int) + 1).toNat = n + 1 by omega]
          exact r_bes_congr hi (fun j hj2 => h.2 (n + 1) (by omega) (by omega) j hj2)
        · rw [t3, ix]
          refine wr _ ?_
          have c' : ¬ se_al (s_am τ 0) (n : Int) (i : Int) := c
          rw [eB] at c'
          rw [r_if_f c']
        · rw [t3, ix]
          refine wr _ ?_
          have c' : se_al (s_am τ 0) (n : Int) (i : Int) := c
          rw [eB] at c'
          rw [r_if_t c', if_pos (by omega)]
  refine (w_loop (n := 7) (P := fun n => ∀ τ : w_M, mc_1 σ B (σ 122 4).toNat τ n → LModel_findRuns_2 xs (d + 2) Q (n : Int) τ) ?_ ?_) σ ⟨fun _ _ _ => rfl, fun m hm => by omega⟩
  · intro τ h
    exact bModel_findRuns_2 ⟨fun _ => back τ h, fun h => by omega⟩
  · intro n hn nx τ h
    refine bModel_findRuns_2 ⟨fun h => by omega, fun _ => ?_⟩
    refine (w_loop (n := (σ 122 4).toNat) (P := fun i => ∀ τ : w_M, mc_1 σ B (σ 122 4).toNat τ n → (∀ j, j < i → τ 128 (7 * n + j) = r_c B (σ 122 4).toNat n j) → LModel_findRuns_7 xs (d + 2) Q (n : Int) (i : Int) τ) ?_ ?_) τ h (fun j hj => by omega)
    · intro τ h hj
      obtain ⟨eB, z2, z3⟩ := hsB τ h.1
      refine bModel_findRuns_7 ⟨fun _ => ⟨⟨by omega, by omega⟩, ?_⟩, fun h => by rw [z2] at h; omega⟩
      rw [← w_cs1]
      refine nx τ ⟨h.1, fun m h1 i hi => ?_⟩
      by_cases hm : m = n
      · rw [hm]; exact hj i hi
      · exact h.2 m (by omega) i hi
    · intro i hi ih τ h hj
      obtain ⟨eB, z2, z3⟩ := hsB τ h.1
      have pc : p_Model_canStand (n : Int) (i : Int) τ := by unfold p_Model_canStand; rw [z3]; exact hse
      have ix : (7 * (n : Int) + (i : Int)).toNat = 7 * n + i := by omega
      have wr : ∀ v : Int, v = r_c B (σ 122 4).toNat n i → LModel_findRuns_7 xs (d + 2) Q (n : Int) ((i : Int) + 1) (w_up τ 128 (7 * n + i) v) := fun v ev => by
        rw [← w_cs1]
        refine ih _ ⟨fun b h1 h2 => by rw [w_up_ne h1]; exact h.1 b h1 h2, fun m hm q hq => by rw [w_up_j (by omega)]; exact h.2 m hm q hq⟩ (fun j hj2 => ?_)
        by_cases hji : j = i
        · rw [hji, w_up_at]; exact ev
        · rw [w_up_j (by omega)]; exact hj j (by omega)
      rw [r_cs] at wr
      unfold P_Model_canStand at *
      refine bModel_findRuns_7 ⟨fun h => by rw [z2] at h; omega, fun _ => ⟨fun c2 => ⟨⟨by omega, by omega⟩, ⟨⟨by omega, by omega⟩, ⟨by omega, by rw [z2]; omega⟩, by rw [z2]; omega, fun j hj2 => ?_⟩, fun y ey => ⟨⟨by omega, by omega⟩, ⟨by omega, by omega⟩, pc, fun c => ⟨by omega, by omega, fun τ3 t3 => ⟨⟨by omega, by omega⟩, ?_⟩⟩, fun c => ⟨by omega, by omega, fun τ3 t3 => ⟨⟨by omega, by omega⟩, ?_⟩⟩⟩⟩, fun c2 => ⟨⟨by omega, by omega⟩, ⟨by omega, by omega⟩, pc, fun c => ⟨by omega, by omega, fun τ3 t3 => ⟨⟨by omega, by omega⟩, ?_⟩⟩, fun c => ⟨by omega, by omega, fun τ3 t3 => ⟨⟨by omega, by omega⟩, ?_⟩⟩⟩⟩⟩
      · rw [z2] at hj2
        rw [show ((n : Int) - 1).toNat = n - 1 by omega, h.2 (n - 1) (by omega) j hj2]
        exact r_c_le6 (by omega) hj2
      · rw [t3, ix]
        refine wr _ ?_
        have c' : ¬ se_al (s_am τ 0) (n : Int) (i : Int) := c
        rw [eB] at c'
        rw [r_if_f c']
      · rw [t3, ix]
        refine wr _ ?_
        have c' : se_al (s_am τ 0) (n : Int) (i : Int) := c
        rw [eB] at c'
        rw [r_if_t c', if_neg (by omega), ey]
        unfold v_Model_besides
        rw [z2, Int.toNat_natCast, show ((n : Int) - 1).toNat = n - 1 by omega]
        exact r_bes_congr hi (fun j hj2 => h.2 (n - 1) (by omega) j hj2)
      · rw [t3, ix]
        refine wr _ ?_
        have c' : ¬ se_al (s_am τ 0) (n : Int) (i : Int) := c
        rw [eB] at c'
        rw [r_if_f c']
      · rw [t3, ix]
        refine wr _ ?_
        have c' : se_al (s_am τ 0) (n : Int) (i : Int) := c
        rw [eB] at c'
        rw [r_if_t c', if_pos (by omega)]
/-- the reference's rows stand -/
noncomputable def mr_ok (σ : w_M) : Prop := MI σ ∧ mc_2 σ (s_am σ 0) (σ 122 4).toNat σ 7
noncomputable def p_Model_runsAt (n i : Int) (σ : w_M) : Prop := mr_ok σ ∧ (0 ≤ n ∧ n ≤ 6) ∧ (0 ≤ i ∧ i < σ 122 4)
noncomputable def v_Model_runsAt (n i : Int) (σ : w_M) : Int := r_t (mS σ) n.toNat i.toNat
theorem r_h_le6 {B : w_M} {s n i : Nat} (hn : n ≤ 6) (hi : i < s) : 0 ≤ r_h B s n i ∧ r_h B s n i ≤ 729 := by
  cases n with
  | zero => show (0 : Int) ≤ 1 ∧ (1 : Int) ≤ 729; omega
  | succ n =>
    have h := r_bes_le (f := r_g B s n) (M := 243) (fun i hi => by
      have h1 := r_g_le (B := B) n i hi
      have h2 : ∀ n, n < 6 → (3 : Int) ^ n ≤ 243 := by decide
      have := h2 n (by omega)
      omega) hi
    exact ⟨h.1, by show r_bes s (r_g B s n) i ≤ 729; omega⟩
theorem r_t_le {S : w_S} {n i : Nat} (hn : n ≤ 6) (hi : i < n_s (S 0)) : 0 ≤ r_t S n i ∧ r_t S n i ≤ 531441 := r_if_le (mul729 (r_c_le6 hn hi) (r_h_le6 (by omega) hi))
theorem fModel_runsAt_0 : w_fe am_c222 0 1 (.aload 0) := ⟨rfl, rfl⟩
theorem fModel_runsAt_1 : w_fe am_c222 1 2 (.iload 1) := ⟨rfl, rfl⟩
theorem fModel_runsAt_2 : w_fe am_c222 2 3 (.iload 2) := ⟨rfl, rfl⟩
theorem fModel_runsAt_3 : w_fe am_c222 3 4 (.invokestatic 221) := ⟨rfl, rfl⟩
theorem fModel_runsAt_4 : w_if am_c222 4 5 .ne 7 := ⟨rfl, rfl⟩
theorem fModel_runsAt_5 : w_fe am_c222 5 6 (.bipush 0) := ⟨rfl, rfl⟩
theorem fModel_runsAt_6 : w_fe am_c222 6 7 (.ireturn) := ⟨rfl, rfl⟩
theorem fModel_runsAt_7 : w_fe am_c222 7 8 (.iload 1) := ⟨rfl, rfl⟩
theorem fModel_runsAt_8 : w_fe am_c222 8 9 (.bipush 6) := ⟨rfl, rfl⟩
theorem fModel_runsAt_9 : w_ic am_c222 9 10 .ne 12 := ⟨rfl, rfl⟩
theorem fModel_runsAt_10 : w_fe am_c222 10 11 (.bipush 1) := ⟨rfl, rfl⟩
theorem fModel_runsAt_11 : w_gt am_c222 11 20 := rfl
theorem fModel_runsAt_12 : w_fe am_c222 12 13 (.aload 0) := ⟨rfl, rfl⟩
theorem fModel_runsAt_13 : w_fe am_c222 13 14 (.aload 0) := ⟨rfl, rfl⟩
theorem fModel_runsAt_14 : w_fe am_c222 14 15 (.getfield 923) := ⟨rfl, rfl⟩
theorem fModel_runsAt_15 : w_fe am_c222 15 16 (.iload 1) := ⟨rfl, rfl⟩
theorem fModel_runsAt_16 : w_fe am_c222 16 17 (.bipush 1) := ⟨rfl, rfl⟩
theorem fModel_runsAt_17 : w_fe am_c222 17 18 (.iadd) := ⟨rfl, rfl⟩
theorem fModel_runsAt_18 : w_fe am_c222 18 19 (.iload 2) := ⟨rfl, rfl⟩
theorem fModel_runsAt_19 : w_fe am_c222 19 20 (.invokestatic 219) := ⟨rfl, rfl⟩
theorem fModel_runsAt_20 : w_fe am_c222 20 21 (.istore 3) := ⟨rfl, rfl⟩
theorem fModel_runsAt_21 : w_fe am_c222 21 22 (.aload 0) := ⟨rfl, rfl⟩
theorem fModel_runsAt_22 : w_fe am_c222 22 23 (.getfield 922) := ⟨rfl, rfl⟩
theorem fModel_runsAt_23 : w_fe am_c222 23 24 (.iload 1) := ⟨rfl, rfl⟩
theorem fModel_runsAt_24 : w_fe am_c222 24 25 (.iload 2) := ⟨rfl, rfl⟩
theorem fModel_runsAt_25 : w_fe am_c222 25 26 (.invokestatic 220) := ⟨rfl, rfl⟩
theorem fModel_runsAt_26 : w_fe am_c222 26 27 (.iload 3) := ⟨rfl, rfl⟩
theorem fModel_runsAt_27 : w_fe am_c222 27 28 (.imul) := ⟨rfl, rfl⟩
theorem fModel_runsAt_28 : w_fe am_c222 28 29 (.ireturn) := ⟨rfl, rfl⟩
set_option maxRecDepth 20000 in
theorem bModel_runsAt_0 {xs : List Int} {d : Nat} {Q : Option w_V → w_M → Prop} {x1 : Int} {x2 : Int} {σ : w_M}
    (h : p_Model_canStand x1 x2 σ ∧ (((P_Model_canStand x1 x2 σ) → ((¬ x1 = 6 → (w_in (x1 + 1) ∧ p_Model_besides 129 (x1 + 1) x2 σ ∧ (∀ (y1 : Int), y1 = v_Model_besides 129 (x1 + 1) x2 σ → (p_Model_inRow 128 x1 x2 σ ∧ (∀ (y2 : Int), y2 = v_Model_inRow 128 x1 x2 σ → (w_in (y2 * y1) ∧ Q (some (.inl (y2 * y1))) σ)))))) ∧ (x1 = 6 → (p_Model_inRow 128 x1 x2 σ ∧ (∀ (y3 : Int), y3 = v_Model_inRow 128 x1 x2 σ → (w_in (y3 * 1) ∧ Q (some (.inl (y3 * 1))) σ)))))) ∧ (¬ (P_Model_canStand x1 x2 σ) → Q (some (.inl 0)) σ))) : w_Call (xs, (d + 2)) 222 [.inr (.inr (9, 122)), .inl x1, .inl x2] σ Q :=
  (w_mk (mid := 222) (by decide) rfl rfl rfl rfl rfl (Nat.le_of_ble_eq_true rfl) ⟨rfl, Or.inl (by decide)⟩ (wi_aload0 fModel_runsAt_0 (wi_iload1 fModel_runsAt_1 (wi_iload2 fModel_runsAt_2 (wi_call3 fModel_runsAt_3 (Nat.le_of_ble_eq_true rfl) (k_Model_canStand h.1 (wi_ifb_ne fModel_runsAt_4 (fun c5 => (wi_iload1 fModel_runsAt_7 (wi_bipush fModel_runsAt_8 (wi_ic_ne fModel_runsAt_9 (fun c4 => (wi_aload0 fModel_runsAt_12 (wi_aload0 fModel_runsAt_13 (wi_getf923 fModel_runsAt_14 (wi_iload1 fModel_runsAt_15 (wi_bipush fModel_runsAt_16 (wi_iadd fModel_runsAt_17 ((h.2.1 c5).1 c4).1 (wi_iload2 fModel_runsAt_18 (wi_call4 fModel_runsAt_19 (Nat.le_of_ble_eq_true rfl) (k_Model_besides ((h.2.1 c5).1 c4).2.1 (wi_istore3 fModel_runsAt_20 trivial (wi_aload0 fModel_runsAt_21 (wi_getf922 fModel_runsAt_22 (wi_iload1 fModel_runsAt_23 (wi_iload2 fModel_runsAt_24 (wi_call3 fModel_runsAt_25 (Nat.le_of_ble_eq_true rfl) (k_Model_inRow (((h.2.1 c5).1 c4).2.2 _ rfl).1 (wi_iload3 fModel_runsAt_26 (wi_imul fModel_runsAt_27 ((((h.2.1 c5).1 c4).2.2 _ rfl).2 _ rfl).1 (wi_ret1 fModel_runsAt_28 ((((h.2.1 c5).1 c4).2.2 _ rfl).2 _ rfl).2)))))))))))))))))))) (fun c4 => (wi_bipush fModel_runsAt_10 (wi_goto fModel_runsAt_11 (wi_istore3 fModel_runsAt_20 trivial (wi_aload0 fModel_runsAt_21 (wi_getf922 fModel_runsAt_22 (wi_iload1 fModel_runsAt_23 (wi_iload2 fModel_runsAt_24 (wi_call3 fModel_runsAt_25 (Nat.le_of_ble_eq_true rfl) (k_Model_inRow ((h.2.1 c5).2 c4).1 (wi_iload3 fModel_runsAt_26 (wi_imul fModel_runsAt_27 (((h.2.1 c5).2 c4).2 _ rfl).1 (wi_ret1 fModel_runsAt_28 (((h.2.1 c5).2 c4).2 _ rfl).2))))))))))))))))) (fun c5 => (wi_bipush fModel_runsAt_5 (wi_ret1 fModel_runsAt_6 (h.2.2 c5)))))))))))
theorem k_Model_runsAt {xs : List Int} {d : Nat} {Q : Option w_V → w_M → Prop} {x1 : Int} {x2 : Int} {σ : w_M} (hp : p_Model_runsAt x1 x2 σ) (hQ : Q (some (.inl (v_Model_runsAt x1 x2 σ))) σ) : w_Call (xs, d + 2) 222 [.inr (.inr (9, 122)), .inl x1, .inl x2] σ Q := by
  obtain ⟨⟨hM, h1, h2⟩, hn, hi⟩ := hp
  have hs := hM.s
  obtain ⟨n, rfl⟩ := Int.eq_ofNat_of_zero_le hn.1
  obtain ⟨i, rfl⟩ := Int.eq_ofNat_of_zero_le hi.1
  have hi' : i < (σ 122 4).toNat := by omega
  unfold v_Model_runsAt r_t at hQ
  have eB : mS σ 1 = s_am σ 0 := rfl
  have es : n_s (mS σ 0) = (σ 122 4).toNat := rfl
  rw [eB, es, Int.toNat_natCast, Int.toNat_natCast] at hQ
  have ea : v_Model_inRow 128 (n : Int) (i : Int) σ = r_c (s_am σ 0) (σ 122 4).toNat n i := by
    unfold v_Model_inRow
    rw [Int.toNat_natCast, Int.toNat_natCast]
    exact h1.2 n (by omega) i hi'
  have ba := r_c_le6 (B := s_am σ 0) (s := (σ 122 4).toNat) (n := n) (by omega) hi'
  have bh := r_h_le6 (B := s_am σ 0) (s := (σ 122 4).toNat) (n := 6 - n) (by omega) hi'
  have bm := mul729 ba bh
  refine bModel_runsAt_0 ⟨hM.se, fun c => ?_, fun c => ?_⟩
  · have c' : se_al (s_am σ 0) (n : Int) (i : Int) := c
    rw [r_if_t c'] at hQ
    refine ⟨fun c2 => ⟨⟨by omega, by omega⟩, ⟨⟨by omega, by omega⟩, hi, hs.2, fun j hj => ?_⟩, fun y1 e1 => ⟨⟨hn, by omega⟩, fun y2 e2 => ?_⟩⟩, fun c2 => ⟨⟨hn, by omega⟩, fun y2 e2 => ?_⟩⟩
    · rw [show ((n : Int) + 1).toNat = n + 1 by omega, h2 (n + 1) (by omega) (by omega) j hj]
      exact r_g_le6 (by omega) hj
    · have eh : y1 = r_h (s_am σ 0) (σ 122 4).toNat (6 - n) i := by
        rw [e1]
        unfold v_Model_besides
        rw [Int.toNat_natCast, show ((n : Int) + 1).toNat = n + 1 by omega]
        obtain ⟨m, hm⟩ : ∃ m, 6 - n = m + 1 := ⟨5 - n, by omega⟩
        rw [hm]
        show _ = r_bes (σ 122 4).toNat (r_g (s_am σ 0) (σ 122 4).toNat m) i
        refine r_bes_congr hi' (fun j hj => ?_)
        have := h2 (n + 1) (by omega) (by omega) j hj
        rw [show 6 - (n + 1) = m by omega] at this
        exact this
      rw [e2, ea, eh]
      exact ⟨⟨by omega, by omega⟩, hQ⟩
    · have eh : r_h (s_am σ 0) (σ 122 4).toNat (6 - n) i = 1 := by
        rw [show 6 - n = 0 by omega]
        rfl
      rw [eh] at hQ bm
      rw [e2, ea]
      exact ⟨⟨by omega, by omega⟩, hQ⟩
  · have c' : ¬ se_al (s_am σ 0) (n : Int) (i : Int) := c
    rw [r_if_f c'] at hQ
    exact hQ
theorem mr_of {σ τ : w_M} (hM : MI σ) (h : q_Model_findRuns σ τ) : mr_ok τ ∧ mS τ = mS σ ∧ τ 122 = σ 122 ∧ (∀ b, b < 122 → τ b = σ b) := by
  obtain ⟨⟨F, h1⟩, h2⟩ := h
  have z2 : τ 122 = σ 122 := F 122 (by decide) (by decide)
  have e : mS τ = mS σ := mS_scratch hM (fun j _ => by rw [z2]) (fun b hb => F b (by omega) (by omega))
  have es : s_am τ 0 = s_am σ 0 := congrFun e 1
  refine ⟨⟨by unfold MI; rw [e]; exact hM, ⟨fun _ _ _ => rfl, ?_⟩, ?_⟩, e, z2, fun b hb => F b (by omega) (by omega)⟩
  · rw [es, z2]; exact h1
  · rw [es, z2]; exact h2
theorem mq_of {σ τ : w_M} {F x : Int} (hM : MI σ) (h : q_Model_findRuns σ τ) (e : x = F) : m_q F (mS σ) σ x τ := by
  obtain ⟨g1, g2, g3, g4⟩ := mr_of hM h
  exact ⟨e, g1.1, g2, g4, by rw [g3]⟩
noncomputable def p_Model_allRuns (σ : w_M) : Prop := MI σ
noncomputable def q_Model_allRuns (σ : w_M) (x : Int) (σ' : w_M) : Prop := x = r_alls (mS σ) ∧ q_Model_findRuns σ σ'
theorem r_alls_eq (S : w_S) (h : n_s (S 0) ≤ 7) : r_alls S = f_sum (r_t S 0) (n_s (S 0)) := by
  unfold r_alls
  rw [← r_sum h]
  rfl
theorem fModel_allRuns_0 : w_fe am_c224 0 1 (.aload 0) := ⟨rfl, rfl⟩
theorem fModel_allRuns_1 : w_fe am_c224 1 2 (.invokestatic 218) := ⟨rfl, rfl⟩
theorem fModel_allRuns_2 : w_fe am_c224 2 3 (.bipush 0) := ⟨rfl, rfl⟩
theorem fModel_allRuns_3 : w_fe am_c224 3 4 (.istore 1) := ⟨rfl, rfl⟩
theorem fModel_allRuns_4 : w_fe am_c224 4 5 (.bipush 0) := ⟨rfl, rfl⟩
theorem fModel_allRuns_5 : w_fe am_c224 5 6 (.istore 2) := ⟨rfl, rfl⟩
theorem fModel_allRuns_6 : w_fe am_c224 6 7 (.iload 2) := ⟨rfl, rfl⟩
theorem fModel_allRuns_7 : w_fe am_c224 7 8 (.aload 0) := ⟨rfl, rfl⟩
theorem fModel_allRuns_8 : w_fe am_c224 8 9 (.getfield 904) := ⟨rfl, rfl⟩
theorem fModel_allRuns_9 : w_ic am_c224 9 10 .ge 19 := ⟨rfl, rfl⟩
theorem fModel_allRuns_10 : w_fe am_c224 10 11 (.iload 1) := ⟨rfl, rfl⟩
theorem fModel_allRuns_11 : w_fe am_c224 11 12 (.aload 0) := ⟨rfl, rfl⟩
theorem fModel_allRuns_12 : w_fe am_c224 12 13 (.bipush 0) := ⟨rfl, rfl⟩
theorem fModel_allRuns_13 : w_fe am_c224 13 14 (.iload 2) := ⟨rfl, rfl⟩
theorem fModel_allRuns_14 : w_fe am_c224 14 15 (.invokestatic 222) := ⟨rfl, rfl⟩
theorem fModel_allRuns_15 : w_fe am_c224 15 16 (.iadd) := ⟨rfl, rfl⟩
theorem fModel_allRuns_16 : w_fe am_c224 16 17 (.istore 1) := ⟨rfl, rfl⟩
theorem fModel_allRuns_17 : w_fe am_c224 17 18 (.iinc 2 1) := ⟨rfl, rfl⟩
theorem fModel_allRuns_18 : w_gt am_c224 18 6 := rfl
theorem fModel_allRuns_19 : w_fe am_c224 19 20 (.iload 1) := ⟨rfl, rfl⟩
theorem fModel_allRuns_20 : w_fe am_c224 20 21 (.ireturn) := ⟨rfl, rfl⟩
noncomputable def LModel_allRuns_6 (xs : List Int) (d : Nat) (Q : Option w_V → w_M → Prop) (v1 : Int) (v2 : Int) (σ : w_M) : Prop := w_Ex (xs, d) 1 am_c224 Q 6 [some (.inr (.inr (9, 122))), some (.inl v1), some (.inl v2)] [] σ
set_option maxRecDepth 20000 in
theorem bModel_allRuns_0 {xs : List Int} {d : Nat} {Q : Option w_V → w_M → Prop}  {σ : w_M}
    (h : p_Model_findRuns σ ∧ (∀ (τ1 : w_M), q_Model_findRuns σ τ1 → LModel_allRuns_6 xs (d + 3) Q 0 0 τ1)) : w_Call (xs, (d + 3)) 224 [.inr (.inr (9, 122))] σ Q :=
  (w_mk (mid := 224) (by decide) rfl rfl rfl rfl rfl (Nat.le_of_ble_eq_true rfl) ⟨rfl, Or.inl (by decide)⟩ (wi_aload0 fModel_allRuns_0 (wi_call1 fModel_allRuns_1 (Nat.le_of_ble_eq_true rfl) (k_Model_findRuns h.1 (fun τ1 eτ1 => (wi_bipush fModel_allRuns_2 (wi_istore1 fModel_allRuns_3 trivial (wi_bipush fModel_allRuns_4 (wi_istore2 fModel_allRuns_5 trivial (h.2 τ1 eτ1))))))))))
set_option maxRecDepth 20000 in
theorem bModel_allRuns_6 {xs : List Int} {d : Nat} {Q : Option w_V → w_M → Prop} {v1 : Int} {v2 : Int} {σ : w_M}
    (h : ((σ 122 4) ≤ v2 → Q (some (.inl v1)) σ) ∧ (v2 < (σ 122 4) → (p_Model_runsAt 0 v2 σ ∧ (∀ (y1 : Int), y1 = v_Model_runsAt 0 v2 σ → (w_in (v1 + y1) ∧ (∀ (y2 : Int), y2 = (v1 + y1) → (w_in (v2 + 1) ∧ LModel_allRuns_6 xs (d + 3) Q y2 (v2 + 1) σ))))))) : LModel_allRuns_6 xs (d + 3) Q v1 v2 σ :=
  (wi_iload2 fModel_allRuns_6 (wi_aload0 fModel_allRuns_7 (wi_getf904 fModel_allRuns_8 (wi_ic_ge fModel_allRuns_9 (fun c3 => (wi_iload1 fModel_allRuns_19 (wi_ret1 fModel_allRuns_20 (h.1 c3)))) (fun c3 => (wi_iload1 fModel_allRuns_10 (wi_aload0 fModel_allRuns_11 (wi_bipush fModel_allRuns_12 (wi_iload2 fModel_allRuns_13 (wi_call3 fModel_allRuns_14 (Nat.le_of_ble_eq_true rfl) (k_Model_runsAt (h.2 c3).1 (wi_iadd fModel_allRuns_15 ((h.2 c3).2 _ rfl).1 (wi_istore1 fModel_allRuns_16 trivial (wi_iinc2 fModel_allRuns_17 trivial (((h.2 c3).2 _ rfl).2 _ rfl).1 (wi_goto fModel_allRuns_18 (((h.2 c3).2 _ rfl).2 _ rfl).2)))))))))))))))
theorem k_Model_allRuns {xs : List Int} {d : Nat} {Q : Option w_V → w_M → Prop}  {σ : w_M} (hp : p_Model_allRuns σ) (hQ : ∀ (x : Int) (σ' : w_M), q_Model_allRuns σ x σ' → Q (some (.inl x)) σ') : w_Call (xs, d + 3) 224 [.inr (.inr (9, 122))] σ Q := by
  have hM : MI σ := hp
  have hs := hM.s
  refine bModel_allRuns_0 ⟨hM, fun τ hq => ?_⟩
  obtain ⟨g1, g2, g3, g4⟩ := mr_of hM hq
  have es : n_s (mS σ 0) = (σ 122 4).toNat := rfl
  have ea := r_alls_eq (mS σ) (by rw [es]; omega)
  refine w_loop (n := (σ 122 4).toNat) (P := fun i => LModel_allRuns_6 xs (d + 3) Q (f_sum (r_t (mS σ) 0) i) (i : Int) τ) ?_ ?_
  · exact bModel_allRuns_6 ⟨fun _ => hQ _ _ ⟨by rw [ea, es], hq⟩, fun h => by rw [g3] at h; omega⟩
  · intro i hi ih
    have h1 := r_t_le (S := mS σ) (n := 0) (by decide) (show i < n_s (mS σ 0) from hi)
    have h2 := f_sum_le (f := r_t (mS σ) 0) (B := 531441) (m := (σ 122 4).toNat) (fun i hi => r_t_le (S := mS σ) (n := 0) (by decide) (show i < n_s (mS σ 0) from hi)) (Nat.le_of_lt hi)
    simp only [f_sum] at ih
    rw [w_cs1] at ih
    refine bModel_allRuns_6 ⟨fun h => by rw [g3] at h; omega, fun _ => ⟨⟨g1, by decide, by rw [g3]; omega⟩, fun y ey => ?_⟩⟩
    unfold v_Model_runsAt at ey
    rw [g2, Int.toNat_natCast] at ey
    have ey' : y = r_t (mS σ) 0 i := ey
    refine ⟨⟨by omega, by omega⟩, fun y2 e2 => ⟨⟨by omega, by omega⟩, ?_⟩⟩
    rw [e2, ey']
    exact ih
noncomputable def p_Model_hare (_x1 : Int) (σ : w_M) : Prop := MI σ
noncomputable def q_Model_hare (x1 : Int) (σ : w_M) (x : Int) (σ' : w_M) : Prop := m_q (F_hare (mS σ) x1) (mS σ) σ x σ'
noncomputable def p_Model_runs  (σ : w_M) : Prop := MI σ
noncomputable def q_Model_runs  (σ : w_M) (x : Int) (σ' : w_M) : Prop := m_q (F_runs (mS σ)) (mS σ) σ x σ'
noncomputable def p_Model_look (_x1 : Int) (_x2 : Int) (σ : w_M) : Prop := MI σ
noncomputable def q_Model_look (x1 : Int) (x2 : Int) (σ : w_M) (x : Int) (σ' : w_M) : Prop := m_q (F_look (mS σ) x1 x2) (mS σ) σ x σ'
theorem fModel_hare_0 : w_fe am_c217 0 1 (.iload 1) := ⟨rfl, rfl⟩
theorem fModel_hare_1 : w_fe am_c217 1 2 (.i2l) := ⟨rfl, rfl⟩
theorem fModel_hare_2 : w_fe am_c217 2 3 (.sipush 0) := ⟨rfl, rfl⟩
theorem fModel_hare_3 : w_fe am_c217 3 4 (.sipush 6) := ⟨rfl, rfl⟩
theorem fModel_hare_4 : w_fe am_c217 4 5 (.invokestatic 157) := ⟨rfl, rfl⟩
theorem fModel_hare_5 : w_if am_c217 5 6 .ne 8 := ⟨rfl, rfl⟩
theorem fModel_hare_6 : w_fe am_c217 6 7 (.bipush (-1)) := ⟨rfl, rfl⟩
theorem fModel_hare_7 : w_fe am_c217 7 8 (.ireturn) := ⟨rfl, rfl⟩
theorem fModel_hare_8 : w_fe am_c217 8 9 (.aload 0) := ⟨rfl, rfl⟩
theorem fModel_hare_9 : w_fe am_c217 9 10 (.invokestatic 218) := ⟨rfl, rfl⟩
theorem fModel_hare_10 : w_fe am_c217 10 11 (.bipush 0) := ⟨rfl, rfl⟩
theorem fModel_hare_11 : w_fe am_c217 11 12 (.istore 2) := ⟨rfl, rfl⟩
theorem fModel_hare_12 : w_fe am_c217 12 13 (.bipush 0) := ⟨rfl, rfl⟩
theorem fModel_hare_13 : w_fe am_c217 13 14 (.istore 3) := ⟨rfl, rfl⟩
theorem fModel_hare_14 : w_fe am_c217 14 15 (.iload 3) := ⟨rfl, rfl⟩
theorem fModel_hare_15 : w_fe am_c217 15 16 (.aload 0) := ⟨rfl, rfl⟩
theorem fModel_hare_16 : w_fe am_c217 16 17 (.getfield 904) := ⟨rfl, rfl⟩
theorem fModel_hare_17 : w_ic am_c217 17 18 .ge 34 := ⟨rfl, rfl⟩
theorem fModel_hare_18 : w_fe am_c217 18 19 (.iload 2) := ⟨rfl, rfl⟩
theorem fModel_hare_19 : w_fe am_c217 19 20 (.aload 0) := ⟨rfl, rfl⟩
theorem fModel_hare_20 : w_fe am_c217 20 21 (.iload 1) := ⟨rfl, rfl⟩
theorem fModel_hare_21 : w_fe am_c217 21 22 (.iload 3) := ⟨rfl, rfl⟩
theorem fModel_hare_22 : w_fe am_c217 22 23 (.invokestatic 222) := ⟨rfl, rfl⟩
theorem fModel_hare_23 : w_if am_c217 23 24 .le 26 := ⟨rfl, rfl⟩
theorem fModel_hare_24 : w_fe am_c217 24 25 (.bipush 1) := ⟨rfl, rfl⟩
theorem fModel_hare_25 : w_gt am_c217 25 27 := rfl
theorem fModel_hare_26 : w_fe am_c217 26 27 (.bipush 0) := ⟨rfl, rfl⟩
theorem fModel_hare_27 : w_fe am_c217 27 28 (.invokestatic 179) := ⟨rfl, rfl⟩
theorem fModel_hare_28 : w_fe am_c217 28 29 (.iload 3) := ⟨rfl, rfl⟩
theorem fModel_hare_29 : w_fe am_c217 29 30 (.ishl) := ⟨rfl, rfl⟩
theorem fModel_hare_30 : w_fe am_c217 30 31 (.ior) := ⟨rfl, rfl⟩
theorem fModel_hare_31 : w_fe am_c217 31 32 (.istore 2) := ⟨rfl, rfl⟩
theorem fModel_hare_32 : w_fe am_c217 32 33 (.iinc 3 1) := ⟨rfl, rfl⟩
theorem fModel_hare_33 : w_gt am_c217 33 14 := rfl
theorem fModel_hare_34 : w_fe am_c217 34 35 (.iload 2) := ⟨rfl, rfl⟩
theorem fModel_hare_35 : w_fe am_c217 35 36 (.ireturn) := ⟨rfl, rfl⟩
noncomputable def LModel_hare_14 (xs : List Int) (d : Nat) (Q : Option w_V → w_M → Prop) (v1 : Int) (v2 : Int) (v3 : Int) (σ : w_M) : Prop := w_Ex (xs, d) 1 am_c217 Q 14 [some (.inr (.inr (9, 122))), some (.inl v1), some (.inl v2), some (.inl v3)] [] σ
set_option maxRecDepth 20000 in
theorem bModel_hare_0 {xs : List Int} {d : Nat} {Q : Option w_V → w_M → Prop} {x1 : Int} {σ : w_M}
    (h : ((0 ≤ x1 ∧ x1 ≤ 6) → (p_Model_findRuns σ ∧ (∀ (τ1 : w_M), q_Model_findRuns σ τ1 → LModel_hare_14 xs (d + 3) Q x1 0 0 τ1))) ∧ (¬ (0 ≤ x1 ∧ x1 ≤ 6) → Q (some (.inl (-1))) σ)) : w_Call (xs, (d + 3)) 217 [.inr (.inr (9, 122)), .inl x1] σ Q :=
  (w_mk (mid := 217) (by decide) rfl rfl rfl rfl rfl (Nat.le_of_ble_eq_true rfl) ⟨rfl, Or.inl (by decide)⟩ (wi_iload1 fModel_hare_0 (wi_i2l fModel_hare_1 (wi_sipush fModel_hare_2 (wi_sipush fModel_hare_3 (wi_call3 fModel_hare_4 (Nat.le_of_ble_eq_true rfl) (k_Model_in (wi_ifb_ne fModel_hare_5 (fun c2 => (wi_aload0 fModel_hare_8 (wi_call1 fModel_hare_9 (Nat.le_of_ble_eq_true rfl) (k_Model_findRuns (h.1 c2).1 (fun τ1 eτ1 => (wi_bipush fModel_hare_10 (wi_istore2 fModel_hare_11 trivial (wi_bipush fModel_hare_12 (wi_istore3 fModel_hare_13 trivial ((h.1 c2).2 τ1 eτ1)))))))))) (fun c2 => (wi_bipush fModel_hare_6 (wi_ret1 fModel_hare_7 (h.2 c2))))))))))))
set_option maxRecDepth 20000 in
theorem bModel_hare_14 {xs : List Int} {d : Nat} {Q : Option w_V → w_M → Prop} {v1 : Int} {v2 : Int} {v3 : Int} {σ : w_M}
    (h : ((σ 122 4) ≤ v3 → Q (some (.inl v2)) σ) ∧ (v3 < (σ 122 4) → (p_Model_runsAt v1 v3 σ ∧ (∀ (y1 : Int), y1 = v_Model_runsAt v1 v3 σ → ((y1 ≤ 0 → ∀ (y2 : Int), y2 = (w_or v2 (w_shl 0 v3)) → (w_in (v3 + 1) ∧ LModel_hare_14 xs (d + 3) Q v1 y2 (v3 + 1) σ)) ∧ (0 < y1 → ∀ (y3 : Int), y3 = (w_or v2 (w_shl 1 v3)) → (w_in (v3 + 1) ∧ LModel_hare_14 xs (d + 3) Q v1 y3 (v3 + 1) σ))))))) : LModel_hare_14 xs (d + 3) Q v1 v2 v3 σ :=
  (wi_iload3 fModel_hare_14 (wi_aload0 fModel_hare_15 (wi_getf904 fModel_hare_16 (wi_ic_ge fModel_hare_17 (fun c5 => (wi_iload2 fModel_hare_34 (wi_ret1 fModel_hare_35 (h.1 c5)))) (fun c5 => (wi_iload2 fModel_hare_18 (wi_aload0 fModel_hare_19 (wi_iload1 fModel_hare_20 (wi_iload3 fModel_hare_21 (wi_call3 fModel_hare_22 (Nat.le_of_ble_eq_true rfl) (k_Model_runsAt (h.2 c5).1 (wi_if_le fModel_hare_23 (fun c4 => (wi_bipush fModel_hare_26 (wi_call1 fModel_hare_27 (Nat.le_of_ble_eq_true rfl) (k_Model_flag (wi_iload3 fModel_hare_28 (wi_ishl fModel_hare_29 (wi_ior fModel_hare_30 (wi_istore2 fModel_hare_31 trivial (wi_iinc3 fModel_hare_32 trivial ((((h.2 c5).2 _ rfl).1 c4) _ rfl).1 (wi_goto fModel_hare_33 ((((h.2 c5).2 _ rfl).1 c4) _ rfl).2)))))))))) (fun c4 => (wi_bipush fModel_hare_24 (wi_goto fModel_hare_25 (wi_call1 fModel_hare_27 (Nat.le_of_ble_eq_true rfl) (k_Model_flag (wi_iload3 fModel_hare_28 (wi_ishl fModel_hare_29 (wi_ior fModel_hare_30 (wi_istore2 fModel_hare_31 trivial (wi_iinc3 fModel_hare_32 trivial ((((h.2 c5).2 _ rfl).2 c4) _ rfl).1 (wi_goto fModel_hare_33 ((((h.2 c5).2 _ rfl).2 c4) _ rfl).2)))))))))))))))))))))))
theorem fModel_runs_0 : w_fe am_c223 0 1 (.aload 0) := ⟨rfl, rfl⟩
theorem fModel_runs_1 : w_fe am_c223 1 2 (.invokestatic 224) := ⟨rfl, rfl⟩
theorem fModel_runs_2 : w_fe am_c223 2 3 (.ireturn) := ⟨rfl, rfl⟩
set_option maxRecDepth 20000 in
theorem bModel_runs_0 {xs : List Int} {d : Nat} {Q : Option w_V → w_M → Prop}  {σ : w_M}
    (h : p_Model_allRuns σ ∧ (∀ (y1 : Int) (τ2 : w_M), q_Model_allRuns σ y1 τ2 → Q (some (.inl y1)) τ2)) : w_Call (xs, (d + 4)) 223 [.inr (.inr (9, 122))] σ Q :=
  (w_mk (mid := 223) (by decide) rfl rfl rfl rfl rfl (Nat.le_of_ble_eq_true rfl) ⟨rfl, Or.inl (by decide)⟩ (wi_aload0 fModel_runs_0 (wi_call1 fModel_runs_1 (Nat.le_of_ble_eq_true rfl) (k_Model_allRuns h.1 (fun y1 τ2 eτ2 => (wi_ret1 fModel_runs_2 (h.2 y1 τ2 eτ2)))))))
theorem fModel_look_0 : w_fe am_c225 0 1 (.iload 1) := ⟨rfl, rfl⟩
theorem fModel_look_1 : w_fe am_c225 1 2 (.i2l) := ⟨rfl, rfl⟩
theorem fModel_look_2 : w_fe am_c225 2 3 (.sipush 0) := ⟨rfl, rfl⟩
theorem fModel_look_3 : w_fe am_c225 3 4 (.sipush 6) := ⟨rfl, rfl⟩
theorem fModel_look_4 : w_fe am_c225 4 5 (.invokestatic 157) := ⟨rfl, rfl⟩
theorem fModel_look_5 : w_if am_c225 5 6 .eq 12 := ⟨rfl, rfl⟩
theorem fModel_look_6 : w_fe am_c225 6 7 (.iload 2) := ⟨rfl, rfl⟩
theorem fModel_look_7 : w_fe am_c225 7 8 (.i2l) := ⟨rfl, rfl⟩
theorem fModel_look_8 : w_fe am_c225 8 9 (.sipush 0) := ⟨rfl, rfl⟩
theorem fModel_look_9 : w_fe am_c225 9 10 (.sipush 1) := ⟨rfl, rfl⟩
theorem fModel_look_10 : w_fe am_c225 10 11 (.invokestatic 157) := ⟨rfl, rfl⟩
theorem fModel_look_11 : w_if am_c225 11 12 .ne 14 := ⟨rfl, rfl⟩
theorem fModel_look_12 : w_fe am_c225 12 13 (.bipush (-1)) := ⟨rfl, rfl⟩
theorem fModel_look_13 : w_fe am_c225 13 14 (.ireturn) := ⟨rfl, rfl⟩
theorem fModel_look_14 : w_fe am_c225 14 15 (.aload 0) := ⟨rfl, rfl⟩
theorem fModel_look_15 : w_fe am_c225 15 16 (.invokestatic 224) := ⟨rfl, rfl⟩
theorem fModel_look_16 : w_fe am_c225 16 17 (.istore 3) := ⟨rfl, rfl⟩
theorem fModel_look_17 : w_fe am_c225 17 18 (.iload 3) := ⟨rfl, rfl⟩
theorem fModel_look_18 : w_fe am_c225 18 19 (.istore 4) := ⟨rfl, rfl⟩
theorem fModel_look_19 : w_fe am_c225 19 20 (.bipush (-4)) := ⟨rfl, rfl⟩
theorem fModel_look_20 : w_fe am_c225 20 21 (.istore 5) := ⟨rfl, rfl⟩
theorem fModel_look_21 : w_fe am_c225 21 22 (.bipush 0) := ⟨rfl, rfl⟩
theorem fModel_look_22 : w_fe am_c225 22 23 (.istore 6) := ⟨rfl, rfl⟩
theorem fModel_look_23 : w_fe am_c225 23 24 (.iload 6) := ⟨rfl, rfl⟩
theorem fModel_look_24 : w_fe am_c225 24 25 (.aload 0) := ⟨rfl, rfl⟩
theorem fModel_look_25 : w_fe am_c225 25 26 (.getfield 904) := ⟨rfl, rfl⟩
theorem fModel_look_26 : w_ic am_c225 26 27 .ge 59 := ⟨rfl, rfl⟩
theorem fModel_look_27 : w_fe am_c225 27 28 (.aload 0) := ⟨rfl, rfl⟩
theorem fModel_look_28 : w_fe am_c225 28 29 (.iload 1) := ⟨rfl, rfl⟩
theorem fModel_look_29 : w_fe am_c225 29 30 (.iload 6) := ⟨rfl, rfl⟩
theorem fModel_look_30 : w_fe am_c225 30 31 (.invokestatic 222) := ⟨rfl, rfl⟩
theorem fModel_look_31 : w_fe am_c225 31 32 (.istore 7) := ⟨rfl, rfl⟩
theorem fModel_look_32 : w_fe am_c225 32 33 (.iload 7) := ⟨rfl, rfl⟩
theorem fModel_look_33 : w_fe am_c225 33 34 (.iload 3) := ⟨rfl, rfl⟩
theorem fModel_look_34 : w_fe am_c225 34 35 (.iload 7) := ⟨rfl, rfl⟩
theorem fModel_look_35 : w_fe am_c225 35 36 (.isub) := ⟨rfl, rfl⟩
theorem fModel_look_36 : w_ic am_c225 36 37 .le 39 := ⟨rfl, rfl⟩
theorem fModel_look_37 : w_fe am_c225 37 38 (.iload 7) := ⟨rfl, rfl⟩
theorem fModel_look_38 : w_gt am_c225 38 42 := rfl
theorem fModel_look_39 : w_fe am_c225 39 40 (.iload 3) := ⟨rfl, rfl⟩
theorem fModel_look_40 : w_fe am_c225 40 41 (.iload 7) := ⟨rfl, rfl⟩
theorem fModel_look_41 : w_fe am_c225 41 42 (.isub) := ⟨rfl, rfl⟩
theorem fModel_look_42 : w_fe am_c225 42 43 (.istore 8) := ⟨rfl, rfl⟩
theorem fModel_look_43 : w_fe am_c225 43 44 (.iload 8) := ⟨rfl, rfl⟩
theorem fModel_look_44 : w_fe am_c225 44 45 (.iload 4) := ⟨rfl, rfl⟩
theorem fModel_look_45 : w_ic am_c225 45 46 .ge 48 := ⟨rfl, rfl⟩
theorem fModel_look_46 : w_fe am_c225 46 47 (.iload 6) := ⟨rfl, rfl⟩
theorem fModel_look_47 : w_gt am_c225 47 49 := rfl
theorem fModel_look_48 : w_fe am_c225 48 49 (.iload 5) := ⟨rfl, rfl⟩
theorem fModel_look_49 : w_fe am_c225 49 50 (.istore 5) := ⟨rfl, rfl⟩
theorem fModel_look_50 : w_fe am_c225 50 51 (.iload 8) := ⟨rfl, rfl⟩
theorem fModel_look_51 : w_fe am_c225 51 52 (.iload 4) := ⟨rfl, rfl⟩
theorem fModel_look_52 : w_ic am_c225 52 53 .ge 55 := ⟨rfl, rfl⟩
theorem fModel_look_53 : w_fe am_c225 53 54 (.iload 8) := ⟨rfl, rfl⟩
theorem fModel_look_54 : w_gt am_c225 54 56 := rfl
theorem fModel_look_55 : w_fe am_c225 55 56 (.iload 4) := ⟨rfl, rfl⟩
theorem fModel_look_56 : w_fe am_c225 56 57 (.istore 4) := ⟨rfl, rfl⟩
theorem fModel_look_57 : w_fe am_c225 57 58 (.iinc 6 1) := ⟨rfl, rfl⟩
theorem fModel_look_58 : w_gt am_c225 58 23 := rfl
theorem fModel_look_59 : w_fe am_c225 59 60 (.iload 5) := ⟨rfl, rfl⟩
theorem fModel_look_60 : w_fe am_c225 60 61 (.bipush (-4)) := ⟨rfl, rfl⟩
theorem fModel_look_61 : w_ic am_c225 61 62 .ne 64 := ⟨rfl, rfl⟩
theorem fModel_look_62 : w_fe am_c225 62 63 (.bipush (-4)) := ⟨rfl, rfl⟩
theorem fModel_look_63 : w_gt am_c225 63 69 := rfl
theorem fModel_look_64 : w_fe am_c225 64 65 (.iload 2) := ⟨rfl, rfl⟩
theorem fModel_look_65 : w_if am_c225 65 66 .ne 68 := ⟨rfl, rfl⟩
theorem fModel_look_66 : w_fe am_c225 66 67 (.iload 5) := ⟨rfl, rfl⟩
theorem fModel_look_67 : w_gt am_c225 67 69 := rfl
theorem fModel_look_68 : w_fe am_c225 68 69 (.iload 4) := ⟨rfl, rfl⟩
theorem fModel_look_69 : w_fe am_c225 69 70 (.ireturn) := ⟨rfl, rfl⟩
noncomputable def LModel_look_23 (xs : List Int) (d : Nat) (Q : Option w_V → w_M → Prop) (v1 : Int) (v2 : Int) (v3 : Int) (v4 : Int) (v5 : Int) (v6 : Int) (σ : w_M) : Prop := ∀ l7, w_nl l7 → ∀ l8, w_nl l8 → w_Ex (xs, d) 1 am_c225 Q 23 [some (.inr (.inr (9, 122))), some (.inl v1), some (.inl v2), some (.inl v3), some (.inl v4), some (.inl v5), some (.inl v6), l7, l8] [] σ
set_option maxRecDepth 20000 in
theorem bModel_look_0 {xs : List Int} {d : Nat} {Q : Option w_V → w_M → Prop} {x1 : Int} {x2 : Int} {σ : w_M}
    (h : (¬ (0 ≤ x1 ∧ x1 ≤ 6) → Q (some (.inl (-1))) σ) ∧ ((0 ≤ x1 ∧ x1 ≤ 6) → (((0 ≤ x2 ∧ x2 ≤ 1) → (p_Model_allRuns σ ∧ (∀ (y1 : Int) (τ2 : w_M), q_Model_allRuns σ y1 τ2 → LModel_look_23 xs (d + 4) Q x1 x2 y1 y1 (-4) 0 τ2))) ∧ (¬ (0 ≤ x2 ∧ x2 ≤ 1) → Q (some (.inl (-1))) σ)))) : w_Call (xs, (d + 4)) 225 [.inr (.inr (9, 122)), .inl x1, .inl x2] σ Q :=
  (w_mk (mid := 225) (by decide) rfl rfl rfl rfl rfl (Nat.le_of_ble_eq_true rfl) ⟨rfl, Or.inl (by decide)⟩ (wi_iload1 fModel_look_0 (wi_i2l fModel_look_1 (wi_sipush fModel_look_2 (wi_sipush fModel_look_3 (wi_call3 fModel_look_4 (Nat.le_of_ble_eq_true rfl) (k_Model_in (wi_ifb_eq fModel_look_5 (fun c4 => (wi_bipush fModel_look_12 (wi_ret1 fModel_look_13 (h.1 c4)))) (fun c4 => (wi_iload2 fModel_look_6 (wi_i2l fModel_look_7 (wi_sipush fModel_look_8 (wi_sipush fModel_look_9 (wi_call3 fModel_look_10 (Nat.le_of_ble_eq_true rfl) (k_Model_in (wi_ifb_ne fModel_look_11 (fun c3 => (wi_aload0 fModel_look_14 (wi_call1 fModel_look_15 (Nat.le_of_ble_eq_true rfl) (k_Model_allRuns ((h.2 c4).1 c3).1 (fun y1 τ2 eτ2 => (wi_istore3 fModel_look_16 trivial (wi_iload3 fModel_look_17 (wi_istore4 fModel_look_18 trivial (wi_bipush fModel_look_19 (wi_istore5 fModel_look_20 trivial (wi_bipush fModel_look_21 (wi_istore6 fModel_look_22 trivial ((((h.2 c4).1 c3).2 y1 τ2 eτ2) _ (by exact trivial) _ (by exact trivial)))))))))))))) (fun c3 => (wi_bipush fModel_look_12 (wi_ret1 fModel_look_13 ((h.2 c4).2 c3))))))))))))))))))))
set_option maxRecDepth 20000 in
theorem bModel_look_23 {xs : List Int} {d : Nat} {Q : Option w_V → w_M → Prop} {v1 : Int} {v2 : Int} {v3 : Int} {v4 : Int} {v5 : Int} {v6 : Int} {σ : w_M}
    (h : ((σ 122 4) ≤ v6 → ((¬ v5 = (-4) → ((¬ v2 = 0 → Q (some (.inl v4)) σ) ∧ (v2 = 0 → Q (some (.inl v5)) σ))) ∧ (v5 = (-4) → Q (some (.inl (-4))) σ))) ∧ (v6 < (σ 122 4) → (p_Model_runsAt v1 v6 σ ∧ (∀ (y3 : Int), y3 = v_Model_runsAt v1 v6 σ → (w_in (v3 - y3) ∧ ((y3 ≤ (v3 - y3) → ∀ (y4 : Int), y4 = (v3 - y3) → ((v4 ≤ y4 → (w_in (v6 + 1) ∧ LModel_look_23 xs (d + 4) Q v1 v2 v3 v4 v5 (v6 + 1) σ)) ∧ (y4 < v4 → (w_in (v6 + 1) ∧ LModel_look_23 xs (d + 4) Q v1 v2 v3 y4 v6 (v6 + 1) σ)))) ∧ ((v3 - y3) < y3 → ((v4 ≤ y3 → (w_in (v6 + 1) ∧ LModel_look_23 xs (d + 4) Q v1 v2 v3 v4 v5 (v6 + 1) σ)) ∧ (y3 < v4 → (w_in (v6 + 1) ∧ LModel_look_23 xs (d + 4) Q v1 v2 v3 y3 v6 (v6 + 1) σ)))))))))) : LModel_look_23 xs (d + 4) Q v1 v2 v3 v4 v5 v6 σ :=
  fun l7 nl7 => fun l8 nl8 => (wi_iload6 fModel_look_23 (wi_aload0 fModel_look_24 (wi_getf904 fModel_look_25 (wi_ic_ge fModel_look_26 (fun c8 => (wi_iload5 fModel_look_59 (wi_bipush fModel_look_60 (wi_ic_ne fModel_look_61 (fun c2 => (wi_iload2 fModel_look_64 (wi_if_ne fModel_look_65 (fun c1 => (wi_iload4 fModel_look_68 (wi_ret1 fModel_look_69 (((h.1 c8).1 c2).1 c1)))) (fun c1 => (wi_iload5 fModel_look_66 (wi_goto fModel_look_67 (wi_ret1 fModel_look_69 (((h.1 c8).1 c2).2 c1)))))))) (fun c2 => (wi_bipush fModel_look_62 (wi_goto fModel_look_63 (wi_ret1 fModel_look_69 ((h.1 c8).2 c2))))))))) (fun c8 => (wi_aload0 fModel_look_27 (wi_iload1 fModel_look_28 (wi_iload6 fModel_look_29 (wi_call3 fModel_look_30 (Nat.le_of_ble_eq_true rfl) (k_Model_runsAt (h.2 c8).1 (wi_istore7 fModel_look_31 trivial (wi_iload7 fModel_look_32 (wi_iload3 fModel_look_33 (wi_iload7 fModel_look_34 (wi_isub fModel_look_35 ((h.2 c8).2 _ rfl).1 (wi_ic_le fModel_look_36 (fun c7 => (wi_iload3 fModel_look_39 (wi_iload7 fModel_look_40 (wi_isub fModel_look_41 ((h.2 c8).2 _ rfl).1 (wi_istore8 fModel_look_42 trivial (wi_iload8 fModel_look_43 (wi_iload4 fModel_look_44 (wi_ic_ge fModel_look_45 (fun c5 => (wi_iload5 fModel_look_48 (wi_istore5 fModel_look_49 trivial (wi_iload8 fModel_look_50 (wi_iload4 fModel_look_51 (wi_ic_ge fModel_look_52 (fun _ => (wi_iload4 fModel_look_55 (wi_istore4 fModel_look_56 trivial (wi_iinc6 fModel_look_57 trivial (((((h.2 c8).2 _ rfl).2.1 c7) _ rfl).1 c5).1 (wi_goto fModel_look_58 ((((((h.2 c8).2 _ rfl).2.1 c7) _ rfl).1 c5).2 _ (by exact trivial) _ (by exact trivial))))))) (fun e => absurd c5 (w_n_ge e)))))))) (fun c5 => (wi_iload6 fModel_look_46 (wi_goto fModel_look_47 (wi_istore5 fModel_look_49 trivial (wi_iload8 fModel_look_50 (wi_iload4 fModel_look_51 (wi_ic_ge fModel_look_52 (fun e => absurd c5 (w_m_ge e)) (fun _ => (wi_iload8 fModel_look_53 (wi_goto fModel_look_54 (wi_istore4 fModel_look_56 trivial (wi_iinc6 fModel_look_57 trivial (((((h.2 c8).2 _ rfl).2.1 c7) _ rfl).2 c5).1 (wi_goto fModel_look_58 ((((((h.2 c8).2 _ rfl).2.1 c7) _ rfl).2 c5).2 _ (by exact trivial) _ (by exact trivial))))))))))))))))))))))) (fun c7 => (wi_iload7 fModel_look_37 (wi_goto fModel_look_38 (wi_istore8 fModel_look_42 trivial (wi_iload8 fModel_look_43 (wi_iload4 fModel_look_44 (wi_ic_ge fModel_look_45 (fun c6 => (wi_iload5 fModel_look_48 (wi_istore5 fModel_look_49 trivial (wi_iload8 fModel_look_50 (wi_iload4 fModel_look_51 (wi_ic_ge fModel_look_52 (fun _ => (wi_iload4 fModel_look_55 (wi_istore4 fModel_look_56 trivial (wi_iinc6 fModel_look_57 trivial ((((h.2 c8).2 _ rfl).2.2 c7).1 c6).1 (wi_goto fModel_look_58 (((((h.2 c8).2 _ rfl).2.2 c7).1 c6).2 _ (by exact trivial) _ (by exact trivial))))))) (fun e => absurd c6 (w_n_ge e)))))))) (fun c6 => (wi_iload6 fModel_look_46 (wi_goto fModel_look_47 (wi_istore5 fModel_look_49 trivial (wi_iload8 fModel_look_50 (wi_iload4 fModel_look_51 (wi_ic_ge fModel_look_52 (fun e => absurd c6 (w_m_ge e)) (fun _ => (wi_iload8 fModel_look_53 (wi_goto fModel_look_54 (wi_istore4 fModel_look_56 trivial (wi_iinc6 fModel_look_57 trivial ((((h.2 c8).2 _ rfl).2.2 c7).2 c6).1 (wi_goto fModel_look_58 (((((h.2 c8).2 _ rfl).2.2 c7).2 c6).2 _ (by exact trivial) _ (by exact trivial))))))))))))))))))))))))))))))))))))))
theorem k_Model_hare {xs : List Int} {d : Nat} {Q : Option w_V → w_M → Prop} {x1 : Int} {σ : w_M} (hp : p_Model_hare x1 σ) (hQ : ∀ (x : Int) (σ' : w_M), q_Model_hare x1 σ x σ' → Q (some (.inl x)) σ') : w_Call (xs, d + 3) 217 [.inr (.inr (9, 122)), .inl x1] σ Q := by
  have hM : MI σ := hp
  have hs := hM.s
  unfold q_Model_hare F_hare at hQ
  refine bModel_hare_0 ⟨fun c => ⟨hM, fun τ hq => ?_⟩, fun c => ?_⟩
  · obtain ⟨g1, g2, g3, g4⟩ := mr_of hM hq
    rw [if_pos c] at hQ
    refine w_loop (n := (σ 122 4).toNat) (P := fun i => LModel_hare_14 xs (d + 3) Q x1 ((r_msk (r_t (mS σ) x1.toNat) i : Nat) : Int) (i : Int) τ) ?_ ?_
    · exact bModel_hare_14 ⟨fun _ => hQ _ _ (mq_of hM hq rfl), fun h => by rw [g3] at h; omega⟩
    · intro i hi ih
      have hb := w_bit_or i (by omega) _ (r_msk_lt (r_t (mS σ) x1.toNat) i)
      simp only [r_msk] at ih
      rw [w_cs1] at ih
      refine bModel_hare_14 ⟨fun h => by rw [g3] at h; omega, fun _ => ⟨⟨g1, c, by rw [g3]; omega⟩, fun y ey => ?_⟩⟩
      unfold v_Model_runsAt at ey
      rw [g2, Int.toNat_natCast] at ey
      refine ⟨fun c2 y2 e2 => ⟨⟨by omega, by omega⟩, ?_⟩, fun c2 y2 e2 => ⟨⟨by omega, by omega⟩, ?_⟩⟩
      · rw [if_neg (by rw [← ey]; omega), Nat.add_zero] at ih
        rw [e2, hb.2]
        exact ih
      · rw [if_pos (by rw [← ey]; exact c2)] at ih
        rw [e2, hb.1]
        exact ih
  · rw [if_neg c] at hQ
    exact hQ _ _ (m_qr hM rfl)
theorem k_Model_runs {xs : List Int} {d : Nat} {Q : Option w_V → w_M → Prop}  {σ : w_M} (hp : p_Model_runs σ) (hQ : ∀ (x : Int) (σ' : w_M), q_Model_runs σ x σ' → Q (some (.inl x)) σ') : w_Call (xs, d + 4) 223 [.inr (.inr (9, 122))] σ Q := by
  have hM : MI σ := hp
  unfold q_Model_runs F_runs at hQ
  exact bModel_runs_0 ⟨hM, fun y τ hq => hQ _ _ (mq_of hM hq.2 hq.1)⟩
theorem k_Model_look {xs : List Int} {d : Nat} {Q : Option w_V → w_M → Prop} {x1 : Int} {x2 : Int} {σ : w_M} (hp : p_Model_look x1 x2 σ) (hQ : ∀ (x : Int) (σ' : w_M), q_Model_look x1 x2 σ x σ' → Q (some (.inl x)) σ') : w_Call (xs, d + 4) 225 [.inr (.inr (9, 122)), .inl x1, .inl x2] σ Q := by
  have hM : MI σ := hp
  have hs := hM.s
  unfold q_Model_look F_look at hQ
  refine bModel_look_0 ⟨fun c => ?_, fun c => ⟨fun c2 => ⟨hM, fun y1 τ hq => ?_⟩, fun c2 => ?_⟩⟩
  · rw [if_neg (fun q => c q.1)] at hQ
    exact hQ _ _ (m_qr hM rfl)
  · obtain ⟨e1, hq⟩ := hq
    obtain ⟨g1, g2, g3, g4⟩ := mr_of hM hq
    rw [if_pos ⟨c, c2⟩, ← e1] at hQ
    have es : n_s (mS σ 0) = (σ 122 4).toNat := rfl
    have ba : 0 ≤ y1 ∧ y1 ≤ 3720087 := by
      have h2 := f_sum_le (f := r_t (mS σ) 0) (B := 531441) (m := (σ 122 4).toNat) (fun i hi => r_t_le (S := mS σ) (n := 0) (by decide) (show i < n_s (mS σ 0) from hi)) (Nat.le_refl _)
      rw [e1, r_alls_eq (mS σ) (by rw [es]; omega), es]
      omega
    generalize hf : r_t (mS σ) x1.toNat = f at hQ
    refine w_loop (n := (σ 122 4).toNat) (P := fun i => LModel_look_23 xs (d + 4) Q x1 x2 y1 (r_best f y1 i).2 (r_best f y1 i).1 (i : Int) τ) ?_ ?_
    · rw [es] at hQ
      unfold r_ans at hQ
      refine bModel_look_23 ⟨fun _ => ⟨fun c3 => ⟨fun c4 => ?_, fun c4 => ?_⟩, fun c3 => ?_⟩, fun h => by rw [g3] at h; omega⟩
      · rw [if_neg c3, if_neg c4] at hQ
        exact hQ _ _ (mq_of hM hq rfl)
      · rw [if_neg c3, if_pos c4] at hQ
        exact hQ _ _ (mq_of hM hq rfl)
      · rw [if_pos c3] at hQ
        exact hQ _ _ (mq_of hM hq rfl)
    · intro i hi ih
      have h1 : 0 ≤ f i ∧ f i ≤ 531441 := by
        rw [← hf]
        exact r_t_le (by omega) (show i < n_s (mS σ 0) from hi)
      simp only [r_best] at ih
      rw [w_cs1] at ih
      refine bModel_look_23 ⟨fun h => by rw [g3] at h; omega, fun _ => ⟨⟨g1, c, by rw [g3]; omega⟩, fun y3 e3 => ?_⟩⟩
      unfold v_Model_runsAt at e3
      rw [g2, Int.toNat_natCast, hf] at e3
      have w1 : y3 ≤ y1 - y3 → r_wst y1 (f i) = y1 - y3 := fun h => by rw [← e3]; exact if_pos h
      have w2 : y1 - y3 < y3 → r_wst y1 (f i) = y3 := fun h => by rw [← e3]; exact if_neg (by omega)
      refine ⟨⟨by omega, by omega⟩, fun c3 y4 e4 => ⟨fun c4 => ⟨⟨by omega, by omega⟩, ?_⟩, fun c4 => ⟨⟨by omega, by omega⟩, ?_⟩⟩, fun c3 => ⟨fun c4 => ⟨⟨by omega, by omega⟩, ?_⟩, fun c4 => ⟨⟨by omega, by omega⟩, ?_⟩⟩⟩
      · rw [w1 c3, ← e4, if_neg (by omega)] at ih; exact ih
      · rw [w1 c3, ← e4, if_pos c4] at ih; exact ih
      · rw [w2 c3, if_neg (by omega)] at ih; exact ih
      · rw [w2 c3, if_pos c4] at ih; exact ih
  · rw [if_neg (fun q => c2 q.2)] at hQ
    exact hQ _ _ (m_qr hM rfl)
