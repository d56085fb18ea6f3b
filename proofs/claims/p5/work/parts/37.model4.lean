/-! The reference's calls: lend, cloud, hours -/
noncomputable def p_Model_lend (_x1 : Int) (_x2 : Int) (_x3 : Int) (σ : w_M) : Prop := MI σ
noncomputable def q_Model_lend (x1 : Int) (x2 : Int) (x3 : Int) (σ : w_M) (x : Int) (σ' : w_M) : Prop := m_q (F_lend (mS σ) x1 x2 x3) (G_lend (mS σ) x1 x2 x3) σ x σ'
theorem fModel_lend_0 : w_fe am_c186 0 1 (.aload 0) := ⟨rfl, rfl⟩
theorem fModel_lend_1 : w_fe am_c186 1 2 (.iload 1) := ⟨rfl, rfl⟩
theorem fModel_lend_2 : w_fe am_c186 2 3 (.invokestatic 181) := ⟨rfl, rfl⟩
theorem fModel_lend_3 : w_if am_c186 3 4 .eq 17 := ⟨rfl, rfl⟩
theorem fModel_lend_4 : w_fe am_c186 4 5 (.aload 0) := ⟨rfl, rfl⟩
theorem fModel_lend_5 : w_fe am_c186 5 6 (.iload 2) := ⟨rfl, rfl⟩
theorem fModel_lend_6 : w_fe am_c186 6 7 (.invokestatic 181) := ⟨rfl, rfl⟩
theorem fModel_lend_7 : w_if am_c186 7 8 .eq 17 := ⟨rfl, rfl⟩
theorem fModel_lend_8 : w_fe am_c186 8 9 (.iload 1) := ⟨rfl, rfl⟩
theorem fModel_lend_9 : w_fe am_c186 9 10 (.iload 2) := ⟨rfl, rfl⟩
theorem fModel_lend_10 : w_ic am_c186 10 11 .eq 17 := ⟨rfl, rfl⟩
theorem fModel_lend_11 : w_fe am_c186 11 12 (.iload 3) := ⟨rfl, rfl⟩
theorem fModel_lend_12 : w_fe am_c186 12 13 (.i2l) := ⟨rfl, rfl⟩
theorem fModel_lend_13 : w_fe am_c186 13 14 (.sipush 0) := ⟨rfl, rfl⟩
theorem fModel_lend_14 : w_fe am_c186 14 15 (.sipush 9) := ⟨rfl, rfl⟩
theorem fModel_lend_15 : w_fe am_c186 15 16 (.invokestatic 157) := ⟨rfl, rfl⟩
theorem fModel_lend_16 : w_if am_c186 16 17 .ne 19 := ⟨rfl, rfl⟩
theorem fModel_lend_17 : w_fe am_c186 17 18 (.bipush (-1)) := ⟨rfl, rfl⟩
theorem fModel_lend_18 : w_fe am_c186 18 19 (.ireturn) := ⟨rfl, rfl⟩
theorem fModel_lend_19 : w_fe am_c186 19 20 (.bipush 21) := ⟨rfl, rfl⟩
theorem fModel_lend_20 : w_fe am_c186 20 21 (.bipush 5) := ⟨rfl, rfl⟩
theorem fModel_lend_21 : w_fe am_c186 21 22 (.iload 1) := ⟨rfl, rfl⟩
theorem fModel_lend_22 : w_fe am_c186 22 23 (.imul) := ⟨rfl, rfl⟩
theorem fModel_lend_23 : w_fe am_c186 23 24 (.iadd) := ⟨rfl, rfl⟩
theorem fModel_lend_24 : w_fe am_c186 24 25 (.istore 4) := ⟨rfl, rfl⟩
theorem fModel_lend_25 : w_fe am_c186 25 26 (.bipush 21) := ⟨rfl, rfl⟩
theorem fModel_lend_26 : w_fe am_c186 26 27 (.bipush 5) := ⟨rfl, rfl⟩
theorem fModel_lend_27 : w_fe am_c186 27 28 (.iload 2) := ⟨rfl, rfl⟩
theorem fModel_lend_28 : w_fe am_c186 28 29 (.imul) := ⟨rfl, rfl⟩
theorem fModel_lend_29 : w_fe am_c186 29 30 (.iadd) := ⟨rfl, rfl⟩
theorem fModel_lend_30 : w_fe am_c186 30 31 (.istore 5) := ⟨rfl, rfl⟩
theorem fModel_lend_31 : w_fe am_c186 31 32 (.aload 0) := ⟨rfl, rfl⟩
theorem fModel_lend_32 : w_fe am_c186 32 33 (.getfield 900) := ⟨rfl, rfl⟩
theorem fModel_lend_33 : w_fe am_c186 33 34 (.iload 4) := ⟨rfl, rfl⟩
theorem fModel_lend_34 : w_fe am_c186 34 35 (.bipush 3) := ⟨rfl, rfl⟩
theorem fModel_lend_35 : w_fe am_c186 35 36 (.iadd) := ⟨rfl, rfl⟩
theorem fModel_lend_36 : w_fe am_c186 36 37 (.iaload) := ⟨rfl, rfl⟩
theorem fModel_lend_37 : w_fe am_c186 37 38 (.aload 0) := ⟨rfl, rfl⟩
theorem fModel_lend_38 : w_fe am_c186 38 39 (.getfield 900) := ⟨rfl, rfl⟩
theorem fModel_lend_39 : w_fe am_c186 39 40 (.iload 5) := ⟨rfl, rfl⟩
theorem fModel_lend_40 : w_fe am_c186 40 41 (.bipush 3) := ⟨rfl, rfl⟩
theorem fModel_lend_41 : w_fe am_c186 41 42 (.iadd) := ⟨rfl, rfl⟩
theorem fModel_lend_42 : w_fe am_c186 42 43 (.iaload) := ⟨rfl, rfl⟩
theorem fModel_lend_43 : w_fe am_c186 43 44 (.isub) := ⟨rfl, rfl⟩
theorem fModel_lend_44 : w_fe am_c186 44 45 (.i2l) := ⟨rfl, rfl⟩
theorem fModel_lend_45 : w_fe am_c186 45 46 (.sipush (-1)) := ⟨rfl, rfl⟩
theorem fModel_lend_46 : w_fe am_c186 46 47 (.sipush 1) := ⟨rfl, rfl⟩
theorem fModel_lend_47 : w_fe am_c186 47 48 (.invokestatic 157) := ⟨rfl, rfl⟩
theorem fModel_lend_48 : w_if am_c186 48 49 .eq 57 := ⟨rfl, rfl⟩
theorem fModel_lend_49 : w_fe am_c186 49 50 (.aload 0) := ⟨rfl, rfl⟩
theorem fModel_lend_50 : w_fe am_c186 50 51 (.getfield 900) := ⟨rfl, rfl⟩
theorem fModel_lend_51 : w_fe am_c186 51 52 (.iload 4) := ⟨rfl, rfl⟩
theorem fModel_lend_52 : w_fe am_c186 52 53 (.bipush 1) := ⟨rfl, rfl⟩
theorem fModel_lend_53 : w_fe am_c186 53 54 (.iadd) := ⟨rfl, rfl⟩
theorem fModel_lend_54 : w_fe am_c186 54 55 (.iaload) := ⟨rfl, rfl⟩
theorem fModel_lend_55 : w_fe am_c186 55 56 (.iload 3) := ⟨rfl, rfl⟩
theorem fModel_lend_56 : w_ic am_c186 56 57 .ge 59 := ⟨rfl, rfl⟩
theorem fModel_lend_57 : w_fe am_c186 57 58 (.bipush (-2)) := ⟨rfl, rfl⟩
theorem fModel_lend_58 : w_fe am_c186 58 59 (.ireturn) := ⟨rfl, rfl⟩
theorem fModel_lend_59 : w_fe am_c186 59 60 (.aload 0) := ⟨rfl, rfl⟩
theorem fModel_lend_60 : w_fe am_c186 60 61 (.getfield 900) := ⟨rfl, rfl⟩
theorem fModel_lend_61 : w_fe am_c186 61 62 (.iload 5) := ⟨rfl, rfl⟩
theorem fModel_lend_62 : w_fe am_c186 62 63 (.bipush 1) := ⟨rfl, rfl⟩
theorem fModel_lend_63 : w_fe am_c186 63 64 (.iadd) := ⟨rfl, rfl⟩
theorem fModel_lend_64 : w_fe am_c186 64 65 (.iaload) := ⟨rfl, rfl⟩
theorem fModel_lend_65 : w_fe am_c186 65 66 (.iload 3) := ⟨rfl, rfl⟩
theorem fModel_lend_66 : w_fe am_c186 66 67 (.iadd) := ⟨rfl, rfl⟩
theorem fModel_lend_67 : w_fe am_c186 67 68 (.bipush 9) := ⟨rfl, rfl⟩
theorem fModel_lend_68 : w_ic am_c186 68 69 .le 71 := ⟨rfl, rfl⟩
theorem fModel_lend_69 : w_fe am_c186 69 70 (.bipush (-3)) := ⟨rfl, rfl⟩
theorem fModel_lend_70 : w_fe am_c186 70 71 (.ireturn) := ⟨rfl, rfl⟩
theorem fModel_lend_71 : w_fe am_c186 71 72 (.aload 0) := ⟨rfl, rfl⟩
theorem fModel_lend_72 : w_fe am_c186 72 73 (.getfield 900) := ⟨rfl, rfl⟩
theorem fModel_lend_73 : w_fe am_c186 73 74 (.iload 4) := ⟨rfl, rfl⟩
theorem fModel_lend_74 : w_fe am_c186 74 75 (.bipush 1) := ⟨rfl, rfl⟩
theorem fModel_lend_75 : w_fe am_c186 75 76 (.iadd) := ⟨rfl, rfl⟩
theorem fModel_lend_76 : w_fe am_c186 76 77 (.dup2) := ⟨rfl, rfl⟩
theorem fModel_lend_77 : w_fe am_c186 77 78 (.iaload) := ⟨rfl, rfl⟩
theorem fModel_lend_78 : w_fe am_c186 78 79 (.iload 3) := ⟨rfl, rfl⟩
theorem fModel_lend_79 : w_fe am_c186 79 80 (.isub) := ⟨rfl, rfl⟩
theorem fModel_lend_80 : w_fe am_c186 80 81 (.iastore) := ⟨rfl, rfl⟩
theorem fModel_lend_81 : w_fe am_c186 81 82 (.aload 0) := ⟨rfl, rfl⟩
theorem fModel_lend_82 : w_fe am_c186 82 83 (.getfield 900) := ⟨rfl, rfl⟩
theorem fModel_lend_83 : w_fe am_c186 83 84 (.iload 5) := ⟨rfl, rfl⟩
theorem fModel_lend_84 : w_fe am_c186 84 85 (.bipush 1) := ⟨rfl, rfl⟩
theorem fModel_lend_85 : w_fe am_c186 85 86 (.iadd) := ⟨rfl, rfl⟩
theorem fModel_lend_86 : w_fe am_c186 86 87 (.dup2) := ⟨rfl, rfl⟩
theorem fModel_lend_87 : w_fe am_c186 87 88 (.iaload) := ⟨rfl, rfl⟩
theorem fModel_lend_88 : w_fe am_c186 88 89 (.iload 3) := ⟨rfl, rfl⟩
theorem fModel_lend_89 : w_fe am_c186 89 90 (.iadd) := ⟨rfl, rfl⟩
theorem fModel_lend_90 : w_fe am_c186 90 91 (.iastore) := ⟨rfl, rfl⟩
theorem fModel_lend_91 : w_fe am_c186 91 92 (.aload 0) := ⟨rfl, rfl⟩
theorem fModel_lend_92 : w_fe am_c186 92 93 (.getfield 900) := ⟨rfl, rfl⟩
theorem fModel_lend_93 : w_fe am_c186 93 94 (.iload 5) := ⟨rfl, rfl⟩
theorem fModel_lend_94 : w_fe am_c186 94 95 (.bipush 1) := ⟨rfl, rfl⟩
theorem fModel_lend_95 : w_fe am_c186 95 96 (.iadd) := ⟨rfl, rfl⟩
theorem fModel_lend_96 : w_fe am_c186 96 97 (.iaload) := ⟨rfl, rfl⟩
theorem fModel_lend_97 : w_fe am_c186 97 98 (.ireturn) := ⟨rfl, rfl⟩
set_option maxRecDepth 20000 in
theorem bModel_lend_0 {xs : List Int} {d : Nat} {Q : Option w_V → w_M → Prop} {x1 : Int} {x2 : Int} {x3 : Int} {σ : w_M}
    (h : p_Model_isReaper x1 σ ∧ ((¬ (0 ≤ x1 ∧ x1 < σ 122 5) → Q (some (.inl (-1))) σ) ∧ ((0 ≤ x1 ∧ x1 < σ 122 5) → (p_Model_isReaper x2 σ ∧ ((¬ (0 ≤ x2 ∧ x2 < σ 122 5) → Q (some (.inl (-1))) σ) ∧ ((0 ≤ x2 ∧ x2 < σ 122 5) → ((x1 = x2 → Q (some (.inl (-1))) σ) ∧ (¬ x1 = x2 → (((0 ≤ x3 ∧ x3 ≤ 9) → (w_in (5 * x1) ∧ w_in (21 + (5 * x1)) ∧ (∀ (y1 : Int), y1 = (21 + (5 * x1)) → (w_in (5 * x2) ∧ w_in (21 + (5 * x2)) ∧ (∀ (y2 : Int), y2 = (21 + (5 * x2)) → (w_in (y1 + 3) ∧ 0 ≤ (y1 + 3) ∧ (y1 + 3) < 246 ∧ w_in (y2 + 3) ∧ 0 ≤ (y2 + 3) ∧ (y2 + 3) < 246 ∧ w_in ((σ 123 (y1 + 3).toNat) - (σ 123 (y2 + 3).toNat)) ∧ ((¬ ((-1) ≤ ((σ 123 (y1 + 3).toNat) - (σ 123 (y2 + 3).toNat)) ∧ ((σ 123 (y1 + 3).toNat) - (σ 123 (y2 + 3).toNat)) ≤ 1) → Q (some (.inl (-2))) σ) ∧ (((-1) ≤ ((σ 123 (y1 + 3).toNat) - (σ 123 (y2 + 3).toNat)) ∧ ((σ 123 (y1 + 3).toNat) - (σ 123 (y2 + 3).toNat)) ≤ 1) → (w_in (y1 + 1) ∧ 0 ≤ (y1 + 1) ∧ (y1 + 1) < 246 ∧ ((x3 ≤ (σ 123 (y1 + 1).toNat) → (w_in (y2 + 1) ∧ 0 ≤ (y2 + 1) ∧ (y2 + 1) < 246 ∧ w_in ((σ 123 (y2 + 1).toNat) + x3) ∧ ((((σ 123 (y2 + 1).toNat) + x3) ≤ 9 → (w_in ((σ 123 (y1 + 1).toNat) - x3) ∧ (∀ (τ3 : w_M), τ3 = w_up σ 123 (y1 + 1).toNat ((σ 123 (y1 + 1).toNat) - x3) → (w_in ((τ3 123 (y2 + 1).toNat) + x3) ∧ (∀ (τ4 : w_M), τ4 = w_up τ3 123 (y2 + 1).toNat ((τ3 123 (y2 + 1).toNat) + x3) → Q (some (.inl (τ4 123 (y2 + 1).toNat))) τ4))))) ∧ (9 < ((σ 123 (y2 + 1).toNat) + x3) → Q (some (.inl (-3))) σ)))) ∧ ((σ 123 (y1 + 1).toNat) < x3 → Q (some (.inl (-2))) σ))))))))))) ∧ (¬ (0 ≤ x3 ∧ x3 ≤ 9) → Q (some (.inl (-1))) σ)))))))))) : w_Call (xs, (d + 2)) 186 [.inr (.inr (9, 122)), .inl x1, .inl x2, .inl x3] σ Q :=
  (w_mk (mid := 186) (by decide) rfl rfl rfl rfl rfl (Nat.le_of_ble_eq_true rfl) ⟨rfl, Or.inl (by decide)⟩ (wi_aload0 fModel_lend_0 (wi_iload1 fModel_lend_1 (wi_call2 fModel_lend_2 (Nat.le_of_ble_eq_true rfl) (k_Model_isReaper h.1 (wi_ifb_eq fModel_lend_3 (fun c11 => (wi_bipush fModel_lend_17 (wi_ret1 fModel_lend_18 (h.2.1 c11)))) (fun c11 => (wi_aload0 fModel_lend_4 (wi_iload2 fModel_lend_5 (wi_call2 fModel_lend_6 (Nat.le_of_ble_eq_true rfl) (k_Model_isReaper (h.2.2 c11).1 (wi_ifb_eq fModel_lend_7 (fun c10 => (wi_bipush fModel_lend_17 (wi_ret1 fModel_lend_18 ((h.2.2 c11).2.1 c10)))) (fun c10 => (wi_iload1 fModel_lend_8 (wi_iload2 fModel_lend_9 (wi_ic_eq fModel_lend_10 (fun c9 => (wi_bipush fModel_lend_17 (wi_ret1 fModel_lend_18 (((h.2.2 c11).2.2 c10).1 c9)))) (fun c9 => (wi_iload3 fModel_lend_11 (wi_i2l fModel_lend_12 (wi_sipush fModel_lend_13 (wi_sipush fModel_lend_14 (wi_call3 fModel_lend_15 (Nat.le_of_ble_eq_true rfl) (k_Model_in (wi_ifb_ne fModel_lend_16 (fun c8 => (wi_bipush fModel_lend_19 (wi_bipush fModel_lend_20 (wi_iload1 fModel_lend_21 (wi_imul fModel_lend_22 ((((h.2.2 c11).2.2 c10).2 c9).1 c8).1 (wi_iadd fModel_lend_23 ((((h.2.2 c11).2.2 c10).2 c9).1 c8).2.1 (wi_istore4 fModel_lend_24 trivial (wi_bipush fModel_lend_25 (wi_bipush fModel_lend_26 (wi_iload2 fModel_lend_27 (wi_imul fModel_lend_28 (((((h.2.2 c11).2.2 c10).2 c9).1 c8).2.2 _ rfl).1 (wi_iadd fModel_lend_29 (((((h.2.2 c11).2.2 c10).2 c9).1 c8).2.2 _ rfl).2.1 (wi_istore5 fModel_lend_30 trivial (wi_aload0 fModel_lend_31 (wi_getf900 fModel_lend_32 (wi_iload4 fModel_lend_33 (wi_bipush fModel_lend_34 (wi_iadd fModel_lend_35 ((((((h.2.2 c11).2.2 c10).2 c9).1 c8).2.2 _ rfl).2.2 _ rfl).1 (wi_iald1246 fModel_lend_36 ((((((h.2.2 c11).2.2 c10).2 c9).1 c8).2.2 _ rfl).2.2 _ rfl).2.1 ((((((h.2.2 c11).2.2 c10).2 c9).1 c8).2.2 _ rfl).2.2 _ rfl).2.2.1 (wi_aload0 fModel_lend_37 (wi_getf900 fModel_lend_38 (wi_iload5 fModel_lend_39 (wi_bipush fModel_lend_40 (wi_iadd fModel_lend_41 ((((((h.2.2 c11).2.2 c10).2 c9).1 c8).2.2 _ rfl).2.2 _ rfl).2.2.2.1 (wi_iald1246 fModel_lend_42 ((((((h.2.2 c11).2.2 c10).2 c9).1 c8).2.2 _ rfl).2.2 _ rfl).2.2.2.2.1 ((((((h.2.2 c11).2.2 c10).2 c9).1 c8).2.2 _ rfl).2.2 _ rfl).2.2.2.2.2.1 (wi_isub fModel_lend_43 ((((((h.2.2 c11).2.2 c10).2 c9).1 c8).2.2 _ rfl).2.2 _ rfl).2.2.2.2.2.2.1 (wi_i2l fModel_lend_44 (wi_sipush fModel_lend_45 (wi_sipush fModel_lend_46 (wi_call3 fModel_lend_47 (Nat.le_of_ble_eq_true rfl) (k_Model_in (wi_ifb_eq fModel_lend_48 (fun c7 => (wi_bipush fModel_lend_57 (wi_ret1 fModel_lend_58 (((((((h.2.2 c11).2.2 c10).2 c9).1 c8).2.2 _ rfl).2.2 _ rfl).2.2.2.2.2.2.2.1 c7)))) (fun c7 => (wi_aload0 fModel_lend_49 (wi_getf900 fModel_lend_50 (wi_iload4 fModel_lend_51 (wi_bipush fModel_lend_52 (wi_iadd fModel_lend_53 (((((((h.2.2 c11).2.2 c10).2 c9).1 c8).2.2 _ rfl).2.2 _ rfl).2.2.2.2.2.2.2.2 c7).1 (wi_iald1246 fModel_lend_54 (((((((h.2.2 c11).2.2 c10).2 c9).1 c8).2.2 _ rfl).2.2 _ rfl).2.2.2.2.2.2.2.2 c7).2.1 (((((((h.2.2 c11).2.2 c10).2 c9).1 c8).2.2 _ rfl).2.2 _ rfl).2.2.2.2.2.2.2.2 c7).2.2.1 (wi_iload3 fModel_lend_55 (wi_ic_ge fModel_lend_56 (fun c6 => (wi_aload0 fModel_lend_59 (wi_getf900 fModel_lend_60 (wi_iload5 fModel_lend_61 (wi_bipush fModel_lend_62 (wi_iadd fModel_lend_63 ((((((((h.2.2 c11).2.2 c10).2 c9).1 c8).2.2 _ rfl).2.2 _ rfl).2.2.2.2.2.2.2.2 c7).2.2.2.1 c6).1 (wi_iald1246 fModel_lend_64 ((((((((h.2.2 c11).2.2 c10).2 c9).1 c8).2.2 _ rfl).2.2 _ rfl).2.2.2.2.2.2.2.2 c7).2.2.2.1 c6).2.1 ((((((((h.2.2 c11).2.2 c10).2 c9).1 c8).2.2 _ rfl).2.2 _ rfl).2.2.2.2.2.2.2.2 c7).2.2.2.1 c6).2.2.1 (wi_iload3 fModel_lend_65 (wi_iadd fModel_lend_66 ((((((((h.2.2 c11).2.2 c10).2 c9).1 c8).2.2 _ rfl).2.2 _ rfl).2.2.2.2.2.2.2.2 c7).2.2.2.1 c6).2.2.2.1 (wi_bipush fModel_lend_67 (wi_ic_le fModel_lend_68 (fun c5 => (wi_aload0 fModel_lend_71 (wi_getf900 fModel_lend_72 (wi_iload4 fModel_lend_73 (wi_bipush fModel_lend_74 (wi_iadd fModel_lend_75 (((((((h.2.2 c11).2.2 c10).2 c9).1 c8).2.2 _ rfl).2.2 _ rfl).2.2.2.2.2.2.2.2 c7).1 (wi_dup2 fModel_lend_76 (wi_iald1246 fModel_lend_77 (((((((h.2.2 c11).2.2 c10).2 c9).1 c8).2.2 _ rfl).2.2 _ rfl).2.2.2.2.2.2.2.2 c7).2.1 (((((((h.2.2 c11).2.2 c10).2 c9).1 c8).2.2 _ rfl).2.2 _ rfl).2.2.2.2.2.2.2.2 c7).2.2.1 (wi_iload3 fModel_lend_78 (wi_isub fModel_lend_79 (((((((((h.2.2 c11).2.2 c10).2 c9).1 c8).2.2 _ rfl).2.2 _ rfl).2.2.2.2.2.2.2.2 c7).2.2.2.1 c6).2.2.2.2.1 c5).1 (wi_iast1246 fModel_lend_80 (((((((h.2.2 c11).2.2 c10).2 c9).1 c8).2.2 _ rfl).2.2 _ rfl).2.2.2.2.2.2.2.2 c7).2.1 (((((((h.2.2 c11).2.2 c10).2 c9).1 c8).2.2 _ rfl).2.2 _ rfl).2.2.2.2.2.2.2.2 c7).2.2.1 (wi_aload0 fModel_lend_81 (wi_getf900 fModel_lend_82 (wi_iload5 fModel_lend_83 (wi_bipush fModel_lend_84 (wi_iadd fModel_lend_85 ((((((((h.2.2 c11).2.2 c10).2 c9).1 c8).2.2 _ rfl).2.2 _ rfl).2.2.2.2.2.2.2.2 c7).2.2.2.1 c6).1 (wi_dup2 fModel_lend_86 (wi_iald1246 fModel_lend_87 ((((((((h.2.2 c11).2.2 c10).2 c9).1 c8).2.2 _ rfl).2.2 _ rfl).2.2.2.2.2.2.2.2 c7).2.2.2.1 c6).2.1 ((((((((h.2.2 c11).2.2 c10).2 c9).1 c8).2.2 _ rfl).2.2 _ rfl).2.2.2.2.2.2.2.2 c7).2.2.2.1 c6).2.2.1 (wi_iload3 fModel_lend_88 (wi_iadd fModel_lend_89 ((((((((((h.2.2 c11).2.2 c10).2 c9).1 c8).2.2 _ rfl).2.2 _ rfl).2.2.2.2.2.2.2.2 c7).2.2.2.1 c6).2.2.2.2.1 c5).2 _ rfl).1 (wi_iast1246 fModel_lend_90 ((((((((h.2.2 c11).2.2 c10).2 c9).1 c8).2.2 _ rfl).2.2 _ rfl).2.2.2.2.2.2.2.2 c7).2.2.2.1 c6).2.1 ((((((((h.2.2 c11).2.2 c10).2 c9).1 c8).2.2 _ rfl).2.2 _ rfl).2.2.2.2.2.2.2.2 c7).2.2.2.1 c6).2.2.1 (wi_aload0 fModel_lend_91 (wi_getf900 fModel_lend_92 (wi_iload5 fModel_lend_93 (wi_bipush fModel_lend_94 (wi_iadd fModel_lend_95 ((((((((h.2.2 c11).2.2 c10).2 c9).1 c8).2.2 _ rfl).2.2 _ rfl).2.2.2.2.2.2.2.2 c7).2.2.2.1 c6).1 (wi_iald1246 fModel_lend_96 ((((((((h.2.2 c11).2.2 c10).2 c9).1 c8).2.2 _ rfl).2.2 _ rfl).2.2.2.2.2.2.2.2 c7).2.2.2.1 c6).2.1 ((((((((h.2.2 c11).2.2 c10).2 c9).1 c8).2.2 _ rfl).2.2 _ rfl).2.2.2.2.2.2.2.2 c7).2.2.2.1 c6).2.2.1 (wi_ret1 fModel_lend_97 (((((((((((h.2.2 c11).2.2 c10).2 c9).1 c8).2.2 _ rfl).2.2 _ rfl).2.2.2.2.2.2.2.2 c7).2.2.2.1 c6).2.2.2.2.1 c5).2 _ rfl).2 _ rfl))))))))))))))))))))))))))))) (fun c5 => (wi_bipush fModel_lend_69 (wi_ret1 fModel_lend_70 (((((((((h.2.2 c11).2.2 c10).2 c9).1 c8).2.2 _ rfl).2.2 _ rfl).2.2.2.2.2.2.2.2 c7).2.2.2.1 c6).2.2.2.2.2 c5))))))))))))))) (fun c6 => (wi_bipush fModel_lend_57 (wi_ret1 fModel_lend_58 ((((((((h.2.2 c11).2.2 c10).2 c9).1 c8).2.2 _ rfl).2.2 _ rfl).2.2.2.2.2.2.2.2 c7).2.2.2.2 c6))))))))))))))))))))))))))))))))))))))))))))) (fun c8 => (wi_bipush fModel_lend_17 (wi_ret1 fModel_lend_18 ((((h.2.2 c11).2.2 c10).2 c9).2 c8))))))))))))))))))))))))))))
set_option maxHeartbeats 1000000 in
theorem k_Model_lend {xs : List Int} {d : Nat} {Q : Option w_V → w_M → Prop} {x1 : Int} {x2 : Int} {x3 : Int} {σ : w_M} (hp : p_Model_lend x1 x2 x3 σ) (hQ : ∀ (x : Int) (σ' : w_M), q_Model_lend x1 x2 x3 σ x σ' → Q (some (.inl x)) σ') : w_Call (xs, d + 2) 186 [.inr (.inr (9, 122)), .inl x1, .inl x2, .inl x3] σ Q := by
  have hM : MI σ := hp
  have hok := hM.ok
  have hn := hM.n
  unfold q_Model_lend at hQ
  have bad : ¬ P_lend (mS σ) x1 x2 x3 → Q (some (.inl (-1))) σ := fun h => by
    obtain ⟨e1, e2⟩ := F_lend_bad h
    rw [e1, e2] at hQ
    exact hQ _ _ (m_qr hM rfl)
  refine bModel_lend_0 ⟨hn, fun c => bad (fun q => c q.1.1), fun c => ⟨hn, fun c2 => bad (fun q => c2 q.1.2.1), fun c2 => ⟨fun c3 => bad (fun q => q.1.2.2 c3), fun c3 => ⟨fun c4 => ?_, fun c4 => bad (fun q => c4 q.2)⟩⟩⟩⟩
  have hL : P_lend (mS σ) x1 x2 x3 := ⟨⟨c, c2, c3⟩, c4⟩
  have r1 := n_WF.r hok (show x1.toNat < n_n (w_am σ 123 0) by rw [n_n_am]; omega)
  have r2 := n_WF.r hok (show x2.toNat < n_n (w_am σ 123 0) by rw [n_n_am]; omega)
  have h04 : w_am σ 123 0 0 4 = σ 122 4 := rfl
  have hs := hM.s
  have hne : x2.toNat ≠ x1.toNat := by omega
  refine ⟨⟨by omega, by omega⟩, ⟨by omega, by omega⟩, fun y1 ey1 => ⟨⟨by omega, by omega⟩, ⟨by omega, by omega⟩, fun y2 ey2 => ?_⟩⟩
  have a1 : σ 123 (y1 + 3).toNat = w_am σ 123 0 6 x1.toNat := m_rdr (by decide) (by decide) c (by show _ = 24 + 5 * x1.toNat; omega)
  have a2 : σ 123 (y2 + 3).toNat = w_am σ 123 0 6 x2.toNat := m_rdr (by decide) (by decide) c2 (by show _ = 24 + 5 * x2.toNat; omega)
  have o1 : σ 123 (y1 + 1).toNat = w_am σ 123 0 4 x1.toNat := m_rdr (by decide) (by decide) c (by show _ = 22 + 5 * x1.toNat; omega)
  have o2 : σ 123 (y2 + 1).toNat = w_am σ 123 0 4 x2.toNat := m_rdr (by decide) (by decide) c2 (by show _ = 22 + 5 * x2.toNat; omega)
  rw [a1, a2, o1, o2]
  refine ⟨⟨by omega, by omega⟩, by omega, by omega, ⟨by omega, by omega⟩, by omega, by omega, ⟨by omega, by omega⟩, fun d1 => ?_, fun d1 => ⟨⟨by omega, by omega⟩, by omega, by omega, fun d2 => ⟨⟨by omega, by omega⟩, by omega, by omega, ⟨by omega, by omega⟩, fun d3 => ⟨⟨by omega, by omega⟩, fun τ2 t2 => ?_⟩, fun d3 => ?_⟩, fun d2 => ?_⟩⟩
  · obtain ⟨e1, e2⟩ := F_lend_state hL (fun q => d1 q.1)
    rw [e1, e2] at hQ
    exact hQ _ _ (m_qr hM rfl)
  · have hN : P_near (mS σ) x1 x2 x3 := ⟨d1, d2⟩
    obtain ⟨e1, e2⟩ := F_lend_ok hL hN d3
    rw [e1, e2] at hQ
    have v2 : τ2 123 (y2 + 1).toNat = w_am σ 123 0 4 x2.toNat := by rw [t2, w_up_j (by omega)]; exact o2
    rw [v2]
    refine ⟨⟨by omega, by omega⟩, fun τ3 t3 => hQ _ _ ?_⟩
    have F2 : w_f1 σ τ2 123 := by rw [t2]; exact w_f1.up0
    have z2 : τ2 122 = σ 122 := F2 122 (by decide)
    have m2 : m_sm τ2 := by unfold m_sm; rw [z2]; exact hM.sm
    have A2 : w_am τ2 123 0 = w_up (w_am σ 123 0) 4 x1.toNat (w_am σ 123 0 4 x1.toNat - x3) := by
      rw [t2]
      exact w_am_up hM.sm (by decide) (by rw [m_rl37 (by decide) (by decide)]; omega) (by show _ = 0 + (22 + 5 * x1.toNat); omega)
    have A3 : w_am τ3 123 0 = w_up (w_am τ2 123 0) 4 x2.toNat (w_am σ 123 0 4 x2.toNat + x3) := by
      rw [t3]
      exact w_am_up m2 (by decide) (by rw [m_rl37 (by decide) (by decide), z2]; omega) (by show _ = 0 + (22 + 5 * x2.toNat); omega)
    refine m_q0 hM (by rw [t3]; exact F2.up) (fun x hx => by rw [t3, w_up_j (by omega), t2, w_up_j (by omega)]) (by rw [A3, A2]; rfl) (n_WF_lend hok (by rw [n_n_am]; omega) (by rw [n_n_am]; omega) c4.1 d2 d3) ?_ ?_ ?_ ?_
    · show w_up (w_up (w_am σ 123 0) 4 _ _) 4 _ _ 0 0 = σ 122 3; rw [w_up_ne (by decide), w_up_ne (by decide)]; rfl
    · show w_up (w_up (w_am σ 123 0) 4 _ _) 4 _ _ 0 4 = σ 122 4; rw [w_up_ne (by decide), w_up_ne (by decide)]; rfl
    · show w_up (w_up (w_am σ 123 0) 4 _ _) 4 _ _ 0 5 = σ 122 5; rw [w_up_ne (by decide), w_up_ne (by decide)]; rfl
    · rw [t3, w_up_at]; rfl
  · obtain ⟨e1, e2⟩ := F_lend_full hL ⟨d1, d2⟩ (fun q => by have q' : w_am σ 123 0 4 x2.toNat + x3 ≤ 9 := q; omega)
    rw [e1, e2] at hQ
    exact hQ _ _ (m_qr hM rfl)
  · obtain ⟨e1, e2⟩ := F_lend_state hL (fun q => by have q' : x3 ≤ w_am σ 123 0 4 x1.toNat := q.2; omega)
    rw [e1, e2] at hQ
    exact hQ _ _ (m_qr hM rfl)
noncomputable def p_Model_cloud (_x1 : Int) (x2 : Int) (σ : w_M) : Prop := MI σ ∧ (x2 = 0 ∨ x2 = 1)
noncomputable def q_Model_cloud (x1 : Int) (x2 : Int) (σ : w_M) (x : Int) (σ' : w_M) : Prop := m_q (F_cloud (mS σ) x1 x2) (G_cloud (mS σ) x1 x2) σ x σ'
theorem fModel_cloud_0 : w_fe am_c189 0 1 (.iload 1) := ⟨rfl, rfl⟩
theorem fModel_cloud_1 : w_fe am_c189 1 2 (.i2l) := ⟨rfl, rfl⟩
theorem fModel_cloud_2 : w_fe am_c189 2 3 (.sipush 0) := ⟨rfl, rfl⟩
theorem fModel_cloud_3 : w_fe am_c189 3 4 (.aload 0) := ⟨rfl, rfl⟩
theorem fModel_cloud_4 : w_fe am_c189 4 5 (.getfield 903) := ⟨rfl, rfl⟩
theorem fModel_cloud_5 : w_fe am_c189 5 6 (.bipush 1) := ⟨rfl, rfl⟩
theorem fModel_cloud_6 : w_fe am_c189 6 7 (.isub) := ⟨rfl, rfl⟩
theorem fModel_cloud_7 : w_fe am_c189 7 8 (.i2l) := ⟨rfl, rfl⟩
theorem fModel_cloud_8 : w_fe am_c189 8 9 (.invokestatic 157) := ⟨rfl, rfl⟩
theorem fModel_cloud_9 : w_if am_c189 9 10 .ne 12 := ⟨rfl, rfl⟩
theorem fModel_cloud_10 : w_fe am_c189 10 11 (.bipush (-1)) := ⟨rfl, rfl⟩
theorem fModel_cloud_11 : w_fe am_c189 11 12 (.ireturn) := ⟨rfl, rfl⟩
theorem fModel_cloud_12 : w_fe am_c189 12 13 (.aload 0) := ⟨rfl, rfl⟩
theorem fModel_cloud_13 : w_fe am_c189 13 14 (.getfield 900) := ⟨rfl, rfl⟩
theorem fModel_cloud_14 : w_fe am_c189 14 15 (.bipush 41) := ⟨rfl, rfl⟩
theorem fModel_cloud_15 : w_fe am_c189 15 16 (.iaload) := ⟨rfl, rfl⟩
theorem fModel_cloud_16 : w_fe am_c189 16 17 (.iload 1) := ⟨rfl, rfl⟩
theorem fModel_cloud_17 : w_fe am_c189 17 18 (.ishr) := ⟨rfl, rfl⟩
theorem fModel_cloud_18 : w_fe am_c189 18 19 (.bipush 1) := ⟨rfl, rfl⟩
theorem fModel_cloud_19 : w_fe am_c189 19 20 (.iand) := ⟨rfl, rfl⟩
theorem fModel_cloud_20 : w_fe am_c189 20 21 (.istore 3) := ⟨rfl, rfl⟩
theorem fModel_cloud_21 : w_fe am_c189 21 22 (.aload 0) := ⟨rfl, rfl⟩
theorem fModel_cloud_22 : w_fe am_c189 22 23 (.getfield 900) := ⟨rfl, rfl⟩
theorem fModel_cloud_23 : w_fe am_c189 23 24 (.bipush 41) := ⟨rfl, rfl⟩
theorem fModel_cloud_24 : w_fe am_c189 24 25 (.iload 2) := ⟨rfl, rfl⟩
theorem fModel_cloud_25 : w_if am_c189 25 26 .eq 35 := ⟨rfl, rfl⟩
theorem fModel_cloud_26 : w_fe am_c189 26 27 (.aload 0) := ⟨rfl, rfl⟩
theorem fModel_cloud_27 : w_fe am_c189 27 28 (.getfield 900) := ⟨rfl, rfl⟩
theorem fModel_cloud_28 : w_fe am_c189 28 29 (.bipush 41) := ⟨rfl, rfl⟩
theorem fModel_cloud_29 : w_fe am_c189 29 30 (.iaload) := ⟨rfl, rfl⟩
theorem fModel_cloud_30 : w_fe am_c189 30 31 (.bipush 1) := ⟨rfl, rfl⟩
theorem fModel_cloud_31 : w_fe am_c189 31 32 (.iload 1) := ⟨rfl, rfl⟩
theorem fModel_cloud_32 : w_fe am_c189 32 33 (.ishl) := ⟨rfl, rfl⟩
theorem fModel_cloud_33 : w_fe am_c189 33 34 (.ior) := ⟨rfl, rfl⟩
theorem fModel_cloud_34 : w_gt am_c189 34 45 := rfl
theorem fModel_cloud_35 : w_fe am_c189 35 36 (.aload 0) := ⟨rfl, rfl⟩
theorem fModel_cloud_36 : w_fe am_c189 36 37 (.getfield 900) := ⟨rfl, rfl⟩
theorem fModel_cloud_37 : w_fe am_c189 37 38 (.bipush 41) := ⟨rfl, rfl⟩
theorem fModel_cloud_38 : w_fe am_c189 38 39 (.iaload) := ⟨rfl, rfl⟩
theorem fModel_cloud_39 : w_fe am_c189 39 40 (.bipush 1) := ⟨rfl, rfl⟩
theorem fModel_cloud_40 : w_fe am_c189 40 41 (.iload 1) := ⟨rfl, rfl⟩
theorem fModel_cloud_41 : w_fe am_c189 41 42 (.ishl) := ⟨rfl, rfl⟩
theorem fModel_cloud_42 : w_fe am_c189 42 43 (.bipush (-1)) := ⟨rfl, rfl⟩
theorem fModel_cloud_43 : w_fe am_c189 43 44 (.ixor) := ⟨rfl, rfl⟩
theorem fModel_cloud_44 : w_fe am_c189 44 45 (.iand) := ⟨rfl, rfl⟩
theorem fModel_cloud_45 : w_fe am_c189 45 46 (.iastore) := ⟨rfl, rfl⟩
theorem fModel_cloud_46 : w_fe am_c189 46 47 (.iload 3) := ⟨rfl, rfl⟩
theorem fModel_cloud_47 : w_fe am_c189 47 48 (.ireturn) := ⟨rfl, rfl⟩
set_option maxRecDepth 20000 in
theorem bModel_cloud_0 {xs : List Int} {d : Nat} {Q : Option w_V → w_M → Prop} {x1 : Int} {x2 : Int} {σ : w_M}
    (h : w_in ((σ 122 3) - 1) ∧ (((0 ≤ x1 ∧ x1 ≤ ((σ 122 3) - 1)) → ∀ (y1 : Int), y1 = (w_and (w_shr (σ 123 41) x1) 1) → ((x2 = 0 → ∀ (τ2 : w_M), τ2 = w_up σ 123 41 (w_and (σ 123 41) (w_xor (w_shl 1 x1) (-1))) → Q (some (.inl y1)) τ2) ∧ (¬ x2 = 0 → ∀ (τ3 : w_M), τ3 = w_up σ 123 41 (w_or (σ 123 41) (w_shl 1 x1)) → Q (some (.inl y1)) τ3))) ∧ (¬ (0 ≤ x1 ∧ x1 ≤ ((σ 122 3) - 1)) → Q (some (.inl (-1))) σ))) : w_Call (xs, (d + 1)) 189 [.inr (.inr (9, 122)), .inl x1, .inl x2] σ Q :=
  (w_mk (mid := 189) (by decide) rfl rfl rfl rfl rfl (Nat.le_of_ble_eq_true rfl) ⟨rfl, Or.inl (by decide)⟩ (wi_iload1 fModel_cloud_0 (wi_i2l fModel_cloud_1 (wi_sipush fModel_cloud_2 (wi_aload0 fModel_cloud_3 (wi_getf903 fModel_cloud_4 (wi_bipush fModel_cloud_5 (wi_isub fModel_cloud_6 h.1 (wi_i2l fModel_cloud_7 (wi_call3 fModel_cloud_8 (Nat.le_of_ble_eq_true rfl) (k_Model_in (wi_ifb_ne fModel_cloud_9 (fun c5 => (wi_aload0 fModel_cloud_12 (wi_getf900 fModel_cloud_13 (wi_bipush fModel_cloud_14 (wi_iald1246 fModel_cloud_15 (by decide) (by decide) (wi_iload1 fModel_cloud_16 (wi_ishr fModel_cloud_17 (wi_bipush fModel_cloud_18 (wi_iand fModel_cloud_19 (wi_istore3 fModel_cloud_20 trivial (wi_aload0 fModel_cloud_21 (wi_getf900 fModel_cloud_22 (wi_bipush fModel_cloud_23 (wi_iload2 fModel_cloud_24 (wi_if_eq fModel_cloud_25 (fun c4 => (wi_aload0 fModel_cloud_35 (wi_getf900 fModel_cloud_36 (wi_bipush fModel_cloud_37 (wi_iald1246 fModel_cloud_38 (by decide) (by decide) (wi_bipush fModel_cloud_39 (wi_iload1 fModel_cloud_40 (wi_ishl fModel_cloud_41 (wi_bipush fModel_cloud_42 (wi_ixor fModel_cloud_43 (wi_iand fModel_cloud_44 (wi_iast1246 fModel_cloud_45 (by decide) (by decide) (wi_iload3 fModel_cloud_46 (wi_ret1 fModel_cloud_47 ((((h.2.1 c5) _ rfl).1 c4) _ rfl))))))))))))))) (fun c4 => (wi_aload0 fModel_cloud_26 (wi_getf900 fModel_cloud_27 (wi_bipush fModel_cloud_28 (wi_iald1246 fModel_cloud_29 (by decide) (by decide) (wi_bipush fModel_cloud_30 (wi_iload1 fModel_cloud_31 (wi_ishl fModel_cloud_32 (wi_ior fModel_cloud_33 (wi_goto fModel_cloud_34 (wi_iast1246 fModel_cloud_45 (by decide) (by decide) (wi_iload3 fModel_cloud_46 (wi_ret1 fModel_cloud_47 ((((h.2.1 c5) _ rfl).2 c4) _ rfl))))))))))))))))))))))))))))) (fun c5 => (wi_bipush fModel_cloud_10 (wi_ret1 fModel_cloud_11 (h.2.2 c5))))))))))))))))
theorem k_Model_cloud {xs : List Int} {d : Nat} {Q : Option w_V → w_M → Prop} {x1 : Int} {x2 : Int} {σ : w_M} (hp : p_Model_cloud x1 x2 σ) (hQ : ∀ (x : Int) (σ' : w_M), q_Model_cloud x1 x2 σ x σ' → Q (some (.inl x)) σ') : w_Call (xs, d + 1) 189 [.inr (.inr (9, 122)), .inl x1, .inl x2] σ Q := by
  obtain ⟨hM, hb⟩ := hp
  have hok := hM.ok
  have hrs := m_ok.hrs hok
  have hcl : 0 ≤ σ 123 41 ∧ σ 123 41 ≤ 4095 := hok.2.2.1
  unfold q_Model_cloud F_cloud G_cloud at hQ
  have e0 : mS σ 0 0 0 = σ 122 3 := rfl
  have e2 : mS σ 0 0 2 = σ 123 41 := rfl
  have ec : n_cl (mS σ 0) x1 = w_and (w_shr (σ 123 41) x1) 1 := rfl
  rw [e0, e2, ec] at hQ
  have main : 0 ≤ x1 ∧ x1 < σ 122 3 → ∀ (x : Int), x = w_and (w_shr (σ 123 41) x1) 1 → ∀ y : Int, y = v_Moon_withBit (σ 123 41) x1 x2 → ∀ τ : w_M, τ = w_up σ 123 41 y → Q (some (.inl x)) τ := by
    intro c x ex y ey τ t
    have hb2 := w_cl_bits (is := x2) hcl (show 0 ≤ x1 ∧ x1 < 12 by omega)
    rw [if_pos c, if_pos c] at hQ
    refine hQ _ _ (m_q0 hM (by rw [t]; exact w_f1.up0) (fun z hz => by rw [t, w_up_j (by omega)]) (by rw [t, ey]; exact w_am_up0 hM.sm (by decide) (Or.inr (Or.inl ⟨rfl, rfl⟩))) ?_ ?_ ?_ ?_ ex)
    · refine n_WF_up hok ?_ ?_ ?_ ?_ ?_ ?_ ?_ ?_ <;> (intros; omega)
    · show w_up (w_am σ 123 0) 0 2 _ 0 0 = σ 122 3; rw [w_up_j (by decide)]; rfl
    · show w_up (w_am σ 123 0) 0 2 _ 0 4 = σ 122 4; rw [w_up_j (by decide)]; rfl
    · show w_up (w_am σ 123 0) 0 2 _ 0 5 = σ 122 5; rw [w_up_j (by decide)]; rfl
  refine bModel_cloud_0 ⟨⟨by omega, by omega⟩, fun c => fun y ey => ⟨fun z τ t => ?_, fun z τ t => ?_⟩, fun c => ?_⟩
  · exact main (by omega) y ey _ (by unfold v_Moon_withBit; rw [if_pos z]) τ t
  · exact main (by omega) y ey _ (by unfold v_Moon_withBit; rw [if_neg z]) τ t
  · rw [if_neg (by omega), if_neg (by omega)] at hQ
    exact hQ _ _ (m_qr hM rfl)
theorem w_am_cp {σ τ : w_M} {c c' : Nat} (hsm : m_sm σ) (h122 : τ 122 = σ 122) (h : ∀ x, x < 48 → τ c x = σ c' x) : w_am τ c 0 = w_am σ c' 0 := by
  have hr : ∀ k, m_rl τ k = m_rl σ k := fun k => by unfold m_rl; rw [h122]
  funext k j
  unfold w_am
  rw [h122, hr, h (0 + 42) (by decide), h (0 + 41) (by decide), h (0 + 47) (by decide)]
  by_cases hj : j < m_rl σ k
  · obtain ⟨k10, j7, jL⟩ := m_rl_d hsm hj
    have := (m_ix_sc k k10 j j7 jL).2.2.2
    rw [if_pos hj, if_pos hj, h _ (by omega)]
  · rw [if_neg hj, if_neg hj]
noncomputable def p_Model_go (_x1 : Int) (σ : w_M) : Prop := MI σ
noncomputable def q_Model_go (x1 : Int) (σ : w_M) (x : Int) (σ' : w_M) : Prop := m_q (F_go (mS σ) x1) (G_go (mS σ) x1) σ x σ'
theorem fModel_go_0 : w_fe am_c193 0 1 (.iload 1) := ⟨rfl, rfl⟩
theorem fModel_go_1 : w_fe am_c193 1 2 (.i2l) := ⟨rfl, rfl⟩
theorem fModel_go_2 : w_fe am_c193 2 3 (.sipush 0) := ⟨rfl, rfl⟩
theorem fModel_go_3 : w_fe am_c193 3 4 (.sipush 12) := ⟨rfl, rfl⟩
theorem fModel_go_4 : w_fe am_c193 4 5 (.invokestatic 157) := ⟨rfl, rfl⟩
theorem fModel_go_5 : w_if am_c193 5 6 .ne 8 := ⟨rfl, rfl⟩
theorem fModel_go_6 : w_fe am_c193 6 7 (.bipush (-1)) := ⟨rfl, rfl⟩
theorem fModel_go_7 : w_fe am_c193 7 8 (.ireturn) := ⟨rfl, rfl⟩
theorem fModel_go_8 : w_fe am_c193 8 9 (.aload 0) := ⟨rfl, rfl⟩
theorem fModel_go_9 : w_fe am_c193 9 10 (.getfield 900) := ⟨rfl, rfl⟩
theorem fModel_go_10 : w_fe am_c193 10 11 (.bipush 42) := ⟨rfl, rfl⟩
theorem fModel_go_11 : w_fe am_c193 11 12 (.iaload) := ⟨rfl, rfl⟩
theorem fModel_go_12 : w_fe am_c193 12 13 (.iload 1) := ⟨rfl, rfl⟩
theorem fModel_go_13 : w_fe am_c193 13 14 (.iadd) := ⟨rfl, rfl⟩
theorem fModel_go_14 : w_fe am_c193 14 15 (.aload 0) := ⟨rfl, rfl⟩
theorem fModel_go_15 : w_fe am_c193 15 16 (.getfield 903) := ⟨rfl, rfl⟩
theorem fModel_go_16 : w_ic am_c193 16 17 .le 19 := ⟨rfl, rfl⟩
theorem fModel_go_17 : w_fe am_c193 17 18 (.bipush (-3)) := ⟨rfl, rfl⟩
theorem fModel_go_18 : w_fe am_c193 18 19 (.ireturn) := ⟨rfl, rfl⟩
theorem fModel_go_19 : w_fe am_c193 19 20 (.aload 0) := ⟨rfl, rfl⟩
theorem fModel_go_20 : w_fe am_c193 20 21 (.invokestatic 174) := ⟨rfl, rfl⟩
theorem fModel_go_21 : w_fe am_c193 21 22 (.aload 0) := ⟨rfl, rfl⟩
theorem fModel_go_22 : w_fe am_c193 22 23 (.invokestatic 175) := ⟨rfl, rfl⟩
theorem fModel_go_23 : w_fe am_c193 23 24 (.istore 2) := ⟨rfl, rfl⟩
theorem fModel_go_24 : w_fe am_c193 24 25 (.aload 0) := ⟨rfl, rfl⟩
theorem fModel_go_25 : w_fe am_c193 25 26 (.iload 1) := ⟨rfl, rfl⟩
theorem fModel_go_26 : w_fe am_c193 26 27 (.invokestatic 194) := ⟨rfl, rfl⟩
theorem fModel_go_27 : w_fe am_c193 27 28 (.bipush 0) := ⟨rfl, rfl⟩
theorem fModel_go_28 : w_fe am_c193 28 29 (.istore 3) := ⟨rfl, rfl⟩
theorem fModel_go_29 : w_fe am_c193 29 30 (.iload 3) := ⟨rfl, rfl⟩
theorem fModel_go_30 : w_fe am_c193 30 31 (.bipush 82) := ⟨rfl, rfl⟩
theorem fModel_go_31 : w_ic am_c193 31 32 .ge 42 := ⟨rfl, rfl⟩
theorem fModel_go_32 : w_fe am_c193 32 33 (.aload 0) := ⟨rfl, rfl⟩
theorem fModel_go_33 : w_fe am_c193 33 34 (.getfield 900) := ⟨rfl, rfl⟩
theorem fModel_go_34 : w_fe am_c193 34 35 (.iload 3) := ⟨rfl, rfl⟩
theorem fModel_go_35 : w_fe am_c193 35 36 (.aload 0) := ⟨rfl, rfl⟩
theorem fModel_go_36 : w_fe am_c193 36 37 (.getfield 901) := ⟨rfl, rfl⟩
theorem fModel_go_37 : w_fe am_c193 37 38 (.iload 3) := ⟨rfl, rfl⟩
theorem fModel_go_38 : w_fe am_c193 38 39 (.iaload) := ⟨rfl, rfl⟩
theorem fModel_go_39 : w_fe am_c193 39 40 (.iastore) := ⟨rfl, rfl⟩
theorem fModel_go_40 : w_fe am_c193 40 41 (.iinc 3 1) := ⟨rfl, rfl⟩
theorem fModel_go_41 : w_gt am_c193 41 29 := rfl
theorem fModel_go_42 : w_fe am_c193 42 43 (.iload 2) := ⟨rfl, rfl⟩
theorem fModel_go_43 : w_fe am_c193 43 44 (.aload 0) := ⟨rfl, rfl⟩
theorem fModel_go_44 : w_fe am_c193 44 45 (.invokestatic 175) := ⟨rfl, rfl⟩
theorem fModel_go_45 : w_fe am_c193 45 46 (.isub) := ⟨rfl, rfl⟩
theorem fModel_go_46 : w_fe am_c193 46 47 (.ireturn) := ⟨rfl, rfl⟩
noncomputable def LModel_go_29 (xs : List Int) (d : Nat) (Q : Option w_V → w_M → Prop) (v2 : Int) (v3 : Int) (σ : w_M) : Prop := ∀ l1, w_nl l1 → w_Ex (xs, d) 1 am_c193 Q 29 [some (.inr (.inr (9, 122))), l1, some (.inl v2), some (.inl v3)] [] σ
set_option maxRecDepth 20000 in
theorem bModel_go_0 {xs : List Int} {d : Nat} {Q : Option w_V → w_M → Prop} {x1 : Int} {σ : w_M}
    (h : ((0 ≤ x1 ∧ x1 ≤ 12) → (w_in ((σ 123 42) + x1) ∧ ((((σ 123 42) + x1) ≤ (σ 122 3) → (p_Model_starts σ ∧ (∀ (τ1 : w_M), q_Model_starts σ τ1 → (p_Model_standing τ1 ∧ (∀ (y2 : Int), y2 = v_Model_standing τ1 → (p_Model_goesTo x1 τ1 ∧ (∀ (τ3 : w_M), q_Model_goesTo x1 τ1 τ3 → LModel_go_29 xs (d + 6) Q y2 0 τ3))))))) ∧ ((σ 122 3) < ((σ 123 42) + x1) → Q (some (.inl (-3))) σ)))) ∧ (¬ (0 ≤ x1 ∧ x1 ≤ 12) → Q (some (.inl (-1))) σ)) : w_Call (xs, (d + 6)) 193 [.inr (.inr (9, 122)), .inl x1] σ Q :=
  (w_mk (mid := 193) (by decide) rfl rfl rfl rfl rfl (Nat.le_of_ble_eq_true rfl) ⟨rfl, Or.inl (by decide)⟩ (wi_iload1 fModel_go_0 (wi_i2l fModel_go_1 (wi_sipush fModel_go_2 (wi_sipush fModel_go_3 (wi_call3 fModel_go_4 (Nat.le_of_ble_eq_true rfl) (k_Model_in (wi_ifb_ne fModel_go_5 (fun c5 => (wi_aload0 fModel_go_8 (wi_getf900 fModel_go_9 (wi_bipush fModel_go_10 (wi_iald1246 fModel_go_11 (by decide) (by decide) (wi_iload1 fModel_go_12 (wi_iadd fModel_go_13 (h.1 c5).1 (wi_aload0 fModel_go_14 (wi_getf903 fModel_go_15 (wi_ic_le fModel_go_16 (fun c4 => (wi_aload0 fModel_go_19 (wi_call1 fModel_go_20 (Nat.le_of_ble_eq_true rfl) (k_Model_starts ((h.1 c5).2.1 c4).1 (fun τ1 eτ1 => (wi_aload0 fModel_go_21 (wi_call1 fModel_go_22 (Nat.le_of_ble_eq_true rfl) (k_Model_standing (((h.1 c5).2.1 c4).2 τ1 eτ1).1 (wi_istore2 fModel_go_23 trivial (wi_aload0 fModel_go_24 (wi_iload1 fModel_go_25 (wi_call2 fModel_go_26 (Nat.le_of_ble_eq_true rfl) (k_Model_goesTo ((((h.1 c5).2.1 c4).2 τ1 eτ1).2 _ rfl).1 (fun τ3 eτ3 => (wi_bipush fModel_go_27 (wi_istore3 fModel_go_28 trivial ((((((h.1 c5).2.1 c4).2 τ1 eτ1).2 _ rfl).2 τ3 eτ3) _ (by exact trivial)))))))))))))))))) (fun c4 => (wi_bipush fModel_go_17 (wi_ret1 fModel_go_18 ((h.1 c5).2.2 c4)))))))))))))) (fun c5 => (wi_bipush fModel_go_6 (wi_ret1 fModel_go_7 (h.2 c5))))))))))))
set_option maxRecDepth 20000 in
theorem bModel_go_29 {xs : List Int} {d : Nat} {Q : Option w_V → w_M → Prop} {v2 : Int} {v3 : Int} {σ : w_M}
    (h : (82 ≤ v3 → (p_Model_standing σ ∧ (∀ (y1 : Int), y1 = v_Model_standing σ → (w_in (v2 - y1) ∧ Q (some (.inl (v2 - y1))) σ)))) ∧ (v3 < 82 → (0 ≤ v3 ∧ v3 < 246 ∧ (∀ (τ2 : w_M), τ2 = w_up σ 123 v3.toNat (σ 124 v3.toNat) → (w_in (v3 + 1) ∧ LModel_go_29 xs (d + 6) Q v2 (v3 + 1) τ2))))) : LModel_go_29 xs (d + 6) Q v2 v3 σ :=
  fun l1 nl1 => (wi_iload3 fModel_go_29 (wi_bipush fModel_go_30 (wi_ic_ge fModel_go_31 (fun c3 => (wi_iload2 fModel_go_42 (wi_aload0 fModel_go_43 (wi_call1 fModel_go_44 (Nat.le_of_ble_eq_true rfl) (k_Model_standing (h.1 c3).1 (wi_isub fModel_go_45 ((h.1 c3).2 _ rfl).1 (wi_ret1 fModel_go_46 ((h.1 c3).2 _ rfl).2))))))) (fun c3 => (wi_aload0 fModel_go_32 (wi_getf900 fModel_go_33 (wi_iload3 fModel_go_34 (wi_aload0 fModel_go_35 (wi_getf901 fModel_go_36 (wi_iload3 fModel_go_37 (wi_iald1082 fModel_go_38 (h.2 c3).1 c3 (wi_iast1246 fModel_go_39 (h.2 c3).1 (h.2 c3).2.1 (wi_iinc3 fModel_go_40 trivial ((h.2 c3).2.2 _ rfl).1 (wi_goto fModel_go_41 (((h.2 c3).2.2 _ rfl).2 _ nl1)))))))))))))))
theorem k_Model_go {xs : List Int} {d : Nat} {Q : Option w_V → w_M → Prop} {x1 : Int} {σ : w_M} (hp : p_Model_go x1 σ) (hQ : ∀ (x : Int) (σ' : w_M), q_Model_go x1 σ x σ' → Q (some (.inl x)) σ') : w_Call (xs, d + 6) 193 [.inr (.inr (9, 122)), .inl x1] σ Q := by
  have hM : MI σ := hp
  have hok := hM.ok
  have hrs := m_ok.hrs hok
  have hr : 0 ≤ σ 123 42 ∧ σ 123 42 ≤ σ 122 3 := m_ok.hr hok
  unfold q_Model_go F_go G_go at hQ
  have e0 : mS σ 0 0 0 = σ 122 3 := rfl
  have e1 : mS σ 0 0 1 = σ 123 42 := rfl
  have eA : mS σ 0 = w_am σ 123 0 := rfl
  rw [e0, e1, eA] at hQ
  refine bModel_go_0 ⟨fun c => ⟨⟨by omega, by omega⟩, fun c2 => ⟨hM.sm, fun τ1 hq1 => ?_⟩, fun c2 => ?_⟩, fun c => ?_⟩
  · have c3 : x1 ≤ σ 122 3 - σ 123 42 := by omega
    rw [if_pos c, if_pos c3, if_pos ⟨c, c3⟩] at hQ
    obtain ⟨q1, q2, q3⟩ := hq1
    have W1 : m_ok τ1 124 0 := by unfold m_ok; rw [q1]; exact hok
    refine ⟨W1, fun y2 e2 => ⟨⟨W1, c⟩, fun τ3 hq3 => ?_⟩⟩
    obtain ⟨p1, p2⟩ := hq3
    rw [q1] at p1
    have G := n_goes_all hok x1.toNat
    have W3 : m_ok τ3 124 0 := by unfold m_ok; rw [p1]; exact G.1
    have b1 := n_sd_le hok
    have b3 := n_sd_le G.1
    unfold v_Model_standing at e2
    rw [q1] at e2
    have z3 : ∀ b, b ≠ 124 → τ3 b = σ b := fun b hb => by rw [p2.1 b hb, q2 b hb]
    have h48 : ∀ x, 48 ≤ x → x < 82 → τ3 124 x = σ 123 x := fun x h1 h2 => by rw [p2.2 x h1, q3 x h2]
    refine (w_loop (n := 82) (P := fun k => ∀ τ : w_M, (∀ b, b ≠ 123 → τ b = τ3 b) → (∀ x, x < k → τ 123 x = τ3 124 x) → (∀ x, k ≤ x → τ 123 x = σ 123 x) → LModel_go_29 xs (d + 6) Q y2 (k : Int) τ) ?_ ?_) τ3 (fun b hb => rfl) (fun x hx => by omega) (fun x hx => by rw [z3 123 (by decide)])
    · intro τ F h1 h2
      have A4 : w_am τ 124 0 = w_am τ3 124 0 := w_am_fr (by rw [F 122 (by decide)]; exact ⟨rfl, rfl, rfl⟩) (F 124 (by decide))
      have A5 : w_am τ 123 0 = w_am τ3 124 0 := w_am_cp W3.sm (F 122 (by decide)) (fun x hx => h1 x (by omega))
      refine bModel_go_29 ⟨fun _ => ⟨by show n_WF _; rw [A4]; exact W3, fun y ey => ?_⟩, fun h => by omega⟩
      unfold v_Model_standing at ey
      rw [A4, p1] at ey
      refine ⟨⟨by omega, by omega⟩, hQ _ _ ?_⟩
      obtain ⟨g0, g4, g5⟩ := n_goes_hd hok x1.toNat
      have hMS : mS τ = w_sp (mS σ) 0 (n_goes (w_am σ 123 0) x1.toNat) := by
        have hz : ∀ b, b ≠ 123 → b ≠ 124 → τ b = σ b := fun b h1 h2 => by rw [F b h1, z3 b h2]
        have hx : ∀ x, 48 ≤ x → τ 123 x = σ 123 x := fun x hx => by
          by_cases h82 : x < 82
          · rw [h1 x h82, h48 x hx h82]
          · exact h2 x (by omega)
        have e122 : τ 122 3 = σ 122 3 ∧ τ 122 4 = σ 122 4 ∧ τ 122 5 = σ 122 5 := by rw [hz 122 (by decide) (by decide)]; exact ⟨rfl, rfl, rfl⟩
        exact cS_ext (by show w_am τ 123 0 = _; rw [A5, p1]; rfl) (s_am_fr (fun x h1 h2 => hx x (by omega)) hM.se.2) (c_am_fr (fun x h1 h2 => hx x (by omega)) hM.pa.2) (t_am_fr (by rw [hz 122 (by decide) (by decide)]) (by rw [hz 122 (by decide) (by decide)]) (hz 127 (by decide) (by decide))) (h_am_fr (fun b h1 h2 => hz b (by omega) (by omega))) (fun p hp => by rw [w_sp_ne (by omega)]; exact mS_im hM e122 (hz 125 (by decide) (by decide)) (fun x hx2 => hx x (by omega)) p hp)
      refine ⟨by omega, ?_, hMS, fun b hb => by rw [F b (by omega), z3 b (by omega)], by rw [F 122 (by decide), z3 122 (by decide)]⟩
      unfold MI
      rw [hMS]
      exact sWF_0 hM G.1 g0 g4 g5
    · intro k hk ih τ F h1 h2
      refine bModel_go_29 ⟨fun h => by omega, fun h => ⟨by omega, by omega, fun τ2 t2 => ⟨⟨by omega, by omega⟩, ?_⟩⟩⟩
      rw [← w_cs1]
      rw [Int.toNat_natCast, F 124 (by decide)] at t2
      refine ih τ2 (fun b hb => by rw [t2, w_up_ne hb]; exact F b hb) (fun x hx => ?_) (fun x hx => by rw [t2, w_up_j (by omega)]; exact h2 x (by omega))
      rw [t2, w_up_eq]
      by_cases hxk : x = k
      · rw [if_pos ⟨rfl, hxk⟩, hxk]
      · rw [if_neg (fun e => hxk e.2)]
        exact h1 x (by omega)
  · rw [if_pos c, if_neg (by omega), if_neg (by omega)] at hQ
    exact hQ _ _ (m_qr hM rfl)
  · rw [if_neg c, if_neg (fun q => c q.1)] at hQ
    exact hQ _ _ (m_qr hM rfl)
noncomputable def p_Model_ahead (_x1 : Int) (_x2 : Int) (_x3 : Int) (σ : w_M) : Prop := MI σ
noncomputable def q_Model_ahead (x1 : Int) (x2 : Int) (x3 : Int) (σ : w_M) (x : Int) (σ' : w_M) : Prop := m_q (F_ahead (mS σ) x1 x2 x3) (mS σ) σ x σ'
noncomputable def p_Model_stands (_x1 : Int) (_x2 : Int) (σ : w_M) : Prop := MI σ
noncomputable def q_Model_stands (x1 : Int) (x2 : Int) (σ : w_M) (x : Int) (σ' : w_M) : Prop := m_q (F_stands (mS σ) x1 x2) (mS σ) σ x σ'
noncomputable def p_Model_done (_x1 : Int) (σ : w_M) : Prop := MI σ
noncomputable def q_Model_done (x1 : Int) (σ : w_M) (x : Int) (σ' : w_M) : Prop := m_q (F_done (mS σ) x1) (mS σ) σ x σ'
noncomputable def p_Model_left  (σ : w_M) : Prop := MI σ
noncomputable def q_Model_left  (σ : w_M) (x : Int) (σ' : w_M) : Prop := m_q (F_left (mS σ)) (mS σ) σ x σ'
theorem fModel_ahead_0 : w_fe am_c201 0 1 (.aload 0) := ⟨rfl, rfl⟩
theorem fModel_ahead_1 : w_fe am_c201 1 2 (.iload 1) := ⟨rfl, rfl⟩
theorem fModel_ahead_2 : w_fe am_c201 2 3 (.invokestatic 181) := ⟨rfl, rfl⟩
theorem fModel_ahead_3 : w_if am_c201 3 4 .eq 16 := ⟨rfl, rfl⟩
theorem fModel_ahead_4 : w_fe am_c201 4 5 (.iload 2) := ⟨rfl, rfl⟩
theorem fModel_ahead_5 : w_fe am_c201 5 6 (.i2l) := ⟨rfl, rfl⟩
theorem fModel_ahead_6 : w_fe am_c201 6 7 (.sipush 0) := ⟨rfl, rfl⟩
theorem fModel_ahead_7 : w_fe am_c201 7 8 (.sipush 12) := ⟨rfl, rfl⟩
theorem fModel_ahead_8 : w_fe am_c201 8 9 (.invokestatic 157) := ⟨rfl, rfl⟩
theorem fModel_ahead_9 : w_if am_c201 9 10 .eq 16 := ⟨rfl, rfl⟩
theorem fModel_ahead_10 : w_fe am_c201 10 11 (.iload 3) := ⟨rfl, rfl⟩
theorem fModel_ahead_11 : w_fe am_c201 11 12 (.i2l) := ⟨rfl, rfl⟩
theorem fModel_ahead_12 : w_fe am_c201 12 13 (.sipush 0) := ⟨rfl, rfl⟩
theorem fModel_ahead_13 : w_fe am_c201 13 14 (.sipush 4) := ⟨rfl, rfl⟩
theorem fModel_ahead_14 : w_fe am_c201 14 15 (.invokestatic 157) := ⟨rfl, rfl⟩
theorem fModel_ahead_15 : w_if am_c201 15 16 .ne 18 := ⟨rfl, rfl⟩
theorem fModel_ahead_16 : w_fe am_c201 16 17 (.bipush (-1)) := ⟨rfl, rfl⟩
theorem fModel_ahead_17 : w_fe am_c201 17 18 (.ireturn) := ⟨rfl, rfl⟩
theorem fModel_ahead_18 : w_fe am_c201 18 19 (.aload 0) := ⟨rfl, rfl⟩
theorem fModel_ahead_19 : w_fe am_c201 19 20 (.invokestatic 174) := ⟨rfl, rfl⟩
theorem fModel_ahead_20 : w_fe am_c201 20 21 (.aload 0) := ⟨rfl, rfl⟩
theorem fModel_ahead_21 : w_fe am_c201 21 22 (.iload 2) := ⟨rfl, rfl⟩
theorem fModel_ahead_22 : w_fe am_c201 22 23 (.invokestatic 194) := ⟨rfl, rfl⟩
theorem fModel_ahead_23 : w_fe am_c201 23 24 (.aload 0) := ⟨rfl, rfl⟩
theorem fModel_ahead_24 : w_fe am_c201 24 25 (.iload 1) := ⟨rfl, rfl⟩
theorem fModel_ahead_25 : w_fe am_c201 25 26 (.iload 3) := ⟨rfl, rfl⟩
theorem fModel_ahead_26 : w_fe am_c201 26 27 (.invokestatic 178) := ⟨rfl, rfl⟩
theorem fModel_ahead_27 : w_fe am_c201 27 28 (.ireturn) := ⟨rfl, rfl⟩
set_option maxRecDepth 20000 in
theorem bModel_ahead_0 {xs : List Int} {d : Nat} {Q : Option w_V → w_M → Prop} {x1 : Int} {x2 : Int} {x3 : Int} {σ : w_M}
    (h : p_Model_isReaper x1 σ ∧ ((¬ (0 ≤ x1 ∧ x1 < σ 122 5) → Q (some (.inl (-1))) σ) ∧ ((0 ≤ x1 ∧ x1 < σ 122 5) → ((¬ (0 ≤ x2 ∧ x2 ≤ 12) → Q (some (.inl (-1))) σ) ∧ ((0 ≤ x2 ∧ x2 ≤ 12) → (((0 ≤ x3 ∧ x3 ≤ 4) → (p_Model_starts σ ∧ (∀ (τ1 : w_M), q_Model_starts σ τ1 → (p_Model_goesTo x2 τ1 ∧ (∀ (τ2 : w_M), q_Model_goesTo x2 τ1 τ2 → (p_Model_of x1 x3 τ2 ∧ Q (some (.inl (τ2 124 (21 + 5 * x1 + x3).toNat))) τ2)))))) ∧ (¬ (0 ≤ x3 ∧ x3 ≤ 4) → Q (some (.inl (-1))) σ))))))) : w_Call (xs, (d + 6)) 201 [.inr (.inr (9, 122)), .inl x1, .inl x2, .inl x3] σ Q :=
  (w_mk (mid := 201) (by decide) rfl rfl rfl rfl rfl (Nat.le_of_ble_eq_true rfl) ⟨rfl, Or.inl (by decide)⟩ (wi_aload0 fModel_ahead_0 (wi_iload1 fModel_ahead_1 (wi_call2 fModel_ahead_2 (Nat.le_of_ble_eq_true rfl) (k_Model_isReaper h.1 (wi_ifb_eq fModel_ahead_3 (fun c5 => (wi_bipush fModel_ahead_16 (wi_ret1 fModel_ahead_17 (h.2.1 c5)))) (fun c5 => (wi_iload2 fModel_ahead_4 (wi_i2l fModel_ahead_5 (wi_sipush fModel_ahead_6 (wi_sipush fModel_ahead_7 (wi_call3 fModel_ahead_8 (Nat.le_of_ble_eq_true rfl) (k_Model_in (wi_ifb_eq fModel_ahead_9 (fun c4 => (wi_bipush fModel_ahead_16 (wi_ret1 fModel_ahead_17 ((h.2.2 c5).1 c4)))) (fun c4 => (wi_iload3 fModel_ahead_10 (wi_i2l fModel_ahead_11 (wi_sipush fModel_ahead_12 (wi_sipush fModel_ahead_13 (wi_call3 fModel_ahead_14 (Nat.le_of_ble_eq_true rfl) (k_Model_in (wi_ifb_ne fModel_ahead_15 (fun c3 => (wi_aload0 fModel_ahead_18 (wi_call1 fModel_ahead_19 (Nat.le_of_ble_eq_true rfl) (k_Model_starts (((h.2.2 c5).2 c4).1 c3).1 (fun τ1 eτ1 => (wi_aload0 fModel_ahead_20 (wi_iload2 fModel_ahead_21 (wi_call2 fModel_ahead_22 (Nat.le_of_ble_eq_true rfl) (k_Model_goesTo ((((h.2.2 c5).2 c4).1 c3).2 τ1 eτ1).1 (fun τ2 eτ2 => (wi_aload0 fModel_ahead_23 (wi_iload1 fModel_ahead_24 (wi_iload3 fModel_ahead_25 (wi_call3 fModel_ahead_26 (Nat.le_of_ble_eq_true rfl) (k_Model_of (((((h.2.2 c5).2 c4).1 c3).2 τ1 eτ1).2 τ2 eτ2).1 (wi_ret1 fModel_ahead_27 (((((h.2.2 c5).2 c4).1 c3).2 τ1 eτ1).2 τ2 eτ2).2)))))))))))))))) (fun c3 => (wi_bipush fModel_ahead_16 (wi_ret1 fModel_ahead_17 (((h.2.2 c5).2 c4).2 c3))))))))))))))))))))))))))
theorem fModel_stands_0 : w_fe am_c202 0 1 (.aload 0) := ⟨rfl, rfl⟩
theorem fModel_stands_1 : w_fe am_c202 1 2 (.iload 1) := ⟨rfl, rfl⟩
theorem fModel_stands_2 : w_fe am_c202 2 3 (.invokestatic 177) := ⟨rfl, rfl⟩
theorem fModel_stands_3 : w_if am_c202 3 4 .eq 10 := ⟨rfl, rfl⟩
theorem fModel_stands_4 : w_fe am_c202 4 5 (.iload 2) := ⟨rfl, rfl⟩
theorem fModel_stands_5 : w_fe am_c202 5 6 (.i2l) := ⟨rfl, rfl⟩
theorem fModel_stands_6 : w_fe am_c202 6 7 (.sipush 0) := ⟨rfl, rfl⟩
theorem fModel_stands_7 : w_fe am_c202 7 8 (.sipush 12) := ⟨rfl, rfl⟩
theorem fModel_stands_8 : w_fe am_c202 8 9 (.invokestatic 157) := ⟨rfl, rfl⟩
theorem fModel_stands_9 : w_if am_c202 9 10 .ne 12 := ⟨rfl, rfl⟩
theorem fModel_stands_10 : w_fe am_c202 10 11 (.bipush (-1)) := ⟨rfl, rfl⟩
theorem fModel_stands_11 : w_fe am_c202 11 12 (.ireturn) := ⟨rfl, rfl⟩
theorem fModel_stands_12 : w_fe am_c202 12 13 (.aload 0) := ⟨rfl, rfl⟩
theorem fModel_stands_13 : w_fe am_c202 13 14 (.invokestatic 174) := ⟨rfl, rfl⟩
theorem fModel_stands_14 : w_fe am_c202 14 15 (.aload 0) := ⟨rfl, rfl⟩
theorem fModel_stands_15 : w_fe am_c202 15 16 (.iload 2) := ⟨rfl, rfl⟩
theorem fModel_stands_16 : w_fe am_c202 16 17 (.invokestatic 194) := ⟨rfl, rfl⟩
theorem fModel_stands_17 : w_fe am_c202 17 18 (.aload 0) := ⟨rfl, rfl⟩
theorem fModel_stands_18 : w_fe am_c202 18 19 (.getfield 901) := ⟨rfl, rfl⟩
theorem fModel_stands_19 : w_fe am_c202 19 20 (.bipush 0) := ⟨rfl, rfl⟩
theorem fModel_stands_20 : w_fe am_c202 20 21 (.iload 1) := ⟨rfl, rfl⟩
theorem fModel_stands_21 : w_fe am_c202 21 22 (.iadd) := ⟨rfl, rfl⟩
theorem fModel_stands_22 : w_fe am_c202 22 23 (.iaload) := ⟨rfl, rfl⟩
theorem fModel_stands_23 : w_fe am_c202 23 24 (.ireturn) := ⟨rfl, rfl⟩
set_option maxRecDepth 20000 in
theorem bModel_stands_0 {xs : List Int} {d : Nat} {Q : Option w_V → w_M → Prop} {x1 : Int} {x2 : Int} {σ : w_M}
    (h : p_Model_isStrip x1 σ ∧ ((¬ (0 ≤ x1 ∧ x1 < σ 122 4) → Q (some (.inl (-1))) σ) ∧ ((0 ≤ x1 ∧ x1 < σ 122 4) → (((0 ≤ x2 ∧ x2 ≤ 12) → (p_Model_starts σ ∧ (∀ (τ1 : w_M), q_Model_starts σ τ1 → (p_Model_goesTo x2 τ1 ∧ (∀ (τ2 : w_M), q_Model_goesTo x2 τ1 τ2 → (w_in (0 + x1) ∧ 0 ≤ (0 + x1) ∧ (0 + x1) < 82 ∧ Q (some (.inl (τ2 124 (0 + x1).toNat))) τ2)))))) ∧ (¬ (0 ≤ x2 ∧ x2 ≤ 12) → Q (some (.inl (-1))) σ))))) : w_Call (xs, (d + 6)) 202 [.inr (.inr (9, 122)), .inl x1, .inl x2] σ Q :=
  (w_mk (mid := 202) (by decide) rfl rfl rfl rfl rfl (Nat.le_of_ble_eq_true rfl) ⟨rfl, Or.inl (by decide)⟩ (wi_aload0 fModel_stands_0 (wi_iload1 fModel_stands_1 (wi_call2 fModel_stands_2 (Nat.le_of_ble_eq_true rfl) (k_Model_isStrip h.1 (wi_ifb_eq fModel_stands_3 (fun c4 => (wi_bipush fModel_stands_10 (wi_ret1 fModel_stands_11 (h.2.1 c4)))) (fun c4 => (wi_iload2 fModel_stands_4 (wi_i2l fModel_stands_5 (wi_sipush fModel_stands_6 (wi_sipush fModel_stands_7 (wi_call3 fModel_stands_8 (Nat.le_of_ble_eq_true rfl) (k_Model_in (wi_ifb_ne fModel_stands_9 (fun c3 => (wi_aload0 fModel_stands_12 (wi_call1 fModel_stands_13 (Nat.le_of_ble_eq_true rfl) (k_Model_starts ((h.2.2 c4).1 c3).1 (fun τ1 eτ1 => (wi_aload0 fModel_stands_14 (wi_iload2 fModel_stands_15 (wi_call2 fModel_stands_16 (Nat.le_of_ble_eq_true rfl) (k_Model_goesTo (((h.2.2 c4).1 c3).2 τ1 eτ1).1 (fun τ2 eτ2 => (wi_aload0 fModel_stands_17 (wi_getf901 fModel_stands_18 (wi_bipush fModel_stands_19 (wi_iload1 fModel_stands_20 (wi_iadd fModel_stands_21 ((((h.2.2 c4).1 c3).2 τ1 eτ1).2 τ2 eτ2).1 (wi_iald1082 fModel_stands_22 ((((h.2.2 c4).1 c3).2 τ1 eτ1).2 τ2 eτ2).2.1 ((((h.2.2 c4).1 c3).2 τ1 eτ1).2 τ2 eτ2).2.2.1 (wi_ret1 fModel_stands_23 ((((h.2.2 c4).1 c3).2 τ1 eτ1).2 τ2 eτ2).2.2.2))))))))))))))))) (fun c3 => (wi_bipush fModel_stands_10 (wi_ret1 fModel_stands_11 ((h.2.2 c4).2 c3))))))))))))))))))
theorem fModel_done_0 : w_fe am_c203 0 1 (.iload 1) := ⟨rfl, rfl⟩
theorem fModel_done_1 : w_fe am_c203 1 2 (.i2l) := ⟨rfl, rfl⟩
theorem fModel_done_2 : w_fe am_c203 2 3 (.sipush 0) := ⟨rfl, rfl⟩
theorem fModel_done_3 : w_fe am_c203 3 4 (.sipush 1) := ⟨rfl, rfl⟩
theorem fModel_done_4 : w_fe am_c203 4 5 (.invokestatic 157) := ⟨rfl, rfl⟩
theorem fModel_done_5 : w_if am_c203 5 6 .ne 8 := ⟨rfl, rfl⟩
theorem fModel_done_6 : w_fe am_c203 6 7 (.bipush (-1)) := ⟨rfl, rfl⟩
theorem fModel_done_7 : w_fe am_c203 7 8 (.ireturn) := ⟨rfl, rfl⟩
theorem fModel_done_8 : w_fe am_c203 8 9 (.aload 0) := ⟨rfl, rfl⟩
theorem fModel_done_9 : w_fe am_c203 9 10 (.invokestatic 174) := ⟨rfl, rfl⟩
theorem fModel_done_10 : w_fe am_c203 10 11 (.aload 0) := ⟨rfl, rfl⟩
theorem fModel_done_11 : w_fe am_c203 11 12 (.invokestatic 204) := ⟨rfl, rfl⟩
theorem fModel_done_12 : w_fe am_c203 12 13 (.istore 2) := ⟨rfl, rfl⟩
theorem fModel_done_13 : w_fe am_c203 13 14 (.iload 1) := ⟨rfl, rfl⟩
theorem fModel_done_14 : w_if am_c203 14 15 .ne 17 := ⟨rfl, rfl⟩
theorem fModel_done_15 : w_fe am_c203 15 16 (.iload 2) := ⟨rfl, rfl⟩
theorem fModel_done_16 : w_gt am_c203 16 21 := rfl
theorem fModel_done_17 : w_fe am_c203 17 18 (.aload 0) := ⟨rfl, rfl⟩
theorem fModel_done_18 : w_fe am_c203 18 19 (.getfield 901) := ⟨rfl, rfl⟩
theorem fModel_done_19 : w_fe am_c203 19 20 (.bipush 47) := ⟨rfl, rfl⟩
theorem fModel_done_20 : w_fe am_c203 20 21 (.iaload) := ⟨rfl, rfl⟩
theorem fModel_done_21 : w_fe am_c203 21 22 (.ireturn) := ⟨rfl, rfl⟩
set_option maxRecDepth 20000 in
theorem bModel_done_0 {xs : List Int} {d : Nat} {Q : Option w_V → w_M → Prop} {x1 : Int} {σ : w_M}
    (h : ((0 ≤ x1 ∧ x1 ≤ 1) → (p_Model_starts σ ∧ (∀ (τ1 : w_M), q_Model_starts σ τ1 → (p_Model_doneBehind τ1 ∧ (∀ (y2 : Int) (τ3 : w_M), q_Model_doneBehind τ1 y2 τ3 → ((¬ x1 = 0 → Q (some (.inl (τ3 124 47))) τ3) ∧ (x1 = 0 → Q (some (.inl y2)) τ3))))))) ∧ (¬ (0 ≤ x1 ∧ x1 ≤ 1) → Q (some (.inl (-1))) σ)) : w_Call (xs, (d + 6)) 203 [.inr (.inr (9, 122)), .inl x1] σ Q :=
  (w_mk (mid := 203) (by decide) rfl rfl rfl rfl rfl (Nat.le_of_ble_eq_true rfl) ⟨rfl, Or.inl (by decide)⟩ (wi_iload1 fModel_done_0 (wi_i2l fModel_done_1 (wi_sipush fModel_done_2 (wi_sipush fModel_done_3 (wi_call3 fModel_done_4 (Nat.le_of_ble_eq_true rfl) (k_Model_in (wi_ifb_ne fModel_done_5 (fun c5 => (wi_aload0 fModel_done_8 (wi_call1 fModel_done_9 (Nat.le_of_ble_eq_true rfl) (k_Model_starts (h.1 c5).1 (fun τ1 eτ1 => (wi_aload0 fModel_done_10 (wi_call1 fModel_done_11 (Nat.le_of_ble_eq_true rfl) (k_Model_doneBehind ((h.1 c5).2 τ1 eτ1).1 (fun y2 τ3 eτ3 => (wi_istore2 fModel_done_12 trivial (wi_iload1 fModel_done_13 (wi_if_ne fModel_done_14 (fun c4 => (wi_aload0 fModel_done_17 (wi_getf901 fModel_done_18 (wi_bipush fModel_done_19 (wi_iald1082 fModel_done_20 (by decide) (by decide) (wi_ret1 fModel_done_21 ((((h.1 c5).2 τ1 eτ1).2 y2 τ3 eτ3).1 c4))))))) (fun c4 => (wi_iload2 fModel_done_15 (wi_goto fModel_done_16 (wi_ret1 fModel_done_21 ((((h.1 c5).2 τ1 eτ1).2 y2 τ3 eτ3).2 c4))))))))))))))))) (fun c5 => (wi_bipush fModel_done_6 (wi_ret1 fModel_done_7 (h.2 c5))))))))))))
theorem fModel_left_0 : w_fe am_c205 0 1 (.aload 0) := ⟨rfl, rfl⟩
theorem fModel_left_1 : w_fe am_c205 1 2 (.invokestatic 174) := ⟨rfl, rfl⟩
theorem fModel_left_2 : w_fe am_c205 2 3 (.aload 0) := ⟨rfl, rfl⟩
theorem fModel_left_3 : w_fe am_c205 3 4 (.bipush 12) := ⟨rfl, rfl⟩
theorem fModel_left_4 : w_fe am_c205 4 5 (.invokestatic 194) := ⟨rfl, rfl⟩
theorem fModel_left_5 : w_fe am_c205 5 6 (.aload 0) := ⟨rfl, rfl⟩
theorem fModel_left_6 : w_fe am_c205 6 7 (.invokestatic 175) := ⟨rfl, rfl⟩
theorem fModel_left_7 : w_fe am_c205 7 8 (.ireturn) := ⟨rfl, rfl⟩
set_option maxRecDepth 20000 in
theorem bModel_left_0 {xs : List Int} {d : Nat} {Q : Option w_V → w_M → Prop}  {σ : w_M}
    (h : p_Model_starts σ ∧ (∀ (τ1 : w_M), q_Model_starts σ τ1 → (p_Model_goesTo 12 τ1 ∧ (∀ (τ2 : w_M), q_Model_goesTo 12 τ1 τ2 → (p_Model_standing τ2 ∧ (∀ (y3 : Int), y3 = v_Model_standing τ2 → Q (some (.inl y3)) τ2)))))) : w_Call (xs, (d + 6)) 205 [.inr (.inr (9, 122))] σ Q :=
  (w_mk (mid := 205) (by decide) rfl rfl rfl rfl rfl (Nat.le_of_ble_eq_true rfl) ⟨rfl, Or.inl (by decide)⟩ (wi_aload0 fModel_left_0 (wi_call1 fModel_left_1 (Nat.le_of_ble_eq_true rfl) (k_Model_starts h.1 (fun τ1 eτ1 => (wi_aload0 fModel_left_2 (wi_bipush fModel_left_3 (wi_call2 fModel_left_4 (Nat.le_of_ble_eq_true rfl) (k_Model_goesTo (h.2 τ1 eτ1).1 (fun τ2 eτ2 => (wi_aload0 fModel_left_5 (wi_call1 fModel_left_6 (Nat.le_of_ble_eq_true rfl) (k_Model_standing ((h.2 τ1 eτ1).2 τ2 eτ2).1 (wi_ret1 fModel_left_7 (((h.2 τ1 eτ1).2 τ2 eτ2).2 _ rfl)))))))))))))))
theorem k_Model_ahead {xs : List Int} {d : Nat} {Q : Option w_V → w_M → Prop} {x1 : Int} {x2 : Int} {x3 : Int} {σ : w_M} (hp : p_Model_ahead x1 x2 x3 σ) (hQ : ∀ (x : Int) (σ' : w_M), q_Model_ahead x1 x2 x3 σ x σ' → Q (some (.inl x)) σ') : w_Call (xs, d + 6) 201 [.inr (.inr (9, 122)), .inl x1, .inl x2, .inl x3] σ Q := by
  have hM : MI σ := hp
  have hok := hM.ok
  have hn := hM.n
  unfold q_Model_ahead F_ahead at hQ
  have eA : mS σ 0 = w_am σ 123 0 := rfl
  rw [eA] at hQ
  obtain ⟨g0, g4, g5⟩ := n_goes_hd hok x2.toNat
  have e5 : w_am σ 123 0 0 5 = σ 122 5 := rfl
  have bad : ¬ ((0 ≤ x1 ∧ x1 < σ 122 5) ∧ (0 ≤ x2 ∧ x2 ≤ 12) ∧ (0 ≤ x3 ∧ x3 ≤ 4)) → Q (some (.inl (-1))) σ := fun h => by
    refine hQ _ _ (m_qr hM ?_)
    split
    · rename_i h2
      exact (n_tell_bad (fun q => h ⟨by rw [← e5, ← g5]; exact q.1, h2, q.2⟩)).symm
    · rfl
  refine bModel_ahead_0 ⟨hn, fun c => bad (fun q => c q.1), fun c => ⟨fun c2 => bad (fun q => c2 q.2.1), fun c2 => ⟨fun c3 => ⟨hM.sm, fun τ1 hq1 => ?_⟩, fun c3 => bad (fun q => c3 q.2.2)⟩⟩⟩
  obtain ⟨q1, q2, q3⟩ := hq1
  rw [if_pos c2] at hQ
  refine ⟨⟨by show n_WF _; rw [q1]; exact hok, c2⟩, fun τ2 hq2 => ?_⟩
  obtain ⟨p1, p2⟩ := hq2
  rw [q1] at p1
  have z : τ2 122 = σ 122 := by rw [p2.1 122 (by decide), q2 122 (by decide)]
  refine ⟨⟨by omega, by omega⟩, hQ _ _ (m_qs hM (q2.tr p2.1) ?_)⟩
  rw [← p1]
  exact m_tell (by rw [z]; exact c) c3 (by omega)
theorem k_Model_stands {xs : List Int} {d : Nat} {Q : Option w_V → w_M → Prop} {x1 : Int} {x2 : Int} {σ : w_M} (hp : p_Model_stands x1 x2 σ) (hQ : ∀ (x : Int) (σ' : w_M), q_Model_stands x1 x2 σ x σ' → Q (some (.inl x)) σ') : w_Call (xs, d + 6) 202 [.inr (.inr (9, 122)), .inl x1, .inl x2] σ Q := by
  have hM : MI σ := hp
  have hok := hM.ok
  have hs := hM.s
  unfold q_Model_stands F_stands at hQ
  have eA : mS σ 0 = w_am σ 123 0 := rfl
  have e4 : w_am σ 123 0 0 4 = σ 122 4 := rfl
  rw [eA, e4] at hQ
  refine bModel_stands_0 ⟨hs, fun c => ?_, fun c => ⟨fun c2 => ⟨hM.sm, fun τ1 hq1 => ?_⟩, fun c2 => ?_⟩⟩
  · rw [if_neg (fun q => c q.1)] at hQ
    exact hQ _ _ (m_qr hM rfl)
  · obtain ⟨q1, q2, q3⟩ := hq1
    rw [if_pos ⟨c, c2⟩] at hQ
    refine ⟨⟨by show n_WF _; rw [q1]; exact hok, c2⟩, fun τ2 hq2 => ?_⟩
    obtain ⟨p1, p2⟩ := hq2
    rw [q1] at p1
    have z : τ2 122 = σ 122 := by rw [p2.1 122 (by decide), q2 122 (by decide)]
    refine ⟨⟨by omega, by omega⟩, by omega, by omega, hQ _ _ (m_qs hM (q2.tr p2.1) ?_)⟩
    rw [← p1]
    exact m_rdi (by decide) (Or.inl (by decide)) (by rw [z]; exact c) (by show _ = x1.toNat; omega)
  · rw [if_neg (fun q => c2 q.2)] at hQ
    exact hQ _ _ (m_qr hM rfl)
/-- behind the end of it only the hour goes on -/
theorem n_goes_fin {A : w_M} (h : n_WF A) : ∀ j : Nat, ∃ x : Int, n_goes A (n_fin A + j) = w_up (n_goes A (n_fin A)) 0 1 x := by
  obtain ⟨g1, g2, g3⟩ := n_st_spec A h (n_left A)
  have hall := n_goes_all h (n_fin A)
  by_cases hd : n_sd (n_goes A (n_fin A)) = 0
  · intro j
    induction j with
    | zero => exact ⟨_, (w_up_same rfl).symm⟩
    | succ j ih =>
      obtain ⟨x, hx⟩ := ih
      have hj := n_goes_all h (n_fin A + j)
      have hd2 : n_sd (n_goes A (n_fin A + j)) = 0 := by rw [hx, n_sd_up (by decide) (by decide)]; exact hd
      show ∃ y, (if (n_goes A (n_fin A + j)) 0 1 < (n_goes A (n_fin A + j)) 0 0 then n_on (n_goes A (n_fin A + j)) else n_goes A (n_fin A + j)) = _
      split
      · unfold n_on
        rw [n_hour_done hj.1 hd2, hx, w_up_up]
        exact ⟨_, rfl⟩
      · exact ⟨x, hx⟩
  · have hl : n_fin A = n_left A := g3.resolve_left hd
    intro j
    refine ⟨(n_goes A (n_fin A)) 0 1, ?_⟩
    rw [w_up_same rfl]
    refine n_goes_end ?_ j
    have e0 := hall.2.1.1 0 (by decide) (by decide)
    have hr := h.hr
    rw [hall.2.2.1, e0, hl]
    unfold n_left
    split <;> omega
theorem n_fin_le {A : w_M} (h : n_WF A) : n_fin A ≤ n_left A ∧ n_left A ≤ 12 := by
  obtain ⟨g1, -, -⟩ := n_st_spec A h (n_left A)
  have hrs := h.hrs
  have hr := h.hr
  refine ⟨g1, ?_⟩
  unfold n_left
  omega
theorem n_goes12 {A : w_M} (h : n_WF A) : ∃ x : Int, n_goes A 12 = w_up (n_goes A (n_fin A)) 0 1 x := by
  have hl := n_fin_le h
  obtain ⟨x, hx⟩ := n_goes_fin h (12 - n_fin A)
  rw [show n_fin A + (12 - n_fin A) = 12 by omega] at hx
  exact ⟨x, hx⟩
theorem k_Model_done {xs : List Int} {d : Nat} {Q : Option w_V → w_M → Prop} {x1 : Int} {σ : w_M} (hp : p_Model_done x1 σ) (hQ : ∀ (x : Int) (σ' : w_M), q_Model_done x1 σ x σ' → Q (some (.inl x)) σ') : w_Call (xs, d + 6) 203 [.inr (.inr (9, 122)), .inl x1] σ Q := by
  have hM : MI σ := hp
  have hok := hM.ok
  unfold q_Model_done F_done at hQ
  have eA : mS σ 0 = w_am σ 123 0 := rfl
  rw [eA] at hQ
  refine bModel_done_0 ⟨fun c => ⟨hM.sm, fun τ1 hq1 => ?_⟩, fun c => ?_⟩
  · obtain ⟨q1, q2, q3⟩ := hq1
    refine ⟨by show n_WF _; rw [q1]; exact hok, fun y τ2 hq2 => ?_⟩
    obtain ⟨p1, p2, p3⟩ := hq2
    rw [q1] at p1 p2
    refine ⟨fun c2 => ?_, fun c2 => ?_⟩
    · rw [if_neg c2, if_pos (by omega)] at hQ
      refine hQ _ _ (m_qs hM (q2.tr p3) ?_)
      obtain ⟨x, hx⟩ := n_goes12 hok
      rw [hx, w_up_j (by decide), ← p1]
      rfl
    · rw [if_pos c2] at hQ
      exact hQ _ _ (m_qs hM (q2.tr p3) p2)
  · rw [if_neg (by omega), if_neg (by omega)] at hQ
    exact hQ _ _ (m_qr hM rfl)
theorem k_Model_left {xs : List Int} {d : Nat} {Q : Option w_V → w_M → Prop}  {σ : w_M} (hp : p_Model_left σ) (hQ : ∀ (x : Int) (σ' : w_M), q_Model_left σ x σ' → Q (some (.inl x)) σ') : w_Call (xs, d + 6) 205 [.inr (.inr (9, 122))] σ Q := by
  have hM : MI σ := hp
  have hok := hM.ok
  unfold q_Model_left F_left at hQ
  have eA : mS σ 0 = w_am σ 123 0 := rfl
  rw [eA] at hQ
  refine bModel_left_0 ⟨hM.sm, fun τ1 hq1 => ?_⟩
  obtain ⟨q1, q2, q3⟩ := hq1
  refine ⟨⟨by show n_WF _; rw [q1]; exact hok, by decide, by decide⟩, fun τ2 hq2 => ?_⟩
  obtain ⟨p1, p2⟩ := hq2
  rw [q1] at p1
  refine ⟨by show n_WF _; rw [p1]; exact (n_goes_all hok _).1, fun y ey => hQ _ _ (m_qs hM (q2.tr p2.1) ?_)⟩
  rw [ey]
  unfold v_Model_standing
  rw [p1]
  rfl
