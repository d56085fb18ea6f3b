/-! The reference's calls: lend, cloud, hours -/
def p_Model_lend (_x1 : Int) (_x2 : Int) (_x3 : Int) (σ : w_M) : Prop := MI σ
def q_Model_lend (x1 : Int) (x2 : Int) (x3 : Int) (σ : w_M) (x : Int) (σ' : w_M) : Prop := m_q (F_lend (mS σ) x1 x2 x3) (G_lend (mS σ) x1 x2 x3) σ x σ'
theorem f187_0 : w_fe am_c187 0 1 (.aload 0) := ⟨rfl, rfl⟩
theorem f187_1 : w_fe am_c187 1 2 (.iload 1) := ⟨rfl, rfl⟩
theorem f187_2 : w_fe am_c187 2 3 (.invokestatic 182) := ⟨rfl, rfl⟩
theorem f187_3 : w_if am_c187 3 4 .eq 17 := ⟨rfl, rfl⟩
theorem f187_4 : w_fe am_c187 4 5 (.aload 0) := ⟨rfl, rfl⟩
theorem f187_5 : w_fe am_c187 5 6 (.iload 2) := ⟨rfl, rfl⟩
theorem f187_6 : w_fe am_c187 6 7 (.invokestatic 182) := ⟨rfl, rfl⟩
theorem f187_7 : w_if am_c187 7 8 .eq 17 := ⟨rfl, rfl⟩
theorem f187_8 : w_fe am_c187 8 9 (.iload 1) := ⟨rfl, rfl⟩
theorem f187_9 : w_fe am_c187 9 10 (.iload 2) := ⟨rfl, rfl⟩
theorem f187_10 : w_ic am_c187 10 11 .eq 17 := ⟨rfl, rfl⟩
theorem f187_11 : w_fe am_c187 11 12 (.iload 3) := ⟨rfl, rfl⟩
theorem f187_12 : w_fe am_c187 12 13 (.i2l) := ⟨rfl, rfl⟩
theorem f187_13 : w_fe am_c187 13 14 (.sipush 0) := ⟨rfl, rfl⟩
theorem f187_14 : w_fe am_c187 14 15 (.sipush 9) := ⟨rfl, rfl⟩
theorem f187_15 : w_fe am_c187 15 16 (.invokestatic 158) := ⟨rfl, rfl⟩
theorem f187_16 : w_if am_c187 16 17 .ne 19 := ⟨rfl, rfl⟩
theorem f187_17 : w_fe am_c187 17 18 (.bipush (-1)) := ⟨rfl, rfl⟩
theorem f187_18 : w_fe am_c187 18 19 (.ireturn) := ⟨rfl, rfl⟩
theorem f187_19 : w_fe am_c187 19 20 (.bipush 21) := ⟨rfl, rfl⟩
theorem f187_20 : w_fe am_c187 20 21 (.bipush 5) := ⟨rfl, rfl⟩
theorem f187_21 : w_fe am_c187 21 22 (.iload 1) := ⟨rfl, rfl⟩
theorem f187_22 : w_fe am_c187 22 23 (.imul) := ⟨rfl, rfl⟩
theorem f187_23 : w_fe am_c187 23 24 (.iadd) := ⟨rfl, rfl⟩
theorem f187_24 : w_fe am_c187 24 25 (.istore 4) := ⟨rfl, rfl⟩
theorem f187_25 : w_fe am_c187 25 26 (.bipush 21) := ⟨rfl, rfl⟩
theorem f187_26 : w_fe am_c187 26 27 (.bipush 5) := ⟨rfl, rfl⟩
theorem f187_27 : w_fe am_c187 27 28 (.iload 2) := ⟨rfl, rfl⟩
theorem f187_28 : w_fe am_c187 28 29 (.imul) := ⟨rfl, rfl⟩
theorem f187_29 : w_fe am_c187 29 30 (.iadd) := ⟨rfl, rfl⟩
theorem f187_30 : w_fe am_c187 30 31 (.istore 5) := ⟨rfl, rfl⟩
theorem f187_31 : w_fe am_c187 31 32 (.aload 0) := ⟨rfl, rfl⟩
theorem f187_32 : w_fe am_c187 32 33 (.getfield 900) := ⟨rfl, rfl⟩
theorem f187_33 : w_fe am_c187 33 34 (.iload 4) := ⟨rfl, rfl⟩
theorem f187_34 : w_fe am_c187 34 35 (.bipush 3) := ⟨rfl, rfl⟩
theorem f187_35 : w_fe am_c187 35 36 (.iadd) := ⟨rfl, rfl⟩
theorem f187_36 : w_fe am_c187 36 37 (.iaload) := ⟨rfl, rfl⟩
theorem f187_37 : w_fe am_c187 37 38 (.aload 0) := ⟨rfl, rfl⟩
theorem f187_38 : w_fe am_c187 38 39 (.getfield 900) := ⟨rfl, rfl⟩
theorem f187_39 : w_fe am_c187 39 40 (.iload 5) := ⟨rfl, rfl⟩
theorem f187_40 : w_fe am_c187 40 41 (.bipush 3) := ⟨rfl, rfl⟩
theorem f187_41 : w_fe am_c187 41 42 (.iadd) := ⟨rfl, rfl⟩
theorem f187_42 : w_fe am_c187 42 43 (.iaload) := ⟨rfl, rfl⟩
theorem f187_43 : w_fe am_c187 43 44 (.isub) := ⟨rfl, rfl⟩
theorem f187_44 : w_fe am_c187 44 45 (.i2l) := ⟨rfl, rfl⟩
theorem f187_45 : w_fe am_c187 45 46 (.sipush (-1)) := ⟨rfl, rfl⟩
theorem f187_46 : w_fe am_c187 46 47 (.sipush 1) := ⟨rfl, rfl⟩
theorem f187_47 : w_fe am_c187 47 48 (.invokestatic 158) := ⟨rfl, rfl⟩
theorem f187_48 : w_if am_c187 48 49 .eq 57 := ⟨rfl, rfl⟩
theorem f187_49 : w_fe am_c187 49 50 (.aload 0) := ⟨rfl, rfl⟩
theorem f187_50 : w_fe am_c187 50 51 (.getfield 900) := ⟨rfl, rfl⟩
theorem f187_51 : w_fe am_c187 51 52 (.iload 4) := ⟨rfl, rfl⟩
theorem f187_52 : w_fe am_c187 52 53 (.bipush 1) := ⟨rfl, rfl⟩
theorem f187_53 : w_fe am_c187 53 54 (.iadd) := ⟨rfl, rfl⟩
theorem f187_54 : w_fe am_c187 54 55 (.iaload) := ⟨rfl, rfl⟩
theorem f187_55 : w_fe am_c187 55 56 (.iload 3) := ⟨rfl, rfl⟩
theorem f187_56 : w_ic am_c187 56 57 .ge 59 := ⟨rfl, rfl⟩
theorem f187_57 : w_fe am_c187 57 58 (.bipush (-2)) := ⟨rfl, rfl⟩
theorem f187_58 : w_fe am_c187 58 59 (.ireturn) := ⟨rfl, rfl⟩
theorem f187_59 : w_fe am_c187 59 60 (.aload 0) := ⟨rfl, rfl⟩
theorem f187_60 : w_fe am_c187 60 61 (.getfield 900) := ⟨rfl, rfl⟩
theorem f187_61 : w_fe am_c187 61 62 (.iload 5) := ⟨rfl, rfl⟩
theorem f187_62 : w_fe am_c187 62 63 (.bipush 1) := ⟨rfl, rfl⟩
theorem f187_63 : w_fe am_c187 63 64 (.iadd) := ⟨rfl, rfl⟩
theorem f187_64 : w_fe am_c187 64 65 (.iaload) := ⟨rfl, rfl⟩
theorem f187_65 : w_fe am_c187 65 66 (.iload 3) := ⟨rfl, rfl⟩
theorem f187_66 : w_fe am_c187 66 67 (.iadd) := ⟨rfl, rfl⟩
theorem f187_67 : w_fe am_c187 67 68 (.bipush 9) := ⟨rfl, rfl⟩
theorem f187_68 : w_ic am_c187 68 69 .le 71 := ⟨rfl, rfl⟩
theorem f187_69 : w_fe am_c187 69 70 (.bipush (-3)) := ⟨rfl, rfl⟩
theorem f187_70 : w_fe am_c187 70 71 (.ireturn) := ⟨rfl, rfl⟩
theorem f187_71 : w_fe am_c187 71 72 (.aload 0) := ⟨rfl, rfl⟩
theorem f187_72 : w_fe am_c187 72 73 (.getfield 900) := ⟨rfl, rfl⟩
theorem f187_73 : w_fe am_c187 73 74 (.iload 4) := ⟨rfl, rfl⟩
theorem f187_74 : w_fe am_c187 74 75 (.bipush 1) := ⟨rfl, rfl⟩
theorem f187_75 : w_fe am_c187 75 76 (.iadd) := ⟨rfl, rfl⟩
theorem f187_76 : w_fe am_c187 76 77 (.dup2) := ⟨rfl, rfl⟩
theorem f187_77 : w_fe am_c187 77 78 (.iaload) := ⟨rfl, rfl⟩
theorem f187_78 : w_fe am_c187 78 79 (.iload 3) := ⟨rfl, rfl⟩
theorem f187_79 : w_fe am_c187 79 80 (.isub) := ⟨rfl, rfl⟩
theorem f187_80 : w_fe am_c187 80 81 (.iastore) := ⟨rfl, rfl⟩
theorem f187_81 : w_fe am_c187 81 82 (.aload 0) := ⟨rfl, rfl⟩
theorem f187_82 : w_fe am_c187 82 83 (.getfield 900) := ⟨rfl, rfl⟩
theorem f187_83 : w_fe am_c187 83 84 (.iload 5) := ⟨rfl, rfl⟩
theorem f187_84 : w_fe am_c187 84 85 (.bipush 1) := ⟨rfl, rfl⟩
theorem f187_85 : w_fe am_c187 85 86 (.iadd) := ⟨rfl, rfl⟩
theorem f187_86 : w_fe am_c187 86 87 (.dup2) := ⟨rfl, rfl⟩
theorem f187_87 : w_fe am_c187 87 88 (.iaload) := ⟨rfl, rfl⟩
theorem f187_88 : w_fe am_c187 88 89 (.iload 3) := ⟨rfl, rfl⟩
theorem f187_89 : w_fe am_c187 89 90 (.iadd) := ⟨rfl, rfl⟩
theorem f187_90 : w_fe am_c187 90 91 (.iastore) := ⟨rfl, rfl⟩
theorem f187_91 : w_fe am_c187 91 92 (.aload 0) := ⟨rfl, rfl⟩
theorem f187_92 : w_fe am_c187 92 93 (.getfield 900) := ⟨rfl, rfl⟩
theorem f187_93 : w_fe am_c187 93 94 (.iload 5) := ⟨rfl, rfl⟩
theorem f187_94 : w_fe am_c187 94 95 (.bipush 1) := ⟨rfl, rfl⟩
theorem f187_95 : w_fe am_c187 95 96 (.iadd) := ⟨rfl, rfl⟩
theorem f187_96 : w_fe am_c187 96 97 (.iaload) := ⟨rfl, rfl⟩
theorem f187_97 : w_fe am_c187 97 98 (.ireturn) := ⟨rfl, rfl⟩
set_option maxRecDepth 20000 in
theorem b187_0 {xs : List Int} {d : Nat} {Q : Option w_V → w_M → Prop} {x1 : Int} {x2 : Int} {x3 : Int} {σ : w_M}
    (h : p_Model_isReaper x1 σ ∧ ((¬ (0 ≤ x1 ∧ x1 < σ 122 5) → Q (some (.inl (-1))) σ) ∧ ((0 ≤ x1 ∧ x1 < σ 122 5) → (p_Model_isReaper x2 σ ∧ ((¬ (0 ≤ x2 ∧ x2 < σ 122 5) → Q (some (.inl (-1))) σ) ∧ ((0 ≤ x2 ∧ x2 < σ 122 5) → ((x1 = x2 → Q (some (.inl (-1))) σ) ∧ (¬ x1 = x2 → (((0 ≤ x3 ∧ x3 ≤ 9) → (w_in (5 * x1) ∧ w_in (21 + (5 * x1)) ∧ (∀ (y1 : Int), y1 = (21 + (5 * x1)) → (w_in (5 * x2) ∧ w_in (21 + (5 * x2)) ∧ (∀ (y2 : Int), y2 = (21 + (5 * x2)) → (w_in (y1 + 3) ∧ 0 ≤ (y1 + 3) ∧ (y1 + 3) < 246 ∧ w_in (y2 + 3) ∧ 0 ≤ (y2 + 3) ∧ (y2 + 3) < 246 ∧ w_in ((σ 123 (y1 + 3).toNat) - (σ 123 (y2 + 3).toNat)) ∧ ((¬ ((-1) ≤ ((σ 123 (y1 + 3).toNat) - (σ 123 (y2 + 3).toNat)) ∧ ((σ 123 (y1 + 3).toNat) - (σ 123 (y2 + 3).toNat)) ≤ 1) → Q (some (.inl (-2))) σ) ∧ (((-1) ≤ ((σ 123 (y1 + 3).toNat) - (σ 123 (y2 + 3).toNat)) ∧ ((σ 123 (y1 + 3).toNat) - (σ 123 (y2 + 3).toNat)) ≤ 1) → (w_in (y1 + 1) ∧ 0 ≤ (y1 + 1) ∧ (y1 + 1) < 246 ∧ ((x3 ≤ (σ 123 (y1 + 1).toNat) → (w_in (y2 + 1) ∧ 0 ≤ (y2 + 1) ∧ (y2 + 1) < 246 ∧ w_in ((σ 123 (y2 + 1).toNat) + x3) ∧ ((((σ 123 (y2 + 1).toNat) + x3) ≤ 9 → (w_in ((σ 123 (y1 + 1).toNat) - x3) ∧ (∀ (τ3 : w_M), τ3 = w_up σ 123 (y1 + 1).toNat ((σ 123 (y1 + 1).toNat) - x3) → (w_in ((τ3 123 (y2 + 1).toNat) + x3) ∧ (∀ (τ4 : w_M), τ4 = w_up τ3 123 (y2 + 1).toNat ((τ3 123 (y2 + 1).toNat) + x3) → Q (some (.inl (τ4 123 (y2 + 1).toNat))) τ4))))) ∧ (9 < ((σ 123 (y2 + 1).toNat) + x3) → Q (some (.inl (-3))) σ)))) ∧ ((σ 123 (y1 + 1).toNat) < x3 → Q (some (.inl (-2))) σ))))))))))) ∧ (¬ (0 ≤ x3 ∧ x3 ≤ 9) → Q (some (.inl (-1))) σ)))))))))) : w_Call (xs, (d + 2)) 187 [.inr (.inr (9, 122)), .inl x1, .inl x2, .inl x3] σ Q :=
  (w_mk (mid := 187) (by decide) rfl rfl rfl rfl rfl (Nat.le_of_ble_eq_true rfl) ⟨rfl, Or.inl (by decide)⟩ (wi_aload0 f187_0 (wi_iload1 f187_1 (wi_call2 f187_2 (Nat.le_of_ble_eq_true rfl) (k_Model_isReaper h.1 (wi_ifb_eq f187_3 (fun c11 => (wi_bipush f187_17 (wi_ret1 f187_18 (h.2.1 c11)))) (fun c11 => (wi_aload0 f187_4 (wi_iload2 f187_5 (wi_call2 f187_6 (Nat.le_of_ble_eq_true rfl) (k_Model_isReaper (h.2.2 c11).1 (wi_ifb_eq f187_7 (fun c10 => (wi_bipush f187_17 (wi_ret1 f187_18 ((h.2.2 c11).2.1 c10)))) (fun c10 => (wi_iload1 f187_8 (wi_iload2 f187_9 (wi_ic_eq f187_10 (fun c9 => (wi_bipush f187_17 (wi_ret1 f187_18 (((h.2.2 c11).2.2 c10).1 c9)))) (fun c9 => (wi_iload3 f187_11 (wi_i2l f187_12 (wi_sipush f187_13 (wi_sipush f187_14 (wi_call3 f187_15 (Nat.le_of_ble_eq_true rfl) (k_Model_in (wi_ifb_ne f187_16 (fun c8 => (wi_bipush f187_19 (wi_bipush f187_20 (wi_iload1 f187_21 (wi_imul f187_22 ((((h.2.2 c11).2.2 c10).2 c9).1 c8).1 (wi_iadd f187_23 ((((h.2.2 c11).2.2 c10).2 c9).1 c8).2.1 (wi_istore4 f187_24 trivial (wi_bipush f187_25 (wi_bipush f187_26 (wi_iload2 f187_27 (wi_imul f187_28 (((((h.2.2 c11).2.2 c10).2 c9).1 c8).2.2 _ rfl).1 (wi_iadd f187_29 (((((h.2.2 c11).2.2 c10).2 c9).1 c8).2.2 _ rfl).2.1 (wi_istore5 f187_30 trivial (wi_aload0 f187_31 (wi_getf900 f187_32 (wi_iload4 f187_33 (wi_bipush f187_34 (wi_iadd f187_35 ((((((h.2.2 c11).2.2 c10).2 c9).1 c8).2.2 _ rfl).2.2 _ rfl).1 (wi_iald1246 f187_36 ((((((h.2.2 c11).2.2 c10).2 c9).1 c8).2.2 _ rfl).2.2 _ rfl).2.1 ((((((h.2.2 c11).2.2 c10).2 c9).1 c8).2.2 _ rfl).2.2 _ rfl).2.2.1 (wi_aload0 f187_37 (wi_getf900 f187_38 (wi_iload5 f187_39 (wi_bipush f187_40 (wi_iadd f187_41 ((((((h.2.2 c11).2.2 c10).2 c9).1 c8).2.2 _ rfl).2.2 _ rfl).2.2.2.1 (wi_iald1246 f187_42 ((((((h.2.2 c11).2.2 c10).2 c9).1 c8).2.2 _ rfl).2.2 _ rfl).2.2.2.2.1 ((((((h.2.2 c11).2.2 c10).2 c9).1 c8).2.2 _ rfl).2.2 _ rfl).2.2.2.2.2.1 (wi_isub f187_43 ((((((h.2.2 c11).2.2 c10).2 c9).1 c8).2.2 _ rfl).2.2 _ rfl).2.2.2.2.2.2.1 (wi_i2l f187_44 (wi_sipush f187_45 (wi_sipush f187_46 (wi_call3 f187_47 (Nat.le_of_ble_eq_true rfl) (k_Model_in (wi_ifb_eq f187_48 (fun c7 => (wi_bipush f187_57 (wi_ret1 f187_58 (((((((h.2.2 c11).2.2 c10).2 c9).1 c8).2.2 _ rfl).2.2 _ rfl).2.2.2.2.2.2.2.1 c7)))) (fun c7 => (wi_aload0 f187_49 (wi_getf900 f187_50 (wi_iload4 f187_51 (wi_bipush f187_52 (wi_iadd f187_53 (((((((h.2.2 c11).2.2 c10).2 c9).1 c8).2.2 _ rfl).2.2 _ rfl).2.2.2.2.2.2.2.2 c7).1 (wi_iald1246 f187_54 (((((((h.2.2 c11).2.2 c10).2 c9).1 c8).2.2 _ rfl).2.2 _ rfl).2.2.2.2.2.2.2.2 c7).2.1 (((((((h.2.2 c11).2.2 c10).2 c9).1 c8).2.2 _ rfl).2.2 _ rfl).2.2.2.2.2.2.2.2 c7).2.2.1 (wi_iload3 f187_55 (wi_ic_ge f187_56 (fun c6 => (wi_aload0 f187_59 (wi_getf900 f187_60 (wi_iload5 f187_61 (wi_bipush f187_62 (wi_iadd f187_63 ((((((((h.2.2 c11).2.2 c10).2 c9).1 c8).2.2 _ rfl).2.2 _ rfl).2.2.2.2.2.2.2.2 c7).2.2.2.1 c6).1 (wi_iald1246 f187_64 ((((((((h.2.2 c11).2.2 c10).2 c9).1 c8).2.2 _ rfl).2.2 _ rfl).2.2.2.2.2.2.2.2 c7).2.2.2.1 c6).2.1 ((((((((h.2.2 c11).2.2 c10).2 c9).1 c8).2.2 _ rfl).2.2 _ rfl).2.2.2.2.2.2.2.2 c7).2.2.2.1 c6).2.2.1 (wi_iload3 f187_65 (wi_iadd f187_66 ((((((((h.2.2 c11).2.2 c10).2 c9).1 c8).2.2 _ rfl).2.2 _ rfl).2.2.2.2.2.2.2.2 c7).2.2.2.1 c6).2.2.2.1 (wi_bipush f187_67 (wi_ic_le f187_68 (fun c5 => (wi_aload0 f187_71 (wi_getf900 f187_72 (wi_iload4 f187_73 (wi_bipush f187_74 (wi_iadd f187_75 (((((((h.2.2 c11).2.2 c10).2 c9).1 c8).2.2 _ rfl).2.2 _ rfl).2.2.2.2.2.2.2.2 c7).1 (wi_dup2 f187_76 (wi_iald1246 f187_77 (((((((h.2.2 c11).2.2 c10).2 c9).1 c8).2.2 _ rfl).2.2 _ rfl).2.2.2.2.2.2.2.2 c7).2.1 (((((((h.2.2 c11).2.2 c10).2 c9).1 c8).2.2 _ rfl).2.2 _ rfl).2.2.2.2.2.2.2.2 c7).2.2.1 (wi_iload3 f187_78 (wi_isub f187_79 (((((((((h.2.2 c11).2.2 c10).2 c9).1 c8).2.2 _ rfl).2.2 _ rfl).2.2.2.2.2.2.2.2 c7).2.2.2.1 c6).2.2.2.2.1 c5).1 (wi_iast1246 f187_80 (((((((h.2.2 c11).2.2 c10).2 c9).1 c8).2.2 _ rfl).2.2 _ rfl).2.2.2.2.2.2.2.2 c7).2.1 (((((((h.2.2 c11).2.2 c10).2 c9).1 c8).2.2 _ rfl).2.2 _ rfl).2.2.2.2.2.2.2.2 c7).2.2.1 (wi_aload0 f187_81 (wi_getf900 f187_82 (wi_iload5 f187_83 (wi_bipush f187_84 (wi_iadd f187_85 ((((((((h.2.2 c11).2.2 c10).2 c9).1 c8).2.2 _ rfl).2.2 _ rfl).2.2.2.2.2.2.2.2 c7).2.2.2.1 c6).1 (wi_dup2 f187_86 (wi_iald1246 f187_87 ((((((((h.2.2 c11).2.2 c10).2 c9).1 c8).2.2 _ rfl).2.2 _ rfl).2.2.2.2.2.2.2.2 c7).2.2.2.1 c6).2.1 ((((((((h.2.2 c11).2.2 c10).2 c9).1 c8).2.2 _ rfl).2.2 _ rfl).2.2.2.2.2.2.2.2 c7).2.2.2.1 c6).2.2.1 (wi_iload3 f187_88 (wi_iadd f187_89 ((((((((((h.2.2 c11).2.2 c10).2 c9).1 c8).2.2 _ rfl).2.2 _ rfl).2.2.2.2.2.2.2.2 c7).2.2.2.1 c6).2.2.2.2.1 c5).2 _ rfl).1 (wi_iast1246 f187_90 ((((((((h.2.2 c11).2.2 c10).2 c9).1 c8).2.2 _ rfl).2.2 _ rfl).2.2.2.2.2.2.2.2 c7).2.2.2.1 c6).2.1 ((((((((h.2.2 c11).2.2 c10).2 c9).1 c8).2.2 _ rfl).2.2 _ rfl).2.2.2.2.2.2.2.2 c7).2.2.2.1 c6).2.2.1 (wi_aload0 f187_91 (wi_getf900 f187_92 (wi_iload5 f187_93 (wi_bipush f187_94 (wi_iadd f187_95 ((((((((h.2.2 c11).2.2 c10).2 c9).1 c8).2.2 _ rfl).2.2 _ rfl).2.2.2.2.2.2.2.2 c7).2.2.2.1 c6).1 (wi_iald1246 f187_96 ((((((((h.2.2 c11).2.2 c10).2 c9).1 c8).2.2 _ rfl).2.2 _ rfl).2.2.2.2.2.2.2.2 c7).2.2.2.1 c6).2.1 ((((((((h.2.2 c11).2.2 c10).2 c9).1 c8).2.2 _ rfl).2.2 _ rfl).2.2.2.2.2.2.2.2 c7).2.2.2.1 c6).2.2.1 (wi_ret1 f187_97 (((((((((((h.2.2 c11).2.2 c10).2 c9).1 c8).2.2 _ rfl).2.2 _ rfl).2.2.2.2.2.2.2.2 c7).2.2.2.1 c6).2.2.2.2.1 c5).2 _ rfl).2 _ rfl))))))))))))))))))))))))))))) (fun c5 => (wi_bipush f187_69 (wi_ret1 f187_70 (((((((((h.2.2 c11).2.2 c10).2 c9).1 c8).2.2 _ rfl).2.2 _ rfl).2.2.2.2.2.2.2.2 c7).2.2.2.1 c6).2.2.2.2.2 c5))))))))))))))) (fun c6 => (wi_bipush f187_57 (wi_ret1 f187_58 ((((((((h.2.2 c11).2.2 c10).2 c9).1 c8).2.2 _ rfl).2.2 _ rfl).2.2.2.2.2.2.2.2 c7).2.2.2.2 c6))))))))))))))))))))))))))))))))))))))))))))) (fun c8 => (wi_bipush f187_17 (wi_ret1 f187_18 ((((h.2.2 c11).2.2 c10).2 c9).2 c8))))))))))))))))))))))))))))
set_option maxHeartbeats 1000000 in
theorem k_Model_lend {xs : List Int} {d : Nat} {Q : Option w_V → w_M → Prop} {x1 : Int} {x2 : Int} {x3 : Int} {σ : w_M} (hp : p_Model_lend x1 x2 x3 σ) (hQ : ∀ (x : Int) (σ' : w_M), q_Model_lend x1 x2 x3 σ x σ' → Q (some (.inl x)) σ') : w_Call (xs, d + 2) 187 [.inr (.inr (9, 122)), .inl x1, .inl x2, .inl x3] σ Q := by
  have hM : MI σ := hp
  have hok := hM.ok
  have hn := hM.n
  unfold q_Model_lend at hQ
  have bad : ¬ P_lend (mS σ) x1 x2 x3 → Q (some (.inl (-1))) σ := fun h => by
    obtain ⟨e1, e2⟩ := F_lend_bad h
    rw [e1, e2] at hQ
    exact hQ _ _ (m_qr hM rfl)
  refine b187_0 ⟨hn, fun c => bad (fun q => c q.1.1), fun c => ⟨hn, fun c2 => bad (fun q => c2 q.1.2.1), fun c2 => ⟨fun c3 => bad (fun q => q.1.2.2 c3), fun c3 => ⟨fun c4 => ?_, fun c4 => bad (fun q => c4 q.2)⟩⟩⟩⟩
  have hL : P_lend (mS σ) x1 x2 x3 := ⟨⟨c, c2, c3⟩, c4⟩
  have r1 := n_WF.r hok (show x1.toNat < n_n (w_am σ 123 0) by rw [n_n_am]; omega)
  have r2 := n_WF.r hok (show x2.toNat < n_n (w_am σ 123 0) by rw [n_n_am]; omega)
  have h04 : w_am σ 123 0 0 4 = σ 122 4 := rfl
  have hs := hM.s
  have hne : x2.toNat ≠ x1.toNat := by omega
  refine ⟨⟨by omega, by omega⟩, ⟨by omega, by omega⟩, fun y1 ey1 => ⟨⟨by omega, by omega⟩, ⟨by omega, by omega⟩, fun y2 ey2 => ?_⟩⟩
  have a1 : σ 123 (y1 + 3).toNat = w_am σ 123 0 6 x1.toNat := m_rdr (by decide) (by decide) c (by show _ = 24 + 5 * x1.toNat; omega)
  have a2 : σ 123 (y2 + 3).toNat = w_am σ 123 0 6 x2.toNat := m_rdr (by decide) (by decide) c2 (by show _ = 24 + 5 * x2.toNat; omega)
  have o1 : σ 123 (y1 + 1).toNat = w_am σ 123 0 4 x1.toNat := m_rdr (by decide) (by decide) c (by show _ = 22 + 5 * x1.toNat; omega)
  have o2 : σ 123 (y2 + 1).toNat = w_am σ 123 0 4 x2.toNat := m_rdr (by decide) (by decide) c2 (by show _ = 22 + 5 * x2.toNat; omega)
  rw [a1, a2, o1, o2]
  refine ⟨⟨by omega, by omega⟩, by omega, by omega, ⟨by omega, by omega⟩, by omega, by omega, ⟨by omega, by omega⟩, fun d1 => ?_, fun d1 => ⟨⟨by omega, by omega⟩, by omega, by omega, fun d2 => ⟨⟨by omega, by omega⟩, by omega, by omega, ⟨by omega, by omega⟩, fun d3 => ⟨⟨by omega, by omega⟩, fun τ2 t2 => ?_⟩, fun d3 => ?_⟩, fun d2 => ?_⟩⟩
  · obtain ⟨e1, e2⟩ := F_lend_state hL (fun q => d1 q.1)
    rw [e1, e2] at hQ
    exact hQ _ _ (m_qr hM rfl)
  · have hN : P_near (mS σ) x1 x2 x3 := ⟨d1, d2⟩
    obtain ⟨e1, e2⟩ := F_lend_ok hL hN d3
    rw [e1, e2] at hQ
    have v2 : τ2 123 (y2 + 1).toNat = w_am σ 123 0 4 x2.toNat := by rw [t2, w_up_j (by omega)]; exact o2
    rw [v2]
    refine ⟨⟨by omega, by omega⟩, fun τ3 t3 => hQ _ _ ?_⟩
    have F2 : w_f1 σ τ2 123 := by rw [t2]; exact w_f1.up0
    have z2 : τ2 122 = σ 122 := F2 122 (by decide)
    have m2 : m_sm τ2 := by unfold m_sm; rw [z2]; exact hM.sm
    have A2 : w_am τ2 123 0 = w_up (w_am σ 123 0) 4 x1.toNat (w_am σ 123 0 4 x1.toNat - x3) := by
      rw [t2]
      exact w_am_up hM.sm (by decide) (by rw [m_rl37 (by decide) (by decide)]; omega) (by show _ = 0 + (22 + 5 * x1.toNat); omega)
    have A3 : w_am τ3 123 0 = w_up (w_am τ2 123 0) 4 x2.toNat (w_am σ 123 0 4 x2.toNat + x3) := by
      rw [t3]
      exact w_am_up m2 (by decide) (by rw [m_rl37 (by decide) (by decide), z2]; omega) (by show _ = 0 + (22 + 5 * x2.toNat); omega)
    refine m_q0 hM (by rw [t3]; exact F2.up) (fun x hx => by rw [t3, w_up_j (by omega), t2, w_up_j (by omega)]) (by rw [A3, A2]; rfl) (n_WF_lend hok (by rw [n_n_am]; omega) (by rw [n_n_am]; omega) c4.1 d2 d3) ?_ ?_ ?_ ?_
    · show w_up (w_up (w_am σ 123 0) 4 _ _) 4 _ _ 0 0 = σ 122 3; rw [w_up_ne (by decide), w_up_ne (by decide)]; rfl
    · show w_up (w_up (w_am σ 123 0) 4 _ _) 4 _ _ 0 4 = σ 122 4; rw [w_up_ne (by decide), w_up_ne (by decide)]; rfl
    · show w_up (w_up (w_am σ 123 0) 4 _ _) 4 _ _ 0 5 = σ 122 5; rw [w_up_ne (by decide), w_up_ne (by decide)]; rfl
    · rw [t3, w_up_at]; rfl
  · obtain ⟨e1, e2⟩ := F_lend_full hL ⟨d1, d2⟩ (fun q => by have q' : w_am σ 123 0 4 x2.toNat + x3 ≤ 9 := q; omega)
    rw [e1, e2] at hQ
    exact hQ _ _ (m_qr hM rfl)
  · obtain ⟨e1, e2⟩ := F_lend_state hL (fun q => by have q' : x3 ≤ w_am σ 123 0 4 x1.toNat := q.2; omega)
    rw [e1, e2] at hQ
    exact hQ _ _ (m_qr hM rfl)
def p_Model_cloud (_x1 : Int) (x2 : Int) (σ : w_M) : Prop := MI σ ∧ (x2 = 0 ∨ x2 = 1)
def q_Model_cloud (x1 : Int) (x2 : Int) (σ : w_M) (x : Int) (σ' : w_M) : Prop := m_q (F_cloud (mS σ) x1 x2) (G_cloud (mS σ) x1 x2) σ x σ'
theorem f190_0 : w_fe am_c190 0 1 (.iload 1) := ⟨rfl, rfl⟩
theorem f190_1 : w_fe am_c190 1 2 (.i2l) := ⟨rfl, rfl⟩
theorem f190_2 : w_fe am_c190 2 3 (.sipush 0) := ⟨rfl, rfl⟩
theorem f190_3 : w_fe am_c190 3 4 (.aload 0) := ⟨rfl, rfl⟩
theorem f190_4 : w_fe am_c190 4 5 (.getfield 903) := ⟨rfl, rfl⟩
theorem f190_5 : w_fe am_c190 5 6 (.bipush 1) := ⟨rfl, rfl⟩
theorem f190_6 : w_fe am_c190 6 7 (.isub) := ⟨rfl, rfl⟩
theorem f190_7 : w_fe am_c190 7 8 (.i2l) := ⟨rfl, rfl⟩
theorem f190_8 : w_fe am_c190 8 9 (.invokestatic 158) := ⟨rfl, rfl⟩
theorem f190_9 : w_if am_c190 9 10 .ne 12 := ⟨rfl, rfl⟩
theorem f190_10 : w_fe am_c190 10 11 (.bipush (-1)) := ⟨rfl, rfl⟩
theorem f190_11 : w_fe am_c190 11 12 (.ireturn) := ⟨rfl, rfl⟩
theorem f190_12 : w_fe am_c190 12 13 (.aload 0) := ⟨rfl, rfl⟩
theorem f190_13 : w_fe am_c190 13 14 (.getfield 900) := ⟨rfl, rfl⟩
theorem f190_14 : w_fe am_c190 14 15 (.bipush 41) := ⟨rfl, rfl⟩
theorem f190_15 : w_fe am_c190 15 16 (.iaload) := ⟨rfl, rfl⟩
theorem f190_16 : w_fe am_c190 16 17 (.iload 1) := ⟨rfl, rfl⟩
theorem f190_17 : w_fe am_c190 17 18 (.ishr) := ⟨rfl, rfl⟩
theorem f190_18 : w_fe am_c190 18 19 (.bipush 1) := ⟨rfl, rfl⟩
theorem f190_19 : w_fe am_c190 19 20 (.iand) := ⟨rfl, rfl⟩
theorem f190_20 : w_fe am_c190 20 21 (.istore 3) := ⟨rfl, rfl⟩
theorem f190_21 : w_fe am_c190 21 22 (.aload 0) := ⟨rfl, rfl⟩
theorem f190_22 : w_fe am_c190 22 23 (.getfield 900) := ⟨rfl, rfl⟩
theorem f190_23 : w_fe am_c190 23 24 (.bipush 41) := ⟨rfl, rfl⟩
theorem f190_24 : w_fe am_c190 24 25 (.iload 2) := ⟨rfl, rfl⟩
theorem f190_25 : w_if am_c190 25 26 .eq 35 := ⟨rfl, rfl⟩
theorem f190_26 : w_fe am_c190 26 27 (.aload 0) := ⟨rfl, rfl⟩
theorem f190_27 : w_fe am_c190 27 28 (.getfield 900) := ⟨rfl, rfl⟩
theorem f190_28 : w_fe am_c190 28 29 (.bipush 41) := ⟨rfl, rfl⟩
theorem f190_29 : w_fe am_c190 29 30 (.iaload) := ⟨rfl, rfl⟩
theorem f190_30 : w_fe am_c190 30 31 (.bipush 1) := ⟨rfl, rfl⟩
theorem f190_31 : w_fe am_c190 31 32 (.iload 1) := ⟨rfl, rfl⟩
theorem f190_32 : w_fe am_c190 32 33 (.ishl) := ⟨rfl, rfl⟩
theorem f190_33 : w_fe am_c190 33 34 (.ior) := ⟨rfl, rfl⟩
theorem f190_34 : w_gt am_c190 34 45 := rfl
theorem f190_35 : w_fe am_c190 35 36 (.aload 0) := ⟨rfl, rfl⟩
theorem f190_36 : w_fe am_c190 36 37 (.getfield 900) := ⟨rfl, rfl⟩
theorem f190_37 : w_fe am_c190 37 38 (.bipush 41) := ⟨rfl, rfl⟩
theorem f190_38 : w_fe am_c190 38 39 (.iaload) := ⟨rfl, rfl⟩
theorem f190_39 : w_fe am_c190 39 40 (.bipush 1) := ⟨rfl, rfl⟩
theorem f190_40 : w_fe am_c190 40 41 (.iload 1) := ⟨rfl, rfl⟩
theorem f190_41 : w_fe am_c190 41 42 (.ishl) := ⟨rfl, rfl⟩
theorem f190_42 : w_fe am_c190 42 43 (.bipush (-1)) := ⟨rfl, rfl⟩
theorem f190_43 : w_fe am_c190 43 44 (.ixor) := ⟨rfl, rfl⟩
theorem f190_44 : w_fe am_c190 44 45 (.iand) := ⟨rfl, rfl⟩
theorem f190_45 : w_fe am_c190 45 46 (.iastore) := ⟨rfl, rfl⟩
theorem f190_46 : w_fe am_c190 46 47 (.iload 3) := ⟨rfl, rfl⟩
theorem f190_47 : w_fe am_c190 47 48 (.ireturn) := ⟨rfl, rfl⟩
set_option maxRecDepth 20000 in
theorem b190_0 {xs : List Int} {d : Nat} {Q : Option w_V → w_M → Prop} {x1 : Int} {x2 : Int} {σ : w_M}
    (h : w_in ((σ 122 3) - 1) ∧ (((0 ≤ x1 ∧ x1 ≤ ((σ 122 3) - 1)) → ∀ (y1 : Int), y1 = (w_and (w_shr (σ 123 41) x1) 1) → ((x2 = 0 → ∀ (τ2 : w_M), τ2 = w_up σ 123 41 (w_and (σ 123 41) (w_xor (w_shl 1 x1) (-1))) → Q (some (.inl y1)) τ2) ∧ (¬ x2 = 0 → ∀ (τ3 : w_M), τ3 = w_up σ 123 41 (w_or (σ 123 41) (w_shl 1 x1)) → Q (some (.inl y1)) τ3))) ∧ (¬ (0 ≤ x1 ∧ x1 ≤ ((σ 122 3) - 1)) → Q (some (.inl (-1))) σ))) : w_Call (xs, (d + 1)) 190 [.inr (.inr (9, 122)), .inl x1, .inl x2] σ Q :=
  (w_mk (mid := 190) (by decide) rfl rfl rfl rfl rfl (Nat.le_of_ble_eq_true rfl) ⟨rfl, Or.inl (by decide)⟩ (wi_iload1 f190_0 (wi_i2l f190_1 (wi_sipush f190_2 (wi_aload0 f190_3 (wi_getf903 f190_4 (wi_bipush f190_5 (wi_isub f190_6 h.1 (wi_i2l f190_7 (wi_call3 f190_8 (Nat.le_of_ble_eq_true rfl) (k_Model_in (wi_ifb_ne f190_9 (fun c5 => (wi_aload0 f190_12 (wi_getf900 f190_13 (wi_bipush f190_14 (wi_iald1246 f190_15 (by decide) (by decide) (wi_iload1 f190_16 (wi_ishr f190_17 (wi_bipush f190_18 (wi_iand f190_19 (wi_istore3 f190_20 trivial (wi_aload0 f190_21 (wi_getf900 f190_22 (wi_bipush f190_23 (wi_iload2 f190_24 (wi_if_eq f190_25 (fun c4 => (wi_aload0 f190_35 (wi_getf900 f190_36 (wi_bipush f190_37 (wi_iald1246 f190_38 (by decide) (by decide) (wi_bipush f190_39 (wi_iload1 f190_40 (wi_ishl f190_41 (wi_bipush f190_42 (wi_ixor f190_43 (wi_iand f190_44 (wi_iast1246 f190_45 (by decide) (by decide) (wi_iload3 f190_46 (wi_ret1 f190_47 ((((h.2.1 c5) _ rfl).1 c4) _ rfl))))))))))))))) (fun c4 => (wi_aload0 f190_26 (wi_getf900 f190_27 (wi_bipush f190_28 (wi_iald1246 f190_29 (by decide) (by decide) (wi_bipush f190_30 (wi_iload1 f190_31 (wi_ishl f190_32 (wi_ior f190_33 (wi_goto f190_34 (wi_iast1246 f190_45 (by decide) (by decide) (wi_iload3 f190_46 (wi_ret1 f190_47 ((((h.2.1 c5) _ rfl).2 c4) _ rfl))))))))))))))))))))))))))))) (fun c5 => (wi_bipush f190_10 (wi_ret1 f190_11 (h.2.2 c5))))))))))))))))
theorem k_Model_cloud {xs : List Int} {d : Nat} {Q : Option w_V → w_M → Prop} {x1 : Int} {x2 : Int} {σ : w_M} (hp : p_Model_cloud x1 x2 σ) (hQ : ∀ (x : Int) (σ' : w_M), q_Model_cloud x1 x2 σ x σ' → Q (some (.inl x)) σ') : w_Call (xs, d + 1) 190 [.inr (.inr (9, 122)), .inl x1, .inl x2] σ Q := by
  obtain ⟨hM, hb⟩ := hp
  have hok := hM.ok
  have hrs := m_ok.hrs hok
  have hcl : 0 ≤ σ 123 41 ∧ σ 123 41 ≤ 4095 := hok.2.2.1
  unfold q_Model_cloud F_cloud G_cloud at hQ
  have e0 : mS σ 0 0 0 = σ 122 3 := rfl
  have e2 : mS σ 0 0 2 = σ 123 41 := rfl
  have ec : n_cl (mS σ 0) x1 = w_and (w_shr (σ 123 41) x1) 1 := rfl
  rw [e0, e2, ec] at hQ
  have main : 0 ≤ x1 ∧ x1 < σ 122 3 → ∀ (x : Int), x = w_and (w_shr (σ 123 41) x1) 1 → ∀ y : Int, y = v_Moon_withBit (σ 123 41) x1 x2 → ∀ τ : w_M, τ = w_up σ 123 41 y → Q (some (.inl x)) τ := by
    intro c x ex y ey τ t
    have hb2 := w_cl_bits (is := x2) hcl (show 0 ≤ x1 ∧ x1 < 12 by omega)
    rw [if_pos c, if_pos c] at hQ
    refine hQ _ _ (m_q0 hM (by rw [t]; exact w_f1.up0) (fun z hz => by rw [t, w_up_j (by omega)]) (by rw [t, ey]; exact w_am_up0 hM.sm (by decide) (Or.inr (Or.inl ⟨rfl, rfl⟩))) ?_ ?_ ?_ ?_ ex)
    · refine n_WF_up hok ?_ ?_ ?_ ?_ ?_ ?_ ?_ ?_ <;> (intros; omega)
    · show w_up (w_am σ 123 0) 0 2 _ 0 0 = σ 122 3; rw [w_up_j (by decide)]; rfl
    · show w_up (w_am σ 123 0) 0 2 _ 0 4 = σ 122 4; rw [w_up_j (by decide)]; rfl
    · show w_up (w_am σ 123 0) 0 2 _ 0 5 = σ 122 5; rw [w_up_j (by decide)]; rfl
  refine b190_0 ⟨⟨by omega, by omega⟩, fun c => fun y ey => ⟨fun z τ t => ?_, fun z τ t => ?_⟩, fun c => ?_⟩
  · exact main (by omega) y ey _ (by unfold v_Moon_withBit; rw [if_pos z]) τ t
  · exact main (by omega) y ey _ (by unfold v_Moon_withBit; rw [if_neg z]) τ t
  · rw [if_neg (by omega), if_neg (by omega)] at hQ
    exact hQ _ _ (m_qr hM rfl)
theorem w_am_cp {σ τ : w_M} {c c' : Nat} (hsm : m_sm σ) (h122 : τ 122 = σ 122) (h : ∀ x, x < 48 → τ c x = σ c' x) : w_am τ c 0 = w_am σ c' 0 := by
  have hr : ∀ k, m_rl τ k = m_rl σ k := fun k => by unfold m_rl; rw [h122]
  funext k j
  unfold w_am
  rw [h122, hr, h (0 + 42) (by decide), h (0 + 41) (by decide), h (0 + 47) (by decide)]
  by_cases hj : j < m_rl σ k
  · obtain ⟨k10, j7, jL⟩ := m_rl_d hsm hj
    have := (m_ix_sc k k10 j j7 jL).2.2.2
    rw [if_pos hj, if_pos hj, h _ (by omega)]
  · rw [if_neg hj, if_neg hj]
def p_Model_go (_x1 : Int) (σ : w_M) : Prop := MI σ
def q_Model_go (x1 : Int) (σ : w_M) (x : Int) (σ' : w_M) : Prop := m_q (F_go (mS σ) x1) (G_go (mS σ) x1) σ x σ'
theorem f194_0 : w_fe am_c194 0 1 (.iload 1) := ⟨rfl, rfl⟩
theorem f194_1 : w_fe am_c194 1 2 (.i2l) := ⟨rfl, rfl⟩
theorem f194_2 : w_fe am_c194 2 3 (.sipush 0) := ⟨rfl, rfl⟩
theorem f194_3 : w_fe am_c194 3 4 (.sipush 12) := ⟨rfl, rfl⟩
theorem f194_4 : w_fe am_c194 4 5 (.invokestatic 158) := ⟨rfl, rfl⟩
theorem f194_5 : w_if am_c194 5 6 .ne 8 := ⟨rfl, rfl⟩
theorem f194_6 : w_fe am_c194 6 7 (.bipush (-1)) := ⟨rfl, rfl⟩
theorem f194_7 : w_fe am_c194 7 8 (.ireturn) := ⟨rfl, rfl⟩
theorem f194_8 : w_fe am_c194 8 9 (.aload 0) := ⟨rfl, rfl⟩
theorem f194_9 : w_fe am_c194 9 10 (.getfield 900) := ⟨rfl, rfl⟩
theorem f194_10 : w_fe am_c194 10 11 (.bipush 42) := ⟨rfl, rfl⟩
theorem f194_11 : w_fe am_c194 11 12 (.iaload) := ⟨rfl, rfl⟩
theorem f194_12 : w_fe am_c194 12 13 (.iload 1) := ⟨rfl, rfl⟩
theorem f194_13 : w_fe am_c194 13 14 (.iadd) := ⟨rfl, rfl⟩
theorem f194_14 : w_fe am_c194 14 15 (.aload 0) := ⟨rfl, rfl⟩
theorem f194_15 : w_fe am_c194 15 16 (.getfield 903) := ⟨rfl, rfl⟩
theorem f194_16 : w_ic am_c194 16 17 .le 19 := ⟨rfl, rfl⟩
theorem f194_17 : w_fe am_c194 17 18 (.bipush (-3)) := ⟨rfl, rfl⟩
theorem f194_18 : w_fe am_c194 18 19 (.ireturn) := ⟨rfl, rfl⟩
theorem f194_19 : w_fe am_c194 19 20 (.aload 0) := ⟨rfl, rfl⟩
theorem f194_20 : w_fe am_c194 20 21 (.invokestatic 175) := ⟨rfl, rfl⟩
theorem f194_21 : w_fe am_c194 21 22 (.aload 0) := ⟨rfl, rfl⟩
theorem f194_22 : w_fe am_c194 22 23 (.invokestatic 176) := ⟨rfl, rfl⟩
theorem f194_23 : w_fe am_c194 23 24 (.istore 2) := ⟨rfl, rfl⟩
theorem f194_24 : w_fe am_c194 24 25 (.aload 0) := ⟨rfl, rfl⟩
theorem f194_25 : w_fe am_c194 25 26 (.iload 1) := ⟨rfl, rfl⟩
theorem f194_26 : w_fe am_c194 26 27 (.invokestatic 195) := ⟨rfl, rfl⟩
theorem f194_27 : w_fe am_c194 27 28 (.bipush 0) := ⟨rfl, rfl⟩
theorem f194_28 : w_fe am_c194 28 29 (.istore 3) := ⟨rfl, rfl⟩
theorem f194_29 : w_fe am_c194 29 30 (.iload 3) := ⟨rfl, rfl⟩
theorem f194_30 : w_fe am_c194 30 31 (.bipush 82) := ⟨rfl, rfl⟩
theorem f194_31 : w_ic am_c194 31 32 .ge 42 := ⟨rfl, rfl⟩
theorem f194_32 : w_fe am_c194 32 33 (.aload 0) := ⟨rfl, rfl⟩
theorem f194_33 : w_fe am_c194 33 34 (.getfield 900) := ⟨rfl, rfl⟩
theorem f194_34 : w_fe am_c194 34 35 (.iload 3) := ⟨rfl, rfl⟩
theorem f194_35 : w_fe am_c194 35 36 (.aload 0) := ⟨rfl, rfl⟩
theorem f194_36 : w_fe am_c194 36 37 (.getfield 901) := ⟨rfl, rfl⟩
theorem f194_37 : w_fe am_c194 37 38 (.iload 3) := ⟨rfl, rfl⟩
theorem f194_38 : w_fe am_c194 38 39 (.iaload) := ⟨rfl, rfl⟩
theorem f194_39 : w_fe am_c194 39 40 (.iastore) := ⟨rfl, rfl⟩
theorem f194_40 : w_fe am_c194 40 41 (.iinc 3 1) := ⟨rfl, rfl⟩
theorem f194_41 : w_gt am_c194 41 29 := rfl
theorem f194_42 : w_fe am_c194 42 43 (.iload 2) := ⟨rfl, rfl⟩
theorem f194_43 : w_fe am_c194 43 44 (.aload 0) := ⟨rfl, rfl⟩
theorem f194_44 : w_fe am_c194 44 45 (.invokestatic 176) := ⟨rfl, rfl⟩
theorem f194_45 : w_fe am_c194 45 46 (.isub) := ⟨rfl, rfl⟩
theorem f194_46 : w_fe am_c194 46 47 (.ireturn) := ⟨rfl, rfl⟩
def L194_29 (xs : List Int) (d : Nat) (Q : Option w_V → w_M → Prop) (v2 : Int) (v3 : Int) (σ : w_M) : Prop := ∀ l1, w_nl l1 → w_Ex (xs, d) 1 am_c194 Q 29 [some (.inr (.inr (9, 122))), l1, some (.inl v2), some (.inl v3)] [] σ
set_option maxRecDepth 20000 in
theorem b194_0 {xs : List Int} {d : Nat} {Q : Option w_V → w_M → Prop} {x1 : Int} {σ : w_M}
    (h : ((0 ≤ x1 ∧ x1 ≤ 12) → (w_in ((σ 123 42) + x1) ∧ ((((σ 123 42) + x1) ≤ (σ 122 3) → (p_Model_starts σ ∧ (∀ (τ1 : w_M), q_Model_starts σ τ1 → (p_Model_standing τ1 ∧ (∀ (y2 : Int), y2 = v_Model_standing τ1 → (p_Model_goesTo x1 τ1 ∧ (∀ (τ3 : w_M), q_Model_goesTo x1 τ1 τ3 → L194_29 xs (d + 6) Q y2 0 τ3))))))) ∧ ((σ 122 3) < ((σ 123 42) + x1) → Q (some (.inl (-3))) σ)))) ∧ (¬ (0 ≤ x1 ∧ x1 ≤ 12) → Q (some (.inl (-1))) σ)) : w_Call (xs, (d + 6)) 194 [.inr (.inr (9, 122)), .inl x1] σ Q :=
  (w_mk (mid := 194) (by decide) rfl rfl rfl rfl rfl (Nat.le_of_ble_eq_true rfl) ⟨rfl, Or.inl (by decide)⟩ (wi_iload1 f194_0 (wi_i2l f194_1 (wi_sipush f194_2 (wi_sipush f194_3 (wi_call3 f194_4 (Nat.le_of_ble_eq_true rfl) (k_Model_in (wi_ifb_ne f194_5 (fun c5 => (wi_aload0 f194_8 (wi_getf900 f194_9 (wi_bipush f194_10 (wi_iald1246 f194_11 (by decide) (by decide) (wi_iload1 f194_12 (wi_iadd f194_13 (h.1 c5).1 (wi_aload0 f194_14 (wi_getf903 f194_15 (wi_ic_le f194_16 (fun c4 => (wi_aload0 f194_19 (wi_call1 f194_20 (Nat.le_of_ble_eq_true rfl) (k_Model_starts ((h.1 c5).2.1 c4).1 (fun τ1 eτ1 => (wi_aload0 f194_21 (wi_call1 f194_22 (Nat.le_of_ble_eq_true rfl) (k_Model_standing (((h.1 c5).2.1 c4).2 τ1 eτ1).1 (wi_istore2 f194_23 trivial (wi_aload0 f194_24 (wi_iload1 f194_25 (wi_call2 f194_26 (Nat.le_of_ble_eq_true rfl) (k_Model_goesTo ((((h.1 c5).2.1 c4).2 τ1 eτ1).2 _ rfl).1 (fun τ3 eτ3 => (wi_bipush f194_27 (wi_istore3 f194_28 trivial ((((((h.1 c5).2.1 c4).2 τ1 eτ1).2 _ rfl).2 τ3 eτ3) _ (by exact trivial)))))))))))))))))) (fun c4 => (wi_bipush f194_17 (wi_ret1 f194_18 ((h.1 c5).2.2 c4)))))))))))))) (fun c5 => (wi_bipush f194_6 (wi_ret1 f194_7 (h.2 c5))))))))))))
set_option maxRecDepth 20000 in
theorem b194_29 {xs : List Int} {d : Nat} {Q : Option w_V → w_M → Prop} {v2 : Int} {v3 : Int} {σ : w_M}
    (h : (82 ≤ v3 → (p_Model_standing σ ∧ (∀ (y1 : Int), y1 = v_Model_standing σ → (w_in (v2 - y1) ∧ Q (some (.inl (v2 - y1))) σ)))) ∧ (v3 < 82 → (0 ≤ v3 ∧ v3 < 246 ∧ (∀ (τ2 : w_M), τ2 = w_up σ 123 v3.toNat (σ 124 v3.toNat) → (w_in (v3 + 1) ∧ L194_29 xs (d + 6) Q v2 (v3 + 1) τ2))))) : L194_29 xs (d + 6) Q v2 v3 σ :=
  fun l1 nl1 => (wi_iload3 f194_29 (wi_bipush f194_30 (wi_ic_ge f194_31 (fun c3 => (wi_iload2 f194_42 (wi_aload0 f194_43 (wi_call1 f194_44 (Nat.le_of_ble_eq_true rfl) (k_Model_standing (h.1 c3).1 (wi_isub f194_45 ((h.1 c3).2 _ rfl).1 (wi_ret1 f194_46 ((h.1 c3).2 _ rfl).2))))))) (fun c3 => (wi_aload0 f194_32 (wi_getf900 f194_33 (wi_iload3 f194_34 (wi_aload0 f194_35 (wi_getf901 f194_36 (wi_iload3 f194_37 (wi_iald1082 f194_38 (h.2 c3).1 c3 (wi_iast1246 f194_39 (h.2 c3).1 (h.2 c3).2.1 (wi_iinc3 f194_40 trivial ((h.2 c3).2.2 _ rfl).1 (wi_goto f194_41 (((h.2 c3).2.2 _ rfl).2 _ nl1)))))))))))))))
theorem k_Model_go {xs : List Int} {d : Nat} {Q : Option w_V → w_M → Prop} {x1 : Int} {σ : w_M} (hp : p_Model_go x1 σ) (hQ : ∀ (x : Int) (σ' : w_M), q_Model_go x1 σ x σ' → Q (some (.inl x)) σ') : w_Call (xs, d + 6) 194 [.inr (.inr (9, 122)), .inl x1] σ Q := by
  have hM : MI σ := hp
  have hok := hM.ok
  have hrs := m_ok.hrs hok
  have hr : 0 ≤ σ 123 42 ∧ σ 123 42 ≤ σ 122 3 := m_ok.hr hok
  unfold q_Model_go F_go G_go at hQ
  have e0 : mS σ 0 0 0 = σ 122 3 := rfl
  have e1 : mS σ 0 0 1 = σ 123 42 := rfl
  have eA : mS σ 0 = w_am σ 123 0 := rfl
  rw [e0, e1, eA] at hQ
  refine b194_0 ⟨fun c => ⟨⟨by omega, by omega⟩, fun c2 => ⟨hM.sm, fun τ1 hq1 => ?_⟩, fun c2 => ?_⟩, fun c => ?_⟩
  · have c3 : x1 ≤ σ 122 3 - σ 123 42 := by omega
    rw [if_pos c, if_pos c3, if_pos ⟨c, c3⟩] at hQ
    obtain ⟨q1, q2, q3⟩ := hq1
    have W1 : m_ok τ1 124 0 := by unfold m_ok; rw [q1]; exact hok
    refine ⟨W1, fun y2 e2 => ⟨⟨W1, c⟩, fun τ3 hq3 => ?_⟩⟩
    obtain ⟨p1, p2⟩ := hq3
    rw [q1] at p1
    have G := n_goes_all hok x1.toNat
    have W3 : m_ok τ3 124 0 := by unfold m_ok; rw [p1]; exact G.1
    have b1 := n_sd_le hok
    have b3 := n_sd_le G.1
    unfold v_Model_standing at e2
    rw [q1] at e2
    have z3 : ∀ b, b ≠ 124 → τ3 b = σ b := fun b hb => by rw [p2.1 b hb, q2 b hb]
    have h48 : ∀ x, 48 ≤ x → x < 82 → τ3 124 x = σ 123 x := fun x h1 h2 => by rw [p2.2 x h1, q3 x h2]
    refine (w_loop (n := 82) (P := fun k => ∀ τ : w_M, (∀ b, b ≠ 123 → τ b = τ3 b) → (∀ x, x < k → τ 123 x = τ3 124 x) → (∀ x, k ≤ x → τ 123 x = σ 123 x) → L194_29 xs (d + 6) Q y2 (k : Int) τ) ?_ ?_) τ3 (fun b hb => rfl) (fun x hx => by omega) (fun x hx => by rw [z3 123 (by decide)])
    · intro τ F h1 h2
      have A4 : w_am τ 124 0 = w_am τ3 124 0 := w_am_fr (by rw [F 122 (by decide)]; exact ⟨rfl, rfl, rfl⟩) (F 124 (by decide))
      have A5 : w_am τ 123 0 = w_am τ3 124 0 := w_am_cp W3.sm (F 122 (by decide)) (fun x hx => h1 x (by omega))
      refine b194_29 ⟨fun _ => ⟨by show n_WF _; rw [A4]; exact W3, fun y ey => ?_⟩, fun h => by omega⟩
      unfold v_Model_standing at ey
      rw [A4, p1] at ey
      refine ⟨⟨by omega, by omega⟩, hQ _ _ ?_⟩
      obtain ⟨g0, g4, g5⟩ := n_goes_hd hok x1.toNat
      have hMS : mS τ = w_sp (mS σ) 0 (n_goes (w_am σ 123 0) x1.toNat) := by
        have hz : ∀ b, b ≠ 123 → b ≠ 124 → τ b = σ b := fun b h1 h2 => by rw [F b h1, z3 b h2]
        have hx : ∀ x, 48 ≤ x → τ 123 x = σ 123 x := fun x hx => by
          by_cases h82 : x < 82
          · rw [h1 x h82, h48 x hx h82]
          · exact h2 x (by omega)
        have e122 : τ 122 3 = σ 122 3 ∧ τ 122 4 = σ 122 4 ∧ τ 122 5 = σ 122 5 := by rw [hz 122 (by decide) (by decide)]; exact ⟨rfl, rfl, rfl⟩
        exact cS_ext (by show w_am τ 123 0 = _; rw [A5, p1]; rfl) (s_am_fr (fun x h1 h2 => hx x (by omega)) hM.se.2) (c_am_fr (fun x h1 h2 => hx x (by omega)) hM.pa.2) (t_am_fr (by rw [hz 122 (by decide) (by decide)]) (by rw [hz 122 (by decide) (by decide)]) (hz 127 (by decide) (by decide))) (h_am_fr (fun b h1 h2 => hz b (by omega) (by omega))) (fun p hp => by rw [w_sp_ne (by omega)]; exact mS_im hM e122 (hz 125 (by decide) (by decide)) (fun x hx2 => hx x (by omega)) p hp)
      refine ⟨by omega, ?_, hMS, fun b hb => by rw [F b (by omega), z3 b (by omega)], by rw [F 122 (by decide), z3 122 (by decide)]⟩
      unfold MI
      rw [hMS]
      exact sWF_0 hM G.1 g0 g4 g5
    · intro k hk ih τ F h1 h2
      refine b194_29 ⟨fun h => by omega, fun h => ⟨by omega, by omega, fun τ2 t2 => ⟨⟨by omega, by omega⟩, ?_⟩⟩⟩
      rw [← w_cs1]
      rw [Int.toNat_natCast, F 124 (by decide)] at t2
      refine ih τ2 (fun b hb => by rw [t2, w_up_ne hb]; exact F b hb) (fun x hx => ?_) (fun x hx => by rw [t2, w_up_j (by omega)]; exact h2 x (by omega))
      rw [t2, w_up_eq]
      by_cases hxk : x = k
      · rw [if_pos ⟨rfl, hxk⟩, hxk]
      · rw [if_neg (fun e => hxk e.2)]
        exact h1 x (by omega)
  · rw [if_pos c, if_neg (by omega), if_neg (by omega)] at hQ
    exact hQ _ _ (m_qr hM rfl)
  · rw [if_neg c, if_neg (fun q => c q.1)] at hQ
    exact hQ _ _ (m_qr hM rfl)
def p_Model_ahead (_x1 : Int) (_x2 : Int) (_x3 : Int) (σ : w_M) : Prop := MI σ
def q_Model_ahead (x1 : Int) (x2 : Int) (x3 : Int) (σ : w_M) (x : Int) (σ' : w_M) : Prop := m_q (F_ahead (mS σ) x1 x2 x3) (mS σ) σ x σ'
def p_Model_stands (_x1 : Int) (_x2 : Int) (σ : w_M) : Prop := MI σ
def q_Model_stands (x1 : Int) (x2 : Int) (σ : w_M) (x : Int) (σ' : w_M) : Prop := m_q (F_stands (mS σ) x1 x2) (mS σ) σ x σ'
def p_Model_done (_x1 : Int) (σ : w_M) : Prop := MI σ
def q_Model_done (x1 : Int) (σ : w_M) (x : Int) (σ' : w_M) : Prop := m_q (F_done (mS σ) x1) (mS σ) σ x σ'
def p_Model_left  (σ : w_M) : Prop := MI σ
def q_Model_left  (σ : w_M) (x : Int) (σ' : w_M) : Prop := m_q (F_left (mS σ)) (mS σ) σ x σ'
theorem f202_0 : w_fe am_c202 0 1 (.aload 0) := ⟨rfl, rfl⟩
theorem f202_1 : w_fe am_c202 1 2 (.iload 1) := ⟨rfl, rfl⟩
theorem f202_2 : w_fe am_c202 2 3 (.invokestatic 182) := ⟨rfl, rfl⟩
theorem f202_3 : w_if am_c202 3 4 .eq 16 := ⟨rfl, rfl⟩
theorem f202_4 : w_fe am_c202 4 5 (.iload 2) := ⟨rfl, rfl⟩
theorem f202_5 : w_fe am_c202 5 6 (.i2l) := ⟨rfl, rfl⟩
theorem f202_6 : w_fe am_c202 6 7 (.sipush 0) := ⟨rfl, rfl⟩
theorem f202_7 : w_fe am_c202 7 8 (.sipush 12) := ⟨rfl, rfl⟩
theorem f202_8 : w_fe am_c202 8 9 (.invokestatic 158) := ⟨rfl, rfl⟩
theorem f202_9 : w_if am_c202 9 10 .eq 16 := ⟨rfl, rfl⟩
theorem f202_10 : w_fe am_c202 10 11 (.iload 3) := ⟨rfl, rfl⟩
theorem f202_11 : w_fe am_c202 11 12 (.i2l) := ⟨rfl, rfl⟩
theorem f202_12 : w_fe am_c202 12 13 (.sipush 0) := ⟨rfl, rfl⟩
theorem f202_13 : w_fe am_c202 13 14 (.sipush 4) := ⟨rfl, rfl⟩
theorem f202_14 : w_fe am_c202 14 15 (.invokestatic 158) := ⟨rfl, rfl⟩
theorem f202_15 : w_if am_c202 15 16 .ne 18 := ⟨rfl, rfl⟩
theorem f202_16 : w_fe am_c202 16 17 (.bipush (-1)) := ⟨rfl, rfl⟩
theorem f202_17 : w_fe am_c202 17 18 (.ireturn) := ⟨rfl, rfl⟩
theorem f202_18 : w_fe am_c202 18 19 (.aload 0) := ⟨rfl, rfl⟩
theorem f202_19 : w_fe am_c202 19 20 (.invokestatic 175) := ⟨rfl, rfl⟩
theorem f202_20 : w_fe am_c202 20 21 (.aload 0) := ⟨rfl, rfl⟩
theorem f202_21 : w_fe am_c202 21 22 (.iload 2) := ⟨rfl, rfl⟩
theorem f202_22 : w_fe am_c202 22 23 (.invokestatic 195) := ⟨rfl, rfl⟩
theorem f202_23 : w_fe am_c202 23 24 (.aload 0) := ⟨rfl, rfl⟩
theorem f202_24 : w_fe am_c202 24 25 (.iload 1) := ⟨rfl, rfl⟩
theorem f202_25 : w_fe am_c202 25 26 (.iload 3) := ⟨rfl, rfl⟩
theorem f202_26 : w_fe am_c202 26 27 (.invokestatic 179) := ⟨rfl, rfl⟩
theorem f202_27 : w_fe am_c202 27 28 (.ireturn) := ⟨rfl, rfl⟩
set_option maxRecDepth 20000 in
theorem b202_0 {xs : List Int} {d : Nat} {Q : Option w_V → w_M → Prop} {x1 : Int} {x2 : Int} {x3 : Int} {σ : w_M}
    (h : p_Model_isReaper x1 σ ∧ ((¬ (0 ≤ x1 ∧ x1 < σ 122 5) → Q (some (.inl (-1))) σ) ∧ ((0 ≤ x1 ∧ x1 < σ 122 5) → ((¬ (0 ≤ x2 ∧ x2 ≤ 12) → Q (some (.inl (-1))) σ) ∧ ((0 ≤ x2 ∧ x2 ≤ 12) → (((0 ≤ x3 ∧ x3 ≤ 4) → (p_Model_starts σ ∧ (∀ (τ1 : w_M), q_Model_starts σ τ1 → (p_Model_goesTo x2 τ1 ∧ (∀ (τ2 : w_M), q_Model_goesTo x2 τ1 τ2 → (p_Model_of x1 x3 τ2 ∧ Q (some (.inl (τ2 124 (21 + 5 * x1 + x3).toNat))) τ2)))))) ∧ (¬ (0 ≤ x3 ∧ x3 ≤ 4) → Q (some (.inl (-1))) σ))))))) : w_Call (xs, (d + 6)) 202 [.inr (.inr (9, 122)), .inl x1, .inl x2, .inl x3] σ Q :=
  (w_mk (mid := 202) (by decide) rfl rfl rfl rfl rfl (Nat.le_of_ble_eq_true rfl) ⟨rfl, Or.inl (by decide)⟩ (wi_aload0 f202_0 (wi_iload1 f202_1 (wi_call2 f202_2 (Nat.le_of_ble_eq_true rfl) (k_Model_isReaper h.1 (wi_ifb_eq f202_3 (fun c5 => (wi_bipush f202_16 (wi_ret1 f202_17 (h.2.1 c5)))) (fun c5 => (wi_iload2 f202_4 (wi_i2l f202_5 (wi_sipush f202_6 (wi_sipush f202_7 (wi_call3 f202_8 (Nat.le_of_ble_eq_true rfl) (k_Model_in (wi_ifb_eq f202_9 (fun c4 => (wi_bipush f202_16 (wi_ret1 f202_17 ((h.2.2 c5).1 c4)))) (fun c4 => (wi_iload3 f202_10 (wi_i2l f202_11 (wi_sipush f202_12 (wi_sipush f202_13 (wi_call3 f202_14 (Nat.le_of_ble_eq_true rfl) (k_Model_in (wi_ifb_ne f202_15 (fun c3 => (wi_aload0 f202_18 (wi_call1 f202_19 (Nat.le_of_ble_eq_true rfl) (k_Model_starts (((h.2.2 c5).2 c4).1 c3).1 (fun τ1 eτ1 => (wi_aload0 f202_20 (wi_iload2 f202_21 (wi_call2 f202_22 (Nat.le_of_ble_eq_true rfl) (k_Model_goesTo ((((h.2.2 c5).2 c4).1 c3).2 τ1 eτ1).1 (fun τ2 eτ2 => (wi_aload0 f202_23 (wi_iload1 f202_24 (wi_iload3 f202_25 (wi_call3 f202_26 (Nat.le_of_ble_eq_true rfl) (k_Model_of (((((h.2.2 c5).2 c4).1 c3).2 τ1 eτ1).2 τ2 eτ2).1 (wi_ret1 f202_27 (((((h.2.2 c5).2 c4).1 c3).2 τ1 eτ1).2 τ2 eτ2).2)))))))))))))))) (fun c3 => (wi_bipush f202_16 (wi_ret1 f202_17 (((h.2.2 c5).2 c4).2 c3))))))))))))))))))))))))))
theorem f203_0 : w_fe am_c203 0 1 (.aload 0) := ⟨rfl, rfl⟩
theorem f203_1 : w_fe am_c203 1 2 (.iload 1) := ⟨rfl, rfl⟩
theorem f203_2 : w_fe am_c203 2 3 (.invokestatic 178) := ⟨rfl, rfl⟩
theorem f203_3 : w_if am_c203 3 4 .eq 10 := ⟨rfl, rfl⟩
theorem f203_4 : w_fe am_c203 4 5 (.iload 2) := ⟨rfl, rfl⟩
theorem f203_5 : w_fe am_c203 5 6 (.i2l) := ⟨rfl, rfl⟩
theorem f203_6 : w_fe am_c203 6 7 (.sipush 0) := ⟨rfl, rfl⟩
theorem f203_7 : w_fe am_c203 7 8 (.sipush 12) := ⟨rfl, rfl⟩
theorem f203_8 : w_fe am_c203 8 9 (.invokestatic 158) := ⟨rfl, rfl⟩
theorem f203_9 : w_if am_c203 9 10 .ne 12 := ⟨rfl, rfl⟩
theorem f203_10 : w_fe am_c203 10 11 (.bipush (-1)) := ⟨rfl, rfl⟩
theorem f203_11 : w_fe am_c203 11 12 (.ireturn) := ⟨rfl, rfl⟩
theorem f203_12 : w_fe am_c203 12 13 (.aload 0) := ⟨rfl, rfl⟩
theorem f203_13 : w_fe am_c203 13 14 (.invokestatic 175) := ⟨rfl, rfl⟩
theorem f203_14 : w_fe am_c203 14 15 (.aload 0) := ⟨rfl, rfl⟩
theorem f203_15 : w_fe am_c203 15 16 (.iload 2) := ⟨rfl, rfl⟩
theorem f203_16 : w_fe am_c203 16 17 (.invokestatic 195) := ⟨rfl, rfl⟩
theorem f203_17 : w_fe am_c203 17 18 (.aload 0) := ⟨rfl, rfl⟩
theorem f203_18 : w_fe am_c203 18 19 (.getfield 901) := ⟨rfl, rfl⟩
theorem f203_19 : w_fe am_c203 19 20 (.bipush 0) := ⟨rfl, rfl⟩
theorem f203_20 : w_fe am_c203 20 21 (.iload 1) := ⟨rfl, rfl⟩
theorem f203_21 : w_fe am_c203 21 22 (.iadd) := ⟨rfl, rfl⟩
theorem f203_22 : w_fe am_c203 22 23 (.iaload) := ⟨rfl, rfl⟩
theorem f203_23 : w_fe am_c203 23 24 (.ireturn) := ⟨rfl, rfl⟩
set_option maxRecDepth 20000 in
theorem b203_0 {xs : List Int} {d : Nat} {Q : Option w_V → w_M → Prop} {x1 : Int} {x2 : Int} {σ : w_M}
    (h : p_Model_isStrip x1 σ ∧ ((¬ (0 ≤ x1 ∧ x1 < σ 122 4) → Q (some (.inl (-1))) σ) ∧ ((0 ≤ x1 ∧ x1 < σ 122 4) → (((0 ≤ x2 ∧ x2 ≤ 12) → (p_Model_starts σ ∧ (∀ (τ1 : w_M), q_Model_starts σ τ1 → (p_Model_goesTo x2 τ1 ∧ (∀ (τ2 : w_M), q_Model_goesTo x2 τ1 τ2 → (w_in (0 + x1) ∧ 0 ≤ (0 + x1) ∧ (0 + x1) < 82 ∧ Q (some (.inl (τ2 124 (0 + x1).toNat))) τ2)))))) ∧ (¬ (0 ≤ x2 ∧ x2 ≤ 12) → Q (some (.inl (-1))) σ))))) : w_Call (xs, (d + 6)) 203 [.inr (.inr (9, 122)), .inl x1, .inl x2] σ Q :=
  (w_mk (mid := 203) (by decide) rfl rfl rfl rfl rfl (Nat.le_of_ble_eq_true rfl) ⟨rfl, Or.inl (by decide)⟩ (wi_aload0 f203_0 (wi_iload1 f203_1 (wi_call2 f203_2 (Nat.le_of_ble_eq_true rfl) (k_Model_isStrip h.1 (wi_ifb_eq f203_3 (fun c4 => (wi_bipush f203_10 (wi_ret1 f203_11 (h.2.1 c4)))) (fun c4 => (wi_iload2 f203_4 (wi_i2l f203_5 (wi_sipush f203_6 (wi_sipush f203_7 (wi_call3 f203_8 (Nat.le_of_ble_eq_true rfl) (k_Model_in (wi_ifb_ne f203_9 (fun c3 => (wi_aload0 f203_12 (wi_call1 f203_13 (Nat.le_of_ble_eq_true rfl) (k_Model_starts ((h.2.2 c4).1 c3).1 (fun τ1 eτ1 => (wi_aload0 f203_14 (wi_iload2 f203_15 (wi_call2 f203_16 (Nat.le_of_ble_eq_true rfl) (k_Model_goesTo (((h.2.2 c4).1 c3).2 τ1 eτ1).1 (fun τ2 eτ2 => (wi_aload0 f203_17 (wi_getf901 f203_18 (wi_bipush f203_19 (wi_iload1 f203_20 (wi_iadd f203_21 ((((h.2.2 c4).1 c3).2 τ1 eτ1).2 τ2 eτ2).1 (wi_iald1082 f203_22 ((((h.2.2 c4).1 c3).2 τ1 eτ1).2 τ2 eτ2).2.1 ((((h.2.2 c4).1 c3).2 τ1 eτ1).2 τ2 eτ2).2.2.1 (wi_ret1 f203_23 ((((h.2.2 c4).1 c3).2 τ1 eτ1).2 τ2 eτ2).2.2.2))))))))))))))))) (fun c3 => (wi_bipush f203_10 (wi_ret1 f203_11 ((h.2.2 c4).2 c3))))))))))))))))))
theorem f204_0 : w_fe am_c204 0 1 (.iload 1) := ⟨rfl, rfl⟩
theorem f204_1 : w_fe am_c204 1 2 (.i2l) := ⟨rfl, rfl⟩
theorem f204_2 : w_fe am_c204 2 3 (.sipush 0) := ⟨rfl, rfl⟩
theorem f204_3 : w_fe am_c204 3 4 (.sipush 1) := ⟨rfl, rfl⟩
theorem f204_4 : w_fe am_c204 4 5 (.invokestatic 158) := ⟨rfl, rfl⟩
theorem f204_5 : w_if am_c204 5 6 .ne 8 := ⟨rfl, rfl⟩
theorem f204_6 : w_fe am_c204 6 7 (.bipush (-1)) := ⟨rfl, rfl⟩
theorem f204_7 : w_fe am_c204 7 8 (.ireturn) := ⟨rfl, rfl⟩
theorem f204_8 : w_fe am_c204 8 9 (.aload 0) := ⟨rfl, rfl⟩
theorem f204_9 : w_fe am_c204 9 10 (.invokestatic 175) := ⟨rfl, rfl⟩
theorem f204_10 : w_fe am_c204 10 11 (.aload 0) := ⟨rfl, rfl⟩
theorem f204_11 : w_fe am_c204 11 12 (.invokestatic 205) := ⟨rfl, rfl⟩
theorem f204_12 : w_fe am_c204 12 13 (.istore 2) := ⟨rfl, rfl⟩
theorem f204_13 : w_fe am_c204 13 14 (.iload 1) := ⟨rfl, rfl⟩
theorem f204_14 : w_if am_c204 14 15 .ne 17 := ⟨rfl, rfl⟩
theorem f204_15 : w_fe am_c204 15 16 (.iload 2) := ⟨rfl, rfl⟩
theorem f204_16 : w_gt am_c204 16 21 := rfl
theorem f204_17 : w_fe am_c204 17 18 (.aload 0) := ⟨rfl, rfl⟩
theorem f204_18 : w_fe am_c204 18 19 (.getfield 901) := ⟨rfl, rfl⟩
theorem f204_19 : w_fe am_c204 19 20 (.bipush 47) := ⟨rfl, rfl⟩
theorem f204_20 : w_fe am_c204 20 21 (.iaload) := ⟨rfl, rfl⟩
theorem f204_21 : w_fe am_c204 21 22 (.ireturn) := ⟨rfl, rfl⟩
set_option maxRecDepth 20000 in
theorem b204_0 {xs : List Int} {d : Nat} {Q : Option w_V → w_M → Prop} {x1 : Int} {σ : w_M}
    (h : ((0 ≤ x1 ∧ x1 ≤ 1) → (p_Model_starts σ ∧ (∀ (τ1 : w_M), q_Model_starts σ τ1 → (p_Model_doneBehind τ1 ∧ (∀ (y2 : Int) (τ3 : w_M), q_Model_doneBehind τ1 y2 τ3 → ((¬ x1 = 0 → Q (some (.inl (τ3 124 47))) τ3) ∧ (x1 = 0 → Q (some (.inl y2)) τ3))))))) ∧ (¬ (0 ≤ x1 ∧ x1 ≤ 1) → Q (some (.inl (-1))) σ)) : w_Call (xs, (d + 6)) 204 [.inr (.inr (9, 122)), .inl x1] σ Q :=
  (w_mk (mid := 204) (by decide) rfl rfl rfl rfl rfl (Nat.le_of_ble_eq_true rfl) ⟨rfl, Or.inl (by decide)⟩ (wi_iload1 f204_0 (wi_i2l f204_1 (wi_sipush f204_2 (wi_sipush f204_3 (wi_call3 f204_4 (Nat.le_of_ble_eq_true rfl) (k_Model_in (wi_ifb_ne f204_5 (fun c5 => (wi_aload0 f204_8 (wi_call1 f204_9 (Nat.le_of_ble_eq_true rfl) (k_Model_starts (h.1 c5).1 (fun τ1 eτ1 => (wi_aload0 f204_10 (wi_call1 f204_11 (Nat.le_of_ble_eq_true rfl) (k_Model_doneBehind ((h.1 c5).2 τ1 eτ1).1 (fun y2 τ3 eτ3 => (wi_istore2 f204_12 trivial (wi_iload1 f204_13 (wi_if_ne f204_14 (fun c4 => (wi_aload0 f204_17 (wi_getf901 f204_18 (wi_bipush f204_19 (wi_iald1082 f204_20 (by decide) (by decide) (wi_ret1 f204_21 ((((h.1 c5).2 τ1 eτ1).2 y2 τ3 eτ3).1 c4))))))) (fun c4 => (wi_iload2 f204_15 (wi_goto f204_16 (wi_ret1 f204_21 ((((h.1 c5).2 τ1 eτ1).2 y2 τ3 eτ3).2 c4))))))))))))))))) (fun c5 => (wi_bipush f204_6 (wi_ret1 f204_7 (h.2 c5))))))))))))
theorem f206_0 : w_fe am_c206 0 1 (.aload 0) := ⟨rfl, rfl⟩
theorem f206_1 : w_fe am_c206 1 2 (.invokestatic 175) := ⟨rfl, rfl⟩
theorem f206_2 : w_fe am_c206 2 3 (.aload 0) := ⟨rfl, rfl⟩
theorem f206_3 : w_fe am_c206 3 4 (.bipush 12) := ⟨rfl, rfl⟩
theorem f206_4 : w_fe am_c206 4 5 (.invokestatic 195) := ⟨rfl, rfl⟩
theorem f206_5 : w_fe am_c206 5 6 (.aload 0) := ⟨rfl, rfl⟩
theorem f206_6 : w_fe am_c206 6 7 (.invokestatic 176) := ⟨rfl, rfl⟩
theorem f206_7 : w_fe am_c206 7 8 (.ireturn) := ⟨rfl, rfl⟩
set_option maxRecDepth 20000 in
theorem b206_0 {xs : List Int} {d : Nat} {Q : Option w_V → w_M → Prop}  {σ : w_M}
    (h : p_Model_starts σ ∧ (∀ (τ1 : w_M), q_Model_starts σ τ1 → (p_Model_goesTo 12 τ1 ∧ (∀ (τ2 : w_M), q_Model_goesTo 12 τ1 τ2 → (p_Model_standing τ2 ∧ (∀ (y3 : Int), y3 = v_Model_standing τ2 → Q (some (.inl y3)) τ2)))))) : w_Call (xs, (d + 6)) 206 [.inr (.inr (9, 122))] σ Q :=
  (w_mk (mid := 206) (by decide) rfl rfl rfl rfl rfl (Nat.le_of_ble_eq_true rfl) ⟨rfl, Or.inl (by decide)⟩ (wi_aload0 f206_0 (wi_call1 f206_1 (Nat.le_of_ble_eq_true rfl) (k_Model_starts h.1 (fun τ1 eτ1 => (wi_aload0 f206_2 (wi_bipush f206_3 (wi_call2 f206_4 (Nat.le_of_ble_eq_true rfl) (k_Model_goesTo (h.2 τ1 eτ1).1 (fun τ2 eτ2 => (wi_aload0 f206_5 (wi_call1 f206_6 (Nat.le_of_ble_eq_true rfl) (k_Model_standing ((h.2 τ1 eτ1).2 τ2 eτ2).1 (wi_ret1 f206_7 (((h.2 τ1 eτ1).2 τ2 eτ2).2 _ rfl)))))))))))))))
theorem k_Model_ahead {xs : List Int} {d : Nat} {Q : Option w_V → w_M → Prop} {x1 : Int} {x2 : Int} {x3 : Int} {σ : w_M} (hp : p_Model_ahead x1 x2 x3 σ) (hQ : ∀ (x : Int) (σ' : w_M), q_Model_ahead x1 x2 x3 σ x σ' → Q (some (.inl x)) σ') : w_Call (xs, d + 6) 202 [.inr (.inr (9, 122)), .inl x1, .inl x2, .inl x3] σ Q := by
  have hM : MI σ := hp
  have hok := hM.ok
  have hn := hM.n
  unfold q_Model_ahead F_ahead at hQ
  have eA : mS σ 0 = w_am σ 123 0 := rfl
  rw [eA] at hQ
  obtain ⟨g0, g4, g5⟩ := n_goes_hd hok x2.toNat
  have e5 : w_am σ 123 0 0 5 = σ 122 5 := rfl
  have bad : ¬ ((0 ≤ x1 ∧ x1 < σ 122 5) ∧ (0 ≤ x2 ∧ x2 ≤ 12) ∧ (0 ≤ x3 ∧ x3 ≤ 4)) → Q (some (.inl (-1))) σ := fun h => by
    refine hQ _ _ (m_qr hM ?_)
    split
    · rename_i h2
      exact (n_tell_bad (fun q => h ⟨by rw [← e5, ← g5]; exact q.1, h2, q.2⟩)).symm
    · rfl
  refine b202_0 ⟨hn, fun c => bad (fun q => c q.1), fun c => ⟨fun c2 => bad (fun q => c2 q.2.1), fun c2 => ⟨fun c3 => ⟨hM.sm, fun τ1 hq1 => ?_⟩, fun c3 => bad (fun q => c3 q.2.2)⟩⟩⟩
  obtain ⟨q1, q2, q3⟩ := hq1
  rw [if_pos c2] at hQ
  refine ⟨⟨by show n_WF _; rw [q1]; exact hok, c2⟩, fun τ2 hq2 => ?_⟩
  obtain ⟨p1, p2⟩ := hq2
  rw [q1] at p1
  have z : τ2 122 = σ 122 := by rw [p2.1 122 (by decide), q2 122 (by decide)]
  refine ⟨⟨by omega, by omega⟩, hQ _ _ (m_qs hM (q2.tr p2.1) ?_)⟩
  rw [← p1]
  exact m_tell (by rw [z]; exact c) c3 (by omega)
theorem k_Model_stands {xs : List Int} {d : Nat} {Q : Option w_V → w_M → Prop} {x1 : Int} {x2 : Int} {σ : w_M} (hp : p_Model_stands x1 x2 σ) (hQ : ∀ (x : Int) (σ' : w_M), q_Model_stands x1 x2 σ x σ' → Q (some (.inl x)) σ') : w_Call (xs, d + 6) 203 [.inr (.inr (9, 122)), .inl x1, .inl x2] σ Q := by
  have hM : MI σ := hp
  have hok := hM.ok
  have hs := hM.s
  unfold q_Model_stands F_stands at hQ
  have eA : mS σ 0 = w_am σ 123 0 := rfl
  have e4 : w_am σ 123 0 0 4 = σ 122 4 := rfl
  rw [eA, e4] at hQ
  refine b203_0 ⟨hs, fun c => ?_, fun c => ⟨fun c2 => ⟨hM.sm, fun τ1 hq1 => ?_⟩, fun c2 => ?_⟩⟩
  · rw [if_neg (fun q => c q.1)] at hQ
    exact hQ _ _ (m_qr hM rfl)
  · obtain ⟨q1, q2, q3⟩ := hq1
    rw [if_pos ⟨c, c2⟩] at hQ
    refine ⟨⟨by show n_WF _; rw [q1]; exact hok, c2⟩, fun τ2 hq2 => ?_⟩
    obtain ⟨p1, p2⟩ := hq2
    rw [q1] at p1
    have z : τ2 122 = σ 122 := by rw [p2.1 122 (by decide), q2 122 (by decide)]
    refine ⟨⟨by omega, by omega⟩, by omega, by omega, hQ _ _ (m_qs hM (q2.tr p2.1) ?_)⟩
    rw [← p1]
    exact m_rdi (by decide) (Or.inl (by decide)) (by rw [z]; exact c) (by show _ = x1.toNat; omega)
  · rw [if_neg (fun q => c2 q.2)] at hQ
    exact hQ _ _ (m_qr hM rfl)
/-- behind the end of it only the hour goes on -/
theorem n_goes_fin {A : w_M} (h : n_WF A) : ∀ j : Nat, ∃ x : Int, n_goes A (n_fin A + j) = w_up (n_goes A (n_fin A)) 0 1 x := by
  obtain ⟨g1, g2, g3⟩ := n_st_spec A h (n_left A)
  have hall := n_goes_all h (n_fin A)
  by_cases hd : n_sd (n_goes A (n_fin A)) = 0
  · intro j
    induction j with
    | zero => exact ⟨_, (w_up_same rfl).symm⟩
    | succ j ih =>
      obtain ⟨x, hx⟩ := ih
      have hj := n_goes_all h (n_fin A + j)
      have hd2 : n_sd (n_goes A (n_fin A + j)) = 0 := by rw [hx, n_sd_up (by decide) (by decide)]; exact hd
      show ∃ y, (if (n_goes A (n_fin A + j)) 0 1 < (n_goes A (n_fin A + j)) 0 0 then n_on (n_goes A (n_fin A + j)) else n_goes A (n_fin A + j)) = _
      split
      · unfold n_on
        rw [n_hour_done hj.1 hd2, hx, w_up_up]
        exact ⟨_, rfl⟩
      · exact ⟨x, hx⟩
  · have hl : n_fin A = n_left A := g3.resolve_left hd
    intro j
    refine ⟨(n_goes A (n_fin A)) 0 1, ?_⟩
    rw [w_up_same rfl]
    refine n_goes_end ?_ j
    have e0 := hall.2.1.1 0 (by decide) (by decide)
    have hr := h.hr
    rw [hall.2.2.1, e0, hl]
    unfold n_left
    split <;> omega
theorem n_fin_le {A : w_M} (h : n_WF A) : n_fin A ≤ n_left A ∧ n_left A ≤ 12 := by
  obtain ⟨g1, -, -⟩ := n_st_spec A h (n_left A)
  have hrs := h.hrs
  have hr := h.hr
  refine ⟨g1, ?_⟩
  unfold n_left
  omega
theorem n_goes12 {A : w_M} (h : n_WF A) : ∃ x : Int, n_goes A 12 = w_up (n_goes A (n_fin A)) 0 1 x := by
  have hl := n_fin_le h
  obtain ⟨x, hx⟩ := n_goes_fin h (12 - n_fin A)
  rw [show n_fin A + (12 - n_fin A) = 12 by omega] at hx
  exact ⟨x, hx⟩
theorem k_Model_done {xs : List Int} {d : Nat} {Q : Option w_V → w_M → Prop} {x1 : Int} {σ : w_M} (hp : p_Model_done x1 σ) (hQ : ∀ (x : Int) (σ' : w_M), q_Model_done x1 σ x σ' → Q (some (.inl x)) σ') : w_Call (xs, d + 6) 204 [.inr (.inr (9, 122)), .inl x1] σ Q := by
  have hM : MI σ := hp
  have hok := hM.ok
  unfold q_Model_done F_done at hQ
  have eA : mS σ 0 = w_am σ 123 0 := rfl
  rw [eA] at hQ
  refine b204_0 ⟨fun c => ⟨hM.sm, fun τ1 hq1 => ?_⟩, fun c => ?_⟩
  · obtain ⟨q1, q2, q3⟩ := hq1
    refine ⟨by show n_WF _; rw [q1]; exact hok, fun y τ2 hq2 => ?_⟩
    obtain ⟨p1, p2, p3⟩ := hq2
    rw [q1] at p1 p2
    refine ⟨fun c2 => ?_, fun c2 => ?_⟩
    · rw [if_neg c2, if_pos (by omega)] at hQ
      refine hQ _ _ (m_qs hM (q2.tr p3) ?_)
      obtain ⟨x, hx⟩ := n_goes12 hok
      rw [hx, w_up_j (by decide), ← p1]
      rfl
    · rw [if_pos c2] at hQ
      exact hQ _ _ (m_qs hM (q2.tr p3) p2)
  · rw [if_neg (by omega), if_neg (by omega)] at hQ
    exact hQ _ _ (m_qr hM rfl)
theorem k_Model_left {xs : List Int} {d : Nat} {Q : Option w_V → w_M → Prop}  {σ : w_M} (hp : p_Model_left σ) (hQ : ∀ (x : Int) (σ' : w_M), q_Model_left σ x σ' → Q (some (.inl x)) σ') : w_Call (xs, d + 6) 206 [.inr (.inr (9, 122))] σ Q := by
  have hM : MI σ := hp
  have hok := hM.ok
  unfold q_Model_left F_left at hQ
  have eA : mS σ 0 = w_am σ 123 0 := rfl
  rw [eA] at hQ
  refine b206_0 ⟨hM.sm, fun τ1 hq1 => ?_⟩
  obtain ⟨q1, q2, q3⟩ := hq1
  refine ⟨⟨by show n_WF _; rw [q1]; exact hok, by decide, by decide⟩, fun τ2 hq2 => ?_⟩
  obtain ⟨p1, p2⟩ := hq2
  rw [q1] at p1
  refine ⟨by show n_WF _; rw [p1]; exact (n_goes_all hok _).1, fun y ey => hQ _ _ (m_qs hM (q2.tr p2.1) ?_)⟩
  rw [ey]
  unfold v_Model_standing
  rw [p1]
  rfl
