/-! The reference reads a line -/
noncomputable def rl_e (T : Nat → Int) (L k f b : Nat) (σ σ' : w_M) : Prop := (¬ (ln_f T L (d_am σ) k f b).1 = 0 → σ' 122 20 = (ln_f T L (d_am σ) k f b).1 ∧ σ' 122 21 = (((ln_f T L (d_am σ) k f b).2 : Nat) : Int)) ∧
  ((ln_f T L (d_am σ) k f b).1 = 0 → m_cur T L (tk_b T L (pp T L b (ln_m k))) σ' ∧ d_am σ' = ln_D (d_am σ) k (tk_v T L b) (tk_v T L (pp T L b 1)) (tk_v T L (pp T L b 2)) ∧ dm σ')
noncomputable def rl_m (T : Nat → Int) (L p : Nat) (σ σ' : w_M) : Prop := (¬ tk_k T L p = 1 ∨ ln_n T L (tk_f T L p) (tk_b T L p) = -1 → σ' 122 20 = 2 ∧ σ' 122 21 = ((tk_f T L p : Nat) : Int)) ∧
  (tk_k T L p = 1 → ¬ ln_n T L (tk_f T L p) (tk_b T L p) = -1 → rl_e T L (ln_n T L (tk_f T L p) (tk_b T L p)).toNat (tk_f T L p) (tk_b T L p) σ σ')
noncomputable def p_Model_readLine (σ : w_M) : Prop := σ 122 20 = 0 ∧ (∃ p, m_at (mT σ) (mL σ) p σ ∧ ¬ tk_k (mT σ) (mL σ) p = 0) ∧ dm σ
noncomputable def q_Model_readLine (σ σ' : w_M) : Prop := mo_h σ σ' ∧ ∀ p, m_at (mT σ) (mL σ) p σ → ¬ tk_k (mT σ) (mL σ) p = 0 → rl_m (mT σ) (mL σ) p σ σ'
theorem fModel_readLine_0 : w_fe am_c163 0 1 (.aload 0) := ⟨rfl, rfl⟩
theorem fModel_readLine_1 : w_fe am_c163 1 2 (.getfield 918) := ⟨rfl, rfl⟩
theorem fModel_readLine_2 : w_fe am_c163 2 3 (.bipush 1) := ⟨rfl, rfl⟩
theorem fModel_readLine_3 : w_ic am_c163 3 4 .ne 7 := ⟨rfl, rfl⟩
theorem fModel_readLine_4 : w_fe am_c163 4 5 (.aload 0) := ⟨rfl, rfl⟩
theorem fModel_readLine_5 : w_fe am_c163 5 6 (.invokestatic 164) := ⟨rfl, rfl⟩
theorem fModel_readLine_6 : w_gt am_c163 6 8 := rfl
theorem fModel_readLine_7 : w_fe am_c163 7 8 (.bipush (-4)) := ⟨rfl, rfl⟩
theorem fModel_readLine_8 : w_fe am_c163 8 9 (.istore 1) := ⟨rfl, rfl⟩
theorem fModel_readLine_9 : w_fe am_c163 9 10 (.aload 0) := ⟨rfl, rfl⟩
theorem fModel_readLine_10 : w_fe am_c163 10 11 (.iload 1) := ⟨rfl, rfl⟩
theorem fModel_readLine_11 : w_fe am_c163 11 12 (.bipush (-4)) := ⟨rfl, rfl⟩
theorem fModel_readLine_12 : w_ic am_c163 12 13 .eq 15 := ⟨rfl, rfl⟩
theorem fModel_readLine_13 : w_fe am_c163 13 14 (.bipush 1) := ⟨rfl, rfl⟩
theorem fModel_readLine_14 : w_gt am_c163 14 16 := rfl
theorem fModel_readLine_15 : w_fe am_c163 15 16 (.bipush 0) := ⟨rfl, rfl⟩
theorem fModel_readLine_16 : w_fe am_c163 16 17 (.bipush 2) := ⟨rfl, rfl⟩
theorem fModel_readLine_17 : w_fe am_c163 17 18 (.invokestatic 162) := ⟨rfl, rfl⟩
theorem fModel_readLine_18 : w_fe am_c163 18 19 (.aload 0) := ⟨rfl, rfl⟩
theorem fModel_readLine_19 : w_fe am_c163 19 20 (.iload 1) := ⟨rfl, rfl⟩
theorem fModel_readLine_20 : w_fe am_c163 20 21 (.bipush 1) := ⟨rfl, rfl⟩
theorem fModel_readLine_21 : w_ic am_c163 21 22 .ne 26 := ⟨rfl, rfl⟩
theorem fModel_readLine_22 : w_fe am_c163 22 23 (.aload 0) := ⟨rfl, rfl⟩
theorem fModel_readLine_23 : w_fe am_c163 23 24 (.getfield 908) := ⟨rfl, rfl⟩
theorem fModel_readLine_24 : w_fe am_c163 24 25 (.bipush 7) := ⟨rfl, rfl⟩
theorem fModel_readLine_25 : w_ic am_c163 25 26 .ge 35 := ⟨rfl, rfl⟩
theorem fModel_readLine_26 : w_fe am_c163 26 27 (.iload 1) := ⟨rfl, rfl⟩
theorem fModel_readLine_27 : w_fe am_c163 27 28 (.bipush 2) := ⟨rfl, rfl⟩
theorem fModel_readLine_28 : w_ic am_c163 28 29 .ne 33 := ⟨rfl, rfl⟩
theorem fModel_readLine_29 : w_fe am_c163 29 30 (.aload 0) := ⟨rfl, rfl⟩
theorem fModel_readLine_30 : w_fe am_c163 30 31 (.getfield 909) := ⟨rfl, rfl⟩
theorem fModel_readLine_31 : w_fe am_c163 31 32 (.bipush 4) := ⟨rfl, rfl⟩
theorem fModel_readLine_32 : w_ic am_c163 32 33 .ge 35 := ⟨rfl, rfl⟩
theorem fModel_readLine_33 : w_fe am_c163 33 34 (.bipush 1) := ⟨rfl, rfl⟩
theorem fModel_readLine_34 : w_gt am_c163 34 36 := rfl
theorem fModel_readLine_35 : w_fe am_c163 35 36 (.bipush 0) := ⟨rfl, rfl⟩
theorem fModel_readLine_36 : w_fe am_c163 36 37 (.bipush 5) := ⟨rfl, rfl⟩
theorem fModel_readLine_37 : w_fe am_c163 37 38 (.invokestatic 162) := ⟨rfl, rfl⟩
theorem fModel_readLine_38 : w_fe am_c163 38 39 (.aload 0) := ⟨rfl, rfl⟩
theorem fModel_readLine_39 : w_fe am_c163 39 40 (.iload 1) := ⟨rfl, rfl⟩
theorem fModel_readLine_40 : w_if am_c163 40 41 .ne 44 := ⟨rfl, rfl⟩
theorem fModel_readLine_41 : w_fe am_c163 41 42 (.aload 0) := ⟨rfl, rfl⟩
theorem fModel_readLine_42 : w_fe am_c163 42 43 (.getfield 910) := ⟨rfl, rfl⟩
theorem fModel_readLine_43 : w_if am_c163 43 44 .ne 46 := ⟨rfl, rfl⟩
theorem fModel_readLine_44 : w_fe am_c163 44 45 (.bipush 1) := ⟨rfl, rfl⟩
theorem fModel_readLine_45 : w_gt am_c163 45 47 := rfl
theorem fModel_readLine_46 : w_fe am_c163 46 47 (.bipush 0) := ⟨rfl, rfl⟩
theorem fModel_readLine_47 : w_fe am_c163 47 48 (.bipush 4) := ⟨rfl, rfl⟩
theorem fModel_readLine_48 : w_fe am_c163 48 49 (.invokestatic 162) := ⟨rfl, rfl⟩
theorem fModel_readLine_49 : w_fe am_c163 49 50 (.aload 0) := ⟨rfl, rfl⟩
theorem fModel_readLine_50 : w_fe am_c163 50 51 (.aload 0) := ⟨rfl, rfl⟩
theorem fModel_readLine_51 : w_fe am_c163 51 52 (.getfield 910) := ⟨rfl, rfl⟩
theorem fModel_readLine_52 : w_if am_c163 52 53 .ne 55 := ⟨rfl, rfl⟩
theorem fModel_readLine_53 : w_fe am_c163 53 54 (.iload 1) := ⟨rfl, rfl⟩
theorem fModel_readLine_54 : w_if am_c163 54 55 .ne 57 := ⟨rfl, rfl⟩
theorem fModel_readLine_55 : w_fe am_c163 55 56 (.bipush 1) := ⟨rfl, rfl⟩
theorem fModel_readLine_56 : w_gt am_c163 56 58 := rfl
theorem fModel_readLine_57 : w_fe am_c163 57 58 (.bipush 0) := ⟨rfl, rfl⟩
theorem fModel_readLine_58 : w_fe am_c163 58 59 (.putfield 910) := ⟨rfl, rfl⟩
theorem fModel_readLine_59 : w_fe am_c163 59 60 (.aload 0) := ⟨rfl, rfl⟩
theorem fModel_readLine_60 : w_fe am_c163 60 61 (.invokestatic 160) := ⟨rfl, rfl⟩
theorem fModel_readLine_61 : w_fe am_c163 61 62 (.aload 0) := ⟨rfl, rfl⟩
theorem fModel_readLine_62 : w_fe am_c163 62 63 (.getfield 920) := ⟨rfl, rfl⟩
theorem fModel_readLine_63 : w_if am_c163 63 64 .le 65 := ⟨rfl, rfl⟩
theorem fModel_readLine_64 : w_fe am_c163 64 65 (.return_) := ⟨rfl, rfl⟩
theorem fModel_readLine_65 : w_fe am_c163 65 66 (.aload 0) := ⟨rfl, rfl⟩
theorem fModel_readLine_66 : w_fe am_c163 66 67 (.iload 1) := ⟨rfl, rfl⟩
theorem fModel_readLine_67 : w_fe am_c163 67 68 (.invokestatic 167) := ⟨rfl, rfl⟩
theorem fModel_readLine_68 : w_fe am_c163 68 69 (.aload 0) := ⟨rfl, rfl⟩
theorem fModel_readLine_69 : w_fe am_c163 69 70 (.getfield 920) := ⟨rfl, rfl⟩
theorem fModel_readLine_70 : w_if am_c163 70 71 .ne 81 := ⟨rfl, rfl⟩
theorem fModel_readLine_71 : w_fe am_c163 71 72 (.aload 0) := ⟨rfl, rfl⟩
theorem fModel_readLine_72 : w_fe am_c163 72 73 (.aload 0) := ⟨rfl, rfl⟩
theorem fModel_readLine_73 : w_fe am_c163 73 74 (.getfield 918) := ⟨rfl, rfl⟩
theorem fModel_readLine_74 : w_fe am_c163 74 75 (.bipush 3) := ⟨rfl, rfl⟩
theorem fModel_readLine_75 : w_ic am_c163 75 76 .ne 78 := ⟨rfl, rfl⟩
theorem fModel_readLine_76 : w_fe am_c163 76 77 (.bipush 1) := ⟨rfl, rfl⟩
theorem fModel_readLine_77 : w_gt am_c163 77 79 := rfl
theorem fModel_readLine_78 : w_fe am_c163 78 79 (.bipush 0) := ⟨rfl, rfl⟩
theorem fModel_readLine_79 : w_fe am_c163 79 80 (.bipush 2) := ⟨rfl, rfl⟩
theorem fModel_readLine_80 : w_fe am_c163 80 81 (.invokestatic 162) := ⟨rfl, rfl⟩
theorem fModel_readLine_81 : w_fe am_c163 81 82 (.aload 0) := ⟨rfl, rfl⟩
theorem fModel_readLine_82 : w_fe am_c163 82 83 (.invokestatic 160) := ⟨rfl, rfl⟩
theorem fModel_readLine_83 : w_fe am_c163 83 84 (.return_) := ⟨rfl, rfl⟩
noncomputable def LModel_readLine_8 (xs : List Int) (d : Nat) (Q : Option w_V → w_M → Prop) (s0 : Int) (σ : w_M) : Prop := ∀ l1, w_nl l1 → w_Ex (xs, d) 0 am_c163 Q 8 [some (.inr (.inr (9, 122))), l1] [.inl s0] σ
noncomputable def LModel_readLine_16 (xs : List Int) (d : Nat) (Q : Option w_V → w_M → Prop) (v1 : Int) (s0 : Int) (σ : w_M) : Prop := w_Ex (xs, d) 0 am_c163 Q 16 [some (.inr (.inr (9, 122))), some (.inl v1)] [.inl s0, .inr (.inr (9, 122))] σ
noncomputable def LModel_readLine_36 (xs : List Int) (d : Nat) (Q : Option w_V → w_M → Prop) (v1 : Int) (s0 : Int) (σ : w_M) : Prop := w_Ex (xs, d) 0 am_c163 Q 36 [some (.inr (.inr (9, 122))), some (.inl v1)] [.inl s0, .inr (.inr (9, 122))] σ
noncomputable def LModel_readLine_47 (xs : List Int) (d : Nat) (Q : Option w_V → w_M → Prop) (v1 : Int) (s0 : Int) (σ : w_M) : Prop := w_Ex (xs, d) 0 am_c163 Q 47 [some (.inr (.inr (9, 122))), some (.inl v1)] [.inl s0, .inr (.inr (9, 122))] σ
noncomputable def LModel_readLine_58 (xs : List Int) (d : Nat) (Q : Option w_V → w_M → Prop) (v1 : Int) (s0 : Int) (σ : w_M) : Prop := w_Ex (xs, d) 0 am_c163 Q 58 [some (.inr (.inr (9, 122))), some (.inl v1)] [.inl s0, .inr (.inr (9, 122))] σ
noncomputable def LModel_readLine_81 (xs : List Int) (d : Nat) (Q : Option w_V → w_M → Prop)  (σ : w_M) : Prop := ∀ l1, w_nl l1 → w_Ex (xs, d) 0 am_c163 Q 81 [some (.inr (.inr (9, 122))), l1] [] σ
set_option maxRecDepth 20000 in
theorem bModel_readLine_0 {xs : List Int} {d : Nat} {Q : Option w_V → w_M → Prop}  {σ : w_M}
    (h : (¬ (σ 122 18) = 1 → LModel_readLine_8 xs (d + 5) Q (-4) σ) ∧ ((σ 122 18) = 1 → (p_Model_lineNow σ ∧ (∀ (y1 : Int), y1 = v_Model_lineNow σ → LModel_readLine_8 xs (d + 5) Q y1 σ)))) : w_Call (xs, (d + 5)) 163 [.inr (.inr (9, 122))] σ Q :=
  (w_mk (mid := 163) (by decide) rfl rfl rfl rfl rfl (Nat.le_of_ble_eq_true rfl) ⟨rfl, Or.inl (by decide)⟩ (wi_aload0 fModel_readLine_0 (wi_getf918 fModel_readLine_1 (wi_bipush fModel_readLine_2 (wi_ic_ne fModel_readLine_3 (fun c2 => (wi_bipush fModel_readLine_7 ((h.1 c2) _ (by exact trivial)))) (fun c2 => (wi_aload0 fModel_readLine_4 (wi_call1 fModel_readLine_5 (Nat.le_of_ble_eq_true rfl) (k_Model_lineNow (h.2 c2).1 (wi_goto fModel_readLine_6 (((h.2 c2).2 _ rfl) _ (by exact trivial))))))))))))
set_option maxRecDepth 20000 in
theorem bModel_readLine_8 {xs : List Int} {d : Nat} {Q : Option w_V → w_M → Prop} {s0 : Int} {σ : w_M}
    (h : (s0 = (-4) → LModel_readLine_16 xs (d + 5) Q s0 0 σ) ∧ (¬ s0 = (-4) → LModel_readLine_16 xs (d + 5) Q s0 1 σ)) : LModel_readLine_8 xs (d + 5) Q s0 σ :=
  fun l1 nl1 => (wi_istore1 fModel_readLine_8 trivial (wi_aload0 fModel_readLine_9 (wi_iload1 fModel_readLine_10 (wi_bipush fModel_readLine_11 (wi_ic_eq fModel_readLine_12 (fun c1 => (wi_bipush fModel_readLine_15 (h.1 c1))) (fun c1 => (wi_bipush fModel_readLine_13 (wi_goto fModel_readLine_14 (h.2 c1)))))))))
set_option maxRecDepth 20000 in
theorem bModel_readLine_16 {xs : List Int} {d : Nat} {Q : Option w_V → w_M → Prop} {v1 : Int} {s0 : Int} {σ : w_M}
    (h : ∀ (τ1 : w_M), q_Model_needs s0 2 σ τ1 → ((¬ v1 = 1 → ((¬ v1 = 2 → LModel_readLine_36 xs (d + 5) Q v1 1 τ1) ∧ (v1 = 2 → ((4 ≤ (τ1 122 9) → LModel_readLine_36 xs (d + 5) Q v1 0 τ1) ∧ ((τ1 122 9) < 4 → LModel_readLine_36 xs (d + 5) Q v1 1 τ1))))) ∧ (v1 = 1 → ((7 ≤ (τ1 122 8) → LModel_readLine_36 xs (d + 5) Q v1 0 τ1) ∧ ((τ1 122 8) < 7 → ((¬ v1 = 2 → LModel_readLine_36 xs (d + 5) Q v1 1 τ1) ∧ (v1 = 2 → ((4 ≤ (τ1 122 9) → LModel_readLine_36 xs (d + 5) Q v1 0 τ1) ∧ ((τ1 122 9) < 4 → LModel_readLine_36 xs (d + 5) Q v1 1 τ1))))))))) : LModel_readLine_16 xs (d + 5) Q v1 s0 σ :=
  (wi_bipush fModel_readLine_16 (wi_call3 fModel_readLine_17 (Nat.le_of_ble_eq_true rfl) (k_Model_needs (fun τ1 eτ1 => (wi_aload0 fModel_readLine_18 (wi_iload1 fModel_readLine_19 (wi_bipush fModel_readLine_20 (wi_ic_ne fModel_readLine_21 (fun c7 => (wi_iload1 fModel_readLine_26 (wi_bipush fModel_readLine_27 (wi_ic_ne fModel_readLine_28 (fun c3 => (wi_bipush fModel_readLine_33 (wi_goto fModel_readLine_34 (((h τ1 eτ1).1 c7).1 c3)))) (fun c3 => (wi_aload0 fModel_readLine_29 (wi_getf909 fModel_readLine_30 (wi_bipush fModel_readLine_31 (wi_ic_ge fModel_readLine_32 (fun c2 => (wi_bipush fModel_readLine_35 ((((h τ1 eτ1).1 c7).2 c3).1 c2))) (fun c2 => (wi_bipush fModel_readLine_33 (wi_goto fModel_readLine_34 ((((h τ1 eτ1).1 c7).2 c3).2 c2))))))))))))) (fun c7 => (wi_aload0 fModel_readLine_22 (wi_getf908 fModel_readLine_23 (wi_bipush fModel_readLine_24 (wi_ic_ge fModel_readLine_25 (fun c6 => (wi_bipush fModel_readLine_35 (((h τ1 eτ1).2 c7).1 c6))) (fun c6 => (wi_iload1 fModel_readLine_26 (wi_bipush fModel_readLine_27 (wi_ic_ne fModel_readLine_28 (fun c5 => (wi_bipush fModel_readLine_33 (wi_goto fModel_readLine_34 ((((h τ1 eτ1).2 c7).2 c6).1 c5)))) (fun c5 => (wi_aload0 fModel_readLine_29 (wi_getf909 fModel_readLine_30 (wi_bipush fModel_readLine_31 (wi_ic_ge fModel_readLine_32 (fun c4 => (wi_bipush fModel_readLine_35 (((((h τ1 eτ1).2 c7).2 c6).2 c5).1 c4))) (fun c4 => (wi_bipush fModel_readLine_33 (wi_goto fModel_readLine_34 (((((h τ1 eτ1).2 c7).2 c6).2 c5).2 c4))))))))))))))))))))))))))
set_option maxRecDepth 20000 in
theorem bModel_readLine_36 {xs : List Int} {d : Nat} {Q : Option w_V → w_M → Prop} {v1 : Int} {s0 : Int} {σ : w_M}
    (h : ∀ (τ1 : w_M), q_Model_needs s0 5 σ τ1 → ((¬ v1 = 0 → LModel_readLine_47 xs (d + 5) Q v1 1 τ1) ∧ (v1 = 0 → ((¬ (τ1 122 10) = 0 → LModel_readLine_47 xs (d + 5) Q v1 0 τ1) ∧ ((τ1 122 10) = 0 → LModel_readLine_47 xs (d + 5) Q v1 1 τ1))))) : LModel_readLine_36 xs (d + 5) Q v1 s0 σ :=
  (wi_bipush fModel_readLine_36 (wi_call3 fModel_readLine_37 (Nat.le_of_ble_eq_true rfl) (k_Model_needs (fun τ1 eτ1 => (wi_aload0 fModel_readLine_38 (wi_iload1 fModel_readLine_39 (wi_if_ne fModel_readLine_40 (fun c3 => (wi_bipush fModel_readLine_44 (wi_goto fModel_readLine_45 ((h τ1 eτ1).1 c3)))) (fun c3 => (wi_aload0 fModel_readLine_41 (wi_getf910 fModel_readLine_42 (wi_if_ne fModel_readLine_43 (fun c2 => (wi_bipush fModel_readLine_46 (((h τ1 eτ1).2 c3).1 c2))) (fun c2 => (wi_bipush fModel_readLine_44 (wi_goto fModel_readLine_45 (((h τ1 eτ1).2 c3).2 c2)))))))))))))))
set_option maxRecDepth 20000 in
theorem bModel_readLine_47 {xs : List Int} {d : Nat} {Q : Option w_V → w_M → Prop} {v1 : Int} {s0 : Int} {σ : w_M}
    (h : ∀ (τ1 : w_M), q_Model_needs s0 4 σ τ1 → ((¬ (τ1 122 10) = 0 → LModel_readLine_58 xs (d + 5) Q v1 1 τ1) ∧ ((τ1 122 10) = 0 → ((¬ v1 = 0 → LModel_readLine_58 xs (d + 5) Q v1 0 τ1) ∧ (v1 = 0 → LModel_readLine_58 xs (d + 5) Q v1 1 τ1))))) : LModel_readLine_47 xs (d + 5) Q v1 s0 σ :=
  (wi_bipush fModel_readLine_47 (wi_call3 fModel_readLine_48 (Nat.le_of_ble_eq_true rfl) (k_Model_needs (fun τ1 eτ1 => (wi_aload0 fModel_readLine_49 (wi_aload0 fModel_readLine_50 (wi_getf910 fModel_readLine_51 (wi_if_ne fModel_readLine_52 (fun c3 => (wi_bipush fModel_readLine_55 (wi_goto fModel_readLine_56 ((h τ1 eτ1).1 c3)))) (fun c3 => (wi_iload1 fModel_readLine_53 (wi_if_ne fModel_readLine_54 (fun c2 => (wi_bipush fModel_readLine_57 (((h τ1 eτ1).2 c3).1 c2))) (fun c2 => (wi_bipush fModel_readLine_55 (wi_goto fModel_readLine_56 (((h τ1 eτ1).2 c3).2 c2)))))))))))))))
set_option maxRecDepth 20000 in
theorem bModel_readLine_58 {xs : List Int} {d : Nat} {Q : Option w_V → w_M → Prop} {v1 : Int} {s0 : Int} {σ : w_M}
    (h : (s0 = 0 ∨ s0 = 1) ∧ (∀ (τ1 : w_M), τ1 = w_up σ 122 10 s0 → (p_Model_next τ1 ∧ (∀ (τ2 : w_M), q_Model_next τ1 τ2 → (((τ2 122 20) ≤ 0 → (p_Model_readLineOf v1 τ2 ∧ (∀ (τ3 : w_M), q_Model_readLineOf v1 τ2 τ3 → ((¬ (τ3 122 20) = 0 → LModel_readLine_81 xs (d + 5) Q τ3) ∧ ((τ3 122 20) = 0 → ((¬ (τ3 122 18) = 3 → ∀ (τ4 : w_M), q_Model_needs 0 2 τ3 τ4 → LModel_readLine_81 xs (d + 5) Q τ4) ∧ ((τ3 122 18) = 3 → ∀ (τ5 : w_M), q_Model_needs 1 2 τ3 τ5 → LModel_readLine_81 xs (d + 5) Q τ5))))))) ∧ (0 < (τ2 122 20) → Q none τ2)))))) : LModel_readLine_58 xs (d + 5) Q v1 s0 σ :=
  (wi_putf910 fModel_readLine_58 h.1 (wi_aload0 fModel_readLine_59 (wi_call1 fModel_readLine_60 (Nat.le_of_ble_eq_true rfl) (k_Model_next (h.2 _ rfl).1 (fun τ2 eτ2 => (wi_aload0 fModel_readLine_61 (wi_getf920 fModel_readLine_62 (wi_if_le fModel_readLine_63 (fun c8 => (wi_aload0 fModel_readLine_65 (wi_iload1 fModel_readLine_66 (wi_call2 fModel_readLine_67 (Nat.le_of_ble_eq_true rfl) (k_Model_readLineOf (((h.2 _ rfl).2 τ2 eτ2).1 c8).1 (fun τ3 eτ3 => (wi_aload0 fModel_readLine_68 (wi_getf920 fModel_readLine_69 (wi_if_ne fModel_readLine_70 (fun c7 => ((((((h.2 _ rfl).2 τ2 eτ2).1 c8).2 τ3 eτ3).1 c7) _ (by exact trivial))) (fun c7 => (wi_aload0 fModel_readLine_71 (wi_aload0 fModel_readLine_72 (wi_getf918 fModel_readLine_73 (wi_bipush fModel_readLine_74 (wi_ic_ne fModel_readLine_75 (fun c6 => (wi_bipush fModel_readLine_78 (wi_bipush fModel_readLine_79 (wi_call3 fModel_readLine_80 (Nat.le_of_ble_eq_true rfl) (k_Model_needs (fun τ4 eτ4 => ((((((((h.2 _ rfl).2 τ2 eτ2).1 c8).2 τ3 eτ3).2 c7).1 c6) τ4 eτ4) _ (by exact trivial)))))))) (fun c6 => (wi_bipush fModel_readLine_76 (wi_goto fModel_readLine_77 (wi_bipush fModel_readLine_79 (wi_call3 fModel_readLine_80 (Nat.le_of_ble_eq_true rfl) (k_Model_needs (fun τ5 eτ5 => ((((((((h.2 _ rfl).2 τ2 eτ2).1 c8).2 τ3 eτ3).2 c7).2 c6) τ5 eτ5) _ (by exact trivial)))))))))))))))))))))))) (fun c8 => (wi_ret0 fModel_readLine_64 (((h.2 _ rfl).2 τ2 eτ2).2 c8)))))))))))
set_option maxRecDepth 20000 in
theorem bModel_readLine_81 {xs : List Int} {d : Nat} {Q : Option w_V → w_M → Prop}  {σ : w_M}
    (h : p_Model_next σ ∧ (∀ (τ1 : w_M), q_Model_next σ τ1 → Q none τ1)) : LModel_readLine_81 xs (d + 5) Q  σ :=
  fun l1 nl1 => (wi_aload0 fModel_readLine_81 (wi_call1 fModel_readLine_82 (Nat.le_of_ble_eq_true rfl) (k_Model_next h.1 (fun τ1 eτ1 => (wi_ret0 fModel_readLine_83 (h.2 τ1 eτ1))))))
theorem need_f {g n : Int} {σ σ' : w_M} (h : q_Model_needs g n σ σ') (h0 : ¬ σ 122 20 = 0) : σ' = σ := h.2 (fun q => h0 q.2)
set_option maxHeartbeats 2000000 in
theorem k_Model_readLine {xs : List Int} {d : Nat} {Q : Option w_V → w_M → Prop}  {σ : w_M} (hp : p_Model_readLine σ) (hQ : ∀ σ' : w_M, q_Model_readLine σ σ' → Q none σ') : w_Call (xs, d + 5) 163 [.inr (.inr (9, 122))] σ Q := by
  obtain ⟨h20, ⟨p, ⟨⟨-, -, hk⟩, hpL, hcur⟩, hp0⟩, hd⟩ := hp
  unfold q_Model_readLine at hQ
  have hLe : mL σ = (σ 122 15).toNat := rfl
  have hk1 := hk.1
  have tpT : ∀ τ : w_M, mo_tp σ τ → mT τ = mT σ ∧ mL τ = mL σ ∧ m_rk τ := fun τ F => ⟨F.T, F.L, F.ok hk⟩
  have hln : tk_k (mT σ) (mL σ) p = 1 → p_Model_lineNow σ ∧ v_Model_lineNow σ = (if ln_n (mT σ) (mL σ) (tk_f (mT σ) (mL σ) p) (tk_b (mT σ) (mL σ) p) = -1 then -4 else ln_n (mT σ) (mL σ) (tk_f (mT σ) (mL σ) p) (tk_b (mT σ) (mL σ) p)) := fun k1 => by
    have hb := tk_b_le (T := mT σ) (L := mL σ) (p := p) (tk_k0 hp0)
    have e17 := hcur.1
    have e16 := hcur.2.1 hp0
    refine ⟨⟨hk, by omega, by omega⟩, ?_⟩
    unfold v_Model_lineNow
    rw [e17, e16, Int.toNat_natCast, Int.toNat_natCast]
  generalize hT : mT σ = T at *
  generalize hL : mL σ = L at *
  have hb := tk_b_le (T := T) (L := L) (p := p) (tk_k0 hp0)
  have hfL := tk_f_le (T := T) hpL
  have k4 : ¬ tk_k T L p = 4 := hcur.f.2.mp h20
  have e18 : σ 122 18 = tk_k T L p := (hcur.2.2.2.1 k4).2
  have e17 := hcur.1
  have e16 := hcur.2.1 hp0
  have fin : ∀ σ' : w_M, mo_h σ σ' → rl_m T L p σ σ' → Q none σ' := fun σ' F a => by
    refine hQ _ ⟨F, fun p' hp2 _ => ?_⟩
    have e : tk_f T L p' = tk_f T L p := by
      have a1 := hp2.2.2.1
      omega
    obtain ⟨e1, e2, e3⟩ := tk_same e
    unfold rl_m
    rw [e, e1, e2]
    exact a
  -- once it has failed
  have bad58 : ∀ (v s0 : Int) (τ : w_M), (s0 = 0 ∨ s0 = 1) → 0 < τ 122 20 → Q none (w_up τ 122 10 s0) → LModel_readLine_58 xs (d + 5) Q v s0 τ := fun v s0 τ hs h hq => by
    refine bModel_readLine_58 ⟨hs, fun τ1 t1 => ?_⟩
    have z : 0 < τ1 122 20 := by rw [t1, w_up_j (by decide)]; exact h
    refine ⟨⟨by omega, fun q => by omega⟩, fun τ2 q2 => ?_⟩
    rw [q2.1 (by omega)]
    exact ⟨fun q => by omega, fun _ => by rw [t1]; exact hq⟩
  have bad47 : ∀ (v s0 : Int) (τ : w_M), 0 < τ 122 20 → (∀ s, Q none (w_up τ 122 10 s)) → LModel_readLine_47 xs (d + 5) Q v s0 τ := fun v s0 τ h hq => by
    refine bModel_readLine_47 (fun τ1 q1 => ?_)
    rw [need_f q1 (by omega)]
    exact ⟨fun _ => bad58 _ _ τ (Or.inr rfl) h (hq _), fun _ => ⟨fun _ => bad58 _ _ τ (Or.inl rfl) h (hq _), fun _ => bad58 _ _ τ (Or.inr rfl) h (hq _)⟩⟩
  have bad36 : ∀ (v s0 : Int) (τ : w_M), 0 < τ 122 20 → (∀ s, Q none (w_up τ 122 10 s)) → LModel_readLine_36 xs (d + 5) Q v s0 τ := fun v s0 τ h hq => by
    refine bModel_readLine_36 (fun τ1 q1 => ?_)
    rw [need_f q1 (by omega)]
    exact ⟨fun _ => bad47 _ _ τ h hq, fun _ => ⟨fun _ => bad47 _ _ τ h hq, fun _ => bad47 _ _ τ h hq⟩⟩
  have none' : (¬ tk_k T L p = 1 ∨ ln_n T L (tk_f T L p) (tk_b T L p) = -1) → LModel_readLine_8 xs (d + 5) Q (-4) σ := fun hno => by
    refine bModel_readLine_8 ⟨fun _ => bModel_readLine_16 (fun τ1 q1 => ?_), fun h => absurd rfl h⟩
    obtain ⟨n1, n2, n3, n4⟩ := need_n q1 rfl h20
    have hq : ∀ s, Q none (w_up τ1 122 10 s) := fun s => by
      refine fin _ (n3.h.up2 (by decide) (by decide)) ⟨fun _ => ⟨by rw [w_up_j (by decide)]; exact n1, by rw [w_up_j (by decide), n2]; exact e17⟩, fun a b => absurd hno (fun z => z.elim (fun z => z a) b)⟩
    exact ⟨fun _ => ⟨fun _ => bad36 _ _ τ1 (by omega) hq, fun h => absurd h (by decide)⟩, fun h => absurd h (by decide)⟩
  refine bModel_readLine_0 ⟨fun c => none' (Or.inl (by rw [← e18]; exact c)), fun c => ?_⟩
  have k1 : tk_k T L p = 1 := by rw [← e18]; exact c
  obtain ⟨l1, l2⟩ := hln k1
  refine ⟨l1, fun y1 ey => ?_⟩
  rw [l2] at ey
  by_cases hn : ln_n T L (tk_f T L p) (tk_b T L p) = -1
  · rw [if_pos hn] at ey
    rw [ey]
    exact none' (Or.inr hn)
  · rw [if_neg hn] at ey
    have hle := ln_k_le (T := T) (L := L) (f := tk_f T L p) (b := tk_b T L p) 5
    have hle' : ln_n T L (tk_f T L p) (tk_b T L p) = -1 ∨ (0 ≤ ln_n T L (tk_f T L p) (tk_b T L p) ∧ ln_n T L (tk_f T L p) (tk_b T L p) < 5) := hle
    obtain ⟨k, hkk⟩ : ∃ k : Nat, ln_n T L (tk_f T L p) (tk_b T L p) = (k : Int) := ⟨(ln_n T L (tk_f T L p) (tk_b T L p)).toNat, by omega⟩
    have hk5 : k < 5 := by omega
    have ek : (ln_n T L (tk_f T L p) (tk_b T L p)).toNat = k := by omega
    rw [hkk] at ey
    rw [ey]
    have fin2 : ∀ σ' : w_M, mo_h σ σ' → rl_e T L k (tk_f T L p) (tk_b T L p) σ σ' → Q none σ' := fun σ' F a => by
      refine fin σ' F ⟨fun z => z.elim (fun z => absurd k1 z) (fun z => absurd z hn), fun _ _ => ?_⟩
      rw [ek]
      exact a
    have ef : ((tk_f T L p : Nat) : Int) = σ 122 17 := e17.symm
    generalize hf : tk_f T L p = f at *
    generalize hbb : tk_b T L p = b at *
    have done_f : ∀ τ : w_M, mo_h σ τ → ¬ (ln_f T L (d_am σ) k f b).1 = 0 → τ 122 20 = (ln_f T L (d_am σ) k f b).1 → τ 122 21 = (((ln_f T L (d_am σ) k f b).2 : Nat) : Int) → Q none τ := fun τ F h1 h2 h3 => fin2 τ F ⟨fun _ => ⟨h2, h3⟩, fun h => absurd h h1⟩
    have D4 : d_am σ 0 4 = σ 122 8 := rfl
    have D5 : d_am σ 0 5 = σ 122 9 := rfl
    have D7 : d_am σ 0 7 = σ 122 10 := rfl
    have w4 : 0 ≤ σ 122 8 ∧ σ 122 8 ≤ 7 := hd.1.2.2.1
    have w5 : 0 ≤ σ 122 9 ∧ σ 122 9 ≤ 4 := hd.1.2.2.2.1
    have w7 : σ 122 10 = 0 ∨ σ 122 10 = 1 := hd.1.2.2.2.2.2.1
    have hm := ln_m_le k hk5
    -- a line that may begin
    have good58 : ln_b (d_am σ) k = 0 → ∀ s0 : Int, s0 = (if k = 0 then 1 else σ 122 10) → LModel_readLine_58 xs (d + 5) Q (k : Int) s0 σ := fun hbl s0 hs => by
      have s01 : s0 = 0 ∨ s0 = 1 := by
        rw [hs]
        split
        · exact Or.inr rfl
        · exact w7
      refine bModel_readLine_58 ⟨s01, fun τ1 t1 => ?_⟩
      have z : ∀ j, j ≠ 10 → τ1 122 j = σ 122 j := fun j h => by rw [t1, w_up_j h]
      have zb : ∀ b, b ≠ 122 → τ1 b = σ b := fun b hb => by rw [t1, w_up_ne hb]
      have z20 : τ1 122 20 = 0 := by rw [z 20 (by decide)]; exact h20
      have z16 : τ1 122 16 = (b : Int) := by rw [z 16 (by decide)]; exact e16
      have z15 := z 15 (by decide)
      obtain ⟨g1, g2, g3⟩ := tpT τ1 ⟨zb 127 (by decide), z15⟩
      refine ⟨⟨by omega, fun _ => ⟨g3, by omega, by omega⟩⟩, fun τ2 q2 => ?_⟩
      have t := q2.2 z20
      rw [z16, Int.toNat_natCast, g1, g2] at t
      have F2 : mo_fr τ1 τ2 := t.1
      have H2 : mo_h σ τ2 := mo_h.tr (by rw [t1]; exact mo_h.rfl'.up2 (by decide) (by decide)) F2.h
      obtain ⟨f1, f2, f3⟩ := tpT τ2 H2.tp
      have R2 : rs T L (d_am σ) k b 0 τ2 := ⟨⟨f1, f2, f3⟩, fun _ => ⟨hb.2, t.cur⟩, fun h => absurd rfl h⟩
      have elf : ln_f T L (d_am σ) k f b = if ¬ (nf T L (d_am σ) k b (ln_m k)).1 = 0 then nf T L (d_am σ) k b (ln_m k) else (ln_s T L (pp T L b (ln_m k)), tk_f T L (pp T L b (ln_m k))) := by unfold ln_f; rw [if_neg (fun q => q hbl)]
      have z2 : ∀ j, j < 16 → j ≠ 10 → τ2 122 j = σ 122 j := fun j h1 h2 => (F2.2 j (by omega)).trans (z j h2)
      have z26 : τ2 126 = σ 126 := (F2.1 126 (by decide)).trans (zb 126 (by decide))
      have z210 : τ2 122 10 = if k = 0 then 1 else σ 122 10 := by rw [F2.2 10 (by omega), t1, w_up_at]; exact hs
      refine ⟨fun c2 => ⟨⟨⟨by omega, by omega⟩, fun h => ?_, fun h => ?_, d_am σ, b, by rw [f1, f2, Int.toNat_natCast]; exact R2⟩, fun τ3 q3 => ?_⟩, fun c2 => ?_⟩
      · have h1 : k = 1 := by omega
        rw [z2 8 (by decide) (by decide)]
        unfold ln_b at hbl
        rw [if_neg (by omega)] at hbl
        by_cases q : 7 ≤ d_am σ 0 4
        · rw [if_pos (Or.inl ⟨h1, q⟩)] at hbl; omega
        · omega
      · have h1 : k = 2 := by omega
        rw [z2 9 (by decide) (by decide)]
        unfold ln_b at hbl
        rw [if_neg (by omega)] at hbl
        by_cases q : 4 ≤ d_am σ 0 5
        · rw [if_pos (Or.inr ⟨h1, q⟩)] at hbl; omega
        · omega
      · unfold q_Model_readLineOf at q3
        rw [f1, f2, Int.toNat_natCast] at q3
        obtain ⟨F3, q3'⟩ := q3
        obtain ⟨R3, le⟩ := q3' (d_am σ) b R2 (by rw [z26]; rfl) (by rw [z2 11 (by decide) (by decide)]; rfl)
        have H3 : mo_h σ τ3 := H2.tr F3
        obtain ⟨⟨g31, g32, g33⟩, r1, r2⟩ := R3
        have stay : ¬ τ3 122 20 = 0 → 0 ≤ τ3 122 20 → Q none τ3 → LModel_readLine_81 xs (d + 5) Q τ3 := fun h h' hq => bModel_readLine_81 ⟨⟨h', fun q => absurd q h⟩, fun τ4 q4 => by rw [q4.1 h]; exact hq⟩
        by_cases hz : (nf T L (d_am σ) k b (ln_m k)).1 = 0
        · rw [if_neg (fun q => q hz)] at elf
          obtain ⟨ppL, cur3⟩ := r1 hz
          by_cases h4 : tk_k T L (pp T L b (ln_m k)) = 4
          · obtain ⟨c1, c2⟩ := cur3.2.2.1 h4
            have hs' : ln_s T L (pp T L b (ln_m k)) = 1 := by unfold ln_s; rw [if_pos h4]
            refine ⟨fun c3 => stay c3 (by omega) (done_f τ3 H3 (by rw [elf]; show ¬ ln_s T L (pp T L b (ln_m k)) = 0; omega) (by rw [elf]; show _ = ln_s T L (pp T L b (ln_m k)); omega) (by rw [elf]; exact c2)), fun c3 => by omega⟩
          · obtain ⟨c1, c2⟩ := cur3.2.2.2.1 h4
            refine ⟨fun c3 => absurd c1 c3, fun _ => ⟨fun c3 τ4 q4 => ?_, fun c3 τ5 q5 => ?_⟩⟩
            · obtain ⟨n1, n2, n3, n4⟩ := need_n q4 rfl c1
              have hs' : ln_s T L (pp T L b (ln_m k)) = 2 := by unfold ln_s; rw [if_neg h4, if_pos (by rw [← c2]; exact c3)]
              refine bModel_readLine_81 ⟨⟨by omega, fun q => by omega⟩, fun τ5 q5 => ?_⟩
              rw [q5.1 (by omega)]
              exact done_f τ4 (H3.tr n3.h) (by rw [elf]; show ¬ ln_s T L (pp T L b (ln_m k)) = 0; omega) (by rw [elf]; show _ = ln_s T L (pp T L b (ln_m k)); omega) (by rw [elf, n2]; exact cur3.1)
            · rw [need_y q5]
              have k3 : tk_k T L (pp T L b (ln_m k)) = 3 := by rw [← c2]; exact c3
              have hs' : ln_s T L (pp T L b (ln_m k)) = 0 := by unfold ln_s; rw [if_neg h4, if_neg (fun q => q k3)]
              have hlf : (ln_f T L (d_am σ) k f b).1 = 0 := by rw [elf]; exact hs'
              have x16 := cur3.2.1 (by omega)
              have hb3 := tk_b_le (T := T) (L := L) (p := pp T L b (ln_m k)) (tk_k0 (by omega))
              have x15 : τ3 122 15 = σ 122 15 := H3.2 15 (by omega)
              refine bModel_readLine_81 ⟨⟨by omega, fun _ => ⟨g33, by omega, by omega⟩⟩, fun τ6 q6 => ?_⟩
              have t6 := q6.2 c1
              rw [x16, Int.toNat_natCast, g31, g32] at t6
              have F6 : mo_fr τ3 τ6 := t6.1
              obtain ⟨o1, o2, o3⟩ := le_D hk5 hd hbl z26 z2 z210 (le hz c1) (nt_f_0 (nf_0 _ hz 0 (by omega))).2.1
              have eD : d_am τ6 = d_am τ3 := d_am_fr (F6.1 126 (by decide)) (fun j h1 h2 => F6.2 j (by omega))
              refine fin2 τ6 (H3.tr F6.h) ⟨fun h => absurd hlf h, fun _ => ⟨t6.cur, eD.trans o1, ?_, m_cn_fr o2 (F6.1 126 (by decide)) (F6.2 9 (by omega)), ?_⟩⟩
              · rw [eD, o1]
                exact ln_D_ok hd.1 hk5 hb.2 hlf
              · rw [eD, F6.2 12 (by omega), F6.2 13 (by omega)]
                exact o3
        · rw [if_pos hz] at elf
          obtain ⟨c1, c2⟩ := r2 hz
          have hnn := nf_nn (T := T) (L := L) (D := d_am σ) (k := k) (b := b) (ln_m k)
          exact ⟨fun c3 => stay c3 (by omega) (done_f τ3 H3 (by rw [elf]; exact hz) (by rw [elf]; exact c1) (by rw [elf]; exact c2)), fun c3 => absurd (c1.symm.trans c3) hz⟩
      · have h4 : tk_k T L b = 4 := by
          by_cases q : tk_k T L b = 4
          · exact q
          · have := (t.cur.2.2.2.1 q).1
            omega
        obtain ⟨c3, c4⟩ := t.cur.2.2.1 h4
        have ent : nt_f T L (d_am σ) k 0 b = 1 := by unfold nt_f; rw [if_pos h4]
        have en1 : nf T L (d_am σ) k b 1 = (1, tk_f T L b) := by
          show (nt_f T L (d_am σ) k 0 b, tk_f T L b) = _
          rw [ent]
        have enm : nf T L (d_am σ) k b (ln_m k) = (1, tk_f T L b) := by
          have := nf_stay (T := T) (L := L) (D := d_am σ) (k := k) (b := b) (j := 1) (by rw [en1]; exact (by decide : ¬ (1 : Int) = 0)) (ln_m k - 1)
          rw [show 1 + (ln_m k - 1) = ln_m k by omega, en1] at this
          exact this
        rw [enm, if_pos (show ¬ ((1, tk_f T L b) : Int × Nat).1 = 0 from (by decide : ¬ (1 : Int) = 0))] at elf
        exact done_f τ2 H2 (by rw [elf]; exact (by decide : ¬ (1 : Int) = 0)) (by rw [elf]; exact c3) (by rw [elf]; exact c4)
    -- a line that may not begin
    have elb : ¬ ln_b (d_am σ) k = 0 → ln_f T L (d_am σ) k f b = (ln_b (d_am σ) k, f) := fun h => by unfold ln_f; rw [if_pos h]
    have badq : ∀ (τ : w_M) (n : Int), ¬ n = 0 → ln_b (d_am σ) k = n → τ 122 20 = n → τ 122 21 = σ 122 17 → mo_fr σ τ → ∀ s, Q none (w_up τ 122 10 s) := fun τ n hn0 hb1 h1 h2 h3 s => by
      have hnz : ¬ ln_b (d_am σ) k = 0 := by rw [hb1]; exact hn0
      have e := elb hnz
      refine done_f _ (h3.h.up2 (by decide) (by decide)) (by rw [e]; exact hnz) (by rw [e, w_up_j (by decide), h1]; exact hb1.symm) (by rw [e, w_up_j (by decide), h2]; exact e17)
    have s47 : ∀ s0 : Int, ((k = 1 → σ 122 8 < 7) ∧ (k = 2 → σ 122 9 < 4)) → (s0 = 0 ∧ k = 0 ∧ ¬ σ 122 10 = 0) ∨ (s0 = 1 ∧ (k = 0 → σ 122 10 = 0)) → LModel_readLine_47 xs (d + 5) Q (k : Int) s0 σ := fun s0 h12 hs => by
      refine bModel_readLine_47 (fun τ1 q1 => ?_)
      rcases hs with ⟨rfl, hk0, h10⟩ | ⟨rfl, h0⟩
      · obtain ⟨n1, n2, n3, n4⟩ := need_n q1 rfl h20
        have hbl : ln_b (d_am σ) k = 4 := by unfold ln_b; rw [if_pos ⟨hk0, h10⟩]
        have hq := badq τ1 4 (by decide) hbl n1 n2 n3
        exact ⟨fun _ => bad58 _ _ τ1 (Or.inr rfl) (by omega) (hq _), fun _ => ⟨fun _ => bad58 _ _ τ1 (Or.inl rfl) (by omega) (hq _), fun _ => bad58 _ _ τ1 (Or.inr rfl) (by omega) (hq _)⟩⟩
      · rw [need_y q1]
        have hbl : ln_b (d_am σ) k = 0 := by
          unfold ln_b
          rw [if_neg (fun q => q.2 (h0 q.1)), if_neg]
          rintro (⟨q1, q2⟩ | ⟨q1, q2⟩)
          · have := h12.1 q1
            omega
          · have := h12.2 q1
            omega
        refine ⟨fun c3 => good58 hbl 1 ?_, fun c3 => ⟨fun c4 => good58 hbl 0 ?_, fun c4 => good58 hbl 1 ?_⟩⟩
        · split
          · rfl
          · omega
        · rw [if_neg (by omega)]; exact c3.symm
        · rw [if_pos (by omega)]
    have s36 : ∀ s0 : Int, (s0 = 0 ∧ ((k = 1 ∧ 7 ≤ σ 122 8) ∨ (k = 2 ∧ 4 ≤ σ 122 9))) ∨ (s0 = 1 ∧ ((k = 1 → σ 122 8 < 7) ∧ (k = 2 → σ 122 9 < 4))) → LModel_readLine_36 xs (d + 5) Q (k : Int) s0 σ := fun s0 hs => by
      refine bModel_readLine_36 (fun τ1 q1 => ?_)
      rcases hs with ⟨rfl, h1⟩ | ⟨rfl, h1⟩
      · obtain ⟨n1, n2, n3, n4⟩ := need_n q1 rfl h20
        have hbl : ln_b (d_am σ) k = 5 := by unfold ln_b; rw [if_neg (by omega), D4, D5, if_pos h1]
        have hq := badq τ1 5 (by decide) hbl n1 n2 n3
        exact ⟨fun _ => bad47 _ _ τ1 (by omega) hq, fun _ => ⟨fun _ => bad47 _ _ τ1 (by omega) hq, fun _ => bad47 _ _ τ1 (by omega) hq⟩⟩
      · rw [need_y q1]
        exact ⟨fun c3 => s47 1 h1 (Or.inr ⟨rfl, fun q => by omega⟩), fun c3 => ⟨fun c4 => s47 0 h1 (Or.inl ⟨rfl, by omega, c4⟩), fun c4 => s47 1 h1 (Or.inr ⟨rfl, fun _ => c4⟩)⟩⟩
    refine bModel_readLine_8 ⟨fun h => by omega, fun _ => bModel_readLine_16 (fun τ1 q1 => ?_)⟩
    rw [need_y q1]
    refine ⟨fun c1 => ⟨fun c2 => s36 1 (Or.inr ⟨rfl, fun q => by omega, fun q => by omega⟩), fun c2 => ⟨fun c3 => s36 0 (Or.inl ⟨rfl, Or.inr ⟨by omega, c3⟩⟩), fun c3 => s36 1 (Or.inr ⟨rfl, fun q => by omega, fun _ => c3⟩)⟩⟩, fun c1 => ⟨fun c2 => s36 0 (Or.inl ⟨rfl, Or.inl ⟨by omega, c2⟩⟩), fun c2 => ⟨fun c3 => s36 1 (Or.inr ⟨rfl, fun _ => c2, fun q => by omega⟩), fun c3 => by omega⟩⟩⟩
