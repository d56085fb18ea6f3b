/-! Reading sheets: the reference -/
theorem m_rdok {σ : w_M} {k lane f j : Int} (hM : MI σ) (hk : 0 ≤ k ∧ k ≤ 3) : rd_ok (mS σ) k lane f j ↔ ¬ σ 130 k.toNat = -4 ∧ σ 130 k.toNat = lane ∧ (0 ≤ f + 2 * j ∧ f + 2 * j + 1 < σ 131 k.toNat) := by
  have h4 : k.toNat < 4 := by omega
  have e4 : mS σ 4 = h_am σ := rfl
  unfold rd_ok
  rw [e4]
  by_cases h : σ 130 k.toNat = -4
  · rw [h_am_no h4 h]
    constructor
    · intro q; omega
    · intro q; exact absurd h q.1
  · obtain ⟨e0, e1, _⟩ := h_am_yes hM h4 h
    rw [e0, e1]
    exact ⟨fun q => ⟨h, q⟩, fun q => q.2⟩
noncomputable def p_Model_read (_ _ f _ : Int) (σ : w_M) : Prop := MI σ ∧ w_in f
noncomputable def q_Model_read (k lane f n : Int) (σ : w_M) (x : Int) (σ' : w_M) : Prop := R_read (mS σ) k lane f n x (mS σ') ∧ MI σ' ∧ (∀ b, b < 122 → σ' b = σ b) ∧ (x < 0 → σ' 122 27 = σ 122 27) ∧ (0 ≤ x → σ' 122 27 = torn_m (mS σ) k lane n x)
theorem fModel_read_0 : w_fe am_c236 0 1 (.iload 1) := ⟨rfl, rfl⟩
theorem fModel_read_1 : w_fe am_c236 1 2 (.iload 2) := ⟨rfl, rfl⟩
theorem fModel_read_2 : w_fe am_c236 2 3 (.invokestatic 234) := ⟨rfl, rfl⟩
theorem fModel_read_3 : w_if am_c236 3 4 .eq 10 := ⟨rfl, rfl⟩
theorem fModel_read_4 : w_fe am_c236 4 5 (.iload 4) := ⟨rfl, rfl⟩
theorem fModel_read_5 : w_fe am_c236 5 6 (.i2l) := ⟨rfl, rfl⟩
theorem fModel_read_6 : w_fe am_c236 6 7 (.sipush 0) := ⟨rfl, rfl⟩
theorem fModel_read_7 : w_fe am_c236 7 8 (.sipush 20) := ⟨rfl, rfl⟩
theorem fModel_read_8 : w_fe am_c236 8 9 (.invokestatic 157) := ⟨rfl, rfl⟩
theorem fModel_read_9 : w_if am_c236 9 10 .ne 12 := ⟨rfl, rfl⟩
theorem fModel_read_10 : w_fe am_c236 10 11 (.bipush (-1)) := ⟨rfl, rfl⟩
theorem fModel_read_11 : w_fe am_c236 11 12 (.ireturn) := ⟨rfl, rfl⟩
theorem fModel_read_12 : w_fe am_c236 12 13 (.bipush 0) := ⟨rfl, rfl⟩
theorem fModel_read_13 : w_fe am_c236 13 14 (.istore 5) := ⟨rfl, rfl⟩
theorem fModel_read_14 : w_fe am_c236 14 15 (.iload 5) := ⟨rfl, rfl⟩
theorem fModel_read_15 : w_fe am_c236 15 16 (.bipush 4) := ⟨rfl, rfl⟩
theorem fModel_read_16 : w_ic am_c236 16 17 .ge 33 := ⟨rfl, rfl⟩
theorem fModel_read_17 : w_fe am_c236 17 18 (.aload 0) := ⟨rfl, rfl⟩
theorem fModel_read_18 : w_fe am_c236 18 19 (.getfield 928) := ⟨rfl, rfl⟩
theorem fModel_read_19 : w_fe am_c236 19 20 (.iload 5) := ⟨rfl, rfl⟩
theorem fModel_read_20 : w_fe am_c236 20 21 (.aload 0) := ⟨rfl, rfl⟩
theorem fModel_read_21 : w_fe am_c236 21 22 (.getfield 900) := ⟨rfl, rfl⟩
theorem fModel_read_22 : w_fe am_c236 22 23 (.bipush 21) := ⟨rfl, rfl⟩
theorem fModel_read_23 : w_fe am_c236 23 24 (.bipush 5) := ⟨rfl, rfl⟩
theorem fModel_read_24 : w_fe am_c236 24 25 (.iload 5) := ⟨rfl, rfl⟩
theorem fModel_read_25 : w_fe am_c236 25 26 (.imul) := ⟨rfl, rfl⟩
theorem fModel_read_26 : w_fe am_c236 26 27 (.iadd) := ⟨rfl, rfl⟩
theorem fModel_read_27 : w_fe am_c236 27 28 (.bipush 3) := ⟨rfl, rfl⟩
theorem fModel_read_28 : w_fe am_c236 28 29 (.iadd) := ⟨rfl, rfl⟩
theorem fModel_read_29 : w_fe am_c236 29 30 (.iaload) := ⟨rfl, rfl⟩
theorem fModel_read_30 : w_fe am_c236 30 31 (.iastore) := ⟨rfl, rfl⟩
theorem fModel_read_31 : w_fe am_c236 31 32 (.iinc 5 1) := ⟨rfl, rfl⟩
theorem fModel_read_32 : w_gt am_c236 32 14 := rfl
theorem fModel_read_33 : w_fe am_c236 33 34 (.bipush 0) := ⟨rfl, rfl⟩
theorem fModel_read_34 : w_fe am_c236 34 35 (.istore 5) := ⟨rfl, rfl⟩
theorem fModel_read_35 : w_fe am_c236 35 36 (.bipush 0) := ⟨rfl, rfl⟩
theorem fModel_read_36 : w_fe am_c236 36 37 (.istore 6) := ⟨rfl, rfl⟩
theorem fModel_read_37 : w_fe am_c236 37 38 (.bipush 0) := ⟨rfl, rfl⟩
theorem fModel_read_38 : w_fe am_c236 38 39 (.istore 7) := ⟨rfl, rfl⟩
theorem fModel_read_39 : w_fe am_c236 39 40 (.iload 7) := ⟨rfl, rfl⟩
theorem fModel_read_40 : w_fe am_c236 40 41 (.iload 4) := ⟨rfl, rfl⟩
theorem fModel_read_41 : w_ic am_c236 41 42 .ge 149 := ⟨rfl, rfl⟩
theorem fModel_read_42 : w_fe am_c236 42 43 (.iload 5) := ⟨rfl, rfl⟩
theorem fModel_read_43 : w_if am_c236 43 44 .ne 149 := ⟨rfl, rfl⟩
theorem fModel_read_44 : w_fe am_c236 44 45 (.bipush 0) := ⟨rfl, rfl⟩
theorem fModel_read_45 : w_fe am_c236 45 46 (.istore 8) := ⟨rfl, rfl⟩
theorem fModel_read_46 : w_fe am_c236 46 47 (.iload 8) := ⟨rfl, rfl⟩
theorem fModel_read_47 : w_fe am_c236 47 48 (.bipush 2) := ⟨rfl, rfl⟩
theorem fModel_read_48 : w_ic am_c236 48 49 .ge 96 := ⟨rfl, rfl⟩
theorem fModel_read_49 : w_fe am_c236 49 50 (.iload 5) := ⟨rfl, rfl⟩
theorem fModel_read_50 : w_if am_c236 50 51 .ne 96 := ⟨rfl, rfl⟩
theorem fModel_read_51 : w_fe am_c236 51 52 (.iload 3) := ⟨rfl, rfl⟩
theorem fModel_read_52 : w_fe am_c236 52 53 (.i2l) := ⟨rfl, rfl⟩
theorem fModel_read_53 : w_fe am_c236 53 54 (.bipush 2) := ⟨rfl, rfl⟩
theorem fModel_read_54 : w_fe am_c236 54 55 (.iload 7) := ⟨rfl, rfl⟩
theorem fModel_read_55 : w_fe am_c236 55 56 (.imul) := ⟨rfl, rfl⟩
theorem fModel_read_56 : w_fe am_c236 56 57 (.i2l) := ⟨rfl, rfl⟩
theorem fModel_read_57 : w_fe am_c236 57 58 (.ladd) := ⟨rfl, rfl⟩
theorem fModel_read_58 : w_fe am_c236 58 59 (.iload 8) := ⟨rfl, rfl⟩
theorem fModel_read_59 : w_fe am_c236 59 60 (.i2l) := ⟨rfl, rfl⟩
theorem fModel_read_60 : w_fe am_c236 60 61 (.ladd) := ⟨rfl, rfl⟩
theorem fModel_read_61 : w_fe am_c236 61 62 (.lstore 9) := ⟨rfl, rfl⟩
theorem fModel_read_62 : w_fe am_c236 62 63 (.aload 0) := ⟨rfl, rfl⟩
theorem fModel_read_63 : w_fe am_c236 63 64 (.getfield 924) := ⟨rfl, rfl⟩
theorem fModel_read_64 : w_fe am_c236 64 65 (.iload 1) := ⟨rfl, rfl⟩
theorem fModel_read_65 : w_fe am_c236 65 66 (.iaload) := ⟨rfl, rfl⟩
theorem fModel_read_66 : w_fe am_c236 66 67 (.bipush (-4)) := ⟨rfl, rfl⟩
theorem fModel_read_67 : w_ic am_c236 67 68 .ne 70 := ⟨rfl, rfl⟩
theorem fModel_read_68 : w_fe am_c236 68 69 (.bipush 1) := ⟨rfl, rfl⟩
theorem fModel_read_69 : w_gt am_c236 69 93 := rfl
theorem fModel_read_70 : w_fe am_c236 70 71 (.aload 0) := ⟨rfl, rfl⟩
theorem fModel_read_71 : w_fe am_c236 71 72 (.getfield 924) := ⟨rfl, rfl⟩
theorem fModel_read_72 : w_fe am_c236 72 73 (.iload 1) := ⟨rfl, rfl⟩
theorem fModel_read_73 : w_fe am_c236 73 74 (.iaload) := ⟨rfl, rfl⟩
theorem fModel_read_74 : w_fe am_c236 74 75 (.iload 2) := ⟨rfl, rfl⟩
theorem fModel_read_75 : w_ic am_c236 75 76 .eq 78 := ⟨rfl, rfl⟩
theorem fModel_read_76 : w_fe am_c236 76 77 (.bipush 3) := ⟨rfl, rfl⟩
theorem fModel_read_77 : w_gt am_c236 77 93 := rfl
theorem fModel_read_78 : w_fe am_c236 78 79 (.lload 9) := ⟨rfl, rfl⟩
theorem fModel_read_79 : w_fe am_c236 79 80 (.sipush 0) := ⟨rfl, rfl⟩
theorem fModel_read_80 : w_fe am_c236 80 81 (.lcmp) := ⟨rfl, rfl⟩
theorem fModel_read_81 : w_if am_c236 81 82 .lt 90 := ⟨rfl, rfl⟩
theorem fModel_read_82 : w_fe am_c236 82 83 (.lload 9) := ⟨rfl, rfl⟩
theorem fModel_read_83 : w_fe am_c236 83 84 (.aload 0) := ⟨rfl, rfl⟩
theorem fModel_read_84 : w_fe am_c236 84 85 (.getfield 925) := ⟨rfl, rfl⟩
theorem fModel_read_85 : w_fe am_c236 85 86 (.iload 1) := ⟨rfl, rfl⟩
theorem fModel_read_86 : w_fe am_c236 86 87 (.iaload) := ⟨rfl, rfl⟩
theorem fModel_read_87 : w_fe am_c236 87 88 (.i2l) := ⟨rfl, rfl⟩
theorem fModel_read_88 : w_fe am_c236 88 89 (.lcmp) := ⟨rfl, rfl⟩
theorem fModel_read_89 : w_if am_c236 89 90 .lt 92 := ⟨rfl, rfl⟩
theorem fModel_read_90 : w_fe am_c236 90 91 (.bipush 2) := ⟨rfl, rfl⟩
theorem fModel_read_91 : w_gt am_c236 91 93 := rfl
theorem fModel_read_92 : w_fe am_c236 92 93 (.bipush 0) := ⟨rfl, rfl⟩
theorem fModel_read_93 : w_fe am_c236 93 94 (.istore 5) := ⟨rfl, rfl⟩
theorem fModel_read_94 : w_fe am_c236 94 95 (.iinc 8 1) := ⟨rfl, rfl⟩
theorem fModel_read_95 : w_gt am_c236 95 46 := rfl
theorem fModel_read_96 : w_fe am_c236 96 97 (.iload 5) := ⟨rfl, rfl⟩
theorem fModel_read_97 : w_if am_c236 97 98 .ne 147 := ⟨rfl, rfl⟩
theorem fModel_read_98 : w_fe am_c236 98 99 (.bipush 40) := ⟨rfl, rfl⟩
theorem fModel_read_99 : w_fe am_c236 99 100 (.iload 1) := ⟨rfl, rfl⟩
theorem fModel_read_100 : w_fe am_c236 100 101 (.imul) := ⟨rfl, rfl⟩
theorem fModel_read_101 : w_fe am_c236 101 102 (.iload 3) := ⟨rfl, rfl⟩
theorem fModel_read_102 : w_fe am_c236 102 103 (.iadd) := ⟨rfl, rfl⟩
theorem fModel_read_103 : w_fe am_c236 103 104 (.bipush 2) := ⟨rfl, rfl⟩
theorem fModel_read_104 : w_fe am_c236 104 105 (.iload 7) := ⟨rfl, rfl⟩
theorem fModel_read_105 : w_fe am_c236 105 106 (.imul) := ⟨rfl, rfl⟩
theorem fModel_read_106 : w_fe am_c236 106 107 (.iadd) := ⟨rfl, rfl⟩
theorem fModel_read_107 : w_fe am_c236 107 108 (.istore 8) := ⟨rfl, rfl⟩
theorem fModel_read_108 : w_fe am_c236 108 109 (.aload 0) := ⟨rfl, rfl⟩
theorem fModel_read_109 : w_fe am_c236 109 110 (.aload 0) := ⟨rfl, rfl⟩
theorem fModel_read_110 : w_fe am_c236 110 111 (.getfield 926) := ⟨rfl, rfl⟩
theorem fModel_read_111 : w_fe am_c236 111 112 (.iload 8) := ⟨rfl, rfl⟩
theorem fModel_read_112 : w_fe am_c236 112 113 (.iaload) := ⟨rfl, rfl⟩
theorem fModel_read_113 : w_fe am_c236 113 114 (.aload 0) := ⟨rfl, rfl⟩
theorem fModel_read_114 : w_fe am_c236 114 115 (.getfield 926) := ⟨rfl, rfl⟩
theorem fModel_read_115 : w_fe am_c236 115 116 (.iload 8) := ⟨rfl, rfl⟩
theorem fModel_read_116 : w_fe am_c236 116 117 (.bipush 1) := ⟨rfl, rfl⟩
theorem fModel_read_117 : w_fe am_c236 117 118 (.iadd) := ⟨rfl, rfl⟩
theorem fModel_read_118 : w_fe am_c236 118 119 (.iaload) := ⟨rfl, rfl⟩
theorem fModel_read_119 : w_fe am_c236 119 120 (.invokestatic 184) := ⟨rfl, rfl⟩
theorem fModel_read_120 : w_if am_c236 120 121 .ge 146 := ⟨rfl, rfl⟩
theorem fModel_read_121 : w_fe am_c236 121 122 (.bipush 0) := ⟨rfl, rfl⟩
theorem fModel_read_122 : w_fe am_c236 122 123 (.istore 9) := ⟨rfl, rfl⟩
theorem fModel_read_123 : w_fe am_c236 123 124 (.iload 9) := ⟨rfl, rfl⟩
theorem fModel_read_124 : w_fe am_c236 124 125 (.bipush 4) := ⟨rfl, rfl⟩
theorem fModel_read_125 : w_ic am_c236 125 126 .ge 142 := ⟨rfl, rfl⟩
theorem fModel_read_126 : w_fe am_c236 126 127 (.aload 0) := ⟨rfl, rfl⟩
theorem fModel_read_127 : w_fe am_c236 127 128 (.getfield 900) := ⟨rfl, rfl⟩
theorem fModel_read_128 : w_fe am_c236 128 129 (.bipush 21) := ⟨rfl, rfl⟩
theorem fModel_read_129 : w_fe am_c236 129 130 (.bipush 5) := ⟨rfl, rfl⟩
theorem fModel_read_130 : w_fe am_c236 130 131 (.iload 9) := ⟨rfl, rfl⟩
theorem fModel_read_131 : w_fe am_c236 131 132 (.imul) := ⟨rfl, rfl⟩
theorem fModel_read_132 : w_fe am_c236 132 133 (.iadd) := ⟨rfl, rfl⟩
theorem fModel_read_133 : w_fe am_c236 133 134 (.bipush 3) := ⟨rfl, rfl⟩
theorem fModel_read_134 : w_fe am_c236 134 135 (.iadd) := ⟨rfl, rfl⟩
theorem fModel_read_135 : w_fe am_c236 135 136 (.aload 0) := ⟨rfl, rfl⟩
theorem fModel_read_136 : w_fe am_c236 136 137 (.getfield 928) := ⟨rfl, rfl⟩
theorem fModel_read_137 : w_fe am_c236 137 138 (.iload 9) := ⟨rfl, rfl⟩
theorem fModel_read_138 : w_fe am_c236 138 139 (.iaload) := ⟨rfl, rfl⟩
theorem fModel_read_139 : w_fe am_c236 139 140 (.iastore) := ⟨rfl, rfl⟩
theorem fModel_read_140 : w_fe am_c236 140 141 (.iinc 9 1) := ⟨rfl, rfl⟩
theorem fModel_read_141 : w_gt am_c236 141 123 := rfl
theorem fModel_read_142 : w_fe am_c236 142 143 (.bipush (-20)) := ⟨rfl, rfl⟩
theorem fModel_read_143 : w_fe am_c236 143 144 (.iload 7) := ⟨rfl, rfl⟩
theorem fModel_read_144 : w_fe am_c236 144 145 (.isub) := ⟨rfl, rfl⟩
theorem fModel_read_145 : w_fe am_c236 145 146 (.ireturn) := ⟨rfl, rfl⟩
theorem fModel_read_146 : w_fe am_c236 146 147 (.iinc 6 1) := ⟨rfl, rfl⟩
theorem fModel_read_147 : w_fe am_c236 147 148 (.iinc 7 1) := ⟨rfl, rfl⟩
theorem fModel_read_148 : w_gt am_c236 148 39 := rfl
theorem fModel_read_149 : w_fe am_c236 149 150 (.aload 0) := ⟨rfl, rfl⟩
theorem fModel_read_150 : w_fe am_c236 150 151 (.iload 5) := ⟨rfl, rfl⟩
theorem fModel_read_151 : w_fe am_c236 151 152 (.putfield 927) := ⟨rfl, rfl⟩
theorem fModel_read_152 : w_fe am_c236 152 153 (.iload 6) := ⟨rfl, rfl⟩
theorem fModel_read_153 : w_fe am_c236 153 154 (.ireturn) := ⟨rfl, rfl⟩
noncomputable def LModel_read_14 (xs : List Int) (d : Nat) (Q : Option w_V → w_M → Prop) (v1 : Int) (v2 : Int) (v3 : Int) (v4 : Int) (v5 : Int) (σ : w_M) : Prop := ∀ l6, w_nl l6 → ∀ l7, w_nl l7 → ∀ l8, w_nl l8 → ∀ l9, w_nl l9 → ∀ l10, w_nl l10 → w_Ex (xs, d) 1 am_c236 Q 14 [some (.inr (.inr (9, 122))), some (.inl v1), some (.inl v2), some (.inl v3), some (.inl v4), some (.inl v5), l6, l7, l8, l9, l10] [] σ
noncomputable def LModel_read_39 (xs : List Int) (d : Nat) (Q : Option w_V → w_M → Prop) (v1 : Int) (v2 : Int) (v3 : Int) (v4 : Int) (v5 : Int) (v6 : Int) (v7 : Int) (σ : w_M) : Prop := ∀ l8, w_nl l8 → ∀ L9 : Option w_V, ∀ l10, w_nl l10 → w_Ex (xs, d) 1 am_c236 Q 39 [some (.inr (.inr (9, 122))), some (.inl v1), some (.inl v2), some (.inl v3), some (.inl v4), some (.inl v5), some (.inl v6), some (.inl v7), l8, L9, l10] [] σ
noncomputable def LModel_read_46 (xs : List Int) (d : Nat) (Q : Option w_V → w_M → Prop) (v1 : Int) (v2 : Int) (v3 : Int) (v4 : Int) (v5 : Int) (v6 : Int) (v7 : Int) (v8 : Int) (σ : w_M) : Prop := ∀ L9 : Option w_V, ∀ l10, w_nl l10 → w_Ex (xs, d) 1 am_c236 Q 46 [some (.inr (.inr (9, 122))), some (.inl v1), some (.inl v2), some (.inl v3), some (.inl v4), some (.inl v5), some (.inl v6), some (.inl v7), some (.inl v8), L9, l10] [] σ
noncomputable def LModel_read_123 (xs : List Int) (d : Nat) (Q : Option w_V → w_M → Prop) (v7 : Int) (v9 : Int) (σ : w_M) : Prop := ∀ l1, w_nl l1 → ∀ l2, w_nl l2 → ∀ l3, w_nl l3 → ∀ l4, w_nl l4 → ∀ l5, w_nl l5 → ∀ l6, w_nl l6 → ∀ l8, w_nl l8 → ∀ l10, w_nl l10 → w_Ex (xs, d) 1 am_c236 Q 123 [some (.inr (.inr (9, 122))), l1, l2, l3, l4, l5, l6, some (.inl v7), l8, some (.inl v9), l10] [] σ
set_option maxRecDepth 20000 in
theorem bModel_read_0 {xs : List Int} {d : Nat} {Q : Option w_V → w_M → Prop} {x1 : Int} {x2 : Int} {x3 : Int} {x4 : Int} {σ : w_M}
    (h : (¬ ((0 ≤ x1 ∧ x1 ≤ 3) ∧ ((0 : Int) ≤ x2 ∧ x2 ≤ (2 : Int))) → Q (some (.inl (-1))) σ) ∧ (((0 ≤ x1 ∧ x1 ≤ 3) ∧ ((0 : Int) ≤ x2 ∧ x2 ≤ (2 : Int))) → (((0 ≤ x4 ∧ x4 ≤ 20) → LModel_read_14 xs (d + 3) Q x1 x2 x3 x4 0 σ) ∧ (¬ (0 ≤ x4 ∧ x4 ≤ 20) → Q (some (.inl (-1))) σ)))) : w_Call (xs, (d + 3)) 236 [.inr (.inr (9, 122)), .inl x1, .inl x2, .inl x3, .inl x4] σ Q :=
  (w_mk (mid := 236) (by decide) rfl rfl rfl rfl rfl (Nat.le_of_ble_eq_true rfl) ⟨rfl, Or.inl (by decide)⟩ (wi_iload1 fModel_read_0 (wi_iload2 fModel_read_1 (wi_call2 fModel_read_2 (Nat.le_of_ble_eq_true rfl) (k_Model_isSheet (wi_ifb_eq fModel_read_3 (fun c2 => (wi_bipush fModel_read_10 (wi_ret1 fModel_read_11 (h.1 c2)))) (fun c2 => (wi_iload4 fModel_read_4 (wi_i2l fModel_read_5 (wi_sipush fModel_read_6 (wi_sipush fModel_read_7 (wi_call3 fModel_read_8 (Nat.le_of_ble_eq_true rfl) (k_Model_in (wi_ifb_ne fModel_read_9 (fun c1 => (wi_bipush fModel_read_12 (wi_istore5 fModel_read_13 trivial (((h.2 c2).1 c1) _ (by exact trivial) _ (by exact trivial) _ (by exact trivial) _ (by exact trivial) _ (by exact trivial))))) (fun c1 => (wi_bipush fModel_read_10 (wi_ret1 fModel_read_11 ((h.2 c2).2 c1))))))))))))))))))
set_option maxRecDepth 20000 in
theorem bModel_read_14 {xs : List Int} {d : Nat} {Q : Option w_V → w_M → Prop} {v1 : Int} {v2 : Int} {v3 : Int} {v4 : Int} {v5 : Int} {σ : w_M}
    (h : (4 ≤ v5 → LModel_read_39 xs (d + 3) Q v1 v2 v3 v4 0 0 0 σ) ∧ (v5 < 4 → (w_in (5 * v5) ∧ w_in (21 + (5 * v5)) ∧ w_in ((21 + (5 * v5)) + 3) ∧ 0 ≤ ((21 + (5 * v5)) + 3) ∧ ((21 + (5 * v5)) + 3) < 246 ∧ 0 ≤ v5 ∧ (∀ (τ1 : w_M), τ1 = w_up σ 133 v5.toNat (σ 123 ((21 + (5 * v5)) + 3).toNat) → (w_in (v5 + 1) ∧ LModel_read_14 xs (d + 3) Q v1 v2 v3 v4 (v5 + 1) τ1))))) : LModel_read_14 xs (d + 3) Q v1 v2 v3 v4 v5 σ :=
  fun l6 nl6 => fun l7 nl7 => fun l8 nl8 => fun l9 nl9 => fun l10 nl10 => (wi_iload5 fModel_read_14 (wi_bipush fModel_read_15 (wi_ic_ge fModel_read_16 (fun c2 => (wi_bipush fModel_read_33 (wi_istore5 fModel_read_34 trivial (wi_bipush fModel_read_35 (wi_istore6 fModel_read_36 trivial (wi_bipush fModel_read_37 (wi_istore7 fModel_read_38 trivial ((h.1 c2) _ nl8 _ _ nl10)))))))) (fun c2 => (wi_aload0 fModel_read_17 (wi_getf928 fModel_read_18 (wi_iload5 fModel_read_19 (wi_aload0 fModel_read_20 (wi_getf900 fModel_read_21 (wi_bipush fModel_read_22 (wi_bipush fModel_read_23 (wi_iload5 fModel_read_24 (wi_imul fModel_read_25 (h.2 c2).1 (wi_iadd fModel_read_26 (h.2 c2).2.1 (wi_bipush fModel_read_27 (wi_iadd fModel_read_28 (h.2 c2).2.2.1 (wi_iald1246 fModel_read_29 (h.2 c2).2.2.2.1 (h.2 c2).2.2.2.2.1 (wi_iast1004 fModel_read_30 (h.2 c2).2.2.2.2.2.1 c2 (wi_iinc5 fModel_read_31 trivial ((h.2 c2).2.2.2.2.2.2 _ rfl).1 (wi_goto fModel_read_32 (((h.2 c2).2.2.2.2.2.2 _ rfl).2 _ nl6 _ nl7 _ nl8 _ nl9 _ nl10)))))))))))))))))))))
set_option maxRecDepth 20000 in
theorem bModel_read_39 {xs : List Int} {d : Nat} {Q : Option w_V → w_M → Prop} {v1 : Int} {v2 : Int} {v3 : Int} {v4 : Int} {v5 : Int} {v6 : Int} {v7 : Int} {σ : w_M}
    (h : (v4 ≤ v7 → ∀ (τ1 : w_M), τ1 = w_up σ 122 27 v5 → Q (some (.inl v6)) τ1) ∧ (v7 < v4 → ((¬ v5 = 0 → ∀ (τ2 : w_M), τ2 = w_up σ 122 27 v5 → Q (some (.inl v6)) τ2) ∧ (v5 = 0 → LModel_read_46 xs (d + 3) Q v1 v2 v3 v4 v5 v6 v7 0 σ)))) : LModel_read_39 xs (d + 3) Q v1 v2 v3 v4 v5 v6 v7 σ :=
  fun l8 nl8 => fun L9 => fun l10 nl10 => (wi_iload7 fModel_read_39 (wi_iload4 fModel_read_40 (wi_ic_ge fModel_read_41 (fun c4 => (wi_aload0 fModel_read_149 (wi_iload5 fModel_read_150 (wi_putf927 fModel_read_151 (wi_iload6 fModel_read_152 (wi_ret1 fModel_read_153 ((h.1 c4) _ rfl))))))) (fun c4 => (wi_iload5 fModel_read_42 (wi_if_ne fModel_read_43 (fun c3 => (wi_aload0 fModel_read_149 (wi_iload5 fModel_read_150 (wi_putf927 fModel_read_151 (wi_iload6 fModel_read_152 (wi_ret1 fModel_read_153 (((h.2 c4).1 c3) _ rfl))))))) (fun c3 => (wi_bipush fModel_read_44 (wi_istore8 fModel_read_45 trivial (((h.2 c4).2 c3) _ _ nl10))))))))))
set_option maxRecDepth 20000 in
theorem bModel_read_46 {xs : List Int} {d : Nat} {Q : Option w_V → w_M → Prop} {v1 : Int} {v2 : Int} {v3 : Int} {v4 : Int} {v5 : Int} {v6 : Int} {v7 : Int} {v8 : Int} {σ : w_M}
    (h : (2 ≤ v8 → ((¬ v5 = 0 → (w_in (v7 + 1) ∧ LModel_read_39 xs (d + 3) Q v1 v2 v3 v4 v5 v6 (v7 + 1) σ)) ∧ (v5 = 0 → (w_in (40 * v1) ∧ w_in ((40 * v1) + v3) ∧ w_in (2 * v7) ∧ w_in (((40 * v1) + v3) + (2 * v7)) ∧ (∀ (y1 : Int), y1 = (((40 * v1) + v3) + (2 * v7)) → (0 ≤ y1 ∧ y1 < 160 ∧ w_in (y1 + 1) ∧ 0 ≤ (y1 + 1) ∧ (y1 + 1) < 160 ∧ p_Model_send (σ 132 y1.toNat) (σ 132 (y1 + 1).toNat) σ ∧ (∀ (y2 : Int) (τ3 : w_M), q_Model_send (σ 132 y1.toNat) (σ 132 (y1 + 1).toNat) σ y2 τ3 → ((0 ≤ y2 → (w_in (v6 + 1) ∧ w_in (v7 + 1) ∧ LModel_read_39 xs (d + 3) Q v1 v2 v3 v4 v5 (v6 + 1) (v7 + 1) τ3)) ∧ (y2 < 0 → LModel_read_123 xs (d + 3) Q v7 0 τ3))))))))) ∧ (v8 < 2 → ((¬ v5 = 0 → (w_in (v7 + 1) ∧ LModel_read_39 xs (d + 3) Q v1 v2 v3 v4 v5 v6 (v7 + 1) σ)) ∧ (v5 = 0 → (w_in (2 * v7) ∧ w_inl (v3 + (2 * v7)) ∧ w_inl ((v3 + (2 * v7)) + v8) ∧ (∀ (y6 : Int), y6 = ((v3 + (2 * v7)) + v8) → (0 ≤ v1 ∧ v1 < 4 ∧ ((¬ (σ 130 v1.toNat) = (-4) → (((σ 130 v1.toNat) = v2 → ((y6 < 0 → (w_in (v8 + 1) ∧ LModel_read_46 xs (d + 3) Q v1 v2 v3 v4 2 v6 v7 (v8 + 1) σ)) ∧ (0 ≤ y6 → ((y6 < (σ 131 v1.toNat) → (w_in (v8 + 1) ∧ LModel_read_46 xs (d + 3) Q v1 v2 v3 v4 0 v6 v7 (v8 + 1) σ)) ∧ ((σ 131 v1.toNat) ≤ y6 → (w_in (v8 + 1) ∧ LModel_read_46 xs (d + 3) Q v1 v2 v3 v4 2 v6 v7 (v8 + 1) σ)))))) ∧ (¬ (σ 130 v1.toNat) = v2 → (w_in (v8 + 1) ∧ LModel_read_46 xs (d + 3) Q v1 v2 v3 v4 3 v6 v7 (v8 + 1) σ)))) ∧ ((σ 130 v1.toNat) = (-4) → (w_in (v8 + 1) ∧ LModel_read_46 xs (d + 3) Q v1 v2 v3 v4 1 v6 v7 (v8 + 1) σ)))))))))) : LModel_read_46 xs (d + 3) Q v1 v2 v3 v4 v5 v6 v7 v8 σ :=
  fun L9 => fun l10 nl10 => (wi_iload8 fModel_read_46 (wi_bipush fModel_read_47 (wi_ic_ge fModel_read_48 (fun c12 => (wi_iload5 fModel_read_96 (wi_if_ne fModel_read_97 (fun c5 => (wi_iinc7 fModel_read_147 trivial ((h.1 c12).1 c5).1 (wi_goto fModel_read_148 (((h.1 c12).1 c5).2 _ (by exact trivial) _ _ nl10)))) (fun c5 => (wi_bipush fModel_read_98 (wi_iload1 fModel_read_99 (wi_imul fModel_read_100 ((h.1 c12).2 c5).1 (wi_iload3 fModel_read_101 (wi_iadd fModel_read_102 ((h.1 c12).2 c5).2.1 (wi_bipush fModel_read_103 (wi_iload7 fModel_read_104 (wi_imul fModel_read_105 ((h.1 c12).2 c5).2.2.1 (wi_iadd fModel_read_106 ((h.1 c12).2 c5).2.2.2.1 (wi_istore8 fModel_read_107 trivial (wi_aload0 fModel_read_108 (wi_aload0 fModel_read_109 (wi_getf926 fModel_read_110 (wi_iload8 fModel_read_111 (wi_iald1160 fModel_read_112 (((h.1 c12).2 c5).2.2.2.2 _ rfl).1 (((h.1 c12).2 c5).2.2.2.2 _ rfl).2.1 (wi_aload0 fModel_read_113 (wi_getf926 fModel_read_114 (wi_iload8 fModel_read_115 (wi_bipush fModel_read_116 (wi_iadd fModel_read_117 (((h.1 c12).2 c5).2.2.2.2 _ rfl).2.2.1 (wi_iald1160 fModel_read_118 (((h.1 c12).2 c5).2.2.2.2 _ rfl).2.2.2.1 (((h.1 c12).2 c5).2.2.2.2 _ rfl).2.2.2.2.1 (wi_call3 fModel_read_119 (Nat.le_of_ble_eq_true rfl) (k_Model_send (((h.1 c12).2 c5).2.2.2.2 _ rfl).2.2.2.2.2.1 (fun y2 τ3 eτ3 => (wi_if_ge fModel_read_120 (fun c4 => (wi_iinc6 fModel_read_146 trivial (((((h.1 c12).2 c5).2.2.2.2 _ rfl).2.2.2.2.2.2 y2 τ3 eτ3).1 c4).1 (wi_iinc7 fModel_read_147 trivial (((((h.1 c12).2 c5).2.2.2.2 _ rfl).2.2.2.2.2.2 y2 τ3 eτ3).1 c4).2.1 (wi_goto fModel_read_148 ((((((h.1 c12).2 c5).2.2.2.2 _ rfl).2.2.2.2.2.2 y2 τ3 eτ3).1 c4).2.2 _ (by exact trivial) _ _ nl10))))) (fun c4 => (wi_bipush fModel_read_121 (wi_istore9 fModel_read_122 trivial ((((((h.1 c12).2 c5).2.2.2.2 _ rfl).2.2.2.2.2.2 y2 τ3 eτ3).2 c4) _ (by exact trivial) _ (by exact trivial) _ (by exact trivial) _ (by exact trivial) _ (by exact trivial) _ (by exact trivial) _ (by exact trivial) _ nl10))))))))))))))))))))))))))))))))) (fun c12 => (wi_iload5 fModel_read_49 (wi_if_ne fModel_read_50 (fun c11 => (wi_iload5 fModel_read_96 (wi_if_ne fModel_read_97 (fun _ => (wi_iinc7 fModel_read_147 trivial ((h.2 c12).1 c11).1 (wi_goto fModel_read_148 (((h.2 c12).1 c11).2 _ (by exact trivial) _ _ nl10)))) (fun e => absurd c11 (w_n_ne e))))) (fun c11 => (wi_iload3 fModel_read_51 (wi_i2l fModel_read_52 (wi_bipush fModel_read_53 (wi_iload7 fModel_read_54 (wi_imul fModel_read_55 ((h.2 c12).2 c11).1 (wi_i2l fModel_read_56 (wi_ladd fModel_read_57 ((h.2 c12).2 c11).2.1 (wi_iload8 fModel_read_58 (wi_i2l fModel_read_59 (wi_ladd fModel_read_60 ((h.2 c12).2 c11).2.2.1 (wi_lstore9 fModel_read_61 trivial (wi_aload0 fModel_read_62 (wi_getf924 fModel_read_63 (wi_iload1 fModel_read_64 (wi_iald1004 fModel_read_65 (((h.2 c12).2 c11).2.2.2 _ rfl).1 (((h.2 c12).2 c11).2.2.2 _ rfl).2.1 (wi_bipush fModel_read_66 (wi_ic_ne fModel_read_67 (fun c10 => (wi_aload0 fModel_read_70 (wi_getf924 fModel_read_71 (wi_iload1 fModel_read_72 (wi_iald1004 fModel_read_73 (((h.2 c12).2 c11).2.2.2 _ rfl).1 (((h.2 c12).2 c11).2.2.2 _ rfl).2.1 (wi_iload2 fModel_read_74 (wi_ic_eq fModel_read_75 (fun c9 => (wi_lload9 fModel_read_78 (wi_sipush fModel_read_79 (wi_lcmp_lt fModel_read_80 fModel_read_81 (fun c8 => (wi_bipush fModel_read_90 (wi_goto fModel_read_91 (wi_istore5 fModel_read_93 trivial (wi_iinc8 fModel_read_94 trivial ((((((h.2 c12).2 c11).2.2.2 _ rfl).2.2.1 c10).1 c9).1 c8).1 (wi_goto fModel_read_95 (((((((h.2 c12).2 c11).2.2.2 _ rfl).2.2.1 c10).1 c9).1 c8).2 _ _ (by exact trivial)))))))) (fun c8 => (wi_lload9 fModel_read_82 (wi_aload0 fModel_read_83 (wi_getf925 fModel_read_84 (wi_iload1 fModel_read_85 (wi_iald1004 fModel_read_86 (((h.2 c12).2 c11).2.2.2 _ rfl).1 (((h.2 c12).2 c11).2.2.2 _ rfl).2.1 (wi_i2l fModel_read_87 (wi_lcmp_lt fModel_read_88 fModel_read_89 (fun c7 => (wi_bipush fModel_read_92 (wi_istore5 fModel_read_93 trivial (wi_iinc8 fModel_read_94 trivial (((((((h.2 c12).2 c11).2.2.2 _ rfl).2.2.1 c10).1 c9).2 c8).1 c7).1 (wi_goto fModel_read_95 ((((((((h.2 c12).2 c11).2.2.2 _ rfl).2.2.1 c10).1 c9).2 c8).1 c7).2 _ _ (by exact trivial))))))) (fun c7 => (wi_bipush fModel_read_90 (wi_goto fModel_read_91 (wi_istore5 fModel_read_93 trivial (wi_iinc8 fModel_read_94 trivial (((((((h.2 c12).2 c11).2.2.2 _ rfl).2.2.1 c10).1 c9).2 c8).2 c7).1 (wi_goto fModel_read_95 ((((((((h.2 c12).2 c11).2.2.2 _ rfl).2.2.1 c10).1 c9).2 c8).2 c7).2 _ _ (by exact trivial)))))))))))))))))))) (fun c9 => (wi_bipush fModel_read_76 (wi_goto fModel_read_77 (wi_istore5 fModel_read_93 trivial (wi_iinc8 fModel_read_94 trivial (((((h.2 c12).2 c11).2.2.2 _ rfl).2.2.1 c10).2 c9).1 (wi_goto fModel_read_95 ((((((h.2 c12).2 c11).2.2.2 _ rfl).2.2.1 c10).2 c9).2 _ _ (by exact trivial))))))))))))))) (fun c10 => (wi_bipush fModel_read_68 (wi_goto fModel_read_69 (wi_istore5 fModel_read_93 trivial (wi_iinc8 fModel_read_94 trivial ((((h.2 c12).2 c11).2.2.2 _ rfl).2.2.2 c10).1 (wi_goto fModel_read_95 (((((h.2 c12).2 c11).2.2.2 _ rfl).2.2.2 c10).2 _ _ (by exact trivial))))))))))))))))))))))))))))))))
set_option maxRecDepth 20000 in
theorem bModel_read_123 {xs : List Int} {d : Nat} {Q : Option w_V → w_M → Prop} {v7 : Int} {v9 : Int} {σ : w_M}
    (h : (4 ≤ v9 → (w_in ((-20) - v7) ∧ Q (some (.inl ((-20) - v7))) σ)) ∧ (v9 < 4 → (w_in (5 * v9) ∧ w_in (21 + (5 * v9)) ∧ w_in ((21 + (5 * v9)) + 3) ∧ 0 ≤ v9 ∧ 0 ≤ ((21 + (5 * v9)) + 3) ∧ ((21 + (5 * v9)) + 3) < 246 ∧ (∀ (τ1 : w_M), τ1 = w_up σ 123 ((21 + (5 * v9)) + 3).toNat (σ 133 v9.toNat) → (w_in (v9 + 1) ∧ LModel_read_123 xs (d + 3) Q v7 (v9 + 1) τ1))))) : LModel_read_123 xs (d + 3) Q v7 v9 σ :=
  fun l1 nl1 => fun l2 nl2 => fun l3 nl3 => fun l4 nl4 => fun l5 nl5 => fun l6 nl6 => fun l8 nl8 => fun l10 nl10 => (wi_iload9 fModel_read_123 (wi_bipush fModel_read_124 (wi_ic_ge fModel_read_125 (fun c2 => (wi_bipush fModel_read_142 (wi_iload7 fModel_read_143 (wi_isub fModel_read_144 (h.1 c2).1 (wi_ret1 fModel_read_145 (h.1 c2).2))))) (fun c2 => (wi_aload0 fModel_read_126 (wi_getf900 fModel_read_127 (wi_bipush fModel_read_128 (wi_bipush fModel_read_129 (wi_iload9 fModel_read_130 (wi_imul fModel_read_131 (h.2 c2).1 (wi_iadd fModel_read_132 (h.2 c2).2.1 (wi_bipush fModel_read_133 (wi_iadd fModel_read_134 (h.2 c2).2.2.1 (wi_aload0 fModel_read_135 (wi_getf928 fModel_read_136 (wi_iload9 fModel_read_137 (wi_iald1004 fModel_read_138 (h.2 c2).2.2.2.1 c2 (wi_iast1246 fModel_read_139 (h.2 c2).2.2.2.2.1 (h.2 c2).2.2.2.2.2.1 (wi_iinc9 fModel_read_140 nl8 ((h.2 c2).2.2.2.2.2.2 _ rfl).1 (wi_goto fModel_read_141 (((h.2 c2).2.2.2.2.2.2 _ rfl).2 _ nl1 _ nl2 _ nl3 _ nl4 _ nl5 _ nl6 _ nl8 _ nl10)))))))))))))))))))))
theorem k_Model_read {xs : List Int} {d : Nat} {Q : Option w_V → w_M → Prop} {x1 : Int} {x2 : Int} {x3 : Int} {x4 : Int} {σ : w_M} (hp : p_Model_read x1 x2 x3 x4 σ) (hQ : ∀ (x : Int) (σ' : w_M), q_Model_read x1 x2 x3 x4 σ x σ' → Q (some (.inl x)) σ') : w_Call (xs, d + 3) 236 [.inr (.inr (9, 122)), .inl x1, .inl x2, .inl x3, .inl x4] σ Q := by
  obtain ⟨hM, hf⟩ := hp
  unfold w_in at hf
  have bad : ¬ rd_in x1 x2 x4 → Q (some (.inl (-1))) σ := fun h => hQ _ _ ⟨Or.inl ⟨h, rfl, rfl⟩, hM, fun _ _ => rfl, fun _ => rfl, fun h => by omega⟩
  refine bModel_read_0 ⟨fun c => bad (fun q => c ⟨q.1, q.2.1⟩), fun c => ⟨fun c3 => ?_, fun c3 => bad (fun q => c3 q.2.2)⟩⟩
  have hin : rd_in x1 x2 x4 := ⟨c.1, c.2, c3⟩
  have hk := c.1
  have h4 : x1.toNat < 4 := by omega
  refine (w_loop (n := 4) (P := fun r => ∀ τ : w_M, w_f1 σ τ 133 → (∀ i, i < r → τ 133 i = σ 123 (24 + 5 * i)) → LModel_read_14 xs (d + 3) Q x1 x2 x3 x4 (r : Int) τ) ?_ ?_) σ w_f1.rfl' (fun i hi => by omega)
  · intro τ0 F0 H0
    refine bModel_read_14 ⟨fun _ => ?_, fun h => by omega⟩
    have roll : ∀ j : Nat, (j : Int) < x4 → (∀ i : Nat, i < j → rd_ok (mS σ) x1 x2 x3 i ∧ rd_gd (mS σ) x1 x3 i) → rd_ok (mS σ) x1 x2 x3 j → ¬ rd_gd (mS σ) x1 x3 j → ∀ τ : w_M, (∀ b, b ≠ 123 → τ b = τ0 b) → (∀ x, (∀ r, r < 4 → x ≠ 24 + 5 * r) → τ 123 x = σ 123 x) → LModel_read_123 xs (d + 3) Q (j : Int) 0 τ := by
      intro j hj a1 a2 a3 τ F G
      refine (w_loop (n := 4) (P := fun r => ∀ τ : w_M, (∀ b, b ≠ 123 → τ b = τ0 b) → (∀ x, (∀ q, q < 4 → r ≤ q → x ≠ 24 + 5 * q) → τ 123 x = σ 123 x) → LModel_read_123 xs (d + 3) Q (j : Int) (r : Int) τ) ?_ ?_) τ F (fun x hx => G x (fun q h => hx q h (by omega)))
      · intro τ F G
        refine bModel_read_123 ⟨fun _ => ⟨⟨by omega, by omega⟩, ?_⟩, fun h => by omega⟩
        have e123 : τ 123 = σ 123 := by
          funext x
          exact G x (fun q h1 h2 => by omega)
        have E : ∀ b, b ≠ 133 → τ b = σ b := fun b hb => by
          by_cases hb2 : b = 123
          · rw [hb2, e123]
          · rw [F b hb2, F0 b hb]
        have eS : mS τ = mS σ := mS_scratch hM (fun i _ => by rw [E 122 (by decide)]) (fun b hb => E b (by omega))
        exact hQ _ _ ⟨by rw [eS]; exact Or.inr ⟨hin, j, a1, Or.inl ⟨hj, a2, a3, rfl, rfl⟩⟩, by unfold MI; rw [eS]; exact hM, fun b hb => E b (by omega), fun _ => by rw [E 122 (by decide)], fun h => by omega⟩
      · intro r hr ih τ F G
        refine bModel_read_123 ⟨fun h => by omega, fun _ => ⟨⟨by omega, by omega⟩, ⟨by omega, by omega⟩, ⟨by omega, by omega⟩, by omega, by omega, by omega, fun τ1 t1 => ⟨⟨by omega, by omega⟩, ?_⟩⟩⟩
        rw [← w_cs1]
        have ea : (21 + 5 * (r : Int) + 3).toNat = 24 + 5 * r := by omega
        rw [ea, Int.toNat_natCast, F 133 (by decide), H0 r hr] at t1
        refine ih τ1 (fun b hb => by rw [t1, w_up_ne hb]; exact F b hb) (fun x hx => ?_)
        by_cases hxr : x = 24 + 5 * r
        · rw [hxr, t1, w_up_at]
        · rw [t1, w_up_j hxr]
          refine G x (fun q h1 h2 => ?_)
          by_cases hqr : q = r
          · rw [hqr]; exact hxr
          · exact hx q h1 (by omega)
    have fin : ∀ (j : Nat) (re : Int), (j : Int) ≤ x4 → (∀ i : Nat, i < j → rd_ok (mS σ) x1 x2 x3 i ∧ rd_gd (mS σ) x1 x3 i) → ((j : Int) = x4 ∨ ¬ rd_ok (mS σ) x1 x2 x3 j) → re = torn_m (mS σ) x1 x2 x4 j → ∀ τ : w_M, MI τ → mS τ = rd_sd (mS σ) x1 x3 j → (∀ b, b < 122 → τ b = σ b) → ∀ τ1, τ1 = w_up τ 122 27 re → Q (some (.inl (j : Int))) τ1 := by
      intro j re hj a1 a2 a3 τ hT eT fT τ1 t1
      have eS : mS τ1 = mS τ := mS_scratch hT (fun i hi => by rw [t1, w_up_j (by omega)]) (fun b hb => by rw [t1, w_up_ne (by omega)])
      exact hQ _ _ ⟨Or.inr ⟨hin, j, a1, Or.inr ⟨hj, a2, rfl, by rw [eS, eT]⟩⟩, by unfold MI; rw [eS]; exact hT, fun b hb => by rw [t1, w_up_ne (by omega), fT b hb], fun h => by omega, fun _ => by rw [t1, w_up_at, a3]⟩
    have S0 : mS τ0 = mS σ := mS_scratch hM (fun i _ => by rw [F0 122 (by decide)]) (fun b hb => F0 b (by omega))
    refine (w_loop (n := x4.toNat) (P := fun j => ∀ τ : w_M, MI τ → mS τ = rd_sd (mS σ) x1 x3 j → (∀ b, b ≠ 123 → τ b = τ0 b) → (∀ x, (∀ r, r < 4 → x ≠ 24 + 5 * r) → τ 123 x = σ 123 x) → (∀ i : Nat, i < j → rd_ok (mS σ) x1 x2 x3 i ∧ rd_gd (mS σ) x1 x3 i) → LModel_read_39 xs (d + 3) Q x1 x2 x3 x4 0 (j : Int) (j : Int) τ) ?_ ?_) τ0 (by unfold MI; rw [S0]; exact hM) S0 (fun b _ => rfl) (fun x _ => by rw [F0 123 (by decide)]) (fun i hi => by omega)
    · intro τ hT eT F G a1
      have ej : ((x4.toNat : Nat) : Int) = x4 := by omega
      refine bModel_read_39 ⟨fun _ => fun τ1 t1 => fin x4.toNat 0 (by omega) a1 (Or.inl ej) ?_ τ hT eT (fun b hb => by rw [F b (by omega), F0 b (by omega)]) τ1 t1, fun h => by omega⟩
      unfold torn_m
      rw [if_pos ej]
    · intro j hj ih τ hT eT F G a1
      have hjn : (j : Int) < x4 := by omega
      have E : ∀ b, b ≠ 123 → b ≠ 133 → τ b = σ b := fun b h1 h2 => by rw [F b h1, F0 b h2]
      have fT : ∀ b, b < 122 → τ b = σ b := fun b hb => E b (by omega) (by omega)
      have stop : ∀ re v8 : Int, v8 ≤ 2 → ¬ re = 0 → ¬ rd_ok (mS σ) x1 x2 x3 j → re = torn_m (mS σ) x1 x2 x4 j → LModel_read_46 xs (d + 3) Q x1 x2 x3 x4 re (j : Int) (j : Int) v8 τ := by
        intro re v8 hv h0 h1 h2
        have nx : LModel_read_39 xs (d + 3) Q x1 x2 x3 x4 re (j : Int) ((j : Int) + 1) τ :=
          bModel_read_39 ⟨fun _ => fun τ1 t1 => fin j re (by omega) a1 (Or.inr h1) h2 τ hT eT fT τ1 t1, fun _ => ⟨fun _ => fun τ1 t1 => fin j re (by omega) a1 (Or.inr h1) h2 τ hT eT fT τ1 t1, fun h => absurd h h0⟩⟩
        exact bModel_read_46 ⟨fun _ => ⟨fun _ => ⟨⟨by omega, by omega⟩, nx⟩, fun h => absurd h h0⟩, fun _ => ⟨fun _ => ⟨⟨by omega, by omega⟩, nx⟩, fun h => absurd h h0⟩⟩
      have e4 : mS σ 4 = h_am σ := rfl
      have one : ∀ v8 : Int, v8 = 0 ∨ v8 = 1 → (¬ σ 130 x1.toNat = -4 → σ 130 x1.toNat = x2 → 0 ≤ x3 + 2 * (j : Int) + v8 → x3 + 2 * (j : Int) + v8 < σ 131 x1.toNat → LModel_read_46 xs (d + 3) Q x1 x2 x3 x4 0 (j : Int) (j : Int) (v8 + 1) τ) → LModel_read_46 xs (d + 3) Q x1 x2 x3 x4 0 (j : Int) (j : Int) v8 τ := by
        intro v8 h8 nxt
        have two : ¬ σ 130 x1.toNat = -4 → σ 130 x1.toNat = x2 → ¬ rd_ok (mS σ) x1 x2 x3 j → LModel_read_46 xs (d + 3) Q x1 x2 x3 x4 2 (j : Int) (j : Int) (v8 + 1) τ := fun c1 c2 h => by
          obtain ⟨e0, e1, w0, w1, _⟩ := h_am_yes hM h4 c1
          refine stop 2 _ (by omega) (by decide) h ?_
          unfold torn_m
          rw [e4, e0, e1, if_neg (by omega), if_neg (by omega), if_pos c2]
        refine bModel_read_46 ⟨fun h => by omega, fun _ => ⟨fun h => absurd rfl h, fun _ => ⟨⟨by omega, by omega⟩, ⟨by omega, by omega⟩, ⟨by omega, by omega⟩, fun y6 e6 => ⟨hk.1, by omega, ?_⟩⟩⟩⟩
        rw [E 130 (by decide) (by decide), E 131 (by decide) (by decide)]
        refine ⟨fun c1 => ⟨fun c2 => ⟨fun c5 => ⟨⟨by omega, by omega⟩, two c1 c2 (fun q => ?_)⟩, fun c5 => ⟨fun c6 => ⟨⟨by omega, by omega⟩, nxt c1 c2 (by omega) (by omega)⟩, fun c6 => ⟨⟨by omega, by omega⟩, two c1 c2 (fun q => ?_)⟩⟩⟩, fun c2 => ⟨⟨by omega, by omega⟩, stop 3 _ (by omega) (by decide) (fun q => c2 ((m_rdok hM hk).mp q).2.1) ?_⟩⟩, fun c1 => ⟨⟨by omega, by omega⟩, stop 1 _ (by omega) (by decide) (fun q => ((m_rdok hM hk).mp q).1 c1) ?_⟩⟩
        · have := ((m_rdok hM hk).mp q).2.2; omega
        · have := ((m_rdok hM hk).mp q).2.2; omega
        · obtain ⟨e0, e1, w0, w1, _⟩ := h_am_yes hM h4 c1
          unfold torn_m
          rw [e4, e0, e1, if_neg (by omega), if_neg (by omega), if_neg c2]
        · unfold torn_m
          rw [e4, h_am_no h4 c1, if_neg (by omega), if_pos rfl]
      refine bModel_read_39 ⟨fun h => by omega, fun _ => ⟨fun h => absurd rfl h, fun _ => ?_⟩⟩
      refine one 0 (Or.inl rfl) (fun b1 b2 b3 b4 => one 1 (Or.inr rfl) (fun _ _ b5 b6 => ?_))
      obtain ⟨g0, g1, w0, w1, g2⟩ := h_am_yes hM h4 b1
      have okj : rd_ok (mS σ) x1 x2 x3 j := (m_rdok hM hk).mpr ⟨b1, b2, by omega, by omega⟩
      refine bModel_read_46 ⟨fun _ => ⟨fun h => absurd rfl h, fun _ => ⟨⟨by omega, by omega⟩, ⟨by omega, by omega⟩, ⟨by omega, by omega⟩, ⟨by omega, by omega⟩, fun y1 ey => ⟨by omega, by omega, ⟨by omega, by omega⟩, by omega, by omega, hT, fun y2 τ3 hq => ?_⟩⟩⟩, fun h => by omega⟩
      have ea : τ 132 y1.toNat = rd_a (mS σ) x1 x3 j := by
        show _ = h_am σ x1.toNat (2 + (x3 + 2 * (j : Int)).toNat)
        rw [g2 _ (by omega), E 132 (by decide) (by decide), show y1.toNat = 40 * x1.toNat + (x3 + 2 * (j : Int)).toNat by omega]
      have eb : τ 132 (y1 + 1).toNat = rd_b (mS σ) x1 x3 j := by
        show _ = h_am σ x1.toNat (2 + (x3 + 2 * (j : Int) + 1).toNat)
        rw [g2 _ (by omega), E 132 (by decide) (by decide), show (y1 + 1).toNat = 40 * x1.toNat + (x3 + 2 * (j : Int) + 1).toNat by omega]
      rw [ea, eb] at hq
      obtain ⟨⟨s1, s2, s3, s4, s5⟩, raw⟩ := hq
      have hPs : P_send (mS τ) (rd_a (mS σ) x1 x3 j) (rd_b (mS σ) x1 x3 j) ↔ rd_gd (mS σ) x1 x3 j := by
        unfold rd_gd P_send
        rw [eT, rd_sd_0]
      have F' : ∀ b, b ≠ 123 → τ3 b = τ0 b := fun b hb => by
        rcases raw with raw | ⟨_, raw⟩
        · rw [raw]; exact F b hb
        · rw [raw, w_up_ne hb]; exact F b hb
      have G' : ∀ x, (∀ r, r < 4 → x ≠ 24 + 5 * r) → τ3 123 x = σ 123 x := fun x hx => by
        rcases raw with raw | ⟨hr, raw⟩
        · rw [raw]; exact G x hx
        · rw [raw, w_up_j (hx _ (by omega))]; exact G x hx
      unfold F_send at s1
      refine ⟨fun c1 => ⟨⟨by omega, by omega⟩, ⟨by omega, by omega⟩, ?_⟩, fun c1 => ?_⟩
      · have hg : rd_gd (mS σ) x1 x3 j := Classical.byContradiction (fun h => by
          rw [F_set_f (fun q => h (hPs.mp q))] at s1
          omega)
        rw [← w_cs1]
        refine ih τ3 s2 (by rw [s3, eT]; rfl) F' G' (fun i hi => ?_)
        by_cases hij : i = j
        · rw [hij]; exact ⟨okj, hg⟩
        · exact a1 i (by omega)
      · have hg : ¬ rd_gd (mS σ) x1 x3 j := fun h => by
          have hP := hPs.mpr h
          rw [F_set_t hP] at s1
          have hA : n_WF (mS τ 0) := hT.1
          have := hP.1
          have := n_WF.r hA (r := (rd_a (mS σ) x1 x3 j).toNat) (by show _ < (mS τ 0 0 5).toNat; omega)
          omega
        exact roll j hjn a1 okj hg τ3 F' G'
  · intro r hr ih τ F H
    refine bModel_read_14 ⟨fun h => by omega, fun _ => ⟨⟨by omega, by omega⟩, ⟨by omega, by omega⟩, ⟨by omega, by omega⟩, by omega, by omega, by omega, fun τ1 t1 => ⟨⟨by omega, by omega⟩, ?_⟩⟩⟩
    rw [← w_cs1]
    have ea : (21 + 5 * (r : Int) + 3).toNat = 24 + 5 * r := by omega
    rw [ea, Int.toNat_natCast, F 123 (by decide)] at t1
    refine ih τ1 (by rw [t1]; exact F.up) (fun i hi => ?_)
    by_cases hir : i = r
    · rw [hir, t1, w_up_at]
    · rw [t1, w_up_j hir]; exact H i (by omega)
