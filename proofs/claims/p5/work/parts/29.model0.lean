/-! Copies of a Field; the reference's night in its own rows -/
theorem w_ab_eq {σ σ' : w_M} {a b : Nat} (h0 : ∀ j, j < 7 → σ' a j = σ b j) (hd : ∀ d i, 1 ≤ d → d < 9 → i < w_rl σ b d → σ' (a + d) i = σ (b + d) i) : w_ab σ' a = w_ab σ b := by
  have hr : ∀ k, w_rl σ' a k = w_rl σ b k := fun k => by unfold w_rl; rw [h0 4 (by decide), h0 5 (by decide)]
  funext k q
  unfold w_ab
  rw [hr, h0 4 (by decide), h0 6 (by decide)]
  by_cases hk : k < 9
  · rw [if_pos hk, if_pos hk]
    by_cases hq : q < w_rl σ b k
    · rw [if_pos hq, if_pos hq]
      by_cases hk0 : k = 0
      · subst hk0
        have : q < 6 := hq
        exact h0 q (by omega)
      · exact hd k q (by omega) hk hq
    · rw [if_neg hq, if_neg hq]
  · rw [if_neg hk, if_neg hk]
theorem w_cpy_at {σ : w_M} {s d n i : Nat} (h : i < n) : w_cpy σ s d 0 0 n d i = σ s i := by
  unfold w_cpy
  rw [if_pos ⟨rfl, Nat.zero_le _, by omega⟩]
  rw [Nat.sub_zero, Nat.zero_add]
theorem w_fr.cpy {σ σ' : w_M} {lo hi s d sp dp n : Nat} (h : w_fr σ σ' lo hi) (h1 : lo ≤ d) (h2 : d < hi) : w_fr σ (w_cpy σ' s d sp dp n) lo hi := fun b hb => by
  rw [w_cpy_ne (by omega)]
  exact h b hb
noncomputable def p_Field_copyFrom (a b : Nat) (σ : w_M) : Prop := n_ok σ b ∧ (a + 9 ≤ b ∨ b + 9 ≤ a)
noncomputable def q_Field_copyFrom (a b : Nat) (σ σ' : w_M) : Prop := w_ab σ' a = w_ab σ b ∧ σ' a 6 = σ b 6 ∧ w_fr σ σ' a (a + 9)
theorem fField_copyFrom_0 : w_fe am_c34 0 1 (.aload 0) := ⟨rfl, rfl⟩
theorem fField_copyFrom_1 : w_fe am_c34 1 2 (.aload 1) := ⟨rfl, rfl⟩
theorem fField_copyFrom_2 : w_fe am_c34 2 3 (.getfield 200) := ⟨rfl, rfl⟩
theorem fField_copyFrom_3 : w_fe am_c34 3 4 (.putfield 200) := ⟨rfl, rfl⟩
theorem fField_copyFrom_4 : w_fe am_c34 4 5 (.aload 0) := ⟨rfl, rfl⟩
theorem fField_copyFrom_5 : w_fe am_c34 5 6 (.aload 1) := ⟨rfl, rfl⟩
theorem fField_copyFrom_6 : w_fe am_c34 6 7 (.getfield 201) := ⟨rfl, rfl⟩
theorem fField_copyFrom_7 : w_fe am_c34 7 8 (.putfield 201) := ⟨rfl, rfl⟩
theorem fField_copyFrom_8 : w_fe am_c34 8 9 (.aload 0) := ⟨rfl, rfl⟩
theorem fField_copyFrom_9 : w_fe am_c34 9 10 (.aload 1) := ⟨rfl, rfl⟩
theorem fField_copyFrom_10 : w_fe am_c34 10 11 (.getfield 202) := ⟨rfl, rfl⟩
theorem fField_copyFrom_11 : w_fe am_c34 11 12 (.putfield 202) := ⟨rfl, rfl⟩
theorem fField_copyFrom_12 : w_fe am_c34 12 13 (.aload 0) := ⟨rfl, rfl⟩
theorem fField_copyFrom_13 : w_fe am_c34 13 14 (.aload 1) := ⟨rfl, rfl⟩
theorem fField_copyFrom_14 : w_fe am_c34 14 15 (.getfield 203) := ⟨rfl, rfl⟩
theorem fField_copyFrom_15 : w_fe am_c34 15 16 (.putfield 203) := ⟨rfl, rfl⟩
theorem fField_copyFrom_16 : w_fe am_c34 16 17 (.aload 0) := ⟨rfl, rfl⟩
theorem fField_copyFrom_17 : w_fe am_c34 17 18 (.aload 1) := ⟨rfl, rfl⟩
theorem fField_copyFrom_18 : w_fe am_c34 18 19 (.getfield 204) := ⟨rfl, rfl⟩
theorem fField_copyFrom_19 : w_fe am_c34 19 20 (.putfield 204) := ⟨rfl, rfl⟩
theorem fField_copyFrom_20 : w_fe am_c34 20 21 (.aload 0) := ⟨rfl, rfl⟩
theorem fField_copyFrom_21 : w_fe am_c34 21 22 (.aload 1) := ⟨rfl, rfl⟩
theorem fField_copyFrom_22 : w_fe am_c34 22 23 (.getfield 205) := ⟨rfl, rfl⟩
theorem fField_copyFrom_23 : w_fe am_c34 23 24 (.putfield 205) := ⟨rfl, rfl⟩
theorem fField_copyFrom_24 : w_fe am_c34 24 25 (.aload 0) := ⟨rfl, rfl⟩
theorem fField_copyFrom_25 : w_fe am_c34 25 26 (.aload 1) := ⟨rfl, rfl⟩
theorem fField_copyFrom_26 : w_fe am_c34 26 27 (.getfield 206) := ⟨rfl, rfl⟩
theorem fField_copyFrom_27 : w_fe am_c34 27 28 (.putfield 206) := ⟨rfl, rfl⟩
theorem fField_copyFrom_28 : w_fe am_c34 28 29 (.aload 1) := ⟨rfl, rfl⟩
theorem fField_copyFrom_29 : w_fe am_c34 29 30 (.getfield 207) := ⟨rfl, rfl⟩
theorem fField_copyFrom_30 : w_fe am_c34 30 31 (.bipush 0) := ⟨rfl, rfl⟩
theorem fField_copyFrom_31 : w_fe am_c34 31 32 (.aload 0) := ⟨rfl, rfl⟩
theorem fField_copyFrom_32 : w_fe am_c34 32 33 (.getfield 207) := ⟨rfl, rfl⟩
theorem fField_copyFrom_33 : w_fe am_c34 33 34 (.bipush 0) := ⟨rfl, rfl⟩
theorem fField_copyFrom_34 : w_fe am_c34 34 35 (.bipush 7) := ⟨rfl, rfl⟩
theorem fField_copyFrom_35 : w_fe am_c34 35 36 (.invokedynamic 0) := ⟨rfl, rfl⟩
theorem fField_copyFrom_36 : w_fe am_c34 36 37 (.aload 1) := ⟨rfl, rfl⟩
theorem fField_copyFrom_37 : w_fe am_c34 37 38 (.getfield 208) := ⟨rfl, rfl⟩
theorem fField_copyFrom_38 : w_fe am_c34 38 39 (.bipush 0) := ⟨rfl, rfl⟩
theorem fField_copyFrom_39 : w_fe am_c34 39 40 (.aload 0) := ⟨rfl, rfl⟩
theorem fField_copyFrom_40 : w_fe am_c34 40 41 (.getfield 208) := ⟨rfl, rfl⟩
theorem fField_copyFrom_41 : w_fe am_c34 41 42 (.bipush 0) := ⟨rfl, rfl⟩
theorem fField_copyFrom_42 : w_fe am_c34 42 43 (.bipush 7) := ⟨rfl, rfl⟩
theorem fField_copyFrom_43 : w_fe am_c34 43 44 (.invokedynamic 0) := ⟨rfl, rfl⟩
theorem fField_copyFrom_44 : w_fe am_c34 44 45 (.aload 1) := ⟨rfl, rfl⟩
theorem fField_copyFrom_45 : w_fe am_c34 45 46 (.getfield 209) := ⟨rfl, rfl⟩
theorem fField_copyFrom_46 : w_fe am_c34 46 47 (.bipush 0) := ⟨rfl, rfl⟩
theorem fField_copyFrom_47 : w_fe am_c34 47 48 (.aload 0) := ⟨rfl, rfl⟩
theorem fField_copyFrom_48 : w_fe am_c34 48 49 (.getfield 209) := ⟨rfl, rfl⟩
theorem fField_copyFrom_49 : w_fe am_c34 49 50 (.bipush 0) := ⟨rfl, rfl⟩
theorem fField_copyFrom_50 : w_fe am_c34 50 51 (.bipush 4) := ⟨rfl, rfl⟩
theorem fField_copyFrom_51 : w_fe am_c34 51 52 (.invokedynamic 0) := ⟨rfl, rfl⟩
theorem fField_copyFrom_52 : w_fe am_c34 52 53 (.aload 1) := ⟨rfl, rfl⟩
theorem fField_copyFrom_53 : w_fe am_c34 53 54 (.getfield 210) := ⟨rfl, rfl⟩
theorem fField_copyFrom_54 : w_fe am_c34 54 55 (.bipush 0) := ⟨rfl, rfl⟩
theorem fField_copyFrom_55 : w_fe am_c34 55 56 (.aload 0) := ⟨rfl, rfl⟩
theorem fField_copyFrom_56 : w_fe am_c34 56 57 (.getfield 210) := ⟨rfl, rfl⟩
theorem fField_copyFrom_57 : w_fe am_c34 57 58 (.bipush 0) := ⟨rfl, rfl⟩
theorem fField_copyFrom_58 : w_fe am_c34 58 59 (.bipush 4) := ⟨rfl, rfl⟩
theorem fField_copyFrom_59 : w_fe am_c34 59 60 (.invokedynamic 0) := ⟨rfl, rfl⟩
theorem fField_copyFrom_60 : w_fe am_c34 60 61 (.aload 1) := ⟨rfl, rfl⟩
theorem fField_copyFrom_61 : w_fe am_c34 61 62 (.getfield 211) := ⟨rfl, rfl⟩
theorem fField_copyFrom_62 : w_fe am_c34 62 63 (.bipush 0) := ⟨rfl, rfl⟩
theorem fField_copyFrom_63 : w_fe am_c34 63 64 (.aload 0) := ⟨rfl, rfl⟩
theorem fField_copyFrom_64 : w_fe am_c34 64 65 (.getfield 211) := ⟨rfl, rfl⟩
theorem fField_copyFrom_65 : w_fe am_c34 65 66 (.bipush 0) := ⟨rfl, rfl⟩
theorem fField_copyFrom_66 : w_fe am_c34 66 67 (.bipush 4) := ⟨rfl, rfl⟩
theorem fField_copyFrom_67 : w_fe am_c34 67 68 (.invokedynamic 0) := ⟨rfl, rfl⟩
theorem fField_copyFrom_68 : w_fe am_c34 68 69 (.aload 1) := ⟨rfl, rfl⟩
theorem fField_copyFrom_69 : w_fe am_c34 69 70 (.getfield 212) := ⟨rfl, rfl⟩
theorem fField_copyFrom_70 : w_fe am_c34 70 71 (.bipush 0) := ⟨rfl, rfl⟩
theorem fField_copyFrom_71 : w_fe am_c34 71 72 (.aload 0) := ⟨rfl, rfl⟩
theorem fField_copyFrom_72 : w_fe am_c34 72 73 (.getfield 212) := ⟨rfl, rfl⟩
theorem fField_copyFrom_73 : w_fe am_c34 73 74 (.bipush 0) := ⟨rfl, rfl⟩
theorem fField_copyFrom_74 : w_fe am_c34 74 75 (.bipush 4) := ⟨rfl, rfl⟩
theorem fField_copyFrom_75 : w_fe am_c34 75 76 (.invokedynamic 0) := ⟨rfl, rfl⟩
theorem fField_copyFrom_76 : w_fe am_c34 76 77 (.aload 1) := ⟨rfl, rfl⟩
theorem fField_copyFrom_77 : w_fe am_c34 77 78 (.getfield 213) := ⟨rfl, rfl⟩
theorem fField_copyFrom_78 : w_fe am_c34 78 79 (.bipush 0) := ⟨rfl, rfl⟩
theorem fField_copyFrom_79 : w_fe am_c34 79 80 (.aload 0) := ⟨rfl, rfl⟩
theorem fField_copyFrom_80 : w_fe am_c34 80 81 (.getfield 213) := ⟨rfl, rfl⟩
theorem fField_copyFrom_81 : w_fe am_c34 81 82 (.bipush 0) := ⟨rfl, rfl⟩
theorem fField_copyFrom_82 : w_fe am_c34 82 83 (.bipush 4) := ⟨rfl, rfl⟩
theorem fField_copyFrom_83 : w_fe am_c34 83 84 (.invokedynamic 0) := ⟨rfl, rfl⟩
theorem fField_copyFrom_84 : w_fe am_c34 84 85 (.aload 1) := ⟨rfl, rfl⟩
theorem fField_copyFrom_85 : w_fe am_c34 85 86 (.getfield 214) := ⟨rfl, rfl⟩
theorem fField_copyFrom_86 : w_fe am_c34 86 87 (.bipush 0) := ⟨rfl, rfl⟩
theorem fField_copyFrom_87 : w_fe am_c34 87 88 (.aload 0) := ⟨rfl, rfl⟩
theorem fField_copyFrom_88 : w_fe am_c34 88 89 (.getfield 214) := ⟨rfl, rfl⟩
theorem fField_copyFrom_89 : w_fe am_c34 89 90 (.bipush 0) := ⟨rfl, rfl⟩
theorem fField_copyFrom_90 : w_fe am_c34 90 91 (.bipush 4) := ⟨rfl, rfl⟩
theorem fField_copyFrom_91 : w_fe am_c34 91 92 (.invokedynamic 0) := ⟨rfl, rfl⟩
theorem fField_copyFrom_92 : w_fe am_c34 92 93 (.return_) := ⟨rfl, rfl⟩
set_option maxRecDepth 20000 in
theorem bField_copyFrom_0 {xs : List Int} {d : Nat} {Q : Option w_V → w_M → Prop} {a : Nat} {b : Nat} {σ : w_M}
    (h : ∀ (τ1 : w_M), τ1 = w_up σ a 0 (σ b 0) → ∀ (τ2 : w_M), τ2 = w_up τ1 a 1 (τ1 b 1) → ∀ (τ3 : w_M), τ3 = w_up τ2 a 2 (τ2 b 2) → ∀ (τ4 : w_M), τ4 = w_up τ3 a 3 (τ3 b 3) → ∀ (τ5 : w_M), τ5 = w_up τ4 a 4 (τ4 b 4) → ∀ (τ6 : w_M), τ6 = w_up τ5 a 5 (τ5 b 5) → ∀ (τ7 : w_M), τ7 = w_up τ6 a 6 (τ6 b 6) → ∀ (τ8 : w_M), τ8 = w_cpy τ7 (b + 1) (a + 1) 0 0 7 → ∀ (τ9 : w_M), τ9 = w_cpy τ8 (b + 2) (a + 2) 0 0 7 → ∀ (τ10 : w_M), τ10 = w_cpy τ9 (b + 3) (a + 3) 0 0 4 → ∀ (τ11 : w_M), τ11 = w_cpy τ10 (b + 4) (a + 4) 0 0 4 → ∀ (τ12 : w_M), τ12 = w_cpy τ11 (b + 5) (a + 5) 0 0 4 → ∀ (τ13 : w_M), τ13 = w_cpy τ12 (b + 6) (a + 6) 0 0 4 → ∀ (τ14 : w_M), τ14 = w_cpy τ13 (b + 7) (a + 7) 0 0 4 → ∀ (τ15 : w_M), τ15 = w_cpy τ14 (b + 8) (a + 8) 0 0 4 → Q none τ15) : w_Call (xs, d) 34 [.inr (.inr (2, a)), .inr (.inr (2, b))] σ Q :=
  (w_mk (mid := 34) (by decide) rfl rfl rfl rfl rfl (Nat.le_of_ble_eq_true rfl) ⟨rfl, Or.inl (by decide)⟩ (wi_aload0 fField_copyFrom_0 (wi_aload1 fField_copyFrom_1 (wi_getf200 fField_copyFrom_2 (wi_putf200 fField_copyFrom_3 (wi_aload0 fField_copyFrom_4 (wi_aload1 fField_copyFrom_5 (wi_getf201 fField_copyFrom_6 (wi_putf201 fField_copyFrom_7 (wi_aload0 fField_copyFrom_8 (wi_aload1 fField_copyFrom_9 (wi_getf202 fField_copyFrom_10 (wi_putf202 fField_copyFrom_11 (wi_aload0 fField_copyFrom_12 (wi_aload1 fField_copyFrom_13 (wi_getf203 fField_copyFrom_14 (wi_putf203 fField_copyFrom_15 (wi_aload0 fField_copyFrom_16 (wi_aload1 fField_copyFrom_17 (wi_getf204 fField_copyFrom_18 (wi_putf204 fField_copyFrom_19 (wi_aload0 fField_copyFrom_20 (wi_aload1 fField_copyFrom_21 (wi_getf205 fField_copyFrom_22 (wi_putf205 fField_copyFrom_23 (wi_aload0 fField_copyFrom_24 (wi_aload1 fField_copyFrom_25 (wi_getf206 fField_copyFrom_26 (wi_putf206 fField_copyFrom_27 (wi_aload1 fField_copyFrom_28 (wi_getf207 fField_copyFrom_29 (wi_bipush fField_copyFrom_30 (wi_aload0 fField_copyFrom_31 (wi_getf207 fField_copyFrom_32 (wi_bipush fField_copyFrom_33 (wi_bipush fField_copyFrom_34 (wi_acopy fField_copyFrom_35 (by decide) (Nat.le_of_ble_eq_true rfl) (by decide) (by decide) (by decide) (by decide) (by decide) (wi_aload1 fField_copyFrom_36 (wi_getf208 fField_copyFrom_37 (wi_bipush fField_copyFrom_38 (wi_aload0 fField_copyFrom_39 (wi_getf208 fField_copyFrom_40 (wi_bipush fField_copyFrom_41 (wi_bipush fField_copyFrom_42 (wi_acopy fField_copyFrom_43 (by decide) (Nat.le_of_ble_eq_true rfl) (by decide) (by decide) (by decide) (by decide) (by decide) (wi_aload1 fField_copyFrom_44 (wi_getf209 fField_copyFrom_45 (wi_bipush fField_copyFrom_46 (wi_aload0 fField_copyFrom_47 (wi_getf209 fField_copyFrom_48 (wi_bipush fField_copyFrom_49 (wi_bipush fField_copyFrom_50 (wi_acopy fField_copyFrom_51 (by decide) (Nat.le_of_ble_eq_true rfl) (by decide) (by decide) (by decide) (by decide) (by decide) (wi_aload1 fField_copyFrom_52 (wi_getf210 fField_copyFrom_53 (wi_bipush fField_copyFrom_54 (wi_aload0 fField_copyFrom_55 (wi_getf210 fField_copyFrom_56 (wi_bipush fField_copyFrom_57 (wi_bipush fField_copyFrom_58 (wi_acopy fField_copyFrom_59 (by decide) (Nat.le_of_ble_eq_true rfl) (by decide) (by decide) (by decide) (by decide) (by decide) (wi_aload1 fField_copyFrom_60 (wi_getf211 fField_copyFrom_61 (wi_bipush fField_copyFrom_62 (wi_aload0 fField_copyFrom_63 (wi_getf211 fField_copyFrom_64 (wi_bipush fField_copyFrom_65 (wi_bipush fField_copyFrom_66 (wi_acopy fField_copyFrom_67 (by decide) (Nat.le_of_ble_eq_true rfl) (by decide) (by decide) (by decide) (by decide) (by decide) (wi_aload1 fField_copyFrom_68 (wi_getf212 fField_copyFrom_69 (wi_bipush fField_copyFrom_70 (wi_aload0 fField_copyFrom_71 (wi_getf212 fField_copyFrom_72 (wi_bipush fField_copyFrom_73 (wi_bipush fField_copyFrom_74 (wi_acopy fField_copyFrom_75 (by decide) (Nat.le_of_ble_eq_true rfl) (by decide) (by decide) (by decide) (by decide) (by decide) (wi_aload1 fField_copyFrom_76 (wi_getf213 fField_copyFrom_77 (wi_bipush fField_copyFrom_78 (wi_aload0 fField_copyFrom_79 (wi_getf213 fField_copyFrom_80 (wi_bipush fField_copyFrom_81 (wi_bipush fField_copyFrom_82 (wi_acopy fField_copyFrom_83 (by decide) (Nat.le_of_ble_eq_true rfl) (by decide) (by decide) (by decide) (by decide) (by decide) (wi_aload1 fField_copyFrom_84 (wi_getf214 fField_copyFrom_85 (wi_bipush fField_copyFrom_86 (wi_aload0 fField_copyFrom_87 (wi_getf214 fField_copyFrom_88 (wi_bipush fField_copyFrom_89 (wi_bipush fField_copyFrom_90 (wi_acopy fField_copyFrom_91 (by decide) (Nat.le_of_ble_eq_true rfl) (by decide) (by decide) (by decide) (by decide) (by decide) (wi_ret0 fField_copyFrom_92 (((((((((((((((h _ rfl) _ rfl) _ rfl) _ rfl) _ rfl) _ rfl) _ rfl) _ rfl) _ rfl) _ rfl) _ rfl) _ rfl) _ rfl) _ rfl) _ rfl)))))))))))))))))))))))))))))))))))))))))))))))))))))))))))))))))))))))))))))))))))))))))))))))
set_option maxHeartbeats 1000000 in
theorem k_Field_copyFrom {xs : List Int} {d : Nat} {Q : Option w_V → w_M → Prop} {a : Nat} {b : Nat} {σ : w_M} (hp : p_Field_copyFrom a b σ) (hQ : ∀ σ' : w_M, q_Field_copyFrom a b σ σ' → Q none σ') : w_Call (xs, d) 34 [.inr (.inr (2, a)), .inr (.inr (2, b))] σ Q := by
  obtain ⟨hok, hab⟩ := hp
  have hs := n_ok.s hok
  have hn := n_ok.n hok
  refine bField_copyFrom_0 ?_
  intro τ1 t1 τ2 t2 τ3 t3 τ4 t4 τ5 t5 τ6 t6 τ7 t7 τ8 t8 τ9 t9 τ10 t10 τ11 t11 τ12 t12 τ13 t13 τ14 t14 τ15 t15
  have f1 : w_fr σ τ1 a (a + 9) := by rw [t1]; exact w_fr.up0 (by omega) (by omega)
  have f2 : w_fr σ τ2 a (a + 9) := by rw [t2]; exact f1.up (by omega) (by omega)
  have f3 : w_fr σ τ3 a (a + 9) := by rw [t3]; exact f2.up (by omega) (by omega)
  have f4 : w_fr σ τ4 a (a + 9) := by rw [t4]; exact f3.up (by omega) (by omega)
  have f5 : w_fr σ τ5 a (a + 9) := by rw [t5]; exact f4.up (by omega) (by omega)
  have f6 : w_fr σ τ6 a (a + 9) := by rw [t6]; exact f5.up (by omega) (by omega)
  have f7 : w_fr σ τ7 a (a + 9) := by rw [t7]; exact f6.up (by omega) (by omega)
  have f8 : w_fr σ τ8 a (a + 9) := by rw [t8]; exact f7.cpy (by omega) (by omega)
  have f9 : w_fr σ τ9 a (a + 9) := by rw [t9]; exact f8.cpy (by omega) (by omega)
  have f10 : w_fr σ τ10 a (a + 9) := by rw [t10]; exact f9.cpy (by omega) (by omega)
  have f11 : w_fr σ τ11 a (a + 9) := by rw [t11]; exact f10.cpy (by omega) (by omega)
  have f12 : w_fr σ τ12 a (a + 9) := by rw [t12]; exact f11.cpy (by omega) (by omega)
  have f13 : w_fr σ τ13 a (a + 9) := by rw [t13]; exact f12.cpy (by omega) (by omega)
  have f14 : w_fr σ τ14 a (a + 9) := by rw [t14]; exact f13.cpy (by omega) (by omega)
  have f15 : w_fr σ τ15 a (a + 9) := by rw [t15]; exact f14.cpy (by omega) (by omega)
  have r15 : ∀ c, c < a + 8 → τ15 c = τ14 c := fun c hc => by rw [t15, w_cpy_ne (by omega)]
  have r14 : ∀ c, c < a + 7 → τ15 c = τ13 c := fun c hc => by rw [r15 c (by omega), t14, w_cpy_ne (by omega)]
  have r13 : ∀ c, c < a + 6 → τ15 c = τ12 c := fun c hc => by rw [r14 c (by omega), t13, w_cpy_ne (by omega)]
  have r12 : ∀ c, c < a + 5 → τ15 c = τ11 c := fun c hc => by rw [r13 c (by omega), t12, w_cpy_ne (by omega)]
  have r11 : ∀ c, c < a + 4 → τ15 c = τ10 c := fun c hc => by rw [r12 c (by omega), t11, w_cpy_ne (by omega)]
  have r10 : ∀ c, c < a + 3 → τ15 c = τ9 c := fun c hc => by rw [r11 c (by omega), t10, w_cpy_ne (by omega)]
  have r9 : ∀ c, c < a + 2 → τ15 c = τ8 c := fun c hc => by rw [r10 c (by omega), t9, w_cpy_ne (by omega)]
  have r8 : ∀ c, c < a + 1 → τ15 c = τ7 c := fun c hc => by rw [r9 c (by omega), t8, w_cpy_ne (by omega)]
  have hb : ∀ {τ : w_M}, w_fr σ τ a (a + 9) → ∀ k, k < 9 → τ (b + k) = σ (b + k) := fun f k hk => f _ (by omega)
  have h0 : ∀ j, j < 7 → τ15 a j = σ b j := fun j hj => by
    rw [r8 a (by omega), t7, t6, t5, t4, t3, t2, t1]
    have hb0 : b ≠ a := by omega
    rcases (show j = 0 ∨ j = 1 ∨ j = 2 ∨ j = 3 ∨ j = 4 ∨ j = 5 ∨ j = 6 by omega) with rfl | rfl | rfl | rfl | rfl | rfl | rfl <;> simp [w_up, hb0]
  refine hQ _ ⟨w_ab_eq h0 ?_, h0 6 (by decide), f15⟩
  intro k i k1 k9 hi
  have h7 : k ≤ 2 → i < 7 := fun hk => by rw [w_rl12 k1 hk] at hi; omega
  have h4 : 3 ≤ k → i < 4 := fun hk => by
    by_cases h8 : k = 8
    · subst h8; exact hi
    · rw [w_rl37 hk (by omega)] at hi; omega
  rcases (show k = 1 ∨ k = 2 ∨ k = 3 ∨ k = 4 ∨ k = 5 ∨ k = 6 ∨ k = 7 ∨ k = 8 by omega) with rfl | rfl | rfl | rfl | rfl | rfl | rfl | rfl
  · rw [r9 _ (by omega), t8, w_cpy_at (h7 (by decide)), hb f7 1 (by decide)]
  · rw [r10 _ (by omega), t9, w_cpy_at (h7 (by decide)), hb f8 2 (by decide)]
  · rw [r11 _ (by omega), t10, w_cpy_at (h4 (by decide)), hb f9 3 (by decide)]
  · rw [r12 _ (by omega), t11, w_cpy_at (h4 (by decide)), hb f10 4 (by decide)]
  · rw [r13 _ (by omega), t12, w_cpy_at (h4 (by decide)), hb f11 5 (by decide)]
  · rw [r14 _ (by omega), t13, w_cpy_at (h4 (by decide)), hb f12 6 (by decide)]
  · rw [r15 _ (by omega), t14, w_cpy_at (h4 (by decide)), hb f13 7 (by decide)]
  · rw [t15, w_cpy_at (h4 (by decide)), hb f14 8 (by decide)]
/-- where the reference keeps a night's numbers -/
noncomputable def m_ix (d i : Nat) : Nat := match d with
  | 1 => i
  | 2 => 7 + i
  | 3 => 21 + 5 * i
  | 4 => 22 + 5 * i
  | 5 => 23 + 5 * i
  | 6 => 24 + 5 * i
  | 7 => 25 + 5 * i
  | 8 => 43 + i
  | _ => 14 + i
noncomputable def m_L (d : Nat) : Nat := if d = 0 then 0 else if d ≤ 2 then 7 else if d ≤ 8 then 4 else if d = 9 then 7 else 0
theorem m_ix_inj0 : ∀ p, p < 70 → ∀ q, q < 70 → p % 7 < m_L (p / 7) → q % 7 < m_L (q / 7) → m_ix (p / 7) (p % 7) = m_ix (q / 7) (q % 7) → p = q := by decide +kernel
theorem m_ix_inj (d : Nat) (hd : d < 10) (i : Nat) (hi : i < 7) (e : Nat) (he : e < 10) (j : Nat) (hj : j < 7) (h1 : i < m_L d) (h2 : j < m_L e) (h : m_ix d i = m_ix e j) : d = e ∧ i = j := by
  have a1 : (7 * d + i) / 7 = d := by omega
  have a2 : (7 * d + i) % 7 = i := by omega
  have b1 : (7 * e + j) / 7 = e := by omega
  have b2 : (7 * e + j) % 7 = j := by omega
  have := m_ix_inj0 (7 * d + i) (by omega) (7 * e + j) (by omega) (by rw [a1, a2]; exact h1) (by rw [b1, b2]; exact h2) (by rw [a1, a2, b1, b2]; exact h)
  omega
theorem m_ix_sc : ∀ d, d < 10 → ∀ i, i < 7 → i < m_L d → m_ix d i ≠ 41 ∧ m_ix d i ≠ 42 ∧ m_ix d i ≠ 47 ∧ m_ix d i < 48 := by decide +kernel
noncomputable def m_rl (σ : w_M) (d : Nat) : Nat := if d = 0 then 0 else if d ≤ 2 then (σ 122 4).toNat else if d ≤ 7 then (σ 122 5).toNat else if d = 8 then 4 else if d = 9 then (σ 122 4).toNat else 0
noncomputable def w_am (σ : w_M) (c o : Nat) : w_M := fun d i => if d = 0 then (if i = 0 then σ 122 3 else if i = 1 then σ c (o + 42) else if i = 2 then σ c (o + 41) else if i = 3 then σ c (o + 47) else if i = 4 then σ 122 4 else if i = 5 then σ 122 5 else 0)
  else if i < m_rl σ d then σ c (o + m_ix d i) else 0
noncomputable def m_sm (σ : w_M) : Prop := (σ 122 4).toNat ≤ 7 ∧ (σ 122 5).toNat ≤ 4
theorem m_rl_le {σ : w_M} (h : m_sm σ) (d : Nat) : m_rl σ d ≤ m_L d := by
  unfold m_sm at h
  unfold m_rl m_L
  repeat' split
  all_goals omega
theorem m_rd {σ : w_M} {c o d i x : Nat} (hd : d ≠ 0) (hi : i < m_rl σ d) (hx : x = o + m_ix d i) : σ c x = w_am σ c o d i := by
  unfold w_am
  rw [if_neg hd, if_pos hi, hx]
theorem m_rl_d {σ : w_M} {d i : Nat} (h : m_sm σ) (hi : i < m_rl σ d) : d < 10 ∧ i < 7 ∧ i < m_L d := by
  have h1 := m_rl_le h d
  have : i < m_L d := by omega
  refine ⟨?_, ?_, this⟩
  · unfold m_L at this
    repeat' split at this
    all_goals omega
  · unfold m_L at this
    repeat' split at this
    all_goals omega
theorem w_am_up {σ : w_M} {c o d i x : Nat} {v : Int} (h : m_sm σ) (hc : c ≠ 122) (hi : i < m_rl σ d) (hx : x = o + m_ix d i) : w_am (w_up σ c x v) c o = w_up (w_am σ c o) d i v := by
  obtain ⟨d10, i7, iL⟩ := m_rl_d h hi
  have hd0 : d ≠ 0 := fun e => by rw [e] at hi; simp [m_rl] at hi
  have h0 : w_up σ c x v 122 = σ 122 := w_up_ne (fun e => hc e.symm)
  have hr : ∀ k, m_rl (w_up σ c x v) k = m_rl σ k := fun k => by unfold m_rl; rw [h0]
  obtain ⟨s1, s2, s3, s4⟩ := m_ix_sc d d10 i i7 iL
  funext k j
  by_cases hk : k = 0
  · subst hk
    show w_am (w_up σ c x v) c o 0 j = if 0 = d ∧ j = i then v else w_am σ c o 0 j
    unfold w_am
    rw [h0]
    have e1 : w_up σ c x v c (o + 42) = σ c (o + 42) := w_up_j (by omega)
    have e2 : w_up σ c x v c (o + 41) = σ c (o + 41) := w_up_j (by omega)
    have e3 : w_up σ c x v c (o + 47) = σ c (o + 47) := w_up_j (by omega)
    rw [if_pos rfl, e1, e2, e3, if_neg (show ¬ (0 = d ∧ j = i) by omega), if_pos rfl]
  · have eL : w_am (w_up σ c x v) c o k j = if j < m_rl σ k then w_up σ c x v c (o + m_ix k j) else 0 := by
      unfold w_am
      rw [if_neg hk, hr]
    rw [eL]
    show _ = if k = d ∧ j = i then v else w_am σ c o k j
    by_cases hj : j < m_rl σ k
    · obtain ⟨k10, j7, jL⟩ := m_rl_d h hj
      rw [if_pos hj]
      by_cases hq : k = d ∧ j = i
      · rw [if_pos hq, hq.1, hq.2, ← hx, w_up_at]
      · rw [if_neg hq, w_up_j (fun e => hq (m_ix_inj k k10 j j7 d d10 i i7 jL iL (by omega)))]
        exact m_rd hk hj rfl
    · rw [if_neg hj, if_neg (fun q => hj (by rw [q.1, q.2]; exact hi))]
      unfold w_am
      rw [if_neg hk, if_neg hj]
theorem w_am_up0 {σ : w_M} {c o j x : Nat} {v : Int} (h : m_sm σ) (hc : c ≠ 122) (hx : (j = 1 ∧ x = o + 42) ∨ (j = 2 ∧ x = o + 41) ∨ (j = 3 ∧ x = o + 47)) : w_am (w_up σ c x v) c o = w_up (w_am σ c o) 0 j v := by
  have h0 : w_up σ c x v 122 = σ 122 := w_up_ne (fun e => hc e.symm)
  have hr : ∀ k, m_rl (w_up σ c x v) k = m_rl σ k := fun k => by unfold m_rl; rw [h0]
  funext k q
  by_cases hk : k = 0
  · subst hk
    show w_am (w_up σ c x v) c o 0 q = if (0 : Nat) = 0 ∧ q = j then v else w_am σ c o 0 q
    by_cases hq : q = j
    · rw [if_pos (show (0 : Nat) = 0 ∧ q = j from ⟨rfl, hq⟩)]
      unfold w_am
      rw [if_pos rfl, h0]
      rcases hx with ⟨rfl, rfl⟩ | ⟨rfl, rfl⟩ | ⟨rfl, rfl⟩ <;> subst hq <;> simp [w_up]
    · rw [if_neg (show ¬ ((0 : Nat) = 0 ∧ q = j) from fun e => hq e.2)]
      unfold w_am
      rw [if_pos rfl, if_pos rfl, h0]
      rcases hx with ⟨rfl, rfl⟩ | ⟨rfl, rfl⟩ | ⟨rfl, rfl⟩
      · simp only [w_up_j (show o + 41 ≠ o + 42 by omega), w_up_j (show o + 47 ≠ o + 42 by omega), if_neg hq]
      · simp only [w_up_j (show o + 42 ≠ o + 41 by omega), w_up_j (show o + 47 ≠ o + 41 by omega), if_neg hq]
      · simp only [w_up_j (show o + 42 ≠ o + 47 by omega), w_up_j (show o + 41 ≠ o + 47 by omega), if_neg hq]
  · have eL : w_am (w_up σ c x v) c o k q = if q < m_rl σ k then w_up σ c x v c (o + m_ix k q) else 0 := by
      unfold w_am
      rw [if_neg hk, hr]
    rw [eL]
    show _ = if k = 0 ∧ q = j then v else w_am σ c o k q
    rw [if_neg (fun e : k = 0 ∧ q = j => hk e.1)]
    by_cases hj : q < m_rl σ k
    · obtain ⟨k10, j7, jL⟩ := m_rl_d h hj
      obtain ⟨s1, s2, s3, s4⟩ := m_ix_sc k k10 q j7 jL
      rw [if_pos hj, w_up_j (by omega)]
      exact m_rd hk hj rfl
    · rw [if_neg hj]
      unfold w_am
      rw [if_neg hk, if_neg hj]
theorem w_am_fr {σ σ' : w_M} {c o : Nat} (h0 : σ' 122 3 = σ 122 3 ∧ σ' 122 4 = σ 122 4 ∧ σ' 122 5 = σ 122 5) (h : σ' c = σ c) : w_am σ' c o = w_am σ c o := by
  funext k j
  unfold w_am m_rl
  rw [h0.1, h0.2.1, h0.2.2, h]
noncomputable def m_ok (σ : w_M) (c o : Nat) : Prop := n_WF (w_am σ c o)
theorem m_ok.s {σ : w_M} {c o : Nat} (h : m_ok σ c o) : 0 ≤ σ 122 4 ∧ σ 122 4 ≤ 7 := n_WF.s h
theorem m_ok.n {σ : w_M} {c o : Nat} (h : m_ok σ c o) : 0 ≤ σ 122 5 ∧ σ 122 5 ≤ 4 := n_WF.n h
theorem m_ok.hrs {σ : w_M} {c o : Nat} (h : m_ok σ c o) : 1 ≤ σ 122 3 ∧ σ 122 3 ≤ 12 := n_WF.hrs h
theorem m_ok.hr {σ : w_M} {c o : Nat} (h : m_ok σ c o) : 0 ≤ σ c (o + 42) ∧ σ c (o + 42) ≤ σ 122 3 := n_WF.hr h
theorem m_ok.sm {σ : w_M} {c o : Nat} (h : m_ok σ c o) : m_sm σ := by
  have := h.s
  have := h.n
  exact ⟨by omega, by omega⟩
theorem n_s_am {σ : w_M} {c o : Nat} : n_s (w_am σ c o) = (σ 122 4).toNat := rfl
theorem n_n_am {σ : w_M} {c o : Nat} : n_n (w_am σ c o) = (σ 122 5).toNat := rfl
