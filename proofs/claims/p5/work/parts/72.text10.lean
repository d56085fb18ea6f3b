/-! The reference reads the numbers of a line -/
theorem w_up_v {σ : w_M} {a i x : Nat} {v : Int} : w_up σ a i v a x = if x = i then v else σ a x := by
  by_cases h : x = i
  · rw [if_pos h, h, w_up_at]
  · rw [if_neg h, w_up_j h]
theorem nf_pre {T : Nat → Int} {L : Nat} {D : w_M} {k b j : Nat} (h : (nf T L D k b (j + 1)).1 = 0) : (nf T L D k b j).1 = 0 := by
  by_cases q : (nf T L D k b j).1 = 0
  · exact q
  · rw [nf_stay q 1] at h
    exact absurd h q
noncomputable def mo_h (σ σ' : w_M) : Prop := (∀ b, b ≠ 122 → b ≠ 126 → σ' b = σ b) ∧ ∀ j, j < 7 ∨ j = 14 ∨ j = 15 ∨ 22 ≤ j → σ' 122 j = σ 122 j
theorem mo_h.rfl' {σ : w_M} : mo_h σ σ := ⟨fun _ _ _ => rfl, fun _ _ => rfl⟩
theorem mo_h.tr {σ σ1 σ2 : w_M} (h : mo_h σ σ1) (g : mo_h σ1 σ2) : mo_h σ σ2 := ⟨fun b h1 h2 => (g.1 b h1 h2).trans (h.1 b h1 h2), fun j hj => (g.2 j hj).trans (h.2 j hj)⟩
theorem mo_g.h {σ σ' : w_M} (h : mo_g σ σ') : mo_h σ σ' := ⟨fun b hb _ => h.1 b hb, fun j hj => h.2 j (by omega)⟩
theorem mo_fr.h {σ σ' : w_M} (h : mo_fr σ σ') : mo_h σ σ' := h.g.h
theorem mo_h.tp {σ τ : w_M} (h : mo_h σ τ) : mo_tp σ τ := ⟨h.1 127 (by decide) (by decide), h.2 15 (by omega)⟩
theorem mo_h.up6 {σ σ1 : w_M} (h : mo_h σ σ1) {i : Nat} {v : Int} : mo_h σ (w_up σ1 126 i v) := ⟨fun b h1 h2 => by rw [w_up_ne h2]; exact h.1 b h1 h2, fun j hj => by rw [w_up_ne (by decide)]; exact h.2 j hj⟩
theorem mo_h.up2 {σ σ1 : w_M} (h : mo_h σ σ1) {i : Nat} {v : Int} (h1 : 7 ≤ i) (h2 : i < 14) : mo_h σ (w_up σ1 122 i v) := ⟨fun b h3 h4 => by rw [w_up_ne h3]; exact h.1 b h3 h4, fun j hj => by rw [w_up_j (by omega)]; exact h.2 j hj⟩
theorem rs.up6 {T : Nat → Int} {L : Nat} {D : w_M} {k b j i : Nat} {v : Int} {σ : w_M} (h : rs T L D k b j σ) : rs T L D k b j (w_up σ 126 i v) := h.fr (by rw [w_up_ne (by decide)]) (fun j _ _ => by rw [w_up_ne (by decide)])
theorem rs.up2 {T : Nat → Int} {L : Nat} {D : w_M} {k b j i : Nat} {v : Int} {σ : w_M} (h : rs T L D k b j σ) (hi : i < 15) : rs T L D k b j (w_up σ 122 i v) := h.fr (by rw [w_up_ne (by decide)]) (fun j _ _ => by rw [w_up_j (by omega)])
/-- what a line has changed, by sorts -/
noncomputable def le_0 (v0 : Int) (σ σ' : w_M) : Prop := σ' 126 = σ 126 ∧ σ' 122 7 = v0 ∧ ∀ j, j < 16 → j ≠ 7 → σ' 122 j = σ 122 j
noncomputable def le_1 (v0 v1 : Int) (σ σ' : w_M) : Prop := (∀ x, σ' 126 x = if x = 7 + (σ 122 8).toNat then v1 else if x = (σ 122 8).toNat then v0 else σ 126 x) ∧ σ' 122 8 = σ 122 8 + 1 ∧ ∀ j, j < 16 → j ≠ 8 → σ' 122 j = σ 122 j
noncomputable def le_2 (v0 v1 v2 : Int) (σ σ' : w_M) : Prop := (∀ x, σ' 126 x = if x = 24 + 5 * (σ 122 9).toNat then v2 else if x = 23 + 5 * (σ 122 9).toNat then 3 else if x = 22 + 5 * (σ 122 9).toNat then v1 else if x = 21 + 5 * (σ 122 9).toNat then v0 else σ 126 x) ∧ σ' 122 9 = σ 122 9 + 1 ∧ σ' 122 12 = (if σ 122 12 < v2 then v2 else σ 122 12) ∧ ∀ j, j < 16 → j ≠ 9 → j ≠ 12 → σ' 122 j = σ 122 j
noncomputable def le_3 (v0 : Int) (σ σ' : w_M) : Prop := (∀ x, σ' 126 x = if x = 41 then w_or (σ 126 41) (w_shl 1 v0) else σ 126 x) ∧ σ' 122 13 = (if σ 122 13 < v0 then v0 else σ 122 13) ∧ ∀ j, j < 16 → j ≠ 13 → σ' 122 j = σ 122 j
noncomputable def le_4 (v0 : Int) (σ σ' : w_M) : Prop := σ' 126 = σ 126 ∧ σ' 122 11 = w_or (σ 122 11) (w_shl 1 v0) ∧ σ' 122 12 = (if σ 122 12 < v0 then v0 else σ 122 12) ∧ ∀ j, j < 16 → j ≠ 11 → j ≠ 12 → σ' 122 j = σ 122 j
noncomputable def le_q (k : Nat) (v0 v1 v2 : Int) (σ σ' : w_M) : Prop := (k = 0 → le_0 v0 σ σ') ∧ (k = 1 → le_1 v0 v1 σ σ') ∧ (k = 2 → le_2 v0 v1 v2 σ σ') ∧ (k = 3 → le_3 v0 σ σ') ∧ (k = 4 → le_4 v0 σ σ')
noncomputable def p_Model_readReaper (σ : w_M) : Prop := (0 ≤ σ 122 9 ∧ σ 122 9 < 4) ∧ ∃ D b, rs (mT σ) (mL σ) D 2 b 0 σ
noncomputable def q_Model_readReaper (σ σ' : w_M) : Prop := mo_h σ σ' ∧ ∀ D b, rs (mT σ) (mL σ) D 2 b 0 σ → rs (mT σ) (mL σ) D 2 b 3 σ' ∧ ((nf (mT σ) (mL σ) D 2 b 3).1 = 0 → σ' 122 20 = 0 → le_2 (tk_v (mT σ) (mL σ) b) (tk_v (mT σ) (mL σ) (pp (mT σ) (mL σ) b 1)) (tk_v (mT σ) (mL σ) (pp (mT σ) (mL σ) b 2)) σ σ')
theorem fModel_readReaper_0 : w_fe am_c170 0 1 (.bipush 21) := ⟨rfl, rfl⟩
theorem fModel_readReaper_1 : w_fe am_c170 1 2 (.bipush 5) := ⟨rfl, rfl⟩
theorem fModel_readReaper_2 : w_fe am_c170 2 3 (.aload 0) := ⟨rfl, rfl⟩
theorem fModel_readReaper_3 : w_fe am_c170 3 4 (.getfield 909) := ⟨rfl, rfl⟩
theorem fModel_readReaper_4 : w_fe am_c170 4 5 (.imul) := ⟨rfl, rfl⟩
theorem fModel_readReaper_5 : w_fe am_c170 5 6 (.iadd) := ⟨rfl, rfl⟩
theorem fModel_readReaper_6 : w_fe am_c170 6 7 (.istore 1) := ⟨rfl, rfl⟩
theorem fModel_readReaper_7 : w_fe am_c170 7 8 (.aload 0) := ⟨rfl, rfl⟩
theorem fModel_readReaper_8 : w_fe am_c170 8 9 (.getfield 906) := ⟨rfl, rfl⟩
theorem fModel_readReaper_9 : w_fe am_c170 9 10 (.iload 1) := ⟨rfl, rfl⟩
theorem fModel_readReaper_10 : w_fe am_c170 10 11 (.bipush 0) := ⟨rfl, rfl⟩
theorem fModel_readReaper_11 : w_fe am_c170 11 12 (.iadd) := ⟨rfl, rfl⟩
theorem fModel_readReaper_12 : w_fe am_c170 12 13 (.aload 0) := ⟨rfl, rfl⟩
theorem fModel_readReaper_13 : w_fe am_c170 13 14 (.bipush 1) := ⟨rfl, rfl⟩
theorem fModel_readReaper_14 : w_fe am_c170 14 15 (.bipush 9) := ⟨rfl, rfl⟩
theorem fModel_readReaper_15 : w_fe am_c170 15 16 (.invokestatic 168) := ⟨rfl, rfl⟩
theorem fModel_readReaper_16 : w_fe am_c170 16 17 (.iastore) := ⟨rfl, rfl⟩
theorem fModel_readReaper_17 : w_fe am_c170 17 18 (.aload 0) := ⟨rfl, rfl⟩
theorem fModel_readReaper_18 : w_fe am_c170 18 19 (.getfield 906) := ⟨rfl, rfl⟩
theorem fModel_readReaper_19 : w_fe am_c170 19 20 (.iload 1) := ⟨rfl, rfl⟩
theorem fModel_readReaper_20 : w_fe am_c170 20 21 (.bipush 1) := ⟨rfl, rfl⟩
theorem fModel_readReaper_21 : w_fe am_c170 21 22 (.iadd) := ⟨rfl, rfl⟩
theorem fModel_readReaper_22 : w_fe am_c170 22 23 (.aload 0) := ⟨rfl, rfl⟩
theorem fModel_readReaper_23 : w_fe am_c170 23 24 (.bipush 0) := ⟨rfl, rfl⟩
theorem fModel_readReaper_24 : w_fe am_c170 24 25 (.bipush 9) := ⟨rfl, rfl⟩
theorem fModel_readReaper_25 : w_fe am_c170 25 26 (.invokestatic 168) := ⟨rfl, rfl⟩
theorem fModel_readReaper_26 : w_fe am_c170 26 27 (.iastore) := ⟨rfl, rfl⟩
theorem fModel_readReaper_27 : w_fe am_c170 27 28 (.aload 0) := ⟨rfl, rfl⟩
theorem fModel_readReaper_28 : w_fe am_c170 28 29 (.getfield 906) := ⟨rfl, rfl⟩
theorem fModel_readReaper_29 : w_fe am_c170 29 30 (.iload 1) := ⟨rfl, rfl⟩
theorem fModel_readReaper_30 : w_fe am_c170 30 31 (.bipush 2) := ⟨rfl, rfl⟩
theorem fModel_readReaper_31 : w_fe am_c170 31 32 (.iadd) := ⟨rfl, rfl⟩
theorem fModel_readReaper_32 : w_fe am_c170 32 33 (.bipush 3) := ⟨rfl, rfl⟩
theorem fModel_readReaper_33 : w_fe am_c170 33 34 (.iastore) := ⟨rfl, rfl⟩
theorem fModel_readReaper_34 : w_fe am_c170 34 35 (.aload 0) := ⟨rfl, rfl⟩
theorem fModel_readReaper_35 : w_fe am_c170 35 36 (.bipush 0) := ⟨rfl, rfl⟩
theorem fModel_readReaper_36 : w_fe am_c170 36 37 (.bipush 6) := ⟨rfl, rfl⟩
theorem fModel_readReaper_37 : w_fe am_c170 37 38 (.invokestatic 168) := ⟨rfl, rfl⟩
theorem fModel_readReaper_38 : w_fe am_c170 38 39 (.istore 2) := ⟨rfl, rfl⟩
theorem fModel_readReaper_39 : w_fe am_c170 39 40 (.aload 0) := ⟨rfl, rfl⟩
theorem fModel_readReaper_40 : w_fe am_c170 40 41 (.aload 0) := ⟨rfl, rfl⟩
theorem fModel_readReaper_41 : w_fe am_c170 41 42 (.getfield 920) := ⟨rfl, rfl⟩
theorem fModel_readReaper_42 : w_if am_c170 42 43 .ne 49 := ⟨rfl, rfl⟩
theorem fModel_readReaper_43 : w_fe am_c170 43 44 (.iload 2) := ⟨rfl, rfl⟩
theorem fModel_readReaper_44 : w_fe am_c170 44 45 (.aload 0) := ⟨rfl, rfl⟩
theorem fModel_readReaper_45 : w_fe am_c170 45 46 (.getfield 912) := ⟨rfl, rfl⟩
theorem fModel_readReaper_46 : w_ic am_c170 46 47 .le 49 := ⟨rfl, rfl⟩
theorem fModel_readReaper_47 : w_fe am_c170 47 48 (.iload 2) := ⟨rfl, rfl⟩
theorem fModel_readReaper_48 : w_gt am_c170 48 51 := rfl
theorem fModel_readReaper_49 : w_fe am_c170 49 50 (.aload 0) := ⟨rfl, rfl⟩
theorem fModel_readReaper_50 : w_fe am_c170 50 51 (.getfield 912) := ⟨rfl, rfl⟩
theorem fModel_readReaper_51 : w_fe am_c170 51 52 (.putfield 912) := ⟨rfl, rfl⟩
theorem fModel_readReaper_52 : w_fe am_c170 52 53 (.aload 0) := ⟨rfl, rfl⟩
theorem fModel_readReaper_53 : w_fe am_c170 53 54 (.getfield 906) := ⟨rfl, rfl⟩
theorem fModel_readReaper_54 : w_fe am_c170 54 55 (.iload 1) := ⟨rfl, rfl⟩
theorem fModel_readReaper_55 : w_fe am_c170 55 56 (.bipush 3) := ⟨rfl, rfl⟩
theorem fModel_readReaper_56 : w_fe am_c170 56 57 (.iadd) := ⟨rfl, rfl⟩
theorem fModel_readReaper_57 : w_fe am_c170 57 58 (.iload 2) := ⟨rfl, rfl⟩
theorem fModel_readReaper_58 : w_fe am_c170 58 59 (.iastore) := ⟨rfl, rfl⟩
theorem fModel_readReaper_59 : w_fe am_c170 59 60 (.aload 0) := ⟨rfl, rfl⟩
theorem fModel_readReaper_60 : w_fe am_c170 60 61 (.dup) := ⟨rfl, rfl⟩
theorem fModel_readReaper_61 : w_fe am_c170 61 62 (.getfield 909) := ⟨rfl, rfl⟩
theorem fModel_readReaper_62 : w_fe am_c170 62 63 (.bipush 1) := ⟨rfl, rfl⟩
theorem fModel_readReaper_63 : w_fe am_c170 63 64 (.iadd) := ⟨rfl, rfl⟩
theorem fModel_readReaper_64 : w_fe am_c170 64 65 (.putfield 909) := ⟨rfl, rfl⟩
theorem fModel_readReaper_65 : w_fe am_c170 65 66 (.return_) := ⟨rfl, rfl⟩
set_option maxRecDepth 20000 in
theorem bModel_readReaper_0 {xs : List Int} {d : Nat} {Q : Option w_V → w_M → Prop}  {σ : w_M}
    (h : w_in (5 * (σ 122 9)) ∧ w_in (21 + (5 * (σ 122 9))) ∧ (∀ (y1 : Int), y1 = (21 + (5 * (σ 122 9))) → (w_in (y1 + 0) ∧ p_Model_readNumber 1 9 σ ∧ (∀ (y2 : Int) (τ3 : w_M), q_Model_readNumber 1 9 σ y2 τ3 → (0 ≤ (y1 + 0) ∧ (y1 + 0) < 82 ∧ (∀ (τ4 : w_M), τ4 = w_up τ3 126 (y1 + 0).toNat y2 → (w_in (y1 + 1) ∧ p_Model_readNumber 0 9 τ4 ∧ (∀ (y5 : Int) (τ6 : w_M), q_Model_readNumber 0 9 τ4 y5 τ6 → (0 ≤ (y1 + 1) ∧ (y1 + 1) < 82 ∧ (∀ (τ7 : w_M), τ7 = w_up τ6 126 (y1 + 1).toNat y5 → (w_in (y1 + 2) ∧ 0 ≤ (y1 + 2) ∧ (y1 + 2) < 82 ∧ (∀ (τ8 : w_M), τ8 = w_up τ7 126 (y1 + 2).toNat 3 → (p_Model_readNumber 0 6 τ8 ∧ (∀ (y9 : Int) (τ10 : w_M), q_Model_readNumber 0 6 τ8 y9 τ10 → ((¬ (τ10 122 20) = 0 → ∀ (τ11 : w_M), τ11 = w_up τ10 122 12 (τ10 122 12) → (w_in (y1 + 3) ∧ 0 ≤ (y1 + 3) ∧ (y1 + 3) < 82 ∧ (∀ (τ12 : w_M), τ12 = w_up τ11 126 (y1 + 3).toNat y9 → (w_in ((τ12 122 9) + 1) ∧ (∀ (τ13 : w_M), τ13 = w_up τ12 122 9 ((τ12 122 9) + 1) → Q none τ13))))) ∧ ((τ10 122 20) = 0 → ((y9 ≤ (τ10 122 12) → ∀ (τ14 : w_M), τ14 = w_up τ10 122 12 (τ10 122 12) → (w_in (y1 + 3) ∧ 0 ≤ (y1 + 3) ∧ (y1 + 3) < 82 ∧ (∀ (τ15 : w_M), τ15 = w_up τ14 126 (y1 + 3).toNat y9 → (w_in ((τ15 122 9) + 1) ∧ (∀ (τ16 : w_M), τ16 = w_up τ15 122 9 ((τ15 122 9) + 1) → Q none τ16))))) ∧ ((τ10 122 12) < y9 → ∀ (τ17 : w_M), τ17 = w_up τ10 122 12 y9 → (w_in (y1 + 3) ∧ 0 ≤ (y1 + 3) ∧ (y1 + 3) < 82 ∧ (∀ (τ18 : w_M), τ18 = w_up τ17 126 (y1 + 3).toNat y9 → (w_in ((τ18 122 9) + 1) ∧ (∀ (τ19 : w_M), τ19 = w_up τ18 122 9 ((τ18 122 9) + 1) → Q none τ19)))))))))))))))))))))) : w_Call (xs, (d + 3)) 170 [.inr (.inr (9, 122))] σ Q :=
  (w_mk (mid := 170) (by decide) rfl rfl rfl rfl rfl (Nat.le_of_ble_eq_true rfl) ⟨rfl, Or.inl (by decide)⟩ (wi_bipush fModel_readReaper_0 (wi_bipush fModel_readReaper_1 (wi_aload0 fModel_readReaper_2 (wi_getf909 fModel_readReaper_3 (wi_imul fModel_readReaper_4 h.1 (wi_iadd fModel_readReaper_5 h.2.1 (wi_istore1 fModel_readReaper_6 trivial (wi_aload0 fModel_readReaper_7 (wi_getf906 fModel_readReaper_8 (wi_iload1 fModel_readReaper_9 (wi_bipush fModel_readReaper_10 (wi_iadd fModel_readReaper_11 (h.2.2 _ rfl).1 (wi_aload0 fModel_readReaper_12 (wi_bipush fModel_readReaper_13 (wi_bipush fModel_readReaper_14 (wi_call3 fModel_readReaper_15 (Nat.le_of_ble_eq_true rfl) (k_Model_readNumber (h.2.2 _ rfl).2.1 (fun y2 τ3 eτ3 => (wi_iast1082 fModel_readReaper_16 ((h.2.2 _ rfl).2.2 y2 τ3 eτ3).1 ((h.2.2 _ rfl).2.2 y2 τ3 eτ3).2.1 (wi_aload0 fModel_readReaper_17 (wi_getf906 fModel_readReaper_18 (wi_iload1 fModel_readReaper_19 (wi_bipush fModel_readReaper_20 (wi_iadd fModel_readReaper_21 (((h.2.2 _ rfl).2.2 y2 τ3 eτ3).2.2 _ rfl).1 (wi_aload0 fModel_readReaper_22 (wi_bipush fModel_readReaper_23 (wi_bipush fModel_readReaper_24 (wi_call3 fModel_readReaper_25 (Nat.le_of_ble_eq_true rfl) (k_Model_readNumber (((h.2.2 _ rfl).2.2 y2 τ3 eτ3).2.2 _ rfl).2.1 (fun y5 τ6 eτ6 => (wi_iast1082 fModel_readReaper_26 ((((h.2.2 _ rfl).2.2 y2 τ3 eτ3).2.2 _ rfl).2.2 y5 τ6 eτ6).1 ((((h.2.2 _ rfl).2.2 y2 τ3 eτ3).2.2 _ rfl).2.2 y5 τ6 eτ6).2.1 (wi_aload0 fModel_readReaper_27 (wi_getf906 fModel_readReaper_28 (wi_iload1 fModel_readReaper_29 (wi_bipush fModel_readReaper_30 (wi_iadd fModel_readReaper_31 (((((h.2.2 _ rfl).2.2 y2 τ3 eτ3).2.2 _ rfl).2.2 y5 τ6 eτ6).2.2 _ rfl).1 (wi_bipush fModel_readReaper_32 (wi_iast1082 fModel_readReaper_33 (((((h.2.2 _ rfl).2.2 y2 τ3 eτ3).2.2 _ rfl).2.2 y5 τ6 eτ6).2.2 _ rfl).2.1 (((((h.2.2 _ rfl).2.2 y2 τ3 eτ3).2.2 _ rfl).2.2 y5 τ6 eτ6).2.2 _ rfl).2.2.1 (wi_aload0 fModel_readReaper_34 (wi_bipush fModel_readReaper_35 (wi_bipush fModel_readReaper_36 (wi_call3 fModel_readReaper_37 (Nat.le_of_ble_eq_true rfl) (k_Model_readNumber ((((((h.2.2 _ rfl).2.2 y2 τ3 eτ3).2.2 _ rfl).2.2 y5 τ6 eτ6).2.2 _ rfl).2.2.2 _ rfl).1 (fun y9 τ10 eτ10 => (wi_istore2 fModel_readReaper_38 trivial (wi_aload0 fModel_readReaper_39 (wi_aload0 fModel_readReaper_40 (wi_getf920 fModel_readReaper_41 (wi_if_ne fModel_readReaper_42 (fun c21 => (wi_aload0 fModel_readReaper_49 (wi_getf912 fModel_readReaper_50 (wi_putf912 fModel_readReaper_51 (wi_aload0 fModel_readReaper_52 (wi_getf906 fModel_readReaper_53 (wi_iload1 fModel_readReaper_54 (wi_bipush fModel_readReaper_55 (wi_iadd fModel_readReaper_56 (((((((((h.2.2 _ rfl).2.2 y2 τ3 eτ3).2.2 _ rfl).2.2 y5 τ6 eτ6).2.2 _ rfl).2.2.2 _ rfl).2 y9 τ10 eτ10).1 c21) _ rfl).1 (wi_iload2 fModel_readReaper_57 (wi_iast1082 fModel_readReaper_58 (((((((((h.2.2 _ rfl).2.2 y2 τ3 eτ3).2.2 _ rfl).2.2 y5 τ6 eτ6).2.2 _ rfl).2.2.2 _ rfl).2 y9 τ10 eτ10).1 c21) _ rfl).2.1 (((((((((h.2.2 _ rfl).2.2 y2 τ3 eτ3).2.2 _ rfl).2.2 y5 τ6 eτ6).2.2 _ rfl).2.2.2 _ rfl).2 y9 τ10 eτ10).1 c21) _ rfl).2.2.1 (wi_aload0 fModel_readReaper_59 (wi_dup_a fModel_readReaper_60 (wi_getf909 fModel_readReaper_61 (wi_bipush fModel_readReaper_62 (wi_iadd fModel_readReaper_63 ((((((((((h.2.2 _ rfl).2.2 y2 τ3 eτ3).2.2 _ rfl).2.2 y5 τ6 eτ6).2.2 _ rfl).2.2.2 _ rfl).2 y9 τ10 eτ10).1 c21) _ rfl).2.2.2 _ rfl).1 (wi_putf909 fModel_readReaper_64 (wi_ret0 fModel_readReaper_65 (((((((((((h.2.2 _ rfl).2.2 y2 τ3 eτ3).2.2 _ rfl).2.2 y5 τ6 eτ6).2.2 _ rfl).2.2.2 _ rfl).2 y9 τ10 eτ10).1 c21) _ rfl).2.2.2 _ rfl).2 _ rfl))))))))))))))))))) (fun c21 => (wi_iload2 fModel_readReaper_43 (wi_aload0 fModel_readReaper_44 (wi_getf912 fModel_readReaper_45 (wi_ic_le fModel_readReaper_46 (fun c20 => (wi_aload0 fModel_readReaper_49 (wi_getf912 fModel_readReaper_50 (wi_putf912 fModel_readReaper_51 (wi_aload0 fModel_readReaper_52 (wi_getf906 fModel_readReaper_53 (wi_iload1 fModel_readReaper_54 (wi_bipush fModel_readReaper_55 (wi_iadd fModel_readReaper_56 ((((((((((h.2.2 _ rfl).2.2 y2 τ3 eτ3).2.2 _ rfl).2.2 y5 τ6 eτ6).2.2 _ rfl).2.2.2 _ rfl).2 y9 τ10 eτ10).2 c21).1 c20) _ rfl).1 (wi_iload2 fModel_readReaper_57 (wi_iast1082 fModel_readReaper_58 ((((((((((h.2.2 _ rfl).2.2 y2 τ3 eτ3).2.2 _ rfl).2.2 y5 τ6 eτ6).2.2 _ rfl).2.2.2 _ rfl).2 y9 τ10 eτ10).2 c21).1 c20) _ rfl).2.1 ((((((((((h.2.2 _ rfl).2.2 y2 τ3 eτ3).2.2 _ rfl).2.2 y5 τ6 eτ6).2.2 _ rfl).2.2.2 _ rfl).2 y9 τ10 eτ10).2 c21).1 c20) _ rfl).2.2.1 (wi_aload0 fModel_readReaper_59 (wi_dup_a fModel_readReaper_60 (wi_getf909 fModel_readReaper_61 (wi_bipush fModel_readReaper_62 (wi_iadd fModel_readReaper_63 (((((((((((h.2.2 _ rfl).2.2 y2 τ3 eτ3).2.2 _ rfl).2.2 y5 τ6 eτ6).2.2 _ rfl).2.2.2 _ rfl).2 y9 τ10 eτ10).2 c21).1 c20) _ rfl).2.2.2 _ rfl).1 (wi_putf909 fModel_readReaper_64 (wi_ret0 fModel_readReaper_65 ((((((((((((h.2.2 _ rfl).2.2 y2 τ3 eτ3).2.2 _ rfl).2.2 y5 τ6 eτ6).2.2 _ rfl).2.2.2 _ rfl).2 y9 τ10 eτ10).2 c21).1 c20) _ rfl).2.2.2 _ rfl).2 _ rfl))))))))))))))))))) (fun c20 => (wi_iload2 fModel_readReaper_47 (wi_goto fModel_readReaper_48 (wi_putf912 fModel_readReaper_51 (wi_aload0 fModel_readReaper_52 (wi_getf906 fModel_readReaper_53 (wi_iload1 fModel_readReaper_54 (wi_bipush fModel_readReaper_55 (wi_iadd fModel_readReaper_56 ((((((((((h.2.2 _ rfl).2.2 y2 τ3 eτ3).2.2 _ rfl).2.2 y5 τ6 eτ6).2.2 _ rfl).2.2.2 _ rfl).2 y9 τ10 eτ10).2 c21).2 c20) _ rfl).1 (wi_iload2 fModel_readReaper_57 (wi_iast1082 fModel_readReaper_58 ((((((((((h.2.2 _ rfl).2.2 y2 τ3 eτ3).2.2 _ rfl).2.2 y5 τ6 eτ6).2.2 _ rfl).2.2.2 _ rfl).2 y9 τ10 eτ10).2 c21).2 c20) _ rfl).2.1 ((((((((((h.2.2 _ rfl).2.2 y2 τ3 eτ3).2.2 _ rfl).2.2 y5 τ6 eτ6).2.2 _ rfl).2.2.2 _ rfl).2 y9 τ10 eτ10).2 c21).2 c20) _ rfl).2.2.1 (wi_aload0 fModel_readReaper_59 (wi_dup_a fModel_readReaper_60 (wi_getf909 fModel_readReaper_61 (wi_bipush fModel_readReaper_62 (wi_iadd fModel_readReaper_63 (((((((((((h.2.2 _ rfl).2.2 y2 τ3 eτ3).2.2 _ rfl).2.2 y5 τ6 eτ6).2.2 _ rfl).2.2.2 _ rfl).2 y9 τ10 eτ10).2 c21).2 c20) _ rfl).2.2.2 _ rfl).1 (wi_putf909 fModel_readReaper_64 (wi_ret0 fModel_readReaper_65 ((((((((((((h.2.2 _ rfl).2.2 y2 τ3 eτ3).2.2 _ rfl).2.2 y5 τ6 eτ6).2.2 _ rfl).2.2.2 _ rfl).2 y9 τ10 eτ10).2 c21).2 c20) _ rfl).2.2.2 _ rfl).2 _ rfl))))))))))))))))))))))))))))))))))))))))))))))))))))))))))))))))))))))))))
set_option maxHeartbeats 1000000 in
theorem k_Model_readReaper {xs : List Int} {d : Nat} {Q : Option w_V → w_M → Prop}  {σ : w_M} (hp : p_Model_readReaper σ) (hQ : ∀ σ' : w_M, q_Model_readReaper σ σ' → Q none σ') : w_Call (xs, d + 3) 170 [.inr (.inr (9, 122))] σ Q := by
  obtain ⟨h9, D0, b0, r0⟩ := hp
  unfold q_Model_readReaper at hQ
  generalize hT : mT σ = T at *
  generalize hL : mL σ = L at *
  obtain ⟨n, hn⟩ : ∃ n : Nat, σ 122 9 = (n : Int) := ⟨(σ 122 9).toNat, by omega⟩
  refine bModel_readReaper_0 ⟨⟨by omega, by omega⟩, ⟨by omega, by omega⟩, fun y1 e1 => ⟨⟨by omega, by omega⟩, r0.pre, fun y2 τ3 q3 => ⟨by omega, by omega, fun τ4 t4 => ⟨⟨by omega, by omega⟩, ?_⟩⟩⟩⟩
  have i0 : (y1 + 0).toNat = 21 + 5 * n := by omega
  have i1 : (y1 + 1).toNat = 22 + 5 * n := by omega
  have i2 : (y1 + 2).toNat = 23 + 5 * n := by omega
  have i3 : (y1 + 3).toNat = 24 + 5 * n := by omega
  rw [i0] at t4
  have s1 : ∀ D b, rs T L D 2 b 0 σ → rs T L D 2 b 1 τ4 ∧ ((nf T L D 2 b 1).1 = 0 → y2 = tk_v T L b) := fun D b r => by
    obtain ⟨a1, a2, a3⟩ := r.num (by decide) (by decide) (by decide) (by decide) q3
    rw [t4]
    exact ⟨a1.up6, a3⟩
  refine ⟨(s1 D0 b0 r0).1.pre, fun y5 τ6 q6 => ⟨by omega, by omega, fun τ7 t7 => ⟨⟨by omega, by omega⟩, by omega, by omega, fun τ8 t8 => ?_⟩⟩⟩
  rw [i1] at t7
  rw [i2] at t8
  have s2 : ∀ D b, rs T L D 2 b 0 σ → rs T L D 2 b 2 τ8 ∧ ((nf T L D 2 b 2).1 = 0 → y2 = tk_v T L b ∧ y5 = tk_v T L (pp T L b 1)) := fun D b r => by
    obtain ⟨c1, c2⟩ := s1 D b r
    obtain ⟨a1, a2, a3⟩ := c1.num (by decide) (by decide) (by decide) (by decide) q6
    rw [t8, t7]
    exact ⟨a1.up6.up6, fun h => ⟨c2 (nf_pre h), a3 h⟩⟩
  refine ⟨(s2 D0 b0 r0).1.pre, fun y9 τ10 q10 => ?_⟩
  have s3 : ∀ D b, rs T L D 2 b 0 σ → rs T L D 2 b 3 τ10 ∧ ((nf T L D 2 b 3).1 = 0 → y2 = tk_v T L b ∧ y5 = tk_v T L (pp T L b 1) ∧ y9 = tk_v T L (pp T L b 2)) := fun D b r => by
    obtain ⟨c1, c2⟩ := s2 D b r
    obtain ⟨a1, a2, a3⟩ := c1.num (by decide) (by decide) (by decide) (by decide) q10
    exact ⟨a1, fun h => ⟨(c2 (nf_pre h)).1, (c2 (nf_pre h)).2, a3 h⟩⟩
  have F3 : mo_fr σ τ3 := q3.1
  have F6 : mo_fr τ4 τ6 := q6.1
  have F10 : mo_fr τ8 τ10 := q10.1
  have z6 : ∀ x, τ10 126 x = if x = 23 + 5 * n then 3 else if x = 22 + 5 * n then y5 else if x = 21 + 5 * n then y2 else σ 126 x := fun x => by
    rw [F10.1 126 (by decide), t8, w_up_v, t7, w_up_v, F6.1 126 (by decide), t4, w_up_v, F3.1 126 (by decide)]
  have z2 : ∀ j, j < 16 ∨ 22 ≤ j → τ10 122 j = σ 122 j := fun j hj => by
    rw [F10.2 j hj, t8, w_up_ne (by decide), t7, w_up_ne (by decide), F6.2 j hj, t4, w_up_ne (by decide), F3.2 j hj]
  have zb : mo_h σ τ10 := by
    have a := F3.h
    have b : mo_h σ τ4 := by rw [t4]; exact a.up6
    have c : mo_h σ τ8 := by rw [t8, t7]; exact (b.tr F6.h).up6.up6
    exact c.tr F10.h
  have z9 : τ10 122 9 = (n : Int) := by rw [z2 9 (by omega)]; exact hn
  have z12 : τ10 122 12 = σ 122 12 := z2 12 (by omega)
  have tail : ∀ z : Int, (τ10 122 20 = 0 → z = (if τ10 122 12 < y9 then y9 else τ10 122 12)) → ∀ τ11, τ11 = w_up τ10 122 12 z → w_in (y1 + 3) ∧ 0 ≤ y1 + 3 ∧ y1 + 3 < 82 ∧ ∀ τ12, τ12 = w_up τ11 126 (y1 + 3).toNat y9 → w_in (τ12 122 9 + 1) ∧ ∀ τ13, τ13 = w_up τ12 122 9 (τ12 122 9 + 1) → Q none τ13 := fun z hz τ11 t11 => by
    refine ⟨⟨by omega, by omega⟩, by omega, by omega, fun τ12 t12 => ?_⟩
    rw [i3] at t12
    have y9' : τ12 122 9 = (n : Int) := by rw [t12, w_up_ne (by decide), t11, w_up_j (by decide)]; exact z9
    refine ⟨⟨by omega, by omega⟩, fun τ13 t13 => hQ _ ⟨?_, fun D b r => ⟨?_, fun h h20 => ?_⟩⟩⟩
    · rw [t13, t12, t11]; exact ((zb.up2 (by decide) (by decide)).up6).up2 (by decide) (by decide)
    · rw [t13, t12, t11]; exact (((s3 D b r).1.up2 (by decide)).up6).up2 (by decide)
    · have hz' := hz (by rw [t13, w_up_j (by decide), t12, w_up_ne (by decide), t11, w_up_j (by decide)] at h20; exact h20)
      obtain ⟨v0, v1, v2⟩ := (s3 D b r).2 h
      rw [← v0, ← v1, ← v2]
      have en : (σ 122 9).toNat = n := by omega
      refine ⟨fun x => ?_, ?_, ?_, fun j h1 h2 h3 => ?_⟩
      · rw [en, t13, w_up_ne (by decide), t12, w_up_v, t11, w_up_ne (by decide), z6]
      · rw [t13, w_up_at, y9', hn]
      · rw [t13, w_up_j (by decide), t12, w_up_ne (by decide), t11, w_up_at, hz', z12]
      · rw [t13, w_up_j h2, t12, w_up_ne (by decide), t11, w_up_j h3]; exact z2 j (by omega)
  refine ⟨fun c => tail _ (fun h => absurd h c), fun c => ⟨fun c2 => tail _ (fun _ => by rw [if_neg (by omega)]), fun c2 => tail _ (fun _ => by rw [if_pos c2])⟩⟩
noncomputable def p_Model_readLineOf (k : Int) (σ : w_M) : Prop := (0 ≤ k ∧ k ≤ 4) ∧ (k = 1 → 0 ≤ σ 122 8 ∧ σ 122 8 < 7) ∧ (k = 2 → 0 ≤ σ 122 9 ∧ σ 122 9 < 4) ∧ ∃ D b, rs (mT σ) (mL σ) D k.toNat b 0 σ
noncomputable def q_Model_readLineOf (k : Int) (σ σ' : w_M) : Prop := mo_h σ σ' ∧ ∀ D b, rs (mT σ) (mL σ) D k.toNat b 0 σ → D 0 2 = σ 126 41 → D 0 6 = σ 122 11 → rs (mT σ) (mL σ) D k.toNat b (ln_m k.toNat) σ' ∧ ((nf (mT σ) (mL σ) D k.toNat b (ln_m k.toNat)).1 = 0 → σ' 122 20 = 0 → le_q k.toNat (tk_v (mT σ) (mL σ) b) (tk_v (mT σ) (mL σ) (pp (mT σ) (mL σ) b 1)) (tk_v (mT σ) (mL σ) (pp (mT σ) (mL σ) b 2)) σ σ')
theorem fModel_readLineOf_0 : w_fe am_c167 0 1 (.iload 1) := ⟨rfl, rfl⟩
theorem fModel_readLineOf_1 {E : w_C} {rt : Nat} {Q : Option w_V → w_M → Prop} {ls : w_L} {st : List w_V} {σ : w_M} {x : Int} (h0 : x = 0 → w_Ex E rt am_c167 Q 2 ls st σ) (h1 : x = 1 → w_Ex E rt am_c167 Q 9 ls st σ) (h2 : x = 2 → w_Ex E rt am_c167 Q 38 ls st σ) (h3 : x = 3 → w_Ex E rt am_c167 Q 41 ls st σ) (hd : x < 0 ∨ 3 < x → w_Ex E rt am_c167 Q 53 ls st σ) : w_Ex E rt am_c167 Q 1 ls (.inl x :: st) σ :=
  w_Ex_in (op := .tableswitch 53 0 3 #[2, 9, 38, 41]) rfl ⟨rfl, hd, And.intro h0 (And.intro h1 (And.intro h2 (And.intro h3 ( trivial))))⟩
theorem fModel_readLineOf_2 : w_fe am_c167 2 3 (.aload 0) := ⟨rfl, rfl⟩
theorem fModel_readLineOf_3 : w_fe am_c167 3 4 (.aload 0) := ⟨rfl, rfl⟩
theorem fModel_readLineOf_4 : w_fe am_c167 4 5 (.bipush 1) := ⟨rfl, rfl⟩
theorem fModel_readLineOf_5 : w_fe am_c167 5 6 (.bipush 12) := ⟨rfl, rfl⟩
theorem fModel_readLineOf_6 : w_fe am_c167 6 7 (.invokestatic 168) := ⟨rfl, rfl⟩
theorem fModel_readLineOf_7 : w_fe am_c167 7 8 (.putfield 907) := ⟨rfl, rfl⟩
theorem fModel_readLineOf_8 : w_gt am_c167 8 60 := rfl
theorem fModel_readLineOf_9 : w_fe am_c167 9 10 (.aload 0) := ⟨rfl, rfl⟩
theorem fModel_readLineOf_10 : w_fe am_c167 10 11 (.getfield 906) := ⟨rfl, rfl⟩
theorem fModel_readLineOf_11 : w_fe am_c167 11 12 (.bipush 0) := ⟨rfl, rfl⟩
theorem fModel_readLineOf_12 : w_fe am_c167 12 13 (.aload 0) := ⟨rfl, rfl⟩
theorem fModel_readLineOf_13 : w_fe am_c167 13 14 (.getfield 908) := ⟨rfl, rfl⟩
theorem fModel_readLineOf_14 : w_fe am_c167 14 15 (.iadd) := ⟨rfl, rfl⟩
theorem fModel_readLineOf_15 : w_fe am_c167 15 16 (.aload 0) := ⟨rfl, rfl⟩
theorem fModel_readLineOf_16 : w_fe am_c167 16 17 (.bipush 0) := ⟨rfl, rfl⟩
theorem fModel_readLineOf_17 : w_fe am_c167 17 18 (.bipush 40) := ⟨rfl, rfl⟩
theorem fModel_readLineOf_18 : w_fe am_c167 18 19 (.invokestatic 168) := ⟨rfl, rfl⟩
theorem fModel_readLineOf_19 : w_fe am_c167 19 20 (.iastore) := ⟨rfl, rfl⟩
theorem fModel_readLineOf_20 : w_fe am_c167 20 21 (.aload 0) := ⟨rfl, rfl⟩
theorem fModel_readLineOf_21 : w_fe am_c167 21 22 (.getfield 906) := ⟨rfl, rfl⟩
theorem fModel_readLineOf_22 : w_fe am_c167 22 23 (.bipush 7) := ⟨rfl, rfl⟩
theorem fModel_readLineOf_23 : w_fe am_c167 23 24 (.aload 0) := ⟨rfl, rfl⟩
theorem fModel_readLineOf_24 : w_fe am_c167 24 25 (.getfield 908) := ⟨rfl, rfl⟩
theorem fModel_readLineOf_25 : w_fe am_c167 25 26 (.iadd) := ⟨rfl, rfl⟩
theorem fModel_readLineOf_26 : w_fe am_c167 26 27 (.aload 0) := ⟨rfl, rfl⟩
theorem fModel_readLineOf_27 : w_fe am_c167 27 28 (.bipush 0) := ⟨rfl, rfl⟩
theorem fModel_readLineOf_28 : w_fe am_c167 28 29 (.bipush 3) := ⟨rfl, rfl⟩
theorem fModel_readLineOf_29 : w_fe am_c167 29 30 (.invokestatic 168) := ⟨rfl, rfl⟩
theorem fModel_readLineOf_30 : w_fe am_c167 30 31 (.iastore) := ⟨rfl, rfl⟩
theorem fModel_readLineOf_31 : w_fe am_c167 31 32 (.aload 0) := ⟨rfl, rfl⟩
theorem fModel_readLineOf_32 : w_fe am_c167 32 33 (.dup) := ⟨rfl, rfl⟩
theorem fModel_readLineOf_33 : w_fe am_c167 33 34 (.getfield 908) := ⟨rfl, rfl⟩
theorem fModel_readLineOf_34 : w_fe am_c167 34 35 (.bipush 1) := ⟨rfl, rfl⟩
theorem fModel_readLineOf_35 : w_fe am_c167 35 36 (.iadd) := ⟨rfl, rfl⟩
theorem fModel_readLineOf_36 : w_fe am_c167 36 37 (.putfield 908) := ⟨rfl, rfl⟩
theorem fModel_readLineOf_37 : w_gt am_c167 37 60 := rfl
theorem fModel_readLineOf_38 : w_fe am_c167 38 39 (.aload 0) := ⟨rfl, rfl⟩
theorem fModel_readLineOf_39 : w_fe am_c167 39 40 (.invokestatic 170) := ⟨rfl, rfl⟩
theorem fModel_readLineOf_40 : w_gt am_c167 40 60 := rfl
theorem fModel_readLineOf_41 : w_fe am_c167 41 42 (.aload 0) := ⟨rfl, rfl⟩
theorem fModel_readLineOf_42 : w_fe am_c167 42 43 (.getfield 906) := ⟨rfl, rfl⟩
theorem fModel_readLineOf_43 : w_fe am_c167 43 44 (.bipush 41) := ⟨rfl, rfl⟩
theorem fModel_readLineOf_44 : w_fe am_c167 44 45 (.aload 0) := ⟨rfl, rfl⟩
theorem fModel_readLineOf_45 : w_fe am_c167 45 46 (.aload 0) := ⟨rfl, rfl⟩
theorem fModel_readLineOf_46 : w_fe am_c167 46 47 (.getfield 906) := ⟨rfl, rfl⟩
theorem fModel_readLineOf_47 : w_fe am_c167 47 48 (.bipush 41) := ⟨rfl, rfl⟩
theorem fModel_readLineOf_48 : w_fe am_c167 48 49 (.iaload) := ⟨rfl, rfl⟩
theorem fModel_readLineOf_49 : w_fe am_c167 49 50 (.bipush 11) := ⟨rfl, rfl⟩
theorem fModel_readLineOf_50 : w_fe am_c167 50 51 (.invokestatic 171) := ⟨rfl, rfl⟩
theorem fModel_readLineOf_51 : w_fe am_c167 51 52 (.iastore) := ⟨rfl, rfl⟩
theorem fModel_readLineOf_52 : w_gt am_c167 52 60 := rfl
theorem fModel_readLineOf_53 : w_fe am_c167 53 54 (.aload 0) := ⟨rfl, rfl⟩
theorem fModel_readLineOf_54 : w_fe am_c167 54 55 (.aload 0) := ⟨rfl, rfl⟩
theorem fModel_readLineOf_55 : w_fe am_c167 55 56 (.aload 0) := ⟨rfl, rfl⟩
theorem fModel_readLineOf_56 : w_fe am_c167 56 57 (.getfield 911) := ⟨rfl, rfl⟩
theorem fModel_readLineOf_57 : w_fe am_c167 57 58 (.bipush 6) := ⟨rfl, rfl⟩
theorem fModel_readLineOf_58 : w_fe am_c167 58 59 (.invokestatic 171) := ⟨rfl, rfl⟩
theorem fModel_readLineOf_59 : w_fe am_c167 59 60 (.putfield 911) := ⟨rfl, rfl⟩
theorem fModel_readLineOf_60 : w_fe am_c167 60 61 (.return_) := ⟨rfl, rfl⟩
set_option maxRecDepth 20000 in
theorem bModel_readLineOf_0 {xs : List Int} {d : Nat} {Q : Option w_V → w_M → Prop} {x1 : Int} {σ : w_M}
    (h : (x1 = 0 → (p_Model_readNumber 1 12 σ ∧ (∀ (y1 : Int) (τ2 : w_M), q_Model_readNumber 1 12 σ y1 τ2 → ∀ (τ3 : w_M), τ3 = w_up τ2 122 7 y1 → Q none τ3))) ∧ (x1 = 1 → (w_in (0 + (σ 122 8)) ∧ p_Model_readNumber 0 40 σ ∧ (∀ (y4 : Int) (τ5 : w_M), q_Model_readNumber 0 40 σ y4 τ5 → (0 ≤ (0 + (σ 122 8)) ∧ (0 + (σ 122 8)) < 82 ∧ (∀ (τ6 : w_M), τ6 = w_up τ5 126 (0 + (σ 122 8)).toNat y4 → (w_in (7 + (τ6 122 8)) ∧ p_Model_readNumber 0 3 τ6 ∧ (∀ (y7 : Int) (τ8 : w_M), q_Model_readNumber 0 3 τ6 y7 τ8 → (0 ≤ (7 + (τ6 122 8)) ∧ (7 + (τ6 122 8)) < 82 ∧ (∀ (τ9 : w_M), τ9 = w_up τ8 126 (7 + (τ6 122 8)).toNat y7 → (w_in ((τ9 122 8) + 1) ∧ (∀ (τ10 : w_M), τ10 = w_up τ9 122 8 ((τ9 122 8) + 1) → Q none τ10))))))))))) ∧ (x1 = 2 → (p_Model_readReaper σ ∧ (∀ (τ11 : w_M), q_Model_readReaper σ τ11 → Q none τ11))) ∧ (x1 = 3 → (p_Model_readFresh (σ 126 41) 11 σ ∧ (∀ (y12 : Int) (τ13 : w_M), q_Model_readFresh (σ 126 41) 11 σ y12 τ13 → ∀ (τ14 : w_M), τ14 = w_up τ13 126 41 y12 → Q none τ14))) ∧ (x1 < 0 ∨ 3 < x1 → (p_Model_readFresh (σ 122 11) 6 σ ∧ (∀ (y15 : Int) (τ16 : w_M), q_Model_readFresh (σ 122 11) 6 σ y15 τ16 → ∀ (τ17 : w_M), τ17 = w_up τ16 122 11 y15 → Q none τ17)))) : w_Call (xs, (d + 4)) 167 [.inr (.inr (9, 122)), .inl x1] σ Q :=
  (w_mk (mid := 167) (by decide) rfl rfl rfl rfl rfl (Nat.le_of_ble_eq_true rfl) ⟨rfl, Or.inl (by decide)⟩ (wi_iload1 fModel_readLineOf_0 (fModel_readLineOf_1 (fun c => (wi_aload0 fModel_readLineOf_2 (wi_aload0 fModel_readLineOf_3 (wi_bipush fModel_readLineOf_4 (wi_bipush fModel_readLineOf_5 (wi_call3 fModel_readLineOf_6 (Nat.le_of_ble_eq_true rfl) (k_Model_readNumber (h.1 c).1 (fun y1 τ2 eτ2 => (wi_putf907 fModel_readLineOf_7 (wi_goto fModel_readLineOf_8 (wi_ret0 fModel_readLineOf_60 (((h.1 c).2 y1 τ2 eτ2) _ rfl)))))))))))) (fun c => (wi_aload0 fModel_readLineOf_9 (wi_getf906 fModel_readLineOf_10 (wi_bipush fModel_readLineOf_11 (wi_aload0 fModel_readLineOf_12 (wi_getf908 fModel_readLineOf_13 (wi_iadd fModel_readLineOf_14 (h.2.1 c).1 (wi_aload0 fModel_readLineOf_15 (wi_bipush fModel_readLineOf_16 (wi_bipush fModel_readLineOf_17 (wi_call3 fModel_readLineOf_18 (Nat.le_of_ble_eq_true rfl) (k_Model_readNumber (h.2.1 c).2.1 (fun y4 τ5 eτ5 => (wi_iast1082 fModel_readLineOf_19 ((h.2.1 c).2.2 y4 τ5 eτ5).1 ((h.2.1 c).2.2 y4 τ5 eτ5).2.1 (wi_aload0 fModel_readLineOf_20 (wi_getf906 fModel_readLineOf_21 (wi_bipush fModel_readLineOf_22 (wi_aload0 fModel_readLineOf_23 (wi_getf908 fModel_readLineOf_24 (wi_iadd fModel_readLineOf_25 (((h.2.1 c).2.2 y4 τ5 eτ5).2.2 _ rfl).1 (wi_aload0 fModel_readLineOf_26 (wi_bipush fModel_readLineOf_27 (wi_bipush fModel_readLineOf_28 (wi_call3 fModel_readLineOf_29 (Nat.le_of_ble_eq_true rfl) (k_Model_readNumber (((h.2.1 c).2.2 y4 τ5 eτ5).2.2 _ rfl).2.1 (fun y7 τ8 eτ8 => (wi_iast1082 fModel_readLineOf_30 ((((h.2.1 c).2.2 y4 τ5 eτ5).2.2 _ rfl).2.2 y7 τ8 eτ8).1 ((((h.2.1 c).2.2 y4 τ5 eτ5).2.2 _ rfl).2.2 y7 τ8 eτ8).2.1 (wi_aload0 fModel_readLineOf_31 (wi_dup_a fModel_readLineOf_32 (wi_getf908 fModel_readLineOf_33 (wi_bipush fModel_readLineOf_34 (wi_iadd fModel_readLineOf_35 (((((h.2.1 c).2.2 y4 τ5 eτ5).2.2 _ rfl).2.2 y7 τ8 eτ8).2.2 _ rfl).1 (wi_putf908 fModel_readLineOf_36 (wi_goto fModel_readLineOf_37 (wi_ret0 fModel_readLineOf_60 ((((((h.2.1 c).2.2 y4 τ5 eτ5).2.2 _ rfl).2.2 y7 τ8 eτ8).2.2 _ rfl).2 _ rfl)))))))))))))))))))))))))))))))))))) (fun c => (wi_aload0 fModel_readLineOf_38 (wi_call1 fModel_readLineOf_39 (Nat.le_of_ble_eq_true rfl) (k_Model_readReaper (h.2.2.1 c).1 (fun τ11 eτ11 => (wi_goto fModel_readLineOf_40 (wi_ret0 fModel_readLineOf_60 ((h.2.2.1 c).2 τ11 eτ11)))))))) (fun c => (wi_aload0 fModel_readLineOf_41 (wi_getf906 fModel_readLineOf_42 (wi_bipush fModel_readLineOf_43 (wi_aload0 fModel_readLineOf_44 (wi_aload0 fModel_readLineOf_45 (wi_getf906 fModel_readLineOf_46 (wi_bipush fModel_readLineOf_47 (wi_iald1082 fModel_readLineOf_48 (by decide) (by decide) (wi_bipush fModel_readLineOf_49 (wi_call3 fModel_readLineOf_50 (Nat.le_of_ble_eq_true rfl) (k_Model_readFresh (h.2.2.2.1 c).1 (fun y12 τ13 eτ13 => (wi_iast1082 fModel_readLineOf_51 (by decide) (by decide) (wi_goto fModel_readLineOf_52 (wi_ret0 fModel_readLineOf_60 (((h.2.2.2.1 c).2 y12 τ13 eτ13) _ rfl))))))))))))))))) (fun c => (wi_aload0 fModel_readLineOf_53 (wi_aload0 fModel_readLineOf_54 (wi_aload0 fModel_readLineOf_55 (wi_getf911 fModel_readLineOf_56 (wi_bipush fModel_readLineOf_57 (wi_call3 fModel_readLineOf_58 (Nat.le_of_ble_eq_true rfl) (k_Model_readFresh (h.2.2.2.2 c).1 (fun y15 τ16 eτ16 => (wi_putf911 fModel_readLineOf_59 (wi_ret0 fModel_readLineOf_60 (((h.2.2.2.2 c).2 y15 τ16 eτ16) _ rfl)))))))))))))))
set_option maxHeartbeats 1000000 in
theorem k_Model_readLineOf {xs : List Int} {d : Nat} {Q : Option w_V → w_M → Prop} {x1 : Int} {σ : w_M} (hp : p_Model_readLineOf x1 σ) (hQ : ∀ σ' : w_M, q_Model_readLineOf x1 σ σ' → Q none σ') : w_Call (xs, d + 4) 167 [.inr (.inr (9, 122)), .inl x1] σ Q := by
  obtain ⟨hk, hk1, hk2, D0, b0, r0⟩ := hp
  unfold q_Model_readLineOf at hQ
  generalize hT : mT σ = T at *
  generalize hL : mL σ = L at *
  refine bModel_readLineOf_0 ⟨fun c => ?_, fun c => ?_, fun c => ?_, fun c => ?_, fun c => ?_⟩
  · subst c
    refine ⟨r0.pre, fun y1 τ2 q2 τ3 t3 => hQ _ ⟨?_, fun D b r _ _ => ?_⟩⟩
    · rw [t3]; exact q2.1.h.up2 (by decide) (by decide)
    · obtain ⟨a1, a2, a3⟩ := r.num (by decide) (by decide) (by decide) (by decide) q2
      refine ⟨by rw [t3]; exact a1.up2 (by decide), fun h _ => ⟨fun _ => ?_, fun h => absurd h (by decide), fun h => absurd h (by decide), fun h => absurd h (by decide), fun h => absurd h (by decide)⟩⟩
      have v0 : y1 = tk_v T L b := a3 h
      rw [← v0]
      exact ⟨by rw [t3, w_up_ne (by decide)]; exact a2.1 126 (by decide), by rw [t3, w_up_at], fun j h1 h2 => by rw [t3, w_up_j h2]; exact a2.2 j (by omega)⟩
  · subst c
    have h8 := hk1 rfl
    obtain ⟨n, hn⟩ : ∃ n : Nat, σ 122 8 = (n : Int) := ⟨(σ 122 8).toNat, by omega⟩
    refine ⟨⟨by omega, by omega⟩, r0.pre, fun y4 τ5 q5 => ⟨by omega, by omega, fun τ6 t6 => ?_⟩⟩
    rw [show (0 + σ 122 8).toNat = n by omega] at t6
    have F5 : mo_fr σ τ5 := q5.1
    have z8 : τ6 122 8 = (n : Int) := by rw [t6, w_up_ne (by decide), F5.2 8 (by omega)]; exact hn
    have s1 : ∀ D b, rs T L D 1 b 0 σ → rs T L D 1 b 1 τ6 ∧ ((nf T L D 1 b 1).1 = 0 → y4 = tk_v T L b) := fun D b r => by
      obtain ⟨a1, a2, a3⟩ := r.num (by decide) (by decide) (by decide) (by decide) q5
      rw [t6]
      exact ⟨a1.up6, a3⟩
    refine ⟨⟨by omega, by omega⟩, (s1 D0 b0 r0).1.pre, fun y7 τ8 q8 => ⟨by omega, by omega, fun τ9 t9 => ?_⟩⟩
    rw [show (7 + τ6 122 8).toNat = 7 + n by omega] at t9
    have F8 : mo_fr τ6 τ8 := q8.1
    have w8 : τ9 122 8 = (n : Int) := by rw [t9, w_up_ne (by decide), F8.2 8 (by omega)]; exact z8
    refine ⟨⟨by omega, by omega⟩, fun τ10 t10 => hQ _ ⟨?_, fun D b r _ _ => ?_⟩⟩
    · have a : mo_h σ τ6 := by rw [t6]; exact F5.h.up6
      rw [t10, t9]
      exact ((a.tr F8.h).up6).up2 (by decide) (by decide)
    · obtain ⟨c1, c2⟩ := s1 D b r
      obtain ⟨a1, a2, a3⟩ := c1.num (by decide) (by decide) (by decide) (by decide) q8
      refine ⟨by rw [t10, t9]; exact a1.up6.up2 (by decide), fun h _ => ⟨fun h => absurd h (by decide), fun _ => ?_, fun h => absurd h (by decide), fun h => absurd h (by decide), fun h => absurd h (by decide)⟩⟩
      have h' : (nf T L D 1 b 2).1 = 0 := h
      rw [← c2 (nf_pre h'), ← a3 h']
      have en : (σ 122 8).toNat = n := by omega
      refine ⟨fun x => ?_, by rw [t10, w_up_at, w8, hn], fun j h1 h2 => ?_⟩
      · rw [en, t10, w_up_ne (by decide), t9, w_up_v, F8.1 126 (by decide), t6, w_up_v, F5.1 126 (by decide)]
      · rw [t10, w_up_j h2, t9, w_up_ne (by decide), F8.2 j (by omega), t6, w_up_ne (by decide), F5.2 j (by omega)]
  · subst c
    refine ⟨⟨hk2 rfl, D0, b0, by rw [hT, hL]; exact r0⟩, fun τ11 q11 => hQ _ ?_⟩
    unfold q_Model_readReaper at q11
    rw [hT, hL] at q11
    refine ⟨q11.1, fun D b r _ _ => ?_⟩
    have q := q11.2 D b r
    exact ⟨q.1, fun h h2 => ⟨fun h => absurd h (by decide), fun h => absurd h (by decide), fun _ => q.2 h h2, fun h => absurd h (by decide), fun h => absurd h (by decide)⟩⟩
  · subst c
    refine ⟨r0.pre, fun y12 τ13 q13 τ14 t14 => hQ _ ⟨by rw [t14]; exact q13.1.h.up6, fun D b r e2 e6 => ?_⟩⟩
    obtain ⟨a1, a2⟩ := r.fresh (Or.inl ⟨rfl, e2.symm, rfl⟩) q13
    refine ⟨by rw [t14]; exact a1.up6, fun h _ => ⟨fun h => absurd h (by decide), fun h => absurd h (by decide), fun h => absurd h (by decide), fun _ => ?_, fun h => absurd h (by decide)⟩⟩
    obtain ⟨x1, x2, x3⟩ := a2 h
    refine ⟨fun x => ?_, ?_, fun j h1 h2 => ?_⟩
    · rw [t14, w_up_v, x1, q13.1.1 126 (by decide)]
    · rw [t14, w_up_ne (by decide), x3]
      by_cases g : σ 122 13 < tk_v T L b
      · rw [if_pos ⟨by decide, g⟩, if_pos g]
      · rw [if_neg (fun z => g z.2), if_neg g]
    · rw [t14, w_up_ne (by decide)]
      by_cases e : j = 12
      · subst e
        rw [x2, if_neg (fun z => absurd z.1 (by decide))]
      · exact q13.1.2 j (by omega)
  · obtain rfl : x1 = 4 := by omega
    refine ⟨r0.pre, fun y15 τ16 q16 τ17 t17 => hQ _ ⟨by rw [t17]; exact q16.1.h.up2 (by decide) (by decide), fun D b r e2 e6 => ?_⟩⟩
    obtain ⟨a1, a2⟩ := r.fresh (Or.inr ⟨rfl, e6.symm, rfl⟩) q16
    refine ⟨by rw [t17]; exact a1.up2 (by decide), fun h _ => ⟨fun h => absurd h (by decide), fun h => absurd h (by decide), fun h => absurd h (by decide), fun h => absurd h (by decide), fun _ => ?_⟩⟩
    obtain ⟨x1, x2, x3⟩ := a2 h
    refine ⟨?_, ?_, ?_, fun j h1 h2 h3 => ?_⟩
    · rw [t17, w_up_ne (by decide)]; exact q16.1.1 126 (by decide)
    · rw [t17, w_up_at, x1]
    · rw [t17, w_up_j (by decide), x2]
      by_cases g : σ 122 12 < tk_v T L b
      · rw [if_pos ⟨by decide, g⟩, if_pos g]
      · rw [if_neg (fun z => g z.2), if_neg g]
    · rw [t17, w_up_j h2]
      by_cases e : j = 13
      · subst e
        rw [x3, if_neg (fun z => absurd z.1 (by decide))]
      · exact q16.1.2 j (by omega)
