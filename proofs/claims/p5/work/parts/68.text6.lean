/-! The class and the whole text -/
noncomputable def p_Reader_tellsOfWhatIsNot (σ : w_M) : Prop := d_WF (d_ab σ)
noncomputable def P_Reader_tellsOfWhatIsNot (σ : w_M) : Prop := d_bad (d_ab σ)
theorem fReader_tellsOfWhatIsNot_0 : w_fe am_c26 0 1 (.bipush 0) := ⟨rfl, rfl⟩
theorem fReader_tellsOfWhatIsNot_1 : w_fe am_c26 1 2 (.istore 1) := ⟨rfl, rfl⟩
theorem fReader_tellsOfWhatIsNot_2 : w_fe am_c26 2 3 (.iload 1) := ⟨rfl, rfl⟩
theorem fReader_tellsOfWhatIsNot_3 : w_fe am_c26 3 4 (.aload 0) := ⟨rfl, rfl⟩
theorem fReader_tellsOfWhatIsNot_4 : w_fe am_c26 4 5 (.getfield 102) := ⟨rfl, rfl⟩
theorem fReader_tellsOfWhatIsNot_5 : w_fe am_c26 5 6 (.getfield 205) := ⟨rfl, rfl⟩
theorem fReader_tellsOfWhatIsNot_6 : w_ic am_c26 6 7 .ge 20 := ⟨rfl, rfl⟩
theorem fReader_tellsOfWhatIsNot_7 : w_fe am_c26 7 8 (.aload 0) := ⟨rfl, rfl⟩
theorem fReader_tellsOfWhatIsNot_8 : w_fe am_c26 8 9 (.getfield 102) := ⟨rfl, rfl⟩
theorem fReader_tellsOfWhatIsNot_9 : w_fe am_c26 9 10 (.aload 0) := ⟨rfl, rfl⟩
theorem fReader_tellsOfWhatIsNot_10 : w_fe am_c26 10 11 (.getfield 102) := ⟨rfl, rfl⟩
theorem fReader_tellsOfWhatIsNot_11 : w_fe am_c26 11 12 (.getfield 212) := ⟨rfl, rfl⟩
theorem fReader_tellsOfWhatIsNot_12 : w_fe am_c26 12 13 (.iload 1) := ⟨rfl, rfl⟩
theorem fReader_tellsOfWhatIsNot_13 : w_fe am_c26 13 14 (.iaload) := ⟨rfl, rfl⟩
theorem fReader_tellsOfWhatIsNot_14 : w_fe am_c26 14 15 (.invokestatic 33) := ⟨rfl, rfl⟩
theorem fReader_tellsOfWhatIsNot_15 : w_if am_c26 15 16 .ne 18 := ⟨rfl, rfl⟩
theorem fReader_tellsOfWhatIsNot_16 : w_fe am_c26 16 17 (.bipush 1) := ⟨rfl, rfl⟩
theorem fReader_tellsOfWhatIsNot_17 : w_fe am_c26 17 18 (.ireturn) := ⟨rfl, rfl⟩
theorem fReader_tellsOfWhatIsNot_18 : w_fe am_c26 18 19 (.iinc 1 1) := ⟨rfl, rfl⟩
theorem fReader_tellsOfWhatIsNot_19 : w_gt am_c26 19 2 := rfl
theorem fReader_tellsOfWhatIsNot_20 : w_fe am_c26 20 21 (.aload 0) := ⟨rfl, rfl⟩
theorem fReader_tellsOfWhatIsNot_21 : w_fe am_c26 21 22 (.getfield 102) := ⟨rfl, rfl⟩
theorem fReader_tellsOfWhatIsNot_22 : w_fe am_c26 22 23 (.getfield 202) := ⟨rfl, rfl⟩
theorem fReader_tellsOfWhatIsNot_23 : w_fe am_c26 23 24 (.aload 0) := ⟨rfl, rfl⟩
theorem fReader_tellsOfWhatIsNot_24 : w_fe am_c26 24 25 (.getfield 102) := ⟨rfl, rfl⟩
theorem fReader_tellsOfWhatIsNot_25 : w_fe am_c26 25 26 (.getfield 200) := ⟨rfl, rfl⟩
theorem fReader_tellsOfWhatIsNot_26 : w_fe am_c26 26 27 (.ishr) := ⟨rfl, rfl⟩
theorem fReader_tellsOfWhatIsNot_27 : w_if am_c26 27 28 .ne 36 := ⟨rfl, rfl⟩
theorem fReader_tellsOfWhatIsNot_28 : w_fe am_c26 28 29 (.aload 0) := ⟨rfl, rfl⟩
theorem fReader_tellsOfWhatIsNot_29 : w_fe am_c26 29 30 (.getfield 102) := ⟨rfl, rfl⟩
theorem fReader_tellsOfWhatIsNot_30 : w_fe am_c26 30 31 (.getfield 206) := ⟨rfl, rfl⟩
theorem fReader_tellsOfWhatIsNot_31 : w_fe am_c26 31 32 (.aload 0) := ⟨rfl, rfl⟩
theorem fReader_tellsOfWhatIsNot_32 : w_fe am_c26 32 33 (.getfield 102) := ⟨rfl, rfl⟩
theorem fReader_tellsOfWhatIsNot_33 : w_fe am_c26 33 34 (.getfield 204) := ⟨rfl, rfl⟩
theorem fReader_tellsOfWhatIsNot_34 : w_fe am_c26 34 35 (.ishr) := ⟨rfl, rfl⟩
theorem fReader_tellsOfWhatIsNot_35 : w_if am_c26 35 36 .eq 38 := ⟨rfl, rfl⟩
theorem fReader_tellsOfWhatIsNot_36 : w_fe am_c26 36 37 (.bipush 1) := ⟨rfl, rfl⟩
theorem fReader_tellsOfWhatIsNot_37 : w_gt am_c26 37 39 := rfl
theorem fReader_tellsOfWhatIsNot_38 : w_fe am_c26 38 39 (.bipush 0) := ⟨rfl, rfl⟩
theorem fReader_tellsOfWhatIsNot_39 : w_fe am_c26 39 40 (.ireturn) := ⟨rfl, rfl⟩
noncomputable def LReader_tellsOfWhatIsNot_2 (xs : List Int) (d : Nat) (Q : Option w_V → w_M → Prop) (v1 : Int) (σ : w_M) : Prop := w_Ex (xs, d) 2 am_c26 Q 2 [some (.inr (.inr (1, 1))), some (.inl v1)] [] σ
set_option maxRecDepth 20000 in
theorem bReader_tellsOfWhatIsNot_0 {xs : List Int} {d : Nat} {Q : Option w_V → w_M → Prop}  {σ : w_M}
    (h : LReader_tellsOfWhatIsNot_2 xs (d + 1) Q 0 σ) : w_Call (xs, (d + 1)) 26 [.inr (.inr (1, 1))] σ Q :=
  (w_mk (mid := 26) (by decide) rfl rfl rfl rfl rfl (Nat.le_of_ble_eq_true rfl) ⟨rfl, Or.inl (by decide)⟩ (wi_bipush fReader_tellsOfWhatIsNot_0 (wi_istore1 fReader_tellsOfWhatIsNot_1 trivial h)))
set_option maxRecDepth 20000 in
theorem bReader_tellsOfWhatIsNot_2 {xs : List Int} {d : Nat} {Q : Option w_V → w_M → Prop} {v1 : Int} {σ : w_M}
    (h : ((σ 3 5) ≤ v1 → ((¬ (w_shr (σ 3 2) (σ 3 0)) = 0 → Q (some (.inl 1)) σ) ∧ ((w_shr (σ 3 2) (σ 3 0)) = 0 → (((w_shr (σ 3 6) (σ 3 4)) = 0 → Q (some (.inl 0)) σ) ∧ (¬ (w_shr (σ 3 6) (σ 3 4)) = 0 → Q (some (.inl 1)) σ))))) ∧ (v1 < (σ 3 5) → (0 ≤ v1 ∧ v1 < 4 ∧ (((0 ≤ (σ 9 v1.toNat) ∧ (σ 9 v1.toNat) < σ 3 4) → (w_in (v1 + 1) ∧ LReader_tellsOfWhatIsNot_2 xs (d + 1) Q (v1 + 1) σ)) ∧ (¬ (0 ≤ (σ 9 v1.toNat) ∧ (σ 9 v1.toNat) < σ 3 4) → Q (some (.inl 1)) σ))))) : LReader_tellsOfWhatIsNot_2 xs (d + 1) Q v1 σ :=
  (wi_iload1 fReader_tellsOfWhatIsNot_2 (wi_aload0 fReader_tellsOfWhatIsNot_3 (wi_getf102 fReader_tellsOfWhatIsNot_4 (wi_getf205 fReader_tellsOfWhatIsNot_5 (wi_ic_ge fReader_tellsOfWhatIsNot_6 (fun c4 => (wi_aload0 fReader_tellsOfWhatIsNot_20 (wi_getf102 fReader_tellsOfWhatIsNot_21 (wi_getf202 fReader_tellsOfWhatIsNot_22 (wi_aload0 fReader_tellsOfWhatIsNot_23 (wi_getf102 fReader_tellsOfWhatIsNot_24 (wi_getf200 fReader_tellsOfWhatIsNot_25 (wi_ishr fReader_tellsOfWhatIsNot_26 (wi_if_ne fReader_tellsOfWhatIsNot_27 (fun c2 => (wi_bipush fReader_tellsOfWhatIsNot_36 (wi_goto fReader_tellsOfWhatIsNot_37 (wi_ret2 fReader_tellsOfWhatIsNot_39 (by decide) ((h.1 c4).1 c2))))) (fun c2 => (wi_aload0 fReader_tellsOfWhatIsNot_28 (wi_getf102 fReader_tellsOfWhatIsNot_29 (wi_getf206 fReader_tellsOfWhatIsNot_30 (wi_aload0 fReader_tellsOfWhatIsNot_31 (wi_getf102 fReader_tellsOfWhatIsNot_32 (wi_getf204 fReader_tellsOfWhatIsNot_33 (wi_ishr fReader_tellsOfWhatIsNot_34 (wi_if_eq fReader_tellsOfWhatIsNot_35 (fun c1 => (wi_bipush fReader_tellsOfWhatIsNot_38 (wi_ret2 fReader_tellsOfWhatIsNot_39 (by decide) (((h.1 c4).2 c2).1 c1)))) (fun c1 => (wi_bipush fReader_tellsOfWhatIsNot_36 (wi_goto fReader_tellsOfWhatIsNot_37 (wi_ret2 fReader_tellsOfWhatIsNot_39 (by decide) (((h.1 c4).2 c2).2 c1))))))))))))))))))))))) (fun c4 => (wi_aload0 fReader_tellsOfWhatIsNot_7 (wi_getf102 fReader_tellsOfWhatIsNot_8 (wi_aload0 fReader_tellsOfWhatIsNot_9 (wi_getf102 fReader_tellsOfWhatIsNot_10 (wi_getf212 fReader_tellsOfWhatIsNot_11 (wi_iload1 fReader_tellsOfWhatIsNot_12 (wi_iald1004 fReader_tellsOfWhatIsNot_13 (h.2 c4).1 (h.2 c4).2.1 (wi_call2 fReader_tellsOfWhatIsNot_14 (Nat.le_of_ble_eq_true rfl) (k_Field_isStrip (wi_ifb_ne fReader_tellsOfWhatIsNot_15 (fun c3 => (wi_iinc1 fReader_tellsOfWhatIsNot_18 trivial ((h.2 c4).2.2.1 c3).1 (wi_goto fReader_tellsOfWhatIsNot_19 ((h.2 c4).2.2.1 c3).2))) (fun c3 => (wi_bipush fReader_tellsOfWhatIsNot_16 (wi_ret2 fReader_tellsOfWhatIsNot_17 (by decide) ((h.2 c4).2.2.2 c3))))))))))))))))))))
theorem k_Reader_tellsOfWhatIsNot {xs : List Int} {d : Nat} {Q : Option w_V → w_M → Prop}  {σ : w_M} (hp : p_Reader_tellsOfWhatIsNot σ) (hQ : Q (some (.inl (w_bi (P_Reader_tellsOfWhatIsNot σ)))) σ) : w_Call (xs, d + 1) 26 [.inr (.inr (1, 1))] σ Q := by
  have hW : d_WF (d_ab σ) := hp
  have w5 : 0 ≤ σ 3 5 ∧ σ 3 5 ≤ 4 := hW.2.2.2.1
  have e6 : ∀ r, r < (σ 3 5).toNat → d_ab σ 6 r = σ 9 r := fun r hr => by rw [d_ab_346 (Or.inr (Or.inr rfl)), if_pos hr]
  have eP : P_Reader_tellsOfWhatIsNot σ = ¬ ((∀ r, r < (σ 3 5).toNat → d_ab σ 6 r < σ 3 4) ∧ w_shr (σ 3 2) (σ 3 0) = 0 ∧ w_shr (σ 3 6) (σ 3 4) = 0) := rfl
  rw [eP] at hQ
  refine bReader_tellsOfWhatIsNot_0 ?_
  refine (w_loop (n := (σ 3 5).toNat) (P := fun r => (∀ q, q < r → d_ab σ 6 q < σ 3 4) → LReader_tellsOfWhatIsNot_2 xs (d + 1) Q (r : Int) σ) ?_ ?_) (fun q hq => by omega)
  · intro h
    refine bReader_tellsOfWhatIsNot_2 ⟨fun _ => ⟨fun c => ?_, fun c => ⟨fun c2 => ?_, fun c2 => ?_⟩⟩, fun h => by omega⟩
    · rw [w_bi_t (fun z => c z.2.1)] at hQ; exact hQ
    · rw [w_bi_f (fun z => z ⟨h, c, c2⟩)] at hQ; exact hQ
    · rw [w_bi_t (fun z => c2 z.2.2)] at hQ; exact hQ
  · intro r hr ih h
    have hr6 := (hW.2.2.2.2.2.2.2 r hr).2.2
    rw [e6 r hr] at hr6
    refine bReader_tellsOfWhatIsNot_2 ⟨fun h => by omega, fun _ => ⟨by omega, by omega, ?_⟩⟩
    rw [Int.toNat_natCast]
    refine ⟨fun c => ⟨⟨by omega, by omega⟩, ?_⟩, fun c => ?_⟩
    · rw [← w_cs1]
      refine ih (fun q hq => ?_)
      by_cases e : q = r
      · rw [e, e6 r hr]; exact c.2
      · exact h q (by omega)
    · rw [w_bi_t (fun z => c ⟨hr6.1, by rw [← e6 r hr]; exact z.1 r hr⟩)] at hQ
      exact hQ
noncomputable def p_Reader_readAll (σ : w_M) : Prop := r_ok σ
noncomputable def q_Reader_readAll (σ : w_M) (x : Int) (σ' : w_M) : Prop := r_f2 σ σ' ∧ σ' 1 3 = (rd_R (rT σ) (rL σ) 161 0 0 d_0).1.1 ∧ (¬ (rd_R (rT σ) (rL σ) 161 0 0 d_0).1.1 = 0 → σ' 1 4 = (((rd_R (rT σ) (rL σ) 161 0 0 d_0).1.2 : Nat) : Int)) ∧
  ((rd_R (rT σ) (rL σ) 161 0 0 d_0).1.1 = 0 → x = (((rd_R (rT σ) (rL σ) 161 0 0 d_0).2.1 : Nat) : Int) ∧ d_ab σ' = (rd_R (rT σ) (rL σ) 161 0 0 d_0).2.2 ∧ d_cn σ')
theorem fReader_readAll_0 : w_fe am_c12 0 1 (.aload 0) := ⟨rfl, rfl⟩
theorem fReader_readAll_1 : w_fe am_c12 1 2 (.getfield 102) := ⟨rfl, rfl⟩
theorem fReader_readAll_2 : w_fe am_c12 2 3 (.invokestatic 28) := ⟨rfl, rfl⟩
theorem fReader_readAll_3 : w_fe am_c12 3 4 (.aload 0) := ⟨rfl, rfl⟩
theorem fReader_readAll_4 : w_fe am_c12 4 5 (.bipush 0) := ⟨rfl, rfl⟩
theorem fReader_readAll_5 : w_fe am_c12 5 6 (.putfield 105) := ⟨rfl, rfl⟩
theorem fReader_readAll_6 : w_fe am_c12 6 7 (.aload 0) := ⟨rfl, rfl⟩
theorem fReader_readAll_7 : w_fe am_c12 7 8 (.bipush 0) := ⟨rfl, rfl⟩
theorem fReader_readAll_8 : w_fe am_c12 8 9 (.putfield 103) := ⟨rfl, rfl⟩
theorem fReader_readAll_9 : w_fe am_c12 9 10 (.aload 0) := ⟨rfl, rfl⟩
theorem fReader_readAll_10 : w_fe am_c12 10 11 (.bipush 0) := ⟨rfl, rfl⟩
theorem fReader_readAll_11 : w_fe am_c12 11 12 (.putfield 104) := ⟨rfl, rfl⟩
theorem fReader_readAll_12 : w_fe am_c12 12 13 (.aload 0) := ⟨rfl, rfl⟩
theorem fReader_readAll_13 : w_fe am_c12 13 14 (.bipush 0) := ⟨rfl, rfl⟩
theorem fReader_readAll_14 : w_fe am_c12 14 15 (.putfield 109) := ⟨rfl, rfl⟩
theorem fReader_readAll_15 : w_fe am_c12 15 16 (.bipush 0) := ⟨rfl, rfl⟩
theorem fReader_readAll_16 : w_fe am_c12 16 17 (.istore 1) := ⟨rfl, rfl⟩
theorem fReader_readAll_17 : w_fe am_c12 17 18 (.bipush 0) := ⟨rfl, rfl⟩
theorem fReader_readAll_18 : w_fe am_c12 18 19 (.istore 2) := ⟨rfl, rfl⟩
theorem fReader_readAll_19 : w_fe am_c12 19 20 (.iload 2) := ⟨rfl, rfl⟩
theorem fReader_readAll_20 : w_fe am_c12 20 21 (.bipush 160) := ⟨rfl, rfl⟩
theorem fReader_readAll_21 : w_ic am_c12 21 22 .gt 36 := ⟨rfl, rfl⟩
theorem fReader_readAll_22 : w_fe am_c12 22 23 (.aload 0) := ⟨rfl, rfl⟩
theorem fReader_readAll_23 : w_fe am_c12 23 24 (.getfield 103) := ⟨rfl, rfl⟩
theorem fReader_readAll_24 : w_if am_c12 24 25 .ne 36 := ⟨rfl, rfl⟩
theorem fReader_readAll_25 : w_fe am_c12 25 26 (.aload 0) := ⟨rfl, rfl⟩
theorem fReader_readAll_26 : w_fe am_c12 26 27 (.invokestatic 13) := ⟨rfl, rfl⟩
theorem fReader_readAll_27 : w_fe am_c12 27 28 (.aload 0) := ⟨rfl, rfl⟩
theorem fReader_readAll_28 : w_fe am_c12 28 29 (.getfield 107) := ⟨rfl, rfl⟩
theorem fReader_readAll_29 : w_if am_c12 29 30 .ne 31 := ⟨rfl, rfl⟩
theorem fReader_readAll_30 : w_gt am_c12 30 36 := rfl
theorem fReader_readAll_31 : w_fe am_c12 31 32 (.aload 0) := ⟨rfl, rfl⟩
theorem fReader_readAll_32 : w_fe am_c12 32 33 (.invokestatic 19) := ⟨rfl, rfl⟩
theorem fReader_readAll_33 : w_fe am_c12 33 34 (.iinc 1 1) := ⟨rfl, rfl⟩
theorem fReader_readAll_34 : w_fe am_c12 34 35 (.iinc 2 1) := ⟨rfl, rfl⟩
theorem fReader_readAll_35 : w_gt am_c12 35 19 := rfl
theorem fReader_readAll_36 : w_fe am_c12 36 37 (.aload 0) := ⟨rfl, rfl⟩
theorem fReader_readAll_37 : w_fe am_c12 37 38 (.getfield 103) := ⟨rfl, rfl⟩
theorem fReader_readAll_38 : w_if am_c12 38 39 .ne 47 := ⟨rfl, rfl⟩
theorem fReader_readAll_39 : w_fe am_c12 39 40 (.aload 0) := ⟨rfl, rfl⟩
theorem fReader_readAll_40 : w_fe am_c12 40 41 (.invokestatic 26) := ⟨rfl, rfl⟩
theorem fReader_readAll_41 : w_if am_c12 41 42 .eq 47 := ⟨rfl, rfl⟩
theorem fReader_readAll_42 : w_fe am_c12 42 43 (.aload 0) := ⟨rfl, rfl⟩
theorem fReader_readAll_43 : w_fe am_c12 43 44 (.bipush 6) := ⟨rfl, rfl⟩
theorem fReader_readAll_44 : w_fe am_c12 44 45 (.aload 0) := ⟨rfl, rfl⟩
theorem fReader_readAll_45 : w_fe am_c12 45 46 (.getfield 101) := ⟨rfl, rfl⟩
theorem fReader_readAll_46 : w_fe am_c12 46 47 (.invokestatic 18) := ⟨rfl, rfl⟩
theorem fReader_readAll_47 : w_fe am_c12 47 48 (.iload 1) := ⟨rfl, rfl⟩
theorem fReader_readAll_48 : w_fe am_c12 48 49 (.ireturn) := ⟨rfl, rfl⟩
noncomputable def LReader_readAll_19 (xs : List Int) (d : Nat) (Q : Option w_V → w_M → Prop) (v1 : Int) (v2 : Int) (σ : w_M) : Prop := w_Ex (xs, d) 1 am_c12 Q 19 [some (.inr (.inr (1, 1))), some (.inl v1), some (.inl v2)] [] σ
set_option maxRecDepth 20000 in
theorem bReader_readAll_0 {xs : List Int} {d : Nat} {Q : Option w_V → w_M → Prop}  {σ : w_M}
    (h : ∀ (τ1 : w_M), q_Field_clear 3 σ τ1 → ∀ (τ2 : w_M), τ2 = w_up τ1 1 5 0 → ∀ (τ3 : w_M), τ3 = w_up τ2 1 3 0 → ∀ (τ4 : w_M), τ4 = w_up τ3 1 4 0 → ∀ (τ5 : w_M), τ5 = w_up τ4 1 9 0 → LReader_readAll_19 xs (d + 5) Q 0 0 τ5) : w_Call (xs, (d + 5)) 12 [.inr (.inr (1, 1))] σ Q :=
  (w_mk (mid := 12) (by decide) rfl rfl rfl rfl rfl (Nat.le_of_ble_eq_true rfl) ⟨rfl, Or.inl (by decide)⟩ (wi_aload0 fReader_readAll_0 (wi_getf102 fReader_readAll_1 (wi_call1 fReader_readAll_2 (Nat.le_of_ble_eq_true rfl) (k_Field_clear (fun τ1 eτ1 => (wi_aload0 fReader_readAll_3 (wi_bipush fReader_readAll_4 (wi_putf105 fReader_readAll_5 (by decide) (wi_aload0 fReader_readAll_6 (wi_bipush fReader_readAll_7 (wi_putf103 fReader_readAll_8 (wi_aload0 fReader_readAll_9 (wi_bipush fReader_readAll_10 (wi_putf104 fReader_readAll_11 (wi_aload0 fReader_readAll_12 (wi_bipush fReader_readAll_13 (wi_putf109 fReader_readAll_14 (wi_bipush fReader_readAll_15 (wi_istore1 fReader_readAll_16 trivial (wi_bipush fReader_readAll_17 (wi_istore2 fReader_readAll_18 trivial (((((h τ1 eτ1) _ rfl) _ rfl) _ rfl) _ rfl)))))))))))))))))))))))
set_option maxRecDepth 20000 in
theorem bReader_readAll_19 {xs : List Int} {d : Nat} {Q : Option w_V → w_M → Prop} {v1 : Int} {v2 : Int} {σ : w_M}
    (h : (160 < v2 → ((¬ (σ 1 3) = 0 → Q (some (.inl v1)) σ) ∧ ((σ 1 3) = 0 → (p_Reader_tellsOfWhatIsNot σ ∧ ((¬ (P_Reader_tellsOfWhatIsNot σ) → Q (some (.inl v1)) σ) ∧ ((P_Reader_tellsOfWhatIsNot σ) → ∀ (τ1 : w_M), q_Reader_fail 6 (σ 1 1) σ τ1 → Q (some (.inl v1)) τ1)))))) ∧ (v2 ≤ 160 → ((¬ (σ 1 3) = 0 → Q (some (.inl v1)) σ) ∧ ((σ 1 3) = 0 → (p_Reader_readToken σ ∧ (∀ (τ4 : w_M), q_Reader_readToken σ τ4 → ((¬ (τ4 1 7) = 0 → (p_Reader_readLine τ4 ∧ (∀ (τ5 : w_M), q_Reader_readLine τ4 τ5 → (w_in (v1 + 1) ∧ w_in (v2 + 1) ∧ LReader_readAll_19 xs (d + 5) Q (v1 + 1) (v2 + 1) τ5)))) ∧ ((τ4 1 7) = 0 → ((¬ (τ4 1 3) = 0 → Q (some (.inl v1)) τ4) ∧ ((τ4 1 3) = 0 → (p_Reader_tellsOfWhatIsNot τ4 ∧ ((¬ (P_Reader_tellsOfWhatIsNot τ4) → Q (some (.inl v1)) τ4) ∧ ((P_Reader_tellsOfWhatIsNot τ4) → ∀ (τ6 : w_M), q_Reader_fail 6 (τ4 1 1) τ4 τ6 → Q (some (.inl v1)) τ6))))))))))))) : LReader_readAll_19 xs (d + 5) Q v1 v2 σ :=
  (wi_iload2 fReader_readAll_19 (wi_bipush fReader_readAll_20 (wi_ic_gt fReader_readAll_21 (fun c11 => (wi_aload0 fReader_readAll_36 (wi_getf103 fReader_readAll_37 (wi_if_ne fReader_readAll_38 (fun c3 => (wi_iload1 fReader_readAll_47 (wi_ret1 fReader_readAll_48 ((h.1 c11).1 c3)))) (fun c3 => (wi_aload0 fReader_readAll_39 (wi_call1 fReader_readAll_40 (Nat.le_of_ble_eq_true rfl) (k_Reader_tellsOfWhatIsNot ((h.1 c11).2 c3).1 (wi_ifb_eq fReader_readAll_41 (fun c2 => (wi_iload1 fReader_readAll_47 (wi_ret1 fReader_readAll_48 (((h.1 c11).2 c3).2.1 c2)))) (fun c2 => (wi_aload0 fReader_readAll_42 (wi_bipush fReader_readAll_43 (wi_aload0 fReader_readAll_44 (wi_getf101 fReader_readAll_45 (wi_call3 fReader_readAll_46 (Nat.le_of_ble_eq_true rfl) (k_Reader_fail (fun τ1 eτ1 => (wi_iload1 fReader_readAll_47 (wi_ret1 fReader_readAll_48 ((((h.1 c11).2 c3).2.2 c2) τ1 eτ1)))))))))))))))))))) (fun c11 => (wi_aload0 fReader_readAll_22 (wi_getf103 fReader_readAll_23 (wi_if_ne fReader_readAll_24 (fun c10 => (wi_aload0 fReader_readAll_36 (wi_getf103 fReader_readAll_37 (wi_if_ne fReader_readAll_38 (fun _ => (wi_iload1 fReader_readAll_47 (wi_ret1 fReader_readAll_48 ((h.2 c11).1 c10)))) (fun e => absurd c10 (w_n_ne e)))))) (fun c10 => (wi_aload0 fReader_readAll_25 (wi_call1 fReader_readAll_26 (Nat.le_of_ble_eq_true rfl) (k_Reader_readToken ((h.2 c11).2 c10).1 (fun τ4 eτ4 => (wi_aload0 fReader_readAll_27 (wi_getf107 fReader_readAll_28 (wi_if_ne fReader_readAll_29 (fun c9 => (wi_aload0 fReader_readAll_31 (wi_call1 fReader_readAll_32 (Nat.le_of_ble_eq_true rfl) (k_Reader_readLine ((((h.2 c11).2 c10).2 τ4 eτ4).1 c9).1 (fun τ5 eτ5 => (wi_iinc1 fReader_readAll_33 trivial (((((h.2 c11).2 c10).2 τ4 eτ4).1 c9).2 τ5 eτ5).1 (wi_iinc2 fReader_readAll_34 trivial (((((h.2 c11).2 c10).2 τ4 eτ4).1 c9).2 τ5 eτ5).2.1 (wi_goto fReader_readAll_35 (((((h.2 c11).2 c10).2 τ4 eτ4).1 c9).2 τ5 eτ5).2.2)))))))) (fun c9 => (wi_goto fReader_readAll_30 (wi_aload0 fReader_readAll_36 (wi_getf103 fReader_readAll_37 (wi_if_ne fReader_readAll_38 (fun c8 => (wi_iload1 fReader_readAll_47 (wi_ret1 fReader_readAll_48 (((((h.2 c11).2 c10).2 τ4 eτ4).2 c9).1 c8)))) (fun c8 => (wi_aload0 fReader_readAll_39 (wi_call1 fReader_readAll_40 (Nat.le_of_ble_eq_true rfl) (k_Reader_tellsOfWhatIsNot (((((h.2 c11).2 c10).2 τ4 eτ4).2 c9).2 c8).1 (wi_ifb_eq fReader_readAll_41 (fun c7 => (wi_iload1 fReader_readAll_47 (wi_ret1 fReader_readAll_48 ((((((h.2 c11).2 c10).2 τ4 eτ4).2 c9).2 c8).2.1 c7)))) (fun c7 => (wi_aload0 fReader_readAll_42 (wi_bipush fReader_readAll_43 (wi_aload0 fReader_readAll_44 (wi_getf101 fReader_readAll_45 (wi_call3 fReader_readAll_46 (Nat.le_of_ble_eq_true rfl) (k_Reader_fail (fun τ6 eτ6 => (wi_iload1 fReader_readAll_47 (wi_ret1 fReader_readAll_48 (((((((h.2 c11).2 c10).2 τ4 eτ4).2 c9).2 c8).2.2 c7) τ6 eτ6))))))))))))))))))))))))))))))))))))
set_option maxHeartbeats 2000000 in
theorem k_Reader_readAll {xs : List Int} {d : Nat} {Q : Option w_V → w_M → Prop}  {σ : w_M} (hp : p_Reader_readAll σ) (hQ : ∀ (x : Int) (σ' : w_M), q_Reader_readAll σ x σ' → Q (some (.inl x)) σ') : w_Call (xs, d + 5) 12 [.inr (.inr (1, 1))] σ Q := by
  have hk : r_ok σ := hp
  have hk1 := hk.1
  have hLe : rL σ = (σ 1 1).toNat := rfl
  unfold q_Reader_readAll at hQ
  have rTL : ∀ τ : w_M, r_f2 σ τ → rT τ = rT σ ∧ rL τ = rL σ ∧ r_ok τ := fun τ F => ⟨F.T, F.L, F.ok hk⟩
  generalize hT : rT σ = T at *
  generalize hL : rL σ = L at *
  have hL160 : L ≤ 160 := by omega
  refine bReader_readAll_0 (fun τ1 q1 τ2 t2 τ3 t3 τ4 t4 τ5 t5 => ?_)
  obtain ⟨⟨c0, c1, c2, c3, c4, c5, c6⟩, c11, F1⟩ := q1
  have z : ∀ b, b ≠ 1 → τ5 b = τ1 b := fun b hb => by rw [t5, w_up_ne hb, t4, w_up_ne hb, t3, w_up_ne hb, t2, w_up_ne hb]
  have z1 : τ1 1 = σ 1 := F1 1 (by omega)
  have a5 : τ5 1 5 = 0 := by rw [t5, w_up_j (by decide), t4, w_up_j (by decide), t3, w_up_j (by decide), t2, w_up_at]
  have a3 : τ5 1 3 = 0 := by rw [t5, w_up_j (by decide), t4, w_up_j (by decide), t3, w_up_at]
  have a9 : τ5 1 9 = ((0 : Nat) : Int) := by rw [t5, w_up_at]; rfl
  have a1 : τ5 1 1 = σ 1 1 := by rw [t5, w_up_j (by decide), t4, w_up_j (by decide), t3, w_up_j (by decide), t2, w_up_j (by decide), z1]
  have F5 : r_f2 σ τ5 := ⟨fun b hb => by rw [z b (by omega)]; exact F1 b (by omega), a1⟩
  have z3 : τ5 3 = τ1 3 := z 3 (by decide)
  have D5 : d_ab τ5 = d_0 := by
    refine d_ab_eq (fun i => ?_) (fun d i h1 h2 => ?_) (fun d i h => ?_) (fun d i h => ?_)
    · rw [d_ab_0, z3, c0, c2, c4, c5, c6, a5]
      show _ = if (0 : Nat) = 0 ∧ i = 0 then (8 : Int) else 0
      by_cases h : i = 0
      · simp [h]
      · simp [h]
    · rw [z3, c4]
      show (if i < 0 then _ else (0 : Int)) = if d = 0 ∧ i = 0 then 8 else 0
      rw [if_neg (Nat.not_lt_zero i), if_neg (by omega)]
    · rw [z3, c5]
      show (if i < 0 then _ else (0 : Int)) = if d = 0 ∧ i = 0 then 8 else 0
      rw [if_neg (Nat.not_lt_zero i), if_neg (by omega)]
    · show (if d = 0 ∧ i = 0 then (8 : Int) else 0) = 0
      rw [if_neg (by omega)]
  have N5 : d_cn τ5 := by
    refine ⟨⟨by rw [z3]; exact c1, by rw [z3]; exact c3⟩, fun r hr => ?_, fun o ho => by rw [z 11 (by decide)]; exact c11 o ho⟩
    rw [z3, c5] at hr
    exact absurd hr (Nat.not_lt_zero r)
  generalize hR : rd_R T L 161 0 0 d_0 = R at hQ
  have done_f : ∀ (x : Int) (τ : w_M), r_f2 σ τ → ¬ R.1.1 = 0 → τ 1 3 = R.1.1 → τ 1 4 = ((R.1.2 : Nat) : Int) → Q (some (.inl x)) τ := fun x τ F h1 h2 h3 => hQ _ _ ⟨F, h2, fun _ => h3, fun h => absurd h h1⟩
  refine (w_loop (n := 161) (P := fun k => ∀ (τ : w_M) (p : Nat), r_f2 σ τ → τ 1 3 = 0 → τ 1 9 = (p : Int) → k ≤ p → p ≤ L → d_WF (d_ab τ) → d_cn τ → rd_R T L (161 - k) k p (d_ab τ) = R → LReader_readAll_19 xs (d + 5) Q (k : Int) (k : Int) τ) ?_ ?_) τ5 0 F5 a3 a9 (Nat.le_refl _) (Nat.zero_le _) (by rw [D5]; exact d_0_WF) N5 (by rw [D5]; exact hR)
  · intro τ p F h3 h9 hkp hpL
    omega
  · intro k hk161 ih τ p F h3 h9 hkp hpL hW hc hr
    obtain ⟨g1, g2, g3⟩ := rTL τ F
    have e11 : τ 1 1 = σ 1 1 := F.2
    obtain ⟨n, hn⟩ : ∃ n, 161 - k = n + 1 := ⟨160 - k, by omega⟩
    rw [hn] at hr
    simp only [rd_R] at hr
    have hfl := tk_f_le (T := T) hpL
    refine bReader_readAll_19 ⟨fun h => by omega, fun _ => ⟨fun h => absurd h3 h, fun _ => ⟨⟨⟨g3, h3⟩, by omega, by omega⟩, fun τ4 q4 => ?_⟩⟩⟩
    unfold q_Reader_readToken at q4
    rw [g1, g2, h9, Int.toNat_natCast] at q4
    obtain ⟨Ft, t8, t9, t7, t10, tf, tn⟩ := q4
    have F4 : r_f2 σ τ4 := F.tr Ft.f2
    have D4 : d_ab τ4 = d_ab τ := Ft.f3.D
    obtain ⟨g41, g42, g43⟩ := rTL τ4 F4
    have e41 : τ4 1 1 = σ 1 1 := F4.2
    refine ⟨fun c => ⟨⟨⟨g43, by rw [D4]; exact hW⟩, by rw [t8]; omega, fun h1 => ?_⟩, fun τ6 q6 => ⟨⟨by omega, by omega⟩, ⟨by omega, by omega⟩, ?_⟩⟩, fun c => ?_⟩
    · rw [t7] at h1
      have hb := tk_b_le (T := T) (L := L) (p := p) (tk_k0 (by omega))
      exact ⟨(tn (by omega)).1, by rw [t9 (by omega)]; omega⟩
    · rw [t7] at c
      rw [if_neg c] at hr
      have hb := tk_b_le (T := T) (L := L) (p := p) (tk_k0 c)
      obtain ⟨F6, q61, q62⟩ := q6
      have F6' : r_f2 σ τ6 := F4.tr F6
      -- a fault ends it
      have stop : ¬ R.1.1 = 0 → τ6 1 3 = R.1.1 → τ6 1 4 = ((R.1.2 : Nat) : Int) → LReader_readAll_19 xs (d + 5) Q ((k : Int) + 1) ((k : Int) + 1) τ6 := fun h1 h2 h4 => by
        have hnz : ¬ τ6 1 3 = 0 := by rw [h2]; exact h1
        exact bReader_readAll_19 ⟨fun _ => ⟨fun _ => done_f _ τ6 F6' h1 h2 h4, fun h => absurd h hnz⟩, fun _ => ⟨fun _ => done_f _ τ6 F6' h1 h2 h4, fun h => absurd h hnz⟩⟩
      by_cases k4 : tk_k T L p = 4
      · rw [if_pos k4] at hr
        have e6 := (q61 (by rw [t7]; omega)).2 (by rw [(tf k4).1]; decide)
        rw [← hr] at stop
        exact stop (show ¬ (1 : Int) = 0 by decide) (by rw [e6]; exact (tf k4).1) (by rw [e6]; exact (tf k4).2)
      · rw [if_neg k4] at hr
        by_cases k1 : tk_k T L p = 1
        · have q := q62 (by rw [t7]; exact k1)
          rw [g41, g42, t8, t9 (by omega), Int.toNat_natCast, Int.toNat_natCast] at q
          obtain ⟨r1, r2⟩ := q
          rw [D4] at r2
          by_cases kn : ln_n T L (tk_f T L p) (tk_b T L p) = -1
          · rw [if_pos (Or.inr kn)] at hr
            rw [← hr] at stop
            exact stop (show ¬ (2 : Int) = 0 by decide) (r1 kn).1 (r1 kn).2
          · rw [if_neg (fun q => q.elim (fun q => q k1) kn)] at hr
            obtain ⟨r3, r4⟩ := r2 kn
            by_cases kf : (ln_f T L (d_ab τ) (ln_n T L (tk_f T L p) (tk_b T L p)).toNat (tk_f T L p) (tk_b T L p)).1 = 0
            · rw [if_neg (fun q => q kf)] at hr
              obtain ⟨o1, o2, o3, o4⟩ := r4 kf
              have adv := ln_adv hpL c kf
              have hk5 : (ln_n T L (tk_f T L p) (tk_b T L p)).toNat < 5 := by
                have := ln_k_le (T := T) (L := L) (f := tk_f T L p) (b := tk_b T L p) 5
                unfold ln_n
                omega
              rw [← w_cs1]
              refine ih τ6 _ F6' o1 o2 (by omega) adv.2 (by rw [o3]; exact ln_D_ok hW hk5 hb.2 kf) (o4 (Ft.f3.cn hc)) ?_
              rw [show 161 - (k + 1) = n by omega, o3]
              exact hr
            · rw [if_pos kf] at hr
              rw [← hr] at stop
              exact stop kf (r3 kf).1 (r3 kf).2
        · rw [if_pos (Or.inl k1)] at hr
          have e6 := (q61 (by rw [t7]; exact k1)).1 (tn k4).1
          rw [← hr] at stop
          exact stop (show ¬ (2 : Int) = 0 by decide) e6.1 (by rw [e6.2, t8])
    · rw [t7] at c
      rw [if_pos c] at hr
      have n3 := (tn (by omega)).1
      have eP : P_Reader_tellsOfWhatIsNot τ4 = d_bad (d_ab τ) := by unfold P_Reader_tellsOfWhatIsNot; rw [D4]
      refine ⟨fun h => absurd n3 h, fun _ => ⟨by unfold p_Reader_tellsOfWhatIsNot; rw [D4]; exact hW, ?_⟩⟩
      rw [eP]
      refine ⟨fun cb => ?_, fun cb τ6 q6 => ?_⟩
      · rw [if_neg cb] at hr
        rw [← hr] at hQ
        exact hQ _ _ ⟨F4, n3, fun h => absurd rfl h, fun _ => ⟨rfl, D4, Ft.f3.cn hc⟩⟩
      · rw [if_pos cb] at hr
        have e6 := q6.1 n3
        rw [← hr] at done_f
        refine done_f _ τ6 ⟨fun b hb => by rw [e6, w_up_ne (by omega), w_up_ne (by omega)]; exact F4.1 b hb, by rw [e6, w_up_j (by decide), w_up_j (by decide)]; exact F4.2⟩ (show ¬ (6 : Int) = 0 by decide) (by rw [e6, w_up_j (by decide), w_up_at]) ?_
        rw [e6, w_up_at, e41]
        show σ 1 1 = ((L : Nat) : Int)
        omega
noncomputable def tz (f : Int) : w_M := fun d i => if d = 0 ∧ i = 1 then f else 0
noncomputable def tx_R (S : w_S) : (Int × Nat) × Nat × w_M := rd_R (S 3 1) (S 3 0 0).toNat 161 0 0 d_0
noncomputable def F_text (S : w_S) : Int := if (tx_R S).1.1 = 0 then (((tx_R S).2.1 : Nat) : Int) else -10 - (((tx_R S).1.2 : Nat) : Int)
noncomputable def tx_G (S : w_S) (D : w_M) : w_S := fun p => match p with
  | 0 => d_A D
  | 4 => S 4
  | _ => w_0
noncomputable def G_text (S : w_S) : w_S := if (tx_R S).1.1 = 0 then tx_G S (tx_R S).2.2 else w_sp S 3 (tz (tx_R S).1.1)
theorem tz_WF {f : Int} : taWF (tz f) := ⟨⟨by show (0 : Int) ≤ 0; omega, by show (0 : Int) ≤ 160; omega⟩, fun i hi => absurd hi (Nat.not_lt_zero i)⟩
theorem tx_WF {S : w_S} (h : sWF S) {D : w_M} (hA : n_WF (d_A D)) : sWF (tx_G S D) := by
  refine ⟨hA, ⟨⟨by show (0 : Int) ≤ 0; omega, by show (0 : Int) ≤ 8; omega⟩, fun i hi => absurd hi (Nat.not_lt_zero i)⟩, ⟨⟨by show (0 : Int) ≤ 0; omega, by show (0 : Int) ≤ 4; omega⟩, fun i hi => absurd hi (Nat.not_lt_zero i)⟩, ⟨⟨by show (0 : Int) ≤ 0; omega, by show (0 : Int) ≤ 160; omega⟩, fun i hi => absurd hi (Nat.not_lt_zero i)⟩, h.2.2.2.2.1, Or.inl rfl, Or.inl rfl, fun q => ?_, fun q => ?_⟩
  · have : (0 : Int) = 1 := q
    omega
  · have : (0 : Int) = 1 := q
    omega
noncomputable def p_Moon_text (σ : w_M) : Prop := CI σ
noncomputable def q_Moon_text (σ : w_M) (x : Int) (σ' : w_M) : Prop := c_q (F_text (cS σ)) (G_text (cS σ)) σ x σ'
theorem rd_L {T : Nat → Int} {L : Nat} (hL : L ≤ 160) (h : (rd_R T L 161 0 0 d_0).1.1 = 0) : n_WF (d_A (rd_R T L 161 0 0 d_0).2.2) ∧ d_WF (rd_R T L 161 0 0 d_0).2.2 := by
  obtain ⟨h1, h2⟩ := rd_good 161 0 0 d_0 (Nat.zero_le _) (by omega) d_0_WF h
  exact ⟨d_A_WF h1 h2, h1⟩
/-- the draft's cells are the night that is told -/
theorem d_ab_A {σ : w_M} (h : d_cn σ) : w_ab σ 3 = d_A (d_ab σ) := by
  obtain ⟨c1, c2, c3⟩ := h
  funext d i
  by_cases e0 : d = 0
  · subst e0
    by_cases hi : i < 6
    · rw [w_ab0 hi]
      rcases (show i = 0 ∨ i = 1 ∨ i = 2 ∨ i = 3 ∨ i = 4 ∨ i = 5 by omega) with rfl | rfl | rfl | rfl | rfl | rfl
      · rfl
      · exact c1.1
      · rfl
      · exact c1.2
      · rfl
      · rfl
    · have e1 : w_ab σ 3 0 i = 0 := by rw [w_ab_row (by decide)]; exact if_neg (show ¬ i < 6 from hi)
      rw [e1]
      unfold d_A
      rw [if_pos rfl, if_neg (by omega), if_neg (by omega), if_neg (by omega), if_neg (by omega), if_neg (by omega)]
  · by_cases e2 : d ≤ 2
    · rw [w_ab_row (by omega)]
      unfold d_A w_rl
      rw [if_neg e0, if_pos e2, if_neg e0, if_pos e2, d_ab_12 (by omega) e2]
      show _ = if i < (σ 3 4).toNat then (if i < (σ 3 4).toNat then σ (3 + d) i else 0) else 0
      by_cases hi : i < (σ 3 4).toNat
      · simp [hi]
      · simp [hi]
    · by_cases e5 : d = 5
      · subst e5
        rw [w_ab_row (by decide), w_rl37 (by decide) (by decide)]
        show (if i < (σ 3 5).toNat then σ 8 i else 0) = if i < (σ 3 5).toNat then 3 else 0
        by_cases hi : i < (σ 3 5).toNat
        · rw [if_pos hi, if_pos hi]; exact (c2 i hi).1
        · rw [if_neg hi, if_neg hi]
      · by_cases e6 : d ≤ 6
        · rw [w_ab_row (by omega), w_rl37 (by omega) (by omega)]
          unfold d_A
          rw [if_neg e0, if_neg e2, if_neg e5, if_pos e6, d_ab_346 (d := d) (by omega)]
          show _ = if i < (σ 3 5).toNat then (if i < (σ 3 5).toNat then σ (3 + d) i else 0) else 0
          by_cases hi : i < (σ 3 5).toNat
          · simp [hi]
          · simp [hi]
        · by_cases e9 : d = 9
          · subst e9
            rw [w_ab_9]
            rfl
          · have er : d_A (d_ab σ) d i = 0 := by
              unfold d_A
              rw [if_neg e0, if_neg e2, if_neg e5, if_neg e6, if_neg e9]
            rw [er]
            by_cases e7 : d = 7
            · subst e7
              rw [w_ab_row (by decide), w_rl37 (by decide) (by decide)]
              show (if i < (σ 3 5).toNat then σ 10 i else 0) = 0
              by_cases hi : i < (σ 3 5).toNat
              · rw [if_pos hi]; exact (c2 i hi).2
              · rw [if_neg hi]
            · by_cases e8 : d = 8
              · subst e8
                rw [w_ab_row (by decide)]
                show (if i < 4 then σ 11 i else 0) = 0
                by_cases hi : i < 4
                · rw [if_pos hi]; exact c3 i hi
                · rw [if_neg hi]
              · exact w_ab_10 (by omega)
theorem fMoon_text_0 : w_fe am_c109 0 1 (.aload 0) := ⟨rfl, rfl⟩
theorem fMoon_text_1 : w_fe am_c109 1 2 (.getfield 0) := ⟨rfl, rfl⟩
theorem fMoon_text_2 : w_fe am_c109 2 3 (.invokestatic 12) := ⟨rfl, rfl⟩
theorem fMoon_text_3 : w_fe am_c109 3 4 (.istore 1) := ⟨rfl, rfl⟩
theorem fMoon_text_4 : w_fe am_c109 4 5 (.aload 0) := ⟨rfl, rfl⟩
theorem fMoon_text_5 : w_fe am_c109 5 6 (.aload 0) := ⟨rfl, rfl⟩
theorem fMoon_text_6 : w_fe am_c109 6 7 (.getfield 0) := ⟨rfl, rfl⟩
theorem fMoon_text_7 : w_fe am_c109 7 8 (.getfield 103) := ⟨rfl, rfl⟩
theorem fMoon_text_8 : w_fe am_c109 8 9 (.putfield 8) := ⟨rfl, rfl⟩
theorem fMoon_text_9 : w_fe am_c109 9 10 (.aload 0) := ⟨rfl, rfl⟩
theorem fMoon_text_10 : w_fe am_c109 10 11 (.getfield 0) := ⟨rfl, rfl⟩
theorem fMoon_text_11 : w_fe am_c109 11 12 (.bipush 0) := ⟨rfl, rfl⟩
theorem fMoon_text_12 : w_fe am_c109 12 13 (.putfield 101) := ⟨rfl, rfl⟩
theorem fMoon_text_13 : w_fe am_c109 13 14 (.aload 0) := ⟨rfl, rfl⟩
theorem fMoon_text_14 : w_fe am_c109 14 15 (.getfield 8) := ⟨rfl, rfl⟩
theorem fMoon_text_15 : w_if am_c109 15 16 .eq 22 := ⟨rfl, rfl⟩
theorem fMoon_text_16 : w_fe am_c109 16 17 (.bipush (-10)) := ⟨rfl, rfl⟩
theorem fMoon_text_17 : w_fe am_c109 17 18 (.aload 0) := ⟨rfl, rfl⟩
theorem fMoon_text_18 : w_fe am_c109 18 19 (.getfield 0) := ⟨rfl, rfl⟩
theorem fMoon_text_19 : w_fe am_c109 19 20 (.getfield 104) := ⟨rfl, rfl⟩
theorem fMoon_text_20 : w_fe am_c109 20 21 (.isub) := ⟨rfl, rfl⟩
theorem fMoon_text_21 : w_fe am_c109 21 22 (.ireturn) := ⟨rfl, rfl⟩
theorem fMoon_text_22 : w_fe am_c109 22 23 (.aload 0) := ⟨rfl, rfl⟩
theorem fMoon_text_23 : w_fe am_c109 23 24 (.getfield 2) := ⟨rfl, rfl⟩
theorem fMoon_text_24 : w_fe am_c109 24 25 (.aload 0) := ⟨rfl, rfl⟩
theorem fMoon_text_25 : w_fe am_c109 25 26 (.getfield 0) := ⟨rfl, rfl⟩
theorem fMoon_text_26 : w_fe am_c109 26 27 (.getfield 102) := ⟨rfl, rfl⟩
theorem fMoon_text_27 : w_fe am_c109 27 28 (.invokestatic 34) := ⟨rfl, rfl⟩
theorem fMoon_text_28 : w_fe am_c109 28 29 (.aload 0) := ⟨rfl, rfl⟩
theorem fMoon_text_29 : w_fe am_c109 29 30 (.getfield 1) := ⟨rfl, rfl⟩
theorem fMoon_text_30 : w_fe am_c109 30 31 (.getfield 301) := ⟨rfl, rfl⟩
theorem fMoon_text_31 : w_fe am_c109 31 32 (.bipush 0) := ⟨rfl, rfl⟩
theorem fMoon_text_32 : w_fe am_c109 32 33 (.putfield 400) := ⟨rfl, rfl⟩
theorem fMoon_text_33 : w_fe am_c109 33 34 (.aload 0) := ⟨rfl, rfl⟩
theorem fMoon_text_34 : w_fe am_c109 34 35 (.getfield 1) := ⟨rfl, rfl⟩
theorem fMoon_text_35 : w_fe am_c109 35 36 (.getfield 302) := ⟨rfl, rfl⟩
theorem fMoon_text_36 : w_fe am_c109 36 37 (.bipush 0) := ⟨rfl, rfl⟩
theorem fMoon_text_37 : w_fe am_c109 37 38 (.putfield 500) := ⟨rfl, rfl⟩
theorem fMoon_text_38 : w_fe am_c109 38 39 (.aload 0) := ⟨rfl, rfl⟩
theorem fMoon_text_39 : w_fe am_c109 39 40 (.bipush 0) := ⟨rfl, rfl⟩
theorem fMoon_text_40 : w_fe am_c109 40 41 (.putfield 7) := ⟨rfl, rfl⟩
theorem fMoon_text_41 : w_fe am_c109 41 42 (.iload 1) := ⟨rfl, rfl⟩
theorem fMoon_text_42 : w_fe am_c109 42 43 (.ireturn) := ⟨rfl, rfl⟩
set_option maxRecDepth 20000 in
theorem bMoon_text_0 {xs : List Int} {d : Nat} {Q : Option w_V → w_M → Prop}  {σ : w_M}
    (h : p_Reader_readAll σ ∧ (∀ (y1 : Int) (τ2 : w_M), q_Reader_readAll σ y1 τ2 → ∀ (τ3 : w_M), τ3 = w_up τ2 0 8 (τ2 1 3) → ∀ (τ4 : w_M), τ4 = w_up τ3 1 1 0 → (((τ4 0 8) = 0 → (p_Field_copyFrom 14 3 τ4 ∧ (∀ (τ5 : w_M), q_Field_copyFrom 14 3 τ4 τ5 → ∀ (τ6 : w_M), τ6 = w_up τ5 23 0 0 → ∀ (τ7 : w_M), τ7 = w_up τ6 27 0 0 → ∀ (τ8 : w_M), τ8 = w_up τ7 0 7 0 → Q (some (.inl y1)) τ8))) ∧ (¬ (τ4 0 8) = 0 → (w_in ((-10) - (τ4 1 4)) ∧ Q (some (.inl ((-10) - (τ4 1 4)))) τ4))))) : w_Call (xs, (d + 6)) 109 [.inr (.inr (0, 0))] σ Q :=
  (w_mk (mid := 109) (by decide) rfl rfl rfl rfl rfl (Nat.le_of_ble_eq_true rfl) ⟨rfl, Or.inl (by decide)⟩ (wi_aload0 fMoon_text_0 (wi_getf0 fMoon_text_1 (wi_call1 fMoon_text_2 (Nat.le_of_ble_eq_true rfl) (k_Reader_readAll h.1 (fun y1 τ2 eτ2 => (wi_istore1 fMoon_text_3 trivial (wi_aload0 fMoon_text_4 (wi_aload0 fMoon_text_5 (wi_getf0 fMoon_text_6 (wi_getf103 fMoon_text_7 (wi_putf8 fMoon_text_8 (wi_aload0 fMoon_text_9 (wi_getf0 fMoon_text_10 (wi_bipush fMoon_text_11 (wi_putf101 fMoon_text_12 (wi_aload0 fMoon_text_13 (wi_getf8 fMoon_text_14 (wi_if_eq fMoon_text_15 (fun c9 => (wi_aload0 fMoon_text_22 (wi_getf2 fMoon_text_23 (wi_aload0 fMoon_text_24 (wi_getf0 fMoon_text_25 (wi_getf102 fMoon_text_26 (wi_call2 fMoon_text_27 (Nat.le_of_ble_eq_true rfl) (k_Field_copyFrom ((((h.2 y1 τ2 eτ2) _ rfl) _ rfl).1 c9).1 (fun τ5 eτ5 => (wi_aload0 fMoon_text_28 (wi_getf1 fMoon_text_29 (wi_getf301 fMoon_text_30 (wi_bipush fMoon_text_31 (wi_putf400 fMoon_text_32 (wi_aload0 fMoon_text_33 (wi_getf1 fMoon_text_34 (wi_getf302 fMoon_text_35 (wi_bipush fMoon_text_36 (wi_putf500 fMoon_text_37 (wi_aload0 fMoon_text_38 (wi_bipush fMoon_text_39 (wi_putf7 fMoon_text_40 (wi_iload1 fMoon_text_41 (wi_ret1 fMoon_text_42 ((((((((h.2 y1 τ2 eτ2) _ rfl) _ rfl).1 c9).2 τ5 eτ5) _ rfl) _ rfl) _ rfl))))))))))))))))))))))))) (fun c9 => (wi_bipush fMoon_text_16 (wi_aload0 fMoon_text_17 (wi_getf0 fMoon_text_18 (wi_getf104 fMoon_text_19 (wi_isub fMoon_text_20 ((((h.2 y1 τ2 eτ2) _ rfl) _ rfl).2 c9).1 (wi_ret1 fMoon_text_21 ((((h.2 y1 τ2 eτ2) _ rfl) _ rfl).2 c9).2))))))))))))))))))))))))))
set_option maxHeartbeats 2000000 in
theorem k_Moon_text {xs : List Int} {d : Nat} {Q : Option w_V → w_M → Prop}  {σ : w_M} (hp : p_Moon_text σ) (hQ : ∀ (x : Int) (σ' : w_M), q_Moon_text σ x σ' → Q (some (.inl x)) σ') : w_Call (xs, d + 6) 109 [.inr (.inr (0, 0))] σ Q := by
  have hC : CI σ := hp
  have hta := hC.1.2.2.2.1
  have hk : r_ok σ := by
    refine ⟨hta.1, fun i hi => ?_⟩
    have := hta.2 i hi
    have e : cS σ 3 1 i = σ 2 i := by
      show (if i < (σ 1 1).toNat then σ 2 i else 0) = _
      rw [if_pos hi]
    rw [e] at this
    exact this
  have hL160 : rL σ ≤ 160 := by
    have := hk.1
    unfold rL
    omega
  have eR : tx_R (cS σ) = rd_R (rT σ) (rL σ) 161 0 0 d_0 := rfl
  have pl := rd_pl (T := rT σ) (L := rL σ) 161 0 0 d_0 (Nat.zero_le _)
  unfold q_Moon_text F_text G_text at hQ
  rw [eR] at hQ
  refine bMoon_text_0 ⟨hk, fun y1 τ2 hq τ3 t3 τ4 t4 => ?_⟩
  obtain ⟨F, r3, r4, r5⟩ := hq
  have rl := rd_L (T := rT σ) hL160
  generalize hR : rd_R (rT σ) (rL σ) 161 0 0 d_0 = R at *
  have z08 : τ4 0 8 = R.1.1 := by rw [t4, w_up_ne (by decide), t3, w_up_at]; exact r3
  have z0 : ∀ j, j ≠ 8 → τ4 0 j = σ 0 j := fun j hj => by rw [t4, w_up_ne (by decide), t3, w_up_j hj, F.1 0 (by omega)]
  have z11 : τ4 1 1 = 0 := by rw [t4, w_up_at]
  have z14 : τ4 1 4 = τ2 1 4 := by rw [t4, w_up_j (by decide), t3, w_up_ne (by decide)]
  have zb : ∀ b, b ≠ 0 → b ≠ 1 → τ4 b = τ2 b := fun b h0 h1 => by rw [t4, w_up_ne h1, t3, w_up_ne h0]
  refine ⟨fun c => ?_, fun c => ?_⟩
  · rw [z08] at c
    obtain ⟨x1, x2, x3⟩ := r5 c
    obtain ⟨l1, l2⟩ := rl c
    rw [if_pos c, if_pos c] at hQ
    have D4 : w_ab τ4 3 = d_A R.2.2 := by
      rw [← x2, ← d_ab_A x3]
      exact w_ab_fr (fun d hd => zb _ (by omega) (by omega))
    refine ⟨⟨n_ok.of D4 l1, by decide⟩, fun τ5 q5 τ6 t6 τ7 t7 τ8 t8 => hQ _ _ ?_⟩
    obtain ⟨u1, u2, u3⟩ := q5
    rw [D4] at u1
    have y : ∀ b, b ≠ 0 → b ≠ 23 → b ≠ 27 → τ8 b = τ5 b := fun b h0 h1 h2 => by rw [t8, w_up_ne h0, t7, w_up_ne h2, t6, w_up_ne h1]
    have y07 : τ8 0 7 = 0 := by rw [t8, w_up_at]
    have y0 : ∀ j, j ≠ 7 → τ8 0 j = τ4 0 j := fun j hj => by rw [t8, w_up_j hj, t7, w_up_ne (by decide), t6, w_up_ne (by decide), u3 0 (by omega)]
    have y23 : τ8 23 0 = 0 := by rw [t8, w_up_ne (by decide), t7, w_up_ne (by decide), t6, w_up_at]
    have y27 : τ8 27 0 = 0 := by rw [t8, w_up_ne (by decide), t7, w_up_at]
    have y1' : τ8 1 1 = 0 := by rw [y 1 (by decide) (by decide) (by decide), u3 1 (by omega)]; exact z11
    have far : ∀ b, 30 ≤ b → τ8 b = σ b := fun b hb => by rw [y b (by omega) (by omega) (by omega), u3 b (by omega), zb b (by omega) (by omega), F.1 b (by omega)]
    have kz : ∀ k, k < 2 → k_ab τ8 k = 0 := fun k hk2 => by
      unfold k_ab
      rw [y07]
      rcases (show k = 0 ∨ k = 1 by omega) with rfl | rfl <;> decide +kernel
    have eS : cS τ8 = tx_G (cS σ) R.2.2 := by
      refine cS_ext ?_ ?_ ?_ ?_ ?_ ?_
      · show w_ab τ8 14 = d_A R.2.2
        rw [← u1]
        exact w_ab_fr (fun d hd => y _ (by omega) (by omega) (by omega))
      · funext d i
        show s_ab τ8 23 d i = 0
        unfold s_ab
        rw [y23]
        simp
      · funext d i
        show c_ab τ8 27 d i = 0
        unfold c_ab
        rw [y27]
        simp
      · funext d i
        show t_ab τ8 d i = 0
        unfold t_ab
        rw [y1', y0 8 (by decide), z08, c]
        simp
      · show h_ab τ8 = h_ab σ
        exact h_ab_fr (fun b h1 h2 => far b (by omega))
      · intro p hp5
        match p, hp5 with
        | 5, _ => simp only [cS]; rw [kz 0 (by decide), if_neg (by decide)]; rfl
        | 6, _ => simp only [cS]; rw [kz 0 (by decide), if_neg (by decide)]; rfl
        | 7, _ => simp only [cS]; rw [kz 0 (by decide), if_neg (by decide)]; rfl
        | 8, _ => simp only [cS]; rw [kz 1 (by decide), if_neg (by decide)]; rfl
        | 9, _ => simp only [cS]; rw [kz 1 (by decide), if_neg (by decide)]; rfl
        | 10, _ => simp only [cS]; rw [kz 1 (by decide), if_neg (by decide)]; rfl
        | 11, _ =>
          simp only [cS]
          funext d i
          show (if d = 0 ∧ i < 2 then k_ab τ8 i else 0) = 0
          by_cases h : d = 0 ∧ i < 2
          · rw [if_pos h, kz i h.2]
          · rw [if_neg h]
        | p + 12, _ => rfl
    have m6 : 0 ≤ τ8 14 6 ∧ τ8 14 6 ≤ 127 := by
      rw [y 14 (by decide) (by decide) (by decide), u2, zb 3 (by decide) (by decide)]
      have := l2.2.2.2.2.1
      rw [← x2] at this
      exact this
    refine ⟨x1, ⟨by rw [eS]; exact tx_WF hC.1 l1, m6, by rw [y07]; decide, fun h => ?_, fun h => ?_⟩, eS, fun b hb => far b (by omega), by rw [y0 9 (by decide)]; exact z0 9 (by decide)⟩
    · rw [kz 0 (by decide)] at h; exact absurd h (by decide)
    · rw [kz 1 (by decide)] at h; exact absurd h (by decide)
  · rw [z08] at c
    have e4 := r4 c
    rw [if_neg c, if_neg c] at hQ
    rw [z14, e4]
    refine ⟨⟨by omega, by omega⟩, hQ _ _ (c_q3 hC (fun b hb => ?_) (z0 7 (by decide)) (z0 9 (by decide)) ?_ tz_WF rfl)⟩
    · rw [zb b (by omega) (by omega), F.1 b (by omega)]
    · funext d i
      unfold t_ab tz
      rw [z11, z08]
      by_cases h0 : d = 0
      · subst h0
        by_cases h1 : i = 1
        · subst h1; simp
        · simp [h1]
      · simp [h0]
