/-! The reference reads what must be fresh -/
theorem tk_same {T : Nat → Int} {L p p' : Nat} (h : tk_f T L p' = tk_f T L p) : tk_k T L p' = tk_k T L p ∧ tk_b T L p' = tk_b T L p ∧ tk_v T L p' = tk_v T L p := by
  unfold tk_k tk_b tk_v tk_c tk_d
  rw [h]
  exact ⟨rfl, rfl, rfl⟩
noncomputable def mo_g (σ σ' : w_M) : Prop := (∀ b, b ≠ 122 → σ' b = σ b) ∧ ∀ j, j < 12 ∨ j = 14 ∨ j = 15 ∨ 22 ≤ j → σ' 122 j = σ 122 j
theorem mo_g.rfl' {σ : w_M} : mo_g σ σ := ⟨fun _ _ => rfl, fun _ _ => rfl⟩
theorem mo_fr.g {σ σ' : w_M} (h : mo_fr σ σ') : mo_g σ σ' := ⟨h.1, fun j hj => h.2 j (by omega)⟩
theorem mo_g.tp {σ τ : w_M} (h : mo_g σ τ) : mo_tp σ τ := ⟨h.1 127 (by decide), h.2 15 (by omega)⟩
noncomputable def nr_ok (σ : w_M) : Prop := 0 ≤ σ 122 20 ∧ (σ 122 20 = 0 → ∃ p, m_at (mT σ) (mL σ) p σ)
/-- what is found of a number that must be fresh -/
noncomputable def fr_f (T : Nat → Int) (L : Nat) (some most : Int) (p : Nat) : Int := if nt_0 T L 0 most p = 0 then (if w_and (w_shr some (tk_v T L p)) 1 = 0 then 0 else 4) else nt_0 T L 0 most p
noncomputable def p_Model_readFresh (_ _ : Int) (σ : w_M) : Prop := nr_ok σ
noncomputable def q_Model_readFresh (some most : Int) (σ : w_M) (x : Int) (σ' : w_M) : Prop := mo_g σ σ' ∧ (¬ σ 122 20 = 0 → σ' 122 20 = σ 122 20 ∧ σ' 122 21 = σ 122 21) ∧ (σ 122 20 = 0 → ∀ p, m_at (mT σ) (mL σ) p σ →
  (fr_f (mT σ) (mL σ) some most p = 0 → x = w_or some (w_shl 1 (tk_v (mT σ) (mL σ) p)) ∧ m_cur (mT σ) (mL σ) (tk_b (mT σ) (mL σ) p) σ' ∧ σ' 122 12 = (if most < 7 ∧ σ 122 12 < tk_v (mT σ) (mL σ) p then tk_v (mT σ) (mL σ) p else σ 122 12) ∧ σ' 122 13 = (if 7 ≤ most ∧ σ 122 13 < tk_v (mT σ) (mL σ) p then tk_v (mT σ) (mL σ) p else σ 122 13)) ∧
  (¬ fr_f (mT σ) (mL σ) some most p = 0 → σ' 122 20 = fr_f (mT σ) (mL σ) some most p ∧ σ' 122 21 = ((tk_f (mT σ) (mL σ) p : Nat) : Int)))
theorem fModel_readFresh_0 : w_fe am_c171 0 1 (.aload 0) := ⟨rfl, rfl⟩
theorem fModel_readFresh_1 : w_fe am_c171 1 2 (.bipush 0) := ⟨rfl, rfl⟩
theorem fModel_readFresh_2 : w_fe am_c171 2 3 (.iload 2) := ⟨rfl, rfl⟩
theorem fModel_readFresh_3 : w_fe am_c171 3 4 (.invokestatic 169) := ⟨rfl, rfl⟩
theorem fModel_readFresh_4 : w_fe am_c171 4 5 (.istore 3) := ⟨rfl, rfl⟩
theorem fModel_readFresh_5 : w_fe am_c171 5 6 (.aload 0) := ⟨rfl, rfl⟩
theorem fModel_readFresh_6 : w_fe am_c171 6 7 (.getfield 920) := ⟨rfl, rfl⟩
theorem fModel_readFresh_7 : w_if am_c171 7 8 .ne 20 := ⟨rfl, rfl⟩
theorem fModel_readFresh_8 : w_fe am_c171 8 9 (.aload 0) := ⟨rfl, rfl⟩
theorem fModel_readFresh_9 : w_fe am_c171 9 10 (.iload 1) := ⟨rfl, rfl⟩
theorem fModel_readFresh_10 : w_fe am_c171 10 11 (.iload 3) := ⟨rfl, rfl⟩
theorem fModel_readFresh_11 : w_fe am_c171 11 12 (.ishr) := ⟨rfl, rfl⟩
theorem fModel_readFresh_12 : w_fe am_c171 12 13 (.bipush 1) := ⟨rfl, rfl⟩
theorem fModel_readFresh_13 : w_fe am_c171 13 14 (.iand) := ⟨rfl, rfl⟩
theorem fModel_readFresh_14 : w_if am_c171 14 15 .ne 17 := ⟨rfl, rfl⟩
theorem fModel_readFresh_15 : w_fe am_c171 15 16 (.bipush 1) := ⟨rfl, rfl⟩
theorem fModel_readFresh_16 : w_gt am_c171 16 18 := rfl
theorem fModel_readFresh_17 : w_fe am_c171 17 18 (.bipush 0) := ⟨rfl, rfl⟩
theorem fModel_readFresh_18 : w_fe am_c171 18 19 (.bipush 4) := ⟨rfl, rfl⟩
theorem fModel_readFresh_19 : w_fe am_c171 19 20 (.invokestatic 162) := ⟨rfl, rfl⟩
theorem fModel_readFresh_20 : w_fe am_c171 20 21 (.aload 0) := ⟨rfl, rfl⟩
theorem fModel_readFresh_21 : w_fe am_c171 21 22 (.aload 0) := ⟨rfl, rfl⟩
theorem fModel_readFresh_22 : w_fe am_c171 22 23 (.getfield 920) := ⟨rfl, rfl⟩
theorem fModel_readFresh_23 : w_if am_c171 23 24 .ne 33 := ⟨rfl, rfl⟩
theorem fModel_readFresh_24 : w_fe am_c171 24 25 (.iload 2) := ⟨rfl, rfl⟩
theorem fModel_readFresh_25 : w_fe am_c171 25 26 (.bipush 7) := ⟨rfl, rfl⟩
theorem fModel_readFresh_26 : w_ic am_c171 26 27 .ge 33 := ⟨rfl, rfl⟩
theorem fModel_readFresh_27 : w_fe am_c171 27 28 (.iload 3) := ⟨rfl, rfl⟩
theorem fModel_readFresh_28 : w_fe am_c171 28 29 (.aload 0) := ⟨rfl, rfl⟩
theorem fModel_readFresh_29 : w_fe am_c171 29 30 (.getfield 912) := ⟨rfl, rfl⟩
theorem fModel_readFresh_30 : w_ic am_c171 30 31 .le 33 := ⟨rfl, rfl⟩
theorem fModel_readFresh_31 : w_fe am_c171 31 32 (.iload 3) := ⟨rfl, rfl⟩
theorem fModel_readFresh_32 : w_gt am_c171 32 35 := rfl
theorem fModel_readFresh_33 : w_fe am_c171 33 34 (.aload 0) := ⟨rfl, rfl⟩
theorem fModel_readFresh_34 : w_fe am_c171 34 35 (.getfield 912) := ⟨rfl, rfl⟩
theorem fModel_readFresh_35 : w_fe am_c171 35 36 (.putfield 912) := ⟨rfl, rfl⟩
theorem fModel_readFresh_36 : w_fe am_c171 36 37 (.aload 0) := ⟨rfl, rfl⟩
theorem fModel_readFresh_37 : w_fe am_c171 37 38 (.aload 0) := ⟨rfl, rfl⟩
theorem fModel_readFresh_38 : w_fe am_c171 38 39 (.getfield 920) := ⟨rfl, rfl⟩
theorem fModel_readFresh_39 : w_if am_c171 39 40 .ne 49 := ⟨rfl, rfl⟩
theorem fModel_readFresh_40 : w_fe am_c171 40 41 (.iload 2) := ⟨rfl, rfl⟩
theorem fModel_readFresh_41 : w_fe am_c171 41 42 (.bipush 7) := ⟨rfl, rfl⟩
theorem fModel_readFresh_42 : w_ic am_c171 42 43 .lt 49 := ⟨rfl, rfl⟩
theorem fModel_readFresh_43 : w_fe am_c171 43 44 (.iload 3) := ⟨rfl, rfl⟩
theorem fModel_readFresh_44 : w_fe am_c171 44 45 (.aload 0) := ⟨rfl, rfl⟩
theorem fModel_readFresh_45 : w_fe am_c171 45 46 (.getfield 913) := ⟨rfl, rfl⟩
theorem fModel_readFresh_46 : w_ic am_c171 46 47 .le 49 := ⟨rfl, rfl⟩
theorem fModel_readFresh_47 : w_fe am_c171 47 48 (.iload 3) := ⟨rfl, rfl⟩
theorem fModel_readFresh_48 : w_gt am_c171 48 51 := rfl
theorem fModel_readFresh_49 : w_fe am_c171 49 50 (.aload 0) := ⟨rfl, rfl⟩
theorem fModel_readFresh_50 : w_fe am_c171 50 51 (.getfield 913) := ⟨rfl, rfl⟩
theorem fModel_readFresh_51 : w_fe am_c171 51 52 (.putfield 913) := ⟨rfl, rfl⟩
theorem fModel_readFresh_52 : w_fe am_c171 52 53 (.aload 0) := ⟨rfl, rfl⟩
theorem fModel_readFresh_53 : w_fe am_c171 53 54 (.invokestatic 160) := ⟨rfl, rfl⟩
theorem fModel_readFresh_54 : w_fe am_c171 54 55 (.iload 1) := ⟨rfl, rfl⟩
theorem fModel_readFresh_55 : w_fe am_c171 55 56 (.bipush 1) := ⟨rfl, rfl⟩
theorem fModel_readFresh_56 : w_fe am_c171 56 57 (.iload 3) := ⟨rfl, rfl⟩
theorem fModel_readFresh_57 : w_fe am_c171 57 58 (.ishl) := ⟨rfl, rfl⟩
theorem fModel_readFresh_58 : w_fe am_c171 58 59 (.ior) := ⟨rfl, rfl⟩
theorem fModel_readFresh_59 : w_fe am_c171 59 60 (.ireturn) := ⟨rfl, rfl⟩
noncomputable def LModel_readFresh_20 (xs : List Int) (d : Nat) (Q : Option w_V → w_M → Prop) (v1 : Int) (v2 : Int) (v3 : Int) (σ : w_M) : Prop := w_Ex (xs, d) 1 am_c171 Q 20 [some (.inr (.inr (9, 122))), some (.inl v1), some (.inl v2), some (.inl v3)] [] σ
noncomputable def LModel_readFresh_18 (xs : List Int) (d : Nat) (Q : Option w_V → w_M → Prop) (v1 : Int) (v2 : Int) (v3 : Int) (s0 : Int) (σ : w_M) : Prop := w_Ex (xs, d) 1 am_c171 Q 18 [some (.inr (.inr (9, 122))), some (.inl v1), some (.inl v2), some (.inl v3)] [.inl s0, .inr (.inr (9, 122))] σ
noncomputable def LModel_readFresh_35 (xs : List Int) (d : Nat) (Q : Option w_V → w_M → Prop) (v1 : Int) (v2 : Int) (v3 : Int) (s0 : Int) (σ : w_M) : Prop := w_Ex (xs, d) 1 am_c171 Q 35 [some (.inr (.inr (9, 122))), some (.inl v1), some (.inl v2), some (.inl v3)] [.inl s0, .inr (.inr (9, 122))] σ
noncomputable def LModel_readFresh_51 (xs : List Int) (d : Nat) (Q : Option w_V → w_M → Prop) (v1 : Int) (v3 : Int) (s0 : Int) (σ : w_M) : Prop := ∀ l2, w_nl l2 → w_Ex (xs, d) 1 am_c171 Q 51 [some (.inr (.inr (9, 122))), some (.inl v1), l2, some (.inl v3)] [.inl s0, .inr (.inr (9, 122))] σ
set_option maxRecDepth 20000 in
theorem bModel_readFresh_0 {xs : List Int} {d : Nat} {Q : Option w_V → w_M → Prop} {x1 : Int} {x2 : Int} {σ : w_M}
    (h : p_Model_looked 0 x2 σ ∧ (∀ (y1 : Int) (τ2 : w_M), q_Model_looked 0 x2 σ y1 τ2 → ((¬ (τ2 122 20) = 0 → LModel_readFresh_20 xs (d + 2) Q x1 x2 y1 τ2) ∧ ((τ2 122 20) = 0 → ((¬ (w_and (w_shr x1 y1) 1) = 0 → LModel_readFresh_18 xs (d + 2) Q x1 x2 y1 0 τ2) ∧ ((w_and (w_shr x1 y1) 1) = 0 → LModel_readFresh_18 xs (d + 2) Q x1 x2 y1 1 τ2)))))) : w_Call (xs, (d + 2)) 171 [.inr (.inr (9, 122)), .inl x1, .inl x2] σ Q :=
  (w_mk (mid := 171) (by decide) rfl rfl rfl rfl rfl (Nat.le_of_ble_eq_true rfl) ⟨rfl, Or.inl (by decide)⟩ (wi_aload0 fModel_readFresh_0 (wi_bipush fModel_readFresh_1 (wi_iload2 fModel_readFresh_2 (wi_call3 fModel_readFresh_3 (Nat.le_of_ble_eq_true rfl) (k_Model_looked h.1 (fun y1 τ2 eτ2 => (wi_istore3 fModel_readFresh_4 trivial (wi_aload0 fModel_readFresh_5 (wi_getf920 fModel_readFresh_6 (wi_if_ne fModel_readFresh_7 (fun c4 => ((h.2 y1 τ2 eτ2).1 c4)) (fun c4 => (wi_aload0 fModel_readFresh_8 (wi_iload1 fModel_readFresh_9 (wi_iload3 fModel_readFresh_10 (wi_ishr fModel_readFresh_11 (wi_bipush fModel_readFresh_12 (wi_iand fModel_readFresh_13 (wi_if_ne fModel_readFresh_14 (fun c3 => (wi_bipush fModel_readFresh_17 (((h.2 y1 τ2 eτ2).2 c4).1 c3))) (fun c3 => (wi_bipush fModel_readFresh_15 (wi_goto fModel_readFresh_16 (((h.2 y1 τ2 eτ2).2 c4).2 c3)))))))))))))))))))))))
set_option maxRecDepth 20000 in
theorem bModel_readFresh_20 {xs : List Int} {d : Nat} {Q : Option w_V → w_M → Prop} {v1 : Int} {v2 : Int} {v3 : Int} {σ : w_M}
    (h : (¬ (σ 122 20) = 0 → LModel_readFresh_35 xs (d + 2) Q v1 v2 v3 (σ 122 12) σ) ∧ ((σ 122 20) = 0 → ((7 ≤ v2 → LModel_readFresh_35 xs (d + 2) Q v1 v2 v3 (σ 122 12) σ) ∧ (v2 < 7 → ((v3 ≤ (σ 122 12) → LModel_readFresh_35 xs (d + 2) Q v1 v2 v3 (σ 122 12) σ) ∧ ((σ 122 12) < v3 → LModel_readFresh_35 xs (d + 2) Q v1 v2 v3 v3 σ)))))) : LModel_readFresh_20 xs (d + 2) Q v1 v2 v3 σ :=
  (wi_aload0 fModel_readFresh_20 (wi_aload0 fModel_readFresh_21 (wi_getf920 fModel_readFresh_22 (wi_if_ne fModel_readFresh_23 (fun c3 => (wi_aload0 fModel_readFresh_33 (wi_getf912 fModel_readFresh_34 (h.1 c3)))) (fun c3 => (wi_iload2 fModel_readFresh_24 (wi_bipush fModel_readFresh_25 (wi_ic_ge fModel_readFresh_26 (fun c2 => (wi_aload0 fModel_readFresh_33 (wi_getf912 fModel_readFresh_34 ((h.2 c3).1 c2)))) (fun c2 => (wi_iload3 fModel_readFresh_27 (wi_aload0 fModel_readFresh_28 (wi_getf912 fModel_readFresh_29 (wi_ic_le fModel_readFresh_30 (fun c1 => (wi_aload0 fModel_readFresh_33 (wi_getf912 fModel_readFresh_34 (((h.2 c3).2 c2).1 c1)))) (fun c1 => (wi_iload3 fModel_readFresh_31 (wi_goto fModel_readFresh_32 (((h.2 c3).2 c2).2 c1)))))))))))))))))
set_option maxRecDepth 20000 in
theorem bModel_readFresh_18 {xs : List Int} {d : Nat} {Q : Option w_V → w_M → Prop} {v1 : Int} {v2 : Int} {v3 : Int} {s0 : Int} {σ : w_M}
    (h : ∀ (τ1 : w_M), q_Model_needs s0 4 σ τ1 → LModel_readFresh_20 xs (d + 2) Q v1 v2 v3 τ1) : LModel_readFresh_18 xs (d + 2) Q v1 v2 v3 s0 σ :=
  (wi_bipush fModel_readFresh_18 (wi_call3 fModel_readFresh_19 (Nat.le_of_ble_eq_true rfl) (k_Model_needs (fun τ1 eτ1 => (h τ1 eτ1)))))
set_option maxRecDepth 20000 in
theorem bModel_readFresh_35 {xs : List Int} {d : Nat} {Q : Option w_V → w_M → Prop} {v1 : Int} {v2 : Int} {v3 : Int} {s0 : Int} {σ : w_M}
    (h : ∀ (τ1 : w_M), τ1 = w_up σ 122 12 s0 → ((¬ (τ1 122 20) = 0 → LModel_readFresh_51 xs (d + 2) Q v1 v3 (τ1 122 13) τ1) ∧ ((τ1 122 20) = 0 → ((v2 < 7 → LModel_readFresh_51 xs (d + 2) Q v1 v3 (τ1 122 13) τ1) ∧ (7 ≤ v2 → ((v3 ≤ (τ1 122 13) → LModel_readFresh_51 xs (d + 2) Q v1 v3 (τ1 122 13) τ1) ∧ ((τ1 122 13) < v3 → LModel_readFresh_51 xs (d + 2) Q v1 v3 v3 τ1))))))) : LModel_readFresh_35 xs (d + 2) Q v1 v2 v3 s0 σ :=
  (wi_putf912 fModel_readFresh_35 (wi_aload0 fModel_readFresh_36 (wi_aload0 fModel_readFresh_37 (wi_getf920 fModel_readFresh_38 (wi_if_ne fModel_readFresh_39 (fun c4 => (wi_aload0 fModel_readFresh_49 (wi_getf913 fModel_readFresh_50 (((h _ rfl).1 c4) _ (by exact trivial))))) (fun c4 => (wi_iload2 fModel_readFresh_40 (wi_bipush fModel_readFresh_41 (wi_ic_lt fModel_readFresh_42 (fun c3 => (wi_aload0 fModel_readFresh_49 (wi_getf913 fModel_readFresh_50 ((((h _ rfl).2 c4).1 c3) _ (by exact trivial))))) (fun c3 => (wi_iload3 fModel_readFresh_43 (wi_aload0 fModel_readFresh_44 (wi_getf913 fModel_readFresh_45 (wi_ic_le fModel_readFresh_46 (fun c2 => (wi_aload0 fModel_readFresh_49 (wi_getf913 fModel_readFresh_50 (((((h _ rfl).2 c4).2 c3).1 c2) _ (by exact trivial))))) (fun c2 => (wi_iload3 fModel_readFresh_47 (wi_goto fModel_readFresh_48 (((((h _ rfl).2 c4).2 c3).2 c2) _ (by exact trivial)))))))))))))))))))
set_option maxRecDepth 20000 in
theorem bModel_readFresh_51 {xs : List Int} {d : Nat} {Q : Option w_V → w_M → Prop} {v1 : Int} {v3 : Int} {s0 : Int} {σ : w_M}
    (h : ∀ (τ1 : w_M), τ1 = w_up σ 122 13 s0 → (p_Model_next τ1 ∧ (∀ (τ2 : w_M), q_Model_next τ1 τ2 → Q (some (.inl (w_or v1 (w_shl 1 v3)))) τ2))) : LModel_readFresh_51 xs (d + 2) Q v1 v3 s0 σ :=
  fun l2 nl2 => (wi_putf913 fModel_readFresh_51 (wi_aload0 fModel_readFresh_52 (wi_call1 fModel_readFresh_53 (Nat.le_of_ble_eq_true rfl) (k_Model_next (h _ rfl).1 (fun τ2 eτ2 => (wi_iload1 fModel_readFresh_54 (wi_bipush fModel_readFresh_55 (wi_iload3 fModel_readFresh_56 (wi_ishl fModel_readFresh_57 (wi_ior fModel_readFresh_58 (wi_ret1 fModel_readFresh_59 ((h _ rfl).2 τ2 eτ2))))))))))))
theorem k_Model_readFresh {xs : List Int} {d : Nat} {Q : Option w_V → w_M → Prop} {x1 : Int} {x2 : Int} {σ : w_M} (hp : p_Model_readFresh x1 x2 σ) (hQ : ∀ (x : Int) (σ' : w_M), q_Model_readFresh x1 x2 σ x σ' → Q (some (.inl x)) σ') : w_Call (xs, d + 2) 171 [.inr (.inr (9, 122)), .inl x1, .inl x2] σ Q := by
  obtain ⟨h20, hp'⟩ := hp
  have stay : ∀ (v : Int) (τ : w_M), 0 ≤ τ 122 20 → ¬ τ 122 20 = 0 → Q (some (.inl (w_or x1 (w_shl 1 v)))) τ → LModel_readFresh_20 xs (d + 2) Q x1 x2 v τ := fun v τ a c hq => by
    refine bModel_readFresh_20 ⟨fun _ => bModel_readFresh_35 (fun τ1 t1 => ?_), fun h => absurd h c⟩
    rw [w_up_same rfl] at t1
    rw [t1]
    refine ⟨fun _ => bModel_readFresh_51 (fun τ2 t2 => ?_), fun h => absurd h c⟩
    rw [w_up_same rfl] at t2
    rw [t2]
    exact ⟨⟨a, fun h => absurd h c⟩, fun τ3 q3 => by rw [q3.1 c]; exact hq⟩
  refine bModel_readFresh_0 ⟨trivial, fun y1 τ2 q2 => ?_⟩
  by_cases h0 : σ 122 20 = 0
  · obtain ⟨p, ⟨-, -, hk⟩, hpL, hcur⟩ := hp' h0
    obtain ⟨n1, n2, n3⟩ := nt_lo (lo := 0) (hi := x2) hcur h0
    unfold q_Model_readFresh at hQ
    have hLe : mL σ = (σ 122 15).toNat := rfl
    have hk1 := hk.1
    have tpT : ∀ τ : w_M, mo_tp σ τ → mT τ = mT σ ∧ mL τ = mL σ ∧ m_rk τ := fun τ F => ⟨F.T, F.L, F.ok hk⟩
    generalize hT : mT σ = T at *
    generalize hL : mL σ = L at *
    have fin : ∀ (x : Int) (σ' : w_M), mo_g σ σ' → (fr_f T L x1 x2 p = 0 → x = w_or x1 (w_shl 1 (tk_v T L p)) ∧ m_cur T L (tk_b T L p) σ' ∧ σ' 122 12 = (if x2 < 7 ∧ σ 122 12 < tk_v T L p then tk_v T L p else σ 122 12) ∧ σ' 122 13 = (if 7 ≤ x2 ∧ σ 122 13 < tk_v T L p then tk_v T L p else σ 122 13)) → (¬ fr_f T L x1 x2 p = 0 → σ' 122 20 = fr_f T L x1 x2 p ∧ σ' 122 21 = ((tk_f T L p : Nat) : Int)) → Q (some (.inl x)) σ' := fun x σ' F a b => by
      refine hQ _ _ ⟨F, fun h => absurd h0 h, fun _ p' hp2 => ?_⟩
      have e : tk_f T L p' = tk_f T L p := by
        have a1 := hp2.2.2.1
        have b1 := hcur.1
        omega
      obtain ⟨e1, e2, e3⟩ := tk_same e
      have ef : fr_f T L x1 x2 p' = fr_f T L x1 x2 p := by unfold fr_f nt_0; rw [e1, e3]
      rw [ef, e2, e3, e]
      exact ⟨a, b⟩
    by_cases ok : lo_ok 0 x2 σ
    · obtain ⟨e1, e2⟩ := (q2.2 h0).1 ok
      rw [e2]
      have k2 := n3 ok
      have nz := n1.mp ok
      have e16 := hcur.2.1 (by omega)
      have hbL := tk_b_le (T := T) (L := L) (p := p) (tk_k0 (by omega))
      have ev : y1 = tk_v T L p := by rw [e1]; exact hcur.2.2.2.2 k2
      rw [ev]
      refine ⟨fun c => absurd h0 c, fun _ => ⟨fun c => bModel_readFresh_18 (fun τ1 q1 => ?_), fun c => bModel_readFresh_18 (fun τ1 q1 => ?_)⟩⟩
      · obtain ⟨m1, m2, m3, m4⟩ := need_n q1 rfl h0
        have ff : fr_f T L x1 x2 p = 4 := by unfold fr_f; rw [if_pos nz, if_neg c]
        exact stay _ τ1 (by rw [m1]; decide) (by rw [m1]; decide) (fin _ _ m3.g (fun h => absurd (ff.symm.trans h) (by decide)) (fun _ => ⟨by rw [m1, ff], by rw [m2]; exact hcur.1⟩))
      · rw [need_y q1]
        have ff : fr_f T L x1 x2 p = 0 := by unfold fr_f; rw [if_pos nz, if_pos c]
        generalize hv : tk_v T L p = v at *
        have s51 : ∀ (τ : w_M) (s0 : Int), (∀ b, b ≠ 122 → τ b = σ b) → (∀ j, j ≠ 12 → τ 122 j = σ 122 j) → τ 122 12 = (if x2 < 7 ∧ σ 122 12 < v then v else σ 122 12) → s0 = (if 7 ≤ x2 ∧ σ 122 13 < v then v else σ 122 13) → LModel_readFresh_51 xs (d + 2) Q x1 v s0 τ := fun τ s0 a b e12 e13 => by
          refine bModel_readFresh_51 (fun τ1 t1 => ?_)
          have z : ∀ j, j ≠ 12 → j ≠ 13 → τ1 122 j = σ 122 j := fun j h1 h2 => by rw [t1, w_up_j h2]; exact b j h1
          have zb : ∀ b, b ≠ 122 → τ1 b = σ b := fun b' hb' => by rw [t1, w_up_ne hb']; exact a b' hb'
          have z20 : τ1 122 20 = 0 := by rw [z 20 (by decide) (by decide)]; exact h0
          have z16 : τ1 122 16 = ((tk_b T L p : Nat) : Int) := by rw [z 16 (by decide) (by decide)]; exact e16
          have z15 : τ1 122 15 = σ 122 15 := z 15 (by decide) (by decide)
          have tp : mo_tp σ τ1 := ⟨zb 127 (by decide), z15⟩
          obtain ⟨g1, g2, g3⟩ := tpT τ1 tp
          refine ⟨⟨by omega, fun _ => ⟨g3, by omega, by omega⟩⟩, fun τ2 q => ?_⟩
          have t := q.2 z20
          rw [z16, Int.toNat_natCast, g1, g2] at t
          refine fin _ _ ⟨fun b hb => (t.1.1 b hb).trans (zb b hb), fun j hj => (t.1.2 j (by omega)).trans (z j (by omega) (by omega))⟩ (fun _ => ⟨rfl, t.cur, ?_, ?_⟩) (fun h => absurd ff h)
          · rw [t.1.2 12 (by omega), t1, w_up_j (by decide)]; exact e12
          · rw [t.1.2 13 (by omega), t1, w_up_at]; exact e13
        have s35 : ∀ s0 : Int, s0 = (if x2 < 7 ∧ σ 122 12 < v then v else σ 122 12) → LModel_readFresh_35 xs (d + 2) Q x1 x2 v s0 σ := fun s0 e => by
          refine bModel_readFresh_35 (fun τ1 t1 => ?_)
          have z : ∀ j, j ≠ 12 → τ1 122 j = σ 122 j := fun j h => by rw [t1, w_up_j h]
          have zb : ∀ b, b ≠ 122 → τ1 b = σ b := fun b hb => by rw [t1, w_up_ne hb]
          have e12 : τ1 122 12 = s0 := by rw [t1, w_up_at]
          have z13 := z 13 (by decide)
          exact ⟨fun c => absurd ((z 20 (by decide)).trans h0) c, fun _ => ⟨fun c => s51 τ1 _ zb z (e12.trans e) (by rw [z13, if_neg (by omega)]), fun c => ⟨fun c2 => s51 τ1 _ zb z (e12.trans e) (by rw [z13, if_neg (by omega)]), fun c2 => s51 τ1 _ zb z (e12.trans e) (by rw [if_pos (by omega)])⟩⟩⟩
        exact bModel_readFresh_20 ⟨fun c => absurd h0 c, fun _ => ⟨fun c => s35 _ (by rw [if_neg (by omega)]), fun c => ⟨fun c2 => s35 _ (by rw [if_neg (by omega)]), fun c2 => s35 _ (by rw [if_pos (by omega)])⟩⟩⟩
    · obtain ⟨e1, e2, e3, e4, e5⟩ := (q2.2 h0).2 ok
      have ff : fr_f T L x1 x2 p = nt_0 T L 0 x2 p := by unfold fr_f; rw [if_neg (fun q => ok (n1.mpr q))]
      have hb := nt_0_le (T := T) (L := L) (p := p) (lo := 0) (hi := x2)
      have hnz : ¬ τ2 122 20 = 0 := by rw [e2, n2 ok]; exact fun q => ok (n1.mpr q)
      exact ⟨fun _ => stay _ τ2 (by rw [e2, n2 ok]; exact hb.1) hnz (fin _ _ e4.g (fun h => absurd (n1.mpr (ff.symm.trans h)) ok) (fun _ => ⟨by rw [e2, n2 ok, ff], by rw [e3]; exact hcur.1⟩)), fun c => absurd c hnz⟩
  · obtain ⟨e1, e2⟩ := q2.1 h0
    rw [e2]
    exact ⟨fun c => stay _ σ h20 c (hQ _ _ ⟨mo_g.rfl', fun _ => ⟨rfl, rfl⟩, fun h => absurd h h0⟩), fun c => absurd c h0⟩
theorem nf_nn {T : Nat → Int} {L : Nat} {D : w_M} {k b : Nat} : ∀ j, 0 ≤ (nf T L D k b j).1 := by
  intro j
  induction j with
  | zero => exact Int.le_refl _
  | succ j ih =>
    simp only [nf]
    split
    · exact nt_f_le.1
    · exact ih
/-- the reader has come to the j-th number of a line, or has failed before -/
noncomputable def rs (T : Nat → Int) (L : Nat) (D : w_M) (k b j : Nat) (σ : w_M) : Prop := (mT σ = T ∧ mL σ = L ∧ m_rk σ) ∧ ((nf T L D k b j).1 = 0 → pp T L b j ≤ L ∧ m_cur T L (pp T L b j) σ) ∧ (¬ (nf T L D k b j).1 = 0 → σ 122 20 = (nf T L D k b j).1 ∧ σ 122 21 = (((nf T L D k b j).2 : Nat) : Int))
theorem m_cur.f {T : Nat → Int} {L p : Nat} {σ : w_M} (h : m_cur T L p σ) : (σ 122 20 = 0 ∨ σ 122 20 = 1) ∧ (σ 122 20 = 0 ↔ ¬ tk_k T L p = 4) := by
  by_cases k4 : tk_k T L p = 4
  · have := (h.2.2.1 k4).1
    exact ⟨Or.inr this, fun q => by omega, fun q => absurd k4 q⟩
  · have := (h.2.2.2.1 k4).1
    exact ⟨Or.inl this, fun _ => k4, fun _ => this⟩
theorem rs.pre {T : Nat → Int} {L : Nat} {D : w_M} {k b j : Nat} {σ : w_M} (h : rs T L D k b j σ) : nr_ok σ := by
  obtain ⟨⟨rfl, rfl, hk⟩, h1, h2⟩ := h
  by_cases e : (nf (mT σ) (mL σ) D k b j).1 = 0
  · obtain ⟨a1, a2⟩ := h1 e
    exact ⟨by have := a2.f.1; omega, fun _ => ⟨_, ⟨rfl, rfl, hk⟩, a1, a2⟩⟩
  · have a := (h2 e).1
    exact ⟨by rw [a]; exact nf_nn _, fun h => absurd (a.symm.trans h) e⟩
theorem rs.fr {T : Nat → Int} {L : Nat} {D : w_M} {k b j : Nat} {σ σ' : w_M} (h : rs T L D k b j σ) (e7 : σ' 127 = σ 127) (e : ∀ j, 15 ≤ j → j < 22 → σ' 122 j = σ 122 j) : rs T L D k b j σ' := by
  obtain ⟨⟨g1, g2, g3⟩, h1, h2⟩ := h
  have tp : mo_tp σ σ' := ⟨e7, e 15 (by decide) (by decide)⟩
  refine ⟨⟨tp.T.trans g1, tp.L.trans g2, tp.ok g3⟩, fun h => ⟨(h1 h).1, m_cur_fr (h1 h).2 (fun j a b => e j (by omega) b)⟩, fun h => ?_⟩
  rw [e 20 (by decide) (by decide), e 21 (by decide) (by decide)]
  exact h2 h
theorem rs.num {T : Nat → Int} {L : Nat} {D : w_M} {k b j : Nat} {σ σ' : w_M} {x lo hi : Int} (h : rs T L D k b j σ) (h3 : k ≠ 3) (h4 : k ≠ 4) (elo : lo = ln_lo k j) (ehi : hi = ln_hi k j) (q : q_Model_readNumber lo hi σ x σ') : rs T L D k b (j + 1) σ' ∧ mo_fr σ σ' ∧ ((nf T L D k b (j + 1)).1 = 0 → x = tk_v T L (pp T L b j)) := by
  obtain ⟨⟨rfl, rfl, hk⟩, h1, h2⟩ := h
  obtain ⟨F, q1, q2⟩ := q
  have tl : mT σ' = mT σ ∧ mL σ' = mL σ ∧ m_rk σ' := ⟨F.tp.T, F.tp.L, F.tp.ok hk⟩
  by_cases e : (nf (mT σ) (mL σ) D k b j).1 = 0
  · have en : nf (mT σ) (mL σ) D k b (j + 1) = (nt_f (mT σ) (mL σ) D k j (pp (mT σ) (mL σ) b j), tk_f (mT σ) (mL σ) (pp (mT σ) (mL σ) b j)) := by simp only [nf]; rw [if_pos e]
    obtain ⟨hp, hc⟩ := h1 e
    have et : nt_f (mT σ) (mL σ) D k j (pp (mT σ) (mL σ) b j) = nt_0 (mT σ) (mL σ) lo hi (pp (mT σ) (mL σ) b j) := by
      unfold nt_f nt_0
      rw [if_neg (show ¬ ((k = 3 ∧ _) ∨ (k = 4 ∧ _)) from fun z => z.elim (fun z => h3 z.1) (fun z => h4 z.1)), elo, ehi]
    by_cases k4 : tk_k (mT σ) (mL σ) (pp (mT σ) (mL σ) b j) = 4
    · obtain ⟨c1, c2⟩ := hc.2.2.1 k4
      obtain ⟨e1, e2⟩ := q1 (by rw [c1]; decide)
      have ef : nt_f (mT σ) (mL σ) D k j (pp (mT σ) (mL σ) b j) = 1 := by unfold nt_f; rw [if_pos k4]
      rw [e2]
      refine ⟨⟨⟨rfl, rfl, hk⟩, fun h => ?_, fun _ => ?_⟩, mo_fr.rfl', fun h => ?_⟩
      · rw [en] at h
        exact absurd (ef.symm.trans h) (by decide)
      · rw [en]
        exact ⟨c1.trans ef.symm, c2⟩
      · rw [en] at h
        exact absurd (ef.symm.trans h) (by decide)
    · have h0 := (hc.2.2.2.1 k4).1
      have r := q2 h0 _ ⟨⟨rfl, rfl, hk⟩, hp, hc⟩
      rw [← et] at r
      refine ⟨⟨tl, fun h => ?_, fun h => ?_⟩, F, fun h => ?_⟩
      · rw [en] at h
        have k2 := (nt_f_0 h).1
        exact ⟨(tk_b_le (tk_k0 (by omega))).2, (r.1 h).2⟩
      · rw [en] at h ⊢
        exact (r.2 h).2
      · rw [en] at h
        exact (r.1 h).1
  · have hnz : ¬ σ 122 20 = 0 := by rw [(h2 e).1]; exact e
    obtain ⟨e1, e2⟩ := q1 hnz
    have en : nf (mT σ) (mL σ) D k b (j + 1) = nf (mT σ) (mL σ) D k b j := nf_stay e 1
    rw [e2]
    refine ⟨⟨⟨rfl, rfl, hk⟩, fun h => ?_, fun _ => ?_⟩, mo_fr.rfl', fun h => ?_⟩
    · rw [en] at h; exact absurd h e
    · rw [en]; exact h2 e
    · rw [en] at h; exact absurd h e
theorem rs.fresh {T : Nat → Int} {L : Nat} {D : w_M} {k b : Nat} {σ σ' : w_M} {x m hi : Int} (h : rs T L D k b 0 σ) (hk : (k = 3 ∧ m = D 0 2 ∧ hi = 11) ∨ (k = 4 ∧ m = D 0 6 ∧ hi = 6)) (q : q_Model_readFresh m hi σ x σ') : rs T L D k b 1 σ' ∧ ((nf T L D k b 1).1 = 0 → x = w_or m (w_shl 1 (tk_v T L b)) ∧ σ' 122 12 = (if hi < 7 ∧ σ 122 12 < tk_v T L b then tk_v T L b else σ 122 12) ∧ σ' 122 13 = (if 7 ≤ hi ∧ σ 122 13 < tk_v T L b then tk_v T L b else σ 122 13)) := by
  obtain ⟨⟨rfl, rfl, hkk⟩, h1, h2⟩ := h
  obtain ⟨F, q1, q2⟩ := q
  have tl : mT σ' = mT σ ∧ mL σ' = mL σ ∧ m_rk σ' := ⟨F.tp.T, F.tp.L, F.tp.ok hkk⟩
  have en : nf (mT σ) (mL σ) D k b 1 = (nt_f (mT σ) (mL σ) D k 0 b, tk_f (mT σ) (mL σ) b) := rfl
  obtain ⟨hp, hc⟩ := h1 rfl
  have hp' : b ≤ mL σ := hp
  have hc' : m_cur (mT σ) (mL σ) b σ := hc
  have et : nt_f (mT σ) (mL σ) D k 0 b = fr_f (mT σ) (mL σ) m hi b := by
    unfold nt_f fr_f nt_0
    rcases hk with ⟨rfl, rfl, rfl⟩ | ⟨rfl, rfl, rfl⟩
    · have e1 : ln_lo 3 0 = 0 := by decide
      have e2 : ln_hi 3 0 = 11 := by decide
      rw [e1, e2]
      by_cases a : tk_k (mT σ) (mL σ) b = 4
      · simp [a]
      · by_cases a2 : tk_k (mT σ) (mL σ) b = 2
        · by_cases a3 : tk_v (mT σ) (mL σ) b < 0 ∨ 11 < tk_v (mT σ) (mL σ) b
          · simp [a2, a3]
          · by_cases a4 : w_and (w_shr (D 0 2) (tk_v (mT σ) (mL σ) b)) 1 = 0
            · simp [a2, a3, a4]
            · simp [a2, a3, a4]
        · simp [a, a2]
    · have e1 : ln_lo 4 0 = 0 := by decide
      have e2 : ln_hi 4 0 = 6 := by decide
      rw [e1, e2]
      by_cases a : tk_k (mT σ) (mL σ) b = 4
      · simp [a]
      · by_cases a2 : tk_k (mT σ) (mL σ) b = 2
        · by_cases a3 : tk_v (mT σ) (mL σ) b < 0 ∨ 6 < tk_v (mT σ) (mL σ) b
          · simp [a2, a3]
          · by_cases a4 : w_and (w_shr (D 0 6) (tk_v (mT σ) (mL σ) b)) 1 = 0
            · simp [a2, a3, a4]
            · simp [a2, a3, a4]
        · simp [a, a2]
  by_cases k4 : tk_k (mT σ) (mL σ) b = 4
  · obtain ⟨c1, c2⟩ := hc'.2.2.1 k4
    obtain ⟨e1, e2⟩ := q1 (by rw [c1]; decide)
    have ef : nt_f (mT σ) (mL σ) D k 0 b = 1 := by unfold nt_f; rw [if_pos k4]
    refine ⟨⟨tl, fun h => ?_, fun _ => ?_⟩, fun h => ?_⟩
    · rw [en] at h
      exact absurd (ef.symm.trans h) (by decide)
    · rw [en]
      exact ⟨(e1.trans c1).trans ef.symm, e2.trans c2⟩
    · rw [en] at h
      exact absurd (ef.symm.trans h) (by decide)
  · have h0 := (hc'.2.2.2.1 k4).1
    have r := q2 h0 _ ⟨⟨rfl, rfl, hkk⟩, hp', hc'⟩
    rw [← et] at r
    refine ⟨⟨tl, fun h => ?_, fun h => ?_⟩, fun h => ?_⟩
    · rw [en] at h
      have k2 := (nt_f_0 h).1
      exact ⟨(tk_b_le (T := mT σ) (L := mL σ) (p := b) (tk_k0 (by omega))).2, (r.1 h).2.1⟩
    · rw [en] at h ⊢
      exact r.2 h
    · rw [en] at h
      have := r.1 h
      exact ⟨this.1, this.2.2.1, this.2.2.2⟩
