/-! The reference and the whole text -/
noncomputable def q_Model_firstDraft (σ σ' : w_M) : Prop := mo_h σ σ' ∧ (∀ j, 14 ≤ j → σ' 122 j = σ 122 j) ∧ (∀ x, x < 82 → σ' 126 x = if x = 47 then -4 else 0) ∧ σ' 122 7 = 8 ∧ σ' 122 8 = 0 ∧ σ' 122 9 = 0 ∧ σ' 122 10 = 0 ∧ σ' 122 11 = 0 ∧ σ' 122 12 = -4 ∧ σ' 122 13 = -4
theorem fModel_firstDraft_0 : w_fe am_c154 0 1 (.bipush 0) := ⟨rfl, rfl⟩
theorem fModel_firstDraft_1 : w_fe am_c154 1 2 (.istore 1) := ⟨rfl, rfl⟩
theorem fModel_firstDraft_2 : w_fe am_c154 2 3 (.iload 1) := ⟨rfl, rfl⟩
theorem fModel_firstDraft_3 : w_fe am_c154 3 4 (.bipush 82) := ⟨rfl, rfl⟩
theorem fModel_firstDraft_4 : w_ic am_c154 4 5 .ge 12 := ⟨rfl, rfl⟩
theorem fModel_firstDraft_5 : w_fe am_c154 5 6 (.aload 0) := ⟨rfl, rfl⟩
theorem fModel_firstDraft_6 : w_fe am_c154 6 7 (.getfield 906) := ⟨rfl, rfl⟩
theorem fModel_firstDraft_7 : w_fe am_c154 7 8 (.iload 1) := ⟨rfl, rfl⟩
theorem fModel_firstDraft_8 : w_fe am_c154 8 9 (.bipush 0) := ⟨rfl, rfl⟩
theorem fModel_firstDraft_9 : w_fe am_c154 9 10 (.iastore) := ⟨rfl, rfl⟩
theorem fModel_firstDraft_10 : w_fe am_c154 10 11 (.iinc 1 1) := ⟨rfl, rfl⟩
theorem fModel_firstDraft_11 : w_gt am_c154 11 2 := rfl
theorem fModel_firstDraft_12 : w_fe am_c154 12 13 (.aload 0) := ⟨rfl, rfl⟩
theorem fModel_firstDraft_13 : w_fe am_c154 13 14 (.getfield 906) := ⟨rfl, rfl⟩
theorem fModel_firstDraft_14 : w_fe am_c154 14 15 (.bipush 47) := ⟨rfl, rfl⟩
theorem fModel_firstDraft_15 : w_fe am_c154 15 16 (.bipush (-4)) := ⟨rfl, rfl⟩
theorem fModel_firstDraft_16 : w_fe am_c154 16 17 (.iastore) := ⟨rfl, rfl⟩
theorem fModel_firstDraft_17 : w_fe am_c154 17 18 (.aload 0) := ⟨rfl, rfl⟩
theorem fModel_firstDraft_18 : w_fe am_c154 18 19 (.bipush 8) := ⟨rfl, rfl⟩
theorem fModel_firstDraft_19 : w_fe am_c154 19 20 (.putfield 907) := ⟨rfl, rfl⟩
theorem fModel_firstDraft_20 : w_fe am_c154 20 21 (.aload 0) := ⟨rfl, rfl⟩
theorem fModel_firstDraft_21 : w_fe am_c154 21 22 (.bipush 0) := ⟨rfl, rfl⟩
theorem fModel_firstDraft_22 : w_fe am_c154 22 23 (.putfield 908) := ⟨rfl, rfl⟩
theorem fModel_firstDraft_23 : w_fe am_c154 23 24 (.aload 0) := ⟨rfl, rfl⟩
theorem fModel_firstDraft_24 : w_fe am_c154 24 25 (.bipush 0) := ⟨rfl, rfl⟩
theorem fModel_firstDraft_25 : w_fe am_c154 25 26 (.putfield 909) := ⟨rfl, rfl⟩
theorem fModel_firstDraft_26 : w_fe am_c154 26 27 (.aload 0) := ⟨rfl, rfl⟩
theorem fModel_firstDraft_27 : w_fe am_c154 27 28 (.bipush 0) := ⟨rfl, rfl⟩
theorem fModel_firstDraft_28 : w_fe am_c154 28 29 (.putfield 910) := ⟨rfl, rfl⟩
theorem fModel_firstDraft_29 : w_fe am_c154 29 30 (.aload 0) := ⟨rfl, rfl⟩
theorem fModel_firstDraft_30 : w_fe am_c154 30 31 (.bipush 0) := ⟨rfl, rfl⟩
theorem fModel_firstDraft_31 : w_fe am_c154 31 32 (.putfield 911) := ⟨rfl, rfl⟩
theorem fModel_firstDraft_32 : w_fe am_c154 32 33 (.aload 0) := ⟨rfl, rfl⟩
theorem fModel_firstDraft_33 : w_fe am_c154 33 34 (.bipush (-4)) := ⟨rfl, rfl⟩
theorem fModel_firstDraft_34 : w_fe am_c154 34 35 (.putfield 912) := ⟨rfl, rfl⟩
theorem fModel_firstDraft_35 : w_fe am_c154 35 36 (.aload 0) := ⟨rfl, rfl⟩
theorem fModel_firstDraft_36 : w_fe am_c154 36 37 (.bipush (-4)) := ⟨rfl, rfl⟩
theorem fModel_firstDraft_37 : w_fe am_c154 37 38 (.putfield 913) := ⟨rfl, rfl⟩
theorem fModel_firstDraft_38 : w_fe am_c154 38 39 (.return_) := ⟨rfl, rfl⟩
noncomputable def LModel_firstDraft_2 (xs : List Int) (d : Nat) (Q : Option w_V → w_M → Prop) (v1 : Int) (σ : w_M) : Prop := w_Ex (xs, d) 0 am_c154 Q 2 [some (.inr (.inr (9, 122))), some (.inl v1)] [] σ
set_option maxRecDepth 20000 in
theorem bModel_firstDraft_0 {xs : List Int} {d : Nat} {Q : Option w_V → w_M → Prop}  {σ : w_M}
    (h : LModel_firstDraft_2 xs d Q 0 σ) : w_Call (xs, d) 154 [.inr (.inr (9, 122))] σ Q :=
  (w_mk (mid := 154) (by decide) rfl rfl rfl rfl rfl (Nat.le_of_ble_eq_true rfl) ⟨rfl, Or.inl (by decide)⟩ (wi_bipush fModel_firstDraft_0 (wi_istore1 fModel_firstDraft_1 trivial h)))
set_option maxRecDepth 20000 in
theorem bModel_firstDraft_2 {xs : List Int} {d : Nat} {Q : Option w_V → w_M → Prop} {v1 : Int} {σ : w_M}
    (h : (82 ≤ v1 → ∀ (τ1 : w_M), τ1 = w_up σ 126 47 (-4) → ∀ (τ2 : w_M), τ2 = w_up τ1 122 7 8 → ∀ (τ3 : w_M), τ3 = w_up τ2 122 8 0 → ∀ (τ4 : w_M), τ4 = w_up τ3 122 9 0 → ∀ (τ5 : w_M), τ5 = w_up τ4 122 10 0 → ∀ (τ6 : w_M), τ6 = w_up τ5 122 11 0 → ∀ (τ7 : w_M), τ7 = w_up τ6 122 12 (-4) → ∀ (τ8 : w_M), τ8 = w_up τ7 122 13 (-4) → Q none τ8) ∧ (v1 < 82 → (0 ≤ v1 ∧ (∀ (τ9 : w_M), τ9 = w_up σ 126 v1.toNat 0 → (w_in (v1 + 1) ∧ LModel_firstDraft_2 xs d Q (v1 + 1) τ9))))) : LModel_firstDraft_2 xs d Q v1 σ :=
  (wi_iload1 fModel_firstDraft_2 (wi_bipush fModel_firstDraft_3 (wi_ic_ge fModel_firstDraft_4 (fun c10 => (wi_aload0 fModel_firstDraft_12 (wi_getf906 fModel_firstDraft_13 (wi_bipush fModel_firstDraft_14 (wi_bipush fModel_firstDraft_15 (wi_iast1082 fModel_firstDraft_16 (by decide) (by decide) (wi_aload0 fModel_firstDraft_17 (wi_bipush fModel_firstDraft_18 (wi_putf907 fModel_firstDraft_19 (wi_aload0 fModel_firstDraft_20 (wi_bipush fModel_firstDraft_21 (wi_putf908 fModel_firstDraft_22 (wi_aload0 fModel_firstDraft_23 (wi_bipush fModel_firstDraft_24 (wi_putf909 fModel_firstDraft_25 (wi_aload0 fModel_firstDraft_26 (wi_bipush fModel_firstDraft_27 (wi_putf910 fModel_firstDraft_28 (by decide) (wi_aload0 fModel_firstDraft_29 (wi_bipush fModel_firstDraft_30 (wi_putf911 fModel_firstDraft_31 (wi_aload0 fModel_firstDraft_32 (wi_bipush fModel_firstDraft_33 (wi_putf912 fModel_firstDraft_34 (wi_aload0 fModel_firstDraft_35 (wi_bipush fModel_firstDraft_36 (wi_putf913 fModel_firstDraft_37 (wi_ret0 fModel_firstDraft_38 (((((((((h.1 c10) _ rfl) _ rfl) _ rfl) _ rfl) _ rfl) _ rfl) _ rfl) _ rfl))))))))))))))))))))))))))))) (fun c10 => (wi_aload0 fModel_firstDraft_5 (wi_getf906 fModel_firstDraft_6 (wi_iload1 fModel_firstDraft_7 (wi_bipush fModel_firstDraft_8 (wi_iast1082 fModel_firstDraft_9 (h.2 c10).1 c10 (wi_iinc1 fModel_firstDraft_10 trivial ((h.2 c10).2 _ rfl).1 (wi_goto fModel_firstDraft_11 ((h.2 c10).2 _ rfl).2)))))))))))
theorem k_Model_firstDraft {xs : List Int} {d : Nat} {Q : Option w_V → w_M → Prop}  {σ : w_M} (hQ : ∀ σ' : w_M, q_Model_firstDraft σ σ' → Q none σ') : w_Call (xs, d) 154 [.inr (.inr (9, 122))] σ Q := by
  refine bModel_firstDraft_0 ?_
  refine (w_loop (n := 82) (P := fun k => ∀ τ : w_M, (∀ b, b ≠ 126 → τ b = σ b) → (∀ x, x < k → τ 126 x = 0) → LModel_firstDraft_2 xs d Q (k : Int) τ) ?_ ?_) σ (fun _ _ => rfl) (fun x hx => by omega)
  · intro τ hb hx
    refine bModel_firstDraft_2 ⟨fun _ τ1 t1 τ2 t2 τ3 t3 τ4 t4 τ5 t5 τ6 t6 τ7 t7 τ8 t8 => hQ _ ?_, fun h => by omega⟩
    have e : τ8 = w_up (w_up (w_up (w_up (w_up (w_up (w_up (w_up τ 126 47 (-4)) 122 7 8) 122 8 0) 122 9 0) 122 10 0) 122 11 0) 122 12 (-4)) 122 13 (-4) := by rw [t8, t7, t6, t5, t4, t3, t2, t1]
    have H : mo_h σ τ := ⟨fun b _ h => hb b h, fun j _ => by rw [hb 122 (by decide)]⟩
    rw [e]
    refine ⟨(((((((H.up6).up2 (by decide) (by decide)).up2 (by decide) (by decide)).up2 (by decide) (by decide)).up2 (by decide) (by decide)).up2 (by decide) (by decide)).up2 (by decide) (by decide)).up2 (by decide) (by decide), fun j hj => ?_, fun x hx2 => ?_, ?_, ?_, ?_, ?_, ?_, ?_, ?_⟩
    · rw [w_up_j (by omega), w_up_j (by omega), w_up_j (by omega), w_up_j (by omega), w_up_j (by omega), w_up_j (by omega), w_up_j (by omega), w_up_ne (by decide), hb 122 (by decide)]
    · rw [w_up_ne (by decide), w_up_ne (by decide), w_up_ne (by decide), w_up_ne (by decide), w_up_ne (by decide), w_up_ne (by decide), w_up_ne (by decide), w_up_v, hx x hx2]
    · rw [w_up_j (by decide), w_up_j (by decide), w_up_j (by decide), w_up_j (by decide), w_up_j (by decide), w_up_j (by decide), w_up_at]
    · rw [w_up_j (by decide), w_up_j (by decide), w_up_j (by decide), w_up_j (by decide), w_up_j (by decide), w_up_at]
    · rw [w_up_j (by decide), w_up_j (by decide), w_up_j (by decide), w_up_j (by decide), w_up_at]
    · rw [w_up_j (by decide), w_up_j (by decide), w_up_j (by decide), w_up_at]
    · rw [w_up_j (by decide), w_up_j (by decide), w_up_at]
    · rw [w_up_j (by decide), w_up_at]
    · rw [w_up_at]
  · intro k hk ih τ hb hx
    refine bModel_firstDraft_2 ⟨fun h => by omega, fun _ => ⟨by omega, fun τ9 t9 => ⟨⟨by omega, by omega⟩, ?_⟩⟩⟩
    rw [Int.toNat_natCast] at t9
    rw [← w_cs1]
    refine ih τ9 (fun b h => by rw [t9, w_up_ne h]; exact hb b h) (fun x h => ?_)
    rw [t9, w_up_v]
    by_cases e : x = k
    · rw [if_pos e]
    · rw [if_neg e]; exact hx x (by omega)
noncomputable def p_Model_keepDraft (_ : w_M) : Prop := True
noncomputable def q_Model_keepDraft (σ σ' : w_M) : Prop := (∀ b, b ≠ 122 → b ≠ 123 → b ≠ 125 → σ' b = σ b) ∧ (∀ x, x < 82 → σ' 123 x = if 14 ≤ x ∧ x < 21 then w_and (w_shr (σ 122 11) ((x - 14 : Nat) : Int)) 1 else σ 126 x) ∧ (σ' 122 3 = σ 122 7 ∧ σ' 122 4 = σ 122 8 ∧ σ' 122 5 = σ 122 9) ∧ (∀ j, j ≠ 3 → j ≠ 4 → j ≠ 5 → σ' 122 j = σ 122 j) ∧ σ' 125 0 = 0 ∧ σ' 125 1 = 0
theorem fModel_keepDraft_0 : w_fe am_c155 0 1 (.bipush 0) := ⟨rfl, rfl⟩
theorem fModel_keepDraft_1 : w_fe am_c155 1 2 (.istore 1) := ⟨rfl, rfl⟩
theorem fModel_keepDraft_2 : w_fe am_c155 2 3 (.iload 1) := ⟨rfl, rfl⟩
theorem fModel_keepDraft_3 : w_fe am_c155 3 4 (.bipush 82) := ⟨rfl, rfl⟩
theorem fModel_keepDraft_4 : w_ic am_c155 4 5 .ge 15 := ⟨rfl, rfl⟩
theorem fModel_keepDraft_5 : w_fe am_c155 5 6 (.aload 0) := ⟨rfl, rfl⟩
theorem fModel_keepDraft_6 : w_fe am_c155 6 7 (.getfield 900) := ⟨rfl, rfl⟩
theorem fModel_keepDraft_7 : w_fe am_c155 7 8 (.iload 1) := ⟨rfl, rfl⟩
theorem fModel_keepDraft_8 : w_fe am_c155 8 9 (.aload 0) := ⟨rfl, rfl⟩
theorem fModel_keepDraft_9 : w_fe am_c155 9 10 (.getfield 906) := ⟨rfl, rfl⟩
theorem fModel_keepDraft_10 : w_fe am_c155 10 11 (.iload 1) := ⟨rfl, rfl⟩
theorem fModel_keepDraft_11 : w_fe am_c155 11 12 (.iaload) := ⟨rfl, rfl⟩
theorem fModel_keepDraft_12 : w_fe am_c155 12 13 (.iastore) := ⟨rfl, rfl⟩
theorem fModel_keepDraft_13 : w_fe am_c155 13 14 (.iinc 1 1) := ⟨rfl, rfl⟩
theorem fModel_keepDraft_14 : w_gt am_c155 14 2 := rfl
theorem fModel_keepDraft_15 : w_fe am_c155 15 16 (.bipush 0) := ⟨rfl, rfl⟩
theorem fModel_keepDraft_16 : w_fe am_c155 16 17 (.istore 1) := ⟨rfl, rfl⟩
theorem fModel_keepDraft_17 : w_fe am_c155 17 18 (.iload 1) := ⟨rfl, rfl⟩
theorem fModel_keepDraft_18 : w_fe am_c155 18 19 (.bipush 7) := ⟨rfl, rfl⟩
theorem fModel_keepDraft_19 : w_ic am_c155 19 20 .ge 34 := ⟨rfl, rfl⟩
theorem fModel_keepDraft_20 : w_fe am_c155 20 21 (.aload 0) := ⟨rfl, rfl⟩
theorem fModel_keepDraft_21 : w_fe am_c155 21 22 (.getfield 900) := ⟨rfl, rfl⟩
theorem fModel_keepDraft_22 : w_fe am_c155 22 23 (.bipush 14) := ⟨rfl, rfl⟩
theorem fModel_keepDraft_23 : w_fe am_c155 23 24 (.iload 1) := ⟨rfl, rfl⟩
theorem fModel_keepDraft_24 : w_fe am_c155 24 25 (.iadd) := ⟨rfl, rfl⟩
theorem fModel_keepDraft_25 : w_fe am_c155 25 26 (.aload 0) := ⟨rfl, rfl⟩
theorem fModel_keepDraft_26 : w_fe am_c155 26 27 (.getfield 911) := ⟨rfl, rfl⟩
theorem fModel_keepDraft_27 : w_fe am_c155 27 28 (.iload 1) := ⟨rfl, rfl⟩
theorem fModel_keepDraft_28 : w_fe am_c155 28 29 (.ishr) := ⟨rfl, rfl⟩
theorem fModel_keepDraft_29 : w_fe am_c155 29 30 (.bipush 1) := ⟨rfl, rfl⟩
theorem fModel_keepDraft_30 : w_fe am_c155 30 31 (.iand) := ⟨rfl, rfl⟩
theorem fModel_keepDraft_31 : w_fe am_c155 31 32 (.iastore) := ⟨rfl, rfl⟩
theorem fModel_keepDraft_32 : w_fe am_c155 32 33 (.iinc 1 1) := ⟨rfl, rfl⟩
theorem fModel_keepDraft_33 : w_gt am_c155 33 17 := rfl
theorem fModel_keepDraft_34 : w_fe am_c155 34 35 (.aload 0) := ⟨rfl, rfl⟩
theorem fModel_keepDraft_35 : w_fe am_c155 35 36 (.aload 0) := ⟨rfl, rfl⟩
theorem fModel_keepDraft_36 : w_fe am_c155 36 37 (.getfield 907) := ⟨rfl, rfl⟩
theorem fModel_keepDraft_37 : w_fe am_c155 37 38 (.putfield 903) := ⟨rfl, rfl⟩
theorem fModel_keepDraft_38 : w_fe am_c155 38 39 (.aload 0) := ⟨rfl, rfl⟩
theorem fModel_keepDraft_39 : w_fe am_c155 39 40 (.aload 0) := ⟨rfl, rfl⟩
theorem fModel_keepDraft_40 : w_fe am_c155 40 41 (.getfield 908) := ⟨rfl, rfl⟩
theorem fModel_keepDraft_41 : w_fe am_c155 41 42 (.putfield 904) := ⟨rfl, rfl⟩
theorem fModel_keepDraft_42 : w_fe am_c155 42 43 (.aload 0) := ⟨rfl, rfl⟩
theorem fModel_keepDraft_43 : w_fe am_c155 43 44 (.aload 0) := ⟨rfl, rfl⟩
theorem fModel_keepDraft_44 : w_fe am_c155 44 45 (.getfield 909) := ⟨rfl, rfl⟩
theorem fModel_keepDraft_45 : w_fe am_c155 45 46 (.putfield 905) := ⟨rfl, rfl⟩
theorem fModel_keepDraft_46 : w_fe am_c155 46 47 (.aload 0) := ⟨rfl, rfl⟩
theorem fModel_keepDraft_47 : w_fe am_c155 47 48 (.getfield 902) := ⟨rfl, rfl⟩
theorem fModel_keepDraft_48 : w_fe am_c155 48 49 (.bipush 0) := ⟨rfl, rfl⟩
theorem fModel_keepDraft_49 : w_fe am_c155 49 50 (.bipush 0) := ⟨rfl, rfl⟩
theorem fModel_keepDraft_50 : w_fe am_c155 50 51 (.bastore) := ⟨rfl, rfl⟩
theorem fModel_keepDraft_51 : w_fe am_c155 51 52 (.aload 0) := ⟨rfl, rfl⟩
theorem fModel_keepDraft_52 : w_fe am_c155 52 53 (.getfield 902) := ⟨rfl, rfl⟩
theorem fModel_keepDraft_53 : w_fe am_c155 53 54 (.bipush 1) := ⟨rfl, rfl⟩
theorem fModel_keepDraft_54 : w_fe am_c155 54 55 (.bipush 0) := ⟨rfl, rfl⟩
theorem fModel_keepDraft_55 : w_fe am_c155 55 56 (.bastore) := ⟨rfl, rfl⟩
theorem fModel_keepDraft_56 : w_fe am_c155 56 57 (.return_) := ⟨rfl, rfl⟩
noncomputable def LModel_keepDraft_2 (xs : List Int) (d : Nat) (Q : Option w_V → w_M → Prop) (v1 : Int) (σ : w_M) : Prop := w_Ex (xs, d) 0 am_c155 Q 2 [some (.inr (.inr (9, 122))), some (.inl v1)] [] σ
noncomputable def LModel_keepDraft_17 (xs : List Int) (d : Nat) (Q : Option w_V → w_M → Prop) (v1 : Int) (σ : w_M) : Prop := w_Ex (xs, d) 0 am_c155 Q 17 [some (.inr (.inr (9, 122))), some (.inl v1)] [] σ
set_option maxRecDepth 20000 in
theorem bModel_keepDraft_0 {xs : List Int} {d : Nat} {Q : Option w_V → w_M → Prop}  {σ : w_M}
    (h : LModel_keepDraft_2 xs d Q 0 σ) : w_Call (xs, d) 155 [.inr (.inr (9, 122))] σ Q :=
  (w_mk (mid := 155) (by decide) rfl rfl rfl rfl rfl (Nat.le_of_ble_eq_true rfl) ⟨rfl, Or.inl (by decide)⟩ (wi_bipush fModel_keepDraft_0 (wi_istore1 fModel_keepDraft_1 trivial h)))
set_option maxRecDepth 20000 in
theorem bModel_keepDraft_2 {xs : List Int} {d : Nat} {Q : Option w_V → w_M → Prop} {v1 : Int} {σ : w_M}
    (h : (82 ≤ v1 → LModel_keepDraft_17 xs d Q 0 σ) ∧ (v1 < 82 → (0 ≤ v1 ∧ v1 < 246 ∧ (∀ (τ1 : w_M), τ1 = w_up σ 123 v1.toNat (σ 126 v1.toNat) → (w_in (v1 + 1) ∧ LModel_keepDraft_2 xs d Q (v1 + 1) τ1))))) : LModel_keepDraft_2 xs d Q v1 σ :=
  (wi_iload1 fModel_keepDraft_2 (wi_bipush fModel_keepDraft_3 (wi_ic_ge fModel_keepDraft_4 (fun c2 => (wi_bipush fModel_keepDraft_15 (wi_istore1 fModel_keepDraft_16 trivial (h.1 c2)))) (fun c2 => (wi_aload0 fModel_keepDraft_5 (wi_getf900 fModel_keepDraft_6 (wi_iload1 fModel_keepDraft_7 (wi_aload0 fModel_keepDraft_8 (wi_getf906 fModel_keepDraft_9 (wi_iload1 fModel_keepDraft_10 (wi_iald1082 fModel_keepDraft_11 (h.2 c2).1 c2 (wi_iast1246 fModel_keepDraft_12 (h.2 c2).1 (h.2 c2).2.1 (wi_iinc1 fModel_keepDraft_13 trivial ((h.2 c2).2.2 _ rfl).1 (wi_goto fModel_keepDraft_14 ((h.2 c2).2.2 _ rfl).2))))))))))))))
set_option maxRecDepth 20000 in
theorem bModel_keepDraft_17 {xs : List Int} {d : Nat} {Q : Option w_V → w_M → Prop} {v1 : Int} {σ : w_M}
    (h : (7 ≤ v1 → ∀ (τ1 : w_M), τ1 = w_up σ 122 3 (σ 122 7) → ∀ (τ2 : w_M), τ2 = w_up τ1 122 4 (τ1 122 8) → ∀ (τ3 : w_M), τ3 = w_up τ2 122 5 (τ2 122 9) → ∀ (τ4 : w_M), τ4 = w_up τ3 125 0 0 → ∀ (τ5 : w_M), τ5 = w_up τ4 125 1 0 → Q none τ5) ∧ (v1 < 7 → (w_in (14 + v1) ∧ 0 ≤ (14 + v1) ∧ (14 + v1) < 246 ∧ (∀ (τ6 : w_M), τ6 = w_up σ 123 (14 + v1).toNat (w_and (w_shr (σ 122 11) v1) 1) → (w_in (v1 + 1) ∧ LModel_keepDraft_17 xs d Q (v1 + 1) τ6))))) : LModel_keepDraft_17 xs d Q v1 σ :=
  (wi_iload1 fModel_keepDraft_17 (wi_bipush fModel_keepDraft_18 (wi_ic_ge fModel_keepDraft_19 (fun c7 => (wi_aload0 fModel_keepDraft_34 (wi_aload0 fModel_keepDraft_35 (wi_getf907 fModel_keepDraft_36 (wi_putf903 fModel_keepDraft_37 (wi_aload0 fModel_keepDraft_38 (wi_aload0 fModel_keepDraft_39 (wi_getf908 fModel_keepDraft_40 (wi_putf904 fModel_keepDraft_41 (wi_aload0 fModel_keepDraft_42 (wi_aload0 fModel_keepDraft_43 (wi_getf909 fModel_keepDraft_44 (wi_putf905 fModel_keepDraft_45 (wi_aload0 fModel_keepDraft_46 (wi_getf902 fModel_keepDraft_47 (wi_bipush fModel_keepDraft_48 (wi_bipush fModel_keepDraft_49 (wi_bast3002 fModel_keepDraft_50 (by decide) (by decide) (by decide) (wi_aload0 fModel_keepDraft_51 (wi_getf902 fModel_keepDraft_52 (wi_bipush fModel_keepDraft_53 (wi_bipush fModel_keepDraft_54 (wi_bast3002 fModel_keepDraft_55 (by decide) (by decide) (by decide) (wi_ret0 fModel_keepDraft_56 ((((((h.1 c7) _ rfl) _ rfl) _ rfl) _ rfl) _ rfl))))))))))))))))))))))))) (fun c7 => (wi_aload0 fModel_keepDraft_20 (wi_getf900 fModel_keepDraft_21 (wi_bipush fModel_keepDraft_22 (wi_iload1 fModel_keepDraft_23 (wi_iadd fModel_keepDraft_24 (h.2 c7).1 (wi_aload0 fModel_keepDraft_25 (wi_getf911 fModel_keepDraft_26 (wi_iload1 fModel_keepDraft_27 (wi_ishr fModel_keepDraft_28 (wi_bipush fModel_keepDraft_29 (wi_iand fModel_keepDraft_30 (wi_iast1246 fModel_keepDraft_31 (h.2 c7).2.1 (h.2 c7).2.2.1 (wi_iinc1 fModel_keepDraft_32 trivial ((h.2 c7).2.2.2 _ rfl).1 (wi_goto fModel_keepDraft_33 ((h.2 c7).2.2.2 _ rfl).2))))))))))))))))))
theorem k_Model_keepDraft {xs : List Int} {d : Nat} {Q : Option w_V → w_M → Prop}  {σ : w_M} (hp : p_Model_keepDraft σ) (hQ : ∀ σ' : w_M, q_Model_keepDraft σ σ' → Q none σ') : w_Call (xs, d) 155 [.inr (.inr (9, 122))] σ Q := by
  refine bModel_keepDraft_0 ?_
  refine (w_loop (n := 82) (P := fun k => ∀ τ : w_M, (∀ b, b ≠ 123 → τ b = σ b) → (∀ x, x < k → τ 123 x = σ 126 x) → LModel_keepDraft_2 xs d Q (k : Int) τ) ?_ ?_) σ (fun _ _ => rfl) (fun x hx => by omega)
  · intro τ hb hx
    refine bModel_keepDraft_2 ⟨fun _ => ?_, fun h => by omega⟩
    refine (w_loop (n := 7) (P := fun k => ∀ τ : w_M, (∀ b, b ≠ 123 → τ b = σ b) → (∀ x, x < 82 → τ 123 x = if 14 ≤ x ∧ x < 14 + k then w_and (w_shr (σ 122 11) ((x - 14 : Nat) : Int)) 1 else σ 126 x) → LModel_keepDraft_17 xs d Q (k : Int) τ) ?_ ?_) τ hb (fun x h => by rw [if_neg (by omega)]; exact hx x h)
    · intro τ hb hx
      refine bModel_keepDraft_17 ⟨fun _ τ1 t1 τ2 t2 τ3 t3 τ4 t4 τ5 t5 => hQ _ ?_, fun h => by omega⟩
      have h2 : τ 122 = σ 122 := hb 122 (by decide)
      have e1 : ∀ j, j ≠ 3 → τ1 122 j = σ 122 j := fun j h => by rw [t1, w_up_j h, h2]
      have e2 : ∀ j, j ≠ 3 → j ≠ 4 → τ2 122 j = σ 122 j := fun j h h' => by rw [t2, w_up_j h']; exact e1 j h
      have e5 : τ5 122 = w_up τ2 122 5 (τ2 122 9) 122 := by rw [t5, w_up_ne (by decide), t4, w_up_ne (by decide), t3]
      refine ⟨fun b h1 h3 h4 => ?_, fun x h => ?_, ⟨?_, ?_, ?_⟩, fun j h3 h4 h5 => ?_, ?_, ?_⟩
      · rw [t5, w_up_ne h4, t4, w_up_ne h4, t3, w_up_ne h1, t2, w_up_ne h1, t1, w_up_ne h1]; exact hb b h3
      · rw [t5, w_up_ne (by decide), t4, w_up_ne (by decide), t3, w_up_ne (by decide), t2, w_up_ne (by decide), t1, w_up_ne (by decide)]; exact hx x h
      · rw [e5, w_up_j (by decide), t2, w_up_j (by decide), t1, w_up_at, h2]
      · rw [e5, w_up_j (by decide), t2, w_up_at]; exact e1 8 (by decide)
      · rw [e5, w_up_at]; exact e2 9 (by decide) (by decide)
      · rw [e5, w_up_j h5]; exact e2 j h3 h4
      · rw [t5, w_up_j (by decide), t4, w_up_at]
      · rw [t5, w_up_at]
    · intro k hk ih τ hb hx
      refine bModel_keepDraft_17 ⟨fun h => by omega, fun _ => ⟨⟨by omega, by omega⟩, by omega, by omega, fun τ6 t6 => ⟨⟨by omega, by omega⟩, ?_⟩⟩⟩
      rw [show (14 + (k : Int)).toNat = 14 + k by omega, hb 122 (by decide)] at t6
      rw [← w_cs1]
      refine ih τ6 (fun b h => by rw [t6, w_up_ne h]; exact hb b h) (fun x h => ?_)
      rw [t6, w_up_v, hx x h]
      by_cases e : x = 14 + k
      · rw [if_pos e, if_pos (by omega), e, show 14 + k - 14 = k by omega]
      · rw [if_neg e]
        by_cases g : 14 ≤ x ∧ x < 14 + k
        · rw [if_pos g, if_pos (by omega)]
        · rw [if_neg g, if_neg (by omega)]
  · intro k hk ih τ hb hx
    refine bModel_keepDraft_2 ⟨fun h => by omega, fun _ => ⟨by omega, by omega, fun τ1 t1 => ⟨⟨by omega, by omega⟩, ?_⟩⟩⟩
    rw [Int.toNat_natCast, hb 126 (by decide)] at t1
    rw [← w_cs1]
    refine ih τ1 (fun b h => by rw [t1, w_up_ne h]; exact hb b h) (fun x h => ?_)
    rw [t1, w_up_v]
    by_cases e : x = k
    · rw [if_pos e, e]
    · rw [if_neg e]; exact hx x (by omega)
/-- what is kept is what was told -/
theorem d_am_A {σ τ : w_M} (hd : dm σ) (q : q_Model_keepDraft σ τ) : w_am τ 123 0 = d_A (d_am σ) := by
  obtain ⟨hW, ⟨⟨c1, c2⟩, ⟨c3, c4⟩, c5, c6, c7⟩, -⟩ := hd
  obtain ⟨-, qx, ⟨q3, q4, q5⟩, -, -, -⟩ := q
  have w4 : 0 ≤ σ 122 8 ∧ σ 122 8 ≤ 7 := hW.2.2.1
  have w5 : 0 ≤ σ 122 9 ∧ σ 122 9 ≤ 4 := hW.2.2.2.1
  have hx : ∀ x, x < 82 → ¬ (14 ≤ x ∧ x < 21) → τ 123 x = σ 126 x := fun x h1 h2 => by rw [qx x h1, if_neg h2]
  have eA4 : (d_am σ 0 4).toNat = (σ 122 8).toNat := rfl
  have eA5 : (d_am σ 0 5).toNat = (σ 122 9).toNat := rfl
  funext d i
  by_cases e0 : d = 0
  · subst e0
    unfold w_am d_A
    rw [if_pos rfl, if_pos rfl, q3, q4, q5, hx (0 + 42) (by decide) (by decide), hx (0 + 41) (by decide) (by decide), hx (0 + 47) (by decide) (by decide)]
    show (if i = 0 then σ 122 7 else if i = 1 then σ 126 42 else if i = 2 then σ 126 41 else if i = 3 then σ 126 47 else if i = 4 then σ 122 8 else if i = 5 then σ 122 9 else 0) = if i = 0 then σ 122 7 else if i = 2 then σ 126 41 else if i = 3 then -4 else if i = 4 then σ 122 8 else if i = 5 then σ 122 9 else 0
    rw [c1, c2]
    by_cases h1 : i = 1
    · simp [h1]
    · simp [h1]
  · unfold w_am
    rw [if_neg e0, Nat.zero_add]
    by_cases e2 : d ≤ 2
    · have el : m_rl τ d = (σ 122 8).toNat := by unfold m_rl; rw [if_neg e0, if_pos e2, q4]
      unfold d_A
      rw [el, if_neg e0, if_pos e2, eA4]
      by_cases hi : i < (σ 122 8).toNat
      · rw [if_pos hi, if_pos hi, d_am_12 (by omega) e2, if_pos hi]
        rcases (show d = 1 ∨ d = 2 by omega) with rfl | rfl
        · exact hx i (by omega) (by omega)
        · exact hx (7 + i) (by omega) (by omega)
      · rw [if_neg hi, if_neg hi]
    · by_cases e7 : d ≤ 7
      · have el : m_rl τ d = (σ 122 9).toNat := by unfold m_rl; rw [if_neg e0, if_neg e2, if_pos e7, q5]
        rw [el]
        by_cases e5 : d = 5
        · subst e5
          show (if i < (σ 122 9).toNat then τ 123 (23 + 5 * i) else 0) = if i < (σ 122 9).toNat then 3 else 0
          by_cases hi : i < (σ 122 9).toNat
          · rw [if_pos hi, if_pos hi, hx _ (by omega) (by omega)]; exact c7 i hi
          · rw [if_neg hi, if_neg hi]
        · by_cases e7' : d = 7
          · subst e7'
            show (if i < (σ 122 9).toNat then τ 123 (25 + 5 * i) else 0) = 0
            by_cases hi : i < (σ 122 9).toNat
            · rw [if_pos hi, hx _ (by omega) (by omega)]; exact c6 i (by omega)
            · rw [if_neg hi]
          · unfold d_A
            rw [if_neg e0, if_neg e2, if_neg e5, if_pos (show d ≤ 6 by omega), eA5, d_am_346 (by omega)]
            by_cases hi : i < (σ 122 9).toNat
            · rw [if_pos hi, if_pos hi, if_pos hi]
              rcases (show d = 3 ∨ d = 4 ∨ d = 6 by omega) with rfl | rfl | rfl
              · exact hx (21 + 5 * i) (by omega) (by omega)
              · exact hx (22 + 5 * i) (by omega) (by omega)
              · exact hx (24 + 5 * i) (by omega) (by omega)
            · rw [if_neg hi, if_neg hi]
      · by_cases e8 : d = 8
        · subst e8
          show (if i < 4 then τ 123 (43 + i) else 0) = 0
          by_cases hi : i < 4
          · rw [if_pos hi, hx _ (by omega) (by omega)]; exact c5 i hi
          · rw [if_neg hi]
        · by_cases e9 : d = 9
          · subst e9
            have el : m_rl τ 9 = (σ 122 8).toNat := by unfold m_rl; rw [if_neg (by decide), if_neg (by decide), if_neg (by decide), if_neg (by decide), if_pos rfl, q4]
            rw [el]
            show (if i < (σ 122 8).toNat then τ 123 (14 + i) else 0) = if i < (σ 122 8).toNat then w_and (w_shr (σ 122 11) (i : Int)) 1 else 0
            by_cases hi : i < (σ 122 8).toNat
            · rw [if_pos hi, if_pos hi, qx _ (by omega), if_pos (by omega), show 14 + i - 14 = i by omega]
            · rw [if_neg hi, if_neg hi]
          · have el : m_rl τ d = 0 := by unfold m_rl; rw [if_neg e0, if_neg e2, if_neg e7, if_neg e8, if_neg e9]
            unfold d_A
            rw [el, if_neg (Nat.not_lt_zero i), if_neg e0, if_neg e2, if_neg (by omega), if_neg (by omega), if_neg e9]
theorem ln_f_nn {T : Nat → Int} {L : Nat} {D : w_M} {k f b : Nat} : 0 ≤ (ln_f T L D k f b).1 := by
  unfold ln_f
  split
  · show 0 ≤ ln_b D k
    unfold ln_b
    repeat' split
    all_goals omega
  · split
    · exact nf_nn _
    · show 0 ≤ ln_s T L (pp T L b (ln_m k))
      unfold ln_s
      repeat' split
      all_goals omega
theorem shr_0 {m s : Nat} (hm : m < 2147483648) (hs : s ≤ 12) : w_shr (m : Int) (s : Int) = 0 ↔ m < 2 ^ s := by
  rw [w_shr_nat hm (by omega)]
  have h2 : 0 < 2 ^ s := Nat.pos_of_ne_zero (by simp)
  constructor
  · intro h
    have h' : m / 2 ^ s = 0 := by omega
    exact (Nat.div_eq_zero_iff_lt h2).mp h'
  · intro h
    rw [Nat.div_eq_of_lt h]
    rfl
theorem bad_m {σ : w_M} (hd : dm σ) : d_bad (d_am σ) ↔ ¬ (σ 122 12 < σ 122 8 ∧ σ 122 13 < σ 122 7) := by
  obtain ⟨hW, -, h1, h2⟩ := hd
  have w0 : 1 ≤ σ 122 7 ∧ σ 122 7 ≤ 12 := hW.1
  have w2 : 0 ≤ d_am σ 0 2 ∧ d_am σ 0 2 ≤ 4095 := hW.2.1
  have w4 : 0 ≤ σ 122 8 ∧ σ 122 8 ≤ 7 := hW.2.2.1
  have w6 : 0 ≤ d_am σ 0 6 ∧ d_am σ 0 6 ≤ 127 := hW.2.2.2.2.1
  obtain ⟨s, hs⟩ : ∃ s : Nat, σ 122 8 = (s : Int) := ⟨(σ 122 8).toNat, by omega⟩
  obtain ⟨h, hh⟩ : ∃ h : Nat, σ 122 7 = (h : Int) := ⟨(σ 122 7).toNat, by omega⟩
  have e4 : d_am σ 0 4 = (s : Int) := hs
  have e0 : d_am σ 0 0 = (h : Int) := hh
  unfold d_bad
  rw [hs, hh, h1 s (by omega), h2 h (by omega), e4, e0]
  obtain ⟨a, ha⟩ := Int.eq_ofNat_of_zero_le w2.1
  obtain ⟨b, hb⟩ := Int.eq_ofNat_of_zero_le w6.1
  rw [ha, hb, shr_0 (by omega) (by omega), shr_0 (by omega) (by omega), Int.toNat_natCast, Int.toNat_natCast]
  constructor
  · intro z q
    exact z ⟨q.1.1, q.2, q.1.2⟩
  · intro z q
    exact z ⟨⟨q.1, q.2.2⟩, q.2.1⟩
