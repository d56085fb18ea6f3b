/-! The JDK's methods; the small ones of the class; a Field's answers -/
theorem w_Qe {Q : Option w_V → w_M → Prop} {x y : Int} {σ : w_M} (h : Q (some (.inl x)) σ) (e : x = y) : Q (some (.inl y)) σ := e ▸ h
theorem w_cs1 (i : Nat) : ((i + 1 : Nat) : Int) = (i : Int) + 1 := by omega
theorem w_and1 (x : Int) : w_and x 1 = 0 ∨ w_and x 1 = 1 := by
  unfold w_and w_b2
  have key : ∀ b : BitVec 32, b &&& 1#32 = 0#32 ∨ b &&& 1#32 = 1#32 := by
    intro b
    have h : (b &&& 1#32).toNat = b.toNat % 2 := by rw [BitVec.toNat_and]; exact Nat.and_one_is_mod _
    rcases Nat.mod_two_eq_zero_or_one b.toNat with h2 | h2
    · exact Or.inl (BitVec.eq_of_toNat_eq (by rw [h, h2]; rfl))
    · exact Or.inr (BitVec.eq_of_toNat_eq (by rw [h, h2]; rfl))
  rcases key (Int32.ofInt x).toBitVec with h | h
  · left
    show (Int32.ofInt x &&& Int32.ofInt 1).toInt = 0
    have : Int32.ofInt x &&& Int32.ofInt 1 = 0 := by
      apply Int32.toBitVec_inj.mp
      rw [Int32.toBitVec_and]
      exact h
    rw [this]
    rfl
  · right
    show (Int32.ofInt x &&& Int32.ofInt 1).toInt = 1
    have : Int32.ofInt x &&& Int32.ofInt 1 = 1 := by
      apply Int32.toBitVec_inj.mp
      rw [Int32.toBitVec_and]
      exact h
    rw [this]
    rfl
theorem w_bi_and1 (x : Int) : w_bi (¬ w_and x 1 = 0) = w_and x 1 := by
  rcases w_and1 x with h | h
  · rw [w_bi_f (by rw [h]; simp), h]
  · rw [w_bi_t (by rw [h]; simp), h]
noncomputable def v_Math_min (x y : Int) : Int := if x ≤ y then x else y
noncomputable def v_Math_max (x y : Int) : Int := if x < y then y else x
noncomputable def v_Math_abs (x : Int) : Int := if 0 ≤ x then x else -x
noncomputable def p_Math_abs (x : Int) : Prop := w_in (-x)
theorem fMath_min_0 : w_fe am_c1 0 1 (.iload 0) := ⟨rfl, rfl⟩
theorem fMath_min_1 : w_fe am_c1 1 2 (.iload 1) := ⟨rfl, rfl⟩
theorem fMath_min_2 : w_ic am_c1 2 3 .gt 5 := ⟨rfl, rfl⟩
theorem fMath_min_3 : w_fe am_c1 3 4 (.iload 0) := ⟨rfl, rfl⟩
theorem fMath_min_4 : w_gt am_c1 4 6 := rfl
theorem fMath_min_5 : w_fe am_c1 5 6 (.iload 1) := ⟨rfl, rfl⟩
theorem fMath_min_6 : w_fe am_c1 6 7 (.ireturn) := ⟨rfl, rfl⟩
set_option maxRecDepth 20000 in
theorem bMath_min_0 {xs : List Int} {d : Nat} {Q : Option w_V → w_M → Prop} {x0 : Int} {x1 : Int} {σ : w_M}
    (h : (x1 < x0 → Q (some (.inl x1)) σ) ∧ (x0 ≤ x1 → Q (some (.inl x0)) σ)) : w_Call (xs, d) 1 [.inl x0, .inl x1] σ Q :=
  (w_mk (mid := 1) (by decide) rfl rfl rfl rfl rfl (Nat.le_of_ble_eq_true rfl) trivial (wi_iload0 fMath_min_0 (wi_iload1 fMath_min_1 (wi_ic_gt fMath_min_2 (fun c1 => (wi_iload1 fMath_min_5 (wi_ret1 fMath_min_6 (h.1 c1)))) (fun c1 => (wi_iload0 fMath_min_3 (wi_goto fMath_min_4 (wi_ret1 fMath_min_6 (h.2 c1)))))))))
theorem fMath_max_0 : w_fe am_c2 0 1 (.iload 0) := ⟨rfl, rfl⟩
theorem fMath_max_1 : w_fe am_c2 1 2 (.iload 1) := ⟨rfl, rfl⟩
theorem fMath_max_2 : w_ic am_c2 2 3 .lt 5 := ⟨rfl, rfl⟩
theorem fMath_max_3 : w_fe am_c2 3 4 (.iload 0) := ⟨rfl, rfl⟩
theorem fMath_max_4 : w_gt am_c2 4 6 := rfl
theorem fMath_max_5 : w_fe am_c2 5 6 (.iload 1) := ⟨rfl, rfl⟩
theorem fMath_max_6 : w_fe am_c2 6 7 (.ireturn) := ⟨rfl, rfl⟩
set_option maxRecDepth 20000 in
theorem bMath_max_0 {xs : List Int} {d : Nat} {Q : Option w_V → w_M → Prop} {x0 : Int} {x1 : Int} {σ : w_M}
    (h : (x0 < x1 → Q (some (.inl x1)) σ) ∧ (x1 ≤ x0 → Q (some (.inl x0)) σ)) : w_Call (xs, d) 2 [.inl x0, .inl x1] σ Q :=
  (w_mk (mid := 2) (by decide) rfl rfl rfl rfl rfl (Nat.le_of_ble_eq_true rfl) trivial (wi_iload0 fMath_max_0 (wi_iload1 fMath_max_1 (wi_ic_lt fMath_max_2 (fun c1 => (wi_iload1 fMath_max_5 (wi_ret1 fMath_max_6 (h.1 c1)))) (fun c1 => (wi_iload0 fMath_max_3 (wi_goto fMath_max_4 (wi_ret1 fMath_max_6 (h.2 c1)))))))))
theorem fMath_abs_0 : w_fe am_c0 0 1 (.iload 0) := ⟨rfl, rfl⟩
theorem fMath_abs_1 : w_if am_c0 1 2 .ge 5 := ⟨rfl, rfl⟩
theorem fMath_abs_2 : w_fe am_c0 2 3 (.iload 0) := ⟨rfl, rfl⟩
theorem fMath_abs_3 : w_fe am_c0 3 4 (.ineg) := ⟨rfl, rfl⟩
theorem fMath_abs_4 : w_gt am_c0 4 6 := rfl
theorem fMath_abs_5 : w_fe am_c0 5 6 (.iload 0) := ⟨rfl, rfl⟩
theorem fMath_abs_6 : w_fe am_c0 6 7 (.ireturn) := ⟨rfl, rfl⟩
set_option maxRecDepth 20000 in
theorem bMath_abs_0 {xs : List Int} {d : Nat} {Q : Option w_V → w_M → Prop} {x0 : Int} {σ : w_M}
    (h : (0 ≤ x0 → Q (some (.inl x0)) σ) ∧ (x0 < 0 → (w_in (-x0) ∧ Q (some (.inl (-x0))) σ))) : w_Call (xs, d) 0 [.inl x0] σ Q :=
  (w_mk (mid := 0) (by decide) rfl rfl rfl rfl rfl (Nat.le_of_ble_eq_true rfl) trivial (wi_iload0 fMath_abs_0 (wi_if_ge fMath_abs_1 (fun c1 => (wi_iload0 fMath_abs_5 (wi_ret1 fMath_abs_6 (h.1 c1)))) (fun c1 => (wi_iload0 fMath_abs_2 (wi_ineg fMath_abs_3 (h.2 c1).1 (wi_goto fMath_abs_4 (wi_ret1 fMath_abs_6 (h.2 c1).2))))))))
theorem k_Math_min {xs : List Int} {d : Nat} {Q : Option w_V → w_M → Prop} {x0 : Int} {x1 : Int} {σ : w_M} (hQ : Q (some (.inl (v_Math_min x0 x1))) σ) : w_Call (xs, d) 1 [.inl x0, .inl x1] σ Q := by
  unfold v_Math_min at hQ
  refine bMath_min_0 ⟨fun h => ?_, fun h => ?_⟩
  · rw [if_neg (by omega)] at hQ; exact hQ
  · rw [if_pos h] at hQ; exact hQ
theorem k_Math_max {xs : List Int} {d : Nat} {Q : Option w_V → w_M → Prop} {x0 : Int} {x1 : Int} {σ : w_M} (hQ : Q (some (.inl (v_Math_max x0 x1))) σ) : w_Call (xs, d) 2 [.inl x0, .inl x1] σ Q := by
  unfold v_Math_max at hQ
  refine bMath_max_0 ⟨fun h => ?_, fun h => ?_⟩
  · rw [if_pos h] at hQ; exact hQ
  · rw [if_neg (by omega)] at hQ; exact hQ
theorem k_Math_abs {xs : List Int} {d : Nat} {Q : Option w_V → w_M → Prop} {x0 : Int} {σ : w_M} (hp : p_Math_abs x0) (hQ : Q (some (.inl (v_Math_abs x0))) σ) : w_Call (xs, d) 0 [.inl x0] σ Q := by
  unfold v_Math_abs at hQ
  refine bMath_abs_0 ⟨fun h => ?_, fun h => ⟨hp, ?_⟩⟩
  · rw [if_pos h] at hQ; exact hQ
  · rw [if_neg (by omega)] at hQ; exact hQ
noncomputable def p_Integer_bitCount (x : Int) : Prop := 0 ≤ x ∧ x ≤ 3
noncomputable def v_Integer_bitCount (x : Int) : Int := if x = 0 then 0 else if x = 3 then 2 else 1
theorem fInteger_bitCount_0 : w_fe am_c3 0 1 (.iload 0) := ⟨rfl, rfl⟩
theorem fInteger_bitCount_1 : w_fe am_c3 1 2 (.iload 0) := ⟨rfl, rfl⟩
theorem fInteger_bitCount_2 : w_fe am_c3 2 3 (.bipush 1) := ⟨rfl, rfl⟩
theorem fInteger_bitCount_3 : w_fe am_c3 3 4 (.iushr) := ⟨rfl, rfl⟩
theorem fInteger_bitCount_4 : w_fe am_c3 4 5 (.bipush 1431655765) := ⟨rfl, rfl⟩
theorem fInteger_bitCount_5 : w_fe am_c3 5 6 (.iand) := ⟨rfl, rfl⟩
theorem fInteger_bitCount_6 : w_fe am_c3 6 7 (.isub) := ⟨rfl, rfl⟩
theorem fInteger_bitCount_7 : w_fe am_c3 7 8 (.istore 0) := ⟨rfl, rfl⟩
theorem fInteger_bitCount_8 : w_fe am_c3 8 9 (.iload 0) := ⟨rfl, rfl⟩
theorem fInteger_bitCount_9 : w_fe am_c3 9 10 (.bipush 858993459) := ⟨rfl, rfl⟩
theorem fInteger_bitCount_10 : w_fe am_c3 10 11 (.iand) := ⟨rfl, rfl⟩
theorem fInteger_bitCount_11 : w_fe am_c3 11 12 (.iload 0) := ⟨rfl, rfl⟩
theorem fInteger_bitCount_12 : w_fe am_c3 12 13 (.bipush 2) := ⟨rfl, rfl⟩
theorem fInteger_bitCount_13 : w_fe am_c3 13 14 (.iushr) := ⟨rfl, rfl⟩
theorem fInteger_bitCount_14 : w_fe am_c3 14 15 (.bipush 858993459) := ⟨rfl, rfl⟩
theorem fInteger_bitCount_15 : w_fe am_c3 15 16 (.iand) := ⟨rfl, rfl⟩
theorem fInteger_bitCount_16 : w_fe am_c3 16 17 (.iadd) := ⟨rfl, rfl⟩
theorem fInteger_bitCount_17 : w_fe am_c3 17 18 (.istore 0) := ⟨rfl, rfl⟩
theorem fInteger_bitCount_18 : w_fe am_c3 18 19 (.iload 0) := ⟨rfl, rfl⟩
theorem fInteger_bitCount_19 : w_fe am_c3 19 20 (.iload 0) := ⟨rfl, rfl⟩
theorem fInteger_bitCount_20 : w_fe am_c3 20 21 (.bipush 4) := ⟨rfl, rfl⟩
theorem fInteger_bitCount_21 : w_fe am_c3 21 22 (.iushr) := ⟨rfl, rfl⟩
theorem fInteger_bitCount_22 : w_fe am_c3 22 23 (.iadd) := ⟨rfl, rfl⟩
theorem fInteger_bitCount_23 : w_fe am_c3 23 24 (.bipush 252645135) := ⟨rfl, rfl⟩
theorem fInteger_bitCount_24 : w_fe am_c3 24 25 (.iand) := ⟨rfl, rfl⟩
theorem fInteger_bitCount_25 : w_fe am_c3 25 26 (.istore 0) := ⟨rfl, rfl⟩
theorem fInteger_bitCount_26 : w_fe am_c3 26 27 (.iload 0) := ⟨rfl, rfl⟩
theorem fInteger_bitCount_27 : w_fe am_c3 27 28 (.iload 0) := ⟨rfl, rfl⟩
theorem fInteger_bitCount_28 : w_fe am_c3 28 29 (.bipush 8) := ⟨rfl, rfl⟩
theorem fInteger_bitCount_29 : w_fe am_c3 29 30 (.iushr) := ⟨rfl, rfl⟩
theorem fInteger_bitCount_30 : w_fe am_c3 30 31 (.iadd) := ⟨rfl, rfl⟩
theorem fInteger_bitCount_31 : w_fe am_c3 31 32 (.istore 0) := ⟨rfl, rfl⟩
theorem fInteger_bitCount_32 : w_fe am_c3 32 33 (.iload 0) := ⟨rfl, rfl⟩
theorem fInteger_bitCount_33 : w_fe am_c3 33 34 (.iload 0) := ⟨rfl, rfl⟩
theorem fInteger_bitCount_34 : w_fe am_c3 34 35 (.bipush 16) := ⟨rfl, rfl⟩
theorem fInteger_bitCount_35 : w_fe am_c3 35 36 (.iushr) := ⟨rfl, rfl⟩
theorem fInteger_bitCount_36 : w_fe am_c3 36 37 (.iadd) := ⟨rfl, rfl⟩
theorem fInteger_bitCount_37 : w_fe am_c3 37 38 (.istore 0) := ⟨rfl, rfl⟩
theorem fInteger_bitCount_38 : w_fe am_c3 38 39 (.iload 0) := ⟨rfl, rfl⟩
theorem fInteger_bitCount_39 : w_fe am_c3 39 40 (.bipush 63) := ⟨rfl, rfl⟩
theorem fInteger_bitCount_40 : w_fe am_c3 40 41 (.iand) := ⟨rfl, rfl⟩
theorem fInteger_bitCount_41 : w_fe am_c3 41 42 (.ireturn) := ⟨rfl, rfl⟩
set_option maxRecDepth 20000 in
theorem bInteger_bitCount_0 {xs : List Int} {d : Nat} {Q : Option w_V → w_M → Prop} {x0 : Int} {σ : w_M}
    (h : w_in (x0 - (w_and (w_ushr x0 1) 1431655765)) ∧ (∀ (y1 : Int), y1 = (x0 - (w_and (w_ushr x0 1) 1431655765)) → (w_in ((w_and y1 858993459) + (w_and (w_ushr y1 2) 858993459)) ∧ (∀ (y2 : Int), y2 = ((w_and y1 858993459) + (w_and (w_ushr y1 2) 858993459)) → (w_in (y2 + (w_ushr y2 4)) ∧ (∀ (y3 : Int), y3 = (w_and (y2 + (w_ushr y2 4)) 252645135) → (w_in (y3 + (w_ushr y3 8)) ∧ (∀ (y4 : Int), y4 = (y3 + (w_ushr y3 8)) → (w_in (y4 + (w_ushr y4 16)) ∧ (∀ (y5 : Int), y5 = (y4 + (w_ushr y4 16)) → Q (some (.inl (w_and y5 63))) σ)))))))))) : w_Call (xs, d) 3 [.inl x0] σ Q :=
  (w_mk (mid := 3) (by decide) rfl rfl rfl rfl rfl (Nat.le_of_ble_eq_true rfl) trivial (wi_iload0 fInteger_bitCount_0 (wi_iload0 fInteger_bitCount_1 (wi_bipush fInteger_bitCount_2 (wi_iushr fInteger_bitCount_3 (wi_bipush fInteger_bitCount_4 (wi_iand fInteger_bitCount_5 (wi_isub fInteger_bitCount_6 h.1 (wi_istore0 fInteger_bitCount_7 (wi_iload0 fInteger_bitCount_8 (wi_bipush fInteger_bitCount_9 (wi_iand fInteger_bitCount_10 (wi_iload0 fInteger_bitCount_11 (wi_bipush fInteger_bitCount_12 (wi_iushr fInteger_bitCount_13 (wi_bipush fInteger_bitCount_14 (wi_iand fInteger_bitCount_15 (wi_iadd fInteger_bitCount_16 (h.2 _ rfl).1 (wi_istore0 fInteger_bitCount_17 (wi_iload0 fInteger_bitCount_18 (wi_iload0 fInteger_bitCount_19 (wi_bipush fInteger_bitCount_20 (wi_iushr fInteger_bitCount_21 (wi_iadd fInteger_bitCount_22 ((h.2 _ rfl).2 _ rfl).1 (wi_bipush fInteger_bitCount_23 (wi_iand fInteger_bitCount_24 (wi_istore0 fInteger_bitCount_25 (wi_iload0 fInteger_bitCount_26 (wi_iload0 fInteger_bitCount_27 (wi_bipush fInteger_bitCount_28 (wi_iushr fInteger_bitCount_29 (wi_iadd fInteger_bitCount_30 (((h.2 _ rfl).2 _ rfl).2 _ rfl).1 (wi_istore0 fInteger_bitCount_31 (wi_iload0 fInteger_bitCount_32 (wi_iload0 fInteger_bitCount_33 (wi_bipush fInteger_bitCount_34 (wi_iushr fInteger_bitCount_35 (wi_iadd fInteger_bitCount_36 ((((h.2 _ rfl).2 _ rfl).2 _ rfl).2 _ rfl).1 (wi_istore0 fInteger_bitCount_37 (wi_iload0 fInteger_bitCount_38 (wi_bipush fInteger_bitCount_39 (wi_iand fInteger_bitCount_40 (wi_ret1 fInteger_bitCount_41 (((((h.2 _ rfl).2 _ rfl).2 _ rfl).2 _ rfl).2 _ rfl))))))))))))))))))))))))))))))))))))))))))))
theorem k_Integer_bitCount {xs : List Int} {d : Nat} {Q : Option w_V → w_M → Prop} {x0 : Int} {σ : w_M} (hp : p_Integer_bitCount x0) (hQ : Q (some (.inl (v_Integer_bitCount x0))) σ) : w_Call (xs, d) 3 [.inl x0] σ Q := by
  have h2 : x0 = 0 ∨ x0 = 1 ∨ x0 = 2 ∨ x0 = 3 := by unfold p_Integer_bitCount at hp; omega
  rcases h2 with rfl | rfl | rfl | rfl
  all_goals
    refine bInteger_bitCount_0 ⟨by unfold w_in; decide +kernel, fun y1 e1 => ⟨?_, fun y2 e2 => ⟨?_, fun y3 e3 => ⟨?_, fun y4 e4 => ⟨?_, fun y5 e5 => ?_⟩⟩⟩⟩⟩
    · rw [e1]; unfold w_in; decide +kernel
    · rw [e2, e1]; unfold w_in; decide +kernel
    · rw [e3, e2, e1]; unfold w_in; decide +kernel
    · rw [e4, e3, e2, e1]; unfold w_in; decide +kernel
    · rw [e5, e4, e3, e2, e1]
      exact w_Qe hQ (by decide +kernel)
noncomputable def f_fill (σ : w_M) (b n : Nat) (x : Int) : w_M := fun c j => if c = b ∧ j < n then x else σ c j
theorem f_fill_0 {σ : w_M} {b : Nat} {x : Int} : f_fill σ b 0 x = σ := by funext c j; simp [f_fill]
theorem f_fill_up {σ : w_M} {b i : Nat} {x : Int} : w_up (f_fill σ b i x) b i x = f_fill σ b (i + 1) x := by
  funext c j
  unfold w_up f_fill
  by_cases h1 : c = b ∧ j = i
  · rw [if_pos h1, if_pos ⟨h1.1, by omega⟩]
  · rw [if_neg h1]
    by_cases h2 : c = b ∧ j < i
    · rw [if_pos h2, if_pos ⟨h2.1, by omega⟩]
    · rw [if_neg h2, if_neg (by omega)]
theorem f_fill_ne {σ : w_M} {b n c : Nat} {x : Int} (h : c ≠ b) : f_fill σ b n x c = σ c := by funext j; simp [f_fill, h]
theorem f_fill_at {σ : w_M} {b n j : Nat} {x : Int} (h : j < n) : f_fill σ b n x b j = x := by simp [f_fill, h]
noncomputable def q_Arrays_fill (b : Nat) (x : Int) (σ σ' : w_M) : Prop := σ' = f_fill σ b 4 x
noncomputable def q_Arrays_fill40 (b : Nat) (x : Int) (σ σ' : w_M) : Prop := σ' = f_fill σ b 40 x
theorem fArrays_fill_0 : w_fe am_c4 0 1 (.bipush 0) := ⟨rfl, rfl⟩
theorem fArrays_fill_1 : w_fe am_c4 1 2 (.istore 2) := ⟨rfl, rfl⟩
theorem fArrays_fill_2 : w_fe am_c4 2 3 (.aload 0) := ⟨rfl, rfl⟩
theorem fArrays_fill_3 : w_fe am_c4 3 4 (.arraylength) := ⟨rfl, rfl⟩
theorem fArrays_fill_4 : w_fe am_c4 4 5 (.istore 3) := ⟨rfl, rfl⟩
theorem fArrays_fill_5 : w_fe am_c4 5 6 (.iload 2) := ⟨rfl, rfl⟩
theorem fArrays_fill_6 : w_fe am_c4 6 7 (.iload 3) := ⟨rfl, rfl⟩
theorem fArrays_fill_7 : w_ic am_c4 7 8 .ge 14 := ⟨rfl, rfl⟩
theorem fArrays_fill_8 : w_fe am_c4 8 9 (.aload 0) := ⟨rfl, rfl⟩
theorem fArrays_fill_9 : w_fe am_c4 9 10 (.iload 2) := ⟨rfl, rfl⟩
theorem fArrays_fill_10 : w_fe am_c4 10 11 (.iload 1) := ⟨rfl, rfl⟩
theorem fArrays_fill_11 : w_fe am_c4 11 12 (.iastore) := ⟨rfl, rfl⟩
theorem fArrays_fill_12 : w_fe am_c4 12 13 (.iinc 2 1) := ⟨rfl, rfl⟩
theorem fArrays_fill_13 : w_gt am_c4 13 5 := rfl
theorem fArrays_fill_14 : w_fe am_c4 14 15 (.return_) := ⟨rfl, rfl⟩
noncomputable def LArrays_fill_5 (xs : List Int) (d : Nat) (Q : Option w_V → w_M → Prop) (r0 : Nat) (v1 : Int) (v2 : Int) (v3 : Int) (σ : w_M) : Prop := w_Ex (xs, d) 0 am_c4 Q 5 [some (.inr (.inr (1004, r0))), some (.inl v1), some (.inl v2), some (.inl v3)] [] σ
set_option maxRecDepth 20000 in
theorem bArrays_fill_0 {xs : List Int} {d : Nat} {Q : Option w_V → w_M → Prop} {b : Nat} {x1 : Int} {σ : w_M}
    (h : LArrays_fill_5 xs d Q b x1 0 4 σ) : w_Call (xs, d) 4 [.inr (.inr (1004, b)), .inl x1] σ Q :=
  (w_mk (mid := 4) (by decide) rfl rfl rfl rfl rfl (Nat.le_of_ble_eq_true rfl) trivial (wi_bipush fArrays_fill_0 (wi_istore2 fArrays_fill_1 trivial (wi_aload0 fArrays_fill_2 (wi_alen1004 fArrays_fill_3 (wi_istore3 fArrays_fill_4 trivial h))))))
set_option maxRecDepth 20000 in
theorem bArrays_fill_5 {xs : List Int} {d : Nat} {Q : Option w_V → w_M → Prop} {r0 : Nat} {v1 : Int} {v2 : Int} {v3 : Int} {σ : w_M}
    (h : (v3 ≤ v2 → Q none σ) ∧ (v2 < v3 → (0 ≤ v2 ∧ v2 < 4 ∧ (∀ (τ1 : w_M), τ1 = w_up σ r0 v2.toNat v1 → (w_in (v2 + 1) ∧ LArrays_fill_5 xs d Q r0 v1 (v2 + 1) v3 τ1))))) : LArrays_fill_5 xs d Q r0 v1 v2 v3 σ :=
  (wi_iload2 fArrays_fill_5 (wi_iload3 fArrays_fill_6 (wi_ic_ge fArrays_fill_7 (fun c2 => (wi_ret0 fArrays_fill_14 (h.1 c2))) (fun c2 => (wi_aload0 fArrays_fill_8 (wi_iload2 fArrays_fill_9 (wi_iload1 fArrays_fill_10 (wi_iast1004 fArrays_fill_11 (h.2 c2).1 (h.2 c2).2.1 (wi_iinc2 fArrays_fill_12 trivial ((h.2 c2).2.2 _ rfl).1 (wi_goto fArrays_fill_13 ((h.2 c2).2.2 _ rfl).2))))))))))
noncomputable def LArrays_fill40_5 (xs : List Int) (d : Nat) (Q : Option w_V → w_M → Prop) (r0 : Nat) (v1 : Int) (v2 : Int) (v3 : Int) (σ : w_M) : Prop := w_Ex (xs, d) 0 am_c4 Q 5 [some (.inr (.inr (1040, r0))), some (.inl v1), some (.inl v2), some (.inl v3)] [] σ
set_option maxRecDepth 20000 in
theorem bArrays_fill40_0 {xs : List Int} {d : Nat} {Q : Option w_V → w_M → Prop} {b : Nat} {x1 : Int} {σ : w_M}
    (h : LArrays_fill40_5 xs d Q b x1 0 40 σ) : w_Call (xs, d) 4 [.inr (.inr (1040, b)), .inl x1] σ Q :=
  (w_mk (mid := 4) (by decide) rfl rfl rfl rfl rfl (Nat.le_of_ble_eq_true rfl) trivial (wi_bipush fArrays_fill_0 (wi_istore2 fArrays_fill_1 trivial (wi_aload0 fArrays_fill_2 (wi_alen1040 fArrays_fill_3 (wi_istore3 fArrays_fill_4 trivial h))))))
set_option maxRecDepth 20000 in
theorem bArrays_fill40_5 {xs : List Int} {d : Nat} {Q : Option w_V → w_M → Prop} {r0 : Nat} {v1 : Int} {v2 : Int} {v3 : Int} {σ : w_M}
    (h : (v3 ≤ v2 → Q none σ) ∧ (v2 < v3 → (0 ≤ v2 ∧ v2 < 40 ∧ (∀ (τ1 : w_M), τ1 = w_up σ r0 v2.toNat v1 → (w_in (v2 + 1) ∧ LArrays_fill40_5 xs d Q r0 v1 (v2 + 1) v3 τ1))))) : LArrays_fill40_5 xs d Q r0 v1 v2 v3 σ :=
  (wi_iload2 fArrays_fill_5 (wi_iload3 fArrays_fill_6 (wi_ic_ge fArrays_fill_7 (fun c2 => (wi_ret0 fArrays_fill_14 (h.1 c2))) (fun c2 => (wi_aload0 fArrays_fill_8 (wi_iload2 fArrays_fill_9 (wi_iload1 fArrays_fill_10 (wi_iast1040 fArrays_fill_11 (h.2 c2).1 (h.2 c2).2.1 (wi_iinc2 fArrays_fill_12 trivial ((h.2 c2).2.2 _ rfl).1 (wi_goto fArrays_fill_13 ((h.2 c2).2.2 _ rfl).2))))))))))
theorem k_Arrays_fill {xs : List Int} {d : Nat} {Q : Option w_V → w_M → Prop} {b : Nat} {x1 : Int} {σ : w_M} (hQ : ∀ σ' : w_M, q_Arrays_fill b x1 σ σ' → Q none σ') : w_Call (xs, d) 4 [.inr (.inr (1004, b)), .inl x1] σ Q := by
  refine bArrays_fill_0 ?_
  have key : LArrays_fill_5 xs d Q b x1 ((0 : Nat) : Int) 4 (f_fill σ b 0 x1) := by
    refine w_loop (n := 4) (P := fun i => LArrays_fill_5 xs d Q b x1 (i : Int) 4 (f_fill σ b i x1)) ?_ ?_
    · exact bArrays_fill_5 ⟨fun _ => hQ _ rfl, fun h => by omega⟩
    · intro i hi ih
      refine bArrays_fill_5 ⟨fun h => by omega, fun h => ⟨by omega, by omega, fun τ e => ⟨⟨by omega, by omega⟩, ?_⟩⟩⟩
      rw [e, Int.toNat_natCast, f_fill_up, ← w_cs1]
      exact ih
  rw [f_fill_0] at key
  exact key
theorem k_Arrays_fill40 {xs : List Int} {d : Nat} {Q : Option w_V → w_M → Prop} {b : Nat} {x1 : Int} {σ : w_M} (hQ : ∀ σ' : w_M, q_Arrays_fill40 b x1 σ σ' → Q none σ') : w_Call (xs, d) 4 [.inr (.inr (1040, b)), .inl x1] σ Q := by
  refine bArrays_fill40_0 ?_
  have key : LArrays_fill40_5 xs d Q b x1 ((0 : Nat) : Int) 40 (f_fill σ b 0 x1) := by
    refine w_loop (n := 40) (P := fun i => LArrays_fill40_5 xs d Q b x1 (i : Int) 40 (f_fill σ b i x1)) ?_ ?_
    · exact bArrays_fill40_5 ⟨fun _ => hQ _ rfl, fun h => by omega⟩
    · intro i hi ih
      refine bArrays_fill40_5 ⟨fun h => by omega, fun h => ⟨by omega, by omega, fun τ e => ⟨⟨by omega, by omega⟩, ?_⟩⟩⟩
      rw [e, Int.toNat_natCast, f_fill_up, ← w_cs1]
      exact ih
  rw [f_fill_0] at key
  exact key
/-- the bytes of a constant text -/
noncomputable def s_isB (b : Nat) : Prop := b = 1001 ∨ b = 1003 ∨ b = 1005 ∨ b = 1007 ∨ b = 1009
theorem s_carr {xs : List Int} {b : Nat} (h : s_isB b) : w_carr xs b = w_carr [] b := by
  rcases h with rfl | rfl | rfl | rfl | rfl <;> rfl
theorem s_byt {b : Nat} (h : s_isB b) {j : Nat} (hj : j < (w_carr [] b).length) : (0 ≤ (w_carr [] b).getD j 0 ∧ (w_carr [] b).getD j 0 ≤ 127) ∧ w_and ((w_carr [] b).getD j 0) 255 = (w_carr [] b).getD j 0 := by
  have key : ∀ l : List Int, (l.all fun y => decide (0 ≤ y) && decide (y ≤ 127) && decide (w_and y 255 = y)) = true → ∀ j, j < l.length → (0 ≤ l.getD j 0 ∧ l.getD j 0 ≤ 127) ∧ w_and (l.getD j 0) 255 = l.getD j 0 := by
    intro l hl j hj
    have hm : l.getD j 0 ∈ l := by
      rw [List.getD_eq_getElem?_getD, List.getElem?_eq_getElem hj]
      exact List.getElem_mem hj
    have := List.all_eq_true.mp hl _ hm
    simp only [Bool.and_eq_true, decide_eq_true_eq] at this
    exact this
  rcases h with rfl | rfl | rfl | rfl | rfl <;> exact key _ (by decide +kernel) j hj
noncomputable def p_StringLatin1_charAt (b : Nat) (x : Int) (_ : w_M) : Prop := s_isB b ∧ 0 ≤ x ∧ x < ((w_carr [] b).length : Int)
noncomputable def v_StringLatin1_charAt (b : Nat) (x : Int) (_ : w_M) : Int := (w_carr [] b).getD x.toNat 0
noncomputable def p_String_length (a : Nat) (_ : w_M) : Prop := s_isB (a + 1)
noncomputable def v_String_length (a : Nat) (_ : w_M) : Int := ((w_carr [] (a + 1)).length : Int)
noncomputable def p_String_charAt (a : Nat) (x : Int) (σ : w_M) : Prop := p_StringLatin1_charAt (a + 1) x σ
noncomputable def v_String_charAt (a : Nat) (x : Int) (σ : w_M) : Int := v_StringLatin1_charAt (a + 1) x σ
theorem fStringLatin1_charAt_0 : w_fe am_c5 0 1 (.iload 1) := ⟨rfl, rfl⟩
theorem fStringLatin1_charAt_1 : w_fe am_c5 1 2 (.aload 0) := ⟨rfl, rfl⟩
theorem fStringLatin1_charAt_2 : w_fe am_c5 2 3 (.arraylength) := ⟨rfl, rfl⟩
theorem fStringLatin1_charAt_3 : w_fe am_c5 3 4 (.monitorexit) := ⟨rfl, rfl⟩
theorem fStringLatin1_charAt_4 : w_fe am_c5 4 5 (.aload 0) := ⟨rfl, rfl⟩
theorem fStringLatin1_charAt_5 : w_fe am_c5 5 6 (.iload 1) := ⟨rfl, rfl⟩
theorem fStringLatin1_charAt_6 : w_fe am_c5 6 7 (.baload) := ⟨rfl, rfl⟩
theorem fStringLatin1_charAt_7 : w_fe am_c5 7 8 (.bipush 255) := ⟨rfl, rfl⟩
theorem fStringLatin1_charAt_8 : w_fe am_c5 8 9 (.iand) := ⟨rfl, rfl⟩
theorem fStringLatin1_charAt_9 : w_fe am_c5 9 10 (.i2c) := ⟨rfl, rfl⟩
theorem fStringLatin1_charAt_10 : w_fe am_c5 10 11 (.ireturn) := ⟨rfl, rfl⟩
set_option maxRecDepth 20000 in
theorem bStringLatin1_charAt_0 {xs : List Int} {d : Nat} {Q : Option w_V → w_M → Prop} {b : Nat} {x1 : Int} {σ : w_M}
    (h : (0 ≤ x1 ∧ x1 < ((w_carr xs b).length : Int)) ∧ 0 ≤ x1 ∧ x1 < ((w_carr xs b).length : Int) ∧ (0 ≤ (w_and ((w_carr xs b).getD x1.toNat 0) 255) ∧ (w_and ((w_carr xs b).getD x1.toNat 0) 255) ≤ 65535) ∧ (0 ≤ (w_and ((w_carr xs b).getD x1.toNat 0) 255) ∧ (w_and ((w_carr xs b).getD x1.toNat 0) 255) ≤ 65535) ∧ Q (some (.inl (w_and ((w_carr xs b).getD x1.toNat 0) 255))) σ) : w_Call (xs, d) 5 [.inr (.inr (7000, b)), .inl x1] σ Q :=
  (w_mk (mid := 5) (by decide) rfl rfl rfl rfl rfl (Nat.le_of_ble_eq_true rfl) trivial (wi_iload1 fStringLatin1_charAt_0 (wi_aload0 fStringLatin1_charAt_1 (wi_alen7000 fStringLatin1_charAt_2 (wi_chk fStringLatin1_charAt_3 h.1 (Nat.le_of_ble_eq_true rfl) (wi_aload0 fStringLatin1_charAt_4 (wi_iload1 fStringLatin1_charAt_5 (wi_bald7000 fStringLatin1_charAt_6 h.2.1 h.2.2.1 (wi_bipush fStringLatin1_charAt_7 (wi_iand fStringLatin1_charAt_8 (wi_i2c fStringLatin1_charAt_9 h.2.2.2.1 (wi_ret5 fStringLatin1_charAt_10 h.2.2.2.2.1 h.2.2.2.2.2))))))))))))
theorem fString_isLatin1_0 : w_fe am_c9 0 1 (.getstatic 0) := ⟨rfl, rfl⟩
theorem fString_isLatin1_1 : w_if am_c9 1 2 .eq 7 := ⟨rfl, rfl⟩
theorem fString_isLatin1_2 : w_fe am_c9 2 3 (.aload 0) := ⟨rfl, rfl⟩
theorem fString_isLatin1_3 : w_fe am_c9 3 4 (.getfield 2001) := ⟨rfl, rfl⟩
theorem fString_isLatin1_4 : w_if am_c9 4 5 .ne 7 := ⟨rfl, rfl⟩
theorem fString_isLatin1_5 : w_fe am_c9 5 6 (.bipush 1) := ⟨rfl, rfl⟩
theorem fString_isLatin1_6 : w_gt am_c9 6 8 := rfl
theorem fString_isLatin1_7 : w_fe am_c9 7 8 (.bipush 0) := ⟨rfl, rfl⟩
theorem fString_isLatin1_8 : w_fe am_c9 8 9 (.ireturn) := ⟨rfl, rfl⟩
set_option maxRecDepth 20000 in
theorem bString_isLatin1_0 {xs : List Int} {d : Nat} {Q : Option w_V → w_M → Prop} {a : Nat} {σ : w_M}
    (h : Q (some (.inl 1)) σ) : w_Call (xs, d) 9 [.inr (.inr (20, a))] σ Q :=
  (w_mk (mid := 9) (by decide) rfl rfl rfl rfl rfl (Nat.le_of_ble_eq_true rfl) ⟨rfl, Or.inr rfl⟩ (wi_getstatic0 fString_isLatin1_0 (wi_if_eq fString_isLatin1_1 (fun e => absurd e (by decide)) (fun _ => (wi_aload0 fString_isLatin1_2 (wi_getf2001 fString_isLatin1_3 (wi_if_ne fString_isLatin1_4 (fun e => absurd e (by decide)) (fun _ => (wi_bipush fString_isLatin1_5 (wi_goto fString_isLatin1_6 (wi_ret2 fString_isLatin1_8 (by decide) h)))))))))))
theorem fString_coder_0 : w_fe am_c7 0 1 (.getstatic 0) := ⟨rfl, rfl⟩
theorem fString_coder_1 : w_if am_c7 1 2 .eq 5 := ⟨rfl, rfl⟩
theorem fString_coder_2 : w_fe am_c7 2 3 (.aload 0) := ⟨rfl, rfl⟩
theorem fString_coder_3 : w_fe am_c7 3 4 (.getfield 2001) := ⟨rfl, rfl⟩
theorem fString_coder_4 : w_gt am_c7 4 6 := rfl
theorem fString_coder_5 : w_fe am_c7 5 6 (.bipush 1) := ⟨rfl, rfl⟩
theorem fString_coder_6 : w_fe am_c7 6 7 (.ireturn) := ⟨rfl, rfl⟩
set_option maxRecDepth 20000 in
theorem bString_coder_0 {xs : List Int} {d : Nat} {Q : Option w_V → w_M → Prop} {a : Nat} {σ : w_M}
    (h : Q (some (.inl 0)) σ) : w_Call (xs, d) 7 [.inr (.inr (20, a))] σ Q :=
  (w_mk (mid := 7) (by decide) rfl rfl rfl rfl rfl (Nat.le_of_ble_eq_true rfl) ⟨rfl, Or.inr rfl⟩ (wi_getstatic0 fString_coder_0 (wi_if_eq fString_coder_1 (fun e => absurd e (by decide)) (fun _ => (wi_aload0 fString_coder_2 (wi_getf2001 fString_coder_3 (wi_goto fString_coder_4 (wi_ret6 fString_coder_6 (by decide) h))))))))
theorem k_StringLatin1_charAt {xs : List Int} {d : Nat} {Q : Option w_V → w_M → Prop} {b : Nat} {x1 : Int} {σ : w_M} (hp : p_StringLatin1_charAt b x1 σ) (hQ : Q (some (.inl (v_StringLatin1_charAt b x1 σ))) σ) : w_Call (xs, d) 5 [.inr (.inr (7000, b)), .inl x1] σ Q := by
  obtain ⟨h1, h2, h3⟩ := hp
  have hj : x1.toNat < (w_carr [] b).length := by omega
  obtain ⟨⟨g1, g2⟩, g3⟩ := s_byt h1 hj
  have e := s_carr (xs := xs) h1
  unfold v_StringLatin1_charAt at hQ
  refine bStringLatin1_charAt_0 ?_
  rw [e, g3]
  exact ⟨⟨h2, h3⟩, h2, h3, ⟨g1, by omega⟩, ⟨g1, by omega⟩, hQ⟩
theorem k_String_isLatin1 {xs : List Int} {d : Nat} {Q : Option w_V → w_M → Prop} {a : Nat} {σ : w_M} (hQ : Q (some (.inl (w_bi (True)))) σ) : w_Call (xs, d) 9 [.inr (.inr (20, a))] σ Q := by
  rw [w_bi_t trivial] at hQ
  exact bString_isLatin1_0 hQ
theorem k_String_coder {xs : List Int} {d : Nat} {Q : Option w_V → w_M → Prop} {a : Nat} {σ : w_M} (hQ : Q (some (.inl (0))) σ) : w_Call (xs, d) 7 [.inr (.inr (20, a))] σ Q := bString_coder_0 hQ
theorem fString_length_0 : w_fe am_c6 0 1 (.aload 0) := ⟨rfl, rfl⟩
theorem fString_length_1 : w_fe am_c6 1 2 (.getfield 2000) := ⟨rfl, rfl⟩
theorem fString_length_2 : w_fe am_c6 2 3 (.arraylength) := ⟨rfl, rfl⟩
theorem fString_length_3 : w_fe am_c6 3 4 (.aload 0) := ⟨rfl, rfl⟩
theorem fString_length_4 : w_fe am_c6 4 5 (.invokestatic 7) := ⟨rfl, rfl⟩
theorem fString_length_5 : w_fe am_c6 5 6 (.ishr) := ⟨rfl, rfl⟩
theorem fString_length_6 : w_fe am_c6 6 7 (.ireturn) := ⟨rfl, rfl⟩
set_option maxRecDepth 20000 in
theorem bString_length_0 {xs : List Int} {d : Nat} {Q : Option w_V → w_M → Prop} {a : Nat} {σ : w_M}
    (h : Q (some (.inl (w_shr ((w_carr xs (a + 1)).length : Int) 0))) σ) : w_Call (xs, (d + 1)) 6 [.inr (.inr (20, a))] σ Q :=
  (w_mk (mid := 6) (by decide) rfl rfl rfl rfl rfl (Nat.le_of_ble_eq_true rfl) ⟨rfl, Or.inr rfl⟩ (wi_aload0 fString_length_0 (wi_getf2000 fString_length_1 (wi_alen7000 fString_length_2 (wi_aload0 fString_length_3 (wi_call1 fString_length_4 (Nat.le_of_ble_eq_true rfl) (k_String_coder (wi_ishr fString_length_5 (wi_ret1 fString_length_6 h)))))))))
theorem fString_charAt_0 : w_fe am_c8 0 1 (.aload 0) := ⟨rfl, rfl⟩
theorem fString_charAt_1 : w_fe am_c8 1 2 (.invokestatic 9) := ⟨rfl, rfl⟩
theorem fString_charAt_2 : w_if am_c8 2 3 .eq 8 := ⟨rfl, rfl⟩
theorem fString_charAt_3 : w_fe am_c8 3 4 (.aload 0) := ⟨rfl, rfl⟩
theorem fString_charAt_4 : w_fe am_c8 4 5 (.getfield 2000) := ⟨rfl, rfl⟩
theorem fString_charAt_5 : w_fe am_c8 5 6 (.iload 1) := ⟨rfl, rfl⟩
theorem fString_charAt_6 : w_fe am_c8 6 7 (.invokestatic 5) := ⟨rfl, rfl⟩
theorem fString_charAt_7 : w_fe am_c8 7 8 (.ireturn) := ⟨rfl, rfl⟩
theorem fString_charAt_8 : w_fe am_c8 8 9 (.aload 0) := ⟨rfl, rfl⟩
theorem fString_charAt_9 : w_fe am_c8 9 10 (.getfield 2000) := ⟨rfl, rfl⟩
theorem fString_charAt_10 : w_fe am_c8 10 11 (.iload 1) := ⟨rfl, rfl⟩
set_option maxRecDepth 20000 in
theorem bString_charAt_0 {xs : List Int} {d : Nat} {Q : Option w_V → w_M → Prop} {a : Nat} {x1 : Int} {σ : w_M}
    (h : (¬ (True) → False) ∧ ((True) → (p_StringLatin1_charAt (a + 1) x1 σ ∧ (∀ (y1 : Int), y1 = v_StringLatin1_charAt (a + 1) x1 σ → ((0 ≤ y1 ∧ y1 ≤ 65535) ∧ Q (some (.inl y1)) σ))))) : w_Call (xs, (d + 1)) 8 [.inr (.inr (20, a)), .inl x1] σ Q :=
  (w_mk (mid := 8) (by decide) rfl rfl rfl rfl rfl (Nat.le_of_ble_eq_true rfl) ⟨rfl, Or.inr rfl⟩ (wi_aload0 fString_charAt_0 (wi_call1 fString_charAt_1 (Nat.le_of_ble_eq_true rfl) (k_String_isLatin1 (wi_ifb_eq fString_charAt_2 (fun c2 => (wi_aload0 fString_charAt_8 (wi_getf2000 fString_charAt_9 (wi_iload1 fString_charAt_10 (h.1 c2).elim)))) (fun c2 => (wi_aload0 fString_charAt_3 (wi_getf2000 fString_charAt_4 (wi_iload1 fString_charAt_5 (wi_call2 fString_charAt_6 (Nat.le_of_ble_eq_true rfl) (k_StringLatin1_charAt (h.2 c2).1 (wi_ret5 fString_charAt_7 ((h.2 c2).2 _ rfl).1 ((h.2 c2).2 _ rfl).2))))))))))))
theorem k_String_length {xs : List Int} {d : Nat} {Q : Option w_V → w_M → Prop} {a : Nat} {σ : w_M} (hp : p_String_length a σ) (hQ : Q (some (.inl (v_String_length a σ))) σ) : w_Call (xs, d + 1) 6 [.inr (.inr (20, a))] σ Q := by
  have e := s_carr (xs := xs) hp
  refine bString_length_0 ?_
  rw [e]
  have key : w_shr ((w_carr [] (a + 1)).length : Int) 0 = ((w_carr [] (a + 1)).length : Int) := by
    have : ∀ b, s_isB b → w_shr ((w_carr [] b).length : Int) 0 = ((w_carr [] b).length : Int) := by
      intro b hb
      rcases hb with rfl | rfl | rfl | rfl | rfl <;> decide +kernel
    exact this _ hp
  rw [key]
  exact hQ
theorem k_String_charAt {xs : List Int} {d : Nat} {Q : Option w_V → w_M → Prop} {a : Nat} {x1 : Int} {σ : w_M} (hp : p_String_charAt a x1 σ) (hQ : Q (some (.inl (v_String_charAt a x1 σ))) σ) : w_Call (xs, d + 1) 8 [.inr (.inr (20, a)), .inl x1] σ Q := by
  obtain ⟨h1, h2, h3⟩ := hp
  have hj : x1.toNat < (w_carr [] (a + 1)).length := by omega
  obtain ⟨⟨g1, g2⟩, g3⟩ := s_byt h1 hj
  refine bString_charAt_0 ⟨fun h => absurd trivial h, fun _ => ⟨⟨h1, h2, h3⟩, fun y1 e => ⟨?_, ?_⟩⟩⟩
  · rw [e]; exact ⟨g1, by unfold v_StringLatin1_charAt; omega⟩
  · rw [e]; exact hQ
noncomputable def v_Moon_withBit (x0 x1 x2 : Int) : Int := if x2 = 0 then w_and x0 (w_xor (w_shl 1 x1) (-1)) else w_or x0 (w_shl 1 x1)
theorem fMoon_withBit_0 : w_fe am_c110 0 1 (.iload 2) := ⟨rfl, rfl⟩
theorem fMoon_withBit_1 : w_if am_c110 1 2 .eq 8 := ⟨rfl, rfl⟩
theorem fMoon_withBit_2 : w_fe am_c110 2 3 (.iload 0) := ⟨rfl, rfl⟩
theorem fMoon_withBit_3 : w_fe am_c110 3 4 (.bipush 1) := ⟨rfl, rfl⟩
theorem fMoon_withBit_4 : w_fe am_c110 4 5 (.iload 1) := ⟨rfl, rfl⟩
theorem fMoon_withBit_5 : w_fe am_c110 5 6 (.ishl) := ⟨rfl, rfl⟩
theorem fMoon_withBit_6 : w_fe am_c110 6 7 (.ior) := ⟨rfl, rfl⟩
theorem fMoon_withBit_7 : w_gt am_c110 7 15 := rfl
theorem fMoon_withBit_8 : w_fe am_c110 8 9 (.iload 0) := ⟨rfl, rfl⟩
theorem fMoon_withBit_9 : w_fe am_c110 9 10 (.bipush 1) := ⟨rfl, rfl⟩
theorem fMoon_withBit_10 : w_fe am_c110 10 11 (.iload 1) := ⟨rfl, rfl⟩
theorem fMoon_withBit_11 : w_fe am_c110 11 12 (.ishl) := ⟨rfl, rfl⟩
theorem fMoon_withBit_12 : w_fe am_c110 12 13 (.bipush (-1)) := ⟨rfl, rfl⟩
theorem fMoon_withBit_13 : w_fe am_c110 13 14 (.ixor) := ⟨rfl, rfl⟩
theorem fMoon_withBit_14 : w_fe am_c110 14 15 (.iand) := ⟨rfl, rfl⟩
theorem fMoon_withBit_15 : w_fe am_c110 15 16 (.ireturn) := ⟨rfl, rfl⟩
set_option maxRecDepth 20000 in
theorem bMoon_withBit_0 {xs : List Int} {d : Nat} {Q : Option w_V → w_M → Prop} {x0 : Int} {x1 : Int} {x2 : Int} {σ : w_M}
    (h : (x2 = 0 → Q (some (.inl (w_and x0 (w_xor (w_shl 1 x1) (-1))))) σ) ∧ (¬ x2 = 0 → Q (some (.inl (w_or x0 (w_shl 1 x1)))) σ)) : w_Call (xs, d) 110 [.inl x0, .inl x1, .inl x2] σ Q :=
  (w_mk (mid := 110) (by decide) rfl rfl rfl rfl rfl (Nat.le_of_ble_eq_true rfl) trivial (wi_iload2 fMoon_withBit_0 (wi_if_eq fMoon_withBit_1 (fun c1 => (wi_iload0 fMoon_withBit_8 (wi_bipush fMoon_withBit_9 (wi_iload1 fMoon_withBit_10 (wi_ishl fMoon_withBit_11 (wi_bipush fMoon_withBit_12 (wi_ixor fMoon_withBit_13 (wi_iand fMoon_withBit_14 (wi_ret1 fMoon_withBit_15 (h.1 c1)))))))))) (fun c1 => (wi_iload0 fMoon_withBit_2 (wi_bipush fMoon_withBit_3 (wi_iload1 fMoon_withBit_4 (wi_ishl fMoon_withBit_5 (wi_ior fMoon_withBit_6 (wi_goto fMoon_withBit_7 (wi_ret1 fMoon_withBit_15 (h.2 c1))))))))))))
theorem fMoon_isWithin_0 : w_fe am_c107 0 1 (.iload 0) := ⟨rfl, rfl⟩
theorem fMoon_isWithin_1 : w_fe am_c107 1 2 (.iload 1) := ⟨rfl, rfl⟩
theorem fMoon_isWithin_2 : w_ic am_c107 2 3 .lt 8 := ⟨rfl, rfl⟩
theorem fMoon_isWithin_3 : w_fe am_c107 3 4 (.iload 0) := ⟨rfl, rfl⟩
theorem fMoon_isWithin_4 : w_fe am_c107 4 5 (.iload 2) := ⟨rfl, rfl⟩
theorem fMoon_isWithin_5 : w_ic am_c107 5 6 .gt 8 := ⟨rfl, rfl⟩
theorem fMoon_isWithin_6 : w_fe am_c107 6 7 (.bipush 1) := ⟨rfl, rfl⟩
theorem fMoon_isWithin_7 : w_gt am_c107 7 9 := rfl
theorem fMoon_isWithin_8 : w_fe am_c107 8 9 (.bipush 0) := ⟨rfl, rfl⟩
theorem fMoon_isWithin_9 : w_fe am_c107 9 10 (.ireturn) := ⟨rfl, rfl⟩
set_option maxRecDepth 20000 in
theorem bMoon_isWithin_0 {xs : List Int} {d : Nat} {Q : Option w_V → w_M → Prop} {x0 : Int} {x1 : Int} {x2 : Int} {σ : w_M}
    (h : (x0 < x1 → Q (some (.inl 0)) σ) ∧ (x1 ≤ x0 → ((x2 < x0 → Q (some (.inl 0)) σ) ∧ (x0 ≤ x2 → Q (some (.inl 1)) σ)))) : w_Call (xs, d) 107 [.inl x0, .inl x1, .inl x2] σ Q :=
  (w_mk (mid := 107) (by decide) rfl rfl rfl rfl rfl (Nat.le_of_ble_eq_true rfl) trivial (wi_iload0 fMoon_isWithin_0 (wi_iload1 fMoon_isWithin_1 (wi_ic_lt fMoon_isWithin_2 (fun c2 => (wi_bipush fMoon_isWithin_8 (wi_ret2 fMoon_isWithin_9 (by decide) (h.1 c2)))) (fun c2 => (wi_iload0 fMoon_isWithin_3 (wi_iload2 fMoon_isWithin_4 (wi_ic_gt fMoon_isWithin_5 (fun c1 => (wi_bipush fMoon_isWithin_8 (wi_ret2 fMoon_isWithin_9 (by decide) ((h.2 c2).1 c1)))) (fun c1 => (wi_bipush fMoon_isWithin_6 (wi_goto fMoon_isWithin_7 (wi_ret2 fMoon_isWithin_9 (by decide) ((h.2 c2).2 c1)))))))))))))
theorem fField_isStrip_0 : w_fe am_c33 0 1 (.iload 1) := ⟨rfl, rfl⟩
theorem fField_isStrip_1 : w_if am_c33 1 2 .lt 8 := ⟨rfl, rfl⟩
theorem fField_isStrip_2 : w_fe am_c33 2 3 (.iload 1) := ⟨rfl, rfl⟩
theorem fField_isStrip_3 : w_fe am_c33 3 4 (.aload 0) := ⟨rfl, rfl⟩
theorem fField_isStrip_4 : w_fe am_c33 4 5 (.getfield 204) := ⟨rfl, rfl⟩
theorem fField_isStrip_5 : w_ic am_c33 5 6 .ge 8 := ⟨rfl, rfl⟩
theorem fField_isStrip_6 : w_fe am_c33 6 7 (.bipush 1) := ⟨rfl, rfl⟩
theorem fField_isStrip_7 : w_gt am_c33 7 9 := rfl
theorem fField_isStrip_8 : w_fe am_c33 8 9 (.bipush 0) := ⟨rfl, rfl⟩
theorem fField_isStrip_9 : w_fe am_c33 9 10 (.ireturn) := ⟨rfl, rfl⟩
set_option maxRecDepth 20000 in
theorem bField_isStrip_0 {xs : List Int} {d : Nat} {Q : Option w_V → w_M → Prop} {a : Nat} {x1 : Int} {σ : w_M}
    (h : (x1 < 0 → Q (some (.inl 0)) σ) ∧ (0 ≤ x1 → (((σ a 4) ≤ x1 → Q (some (.inl 0)) σ) ∧ (x1 < (σ a 4) → Q (some (.inl 1)) σ)))) : w_Call (xs, d) 33 [.inr (.inr (2, a)), .inl x1] σ Q :=
  (w_mk (mid := 33) (by decide) rfl rfl rfl rfl rfl (Nat.le_of_ble_eq_true rfl) ⟨rfl, Or.inl (by decide)⟩ (wi_iload1 fField_isStrip_0 (wi_if_lt fField_isStrip_1 (fun c2 => (wi_bipush fField_isStrip_8 (wi_ret2 fField_isStrip_9 (by decide) (h.1 c2)))) (fun c2 => (wi_iload1 fField_isStrip_2 (wi_aload0 fField_isStrip_3 (wi_getf204 fField_isStrip_4 (wi_ic_ge fField_isStrip_5 (fun c1 => (wi_bipush fField_isStrip_8 (wi_ret2 fField_isStrip_9 (by decide) ((h.2 c2).1 c1)))) (fun c1 => (wi_bipush fField_isStrip_6 (wi_goto fField_isStrip_7 (wi_ret2 fField_isStrip_9 (by decide) ((h.2 c2).2 c1)))))))))))))
theorem fField_isReaper_0 : w_fe am_c38 0 1 (.iload 1) := ⟨rfl, rfl⟩
theorem fField_isReaper_1 : w_if am_c38 1 2 .lt 8 := ⟨rfl, rfl⟩
theorem fField_isReaper_2 : w_fe am_c38 2 3 (.iload 1) := ⟨rfl, rfl⟩
theorem fField_isReaper_3 : w_fe am_c38 3 4 (.aload 0) := ⟨rfl, rfl⟩
theorem fField_isReaper_4 : w_fe am_c38 4 5 (.getfield 205) := ⟨rfl, rfl⟩
theorem fField_isReaper_5 : w_ic am_c38 5 6 .ge 8 := ⟨rfl, rfl⟩
theorem fField_isReaper_6 : w_fe am_c38 6 7 (.bipush 1) := ⟨rfl, rfl⟩
theorem fField_isReaper_7 : w_gt am_c38 7 9 := rfl
theorem fField_isReaper_8 : w_fe am_c38 8 9 (.bipush 0) := ⟨rfl, rfl⟩
theorem fField_isReaper_9 : w_fe am_c38 9 10 (.ireturn) := ⟨rfl, rfl⟩
set_option maxRecDepth 20000 in
theorem bField_isReaper_0 {xs : List Int} {d : Nat} {Q : Option w_V → w_M → Prop} {a : Nat} {x1 : Int} {σ : w_M}
    (h : (x1 < 0 → Q (some (.inl 0)) σ) ∧ (0 ≤ x1 → (((σ a 5) ≤ x1 → Q (some (.inl 0)) σ) ∧ (x1 < (σ a 5) → Q (some (.inl 1)) σ)))) : w_Call (xs, d) 38 [.inr (.inr (2, a)), .inl x1] σ Q :=
  (w_mk (mid := 38) (by decide) rfl rfl rfl rfl rfl (Nat.le_of_ble_eq_true rfl) ⟨rfl, Or.inl (by decide)⟩ (wi_iload1 fField_isReaper_0 (wi_if_lt fField_isReaper_1 (fun c2 => (wi_bipush fField_isReaper_8 (wi_ret2 fField_isReaper_9 (by decide) (h.1 c2)))) (fun c2 => (wi_iload1 fField_isReaper_2 (wi_aload0 fField_isReaper_3 (wi_getf205 fField_isReaper_4 (wi_ic_ge fField_isReaper_5 (fun c1 => (wi_bipush fField_isReaper_8 (wi_ret2 fField_isReaper_9 (by decide) ((h.2 c2).1 c1)))) (fun c1 => (wi_bipush fField_isReaper_6 (wi_goto fField_isReaper_7 (wi_ret2 fField_isReaper_9 (by decide) ((h.2 c2).2 c1)))))))))))))
theorem fField_isCloudy_0 : w_fe am_c29 0 1 (.aload 0) := ⟨rfl, rfl⟩
theorem fField_isCloudy_1 : w_fe am_c29 1 2 (.getfield 202) := ⟨rfl, rfl⟩
theorem fField_isCloudy_2 : w_fe am_c29 2 3 (.iload 1) := ⟨rfl, rfl⟩
theorem fField_isCloudy_3 : w_fe am_c29 3 4 (.ishr) := ⟨rfl, rfl⟩
theorem fField_isCloudy_4 : w_fe am_c29 4 5 (.bipush 1) := ⟨rfl, rfl⟩
theorem fField_isCloudy_5 : w_fe am_c29 5 6 (.iand) := ⟨rfl, rfl⟩
theorem fField_isCloudy_6 : w_if am_c29 6 7 .eq 9 := ⟨rfl, rfl⟩
theorem fField_isCloudy_7 : w_fe am_c29 7 8 (.bipush 1) := ⟨rfl, rfl⟩
theorem fField_isCloudy_8 : w_gt am_c29 8 10 := rfl
theorem fField_isCloudy_9 : w_fe am_c29 9 10 (.bipush 0) := ⟨rfl, rfl⟩
theorem fField_isCloudy_10 : w_fe am_c29 10 11 (.ireturn) := ⟨rfl, rfl⟩
set_option maxRecDepth 20000 in
theorem bField_isCloudy_0 {xs : List Int} {d : Nat} {Q : Option w_V → w_M → Prop} {a : Nat} {x1 : Int} {σ : w_M}
    (h : ((w_and (w_shr (σ a 2) x1) 1) = 0 → Q (some (.inl 0)) σ) ∧ (¬ (w_and (w_shr (σ a 2) x1) 1) = 0 → Q (some (.inl 1)) σ)) : w_Call (xs, d) 29 [.inr (.inr (2, a)), .inl x1] σ Q :=
  (w_mk (mid := 29) (by decide) rfl rfl rfl rfl rfl (Nat.le_of_ble_eq_true rfl) ⟨rfl, Or.inl (by decide)⟩ (wi_aload0 fField_isCloudy_0 (wi_getf202 fField_isCloudy_1 (wi_iload1 fField_isCloudy_2 (wi_ishr fField_isCloudy_3 (wi_bipush fField_isCloudy_4 (wi_iand fField_isCloudy_5 (wi_if_eq fField_isCloudy_6 (fun c1 => (wi_bipush fField_isCloudy_9 (wi_ret2 fField_isCloudy_10 (by decide) (h.1 c1)))) (fun c1 => (wi_bipush fField_isCloudy_7 (wi_goto fField_isCloudy_8 (wi_ret2 fField_isCloudy_10 (by decide) (h.2 c1)))))))))))))
theorem fField_isThistly_0 : w_fe am_c30 0 1 (.aload 0) := ⟨rfl, rfl⟩
theorem fField_isThistly_1 : w_fe am_c30 1 2 (.getfield 206) := ⟨rfl, rfl⟩
theorem fField_isThistly_2 : w_fe am_c30 2 3 (.iload 1) := ⟨rfl, rfl⟩
theorem fField_isThistly_3 : w_fe am_c30 3 4 (.ishr) := ⟨rfl, rfl⟩
theorem fField_isThistly_4 : w_fe am_c30 4 5 (.bipush 1) := ⟨rfl, rfl⟩
theorem fField_isThistly_5 : w_fe am_c30 5 6 (.iand) := ⟨rfl, rfl⟩
theorem fField_isThistly_6 : w_if am_c30 6 7 .eq 9 := ⟨rfl, rfl⟩
theorem fField_isThistly_7 : w_fe am_c30 7 8 (.bipush 1) := ⟨rfl, rfl⟩
theorem fField_isThistly_8 : w_gt am_c30 8 10 := rfl
theorem fField_isThistly_9 : w_fe am_c30 9 10 (.bipush 0) := ⟨rfl, rfl⟩
theorem fField_isThistly_10 : w_fe am_c30 10 11 (.ireturn) := ⟨rfl, rfl⟩
set_option maxRecDepth 20000 in
theorem bField_isThistly_0 {xs : List Int} {d : Nat} {Q : Option w_V → w_M → Prop} {a : Nat} {x1 : Int} {σ : w_M}
    (h : ((w_and (w_shr (σ a 6) x1) 1) = 0 → Q (some (.inl 0)) σ) ∧ (¬ (w_and (w_shr (σ a 6) x1) 1) = 0 → Q (some (.inl 1)) σ)) : w_Call (xs, d) 30 [.inr (.inr (2, a)), .inl x1] σ Q :=
  (w_mk (mid := 30) (by decide) rfl rfl rfl rfl rfl (Nat.le_of_ble_eq_true rfl) ⟨rfl, Or.inl (by decide)⟩ (wi_aload0 fField_isThistly_0 (wi_getf206 fField_isThistly_1 (wi_iload1 fField_isThistly_2 (wi_ishr fField_isThistly_3 (wi_bipush fField_isThistly_4 (wi_iand fField_isThistly_5 (wi_if_eq fField_isThistly_6 (fun c1 => (wi_bipush fField_isThistly_9 (wi_ret2 fField_isThistly_10 (by decide) (h.1 c1)))) (fun c1 => (wi_bipush fField_isThistly_7 (wi_goto fField_isThistly_8 (wi_ret2 fField_isThistly_10 (by decide) (h.2 c1)))))))))))))
theorem fField_hoursLeft_0 : w_fe am_c39 0 1 (.aload 0) := ⟨rfl, rfl⟩
theorem fField_hoursLeft_1 : w_fe am_c39 1 2 (.getfield 200) := ⟨rfl, rfl⟩
theorem fField_hoursLeft_2 : w_fe am_c39 2 3 (.aload 0) := ⟨rfl, rfl⟩
theorem fField_hoursLeft_3 : w_fe am_c39 3 4 (.getfield 201) := ⟨rfl, rfl⟩
theorem fField_hoursLeft_4 : w_fe am_c39 4 5 (.isub) := ⟨rfl, rfl⟩
theorem fField_hoursLeft_5 : w_fe am_c39 5 6 (.ireturn) := ⟨rfl, rfl⟩
set_option maxRecDepth 20000 in
theorem bField_hoursLeft_0 {xs : List Int} {d : Nat} {Q : Option w_V → w_M → Prop} {a : Nat} {σ : w_M}
    (h : w_in ((σ a 0) - (σ a 1)) ∧ Q (some (.inl ((σ a 0) - (σ a 1)))) σ) : w_Call (xs, d) 39 [.inr (.inr (2, a))] σ Q :=
  (w_mk (mid := 39) (by decide) rfl rfl rfl rfl rfl (Nat.le_of_ble_eq_true rfl) ⟨rfl, Or.inl (by decide)⟩ (wi_aload0 fField_hoursLeft_0 (wi_getf200 fField_hoursLeft_1 (wi_aload0 fField_hoursLeft_2 (wi_getf201 fField_hoursLeft_3 (wi_isub fField_hoursLeft_4 h.1 (wi_ret1 fField_hoursLeft_5 h.2)))))))
theorem k_Moon_withBit {xs : List Int} {d : Nat} {Q : Option w_V → w_M → Prop} {x0 : Int} {x1 : Int} {x2 : Int} {σ : w_M} (hQ : Q (some (.inl (v_Moon_withBit x0 x1 x2))) σ) : w_Call (xs, d) 110 [.inl x0, .inl x1, .inl x2] σ Q := by
  unfold v_Moon_withBit at hQ
  refine bMoon_withBit_0 ⟨fun h => ?_, fun h => ?_⟩
  · rw [if_pos h] at hQ; exact hQ
  · rw [if_neg h] at hQ; exact hQ
theorem k_Moon_isWithin {xs : List Int} {d : Nat} {Q : Option w_V → w_M → Prop} {x0 : Int} {x1 : Int} {x2 : Int} {σ : w_M} (hQ : Q (some (.inl (w_bi (x1 ≤ x0 ∧ x0 ≤ x2)))) σ) : w_Call (xs, d) 107 [.inl x0, .inl x1, .inl x2] σ Q := by
  refine bMoon_isWithin_0 ⟨fun h => ?_, fun h => ⟨fun h2 => ?_, fun h2 => ?_⟩⟩
  · rw [w_bi_f (by omega)] at hQ; exact hQ
  · rw [w_bi_f (by omega)] at hQ; exact hQ
  · rw [w_bi_t (by omega)] at hQ; exact hQ
theorem k_Field_isStrip {xs : List Int} {d : Nat} {Q : Option w_V → w_M → Prop} {a : Nat} {x1 : Int} {σ : w_M} (hQ : Q (some (.inl (w_bi (0 ≤ x1 ∧ x1 < σ a 4)))) σ) : w_Call (xs, d) 33 [.inr (.inr (2, a)), .inl x1] σ Q := by
  refine bField_isStrip_0 ⟨fun h => ?_, fun h => ⟨fun h2 => ?_, fun h2 => ?_⟩⟩
  · rw [w_bi_f (by omega)] at hQ; exact hQ
  · rw [w_bi_f (by omega)] at hQ; exact hQ
  · rw [w_bi_t (by omega)] at hQ; exact hQ
theorem k_Field_isReaper {xs : List Int} {d : Nat} {Q : Option w_V → w_M → Prop} {a : Nat} {x1 : Int} {σ : w_M} (hQ : Q (some (.inl (w_bi (0 ≤ x1 ∧ x1 < σ a 5)))) σ) : w_Call (xs, d) 38 [.inr (.inr (2, a)), .inl x1] σ Q := by
  refine bField_isReaper_0 ⟨fun h => ?_, fun h => ⟨fun h2 => ?_, fun h2 => ?_⟩⟩
  · rw [w_bi_f (by omega)] at hQ; exact hQ
  · rw [w_bi_f (by omega)] at hQ; exact hQ
  · rw [w_bi_t (by omega)] at hQ; exact hQ
theorem k_Field_isCloudy {xs : List Int} {d : Nat} {Q : Option w_V → w_M → Prop} {a : Nat} {x1 : Int} {σ : w_M} (hQ : Q (some (.inl (w_bi (¬ w_and (w_shr (σ a 2) x1) 1 = 0)))) σ) : w_Call (xs, d) 29 [.inr (.inr (2, a)), .inl x1] σ Q := by
  refine bField_isCloudy_0 ⟨fun h => ?_, fun h => ?_⟩
  · rw [w_bi_f (fun q => q h)] at hQ; exact hQ
  · rw [w_bi_t h] at hQ; exact hQ
theorem k_Field_isThistly {xs : List Int} {d : Nat} {Q : Option w_V → w_M → Prop} {a : Nat} {x1 : Int} {σ : w_M} (hQ : Q (some (.inl (w_bi (¬ w_and (w_shr (σ a 6) x1) 1 = 0)))) σ) : w_Call (xs, d) 30 [.inr (.inr (2, a)), .inl x1] σ Q := by
  refine bField_isThistly_0 ⟨fun h => ?_, fun h => ?_⟩
  · rw [w_bi_f (fun q => q h)] at hQ; exact hQ
  · rw [w_bi_t h] at hQ; exact hQ
noncomputable def p_Field_hoursLeft (a : Nat) (σ : w_M) : Prop := w_in (σ a 0 - σ a 1)
theorem k_Field_hoursLeft {xs : List Int} {d : Nat} {Q : Option w_V → w_M → Prop} {a : Nat} {σ : w_M} (hp : p_Field_hoursLeft a σ) (hQ : Q (some (.inl (σ a 0 - σ a 1))) σ) : w_Call (xs, d) 39 [.inr (.inr (2, a))] σ Q := bField_hoursLeft_0 ⟨hp, hQ⟩
noncomputable def n_ok (σ : w_M) (a : Nat) : Prop := n_WF (w_ab σ a)
theorem n_ok.rd {σ : w_M} {a d : Nat} {i : Nat} (hd : d < 9) (hi : i < w_rl σ a d) : σ (a + d) i = w_ab σ a d i := w_rd hd hi
theorem n_ok.s {σ : w_M} {a : Nat} (h : n_ok σ a) : 0 ≤ σ a 4 ∧ σ a 4 ≤ 7 := n_WF.s h
theorem n_ok.n {σ : w_M} {a : Nat} (h : n_ok σ a) : 0 ≤ σ a 5 ∧ σ a 5 ≤ 4 := n_WF.n h
theorem n_ok.hrs {σ : w_M} {a : Nat} (h : n_ok σ a) : 1 ≤ σ a 0 ∧ σ a 0 ≤ 12 := n_WF.hrs h
theorem n_ok.hr {σ : w_M} {a : Nat} (h : n_ok σ a) : 0 ≤ σ a 1 ∧ σ a 1 ≤ σ a 0 := n_WF.hr h
noncomputable def p_Field_standing (a : Nat) (σ : w_M) : Prop := n_ok σ a
noncomputable def v_Field_standing (a : Nat) (σ : w_M) : Int := n_sd (w_ab σ a)
theorem fField_standing_0 : w_fe am_c35 0 1 (.bipush 0) := ⟨rfl, rfl⟩
theorem fField_standing_1 : w_fe am_c35 1 2 (.istore 1) := ⟨rfl, rfl⟩
theorem fField_standing_2 : w_fe am_c35 2 3 (.bipush 0) := ⟨rfl, rfl⟩
theorem fField_standing_3 : w_fe am_c35 3 4 (.istore 2) := ⟨rfl, rfl⟩
theorem fField_standing_4 : w_fe am_c35 4 5 (.iload 2) := ⟨rfl, rfl⟩
theorem fField_standing_5 : w_fe am_c35 5 6 (.aload 0) := ⟨rfl, rfl⟩
theorem fField_standing_6 : w_fe am_c35 6 7 (.getfield 204) := ⟨rfl, rfl⟩
theorem fField_standing_7 : w_ic am_c35 7 8 .ge 17 := ⟨rfl, rfl⟩
theorem fField_standing_8 : w_fe am_c35 8 9 (.iload 1) := ⟨rfl, rfl⟩
theorem fField_standing_9 : w_fe am_c35 9 10 (.aload 0) := ⟨rfl, rfl⟩
theorem fField_standing_10 : w_fe am_c35 10 11 (.getfield 207) := ⟨rfl, rfl⟩
theorem fField_standing_11 : w_fe am_c35 11 12 (.iload 2) := ⟨rfl, rfl⟩
theorem fField_standing_12 : w_fe am_c35 12 13 (.iaload) := ⟨rfl, rfl⟩
theorem fField_standing_13 : w_fe am_c35 13 14 (.iadd) := ⟨rfl, rfl⟩
theorem fField_standing_14 : w_fe am_c35 14 15 (.istore 1) := ⟨rfl, rfl⟩
theorem fField_standing_15 : w_fe am_c35 15 16 (.iinc 2 1) := ⟨rfl, rfl⟩
theorem fField_standing_16 : w_gt am_c35 16 4 := rfl
theorem fField_standing_17 : w_fe am_c35 17 18 (.iload 1) := ⟨rfl, rfl⟩
theorem fField_standing_18 : w_fe am_c35 18 19 (.ireturn) := ⟨rfl, rfl⟩
noncomputable def LField_standing_4 (xs : List Int) (d : Nat) (Q : Option w_V → w_M → Prop) (r0 : Nat) (v1 : Int) (v2 : Int) (σ : w_M) : Prop := w_Ex (xs, d) 1 am_c35 Q 4 [some (.inr (.inr (2, r0))), some (.inl v1), some (.inl v2)] [] σ
set_option maxRecDepth 20000 in
theorem bField_standing_0 {xs : List Int} {d : Nat} {Q : Option w_V → w_M → Prop} {a : Nat} {σ : w_M}
    (h : LField_standing_4 xs d Q a 0 0 σ) : w_Call (xs, d) 35 [.inr (.inr (2, a))] σ Q :=
  (w_mk (mid := 35) (by decide) rfl rfl rfl rfl rfl (Nat.le_of_ble_eq_true rfl) ⟨rfl, Or.inl (by decide)⟩ (wi_bipush fField_standing_0 (wi_istore1 fField_standing_1 trivial (wi_bipush fField_standing_2 (wi_istore2 fField_standing_3 trivial h)))))
set_option maxRecDepth 20000 in
theorem bField_standing_4 {xs : List Int} {d : Nat} {Q : Option w_V → w_M → Prop} {r0 : Nat} {v1 : Int} {v2 : Int} {σ : w_M}
    (h : ((σ r0 4) ≤ v2 → Q (some (.inl v1)) σ) ∧ (v2 < (σ r0 4) → (0 ≤ v2 ∧ v2 < 7 ∧ w_in (v1 + (σ (r0 + 1) v2.toNat)) ∧ (∀ (y1 : Int), y1 = (v1 + (σ (r0 + 1) v2.toNat)) → (w_in (v2 + 1) ∧ LField_standing_4 xs d Q r0 y1 (v2 + 1) σ))))) : LField_standing_4 xs d Q r0 v1 v2 σ :=
  (wi_iload2 fField_standing_4 (wi_aload0 fField_standing_5 (wi_getf204 fField_standing_6 (wi_ic_ge fField_standing_7 (fun c2 => (wi_iload1 fField_standing_17 (wi_ret1 fField_standing_18 (h.1 c2)))) (fun c2 => (wi_iload1 fField_standing_8 (wi_aload0 fField_standing_9 (wi_getf207 fField_standing_10 (wi_iload2 fField_standing_11 (wi_iald1007 fField_standing_12 (h.2 c2).1 (h.2 c2).2.1 (wi_iadd fField_standing_13 (h.2 c2).2.2.1 (wi_istore1 fField_standing_14 trivial (wi_iinc2 fField_standing_15 trivial ((h.2 c2).2.2.2 _ rfl).1 (wi_goto fField_standing_16 ((h.2 c2).2.2.2 _ rfl).2))))))))))))))
theorem k_Field_standing {xs : List Int} {d : Nat} {Q : Option w_V → w_M → Prop} {a : Nat} {σ : w_M} (hp : p_Field_standing a σ) (hQ : Q (some (.inl (v_Field_standing a σ))) σ) : w_Call (xs, d) 35 [.inr (.inr (2, a))] σ Q := by
  refine bField_standing_0 ?_
  have hs := n_ok.s hp
  refine w_loop (n := (σ a 4).toNat) (P := fun i => LField_standing_4 xs d Q a (f_sum (w_ab σ a 1) i) (i : Int) σ) ?_ ?_
  · exact bField_standing_4 ⟨fun _ => hQ, fun h => by omega⟩
  · intro i hi ih
    have hi2 : i < n_s (w_ab σ a) := hi
    have e : σ (a + 1) i = w_ab σ a 1 i := w_rd (by decide) hi
    have h1 := (n_WF.i hp hi2).1
    have h2 := f_sum_le (f := w_ab σ a 1) (B := 40) (fun i hi => (n_WF.i hp hi).1) (Nat.le_of_lt hi2)
    refine bField_standing_4 ⟨fun h => by omega, fun h => ⟨by omega, by omega, ?_, fun y e2 => ⟨⟨by omega, by omega⟩, ?_⟩⟩⟩
    · rw [Int.toNat_natCast, e]; exact ⟨by omega, by omega⟩
    · rw [e2, Int.toNat_natCast, e, ← w_cs1]; exact ih
noncomputable def n_tell (A : w_M) (r w : Int) : Int := if 0 ≤ r ∧ r < A 0 5 then (if 0 ≤ w ∧ w ≤ 4 then A (3 + w.toNat) r.toNat else -1) else -1
noncomputable def p_Field_tellOf (a : Nat) (_ _ : Int) (σ : w_M) : Prop := n_ok σ a
noncomputable def v_Field_tellOf (a : Nat) (x1 x2 : Int) (σ : w_M) : Int := n_tell (w_ab σ a) x1 x2
theorem fField_tellOf_0 : w_fe am_c37 0 1 (.aload 0) := ⟨rfl, rfl⟩
theorem fField_tellOf_1 : w_fe am_c37 1 2 (.iload 1) := ⟨rfl, rfl⟩
theorem fField_tellOf_2 : w_fe am_c37 2 3 (.invokestatic 38) := ⟨rfl, rfl⟩
theorem fField_tellOf_3 : w_if am_c37 3 4 .ne 6 := ⟨rfl, rfl⟩
theorem fField_tellOf_4 : w_fe am_c37 4 5 (.bipush (-1)) := ⟨rfl, rfl⟩
theorem fField_tellOf_5 : w_fe am_c37 5 6 (.ireturn) := ⟨rfl, rfl⟩
theorem fField_tellOf_6 : w_fe am_c37 6 7 (.iload 2) := ⟨rfl, rfl⟩
theorem fField_tellOf_7 {E : w_C} {rt : Nat} {Q : Option w_V → w_M → Prop} {ls : w_L} {st : List w_V} {σ : w_M} {x : Int} (h0 : x = 0 → w_Ex E rt am_c37 Q 8 ls st σ) (h1 : x = 1 → w_Ex E rt am_c37 Q 13 ls st σ) (h2 : x = 2 → w_Ex E rt am_c37 Q 18 ls st σ) (h3 : x = 3 → w_Ex E rt am_c37 Q 23 ls st σ) (h4 : x = 4 → w_Ex E rt am_c37 Q 28 ls st σ) (hd : x < 0 ∨ 4 < x → w_Ex E rt am_c37 Q 33 ls st σ) : w_Ex E rt am_c37 Q 7 ls (.inl x :: st) σ :=
  w_Ex_in (op := .tableswitch 33 0 4 #[8, 13, 18, 23, 28]) rfl ⟨rfl, hd, And.intro h0 (And.intro h1 (And.intro h2 (And.intro h3 (And.intro h4 ( trivial)))))⟩
theorem fField_tellOf_8 : w_fe am_c37 8 9 (.aload 0) := ⟨rfl, rfl⟩
theorem fField_tellOf_9 : w_fe am_c37 9 10 (.getfield 209) := ⟨rfl, rfl⟩
theorem fField_tellOf_10 : w_fe am_c37 10 11 (.iload 1) := ⟨rfl, rfl⟩
theorem fField_tellOf_11 : w_fe am_c37 11 12 (.iaload) := ⟨rfl, rfl⟩
theorem fField_tellOf_12 : w_fe am_c37 12 13 (.ireturn) := ⟨rfl, rfl⟩
theorem fField_tellOf_13 : w_fe am_c37 13 14 (.aload 0) := ⟨rfl, rfl⟩
theorem fField_tellOf_14 : w_fe am_c37 14 15 (.getfield 210) := ⟨rfl, rfl⟩
theorem fField_tellOf_15 : w_fe am_c37 15 16 (.iload 1) := ⟨rfl, rfl⟩
theorem fField_tellOf_16 : w_fe am_c37 16 17 (.iaload) := ⟨rfl, rfl⟩
theorem fField_tellOf_17 : w_fe am_c37 17 18 (.ireturn) := ⟨rfl, rfl⟩
theorem fField_tellOf_18 : w_fe am_c37 18 19 (.aload 0) := ⟨rfl, rfl⟩
theorem fField_tellOf_19 : w_fe am_c37 19 20 (.getfield 211) := ⟨rfl, rfl⟩
theorem fField_tellOf_20 : w_fe am_c37 20 21 (.iload 1) := ⟨rfl, rfl⟩
theorem fField_tellOf_21 : w_fe am_c37 21 22 (.iaload) := ⟨rfl, rfl⟩
theorem fField_tellOf_22 : w_fe am_c37 22 23 (.ireturn) := ⟨rfl, rfl⟩
theorem fField_tellOf_23 : w_fe am_c37 23 24 (.aload 0) := ⟨rfl, rfl⟩
theorem fField_tellOf_24 : w_fe am_c37 24 25 (.getfield 212) := ⟨rfl, rfl⟩
theorem fField_tellOf_25 : w_fe am_c37 25 26 (.iload 1) := ⟨rfl, rfl⟩
theorem fField_tellOf_26 : w_fe am_c37 26 27 (.iaload) := ⟨rfl, rfl⟩
theorem fField_tellOf_27 : w_fe am_c37 27 28 (.ireturn) := ⟨rfl, rfl⟩
theorem fField_tellOf_28 : w_fe am_c37 28 29 (.aload 0) := ⟨rfl, rfl⟩
theorem fField_tellOf_29 : w_fe am_c37 29 30 (.getfield 213) := ⟨rfl, rfl⟩
theorem fField_tellOf_30 : w_fe am_c37 30 31 (.iload 1) := ⟨rfl, rfl⟩
theorem fField_tellOf_31 : w_fe am_c37 31 32 (.iaload) := ⟨rfl, rfl⟩
theorem fField_tellOf_32 : w_fe am_c37 32 33 (.ireturn) := ⟨rfl, rfl⟩
theorem fField_tellOf_33 : w_fe am_c37 33 34 (.bipush (-1)) := ⟨rfl, rfl⟩
theorem fField_tellOf_34 : w_fe am_c37 34 35 (.ireturn) := ⟨rfl, rfl⟩
set_option maxRecDepth 20000 in
theorem bField_tellOf_0 {xs : List Int} {d : Nat} {Q : Option w_V → w_M → Prop} {a : Nat} {x1 : Int} {x2 : Int} {σ : w_M}
    (h : ((0 ≤ x1 ∧ x1 < σ a 5) → ((x2 = 0 → (0 ≤ x1 ∧ x1 < 4 ∧ Q (some (.inl (σ (a + 3) x1.toNat))) σ)) ∧ (x2 = 1 → (0 ≤ x1 ∧ x1 < 4 ∧ Q (some (.inl (σ (a + 4) x1.toNat))) σ)) ∧ (x2 = 2 → (0 ≤ x1 ∧ x1 < 4 ∧ Q (some (.inl (σ (a + 5) x1.toNat))) σ)) ∧ (x2 = 3 → (0 ≤ x1 ∧ x1 < 4 ∧ Q (some (.inl (σ (a + 6) x1.toNat))) σ)) ∧ (x2 = 4 → (0 ≤ x1 ∧ x1 < 4 ∧ Q (some (.inl (σ (a + 7) x1.toNat))) σ)) ∧ (x2 < 0 ∨ 4 < x2 → Q (some (.inl (-1))) σ))) ∧ (¬ (0 ≤ x1 ∧ x1 < σ a 5) → Q (some (.inl (-1))) σ)) : w_Call (xs, (d + 1)) 37 [.inr (.inr (2, a)), .inl x1, .inl x2] σ Q :=
  (w_mk (mid := 37) (by decide) rfl rfl rfl rfl rfl (Nat.le_of_ble_eq_true rfl) ⟨rfl, Or.inl (by decide)⟩ (wi_aload0 fField_tellOf_0 (wi_iload1 fField_tellOf_1 (wi_call2 fField_tellOf_2 (Nat.le_of_ble_eq_true rfl) (k_Field_isReaper (wi_ifb_ne fField_tellOf_3 (fun c1 => (wi_iload2 fField_tellOf_6 (fField_tellOf_7 (fun c => (wi_aload0 fField_tellOf_8 (wi_getf209 fField_tellOf_9 (wi_iload1 fField_tellOf_10 (wi_iald1004 fField_tellOf_11 ((h.1 c1).1 c).1 ((h.1 c1).1 c).2.1 (wi_ret1 fField_tellOf_12 ((h.1 c1).1 c).2.2)))))) (fun c => (wi_aload0 fField_tellOf_13 (wi_getf210 fField_tellOf_14 (wi_iload1 fField_tellOf_15 (wi_iald1004 fField_tellOf_16 ((h.1 c1).2.1 c).1 ((h.1 c1).2.1 c).2.1 (wi_ret1 fField_tellOf_17 ((h.1 c1).2.1 c).2.2)))))) (fun c => (wi_aload0 fField_tellOf_18 (wi_getf211 fField_tellOf_19 (wi_iload1 fField_tellOf_20 (wi_iald1004 fField_tellOf_21 ((h.1 c1).2.2.1 c).1 ((h.1 c1).2.2.1 c).2.1 (wi_ret1 fField_tellOf_22 ((h.1 c1).2.2.1 c).2.2)))))) (fun c => (wi_aload0 fField_tellOf_23 (wi_getf212 fField_tellOf_24 (wi_iload1 fField_tellOf_25 (wi_iald1004 fField_tellOf_26 ((h.1 c1).2.2.2.1 c).1 ((h.1 c1).2.2.2.1 c).2.1 (wi_ret1 fField_tellOf_27 ((h.1 c1).2.2.2.1 c).2.2)))))) (fun c => (wi_aload0 fField_tellOf_28 (wi_getf213 fField_tellOf_29 (wi_iload1 fField_tellOf_30 (wi_iald1004 fField_tellOf_31 ((h.1 c1).2.2.2.2.1 c).1 ((h.1 c1).2.2.2.2.1 c).2.1 (wi_ret1 fField_tellOf_32 ((h.1 c1).2.2.2.2.1 c).2.2)))))) (fun c => (wi_bipush fField_tellOf_33 (wi_ret1 fField_tellOf_34 ((h.1 c1).2.2.2.2.2 c))))))) (fun c1 => (wi_bipush fField_tellOf_4 (wi_ret1 fField_tellOf_5 (h.2 c1))))))))))
theorem k_Field_tellOf {xs : List Int} {d : Nat} {Q : Option w_V → w_M → Prop} {a : Nat} {x1 : Int} {x2 : Int} {σ : w_M} (hp : p_Field_tellOf a x1 x2 σ) (hQ : Q (some (.inl (v_Field_tellOf a x1 x2 σ))) σ) : w_Call (xs, d + 1) 37 [.inr (.inr (2, a)), .inl x1, .inl x2] σ Q := by
  have hn := n_ok.n hp
  unfold v_Field_tellOf n_tell at hQ
  have e5 : w_ab σ a 0 5 = σ a 5 := rfl
  rw [e5] at hQ
  have key : ∀ k : Nat, k ≤ 4 → x2 = k → (0 ≤ x1 ∧ x1 < σ a 5) → Q (some (.inl (σ (a + (3 + k)) x1.toNat))) σ := by
    intro k hk e h
    have h3 : x1.toNat < w_rl σ a (3 + k) := by
      unfold w_rl
      rw [if_neg (by omega), if_neg (by omega), if_pos (by omega)]
      omega
    rw [if_pos h, if_pos (by omega), e, Int.toNat_natCast, ← w_rd (by omega) h3] at hQ
    exact hQ
  refine bField_tellOf_0 ⟨fun h => ⟨fun e => ⟨h.1, by omega, key 0 (by decide) e h⟩, fun e => ⟨h.1, by omega, key 1 (by decide) e h⟩, fun e => ⟨h.1, by omega, key 2 (by decide) e h⟩, fun e => ⟨h.1, by omega, key 3 (by decide) e h⟩, fun e => ⟨h.1, by omega, key 4 (by decide) e h⟩, fun e => ?_⟩, fun h => ?_⟩
  · rw [if_pos h, if_neg (by omega)] at hQ; exact hQ
  · rw [if_neg h] at hQ; exact hQ
/-- a sum that may wrap around -/
noncomputable def f_ws (f : Nat → Int) : Nat → Int
  | 0 => 0
  | n + 1 => w_wr (f_ws f n + f n)
theorem w_wr_of {x : Int} (h : w_in x) : w_wr x = x := by
  unfold w_in at h
  unfold w_wr
  rw [Int.bmod_eq_of_le (by omega) (by omega)]
theorem f_ws_eq {f : Nat → Int} {m : Nat} {B : Int} (hB : 0 ≤ B ∧ B ≤ 1000) (hm : m ≤ 100) (h : ∀ i, i < m → 0 ≤ f i ∧ f i ≤ B) {n : Nat} (hn : n ≤ m) : f_ws f n = f_sum f n := by
  induction n with
  | zero => rfl
  | succ n ih =>
    simp only [f_ws, f_sum]
    rw [ih (by omega)]
    apply w_wr_of
    have h1 := f_sum_le h (show n ≤ m by omega)
    have h2 := h n (by omega)
    have h3 : B * n ≤ 1000 * 100 := Int.mul_le_mul hB.2 (by omega) (by omega) (by omega)
    constructor <;> omega
theorem f_ws_congr {f g : Nat → Int} {n : Nat} (h : ∀ i, i < n → f i = g i) : f_ws f n = f_ws g n := by
  induction n with
  | zero => rfl
  | succ n ih => simp only [f_ws]; rw [ih (fun i hi => h i (by omega)), h n (by omega)]
noncomputable def p_Field_sumOfReapers (a _b : Nat) (σ : w_M) : Prop := 0 ≤ σ a 5 ∧ σ a 5 ≤ 4
noncomputable def v_Field_sumOfReapers (a b : Nat) (σ : w_M) : Int := f_ws (σ b) (σ a 5).toNat
noncomputable def w_c49 : List Instr := [.bipush 0, .istore 2, .bipush 0, .istore 3, .iload 3, .aload 0, .getfield 205, .if_icmp .ge 20, .iload 3, .aload 1, .arraylength, .if_icmp .ge 20, .iload 2, .aload 1, .iload 3, .iaload, .fadd, .istore 2, .iinc 3 1, .goto 4, .iload 2, .ireturn]
theorem fField_sumOfReapers_0 : w_fe w_c49 0 1 (.bipush 0) := ⟨rfl, rfl⟩
theorem fField_sumOfReapers_1 : w_fe w_c49 1 2 (.istore 2) := ⟨rfl, rfl⟩
theorem fField_sumOfReapers_2 : w_fe w_c49 2 3 (.bipush 0) := ⟨rfl, rfl⟩
theorem fField_sumOfReapers_3 : w_fe w_c49 3 4 (.istore 3) := ⟨rfl, rfl⟩
theorem fField_sumOfReapers_4 : w_fe w_c49 4 5 (.iload 3) := ⟨rfl, rfl⟩
theorem fField_sumOfReapers_5 : w_fe w_c49 5 6 (.aload 0) := ⟨rfl, rfl⟩
theorem fField_sumOfReapers_6 : w_fe w_c49 6 7 (.getfield 205) := ⟨rfl, rfl⟩
theorem fField_sumOfReapers_7 : w_ic w_c49 7 8 .ge 20 := ⟨rfl, rfl⟩
theorem fField_sumOfReapers_8 : w_fe w_c49 8 9 (.iload 3) := ⟨rfl, rfl⟩
theorem fField_sumOfReapers_9 : w_fe w_c49 9 10 (.aload 1) := ⟨rfl, rfl⟩
theorem fField_sumOfReapers_10 : w_fe w_c49 10 11 (.arraylength) := ⟨rfl, rfl⟩
theorem fField_sumOfReapers_11 : w_ic w_c49 11 12 .ge 20 := ⟨rfl, rfl⟩
theorem fField_sumOfReapers_12 : w_fe w_c49 12 13 (.iload 2) := ⟨rfl, rfl⟩
theorem fField_sumOfReapers_13 : w_fe w_c49 13 14 (.aload 1) := ⟨rfl, rfl⟩
theorem fField_sumOfReapers_14 : w_fe w_c49 14 15 (.iload 3) := ⟨rfl, rfl⟩
theorem fField_sumOfReapers_15 : w_fe w_c49 15 16 (.iaload) := ⟨rfl, rfl⟩
theorem fField_sumOfReapers_16 : w_fe w_c49 16 17 (.fadd) := ⟨rfl, rfl⟩
theorem fField_sumOfReapers_17 : w_fe w_c49 17 18 (.istore 2) := ⟨rfl, rfl⟩
theorem fField_sumOfReapers_18 : w_fe w_c49 18 19 (.iinc 3 1) := ⟨rfl, rfl⟩
theorem fField_sumOfReapers_19 : w_gt w_c49 19 4 := rfl
theorem fField_sumOfReapers_20 : w_fe w_c49 20 21 (.iload 2) := ⟨rfl, rfl⟩
theorem fField_sumOfReapers_21 : w_fe w_c49 21 22 (.ireturn) := ⟨rfl, rfl⟩
noncomputable def LField_sumOfReapers_4 (xs : List Int) (d : Nat) (Q : Option w_V → w_M → Prop) (r0 : Nat) (r1 : Nat) (v2 : Int) (v3 : Int) (σ : w_M) : Prop := w_Ex (xs, d) 1 w_c49 Q 4 [some (.inr (.inr (2, r0))), some (.inr (.inr (1004, r1))), some (.inl v2), some (.inl v3)] [] σ
set_option maxRecDepth 20000 in
theorem bField_sumOfReapers_0 {xs : List Int} {d : Nat} {Q : Option w_V → w_M → Prop} {a : Nat} {b : Nat} {σ : w_M}
    (h : LField_sumOfReapers_4 xs d Q a b 0 0 σ) : w_Call (xs, d) 49 [.inr (.inr (2, a)), .inr (.inr (1004, b))] σ Q :=
  (w_mk (mid := 49) (by decide) rfl rfl rfl rfl rfl (Nat.le_of_ble_eq_true rfl) ⟨rfl, Or.inl (by decide)⟩ (wi_bipush fField_sumOfReapers_0 (wi_istore2 fField_sumOfReapers_1 trivial (wi_bipush fField_sumOfReapers_2 (wi_istore3 fField_sumOfReapers_3 trivial h)))))
set_option maxRecDepth 20000 in
theorem bField_sumOfReapers_4 {xs : List Int} {d : Nat} {Q : Option w_V → w_M → Prop} {r0 : Nat} {r1 : Nat} {v2 : Int} {v3 : Int} {σ : w_M}
    (h : ((σ r0 5) ≤ v3 → Q (some (.inl v2)) σ) ∧ (v3 < (σ r0 5) → ((4 ≤ v3 → Q (some (.inl v2)) σ) ∧ (v3 < 4 → (0 ≤ v3 ∧ (∀ (y1 : Int), y1 = (w_wr (v2 + (σ r1 v3.toNat))) → (w_in (v3 + 1) ∧ LField_sumOfReapers_4 xs d Q r0 r1 y1 (v3 + 1) σ))))))) : LField_sumOfReapers_4 xs d Q r0 r1 v2 v3 σ :=
  (wi_iload3 fField_sumOfReapers_4 (wi_aload0 fField_sumOfReapers_5 (wi_getf205 fField_sumOfReapers_6 (wi_ic_ge fField_sumOfReapers_7 (fun c3 => (wi_iload2 fField_sumOfReapers_20 (wi_ret1 fField_sumOfReapers_21 (h.1 c3)))) (fun c3 => (wi_iload3 fField_sumOfReapers_8 (wi_aload1 fField_sumOfReapers_9 (wi_alen1004 fField_sumOfReapers_10 (wi_ic_ge fField_sumOfReapers_11 (fun c2 => (wi_iload2 fField_sumOfReapers_20 (wi_ret1 fField_sumOfReapers_21 ((h.2 c3).1 c2)))) (fun c2 => (wi_iload2 fField_sumOfReapers_12 (wi_aload1 fField_sumOfReapers_13 (wi_iload3 fField_sumOfReapers_14 (wi_iald1004 fField_sumOfReapers_15 ((h.2 c3).2 c2).1 c2 (wi_fadd fField_sumOfReapers_16 (wi_istore2 fField_sumOfReapers_17 trivial (wi_iinc3 fField_sumOfReapers_18 trivial (((h.2 c3).2 c2).2 _ rfl).1 (wi_goto fField_sumOfReapers_19 (((h.2 c3).2 c2).2 _ rfl).2))))))))))))))))))
theorem k_Field_sumOfReapers {xs : List Int} {d : Nat} {Q : Option w_V → w_M → Prop} {a : Nat} {b : Nat} {σ : w_M} (hp : p_Field_sumOfReapers a b σ) (hQ : Q (some (.inl (v_Field_sumOfReapers a b σ))) σ) : w_Call (xs, d) 49 [.inr (.inr (2, a)), .inr (.inr (1004, b))] σ Q := by
  unfold p_Field_sumOfReapers at hp
  refine bField_sumOfReapers_0 ?_
  refine w_loop (n := (σ a 5).toNat) (P := fun i => LField_sumOfReapers_4 xs d Q a b (f_ws (σ b) i) (i : Int) σ) ?_ ?_
  · exact bField_sumOfReapers_4 ⟨fun _ => hQ, fun h => by omega⟩
  · intro i hi ih
    refine bField_sumOfReapers_4 ⟨fun h => by omega, fun h => ⟨fun h => by omega, fun h => ⟨by omega, fun y e => ⟨⟨by omega, by omega⟩, ?_⟩⟩⟩⟩
    rw [e, Int.toNat_natCast, ← w_cs1]
    exact ih
noncomputable def p_Field_allPaces (a : Nat) (σ : w_M) : Prop := n_ok σ a
noncomputable def p_Field_allOil (a : Nat) (σ : w_M) : Prop := n_ok σ a
noncomputable def p_Field_allWages (a : Nat) (σ : w_M) : Prop := n_ok σ a
noncomputable def n_pcs (A : w_M) : Int := f_sum (A 3) (n_n A)
noncomputable def n_oils (A : w_M) : Int := f_sum (A 4) (n_n A)
noncomputable def n_wgs (A : w_M) : Int := f_ws (A 7) (n_n A)
noncomputable def v_Field_allPaces (a : Nat) (σ : w_M) : Int := n_pcs (w_ab σ a)
noncomputable def v_Field_allOil (a : Nat) (σ : w_M) : Int := n_oils (w_ab σ a)
noncomputable def v_Field_allWages (a : Nat) (σ : w_M) : Int := n_wgs (w_ab σ a)
theorem fField_allPaces_0 : w_fe am_c48 0 1 (.aload 0) := ⟨rfl, rfl⟩
theorem fField_allPaces_1 : w_fe am_c48 1 2 (.aload 0) := ⟨rfl, rfl⟩
theorem fField_allPaces_2 : w_fe am_c48 2 3 (.getfield 209) := ⟨rfl, rfl⟩
theorem fField_allPaces_3 : w_fe am_c48 3 4 (.invokestatic 49) := ⟨rfl, rfl⟩
theorem fField_allPaces_4 : w_fe am_c48 4 5 (.ireturn) := ⟨rfl, rfl⟩
set_option maxRecDepth 20000 in
theorem bField_allPaces_0 {xs : List Int} {d : Nat} {Q : Option w_V → w_M → Prop} {a : Nat} {σ : w_M}
    (h : p_Field_sumOfReapers a (a + 3) σ ∧ (∀ (y1 : Int), y1 = v_Field_sumOfReapers a (a + 3) σ → Q (some (.inl y1)) σ)) : w_Call (xs, (d + 1)) 48 [.inr (.inr (2, a))] σ Q :=
  (w_mk (mid := 48) (by decide) rfl rfl rfl rfl rfl (Nat.le_of_ble_eq_true rfl) ⟨rfl, Or.inl (by decide)⟩ (wi_aload0 fField_allPaces_0 (wi_aload0 fField_allPaces_1 (wi_getf209 fField_allPaces_2 (wi_call2 fField_allPaces_3 (Nat.le_of_ble_eq_true rfl) (k_Field_sumOfReapers h.1 (wi_ret1 fField_allPaces_4 (h.2 _ rfl))))))))
theorem fField_allOil_0 : w_fe am_c50 0 1 (.aload 0) := ⟨rfl, rfl⟩
theorem fField_allOil_1 : w_fe am_c50 1 2 (.aload 0) := ⟨rfl, rfl⟩
theorem fField_allOil_2 : w_fe am_c50 2 3 (.getfield 210) := ⟨rfl, rfl⟩
theorem fField_allOil_3 : w_fe am_c50 3 4 (.invokestatic 49) := ⟨rfl, rfl⟩
theorem fField_allOil_4 : w_fe am_c50 4 5 (.ireturn) := ⟨rfl, rfl⟩
set_option maxRecDepth 20000 in
theorem bField_allOil_0 {xs : List Int} {d : Nat} {Q : Option w_V → w_M → Prop} {a : Nat} {σ : w_M}
    (h : p_Field_sumOfReapers a (a + 4) σ ∧ (∀ (y1 : Int), y1 = v_Field_sumOfReapers a (a + 4) σ → Q (some (.inl y1)) σ)) : w_Call (xs, (d + 1)) 50 [.inr (.inr (2, a))] σ Q :=
  (w_mk (mid := 50) (by decide) rfl rfl rfl rfl rfl (Nat.le_of_ble_eq_true rfl) ⟨rfl, Or.inl (by decide)⟩ (wi_aload0 fField_allOil_0 (wi_aload0 fField_allOil_1 (wi_getf210 fField_allOil_2 (wi_call2 fField_allOil_3 (Nat.le_of_ble_eq_true rfl) (k_Field_sumOfReapers h.1 (wi_ret1 fField_allOil_4 (h.2 _ rfl))))))))
theorem fField_allWages_0 : w_fe am_c52 0 1 (.aload 0) := ⟨rfl, rfl⟩
theorem fField_allWages_1 : w_fe am_c52 1 2 (.aload 0) := ⟨rfl, rfl⟩
theorem fField_allWages_2 : w_fe am_c52 2 3 (.getfield 213) := ⟨rfl, rfl⟩
theorem fField_allWages_3 : w_fe am_c52 3 4 (.invokestatic 49) := ⟨rfl, rfl⟩
theorem fField_allWages_4 : w_fe am_c52 4 5 (.ireturn) := ⟨rfl, rfl⟩
set_option maxRecDepth 20000 in
theorem bField_allWages_0 {xs : List Int} {d : Nat} {Q : Option w_V → w_M → Prop} {a : Nat} {σ : w_M}
    (h : p_Field_sumOfReapers a (a + 7) σ ∧ (∀ (y1 : Int), y1 = v_Field_sumOfReapers a (a + 7) σ → Q (some (.inl y1)) σ)) : w_Call (xs, (d + 1)) 52 [.inr (.inr (2, a))] σ Q :=
  (w_mk (mid := 52) (by decide) rfl rfl rfl rfl rfl (Nat.le_of_ble_eq_true rfl) ⟨rfl, Or.inl (by decide)⟩ (wi_aload0 fField_allWages_0 (wi_aload0 fField_allWages_1 (wi_getf213 fField_allWages_2 (wi_call2 fField_allWages_3 (Nat.le_of_ble_eq_true rfl) (k_Field_sumOfReapers h.1 (wi_ret1 fField_allWages_4 (h.2 _ rfl))))))))
theorem w_rl37 {σ : w_M} {a d : Nat} (h1 : 3 ≤ d) (h2 : d ≤ 7) : w_rl σ a d = (σ a 5).toNat := by
  unfold w_rl
  rw [if_neg (by omega), if_neg (by omega), if_pos (by omega)]
theorem k_Field_allPaces {xs : List Int} {d : Nat} {Q : Option w_V → w_M → Prop} {a : Nat} {σ : w_M} (hp : p_Field_allPaces a σ) (hQ : Q (some (.inl (v_Field_allPaces a σ))) σ) : w_Call (xs, d + 1) 48 [.inr (.inr (2, a))] σ Q := by
  have hn := n_ok.n hp
  refine bField_allPaces_0 ⟨hn, fun y e => ?_⟩
  have : y = n_pcs (w_ab σ a) := by
    rw [e]
    unfold v_Field_sumOfReapers n_pcs
    rw [f_ws_congr (g := w_ab σ a 3) (fun i hi => w_rd (by decide) (by rw [w_rl37 (by decide) (by decide)]; exact hi))]
    exact f_ws_eq (m := (σ a 5).toNat) (B := 9) (by decide) (by omega) (fun i hi => by have := (n_WF.r hp hi).1; omega) (Nat.le_refl _)
  rw [this]
  exact hQ
theorem k_Field_allOil {xs : List Int} {d : Nat} {Q : Option w_V → w_M → Prop} {a : Nat} {σ : w_M} (hp : p_Field_allOil a σ) (hQ : Q (some (.inl (v_Field_allOil a σ))) σ) : w_Call (xs, d + 1) 50 [.inr (.inr (2, a))] σ Q := by
  have hn := n_ok.n hp
  refine bField_allOil_0 ⟨hn, fun y e => ?_⟩
  have : y = n_oils (w_ab σ a) := by
    rw [e]
    unfold v_Field_sumOfReapers n_oils
    rw [f_ws_congr (g := w_ab σ a 4) (fun i hi => w_rd (by decide) (by rw [w_rl37 (by decide) (by decide)]; exact hi))]
    exact f_ws_eq (m := (σ a 5).toNat) (B := 9) (by decide) (by omega) (fun i hi => by have := (n_WF.r hp hi).2.1; omega) (Nat.le_refl _)
  rw [this]
  exact hQ
theorem k_Field_allWages {xs : List Int} {d : Nat} {Q : Option w_V → w_M → Prop} {a : Nat} {σ : w_M} (hp : p_Field_allWages a σ) (hQ : Q (some (.inl (v_Field_allWages a σ))) σ) : w_Call (xs, d + 1) 52 [.inr (.inr (2, a))] σ Q := by
  have hn := n_ok.n hp
  refine bField_allWages_0 ⟨hn, fun y e => ?_⟩
  have : y = n_wgs (w_ab σ a) := by
    rw [e]
    unfold v_Field_sumOfReapers n_wgs
    exact f_ws_congr (g := w_ab σ a 7) (fun i hi => w_rd (by decide) (by rw [w_rl37 (by decide) (by decide)]; exact hi))
  rw [this]
  exact hQ
