/-! A Field's methods: counting, the nearest strip, work -/
theorem w_rl12 {σ : w_M} {a d : Nat} (h1 : 1 ≤ d) (h2 : d ≤ 2) : w_rl σ a d = (σ a 4).toNat := by
  unfold w_rl
  rw [if_neg (by omega), if_pos (by omega)]
noncomputable def n_swy (A : w_M) : Int := f_sum (fun i => if 0 < A 1 i then 1 else 0) (n_s A)
noncomputable def p_Field_stripsWithYards (a : Nat) (σ : w_M) : Prop := n_ok σ a
noncomputable def v_Field_stripsWithYards (a : Nat) (σ : w_M) : Int := n_swy (w_ab σ a)
theorem fField_stripsWithYards_0 : w_fe am_c51 0 1 (.bipush 0) := ⟨rfl, rfl⟩
theorem fField_stripsWithYards_1 : w_fe am_c51 1 2 (.istore 1) := ⟨rfl, rfl⟩
theorem fField_stripsWithYards_2 : w_fe am_c51 2 3 (.bipush 0) := ⟨rfl, rfl⟩
theorem fField_stripsWithYards_3 : w_fe am_c51 3 4 (.istore 2) := ⟨rfl, rfl⟩
theorem fField_stripsWithYards_4 : w_fe am_c51 4 5 (.iload 2) := ⟨rfl, rfl⟩
theorem fField_stripsWithYards_5 : w_fe am_c51 5 6 (.aload 0) := ⟨rfl, rfl⟩
theorem fField_stripsWithYards_6 : w_fe am_c51 6 7 (.getfield 204) := ⟨rfl, rfl⟩
theorem fField_stripsWithYards_7 : w_ic am_c51 7 8 .ge 16 := ⟨rfl, rfl⟩
theorem fField_stripsWithYards_8 : w_fe am_c51 8 9 (.aload 0) := ⟨rfl, rfl⟩
theorem fField_stripsWithYards_9 : w_fe am_c51 9 10 (.getfield 207) := ⟨rfl, rfl⟩
theorem fField_stripsWithYards_10 : w_fe am_c51 10 11 (.iload 2) := ⟨rfl, rfl⟩
theorem fField_stripsWithYards_11 : w_fe am_c51 11 12 (.iaload) := ⟨rfl, rfl⟩
theorem fField_stripsWithYards_12 : w_if am_c51 12 13 .le 14 := ⟨rfl, rfl⟩
theorem fField_stripsWithYards_13 : w_fe am_c51 13 14 (.iinc 1 1) := ⟨rfl, rfl⟩
theorem fField_stripsWithYards_14 : w_fe am_c51 14 15 (.iinc 2 1) := ⟨rfl, rfl⟩
theorem fField_stripsWithYards_15 : w_gt am_c51 15 4 := rfl
theorem fField_stripsWithYards_16 : w_fe am_c51 16 17 (.iload 1) := ⟨rfl, rfl⟩
theorem fField_stripsWithYards_17 : w_fe am_c51 17 18 (.ireturn) := ⟨rfl, rfl⟩
noncomputable def LField_stripsWithYards_4 (xs : List Int) (d : Nat) (Q : Option w_V → w_M → Prop) (r0 : Nat) (v1 : Int) (v2 : Int) (σ : w_M) : Prop := w_Ex (xs, d) 1 am_c51 Q 4 [some (.inr (.inr (2, r0))), some (.inl v1), some (.inl v2)] [] σ
set_option maxRecDepth 20000 in
theorem bField_stripsWithYards_0 {xs : List Int} {d : Nat} {Q : Option w_V → w_M → Prop} {a : Nat} {σ : w_M}
    (h : LField_stripsWithYards_4 xs d Q a 0 0 σ) : w_Call (xs, d) 51 [.inr (.inr (2, a))] σ Q :=
  (w_mk (mid := 51) (by decide) rfl rfl rfl rfl rfl (Nat.le_of_ble_eq_true rfl) ⟨rfl, Or.inl (by decide)⟩ (wi_bipush fField_stripsWithYards_0 (wi_istore1 fField_stripsWithYards_1 trivial (wi_bipush fField_stripsWithYards_2 (wi_istore2 fField_stripsWithYards_3 trivial h)))))
set_option maxRecDepth 20000 in
theorem bField_stripsWithYards_4 {xs : List Int} {d : Nat} {Q : Option w_V → w_M → Prop} {r0 : Nat} {v1 : Int} {v2 : Int} {σ : w_M}
    (h : ((σ r0 4) ≤ v2 → Q (some (.inl v1)) σ) ∧ (v2 < (σ r0 4) → (0 ≤ v2 ∧ v2 < 7 ∧ (((σ (r0 + 1) v2.toNat) ≤ 0 → (w_in (v2 + 1) ∧ LField_stripsWithYards_4 xs d Q r0 v1 (v2 + 1) σ)) ∧ (0 < (σ (r0 + 1) v2.toNat) → (w_in (v1 + 1) ∧ w_in (v2 + 1) ∧ LField_stripsWithYards_4 xs d Q r0 (v1 + 1) (v2 + 1) σ)))))) : LField_stripsWithYards_4 xs d Q r0 v1 v2 σ :=
  (wi_iload2 fField_stripsWithYards_4 (wi_aload0 fField_stripsWithYards_5 (wi_getf204 fField_stripsWithYards_6 (wi_ic_ge fField_stripsWithYards_7 (fun c2 => (wi_iload1 fField_stripsWithYards_16 (wi_ret1 fField_stripsWithYards_17 (h.1 c2)))) (fun c2 => (wi_aload0 fField_stripsWithYards_8 (wi_getf207 fField_stripsWithYards_9 (wi_iload2 fField_stripsWithYards_10 (wi_iald1007 fField_stripsWithYards_11 (h.2 c2).1 (h.2 c2).2.1 (wi_if_le fField_stripsWithYards_12 (fun c1 => (wi_iinc2 fField_stripsWithYards_14 trivial ((h.2 c2).2.2.1 c1).1 (wi_goto fField_stripsWithYards_15 ((h.2 c2).2.2.1 c1).2))) (fun c1 => (wi_iinc1 fField_stripsWithYards_13 trivial ((h.2 c2).2.2.2 c1).1 (wi_iinc2 fField_stripsWithYards_14 trivial ((h.2 c2).2.2.2 c1).2.1 (wi_goto fField_stripsWithYards_15 ((h.2 c2).2.2.2 c1).2.2))))))))))))))
theorem k_Field_stripsWithYards {xs : List Int} {d : Nat} {Q : Option w_V → w_M → Prop} {a : Nat} {σ : w_M} (hp : p_Field_stripsWithYards a σ) (hQ : Q (some (.inl (v_Field_stripsWithYards a σ))) σ) : w_Call (xs, d) 51 [.inr (.inr (2, a))] σ Q := by
  have hs := n_ok.s hp
  refine bField_stripsWithYards_0 ?_
  refine w_loop (n := (σ a 4).toNat) (P := fun i => LField_stripsWithYards_4 xs d Q a (f_sum (fun i => if 0 < w_ab σ a 1 i then 1 else 0) i) (i : Int) σ) ?_ ?_
  · exact bField_stripsWithYards_4 ⟨fun _ => hQ, fun h => by omega⟩
  · intro i hi ih
    have e : σ (a + 1) i = w_ab σ a 1 i := w_rd (by decide) hi
    have h2 := f_sum_le (f := fun i => if 0 < w_ab σ a 1 i then 1 else 0) (B := 1) (m := i) (fun i hi => by split <;> omega) (Nat.le_refl _)
    simp only [f_sum] at ih
    refine bField_stripsWithYards_4 ⟨fun h => by omega, fun h => ⟨by omega, by omega, fun c => ?_, fun c => ?_⟩⟩
    · rw [Int.toNat_natCast, e] at c
      rw [if_neg (by omega), Int.add_zero, w_cs1] at ih
      exact ⟨⟨by omega, by omega⟩, ih⟩
    · rw [Int.toNat_natCast, e] at c
      rw [if_pos c, w_cs1] at ih
      exact ⟨⟨by omega, by omega⟩, ⟨by omega, by omega⟩, ih⟩
noncomputable def n_cloudy (A : w_M) : Int := f_sum (fun k => n_cl A (A 0 1 + k)) (A 0 0 - A 0 1).toNat
noncomputable def p_Field_cloudyHoursLeft (a : Nat) (σ : w_M) : Prop := n_ok σ a
noncomputable def v_Field_cloudyHoursLeft (a : Nat) (σ : w_M) : Int := n_cloudy (w_ab σ a)
theorem fField_cloudyHoursLeft_0 : w_fe am_c47 0 1 (.bipush 0) := ⟨rfl, rfl⟩
theorem fField_cloudyHoursLeft_1 : w_fe am_c47 1 2 (.istore 1) := ⟨rfl, rfl⟩
theorem fField_cloudyHoursLeft_2 : w_fe am_c47 2 3 (.aload 0) := ⟨rfl, rfl⟩
theorem fField_cloudyHoursLeft_3 : w_fe am_c47 3 4 (.getfield 201) := ⟨rfl, rfl⟩
theorem fField_cloudyHoursLeft_4 : w_fe am_c47 4 5 (.istore 2) := ⟨rfl, rfl⟩
theorem fField_cloudyHoursLeft_5 : w_fe am_c47 5 6 (.iload 2) := ⟨rfl, rfl⟩
theorem fField_cloudyHoursLeft_6 : w_fe am_c47 6 7 (.aload 0) := ⟨rfl, rfl⟩
theorem fField_cloudyHoursLeft_7 : w_fe am_c47 7 8 (.getfield 200) := ⟨rfl, rfl⟩
theorem fField_cloudyHoursLeft_8 : w_ic am_c47 8 9 .ge 16 := ⟨rfl, rfl⟩
theorem fField_cloudyHoursLeft_9 : w_fe am_c47 9 10 (.aload 0) := ⟨rfl, rfl⟩
theorem fField_cloudyHoursLeft_10 : w_fe am_c47 10 11 (.iload 2) := ⟨rfl, rfl⟩
theorem fField_cloudyHoursLeft_11 : w_fe am_c47 11 12 (.invokestatic 29) := ⟨rfl, rfl⟩
theorem fField_cloudyHoursLeft_12 : w_if am_c47 12 13 .eq 14 := ⟨rfl, rfl⟩
theorem fField_cloudyHoursLeft_13 : w_fe am_c47 13 14 (.iinc 1 1) := ⟨rfl, rfl⟩
theorem fField_cloudyHoursLeft_14 : w_fe am_c47 14 15 (.iinc 2 1) := ⟨rfl, rfl⟩
theorem fField_cloudyHoursLeft_15 : w_gt am_c47 15 5 := rfl
theorem fField_cloudyHoursLeft_16 : w_fe am_c47 16 17 (.iload 1) := ⟨rfl, rfl⟩
theorem fField_cloudyHoursLeft_17 : w_fe am_c47 17 18 (.ireturn) := ⟨rfl, rfl⟩
noncomputable def LField_cloudyHoursLeft_5 (xs : List Int) (d : Nat) (Q : Option w_V → w_M → Prop) (r0 : Nat) (v1 : Int) (v2 : Int) (σ : w_M) : Prop := w_Ex (xs, d) 1 am_c47 Q 5 [some (.inr (.inr (2, r0))), some (.inl v1), some (.inl v2)] [] σ
set_option maxRecDepth 20000 in
theorem bField_cloudyHoursLeft_0 {xs : List Int} {d : Nat} {Q : Option w_V → w_M → Prop} {a : Nat} {σ : w_M}
    (h : ∀ (y1 : Int), y1 = (σ a 1) → LField_cloudyHoursLeft_5 xs (d + 1) Q a 0 y1 σ) : w_Call (xs, (d + 1)) 47 [.inr (.inr (2, a))] σ Q :=
  (w_mk (mid := 47) (by decide) rfl rfl rfl rfl rfl (Nat.le_of_ble_eq_true rfl) ⟨rfl, Or.inl (by decide)⟩ (wi_bipush fField_cloudyHoursLeft_0 (wi_istore1 fField_cloudyHoursLeft_1 trivial (wi_aload0 fField_cloudyHoursLeft_2 (wi_getf201 fField_cloudyHoursLeft_3 (wi_istore2 fField_cloudyHoursLeft_4 trivial (h _ rfl)))))))
set_option maxRecDepth 20000 in
theorem bField_cloudyHoursLeft_5 {xs : List Int} {d : Nat} {Q : Option w_V → w_M → Prop} {r0 : Nat} {v1 : Int} {v2 : Int} {σ : w_M}
    (h : ((σ r0 0) ≤ v2 → Q (some (.inl v1)) σ) ∧ (v2 < (σ r0 0) → ((¬ (¬ w_and (w_shr (σ r0 2) v2) 1 = 0) → (w_in (v2 + 1) ∧ LField_cloudyHoursLeft_5 xs (d + 1) Q r0 v1 (v2 + 1) σ)) ∧ ((¬ w_and (w_shr (σ r0 2) v2) 1 = 0) → (w_in (v1 + 1) ∧ w_in (v2 + 1) ∧ LField_cloudyHoursLeft_5 xs (d + 1) Q r0 (v1 + 1) (v2 + 1) σ))))) : LField_cloudyHoursLeft_5 xs (d + 1) Q r0 v1 v2 σ :=
  (wi_iload2 fField_cloudyHoursLeft_5 (wi_aload0 fField_cloudyHoursLeft_6 (wi_getf200 fField_cloudyHoursLeft_7 (wi_ic_ge fField_cloudyHoursLeft_8 (fun c2 => (wi_iload1 fField_cloudyHoursLeft_16 (wi_ret1 fField_cloudyHoursLeft_17 (h.1 c2)))) (fun c2 => (wi_aload0 fField_cloudyHoursLeft_9 (wi_iload2 fField_cloudyHoursLeft_10 (wi_call2 fField_cloudyHoursLeft_11 (Nat.le_of_ble_eq_true rfl) (k_Field_isCloudy (wi_ifb_eq fField_cloudyHoursLeft_12 (fun c1 => (wi_iinc2 fField_cloudyHoursLeft_14 trivial ((h.2 c2).1 c1).1 (wi_goto fField_cloudyHoursLeft_15 ((h.2 c2).1 c1).2))) (fun c1 => (wi_iinc1 fField_cloudyHoursLeft_13 trivial ((h.2 c2).2 c1).1 (wi_iinc2 fField_cloudyHoursLeft_14 trivial ((h.2 c2).2 c1).2.1 (wi_goto fField_cloudyHoursLeft_15 ((h.2 c2).2 c1).2.2))))))))))))))
theorem k_Field_cloudyHoursLeft {xs : List Int} {d : Nat} {Q : Option w_V → w_M → Prop} {a : Nat} {σ : w_M} (hp : p_Field_cloudyHoursLeft a σ) (hQ : Q (some (.inl (v_Field_cloudyHoursLeft a σ))) σ) : w_Call (xs, d + 1) 47 [.inr (.inr (2, a))] σ Q := by
  have h1 := n_ok.hrs hp
  have h2 := n_ok.hr hp
  refine bField_cloudyHoursLeft_0 (fun y1 e1 => ?_)
  have key : LField_cloudyHoursLeft_5 xs (d + 1) Q a (f_sum (fun k => n_cl (w_ab σ a) (σ a 1 + k)) 0) (σ a 1 + ((0 : Nat) : Int)) σ := by
    refine w_loop (n := (σ a 0 - σ a 1).toNat) (P := fun i => LField_cloudyHoursLeft_5 xs (d + 1) Q a (f_sum (fun k => n_cl (w_ab σ a) (σ a 1 + k)) i) (σ a 1 + (i : Int)) σ) ?_ ?_
    · exact bField_cloudyHoursLeft_5 ⟨fun _ => hQ, fun h => by omega⟩
    · intro i hi ih
      have h3 := f_sum_le (f := fun k => n_cl (w_ab σ a) (σ a 1 + k)) (B := 1) (m := i) (fun i hi => by rcases n_cl01 (w_ab σ a) (σ a 1 + (i : Int)) with h | h <;> omega) (Nat.le_refl _)
      simp only [f_sum] at ih
      rw [w_cs1, ← Int.add_assoc] at ih
      have ec : n_cl (w_ab σ a) (σ a 1 + (i : Int)) = w_and (w_shr (σ a 2) (σ a 1 + (i : Int))) 1 := rfl
      have e01 := n_cl01 (w_ab σ a) (σ a 1 + (i : Int))
      refine bField_cloudyHoursLeft_5 ⟨fun h => by omega, fun h => ⟨fun c => ⟨⟨by omega, by omega⟩, ?_⟩, fun c => ⟨⟨by omega, by omega⟩, ⟨by omega, by omega⟩, ?_⟩⟩⟩
      · rw [show n_cl (w_ab σ a) (σ a 1 + (i : Int)) = 0 from Classical.not_not.mp c, Int.add_zero] at ih
        exact ih
      · rw [show n_cl (w_ab σ a) (σ a 1 + (i : Int)) = 1 from e01.resolve_left c] at ih
        exact ih
  rw [show σ a 1 + ((0 : Nat) : Int) = σ a 1 from Int.add_zero _] at key
  rw [e1]
  exact key
theorem w_bit_set : ∀ k, k < 7 → ∀ x, x < 2 ^ k → v_Moon_withBit (x : Nat) (k : Nat) 1 = ((x + 2 ^ k : Nat) : Int) ∧ v_Moon_withBit (x : Nat) (k : Nat) 0 = ((x : Nat) : Int) := by decide +kernel
/-- who is at a strip, as bits -/
noncomputable def n_rat (A : w_M) (i : Int) : Nat → Nat
  | 0 => 0
  | k + 1 => n_rat A i k + (if A 6 k = i then 2 ^ k else 0)
theorem n_rat_lt (A : w_M) (i : Int) : ∀ k, n_rat A i k < 2 ^ k := by
  intro k
  induction k with
  | zero => simp [n_rat]
  | succ k ih =>
    simp only [n_rat, Nat.pow_succ]
    split <;> omega
noncomputable def p_Field_reapersAt (a : Nat) (_ : Int) (σ : w_M) : Prop := n_ok σ a
noncomputable def v_Field_reapersAt (a : Nat) (x : Int) (σ : w_M) : Int := (n_rat (w_ab σ a) x (n_n (w_ab σ a)) : Nat)
theorem fField_reapersAt_0 : w_fe am_c36 0 1 (.bipush 0) := ⟨rfl, rfl⟩
theorem fField_reapersAt_1 : w_fe am_c36 1 2 (.istore 2) := ⟨rfl, rfl⟩
theorem fField_reapersAt_2 : w_fe am_c36 2 3 (.bipush 0) := ⟨rfl, rfl⟩
theorem fField_reapersAt_3 : w_fe am_c36 3 4 (.istore 3) := ⟨rfl, rfl⟩
theorem fField_reapersAt_4 : w_fe am_c36 4 5 (.iload 3) := ⟨rfl, rfl⟩
theorem fField_reapersAt_5 : w_fe am_c36 5 6 (.aload 0) := ⟨rfl, rfl⟩
theorem fField_reapersAt_6 : w_fe am_c36 6 7 (.getfield 205) := ⟨rfl, rfl⟩
theorem fField_reapersAt_7 : w_ic am_c36 7 8 .ge 23 := ⟨rfl, rfl⟩
theorem fField_reapersAt_8 : w_fe am_c36 8 9 (.iload 2) := ⟨rfl, rfl⟩
theorem fField_reapersAt_9 : w_fe am_c36 9 10 (.iload 3) := ⟨rfl, rfl⟩
theorem fField_reapersAt_10 : w_fe am_c36 10 11 (.aload 0) := ⟨rfl, rfl⟩
theorem fField_reapersAt_11 : w_fe am_c36 11 12 (.getfield 212) := ⟨rfl, rfl⟩
theorem fField_reapersAt_12 : w_fe am_c36 12 13 (.iload 3) := ⟨rfl, rfl⟩
theorem fField_reapersAt_13 : w_fe am_c36 13 14 (.iaload) := ⟨rfl, rfl⟩
theorem fField_reapersAt_14 : w_fe am_c36 14 15 (.iload 1) := ⟨rfl, rfl⟩
theorem fField_reapersAt_15 : w_ic am_c36 15 16 .ne 18 := ⟨rfl, rfl⟩
theorem fField_reapersAt_16 : w_fe am_c36 16 17 (.bipush 1) := ⟨rfl, rfl⟩
theorem fField_reapersAt_17 : w_gt am_c36 17 19 := rfl
theorem fField_reapersAt_18 : w_fe am_c36 18 19 (.bipush 0) := ⟨rfl, rfl⟩
theorem fField_reapersAt_19 : w_fe am_c36 19 20 (.invokestatic 110) := ⟨rfl, rfl⟩
theorem fField_reapersAt_20 : w_fe am_c36 20 21 (.istore 2) := ⟨rfl, rfl⟩
theorem fField_reapersAt_21 : w_fe am_c36 21 22 (.iinc 3 1) := ⟨rfl, rfl⟩
theorem fField_reapersAt_22 : w_gt am_c36 22 4 := rfl
theorem fField_reapersAt_23 : w_fe am_c36 23 24 (.iload 2) := ⟨rfl, rfl⟩
theorem fField_reapersAt_24 : w_fe am_c36 24 25 (.ireturn) := ⟨rfl, rfl⟩
noncomputable def LField_reapersAt_4 (xs : List Int) (d : Nat) (Q : Option w_V → w_M → Prop) (r0 : Nat) (v1 : Int) (v2 : Int) (v3 : Int) (σ : w_M) : Prop := w_Ex (xs, d) 1 am_c36 Q 4 [some (.inr (.inr (2, r0))), some (.inl v1), some (.inl v2), some (.inl v3)] [] σ
set_option maxRecDepth 20000 in
theorem bField_reapersAt_0 {xs : List Int} {d : Nat} {Q : Option w_V → w_M → Prop} {a : Nat} {x1 : Int} {σ : w_M}
    (h : LField_reapersAt_4 xs (d + 1) Q a x1 0 0 σ) : w_Call (xs, (d + 1)) 36 [.inr (.inr (2, a)), .inl x1] σ Q :=
  (w_mk (mid := 36) (by decide) rfl rfl rfl rfl rfl (Nat.le_of_ble_eq_true rfl) ⟨rfl, Or.inl (by decide)⟩ (wi_bipush fField_reapersAt_0 (wi_istore2 fField_reapersAt_1 trivial (wi_bipush fField_reapersAt_2 (wi_istore3 fField_reapersAt_3 trivial h)))))
set_option maxRecDepth 20000 in
theorem bField_reapersAt_4 {xs : List Int} {d : Nat} {Q : Option w_V → w_M → Prop} {r0 : Nat} {v1 : Int} {v2 : Int} {v3 : Int} {σ : w_M}
    (h : ((σ r0 5) ≤ v3 → Q (some (.inl v2)) σ) ∧ (v3 < (σ r0 5) → (0 ≤ v3 ∧ v3 < 4 ∧ ((¬ (σ (r0 + 6) v3.toNat) = v1 → ∀ (y1 : Int), y1 = v_Moon_withBit v2 v3 0 → (w_in (v3 + 1) ∧ LField_reapersAt_4 xs (d + 1) Q r0 v1 y1 (v3 + 1) σ)) ∧ ((σ (r0 + 6) v3.toNat) = v1 → ∀ (y2 : Int), y2 = v_Moon_withBit v2 v3 1 → (w_in (v3 + 1) ∧ LField_reapersAt_4 xs (d + 1) Q r0 v1 y2 (v3 + 1) σ)))))) : LField_reapersAt_4 xs (d + 1) Q r0 v1 v2 v3 σ :=
  (wi_iload3 fField_reapersAt_4 (wi_aload0 fField_reapersAt_5 (wi_getf205 fField_reapersAt_6 (wi_ic_ge fField_reapersAt_7 (fun c4 => (wi_iload2 fField_reapersAt_23 (wi_ret1 fField_reapersAt_24 (h.1 c4)))) (fun c4 => (wi_iload2 fField_reapersAt_8 (wi_iload3 fField_reapersAt_9 (wi_aload0 fField_reapersAt_10 (wi_getf212 fField_reapersAt_11 (wi_iload3 fField_reapersAt_12 (wi_iald1004 fField_reapersAt_13 (h.2 c4).1 (h.2 c4).2.1 (wi_iload1 fField_reapersAt_14 (wi_ic_ne fField_reapersAt_15 (fun c3 => (wi_bipush fField_reapersAt_18 (wi_call3 fField_reapersAt_19 (Nat.le_of_ble_eq_true rfl) (k_Moon_withBit (wi_istore2 fField_reapersAt_20 trivial (wi_iinc3 fField_reapersAt_21 trivial (((h.2 c4).2.2.1 c3) _ rfl).1 (wi_goto fField_reapersAt_22 (((h.2 c4).2.2.1 c3) _ rfl).2))))))) (fun c3 => (wi_bipush fField_reapersAt_16 (wi_goto fField_reapersAt_17 (wi_call3 fField_reapersAt_19 (Nat.le_of_ble_eq_true rfl) (k_Moon_withBit (wi_istore2 fField_reapersAt_20 trivial (wi_iinc3 fField_reapersAt_21 trivial (((h.2 c4).2.2.2 c3) _ rfl).1 (wi_goto fField_reapersAt_22 (((h.2 c4).2.2.2 c3) _ rfl).2)))))))))))))))))))))
theorem k_Field_reapersAt {xs : List Int} {d : Nat} {Q : Option w_V → w_M → Prop} {a : Nat} {x1 : Int} {σ : w_M} (hp : p_Field_reapersAt a x1 σ) (hQ : Q (some (.inl (v_Field_reapersAt a x1 σ))) σ) : w_Call (xs, d + 1) 36 [.inr (.inr (2, a)), .inl x1] σ Q := by
  have hn := n_ok.n hp
  refine bField_reapersAt_0 ?_
  refine w_loop (n := (σ a 5).toNat) (P := fun i => LField_reapersAt_4 xs (d + 1) Q a x1 ((n_rat (w_ab σ a) x1 i : Nat) : Int) (i : Int) σ) ?_ ?_
  · exact bField_reapersAt_4 ⟨fun _ => hQ, fun h => by omega⟩
  · intro i hi ih
    have e : σ (a + 6) i = w_ab σ a 6 i := w_rd (by decide) (by rw [w_rl37 (by decide) (by decide)]; exact hi)
    have hb := w_bit_set i (by omega) _ (n_rat_lt (w_ab σ a) x1 i)
    refine bField_reapersAt_4 ⟨fun h => by omega, fun h => ⟨by omega, by omega, fun c => fun y e1 => ⟨⟨by omega, by omega⟩, ?_⟩, fun c => fun y e1 => ⟨⟨by omega, by omega⟩, ?_⟩⟩⟩
    · rw [Int.toNat_natCast, e] at c
      simp only [n_rat] at ih
      rw [if_neg c, Nat.add_zero, w_cs1] at ih
      rw [e1, hb.2]
      exact ih
    · rw [Int.toNat_natCast, e] at c
      simp only [n_rat] at ih
      rw [if_pos c, w_cs1] at ih
      rw [e1, hb.1]
      exact ih
noncomputable def p_Field_nearestWithYards (a : Nat) (f : Int) (σ : w_M) : Prop := n_ok σ a ∧ 0 ≤ f ∧ f < σ a 4
noncomputable def v_Field_nearestWithYards (a : Nat) (f : Int) (σ : w_M) : Int := n_near (w_ab σ a) f
theorem fField_nearestWithYards_0 : w_fe am_c43 0 1 (.bipush 0) := ⟨rfl, rfl⟩
theorem fField_nearestWithYards_1 : w_fe am_c43 1 2 (.istore 2) := ⟨rfl, rfl⟩
theorem fField_nearestWithYards_2 : w_fe am_c43 2 3 (.iload 2) := ⟨rfl, rfl⟩
theorem fField_nearestWithYards_3 : w_fe am_c43 3 4 (.bipush 7) := ⟨rfl, rfl⟩
theorem fField_nearestWithYards_4 : w_ic am_c43 4 5 .ge 41 := ⟨rfl, rfl⟩
theorem fField_nearestWithYards_5 : w_fe am_c43 5 6 (.iload 1) := ⟨rfl, rfl⟩
theorem fField_nearestWithYards_6 : w_fe am_c43 6 7 (.iload 2) := ⟨rfl, rfl⟩
theorem fField_nearestWithYards_7 : w_fe am_c43 7 8 (.isub) := ⟨rfl, rfl⟩
theorem fField_nearestWithYards_8 : w_fe am_c43 8 9 (.istore 3) := ⟨rfl, rfl⟩
theorem fField_nearestWithYards_9 : w_fe am_c43 9 10 (.iload 3) := ⟨rfl, rfl⟩
theorem fField_nearestWithYards_10 : w_if am_c43 10 11 .lt 22 := ⟨rfl, rfl⟩
theorem fField_nearestWithYards_11 : w_fe am_c43 11 12 (.iload 3) := ⟨rfl, rfl⟩
theorem fField_nearestWithYards_12 : w_fe am_c43 12 13 (.aload 0) := ⟨rfl, rfl⟩
theorem fField_nearestWithYards_13 : w_fe am_c43 13 14 (.getfield 204) := ⟨rfl, rfl⟩
theorem fField_nearestWithYards_14 : w_ic am_c43 14 15 .ge 22 := ⟨rfl, rfl⟩
theorem fField_nearestWithYards_15 : w_fe am_c43 15 16 (.aload 0) := ⟨rfl, rfl⟩
theorem fField_nearestWithYards_16 : w_fe am_c43 16 17 (.getfield 207) := ⟨rfl, rfl⟩
theorem fField_nearestWithYards_17 : w_fe am_c43 17 18 (.iload 3) := ⟨rfl, rfl⟩
theorem fField_nearestWithYards_18 : w_fe am_c43 18 19 (.iaload) := ⟨rfl, rfl⟩
theorem fField_nearestWithYards_19 : w_if am_c43 19 20 .le 22 := ⟨rfl, rfl⟩
theorem fField_nearestWithYards_20 : w_fe am_c43 20 21 (.iload 3) := ⟨rfl, rfl⟩
theorem fField_nearestWithYards_21 : w_fe am_c43 21 22 (.ireturn) := ⟨rfl, rfl⟩
theorem fField_nearestWithYards_22 : w_fe am_c43 22 23 (.iload 1) := ⟨rfl, rfl⟩
theorem fField_nearestWithYards_23 : w_fe am_c43 23 24 (.iload 2) := ⟨rfl, rfl⟩
theorem fField_nearestWithYards_24 : w_fe am_c43 24 25 (.iadd) := ⟨rfl, rfl⟩
theorem fField_nearestWithYards_25 : w_fe am_c43 25 26 (.istore 4) := ⟨rfl, rfl⟩
theorem fField_nearestWithYards_26 : w_fe am_c43 26 27 (.iload 4) := ⟨rfl, rfl⟩
theorem fField_nearestWithYards_27 : w_if am_c43 27 28 .lt 39 := ⟨rfl, rfl⟩
theorem fField_nearestWithYards_28 : w_fe am_c43 28 29 (.iload 4) := ⟨rfl, rfl⟩
theorem fField_nearestWithYards_29 : w_fe am_c43 29 30 (.aload 0) := ⟨rfl, rfl⟩
theorem fField_nearestWithYards_30 : w_fe am_c43 30 31 (.getfield 204) := ⟨rfl, rfl⟩
theorem fField_nearestWithYards_31 : w_ic am_c43 31 32 .ge 39 := ⟨rfl, rfl⟩
theorem fField_nearestWithYards_32 : w_fe am_c43 32 33 (.aload 0) := ⟨rfl, rfl⟩
theorem fField_nearestWithYards_33 : w_fe am_c43 33 34 (.getfield 207) := ⟨rfl, rfl⟩
theorem fField_nearestWithYards_34 : w_fe am_c43 34 35 (.iload 4) := ⟨rfl, rfl⟩
theorem fField_nearestWithYards_35 : w_fe am_c43 35 36 (.iaload) := ⟨rfl, rfl⟩
theorem fField_nearestWithYards_36 : w_if am_c43 36 37 .le 39 := ⟨rfl, rfl⟩
theorem fField_nearestWithYards_37 : w_fe am_c43 37 38 (.iload 4) := ⟨rfl, rfl⟩
theorem fField_nearestWithYards_38 : w_fe am_c43 38 39 (.ireturn) := ⟨rfl, rfl⟩
theorem fField_nearestWithYards_39 : w_fe am_c43 39 40 (.iinc 2 1) := ⟨rfl, rfl⟩
theorem fField_nearestWithYards_40 : w_gt am_c43 40 2 := rfl
theorem fField_nearestWithYards_41 : w_fe am_c43 41 42 (.bipush (-4)) := ⟨rfl, rfl⟩
theorem fField_nearestWithYards_42 : w_fe am_c43 42 43 (.ireturn) := ⟨rfl, rfl⟩
noncomputable def LField_nearestWithYards_2 (xs : List Int) (d : Nat) (Q : Option w_V → w_M → Prop) (r0 : Nat) (v1 : Int) (v2 : Int) (σ : w_M) : Prop := ∀ l3, w_nl l3 → ∀ l4, w_nl l4 → w_Ex (xs, d) 1 am_c43 Q 2 [some (.inr (.inr (2, r0))), some (.inl v1), some (.inl v2), l3, l4] [] σ
set_option maxRecDepth 20000 in
theorem bField_nearestWithYards_0 {xs : List Int} {d : Nat} {Q : Option w_V → w_M → Prop} {a : Nat} {x1 : Int} {σ : w_M}
    (h : LField_nearestWithYards_2 xs d Q a x1 0 σ) : w_Call (xs, d) 43 [.inr (.inr (2, a)), .inl x1] σ Q :=
  (w_mk (mid := 43) (by decide) rfl rfl rfl rfl rfl (Nat.le_of_ble_eq_true rfl) ⟨rfl, Or.inl (by decide)⟩ (wi_bipush fField_nearestWithYards_0 (wi_istore2 fField_nearestWithYards_1 trivial (h _ (by exact trivial) _ (by exact trivial)))))
set_option maxRecDepth 20000 in
theorem bField_nearestWithYards_2 {xs : List Int} {d : Nat} {Q : Option w_V → w_M → Prop} {r0 : Nat} {v1 : Int} {v2 : Int} {σ : w_M}
    (h : (7 ≤ v2 → Q (some (.inl (-4))) σ) ∧ (v2 < 7 → (w_in (v1 - v2) ∧ (∀ (y1 : Int), y1 = (v1 - v2) → ((y1 < 0 → (w_in (v1 + v2) ∧ (∀ (y2 : Int), y2 = (v1 + v2) → ((y2 < 0 → (w_in (v2 + 1) ∧ LField_nearestWithYards_2 xs d Q r0 v1 (v2 + 1) σ)) ∧ (0 ≤ y2 → (((σ r0 4) ≤ y2 → (w_in (v2 + 1) ∧ LField_nearestWithYards_2 xs d Q r0 v1 (v2 + 1) σ)) ∧ (y2 < (σ r0 4) → (y2 < 7 ∧ (((σ (r0 + 1) y2.toNat) ≤ 0 → (w_in (v2 + 1) ∧ LField_nearestWithYards_2 xs d Q r0 v1 (v2 + 1) σ)) ∧ (0 < (σ (r0 + 1) y2.toNat) → Q (some (.inl y2)) σ)))))))))) ∧ (0 ≤ y1 → (((σ r0 4) ≤ y1 → (w_in (v1 + v2) ∧ (∀ (y6 : Int), y6 = (v1 + v2) → ((y6 < 0 → (w_in (v2 + 1) ∧ LField_nearestWithYards_2 xs d Q r0 v1 (v2 + 1) σ)) ∧ (0 ≤ y6 → (((σ r0 4) ≤ y6 → (w_in (v2 + 1) ∧ LField_nearestWithYards_2 xs d Q r0 v1 (v2 + 1) σ)) ∧ (y6 < (σ r0 4) → (y6 < 7 ∧ (((σ (r0 + 1) y6.toNat) ≤ 0 → (w_in (v2 + 1) ∧ LField_nearestWithYards_2 xs d Q r0 v1 (v2 + 1) σ)) ∧ (0 < (σ (r0 + 1) y6.toNat) → Q (some (.inl y6)) σ)))))))))) ∧ (y1 < (σ r0 4) → (y1 < 7 ∧ (((σ (r0 + 1) y1.toNat) ≤ 0 → (w_in (v1 + v2) ∧ (∀ (y10 : Int), y10 = (v1 + v2) → ((y10 < 0 → (w_in (v2 + 1) ∧ LField_nearestWithYards_2 xs d Q r0 v1 (v2 + 1) σ)) ∧ (0 ≤ y10 → (((σ r0 4) ≤ y10 → (w_in (v2 + 1) ∧ LField_nearestWithYards_2 xs d Q r0 v1 (v2 + 1) σ)) ∧ (y10 < (σ r0 4) → (y10 < 7 ∧ (((σ (r0 + 1) y10.toNat) ≤ 0 → (w_in (v2 + 1) ∧ LField_nearestWithYards_2 xs d Q r0 v1 (v2 + 1) σ)) ∧ (0 < (σ (r0 + 1) y10.toNat) → Q (some (.inl y10)) σ)))))))))) ∧ (0 < (σ (r0 + 1) y1.toNat) → Q (some (.inl y1)) σ))))))))))) : LField_nearestWithYards_2 xs d Q r0 v1 v2 σ :=
  fun l3 nl3 => fun l4 nl4 => (wi_iload2 fField_nearestWithYards_2 (wi_bipush fField_nearestWithYards_3 (wi_ic_ge fField_nearestWithYards_4 (fun c17 => (wi_bipush fField_nearestWithYards_41 (wi_ret1 fField_nearestWithYards_42 (h.1 c17)))) (fun c17 => (wi_iload1 fField_nearestWithYards_5 (wi_iload2 fField_nearestWithYards_6 (wi_isub fField_nearestWithYards_7 (h.2 c17).1 (wi_istore3 fField_nearestWithYards_8 trivial (wi_iload3 fField_nearestWithYards_9 (wi_if_lt fField_nearestWithYards_10 (fun c16 => (wi_iload1 fField_nearestWithYards_22 (wi_iload2 fField_nearestWithYards_23 (wi_iadd fField_nearestWithYards_24 (((h.2 c17).2 _ rfl).1 c16).1 (wi_istore4 fField_nearestWithYards_25 trivial (wi_iload4 fField_nearestWithYards_26 (wi_if_lt fField_nearestWithYards_27 (fun c5 => (wi_iinc2 fField_nearestWithYards_39 trivial (((((h.2 c17).2 _ rfl).1 c16).2 _ rfl).1 c5).1 (wi_goto fField_nearestWithYards_40 ((((((h.2 c17).2 _ rfl).1 c16).2 _ rfl).1 c5).2 _ (by exact trivial) _ (by exact trivial))))) (fun c5 => (wi_iload4 fField_nearestWithYards_28 (wi_aload0 fField_nearestWithYards_29 (wi_getf204 fField_nearestWithYards_30 (wi_ic_ge fField_nearestWithYards_31 (fun c4 => (wi_iinc2 fField_nearestWithYards_39 trivial ((((((h.2 c17).2 _ rfl).1 c16).2 _ rfl).2 c5).1 c4).1 (wi_goto fField_nearestWithYards_40 (((((((h.2 c17).2 _ rfl).1 c16).2 _ rfl).2 c5).1 c4).2 _ (by exact trivial) _ (by exact trivial))))) (fun c4 => (wi_aload0 fField_nearestWithYards_32 (wi_getf207 fField_nearestWithYards_33 (wi_iload4 fField_nearestWithYards_34 (wi_iald1007 fField_nearestWithYards_35 c5 ((((((h.2 c17).2 _ rfl).1 c16).2 _ rfl).2 c5).2 c4).1 (wi_if_le fField_nearestWithYards_36 (fun c3 => (wi_iinc2 fField_nearestWithYards_39 trivial (((((((h.2 c17).2 _ rfl).1 c16).2 _ rfl).2 c5).2 c4).2.1 c3).1 (wi_goto fField_nearestWithYards_40 ((((((((h.2 c17).2 _ rfl).1 c16).2 _ rfl).2 c5).2 c4).2.1 c3).2 _ (by exact trivial) _ (by exact trivial))))) (fun c3 => (wi_iload4 fField_nearestWithYards_37 (wi_ret1 fField_nearestWithYards_38 (((((((h.2 c17).2 _ rfl).1 c16).2 _ rfl).2 c5).2 c4).2.2 c3)))))))))))))))))))))) (fun c16 => (wi_iload3 fField_nearestWithYards_11 (wi_aload0 fField_nearestWithYards_12 (wi_getf204 fField_nearestWithYards_13 (wi_ic_ge fField_nearestWithYards_14 (fun c15 => (wi_iload1 fField_nearestWithYards_22 (wi_iload2 fField_nearestWithYards_23 (wi_iadd fField_nearestWithYards_24 ((((h.2 c17).2 _ rfl).2 c16).1 c15).1 (wi_istore4 fField_nearestWithYards_25 trivial (wi_iload4 fField_nearestWithYards_26 (wi_if_lt fField_nearestWithYards_27 (fun c9 => (wi_iinc2 fField_nearestWithYards_39 trivial ((((((h.2 c17).2 _ rfl).2 c16).1 c15).2 _ rfl).1 c9).1 (wi_goto fField_nearestWithYards_40 (((((((h.2 c17).2 _ rfl).2 c16).1 c15).2 _ rfl).1 c9).2 _ (by exact trivial) _ (by exact trivial))))) (fun c9 => (wi_iload4 fField_nearestWithYards_28 (wi_aload0 fField_nearestWithYards_29 (wi_getf204 fField_nearestWithYards_30 (wi_ic_ge fField_nearestWithYards_31 (fun c8 => (wi_iinc2 fField_nearestWithYards_39 trivial (((((((h.2 c17).2 _ rfl).2 c16).1 c15).2 _ rfl).2 c9).1 c8).1 (wi_goto fField_nearestWithYards_40 ((((((((h.2 c17).2 _ rfl).2 c16).1 c15).2 _ rfl).2 c9).1 c8).2 _ (by exact trivial) _ (by exact trivial))))) (fun c8 => (wi_aload0 fField_nearestWithYards_32 (wi_getf207 fField_nearestWithYards_33 (wi_iload4 fField_nearestWithYards_34 (wi_iald1007 fField_nearestWithYards_35 c9 (((((((h.2 c17).2 _ rfl).2 c16).1 c15).2 _ rfl).2 c9).2 c8).1 (wi_if_le fField_nearestWithYards_36 (fun c7 => (wi_iinc2 fField_nearestWithYards_39 trivial ((((((((h.2 c17).2 _ rfl).2 c16).1 c15).2 _ rfl).2 c9).2 c8).2.1 c7).1 (wi_goto fField_nearestWithYards_40 (((((((((h.2 c17).2 _ rfl).2 c16).1 c15).2 _ rfl).2 c9).2 c8).2.1 c7).2 _ (by exact trivial) _ (by exact trivial))))) (fun c7 => (wi_iload4 fField_nearestWithYards_37 (wi_ret1 fField_nearestWithYards_38 ((((((((h.2 c17).2 _ rfl).2 c16).1 c15).2 _ rfl).2 c9).2 c8).2.2 c7)))))))))))))))))))))) (fun c15 => (wi_aload0 fField_nearestWithYards_15 (wi_getf207 fField_nearestWithYards_16 (wi_iload3 fField_nearestWithYards_17 (wi_iald1007 fField_nearestWithYards_18 c16 ((((h.2 c17).2 _ rfl).2 c16).2 c15).1 (wi_if_le fField_nearestWithYards_19 (fun c14 => (wi_iload1 fField_nearestWithYards_22 (wi_iload2 fField_nearestWithYards_23 (wi_iadd fField_nearestWithYards_24 (((((h.2 c17).2 _ rfl).2 c16).2 c15).2.1 c14).1 (wi_istore4 fField_nearestWithYards_25 trivial (wi_iload4 fField_nearestWithYards_26 (wi_if_lt fField_nearestWithYards_27 (fun c13 => (wi_iinc2 fField_nearestWithYards_39 trivial (((((((h.2 c17).2 _ rfl).2 c16).2 c15).2.1 c14).2 _ rfl).1 c13).1 (wi_goto fField_nearestWithYards_40 ((((((((h.2 c17).2 _ rfl).2 c16).2 c15).2.1 c14).2 _ rfl).1 c13).2 _ (by exact trivial) _ (by exact trivial))))) (fun c13 => (wi_iload4 fField_nearestWithYards_28 (wi_aload0 fField_nearestWithYards_29 (wi_getf204 fField_nearestWithYards_30 (wi_ic_ge fField_nearestWithYards_31 (fun c12 => (wi_iinc2 fField_nearestWithYards_39 trivial ((((((((h.2 c17).2 _ rfl).2 c16).2 c15).2.1 c14).2 _ rfl).2 c13).1 c12).1 (wi_goto fField_nearestWithYards_40 (((((((((h.2 c17).2 _ rfl).2 c16).2 c15).2.1 c14).2 _ rfl).2 c13).1 c12).2 _ (by exact trivial) _ (by exact trivial))))) (fun c12 => (wi_aload0 fField_nearestWithYards_32 (wi_getf207 fField_nearestWithYards_33 (wi_iload4 fField_nearestWithYards_34 (wi_iald1007 fField_nearestWithYards_35 c13 ((((((((h.2 c17).2 _ rfl).2 c16).2 c15).2.1 c14).2 _ rfl).2 c13).2 c12).1 (wi_if_le fField_nearestWithYards_36 (fun c11 => (wi_iinc2 fField_nearestWithYards_39 trivial (((((((((h.2 c17).2 _ rfl).2 c16).2 c15).2.1 c14).2 _ rfl).2 c13).2 c12).2.1 c11).1 (wi_goto fField_nearestWithYards_40 ((((((((((h.2 c17).2 _ rfl).2 c16).2 c15).2.1 c14).2 _ rfl).2 c13).2 c12).2.1 c11).2 _ (by exact trivial) _ (by exact trivial))))) (fun c11 => (wi_iload4 fField_nearestWithYards_37 (wi_ret1 fField_nearestWithYards_38 (((((((((h.2 c17).2 _ rfl).2 c16).2 c15).2.1 c14).2 _ rfl).2 c13).2 c12).2.2 c11)))))))))))))))))))))) (fun c14 => (wi_iload3 fField_nearestWithYards_20 (wi_ret1 fField_nearestWithYards_21 (((((h.2 c17).2 _ rfl).2 c16).2 c15).2.2 c14)))))))))))))))))))))))))
set_option maxHeartbeats 1000000 in
theorem k_Field_nearestWithYards {xs : List Int} {d : Nat} {Q : Option w_V → w_M → Prop} {a : Nat} {x1 : Int} {σ : w_M} (hp : p_Field_nearestWithYards a x1 σ) (hQ : Q (some (.inl (v_Field_nearestWithYards a x1 σ))) σ) : w_Call (xs, d) 43 [.inr (.inr (2, a)), .inl x1] σ Q := by
  obtain ⟨hok, f0, f1⟩ := hp
  have hs := n_ok.s hok
  have hsn : n_s (w_ab σ a) ≤ 1000 := by rw [n_s_ab]; omega
  refine bField_nearestWithYards_0 ?_
  have rd : ∀ j : Int, 0 ≤ j → j < σ a 4 → σ (a + 1) j.toNat = w_ab σ a 1 j.toNat := fun j h0 h1 => w_rd (by decide) (by rw [w_rl12 (by decide) (by decide)]; omega)
  refine (w_loop (n := 7) (P := fun e => (∀ j, j < (σ a 4).toNat → 0 < w_ab σ a 1 j → (e : Int) ≤ n_dist j x1) → LField_nearestWithYards_2 xs d Q a x1 (e : Int) σ) ?_ ?_) (fun j _ _ => n_dist_nn j x1)
  · intro hj
    refine bField_nearestWithYards_2 ⟨fun _ => w_Qe hQ ?_, fun h => by omega⟩
    refine n_near_none (by omega) hsn (fun j hj2 hy => ?_)
    rw [n_s_ab] at hj2
    have := hj j hj2 hy
    unfold n_dist at this
    split at this <;> omega
  · intro e he ih hinv
    have nxt : ¬ (0 ≤ x1 - (e : Int) ∧ x1 - (e : Int) < σ a 4 ∧ 0 < w_ab σ a 1 (x1 - (e : Int)).toNat) → ¬ (0 ≤ x1 + (e : Int) ∧ x1 + (e : Int) < σ a 4 ∧ 0 < w_ab σ a 1 (x1 + (e : Int)).toNat) → LField_nearestWithYards_2 xs d Q a x1 ((e : Int) + 1) σ := fun hb ha => by
      rw [← w_cs1]
      refine ih (fun j hj hy => ?_)
      have h1 := hinv j hj hy
      by_cases he2 : n_dist j x1 = e
      · exfalso
        unfold n_dist at he2
        split at he2
        · exact hb ⟨by omega, by omega, by rw [show (x1 - (e : Int)).toNat = j by omega]; exact hy⟩
        · exact ha ⟨by omega, by omega, by rw [show (x1 + (e : Int)).toNat = j by omega]; exact hy⟩
      · omega
    have below : 0 ≤ x1 - (e : Int) → x1 - (e : Int) < σ a 4 → 0 < w_ab σ a 1 (x1 - (e : Int)).toNat → n_near (w_ab σ a) x1 = x1 - (e : Int) := fun h0 h1 hy => by
      have hd : n_dist (x1 - (e : Int)).toNat x1 = e := by unfold n_dist; split <;> omega
      have := n_near_of (A := w_ab σ a) (f := x1) (by omega) hsn (i := (x1 - (e : Int)).toNat) (by rw [n_s_ab]; omega) hy (fun j hj hy2 => by
        have h3 := hinv j hj hy2
        rw [hd]
        by_cases h4 : n_dist j x1 = e
        · right
          refine ⟨h4.symm, ?_⟩
          unfold n_dist at h4
          split at h4 <;> omega
        · left; omega)
      omega
    have above : ¬ (0 ≤ x1 - (e : Int) ∧ x1 - (e : Int) < σ a 4 ∧ 0 < w_ab σ a 1 (x1 - (e : Int)).toNat) → 0 ≤ x1 + (e : Int) → x1 + (e : Int) < σ a 4 → 0 < w_ab σ a 1 (x1 + (e : Int)).toNat → n_near (w_ab σ a) x1 = x1 + (e : Int) := fun hb h0 h1 hy => by
      have hd : n_dist (x1 + (e : Int)).toNat x1 = e := by unfold n_dist; split <;> omega
      have := n_near_of (A := w_ab σ a) (f := x1) (by omega) hsn (i := (x1 + (e : Int)).toNat) (by rw [n_s_ab]; omega) hy (fun j hj hy2 => by
        have h3 := hinv j hj hy2
        rw [hd]
        by_cases h4 : n_dist j x1 = e
        · right
          refine ⟨h4.symm, ?_⟩
          unfold n_dist at h4
          split at h4
          · exfalso
            exact hb ⟨by omega, by omega, by rw [show (x1 - (e : Int)).toNat = j by omega]; exact hy2⟩
          · omega
        · left; omega)
      omega
    have up : ¬ (0 ≤ x1 - (e : Int) ∧ x1 - (e : Int) < σ a 4 ∧ 0 < w_ab σ a 1 (x1 - (e : Int)).toNat) → ∀ y : Int, y = x1 + (e : Int) → ((y < 0 → w_in ((e : Int) + 1) ∧ LField_nearestWithYards_2 xs d Q a x1 ((e : Int) + 1) σ) ∧ (0 ≤ y → ((σ a 4 ≤ y → w_in ((e : Int) + 1) ∧ LField_nearestWithYards_2 xs d Q a x1 ((e : Int) + 1) σ) ∧ (y < σ a 4 → y < 7 ∧ ((σ (a + 1) y.toNat ≤ 0 → w_in ((e : Int) + 1) ∧ LField_nearestWithYards_2 xs d Q a x1 ((e : Int) + 1) σ) ∧ (0 < σ (a + 1) y.toNat → Q (some (.inl y)) σ)))))) := by
      intro hb y ey
      subst ey
      refine ⟨fun c => ⟨⟨by omega, by omega⟩, nxt hb (fun q => by omega)⟩, fun c => ⟨fun c2 => ⟨⟨by omega, by omega⟩, nxt hb (fun q => by omega)⟩, fun c2 => ⟨by omega, fun c3 => ⟨⟨by omega, by omega⟩, nxt hb (fun q => ?_)⟩, fun c3 => ?_⟩⟩⟩
      · rw [rd _ c c2] at c3
        omega
      · rw [rd _ c c2] at c3
        exact w_Qe hQ (above hb c c2 c3)
    refine bField_nearestWithYards_2 ⟨fun h => by omega, fun h => ⟨⟨by omega, by omega⟩, ?_⟩⟩
    intro y1 e1
    subst e1
    refine ⟨fun c1 => ⟨⟨by omega, by omega⟩, up (fun q => by omega)⟩, fun c1 => ⟨fun c2 => ⟨⟨by omega, by omega⟩, up (fun q => by omega)⟩, fun c2 => ⟨by omega, fun c3 => ⟨⟨by omega, by omega⟩, up (fun q => ?_)⟩, fun c3 => ?_⟩⟩⟩
    · rw [rd _ c1 c2] at c3
      omega
    · rw [rd _ c1 c2] at c3
      exact w_Qe hQ (below c1 c2 c3)
noncomputable def p_Field_cut (a : Nat) (r i : Int) (σ : w_M) : Prop := n_ok σ a ∧ (0 ≤ r ∧ r < σ a 5) ∧ (0 ≤ i ∧ i < σ a 4)
noncomputable def q_Field_cut (a : Nat) (r i : Int) (σ : w_M) (x : Int) (σ' : w_M) : Prop := w_ab σ' a = n_cut (w_ab σ a) r.toNat i.toNat ∧ x = n_amt (w_ab σ a) r.toNat i.toNat ∧ w_fr σ σ' a (a + 9) ∧ σ' a 15 = w_wr (σ a 15 + (w_ab σ a 3 r.toNat - n_amt (w_ab σ a) r.toNat i.toNat)) ∧ σ' a 6 = σ a 6
noncomputable def w_c44 : List Instr := [.aload 0, .iload 2, .invokestatic 30, .ifCond .eq 13, .aload 0, .getfield 209, .iload 1, .iaload, .bipush 1, .iadd, .bipush 2, .idiv, .goto 17, .aload 0, .getfield 209, .iload 1, .iaload, .istore 3, .iload 3, .aload 0, .getfield 207, .iload 2, .iaload, .invokestatic 1, .istore 4, .aload 0, .getfield 207, .iload 2, .dup2, .iaload, .iload 4, .isub, .iastore, .aload 0, .getfield 213, .iload 1, .dup2, .iaload, .iload 4, .fadd, .iastore, .aload 0, .dup, .getfield 215, .aload 0, .getfield 209, .iload 1, .iaload, .iload 4, .isub, .fadd, .putfield 215, .aload 0, .iload 1, .putfield 203, .aload 0, .getfield 208, .iload 2, .iaload, .istore 5, .iload 5, .ifCond .lt 73, .iload 5, .bipush 4, .if_icmp .ge 73, .aload 0, .getfield 214, .iload 5, .dup2, .iaload, .iload 4, .fadd, .iastore, .iload 4, .ireturn]
theorem fField_cut_0 : w_fe w_c44 0 1 (.aload 0) := ⟨rfl, rfl⟩
theorem fField_cut_1 : w_fe w_c44 1 2 (.iload 2) := ⟨rfl, rfl⟩
theorem fField_cut_2 : w_fe w_c44 2 3 (.invokestatic 30) := ⟨rfl, rfl⟩
theorem fField_cut_3 : w_if w_c44 3 4 .eq 13 := ⟨rfl, rfl⟩
theorem fField_cut_4 : w_fe w_c44 4 5 (.aload 0) := ⟨rfl, rfl⟩
theorem fField_cut_5 : w_fe w_c44 5 6 (.getfield 209) := ⟨rfl, rfl⟩
theorem fField_cut_6 : w_fe w_c44 6 7 (.iload 1) := ⟨rfl, rfl⟩
theorem fField_cut_7 : w_fe w_c44 7 8 (.iaload) := ⟨rfl, rfl⟩
theorem fField_cut_8 : w_fe w_c44 8 9 (.bipush 1) := ⟨rfl, rfl⟩
theorem fField_cut_9 : w_fe w_c44 9 10 (.iadd) := ⟨rfl, rfl⟩
theorem fField_cut_10 : w_fe w_c44 10 11 (.bipush 2) := ⟨rfl, rfl⟩
theorem fField_cut_11 : w_fe w_c44 11 12 (.idiv) := ⟨rfl, rfl⟩
theorem fField_cut_12 : w_gt w_c44 12 17 := rfl
theorem fField_cut_13 : w_fe w_c44 13 14 (.aload 0) := ⟨rfl, rfl⟩
theorem fField_cut_14 : w_fe w_c44 14 15 (.getfield 209) := ⟨rfl, rfl⟩
theorem fField_cut_15 : w_fe w_c44 15 16 (.iload 1) := ⟨rfl, rfl⟩
theorem fField_cut_16 : w_fe w_c44 16 17 (.iaload) := ⟨rfl, rfl⟩
theorem fField_cut_17 : w_fe w_c44 17 18 (.istore 3) := ⟨rfl, rfl⟩
theorem fField_cut_18 : w_fe w_c44 18 19 (.iload 3) := ⟨rfl, rfl⟩
theorem fField_cut_19 : w_fe w_c44 19 20 (.aload 0) := ⟨rfl, rfl⟩
theorem fField_cut_20 : w_fe w_c44 20 21 (.getfield 207) := ⟨rfl, rfl⟩
theorem fField_cut_21 : w_fe w_c44 21 22 (.iload 2) := ⟨rfl, rfl⟩
theorem fField_cut_22 : w_fe w_c44 22 23 (.iaload) := ⟨rfl, rfl⟩
theorem fField_cut_23 : w_fe w_c44 23 24 (.invokestatic 1) := ⟨rfl, rfl⟩
theorem fField_cut_24 : w_fe w_c44 24 25 (.istore 4) := ⟨rfl, rfl⟩
theorem fField_cut_25 : w_fe w_c44 25 26 (.aload 0) := ⟨rfl, rfl⟩
theorem fField_cut_26 : w_fe w_c44 26 27 (.getfield 207) := ⟨rfl, rfl⟩
theorem fField_cut_27 : w_fe w_c44 27 28 (.iload 2) := ⟨rfl, rfl⟩
theorem fField_cut_28 : w_fe w_c44 28 29 (.dup2) := ⟨rfl, rfl⟩
theorem fField_cut_29 : w_fe w_c44 29 30 (.iaload) := ⟨rfl, rfl⟩
theorem fField_cut_30 : w_fe w_c44 30 31 (.iload 4) := ⟨rfl, rfl⟩
theorem fField_cut_31 : w_fe w_c44 31 32 (.isub) := ⟨rfl, rfl⟩
theorem fField_cut_32 : w_fe w_c44 32 33 (.iastore) := ⟨rfl, rfl⟩
theorem fField_cut_33 : w_fe w_c44 33 34 (.aload 0) := ⟨rfl, rfl⟩
theorem fField_cut_34 : w_fe w_c44 34 35 (.getfield 213) := ⟨rfl, rfl⟩
theorem fField_cut_35 : w_fe w_c44 35 36 (.iload 1) := ⟨rfl, rfl⟩
theorem fField_cut_36 : w_fe w_c44 36 37 (.dup2) := ⟨rfl, rfl⟩
theorem fField_cut_37 : w_fe w_c44 37 38 (.iaload) := ⟨rfl, rfl⟩
theorem fField_cut_38 : w_fe w_c44 38 39 (.iload 4) := ⟨rfl, rfl⟩
theorem fField_cut_39 : w_fe w_c44 39 40 (.fadd) := ⟨rfl, rfl⟩
theorem fField_cut_40 : w_fe w_c44 40 41 (.iastore) := ⟨rfl, rfl⟩
theorem fField_cut_41 : w_fe w_c44 41 42 (.aload 0) := ⟨rfl, rfl⟩
theorem fField_cut_42 : w_fe w_c44 42 43 (.dup) := ⟨rfl, rfl⟩
theorem fField_cut_43 : w_fe w_c44 43 44 (.getfield 215) := ⟨rfl, rfl⟩
theorem fField_cut_44 : w_fe w_c44 44 45 (.aload 0) := ⟨rfl, rfl⟩
theorem fField_cut_45 : w_fe w_c44 45 46 (.getfield 209) := ⟨rfl, rfl⟩
theorem fField_cut_46 : w_fe w_c44 46 47 (.iload 1) := ⟨rfl, rfl⟩
theorem fField_cut_47 : w_fe w_c44 47 48 (.iaload) := ⟨rfl, rfl⟩
theorem fField_cut_48 : w_fe w_c44 48 49 (.iload 4) := ⟨rfl, rfl⟩
theorem fField_cut_49 : w_fe w_c44 49 50 (.isub) := ⟨rfl, rfl⟩
theorem fField_cut_50 : w_fe w_c44 50 51 (.fadd) := ⟨rfl, rfl⟩
theorem fField_cut_51 : w_fe w_c44 51 52 (.putfield 215) := ⟨rfl, rfl⟩
theorem fField_cut_52 : w_fe w_c44 52 53 (.aload 0) := ⟨rfl, rfl⟩
theorem fField_cut_53 : w_fe w_c44 53 54 (.iload 1) := ⟨rfl, rfl⟩
theorem fField_cut_54 : w_fe w_c44 54 55 (.putfield 203) := ⟨rfl, rfl⟩
theorem fField_cut_55 : w_fe w_c44 55 56 (.aload 0) := ⟨rfl, rfl⟩
theorem fField_cut_56 : w_fe w_c44 56 57 (.getfield 208) := ⟨rfl, rfl⟩
theorem fField_cut_57 : w_fe w_c44 57 58 (.iload 2) := ⟨rfl, rfl⟩
theorem fField_cut_58 : w_fe w_c44 58 59 (.iaload) := ⟨rfl, rfl⟩
theorem fField_cut_59 : w_fe w_c44 59 60 (.istore 5) := ⟨rfl, rfl⟩
theorem fField_cut_60 : w_fe w_c44 60 61 (.iload 5) := ⟨rfl, rfl⟩
theorem fField_cut_61 : w_if w_c44 61 62 .lt 73 := ⟨rfl, rfl⟩
theorem fField_cut_62 : w_fe w_c44 62 63 (.iload 5) := ⟨rfl, rfl⟩
theorem fField_cut_63 : w_fe w_c44 63 64 (.bipush 4) := ⟨rfl, rfl⟩
theorem fField_cut_64 : w_ic w_c44 64 65 .ge 73 := ⟨rfl, rfl⟩
theorem fField_cut_65 : w_fe w_c44 65 66 (.aload 0) := ⟨rfl, rfl⟩
theorem fField_cut_66 : w_fe w_c44 66 67 (.getfield 214) := ⟨rfl, rfl⟩
theorem fField_cut_67 : w_fe w_c44 67 68 (.iload 5) := ⟨rfl, rfl⟩
theorem fField_cut_68 : w_fe w_c44 68 69 (.dup2) := ⟨rfl, rfl⟩
theorem fField_cut_69 : w_fe w_c44 69 70 (.iaload) := ⟨rfl, rfl⟩
theorem fField_cut_70 : w_fe w_c44 70 71 (.iload 4) := ⟨rfl, rfl⟩
theorem fField_cut_71 : w_fe w_c44 71 72 (.fadd) := ⟨rfl, rfl⟩
theorem fField_cut_72 : w_fe w_c44 72 73 (.iastore) := ⟨rfl, rfl⟩
theorem fField_cut_73 : w_fe w_c44 73 74 (.iload 4) := ⟨rfl, rfl⟩
theorem fField_cut_74 : w_fe w_c44 74 75 (.ireturn) := ⟨rfl, rfl⟩
noncomputable def LField_cut_18 (xs : List Int) (d : Nat) (Q : Option w_V → w_M → Prop) (r0 : Nat) (v1 : Int) (v2 : Int) (v3 : Int) (σ : w_M) : Prop := ∀ l4, w_nl l4 → ∀ l5, w_nl l5 → w_Ex (xs, d) 1 w_c44 Q 18 [some (.inr (.inr (2, r0))), some (.inl v1), some (.inl v2), some (.inl v3), l4, l5] [] σ
set_option maxRecDepth 20000 in
theorem bField_cut_0 {xs : List Int} {d : Nat} {Q : Option w_V → w_M → Prop} {a : Nat} {x1 : Int} {x2 : Int} {σ : w_M}
    (h : (¬ (¬ w_and (w_shr (σ a 6) x2) 1 = 0) → (0 ≤ x1 ∧ x1 < 4 ∧ (∀ (y1 : Int), y1 = (σ (a + 3) x1.toNat) → LField_cut_18 xs (d + 1) Q a x1 x2 y1 σ))) ∧ ((¬ w_and (w_shr (σ a 6) x2) 1 = 0) → (0 ≤ x1 ∧ x1 < 4 ∧ w_in ((σ (a + 3) x1.toNat) + 1) ∧ w_in (((σ (a + 3) x1.toNat) + 1).tdiv 2) ∧ (∀ (y2 : Int), y2 = (((σ (a + 3) x1.toNat) + 1).tdiv 2) → LField_cut_18 xs (d + 1) Q a x1 x2 y2 σ)))) : w_Call (xs, (d + 1)) 44 [.inr (.inr (2, a)), .inl x1, .inl x2] σ Q :=
  (w_mk (mid := 44) (by decide) rfl rfl rfl rfl rfl (Nat.le_of_ble_eq_true rfl) ⟨rfl, Or.inl (by decide)⟩ (wi_aload0 fField_cut_0 (wi_iload2 fField_cut_1 (wi_call2 fField_cut_2 (Nat.le_of_ble_eq_true rfl) (k_Field_isThistly (wi_ifb_eq fField_cut_3 (fun c3 => (wi_aload0 fField_cut_13 (wi_getf209 fField_cut_14 (wi_iload1 fField_cut_15 (wi_iald1004 fField_cut_16 (h.1 c3).1 (h.1 c3).2.1 (wi_istore3 fField_cut_17 trivial (((h.1 c3).2.2 _ rfl) _ (by exact trivial) _ (by exact trivial)))))))) (fun c3 => (wi_aload0 fField_cut_4 (wi_getf209 fField_cut_5 (wi_iload1 fField_cut_6 (wi_iald1004 fField_cut_7 (h.2 c3).1 (h.2 c3).2.1 (wi_bipush fField_cut_8 (wi_iadd fField_cut_9 (h.2 c3).2.2.1 (wi_bipush fField_cut_10 (wi_idiv fField_cut_11 (by decide) (h.2 c3).2.2.2.1 (wi_goto fField_cut_12 (wi_istore3 fField_cut_17 trivial (((h.2 c3).2.2.2.2 _ rfl) _ (by exact trivial) _ (by exact trivial)))))))))))))))))))
set_option maxRecDepth 20000 in
theorem bField_cut_18 {xs : List Int} {d : Nat} {Q : Option w_V → w_M → Prop} {r0 : Nat} {v1 : Int} {v2 : Int} {v3 : Int} {σ : w_M}
    (h : 0 ≤ v2 ∧ v2 < 7 ∧ (∀ (y1 : Int), y1 = v_Math_min v3 (σ (r0 + 1) v2.toNat) → (w_in ((σ (r0 + 1) v2.toNat) - y1) ∧ (∀ (τ2 : w_M), τ2 = w_up σ (r0 + 1) v2.toNat ((σ (r0 + 1) v2.toNat) - y1) → (0 ≤ v1 ∧ v1 < 4 ∧ (∀ (τ3 : w_M), τ3 = w_up τ2 (r0 + 7) v1.toNat (w_wr ((τ2 (r0 + 7) v1.toNat) + y1)) → (w_in ((τ3 (r0 + 3) v1.toNat) - y1) ∧ (∀ (τ4 : w_M), τ4 = w_up τ3 r0 15 (w_wr ((τ3 r0 15) + ((τ3 (r0 + 3) v1.toNat) - y1))) → ∀ (τ5 : w_M), τ5 = w_up τ4 r0 3 v1 → ∀ (y6 : Int), y6 = (τ5 (r0 + 2) v2.toNat) → ((y6 < 0 → Q (some (.inl y1)) τ5) ∧ (0 ≤ y6 → ((4 ≤ y6 → Q (some (.inl y1)) τ5) ∧ (y6 < 4 → ∀ (τ7 : w_M), τ7 = w_up τ5 (r0 + 8) y6.toNat (w_wr ((τ5 (r0 + 8) y6.toNat) + y1)) → Q (some (.inl y1)) τ7)))))))))))) : LField_cut_18 xs (d + 1) Q r0 v1 v2 v3 σ :=
  fun l4 nl4 => fun l5 nl5 => (wi_iload3 fField_cut_18 (wi_aload0 fField_cut_19 (wi_getf207 fField_cut_20 (wi_iload2 fField_cut_21 (wi_iald1007 fField_cut_22 h.1 h.2.1 (wi_call2 fField_cut_23 (Nat.le_of_ble_eq_true rfl) (k_Math_min (wi_istore4 fField_cut_24 trivial (wi_aload0 fField_cut_25 (wi_getf207 fField_cut_26 (wi_iload2 fField_cut_27 (wi_dup2 fField_cut_28 (wi_iald1007 fField_cut_29 h.1 h.2.1 (wi_iload4 fField_cut_30 (wi_isub fField_cut_31 (h.2.2 _ rfl).1 (wi_iast1007 fField_cut_32 h.1 h.2.1 (wi_aload0 fField_cut_33 (wi_getf213 fField_cut_34 (wi_iload1 fField_cut_35 (wi_dup2 fField_cut_36 (wi_iald1004 fField_cut_37 ((h.2.2 _ rfl).2 _ rfl).1 ((h.2.2 _ rfl).2 _ rfl).2.1 (wi_iload4 fField_cut_38 (wi_fadd fField_cut_39 (wi_iast1004 fField_cut_40 ((h.2.2 _ rfl).2 _ rfl).1 ((h.2.2 _ rfl).2 _ rfl).2.1 (wi_aload0 fField_cut_41 (wi_dup_a fField_cut_42 (wi_getf215 fField_cut_43 (wi_aload0 fField_cut_44 (wi_getf209 fField_cut_45 (wi_iload1 fField_cut_46 (wi_iald1004 fField_cut_47 ((h.2.2 _ rfl).2 _ rfl).1 ((h.2.2 _ rfl).2 _ rfl).2.1 (wi_iload4 fField_cut_48 (wi_isub fField_cut_49 (((h.2.2 _ rfl).2 _ rfl).2.2 _ rfl).1 (wi_fadd fField_cut_50 (wi_putf215 fField_cut_51 (wi_aload0 fField_cut_52 (wi_iload1 fField_cut_53 (wi_putf203 fField_cut_54 (wi_aload0 fField_cut_55 (wi_getf208 fField_cut_56 (wi_iload2 fField_cut_57 (wi_iald1007 fField_cut_58 h.1 h.2.1 (wi_istore5 fField_cut_59 trivial (wi_iload5 fField_cut_60 (wi_if_lt fField_cut_61 (fun c9 => (wi_iload4 fField_cut_73 (wi_ret1 fField_cut_74 (((((((h.2.2 _ rfl).2 _ rfl).2.2 _ rfl).2 _ rfl) _ rfl) _ rfl).1 c9)))) (fun c9 => (wi_iload5 fField_cut_62 (wi_bipush fField_cut_63 (wi_ic_ge fField_cut_64 (fun c8 => (wi_iload4 fField_cut_73 (wi_ret1 fField_cut_74 ((((((((h.2.2 _ rfl).2 _ rfl).2.2 _ rfl).2 _ rfl) _ rfl) _ rfl).2 c9).1 c8)))) (fun c8 => (wi_aload0 fField_cut_65 (wi_getf214 fField_cut_66 (wi_iload5 fField_cut_67 (wi_dup2 fField_cut_68 (wi_iald1004 fField_cut_69 c9 c8 (wi_iload4 fField_cut_70 (wi_fadd fField_cut_71 (wi_iast1004 fField_cut_72 c9 c8 (wi_iload4 fField_cut_73 (wi_ret1 fField_cut_74 (((((((((h.2.2 _ rfl).2 _ rfl).2.2 _ rfl).2 _ rfl) _ rfl) _ rfl).2 c9).2 c8) _ rfl)))))))))))))))))))))))))))))))))))))))))))))))))))))))))))))
set_option maxHeartbeats 1000000 in
theorem k_cut_tail {xs : List Int} {d : Nat} {Q : Option w_V → w_M → Prop} {a r i : Nat} {v : Int} {σ : w_M} (hok : n_ok σ a) (hr : r < (σ a 5).toNat) (hi : i < (σ a 4).toNat) (hv : v = n_pc (w_ab σ a) r i) (hQ : ∀ (x : Int) (σ' : w_M), q_Field_cut a r i σ x σ' → Q (some (.inl x)) σ') : LField_cut_18 xs (d + 1) Q a r i v σ := by
  have hs := n_ok.s hok
  have hn := n_ok.n hok
  have e1 : σ (a + 1) i = w_ab σ a 1 i := w_rd (by decide) (by rw [w_rl12 (by decide) (by decide)]; exact hi)
  have e2 : σ (a + 2) i = w_ab σ a 2 i := w_rd (by decide) (by rw [w_rl12 (by decide) (by decide)]; exact hi)
  have e3 : σ (a + 3) r = w_ab σ a 3 r := w_rd (by decide) (by rw [w_rl37 (by decide) (by decide)]; exact hr)
  have e7 : σ (a + 7) r = w_ab σ a 7 r := w_rd (by decide) (by rw [w_rl37 (by decide) (by decide)]; exact hr)
  have h1 := n_WF.i hok hi
  have h2 := n_WF.r hok hr
  have ham := n_amt_le hok hr hi
  refine bField_cut_18 ⟨by omega, by omega, ?_⟩
  intro y1 ey
  rw [Int.toNat_natCast, e1, hv] at ey
  have hy : y1 = n_amt (w_ab σ a) r i := by
    rw [ey]
    unfold v_Math_min n_amt
    split <;> split <;> omega
  rw [Int.toNat_natCast, Int.toNat_natCast, e1]
  refine ⟨⟨by omega, by omega⟩, ?_⟩
  intro τ2 t2
  have z2 : τ2 a = σ a := by rw [t2]; exact w_up_ne (by omega)
  have A2 : w_ab τ2 a = w_up (w_ab σ a) 1 i (w_ab σ a 1 i - y1) := by rw [t2]; exact w_ab_up (by decide) (by decide) (by rw [w_rl12 (by decide) (by decide)]; exact hi)
  refine ⟨by omega, by omega, ?_⟩
  intro τ3 t3
  have z3 : τ3 a = σ a := by rw [t3, w_up_ne (by omega)]; exact z2
  have A3 : w_ab τ3 a = w_up (w_ab τ2 a) 7 r (w_wr (w_ab σ a 7 r + y1)) := by
    rw [t3, show τ2 (a + 7) r = w_ab σ a 7 r by rw [t2, w_up_ne (by omega)]; exact e7]
    exact w_ab_up (by decide) (by decide) (by rw [w_rl37 (by decide) (by decide), z2]; exact hr)
  have p3 : τ3 (a + 3) r = w_ab σ a 3 r := by rw [t3, w_up_ne (by omega), t2, w_up_ne (by omega)]; exact e3
  rw [p3]
  refine ⟨⟨by omega, by omega⟩, ?_⟩
  intro τ4 t4
  rw [z3] at t4
  have A4 : w_ab τ4 a = w_ab τ3 a := by rw [t4]; exact w_ab_lost
  intro τ5 t5
  have A5 : w_ab τ5 a = w_up (w_ab τ4 a) 0 3 r := by rw [t5]; exact w_ab_up0 (by decide)
  have z5 : τ5 a 4 = σ a 4 := by rw [t5, w_up_j (by decide), t4, w_up_j (by decide), z3]
  have n5 : ∀ b, b ≠ a → b ≠ a + 1 → b ≠ a + 7 → τ5 b = σ b := fun b b1 b2 b3 => by rw [t5, w_up_ne b1, t4, w_up_ne b1, t3, w_up_ne b3, t2, w_up_ne b2]
  intro y6 e6
  rw [n5 _ (by omega) (by omega) (by omega), e2] at e6
  have ho := h1.2.1
  refine ⟨fun c => by omega, fun c => ⟨fun c => by omega, fun c2 => ?_⟩⟩
  intro τ7 t7
  have e8 : τ5 (a + 8) y6.toNat = w_ab σ a 8 y6.toNat := by
    rw [n5 _ (by omega) (by omega) (by omega)]
    exact w_rd (by decide) (show y6.toNat < 4 by omega)
  have A7 : w_ab τ7 a = w_up (w_ab τ5 a) 8 y6.toNat (w_wr (w_ab σ a 8 y6.toNat + y1)) := by
    rw [t7, e8]
    exact w_ab_up (by decide) (by decide) (show y6.toNat < 4 by omega)
  refine hQ _ _ ⟨?_, by rw [hy, Int.toNat_natCast, Int.toNat_natCast], ?_, ?_, by rw [t7, w_up_ne (by omega), t5, w_up_j (by decide), t4, w_up_j (by decide), z3]⟩
  · rw [Int.toNat_natCast, Int.toNat_natCast, A7, A5, A4, A3, A2, hy, e6]
    rfl
  · rw [t7, t5, t4, t3, t2]
    exact ((((w_fr.up0 (by omega) (by omega)).up (by omega) (by omega)).up (by omega) (by omega)).up (by omega) (by omega)).up (by omega) (by omega)
  · rw [t7, w_up_ne (by omega), t5, w_up_j (by decide), t4, w_up_at, Int.toNat_natCast, Int.toNat_natCast, hy]
theorem k_Field_cut {xs : List Int} {d : Nat} {Q : Option w_V → w_M → Prop} {a : Nat} {x1 : Int} {x2 : Int} {σ : w_M} (hp : p_Field_cut a x1 x2 σ) (hQ : ∀ (x : Int) (σ' : w_M), q_Field_cut a x1 x2 σ x σ' → Q (some (.inl x)) σ') : w_Call (xs, d + 1) 44 [.inr (.inr (2, a)), .inl x1, .inl x2] σ Q := by
  obtain ⟨hok, ⟨r0, r1⟩, ⟨i0, i1⟩⟩ := hp
  obtain ⟨r, rfl⟩ := Int.eq_ofNat_of_zero_le r0
  obtain ⟨i, rfl⟩ := Int.eq_ofNat_of_zero_le i0
  have hn := n_ok.n hok
  have hr : r < (σ a 5).toNat := by omega
  have hi : i < (σ a 4).toNat := by omega
  have e3 : σ (a + 3) r = w_ab σ a 3 r := w_rd (by decide) (by rw [w_rl37 (by decide) (by decide)]; exact hr)
  have h2 := n_WF.r hok hr
  have e9 : w_ab σ a 9 i = w_and (w_shr (σ a 6) (i : Int)) 1 := by
    show (if i < (σ a 4).toNat then w_and (w_shr (σ a 6) (i : Int)) 1 else 0) = _
    rw [if_pos hi]
  have h9 := w_and1 (w_shr (σ a 6) (i : Int))
  refine bField_cut_0 ⟨fun c => ⟨r0, by omega, fun y e => k_cut_tail hok hr hi ?_ hQ⟩, fun c => ⟨r0, by omega, ?_⟩⟩
  · rw [e, Int.toNat_natCast, e3]
    unfold n_pc
    rw [e9, if_neg (by omega)]
  · rw [Int.toNat_natCast, e3]
    have hd : ((w_ab σ a 3 r) + 1).tdiv 2 = (w_ab σ a 3 r + 1) / 2 := Int.tdiv_eq_ediv_of_nonneg (by omega)
    refine ⟨⟨by omega, by omega⟩, by rw [hd]; exact ⟨by omega, by omega⟩, fun y e => k_cut_tail hok hr hi ?_ hQ⟩
    rw [e]
    unfold n_pc
    rw [e9, if_pos (by omega)]
noncomputable def p_Field_work (a : Nat) (r c : Int) (σ : w_M) : Prop := n_ok σ a ∧ (0 ≤ r ∧ r < σ a 5) ∧ (c = 0 ∨ c = 1)
noncomputable def q_Field_work (a : Nat) (r c : Int) (σ : w_M) (x : Int) (σ' : w_M) : Prop := w_ab σ' a = n_work (w_ab σ a) r.toNat c ∧ x = n_sd (w_ab σ a) - n_sd (n_work (w_ab σ a) r.toNat c) ∧ w_fr σ σ' a (a + 9) ∧ σ' a 15 = w_wr (σ a 15 + n_lost (w_ab σ a) r.toNat c) ∧ σ' a 6 = σ a 6
theorem fField_work_0 : w_fe am_c42 0 1 (.aload 0) := ⟨rfl, rfl⟩
theorem fField_work_1 : w_fe am_c42 1 2 (.aload 0) := ⟨rfl, rfl⟩
theorem fField_work_2 : w_fe am_c42 2 3 (.getfield 212) := ⟨rfl, rfl⟩
theorem fField_work_3 : w_fe am_c42 3 4 (.iload 1) := ⟨rfl, rfl⟩
theorem fField_work_4 : w_fe am_c42 4 5 (.iaload) := ⟨rfl, rfl⟩
theorem fField_work_5 : w_fe am_c42 5 6 (.invokestatic 43) := ⟨rfl, rfl⟩
theorem fField_work_6 : w_fe am_c42 6 7 (.istore 3) := ⟨rfl, rfl⟩
theorem fField_work_7 : w_fe am_c42 7 8 (.iload 3) := ⟨rfl, rfl⟩
theorem fField_work_8 : w_if am_c42 8 9 .lt 13 := ⟨rfl, rfl⟩
theorem fField_work_9 : w_fe am_c42 9 10 (.iload 3) := ⟨rfl, rfl⟩
theorem fField_work_10 : w_fe am_c42 10 11 (.aload 0) := ⟨rfl, rfl⟩
theorem fField_work_11 : w_fe am_c42 11 12 (.getfield 204) := ⟨rfl, rfl⟩
theorem fField_work_12 : w_ic am_c42 12 13 .lt 15 := ⟨rfl, rfl⟩
theorem fField_work_13 : w_fe am_c42 13 14 (.bipush 0) := ⟨rfl, rfl⟩
theorem fField_work_14 : w_fe am_c42 14 15 (.ireturn) := ⟨rfl, rfl⟩
theorem fField_work_15 : w_fe am_c42 15 16 (.aload 0) := ⟨rfl, rfl⟩
theorem fField_work_16 : w_fe am_c42 16 17 (.getfield 212) := ⟨rfl, rfl⟩
theorem fField_work_17 : w_fe am_c42 17 18 (.iload 1) := ⟨rfl, rfl⟩
theorem fField_work_18 : w_fe am_c42 18 19 (.iload 3) := ⟨rfl, rfl⟩
theorem fField_work_19 : w_fe am_c42 19 20 (.iastore) := ⟨rfl, rfl⟩
theorem fField_work_20 : w_fe am_c42 20 21 (.aload 0) := ⟨rfl, rfl⟩
theorem fField_work_21 : w_fe am_c42 21 22 (.getfield 211) := ⟨rfl, rfl⟩
theorem fField_work_22 : w_fe am_c42 22 23 (.iload 1) := ⟨rfl, rfl⟩
theorem fField_work_23 : w_fe am_c42 23 24 (.iaload) := ⟨rfl, rfl⟩
theorem fField_work_24 : w_if am_c42 24 25 .ne 32 := ⟨rfl, rfl⟩
theorem fField_work_25 : w_fe am_c42 25 26 (.aload 0) := ⟨rfl, rfl⟩
theorem fField_work_26 : w_fe am_c42 26 27 (.getfield 211) := ⟨rfl, rfl⟩
theorem fField_work_27 : w_fe am_c42 27 28 (.iload 1) := ⟨rfl, rfl⟩
theorem fField_work_28 : w_fe am_c42 28 29 (.bipush 3) := ⟨rfl, rfl⟩
theorem fField_work_29 : w_fe am_c42 29 30 (.iastore) := ⟨rfl, rfl⟩
theorem fField_work_30 : w_fe am_c42 30 31 (.bipush 0) := ⟨rfl, rfl⟩
theorem fField_work_31 : w_fe am_c42 31 32 (.ireturn) := ⟨rfl, rfl⟩
theorem fField_work_32 : w_fe am_c42 32 33 (.iload 2) := ⟨rfl, rfl⟩
theorem fField_work_33 : w_if am_c42 33 34 .eq 41 := ⟨rfl, rfl⟩
theorem fField_work_34 : w_fe am_c42 34 35 (.aload 0) := ⟨rfl, rfl⟩
theorem fField_work_35 : w_fe am_c42 35 36 (.getfield 210) := ⟨rfl, rfl⟩
theorem fField_work_36 : w_fe am_c42 36 37 (.iload 1) := ⟨rfl, rfl⟩
theorem fField_work_37 : w_fe am_c42 37 38 (.iaload) := ⟨rfl, rfl⟩
theorem fField_work_38 : w_if am_c42 38 39 .ne 41 := ⟨rfl, rfl⟩
theorem fField_work_39 : w_fe am_c42 39 40 (.bipush 0) := ⟨rfl, rfl⟩
theorem fField_work_40 : w_fe am_c42 40 41 (.ireturn) := ⟨rfl, rfl⟩
theorem fField_work_41 : w_fe am_c42 41 42 (.aload 0) := ⟨rfl, rfl⟩
theorem fField_work_42 : w_fe am_c42 42 43 (.getfield 211) := ⟨rfl, rfl⟩
theorem fField_work_43 : w_fe am_c42 43 44 (.iload 1) := ⟨rfl, rfl⟩
theorem fField_work_44 : w_fe am_c42 44 45 (.dup2) := ⟨rfl, rfl⟩
theorem fField_work_45 : w_fe am_c42 45 46 (.iaload) := ⟨rfl, rfl⟩
theorem fField_work_46 : w_fe am_c42 46 47 (.bipush 1) := ⟨rfl, rfl⟩
theorem fField_work_47 : w_fe am_c42 47 48 (.isub) := ⟨rfl, rfl⟩
theorem fField_work_48 : w_fe am_c42 48 49 (.iastore) := ⟨rfl, rfl⟩
theorem fField_work_49 : w_fe am_c42 49 50 (.iload 2) := ⟨rfl, rfl⟩
theorem fField_work_50 : w_if am_c42 50 51 .eq 59 := ⟨rfl, rfl⟩
theorem fField_work_51 : w_fe am_c42 51 52 (.aload 0) := ⟨rfl, rfl⟩
theorem fField_work_52 : w_fe am_c42 52 53 (.getfield 210) := ⟨rfl, rfl⟩
theorem fField_work_53 : w_fe am_c42 53 54 (.iload 1) := ⟨rfl, rfl⟩
theorem fField_work_54 : w_fe am_c42 54 55 (.dup2) := ⟨rfl, rfl⟩
theorem fField_work_55 : w_fe am_c42 55 56 (.iaload) := ⟨rfl, rfl⟩
theorem fField_work_56 : w_fe am_c42 56 57 (.bipush 1) := ⟨rfl, rfl⟩
theorem fField_work_57 : w_fe am_c42 57 58 (.isub) := ⟨rfl, rfl⟩
theorem fField_work_58 : w_fe am_c42 58 59 (.iastore) := ⟨rfl, rfl⟩
theorem fField_work_59 : w_fe am_c42 59 60 (.aload 0) := ⟨rfl, rfl⟩
theorem fField_work_60 : w_fe am_c42 60 61 (.iload 1) := ⟨rfl, rfl⟩
theorem fField_work_61 : w_fe am_c42 61 62 (.iload 3) := ⟨rfl, rfl⟩
theorem fField_work_62 : w_fe am_c42 62 63 (.invokestatic 44) := ⟨rfl, rfl⟩
theorem fField_work_63 : w_fe am_c42 63 64 (.ireturn) := ⟨rfl, rfl⟩
set_option maxRecDepth 20000 in
theorem bField_work_0 {xs : List Int} {d : Nat} {Q : Option w_V → w_M → Prop} {a : Nat} {x1 : Int} {x2 : Int} {σ : w_M}
    (h : 0 ≤ x1 ∧ x1 < 4 ∧ p_Field_nearestWithYards a (σ (a + 6) x1.toNat) σ ∧ (∀ (y1 : Int), y1 = v_Field_nearestWithYards a (σ (a + 6) x1.toNat) σ → ((y1 < 0 → Q (some (.inl 0)) σ) ∧ (0 ≤ y1 → ((y1 < (σ a 4) → ∀ (τ2 : w_M), τ2 = w_up σ (a + 6) x1.toNat y1 → ((¬ (τ2 (a + 5) x1.toNat) = 0 → ((x2 = 0 → (w_in ((τ2 (a + 5) x1.toNat) - 1) ∧ (∀ (τ3 : w_M), τ3 = w_up τ2 (a + 5) x1.toNat ((τ2 (a + 5) x1.toNat) - 1) → (p_Field_cut a x1 y1 τ3 ∧ (∀ (y4 : Int) (τ5 : w_M), q_Field_cut a x1 y1 τ3 y4 τ5 → Q (some (.inl y4)) τ5))))) ∧ (¬ x2 = 0 → ((¬ (τ2 (a + 4) x1.toNat) = 0 → (w_in ((τ2 (a + 5) x1.toNat) - 1) ∧ (∀ (τ6 : w_M), τ6 = w_up τ2 (a + 5) x1.toNat ((τ2 (a + 5) x1.toNat) - 1) → (w_in ((τ6 (a + 4) x1.toNat) - 1) ∧ (∀ (τ7 : w_M), τ7 = w_up τ6 (a + 4) x1.toNat ((τ6 (a + 4) x1.toNat) - 1) → (p_Field_cut a x1 y1 τ7 ∧ (∀ (y8 : Int) (τ9 : w_M), q_Field_cut a x1 y1 τ7 y8 τ9 → Q (some (.inl y8)) τ9))))))) ∧ ((τ2 (a + 4) x1.toNat) = 0 → Q (some (.inl 0)) τ2))))) ∧ ((τ2 (a + 5) x1.toNat) = 0 → ∀ (τ12 : w_M), τ12 = w_up τ2 (a + 5) x1.toNat 3 → Q (some (.inl 0)) τ12))) ∧ ((σ a 4) ≤ y1 → Q (some (.inl 0)) σ)))))) : w_Call (xs, (d + 2)) 42 [.inr (.inr (2, a)), .inl x1, .inl x2] σ Q :=
  (w_mk (mid := 42) (by decide) rfl rfl rfl rfl rfl (Nat.le_of_ble_eq_true rfl) ⟨rfl, Or.inl (by decide)⟩ (wi_aload0 fField_work_0 (wi_aload0 fField_work_1 (wi_getf212 fField_work_2 (wi_iload1 fField_work_3 (wi_iald1004 fField_work_4 h.1 h.2.1 (wi_call2 fField_work_5 (Nat.le_of_ble_eq_true rfl) (k_Field_nearestWithYards h.2.2.1 (wi_istore3 fField_work_6 trivial (wi_iload3 fField_work_7 (wi_if_lt fField_work_8 (fun c15 => (wi_bipush fField_work_13 (wi_ret1 fField_work_14 ((h.2.2.2 _ rfl).1 c15)))) (fun c15 => (wi_iload3 fField_work_9 (wi_aload0 fField_work_10 (wi_getf204 fField_work_11 (wi_ic_lt fField_work_12 (fun c14 => (wi_aload0 fField_work_15 (wi_getf212 fField_work_16 (wi_iload1 fField_work_17 (wi_iload3 fField_work_18 (wi_iast1004 fField_work_19 h.1 h.2.1 (wi_aload0 fField_work_20 (wi_getf211 fField_work_21 (wi_iload1 fField_work_22 (wi_iald1004 fField_work_23 h.1 h.2.1 (wi_if_ne fField_work_24 (fun c13 => (wi_iload2 fField_work_32 (wi_if_eq fField_work_33 (fun c11 => (wi_aload0 fField_work_41 (wi_getf211 fField_work_42 (wi_iload1 fField_work_43 (wi_dup2 fField_work_44 (wi_iald1004 fField_work_45 h.1 h.2.1 (wi_bipush fField_work_46 (wi_isub fField_work_47 ((((((h.2.2.2 _ rfl).2 c15).1 c14) _ rfl).1 c13).1 c11).1 (wi_iast1004 fField_work_48 h.1 h.2.1 (wi_iload2 fField_work_49 (wi_if_eq fField_work_50 (fun _ => (wi_aload0 fField_work_59 (wi_iload1 fField_work_60 (wi_iload3 fField_work_61 (wi_call3 fField_work_62 (Nat.le_of_ble_eq_true rfl) (k_Field_cut (((((((h.2.2.2 _ rfl).2 c15).1 c14) _ rfl).1 c13).1 c11).2 _ rfl).1 (fun y4 τ5 eτ5 => (wi_ret1 fField_work_63 ((((((((h.2.2.2 _ rfl).2 c15).1 c14) _ rfl).1 c13).1 c11).2 _ rfl).2 y4 τ5 eτ5))))))))) (fun e => absurd c11 (w_n_eq e))))))))))))) (fun c11 => (wi_aload0 fField_work_34 (wi_getf210 fField_work_35 (wi_iload1 fField_work_36 (wi_iald1004 fField_work_37 h.1 h.2.1 (wi_if_ne fField_work_38 (fun c10 => (wi_aload0 fField_work_41 (wi_getf211 fField_work_42 (wi_iload1 fField_work_43 (wi_dup2 fField_work_44 (wi_iald1004 fField_work_45 h.1 h.2.1 (wi_bipush fField_work_46 (wi_isub fField_work_47 (((((((h.2.2.2 _ rfl).2 c15).1 c14) _ rfl).1 c13).2 c11).1 c10).1 (wi_iast1004 fField_work_48 h.1 h.2.1 (wi_iload2 fField_work_49 (wi_if_eq fField_work_50 (fun e => absurd c11 (w_m_eq e)) (fun _ => (wi_aload0 fField_work_51 (wi_getf210 fField_work_52 (wi_iload1 fField_work_53 (wi_dup2 fField_work_54 (wi_iald1004 fField_work_55 h.1 h.2.1 (wi_bipush fField_work_56 (wi_isub fField_work_57 ((((((((h.2.2.2 _ rfl).2 c15).1 c14) _ rfl).1 c13).2 c11).1 c10).2 _ rfl).1 (wi_iast1004 fField_work_58 h.1 h.2.1 (wi_aload0 fField_work_59 (wi_iload1 fField_work_60 (wi_iload3 fField_work_61 (wi_call3 fField_work_62 (Nat.le_of_ble_eq_true rfl) (k_Field_cut (((((((((h.2.2.2 _ rfl).2 c15).1 c14) _ rfl).1 c13).2 c11).1 c10).2 _ rfl).2 _ rfl).1 (fun y8 τ9 eτ9 => (wi_ret1 fField_work_63 ((((((((((h.2.2.2 _ rfl).2 c15).1 c14) _ rfl).1 c13).2 c11).1 c10).2 _ rfl).2 _ rfl).2 y8 τ9 eτ9)))))))))))))))))))))))))))) (fun c10 => (wi_bipush fField_work_39 (wi_ret1 fField_work_40 (((((((h.2.2.2 _ rfl).2 c15).1 c14) _ rfl).1 c13).2 c11).2 c10))))))))))))) (fun c13 => (wi_aload0 fField_work_25 (wi_getf211 fField_work_26 (wi_iload1 fField_work_27 (wi_bipush fField_work_28 (wi_iast1004 fField_work_29 h.1 h.2.1 (wi_bipush fField_work_30 (wi_ret1 fField_work_31 ((((((h.2.2.2 _ rfl).2 c15).1 c14) _ rfl).2 c13) _ rfl)))))))))))))))))))) (fun c14 => (wi_bipush fField_work_13 (wi_ret1 fField_work_14 (((h.2.2.2 _ rfl).2 c15).2 c14))))))))))))))))))))
theorem n_amt_congr {A B : w_M} {r i : Nat} (h1 : B 1 = A 1) (h3 : B 3 = A 3) (h9 : B 9 = A 9) : n_amt B r i = n_amt A r i := by
  unfold n_amt n_pc
  rw [h1, h3, h9]
set_option maxHeartbeats 1000000 in
theorem k_Field_work {xs : List Int} {d : Nat} {Q : Option w_V → w_M → Prop} {a : Nat} {x1 : Int} {x2 : Int} {σ : w_M} (hp : p_Field_work a x1 x2 σ) (hQ : ∀ (x : Int) (σ' : w_M), q_Field_work a x1 x2 σ x σ' → Q (some (.inl x)) σ') : w_Call (xs, d + 2) 42 [.inr (.inr (2, a)), .inl x1, .inl x2] σ Q := by
  refine w_Call_in (fun hms => ?_)
  obtain ⟨hok, ⟨r0, r1⟩, hc⟩ := hp
  obtain ⟨r, rfl⟩ := Int.eq_ofNat_of_zero_le r0
  have hn := n_ok.n hok
  have hs := n_ok.s hok
  have hr : r < (σ a 5).toNat := by omega
  have hrA : r < n_n (w_ab σ a) := hr
  have h2 := n_WF.r hok hr
  have rr : ∀ k, 3 ≤ k → k ≤ 7 → r < w_rl σ a k := fun k k1 k2 => by rw [w_rl37 k1 k2]; exact hr
  have e6 : σ (a + 6) r = w_ab σ a 6 r := w_rd (by decide) (rr 6 (by decide) (by decide))
  have e5 : σ (a + 5) r = w_ab σ a 5 r := w_rd (by decide) (rr 5 (by decide) (by decide))
  have e4 : σ (a + 4) r = w_ab σ a 4 r := w_rd (by decide) (rr 4 (by decide) (by decide))
  have hsn : n_s (w_ab σ a) ≤ 1000 := by rw [n_s_ab]; omega
  have h04 : w_ab σ a 0 4 = σ a 4 := rfl
  unfold q_Field_work at hQ
  rw [Int.toNat_natCast] at hQ
  refine bField_work_0 ⟨r0, by omega, ?_⟩
  rw [Int.toNat_natCast, e6]
  refine ⟨⟨hok, by omega, by omega⟩, ?_⟩
  intro y1 ey
  unfold v_Field_nearestWithYards at ey
  rcases n_near_cases (A := w_ab σ a) (f := w_ab σ a 6 r) (by omega) hsn with ⟨g1, g2⟩ | ⟨i, g1, g2, g3⟩
  · have hw : n_work (w_ab σ a) r x2 = w_ab σ a := by unfold n_work; rw [if_pos g1]
    have hl : n_lost (w_ab σ a) r x2 = 0 := by unfold n_lost; rw [if_pos g1]
    have fin : Q (some (.inl 0)) σ := hQ 0 σ ⟨hw.symm, by rw [hw]; omega, w_fr.rfl', by rw [hl]; exact (w_wr_0 (hms _ _)).symm, rfl⟩
    exact ⟨fun _ => fin, fun c => by omega⟩
  · rw [n_s_ab] at g1
    have hne : ¬ n_near (w_ab σ a) (w_ab σ a 6 r) = -4 := by omega
    have hit : (n_near (w_ab σ a) (w_ab σ a 6 r)).toNat = i := by rw [g2]; exact Int.toNat_natCast i
    refine ⟨fun c => by omega, fun c => ⟨fun c2 => ?_, fun c2 => by omega⟩⟩
    intro τ2 t2
    rw [← ey] at g2 hit hne
    have z2 : τ2 a = σ a := by rw [t2]; exact w_up_ne (by omega)
    have A2 : w_ab τ2 a = w_up (w_ab σ a) 6 r y1 := by rw [t2]; exact w_ab_up (by decide) (by decide) (rr 6 (by decide) (by decide))
    have rr2 : ∀ k, 3 ≤ k → k ≤ 7 → r < w_rl τ2 a k := fun k k1 k2 => by rw [w_rl37 k1 k2, z2]; exact hr
    have f5 : τ2 (a + 5) r = w_ab σ a 5 r := by rw [t2, w_up_ne (by omega)]; exact e5
    have f4 : τ2 (a + 4) r = w_ab σ a 4 r := by rw [t2, w_up_ne (by omega)]; exact e4
    have F2 : w_fr σ τ2 a (a + 9) := by rw [t2]; exact w_fr.up0 (by omega) (by omega)
    rw [f5, f4]
    have cutting : x2 = 0 ∨ 0 < w_ab σ a 4 r → ¬ w_ab σ a 5 r = 0 → ∀ τ, w_ab τ a = w_up (w_up (w_up (w_ab σ a) 6 r y1) 5 r (w_ab σ a 5 r - 1)) 4 r (w_ab σ a 4 r - x2) → w_fr σ τ a (a + 9) → τ a 15 = σ a 15 → τ a 6 = σ a 6 → p_Field_cut a r y1 τ ∧ ∀ (y : Int) (τ' : w_M), q_Field_cut a r y1 τ y τ' → Q (some (.inl y)) τ' := by
      intro ho h5 τ At Ft l15 l6
      have hw : n_work (w_ab σ a) r x2 = n_cut (w_ab τ a) r i := by
        unfold n_work
        rw [← ey, if_neg hne, if_neg h5, if_pos ho, hit, At]
      have hl : n_lost (w_ab σ a) r x2 = w_ab σ a 3 r - n_amt (w_ab σ a) r i := by
        unfold n_lost
        rw [← ey, if_neg hne, if_neg h5, if_pos ho, hit]
      have W : n_WF (w_ab τ a) := by
        rw [At]
        refine n_WF_up (n_WF_up (n_WF_up hok ?_ ?_ ?_ ?_ ?_ ?_ ?_ ?_) ?_ ?_ ?_ ?_ ?_ ?_ ?_ ?_) ?_ ?_ ?_ ?_ ?_ ?_ ?_ ?_ <;> (intros; omega)
      have x04 : τ a 4 = σ a 4 := by
        have : w_ab τ a 0 4 = σ a 4 := by rw [At, w_up_ne (by omega), w_up_ne (by omega), w_up_ne (by omega)]; rfl
        exact this
      have x05 : τ a 5 = σ a 5 := by
        have : w_ab τ a 0 5 = σ a 5 := by rw [At, w_up_ne (by omega), w_up_ne (by omega), w_up_ne (by omega)]; rfl
        exact this
      have ea : n_amt (w_ab τ a) r i = n_amt (w_ab σ a) r i := n_amt_congr (by rw [At, w_up_ne (by omega), w_up_ne (by omega), w_up_ne (by omega)]) (by rw [At, w_up_ne (by omega), w_up_ne (by omega), w_up_ne (by omega)]) (by rw [At, w_up_ne (by omega), w_up_ne (by omega), w_up_ne (by omega)])
      have e3 : w_ab τ a 3 = w_ab σ a 3 := by rw [At, w_up_ne (by omega), w_up_ne (by omega), w_up_ne (by omega)]
      refine ⟨⟨W, by rw [x05]; exact ⟨r0, r1⟩, by rw [x04]; exact ⟨c, c2⟩⟩, fun y τ' hq => ?_⟩
      obtain ⟨q1, q2, q3, q4, q5⟩ := hq
      rw [Int.toNat_natCast, show y1.toNat = i from hit] at q1 q2 q4
      refine hQ y τ' ⟨by rw [hw]; exact q1, ?_, Ft.tr q3, ?_, q5.trans l6⟩
      · rw [hw, n_cut_sd (by show i < (τ a 4).toNat; rw [x04]; exact g1), q2]
        have : n_sd (w_ab τ a) = n_sd (w_ab σ a) := by rw [At, n_sd_up (by decide) (by omega), n_sd_up (by decide) (by omega), n_sd_up (by decide) (by omega)]
        omega
      · rw [q4, hl, l15, ea, e3]
    refine ⟨fun h5 => ⟨fun hx => ⟨⟨by omega, by omega⟩, ?_⟩, fun hx => ⟨fun ho => ⟨⟨by omega, by omega⟩, ?_⟩, fun ho => ?_⟩⟩, fun h5 => ?_⟩
    · intro τ3 t3
      have A3 : w_ab τ3 a = w_up (w_ab τ2 a) 5 r (w_ab σ a 5 r - 1) := by rw [t3]; exact w_ab_up (by decide) (by decide) (rr2 5 (by decide) (by decide))
      refine cutting (Or.inl hx) h5 τ3 ?_ (by rw [t3]; exact F2.up (by omega) (by omega)) (by rw [t3, w_up_ne (by omega), z2]) (by rw [t3, w_up_ne (by omega), z2])
      rw [A3, A2, hx, Int.sub_zero]
      refine (w_up_same ?_).symm
      rw [w_up_ne (by omega), w_up_ne (by omega)]
    · intro τ6 t6
      have A6 : w_ab τ6 a = w_up (w_ab τ2 a) 5 r (w_ab σ a 5 r - 1) := by rw [t6]; exact w_ab_up (by decide) (by decide) (rr2 5 (by decide) (by decide))
      have z6 : τ6 a = σ a := by rw [t6, w_up_ne (by omega)]; exact z2
      have g4 : τ6 (a + 4) r = w_ab σ a 4 r := by rw [t6, w_up_ne (by omega)]; exact f4
      rw [g4]
      refine ⟨⟨by omega, by omega⟩, ?_⟩
      intro τ7 t7
      have hx1 : x2 = 1 := hc.resolve_left hx
      have A7 : w_ab τ7 a = w_up (w_ab τ6 a) 4 r (w_ab σ a 4 r - 1) := by rw [t7]; exact w_ab_up (by decide) (by decide) (by rw [w_rl37 (by decide) (by decide), z6]; exact hr)
      refine cutting (Or.inr (by omega)) h5 τ7 ?_ (by rw [t7, t6]; exact (F2.up (by omega) (by omega)).up (by omega) (by omega)) (by rw [t7, w_up_ne (by omega), z6]) (by rw [t7, w_up_ne (by omega), z6])
      rw [A7, A6, A2, hx1]
    · have hw : n_work (w_ab σ a) r x2 = w_up (w_ab σ a) 6 r y1 := by
        unfold n_work
        rw [← ey, if_neg hne, if_neg h5, if_neg (by omega)]
      have hl : n_lost (w_ab σ a) r x2 = 0 := by
        unfold n_lost
        rw [← ey, if_neg hne, if_neg h5, if_neg (by omega)]
      refine hQ 0 τ2 ⟨by rw [hw]; exact A2, by rw [hw, n_sd_up (by decide) (by omega)]; omega, F2, by rw [hl, z2]; exact (w_wr_0 (hms _ _)).symm, by rw [z2]⟩
    · intro τ12 t12
      have A12 : w_ab τ12 a = w_up (w_ab τ2 a) 5 r 3 := by rw [t12]; exact w_ab_up (by decide) (by decide) (rr2 5 (by decide) (by decide))
      have hw : n_work (w_ab σ a) r x2 = w_up (w_up (w_ab σ a) 6 r y1) 5 r 3 := by
        unfold n_work
        rw [← ey, if_neg hne, if_pos h5]
      have hl : n_lost (w_ab σ a) r x2 = 0 := by
        unfold n_lost
        rw [← ey, if_neg hne, if_pos h5]
      refine hQ 0 τ12 ⟨by rw [hw, A12, A2], by rw [hw, n_sd_up (by decide) (by omega), n_sd_up (by decide) (by omega)]; omega, by rw [t12]; exact F2.up (by omega) (by omega), by rw [hl, t12, w_up_ne (by omega), z2]; exact (w_wr_0 (hms _ _)).symm, by rw [t12, w_up_ne (by omega), z2]⟩
