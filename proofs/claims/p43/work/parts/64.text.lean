section
/-! The class reads tokens -/
noncomputable def rL (σ : w_M) : Nat := (σ 1 1).toNat
noncomputable def rT (σ : w_M) : Nat → Int := fun i => if i < (σ 1 1).toNat then σ 2 i else 0
noncomputable def r_ok (σ : w_M) : Prop := (0 ≤ σ 1 1 ∧ σ 1 1 ≤ 160) ∧ ∀ i, i < (σ 1 1).toNat → 0 ≤ σ 2 i ∧ σ 2 i ≤ 127
noncomputable def r_fr (σ σ' : w_M) : Prop := (∀ b, b ≠ 1 → σ' b = σ b) ∧ σ' 1 1 = σ 1 1 ∧ σ' 1 5 = σ 1 5
theorem r_fr.rfl' {σ : w_M} : r_fr σ σ := ⟨fun _ _ => rfl, rfl, rfl⟩
theorem r_fr.tr {σ σ1 σ2 : w_M} (h : r_fr σ σ1) (g : r_fr σ1 σ2) : r_fr σ σ2 := ⟨fun b hb => (g.1 b hb).trans (h.1 b hb), g.2.1.trans h.2.1, g.2.2.trans h.2.2⟩
theorem r_fr.up {σ σ1 : w_M} (h : r_fr σ σ1) {j : Nat} {x : Int} (h1 : j ≠ 1) (h5 : j ≠ 5) : r_fr σ (w_up σ1 1 j x) := ⟨fun b hb => by rw [w_up_ne hb]; exact h.1 b hb, by rw [w_up_j (fun e => h1 e.symm)]; exact h.2.1, by rw [w_up_j (fun e => h5 e.symm)]; exact h.2.2⟩
theorem r_fr.L {σ τ : w_M} (h : r_fr σ τ) : rL τ = rL σ := by unfold rL; rw [h.2.1]
theorem r_fr.T {σ τ : w_M} (h : r_fr σ τ) : rT τ = rT σ := by unfold rT; rw [h.2.1, h.1 2 (by decide)]
theorem r_fr.ok {σ τ : w_M} (h : r_fr σ τ) (hk : r_ok σ) : r_ok τ := by unfold r_ok at hk ⊢; rw [h.2.1, h.1 2 (by decide)]; exact hk
theorem r_tb {σ : w_M} {p : Nat} : tb (rT σ) (rL σ) p = if p < (σ 1 1).toNat then σ 2 p else -1 := by
  unfold tb rT rL
  by_cases h : p < (σ 1 1).toNat
  · rw [if_pos h, if_pos h, if_pos h]
  · rw [if_neg h, if_neg h]
noncomputable def v_Reader_byteAt (x : Int) (σ : w_M) : Int := if 0 ≤ x ∧ x < σ 1 1 ∧ x < 160 then σ 2 x.toNat else -1
theorem r_byte {σ : w_M} (h : r_ok σ) {x : Int} (hx : 0 ≤ x) : v_Reader_byteAt x σ = tb (rT σ) (rL σ) x.toNat := by
  have := h.1
  unfold v_Reader_byteAt
  rw [r_tb]
  by_cases c : x < σ 1 1
  · rw [if_pos (by omega), if_pos (by omega)]
  · rw [if_neg (by omega), if_neg (by omega)]
theorem fReader_byteAt_0 : w_fe am_c14 0 1 (.iload 1) := ⟨rfl, rfl⟩
theorem fReader_byteAt_1 : w_if am_c14 1 2 .lt 14 := ⟨rfl, rfl⟩
theorem fReader_byteAt_2 : w_fe am_c14 2 3 (.iload 1) := ⟨rfl, rfl⟩
theorem fReader_byteAt_3 : w_fe am_c14 3 4 (.aload 0) := ⟨rfl, rfl⟩
theorem fReader_byteAt_4 : w_fe am_c14 4 5 (.getfield 101) := ⟨rfl, rfl⟩
theorem fReader_byteAt_5 : w_ic am_c14 5 6 .ge 14 := ⟨rfl, rfl⟩
theorem fReader_byteAt_6 : w_fe am_c14 6 7 (.iload 1) := ⟨rfl, rfl⟩
theorem fReader_byteAt_7 : w_fe am_c14 7 8 (.bipush 160) := ⟨rfl, rfl⟩
theorem fReader_byteAt_8 : w_ic am_c14 8 9 .ge 14 := ⟨rfl, rfl⟩
theorem fReader_byteAt_9 : w_fe am_c14 9 10 (.aload 0) := ⟨rfl, rfl⟩
theorem fReader_byteAt_10 : w_fe am_c14 10 11 (.getfield 100) := ⟨rfl, rfl⟩
theorem fReader_byteAt_11 : w_fe am_c14 11 12 (.iload 1) := ⟨rfl, rfl⟩
theorem fReader_byteAt_12 : w_fe am_c14 12 13 (.baload) := ⟨rfl, rfl⟩
theorem fReader_byteAt_13 : w_gt am_c14 13 15 := rfl
theorem fReader_byteAt_14 : w_fe am_c14 14 15 (.bipush (-1)) := ⟨rfl, rfl⟩
theorem fReader_byteAt_15 : w_fe am_c14 15 16 (.ireturn) := ⟨rfl, rfl⟩
set_option maxRecDepth 20000 in
theorem bReader_byteAt_0 {xs : List Int} {d : Nat} {Q : Option w_V → w_M → Prop} {x1 : Int} {σ : w_M}
    (h : (x1 < 0 → Q (some (.inl (-1))) σ) ∧ (0 ≤ x1 → (((σ 1 1) ≤ x1 → Q (some (.inl (-1))) σ) ∧ (x1 < (σ 1 1) → ((160 ≤ x1 → Q (some (.inl (-1))) σ) ∧ (x1 < 160 → Q (some (.inl (σ 2 x1.toNat))) σ)))))) : w_Call (xs, d) 14 [.inr (.inr (1, 1)), .inl x1] σ Q :=
  (w_mk (mid := 14) (by decide) rfl rfl rfl rfl rfl (Nat.le_of_ble_eq_true rfl) ⟨rfl, Or.inl (by decide)⟩ (wi_iload1 fReader_byteAt_0 (wi_if_lt fReader_byteAt_1 (fun c3 => (wi_bipush fReader_byteAt_14 (wi_ret1 fReader_byteAt_15 (h.1 c3)))) (fun c3 => (wi_iload1 fReader_byteAt_2 (wi_aload0 fReader_byteAt_3 (wi_getf101 fReader_byteAt_4 (wi_ic_ge fReader_byteAt_5 (fun c2 => (wi_bipush fReader_byteAt_14 (wi_ret1 fReader_byteAt_15 ((h.2 c3).1 c2)))) (fun c2 => (wi_iload1 fReader_byteAt_6 (wi_bipush fReader_byteAt_7 (wi_ic_ge fReader_byteAt_8 (fun c1 => (wi_bipush fReader_byteAt_14 (wi_ret1 fReader_byteAt_15 (((h.2 c3).2 c2).1 c1)))) (fun c1 => (wi_aload0 fReader_byteAt_9 (wi_getf100 fReader_byteAt_10 (wi_iload1 fReader_byteAt_11 (wi_bald2160 fReader_byteAt_12 c3 c1 (wi_goto fReader_byteAt_13 (wi_ret1 fReader_byteAt_15 (((h.2 c3).2 c2).2 c1))))))))))))))))))))
theorem fReader_isLetter_0 : w_fe am_c15 0 1 (.iload 0) := ⟨rfl, rfl⟩
theorem fReader_isLetter_1 : w_fe am_c15 1 2 (.bipush 97) := ⟨rfl, rfl⟩
theorem fReader_isLetter_2 : w_ic am_c15 2 3 .lt 8 := ⟨rfl, rfl⟩
theorem fReader_isLetter_3 : w_fe am_c15 3 4 (.iload 0) := ⟨rfl, rfl⟩
theorem fReader_isLetter_4 : w_fe am_c15 4 5 (.bipush 122) := ⟨rfl, rfl⟩
theorem fReader_isLetter_5 : w_ic am_c15 5 6 .gt 8 := ⟨rfl, rfl⟩
theorem fReader_isLetter_6 : w_fe am_c15 6 7 (.bipush 1) := ⟨rfl, rfl⟩
theorem fReader_isLetter_7 : w_gt am_c15 7 9 := rfl
theorem fReader_isLetter_8 : w_fe am_c15 8 9 (.bipush 0) := ⟨rfl, rfl⟩
theorem fReader_isLetter_9 : w_fe am_c15 9 10 (.ireturn) := ⟨rfl, rfl⟩
set_option maxRecDepth 20000 in
theorem bReader_isLetter_0 {xs : List Int} {d : Nat} {Q : Option w_V → w_M → Prop} {x0 : Int} {σ : w_M}
    (h : (x0 < 97 → Q (some (.inl 0)) σ) ∧ (97 ≤ x0 → ((122 < x0 → Q (some (.inl 0)) σ) ∧ (x0 ≤ 122 → Q (some (.inl 1)) σ)))) : w_Call (xs, d) 15 [.inl x0] σ Q :=
  (w_mk (mid := 15) (by decide) rfl rfl rfl rfl rfl (Nat.le_of_ble_eq_true rfl) trivial (wi_iload0 fReader_isLetter_0 (wi_bipush fReader_isLetter_1 (wi_ic_lt fReader_isLetter_2 (fun c2 => (wi_bipush fReader_isLetter_8 (wi_ret2 fReader_isLetter_9 (by decide) (h.1 c2)))) (fun c2 => (wi_iload0 fReader_isLetter_3 (wi_bipush fReader_isLetter_4 (wi_ic_gt fReader_isLetter_5 (fun c1 => (wi_bipush fReader_isLetter_8 (wi_ret2 fReader_isLetter_9 (by decide) ((h.2 c2).1 c1)))) (fun c1 => (wi_bipush fReader_isLetter_6 (wi_goto fReader_isLetter_7 (wi_ret2 fReader_isLetter_9 (by decide) ((h.2 c2).2 c1)))))))))))))
theorem fReader_isFigure_0 : w_fe am_c16 0 1 (.iload 0) := ⟨rfl, rfl⟩
theorem fReader_isFigure_1 : w_fe am_c16 1 2 (.bipush 48) := ⟨rfl, rfl⟩
theorem fReader_isFigure_2 : w_ic am_c16 2 3 .lt 8 := ⟨rfl, rfl⟩
theorem fReader_isFigure_3 : w_fe am_c16 3 4 (.iload 0) := ⟨rfl, rfl⟩
theorem fReader_isFigure_4 : w_fe am_c16 4 5 (.bipush 57) := ⟨rfl, rfl⟩
theorem fReader_isFigure_5 : w_ic am_c16 5 6 .gt 8 := ⟨rfl, rfl⟩
theorem fReader_isFigure_6 : w_fe am_c16 6 7 (.bipush 1) := ⟨rfl, rfl⟩
theorem fReader_isFigure_7 : w_gt am_c16 7 9 := rfl
theorem fReader_isFigure_8 : w_fe am_c16 8 9 (.bipush 0) := ⟨rfl, rfl⟩
theorem fReader_isFigure_9 : w_fe am_c16 9 10 (.ireturn) := ⟨rfl, rfl⟩
set_option maxRecDepth 20000 in
theorem bReader_isFigure_0 {xs : List Int} {d : Nat} {Q : Option w_V → w_M → Prop} {x0 : Int} {σ : w_M}
    (h : (x0 < 48 → Q (some (.inl 0)) σ) ∧ (48 ≤ x0 → ((57 < x0 → Q (some (.inl 0)) σ) ∧ (x0 ≤ 57 → Q (some (.inl 1)) σ)))) : w_Call (xs, d) 16 [.inl x0] σ Q :=
  (w_mk (mid := 16) (by decide) rfl rfl rfl rfl rfl (Nat.le_of_ble_eq_true rfl) trivial (wi_iload0 fReader_isFigure_0 (wi_bipush fReader_isFigure_1 (wi_ic_lt fReader_isFigure_2 (fun c2 => (wi_bipush fReader_isFigure_8 (wi_ret2 fReader_isFigure_9 (by decide) (h.1 c2)))) (fun c2 => (wi_iload0 fReader_isFigure_3 (wi_bipush fReader_isFigure_4 (wi_ic_gt fReader_isFigure_5 (fun c1 => (wi_bipush fReader_isFigure_8 (wi_ret2 fReader_isFigure_9 (by decide) ((h.2 c2).1 c1)))) (fun c1 => (wi_bipush fReader_isFigure_6 (wi_goto fReader_isFigure_7 (wi_ret2 fReader_isFigure_9 (by decide) ((h.2 c2).2 c1)))))))))))))
theorem fReader_fail_0 : w_fe am_c18 0 1 (.aload 0) := ⟨rfl, rfl⟩
theorem fReader_fail_1 : w_fe am_c18 1 2 (.getfield 103) := ⟨rfl, rfl⟩
theorem fReader_fail_2 : w_if am_c18 2 3 .ne 9 := ⟨rfl, rfl⟩
theorem fReader_fail_3 : w_fe am_c18 3 4 (.aload 0) := ⟨rfl, rfl⟩
theorem fReader_fail_4 : w_fe am_c18 4 5 (.iload 1) := ⟨rfl, rfl⟩
theorem fReader_fail_5 : w_fe am_c18 5 6 (.putfield 103) := ⟨rfl, rfl⟩
theorem fReader_fail_6 : w_fe am_c18 6 7 (.aload 0) := ⟨rfl, rfl⟩
theorem fReader_fail_7 : w_fe am_c18 7 8 (.iload 2) := ⟨rfl, rfl⟩
theorem fReader_fail_8 : w_fe am_c18 8 9 (.putfield 104) := ⟨rfl, rfl⟩
theorem fReader_fail_9 : w_fe am_c18 9 10 (.return_) := ⟨rfl, rfl⟩
set_option maxRecDepth 20000 in
theorem bReader_fail_0 {xs : List Int} {d : Nat} {Q : Option w_V → w_M → Prop} {x1 : Int} {x2 : Int} {σ : w_M}
    (h : (¬ (σ 1 3) = 0 → Q none σ) ∧ ((σ 1 3) = 0 → ∀ (τ1 : w_M), τ1 = w_up σ 1 3 x1 → ∀ (τ2 : w_M), τ2 = w_up τ1 1 4 x2 → Q none τ2)) : w_Call (xs, d) 18 [.inr (.inr (1, 1)), .inl x1, .inl x2] σ Q :=
  (w_mk (mid := 18) (by decide) rfl rfl rfl rfl rfl (Nat.le_of_ble_eq_true rfl) ⟨rfl, Or.inl (by decide)⟩ (wi_aload0 fReader_fail_0 (wi_getf103 fReader_fail_1 (wi_if_ne fReader_fail_2 (fun c3 => (wi_ret0 fReader_fail_9 (h.1 c3))) (fun c3 => (wi_aload0 fReader_fail_3 (wi_iload1 fReader_fail_4 (wi_putf103 fReader_fail_5 (wi_aload0 fReader_fail_6 (wi_iload2 fReader_fail_7 (wi_putf104 fReader_fail_8 (wi_ret0 fReader_fail_9 (((h.2 c3) _ rfl) _ rfl)))))))))))))
theorem k_Reader_byteAt {xs : List Int} {d : Nat} {Q : Option w_V → w_M → Prop} {x1 : Int} {σ : w_M} (hQ : Q (some (.inl (v_Reader_byteAt x1 σ))) σ) : w_Call (xs, d) 14 [.inr (.inr (1, 1)), .inl x1] σ Q := by
  unfold v_Reader_byteAt at hQ
  refine bReader_byteAt_0 ⟨fun c => ?_, fun c => ⟨fun c2 => ?_, fun c2 => ⟨fun c3 => ?_, fun c3 => ?_⟩⟩⟩
  · rw [if_neg (by omega)] at hQ; exact hQ
  · rw [if_neg (by omega)] at hQ; exact hQ
  · rw [if_neg (by omega)] at hQ; exact hQ
  · rw [if_pos (by omega)] at hQ; exact hQ
theorem k_Reader_isLetter {xs : List Int} {d : Nat} {Q : Option w_V → w_M → Prop} {x0 : Int} {σ : w_M} (hQ : Q (some (.inl (w_bi (97 ≤ x0 ∧ x0 ≤ 122)))) σ) : w_Call (xs, d) 15 [.inl x0] σ Q := by
  refine bReader_isLetter_0 ⟨fun c => ?_, fun c => ⟨fun c2 => ?_, fun c2 => ?_⟩⟩
  · rw [w_bi_f (by omega)] at hQ; exact hQ
  · rw [w_bi_f (by omega)] at hQ; exact hQ
  · rw [w_bi_t (by omega)] at hQ; exact hQ
theorem k_Reader_isFigure {xs : List Int} {d : Nat} {Q : Option w_V → w_M → Prop} {x0 : Int} {σ : w_M} (hQ : Q (some (.inl (w_bi (48 ≤ x0 ∧ x0 ≤ 57)))) σ) : w_Call (xs, d) 16 [.inl x0] σ Q := by
  refine bReader_isFigure_0 ⟨fun c => ?_, fun c => ⟨fun c2 => ?_, fun c2 => ?_⟩⟩
  · rw [w_bi_f (by omega)] at hQ; exact hQ
  · rw [w_bi_f (by omega)] at hQ; exact hQ
  · rw [w_bi_t (by omega)] at hQ; exact hQ
noncomputable def q_Reader_fail (n p : Int) (σ σ' : w_M) : Prop := (σ 1 3 = 0 → σ' = w_up (w_up σ 1 3 n) 1 4 p) ∧ (¬ σ 1 3 = 0 → σ' = σ)
theorem k_Reader_fail {xs : List Int} {d : Nat} {Q : Option w_V → w_M → Prop} {x1 : Int} {x2 : Int} {σ : w_M} (hQ : ∀ σ' : w_M, q_Reader_fail x1 x2 σ σ' → Q none σ') : w_Call (xs, d) 18 [.inr (.inr (1, 1)), .inl x1, .inl x2] σ Q := by
  refine bReader_fail_0 ⟨fun c => hQ _ ⟨fun h => absurd h c, fun _ => rfl⟩, fun c τ1 t1 τ2 t2 => hQ _ ⟨fun _ => by rw [t2, t1], fun h => absurd c h⟩⟩
/-- where a number ends, and how it is told -/
noncomputable def r_num (σ σ' : w_M) (f e : Nat) (c c1 : Int) : Prop := (e ≤ f + 2 ∧ σ' 1 7 = 2 ∧ σ' 1 3 = 0 ∧ σ' 1 4 = σ 1 4 ∧ σ' 1 10 = (if e = f + 1 then c - 48 else (c - 48) * 10 + c1 - 48)) ∨ (f + 2 < e ∧ σ' 1 7 = 4 ∧ σ' 1 3 = 1 ∧ σ' 1 4 = f)
noncomputable def p_Reader_readFigures (σ : w_M) : Prop := (r_ok σ ∧ σ 1 3 = 0) ∧ (0 ≤ σ 1 8 ∧ σ 1 8 < σ 1 1) ∧ σ 1 9 = σ 1 8 + 1 ∧ (48 ≤ tb (rT σ) (rL σ) (σ 1 8).toNat ∧ tb (rT σ) (rL σ) (σ 1 8).toNat ≤ 57)
noncomputable def q_Reader_readFigures (σ σ' : w_M) : Prop := r_fr σ σ' ∧ σ' 1 8 = σ 1 8 ∧ σ' 1 9 = ((rn tP_f (rT σ) (rL σ) 160 ((σ 1 8).toNat + 1) : Nat) : Int) ∧ r_num σ σ' (σ 1 8).toNat (rn tP_f (rT σ) (rL σ) 160 ((σ 1 8).toNat + 1)) (tb (rT σ) (rL σ) (σ 1 8).toNat) (tb (rT σ) (rL σ) ((σ 1 8).toNat + 1))
noncomputable def w_c17 : List Instr := [.aload 0, .bipush 2, .putfield 107, .aload 0, .aload 0, .aload 0, .getfield 108, .invokestatic 14, .bipush 48, .isub, .putfield 110, .aload 0, .getfield 109, .aload 0, .getfield 101, .if_icmp .ge 42, .aload 0, .aload 0, .getfield 109, .invokestatic 14, .invokestatic 16, .ifCond .eq 42, .aload 0, .aload 0, .getfield 110, .bipush 10, .fmul, .aload 0, .aload 0, .getfield 109, .invokestatic 14, .fadd, .bipush 48, .fsub, .putfield 110, .aload 0, .dup, .getfield 109, .bipush 1, .iadd, .putfield 109, .goto 11, .aload 0, .getfield 109, .aload 0, .getfield 108, .isub, .bipush 2, .if_icmp .le 57, .aload 0, .bipush 4, .putfield 107, .aload 0, .bipush 1, .aload 0, .getfield 108, .invokestatic 18, .return_]
theorem fReader_readFigures_0 : w_fe w_c17 0 1 (.aload 0) := ⟨rfl, rfl⟩
theorem fReader_readFigures_1 : w_fe w_c17 1 2 (.bipush 2) := ⟨rfl, rfl⟩
theorem fReader_readFigures_2 : w_fe w_c17 2 3 (.putfield 107) := ⟨rfl, rfl⟩
theorem fReader_readFigures_3 : w_fe w_c17 3 4 (.aload 0) := ⟨rfl, rfl⟩
theorem fReader_readFigures_4 : w_fe w_c17 4 5 (.aload 0) := ⟨rfl, rfl⟩
theorem fReader_readFigures_5 : w_fe w_c17 5 6 (.aload 0) := ⟨rfl, rfl⟩
theorem fReader_readFigures_6 : w_fe w_c17 6 7 (.getfield 108) := ⟨rfl, rfl⟩
theorem fReader_readFigures_7 : w_fe w_c17 7 8 (.invokestatic 14) := ⟨rfl, rfl⟩
theorem fReader_readFigures_8 : w_fe w_c17 8 9 (.bipush 48) := ⟨rfl, rfl⟩
theorem fReader_readFigures_9 : w_fe w_c17 9 10 (.isub) := ⟨rfl, rfl⟩
theorem fReader_readFigures_10 : w_fe w_c17 10 11 (.putfield 110) := ⟨rfl, rfl⟩
theorem fReader_readFigures_11 : w_fe w_c17 11 12 (.aload 0) := ⟨rfl, rfl⟩
theorem fReader_readFigures_12 : w_fe w_c17 12 13 (.getfield 109) := ⟨rfl, rfl⟩
theorem fReader_readFigures_13 : w_fe w_c17 13 14 (.aload 0) := ⟨rfl, rfl⟩
theorem fReader_readFigures_14 : w_fe w_c17 14 15 (.getfield 101) := ⟨rfl, rfl⟩
theorem fReader_readFigures_15 : w_ic w_c17 15 16 .ge 42 := ⟨rfl, rfl⟩
theorem fReader_readFigures_16 : w_fe w_c17 16 17 (.aload 0) := ⟨rfl, rfl⟩
theorem fReader_readFigures_17 : w_fe w_c17 17 18 (.aload 0) := ⟨rfl, rfl⟩
theorem fReader_readFigures_18 : w_fe w_c17 18 19 (.getfield 109) := ⟨rfl, rfl⟩
theorem fReader_readFigures_19 : w_fe w_c17 19 20 (.invokestatic 14) := ⟨rfl, rfl⟩
theorem fReader_readFigures_20 : w_fe w_c17 20 21 (.invokestatic 16) := ⟨rfl, rfl⟩
theorem fReader_readFigures_21 : w_if w_c17 21 22 .eq 42 := ⟨rfl, rfl⟩
theorem fReader_readFigures_22 : w_fe w_c17 22 23 (.aload 0) := ⟨rfl, rfl⟩
theorem fReader_readFigures_23 : w_fe w_c17 23 24 (.aload 0) := ⟨rfl, rfl⟩
theorem fReader_readFigures_24 : w_fe w_c17 24 25 (.getfield 110) := ⟨rfl, rfl⟩
theorem fReader_readFigures_25 : w_fe w_c17 25 26 (.bipush 10) := ⟨rfl, rfl⟩
theorem fReader_readFigures_26 : w_fe w_c17 26 27 (.fmul) := ⟨rfl, rfl⟩
theorem fReader_readFigures_27 : w_fe w_c17 27 28 (.aload 0) := ⟨rfl, rfl⟩
theorem fReader_readFigures_28 : w_fe w_c17 28 29 (.aload 0) := ⟨rfl, rfl⟩
theorem fReader_readFigures_29 : w_fe w_c17 29 30 (.getfield 109) := ⟨rfl, rfl⟩
theorem fReader_readFigures_30 : w_fe w_c17 30 31 (.invokestatic 14) := ⟨rfl, rfl⟩
theorem fReader_readFigures_31 : w_fe w_c17 31 32 (.fadd) := ⟨rfl, rfl⟩
theorem fReader_readFigures_32 : w_fe w_c17 32 33 (.bipush 48) := ⟨rfl, rfl⟩
theorem fReader_readFigures_33 : w_fe w_c17 33 34 (.fsub) := ⟨rfl, rfl⟩
theorem fReader_readFigures_34 : w_fe w_c17 34 35 (.putfield 110) := ⟨rfl, rfl⟩
theorem fReader_readFigures_35 : w_fe w_c17 35 36 (.aload 0) := ⟨rfl, rfl⟩
theorem fReader_readFigures_36 : w_fe w_c17 36 37 (.dup) := ⟨rfl, rfl⟩
theorem fReader_readFigures_37 : w_fe w_c17 37 38 (.getfield 109) := ⟨rfl, rfl⟩
theorem fReader_readFigures_38 : w_fe w_c17 38 39 (.bipush 1) := ⟨rfl, rfl⟩
theorem fReader_readFigures_39 : w_fe w_c17 39 40 (.iadd) := ⟨rfl, rfl⟩
theorem fReader_readFigures_40 : w_fe w_c17 40 41 (.putfield 109) := ⟨rfl, rfl⟩
theorem fReader_readFigures_41 : w_gt w_c17 41 11 := rfl
theorem fReader_readFigures_42 : w_fe w_c17 42 43 (.aload 0) := ⟨rfl, rfl⟩
theorem fReader_readFigures_43 : w_fe w_c17 43 44 (.getfield 109) := ⟨rfl, rfl⟩
theorem fReader_readFigures_44 : w_fe w_c17 44 45 (.aload 0) := ⟨rfl, rfl⟩
theorem fReader_readFigures_45 : w_fe w_c17 45 46 (.getfield 108) := ⟨rfl, rfl⟩
theorem fReader_readFigures_46 : w_fe w_c17 46 47 (.isub) := ⟨rfl, rfl⟩
theorem fReader_readFigures_47 : w_fe w_c17 47 48 (.bipush 2) := ⟨rfl, rfl⟩
theorem fReader_readFigures_48 : w_ic w_c17 48 49 .le 57 := ⟨rfl, rfl⟩
theorem fReader_readFigures_49 : w_fe w_c17 49 50 (.aload 0) := ⟨rfl, rfl⟩
theorem fReader_readFigures_50 : w_fe w_c17 50 51 (.bipush 4) := ⟨rfl, rfl⟩
theorem fReader_readFigures_51 : w_fe w_c17 51 52 (.putfield 107) := ⟨rfl, rfl⟩
theorem fReader_readFigures_52 : w_fe w_c17 52 53 (.aload 0) := ⟨rfl, rfl⟩
theorem fReader_readFigures_53 : w_fe w_c17 53 54 (.bipush 1) := ⟨rfl, rfl⟩
theorem fReader_readFigures_54 : w_fe w_c17 54 55 (.aload 0) := ⟨rfl, rfl⟩
theorem fReader_readFigures_55 : w_fe w_c17 55 56 (.getfield 108) := ⟨rfl, rfl⟩
theorem fReader_readFigures_56 : w_fe w_c17 56 57 (.invokestatic 18) := ⟨rfl, rfl⟩
theorem fReader_readFigures_57 : w_fe w_c17 57 58 (.return_) := ⟨rfl, rfl⟩
noncomputable def LReader_readFigures_11 (xs : List Int) (d : Nat) (Q : Option w_V → w_M → Prop)  (σ : w_M) : Prop := w_Ex (xs, d) 0 w_c17 Q 11 [some (.inr (.inr (1, 1)))] [] σ
set_option maxRecDepth 20000 in
theorem bReader_readFigures_0 {xs : List Int} {d : Nat} {Q : Option w_V → w_M → Prop}  {σ : w_M}
    (h : ∀ (τ1 : w_M), τ1 = w_up σ 1 7 2 → ∀ (y2 : Int), y2 = v_Reader_byteAt (τ1 1 8) τ1 → (w_in (y2 - 48) ∧ (∀ (τ3 : w_M), τ3 = w_up τ1 1 10 (y2 - 48) → LReader_readFigures_11 xs (d + 1) Q τ3))) : w_Call (xs, (d + 1)) 17 [.inr (.inr (1, 1))] σ Q :=
  (w_mk (mid := 17) (by decide) rfl rfl rfl rfl rfl (Nat.le_of_ble_eq_true rfl) ⟨rfl, Or.inl (by decide)⟩ (wi_aload0 fReader_readFigures_0 (wi_bipush fReader_readFigures_1 (wi_putf107 fReader_readFigures_2 (wi_aload0 fReader_readFigures_3 (wi_aload0 fReader_readFigures_4 (wi_aload0 fReader_readFigures_5 (wi_getf108 fReader_readFigures_6 (wi_call2 fReader_readFigures_7 (Nat.le_of_ble_eq_true rfl) (k_Reader_byteAt (wi_bipush fReader_readFigures_8 (wi_isub fReader_readFigures_9 ((h _ rfl) _ rfl).1 (wi_putf110 fReader_readFigures_10 (((h _ rfl) _ rfl).2 _ rfl))))))))))))))
set_option maxRecDepth 20000 in
theorem bReader_readFigures_11 {xs : List Int} {d : Nat} {Q : Option w_V → w_M → Prop}  {σ : w_M}
    (h : ((σ 1 1) ≤ (σ 1 9) → (w_in ((σ 1 9) - (σ 1 8)) ∧ ((((σ 1 9) - (σ 1 8)) ≤ 2 → Q none σ) ∧ (2 < ((σ 1 9) - (σ 1 8)) → ∀ (τ1 : w_M), τ1 = w_up σ 1 7 4 → ∀ (τ2 : w_M), q_Reader_fail 1 (τ1 1 8) τ1 τ2 → Q none τ2)))) ∧ ((σ 1 9) < (σ 1 1) → ∀ (y4 : Int), y4 = v_Reader_byteAt (σ 1 9) σ → ((¬ (48 ≤ y4 ∧ y4 ≤ 57) → (w_in ((σ 1 9) - (σ 1 8)) ∧ ((((σ 1 9) - (σ 1 8)) ≤ 2 → Q none σ) ∧ (2 < ((σ 1 9) - (σ 1 8)) → ∀ (τ5 : w_M), τ5 = w_up σ 1 7 4 → ∀ (τ6 : w_M), q_Reader_fail 1 (τ5 1 8) τ5 τ6 → Q none τ6)))) ∧ ((48 ≤ y4 ∧ y4 ≤ 57) → ∀ (y8 : Int), y8 = v_Reader_byteAt (σ 1 9) σ → ∀ (τ9 : w_M), τ9 = w_up σ 1 10 (w_wr ((w_wr ((w_wr ((σ 1 10) * 10)) + y8)) - 48)) → (w_in ((τ9 1 9) + 1) ∧ (∀ (τ10 : w_M), τ10 = w_up τ9 1 9 ((τ9 1 9) + 1) → LReader_readFigures_11 xs (d + 1) Q τ10)))))) : LReader_readFigures_11 xs (d + 1) Q  σ :=
  (wi_aload0 fReader_readFigures_11 (wi_getf109 fReader_readFigures_12 (wi_aload0 fReader_readFigures_13 (wi_getf101 fReader_readFigures_14 (wi_ic_ge fReader_readFigures_15 (fun c12 => (wi_aload0 fReader_readFigures_42 (wi_getf109 fReader_readFigures_43 (wi_aload0 fReader_readFigures_44 (wi_getf108 fReader_readFigures_45 (wi_isub fReader_readFigures_46 (h.1 c12).1 (wi_bipush fReader_readFigures_47 (wi_ic_le fReader_readFigures_48 (fun c3 => (wi_ret0 fReader_readFigures_57 ((h.1 c12).2.1 c3))) (fun c3 => (wi_aload0 fReader_readFigures_49 (wi_bipush fReader_readFigures_50 (wi_putf107 fReader_readFigures_51 (wi_aload0 fReader_readFigures_52 (wi_bipush fReader_readFigures_53 (wi_aload0 fReader_readFigures_54 (wi_getf108 fReader_readFigures_55 (wi_call3 fReader_readFigures_56 (Nat.le_of_ble_eq_true rfl) (k_Reader_fail (fun τ2 eτ2 => (wi_ret0 fReader_readFigures_57 ((((h.1 c12).2.2 c3) _ rfl) τ2 eτ2))))))))))))))))))))) (fun c12 => (wi_aload0 fReader_readFigures_16 (wi_aload0 fReader_readFigures_17 (wi_getf109 fReader_readFigures_18 (wi_call2 fReader_readFigures_19 (Nat.le_of_ble_eq_true rfl) (k_Reader_byteAt (wi_call1 fReader_readFigures_20 (Nat.le_of_ble_eq_true rfl) (k_Reader_isFigure (wi_ifb_eq fReader_readFigures_21 (fun c11 => (wi_aload0 fReader_readFigures_42 (wi_getf109 fReader_readFigures_43 (wi_aload0 fReader_readFigures_44 (wi_getf108 fReader_readFigures_45 (wi_isub fReader_readFigures_46 (((h.2 c12) _ rfl).1 c11).1 (wi_bipush fReader_readFigures_47 (wi_ic_le fReader_readFigures_48 (fun c7 => (wi_ret0 fReader_readFigures_57 ((((h.2 c12) _ rfl).1 c11).2.1 c7))) (fun c7 => (wi_aload0 fReader_readFigures_49 (wi_bipush fReader_readFigures_50 (wi_putf107 fReader_readFigures_51 (wi_aload0 fReader_readFigures_52 (wi_bipush fReader_readFigures_53 (wi_aload0 fReader_readFigures_54 (wi_getf108 fReader_readFigures_55 (wi_call3 fReader_readFigures_56 (Nat.le_of_ble_eq_true rfl) (k_Reader_fail (fun τ6 eτ6 => (wi_ret0 fReader_readFigures_57 ((((((h.2 c12) _ rfl).1 c11).2.2 c7) _ rfl) τ6 eτ6))))))))))))))))))))) (fun c11 => (wi_aload0 fReader_readFigures_22 (wi_aload0 fReader_readFigures_23 (wi_getf110 fReader_readFigures_24 (wi_bipush fReader_readFigures_25 (wi_fmul fReader_readFigures_26 (wi_aload0 fReader_readFigures_27 (wi_aload0 fReader_readFigures_28 (wi_getf109 fReader_readFigures_29 (wi_call2 fReader_readFigures_30 (Nat.le_of_ble_eq_true rfl) (k_Reader_byteAt (wi_fadd fReader_readFigures_31 (wi_bipush fReader_readFigures_32 (wi_fsub fReader_readFigures_33 (wi_putf110 fReader_readFigures_34 (wi_aload0 fReader_readFigures_35 (wi_dup_a fReader_readFigures_36 (wi_getf109 fReader_readFigures_37 (wi_bipush fReader_readFigures_38 (wi_iadd fReader_readFigures_39 (((((h.2 c12) _ rfl).2 c11) _ rfl) _ rfl).1 (wi_putf109 fReader_readFigures_40 (wi_goto fReader_readFigures_41 ((((((h.2 c12) _ rfl).2 c11) _ rfl) _ rfl).2 _ rfl)))))))))))))))))))))))))))))))))))))
set_option maxHeartbeats 1000000 in
theorem k_Reader_readFigures {xs : List Int} {d : Nat} {Q : Option w_V → w_M → Prop}  {σ : w_M} (hp : p_Reader_readFigures σ) (hQ : ∀ σ' : w_M, q_Reader_readFigures σ σ' → Q none σ') : w_Call (xs, d + 1) 17 [.inr (.inr (1, 1))] σ Q := by
  obtain ⟨⟨hk, h3⟩, h8, h9, hc⟩ := hp
  have hk1 := hk.1
  unfold q_Reader_readFigures at hQ
  obtain ⟨f, hf⟩ : ∃ f : Nat, σ 1 8 = (f : Int) := ⟨(σ 1 8).toNat, by omega⟩
  rw [hf, Int.toNat_natCast] at hQ hc
  rw [hf] at h8 h9
  have hLe : rL σ = (σ 1 1).toNat := rfl
  have tbb : ∀ τ : w_M, r_fr σ τ → ∀ x : Int, 0 ≤ x → v_Reader_byteAt x τ = tb (rT σ) (rL σ) x.toNat := fun τ F x hx => by rw [r_byte (F.ok hk) hx, F.T, F.L]
  generalize hT : rT σ = T at *
  generalize hL : rL σ = L at *
  refine bReader_readFigures_0 (fun τ1 t1 y2 e2 => ?_)
  have F1 : r_fr σ τ1 := by rw [t1]; exact r_fr.rfl'.up (by decide) (by decide)
  have z8 : τ1 1 8 = (f : Int) := by rw [t1, w_up_j (by decide)]; exact hf
  rw [tbb τ1 F1 _ (by omega), z8, Int.toNat_natCast] at e2
  refine ⟨⟨by omega, by omega⟩, fun τ3 t3 => ?_⟩
  have fin : ∀ (i : Nat) (τ : w_M), r_fr σ τ → τ 1 3 = 0 → τ 1 4 = σ 1 4 → τ 1 7 = 2 → τ 1 8 = (f : Int) → τ 1 9 = ((f + 1 + i : Nat) : Int) → (∀ j, f + 1 ≤ j → j < f + 1 + i → tP_f (tb T L j) = true) → (i = 0 → τ 1 10 = tb T L f - 48) → (i = 1 → τ 1 10 = (tb T L f - 48) * 10 + tb T L (f + 1) - 48) → tP_f (tb T L (f + 1 + i)) = false → f + 1 + i ≤ L →
      (w_in (τ 1 9 - τ 1 8) ∧ ((τ 1 9 - τ 1 8 ≤ 2 → Q none τ) ∧ (2 < τ 1 9 - τ 1 8 → ∀ τ1 : w_M, τ1 = w_up τ 1 7 4 → ∀ τ2 : w_M, q_Reader_fail 1 (τ1 1 8) τ1 τ2 → Q none τ2))) := fun i τ F i3 i4 i7 i8 i9 hd hv0 hv1 hstop hle => by
    have ee : rn tP_f T L 160 (f + 1) = f + 1 + i := rn_of hstop _ _ (by omega) hd (by omega)
    rw [ee] at hQ
    refine ⟨⟨by omega, by omega⟩, fun c => hQ _ ⟨F, i8, i9, Or.inl ⟨by omega, i7, i3, i4, ?_⟩⟩, fun c τ5 t5 τ6 q6 => ?_⟩
    · by_cases h0 : i = 0
      · rw [hv0 h0, if_pos (by omega)]
      · rw [hv1 (by omega), if_neg (by omega)]
    · have z3 : τ5 1 3 = 0 := by rw [t5, w_up_j (by decide)]; exact i3
      have z8' : τ5 1 8 = (f : Int) := by rw [t5, w_up_j (by decide)]; exact i8
      have q6' := q6.1 z3
      rw [z8'] at q6'
      have F5 : r_fr σ τ5 := by rw [t5]; exact F.up (by decide) (by decide)
      refine hQ _ ⟨by rw [q6']; exact (F5.up (by decide) (by decide)).up (by decide) (by decide), ?_, ?_, Or.inr ⟨by omega, ?_, ?_, ?_⟩⟩
      · rw [q6', w_up_j (by decide), w_up_j (by decide)]; exact z8'
      · rw [q6', w_up_j (by decide), w_up_j (by decide), t5, w_up_j (by decide)]; exact i9
      · rw [q6', w_up_j (by decide), w_up_j (by decide), t5, w_up_at]
      · rw [q6', w_up_j (by decide), w_up_at]
      · rw [q6', w_up_at]
  refine (w_loop (n := L - (f + 1)) (P := fun i => ∀ τ : w_M, r_fr σ τ → τ 1 3 = 0 → τ 1 4 = σ 1 4 → τ 1 7 = 2 → τ 1 8 = (f : Int) → τ 1 9 = ((f + 1 + i : Nat) : Int) → (∀ j, f + 1 ≤ j → j < f + 1 + i → tP_f (tb T L j) = true) → (i = 0 → τ 1 10 = tb T L f - 48) → (i = 1 → τ 1 10 = (tb T L f - 48) * 10 + tb T L (f + 1) - 48) → LReader_readFigures_11 xs (d + 1) Q τ) ?_ ?_) τ3 ?_ ?_ ?_ ?_ ?_ ?_ (fun j h1 h2 => by omega) (fun _ => by rw [t3, w_up_at, e2]) (fun h => by omega)
  · intro τ F i3 i4 i7 i8 i9 hd hv0 hv1
    have hstop : tP_f (tb T L (f + 1 + (L - (f + 1)))) = false := by
      unfold tb
      rw [if_neg (by omega)]
      decide
    have e11 : τ 1 1 = σ 1 1 := F.2.1
    exact bReader_readFigures_11 ⟨fun _ => fin _ τ F i3 i4 i7 i8 i9 hd hv0 hv1 hstop (by omega), fun h => by omega⟩
  · intro i hi ih τ F i3 i4 i7 i8 i9 hd hv0 hv1
    have e11 : τ 1 1 = σ 1 1 := F.2.1
    have eb : v_Reader_byteAt (τ 1 9) τ = tb T L (f + 1 + i) := by rw [tbb τ F _ (by omega), i9, Int.toNat_natCast]
    refine bReader_readFigures_11 ⟨fun h => by omega, fun _ y4 e4 => ?_⟩
    rw [eb] at e4
    refine ⟨fun c => fin i τ F i3 i4 i7 i8 i9 hd hv0 hv1 (tP_ff (by rw [← e4]; exact c)) (by omega), fun c y8 e8 τ9 t9 => ?_⟩
    rw [eb] at e8
    have z9 : τ9 1 9 = ((f + 1 + i : Nat) : Int) := by rw [t9, w_up_j (by decide)]; exact i9
    refine ⟨⟨by omega, by omega⟩, fun τ10 t10 => ?_⟩
    have hdi : tP_f (tb T L (f + 1 + i)) = true := tP_ft.mpr (by rw [← e4]; exact c)
    refine ih τ10 ?_ ?_ ?_ ?_ ?_ ?_ (fun j h1 h2 => ?_) (fun h => by omega) (fun h => ?_)
    · rw [t10, t9]; exact (F.up (by decide) (by decide)).up (by decide) (by decide)
    · rw [t10, w_up_j (by decide), t9, w_up_j (by decide)]; exact i3
    · rw [t10, w_up_j (by decide), t9, w_up_j (by decide)]; exact i4
    · rw [t10, w_up_j (by decide), t9, w_up_j (by decide)]; exact i7
    · rw [t10, w_up_j (by decide), t9, w_up_j (by decide)]; exact i8
    · rw [t10, w_up_at, z9]; omega
    · by_cases e : j = f + 1 + i
      · rw [e]; exact hdi
      · exact hd j h1 (by omega)
    · have i0 : i = 0 := by omega
      subst i0
      have hv := hv0 rfl
      have hdd := tP_ft.mp hdi
      rw [t10, w_up_j (by decide), t9, w_up_at, hv, e8]
      rw [w_wr_of (x := (tb T L f - 48) * 10) ⟨by omega, by omega⟩, w_wr_of (x := (tb T L f - 48) * 10 + tb T L (f + 1 + 0)) ⟨by omega, by omega⟩, w_wr_of ⟨by omega, by omega⟩]
  · rw [t3]; exact F1.up (by decide) (by decide)
  · rw [t3, w_up_j (by decide), t1, w_up_j (by decide)]; exact h3
  · rw [t3, w_up_j (by decide), t1, w_up_j (by decide)]
  · rw [t3, w_up_j (by decide), t1, w_up_at]
  · rw [t3, w_up_j (by decide)]; exact z8
  · rw [t3, w_up_j (by decide), t1, w_up_j (by decide), h9]; omega
noncomputable def p_Reader_readToken (σ : w_M) : Prop := (r_ok σ ∧ σ 1 3 = 0) ∧ (0 ≤ σ 1 9 ∧ σ 1 9 ≤ σ 1 1)
/-- a token was read from p on -/
noncomputable def r_tok (T : Nat → Int) (L p : Nat) (σ σ' : w_M) : Prop := r_fr σ σ' ∧ σ' 1 8 = ((tk_f T L p : Nat) : Int) ∧ (¬ tk_k T L p = 0 → σ' 1 9 = ((tk_b T L p : Nat) : Int)) ∧ σ' 1 7 = tk_k T L p ∧ (tk_k T L p = 2 → σ' 1 10 = tk_v T L p) ∧ (tk_k T L p = 4 → σ' 1 3 = 1 ∧ σ' 1 4 = ((tk_f T L p : Nat) : Int)) ∧ (¬ tk_k T L p = 4 → σ' 1 3 = 0 ∧ σ' 1 4 = σ 1 4)
noncomputable def q_Reader_readToken (σ σ' : w_M) : Prop := r_tok (rT σ) (rL σ) (σ 1 9).toNat σ σ'
theorem fReader_readToken_0 : w_fe am_c13 0 1 (.aload 0) := ⟨rfl, rfl⟩
theorem fReader_readToken_1 : w_fe am_c13 1 2 (.aload 0) := ⟨rfl, rfl⟩
theorem fReader_readToken_2 : w_fe am_c13 2 3 (.getfield 109) := ⟨rfl, rfl⟩
theorem fReader_readToken_3 : w_fe am_c13 3 4 (.putfield 108) := ⟨rfl, rfl⟩
theorem fReader_readToken_4 : w_fe am_c13 4 5 (.aload 0) := ⟨rfl, rfl⟩
theorem fReader_readToken_5 : w_fe am_c13 5 6 (.aload 0) := ⟨rfl, rfl⟩
theorem fReader_readToken_6 : w_fe am_c13 6 7 (.getfield 108) := ⟨rfl, rfl⟩
theorem fReader_readToken_7 : w_fe am_c13 7 8 (.invokestatic 14) := ⟨rfl, rfl⟩
theorem fReader_readToken_8 : w_fe am_c13 8 9 (.bipush 32) := ⟨rfl, rfl⟩
theorem fReader_readToken_9 : w_ic am_c13 9 10 .ne 22 := ⟨rfl, rfl⟩
theorem fReader_readToken_10 : w_fe am_c13 10 11 (.aload 0) := ⟨rfl, rfl⟩
theorem fReader_readToken_11 : w_fe am_c13 11 12 (.getfield 108) := ⟨rfl, rfl⟩
theorem fReader_readToken_12 : w_fe am_c13 12 13 (.aload 0) := ⟨rfl, rfl⟩
theorem fReader_readToken_13 : w_fe am_c13 13 14 (.getfield 101) := ⟨rfl, rfl⟩
theorem fReader_readToken_14 : w_ic am_c13 14 15 .ge 22 := ⟨rfl, rfl⟩
theorem fReader_readToken_15 : w_fe am_c13 15 16 (.aload 0) := ⟨rfl, rfl⟩
theorem fReader_readToken_16 : w_fe am_c13 16 17 (.dup) := ⟨rfl, rfl⟩
theorem fReader_readToken_17 : w_fe am_c13 17 18 (.getfield 108) := ⟨rfl, rfl⟩
theorem fReader_readToken_18 : w_fe am_c13 18 19 (.bipush 1) := ⟨rfl, rfl⟩
theorem fReader_readToken_19 : w_fe am_c13 19 20 (.iadd) := ⟨rfl, rfl⟩
theorem fReader_readToken_20 : w_fe am_c13 20 21 (.putfield 108) := ⟨rfl, rfl⟩
theorem fReader_readToken_21 : w_gt am_c13 21 4 := rfl
theorem fReader_readToken_22 : w_fe am_c13 22 23 (.aload 0) := ⟨rfl, rfl⟩
theorem fReader_readToken_23 : w_fe am_c13 23 24 (.aload 0) := ⟨rfl, rfl⟩
theorem fReader_readToken_24 : w_fe am_c13 24 25 (.getfield 108) := ⟨rfl, rfl⟩
theorem fReader_readToken_25 : w_fe am_c13 25 26 (.bipush 1) := ⟨rfl, rfl⟩
theorem fReader_readToken_26 : w_fe am_c13 26 27 (.iadd) := ⟨rfl, rfl⟩
theorem fReader_readToken_27 : w_fe am_c13 27 28 (.putfield 109) := ⟨rfl, rfl⟩
theorem fReader_readToken_28 : w_fe am_c13 28 29 (.aload 0) := ⟨rfl, rfl⟩
theorem fReader_readToken_29 : w_fe am_c13 29 30 (.aload 0) := ⟨rfl, rfl⟩
theorem fReader_readToken_30 : w_fe am_c13 30 31 (.getfield 108) := ⟨rfl, rfl⟩
theorem fReader_readToken_31 : w_fe am_c13 31 32 (.invokestatic 14) := ⟨rfl, rfl⟩
theorem fReader_readToken_32 : w_fe am_c13 32 33 (.istore 1) := ⟨rfl, rfl⟩
theorem fReader_readToken_33 : w_fe am_c13 33 34 (.aload 0) := ⟨rfl, rfl⟩
theorem fReader_readToken_34 : w_fe am_c13 34 35 (.getfield 108) := ⟨rfl, rfl⟩
theorem fReader_readToken_35 : w_fe am_c13 35 36 (.aload 0) := ⟨rfl, rfl⟩
theorem fReader_readToken_36 : w_fe am_c13 36 37 (.getfield 101) := ⟨rfl, rfl⟩
theorem fReader_readToken_37 : w_ic am_c13 37 38 .lt 42 := ⟨rfl, rfl⟩
theorem fReader_readToken_38 : w_fe am_c13 38 39 (.aload 0) := ⟨rfl, rfl⟩
theorem fReader_readToken_39 : w_fe am_c13 39 40 (.bipush 0) := ⟨rfl, rfl⟩
theorem fReader_readToken_40 : w_fe am_c13 40 41 (.putfield 107) := ⟨rfl, rfl⟩
theorem fReader_readToken_41 : w_gt am_c13 41 87 := rfl
theorem fReader_readToken_42 : w_fe am_c13 42 43 (.iload 1) := ⟨rfl, rfl⟩
theorem fReader_readToken_43 : w_fe am_c13 43 44 (.invokestatic 15) := ⟨rfl, rfl⟩
theorem fReader_readToken_44 : w_if am_c13 44 45 .eq 66 := ⟨rfl, rfl⟩
theorem fReader_readToken_45 : w_fe am_c13 45 46 (.aload 0) := ⟨rfl, rfl⟩
theorem fReader_readToken_46 : w_fe am_c13 46 47 (.bipush 1) := ⟨rfl, rfl⟩
theorem fReader_readToken_47 : w_fe am_c13 47 48 (.putfield 107) := ⟨rfl, rfl⟩
theorem fReader_readToken_48 : w_fe am_c13 48 49 (.aload 0) := ⟨rfl, rfl⟩
theorem fReader_readToken_49 : w_fe am_c13 49 50 (.getfield 109) := ⟨rfl, rfl⟩
theorem fReader_readToken_50 : w_fe am_c13 50 51 (.aload 0) := ⟨rfl, rfl⟩
theorem fReader_readToken_51 : w_fe am_c13 51 52 (.getfield 101) := ⟨rfl, rfl⟩
theorem fReader_readToken_52 : w_ic am_c13 52 53 .ge 87 := ⟨rfl, rfl⟩
theorem fReader_readToken_53 : w_fe am_c13 53 54 (.aload 0) := ⟨rfl, rfl⟩
theorem fReader_readToken_54 : w_fe am_c13 54 55 (.aload 0) := ⟨rfl, rfl⟩
theorem fReader_readToken_55 : w_fe am_c13 55 56 (.getfield 109) := ⟨rfl, rfl⟩
theorem fReader_readToken_56 : w_fe am_c13 56 57 (.invokestatic 14) := ⟨rfl, rfl⟩
theorem fReader_readToken_57 : w_fe am_c13 57 58 (.invokestatic 15) := ⟨rfl, rfl⟩
theorem fReader_readToken_58 : w_if am_c13 58 59 .eq 87 := ⟨rfl, rfl⟩
theorem fReader_readToken_59 : w_fe am_c13 59 60 (.aload 0) := ⟨rfl, rfl⟩
theorem fReader_readToken_60 : w_fe am_c13 60 61 (.dup) := ⟨rfl, rfl⟩
theorem fReader_readToken_61 : w_fe am_c13 61 62 (.getfield 109) := ⟨rfl, rfl⟩
theorem fReader_readToken_62 : w_fe am_c13 62 63 (.bipush 1) := ⟨rfl, rfl⟩
theorem fReader_readToken_63 : w_fe am_c13 63 64 (.iadd) := ⟨rfl, rfl⟩
theorem fReader_readToken_64 : w_fe am_c13 64 65 (.putfield 109) := ⟨rfl, rfl⟩
theorem fReader_readToken_65 : w_gt am_c13 65 48 := rfl
theorem fReader_readToken_66 : w_fe am_c13 66 67 (.iload 1) := ⟨rfl, rfl⟩
theorem fReader_readToken_67 : w_fe am_c13 67 68 (.invokestatic 16) := ⟨rfl, rfl⟩
theorem fReader_readToken_68 : w_if am_c13 68 69 .eq 72 := ⟨rfl, rfl⟩
theorem fReader_readToken_69 : w_fe am_c13 69 70 (.aload 0) := ⟨rfl, rfl⟩
theorem fReader_readToken_70 : w_fe am_c13 70 71 (.invokestatic 17) := ⟨rfl, rfl⟩
theorem fReader_readToken_71 : w_gt am_c13 71 87 := rfl
theorem fReader_readToken_72 : w_fe am_c13 72 73 (.iload 1) := ⟨rfl, rfl⟩
theorem fReader_readToken_73 : w_fe am_c13 73 74 (.bipush 59) := ⟨rfl, rfl⟩
theorem fReader_readToken_74 : w_ic am_c13 74 75 .ne 79 := ⟨rfl, rfl⟩
theorem fReader_readToken_75 : w_fe am_c13 75 76 (.aload 0) := ⟨rfl, rfl⟩
theorem fReader_readToken_76 : w_fe am_c13 76 77 (.bipush 3) := ⟨rfl, rfl⟩
theorem fReader_readToken_77 : w_fe am_c13 77 78 (.putfield 107) := ⟨rfl, rfl⟩
theorem fReader_readToken_78 : w_gt am_c13 78 87 := rfl
theorem fReader_readToken_79 : w_fe am_c13 79 80 (.aload 0) := ⟨rfl, rfl⟩
theorem fReader_readToken_80 : w_fe am_c13 80 81 (.bipush 4) := ⟨rfl, rfl⟩
theorem fReader_readToken_81 : w_fe am_c13 81 82 (.putfield 107) := ⟨rfl, rfl⟩
theorem fReader_readToken_82 : w_fe am_c13 82 83 (.aload 0) := ⟨rfl, rfl⟩
theorem fReader_readToken_83 : w_fe am_c13 83 84 (.bipush 1) := ⟨rfl, rfl⟩
theorem fReader_readToken_84 : w_fe am_c13 84 85 (.aload 0) := ⟨rfl, rfl⟩
theorem fReader_readToken_85 : w_fe am_c13 85 86 (.getfield 108) := ⟨rfl, rfl⟩
theorem fReader_readToken_86 : w_fe am_c13 86 87 (.invokestatic 18) := ⟨rfl, rfl⟩
theorem fReader_readToken_87 : w_fe am_c13 87 88 (.return_) := ⟨rfl, rfl⟩
noncomputable def LReader_readToken_4 (xs : List Int) (d : Nat) (Q : Option w_V → w_M → Prop)  (σ : w_M) : Prop := ∀ l1, w_nl l1 → w_Ex (xs, d) 0 am_c13 Q 4 [some (.inr (.inr (1, 1))), l1] [] σ
noncomputable def LReader_readToken_48 (xs : List Int) (d : Nat) (Q : Option w_V → w_M → Prop)  (σ : w_M) : Prop := ∀ l1, w_nl l1 → w_Ex (xs, d) 0 am_c13 Q 48 [some (.inr (.inr (1, 1))), l1] [] σ
set_option maxRecDepth 20000 in
theorem bReader_readToken_0 {xs : List Int} {d : Nat} {Q : Option w_V → w_M → Prop}  {σ : w_M}
    (h : ∀ (τ1 : w_M), τ1 = w_up σ 1 8 (σ 1 9) → LReader_readToken_4 xs (d + 2) Q τ1) : w_Call (xs, (d + 2)) 13 [.inr (.inr (1, 1))] σ Q :=
  (w_mk (mid := 13) (by decide) rfl rfl rfl rfl rfl (Nat.le_of_ble_eq_true rfl) ⟨rfl, Or.inl (by decide)⟩ (wi_aload0 fReader_readToken_0 (wi_aload0 fReader_readToken_1 (wi_getf109 fReader_readToken_2 (wi_putf108 fReader_readToken_3 ((h _ rfl) _ (by exact trivial)))))))
set_option maxRecDepth 20000 in
theorem bReader_readToken_4 {xs : List Int} {d : Nat} {Q : Option w_V → w_M → Prop}  {σ : w_M}
    (h : ∀ (y1 : Int), y1 = v_Reader_byteAt (σ 1 8) σ → ((¬ y1 = 32 → (w_in ((σ 1 8) + 1) ∧ (∀ (τ2 : w_M), τ2 = w_up σ 1 9 ((σ 1 8) + 1) → ∀ (y3 : Int), y3 = v_Reader_byteAt (τ2 1 8) τ2 → (((τ2 1 8) < (τ2 1 1) → ((¬ (97 ≤ y3 ∧ y3 ≤ 122) → ((¬ (48 ≤ y3 ∧ y3 ≤ 57) → ((¬ y3 = 59 → ∀ (τ4 : w_M), τ4 = w_up τ2 1 7 4 → ∀ (τ5 : w_M), q_Reader_fail 1 (τ4 1 8) τ4 τ5 → Q none τ5) ∧ (y3 = 59 → ∀ (τ6 : w_M), τ6 = w_up τ2 1 7 3 → Q none τ6))) ∧ ((48 ≤ y3 ∧ y3 ≤ 57) → (p_Reader_readFigures τ2 ∧ (∀ (τ8 : w_M), q_Reader_readFigures τ2 τ8 → Q none τ8))))) ∧ ((97 ≤ y3 ∧ y3 ≤ 122) → ∀ (τ10 : w_M), τ10 = w_up τ2 1 7 1 → LReader_readToken_48 xs (d + 2) Q τ10))) ∧ ((τ2 1 1) ≤ (τ2 1 8) → ∀ (τ12 : w_M), τ12 = w_up τ2 1 7 0 → Q none τ12))))) ∧ (y1 = 32 → (((σ 1 1) ≤ (σ 1 8) → (w_in ((σ 1 8) + 1) ∧ (∀ (τ14 : w_M), τ14 = w_up σ 1 9 ((σ 1 8) + 1) → ∀ (y15 : Int), y15 = v_Reader_byteAt (τ14 1 8) τ14 → (((τ14 1 8) < (τ14 1 1) → ((¬ (97 ≤ y15 ∧ y15 ≤ 122) → ((¬ (48 ≤ y15 ∧ y15 ≤ 57) → ((¬ y15 = 59 → ∀ (τ16 : w_M), τ16 = w_up τ14 1 7 4 → ∀ (τ17 : w_M), q_Reader_fail 1 (τ16 1 8) τ16 τ17 → Q none τ17) ∧ (y15 = 59 → ∀ (τ18 : w_M), τ18 = w_up τ14 1 7 3 → Q none τ18))) ∧ ((48 ≤ y15 ∧ y15 ≤ 57) → (p_Reader_readFigures τ14 ∧ (∀ (τ20 : w_M), q_Reader_readFigures τ14 τ20 → Q none τ20))))) ∧ ((97 ≤ y15 ∧ y15 ≤ 122) → ∀ (τ22 : w_M), τ22 = w_up τ14 1 7 1 → LReader_readToken_48 xs (d + 2) Q τ22))) ∧ ((τ14 1 1) ≤ (τ14 1 8) → ∀ (τ24 : w_M), τ24 = w_up τ14 1 7 0 → Q none τ24))))) ∧ ((σ 1 8) < (σ 1 1) → (w_in ((σ 1 8) + 1) ∧ (∀ (τ26 : w_M), τ26 = w_up σ 1 8 ((σ 1 8) + 1) → LReader_readToken_4 xs (d + 2) Q τ26))))))) : LReader_readToken_4 xs (d + 2) Q  σ :=
  fun l1 nl1 => (wi_aload0 fReader_readToken_4 (wi_aload0 fReader_readToken_5 (wi_getf108 fReader_readToken_6 (wi_call2 fReader_readToken_7 (Nat.le_of_ble_eq_true rfl) (k_Reader_byteAt (wi_bipush fReader_readToken_8 (wi_ic_ne fReader_readToken_9 (fun c28 => (wi_aload0 fReader_readToken_22 (wi_aload0 fReader_readToken_23 (wi_getf108 fReader_readToken_24 (wi_bipush fReader_readToken_25 (wi_iadd fReader_readToken_26 ((h _ rfl).1 c28).1 (wi_putf109 fReader_readToken_27 (wi_aload0 fReader_readToken_28 (wi_aload0 fReader_readToken_29 (wi_getf108 fReader_readToken_30 (wi_call2 fReader_readToken_31 (Nat.le_of_ble_eq_true rfl) (k_Reader_byteAt (wi_istore1 fReader_readToken_32 trivial (wi_aload0 fReader_readToken_33 (wi_getf108 fReader_readToken_34 (wi_aload0 fReader_readToken_35 (wi_getf101 fReader_readToken_36 (wi_ic_lt fReader_readToken_37 (fun c13 => (wi_iload1 fReader_readToken_42 (wi_call1 fReader_readToken_43 (Nat.le_of_ble_eq_true rfl) (k_Reader_isLetter (wi_ifb_eq fReader_readToken_44 (fun c11 => (wi_iload1 fReader_readToken_66 (wi_call1 fReader_readToken_67 (Nat.le_of_ble_eq_true rfl) (k_Reader_isFigure (wi_ifb_eq fReader_readToken_68 (fun c9 => (wi_iload1 fReader_readToken_72 (wi_bipush fReader_readToken_73 (wi_ic_ne fReader_readToken_74 (fun c7 => (wi_aload0 fReader_readToken_79 (wi_bipush fReader_readToken_80 (wi_putf107 fReader_readToken_81 (wi_aload0 fReader_readToken_82 (wi_bipush fReader_readToken_83 (wi_aload0 fReader_readToken_84 (wi_getf108 fReader_readToken_85 (wi_call3 fReader_readToken_86 (Nat.le_of_ble_eq_true rfl) (k_Reader_fail (fun τ5 eτ5 => (wi_ret0 fReader_readToken_87 ((((((((((h _ rfl).1 c28).2 _ rfl) _ rfl).1 c13).1 c11).1 c9).1 c7) _ rfl) τ5 eτ5))))))))))))) (fun c7 => (wi_aload0 fReader_readToken_75 (wi_bipush fReader_readToken_76 (wi_putf107 fReader_readToken_77 (wi_goto fReader_readToken_78 (wi_ret0 fReader_readToken_87 (((((((((h _ rfl).1 c28).2 _ rfl) _ rfl).1 c13).1 c11).1 c9).2 c7) _ rfl))))))))))) (fun c9 => (wi_aload0 fReader_readToken_69 (wi_call1 fReader_readToken_70 (Nat.le_of_ble_eq_true rfl) (k_Reader_readFigures (((((((h _ rfl).1 c28).2 _ rfl) _ rfl).1 c13).1 c11).2 c9).1 (fun τ8 eτ8 => (wi_goto fReader_readToken_71 (wi_ret0 fReader_readToken_87 ((((((((h _ rfl).1 c28).2 _ rfl) _ rfl).1 c13).1 c11).2 c9).2 τ8 eτ8))))))))))))) (fun c11 => (wi_aload0 fReader_readToken_45 (wi_bipush fReader_readToken_46 (wi_putf107 fReader_readToken_47 ((((((((h _ rfl).1 c28).2 _ rfl) _ rfl).1 c13).2 c11) _ rfl) _ (by exact trivial))))))))))) (fun c13 => (wi_aload0 fReader_readToken_38 (wi_bipush fReader_readToken_39 (wi_putf107 fReader_readToken_40 (wi_goto fReader_readToken_41 (wi_ret0 fReader_readToken_87 ((((((h _ rfl).1 c28).2 _ rfl) _ rfl).2 c13) _ rfl))))))))))))))))))))))))) (fun c28 => (wi_aload0 fReader_readToken_10 (wi_getf108 fReader_readToken_11 (wi_aload0 fReader_readToken_12 (wi_getf101 fReader_readToken_13 (wi_ic_ge fReader_readToken_14 (fun c27 => (wi_aload0 fReader_readToken_22 (wi_aload0 fReader_readToken_23 (wi_getf108 fReader_readToken_24 (wi_bipush fReader_readToken_25 (wi_iadd fReader_readToken_26 (((h _ rfl).2 c28).1 c27).1 (wi_putf109 fReader_readToken_27 (wi_aload0 fReader_readToken_28 (wi_aload0 fReader_readToken_29 (wi_getf108 fReader_readToken_30 (wi_call2 fReader_readToken_31 (Nat.le_of_ble_eq_true rfl) (k_Reader_byteAt (wi_istore1 fReader_readToken_32 trivial (wi_aload0 fReader_readToken_33 (wi_getf108 fReader_readToken_34 (wi_aload0 fReader_readToken_35 (wi_getf101 fReader_readToken_36 (wi_ic_lt fReader_readToken_37 (fun c25 => (wi_iload1 fReader_readToken_42 (wi_call1 fReader_readToken_43 (Nat.le_of_ble_eq_true rfl) (k_Reader_isLetter (wi_ifb_eq fReader_readToken_44 (fun c23 => (wi_iload1 fReader_readToken_66 (wi_call1 fReader_readToken_67 (Nat.le_of_ble_eq_true rfl) (k_Reader_isFigure (wi_ifb_eq fReader_readToken_68 (fun c21 => (wi_iload1 fReader_readToken_72 (wi_bipush fReader_readToken_73 (wi_ic_ne fReader_readToken_74 (fun c19 => (wi_aload0 fReader_readToken_79 (wi_bipush fReader_readToken_80 (wi_putf107 fReader_readToken_81 (wi_aload0 fReader_readToken_82 (wi_bipush fReader_readToken_83 (wi_aload0 fReader_readToken_84 (wi_getf108 fReader_readToken_85 (wi_call3 fReader_readToken_86 (Nat.le_of_ble_eq_true rfl) (k_Reader_fail (fun τ17 eτ17 => (wi_ret0 fReader_readToken_87 (((((((((((h _ rfl).2 c28).1 c27).2 _ rfl) _ rfl).1 c25).1 c23).1 c21).1 c19) _ rfl) τ17 eτ17))))))))))))) (fun c19 => (wi_aload0 fReader_readToken_75 (wi_bipush fReader_readToken_76 (wi_putf107 fReader_readToken_77 (wi_goto fReader_readToken_78 (wi_ret0 fReader_readToken_87 ((((((((((h _ rfl).2 c28).1 c27).2 _ rfl) _ rfl).1 c25).1 c23).1 c21).2 c19) _ rfl))))))))))) (fun c21 => (wi_aload0 fReader_readToken_69 (wi_call1 fReader_readToken_70 (Nat.le_of_ble_eq_true rfl) (k_Reader_readFigures ((((((((h _ rfl).2 c28).1 c27).2 _ rfl) _ rfl).1 c25).1 c23).2 c21).1 (fun τ20 eτ20 => (wi_goto fReader_readToken_71 (wi_ret0 fReader_readToken_87 (((((((((h _ rfl).2 c28).1 c27).2 _ rfl) _ rfl).1 c25).1 c23).2 c21).2 τ20 eτ20))))))))))))) (fun c23 => (wi_aload0 fReader_readToken_45 (wi_bipush fReader_readToken_46 (wi_putf107 fReader_readToken_47 (((((((((h _ rfl).2 c28).1 c27).2 _ rfl) _ rfl).1 c25).2 c23) _ rfl) _ (by exact trivial))))))))))) (fun c25 => (wi_aload0 fReader_readToken_38 (wi_bipush fReader_readToken_39 (wi_putf107 fReader_readToken_40 (wi_goto fReader_readToken_41 (wi_ret0 fReader_readToken_87 (((((((h _ rfl).2 c28).1 c27).2 _ rfl) _ rfl).2 c25) _ rfl))))))))))))))))))))))))) (fun c27 => (wi_aload0 fReader_readToken_15 (wi_dup_a fReader_readToken_16 (wi_getf108 fReader_readToken_17 (wi_bipush fReader_readToken_18 (wi_iadd fReader_readToken_19 (((h _ rfl).2 c28).2 c27).1 (wi_putf108 fReader_readToken_20 (wi_goto fReader_readToken_21 (((((h _ rfl).2 c28).2 c27).2 _ rfl) _ nl1))))))))))))))))))))))
set_option maxRecDepth 20000 in
theorem bReader_readToken_48 {xs : List Int} {d : Nat} {Q : Option w_V → w_M → Prop}  {σ : w_M}
    (h : ((σ 1 1) ≤ (σ 1 9) → Q none σ) ∧ ((σ 1 9) < (σ 1 1) → ∀ (y1 : Int), y1 = v_Reader_byteAt (σ 1 9) σ → ((¬ (97 ≤ y1 ∧ y1 ≤ 122) → Q none σ) ∧ ((97 ≤ y1 ∧ y1 ≤ 122) → (w_in ((σ 1 9) + 1) ∧ (∀ (τ2 : w_M), τ2 = w_up σ 1 9 ((σ 1 9) + 1) → LReader_readToken_48 xs (d + 2) Q τ2)))))) : LReader_readToken_48 xs (d + 2) Q  σ :=
  fun l1 nl1 => (wi_aload0 fReader_readToken_48 (wi_getf109 fReader_readToken_49 (wi_aload0 fReader_readToken_50 (wi_getf101 fReader_readToken_51 (wi_ic_ge fReader_readToken_52 (fun c4 => (wi_ret0 fReader_readToken_87 (h.1 c4))) (fun c4 => (wi_aload0 fReader_readToken_53 (wi_aload0 fReader_readToken_54 (wi_getf109 fReader_readToken_55 (wi_call2 fReader_readToken_56 (Nat.le_of_ble_eq_true rfl) (k_Reader_byteAt (wi_call1 fReader_readToken_57 (Nat.le_of_ble_eq_true rfl) (k_Reader_isLetter (wi_ifb_eq fReader_readToken_58 (fun c3 => (wi_ret0 fReader_readToken_87 (((h.2 c4) _ rfl).1 c3))) (fun c3 => (wi_aload0 fReader_readToken_59 (wi_dup_a fReader_readToken_60 (wi_getf109 fReader_readToken_61 (wi_bipush fReader_readToken_62 (wi_iadd fReader_readToken_63 (((h.2 c4) _ rfl).2 c3).1 (wi_putf109 fReader_readToken_64 (wi_goto fReader_readToken_65 (((((h.2 c4) _ rfl).2 c3).2 _ rfl) _ nl1)))))))))))))))))))))))
set_option maxHeartbeats 1000000 in
theorem k_Reader_readToken {xs : List Int} {d : Nat} {Q : Option w_V → w_M → Prop}  {σ : w_M} (hp : p_Reader_readToken σ) (hQ : ∀ σ' : w_M, q_Reader_readToken σ σ' → Q none σ') : w_Call (xs, d + 2) 13 [.inr (.inr (1, 1))] σ Q := by
  obtain ⟨⟨hk, h3⟩, h9⟩ := hp
  have hk1 := hk.1
  unfold q_Reader_readToken at hQ
  obtain ⟨p, hp9⟩ : ∃ p : Nat, σ 1 9 = (p : Int) := ⟨(σ 1 9).toNat, by omega⟩
  rw [hp9, Int.toNat_natCast] at hQ
  rw [hp9] at h9
  have hLe : rL σ = (σ 1 1).toNat := rfl
  have tbb : ∀ τ : w_M, r_fr σ τ → ∀ x : Int, 0 ≤ x → v_Reader_byteAt x τ = tb (rT σ) (rL σ) x.toNat := fun τ F x hx => by rw [r_byte (F.ok hk) hx, F.T, F.L]
  have tTL : ∀ τ : w_M, r_fr σ τ → rT τ = rT σ ∧ rL τ = rL σ ∧ r_ok τ := fun τ F => ⟨F.T, F.L, F.ok hk⟩
  generalize hT : rT σ = T at *
  generalize hL : rL σ = L at *
  have tbn : ∀ q, q < L → 0 ≤ tb T L q ∧ tb T L q ≤ 127 := fun q hq => by
    rw [← hT, ← hL, r_tb, if_pos (by rw [← hLe]; exact hq)]
    exact hk.2 q (by rw [← hLe]; exact hq)
  refine bReader_readToken_0 (fun τ1 t1 => ?_)
  refine (w_loop (n := L - p) (P := fun i => ∀ τ : w_M, r_fr σ τ → τ 1 3 = 0 → τ 1 4 = σ 1 4 → τ 1 8 = ((p + i : Nat) : Int) → (∀ j, p ≤ j → j < p + i → tP_s (tb T L j) = true) → LReader_readToken_4 xs (d + 2) Q τ) ?_ ?_) τ1 ?_ ?_ ?_ ?_ (fun j h1 h2 => by omega)
  · intro τ F i3 i4 i8 hsp
    have e11 : τ 1 1 = σ 1 1 := F.2.1
    have hend : tb T L (p + (L - p)) = -1 := by unfold tb; rw [if_neg (by omega)]
    have ef : tk_f T L p = p + (L - p) := rn_of (by rw [hend]; decide) _ _ (by omega) hsp (by omega)
    have ek : tk_k T L p = 0 := by unfold tk_k; rw [if_pos (by omega)]
    refine bReader_readToken_4 (fun y1 e1 => ?_)
    rw [tbb τ F _ (by omega), i8, Int.toNat_natCast, hend] at e1
    refine ⟨fun c => ⟨⟨by omega, by omega⟩, fun τ2 t2 y3 e3 => ⟨fun c2 => ?_, fun c2 τ12 t12 => ?_⟩⟩, fun c => by omega⟩
    · rw [t2, w_up_j (by decide), w_up_j (by decide)] at c2
      omega
    · refine hQ _ ⟨by rw [t12, t2]; exact (F.up (by decide) (by decide)).up (by decide) (by decide), ?_, fun h => absurd ek h, by rw [t12, w_up_at, ek], fun h => by omega, fun h => by omega, fun _ => ⟨?_, ?_⟩⟩
      · rw [t12, w_up_j (by decide), t2, w_up_j (by decide), i8, ef]
      · rw [t12, w_up_j (by decide), t2, w_up_j (by decide)]; exact i3
      · rw [t12, w_up_j (by decide), t2, w_up_j (by decide)]; exact i4
  · intro i hi ih τ F i3 i4 i8 hsp
    have e11 : τ 1 1 = σ 1 1 := F.2.1
    have hb := tbn (p + i) (by omega)
    refine bReader_readToken_4 (fun y1 e1 => ?_)
    rw [tbb τ F _ (by omega), i8, Int.toNat_natCast] at e1
    refine ⟨fun c => ⟨⟨by omega, by omega⟩, fun τ2 t2 => ?_⟩, fun c => ⟨fun c2 => by omega, fun c2 => ⟨⟨by omega, by omega⟩, fun τ26 t26 => ?_⟩⟩⟩
    · have ef : tk_f T L p = p + i := rn_of (tP_sf (by rw [← e1]; exact c)) _ _ (by omega) hsp (by omega)
      have ec : tk_c T L p = tb T L (p + i) := by unfold tk_c; rw [ef]
      have F2 : r_fr σ τ2 := by rw [t2]; exact F.up (by decide) (by decide)
      have z8 : τ2 1 8 = ((p + i : Nat) : Int) := by rw [t2, w_up_j (by decide)]; exact i8
      have z9 : τ2 1 9 = ((p + i + 1 : Nat) : Int) := by rw [t2, w_up_at, i8]; omega
      have z3 : τ2 1 3 = 0 := by rw [t2, w_up_j (by decide)]; exact i3
      have z4 : τ2 1 4 = σ 1 4 := by rw [t2, w_up_j (by decide)]; exact i4
      have z1 : τ2 1 1 = σ 1 1 := F2.2.1
      have kk : Unit → (tk_k T L p = if 97 ≤ tk_c T L p ∧ tk_c T L p ≤ 122 then 1 else if 48 ≤ tk_c T L p ∧ tk_c T L p ≤ 57 then (if tk_d T L p ≤ tk_f T L p + 2 then 2 else 4) else if tk_c T L p = 59 then 3 else 4) := fun _ => by unfold tk_k; rw [if_neg (by omega)]
      intro y3 e3
      rw [tbb τ2 F2 _ (by omega), z8, Int.toNat_natCast, ← ec] at e3
      rw [e3]
      refine ⟨fun c2 => ⟨fun c3 => ⟨fun c4 => ⟨fun c5 τ4 t4 τ5 q5 => ?_, fun c5 τ6 t6 => ?_⟩, fun c4 => ?_⟩, fun c3 τ10 t10 => ?_⟩, fun c2 => by omega⟩
      · -- a flaw
        have ek : tk_k T L p = 4 := by rw [kk (), if_neg c3, if_neg c4, if_neg c5]
        have eb : tk_b T L p = p + i + 1 := by unfold tk_b; rw [if_neg c3, if_neg c4, ef]
        have y3' : τ4 1 3 = 0 := by rw [t4, w_up_j (by decide)]; exact z3
        have y8' : τ4 1 8 = ((p + i : Nat) : Int) := by rw [t4, w_up_j (by decide)]; exact z8
        have q5' := q5.1 y3'
        rw [y8'] at q5'
        refine hQ _ ⟨by rw [q5', t4]; exact ((F2.up (by decide) (by decide)).up (by decide) (by decide)).up (by decide) (by decide), ?_, fun _ => ?_, ?_, fun h => by omega, fun _ => ⟨?_, ?_⟩, fun h => absurd ek h⟩
        · rw [q5', w_up_j (by decide), w_up_j (by decide), y8', ef]
        · rw [q5', w_up_j (by decide), w_up_j (by decide), t4, w_up_j (by decide), z9, eb]
        · rw [q5', w_up_j (by decide), w_up_j (by decide), t4, w_up_at, ek]
        · rw [q5', w_up_j (by decide), w_up_at]
        · rw [q5', w_up_at, ef]
      · -- a stop
        have ek : tk_k T L p = 3 := by rw [kk (), if_neg c3, if_neg c4, if_pos c5]
        have eb : tk_b T L p = p + i + 1 := by unfold tk_b; rw [if_neg c3, if_neg c4, ef]
        refine hQ _ ⟨by rw [t6]; exact F2.up (by decide) (by decide), ?_, fun _ => ?_, by rw [t6, w_up_at, ek], fun h => by omega, fun h => by omega, fun _ => ⟨?_, ?_⟩⟩
        · rw [t6, w_up_j (by decide), z8, ef]
        · rw [t6, w_up_j (by decide), z9, eb]
        · rw [t6, w_up_j (by decide)]; exact z3
        · rw [t6, w_up_j (by decide)]; exact z4
      · -- a number
        obtain ⟨g1, g2, g3⟩ := tTL τ2 F2
        refine ⟨⟨⟨g3, z3⟩, by omega, by omega, by rw [g1, g2, z8, Int.toNat_natCast, ← ec]; exact c4⟩, fun τ8 hq8 => ?_⟩
        obtain ⟨n1, n2, n3, n4⟩ := hq8
        rw [g1, g2, z8, Int.toNat_natCast] at n3 n4
        have ed : tk_d T L p = rn tP_f T L 160 (p + i + 1) := by unfold tk_d; rw [ef]
        rw [← ed] at n3 n4
        have eb : tk_b T L p = tk_d T L p := by unfold tk_b; rw [if_neg c3, if_pos c4]
        have kk2 := kk ()
        rw [if_neg c3, if_pos c4] at kk2
        replace kk : Unit → _ := fun _ => kk2
        clear kk2
        rcases n4 with ⟨m1, m2, m3, m4, m5⟩ | ⟨m1, m2, m3, m4⟩
        · replace kk := kk ()
          rw [if_pos (by omega)] at kk
          refine hQ _ ⟨F2.tr n1, by rw [n2, z8, ef], fun _ => by rw [n3, eb], by rw [m2, kk], fun _ => ?_, fun h => by omega, fun _ => ⟨m3, m4.trans z4⟩⟩
          rw [m5]
          unfold tk_v
          rw [ef, ec]
        · replace kk := kk ()
          rw [if_neg (by omega)] at kk
          exact hQ _ ⟨F2.tr n1, by rw [n2, z8, ef], fun _ => by rw [n3, eb], by rw [m2, kk], fun h => by omega, fun _ => ⟨m3, by rw [m4, ef]⟩, fun h => absurd kk h⟩
      · -- a name
        have ek : tk_k T L p = 1 := by rw [kk (), if_pos c3]
        refine (w_loop (n := L - (p + i + 1)) (P := fun k => ∀ τ : w_M, r_fr σ τ → τ 1 3 = 0 → τ 1 4 = σ 1 4 → τ 1 7 = 1 → τ 1 8 = ((p + i : Nat) : Int) → τ 1 9 = ((p + i + 1 + k : Nat) : Int) → (∀ j, p + i + 1 ≤ j → j < p + i + 1 + k → tP_l (tb T L j) = true) → LReader_readToken_48 xs (d + 2) Q τ) ?_ ?_) τ10 ?_ ?_ ?_ ?_ ?_ ?_ (fun j h1 h2 => by omega)
        · intro τ F' j3 j4 j7 j8 j9 hl
          have hend : tb T L (p + i + 1 + (L - (p + i + 1))) = -1 := by unfold tb; rw [if_neg (by omega)]
          have eb : tk_b T L p = p + i + 1 + (L - (p + i + 1)) := by
            unfold tk_b
            rw [if_pos c3, ef]
            exact rn_of (by rw [hend]; decide) _ _ (by omega) hl (by omega)
          have f11 : τ 1 1 = σ 1 1 := F'.2.1
          exact bReader_readToken_48 ⟨fun _ => hQ _ ⟨F', by rw [j8, ef], fun _ => by rw [j9, eb], by rw [j7, ek], fun h => by omega, fun h => by omega, fun _ => ⟨j3, j4⟩⟩, fun h => by omega⟩
        · intro k hk2 ih2 τ F' j3 j4 j7 j8 j9 hl
          have f11 : τ 1 1 = σ 1 1 := F'.2.1
          refine bReader_readToken_48 ⟨fun h => by omega, fun _ y1' e1' => ?_⟩
          rw [tbb τ F' _ (by omega), j9, Int.toNat_natCast] at e1'
          refine ⟨fun c6 => ?_, fun c6 => ⟨⟨by omega, by omega⟩, fun τ2' t2' => ?_⟩⟩
          · have eb : tk_b T L p = p + i + 1 + k := by
              unfold tk_b
              rw [if_pos c3, ef]
              exact rn_of (tP_lf (by rw [← e1']; exact c6)) _ _ (by omega) hl (by omega)
            exact hQ _ ⟨F', by rw [j8, ef], fun _ => by rw [j9, eb], by rw [j7, ek], fun h => by omega, fun h => by omega, fun _ => ⟨j3, j4⟩⟩
          · refine ih2 τ2' (by rw [t2']; exact F'.up (by decide) (by decide)) ?_ ?_ ?_ ?_ ?_ (fun j h1 h2 => ?_)
            · rw [t2', w_up_j (by decide)]; exact j3
            · rw [t2', w_up_j (by decide)]; exact j4
            · rw [t2', w_up_j (by decide)]; exact j7
            · rw [t2', w_up_j (by decide)]; exact j8
            · rw [t2', w_up_at, j9]; omega
            · by_cases e : j = p + i + 1 + k
              · rw [e]; exact tP_lt.mpr (by rw [← e1']; exact c6)
              · exact hl j h1 (by omega)
        · rw [t10]; exact F2.up (by decide) (by decide)
        · rw [t10, w_up_j (by decide)]; exact z3
        · rw [t10, w_up_j (by decide)]; exact z4
        · rw [t10, w_up_at]
        · rw [t10, w_up_j (by decide)]; exact z8
        · rw [t10, w_up_j (by decide)]; exact z9
    · refine ih τ26 (by rw [t26]; exact F.up (by decide) (by decide)) ?_ ?_ ?_ (fun j h1 h2 => ?_)
      · rw [t26, w_up_j (by decide)]; exact i3
      · rw [t26, w_up_j (by decide)]; exact i4
      · rw [t26, w_up_at, i8]; omega
      · by_cases e : j = p + i
        · rw [e]; exact tP_st (by rw [← e1]; exact c)
        · exact hsp j h1 (by omega)
  · rw [t1]; exact r_fr.rfl'.up (by decide) (by decide)
  · rw [t1, w_up_j (by decide)]; exact h3
  · rw [t1, w_up_j (by decide)]
  · rw [t1, w_up_at, hp9]; omega
end
section
/-! The class reads lines -/
theorem nm_carr {k : Nat} (hk : k < 5) : w_carr [] (1000 + 2 * k + 1) = w_cbyt.getD k [] ∧ s_isB (1000 + 2 * k + 1) := by
  rcases (show k = 0 ∨ k = 1 ∨ k = 2 ∨ k = 3 ∨ k = 4 by omega) with rfl | rfl | rfl | rfl | rfl <;> exact ⟨rfl, by unfold s_isB; omega⟩
noncomputable def r_pos (σ : w_M) : Prop := r_ok σ ∧ (0 ≤ σ 1 8 ∧ σ 1 8 ≤ σ 1 1) ∧ (0 ≤ σ 1 9 ∧ σ 1 9 ≤ σ 1 1)
noncomputable def p_Reader_isName (b : Nat) (σ : w_M) : Prop := r_pos σ ∧ ∃ k, k < 5 ∧ b = 1000 + 2 * k
noncomputable def P_Reader_isName (b : Nat) (σ : w_M) : Prop := nm_is (rT σ) (rL σ) (σ 1 8).toNat (σ 1 9).toNat ((b - 1000) / 2)
theorem fReader_isName_0 : w_fe am_c22 0 1 (.aload 0) := ⟨rfl, rfl⟩
theorem fReader_isName_1 : w_fe am_c22 1 2 (.getfield 109) := ⟨rfl, rfl⟩
theorem fReader_isName_2 : w_fe am_c22 2 3 (.aload 0) := ⟨rfl, rfl⟩
theorem fReader_isName_3 : w_fe am_c22 3 4 (.getfield 108) := ⟨rfl, rfl⟩
theorem fReader_isName_4 : w_fe am_c22 4 5 (.isub) := ⟨rfl, rfl⟩
theorem fReader_isName_5 : w_fe am_c22 5 6 (.aload 1) := ⟨rfl, rfl⟩
theorem fReader_isName_6 : w_fe am_c22 6 7 (.invokestatic 6) := ⟨rfl, rfl⟩
theorem fReader_isName_7 : w_ic am_c22 7 8 .eq 10 := ⟨rfl, rfl⟩
theorem fReader_isName_8 : w_fe am_c22 8 9 (.bipush 0) := ⟨rfl, rfl⟩
theorem fReader_isName_9 : w_fe am_c22 9 10 (.ireturn) := ⟨rfl, rfl⟩
theorem fReader_isName_10 : w_fe am_c22 10 11 (.bipush 0) := ⟨rfl, rfl⟩
theorem fReader_isName_11 : w_fe am_c22 11 12 (.istore 2) := ⟨rfl, rfl⟩
theorem fReader_isName_12 : w_fe am_c22 12 13 (.iload 2) := ⟨rfl, rfl⟩
theorem fReader_isName_13 : w_fe am_c22 13 14 (.aload 1) := ⟨rfl, rfl⟩
theorem fReader_isName_14 : w_fe am_c22 14 15 (.invokestatic 6) := ⟨rfl, rfl⟩
theorem fReader_isName_15 : w_ic am_c22 15 16 .ge 30 := ⟨rfl, rfl⟩
theorem fReader_isName_16 : w_fe am_c22 16 17 (.aload 0) := ⟨rfl, rfl⟩
theorem fReader_isName_17 : w_fe am_c22 17 18 (.aload 0) := ⟨rfl, rfl⟩
theorem fReader_isName_18 : w_fe am_c22 18 19 (.getfield 108) := ⟨rfl, rfl⟩
theorem fReader_isName_19 : w_fe am_c22 19 20 (.iload 2) := ⟨rfl, rfl⟩
theorem fReader_isName_20 : w_fe am_c22 20 21 (.iadd) := ⟨rfl, rfl⟩
theorem fReader_isName_21 : w_fe am_c22 21 22 (.invokestatic 14) := ⟨rfl, rfl⟩
theorem fReader_isName_22 : w_fe am_c22 22 23 (.aload 1) := ⟨rfl, rfl⟩
theorem fReader_isName_23 : w_fe am_c22 23 24 (.iload 2) := ⟨rfl, rfl⟩
theorem fReader_isName_24 : w_fe am_c22 24 25 (.invokestatic 8) := ⟨rfl, rfl⟩
theorem fReader_isName_25 : w_ic am_c22 25 26 .eq 28 := ⟨rfl, rfl⟩
theorem fReader_isName_26 : w_fe am_c22 26 27 (.bipush 0) := ⟨rfl, rfl⟩
theorem fReader_isName_27 : w_fe am_c22 27 28 (.ireturn) := ⟨rfl, rfl⟩
theorem fReader_isName_28 : w_fe am_c22 28 29 (.iinc 2 1) := ⟨rfl, rfl⟩
theorem fReader_isName_29 : w_gt am_c22 29 12 := rfl
theorem fReader_isName_30 : w_fe am_c22 30 31 (.bipush 1) := ⟨rfl, rfl⟩
theorem fReader_isName_31 : w_fe am_c22 31 32 (.ireturn) := ⟨rfl, rfl⟩
noncomputable def LReader_isName_12 (xs : List Int) (d : Nat) (Q : Option w_V → w_M → Prop) (r1 : Nat) (v2 : Int) (σ : w_M) : Prop := w_Ex (xs, d) 2 am_c22 Q 12 [some (.inr (.inr (1, 1))), some (.inr (.inr (20, r1))), some (.inl v2)] [] σ
set_option maxRecDepth 20000 in
theorem bReader_isName_0 {xs : List Int} {d : Nat} {Q : Option w_V → w_M → Prop} {b : Nat} {σ : w_M}
    (h : w_in ((σ 1 9) - (σ 1 8)) ∧ p_String_length b σ ∧ (∀ (y1 : Int), y1 = v_String_length b σ → ((((σ 1 9) - (σ 1 8)) = y1 → LReader_isName_12 xs (d + 2) Q b 0 σ) ∧ (¬ ((σ 1 9) - (σ 1 8)) = y1 → Q (some (.inl 0)) σ)))) : w_Call (xs, (d + 2)) 22 [.inr (.inr (1, 1)), .inr (.inr (20, b))] σ Q :=
  (w_mk (mid := 22) (by decide) rfl rfl rfl rfl rfl (Nat.le_of_ble_eq_true rfl) ⟨rfl, Or.inl (by decide)⟩ (wi_aload0 fReader_isName_0 (wi_getf109 fReader_isName_1 (wi_aload0 fReader_isName_2 (wi_getf108 fReader_isName_3 (wi_isub fReader_isName_4 h.1 (wi_aload1 fReader_isName_5 (wi_call1 fReader_isName_6 (Nat.le_of_ble_eq_true rfl) (k_String_length h.2.1 (wi_ic_eq fReader_isName_7 (fun c2 => (wi_bipush fReader_isName_10 (wi_istore2 fReader_isName_11 trivial ((h.2.2 _ rfl).1 c2)))) (fun c2 => (wi_bipush fReader_isName_8 (wi_ret2 fReader_isName_9 (by decide) ((h.2.2 _ rfl).2 c2))))))))))))))
set_option maxRecDepth 20000 in
theorem bReader_isName_12 {xs : List Int} {d : Nat} {Q : Option w_V → w_M → Prop} {r1 : Nat} {v2 : Int} {σ : w_M}
    (h : p_String_length r1 σ ∧ (∀ (y1 : Int), y1 = v_String_length r1 σ → ((y1 ≤ v2 → Q (some (.inl 1)) σ) ∧ (v2 < y1 → (w_in ((σ 1 8) + v2) ∧ (∀ (y2 : Int), y2 = v_Reader_byteAt ((σ 1 8) + v2) σ → (p_String_charAt r1 v2 σ ∧ (∀ (y3 : Int), y3 = v_String_charAt r1 v2 σ → ((y2 = y3 → (w_in (v2 + 1) ∧ LReader_isName_12 xs (d + 2) Q r1 (v2 + 1) σ)) ∧ (¬ y2 = y3 → Q (some (.inl 0)) σ)))))))))) : LReader_isName_12 xs (d + 2) Q r1 v2 σ :=
  (wi_iload2 fReader_isName_12 (wi_aload1 fReader_isName_13 (wi_call1 fReader_isName_14 (Nat.le_of_ble_eq_true rfl) (k_String_length h.1 (wi_ic_ge fReader_isName_15 (fun c5 => (wi_bipush fReader_isName_30 (wi_ret2 fReader_isName_31 (by decide) ((h.2 _ rfl).1 c5)))) (fun c5 => (wi_aload0 fReader_isName_16 (wi_aload0 fReader_isName_17 (wi_getf108 fReader_isName_18 (wi_iload2 fReader_isName_19 (wi_iadd fReader_isName_20 ((h.2 _ rfl).2 c5).1 (wi_call2 fReader_isName_21 (Nat.le_of_ble_eq_true rfl) (k_Reader_byteAt (wi_aload1 fReader_isName_22 (wi_iload2 fReader_isName_23 (wi_call2 fReader_isName_24 (Nat.le_of_ble_eq_true rfl) (k_String_charAt (((h.2 _ rfl).2 c5).2 _ rfl).1 (wi_ic_eq fReader_isName_25 (fun c4 => (wi_iinc2 fReader_isName_28 trivial (((((h.2 _ rfl).2 c5).2 _ rfl).2 _ rfl).1 c4).1 (wi_goto fReader_isName_29 (((((h.2 _ rfl).2 c5).2 _ rfl).2 _ rfl).1 c4).2))) (fun c4 => (wi_bipush fReader_isName_26 (wi_ret2 fReader_isName_27 (by decide) (((((h.2 _ rfl).2 c5).2 _ rfl).2 _ rfl).2 c4))))))))))))))))))))))
theorem k_Reader_isName {xs : List Int} {d : Nat} {Q : Option w_V → w_M → Prop} {b : Nat} {σ : w_M} (hp : p_Reader_isName b σ) (hQ : Q (some (.inl (w_bi (P_Reader_isName b σ)))) σ) : w_Call (xs, d + 2) 22 [.inr (.inr (1, 1)), .inr (.inr (20, b))] σ Q := by
  obtain ⟨⟨hk, h8, h9⟩, k, hk5, rfl⟩ := hp
  have hk1 := hk.1
  obtain ⟨c1, c2⟩ := nm_carr hk5
  have eN : nm_len k = (w_carr [] (1000 + 2 * k + 1)).length := by unfold nm_len; rw [c1]
  have eP : P_Reader_isName (1000 + 2 * k) σ = nm_is (rT σ) (rL σ) (σ 1 8).toNat (σ 1 9).toNat k := by unfold P_Reader_isName; rw [show (1000 + 2 * k - 1000) / 2 = k by omega]
  rw [eP] at hQ
  refine bReader_isName_0 ⟨⟨by omega, by omega⟩, c2, fun y1 e1 => ?_⟩
  unfold v_String_length at e1
  rw [← eN] at e1
  refine ⟨fun c => ?_, fun c => ?_⟩
  · refine (w_loop (n := nm_len k) (P := fun i => (∀ j, j < i → tb (rT σ) (rL σ) ((σ 1 8).toNat + j) = nm_at k j) → LReader_isName_12 xs (d + 2) Q (1000 + 2 * k) (i : Int) σ) ?_ ?_) (fun j hj => by omega)
    · intro h
      refine bReader_isName_12 ⟨c2, fun y2 e2 => ?_⟩
      unfold v_String_length at e2
      rw [← eN] at e2
      refine ⟨fun _ => ?_, fun h => by omega⟩
      rw [w_bi_t (show nm_is (rT σ) (rL σ) (σ 1 8).toNat (σ 1 9).toNat k from ⟨by omega, h⟩)] at hQ
      exact hQ
    · intro i hi ih h
      have hl7 : nm_len k ≤ 7 := by
        rcases (show k = 0 ∨ k = 1 ∨ k = 2 ∨ k = 3 ∨ k = 4 by omega) with rfl | rfl | rfl | rfl | rfl <;> decide
      refine bReader_isName_12 ⟨c2, fun y2 e2 => ?_⟩
      unfold v_String_length at e2
      rw [← eN] at e2
      refine ⟨fun h => by omega, fun _ => ⟨⟨by omega, by omega⟩, fun y3 e3 => ⟨⟨c2, by omega, by rw [← eN]; omega⟩, fun y4 e4 => ?_⟩⟩⟩
      rw [r_byte hk (by omega), show (σ 1 8 + (i : Int)).toNat = (σ 1 8).toNat + i by omega] at e3
      have e4' : y4 = nm_at k i := by
        rw [e4]
        unfold v_String_charAt v_StringLatin1_charAt nm_at
        rw [c1, Int.toNat_natCast]
      refine ⟨fun c5 => ⟨⟨by omega, by omega⟩, ?_⟩, fun c5 => ?_⟩
      · rw [← w_cs1]
        refine ih (fun j hj => ?_)
        by_cases e : j = i
        · rw [e, ← e3, ← e4']; exact c5
        · exact h j (by omega)
      · rw [w_bi_f (fun z : nm_is (rT σ) (rL σ) (σ 1 8).toNat (σ 1 9).toNat k => c5 (by rw [e3, e4']; exact z.2 i hi))] at hQ
        exact hQ
  · rw [w_bi_f (fun z : nm_is (rT σ) (rL σ) (σ 1 8).toNat (σ 1 9).toNat k => c (by have := z.1; omega))] at hQ
    exact hQ
noncomputable def p_Reader_nameOf (k : Int) (_ : w_M) : Prop := 0 ≤ k ∧ k ≤ 4
theorem fReader_nameOf_0 : w_fe am_c21 0 1 (.iload 0) := ⟨rfl, rfl⟩
theorem fReader_nameOf_1 {E : w_C} {rt : Nat} {Q : Option w_V → w_M → Prop} {ls : w_L} {st : List w_V} {σ : w_M} {x : Int} (h0 : x = 0 → w_Ex E rt am_c21 Q 2 ls st σ) (h1 : x = 1 → w_Ex E rt am_c21 Q 4 ls st σ) (h2 : x = 2 → w_Ex E rt am_c21 Q 6 ls st σ) (h3 : x = 3 → w_Ex E rt am_c21 Q 8 ls st σ) (hd : x < 0 ∨ 3 < x → w_Ex E rt am_c21 Q 10 ls st σ) : w_Ex E rt am_c21 Q 1 ls (.inl x :: st) σ :=
  w_Ex_in (op := .tableswitch 10 0 3 #[2, 4, 6, 8]) rfl ⟨rfl, hd, And.intro h0 (And.intro h1 (And.intro h2 (And.intro h3 ( trivial))))⟩
theorem fReader_nameOf_2 : w_fe am_c21 2 3 (.ldc 1000) := ⟨rfl, rfl⟩
theorem fReader_nameOf_3 : w_fe am_c21 3 4 (.ireturn) := ⟨rfl, rfl⟩
theorem fReader_nameOf_4 : w_fe am_c21 4 5 (.ldc 1002) := ⟨rfl, rfl⟩
theorem fReader_nameOf_5 : w_fe am_c21 5 6 (.ireturn) := ⟨rfl, rfl⟩
theorem fReader_nameOf_6 : w_fe am_c21 6 7 (.ldc 1004) := ⟨rfl, rfl⟩
theorem fReader_nameOf_7 : w_fe am_c21 7 8 (.ireturn) := ⟨rfl, rfl⟩
theorem fReader_nameOf_8 : w_fe am_c21 8 9 (.ldc 1006) := ⟨rfl, rfl⟩
theorem fReader_nameOf_9 : w_fe am_c21 9 10 (.ireturn) := ⟨rfl, rfl⟩
theorem fReader_nameOf_10 : w_fe am_c21 10 11 (.ldc 1008) := ⟨rfl, rfl⟩
theorem fReader_nameOf_11 : w_fe am_c21 11 12 (.ireturn) := ⟨rfl, rfl⟩
set_option maxRecDepth 20000 in
theorem bReader_nameOf_0 {xs : List Int} {d : Nat} {Q : Option w_V → w_M → Prop} {x0 : Int} {σ : w_M}
    (h : (x0 = 0 → Q (some (.inr (.inr (20, 1000)))) σ) ∧ (x0 = 1 → Q (some (.inr (.inr (20, 1002)))) σ) ∧ (x0 = 2 → Q (some (.inr (.inr (20, 1004)))) σ) ∧ (x0 = 3 → Q (some (.inr (.inr (20, 1006)))) σ) ∧ (x0 < 0 ∨ 3 < x0 → Q (some (.inr (.inr (20, 1008)))) σ)) : w_Call (xs, d) 21 [.inl x0] σ Q :=
  (w_mk (mid := 21) (by decide) rfl rfl rfl rfl rfl (Nat.le_of_ble_eq_true rfl) trivial (wi_iload0 fReader_nameOf_0 (fReader_nameOf_1 (fun c => (wi_ldc fReader_nameOf_2 (wi_ret4 fReader_nameOf_3 (h.1 c)))) (fun c => (wi_ldc fReader_nameOf_4 (wi_ret4 fReader_nameOf_5 (h.2.1 c)))) (fun c => (wi_ldc fReader_nameOf_6 (wi_ret4 fReader_nameOf_7 (h.2.2.1 c)))) (fun c => (wi_ldc fReader_nameOf_8 (wi_ret4 fReader_nameOf_9 (h.2.2.2.1 c)))) (fun c => (wi_ldc fReader_nameOf_10 (wi_ret4 fReader_nameOf_11 (h.2.2.2.2 c)))))))
theorem k_Reader_nameOf {xs : List Int} {d : Nat} {Q : Option w_V → w_M → Prop} {x0 : Int} {σ : w_M} (hp : p_Reader_nameOf x0 σ) (hQ : Q (some (.inr (.inr (20, 1000 + 2 * x0.toNat)))) σ) : w_Call (xs, d) 21 [.inl x0] σ Q := by
  have h : 0 ≤ x0 ∧ x0 ≤ 4 := hp
  refine bReader_nameOf_0 ⟨fun c => ?_, fun c => ?_, fun c => ?_, fun c => ?_, fun c => ?_⟩
  · rw [c] at hQ; exact hQ
  · rw [c] at hQ; exact hQ
  · rw [c] at hQ; exact hQ
  · rw [c] at hQ; exact hQ
  · rw [show x0 = 4 by omega] at hQ; exact hQ
noncomputable def p_Reader_lineOfName (σ : w_M) : Prop := r_pos σ
noncomputable def v_Reader_lineOfName (σ : w_M) : Int := ln_n (rT σ) (rL σ) (σ 1 8).toNat (σ 1 9).toNat
theorem fReader_lineOfName_0 : w_fe am_c20 0 1 (.bipush 0) := ⟨rfl, rfl⟩
theorem fReader_lineOfName_1 : w_fe am_c20 1 2 (.istore 1) := ⟨rfl, rfl⟩
theorem fReader_lineOfName_2 : w_fe am_c20 2 3 (.iload 1) := ⟨rfl, rfl⟩
theorem fReader_lineOfName_3 : w_fe am_c20 3 4 (.bipush 4) := ⟨rfl, rfl⟩
theorem fReader_lineOfName_4 : w_ic am_c20 4 5 .gt 14 := ⟨rfl, rfl⟩
theorem fReader_lineOfName_5 : w_fe am_c20 5 6 (.aload 0) := ⟨rfl, rfl⟩
theorem fReader_lineOfName_6 : w_fe am_c20 6 7 (.iload 1) := ⟨rfl, rfl⟩
theorem fReader_lineOfName_7 : w_fe am_c20 7 8 (.invokestatic 21) := ⟨rfl, rfl⟩
theorem fReader_lineOfName_8 : w_fe am_c20 8 9 (.invokestatic 22) := ⟨rfl, rfl⟩
theorem fReader_lineOfName_9 : w_if am_c20 9 10 .eq 12 := ⟨rfl, rfl⟩
theorem fReader_lineOfName_10 : w_fe am_c20 10 11 (.iload 1) := ⟨rfl, rfl⟩
theorem fReader_lineOfName_11 : w_fe am_c20 11 12 (.ireturn) := ⟨rfl, rfl⟩
theorem fReader_lineOfName_12 : w_fe am_c20 12 13 (.iinc 1 1) := ⟨rfl, rfl⟩
theorem fReader_lineOfName_13 : w_gt am_c20 13 2 := rfl
theorem fReader_lineOfName_14 : w_fe am_c20 14 15 (.bipush (-1)) := ⟨rfl, rfl⟩
theorem fReader_lineOfName_15 : w_fe am_c20 15 16 (.ireturn) := ⟨rfl, rfl⟩
noncomputable def LReader_lineOfName_2 (xs : List Int) (d : Nat) (Q : Option w_V → w_M → Prop) (v1 : Int) (σ : w_M) : Prop := w_Ex (xs, d) 1 am_c20 Q 2 [some (.inr (.inr (1, 1))), some (.inl v1)] [] σ
set_option maxRecDepth 20000 in
theorem bReader_lineOfName_0 {xs : List Int} {d : Nat} {Q : Option w_V → w_M → Prop}  {σ : w_M}
    (h : LReader_lineOfName_2 xs (d + 3) Q 0 σ) : w_Call (xs, (d + 3)) 20 [.inr (.inr (1, 1))] σ Q :=
  (w_mk (mid := 20) (by decide) rfl rfl rfl rfl rfl (Nat.le_of_ble_eq_true rfl) ⟨rfl, Or.inl (by decide)⟩ (wi_bipush fReader_lineOfName_0 (wi_istore1 fReader_lineOfName_1 trivial h)))
set_option maxRecDepth 20000 in
theorem bReader_lineOfName_2 {xs : List Int} {d : Nat} {Q : Option w_V → w_M → Prop} {v1 : Int} {σ : w_M}
    (h : (4 < v1 → Q (some (.inl (-1))) σ) ∧ (v1 ≤ 4 → (p_Reader_nameOf v1 σ ∧ p_Reader_isName (1000 + 2 * v1.toNat) σ ∧ ((¬ (P_Reader_isName (1000 + 2 * v1.toNat) σ) → (w_in (v1 + 1) ∧ LReader_lineOfName_2 xs (d + 3) Q (v1 + 1) σ)) ∧ ((P_Reader_isName (1000 + 2 * v1.toNat) σ) → Q (some (.inl v1)) σ))))) : LReader_lineOfName_2 xs (d + 3) Q v1 σ :=
  (wi_iload1 fReader_lineOfName_2 (wi_bipush fReader_lineOfName_3 (wi_ic_gt fReader_lineOfName_4 (fun c2 => (wi_bipush fReader_lineOfName_14 (wi_ret1 fReader_lineOfName_15 (h.1 c2)))) (fun c2 => (wi_aload0 fReader_lineOfName_5 (wi_iload1 fReader_lineOfName_6 (wi_call1 fReader_lineOfName_7 (Nat.le_of_ble_eq_true rfl) (k_Reader_nameOf (h.2 c2).1 (wi_call2 fReader_lineOfName_8 (Nat.le_of_ble_eq_true rfl) (k_Reader_isName (h.2 c2).2.1 (wi_ifb_eq fReader_lineOfName_9 (fun c1 => (wi_iinc1 fReader_lineOfName_12 trivial ((h.2 c2).2.2.1 c1).1 (wi_goto fReader_lineOfName_13 ((h.2 c2).2.2.1 c1).2))) (fun c1 => (wi_iload1 fReader_lineOfName_10 (wi_ret1 fReader_lineOfName_11 ((h.2 c2).2.2.2 c1)))))))))))))))
theorem k_Reader_lineOfName {xs : List Int} {d : Nat} {Q : Option w_V → w_M → Prop}  {σ : w_M} (hp : p_Reader_lineOfName σ) (hQ : Q (some (.inl (v_Reader_lineOfName σ))) σ) : w_Call (xs, d + 3) 20 [.inr (.inr (1, 1))] σ Q := by
  have hp' : r_pos σ := hp
  unfold v_Reader_lineOfName at hQ
  refine bReader_lineOfName_0 ?_
  refine (w_loop (n := 5) (P := fun k => ln_k (rT σ) (rL σ) (σ 1 8).toNat (σ 1 9).toNat k = -1 → LReader_lineOfName_2 xs (d + 3) Q (k : Int) σ) ?_ ?_) rfl
  · intro h
    refine bReader_lineOfName_2 ⟨fun _ => ?_, fun h => by omega⟩
    have e : ln_n (rT σ) (rL σ) (σ 1 8).toNat (σ 1 9).toNat = -1 := h
    rw [e] at hQ
    exact hQ
  · intro k hk ih h
    have eP : P_Reader_isName (1000 + 2 * ((k : Int)).toNat) σ = nm_is (rT σ) (rL σ) (σ 1 8).toNat (σ 1 9).toNat k := by unfold P_Reader_isName; rw [Int.toNat_natCast, show (1000 + 2 * k - 1000) / 2 = k by omega]
    refine bReader_lineOfName_2 ⟨fun h => by omega, fun _ => ⟨⟨by omega, by omega⟩, ⟨hp', k, hk, by rw [Int.toNat_natCast]⟩, ?_⟩⟩
    rw [eP]
    refine ⟨fun c => ⟨⟨by omega, by omega⟩, ?_⟩, fun c => ?_⟩
    · rw [← w_cs1]
      exact ih (ln_miss h c)
    · rw [ln_hit h c hk] at hQ
      exact hQ
/-- the draft, as the class holds it -/
noncomputable def d_ab (σ : w_M) : w_M := fun d i => if d = 0 then (if i = 0 then σ 3 0 else if i = 2 then σ 3 2 else if i = 4 then σ 3 4 else if i = 5 then σ 3 5 else if i = 6 then σ 3 6 else if i = 7 then σ 1 5 else 0)
  else if d ≤ 2 then (if i < (σ 3 4).toNat then σ (3 + d) i else 0) else if d = 3 ∨ d = 4 ∨ d = 6 then (if i < (σ 3 5).toNat then σ (3 + d) i else 0) else 0
/-- what no line tells -/
noncomputable def d_cn (σ : w_M) : Prop := (σ 3 1 = 0 ∧ σ 3 3 = -4) ∧ (∀ r, r < (σ 3 5).toNat → σ 8 r = 3 ∧ σ 10 r = 0) ∧ ∀ o, o < 4 → σ 11 o = 0
noncomputable def p_Reader_beginLine (k : Int) (σ : w_M) : Prop := σ 1 3 = 0 ∧ 0 ≤ k ∧ k ≤ 4
noncomputable def q_Reader_beginLine (k : Int) (σ σ' : w_M) : Prop := (ln_b (d_ab σ) k.toNat = 0 → σ' = σ) ∧ (¬ ln_b (d_ab σ) k.toNat = 0 → σ' = w_up (w_up σ 1 3 (ln_b (d_ab σ) k.toNat)) 1 4 (σ 1 8))
theorem fReader_beginLine_0 : w_fe am_c23 0 1 (.iload 1) := ⟨rfl, rfl⟩
theorem fReader_beginLine_1 : w_if am_c23 1 2 .ne 10 := ⟨rfl, rfl⟩
theorem fReader_beginLine_2 : w_fe am_c23 2 3 (.aload 0) := ⟨rfl, rfl⟩
theorem fReader_beginLine_3 : w_fe am_c23 3 4 (.getfield 105) := ⟨rfl, rfl⟩
theorem fReader_beginLine_4 : w_if am_c23 4 5 .eq 10 := ⟨rfl, rfl⟩
theorem fReader_beginLine_5 : w_fe am_c23 5 6 (.aload 0) := ⟨rfl, rfl⟩
theorem fReader_beginLine_6 : w_fe am_c23 6 7 (.bipush 4) := ⟨rfl, rfl⟩
theorem fReader_beginLine_7 : w_fe am_c23 7 8 (.aload 0) := ⟨rfl, rfl⟩
theorem fReader_beginLine_8 : w_fe am_c23 8 9 (.getfield 108) := ⟨rfl, rfl⟩
theorem fReader_beginLine_9 : w_fe am_c23 9 10 (.invokestatic 18) := ⟨rfl, rfl⟩
theorem fReader_beginLine_10 : w_fe am_c23 10 11 (.iload 1) := ⟨rfl, rfl⟩
theorem fReader_beginLine_11 : w_fe am_c23 11 12 (.bipush 1) := ⟨rfl, rfl⟩
theorem fReader_beginLine_12 : w_ic am_c23 12 13 .ne 18 := ⟨rfl, rfl⟩
theorem fReader_beginLine_13 : w_fe am_c23 13 14 (.aload 0) := ⟨rfl, rfl⟩
theorem fReader_beginLine_14 : w_fe am_c23 14 15 (.getfield 102) := ⟨rfl, rfl⟩
theorem fReader_beginLine_15 : w_fe am_c23 15 16 (.getfield 204) := ⟨rfl, rfl⟩
theorem fReader_beginLine_16 : w_fe am_c23 16 17 (.bipush 7) := ⟨rfl, rfl⟩
theorem fReader_beginLine_17 : w_ic am_c23 17 18 .ge 26 := ⟨rfl, rfl⟩
theorem fReader_beginLine_18 : w_fe am_c23 18 19 (.iload 1) := ⟨rfl, rfl⟩
theorem fReader_beginLine_19 : w_fe am_c23 19 20 (.bipush 2) := ⟨rfl, rfl⟩
theorem fReader_beginLine_20 : w_ic am_c23 20 21 .ne 31 := ⟨rfl, rfl⟩
theorem fReader_beginLine_21 : w_fe am_c23 21 22 (.aload 0) := ⟨rfl, rfl⟩
theorem fReader_beginLine_22 : w_fe am_c23 22 23 (.getfield 102) := ⟨rfl, rfl⟩
theorem fReader_beginLine_23 : w_fe am_c23 23 24 (.getfield 205) := ⟨rfl, rfl⟩
theorem fReader_beginLine_24 : w_fe am_c23 24 25 (.bipush 4) := ⟨rfl, rfl⟩
theorem fReader_beginLine_25 : w_ic am_c23 25 26 .lt 31 := ⟨rfl, rfl⟩
theorem fReader_beginLine_26 : w_fe am_c23 26 27 (.aload 0) := ⟨rfl, rfl⟩
theorem fReader_beginLine_27 : w_fe am_c23 27 28 (.bipush 5) := ⟨rfl, rfl⟩
theorem fReader_beginLine_28 : w_fe am_c23 28 29 (.aload 0) := ⟨rfl, rfl⟩
theorem fReader_beginLine_29 : w_fe am_c23 29 30 (.getfield 108) := ⟨rfl, rfl⟩
theorem fReader_beginLine_30 : w_fe am_c23 30 31 (.invokestatic 18) := ⟨rfl, rfl⟩
theorem fReader_beginLine_31 : w_fe am_c23 31 32 (.return_) := ⟨rfl, rfl⟩
set_option maxRecDepth 20000 in
theorem bReader_beginLine_0 {xs : List Int} {d : Nat} {Q : Option w_V → w_M → Prop} {x1 : Int} {σ : w_M}
    (h : (¬ x1 = 0 → ((¬ x1 = 1 → ((¬ x1 = 2 → Q none σ) ∧ (x1 = 2 → (((σ 3 5) < 4 → Q none σ) ∧ (4 ≤ (σ 3 5) → ∀ (τ1 : w_M), q_Reader_fail 5 (σ 1 8) σ τ1 → Q none τ1))))) ∧ (x1 = 1 → ((7 ≤ (σ 3 4) → ∀ (τ4 : w_M), q_Reader_fail 5 (σ 1 8) σ τ4 → Q none τ4) ∧ ((σ 3 4) < 7 → ((¬ x1 = 2 → Q none σ) ∧ (x1 = 2 → (((σ 3 5) < 4 → Q none σ) ∧ (4 ≤ (σ 3 5) → ∀ (τ5 : w_M), q_Reader_fail 5 (σ 1 8) σ τ5 → Q none τ5))))))))) ∧ (x1 = 0 → (((σ 1 5) = 0 → ((¬ x1 = 1 → ((¬ x1 = 2 → Q none σ) ∧ (x1 = 2 → (((σ 3 5) < 4 → Q none σ) ∧ (4 ≤ (σ 3 5) → ∀ (τ10 : w_M), q_Reader_fail 5 (σ 1 8) σ τ10 → Q none τ10))))) ∧ (x1 = 1 → ((7 ≤ (σ 3 4) → ∀ (τ13 : w_M), q_Reader_fail 5 (σ 1 8) σ τ13 → Q none τ13) ∧ ((σ 3 4) < 7 → ((¬ x1 = 2 → Q none σ) ∧ (x1 = 2 → (((σ 3 5) < 4 → Q none σ) ∧ (4 ≤ (σ 3 5) → ∀ (τ14 : w_M), q_Reader_fail 5 (σ 1 8) σ τ14 → Q none τ14))))))))) ∧ (¬ (σ 1 5) = 0 → ∀ (τ19 : w_M), q_Reader_fail 4 (σ 1 8) σ τ19 → ((¬ x1 = 1 → ((¬ x1 = 2 → Q none τ19) ∧ (x1 = 2 → (((τ19 3 5) < 4 → Q none τ19) ∧ (4 ≤ (τ19 3 5) → ∀ (τ20 : w_M), q_Reader_fail 5 (τ19 1 8) τ19 τ20 → Q none τ20))))) ∧ (x1 = 1 → ((7 ≤ (τ19 3 4) → ∀ (τ23 : w_M), q_Reader_fail 5 (τ19 1 8) τ19 τ23 → Q none τ23) ∧ ((τ19 3 4) < 7 → ((¬ x1 = 2 → Q none τ19) ∧ (x1 = 2 → (((τ19 3 5) < 4 → Q none τ19) ∧ (4 ≤ (τ19 3 5) → ∀ (τ24 : w_M), q_Reader_fail 5 (τ19 1 8) τ19 τ24 → Q none τ24)))))))))))) : w_Call (xs, (d + 1)) 23 [.inr (.inr (1, 1)), .inl x1] σ Q :=
  (w_mk (mid := 23) (by decide) rfl rfl rfl rfl rfl (Nat.le_of_ble_eq_true rfl) ⟨rfl, Or.inl (by decide)⟩ (wi_iload1 fReader_beginLine_0 (wi_if_ne fReader_beginLine_1 (fun c30 => (wi_iload1 fReader_beginLine_10 (wi_bipush fReader_beginLine_11 (wi_ic_ne fReader_beginLine_12 (fun c9 => (wi_iload1 fReader_beginLine_18 (wi_bipush fReader_beginLine_19 (wi_ic_ne fReader_beginLine_20 (fun c3 => (wi_ret0 fReader_beginLine_31 (((h.1 c30).1 c9).1 c3))) (fun c3 => (wi_aload0 fReader_beginLine_21 (wi_getf102 fReader_beginLine_22 (wi_getf205 fReader_beginLine_23 (wi_bipush fReader_beginLine_24 (wi_ic_lt fReader_beginLine_25 (fun c2 => (wi_ret0 fReader_beginLine_31 ((((h.1 c30).1 c9).2 c3).1 c2))) (fun c2 => (wi_aload0 fReader_beginLine_26 (wi_bipush fReader_beginLine_27 (wi_aload0 fReader_beginLine_28 (wi_getf108 fReader_beginLine_29 (wi_call3 fReader_beginLine_30 (Nat.le_of_ble_eq_true rfl) (k_Reader_fail (fun τ1 eτ1 => (wi_ret0 fReader_beginLine_31 (((((h.1 c30).1 c9).2 c3).2 c2) τ1 eτ1)))))))))))))))))))) (fun c9 => (wi_aload0 fReader_beginLine_13 (wi_getf102 fReader_beginLine_14 (wi_getf204 fReader_beginLine_15 (wi_bipush fReader_beginLine_16 (wi_ic_ge fReader_beginLine_17 (fun c8 => (wi_aload0 fReader_beginLine_26 (wi_bipush fReader_beginLine_27 (wi_aload0 fReader_beginLine_28 (wi_getf108 fReader_beginLine_29 (wi_call3 fReader_beginLine_30 (Nat.le_of_ble_eq_true rfl) (k_Reader_fail (fun τ4 eτ4 => (wi_ret0 fReader_beginLine_31 ((((h.1 c30).2 c9).1 c8) τ4 eτ4)))))))))) (fun c8 => (wi_iload1 fReader_beginLine_18 (wi_bipush fReader_beginLine_19 (wi_ic_ne fReader_beginLine_20 (fun c7 => (wi_ret0 fReader_beginLine_31 ((((h.1 c30).2 c9).2 c8).1 c7))) (fun c7 => (wi_aload0 fReader_beginLine_21 (wi_getf102 fReader_beginLine_22 (wi_getf205 fReader_beginLine_23 (wi_bipush fReader_beginLine_24 (wi_ic_lt fReader_beginLine_25 (fun c6 => (wi_ret0 fReader_beginLine_31 (((((h.1 c30).2 c9).2 c8).2 c7).1 c6))) (fun c6 => (wi_aload0 fReader_beginLine_26 (wi_bipush fReader_beginLine_27 (wi_aload0 fReader_beginLine_28 (wi_getf108 fReader_beginLine_29 (wi_call3 fReader_beginLine_30 (Nat.le_of_ble_eq_true rfl) (k_Reader_fail (fun τ5 eτ5 => (wi_ret0 fReader_beginLine_31 ((((((h.1 c30).2 c9).2 c8).2 c7).2 c6) τ5 eτ5)))))))))))))))))))))))))))))) (fun c30 => (wi_aload0 fReader_beginLine_2 (wi_getf105 fReader_beginLine_3 (wi_if_eq fReader_beginLine_4 (fun c29 => (wi_iload1 fReader_beginLine_10 (wi_bipush fReader_beginLine_11 (wi_ic_ne fReader_beginLine_12 (fun c18 => (wi_iload1 fReader_beginLine_18 (wi_bipush fReader_beginLine_19 (wi_ic_ne fReader_beginLine_20 (fun c12 => (wi_ret0 fReader_beginLine_31 ((((h.2 c30).1 c29).1 c18).1 c12))) (fun c12 => (wi_aload0 fReader_beginLine_21 (wi_getf102 fReader_beginLine_22 (wi_getf205 fReader_beginLine_23 (wi_bipush fReader_beginLine_24 (wi_ic_lt fReader_beginLine_25 (fun c11 => (wi_ret0 fReader_beginLine_31 (((((h.2 c30).1 c29).1 c18).2 c12).1 c11))) (fun c11 => (wi_aload0 fReader_beginLine_26 (wi_bipush fReader_beginLine_27 (wi_aload0 fReader_beginLine_28 (wi_getf108 fReader_beginLine_29 (wi_call3 fReader_beginLine_30 (Nat.le_of_ble_eq_true rfl) (k_Reader_fail (fun τ10 eτ10 => (wi_ret0 fReader_beginLine_31 ((((((h.2 c30).1 c29).1 c18).2 c12).2 c11) τ10 eτ10)))))))))))))))))))) (fun c18 => (wi_aload0 fReader_beginLine_13 (wi_getf102 fReader_beginLine_14 (wi_getf204 fReader_beginLine_15 (wi_bipush fReader_beginLine_16 (wi_ic_ge fReader_beginLine_17 (fun c17 => (wi_aload0 fReader_beginLine_26 (wi_bipush fReader_beginLine_27 (wi_aload0 fReader_beginLine_28 (wi_getf108 fReader_beginLine_29 (wi_call3 fReader_beginLine_30 (Nat.le_of_ble_eq_true rfl) (k_Reader_fail (fun τ13 eτ13 => (wi_ret0 fReader_beginLine_31 (((((h.2 c30).1 c29).2 c18).1 c17) τ13 eτ13)))))))))) (fun c17 => (wi_iload1 fReader_beginLine_18 (wi_bipush fReader_beginLine_19 (wi_ic_ne fReader_beginLine_20 (fun c16 => (wi_ret0 fReader_beginLine_31 (((((h.2 c30).1 c29).2 c18).2 c17).1 c16))) (fun c16 => (wi_aload0 fReader_beginLine_21 (wi_getf102 fReader_beginLine_22 (wi_getf205 fReader_beginLine_23 (wi_bipush fReader_beginLine_24 (wi_ic_lt fReader_beginLine_25 (fun c15 => (wi_ret0 fReader_beginLine_31 ((((((h.2 c30).1 c29).2 c18).2 c17).2 c16).1 c15))) (fun c15 => (wi_aload0 fReader_beginLine_26 (wi_bipush fReader_beginLine_27 (wi_aload0 fReader_beginLine_28 (wi_getf108 fReader_beginLine_29 (wi_call3 fReader_beginLine_30 (Nat.le_of_ble_eq_true rfl) (k_Reader_fail (fun τ14 eτ14 => (wi_ret0 fReader_beginLine_31 (((((((h.2 c30).1 c29).2 c18).2 c17).2 c16).2 c15) τ14 eτ14)))))))))))))))))))))))))))))) (fun c29 => (wi_aload0 fReader_beginLine_5 (wi_bipush fReader_beginLine_6 (wi_aload0 fReader_beginLine_7 (wi_getf108 fReader_beginLine_8 (wi_call3 fReader_beginLine_9 (Nat.le_of_ble_eq_true rfl) (k_Reader_fail (fun τ19 eτ19 => (wi_iload1 fReader_beginLine_10 (wi_bipush fReader_beginLine_11 (wi_ic_ne fReader_beginLine_12 (fun c28 => (wi_iload1 fReader_beginLine_18 (wi_bipush fReader_beginLine_19 (wi_ic_ne fReader_beginLine_20 (fun c22 => (wi_ret0 fReader_beginLine_31 (((((h.2 c30).2 c29) τ19 eτ19).1 c28).1 c22))) (fun c22 => (wi_aload0 fReader_beginLine_21 (wi_getf102 fReader_beginLine_22 (wi_getf205 fReader_beginLine_23 (wi_bipush fReader_beginLine_24 (wi_ic_lt fReader_beginLine_25 (fun c21 => (wi_ret0 fReader_beginLine_31 ((((((h.2 c30).2 c29) τ19 eτ19).1 c28).2 c22).1 c21))) (fun c21 => (wi_aload0 fReader_beginLine_26 (wi_bipush fReader_beginLine_27 (wi_aload0 fReader_beginLine_28 (wi_getf108 fReader_beginLine_29 (wi_call3 fReader_beginLine_30 (Nat.le_of_ble_eq_true rfl) (k_Reader_fail (fun τ20 eτ20 => (wi_ret0 fReader_beginLine_31 (((((((h.2 c30).2 c29) τ19 eτ19).1 c28).2 c22).2 c21) τ20 eτ20)))))))))))))))))))) (fun c28 => (wi_aload0 fReader_beginLine_13 (wi_getf102 fReader_beginLine_14 (wi_getf204 fReader_beginLine_15 (wi_bipush fReader_beginLine_16 (wi_ic_ge fReader_beginLine_17 (fun c27 => (wi_aload0 fReader_beginLine_26 (wi_bipush fReader_beginLine_27 (wi_aload0 fReader_beginLine_28 (wi_getf108 fReader_beginLine_29 (wi_call3 fReader_beginLine_30 (Nat.le_of_ble_eq_true rfl) (k_Reader_fail (fun τ23 eτ23 => (wi_ret0 fReader_beginLine_31 ((((((h.2 c30).2 c29) τ19 eτ19).2 c28).1 c27) τ23 eτ23)))))))))) (fun c27 => (wi_iload1 fReader_beginLine_18 (wi_bipush fReader_beginLine_19 (wi_ic_ne fReader_beginLine_20 (fun c26 => (wi_ret0 fReader_beginLine_31 ((((((h.2 c30).2 c29) τ19 eτ19).2 c28).2 c27).1 c26))) (fun c26 => (wi_aload0 fReader_beginLine_21 (wi_getf102 fReader_beginLine_22 (wi_getf205 fReader_beginLine_23 (wi_bipush fReader_beginLine_24 (wi_ic_lt fReader_beginLine_25 (fun c25 => (wi_ret0 fReader_beginLine_31 (((((((h.2 c30).2 c29) τ19 eτ19).2 c28).2 c27).2 c26).1 c25))) (fun c25 => (wi_aload0 fReader_beginLine_26 (wi_bipush fReader_beginLine_27 (wi_aload0 fReader_beginLine_28 (wi_getf108 fReader_beginLine_29 (wi_call3 fReader_beginLine_30 (Nat.le_of_ble_eq_true rfl) (k_Reader_fail (fun τ24 eτ24 => (wi_ret0 fReader_beginLine_31 ((((((((h.2 c30).2 c29) τ19 eτ19).2 c28).2 c27).2 c26).2 c25) τ24 eτ24))))))))))))))))))))))))))))))))))))))))))))
theorem k_Reader_beginLine {xs : List Int} {d : Nat} {Q : Option w_V → w_M → Prop} {x1 : Int} {σ : w_M} (hp : p_Reader_beginLine x1 σ) (hQ : ∀ σ' : w_M, q_Reader_beginLine x1 σ σ' → Q none σ') : w_Call (xs, d + 1) 23 [.inr (.inr (1, 1)), .inl x1] σ Q := by
  obtain ⟨h3, k0, k4⟩ := hp
  have eb : ln_b (d_ab σ) x1.toNat = if x1.toNat = 0 ∧ ¬ σ 1 5 = 0 then 4 else if (x1.toNat = 1 ∧ 7 ≤ σ 3 4) ∨ (x1.toNat = 2 ∧ 4 ≤ σ 3 5) then 5 else 0 := rfl
  have ok : ln_b (d_ab σ) x1.toNat = 0 → Q none σ := fun h => hQ _ ⟨fun _ => rfl, fun q => absurd h q⟩
  have no : ∀ (n : Int) (τ : w_M), ln_b (d_ab σ) x1.toNat = n → ¬ n = 0 → q_Reader_fail n (σ 1 8) σ τ → Q none τ := fun n τ hn h0 q => hQ _ ⟨fun h => absurd (hn.symm.trans h) h0, fun _ => by rw [hn]; exact q.1 h3⟩
  refine bReader_beginLine_0 ⟨fun c => ⟨fun c1 => ⟨fun c2 => ok (by rw [eb, if_neg (by omega), if_neg (by omega)]), fun c2 => ⟨fun c3 => ok (by rw [eb, if_neg (by omega), if_neg (by omega)]), fun c3 τ q => no 5 τ (by rw [eb, if_neg (by omega), if_pos (by omega)]) (by decide) q⟩⟩, fun c1 => ⟨fun c2 τ q => no 5 τ (by rw [eb, if_neg (by omega), if_pos (by omega)]) (by decide) q, fun c2 => ⟨fun c3 => ok (by rw [eb, if_neg (by omega), if_neg (by omega)]), fun c3 => by omega⟩⟩⟩, fun c => ⟨fun c1 => ⟨fun c2 => ⟨fun c3 => ok (by rw [eb, if_neg (by omega), if_neg (by omega)]), fun c3 => by omega⟩, fun c2 => by omega⟩, fun c1 τ q => ⟨fun c2 => ⟨fun c3 => no 4 τ (by rw [eb, if_pos (by omega)]) (by decide) q, fun c3 => by omega⟩, fun c2 => by omega⟩⟩⟩
noncomputable def p_Reader_readNumber (k j : Int) (σ : w_M) : Prop := ((r_ok σ ∧ σ 1 3 = 0) ∧ (0 ≤ σ 1 9 ∧ σ 1 9 ≤ σ 1 1)) ∧ (0 ≤ k ∧ k ≤ 4) ∧ (0 ≤ j ∧ j ≤ 2)
/-- all but the reader's own and what was told stands -/
noncomputable def r_f3 (σ σ' : w_M) : Prop := (∀ b, b ≠ 1 → b ≠ 12 → σ' b = σ b) ∧ σ' 1 1 = σ 1 1 ∧ σ' 1 5 = σ 1 5
noncomputable def q_Reader_readNumber (k j : Int) (σ σ' : w_M) : Prop := r_f3 σ σ' ∧ σ' 1 3 = nt_f (rT σ) (rL σ) (d_ab σ) k.toNat j.toNat (σ 1 9).toNat ∧ (¬ nt_f (rT σ) (rL σ) (d_ab σ) k.toNat j.toNat (σ 1 9).toNat = 0 → σ' 1 4 = ((tk_f (rT σ) (rL σ) (σ 1 9).toNat : Nat) : Int)) ∧
  (nt_f (rT σ) (rL σ) (d_ab σ) k.toNat j.toNat (σ 1 9).toNat = 0 → σ' 1 9 = ((tk_b (rT σ) (rL σ) (σ 1 9).toNat : Nat) : Int) ∧ σ' 12 j.toNat = tk_v (rT σ) (rL σ) (σ 1 9).toNat ∧ ∀ i, i ≠ j.toNat → σ' 12 i = σ 12 i)
theorem fReader_readNumber_0 : w_fe am_c24 0 1 (.aload 0) := ⟨rfl, rfl⟩
theorem fReader_readNumber_1 : w_fe am_c24 1 2 (.invokestatic 13) := ⟨rfl, rfl⟩
theorem fReader_readNumber_2 : w_fe am_c24 2 3 (.aload 0) := ⟨rfl, rfl⟩
theorem fReader_readNumber_3 : w_fe am_c24 3 4 (.getfield 107) := ⟨rfl, rfl⟩
theorem fReader_readNumber_4 : w_fe am_c24 4 5 (.bipush 2) := ⟨rfl, rfl⟩
theorem fReader_readNumber_5 : w_ic am_c24 5 6 .eq 12 := ⟨rfl, rfl⟩
theorem fReader_readNumber_6 : w_fe am_c24 6 7 (.aload 0) := ⟨rfl, rfl⟩
theorem fReader_readNumber_7 : w_fe am_c24 7 8 (.bipush 2) := ⟨rfl, rfl⟩
theorem fReader_readNumber_8 : w_fe am_c24 8 9 (.aload 0) := ⟨rfl, rfl⟩
theorem fReader_readNumber_9 : w_fe am_c24 9 10 (.getfield 108) := ⟨rfl, rfl⟩
theorem fReader_readNumber_10 : w_fe am_c24 10 11 (.invokestatic 18) := ⟨rfl, rfl⟩
theorem fReader_readNumber_11 : w_fe am_c24 11 12 (.return_) := ⟨rfl, rfl⟩
theorem fReader_readNumber_12 : w_fe am_c24 12 13 (.iload 1) := ⟨rfl, rfl⟩
theorem fReader_readNumber_13 : w_fe am_c24 13 14 (.bipush 3) := ⟨rfl, rfl⟩
theorem fReader_readNumber_14 : w_fe am_c24 14 15 (.imul) := ⟨rfl, rfl⟩
theorem fReader_readNumber_15 : w_fe am_c24 15 16 (.iload 2) := ⟨rfl, rfl⟩
theorem fReader_readNumber_16 : w_fe am_c24 16 17 (.iadd) := ⟨rfl, rfl⟩
theorem fReader_readNumber_17 : w_fe am_c24 17 18 (.istore 3) := ⟨rfl, rfl⟩
theorem fReader_readNumber_18 : w_fe am_c24 18 19 (.iload 3) := ⟨rfl, rfl⟩
theorem fReader_readNumber_19 : w_if am_c24 19 20 .lt 31 := ⟨rfl, rfl⟩
theorem fReader_readNumber_20 : w_fe am_c24 20 21 (.iload 3) := ⟨rfl, rfl⟩
theorem fReader_readNumber_21 : w_fe am_c24 21 22 (.getstatic 2) := ⟨rfl, rfl⟩
theorem fReader_readNumber_22 : w_fe am_c24 22 23 (.arraylength) := ⟨rfl, rfl⟩
theorem fReader_readNumber_23 : w_ic am_c24 23 24 .ge 31 := ⟨rfl, rfl⟩
theorem fReader_readNumber_24 : w_fe am_c24 24 25 (.iload 3) := ⟨rfl, rfl⟩
theorem fReader_readNumber_25 : w_fe am_c24 25 26 (.getstatic 3) := ⟨rfl, rfl⟩
theorem fReader_readNumber_26 : w_fe am_c24 26 27 (.arraylength) := ⟨rfl, rfl⟩
theorem fReader_readNumber_27 : w_ic am_c24 27 28 .ge 31 := ⟨rfl, rfl⟩
theorem fReader_readNumber_28 : w_fe am_c24 28 29 (.iload 2) := ⟨rfl, rfl⟩
theorem fReader_readNumber_29 : w_fe am_c24 29 30 (.bipush 3) := ⟨rfl, rfl⟩
theorem fReader_readNumber_30 : w_ic am_c24 30 31 .lt 32 := ⟨rfl, rfl⟩
theorem fReader_readNumber_31 : w_fe am_c24 31 32 (.return_) := ⟨rfl, rfl⟩
theorem fReader_readNumber_32 : w_fe am_c24 32 33 (.aload 0) := ⟨rfl, rfl⟩
theorem fReader_readNumber_33 : w_fe am_c24 33 34 (.getfield 110) := ⟨rfl, rfl⟩
theorem fReader_readNumber_34 : w_fe am_c24 34 35 (.getstatic 2) := ⟨rfl, rfl⟩
theorem fReader_readNumber_35 : w_fe am_c24 35 36 (.iload 3) := ⟨rfl, rfl⟩
theorem fReader_readNumber_36 : w_fe am_c24 36 37 (.iaload) := ⟨rfl, rfl⟩
theorem fReader_readNumber_37 : w_ic am_c24 37 38 .lt 44 := ⟨rfl, rfl⟩
theorem fReader_readNumber_38 : w_fe am_c24 38 39 (.aload 0) := ⟨rfl, rfl⟩
theorem fReader_readNumber_39 : w_fe am_c24 39 40 (.getfield 110) := ⟨rfl, rfl⟩
theorem fReader_readNumber_40 : w_fe am_c24 40 41 (.getstatic 3) := ⟨rfl, rfl⟩
theorem fReader_readNumber_41 : w_fe am_c24 41 42 (.iload 3) := ⟨rfl, rfl⟩
theorem fReader_readNumber_42 : w_fe am_c24 42 43 (.iaload) := ⟨rfl, rfl⟩
theorem fReader_readNumber_43 : w_ic am_c24 43 44 .le 50 := ⟨rfl, rfl⟩
theorem fReader_readNumber_44 : w_fe am_c24 44 45 (.aload 0) := ⟨rfl, rfl⟩
theorem fReader_readNumber_45 : w_fe am_c24 45 46 (.bipush 3) := ⟨rfl, rfl⟩
theorem fReader_readNumber_46 : w_fe am_c24 46 47 (.aload 0) := ⟨rfl, rfl⟩
theorem fReader_readNumber_47 : w_fe am_c24 47 48 (.getfield 108) := ⟨rfl, rfl⟩
theorem fReader_readNumber_48 : w_fe am_c24 48 49 (.invokestatic 18) := ⟨rfl, rfl⟩
theorem fReader_readNumber_49 : w_fe am_c24 49 50 (.return_) := ⟨rfl, rfl⟩
theorem fReader_readNumber_50 : w_fe am_c24 50 51 (.iload 1) := ⟨rfl, rfl⟩
theorem fReader_readNumber_51 : w_fe am_c24 51 52 (.bipush 3) := ⟨rfl, rfl⟩
theorem fReader_readNumber_52 : w_ic am_c24 52 53 .ne 59 := ⟨rfl, rfl⟩
theorem fReader_readNumber_53 : w_fe am_c24 53 54 (.aload 0) := ⟨rfl, rfl⟩
theorem fReader_readNumber_54 : w_fe am_c24 54 55 (.getfield 102) := ⟨rfl, rfl⟩
theorem fReader_readNumber_55 : w_fe am_c24 55 56 (.aload 0) := ⟨rfl, rfl⟩
theorem fReader_readNumber_56 : w_fe am_c24 56 57 (.getfield 110) := ⟨rfl, rfl⟩
theorem fReader_readNumber_57 : w_fe am_c24 57 58 (.invokestatic 29) := ⟨rfl, rfl⟩
theorem fReader_readNumber_58 : w_if am_c24 58 59 .ne 68 := ⟨rfl, rfl⟩
theorem fReader_readNumber_59 : w_fe am_c24 59 60 (.iload 1) := ⟨rfl, rfl⟩
theorem fReader_readNumber_60 : w_fe am_c24 60 61 (.bipush 4) := ⟨rfl, rfl⟩
theorem fReader_readNumber_61 : w_ic am_c24 61 62 .ne 73 := ⟨rfl, rfl⟩
theorem fReader_readNumber_62 : w_fe am_c24 62 63 (.aload 0) := ⟨rfl, rfl⟩
theorem fReader_readNumber_63 : w_fe am_c24 63 64 (.getfield 102) := ⟨rfl, rfl⟩
theorem fReader_readNumber_64 : w_fe am_c24 64 65 (.aload 0) := ⟨rfl, rfl⟩
theorem fReader_readNumber_65 : w_fe am_c24 65 66 (.getfield 110) := ⟨rfl, rfl⟩
theorem fReader_readNumber_66 : w_fe am_c24 66 67 (.invokestatic 30) := ⟨rfl, rfl⟩
theorem fReader_readNumber_67 : w_if am_c24 67 68 .eq 73 := ⟨rfl, rfl⟩
theorem fReader_readNumber_68 : w_fe am_c24 68 69 (.aload 0) := ⟨rfl, rfl⟩
theorem fReader_readNumber_69 : w_fe am_c24 69 70 (.bipush 4) := ⟨rfl, rfl⟩
theorem fReader_readNumber_70 : w_fe am_c24 70 71 (.aload 0) := ⟨rfl, rfl⟩
theorem fReader_readNumber_71 : w_fe am_c24 71 72 (.getfield 108) := ⟨rfl, rfl⟩
theorem fReader_readNumber_72 : w_fe am_c24 72 73 (.invokestatic 18) := ⟨rfl, rfl⟩
theorem fReader_readNumber_73 : w_fe am_c24 73 74 (.aload 0) := ⟨rfl, rfl⟩
theorem fReader_readNumber_74 : w_fe am_c24 74 75 (.getfield 106) := ⟨rfl, rfl⟩
theorem fReader_readNumber_75 : w_fe am_c24 75 76 (.iload 2) := ⟨rfl, rfl⟩
theorem fReader_readNumber_76 : w_fe am_c24 76 77 (.aload 0) := ⟨rfl, rfl⟩
theorem fReader_readNumber_77 : w_fe am_c24 77 78 (.getfield 110) := ⟨rfl, rfl⟩
theorem fReader_readNumber_78 : w_fe am_c24 78 79 (.iastore) := ⟨rfl, rfl⟩
theorem fReader_readNumber_79 : w_fe am_c24 79 80 (.return_) := ⟨rfl, rfl⟩
set_option maxRecDepth 20000 in
theorem bReader_readNumber_0 {xs : List Int} {d : Nat} {Q : Option w_V → w_M → Prop} {x1 : Int} {x2 : Int} {σ : w_M}
    (h : p_Reader_readToken σ ∧ (∀ (τ1 : w_M), q_Reader_readToken σ τ1 → (((τ1 1 7) = 2 → (w_in (x1 * 3) ∧ w_in ((x1 * 3) + x2) ∧ (∀ (y2 : Int), y2 = ((x1 * 3) + x2) → ((y2 < 0 → Q none τ1) ∧ (0 ≤ y2 → ((((w_carr xs 1011).length : Int) ≤ y2 → Q none τ1) ∧ (y2 < ((w_carr xs 1011).length : Int) → ((((w_carr xs 1012).length : Int) ≤ y2 → Q none τ1) ∧ (y2 < ((w_carr xs 1012).length : Int) → ((x2 < 3 → (((τ1 1 10) < ((w_carr xs 1011).getD y2.toNat 0) → ∀ (τ3 : w_M), q_Reader_fail 3 (τ1 1 8) τ1 τ3 → Q none τ3) ∧ (((w_carr xs 1011).getD y2.toNat 0) ≤ (τ1 1 10) → (((τ1 1 10) ≤ ((w_carr xs 1012).getD y2.toNat 0) → ((¬ x1 = 3 → ((¬ x1 = 4 → (0 ≤ x2 ∧ (∀ (τ4 : w_M), τ4 = w_up τ1 12 x2.toNat (τ1 1 10) → Q none τ4))) ∧ (x1 = 4 → ((¬ (¬ w_and (w_shr (τ1 3 6) (τ1 1 10)) 1 = 0) → (0 ≤ x2 ∧ (∀ (τ5 : w_M), τ5 = w_up τ1 12 x2.toNat (τ1 1 10) → Q none τ5))) ∧ ((¬ w_and (w_shr (τ1 3 6) (τ1 1 10)) 1 = 0) → ∀ (τ6 : w_M), q_Reader_fail 4 (τ1 1 8) τ1 τ6 → (0 ≤ x2 ∧ (∀ (τ7 : w_M), τ7 = w_up τ6 12 x2.toNat (τ6 1 10) → Q none τ7))))))) ∧ (x1 = 3 → (((¬ w_and (w_shr (τ1 3 2) (τ1 1 10)) 1 = 0) → ∀ (τ10 : w_M), q_Reader_fail 4 (τ1 1 8) τ1 τ10 → (0 ≤ x2 ∧ (∀ (τ11 : w_M), τ11 = w_up τ10 12 x2.toNat (τ10 1 10) → Q none τ11))) ∧ (¬ (¬ w_and (w_shr (τ1 3 2) (τ1 1 10)) 1 = 0) → ((¬ x1 = 4 → (0 ≤ x2 ∧ (∀ (τ12 : w_M), τ12 = w_up τ1 12 x2.toNat (τ1 1 10) → Q none τ12))) ∧ (x1 = 4 → ((¬ (¬ w_and (w_shr (τ1 3 6) (τ1 1 10)) 1 = 0) → (0 ≤ x2 ∧ (∀ (τ13 : w_M), τ13 = w_up τ1 12 x2.toNat (τ1 1 10) → Q none τ13))) ∧ ((¬ w_and (w_shr (τ1 3 6) (τ1 1 10)) 1 = 0) → ∀ (τ14 : w_M), q_Reader_fail 4 (τ1 1 8) τ1 τ14 → (0 ≤ x2 ∧ (∀ (τ15 : w_M), τ15 = w_up τ14 12 x2.toNat (τ14 1 10) → Q none τ15))))))))))) ∧ (((w_carr xs 1012).getD y2.toNat 0) < (τ1 1 10) → ∀ (τ20 : w_M), q_Reader_fail 3 (τ1 1 8) τ1 τ20 → Q none τ20))))) ∧ (3 ≤ x2 → Q none τ1))))))))))) ∧ (¬ (τ1 1 7) = 2 → ∀ (τ27 : w_M), q_Reader_fail 2 (τ1 1 8) τ1 τ27 → Q none τ27)))) : w_Call (xs, (d + 3)) 24 [.inr (.inr (1, 1)), .inl x1, .inl x2] σ Q :=
  (w_mk (mid := 24) (by decide) rfl rfl rfl rfl rfl (Nat.le_of_ble_eq_true rfl) ⟨rfl, Or.inl (by decide)⟩ (wi_aload0 fReader_readNumber_0 (wi_call1 fReader_readNumber_1 (Nat.le_of_ble_eq_true rfl) (k_Reader_readToken h.1 (fun τ1 eτ1 => (wi_aload0 fReader_readNumber_2 (wi_getf107 fReader_readNumber_3 (wi_bipush fReader_readNumber_4 (wi_ic_eq fReader_readNumber_5 (fun c28 => (wi_iload1 fReader_readNumber_12 (wi_bipush fReader_readNumber_13 (wi_imul fReader_readNumber_14 ((h.2 τ1 eτ1).1 c28).1 (wi_iload2 fReader_readNumber_15 (wi_iadd fReader_readNumber_16 ((h.2 τ1 eτ1).1 c28).2.1 (wi_istore3 fReader_readNumber_17 trivial (wi_iload3 fReader_readNumber_18 (wi_if_lt fReader_readNumber_19 (fun c26 => (wi_ret0 fReader_readNumber_31 ((((h.2 τ1 eτ1).1 c28).2.2 _ rfl).1 c26))) (fun c26 => (wi_iload3 fReader_readNumber_20 (wi_getstatic2 fReader_readNumber_21 (wi_alen6015 fReader_readNumber_22 (wi_ic_ge fReader_readNumber_23 (fun c25 => (wi_ret0 fReader_readNumber_31 (((((h.2 τ1 eτ1).1 c28).2.2 _ rfl).2 c26).1 c25))) (fun c25 => (wi_iload3 fReader_readNumber_24 (wi_getstatic3 fReader_readNumber_25 (wi_alen6015 fReader_readNumber_26 (wi_ic_ge fReader_readNumber_27 (fun c24 => (wi_ret0 fReader_readNumber_31 ((((((h.2 τ1 eτ1).1 c28).2.2 _ rfl).2 c26).2 c25).1 c24))) (fun c24 => (wi_iload2 fReader_readNumber_28 (wi_bipush fReader_readNumber_29 (wi_ic_lt fReader_readNumber_30 (fun c23 => (wi_aload0 fReader_readNumber_32 (wi_getf110 fReader_readNumber_33 (wi_getstatic2 fReader_readNumber_34 (wi_iload3 fReader_readNumber_35 (wi_iald6015 fReader_readNumber_36 c26 c25 (wi_ic_lt fReader_readNumber_37 (fun c22 => (wi_aload0 fReader_readNumber_44 (wi_bipush fReader_readNumber_45 (wi_aload0 fReader_readNumber_46 (wi_getf108 fReader_readNumber_47 (wi_call3 fReader_readNumber_48 (Nat.le_of_ble_eq_true rfl) (k_Reader_fail (fun τ3 eτ3 => (wi_ret0 fReader_readNumber_49 (((((((((h.2 τ1 eτ1).1 c28).2.2 _ rfl).2 c26).2 c25).2 c24).1 c23).1 c22) τ3 eτ3)))))))))) (fun c22 => (wi_aload0 fReader_readNumber_38 (wi_getf110 fReader_readNumber_39 (wi_getstatic3 fReader_readNumber_40 (wi_iload3 fReader_readNumber_41 (wi_iald6015 fReader_readNumber_42 c26 c24 (wi_ic_le fReader_readNumber_43 (fun c21 => (wi_iload1 fReader_readNumber_50 (wi_bipush fReader_readNumber_51 (wi_ic_ne fReader_readNumber_52 (fun c19 => (wi_iload1 fReader_readNumber_59 (wi_bipush fReader_readNumber_60 (wi_ic_ne fReader_readNumber_61 (fun c9 => (wi_aload0 fReader_readNumber_73 (wi_getf106 fReader_readNumber_74 (wi_iload2 fReader_readNumber_75 (wi_aload0 fReader_readNumber_76 (wi_getf110 fReader_readNumber_77 (wi_iast1003 fReader_readNumber_78 (((((((((((h.2 τ1 eτ1).1 c28).2.2 _ rfl).2 c26).2 c25).2 c24).1 c23).2 c22).1 c21).1 c19).1 c9).1 c23 (wi_ret0 fReader_readNumber_79 ((((((((((((h.2 τ1 eτ1).1 c28).2.2 _ rfl).2 c26).2 c25).2 c24).1 c23).2 c22).1 c21).1 c19).1 c9).2 _ rfl))))))))) (fun c9 => (wi_aload0 fReader_readNumber_62 (wi_getf102 fReader_readNumber_63 (wi_aload0 fReader_readNumber_64 (wi_getf110 fReader_readNumber_65 (wi_call2 fReader_readNumber_66 (Nat.le_of_ble_eq_true rfl) (k_Field_isThistly (wi_ifb_eq fReader_readNumber_67 (fun c8 => (wi_aload0 fReader_readNumber_73 (wi_getf106 fReader_readNumber_74 (wi_iload2 fReader_readNumber_75 (wi_aload0 fReader_readNumber_76 (wi_getf110 fReader_readNumber_77 (wi_iast1003 fReader_readNumber_78 ((((((((((((h.2 τ1 eτ1).1 c28).2.2 _ rfl).2 c26).2 c25).2 c24).1 c23).2 c22).1 c21).1 c19).2 c9).1 c8).1 c23 (wi_ret0 fReader_readNumber_79 (((((((((((((h.2 τ1 eτ1).1 c28).2.2 _ rfl).2 c26).2 c25).2 c24).1 c23).2 c22).1 c21).1 c19).2 c9).1 c8).2 _ rfl))))))))) (fun c8 => (wi_aload0 fReader_readNumber_68 (wi_bipush fReader_readNumber_69 (wi_aload0 fReader_readNumber_70 (wi_getf108 fReader_readNumber_71 (wi_call3 fReader_readNumber_72 (Nat.le_of_ble_eq_true rfl) (k_Reader_fail (fun τ6 eτ6 => (wi_aload0 fReader_readNumber_73 (wi_getf106 fReader_readNumber_74 (wi_iload2 fReader_readNumber_75 (wi_aload0 fReader_readNumber_76 (wi_getf110 fReader_readNumber_77 (wi_iast1003 fReader_readNumber_78 (((((((((((((h.2 τ1 eτ1).1 c28).2.2 _ rfl).2 c26).2 c25).2 c24).1 c23).2 c22).1 c21).1 c19).2 c9).2 c8) τ6 eτ6).1 c23 (wi_ret0 fReader_readNumber_79 ((((((((((((((h.2 τ1 eτ1).1 c28).2.2 _ rfl).2 c26).2 c25).2 c24).1 c23).2 c22).1 c21).1 c19).2 c9).2 c8) τ6 eτ6).2 _ rfl)))))))))))))))))))))))))))) (fun c19 => (wi_aload0 fReader_readNumber_53 (wi_getf102 fReader_readNumber_54 (wi_aload0 fReader_readNumber_55 (wi_getf110 fReader_readNumber_56 (wi_call2 fReader_readNumber_57 (Nat.le_of_ble_eq_true rfl) (k_Field_isCloudy (wi_ifb_ne fReader_readNumber_58 (fun c18 => (wi_aload0 fReader_readNumber_68 (wi_bipush fReader_readNumber_69 (wi_aload0 fReader_readNumber_70 (wi_getf108 fReader_readNumber_71 (wi_call3 fReader_readNumber_72 (Nat.le_of_ble_eq_true rfl) (k_Reader_fail (fun τ10 eτ10 => (wi_aload0 fReader_readNumber_73 (wi_getf106 fReader_readNumber_74 (wi_iload2 fReader_readNumber_75 (wi_aload0 fReader_readNumber_76 (wi_getf110 fReader_readNumber_77 (wi_iast1003 fReader_readNumber_78 ((((((((((((h.2 τ1 eτ1).1 c28).2.2 _ rfl).2 c26).2 c25).2 c24).1 c23).2 c22).1 c21).2 c19).1 c18) τ10 eτ10).1 c23 (wi_ret0 fReader_readNumber_79 (((((((((((((h.2 τ1 eτ1).1 c28).2.2 _ rfl).2 c26).2 c25).2 c24).1 c23).2 c22).1 c21).2 c19).1 c18) τ10 eτ10).2 _ rfl)))))))))))))))) (fun c18 => (wi_iload1 fReader_readNumber_59 (wi_bipush fReader_readNumber_60 (wi_ic_ne fReader_readNumber_61 (fun c17 => (wi_aload0 fReader_readNumber_73 (wi_getf106 fReader_readNumber_74 (wi_iload2 fReader_readNumber_75 (wi_aload0 fReader_readNumber_76 (wi_getf110 fReader_readNumber_77 (wi_iast1003 fReader_readNumber_78 ((((((((((((h.2 τ1 eτ1).1 c28).2.2 _ rfl).2 c26).2 c25).2 c24).1 c23).2 c22).1 c21).2 c19).2 c18).1 c17).1 c23 (wi_ret0 fReader_readNumber_79 (((((((((((((h.2 τ1 eτ1).1 c28).2.2 _ rfl).2 c26).2 c25).2 c24).1 c23).2 c22).1 c21).2 c19).2 c18).1 c17).2 _ rfl))))))))) (fun c17 => (wi_aload0 fReader_readNumber_62 (wi_getf102 fReader_readNumber_63 (wi_aload0 fReader_readNumber_64 (wi_getf110 fReader_readNumber_65 (wi_call2 fReader_readNumber_66 (Nat.le_of_ble_eq_true rfl) (k_Field_isThistly (wi_ifb_eq fReader_readNumber_67 (fun c16 => (wi_aload0 fReader_readNumber_73 (wi_getf106 fReader_readNumber_74 (wi_iload2 fReader_readNumber_75 (wi_aload0 fReader_readNumber_76 (wi_getf110 fReader_readNumber_77 (wi_iast1003 fReader_readNumber_78 (((((((((((((h.2 τ1 eτ1).1 c28).2.2 _ rfl).2 c26).2 c25).2 c24).1 c23).2 c22).1 c21).2 c19).2 c18).2 c17).1 c16).1 c23 (wi_ret0 fReader_readNumber_79 ((((((((((((((h.2 τ1 eτ1).1 c28).2.2 _ rfl).2 c26).2 c25).2 c24).1 c23).2 c22).1 c21).2 c19).2 c18).2 c17).1 c16).2 _ rfl))))))))) (fun c16 => (wi_aload0 fReader_readNumber_68 (wi_bipush fReader_readNumber_69 (wi_aload0 fReader_readNumber_70 (wi_getf108 fReader_readNumber_71 (wi_call3 fReader_readNumber_72 (Nat.le_of_ble_eq_true rfl) (k_Reader_fail (fun τ14 eτ14 => (wi_aload0 fReader_readNumber_73 (wi_getf106 fReader_readNumber_74 (wi_iload2 fReader_readNumber_75 (wi_aload0 fReader_readNumber_76 (wi_getf110 fReader_readNumber_77 (wi_iast1003 fReader_readNumber_78 ((((((((((((((h.2 τ1 eτ1).1 c28).2.2 _ rfl).2 c26).2 c25).2 c24).1 c23).2 c22).1 c21).2 c19).2 c18).2 c17).2 c16) τ14 eτ14).1 c23 (wi_ret0 fReader_readNumber_79 (((((((((((((((h.2 τ1 eτ1).1 c28).2.2 _ rfl).2 c26).2 c25).2 c24).1 c23).2 c22).1 c21).2 c19).2 c18).2 c17).2 c16) τ14 eτ14).2 _ rfl)))))))))))))))))))))))))))))))))))))))) (fun c21 => (wi_aload0 fReader_readNumber_44 (wi_bipush fReader_readNumber_45 (wi_aload0 fReader_readNumber_46 (wi_getf108 fReader_readNumber_47 (wi_call3 fReader_readNumber_48 (Nat.le_of_ble_eq_true rfl) (k_Reader_fail (fun τ20 eτ20 => (wi_ret0 fReader_readNumber_49 ((((((((((h.2 τ1 eτ1).1 c28).2.2 _ rfl).2 c26).2 c25).2 c24).1 c23).2 c22).2 c21) τ20 eτ20)))))))))))))))))))))))) (fun c23 => (wi_ret0 fReader_readNumber_31 (((((((h.2 τ1 eτ1).1 c28).2.2 _ rfl).2 c26).2 c25).2 c24).2 c23)))))))))))))))))))))))))) (fun c28 => (wi_aload0 fReader_readNumber_6 (wi_bipush fReader_readNumber_7 (wi_aload0 fReader_readNumber_8 (wi_getf108 fReader_readNumber_9 (wi_call3 fReader_readNumber_10 (Nat.le_of_ble_eq_true rfl) (k_Reader_fail (fun τ27 eτ27 => (wi_ret0 fReader_readNumber_11 (((h.2 τ1 eτ1).2 c28) τ27 eτ27)))))))))))))))))))
set_option maxHeartbeats 2000000 in
theorem k_Reader_readNumber {xs : List Int} {d : Nat} {Q : Option w_V → w_M → Prop} {x1 : Int} {x2 : Int} {σ : w_M} (hp : p_Reader_readNumber x1 x2 σ) (hQ : ∀ σ' : w_M, q_Reader_readNumber x1 x2 σ σ' → Q none σ') : w_Call (xs, d + 3) 24 [.inr (.inr (1, 1)), .inl x1, .inl x2] σ Q := by
  obtain ⟨⟨⟨hk, h3⟩, h9⟩, ⟨k0, k4⟩, j0, j2⟩ := hp
  obtain ⟨k, rfl⟩ := Int.eq_ofNat_of_zero_le k0
  obtain ⟨j, rfl⟩ := Int.eq_ofNat_of_zero_le j0
  unfold q_Reader_readNumber at hQ
  rw [Int.toNat_natCast, Int.toNat_natCast] at hQ
  obtain ⟨p, hp9⟩ : ∃ p : Nat, (σ 1 9).toNat = p := ⟨_, rfl⟩
  rw [hp9] at hQ
  have hD2 : d_ab σ 0 2 = σ 3 2 := rfl
  have hD6 : d_ab σ 0 6 = σ 3 6 := rfl
  refine bReader_readNumber_0 ⟨⟨⟨hk, h3⟩, h9⟩, fun τ1 hq1 => ?_⟩
  unfold q_Reader_readToken at hq1
  rw [hp9] at hq1
  generalize hT : rT σ = T at *
  generalize hL : rL σ = L at *
  obtain ⟨F, t8, t9, t7, t10, tf, tn⟩ := hq1
  have F3 : r_f3 σ τ1 := ⟨fun b hb _ => F.1 b hb, F.2⟩
  have z3 : τ1 3 = σ 3 := F.1 3 (by decide)
  have lenlo : ((w_carr xs 1011).length : Int) = 15 := rfl
  have lenhi : ((w_carr xs 1012).length : Int) = 15 := rfl
  -- a fault that is found here
  have bad : ∀ (n : Int) (τ : w_M), nt_f T L (d_ab σ) k j p = n → ¬ n = 0 → ¬ tk_k T L p = 4 → q_Reader_fail n (τ1 1 8) τ1 τ → (r_f3 σ τ ∧ τ 1 3 = n ∧ τ 1 4 = ((tk_f T L p : Nat) : Int)) := fun n τ hn h0 h4 q => by
    have e := q.1 (tn h4).1
    refine ⟨⟨fun b hb _ => by rw [e, w_up_ne hb, w_up_ne hb]; exact F.1 b hb, by rw [e, w_up_j (by decide), w_up_j (by decide)]; exact F.2.1, by rw [e, w_up_j (by decide), w_up_j (by decide)]; exact F.2.2⟩, ?_, ?_⟩
    · rw [e, w_up_j (by decide), w_up_at]
    · rw [e, w_up_at, t8]
  have fin : ∀ (n : Int) (τ : w_M), nt_f T L (d_ab σ) k j p = n → ¬ n = 0 → r_f3 σ τ ∧ τ 1 3 = n ∧ τ 1 4 = ((tk_f T L p : Nat) : Int) → Q none τ := fun n τ hn h0 h => hQ _ ⟨h.1, by rw [h.2.1, hn], fun _ => h.2.2, fun q => absurd (hn.symm.trans q) h0⟩
  refine ⟨fun c => ?_, fun c τ27 q27 => ?_⟩
  · rw [t7] at c
    have k4' : ¬ tk_k T L p = 4 := by omega
    have ev := t10 c
    have eidx : ((k : Int) * 3 + (j : Int)).toNat = 3 * k + j := by omega
    have good : nt_f T L (d_ab σ) k j p = 0 → ∀ τ : w_M, τ = w_up τ1 12 j (tk_v T L p) → Q none τ := fun hn τ t => by
      refine hQ _ ⟨⟨fun b hb hb2 => by rw [t, w_up_ne hb2]; exact F.1 b hb, by rw [t, w_up_ne (by decide)]; exact F.2.1, by rw [t, w_up_ne (by decide)]; exact F.2.2⟩, by rw [t, w_up_ne (by decide), hn]; exact (tn k4').1, fun q => absurd hn q, fun _ => ⟨by rw [t, w_up_ne (by decide)]; exact t9 (by omega), by rw [t, w_up_at], fun i hi => ?_⟩⟩
      rw [t, w_up_j hi, F.1 12 (by decide)]
    have nt : nt_f T L (d_ab σ) k j p = if tk_v T L p < ln_lo k j ∨ ln_hi k j < tk_v T L p then 3 else if (k = 3 ∧ ¬ w_and (w_shr (σ 3 2) (tk_v T L p)) 1 = 0) ∨ (k = 4 ∧ ¬ w_and (w_shr (σ 3 6) (tk_v T L p)) 1 = 0) then 4 else 0 := by
      unfold nt_f
      rw [if_neg k4', if_neg (fun q => q c), hD2, hD6]
    refine ⟨⟨by omega, by omega⟩, ⟨by omega, by omega⟩, fun y2 e2 => ⟨fun c2 => by omega, fun c2 => ⟨fun c3 => by omega, fun c3 => ⟨fun c4 => by omega, fun c4 => ⟨fun c5 => ?_, fun c5 => by omega⟩⟩⟩⟩⟩
    have elo : (w_carr xs 1011).getD y2.toNat 0 = ln_lo k j := by rw [e2, eidx]; rfl
    have ehi : (w_carr xs 1012).getD y2.toNat 0 = ln_hi k j := by rw [e2, eidx]; rfl
    rw [elo, ehi, ev, z3, Int.toNat_natCast]
    have four : (k = 3 ∧ ¬ w_and (w_shr (σ 3 2) (tk_v T L p)) 1 = 0) ∨ (k = 4 ∧ ¬ w_and (w_shr (σ 3 6) (tk_v T L p)) 1 = 0) → ln_lo k j ≤ tk_v T L p → tk_v T L p ≤ ln_hi k j → ∀ τ6 : w_M, q_Reader_fail 4 (τ1 1 8) τ1 τ6 → ∀ τ7 : w_M, τ7 = w_up τ6 12 j (τ6 1 10) → Q none τ7 := fun hb hl hh τ6 q6 τ7 t7' => by
      have hn : nt_f T L (d_ab σ) k j p = 4 := by rw [nt, if_neg (by omega), if_pos hb]
      obtain ⟨b1, b2, b3⟩ := bad 4 τ6 hn (by decide) k4' q6
      refine fin 4 τ7 hn (by decide) ⟨⟨fun b hb hb2 => by rw [t7', w_up_ne hb2]; exact b1.1 b hb hb2, by rw [t7', w_up_ne (by decide)]; exact b1.2.1, by rw [t7', w_up_ne (by decide)]; exact b1.2.2⟩, by rw [t7', w_up_ne (by decide)]; exact b2, by rw [t7', w_up_ne (by decide)]; exact b3⟩
    refine ⟨fun c6 τ3 q3 => fin 3 τ3 (by rw [nt, if_pos (Or.inl c6)]) (by decide) (bad 3 τ3 (by rw [nt, if_pos (Or.inl c6)]) (by decide) k4' q3), fun c6 => ⟨fun c7 => ⟨fun c8 => ⟨fun c9 => ⟨by omega, fun τ4 t4 => ?_⟩, fun c9 => ⟨fun c10 => ⟨by omega, fun τ5 t5 => ?_⟩, fun c10 τ6 q6 => ⟨by omega, fun τ7 t7' => ?_⟩⟩⟩, fun c8 => ⟨fun c9 τ10 q10 => ⟨by omega, fun τ11 t11 => ?_⟩, fun c9 => ⟨fun c10 => ⟨by omega, fun τ12 t12 => ?_⟩, fun c10 => by omega⟩⟩⟩, fun c7 τ20 q20 => fin 3 τ20 (by rw [nt, if_pos (Or.inr c7)]) (by decide) (bad 3 τ20 (by rw [nt, if_pos (Or.inr c7)]) (by decide) k4' q20)⟩⟩
    · exact good (by rw [nt, if_neg (by omega), if_neg (by omega)]) τ4 t4
    · exact good (by rw [nt, if_neg (by omega), if_neg (fun q => q.elim (fun q => by omega) (fun q => c10 q.2))]) τ5 t5
    · exact four (Or.inr ⟨by omega, c10⟩) c6 c7 τ6 q6 τ7 t7'
    · exact four (Or.inl ⟨by omega, c9⟩) c6 c7 τ10 q10 τ11 t11
    · exact good (by rw [nt, if_neg (by omega), if_neg (fun q => q.elim (fun q => c9 q.2) (fun q => by omega))]) τ12 t12
  · rw [t7] at c
    by_cases h4 : tk_k T L p = 4
    · have e27 := q27.2 (by rw [(tf h4).1]; decide)
      have hn : nt_f T L (d_ab σ) k j p = 1 := by unfold nt_f; rw [if_pos h4]
      refine fin 1 τ27 hn (by decide) ?_
      rw [e27]
      exact ⟨F3, (tf h4).1, (tf h4).2⟩
    · have hn : nt_f T L (d_ab σ) k j p = 2 := by unfold nt_f; rw [if_neg h4, if_pos c]
      exact fin 2 τ27 hn (by decide) (bad 2 τ27 hn (by decide) h4 q27)
end
section
/-! The class takes lines, and all of the text -/
noncomputable def p_Field_addStrip (a : Nat) (_ _ : Int) (σ : w_M) : Prop := 0 ≤ σ a 4 ∧ σ a 4 < 7
noncomputable def q_Field_addStrip (a : Nat) (y o : Int) (σ σ' : w_M) : Prop := σ' = w_up (w_up (w_up σ (a + 1) (σ a 4).toNat y) (a + 2) (σ a 4).toNat o) a 4 (σ a 4 + 1)
theorem fField_addStrip_0 : w_fe am_c31 0 1 (.aload 0) := ⟨rfl, rfl⟩
theorem fField_addStrip_1 : w_fe am_c31 1 2 (.getfield 204) := ⟨rfl, rfl⟩
theorem fField_addStrip_2 : w_fe am_c31 2 3 (.bipush 7) := ⟨rfl, rfl⟩
theorem fField_addStrip_3 : w_ic am_c31 3 4 .ge 22 := ⟨rfl, rfl⟩
theorem fField_addStrip_4 : w_fe am_c31 4 5 (.aload 0) := ⟨rfl, rfl⟩
theorem fField_addStrip_5 : w_fe am_c31 5 6 (.getfield 207) := ⟨rfl, rfl⟩
theorem fField_addStrip_6 : w_fe am_c31 6 7 (.aload 0) := ⟨rfl, rfl⟩
theorem fField_addStrip_7 : w_fe am_c31 7 8 (.getfield 204) := ⟨rfl, rfl⟩
theorem fField_addStrip_8 : w_fe am_c31 8 9 (.iload 1) := ⟨rfl, rfl⟩
theorem fField_addStrip_9 : w_fe am_c31 9 10 (.iastore) := ⟨rfl, rfl⟩
theorem fField_addStrip_10 : w_fe am_c31 10 11 (.aload 0) := ⟨rfl, rfl⟩
theorem fField_addStrip_11 : w_fe am_c31 11 12 (.getfield 208) := ⟨rfl, rfl⟩
theorem fField_addStrip_12 : w_fe am_c31 12 13 (.aload 0) := ⟨rfl, rfl⟩
theorem fField_addStrip_13 : w_fe am_c31 13 14 (.getfield 204) := ⟨rfl, rfl⟩
theorem fField_addStrip_14 : w_fe am_c31 14 15 (.iload 2) := ⟨rfl, rfl⟩
theorem fField_addStrip_15 : w_fe am_c31 15 16 (.iastore) := ⟨rfl, rfl⟩
theorem fField_addStrip_16 : w_fe am_c31 16 17 (.aload 0) := ⟨rfl, rfl⟩
theorem fField_addStrip_17 : w_fe am_c31 17 18 (.dup) := ⟨rfl, rfl⟩
theorem fField_addStrip_18 : w_fe am_c31 18 19 (.getfield 204) := ⟨rfl, rfl⟩
theorem fField_addStrip_19 : w_fe am_c31 19 20 (.bipush 1) := ⟨rfl, rfl⟩
theorem fField_addStrip_20 : w_fe am_c31 20 21 (.iadd) := ⟨rfl, rfl⟩
theorem fField_addStrip_21 : w_fe am_c31 21 22 (.putfield 204) := ⟨rfl, rfl⟩
theorem fField_addStrip_22 : w_fe am_c31 22 23 (.return_) := ⟨rfl, rfl⟩
set_option maxRecDepth 20000 in
theorem bField_addStrip_0 {xs : List Int} {d : Nat} {Q : Option w_V → w_M → Prop} {a : Nat} {x1 : Int} {x2 : Int} {σ : w_M}
    (h : (7 ≤ (σ a 4) → Q none σ) ∧ ((σ a 4) < 7 → (0 ≤ (σ a 4) ∧ (∀ (τ1 : w_M), τ1 = w_up σ (a + 1) (σ a 4).toNat x1 → (0 ≤ (τ1 a 4) ∧ (τ1 a 4) < 7 ∧ (∀ (τ2 : w_M), τ2 = w_up τ1 (a + 2) (τ1 a 4).toNat x2 → (w_in ((τ2 a 4) + 1) ∧ (∀ (τ3 : w_M), τ3 = w_up τ2 a 4 ((τ2 a 4) + 1) → Q none τ3)))))))) : w_Call (xs, d) 31 [.inr (.inr (2, a)), .inl x1, .inl x2] σ Q :=
  (w_mk (mid := 31) (by decide) rfl rfl rfl rfl rfl (Nat.le_of_ble_eq_true rfl) ⟨rfl, Or.inl (by decide)⟩ (wi_aload0 fField_addStrip_0 (wi_getf204 fField_addStrip_1 (wi_bipush fField_addStrip_2 (wi_ic_ge fField_addStrip_3 (fun c4 => (wi_ret0 fField_addStrip_22 (h.1 c4))) (fun c4 => (wi_aload0 fField_addStrip_4 (wi_getf207 fField_addStrip_5 (wi_aload0 fField_addStrip_6 (wi_getf204 fField_addStrip_7 (wi_iload1 fField_addStrip_8 (wi_iast1007 fField_addStrip_9 (h.2 c4).1 c4 (wi_aload0 fField_addStrip_10 (wi_getf208 fField_addStrip_11 (wi_aload0 fField_addStrip_12 (wi_getf204 fField_addStrip_13 (wi_iload2 fField_addStrip_14 (wi_iast1007 fField_addStrip_15 ((h.2 c4).2 _ rfl).1 ((h.2 c4).2 _ rfl).2.1 (wi_aload0 fField_addStrip_16 (wi_dup_a fField_addStrip_17 (wi_getf204 fField_addStrip_18 (wi_bipush fField_addStrip_19 (wi_iadd fField_addStrip_20 (((h.2 c4).2 _ rfl).2.2 _ rfl).1 (wi_putf204 fField_addStrip_21 (wi_ret0 fField_addStrip_22 ((((h.2 c4).2 _ rfl).2.2 _ rfl).2 _ rfl))))))))))))))))))))))))))
theorem k_Field_addStrip {xs : List Int} {d : Nat} {Q : Option w_V → w_M → Prop} {a : Nat} {x1 : Int} {x2 : Int} {σ : w_M} (hp : p_Field_addStrip a x1 x2 σ) (hQ : ∀ σ' : w_M, q_Field_addStrip a x1 x2 σ σ' → Q none σ') : w_Call (xs, d) 31 [.inr (.inr (2, a)), .inl x1, .inl x2] σ Q := by
  have h : 0 ≤ σ a 4 ∧ σ a 4 < 7 := hp
  refine bField_addStrip_0 ⟨fun c => by omega, fun _ => ⟨h.1, fun τ1 t1 => ?_⟩⟩
  have e1 : τ1 a 4 = σ a 4 := by rw [t1, w_up_ne (by omega)]
  refine ⟨by omega, by omega, fun τ2 t2 => ?_⟩
  have e2 : τ2 a 4 = σ a 4 := by rw [t2, w_up_ne (by omega)]; exact e1
  refine ⟨⟨by omega, by omega⟩, fun τ3 t3 => hQ _ ?_⟩
  unfold q_Field_addStrip
  rw [t3, e2, t2, e1, t1]
noncomputable def p_Field_addReaper (a : Nat) (_ _ _ : Int) (σ : w_M) : Prop := 0 ≤ σ a 5 ∧ σ a 5 < 4
noncomputable def q_Field_addReaper (a : Nat) (p v i : Int) (σ σ' : w_M) : Prop := σ' = w_up (w_up (w_up (w_up (w_up (w_up σ (a + 3) (σ a 5).toNat p) (a + 4) (σ a 5).toNat v) (a + 5) (σ a 5).toNat 3) (a + 6) (σ a 5).toNat i) (a + 7) (σ a 5).toNat 0) a 5 (σ a 5 + 1)
theorem fField_addReaper_0 : w_fe am_c32 0 1 (.aload 0) := ⟨rfl, rfl⟩
theorem fField_addReaper_1 : w_fe am_c32 1 2 (.getfield 205) := ⟨rfl, rfl⟩
theorem fField_addReaper_2 : w_fe am_c32 2 3 (.bipush 4) := ⟨rfl, rfl⟩
theorem fField_addReaper_3 : w_ic am_c32 3 4 .ge 40 := ⟨rfl, rfl⟩
theorem fField_addReaper_4 : w_fe am_c32 4 5 (.aload 0) := ⟨rfl, rfl⟩
theorem fField_addReaper_5 : w_fe am_c32 5 6 (.getfield 209) := ⟨rfl, rfl⟩
theorem fField_addReaper_6 : w_fe am_c32 6 7 (.aload 0) := ⟨rfl, rfl⟩
theorem fField_addReaper_7 : w_fe am_c32 7 8 (.getfield 205) := ⟨rfl, rfl⟩
theorem fField_addReaper_8 : w_fe am_c32 8 9 (.iload 1) := ⟨rfl, rfl⟩
theorem fField_addReaper_9 : w_fe am_c32 9 10 (.iastore) := ⟨rfl, rfl⟩
theorem fField_addReaper_10 : w_fe am_c32 10 11 (.aload 0) := ⟨rfl, rfl⟩
theorem fField_addReaper_11 : w_fe am_c32 11 12 (.getfield 210) := ⟨rfl, rfl⟩
theorem fField_addReaper_12 : w_fe am_c32 12 13 (.aload 0) := ⟨rfl, rfl⟩
theorem fField_addReaper_13 : w_fe am_c32 13 14 (.getfield 205) := ⟨rfl, rfl⟩
theorem fField_addReaper_14 : w_fe am_c32 14 15 (.iload 2) := ⟨rfl, rfl⟩
theorem fField_addReaper_15 : w_fe am_c32 15 16 (.iastore) := ⟨rfl, rfl⟩
theorem fField_addReaper_16 : w_fe am_c32 16 17 (.aload 0) := ⟨rfl, rfl⟩
theorem fField_addReaper_17 : w_fe am_c32 17 18 (.getfield 211) := ⟨rfl, rfl⟩
theorem fField_addReaper_18 : w_fe am_c32 18 19 (.aload 0) := ⟨rfl, rfl⟩
theorem fField_addReaper_19 : w_fe am_c32 19 20 (.getfield 205) := ⟨rfl, rfl⟩
theorem fField_addReaper_20 : w_fe am_c32 20 21 (.bipush 3) := ⟨rfl, rfl⟩
theorem fField_addReaper_21 : w_fe am_c32 21 22 (.iastore) := ⟨rfl, rfl⟩
theorem fField_addReaper_22 : w_fe am_c32 22 23 (.aload 0) := ⟨rfl, rfl⟩
theorem fField_addReaper_23 : w_fe am_c32 23 24 (.getfield 212) := ⟨rfl, rfl⟩
theorem fField_addReaper_24 : w_fe am_c32 24 25 (.aload 0) := ⟨rfl, rfl⟩
theorem fField_addReaper_25 : w_fe am_c32 25 26 (.getfield 205) := ⟨rfl, rfl⟩
theorem fField_addReaper_26 : w_fe am_c32 26 27 (.iload 3) := ⟨rfl, rfl⟩
theorem fField_addReaper_27 : w_fe am_c32 27 28 (.iastore) := ⟨rfl, rfl⟩
theorem fField_addReaper_28 : w_fe am_c32 28 29 (.aload 0) := ⟨rfl, rfl⟩
theorem fField_addReaper_29 : w_fe am_c32 29 30 (.getfield 213) := ⟨rfl, rfl⟩
theorem fField_addReaper_30 : w_fe am_c32 30 31 (.aload 0) := ⟨rfl, rfl⟩
theorem fField_addReaper_31 : w_fe am_c32 31 32 (.getfield 205) := ⟨rfl, rfl⟩
theorem fField_addReaper_32 : w_fe am_c32 32 33 (.bipush 0) := ⟨rfl, rfl⟩
theorem fField_addReaper_33 : w_fe am_c32 33 34 (.iastore) := ⟨rfl, rfl⟩
theorem fField_addReaper_34 : w_fe am_c32 34 35 (.aload 0) := ⟨rfl, rfl⟩
theorem fField_addReaper_35 : w_fe am_c32 35 36 (.dup) := ⟨rfl, rfl⟩
theorem fField_addReaper_36 : w_fe am_c32 36 37 (.getfield 205) := ⟨rfl, rfl⟩
theorem fField_addReaper_37 : w_fe am_c32 37 38 (.bipush 1) := ⟨rfl, rfl⟩
theorem fField_addReaper_38 : w_fe am_c32 38 39 (.iadd) := ⟨rfl, rfl⟩
theorem fField_addReaper_39 : w_fe am_c32 39 40 (.putfield 205) := ⟨rfl, rfl⟩
theorem fField_addReaper_40 : w_fe am_c32 40 41 (.return_) := ⟨rfl, rfl⟩
set_option maxRecDepth 20000 in
theorem bField_addReaper_0 {xs : List Int} {d : Nat} {Q : Option w_V → w_M → Prop} {a : Nat} {x1 : Int} {x2 : Int} {x3 : Int} {σ : w_M}
    (h : (4 ≤ (σ a 5) → Q none σ) ∧ ((σ a 5) < 4 → (0 ≤ (σ a 5) ∧ (∀ (τ1 : w_M), τ1 = w_up σ (a + 3) (σ a 5).toNat x1 → (0 ≤ (τ1 a 5) ∧ (τ1 a 5) < 4 ∧ (∀ (τ2 : w_M), τ2 = w_up τ1 (a + 4) (τ1 a 5).toNat x2 → (0 ≤ (τ2 a 5) ∧ (τ2 a 5) < 4 ∧ (∀ (τ3 : w_M), τ3 = w_up τ2 (a + 5) (τ2 a 5).toNat 3 → (0 ≤ (τ3 a 5) ∧ (τ3 a 5) < 4 ∧ (∀ (τ4 : w_M), τ4 = w_up τ3 (a + 6) (τ3 a 5).toNat x3 → (0 ≤ (τ4 a 5) ∧ (τ4 a 5) < 4 ∧ (∀ (τ5 : w_M), τ5 = w_up τ4 (a + 7) (τ4 a 5).toNat 0 → (w_in ((τ5 a 5) + 1) ∧ (∀ (τ6 : w_M), τ6 = w_up τ5 a 5 ((τ5 a 5) + 1) → Q none τ6)))))))))))))) : w_Call (xs, d) 32 [.inr (.inr (2, a)), .inl x1, .inl x2, .inl x3] σ Q :=
  (w_mk (mid := 32) (by decide) rfl rfl rfl rfl rfl (Nat.le_of_ble_eq_true rfl) ⟨rfl, Or.inl (by decide)⟩ (wi_aload0 fField_addReaper_0 (wi_getf205 fField_addReaper_1 (wi_bipush fField_addReaper_2 (wi_ic_ge fField_addReaper_3 (fun c7 => (wi_ret0 fField_addReaper_40 (h.1 c7))) (fun c7 => (wi_aload0 fField_addReaper_4 (wi_getf209 fField_addReaper_5 (wi_aload0 fField_addReaper_6 (wi_getf205 fField_addReaper_7 (wi_iload1 fField_addReaper_8 (wi_iast1004 fField_addReaper_9 (h.2 c7).1 c7 (wi_aload0 fField_addReaper_10 (wi_getf210 fField_addReaper_11 (wi_aload0 fField_addReaper_12 (wi_getf205 fField_addReaper_13 (wi_iload2 fField_addReaper_14 (wi_iast1004 fField_addReaper_15 ((h.2 c7).2 _ rfl).1 ((h.2 c7).2 _ rfl).2.1 (wi_aload0 fField_addReaper_16 (wi_getf211 fField_addReaper_17 (wi_aload0 fField_addReaper_18 (wi_getf205 fField_addReaper_19 (wi_bipush fField_addReaper_20 (wi_iast1004 fField_addReaper_21 (((h.2 c7).2 _ rfl).2.2 _ rfl).1 (((h.2 c7).2 _ rfl).2.2 _ rfl).2.1 (wi_aload0 fField_addReaper_22 (wi_getf212 fField_addReaper_23 (wi_aload0 fField_addReaper_24 (wi_getf205 fField_addReaper_25 (wi_iload3 fField_addReaper_26 (wi_iast1004 fField_addReaper_27 ((((h.2 c7).2 _ rfl).2.2 _ rfl).2.2 _ rfl).1 ((((h.2 c7).2 _ rfl).2.2 _ rfl).2.2 _ rfl).2.1 (wi_aload0 fField_addReaper_28 (wi_getf213 fField_addReaper_29 (wi_aload0 fField_addReaper_30 (wi_getf205 fField_addReaper_31 (wi_bipush fField_addReaper_32 (wi_iast1004 fField_addReaper_33 (((((h.2 c7).2 _ rfl).2.2 _ rfl).2.2 _ rfl).2.2 _ rfl).1 (((((h.2 c7).2 _ rfl).2.2 _ rfl).2.2 _ rfl).2.2 _ rfl).2.1 (wi_aload0 fField_addReaper_34 (wi_dup_a fField_addReaper_35 (wi_getf205 fField_addReaper_36 (wi_bipush fField_addReaper_37 (wi_iadd fField_addReaper_38 ((((((h.2 c7).2 _ rfl).2.2 _ rfl).2.2 _ rfl).2.2 _ rfl).2.2 _ rfl).1 (wi_putf205 fField_addReaper_39 (wi_ret0 fField_addReaper_40 (((((((h.2 c7).2 _ rfl).2.2 _ rfl).2.2 _ rfl).2.2 _ rfl).2.2 _ rfl).2 _ rfl))))))))))))))))))))))))))))))))))))))))))))
theorem k_Field_addReaper {xs : List Int} {d : Nat} {Q : Option w_V → w_M → Prop} {a : Nat} {x1 : Int} {x2 : Int} {x3 : Int} {σ : w_M} (hp : p_Field_addReaper a x1 x2 x3 σ) (hQ : ∀ σ' : w_M, q_Field_addReaper a x1 x2 x3 σ σ' → Q none σ') : w_Call (xs, d) 32 [.inr (.inr (2, a)), .inl x1, .inl x2, .inl x3] σ Q := by
  have h : 0 ≤ σ a 5 ∧ σ a 5 < 4 := hp
  refine bField_addReaper_0 ⟨fun c => by omega, fun _ => ⟨h.1, fun τ1 t1 => ?_⟩⟩
  have e1 : τ1 a 5 = σ a 5 := by rw [t1, w_up_ne (by omega)]
  refine ⟨by omega, by omega, fun τ2 t2 => ?_⟩
  have e2 : τ2 a 5 = σ a 5 := by rw [t2, w_up_ne (by omega)]; exact e1
  refine ⟨by omega, by omega, fun τ3 t3 => ?_⟩
  have e3 : τ3 a 5 = σ a 5 := by rw [t3, w_up_ne (by omega)]; exact e2
  refine ⟨by omega, by omega, fun τ4 t4 => ?_⟩
  have e4 : τ4 a 5 = σ a 5 := by rw [t4, w_up_ne (by omega)]; exact e3
  refine ⟨by omega, by omega, fun τ5 t5 => ?_⟩
  have e5 : τ5 a 5 = σ a 5 := by rw [t5, w_up_ne (by omega)]; exact e4
  refine ⟨⟨by omega, by omega⟩, fun τ6 t6 => hQ _ ?_⟩
  unfold q_Field_addReaper
  rw [t6, e5, t5, e4, t4, e3, t3, e2, t2, e1, t1]
theorem d_ab_0 {σ : w_M} {i : Nat} : d_ab σ 0 i = if i = 0 then σ 3 0 else if i = 2 then σ 3 2 else if i = 4 then σ 3 4 else if i = 5 then σ 3 5 else if i = 6 then σ 3 6 else if i = 7 then σ 1 5 else 0 := rfl
theorem d_ab_12 {σ : w_M} {d i : Nat} (h1 : 1 ≤ d) (h2 : d ≤ 2) : d_ab σ d i = if i < (σ 3 4).toNat then σ (3 + d) i else 0 := by unfold d_ab; rw [if_neg (by omega), if_pos h2]
theorem d_ab_346 {σ : w_M} {d i : Nat} (h : d = 3 ∨ d = 4 ∨ d = 6) : d_ab σ d i = if i < (σ 3 5).toNat then σ (3 + d) i else 0 := by unfold d_ab; rw [if_neg (by omega), if_neg (by omega), if_pos h]
theorem d_ab_no {σ : w_M} {d i : Nat} (h : d = 5 ∨ 7 ≤ d) : d_ab σ d i = 0 := by unfold d_ab; rw [if_neg (by omega), if_neg (by omega), if_neg (by omega)]
theorem d_ab_eq {σ : w_M} {X : w_M} (h0 : ∀ i, d_ab σ 0 i = X 0 i) (h12 : ∀ d i, 1 ≤ d → d ≤ 2 → (if i < (σ 3 4).toNat then σ (3 + d) i else 0) = X d i) (h346 : ∀ d i, (d = 3 ∨ d = 4 ∨ d = 6) → (if i < (σ 3 5).toNat then σ (3 + d) i else 0) = X d i) (hno : ∀ d i, (d = 5 ∨ 7 ≤ d) → X d i = 0) : d_ab σ = X := by
  funext d i
  by_cases e0 : d = 0
  · rw [e0]; exact h0 i
  · by_cases e2 : d ≤ 2
    · rw [d_ab_12 (by omega) e2]; exact h12 d i (by omega) e2
    · by_cases e3 : d = 3 ∨ d = 4 ∨ d = 6
      · rw [d_ab_346 e3]; exact h346 d i e3
      · rw [d_ab_no (by omega)]; exact (hno d i (by omega)).symm
noncomputable def p_Reader_takeLine (k : Int) (σ : w_M) : Prop := (0 ≤ k ∧ k ≤ 4) ∧ ln_b (d_ab σ) k.toNat = 0 ∧ d_WF (d_ab σ)
noncomputable def q_Reader_takeLine (k : Int) (σ σ' : w_M) : Prop := d_ab σ' = ln_D (d_ab σ) k.toNat (σ 12 0) (σ 12 1) (σ 12 2) ∧ (d_cn σ → d_cn σ') ∧ (∀ b, b < 1 ∨ b = 2 ∨ 12 ≤ b → σ' b = σ b) ∧ ∀ j, j ≠ 5 → σ' 1 j = σ 1 j
theorem fReader_takeLine_0 : w_fe am_c25 0 1 (.iload 1) := ⟨rfl, rfl⟩
theorem fReader_takeLine_1 {E : w_C} {rt : Nat} {Q : Option w_V → w_M → Prop} {ls : w_L} {st : List w_V} {σ : w_M} {x : Int} (h0 : x = 0 → w_Ex E rt am_c25 Q 2 ls st σ) (h1 : x = 1 → w_Ex E rt am_c25 Q 13 ls st σ) (h2 : x = 2 → w_Ex E rt am_c25 Q 25 ls st σ) (h3 : x = 3 → w_Ex E rt am_c25 Q 41 ls st σ) (hd : x < 0 ∨ 3 < x → w_Ex E rt am_c25 Q 54 ls st σ) : w_Ex E rt am_c25 Q 1 ls (.inl x :: st) σ :=
  w_Ex_in (op := .tableswitch 54 0 3 #[2, 13, 25, 41]) rfl ⟨rfl, hd, And.intro h0 (And.intro h1 (And.intro h2 (And.intro h3 ( trivial))))⟩
theorem fReader_takeLine_2 : w_fe am_c25 2 3 (.aload 0) := ⟨rfl, rfl⟩
theorem fReader_takeLine_3 : w_fe am_c25 3 4 (.getfield 102) := ⟨rfl, rfl⟩
theorem fReader_takeLine_4 : w_fe am_c25 4 5 (.aload 0) := ⟨rfl, rfl⟩
theorem fReader_takeLine_5 : w_fe am_c25 5 6 (.getfield 106) := ⟨rfl, rfl⟩
theorem fReader_takeLine_6 : w_fe am_c25 6 7 (.bipush 0) := ⟨rfl, rfl⟩
theorem fReader_takeLine_7 : w_fe am_c25 7 8 (.iaload) := ⟨rfl, rfl⟩
theorem fReader_takeLine_8 : w_fe am_c25 8 9 (.putfield 200) := ⟨rfl, rfl⟩
theorem fReader_takeLine_9 : w_fe am_c25 9 10 (.aload 0) := ⟨rfl, rfl⟩
theorem fReader_takeLine_10 : w_fe am_c25 10 11 (.bipush 1) := ⟨rfl, rfl⟩
theorem fReader_takeLine_11 : w_fe am_c25 11 12 (.putfield 105) := ⟨rfl, rfl⟩
theorem fReader_takeLine_12 : w_gt am_c25 12 66 := rfl
theorem fReader_takeLine_13 : w_fe am_c25 13 14 (.aload 0) := ⟨rfl, rfl⟩
theorem fReader_takeLine_14 : w_fe am_c25 14 15 (.getfield 102) := ⟨rfl, rfl⟩
theorem fReader_takeLine_15 : w_fe am_c25 15 16 (.aload 0) := ⟨rfl, rfl⟩
theorem fReader_takeLine_16 : w_fe am_c25 16 17 (.getfield 106) := ⟨rfl, rfl⟩
theorem fReader_takeLine_17 : w_fe am_c25 17 18 (.bipush 0) := ⟨rfl, rfl⟩
theorem fReader_takeLine_18 : w_fe am_c25 18 19 (.iaload) := ⟨rfl, rfl⟩
theorem fReader_takeLine_19 : w_fe am_c25 19 20 (.aload 0) := ⟨rfl, rfl⟩
theorem fReader_takeLine_20 : w_fe am_c25 20 21 (.getfield 106) := ⟨rfl, rfl⟩
theorem fReader_takeLine_21 : w_fe am_c25 21 22 (.bipush 1) := ⟨rfl, rfl⟩
theorem fReader_takeLine_22 : w_fe am_c25 22 23 (.iaload) := ⟨rfl, rfl⟩
theorem fReader_takeLine_23 : w_fe am_c25 23 24 (.invokestatic 31) := ⟨rfl, rfl⟩
theorem fReader_takeLine_24 : w_gt am_c25 24 66 := rfl
theorem fReader_takeLine_25 : w_fe am_c25 25 26 (.aload 0) := ⟨rfl, rfl⟩
theorem fReader_takeLine_26 : w_fe am_c25 26 27 (.getfield 102) := ⟨rfl, rfl⟩
theorem fReader_takeLine_27 : w_fe am_c25 27 28 (.aload 0) := ⟨rfl, rfl⟩
theorem fReader_takeLine_28 : w_fe am_c25 28 29 (.getfield 106) := ⟨rfl, rfl⟩
theorem fReader_takeLine_29 : w_fe am_c25 29 30 (.bipush 0) := ⟨rfl, rfl⟩
theorem fReader_takeLine_30 : w_fe am_c25 30 31 (.iaload) := ⟨rfl, rfl⟩
theorem fReader_takeLine_31 : w_fe am_c25 31 32 (.aload 0) := ⟨rfl, rfl⟩
theorem fReader_takeLine_32 : w_fe am_c25 32 33 (.getfield 106) := ⟨rfl, rfl⟩
theorem fReader_takeLine_33 : w_fe am_c25 33 34 (.bipush 1) := ⟨rfl, rfl⟩
theorem fReader_takeLine_34 : w_fe am_c25 34 35 (.iaload) := ⟨rfl, rfl⟩
theorem fReader_takeLine_35 : w_fe am_c25 35 36 (.aload 0) := ⟨rfl, rfl⟩
theorem fReader_takeLine_36 : w_fe am_c25 36 37 (.getfield 106) := ⟨rfl, rfl⟩
theorem fReader_takeLine_37 : w_fe am_c25 37 38 (.bipush 2) := ⟨rfl, rfl⟩
theorem fReader_takeLine_38 : w_fe am_c25 38 39 (.iaload) := ⟨rfl, rfl⟩
theorem fReader_takeLine_39 : w_fe am_c25 39 40 (.invokestatic 32) := ⟨rfl, rfl⟩
theorem fReader_takeLine_40 : w_gt am_c25 40 66 := rfl
theorem fReader_takeLine_41 : w_fe am_c25 41 42 (.aload 0) := ⟨rfl, rfl⟩
theorem fReader_takeLine_42 : w_fe am_c25 42 43 (.getfield 102) := ⟨rfl, rfl⟩
theorem fReader_takeLine_43 : w_fe am_c25 43 44 (.aload 0) := ⟨rfl, rfl⟩
theorem fReader_takeLine_44 : w_fe am_c25 44 45 (.getfield 102) := ⟨rfl, rfl⟩
theorem fReader_takeLine_45 : w_fe am_c25 45 46 (.getfield 202) := ⟨rfl, rfl⟩
theorem fReader_takeLine_46 : w_fe am_c25 46 47 (.aload 0) := ⟨rfl, rfl⟩
theorem fReader_takeLine_47 : w_fe am_c25 47 48 (.getfield 106) := ⟨rfl, rfl⟩
theorem fReader_takeLine_48 : w_fe am_c25 48 49 (.bipush 0) := ⟨rfl, rfl⟩
theorem fReader_takeLine_49 : w_fe am_c25 49 50 (.iaload) := ⟨rfl, rfl⟩
theorem fReader_takeLine_50 : w_fe am_c25 50 51 (.bipush 1) := ⟨rfl, rfl⟩
theorem fReader_takeLine_51 : w_fe am_c25 51 52 (.invokestatic 110) := ⟨rfl, rfl⟩
theorem fReader_takeLine_52 : w_fe am_c25 52 53 (.putfield 202) := ⟨rfl, rfl⟩
theorem fReader_takeLine_53 : w_gt am_c25 53 66 := rfl
theorem fReader_takeLine_54 : w_fe am_c25 54 55 (.aload 0) := ⟨rfl, rfl⟩
theorem fReader_takeLine_55 : w_fe am_c25 55 56 (.getfield 102) := ⟨rfl, rfl⟩
theorem fReader_takeLine_56 : w_fe am_c25 56 57 (.aload 0) := ⟨rfl, rfl⟩
theorem fReader_takeLine_57 : w_fe am_c25 57 58 (.getfield 102) := ⟨rfl, rfl⟩
theorem fReader_takeLine_58 : w_fe am_c25 58 59 (.getfield 206) := ⟨rfl, rfl⟩
theorem fReader_takeLine_59 : w_fe am_c25 59 60 (.aload 0) := ⟨rfl, rfl⟩
theorem fReader_takeLine_60 : w_fe am_c25 60 61 (.getfield 106) := ⟨rfl, rfl⟩
theorem fReader_takeLine_61 : w_fe am_c25 61 62 (.bipush 0) := ⟨rfl, rfl⟩
theorem fReader_takeLine_62 : w_fe am_c25 62 63 (.iaload) := ⟨rfl, rfl⟩
theorem fReader_takeLine_63 : w_fe am_c25 63 64 (.bipush 1) := ⟨rfl, rfl⟩
theorem fReader_takeLine_64 : w_fe am_c25 64 65 (.invokestatic 110) := ⟨rfl, rfl⟩
theorem fReader_takeLine_65 : w_fe am_c25 65 66 (.putfield 206) := ⟨rfl, rfl⟩
theorem fReader_takeLine_66 : w_fe am_c25 66 67 (.return_) := ⟨rfl, rfl⟩
set_option maxRecDepth 20000 in
theorem bReader_takeLine_0 {xs : List Int} {d : Nat} {Q : Option w_V → w_M → Prop} {x1 : Int} {σ : w_M}
    (h : (x1 = 0 → ∀ (τ1 : w_M), τ1 = w_up σ 3 0 (σ 12 0) → ∀ (τ2 : w_M), τ2 = w_up τ1 1 5 1 → Q none τ2) ∧ (x1 = 1 → (p_Field_addStrip 3 (σ 12 0) (σ 12 1) σ ∧ (∀ (τ3 : w_M), q_Field_addStrip 3 (σ 12 0) (σ 12 1) σ τ3 → Q none τ3))) ∧ (x1 = 2 → (p_Field_addReaper 3 (σ 12 0) (σ 12 1) (σ 12 2) σ ∧ (∀ (τ4 : w_M), q_Field_addReaper 3 (σ 12 0) (σ 12 1) (σ 12 2) σ τ4 → Q none τ4))) ∧ (x1 = 3 → ∀ (y5 : Int), y5 = v_Moon_withBit (σ 3 2) (σ 12 0) 1 → ∀ (τ6 : w_M), τ6 = w_up σ 3 2 y5 → Q none τ6) ∧ (x1 < 0 ∨ 3 < x1 → ∀ (y7 : Int), y7 = v_Moon_withBit (σ 3 6) (σ 12 0) 1 → ∀ (τ8 : w_M), τ8 = w_up σ 3 6 y7 → Q none τ8)) : w_Call (xs, (d + 1)) 25 [.inr (.inr (1, 1)), .inl x1] σ Q :=
  (w_mk (mid := 25) (by decide) rfl rfl rfl rfl rfl (Nat.le_of_ble_eq_true rfl) ⟨rfl, Or.inl (by decide)⟩ (wi_iload1 fReader_takeLine_0 (fReader_takeLine_1 (fun c => (wi_aload0 fReader_takeLine_2 (wi_getf102 fReader_takeLine_3 (wi_aload0 fReader_takeLine_4 (wi_getf106 fReader_takeLine_5 (wi_bipush fReader_takeLine_6 (wi_iald1003 fReader_takeLine_7 (by decide) (by decide) (wi_putf200 fReader_takeLine_8 (wi_aload0 fReader_takeLine_9 (wi_bipush fReader_takeLine_10 (wi_putf105 fReader_takeLine_11 (by decide) (wi_goto fReader_takeLine_12 (wi_ret0 fReader_takeLine_66 (((h.1 c) _ rfl) _ rfl)))))))))))))) (fun c => (wi_aload0 fReader_takeLine_13 (wi_getf102 fReader_takeLine_14 (wi_aload0 fReader_takeLine_15 (wi_getf106 fReader_takeLine_16 (wi_bipush fReader_takeLine_17 (wi_iald1003 fReader_takeLine_18 (by decide) (by decide) (wi_aload0 fReader_takeLine_19 (wi_getf106 fReader_takeLine_20 (wi_bipush fReader_takeLine_21 (wi_iald1003 fReader_takeLine_22 (by decide) (by decide) (wi_call3 fReader_takeLine_23 (Nat.le_of_ble_eq_true rfl) (k_Field_addStrip (h.2.1 c).1 (fun τ3 eτ3 => (wi_goto fReader_takeLine_24 (wi_ret0 fReader_takeLine_66 ((h.2.1 c).2 τ3 eτ3))))))))))))))))) (fun c => (wi_aload0 fReader_takeLine_25 (wi_getf102 fReader_takeLine_26 (wi_aload0 fReader_takeLine_27 (wi_getf106 fReader_takeLine_28 (wi_bipush fReader_takeLine_29 (wi_iald1003 fReader_takeLine_30 (by decide) (by decide) (wi_aload0 fReader_takeLine_31 (wi_getf106 fReader_takeLine_32 (wi_bipush fReader_takeLine_33 (wi_iald1003 fReader_takeLine_34 (by decide) (by decide) (wi_aload0 fReader_takeLine_35 (wi_getf106 fReader_takeLine_36 (wi_bipush fReader_takeLine_37 (wi_iald1003 fReader_takeLine_38 (by decide) (by decide) (wi_call4 fReader_takeLine_39 (Nat.le_of_ble_eq_true rfl) (k_Field_addReaper (h.2.2.1 c).1 (fun τ4 eτ4 => (wi_goto fReader_takeLine_40 (wi_ret0 fReader_takeLine_66 ((h.2.2.1 c).2 τ4 eτ4))))))))))))))))))))) (fun c => (wi_aload0 fReader_takeLine_41 (wi_getf102 fReader_takeLine_42 (wi_aload0 fReader_takeLine_43 (wi_getf102 fReader_takeLine_44 (wi_getf202 fReader_takeLine_45 (wi_aload0 fReader_takeLine_46 (wi_getf106 fReader_takeLine_47 (wi_bipush fReader_takeLine_48 (wi_iald1003 fReader_takeLine_49 (by decide) (by decide) (wi_bipush fReader_takeLine_50 (wi_call3 fReader_takeLine_51 (Nat.le_of_ble_eq_true rfl) (k_Moon_withBit (wi_putf202 fReader_takeLine_52 (wi_goto fReader_takeLine_53 (wi_ret0 fReader_takeLine_66 (((h.2.2.2.1 c) _ rfl) _ rfl))))))))))))))))) (fun c => (wi_aload0 fReader_takeLine_54 (wi_getf102 fReader_takeLine_55 (wi_aload0 fReader_takeLine_56 (wi_getf102 fReader_takeLine_57 (wi_getf206 fReader_takeLine_58 (wi_aload0 fReader_takeLine_59 (wi_getf106 fReader_takeLine_60 (wi_bipush fReader_takeLine_61 (wi_iald1003 fReader_takeLine_62 (by decide) (by decide) (wi_bipush fReader_takeLine_63 (wi_call3 fReader_takeLine_64 (Nat.le_of_ble_eq_true rfl) (k_Moon_withBit (wi_putf206 fReader_takeLine_65 (wi_ret0 fReader_takeLine_66 (((h.2.2.2.2 c) _ rfl) _ rfl)))))))))))))))))))
set_option maxHeartbeats 2000000 in
theorem k_Reader_takeLine {xs : List Int} {d : Nat} {Q : Option w_V → w_M → Prop} {x1 : Int} {σ : w_M} (hp : p_Reader_takeLine x1 σ) (hQ : ∀ σ' : w_M, q_Reader_takeLine x1 σ σ' → Q none σ') : w_Call (xs, d + 1) 25 [.inr (.inr (1, 1)), .inl x1] σ Q := by
  obtain ⟨⟨k0, k4⟩, hb, hW⟩ := hp
  obtain ⟨k, rfl⟩ := Int.eq_ofNat_of_zero_le k0
  unfold q_Reader_takeLine at hQ
  rw [Int.toNat_natCast] at hQ hb
  have w4 : 0 ≤ σ 3 4 ∧ σ 3 4 ≤ 7 := hW.2.2.1
  have w5 : 0 ≤ σ 3 5 ∧ σ 3 5 ≤ 4 := hW.2.2.2.1
  have eb : ln_b (d_ab σ) k = if k = 0 ∧ ¬ σ 1 5 = 0 then 4 else if (k = 1 ∧ 7 ≤ σ 3 4) ∨ (k = 2 ∧ 4 ≤ σ 3 5) then 5 else 0 := rfl
  refine bReader_takeLine_0 ⟨fun c τ1 t1 τ2 t2 => ?_, fun c => ?_, fun c => ?_, fun c y5 e5 τ6 t6 => ?_, fun c y7 e7 τ8 t8 => ?_⟩
  · obtain rfl : k = 0 := by omega
    have a3 : ∀ j, τ2 3 j = if j = 0 then σ 12 0 else σ 3 j := fun j => by rw [t2, w_up_ne (by decide), t1, w_up_eq]; by_cases h : j = 0 <;> simp [h]
    have a5 : τ2 1 5 = 1 := by rw [t2, w_up_at]
    have az : ∀ b, b ≠ 1 → b ≠ 3 → τ2 b = σ b := fun b h1 h3 => by rw [t2, w_up_ne h1, t1, w_up_ne h3]
    have e4 : τ2 3 4 = σ 3 4 := by rw [a3, if_neg (by decide)]
    have e5 : τ2 3 5 = σ 3 5 := by rw [a3, if_neg (by decide)]
    have ez : ∀ d i, d ≠ 0 → ln_D (d_ab σ) 0 (σ 12 0) (σ 12 1) (σ 12 2) d i = d_ab σ d i := fun d i hd => by
      show (if d = 0 ∧ i = 7 then 1 else if d = 0 ∧ i = 0 then σ 12 0 else d_ab σ d i) = _
      rw [if_neg (fun q => hd q.1), if_neg (fun q => hd q.1)]
    refine hQ _ ⟨d_ab_eq (fun i => ?_) (fun d i h1 h2 => ?_) (fun d i h => ?_) (fun d i h => ?_), fun hc => ?_, fun b hb => az b (by omega) (by omega), fun j hj => by rw [t2, w_up_j hj, t1, w_up_ne (by decide)]⟩
    · show _ = if (0 : Nat) = 0 ∧ i = 7 then 1 else if (0 : Nat) = 0 ∧ i = 0 then σ 12 0 else d_ab σ 0 i
      rw [d_ab_0, d_ab_0, a3, a3, a3, a3, a3, a5]
      by_cases h7 : i = 7
      · simp [h7]
      · by_cases h0 : i = 0
        · simp [h0]
        · simp [h7, h0]
    · rw [ez d i (by omega), d_ab_12 h1 h2, e4, az (3 + d) (by omega) (by omega)]
    · rw [ez d i (by omega), d_ab_346 h, e5, az (3 + d) (by omega) (by omega)]
    · rw [ez d i (by omega), d_ab_no h]
    · obtain ⟨c1, c2, c3⟩ := hc
      refine ⟨⟨by rw [a3, if_neg (by decide)]; exact c1.1, by rw [a3, if_neg (by decide)]; exact c1.2⟩, ?_, ?_⟩
      · rw [e5, az 8 (by decide) (by decide), az 10 (by decide) (by decide)]; exact c2
      · rw [az 11 (by decide) (by decide)]; exact c3
  · obtain rfl : k = 1 := by omega
    have hs : σ 3 4 < 7 := by
      rw [eb, if_neg (by omega)] at hb
      by_cases q : 7 ≤ σ 3 4
      · rw [if_pos (Or.inl ⟨rfl, q⟩)] at hb; omega
      · omega
    refine ⟨⟨w4.1, hs⟩, fun τ3 t3 => ?_⟩
    have t3' : τ3 = w_up (w_up (w_up σ 4 (σ 3 4).toNat (σ 12 0)) 5 (σ 3 4).toNat (σ 12 1)) 3 4 (σ 3 4 + 1) := t3
    have a3 : ∀ j, τ3 3 j = if j = 4 then σ 3 4 + 1 else σ 3 j := fun j => by rw [t3', w_up_eq, w_up_ne (by decide), w_up_ne (by decide)]; by_cases h : j = 4 <;> simp [h]
    have a4 : ∀ j, τ3 4 j = if j = (σ 3 4).toNat then σ 12 0 else σ 4 j := fun j => by rw [t3', w_up_ne (by decide), w_up_ne (by decide), w_up_eq]; by_cases h : j = (σ 3 4).toNat <;> simp [h]
    have a5 : ∀ j, τ3 5 j = if j = (σ 3 4).toNat then σ 12 1 else σ 5 j := fun j => by rw [t3', w_up_ne (by decide), w_up_eq, w_up_ne (by decide)]; by_cases h : j = (σ 3 4).toNat <;> simp [h]
    have az : ∀ b, b ≠ 3 → b ≠ 4 → b ≠ 5 → τ3 b = σ b := fun b h3 h4 h5 => by rw [t3', w_up_ne h3, w_up_ne h5, w_up_ne h4]
    have e4 : τ3 3 4 = σ 3 4 + 1 := by rw [a3, if_pos rfl]
    have e5 : τ3 3 5 = σ 3 5 := by rw [a3, if_neg (by decide)]
    have eg : ∀ d i, ln_D (d_ab σ) 1 (σ 12 0) (σ 12 1) (σ 12 2) d i = if d = 0 ∧ i = 4 then σ 3 4 + 1 else if d = 2 ∧ i = (σ 3 4).toNat then σ 12 1 else if d = 1 ∧ i = (σ 3 4).toNat then σ 12 0 else d_ab σ d i := fun d i => rfl
    have ez : ∀ d i, d ≠ 0 → d ≠ 1 → d ≠ 2 → ln_D (d_ab σ) 1 (σ 12 0) (σ 12 1) (σ 12 2) d i = d_ab σ d i := fun d i x0 x1 x2 => by rw [eg, if_neg (fun q => x0 q.1), if_neg (fun q => x2 q.1), if_neg (fun q => x1 q.1)]
    have ez1 : ∀ i, ln_D (d_ab σ) 1 (σ 12 0) (σ 12 1) (σ 12 2) 1 i = if i = (σ 3 4).toNat then σ 12 0 else d_ab σ 1 i := fun i => by rw [eg]; simp
    have ez2 : ∀ i, ln_D (d_ab σ) 1 (σ 12 0) (σ 12 1) (σ 12 2) 2 i = if i = (σ 3 4).toNat then σ 12 1 else d_ab σ 2 i := fun i => by rw [eg]; simp
    have row : ∀ (v : Int) (g : Nat → Int) (i : Nat), (if i < (σ 3 4 + 1).toNat then (if i = (σ 3 4).toNat then v else g i) else 0) = if i = (σ 3 4).toNat then v else (if i < (σ 3 4).toNat then g i else 0) := fun v g i => by
      by_cases h : i = (σ 3 4).toNat
      · rw [if_pos (by omega), if_pos h, if_pos h]
      · rw [if_neg h, if_neg h]
        by_cases h2 : i < (σ 3 4).toNat
        · rw [if_pos (by omega), if_pos h2]
        · rw [if_neg (by omega), if_neg h2]
    refine hQ _ ⟨d_ab_eq (fun i => ?_) (fun d i h1 h2 => ?_) (fun d i h => ?_) (fun d i h => ?_), fun hc => ?_, fun b hb => az b (by omega) (by omega) (by omega), fun j hj => by rw [az 1 (by decide) (by decide) (by decide)]⟩
    · rw [eg, d_ab_0, d_ab_0, a3, a3, a3, a3, a3, az 1 (by decide) (by decide) (by decide)]
      by_cases h4 : i = 4
      · simp [h4]
      · simp [h4]
    · rw [e4]
      rcases (show d = 1 ∨ d = 2 by omega) with rfl | rfl
      · show (if i < (σ 3 4 + 1).toNat then τ3 4 i else 0) = _
        rw [ez1, d_ab_12 (by decide) (by decide), a4, row]
      · show (if i < (σ 3 4 + 1).toNat then τ3 5 i else 0) = _
        rw [ez2, d_ab_12 (by decide) (by decide), a5, row]
    · rw [ez d i (by omega) (by omega) (by omega), d_ab_346 h, e5, az (3 + d) (by omega) (by omega) (by omega)]
    · rw [ez d i (by omega) (by omega) (by omega), d_ab_no h]
    · obtain ⟨c1, c2, c3⟩ := hc
      refine ⟨⟨by rw [a3, if_neg (by decide)]; exact c1.1, by rw [a3, if_neg (by decide)]; exact c1.2⟩, ?_, ?_⟩
      · rw [e5, az 8 (by decide) (by decide) (by decide), az 10 (by decide) (by decide) (by decide)]; exact c2
      · rw [az 11 (by decide) (by decide) (by decide)]; exact c3
  · obtain rfl : k = 2 := by omega
    have hs : σ 3 5 < 4 := by
      rw [eb, if_neg (by omega)] at hb
      by_cases q : 4 ≤ σ 3 5
      · rw [if_pos (Or.inr ⟨rfl, q⟩)] at hb; omega
      · omega
    refine ⟨⟨w5.1, hs⟩, fun τ3 t3 => ?_⟩
    generalize hn : (σ 3 5).toNat = n at *
    have t3' : τ3 = w_up (w_up (w_up (w_up (w_up (w_up σ 6 n (σ 12 0)) 7 n (σ 12 1)) 8 n 3) 9 n (σ 12 2)) 10 n 0) 3 5 (σ 3 5 + 1) := by rw [← hn]; exact t3
    have a3 : ∀ j, τ3 3 j = if j = 5 then σ 3 5 + 1 else σ 3 j := fun j => by rw [t3', w_up_eq, w_up_ne (by decide), w_up_ne (by decide), w_up_ne (by decide), w_up_ne (by decide), w_up_ne (by decide)]; by_cases h : j = 5 <;> simp [h]
    have a6 : ∀ j, τ3 6 j = if j = n then σ 12 0 else σ 6 j := fun j => by rw [t3', w_up_ne (by decide), w_up_ne (by decide), w_up_ne (by decide), w_up_ne (by decide), w_up_ne (by decide), w_up_eq]; by_cases h : j = n <;> simp [h]
    have a7 : ∀ j, τ3 7 j = if j = n then σ 12 1 else σ 7 j := fun j => by rw [t3', w_up_ne (by decide), w_up_ne (by decide), w_up_ne (by decide), w_up_ne (by decide), w_up_eq, w_up_ne (by decide)]; by_cases h : j = n <;> simp [h]
    have a8 : ∀ j, τ3 8 j = if j = n then 3 else σ 8 j := fun j => by rw [t3', w_up_ne (by decide), w_up_ne (by decide), w_up_ne (by decide), w_up_eq, w_up_ne (by decide), w_up_ne (by decide)]; by_cases h : j = n <;> simp [h]
    have a9 : ∀ j, τ3 9 j = if j = n then σ 12 2 else σ 9 j := fun j => by rw [t3', w_up_ne (by decide), w_up_ne (by decide), w_up_eq, w_up_ne (by decide), w_up_ne (by decide), w_up_ne (by decide)]; by_cases h : j = n <;> simp [h]
    have a10 : ∀ j, τ3 10 j = if j = n then 0 else σ 10 j := fun j => by rw [t3', w_up_ne (by decide), w_up_eq, w_up_ne (by decide), w_up_ne (by decide), w_up_ne (by decide), w_up_ne (by decide)]; by_cases h : j = n <;> simp [h]
    have az : ∀ b, b < 3 ∨ b = 4 ∨ b = 5 ∨ 11 ≤ b → τ3 b = σ b := fun b h => by rw [t3', w_up_ne (by omega), w_up_ne (by omega), w_up_ne (by omega), w_up_ne (by omega), w_up_ne (by omega), w_up_ne (by omega)]
    have e4 : τ3 3 4 = σ 3 4 := by rw [a3, if_neg (by decide)]
    have e5 : τ3 3 5 = σ 3 5 + 1 := by rw [a3, if_pos rfl]
    have eg : ∀ d i, ln_D (d_ab σ) 2 (σ 12 0) (σ 12 1) (σ 12 2) d i = if d = 0 ∧ i = 5 then σ 3 5 + 1 else if d = 6 ∧ i = n then σ 12 2 else if d = 4 ∧ i = n then σ 12 1 else if d = 3 ∧ i = n then σ 12 0 else d_ab σ d i := fun d i => by rw [← hn]; rfl
    have ez : ∀ d i, d ≠ 0 → d ≠ 3 → d ≠ 4 → d ≠ 6 → ln_D (d_ab σ) 2 (σ 12 0) (σ 12 1) (σ 12 2) d i = d_ab σ d i := fun d i x0 x3 x4 x6 => by rw [eg, if_neg (fun q => x0 q.1), if_neg (fun q => x6 q.1), if_neg (fun q => x4 q.1), if_neg (fun q => x3 q.1)]
    have ez3 : ∀ i, ln_D (d_ab σ) 2 (σ 12 0) (σ 12 1) (σ 12 2) 3 i = if i = n then σ 12 0 else d_ab σ 3 i := fun i => by rw [eg]; simp
    have ez4 : ∀ i, ln_D (d_ab σ) 2 (σ 12 0) (σ 12 1) (σ 12 2) 4 i = if i = n then σ 12 1 else d_ab σ 4 i := fun i => by rw [eg]; simp
    have ez6 : ∀ i, ln_D (d_ab σ) 2 (σ 12 0) (σ 12 1) (σ 12 2) 6 i = if i = n then σ 12 2 else d_ab σ 6 i := fun i => by rw [eg]; simp
    have row : ∀ (v : Int) (g : Nat → Int) (i : Nat), (if i < (σ 3 5 + 1).toNat then (if i = n then v else g i) else 0) = if i = n then v else (if i < (σ 3 5).toNat then g i else 0) := fun v g i => by
      by_cases h : i = n
      · rw [if_pos (by omega), if_pos h, if_pos h]
      · rw [if_neg h, if_neg h]
        by_cases h2 : i < (σ 3 5).toNat
        · rw [if_pos (by omega), if_pos h2]
        · rw [if_neg (by omega), if_neg h2]
    refine hQ _ ⟨d_ab_eq (fun i => ?_) (fun d i h1 h2 => ?_) (fun d i h => ?_) (fun d i h => ?_), fun hc => ?_, fun b hb => az b (by omega), fun j hj => by rw [az 1 (by decide)]⟩
    · rw [eg, d_ab_0, d_ab_0, a3, a3, a3, a3, a3, az 1 (by decide)]
      by_cases h5 : i = 5
      · simp [h5]
      · simp [h5]
    · rw [ez d i (by omega) (by omega) (by omega) (by omega), d_ab_12 h1 h2, e4, az (3 + d) (by omega)]
    · rw [e5]
      rcases h with rfl | rfl | rfl
      · show (if i < (σ 3 5 + 1).toNat then τ3 6 i else 0) = _
        rw [ez3, d_ab_346 (Or.inl rfl), a6, row]
      · show (if i < (σ 3 5 + 1).toNat then τ3 7 i else 0) = _
        rw [ez4, d_ab_346 (Or.inr (Or.inl rfl)), a7, row]
      · show (if i < (σ 3 5 + 1).toNat then τ3 9 i else 0) = _
        rw [ez6, d_ab_346 (Or.inr (Or.inr rfl)), a9, row]
    · rw [ez d i (by omega) (by omega) (by omega) (by omega), d_ab_no h]
    · obtain ⟨c1, c2, c3⟩ := hc
      refine ⟨⟨by rw [a3, if_neg (by decide)]; exact c1.1, by rw [a3, if_neg (by decide)]; exact c1.2⟩, fun r hr => ?_, ?_⟩
      · rw [a8, a10]
        by_cases h : r = n
        · rw [if_pos h, if_pos h]; exact ⟨rfl, rfl⟩
        · rw [if_neg h, if_neg h]
          rw [e5] at hr
          exact c2 r (by omega)
      · rw [az 11 (by decide)]; exact c3
  · obtain rfl : k = 3 := by omega
    have a3 : ∀ j, τ6 3 j = if j = 2 then y5 else σ 3 j := fun j => by rw [t6, w_up_eq]; by_cases h : j = 2 <;> simp [h]
    have az : ∀ b, b ≠ 3 → τ6 b = σ b := fun b h3 => by rw [t6, w_up_ne h3]
    have e4 : τ6 3 4 = σ 3 4 := by rw [a3, if_neg (by decide)]
    have e5' : τ6 3 5 = σ 3 5 := by rw [a3, if_neg (by decide)]
    have eg : ∀ d i, ln_D (d_ab σ) 3 (σ 12 0) (σ 12 1) (σ 12 2) d i = if d = 0 ∧ i = 2 then y5 else d_ab σ d i := fun d i => by rw [e5]; rfl
    have ez : ∀ d i, d ≠ 0 → ln_D (d_ab σ) 3 (σ 12 0) (σ 12 1) (σ 12 2) d i = d_ab σ d i := fun d i hd => by rw [eg, if_neg (fun q => hd q.1)]
    refine hQ _ ⟨d_ab_eq (fun i => ?_) (fun d i h1 h2 => ?_) (fun d i h => ?_) (fun d i h => ?_), fun hc => ?_, fun b hb => az b (by omega), fun j hj => by rw [az 1 (by decide)]⟩
    · rw [eg, d_ab_0, d_ab_0, a3, a3, a3, a3, a3, az 1 (by decide)]
      by_cases h2 : i = 2
      · simp [h2]
      · simp [h2]
    · rw [ez d i (by omega), d_ab_12 h1 h2, e4, az (3 + d) (by omega)]
    · rw [ez d i (by omega), d_ab_346 h, e5', az (3 + d) (by omega)]
    · rw [ez d i (by omega), d_ab_no h]
    · obtain ⟨c1, c2, c3⟩ := hc
      refine ⟨⟨by rw [a3, if_neg (by decide)]; exact c1.1, by rw [a3, if_neg (by decide)]; exact c1.2⟩, ?_, ?_⟩
      · rw [e5', az 8 (by decide), az 10 (by decide)]; exact c2
      · rw [az 11 (by decide)]; exact c3
  · obtain rfl : k = 4 := by omega
    have a3 : ∀ j, τ8 3 j = if j = 6 then y7 else σ 3 j := fun j => by rw [t8, w_up_eq]; by_cases h : j = 6 <;> simp [h]
    have az : ∀ b, b ≠ 3 → τ8 b = σ b := fun b h3 => by rw [t8, w_up_ne h3]
    have e4 : τ8 3 4 = σ 3 4 := by rw [a3, if_neg (by decide)]
    have e5' : τ8 3 5 = σ 3 5 := by rw [a3, if_neg (by decide)]
    have eg : ∀ d i, ln_D (d_ab σ) 4 (σ 12 0) (σ 12 1) (σ 12 2) d i = if d = 0 ∧ i = 6 then y7 else d_ab σ d i := fun d i => by rw [e7]; rfl
    have ez : ∀ d i, d ≠ 0 → ln_D (d_ab σ) 4 (σ 12 0) (σ 12 1) (σ 12 2) d i = d_ab σ d i := fun d i hd => by rw [eg, if_neg (fun q => hd q.1)]
    refine hQ _ ⟨d_ab_eq (fun i => ?_) (fun d i h1 h2 => ?_) (fun d i h => ?_) (fun d i h => ?_), fun hc => ?_, fun b hb => az b (by omega), fun j hj => by rw [az 1 (by decide)]⟩
    · rw [eg, d_ab_0, d_ab_0, a3, a3, a3, a3, a3, az 1 (by decide)]
      by_cases h2 : i = 6
      · simp [h2]
      · simp [h2]
    · rw [ez d i (by omega), d_ab_12 h1 h2, e4, az (3 + d) (by omega)]
    · rw [ez d i (by omega), d_ab_346 h, e5', az (3 + d) (by omega)]
    · rw [ez d i (by omega), d_ab_no h]
    · obtain ⟨c1, c2, c3⟩ := hc
      refine ⟨⟨by rw [a3, if_neg (by decide)]; exact c1.1, by rw [a3, if_neg (by decide)]; exact c1.2⟩, ?_, ?_⟩
      · rw [e5', az 8 (by decide), az 10 (by decide)]; exact c2
      · rw [az 11 (by decide)]; exact c3
end
section
/-! The class reads the text -/
theorem nf_stay {T : Nat → Int} {L : Nat} {D : w_M} {k b j : Nat} (h : ¬ (nf T L D k b j).1 = 0) : ∀ i, nf T L D k b (j + i) = nf T L D k b j := by
  intro i
  induction i with
  | zero => rfl
  | succ i ih =>
    show (if (nf T L D k b (j + i)).1 = 0 then _ else nf T L D k b (j + i)) = _
    rw [ih, if_neg h]
theorem nf_pl {T : Nat → Int} {L : Nat} {D : w_M} {k b : Nat} (hb : b ≤ L) : ∀ j, (nf T L D k b j).2 ≤ L ∧ ((nf T L D k b j).1 = 0 → pp T L b j ≤ L) := by
  intro j
  induction j with
  | zero => exact ⟨Nat.zero_le _, fun _ => hb⟩
  | succ j ih =>
    simp only [nf]
    by_cases e : (nf T L D k b j).1 = 0
    · rw [if_pos e]
      have hp := ih.2 e
      refine ⟨(tk_f_le hp).2, fun h => ?_⟩
      have hk := (nt_f_0 h).1
      exact (tk_b_le (tk_k0 (by omega))).2
    · rw [if_neg e]
      exact ⟨ih.1, fun h => absurd h e⟩
theorem ln_m_le : ∀ k, k < 5 → 1 ≤ ln_m k ∧ ln_m k ≤ 3 ∧ ((w_cnum.getD k 0).toNat : Int) = w_cnum.getD k 0 := by decide
theorem ln_f_pl {T : Nat → Int} {L : Nat} {D : w_M} {k f b : Nat} (hf : f ≤ L) (hb : b ≤ L) : (ln_f T L D k f b).2 ≤ L := by
  unfold ln_f
  split
  · exact hf
  · split
    · exact (nf_pl hb _).1
    · rename_i h
      have hz : (nf T L D k b (ln_m k)).1 = 0 := by
        by_cases q : (nf T L D k b (ln_m k)).1 = 0
        · exact q
        · exact absurd q h
      exact (tk_f_le ((nf_pl hb _).2 hz)).2
/-- a line that is right -/
theorem ln_ok {T : Nat → Int} {L : Nat} {D : w_M} {k f b : Nat} (hb : b ≤ L) (h : (ln_f T L D k f b).1 = 0) : ln_b D k = 0 ∧ (nf T L D k b (ln_m k)).1 = 0 ∧ tk_k T L (pp T L b (ln_m k)) = 3 ∧ pp T L b (ln_m k) ≤ L := by
  unfold ln_f at h
  by_cases e1 : ln_b D k = 0
  · rw [if_neg (fun q => q e1)] at h
    by_cases e2 : (nf T L D k b (ln_m k)).1 = 0
    · rw [if_neg (fun q => q e2)] at h
      have h' : ln_s T L (pp T L b (ln_m k)) = 0 := h
      unfold ln_s at h'
      by_cases e3 : tk_k T L (pp T L b (ln_m k)) = 4
      · rw [if_pos e3] at h'; omega
      · rw [if_neg e3] at h'
        by_cases e4 : tk_k T L (pp T L b (ln_m k)) = 3
        · exact ⟨e1, e2, e4, (nf_pl hb _).2 e2⟩
        · rw [if_pos e4] at h'; omega
    · rw [if_pos e2] at h
      exact absurd h e2
  · rw [if_pos e1] at h
    exact absurd h e1
theorem ln_D_ok {T : Nat → Int} {L : Nat} {D : w_M} {k f b : Nat} (hW : d_WF D) (hk : k < 5) (hb : b ≤ L) (h : (ln_f T L D k f b).1 = 0) : d_WF (ln_D D k (tk_v T L b) (tk_v T L (pp T L b 1)) (tk_v T L (pp T L b 2))) := by
  obtain ⟨h1, h2, h3, h4⟩ := ln_ok hb h
  have hm := (ln_m_le k hk).1
  have n0 := nf_0 _ h2
  refine ln_D_WF hW hk h1 ?_ (fun q => ?_) (fun q => ?_)
  · exact (nt_f_0 (n0 0 (by omega))).2.1
  · exact (nt_f_0 (n0 1 q)).2.1
  · exact (nt_f_0 (n0 2 q)).2.1
theorem rd_pl {T : Nat → Int} {L : Nat} : ∀ (n l p : Nat) (D : w_M), p ≤ L → (rd_R T L n l p D).1.2 ≤ L := by
  intro n
  induction n with
  | zero => intro l p D _; exact Nat.zero_le _
  | succ n ih =>
    intro l p D hp
    have hf := tk_f_le (T := T) hp
    simp only [rd_R]
    by_cases e0 : tk_k T L p = 0
    · rw [if_pos e0]
      by_cases hb : d_bad D
      · rw [if_pos hb]; exact Nat.le_refl _
      · rw [if_neg hb]; exact Nat.zero_le _
    · rw [if_neg e0]
      have hb := tk_b_le (tk_k0 e0)
      split
      · exact hf.2
      · split
        · exact hf.2
        · split
          · exact ln_f_pl hf.2 hb.2
          · rename_i h3
            have hz := Classical.byContradiction h3
            obtain ⟨a1, a2, a3, a4⟩ := ln_ok hb.2 hz
            exact ih _ _ _ (tk_b_le (tk_k0 (by omega))).2
theorem pp_ge {T : Nat → Int} {L b : Nat} : ∀ j, (∀ i, i < j → tk_f T L (pp T L b i) < L ∧ pp T L b i ≤ L) → b ≤ pp T L b j := by
  intro j
  induction j with
  | zero => intro _; exact Nat.le_refl _
  | succ j ih =>
    intro h
    have h1 := ih (fun i hi => h i (by omega))
    have h2 := h j (by omega)
    have h3 := tk_f_le (T := T) h2.2
    have h4 := (tk_b_le h2.1).1
    show b ≤ tk_b T L (pp T L b j)
    omega
/-- a line goes on -/
theorem ln_adv {T : Nat → Int} {L p : Nat} {D : w_M} {k f : Nat} (hp : p ≤ L) (h0 : ¬ tk_k T L p = 0) (h : (ln_f T L D k f (tk_b T L p)).1 = 0) : p < tk_b T L (pp T L (tk_b T L p) (ln_m k)) ∧ tk_b T L (pp T L (tk_b T L p) (ln_m k)) ≤ L := by
  have hf := tk_f_le (T := T) hp
  have hb := tk_b_le (tk_k0 h0)
  obtain ⟨a1, a2, a3, a4⟩ := ln_ok hb.2 h
  have hpl := nf_pl (T := T) (L := L) (D := D) (k := k) (b := tk_b T L p) hb.2
  have n0 := nf_0 _ a2
  have hall : ∀ i, i < ln_m k → tk_f T L (pp T L (tk_b T L p) i) < L ∧ pp T L (tk_b T L p) i ≤ L := by
    intro i hi
    have hk2 := (nt_f_0 (n0 i hi)).1
    have hz : (nf T L D k (tk_b T L p) i).1 = 0 := by
      by_cases q : (nf T L D k (tk_b T L p) i).1 = 0
      · exact q
      · have := nf_stay q (ln_m k - i)
        rw [show i + (ln_m k - i) = ln_m k by omega] at this
        rw [this] at a2
        exact absurd a2 q
    exact ⟨tk_k0 (by omega), (hpl i).2 hz⟩
  have hge := pp_ge (ln_m k) hall
  have h5 := tk_f_le (T := T) a4
  have h6 := tk_b_le (T := T) (L := L) (p := pp T L (tk_b T L p) (ln_m k)) (tk_k0 (by omega))
  omega
theorem rd_good {T : Nat → Int} {L : Nat} : ∀ (n l p : Nat) (D : w_M), p ≤ L → L < p + n → d_WF D → (rd_R T L n l p D).1.1 = 0 → d_WF (rd_R T L n l p D).2.2 ∧ ¬ d_bad (rd_R T L n l p D).2.2 := by
  intro n
  induction n with
  | zero => intro l p D h1 h2; omega
  | succ n ih =>
    intro l p D hp hn hW
    simp only [rd_R]
    by_cases e0 : tk_k T L p = 0
    · rw [if_pos e0]
      by_cases hb : d_bad D
      · rw [if_pos hb]; intro h; exact absurd (show (6 : Int) = 0 from h) (by decide)
      · rw [if_neg hb]; intro _; exact ⟨hW, hb⟩
    · rw [if_neg e0]
      have hf := tk_f_le (T := T) hp
      have hb := tk_b_le (tk_k0 e0)
      split
      · intro h; exact absurd (show (1 : Int) = 0 from h) (by decide)
      · split
        · intro h; exact absurd (show (2 : Int) = 0 from h) (by decide)
        · rename_i h2
          split
          · rename_i h3
            intro h
            exact absurd h h3
          · rename_i h3
            have hz := Classical.byContradiction h3
            have adv := ln_adv hp e0 hz
            refine ih _ _ _ adv.2 (by omega) ?_
            have hk : (ln_n T L (tk_f T L p) (tk_b T L p)).toNat < 5 := by
              have := ln_k_le (T := T) (L := L) (f := tk_f T L p) (b := tk_b T L p) 5
              unfold ln_n
              omega
            exact ln_D_ok hW hk hb.2 hz
noncomputable def r_f2 (σ σ' : w_M) : Prop := (∀ b, b < 1 ∨ b = 2 ∨ 13 ≤ b → σ' b = σ b) ∧ σ' 1 1 = σ 1 1
theorem r_f2.rfl' {σ : w_M} : r_f2 σ σ := ⟨fun _ _ => rfl, rfl⟩
theorem r_f2.tr {σ σ1 σ2 : w_M} (h : r_f2 σ σ1) (g : r_f2 σ1 σ2) : r_f2 σ σ2 := ⟨fun b hb => (g.1 b hb).trans (h.1 b hb), g.2.trans h.2⟩
theorem r_f3.f2 {σ σ' : w_M} (h : r_f3 σ σ') : r_f2 σ σ' := ⟨fun b hb => h.1 b (by omega) (by omega), h.2.1⟩
theorem r_fr.f2 {σ σ' : w_M} (h : r_fr σ σ') : r_f2 σ σ' := ⟨fun b hb => h.1 b (by omega), h.2.1⟩
theorem r_fr.f3 {σ σ' : w_M} (h : r_fr σ σ') : r_f3 σ σ' := ⟨fun b hb _ => h.1 b hb, h.2⟩
theorem r_f3.tr {σ σ1 σ2 : w_M} (h : r_f3 σ σ1) (g : r_f3 σ1 σ2) : r_f3 σ σ2 := ⟨fun b h1 h2 => (g.1 b h1 h2).trans (h.1 b h1 h2), g.2.1.trans h.2.1, g.2.2.trans h.2.2⟩
theorem r_f3.D {σ τ : w_M} (h : r_f3 σ τ) : d_ab τ = d_ab σ := by
  have z : ∀ b, 3 ≤ b → b ≤ 11 → τ b = σ b := fun b h1 h2 => h.1 b (by omega) (by omega)
  refine d_ab_eq (fun i => ?_) (fun d i h1 h2 => ?_) (fun d i h => ?_) (fun d i h => d_ab_no h)
  · rw [d_ab_0, d_ab_0, z 3 (by decide) (by decide), h.2.2]
  · rw [d_ab_12 h1 h2, z 3 (by decide) (by decide), z (3 + d) (by omega) (by omega)]
  · rw [d_ab_346 h, z 3 (by decide) (by decide), z (3 + d) (by omega) (by omega)]
theorem r_f3.cn {σ τ : w_M} (h : r_f3 σ τ) (hc : d_cn σ) : d_cn τ := by
  unfold d_cn at hc ⊢
  rw [h.1 3 (by decide) (by decide), h.1 8 (by decide) (by decide), h.1 10 (by decide) (by decide), h.1 11 (by decide) (by decide)]
  exact hc
theorem r_f2.T {σ τ : w_M} (h : r_f2 σ τ) : rT τ = rT σ := by unfold rT; rw [h.2, h.1 2 (by omega)]
theorem r_f2.L {σ τ : w_M} (h : r_f2 σ τ) : rL τ = rL σ := by unfold rL; rw [h.2]
theorem r_f2.ok {σ τ : w_M} (h : r_f2 σ τ) (hk : r_ok σ) : r_ok τ := by unfold r_ok at hk ⊢; rw [h.2, h.1 2 (by omega)]; exact hk
noncomputable def p_Reader_readLine (σ : w_M) : Prop := (r_ok σ ∧ d_WF (d_ab σ)) ∧ (0 ≤ σ 1 8 ∧ σ 1 8 ≤ σ 1 1) ∧ (σ 1 7 = 1 → σ 1 3 = 0 ∧ (0 ≤ σ 1 9 ∧ σ 1 9 ≤ σ 1 1))
/-- a line was read, or not -/
noncomputable def rl_q (T : Nat → Int) (L f b : Nat) (σ σ' : w_M) : Prop := (ln_n T L f b = -1 → σ' 1 3 = 2 ∧ σ' 1 4 = (f : Int)) ∧ (¬ ln_n T L f b = -1 → (¬ (ln_f T L (d_ab σ) (ln_n T L f b).toNat f b).1 = 0 → σ' 1 3 = (ln_f T L (d_ab σ) (ln_n T L f b).toNat f b).1 ∧ σ' 1 4 = (((ln_f T L (d_ab σ) (ln_n T L f b).toNat f b).2 : Nat) : Int)) ∧
  ((ln_f T L (d_ab σ) (ln_n T L f b).toNat f b).1 = 0 → σ' 1 3 = 0 ∧ σ' 1 9 = ((tk_b T L (pp T L b (ln_m (ln_n T L f b).toNat)) : Nat) : Int) ∧ d_ab σ' = ln_D (d_ab σ) (ln_n T L f b).toNat (tk_v T L b) (tk_v T L (pp T L b 1)) (tk_v T L (pp T L b 2)) ∧ (d_cn σ → d_cn σ')))
noncomputable def q_Reader_readLine (σ σ' : w_M) : Prop := r_f2 σ σ' ∧ (¬ σ 1 7 = 1 → (σ 1 3 = 0 → σ' 1 3 = 2 ∧ σ' 1 4 = σ 1 8) ∧ (¬ σ 1 3 = 0 → σ' = σ)) ∧ (σ 1 7 = 1 → rl_q (rT σ) (rL σ) (σ 1 8).toNat (σ 1 9).toNat σ σ')
theorem fReader_readLine_0 : w_fe am_c19 0 1 (.aload 0) := ⟨rfl, rfl⟩
theorem fReader_readLine_1 : w_fe am_c19 1 2 (.getfield 107) := ⟨rfl, rfl⟩
theorem fReader_readLine_2 : w_fe am_c19 2 3 (.bipush 1) := ⟨rfl, rfl⟩
theorem fReader_readLine_3 : w_ic am_c19 3 4 .ne 7 := ⟨rfl, rfl⟩
theorem fReader_readLine_4 : w_fe am_c19 4 5 (.aload 0) := ⟨rfl, rfl⟩
theorem fReader_readLine_5 : w_fe am_c19 5 6 (.invokestatic 20) := ⟨rfl, rfl⟩
theorem fReader_readLine_6 : w_gt am_c19 6 8 := rfl
theorem fReader_readLine_7 : w_fe am_c19 7 8 (.bipush (-1)) := ⟨rfl, rfl⟩
theorem fReader_readLine_8 : w_fe am_c19 8 9 (.istore 1) := ⟨rfl, rfl⟩
theorem fReader_readLine_9 : w_fe am_c19 9 10 (.iload 1) := ⟨rfl, rfl⟩
theorem fReader_readLine_10 : w_fe am_c19 10 11 (.bipush (-1)) := ⟨rfl, rfl⟩
theorem fReader_readLine_11 : w_ic am_c19 11 12 .ne 18 := ⟨rfl, rfl⟩
theorem fReader_readLine_12 : w_fe am_c19 12 13 (.aload 0) := ⟨rfl, rfl⟩
theorem fReader_readLine_13 : w_fe am_c19 13 14 (.bipush 2) := ⟨rfl, rfl⟩
theorem fReader_readLine_14 : w_fe am_c19 14 15 (.aload 0) := ⟨rfl, rfl⟩
theorem fReader_readLine_15 : w_fe am_c19 15 16 (.getfield 108) := ⟨rfl, rfl⟩
theorem fReader_readLine_16 : w_fe am_c19 16 17 (.invokestatic 18) := ⟨rfl, rfl⟩
theorem fReader_readLine_17 : w_fe am_c19 17 18 (.return_) := ⟨rfl, rfl⟩
theorem fReader_readLine_18 : w_fe am_c19 18 19 (.aload 0) := ⟨rfl, rfl⟩
theorem fReader_readLine_19 : w_fe am_c19 19 20 (.iload 1) := ⟨rfl, rfl⟩
theorem fReader_readLine_20 : w_fe am_c19 20 21 (.invokestatic 23) := ⟨rfl, rfl⟩
theorem fReader_readLine_21 : w_fe am_c19 21 22 (.getstatic 1) := ⟨rfl, rfl⟩
theorem fReader_readLine_22 : w_fe am_c19 22 23 (.iload 1) := ⟨rfl, rfl⟩
theorem fReader_readLine_23 : w_fe am_c19 23 24 (.iaload) := ⟨rfl, rfl⟩
theorem fReader_readLine_24 : w_fe am_c19 24 25 (.istore 2) := ⟨rfl, rfl⟩
theorem fReader_readLine_25 : w_fe am_c19 25 26 (.bipush 0) := ⟨rfl, rfl⟩
theorem fReader_readLine_26 : w_fe am_c19 26 27 (.istore 3) := ⟨rfl, rfl⟩
theorem fReader_readLine_27 : w_fe am_c19 27 28 (.iload 3) := ⟨rfl, rfl⟩
theorem fReader_readLine_28 : w_fe am_c19 28 29 (.iload 2) := ⟨rfl, rfl⟩
theorem fReader_readLine_29 : w_ic am_c19 29 30 .ge 39 := ⟨rfl, rfl⟩
theorem fReader_readLine_30 : w_fe am_c19 30 31 (.aload 0) := ⟨rfl, rfl⟩
theorem fReader_readLine_31 : w_fe am_c19 31 32 (.getfield 103) := ⟨rfl, rfl⟩
theorem fReader_readLine_32 : w_if am_c19 32 33 .ne 39 := ⟨rfl, rfl⟩
theorem fReader_readLine_33 : w_fe am_c19 33 34 (.aload 0) := ⟨rfl, rfl⟩
theorem fReader_readLine_34 : w_fe am_c19 34 35 (.iload 1) := ⟨rfl, rfl⟩
theorem fReader_readLine_35 : w_fe am_c19 35 36 (.iload 3) := ⟨rfl, rfl⟩
theorem fReader_readLine_36 : w_fe am_c19 36 37 (.invokestatic 24) := ⟨rfl, rfl⟩
theorem fReader_readLine_37 : w_fe am_c19 37 38 (.iinc 3 1) := ⟨rfl, rfl⟩
theorem fReader_readLine_38 : w_gt am_c19 38 27 := rfl
theorem fReader_readLine_39 : w_fe am_c19 39 40 (.aload 0) := ⟨rfl, rfl⟩
theorem fReader_readLine_40 : w_fe am_c19 40 41 (.getfield 103) := ⟨rfl, rfl⟩
theorem fReader_readLine_41 : w_if am_c19 41 42 .ne 53 := ⟨rfl, rfl⟩
theorem fReader_readLine_42 : w_fe am_c19 42 43 (.aload 0) := ⟨rfl, rfl⟩
theorem fReader_readLine_43 : w_fe am_c19 43 44 (.invokestatic 13) := ⟨rfl, rfl⟩
theorem fReader_readLine_44 : w_fe am_c19 44 45 (.aload 0) := ⟨rfl, rfl⟩
theorem fReader_readLine_45 : w_fe am_c19 45 46 (.getfield 107) := ⟨rfl, rfl⟩
theorem fReader_readLine_46 : w_fe am_c19 46 47 (.bipush 3) := ⟨rfl, rfl⟩
theorem fReader_readLine_47 : w_ic am_c19 47 48 .eq 53 := ⟨rfl, rfl⟩
theorem fReader_readLine_48 : w_fe am_c19 48 49 (.aload 0) := ⟨rfl, rfl⟩
theorem fReader_readLine_49 : w_fe am_c19 49 50 (.bipush 2) := ⟨rfl, rfl⟩
theorem fReader_readLine_50 : w_fe am_c19 50 51 (.aload 0) := ⟨rfl, rfl⟩
theorem fReader_readLine_51 : w_fe am_c19 51 52 (.getfield 108) := ⟨rfl, rfl⟩
theorem fReader_readLine_52 : w_fe am_c19 52 53 (.invokestatic 18) := ⟨rfl, rfl⟩
theorem fReader_readLine_53 : w_fe am_c19 53 54 (.aload 0) := ⟨rfl, rfl⟩
theorem fReader_readLine_54 : w_fe am_c19 54 55 (.getfield 103) := ⟨rfl, rfl⟩
theorem fReader_readLine_55 : w_if am_c19 55 56 .ne 59 := ⟨rfl, rfl⟩
theorem fReader_readLine_56 : w_fe am_c19 56 57 (.aload 0) := ⟨rfl, rfl⟩
theorem fReader_readLine_57 : w_fe am_c19 57 58 (.iload 1) := ⟨rfl, rfl⟩
theorem fReader_readLine_58 : w_fe am_c19 58 59 (.invokestatic 25) := ⟨rfl, rfl⟩
theorem fReader_readLine_59 : w_fe am_c19 59 60 (.return_) := ⟨rfl, rfl⟩
noncomputable def LReader_readLine_27 (xs : List Int) (d : Nat) (Q : Option w_V → w_M → Prop) (v1 : Int) (v2 : Int) (v3 : Int) (σ : w_M) : Prop := w_Ex (xs, d) 0 am_c19 Q 27 [some (.inr (.inr (1, 1))), some (.inl v1), some (.inl v2), some (.inl v3)] [] σ
set_option maxRecDepth 20000 in
theorem bReader_readLine_0 {xs : List Int} {d : Nat} {Q : Option w_V → w_M → Prop}  {σ : w_M}
    (h : (¬ (σ 1 7) = 1 → ∀ (τ1 : w_M), q_Reader_fail 2 (σ 1 8) σ τ1 → Q none τ1) ∧ ((σ 1 7) = 1 → (p_Reader_lineOfName σ ∧ (∀ (y2 : Int), y2 = v_Reader_lineOfName σ → ((¬ y2 = (-1) → (p_Reader_beginLine y2 σ ∧ (∀ (τ3 : w_M), q_Reader_beginLine y2 σ τ3 → (0 ≤ y2 ∧ y2 < ((w_carr xs 1010).length : Int) ∧ (∀ (y4 : Int), y4 = ((w_carr xs 1010).getD y2.toNat 0) → LReader_readLine_27 xs (d + 4) Q y2 y4 0 τ3))))) ∧ (y2 = (-1) → ∀ (τ5 : w_M), q_Reader_fail 2 (σ 1 8) σ τ5 → Q none τ5)))))) : w_Call (xs, (d + 4)) 19 [.inr (.inr (1, 1))] σ Q :=
  (w_mk (mid := 19) (by decide) rfl rfl rfl rfl rfl (Nat.le_of_ble_eq_true rfl) ⟨rfl, Or.inl (by decide)⟩ (wi_aload0 fReader_readLine_0 (wi_getf107 fReader_readLine_1 (wi_bipush fReader_readLine_2 (wi_ic_ne fReader_readLine_3 (fun c7 => (wi_bipush fReader_readLine_7 (wi_istore1 fReader_readLine_8 trivial (wi_iload1 fReader_readLine_9 (wi_bipush fReader_readLine_10 (wi_ic_ne fReader_readLine_11 (fun e => absurd e (by decide)) (fun _ => (wi_aload0 fReader_readLine_12 (wi_bipush fReader_readLine_13 (wi_aload0 fReader_readLine_14 (wi_getf108 fReader_readLine_15 (wi_call3 fReader_readLine_16 (Nat.le_of_ble_eq_true rfl) (k_Reader_fail (fun τ1 eτ1 => (wi_ret0 fReader_readLine_17 ((h.1 c7) τ1 eτ1)))))))))))))))) (fun c7 => (wi_aload0 fReader_readLine_4 (wi_call1 fReader_readLine_5 (Nat.le_of_ble_eq_true rfl) (k_Reader_lineOfName (h.2 c7).1 (wi_goto fReader_readLine_6 (wi_istore1 fReader_readLine_8 trivial (wi_iload1 fReader_readLine_9 (wi_bipush fReader_readLine_10 (wi_ic_ne fReader_readLine_11 (fun c6 => (wi_aload0 fReader_readLine_18 (wi_iload1 fReader_readLine_19 (wi_call2 fReader_readLine_20 (Nat.le_of_ble_eq_true rfl) (k_Reader_beginLine (((h.2 c7).2 _ rfl).1 c6).1 (fun τ3 eτ3 => (wi_getstatic1 fReader_readLine_21 (wi_iload1 fReader_readLine_22 (wi_iald6005 fReader_readLine_23 ((((h.2 c7).2 _ rfl).1 c6).2 τ3 eτ3).1 ((((h.2 c7).2 _ rfl).1 c6).2 τ3 eτ3).2.1 (wi_istore2 fReader_readLine_24 trivial (wi_bipush fReader_readLine_25 (wi_istore3 fReader_readLine_26 trivial (((((h.2 c7).2 _ rfl).1 c6).2 τ3 eτ3).2.2 _ rfl))))))))))))) (fun c6 => (wi_aload0 fReader_readLine_12 (wi_bipush fReader_readLine_13 (wi_aload0 fReader_readLine_14 (wi_getf108 fReader_readLine_15 (wi_call3 fReader_readLine_16 (Nat.le_of_ble_eq_true rfl) (k_Reader_fail (fun τ5 eτ5 => (wi_ret0 fReader_readLine_17 ((((h.2 c7).2 _ rfl).2 c6) τ5 eτ5))))))))))))))))))))))))
set_option maxRecDepth 20000 in
theorem bReader_readLine_27 {xs : List Int} {d : Nat} {Q : Option w_V → w_M → Prop} {v1 : Int} {v2 : Int} {v3 : Int} {σ : w_M}
    (h : (v2 ≤ v3 → ((¬ (σ 1 3) = 0 → Q none σ) ∧ ((σ 1 3) = 0 → (p_Reader_readToken σ ∧ (∀ (τ1 : w_M), q_Reader_readToken σ τ1 → (((τ1 1 7) = 3 → ((¬ (τ1 1 3) = 0 → Q none τ1) ∧ ((τ1 1 3) = 0 → (p_Reader_takeLine v1 τ1 ∧ (∀ (τ2 : w_M), q_Reader_takeLine v1 τ1 τ2 → Q none τ2))))) ∧ (¬ (τ1 1 7) = 3 → ∀ (τ4 : w_M), q_Reader_fail 2 (τ1 1 8) τ1 τ4 → ((¬ (τ4 1 3) = 0 → Q none τ4) ∧ ((τ4 1 3) = 0 → (p_Reader_takeLine v1 τ4 ∧ (∀ (τ5 : w_M), q_Reader_takeLine v1 τ4 τ5 → Q none τ5))))))))))) ∧ (v3 < v2 → ((¬ (σ 1 3) = 0 → Q none σ) ∧ ((σ 1 3) = 0 → (p_Reader_readNumber v1 v3 σ ∧ (∀ (τ9 : w_M), q_Reader_readNumber v1 v3 σ τ9 → (w_in (v3 + 1) ∧ LReader_readLine_27 xs (d + 4) Q v1 v2 (v3 + 1) τ9))))))) : LReader_readLine_27 xs (d + 4) Q v1 v2 v3 σ :=
  (wi_iload3 fReader_readLine_27 (wi_iload2 fReader_readLine_28 (wi_ic_ge fReader_readLine_29 (fun c11 => (wi_aload0 fReader_readLine_39 (wi_getf103 fReader_readLine_40 (wi_if_ne fReader_readLine_41 (fun c8 => (wi_aload0 fReader_readLine_53 (wi_getf103 fReader_readLine_54 (wi_if_ne fReader_readLine_55 (fun _ => (wi_ret0 fReader_readLine_59 ((h.1 c11).1 c8))) (fun e => absurd c8 (w_n_ne e)))))) (fun c8 => (wi_aload0 fReader_readLine_42 (wi_call1 fReader_readLine_43 (Nat.le_of_ble_eq_true rfl) (k_Reader_readToken ((h.1 c11).2 c8).1 (fun τ1 eτ1 => (wi_aload0 fReader_readLine_44 (wi_getf107 fReader_readLine_45 (wi_bipush fReader_readLine_46 (wi_ic_eq fReader_readLine_47 (fun c7 => (wi_aload0 fReader_readLine_53 (wi_getf103 fReader_readLine_54 (wi_if_ne fReader_readLine_55 (fun c3 => (wi_ret0 fReader_readLine_59 (((((h.1 c11).2 c8).2 τ1 eτ1).1 c7).1 c3))) (fun c3 => (wi_aload0 fReader_readLine_56 (wi_iload1 fReader_readLine_57 (wi_call2 fReader_readLine_58 (Nat.le_of_ble_eq_true rfl) (k_Reader_takeLine (((((h.1 c11).2 c8).2 τ1 eτ1).1 c7).2 c3).1 (fun τ2 eτ2 => (wi_ret0 fReader_readLine_59 ((((((h.1 c11).2 c8).2 τ1 eτ1).1 c7).2 c3).2 τ2 eτ2)))))))))))) (fun c7 => (wi_aload0 fReader_readLine_48 (wi_bipush fReader_readLine_49 (wi_aload0 fReader_readLine_50 (wi_getf108 fReader_readLine_51 (wi_call3 fReader_readLine_52 (Nat.le_of_ble_eq_true rfl) (k_Reader_fail (fun τ4 eτ4 => (wi_aload0 fReader_readLine_53 (wi_getf103 fReader_readLine_54 (wi_if_ne fReader_readLine_55 (fun c6 => (wi_ret0 fReader_readLine_59 ((((((h.1 c11).2 c8).2 τ1 eτ1).2 c7) τ4 eτ4).1 c6))) (fun c6 => (wi_aload0 fReader_readLine_56 (wi_iload1 fReader_readLine_57 (wi_call2 fReader_readLine_58 (Nat.le_of_ble_eq_true rfl) (k_Reader_takeLine ((((((h.1 c11).2 c8).2 τ1 eτ1).2 c7) τ4 eτ4).2 c6).1 (fun τ5 eτ5 => (wi_ret0 fReader_readLine_59 (((((((h.1 c11).2 c8).2 τ1 eτ1).2 c7) τ4 eτ4).2 c6).2 τ5 eτ5)))))))))))))))))))))))))))))))) (fun c11 => (wi_aload0 fReader_readLine_30 (wi_getf103 fReader_readLine_31 (wi_if_ne fReader_readLine_32 (fun c10 => (wi_aload0 fReader_readLine_39 (wi_getf103 fReader_readLine_40 (wi_if_ne fReader_readLine_41 (fun _ => (wi_aload0 fReader_readLine_53 (wi_getf103 fReader_readLine_54 (wi_if_ne fReader_readLine_55 (fun _ => (wi_ret0 fReader_readLine_59 ((h.2 c11).1 c10))) (fun e => absurd c10 (w_n_ne e)))))) (fun e => absurd c10 (w_n_ne e)))))) (fun c10 => (wi_aload0 fReader_readLine_33 (wi_iload1 fReader_readLine_34 (wi_iload3 fReader_readLine_35 (wi_call3 fReader_readLine_36 (Nat.le_of_ble_eq_true rfl) (k_Reader_readNumber ((h.2 c11).2 c10).1 (fun τ9 eτ9 => (wi_iinc3 fReader_readLine_37 trivial (((h.2 c11).2 c10).2 τ9 eτ9).1 (wi_goto fReader_readLine_38 (((h.2 c11).2 c10).2 τ9 eτ9).2))))))))))))))))
set_option maxHeartbeats 4000000 in
theorem k_Reader_readLine {xs : List Int} {d : Nat} {Q : Option w_V → w_M → Prop}  {σ : w_M} (hp : p_Reader_readLine σ) (hQ : ∀ σ' : w_M, q_Reader_readLine σ σ' → Q none σ') : w_Call (xs, d + 4) 19 [.inr (.inr (1, 1))] σ Q := by
  obtain ⟨⟨hk, hW⟩, h8, hn⟩ := hp
  have fail_f : ∀ (n p : Int) (τ τ' : w_M), q_Reader_fail n p τ τ' → τ 1 3 = 0 → τ' 1 3 = n ∧ τ' 1 4 = p ∧ r_fr τ τ' := fun n p τ τ' q h => by
    have e := q.1 h
    rw [e]
    exact ⟨by rw [w_up_j (by decide), w_up_at], by rw [w_up_at], (r_fr.rfl'.up (by decide) (by decide)).up (by decide) (by decide)⟩
  refine bReader_readLine_0 ⟨fun c τ1 q1 => ?_, fun c => ?_⟩
  · by_cases h3 : σ 1 3 = 0
    · obtain ⟨a, b, F⟩ := fail_f 2 _ σ τ1 q1 h3
      exact hQ _ ⟨F.f2, fun _ => ⟨fun _ => ⟨a, b⟩, fun h => absurd h3 h⟩, fun h => absurd h c⟩
    · have e := q1.2 h3
      exact hQ _ ⟨by rw [e]; exact r_f2.rfl', fun _ => ⟨fun h => absurd h h3, fun _ => e⟩, fun h => absurd h c⟩
  · obtain ⟨h3, h9⟩ := hn c
    unfold q_Reader_readLine at hQ
    obtain ⟨f, hf⟩ : ∃ f : Nat, σ 1 8 = (f : Int) := ⟨(σ 1 8).toNat, by omega⟩
    obtain ⟨b, hb⟩ : ∃ b : Nat, σ 1 9 = (b : Int) := ⟨(σ 1 9).toNat, by omega⟩
    rw [show (σ 1 8).toNat = f by omega, show (σ 1 9).toNat = b by omega] at hQ
    have hv : v_Reader_lineOfName σ = ln_n (rT σ) (rL σ) f b := by unfold v_Reader_lineOfName; rw [show (σ 1 8).toNat = f by omega, show (σ 1 9).toNat = b by omega]
    have hLe : rL σ = (σ 1 1).toNat := rfl
    have hk1 := hk.1
    have rTL : ∀ τ : w_M, r_f3 σ τ → rT τ = rT σ ∧ rL τ = rL σ ∧ r_ok τ := fun τ F => ⟨F.f2.T, F.f2.L, F.f2.ok hk⟩
    refine ⟨⟨hk, h8, h9⟩, fun y2 e2 => ?_⟩
    rw [hv] at e2
    generalize hT : rT σ = T at *
    generalize hL : rL σ = L at *
    have fin : ∀ τ : w_M, r_f2 σ τ → rl_q T L f b σ τ → Q none τ := fun τ F h => hQ _ ⟨F, fun q => absurd c q, fun _ => h⟩
    refine ⟨fun c2 => ?_, fun c2 τ5 q5 => ?_⟩
    · have hle := ln_k_le (T := T) (L := L) (f := f) (b := b) 5
      have hle' : ln_n T L f b = -1 ∨ (0 ≤ ln_n T L f b ∧ ln_n T L f b < 5) := hle
      obtain ⟨k, hkk⟩ : ∃ k : Nat, ln_n T L f b = (k : Int) := ⟨(ln_n T L f b).toNat, by omega⟩
      have hk5 : k < 5 := by omega
      have ek : (ln_n T L f b).toNat = k := by omega
      have ey : y2 = (k : Int) := by omega
      obtain ⟨m1, m3, mi⟩ := ln_m_le k hk5
      have hbL : b ≤ L := by omega
      have done_f : ∀ τ : w_M, r_f2 σ τ → ¬ (ln_f T L (d_ab σ) k f b).1 = 0 → τ 1 3 = (ln_f T L (d_ab σ) k f b).1 → τ 1 4 = (((ln_f T L (d_ab σ) k f b).2 : Nat) : Int) → Q none τ := fun τ F h1 h2 h3' => by
        refine fin τ F ⟨fun h => by omega, fun _ => ?_⟩
        rw [ek]
        exact ⟨fun _ => ⟨h2, h3'⟩, fun h => absurd h h1⟩
      rw [ey]
      refine ⟨⟨h3, by omega, by omega⟩, fun τ3 q3 => ⟨by omega, by show (k : Int) < 5; omega, fun y4 e4 => ?_⟩⟩
      have e4' : y4 = (ln_m k : Int) := by
        rw [e4, Int.toNat_natCast]
        exact mi.symm
      rw [e4']
      unfold q_Reader_beginLine at q3
      rw [Int.toNat_natCast] at q3
      by_cases hbl : ln_b (d_ab σ) k = 0
      · have e3 := q3.1 hbl
        rw [e3]
        refine (w_loop (n := ln_m k) (P := fun j => ∀ τ : w_M, r_f3 σ τ → τ 1 3 = (nf T L (d_ab σ) k b j).1 → (¬ (nf T L (d_ab σ) k b j).1 = 0 → τ 1 4 = (((nf T L (d_ab σ) k b j).2 : Nat) : Int)) → ((nf T L (d_ab σ) k b j).1 = 0 → τ 1 9 = ((pp T L b j : Nat) : Int) ∧ ∀ i, i < j → τ 12 i = tk_v T L (pp T L b i)) → LReader_readLine_27 xs (d + 4) Q (k : Int) (ln_m k : Int) (j : Int) τ) ?_ ?_) σ ⟨fun _ _ _ => rfl, rfl, rfl⟩ h3 (fun h => absurd rfl h) (fun _ => ⟨hb, fun i hi => by omega⟩)
        · intro τ F i3 i4 i9
          obtain ⟨g1, g2, g3⟩ := rTL τ F
          have pl := nf_pl (T := T) (L := L) (D := d_ab σ) (k := k) hbL (ln_m k)
          have elf : ln_f T L (d_ab σ) k f b = if ¬ (nf T L (d_ab σ) k b (ln_m k)).1 = 0 then nf T L (d_ab σ) k b (ln_m k) else (ln_s T L (pp T L b (ln_m k)), tk_f T L (pp T L b (ln_m k))) := by unfold ln_f; rw [if_neg (fun q => q hbl)]
          refine bReader_readLine_27 ⟨fun _ => ⟨fun c5 => ?_, fun c5 => ?_⟩, fun h => by omega⟩
          · have hnz : ¬ (nf T L (d_ab σ) k b (ln_m k)).1 = 0 := by rw [← i3]; exact c5
            rw [if_pos hnz] at elf
            exact done_f τ F.f2 (by rw [elf]; exact hnz) (by rw [elf]; exact i3) (by rw [elf]; exact i4 hnz)
          · have hz : (nf T L (d_ab σ) k b (ln_m k)).1 = 0 := by rw [← i3]; exact c5
            rw [if_neg (fun q => q hz)] at elf
            obtain ⟨i9', i12⟩ := i9 hz
            have ppL := pl.2 hz
            have e11 : τ 1 1 = σ 1 1 := F.2.1
            refine ⟨⟨⟨g3, c5⟩, by omega, by omega⟩, fun τ1 q1 => ?_⟩
            unfold q_Reader_readToken at q1
            rw [g1, g2, i9', Int.toNat_natCast] at q1
            obtain ⟨F1, t8, t9, t7, t10, tf, tn⟩ := q1
            have F13 : r_f3 σ τ1 := F.tr F1.f3
            refine ⟨fun c6 => ?_, fun c6 τ4 q4 => ?_⟩
            · rw [t7] at c6
              obtain ⟨n3, n4⟩ := tn (by omega)
              have hs : ln_s T L (pp T L b (ln_m k)) = 0 := by unfold ln_s; rw [if_neg (by omega), if_neg (fun q => q c6)]
              have hlf : (ln_f T L (d_ab σ) k f b).1 = 0 := by rw [elf]; exact hs
              refine ⟨fun h => absurd n3 h, fun _ => ⟨⟨⟨by omega, by omega⟩, by rw [F13.D, Int.toNat_natCast]; exact hbl, by rw [F13.D]; exact hW⟩, fun τ2 q2 => ?_⟩⟩
              obtain ⟨u1, u2, u3, u4⟩ := q2
              rw [F13.D, Int.toNat_natCast] at u1
              have z12 : τ1 12 = τ 12 := F1.1 12 (by decide)
              refine fin τ2 ⟨fun b' hb' => by rw [u3 b' (by omega), F13.f2.1 b' hb'], by rw [u4 1 (by decide)]; exact F13.2.1⟩ ⟨fun h => by omega, fun _ => ?_⟩
              rw [ek]
              refine ⟨fun h => absurd hlf h, fun _ => ⟨by rw [u4 3 (by decide)]; exact n3, by rw [u4 9 (by decide)]; exact t9 (by omega), ?_, fun hc => u2 (F13.cn hc)⟩⟩
              rw [u1, z12]
              have v0 := i12 0 (by omega)
              rcases (show k = 0 ∨ k = 1 ∨ k = 2 ∨ k = 3 ∨ k = 4 by omega) with rfl | rfl | rfl | rfl | rfl
              · show w_up (w_up (d_ab σ) 0 0 (τ 12 0)) 0 7 1 = _; rw [v0]; rfl
              · have v1 := i12 1 (by decide)
                show w_up (w_up (w_up (d_ab σ) 1 (d_ab σ 0 4).toNat (τ 12 0)) 2 (d_ab σ 0 4).toNat (τ 12 1)) 0 4 (d_ab σ 0 4 + 1) = _
                rw [v0, v1]; rfl
              · have v1 := i12 1 (by decide)
                have v2 := i12 2 (by decide)
                show w_up (w_up (w_up (w_up (d_ab σ) 3 (d_ab σ 0 5).toNat (τ 12 0)) 4 (d_ab σ 0 5).toNat (τ 12 1)) 6 (d_ab σ 0 5).toNat (τ 12 2)) 0 5 (d_ab σ 0 5 + 1) = _
                rw [v0, v1, v2]; rfl
              · show w_up (d_ab σ) 0 2 (w_or (d_ab σ 0 2) (w_shl 1 (τ 12 0))) = _; rw [v0]; rfl
              · show w_up (d_ab σ) 0 6 (w_or (d_ab σ 0 6) (w_shl 1 (τ 12 0))) = _; rw [v0]; rfl
            · rw [t7] at c6
              by_cases h4 : tk_k T L (pp T L b (ln_m k)) = 4
              · have hs : ln_s T L (pp T L b (ln_m k)) = 1 := by unfold ln_s; rw [if_pos h4]
                have e4' := q4.2 (by rw [(tf h4).1]; decide)
                rw [e4']
                refine ⟨fun _ => done_f τ1 F13.f2 (by rw [elf]; show ¬ ln_s T L (pp T L b (ln_m k)) = 0; omega) (by rw [elf]; show _ = ln_s T L (pp T L b (ln_m k)); rw [hs]; exact (tf h4).1) (by rw [elf]; exact (tf h4).2), fun h => absurd h (by rw [(tf h4).1]; decide)⟩
              · have hs : ln_s T L (pp T L b (ln_m k)) = 2 := by unfold ln_s; rw [if_neg h4, if_pos c6]
                obtain ⟨a1, a2, a3⟩ := fail_f 2 _ τ1 τ4 q4 (tn h4).1
                refine ⟨fun _ => done_f τ4 (F13.f2.tr a3.f2) (by rw [elf]; show ¬ ln_s T L (pp T L b (ln_m k)) = 0; omega) (by rw [elf]; show _ = ln_s T L (pp T L b (ln_m k)); rw [hs]; exact a1) (by rw [elf, a2]; exact t8), fun h => absurd h (by rw [a1]; decide)⟩
        · intro j hj ih τ F i3 i4 i9
          obtain ⟨g1, g2, g3⟩ := rTL τ F
          have pl := nf_pl (T := T) (L := L) (D := d_ab σ) (k := k) hbL j
          have e11 : τ 1 1 = σ 1 1 := F.2.1
          refine bReader_readLine_27 ⟨fun h => by omega, fun _ => ⟨fun c5 => ?_, fun c5 => ?_⟩⟩
          · have hnz : ¬ (nf T L (d_ab σ) k b j).1 = 0 := by rw [← i3]; exact c5
            have es := nf_stay hnz (ln_m k - j)
            rw [show j + (ln_m k - j) = ln_m k by omega] at es
            have elf : ln_f T L (d_ab σ) k f b = nf T L (d_ab σ) k b j := by unfold ln_f; rw [if_neg (fun q => q hbl), es, if_pos hnz]
            exact done_f τ F.f2 (by rw [elf]; exact hnz) (by rw [elf]; exact i3) (by rw [elf]; exact i4 hnz)
          · have hz : (nf T L (d_ab σ) k b j).1 = 0 := by rw [← i3]; exact c5
            obtain ⟨i9', i12⟩ := i9 hz
            have ppL := pl.2 hz
            refine ⟨⟨⟨⟨g3, c5⟩, by omega, by omega⟩, ⟨by omega, by omega⟩, by omega, by omega⟩, fun τ9 q9 => ⟨⟨by omega, by omega⟩, ?_⟩⟩
            unfold q_Reader_readNumber at q9
            rw [g1, g2, F.D, i9', Int.toNat_natCast, Int.toNat_natCast, Int.toNat_natCast] at q9
            obtain ⟨n1, n2, n3, n4⟩ := q9
            have enf : nf T L (d_ab σ) k b (j + 1) = (nt_f T L (d_ab σ) k j (pp T L b j), tk_f T L (pp T L b j)) := by simp only [nf]; rw [if_pos hz]
            rw [← w_cs1]
            refine ih τ9 (F.tr n1) (by rw [enf]; exact n2) (fun h => ?_) (fun h => ?_)
            · rw [enf] at h ⊢
              exact n3 h
            · rw [enf] at h
              obtain ⟨o1, o2, o3⟩ := n4 h
              refine ⟨o1, fun i hi => ?_⟩
              by_cases e : i = j
              · rw [e]; exact o2
              · rw [o3 i e]; exact i12 i (by omega)
      · have e3 := q3.2 hbl
        have F3 : r_fr σ τ3 := by rw [e3]; exact (r_fr.rfl'.up (by decide) (by decide)).up (by decide) (by decide)
        have z3 : τ3 1 3 = ln_b (d_ab σ) k := by rw [e3, w_up_j (by decide), w_up_at]
        have z4 : τ3 1 4 = (f : Int) := by rw [e3, w_up_at, hf]
        have elf : ln_f T L (d_ab σ) k f b = (ln_b (d_ab σ) k, f) := by unfold ln_f; rw [if_pos hbl]
        refine bReader_readLine_27 ⟨fun h => by omega, fun _ => ⟨fun _ => done_f τ3 F3.f2 (by rw [elf]; exact hbl) (by rw [elf]; exact z3) (by rw [elf]; exact z4), fun h => absurd (z3.symm.trans h) hbl⟩⟩
    · obtain ⟨a1, a2, a3⟩ := fail_f 2 _ σ τ5 q5 h3
      exact fin τ5 a3.f2 ⟨fun _ => ⟨a1, by rw [a2, hf]⟩, fun h => absurd (e2.symm.trans c2) h⟩
end
section
/-! The class and the whole text -/
noncomputable def p_Reader_tellsOfWhatIsNot (σ : w_M) : Prop := d_WF (d_ab σ)
noncomputable def P_Reader_tellsOfWhatIsNot (σ : w_M) : Prop := d_bad (d_ab σ)
theorem fReader_tellsOfWhatIsNot_0 : w_fe am_c26 0 1 (.bipush 0) := ⟨rfl, rfl⟩
theorem fReader_tellsOfWhatIsNot_1 : w_fe am_c26 1 2 (.istore 1) := ⟨rfl, rfl⟩
theorem fReader_tellsOfWhatIsNot_2 : w_fe am_c26 2 3 (.iload 1) := ⟨rfl, rfl⟩
theorem fReader_tellsOfWhatIsNot_3 : w_fe am_c26 3 4 (.aload 0) := ⟨rfl, rfl⟩
theorem fReader_tellsOfWhatIsNot_4 : w_fe am_c26 4 5 (.getfield 102) := ⟨rfl, rfl⟩
theorem fReader_tellsOfWhatIsNot_5 : w_fe am_c26 5 6 (.getfield 205) := ⟨rfl, rfl⟩
theorem fReader_tellsOfWhatIsNot_6 : w_ic am_c26 6 7 .ge 20 := ⟨rfl, rfl⟩
theorem fReader_tellsOfWhatIsNot_7 : w_fe am_c26 7 8 (.aload 0) := ⟨rfl, rfl⟩
theorem fReader_tellsOfWhatIsNot_8 : w_fe am_c26 8 9 (.getfield 102) := ⟨rfl, rfl⟩
theorem fReader_tellsOfWhatIsNot_9 : w_fe am_c26 9 10 (.aload 0) := ⟨rfl, rfl⟩
theorem fReader_tellsOfWhatIsNot_10 : w_fe am_c26 10 11 (.getfield 102) := ⟨rfl, rfl⟩
theorem fReader_tellsOfWhatIsNot_11 : w_fe am_c26 11 12 (.getfield 212) := ⟨rfl, rfl⟩
theorem fReader_tellsOfWhatIsNot_12 : w_fe am_c26 12 13 (.iload 1) := ⟨rfl, rfl⟩
theorem fReader_tellsOfWhatIsNot_13 : w_fe am_c26 13 14 (.iaload) := ⟨rfl, rfl⟩
theorem fReader_tellsOfWhatIsNot_14 : w_fe am_c26 14 15 (.invokestatic 33) := ⟨rfl, rfl⟩
theorem fReader_tellsOfWhatIsNot_15 : w_if am_c26 15 16 .ne 18 := ⟨rfl, rfl⟩
theorem fReader_tellsOfWhatIsNot_16 : w_fe am_c26 16 17 (.bipush 1) := ⟨rfl, rfl⟩
theorem fReader_tellsOfWhatIsNot_17 : w_fe am_c26 17 18 (.ireturn) := ⟨rfl, rfl⟩
theorem fReader_tellsOfWhatIsNot_18 : w_fe am_c26 18 19 (.iinc 1 1) := ⟨rfl, rfl⟩
theorem fReader_tellsOfWhatIsNot_19 : w_gt am_c26 19 2 := rfl
theorem fReader_tellsOfWhatIsNot_20 : w_fe am_c26 20 21 (.aload 0) := ⟨rfl, rfl⟩
theorem fReader_tellsOfWhatIsNot_21 : w_fe am_c26 21 22 (.getfield 102) := ⟨rfl, rfl⟩
theorem fReader_tellsOfWhatIsNot_22 : w_fe am_c26 22 23 (.getfield 202) := ⟨rfl, rfl⟩
theorem fReader_tellsOfWhatIsNot_23 : w_fe am_c26 23 24 (.aload 0) := ⟨rfl, rfl⟩
theorem fReader_tellsOfWhatIsNot_24 : w_fe am_c26 24 25 (.getfield 102) := ⟨rfl, rfl⟩
theorem fReader_tellsOfWhatIsNot_25 : w_fe am_c26 25 26 (.getfield 200) := ⟨rfl, rfl⟩
theorem fReader_tellsOfWhatIsNot_26 : w_fe am_c26 26 27 (.ishr) := ⟨rfl, rfl⟩
theorem fReader_tellsOfWhatIsNot_27 : w_if am_c26 27 28 .ne 36 := ⟨rfl, rfl⟩
theorem fReader_tellsOfWhatIsNot_28 : w_fe am_c26 28 29 (.aload 0) := ⟨rfl, rfl⟩
theorem fReader_tellsOfWhatIsNot_29 : w_fe am_c26 29 30 (.getfield 102) := ⟨rfl, rfl⟩
theorem fReader_tellsOfWhatIsNot_30 : w_fe am_c26 30 31 (.getfield 206) := ⟨rfl, rfl⟩
theorem fReader_tellsOfWhatIsNot_31 : w_fe am_c26 31 32 (.aload 0) := ⟨rfl, rfl⟩
theorem fReader_tellsOfWhatIsNot_32 : w_fe am_c26 32 33 (.getfield 102) := ⟨rfl, rfl⟩
theorem fReader_tellsOfWhatIsNot_33 : w_fe am_c26 33 34 (.getfield 204) := ⟨rfl, rfl⟩
theorem fReader_tellsOfWhatIsNot_34 : w_fe am_c26 34 35 (.ishr) := ⟨rfl, rfl⟩
theorem fReader_tellsOfWhatIsNot_35 : w_if am_c26 35 36 .eq 38 := ⟨rfl, rfl⟩
theorem fReader_tellsOfWhatIsNot_36 : w_fe am_c26 36 37 (.bipush 1) := ⟨rfl, rfl⟩
theorem fReader_tellsOfWhatIsNot_37 : w_gt am_c26 37 39 := rfl
theorem fReader_tellsOfWhatIsNot_38 : w_fe am_c26 38 39 (.bipush 0) := ⟨rfl, rfl⟩
theorem fReader_tellsOfWhatIsNot_39 : w_fe am_c26 39 40 (.ireturn) := ⟨rfl, rfl⟩
noncomputable def LReader_tellsOfWhatIsNot_2 (xs : List Int) (d : Nat) (Q : Option w_V → w_M → Prop) (v1 : Int) (σ : w_M) : Prop := w_Ex (xs, d) 2 am_c26 Q 2 [some (.inr (.inr (1, 1))), some (.inl v1)] [] σ
set_option maxRecDepth 20000 in
theorem bReader_tellsOfWhatIsNot_0 {xs : List Int} {d : Nat} {Q : Option w_V → w_M → Prop}  {σ : w_M}
    (h : LReader_tellsOfWhatIsNot_2 xs (d + 1) Q 0 σ) : w_Call (xs, (d + 1)) 26 [.inr (.inr (1, 1))] σ Q :=
  (w_mk (mid := 26) (by decide) rfl rfl rfl rfl rfl (Nat.le_of_ble_eq_true rfl) ⟨rfl, Or.inl (by decide)⟩ (wi_bipush fReader_tellsOfWhatIsNot_0 (wi_istore1 fReader_tellsOfWhatIsNot_1 trivial h)))
set_option maxRecDepth 20000 in
theorem bReader_tellsOfWhatIsNot_2 {xs : List Int} {d : Nat} {Q : Option w_V → w_M → Prop} {v1 : Int} {σ : w_M}
    (h : ((σ 3 5) ≤ v1 → ((¬ (w_shr (σ 3 2) (σ 3 0)) = 0 → Q (some (.inl 1)) σ) ∧ ((w_shr (σ 3 2) (σ 3 0)) = 0 → (((w_shr (σ 3 6) (σ 3 4)) = 0 → Q (some (.inl 0)) σ) ∧ (¬ (w_shr (σ 3 6) (σ 3 4)) = 0 → Q (some (.inl 1)) σ))))) ∧ (v1 < (σ 3 5) → (0 ≤ v1 ∧ v1 < 4 ∧ (((0 ≤ (σ 9 v1.toNat) ∧ (σ 9 v1.toNat) < σ 3 4) → (w_in (v1 + 1) ∧ LReader_tellsOfWhatIsNot_2 xs (d + 1) Q (v1 + 1) σ)) ∧ (¬ (0 ≤ (σ 9 v1.toNat) ∧ (σ 9 v1.toNat) < σ 3 4) → Q (some (.inl 1)) σ))))) : LReader_tellsOfWhatIsNot_2 xs (d + 1) Q v1 σ :=
  (wi_iload1 fReader_tellsOfWhatIsNot_2 (wi_aload0 fReader_tellsOfWhatIsNot_3 (wi_getf102 fReader_tellsOfWhatIsNot_4 (wi_getf205 fReader_tellsOfWhatIsNot_5 (wi_ic_ge fReader_tellsOfWhatIsNot_6 (fun c4 => (wi_aload0 fReader_tellsOfWhatIsNot_20 (wi_getf102 fReader_tellsOfWhatIsNot_21 (wi_getf202 fReader_tellsOfWhatIsNot_22 (wi_aload0 fReader_tellsOfWhatIsNot_23 (wi_getf102 fReader_tellsOfWhatIsNot_24 (wi_getf200 fReader_tellsOfWhatIsNot_25 (wi_ishr fReader_tellsOfWhatIsNot_26 (wi_if_ne fReader_tellsOfWhatIsNot_27 (fun c2 => (wi_bipush fReader_tellsOfWhatIsNot_36 (wi_goto fReader_tellsOfWhatIsNot_37 (wi_ret2 fReader_tellsOfWhatIsNot_39 (by decide) ((h.1 c4).1 c2))))) (fun c2 => (wi_aload0 fReader_tellsOfWhatIsNot_28 (wi_getf102 fReader_tellsOfWhatIsNot_29 (wi_getf206 fReader_tellsOfWhatIsNot_30 (wi_aload0 fReader_tellsOfWhatIsNot_31 (wi_getf102 fReader_tellsOfWhatIsNot_32 (wi_getf204 fReader_tellsOfWhatIsNot_33 (wi_ishr fReader_tellsOfWhatIsNot_34 (wi_if_eq fReader_tellsOfWhatIsNot_35 (fun c1 => (wi_bipush fReader_tellsOfWhatIsNot_38 (wi_ret2 fReader_tellsOfWhatIsNot_39 (by decide) (((h.1 c4).2 c2).1 c1)))) (fun c1 => (wi_bipush fReader_tellsOfWhatIsNot_36 (wi_goto fReader_tellsOfWhatIsNot_37 (wi_ret2 fReader_tellsOfWhatIsNot_39 (by decide) (((h.1 c4).2 c2).2 c1))))))))))))))))))))))) (fun c4 => (wi_aload0 fReader_tellsOfWhatIsNot_7 (wi_getf102 fReader_tellsOfWhatIsNot_8 (wi_aload0 fReader_tellsOfWhatIsNot_9 (wi_getf102 fReader_tellsOfWhatIsNot_10 (wi_getf212 fReader_tellsOfWhatIsNot_11 (wi_iload1 fReader_tellsOfWhatIsNot_12 (wi_iald1004 fReader_tellsOfWhatIsNot_13 (h.2 c4).1 (h.2 c4).2.1 (wi_call2 fReader_tellsOfWhatIsNot_14 (Nat.le_of_ble_eq_true rfl) (k_Field_isStrip (wi_ifb_ne fReader_tellsOfWhatIsNot_15 (fun c3 => (wi_iinc1 fReader_tellsOfWhatIsNot_18 trivial ((h.2 c4).2.2.1 c3).1 (wi_goto fReader_tellsOfWhatIsNot_19 ((h.2 c4).2.2.1 c3).2))) (fun c3 => (wi_bipush fReader_tellsOfWhatIsNot_16 (wi_ret2 fReader_tellsOfWhatIsNot_17 (by decide) ((h.2 c4).2.2.2 c3))))))))))))))))))))
theorem k_Reader_tellsOfWhatIsNot {xs : List Int} {d : Nat} {Q : Option w_V → w_M → Prop}  {σ : w_M} (hp : p_Reader_tellsOfWhatIsNot σ) (hQ : Q (some (.inl (w_bi (P_Reader_tellsOfWhatIsNot σ)))) σ) : w_Call (xs, d + 1) 26 [.inr (.inr (1, 1))] σ Q := by
  have hW : d_WF (d_ab σ) := hp
  have w5 : 0 ≤ σ 3 5 ∧ σ 3 5 ≤ 4 := hW.2.2.2.1
  have e6 : ∀ r, r < (σ 3 5).toNat → d_ab σ 6 r = σ 9 r := fun r hr => by rw [d_ab_346 (Or.inr (Or.inr rfl)), if_pos hr]
  have eP : P_Reader_tellsOfWhatIsNot σ = ¬ ((∀ r, r < (σ 3 5).toNat → d_ab σ 6 r < σ 3 4) ∧ w_shr (σ 3 2) (σ 3 0) = 0 ∧ w_shr (σ 3 6) (σ 3 4) = 0) := rfl
  rw [eP] at hQ
  refine bReader_tellsOfWhatIsNot_0 ?_
  refine (w_loop (n := (σ 3 5).toNat) (P := fun r => (∀ q, q < r → d_ab σ 6 q < σ 3 4) → LReader_tellsOfWhatIsNot_2 xs (d + 1) Q (r : Int) σ) ?_ ?_) (fun q hq => by omega)
  · intro h
    refine bReader_tellsOfWhatIsNot_2 ⟨fun _ => ⟨fun c => ?_, fun c => ⟨fun c2 => ?_, fun c2 => ?_⟩⟩, fun h => by omega⟩
    · rw [w_bi_t (fun z => c z.2.1)] at hQ; exact hQ
    · rw [w_bi_f (fun z => z ⟨h, c, c2⟩)] at hQ; exact hQ
    · rw [w_bi_t (fun z => c2 z.2.2)] at hQ; exact hQ
  · intro r hr ih h
    have hr6 := (hW.2.2.2.2.2.2.2 r hr).2.2
    rw [e6 r hr] at hr6
    refine bReader_tellsOfWhatIsNot_2 ⟨fun h => by omega, fun _ => ⟨by omega, by omega, ?_⟩⟩
    rw [Int.toNat_natCast]
    refine ⟨fun c => ⟨⟨by omega, by omega⟩, ?_⟩, fun c => ?_⟩
    · rw [← w_cs1]
      refine ih (fun q hq => ?_)
      by_cases e : q = r
      · rw [e, e6 r hr]; exact c.2
      · exact h q (by omega)
    · rw [w_bi_t (fun z => c ⟨hr6.1, by rw [← e6 r hr]; exact z.1 r hr⟩)] at hQ
      exact hQ
noncomputable def p_Reader_readAll (σ : w_M) : Prop := r_ok σ
noncomputable def q_Reader_readAll (σ : w_M) (x : Int) (σ' : w_M) : Prop := r_f2 σ σ' ∧ σ' 1 3 = (rd_R (rT σ) (rL σ) 161 0 0 d_0).1.1 ∧ (¬ (rd_R (rT σ) (rL σ) 161 0 0 d_0).1.1 = 0 → σ' 1 4 = (((rd_R (rT σ) (rL σ) 161 0 0 d_0).1.2 : Nat) : Int)) ∧
  ((rd_R (rT σ) (rL σ) 161 0 0 d_0).1.1 = 0 → x = (((rd_R (rT σ) (rL σ) 161 0 0 d_0).2.1 : Nat) : Int) ∧ d_ab σ' = (rd_R (rT σ) (rL σ) 161 0 0 d_0).2.2 ∧ d_cn σ')
theorem fReader_readAll_0 : w_fe am_c12 0 1 (.aload 0) := ⟨rfl, rfl⟩
theorem fReader_readAll_1 : w_fe am_c12 1 2 (.getfield 102) := ⟨rfl, rfl⟩
theorem fReader_readAll_2 : w_fe am_c12 2 3 (.invokestatic 28) := ⟨rfl, rfl⟩
theorem fReader_readAll_3 : w_fe am_c12 3 4 (.aload 0) := ⟨rfl, rfl⟩
theorem fReader_readAll_4 : w_fe am_c12 4 5 (.bipush 0) := ⟨rfl, rfl⟩
theorem fReader_readAll_5 : w_fe am_c12 5 6 (.putfield 105) := ⟨rfl, rfl⟩
theorem fReader_readAll_6 : w_fe am_c12 6 7 (.aload 0) := ⟨rfl, rfl⟩
theorem fReader_readAll_7 : w_fe am_c12 7 8 (.bipush 0) := ⟨rfl, rfl⟩
theorem fReader_readAll_8 : w_fe am_c12 8 9 (.putfield 103) := ⟨rfl, rfl⟩
theorem fReader_readAll_9 : w_fe am_c12 9 10 (.aload 0) := ⟨rfl, rfl⟩
theorem fReader_readAll_10 : w_fe am_c12 10 11 (.bipush 0) := ⟨rfl, rfl⟩
theorem fReader_readAll_11 : w_fe am_c12 11 12 (.putfield 104) := ⟨rfl, rfl⟩
theorem fReader_readAll_12 : w_fe am_c12 12 13 (.aload 0) := ⟨rfl, rfl⟩
theorem fReader_readAll_13 : w_fe am_c12 13 14 (.bipush 0) := ⟨rfl, rfl⟩
theorem fReader_readAll_14 : w_fe am_c12 14 15 (.putfield 109) := ⟨rfl, rfl⟩
theorem fReader_readAll_15 : w_fe am_c12 15 16 (.bipush 0) := ⟨rfl, rfl⟩
theorem fReader_readAll_16 : w_fe am_c12 16 17 (.istore 1) := ⟨rfl, rfl⟩
theorem fReader_readAll_17 : w_fe am_c12 17 18 (.bipush 0) := ⟨rfl, rfl⟩
theorem fReader_readAll_18 : w_fe am_c12 18 19 (.istore 2) := ⟨rfl, rfl⟩
theorem fReader_readAll_19 : w_fe am_c12 19 20 (.iload 2) := ⟨rfl, rfl⟩
theorem fReader_readAll_20 : w_fe am_c12 20 21 (.bipush 160) := ⟨rfl, rfl⟩
theorem fReader_readAll_21 : w_ic am_c12 21 22 .gt 36 := ⟨rfl, rfl⟩
theorem fReader_readAll_22 : w_fe am_c12 22 23 (.aload 0) := ⟨rfl, rfl⟩
theorem fReader_readAll_23 : w_fe am_c12 23 24 (.getfield 103) := ⟨rfl, rfl⟩
theorem fReader_readAll_24 : w_if am_c12 24 25 .ne 36 := ⟨rfl, rfl⟩
theorem fReader_readAll_25 : w_fe am_c12 25 26 (.aload 0) := ⟨rfl, rfl⟩
theorem fReader_readAll_26 : w_fe am_c12 26 27 (.invokestatic 13) := ⟨rfl, rfl⟩
theorem fReader_readAll_27 : w_fe am_c12 27 28 (.aload 0) := ⟨rfl, rfl⟩
theorem fReader_readAll_28 : w_fe am_c12 28 29 (.getfield 107) := ⟨rfl, rfl⟩
theorem fReader_readAll_29 : w_if am_c12 29 30 .ne 31 := ⟨rfl, rfl⟩
theorem fReader_readAll_30 : w_gt am_c12 30 36 := rfl
theorem fReader_readAll_31 : w_fe am_c12 31 32 (.aload 0) := ⟨rfl, rfl⟩
theorem fReader_readAll_32 : w_fe am_c12 32 33 (.invokestatic 19) := ⟨rfl, rfl⟩
theorem fReader_readAll_33 : w_fe am_c12 33 34 (.iinc 1 1) := ⟨rfl, rfl⟩
theorem fReader_readAll_34 : w_fe am_c12 34 35 (.iinc 2 1) := ⟨rfl, rfl⟩
theorem fReader_readAll_35 : w_gt am_c12 35 19 := rfl
theorem fReader_readAll_36 : w_fe am_c12 36 37 (.aload 0) := ⟨rfl, rfl⟩
theorem fReader_readAll_37 : w_fe am_c12 37 38 (.getfield 103) := ⟨rfl, rfl⟩
theorem fReader_readAll_38 : w_if am_c12 38 39 .ne 47 := ⟨rfl, rfl⟩
theorem fReader_readAll_39 : w_fe am_c12 39 40 (.aload 0) := ⟨rfl, rfl⟩
theorem fReader_readAll_40 : w_fe am_c12 40 41 (.invokestatic 26) := ⟨rfl, rfl⟩
theorem fReader_readAll_41 : w_if am_c12 41 42 .eq 47 := ⟨rfl, rfl⟩
theorem fReader_readAll_42 : w_fe am_c12 42 43 (.aload 0) := ⟨rfl, rfl⟩
theorem fReader_readAll_43 : w_fe am_c12 43 44 (.bipush 6) := ⟨rfl, rfl⟩
theorem fReader_readAll_44 : w_fe am_c12 44 45 (.aload 0) := ⟨rfl, rfl⟩
theorem fReader_readAll_45 : w_fe am_c12 45 46 (.getfield 101) := ⟨rfl, rfl⟩
theorem fReader_readAll_46 : w_fe am_c12 46 47 (.invokestatic 18) := ⟨rfl, rfl⟩
theorem fReader_readAll_47 : w_fe am_c12 47 48 (.iload 1) := ⟨rfl, rfl⟩
theorem fReader_readAll_48 : w_fe am_c12 48 49 (.ireturn) := ⟨rfl, rfl⟩
noncomputable def LReader_readAll_19 (xs : List Int) (d : Nat) (Q : Option w_V → w_M → Prop) (v1 : Int) (v2 : Int) (σ : w_M) : Prop := w_Ex (xs, d) 1 am_c12 Q 19 [some (.inr (.inr (1, 1))), some (.inl v1), some (.inl v2)] [] σ
set_option maxRecDepth 20000 in
theorem bReader_readAll_0 {xs : List Int} {d : Nat} {Q : Option w_V → w_M → Prop}  {σ : w_M}
    (h : ∀ (τ1 : w_M), q_Field_clear 3 σ τ1 → ∀ (τ2 : w_M), τ2 = w_up τ1 1 5 0 → ∀ (τ3 : w_M), τ3 = w_up τ2 1 3 0 → ∀ (τ4 : w_M), τ4 = w_up τ3 1 4 0 → ∀ (τ5 : w_M), τ5 = w_up τ4 1 9 0 → LReader_readAll_19 xs (d + 5) Q 0 0 τ5) : w_Call (xs, (d + 5)) 12 [.inr (.inr (1, 1))] σ Q :=
  (w_mk (mid := 12) (by decide) rfl rfl rfl rfl rfl (Nat.le_of_ble_eq_true rfl) ⟨rfl, Or.inl (by decide)⟩ (wi_aload0 fReader_readAll_0 (wi_getf102 fReader_readAll_1 (wi_call1 fReader_readAll_2 (Nat.le_of_ble_eq_true rfl) (k_Field_clear (fun τ1 eτ1 => (wi_aload0 fReader_readAll_3 (wi_bipush fReader_readAll_4 (wi_putf105 fReader_readAll_5 (by decide) (wi_aload0 fReader_readAll_6 (wi_bipush fReader_readAll_7 (wi_putf103 fReader_readAll_8 (wi_aload0 fReader_readAll_9 (wi_bipush fReader_readAll_10 (wi_putf104 fReader_readAll_11 (wi_aload0 fReader_readAll_12 (wi_bipush fReader_readAll_13 (wi_putf109 fReader_readAll_14 (wi_bipush fReader_readAll_15 (wi_istore1 fReader_readAll_16 trivial (wi_bipush fReader_readAll_17 (wi_istore2 fReader_readAll_18 trivial (((((h τ1 eτ1) _ rfl) _ rfl) _ rfl) _ rfl)))))))))))))))))))))))
set_option maxRecDepth 20000 in
theorem bReader_readAll_19 {xs : List Int} {d : Nat} {Q : Option w_V → w_M → Prop} {v1 : Int} {v2 : Int} {σ : w_M}
    (h : (160 < v2 → ((¬ (σ 1 3) = 0 → Q (some (.inl v1)) σ) ∧ ((σ 1 3) = 0 → (p_Reader_tellsOfWhatIsNot σ ∧ ((¬ (P_Reader_tellsOfWhatIsNot σ) → Q (some (.inl v1)) σ) ∧ ((P_Reader_tellsOfWhatIsNot σ) → ∀ (τ1 : w_M), q_Reader_fail 6 (σ 1 1) σ τ1 → Q (some (.inl v1)) τ1)))))) ∧ (v2 ≤ 160 → ((¬ (σ 1 3) = 0 → Q (some (.inl v1)) σ) ∧ ((σ 1 3) = 0 → (p_Reader_readToken σ ∧ (∀ (τ4 : w_M), q_Reader_readToken σ τ4 → ((¬ (τ4 1 7) = 0 → (p_Reader_readLine τ4 ∧ (∀ (τ5 : w_M), q_Reader_readLine τ4 τ5 → (w_in (v1 + 1) ∧ w_in (v2 + 1) ∧ LReader_readAll_19 xs (d + 5) Q (v1 + 1) (v2 + 1) τ5)))) ∧ ((τ4 1 7) = 0 → ((¬ (τ4 1 3) = 0 → Q (some (.inl v1)) τ4) ∧ ((τ4 1 3) = 0 → (p_Reader_tellsOfWhatIsNot τ4 ∧ ((¬ (P_Reader_tellsOfWhatIsNot τ4) → Q (some (.inl v1)) τ4) ∧ ((P_Reader_tellsOfWhatIsNot τ4) → ∀ (τ6 : w_M), q_Reader_fail 6 (τ4 1 1) τ4 τ6 → Q (some (.inl v1)) τ6))))))))))))) : LReader_readAll_19 xs (d + 5) Q v1 v2 σ :=
  (wi_iload2 fReader_readAll_19 (wi_bipush fReader_readAll_20 (wi_ic_gt fReader_readAll_21 (fun c11 => (wi_aload0 fReader_readAll_36 (wi_getf103 fReader_readAll_37 (wi_if_ne fReader_readAll_38 (fun c3 => (wi_iload1 fReader_readAll_47 (wi_ret1 fReader_readAll_48 ((h.1 c11).1 c3)))) (fun c3 => (wi_aload0 fReader_readAll_39 (wi_call1 fReader_readAll_40 (Nat.le_of_ble_eq_true rfl) (k_Reader_tellsOfWhatIsNot ((h.1 c11).2 c3).1 (wi_ifb_eq fReader_readAll_41 (fun c2 => (wi_iload1 fReader_readAll_47 (wi_ret1 fReader_readAll_48 (((h.1 c11).2 c3).2.1 c2)))) (fun c2 => (wi_aload0 fReader_readAll_42 (wi_bipush fReader_readAll_43 (wi_aload0 fReader_readAll_44 (wi_getf101 fReader_readAll_45 (wi_call3 fReader_readAll_46 (Nat.le_of_ble_eq_true rfl) (k_Reader_fail (fun τ1 eτ1 => (wi_iload1 fReader_readAll_47 (wi_ret1 fReader_readAll_48 ((((h.1 c11).2 c3).2.2 c2) τ1 eτ1)))))))))))))))))))) (fun c11 => (wi_aload0 fReader_readAll_22 (wi_getf103 fReader_readAll_23 (wi_if_ne fReader_readAll_24 (fun c10 => (wi_aload0 fReader_readAll_36 (wi_getf103 fReader_readAll_37 (wi_if_ne fReader_readAll_38 (fun _ => (wi_iload1 fReader_readAll_47 (wi_ret1 fReader_readAll_48 ((h.2 c11).1 c10)))) (fun e => absurd c10 (w_n_ne e)))))) (fun c10 => (wi_aload0 fReader_readAll_25 (wi_call1 fReader_readAll_26 (Nat.le_of_ble_eq_true rfl) (k_Reader_readToken ((h.2 c11).2 c10).1 (fun τ4 eτ4 => (wi_aload0 fReader_readAll_27 (wi_getf107 fReader_readAll_28 (wi_if_ne fReader_readAll_29 (fun c9 => (wi_aload0 fReader_readAll_31 (wi_call1 fReader_readAll_32 (Nat.le_of_ble_eq_true rfl) (k_Reader_readLine ((((h.2 c11).2 c10).2 τ4 eτ4).1 c9).1 (fun τ5 eτ5 => (wi_iinc1 fReader_readAll_33 trivial (((((h.2 c11).2 c10).2 τ4 eτ4).1 c9).2 τ5 eτ5).1 (wi_iinc2 fReader_readAll_34 trivial (((((h.2 c11).2 c10).2 τ4 eτ4).1 c9).2 τ5 eτ5).2.1 (wi_goto fReader_readAll_35 (((((h.2 c11).2 c10).2 τ4 eτ4).1 c9).2 τ5 eτ5).2.2)))))))) (fun c9 => (wi_goto fReader_readAll_30 (wi_aload0 fReader_readAll_36 (wi_getf103 fReader_readAll_37 (wi_if_ne fReader_readAll_38 (fun c8 => (wi_iload1 fReader_readAll_47 (wi_ret1 fReader_readAll_48 (((((h.2 c11).2 c10).2 τ4 eτ4).2 c9).1 c8)))) (fun c8 => (wi_aload0 fReader_readAll_39 (wi_call1 fReader_readAll_40 (Nat.le_of_ble_eq_true rfl) (k_Reader_tellsOfWhatIsNot (((((h.2 c11).2 c10).2 τ4 eτ4).2 c9).2 c8).1 (wi_ifb_eq fReader_readAll_41 (fun c7 => (wi_iload1 fReader_readAll_47 (wi_ret1 fReader_readAll_48 ((((((h.2 c11).2 c10).2 τ4 eτ4).2 c9).2 c8).2.1 c7)))) (fun c7 => (wi_aload0 fReader_readAll_42 (wi_bipush fReader_readAll_43 (wi_aload0 fReader_readAll_44 (wi_getf101 fReader_readAll_45 (wi_call3 fReader_readAll_46 (Nat.le_of_ble_eq_true rfl) (k_Reader_fail (fun τ6 eτ6 => (wi_iload1 fReader_readAll_47 (wi_ret1 fReader_readAll_48 (((((((h.2 c11).2 c10).2 τ4 eτ4).2 c9).2 c8).2.2 c7) τ6 eτ6))))))))))))))))))))))))))))))))))))
set_option maxHeartbeats 2000000 in
theorem k_Reader_readAll {xs : List Int} {d : Nat} {Q : Option w_V → w_M → Prop}  {σ : w_M} (hp : p_Reader_readAll σ) (hQ : ∀ (x : Int) (σ' : w_M), q_Reader_readAll σ x σ' → Q (some (.inl x)) σ') : w_Call (xs, d + 5) 12 [.inr (.inr (1, 1))] σ Q := by
  have hk : r_ok σ := hp
  have hk1 := hk.1
  have hLe : rL σ = (σ 1 1).toNat := rfl
  unfold q_Reader_readAll at hQ
  have rTL : ∀ τ : w_M, r_f2 σ τ → rT τ = rT σ ∧ rL τ = rL σ ∧ r_ok τ := fun τ F => ⟨F.T, F.L, F.ok hk⟩
  generalize hT : rT σ = T at *
  generalize hL : rL σ = L at *
  have hL160 : L ≤ 160 := by omega
  refine bReader_readAll_0 (fun τ1 q1 τ2 t2 τ3 t3 τ4 t4 τ5 t5 => ?_)
  obtain ⟨⟨c0, c1, c2, c3, c4, c5, c6⟩, c11, F1⟩ := q1
  have z : ∀ b, b ≠ 1 → τ5 b = τ1 b := fun b hb => by rw [t5, w_up_ne hb, t4, w_up_ne hb, t3, w_up_ne hb, t2, w_up_ne hb]
  have z1 : τ1 1 = σ 1 := F1 1 (by omega)
  have a5 : τ5 1 5 = 0 := by rw [t5, w_up_j (by decide), t4, w_up_j (by decide), t3, w_up_j (by decide), t2, w_up_at]
  have a3 : τ5 1 3 = 0 := by rw [t5, w_up_j (by decide), t4, w_up_j (by decide), t3, w_up_at]
  have a9 : τ5 1 9 = ((0 : Nat) : Int) := by rw [t5, w_up_at]; rfl
  have a1 : τ5 1 1 = σ 1 1 := by rw [t5, w_up_j (by decide), t4, w_up_j (by decide), t3, w_up_j (by decide), t2, w_up_j (by decide), z1]
  have F5 : r_f2 σ τ5 := ⟨fun b hb => by rw [z b (by omega)]; exact F1 b (by omega), a1⟩
  have z3 : τ5 3 = τ1 3 := z 3 (by decide)
  have D5 : d_ab τ5 = d_0 := by
    refine d_ab_eq (fun i => ?_) (fun d i h1 h2 => ?_) (fun d i h => ?_) (fun d i h => ?_)
    · rw [d_ab_0, z3, c0, c2, c4, c5, c6, a5]
      show _ = if (0 : Nat) = 0 ∧ i = 0 then (8 : Int) else 0
      by_cases h : i = 0
      · simp [h]
      · simp [h]
    · rw [z3, c4]
      show (if i < 0 then _ else (0 : Int)) = if d = 0 ∧ i = 0 then 8 else 0
      rw [if_neg (Nat.not_lt_zero i), if_neg (by omega)]
    · rw [z3, c5]
      show (if i < 0 then _ else (0 : Int)) = if d = 0 ∧ i = 0 then 8 else 0
      rw [if_neg (Nat.not_lt_zero i), if_neg (by omega)]
    · show (if d = 0 ∧ i = 0 then (8 : Int) else 0) = 0
      rw [if_neg (by omega)]
  have N5 : d_cn τ5 := by
    refine ⟨⟨by rw [z3]; exact c1, by rw [z3]; exact c3⟩, fun r hr => ?_, fun o ho => by rw [z 11 (by decide)]; exact c11 o ho⟩
    rw [z3, c5] at hr
    exact absurd hr (Nat.not_lt_zero r)
  generalize hR : rd_R T L 161 0 0 d_0 = R at hQ
  have done_f : ∀ (x : Int) (τ : w_M), r_f2 σ τ → ¬ R.1.1 = 0 → τ 1 3 = R.1.1 → τ 1 4 = ((R.1.2 : Nat) : Int) → Q (some (.inl x)) τ := fun x τ F h1 h2 h3 => hQ _ _ ⟨F, h2, fun _ => h3, fun h => absurd h h1⟩
  refine (w_loop (n := 161) (P := fun k => ∀ (τ : w_M) (p : Nat), r_f2 σ τ → τ 1 3 = 0 → τ 1 9 = (p : Int) → k ≤ p → p ≤ L → d_WF (d_ab τ) → d_cn τ → rd_R T L (161 - k) k p (d_ab τ) = R → LReader_readAll_19 xs (d + 5) Q (k : Int) (k : Int) τ) ?_ ?_) τ5 0 F5 a3 a9 (Nat.le_refl _) (Nat.zero_le _) (by rw [D5]; exact d_0_WF) N5 (by rw [D5]; exact hR)
  · intro τ p F h3 h9 hkp hpL
    omega
  · intro k hk161 ih τ p F h3 h9 hkp hpL hW hc hr
    obtain ⟨g1, g2, g3⟩ := rTL τ F
    have e11 : τ 1 1 = σ 1 1 := F.2
    obtain ⟨n, hn⟩ : ∃ n, 161 - k = n + 1 := ⟨160 - k, by omega⟩
    rw [hn] at hr
    simp only [rd_R] at hr
    have hfl := tk_f_le (T := T) hpL
    refine bReader_readAll_19 ⟨fun h => by omega, fun _ => ⟨fun h => absurd h3 h, fun _ => ⟨⟨⟨g3, h3⟩, by omega, by omega⟩, fun τ4 q4 => ?_⟩⟩⟩
    unfold q_Reader_readToken at q4
    rw [g1, g2, h9, Int.toNat_natCast] at q4
    obtain ⟨Ft, t8, t9, t7, t10, tf, tn⟩ := q4
    have F4 : r_f2 σ τ4 := F.tr Ft.f2
    have D4 : d_ab τ4 = d_ab τ := Ft.f3.D
    obtain ⟨g41, g42, g43⟩ := rTL τ4 F4
    have e41 : τ4 1 1 = σ 1 1 := F4.2
    refine ⟨fun c => ⟨⟨⟨g43, by rw [D4]; exact hW⟩, by rw [t8]; omega, fun h1 => ?_⟩, fun τ6 q6 => ⟨⟨by omega, by omega⟩, ⟨by omega, by omega⟩, ?_⟩⟩, fun c => ?_⟩
    · rw [t7] at h1
      have hb := tk_b_le (T := T) (L := L) (p := p) (tk_k0 (by omega))
      exact ⟨(tn (by omega)).1, by rw [t9 (by omega)]; omega⟩
    · rw [t7] at c
      rw [if_neg c] at hr
      have hb := tk_b_le (T := T) (L := L) (p := p) (tk_k0 c)
      obtain ⟨F6, q61, q62⟩ := q6
      have F6' : r_f2 σ τ6 := F4.tr F6
      -- a fault ends it
      have stop : ¬ R.1.1 = 0 → τ6 1 3 = R.1.1 → τ6 1 4 = ((R.1.2 : Nat) : Int) → LReader_readAll_19 xs (d + 5) Q ((k : Int) + 1) ((k : Int) + 1) τ6 := fun h1 h2 h4 => by
        have hnz : ¬ τ6 1 3 = 0 := by rw [h2]; exact h1
        exact bReader_readAll_19 ⟨fun _ => ⟨fun _ => done_f _ τ6 F6' h1 h2 h4, fun h => absurd h hnz⟩, fun _ => ⟨fun _ => done_f _ τ6 F6' h1 h2 h4, fun h => absurd h hnz⟩⟩
      by_cases k4 : tk_k T L p = 4
      · rw [if_pos k4] at hr
        have e6 := (q61 (by rw [t7]; omega)).2 (by rw [(tf k4).1]; decide)
        rw [← hr] at stop
        exact stop (show ¬ (1 : Int) = 0 by decide) (by rw [e6]; exact (tf k4).1) (by rw [e6]; exact (tf k4).2)
      · rw [if_neg k4] at hr
        by_cases k1 : tk_k T L p = 1
        · have q := q62 (by rw [t7]; exact k1)
          rw [g41, g42, t8, t9 (by omega), Int.toNat_natCast, Int.toNat_natCast] at q
          obtain ⟨r1, r2⟩ := q
          rw [D4] at r2
          by_cases kn : ln_n T L (tk_f T L p) (tk_b T L p) = -1
          · rw [if_pos (Or.inr kn)] at hr
            rw [← hr] at stop
            exact stop (show ¬ (2 : Int) = 0 by decide) (r1 kn).1 (r1 kn).2
          · rw [if_neg (fun q => q.elim (fun q => q k1) kn)] at hr
            obtain ⟨r3, r4⟩ := r2 kn
            by_cases kf : (ln_f T L (d_ab τ) (ln_n T L (tk_f T L p) (tk_b T L p)).toNat (tk_f T L p) (tk_b T L p)).1 = 0
            · rw [if_neg (fun q => q kf)] at hr
              obtain ⟨o1, o2, o3, o4⟩ := r4 kf
              have adv := ln_adv hpL c kf
              have hk5 : (ln_n T L (tk_f T L p) (tk_b T L p)).toNat < 5 := by
                have := ln_k_le (T := T) (L := L) (f := tk_f T L p) (b := tk_b T L p) 5
                unfold ln_n
                omega
              rw [← w_cs1]
              refine ih τ6 _ F6' o1 o2 (by omega) adv.2 (by rw [o3]; exact ln_D_ok hW hk5 hb.2 kf) (o4 (Ft.f3.cn hc)) ?_
              rw [show 161 - (k + 1) = n by omega, o3]
              exact hr
            · rw [if_pos kf] at hr
              rw [← hr] at stop
              exact stop kf (r3 kf).1 (r3 kf).2
        · rw [if_pos (Or.inl k1)] at hr
          have e6 := (q61 (by rw [t7]; exact k1)).1 (tn k4).1
          rw [← hr] at stop
          exact stop (show ¬ (2 : Int) = 0 by decide) e6.1 (by rw [e6.2, t8])
    · rw [t7] at c
      rw [if_pos c] at hr
      have n3 := (tn (by omega)).1
      have eP : P_Reader_tellsOfWhatIsNot τ4 = d_bad (d_ab τ) := by unfold P_Reader_tellsOfWhatIsNot; rw [D4]
      refine ⟨fun h => absurd n3 h, fun _ => ⟨by unfold p_Reader_tellsOfWhatIsNot; rw [D4]; exact hW, ?_⟩⟩
      rw [eP]
      refine ⟨fun cb => ?_, fun cb τ6 q6 => ?_⟩
      · rw [if_neg cb] at hr
        rw [← hr] at hQ
        exact hQ _ _ ⟨F4, n3, fun h => absurd rfl h, fun _ => ⟨rfl, D4, Ft.f3.cn hc⟩⟩
      · rw [if_pos cb] at hr
        have e6 := q6.1 n3
        rw [← hr] at done_f
        refine done_f _ τ6 ⟨fun b hb => by rw [e6, w_up_ne (by omega), w_up_ne (by omega)]; exact F4.1 b hb, by rw [e6, w_up_j (by decide), w_up_j (by decide)]; exact F4.2⟩ (show ¬ (6 : Int) = 0 by decide) (by rw [e6, w_up_j (by decide), w_up_at]) ?_
        rw [e6, w_up_at, e41]
        show σ 1 1 = ((L : Nat) : Int)
        omega
noncomputable def tz (f : Int) : w_M := fun d i => if d = 0 ∧ i = 1 then f else 0
noncomputable def tx_R (S : w_S) : (Int × Nat) × Nat × w_M := rd_R (S 3 1) (S 3 0 0).toNat 161 0 0 d_0
noncomputable def F_text (S : w_S) : Int := if (tx_R S).1.1 = 0 then (((tx_R S).2.1 : Nat) : Int) else -10 - (((tx_R S).1.2 : Nat) : Int)
noncomputable def tx_G (S : w_S) (D : w_M) : w_S := fun p => match p with
  | 0 => d_A D
  | 4 => S 4
  | _ => w_0
noncomputable def G_text (S : w_S) : w_S := if (tx_R S).1.1 = 0 then tx_G S (tx_R S).2.2 else w_sp S 3 (tz (tx_R S).1.1)
theorem tz_WF {f : Int} : taWF (tz f) := ⟨⟨by show (0 : Int) ≤ 0; omega, by show (0 : Int) ≤ 160; omega⟩, fun i hi => absurd hi (Nat.not_lt_zero i)⟩
theorem tx_WF {S : w_S} (h : sWF S) {D : w_M} (hA : n_WF (d_A D)) : sWF (tx_G S D) := by
  refine ⟨hA, ⟨⟨by show (0 : Int) ≤ 0; omega, by show (0 : Int) ≤ 8; omega⟩, fun i hi => absurd hi (Nat.not_lt_zero i)⟩, ⟨⟨by show (0 : Int) ≤ 0; omega, by show (0 : Int) ≤ 4; omega⟩, fun i hi => absurd hi (Nat.not_lt_zero i)⟩, ⟨⟨by show (0 : Int) ≤ 0; omega, by show (0 : Int) ≤ 160; omega⟩, fun i hi => absurd hi (Nat.not_lt_zero i)⟩, h.2.2.2.2.1, Or.inl rfl, Or.inl rfl, fun q => ?_, fun q => ?_⟩
  · have : (0 : Int) = 1 := q
    omega
  · have : (0 : Int) = 1 := q
    omega
noncomputable def p_Moon_text (σ : w_M) : Prop := CI σ
noncomputable def q_Moon_text (σ : w_M) (x : Int) (σ' : w_M) : Prop := c_q (F_text (cS σ)) (G_text (cS σ)) σ x σ'
theorem rd_L {T : Nat → Int} {L : Nat} (hL : L ≤ 160) (h : (rd_R T L 161 0 0 d_0).1.1 = 0) : n_WF (d_A (rd_R T L 161 0 0 d_0).2.2) ∧ d_WF (rd_R T L 161 0 0 d_0).2.2 := by
  obtain ⟨h1, h2⟩ := rd_good 161 0 0 d_0 (Nat.zero_le _) (by omega) d_0_WF h
  exact ⟨d_A_WF h1 h2, h1⟩
/-- the draft's cells are the night that is told -/
theorem d_ab_A {σ : w_M} (h : d_cn σ) : w_ab σ 3 = d_A (d_ab σ) := by
  obtain ⟨c1, c2, c3⟩ := h
  funext d i
  by_cases e0 : d = 0
  · subst e0
    by_cases hi : i < 6
    · rw [w_ab0 hi]
      rcases (show i = 0 ∨ i = 1 ∨ i = 2 ∨ i = 3 ∨ i = 4 ∨ i = 5 by omega) with rfl | rfl | rfl | rfl | rfl | rfl
      · rfl
      · exact c1.1
      · rfl
      · exact c1.2
      · rfl
      · rfl
    · have e1 : w_ab σ 3 0 i = 0 := by rw [w_ab_row (by decide)]; exact if_neg (show ¬ i < 6 from hi)
      rw [e1]
      unfold d_A
      rw [if_pos rfl, if_neg (by omega), if_neg (by omega), if_neg (by omega), if_neg (by omega), if_neg (by omega)]
  · by_cases e2 : d ≤ 2
    · rw [w_ab_row (by omega)]
      unfold d_A w_rl
      rw [if_neg e0, if_pos e2, if_neg e0, if_pos e2, d_ab_12 (by omega) e2]
      show _ = if i < (σ 3 4).toNat then (if i < (σ 3 4).toNat then σ (3 + d) i else 0) else 0
      by_cases hi : i < (σ 3 4).toNat
      · simp [hi]
      · simp [hi]
    · by_cases e5 : d = 5
      · subst e5
        rw [w_ab_row (by decide), w_rl37 (by decide) (by decide)]
        show (if i < (σ 3 5).toNat then σ 8 i else 0) = if i < (σ 3 5).toNat then 3 else 0
        by_cases hi : i < (σ 3 5).toNat
        · rw [if_pos hi, if_pos hi]; exact (c2 i hi).1
        · rw [if_neg hi, if_neg hi]
      · by_cases e6 : d ≤ 6
        · rw [w_ab_row (by omega), w_rl37 (by omega) (by omega)]
          unfold d_A
          rw [if_neg e0, if_neg e2, if_neg e5, if_pos e6, d_ab_346 (d := d) (by omega)]
          show _ = if i < (σ 3 5).toNat then (if i < (σ 3 5).toNat then σ (3 + d) i else 0) else 0
          by_cases hi : i < (σ 3 5).toNat
          · simp [hi]
          · simp [hi]
        · by_cases e9 : d = 9
          · subst e9
            rw [w_ab_9]
            rfl
          · have er : d_A (d_ab σ) d i = 0 := by
              unfold d_A
              rw [if_neg e0, if_neg e2, if_neg e5, if_neg e6, if_neg e9]
            rw [er]
            by_cases e7 : d = 7
            · subst e7
              rw [w_ab_row (by decide), w_rl37 (by decide) (by decide)]
              show (if i < (σ 3 5).toNat then σ 10 i else 0) = 0
              by_cases hi : i < (σ 3 5).toNat
              · rw [if_pos hi]; exact (c2 i hi).2
              · rw [if_neg hi]
            · by_cases e8 : d = 8
              · subst e8
                rw [w_ab_row (by decide)]
                show (if i < 4 then σ 11 i else 0) = 0
                by_cases hi : i < 4
                · rw [if_pos hi]; exact c3 i hi
                · rw [if_neg hi]
              · exact w_ab_10 (by omega)
theorem fMoon_text_0 : w_fe am_c109 0 1 (.aload 0) := ⟨rfl, rfl⟩
theorem fMoon_text_1 : w_fe am_c109 1 2 (.getfield 0) := ⟨rfl, rfl⟩
theorem fMoon_text_2 : w_fe am_c109 2 3 (.invokestatic 12) := ⟨rfl, rfl⟩
theorem fMoon_text_3 : w_fe am_c109 3 4 (.istore 1) := ⟨rfl, rfl⟩
theorem fMoon_text_4 : w_fe am_c109 4 5 (.aload 0) := ⟨rfl, rfl⟩
theorem fMoon_text_5 : w_fe am_c109 5 6 (.aload 0) := ⟨rfl, rfl⟩
theorem fMoon_text_6 : w_fe am_c109 6 7 (.getfield 0) := ⟨rfl, rfl⟩
theorem fMoon_text_7 : w_fe am_c109 7 8 (.getfield 103) := ⟨rfl, rfl⟩
theorem fMoon_text_8 : w_fe am_c109 8 9 (.putfield 8) := ⟨rfl, rfl⟩
theorem fMoon_text_9 : w_fe am_c109 9 10 (.aload 0) := ⟨rfl, rfl⟩
theorem fMoon_text_10 : w_fe am_c109 10 11 (.getfield 0) := ⟨rfl, rfl⟩
theorem fMoon_text_11 : w_fe am_c109 11 12 (.bipush 0) := ⟨rfl, rfl⟩
theorem fMoon_text_12 : w_fe am_c109 12 13 (.putfield 101) := ⟨rfl, rfl⟩
theorem fMoon_text_13 : w_fe am_c109 13 14 (.aload 0) := ⟨rfl, rfl⟩
theorem fMoon_text_14 : w_fe am_c109 14 15 (.getfield 8) := ⟨rfl, rfl⟩
theorem fMoon_text_15 : w_if am_c109 15 16 .eq 22 := ⟨rfl, rfl⟩
theorem fMoon_text_16 : w_fe am_c109 16 17 (.bipush (-10)) := ⟨rfl, rfl⟩
theorem fMoon_text_17 : w_fe am_c109 17 18 (.aload 0) := ⟨rfl, rfl⟩
theorem fMoon_text_18 : w_fe am_c109 18 19 (.getfield 0) := ⟨rfl, rfl⟩
theorem fMoon_text_19 : w_fe am_c109 19 20 (.getfield 104) := ⟨rfl, rfl⟩
theorem fMoon_text_20 : w_fe am_c109 20 21 (.isub) := ⟨rfl, rfl⟩
theorem fMoon_text_21 : w_fe am_c109 21 22 (.ireturn) := ⟨rfl, rfl⟩
theorem fMoon_text_22 : w_fe am_c109 22 23 (.aload 0) := ⟨rfl, rfl⟩
theorem fMoon_text_23 : w_fe am_c109 23 24 (.getfield 2) := ⟨rfl, rfl⟩
theorem fMoon_text_24 : w_fe am_c109 24 25 (.aload 0) := ⟨rfl, rfl⟩
theorem fMoon_text_25 : w_fe am_c109 25 26 (.getfield 0) := ⟨rfl, rfl⟩
theorem fMoon_text_26 : w_fe am_c109 26 27 (.getfield 102) := ⟨rfl, rfl⟩
theorem fMoon_text_27 : w_fe am_c109 27 28 (.invokestatic 34) := ⟨rfl, rfl⟩
theorem fMoon_text_28 : w_fe am_c109 28 29 (.aload 0) := ⟨rfl, rfl⟩
theorem fMoon_text_29 : w_fe am_c109 29 30 (.getfield 1) := ⟨rfl, rfl⟩
theorem fMoon_text_30 : w_fe am_c109 30 31 (.getfield 301) := ⟨rfl, rfl⟩
theorem fMoon_text_31 : w_fe am_c109 31 32 (.bipush 0) := ⟨rfl, rfl⟩
theorem fMoon_text_32 : w_fe am_c109 32 33 (.putfield 400) := ⟨rfl, rfl⟩
theorem fMoon_text_33 : w_fe am_c109 33 34 (.aload 0) := ⟨rfl, rfl⟩
theorem fMoon_text_34 : w_fe am_c109 34 35 (.getfield 1) := ⟨rfl, rfl⟩
theorem fMoon_text_35 : w_fe am_c109 35 36 (.getfield 302) := ⟨rfl, rfl⟩
theorem fMoon_text_36 : w_fe am_c109 36 37 (.bipush 0) := ⟨rfl, rfl⟩
theorem fMoon_text_37 : w_fe am_c109 37 38 (.putfield 500) := ⟨rfl, rfl⟩
theorem fMoon_text_38 : w_fe am_c109 38 39 (.aload 0) := ⟨rfl, rfl⟩
theorem fMoon_text_39 : w_fe am_c109 39 40 (.bipush 0) := ⟨rfl, rfl⟩
theorem fMoon_text_40 : w_fe am_c109 40 41 (.putfield 7) := ⟨rfl, rfl⟩
theorem fMoon_text_41 : w_fe am_c109 41 42 (.iload 1) := ⟨rfl, rfl⟩
theorem fMoon_text_42 : w_fe am_c109 42 43 (.ireturn) := ⟨rfl, rfl⟩
set_option maxRecDepth 20000 in
theorem bMoon_text_0 {xs : List Int} {d : Nat} {Q : Option w_V → w_M → Prop}  {σ : w_M}
    (h : p_Reader_readAll σ ∧ (∀ (y1 : Int) (τ2 : w_M), q_Reader_readAll σ y1 τ2 → ∀ (τ3 : w_M), τ3 = w_up τ2 0 8 (τ2 1 3) → ∀ (τ4 : w_M), τ4 = w_up τ3 1 1 0 → (((τ4 0 8) = 0 → (p_Field_copyFrom 14 3 τ4 ∧ (∀ (τ5 : w_M), q_Field_copyFrom 14 3 τ4 τ5 → ∀ (τ6 : w_M), τ6 = w_up τ5 23 0 0 → ∀ (τ7 : w_M), τ7 = w_up τ6 27 0 0 → ∀ (τ8 : w_M), τ8 = w_up τ7 0 7 0 → Q (some (.inl y1)) τ8))) ∧ (¬ (τ4 0 8) = 0 → (w_in ((-10) - (τ4 1 4)) ∧ Q (some (.inl ((-10) - (τ4 1 4)))) τ4))))) : w_Call (xs, (d + 6)) 109 [.inr (.inr (0, 0))] σ Q :=
  (w_mk (mid := 109) (by decide) rfl rfl rfl rfl rfl (Nat.le_of_ble_eq_true rfl) ⟨rfl, Or.inl (by decide)⟩ (wi_aload0 fMoon_text_0 (wi_getf0 fMoon_text_1 (wi_call1 fMoon_text_2 (Nat.le_of_ble_eq_true rfl) (k_Reader_readAll h.1 (fun y1 τ2 eτ2 => (wi_istore1 fMoon_text_3 trivial (wi_aload0 fMoon_text_4 (wi_aload0 fMoon_text_5 (wi_getf0 fMoon_text_6 (wi_getf103 fMoon_text_7 (wi_putf8 fMoon_text_8 (wi_aload0 fMoon_text_9 (wi_getf0 fMoon_text_10 (wi_bipush fMoon_text_11 (wi_putf101 fMoon_text_12 (wi_aload0 fMoon_text_13 (wi_getf8 fMoon_text_14 (wi_if_eq fMoon_text_15 (fun c9 => (wi_aload0 fMoon_text_22 (wi_getf2 fMoon_text_23 (wi_aload0 fMoon_text_24 (wi_getf0 fMoon_text_25 (wi_getf102 fMoon_text_26 (wi_call2 fMoon_text_27 (Nat.le_of_ble_eq_true rfl) (k_Field_copyFrom ((((h.2 y1 τ2 eτ2) _ rfl) _ rfl).1 c9).1 (fun τ5 eτ5 => (wi_aload0 fMoon_text_28 (wi_getf1 fMoon_text_29 (wi_getf301 fMoon_text_30 (wi_bipush fMoon_text_31 (wi_putf400 fMoon_text_32 (wi_aload0 fMoon_text_33 (wi_getf1 fMoon_text_34 (wi_getf302 fMoon_text_35 (wi_bipush fMoon_text_36 (wi_putf500 fMoon_text_37 (wi_aload0 fMoon_text_38 (wi_bipush fMoon_text_39 (wi_putf7 fMoon_text_40 (wi_iload1 fMoon_text_41 (wi_ret1 fMoon_text_42 ((((((((h.2 y1 τ2 eτ2) _ rfl) _ rfl).1 c9).2 τ5 eτ5) _ rfl) _ rfl) _ rfl))))))))))))))))))))))))) (fun c9 => (wi_bipush fMoon_text_16 (wi_aload0 fMoon_text_17 (wi_getf0 fMoon_text_18 (wi_getf104 fMoon_text_19 (wi_isub fMoon_text_20 ((((h.2 y1 τ2 eτ2) _ rfl) _ rfl).2 c9).1 (wi_ret1 fMoon_text_21 ((((h.2 y1 τ2 eτ2) _ rfl) _ rfl).2 c9).2))))))))))))))))))))))))))
set_option maxHeartbeats 2000000 in
theorem k_Moon_text {xs : List Int} {d : Nat} {Q : Option w_V → w_M → Prop}  {σ : w_M} (hp : p_Moon_text σ) (hQ : ∀ (x : Int) (σ' : w_M), q_Moon_text σ x σ' → Q (some (.inl x)) σ') : w_Call (xs, d + 6) 109 [.inr (.inr (0, 0))] σ Q := by
  have hC : CI σ := hp
  have hta := hC.1.2.2.2.1
  have hk : r_ok σ := by
    refine ⟨hta.1, fun i hi => ?_⟩
    have := hta.2 i hi
    have e : cS σ 3 1 i = σ 2 i := by
      show (if i < (σ 1 1).toNat then σ 2 i else 0) = _
      rw [if_pos hi]
    rw [e] at this
    exact this
  have hL160 : rL σ ≤ 160 := by
    have := hk.1
    unfold rL
    omega
  have eR : tx_R (cS σ) = rd_R (rT σ) (rL σ) 161 0 0 d_0 := rfl
  have pl := rd_pl (T := rT σ) (L := rL σ) 161 0 0 d_0 (Nat.zero_le _)
  unfold q_Moon_text F_text G_text at hQ
  rw [eR] at hQ
  refine bMoon_text_0 ⟨hk, fun y1 τ2 hq τ3 t3 τ4 t4 => ?_⟩
  obtain ⟨F, r3, r4, r5⟩ := hq
  have rl := rd_L (T := rT σ) hL160
  generalize hR : rd_R (rT σ) (rL σ) 161 0 0 d_0 = R at *
  have z08 : τ4 0 8 = R.1.1 := by rw [t4, w_up_ne (by decide), t3, w_up_at]; exact r3
  have z0 : ∀ j, j ≠ 8 → τ4 0 j = σ 0 j := fun j hj => by rw [t4, w_up_ne (by decide), t3, w_up_j hj, F.1 0 (by omega)]
  have z11 : τ4 1 1 = 0 := by rw [t4, w_up_at]
  have z14 : τ4 1 4 = τ2 1 4 := by rw [t4, w_up_j (by decide), t3, w_up_ne (by decide)]
  have zb : ∀ b, b ≠ 0 → b ≠ 1 → τ4 b = τ2 b := fun b h0 h1 => by rw [t4, w_up_ne h1, t3, w_up_ne h0]
  refine ⟨fun c => ?_, fun c => ?_⟩
  · rw [z08] at c
    obtain ⟨x1, x2, x3⟩ := r5 c
    obtain ⟨l1, l2⟩ := rl c
    rw [if_pos c, if_pos c] at hQ
    have D4 : w_ab τ4 3 = d_A R.2.2 := by
      rw [← x2, ← d_ab_A x3]
      exact w_ab_fr (fun d hd => zb _ (by omega) (by omega))
    refine ⟨⟨n_ok.of D4 l1, by decide⟩, fun τ5 q5 τ6 t6 τ7 t7 τ8 t8 => hQ _ _ ?_⟩
    obtain ⟨u1, u2, u3⟩ := q5
    rw [D4] at u1
    have y : ∀ b, b ≠ 0 → b ≠ 23 → b ≠ 27 → τ8 b = τ5 b := fun b h0 h1 h2 => by rw [t8, w_up_ne h0, t7, w_up_ne h2, t6, w_up_ne h1]
    have y07 : τ8 0 7 = 0 := by rw [t8, w_up_at]
    have y0 : ∀ j, j ≠ 7 → τ8 0 j = τ4 0 j := fun j hj => by rw [t8, w_up_j hj, t7, w_up_ne (by decide), t6, w_up_ne (by decide), u3 0 (by omega)]
    have y23 : τ8 23 0 = 0 := by rw [t8, w_up_ne (by decide), t7, w_up_ne (by decide), t6, w_up_at]
    have y27 : τ8 27 0 = 0 := by rw [t8, w_up_ne (by decide), t7, w_up_at]
    have y1' : τ8 1 1 = 0 := by rw [y 1 (by decide) (by decide) (by decide), u3 1 (by omega)]; exact z11
    have far : ∀ b, 30 ≤ b → τ8 b = σ b := fun b hb => by rw [y b (by omega) (by omega) (by omega), u3 b (by omega), zb b (by omega) (by omega), F.1 b (by omega)]
    have kz : ∀ k, k < 2 → k_ab τ8 k = 0 := fun k hk2 => by
      unfold k_ab
      rw [y07]
      rcases (show k = 0 ∨ k = 1 by omega) with rfl | rfl <;> decide +kernel
    have eS : cS τ8 = tx_G (cS σ) R.2.2 := by
      refine cS_ext ?_ ?_ ?_ ?_ ?_ ?_
      · show w_ab τ8 14 = d_A R.2.2
        rw [← u1]
        exact w_ab_fr (fun d hd => y _ (by omega) (by omega) (by omega))
      · funext d i
        show s_ab τ8 23 d i = 0
        unfold s_ab
        rw [y23]
        simp
      · funext d i
        show c_ab τ8 27 d i = 0
        unfold c_ab
        rw [y27]
        simp
      · funext d i
        show t_ab τ8 d i = 0
        unfold t_ab
        rw [y1', y0 8 (by decide), z08, c]
        simp
      · show h_ab τ8 = h_ab σ
        exact h_ab_fr (fun b h1 h2 => far b (by omega))
      · intro p hp5
        match p, hp5 with
        | 5, _ => simp only [cS]; rw [kz 0 (by decide), if_neg (by decide)]; rfl
        | 6, _ => simp only [cS]; rw [kz 0 (by decide), if_neg (by decide)]; rfl
        | 7, _ => simp only [cS]; rw [kz 0 (by decide), if_neg (by decide)]; rfl
        | 8, _ => simp only [cS]; rw [kz 1 (by decide), if_neg (by decide)]; rfl
        | 9, _ => simp only [cS]; rw [kz 1 (by decide), if_neg (by decide)]; rfl
        | 10, _ => simp only [cS]; rw [kz 1 (by decide), if_neg (by decide)]; rfl
        | 11, _ =>
          simp only [cS]
          funext d i
          show (if d = 0 ∧ i < 2 then k_ab τ8 i else 0) = 0
          by_cases h : d = 0 ∧ i < 2
          · rw [if_pos h, kz i h.2]
          · rw [if_neg h]
        | p + 12, _ => rfl
    have m6 : 0 ≤ τ8 14 6 ∧ τ8 14 6 ≤ 127 := by
      rw [y 14 (by decide) (by decide) (by decide), u2, zb 3 (by decide) (by decide)]
      have := l2.2.2.2.2.1
      rw [← x2] at this
      exact this
    refine ⟨x1, ⟨by rw [eS]; exact tx_WF hC.1 l1, m6, by rw [y07]; decide, fun h => ?_, fun h => ?_⟩, eS, fun b hb => far b (by omega), by rw [y0 9 (by decide)]; exact z0 9 (by decide)⟩
    · rw [kz 0 (by decide)] at h; exact absurd h (by decide)
    · rw [kz 1 (by decide)] at h; exact absurd h (by decide)
  · rw [z08] at c
    have e4 := r4 c
    rw [if_neg c, if_neg c] at hQ
    rw [z14, e4]
    refine ⟨⟨by omega, by omega⟩, hQ _ _ (c_q3 hC (fun b hb => ?_) (z0 7 (by decide)) (z0 9 (by decide)) ?_ tz_WF rfl)⟩
    · rw [zb b (by omega) (by omega), F.1 b (by omega)]
    · funext d i
      unfold t_ab tz
      rw [z11, z08]
      by_cases h0 : d = 0
      · subst h0
        by_cases h1 : i = 1
        · subst h1; simp
        · simp [h1]
      · simp [h0]
end
