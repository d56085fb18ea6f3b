/-! The class reads tokens -/
noncomputable def rL (σ : w_M) : Nat := (σ 1 1).toNat
noncomputable def rT (σ : w_M) : Nat → Int := fun i => if i < (σ 1 1).toNat then σ 2 i else 0
noncomputable def r_ok (σ : w_M) : Prop := (0 ≤ σ 1 1 ∧ σ 1 1 ≤ 160) ∧ ∀ i, i < (σ 1 1).toNat → 0 ≤ σ 2 i ∧ σ 2 i ≤ 127
noncomputable def r_fr (σ σ' : w_M) : Prop := (∀ b, b ≠ 1 → σ' b = σ b) ∧ σ' 1 1 = σ 1 1 ∧ σ' 1 5 = σ 1 5
theorem r_fr.rfl' {σ : w_M} : r_fr σ σ := ⟨fun _ _ => rfl, rfl, rfl⟩
theorem r_fr.tr {σ σ1 σ2 : w_M} (h : r_fr σ σ1) (g : r_fr σ1 σ2) : r_fr σ σ2 := ⟨fun b hb => (g.1 b hb).trans (h.1 b hb), g.2.1.trans h.2.1, g.2.2.trans h.2.2⟩
theorem r_fr.up {σ σ1 : w_M} (h : r_fr σ σ1) {j : Nat} {x : Int} (h1 : j ≠ 1) (h5 : j ≠ 5) : r_fr σ (w_up σ1 1 j x) := ⟨fun b hb => by rw [w_up_ne hb]; exact h.1 b hb, by rw [w_up_j (fun e => h1 e.symm)]; exact h.2.1, by rw [w_up_j (fun e => h5 e.symm)]; exact h.2.2⟩
theorem r_fr.L {σ τ : w_M} (h : r_fr σ τ) : rL τ = rL σ := by unfold rL; rw [h.2.1]
theorem r_fr.T {σ τ : w_M} (h : r_fr σ τ) : rT τ = rT σ := by unfold rT; rw [h.2.1, h.1 2 (by decide)]
theorem r_fr.ok {σ τ : w_M} (h : r_fr σ τ) (hk : r_ok σ) : r_ok τ := by unfold r_ok at hk ⊢; rw [h.2.1, h.1 2 (by decide)]; exact hk
theorem r_tb {σ : w_M} {p : Nat} : tb (rT σ) (rL σ) p = if p < (σ 1 1).toNat then σ 2 p else -1 := by
  unfold tb rT rL
  by_cases h : p < (σ 1 1).toNat
  · rw [if_pos h, if_pos h, if_pos h]
  · rw [if_neg h, if_neg h]
noncomputable def v_Reader_byteAt (x : Int) (σ : w_M) : Int := if 0 ≤ x ∧ x < σ 1 1 ∧ x < 160 then σ 2 x.toNat else -1
theorem r_byte {σ : w_M} (h : r_ok σ) {x : Int} (hx : 0 ≤ x) : v_Reader_byteAt x σ = tb (rT σ) (rL σ) x.toNat := by
  have := h.1
  unfold v_Reader_byteAt
  rw [r_tb]
  by_cases c : x < σ 1 1
  · rw [if_pos (by omega), if_pos (by omega)]
  · rw [if_neg (by omega), if_neg (by omega)]
theorem fReader_byteAt_0 : w_fe am_c14 0 1 (.iload 1) := ⟨rfl, rfl⟩
theorem fReader_byteAt_1 : w_if am_c14 1 2 .lt 14 := ⟨rfl, rfl⟩
theorem fReader_byteAt_2 : w_fe am_c14 2 3 (.iload 1) := ⟨rfl, rfl⟩
theorem fReader_byteAt_3 : w_fe am_c14 3 4 (.aload 0) := ⟨rfl, rfl⟩
theorem fReader_byteAt_4 : w_fe am_c14 4 5 (.getfield 101) := ⟨rfl, rfl⟩
theorem fReader_byteAt_5 : w_ic am_c14 5 6 .ge 14 := ⟨rfl, rfl⟩
theorem fReader_byteAt_6 : w_fe am_c14 6 7 (.iload 1) := ⟨rfl, rfl⟩
theorem fReader_byteAt_7 : w_fe am_c14 7 8 (.bipush 160) := ⟨rfl, rfl⟩
theorem fReader_byteAt_8 : w_ic am_c14 8 9 .ge 14 := ⟨rfl, rfl⟩
theorem fReader_byteAt_9 : w_fe am_c14 9 10 (.aload 0) := ⟨rfl, rfl⟩
theorem fReader_byteAt_10 : w_fe am_c14 10 11 (.getfield 100) := ⟨rfl, rfl⟩
theorem fReader_byteAt_11 : w_fe am_c14 11 12 (.iload 1) := ⟨rfl, rfl⟩
theorem fReader_byteAt_12 : w_fe am_c14 12 13 (.baload) := ⟨rfl, rfl⟩
theorem fReader_byteAt_13 : w_gt am_c14 13 15 := rfl
theorem fReader_byteAt_14 : w_fe am_c14 14 15 (.bipush (-1)) := ⟨rfl, rfl⟩
theorem fReader_byteAt_15 : w_fe am_c14 15 16 (.ireturn) := ⟨rfl, rfl⟩
set_option maxRecDepth 20000 in
theorem bReader_byteAt_0 {xs : List Int} {d : Nat} {Q : Option w_V → w_M → Prop} {x1 : Int} {σ : w_M}
    (h : (x1 < 0 → Q (some (.inl (-1))) σ) ∧ (0 ≤ x1 → (((σ 1 1) ≤ x1 → Q (some (.inl (-1))) σ) ∧ (x1 < (σ 1 1) → ((160 ≤ x1 → Q (some (.inl (-1))) σ) ∧ (x1 < 160 → Q (some (.inl (σ 2 x1.toNat))) σ)))))) : w_Call (xs, d) 14 [.inr (.inr (1, 1)), .inl x1] σ Q :=
  (w_mk (mid := 14) (by decide) rfl rfl rfl rfl rfl (Nat.le_of_ble_eq_true rfl) ⟨rfl, Or.inl (by decide)⟩ (wi_iload1 fReader_byteAt_0 (wi_if_lt fReader_byteAt_1 (fun c3 => (wi_bipush fReader_byteAt_14 (wi_ret1 fReader_byteAt_15 (h.1 c3)))) (fun c3 => (wi_iload1 fReader_byteAt_2 (wi_aload0 fReader_byteAt_3 (wi_getf101 fReader_byteAt_4 (wi_ic_ge fReader_byteAt_5 (fun c2 => (wi_bipush fReader_byteAt_14 (wi_ret1 fReader_byteAt_15 ((h.2 c3).1 c2)))) (fun c2 => (wi_iload1 fReader_byteAt_6 (wi_bipush fReader_byteAt_7 (wi_ic_ge fReader_byteAt_8 (fun c1 => (wi_bipush fReader_byteAt_14 (wi_ret1 fReader_byteAt_15 (((h.2 c3).2 c2).1 c1)))) (fun c1 => (wi_aload0 fReader_byteAt_9 (wi_getf100 fReader_byteAt_10 (wi_iload1 fReader_byteAt_11 (wi_bald2160 fReader_byteAt_12 c3 c1 (wi_goto fReader_byteAt_13 (wi_ret1 fReader_byteAt_15 (((h.2 c3).2 c2).2 c1))))))))))))))))))))
theorem fReader_isLetter_0 : w_fe am_c15 0 1 (.iload 0) := ⟨rfl, rfl⟩
theorem fReader_isLetter_1 : w_fe am_c15 1 2 (.bipush 97) := ⟨rfl, rfl⟩
theorem fReader_isLetter_2 : w_ic am_c15 2 3 .lt 8 := ⟨rfl, rfl⟩
theorem fReader_isLetter_3 : w_fe am_c15 3 4 (.iload 0) := ⟨rfl, rfl⟩
theorem fReader_isLetter_4 : w_fe am_c15 4 5 (.bipush 122) := ⟨rfl, rfl⟩
theorem fReader_isLetter_5 : w_ic am_c15 5 6 .gt 8 := ⟨rfl, rfl⟩
theorem fReader_isLetter_6 : w_fe am_c15 6 7 (.bipush 1) := ⟨rfl, rfl⟩
theorem fReader_isLetter_7 : w_gt am_c15 7 9 := rfl
theorem fReader_isLetter_8 : w_fe am_c15 8 9 (.bipush 0) := ⟨rfl, rfl⟩
theorem fReader_isLetter_9 : w_fe am_c15 9 10 (.ireturn) := ⟨rfl, rfl⟩
set_option maxRecDepth 20000 in
theorem bReader_isLetter_0 {xs : List Int} {d : Nat} {Q : Option w_V → w_M → Prop} {x0 : Int} {σ : w_M}
    (h : (x0 < 97 → Q (some (.inl 0)) σ) ∧ (97 ≤ x0 → ((122 < x0 → Q (some (.inl 0)) σ) ∧ (x0 ≤ 122 → Q (some (.inl 1)) σ)))) : w_Call (xs, d) 15 [.inl x0] σ Q :=
  (w_mk (mid := 15) (by decide) rfl rfl rfl rfl rfl (Nat.le_of_ble_eq_true rfl) trivial (wi_iload0 fReader_isLetter_0 (wi_bipush fReader_isLetter_1 (wi_ic_lt fReader_isLetter_2 (fun c2 => (wi_bipush fReader_isLetter_8 (wi_ret2 fReader_isLetter_9 (by decide) (h.1 c2)))) (fun c2 => (wi_iload0 fReader_isLetter_3 (wi_bipush fReader_isLetter_4 (wi_ic_gt fReader_isLetter_5 (fun c1 => (wi_bipush fReader_isLetter_8 (wi_ret2 fReader_isLetter_9 (by decide) ((h.2 c2).1 c1)))) (fun c1 => (wi_bipush fReader_isLetter_6 (wi_goto fReader_isLetter_7 (wi_ret2 fReader_isLetter_9 (by decide) ((h.2 c2).2 c1)))))))))))))
theorem fReader_isFigure_0 : w_fe am_c16 0 1 (.iload 0) := ⟨rfl, rfl⟩
theorem fReader_isFigure_1 : w_fe am_c16 1 2 (.bipush 48) := ⟨rfl, rfl⟩
theorem fReader_isFigure_2 : w_ic am_c16 2 3 .lt 8 := ⟨rfl, rfl⟩
theorem fReader_isFigure_3 : w_fe am_c16 3 4 (.iload 0) := ⟨rfl, rfl⟩
theorem fReader_isFigure_4 : w_fe am_c16 4 5 (.bipush 57) := ⟨rfl, rfl⟩
theorem fReader_isFigure_5 : w_ic am_c16 5 6 .gt 8 := ⟨rfl, rfl⟩
theorem fReader_isFigure_6 : w_fe am_c16 6 7 (.bipush 1) := ⟨rfl, rfl⟩
theorem fReader_isFigure_7 : w_gt am_c16 7 9 := rfl
theorem fReader_isFigure_8 : w_fe am_c16 8 9 (.bipush 0) := ⟨rfl, rfl⟩
theorem fReader_isFigure_9 : w_fe am_c16 9 10 (.ireturn) := ⟨rfl, rfl⟩
set_option maxRecDepth 20000 in
theorem bReader_isFigure_0 {xs : List Int} {d : Nat} {Q : Option w_V → w_M → Prop} {x0 : Int} {σ : w_M}
    (h : (x0 < 48 → Q (some (.inl 0)) σ) ∧ (48 ≤ x0 → ((57 < x0 → Q (some (.inl 0)) σ) ∧ (x0 ≤ 57 → Q (some (.inl 1)) σ)))) : w_Call (xs, d) 16 [.inl x0] σ Q :=
  (w_mk (mid := 16) (by decide) rfl rfl rfl rfl rfl (Nat.le_of_ble_eq_true rfl) trivial (wi_iload0 fReader_isFigure_0 (wi_bipush fReader_isFigure_1 (wi_ic_lt fReader_isFigure_2 (fun c2 => (wi_bipush fReader_isFigure_8 (wi_ret2 fReader_isFigure_9 (by decide) (h.1 c2)))) (fun c2 => (wi_iload0 fReader_isFigure_3 (wi_bipush fReader_isFigure_4 (wi_ic_gt fReader_isFigure_5 (fun c1 => (wi_bipush fReader_isFigure_8 (wi_ret2 fReader_isFigure_9 (by decide) ((h.2 c2).1 c1)))) (fun c1 => (wi_bipush fReader_isFigure_6 (wi_goto fReader_isFigure_7 (wi_ret2 fReader_isFigure_9 (by decide) ((h.2 c2).2 c1)))))))))))))
theorem fReader_fail_0 : w_fe am_c18 0 1 (.aload 0) := ⟨rfl, rfl⟩
theorem fReader_fail_1 : w_fe am_c18 1 2 (.getfield 103) := ⟨rfl, rfl⟩
theorem fReader_fail_2 : w_if am_c18 2 3 .ne 9 := ⟨rfl, rfl⟩
theorem fReader_fail_3 : w_fe am_c18 3 4 (.aload 0) := ⟨rfl, rfl⟩
theorem fReader_fail_4 : w_fe am_c18 4 5 (.iload 1) := ⟨rfl, rfl⟩
theorem fReader_fail_5 : w_fe am_c18 5 6 (.putfield 103) := ⟨rfl, rfl⟩
theorem fReader_fail_6 : w_fe am_c18 6 7 (.aload 0) := ⟨rfl, rfl⟩
theorem fReader_fail_7 : w_fe am_c18 7 8 (.iload 2) := ⟨rfl, rfl⟩
theorem fReader_fail_8 : w_fe am_c18 8 9 (.putfield 104) := ⟨rfl, rfl⟩
theorem fReader_fail_9 : w_fe am_c18 9 10 (.return_) := ⟨rfl, rfl⟩
set_option maxRecDepth 20000 in
theorem bReader_fail_0 {xs : List Int} {d : Nat} {Q : Option w_V → w_M → Prop} {x1 : Int} {x2 : Int} {σ : w_M}
    (h : (¬ (σ 1 3) = 0 → Q none σ) ∧ ((σ 1 3) = 0 → ∀ (τ1 : w_M), τ1 = w_up σ 1 3 x1 → ∀ (τ2 : w_M), τ2 = w_up τ1 1 4 x2 → Q none τ2)) : w_Call (xs, d) 18 [.inr (.inr (1, 1)), .inl x1, .inl x2] σ Q :=
  (w_mk (mid := 18) (by decide) rfl rfl rfl rfl rfl (Nat.le_of_ble_eq_true rfl) ⟨rfl, Or.inl (by decide)⟩ (wi_aload0 fReader_fail_0 (wi_getf103 fReader_fail_1 (wi_if_ne fReader_fail_2 (fun c3 => (wi_ret0 fReader_fail_9 (h.1 c3))) (fun c3 => (wi_aload0 fReader_fail_3 (wi_iload1 fReader_fail_4 (wi_putf103 fReader_fail_5 (wi_aload0 fReader_fail_6 (wi_iload2 fReader_fail_7 (wi_putf104 fReader_fail_8 (wi_ret0 fReader_fail_9 (((h.2 c3) _ rfl) _ rfl)))))))))))))
theorem k_Reader_byteAt {xs : List Int} {d : Nat} {Q : Option w_V → w_M → Prop} {x1 : Int} {σ : w_M} (hQ : Q (some (.inl (v_Reader_byteAt x1 σ))) σ) : w_Call (xs, d) 14 [.inr (.inr (1, 1)), .inl x1] σ Q := by
  unfold v_Reader_byteAt at hQ
  refine bReader_byteAt_0 ⟨fun c => ?_, fun c => ⟨fun c2 => ?_, fun c2 => ⟨fun c3 => ?_, fun c3 => ?_⟩⟩⟩
  · rw [if_neg (by omega)] at hQ; exact hQ
  · rw [if_neg (by omega)] at hQ; exact hQ
  · rw [if_neg (by omega)] at hQ; exact hQ
  · rw [if_pos (by omega)] at hQ; exact hQ
theorem k_Reader_isLetter {xs : List Int} {d : Nat} {Q : Option w_V → w_M → Prop} {x0 : Int} {σ : w_M} (hQ : Q (some (.inl (w_bi (97 ≤ x0 ∧ x0 ≤ 122)))) σ) : w_Call (xs, d) 15 [.inl x0] σ Q := by
  refine bReader_isLetter_0 ⟨fun c => ?_, fun c => ⟨fun c2 => ?_, fun c2 => ?_⟩⟩
  · rw [w_bi_f (by omega)] at hQ; exact hQ
  · rw [w_bi_f (by omega)] at hQ; exact hQ
  · rw [w_bi_t (by omega)] at hQ; exact hQ
theorem k_Reader_isFigure {xs : List Int} {d : Nat} {Q : Option w_V → w_M → Prop} {x0 : Int} {σ : w_M} (hQ : Q (some (.inl (w_bi (48 ≤ x0 ∧ x0 ≤ 57)))) σ) : w_Call (xs, d) 16 [.inl x0] σ Q := by
  refine bReader_isFigure_0 ⟨fun c => ?_, fun c => ⟨fun c2 => ?_, fun c2 => ?_⟩⟩
  · rw [w_bi_f (by omega)] at hQ; exact hQ
  · rw [w_bi_f (by omega)] at hQ; exact hQ
  · rw [w_bi_t (by omega)] at hQ; exact hQ
noncomputable def q_Reader_fail (n p : Int) (σ σ' : w_M) : Prop := (σ 1 3 = 0 → σ' = w_up (w_up σ 1 3 n) 1 4 p) ∧ (¬ σ 1 3 = 0 → σ' = σ)
theorem k_Reader_fail {xs : List Int} {d : Nat} {Q : Option w_V → w_M → Prop} {x1 : Int} {x2 : Int} {σ : w_M} (hQ : ∀ σ' : w_M, q_Reader_fail x1 x2 σ σ' → Q none σ') : w_Call (xs, d) 18 [.inr (.inr (1, 1)), .inl x1, .inl x2] σ Q := by
  refine bReader_fail_0 ⟨fun c => hQ _ ⟨fun h => absurd h c, fun _ => rfl⟩, fun c τ1 t1 τ2 t2 => hQ _ ⟨fun _ => by rw [t2, t1], fun h => absurd c h⟩⟩
/-- where a number ends, and how it is told -/
noncomputable def r_num (σ σ' : w_M) (f e : Nat) (c c1 : Int) : Prop := (e ≤ f + 2 ∧ σ' 1 7 = 2 ∧ σ' 1 3 = 0 ∧ σ' 1 4 = σ 1 4 ∧ σ' 1 10 = (if e = f + 1 then c - 48 else (c - 48) * 10 + c1 - 48)) ∨ (f + 2 < e ∧ σ' 1 7 = 4 ∧ σ' 1 3 = 1 ∧ σ' 1 4 = f)
noncomputable def p_Reader_readFigures (σ : w_M) : Prop := (r_ok σ ∧ σ 1 3 = 0) ∧ (0 ≤ σ 1 8 ∧ σ 1 8 < σ 1 1) ∧ σ 1 9 = σ 1 8 + 1 ∧ (48 ≤ tb (rT σ) (rL σ) (σ 1 8).toNat ∧ tb (rT σ) (rL σ) (σ 1 8).toNat ≤ 57)
noncomputable def q_Reader_readFigures (σ σ' : w_M) : Prop := r_fr σ σ' ∧ σ' 1 8 = σ 1 8 ∧ σ' 1 9 = ((rn tP_f (rT σ) (rL σ) 160 ((σ 1 8).toNat + 1) : Nat) : Int) ∧ r_num σ σ' (σ 1 8).toNat (rn tP_f (rT σ) (rL σ) 160 ((σ 1 8).toNat + 1)) (tb (rT σ) (rL σ) (σ 1 8).toNat) (tb (rT σ) (rL σ) ((σ 1 8).toNat + 1))
noncomputable def w_c17 : List Instr := [.aload 0, .bipush 2, .putfield 107, .aload 0, .aload 0, .aload 0, .getfield 108, .invokestatic 14, .bipush 48, .isub, .putfield 110, .aload 0, .getfield 109, .aload 0, .getfield 101, .if_icmp .ge 42, .aload 0, .aload 0, .getfield 109, .invokestatic 14, .invokestatic 16, .ifCond .eq 42, .aload 0, .aload 0, .getfield 110, .bipush 10, .fmul, .aload 0, .aload 0, .getfield 109, .invokestatic 14, .fadd, .bipush 48, .fsub, .putfield 110, .aload 0, .dup, .getfield 109, .bipush 1, .iadd, .putfield 109, .goto 11, .aload 0, .getfield 109, .aload 0, .getfield 108, .isub, .bipush 2, .if_icmp .le 57, .aload 0, .bipush 4, .putfield 107, .aload 0, .bipush 1, .aload 0, .getfield 108, .invokestatic 18, .return_]
theorem fReader_readFigures_0 : w_fe w_c17 0 1 (.aload 0) := ⟨rfl, rfl⟩
theorem fReader_readFigures_1 : w_fe w_c17 1 2 (.bipush 2) := ⟨rfl, rfl⟩
theorem fReader_readFigures_2 : w_fe w_c17 2 3 (.putfield 107) := ⟨rfl, rfl⟩
theorem fReader_readFigures_3 : w_fe w_c17 3 4 (.aload 0) := ⟨rfl, rfl⟩
theorem fReader_readFigures_4 : w_fe w_c17 4 5 (.aload 0) := ⟨rfl, rfl⟩
theorem fReader_readFigures_5 : w_fe w_c17 5 6 (.aload 0) := ⟨rfl, rfl⟩
theorem fReader_readFigures_6 : w_fe w_c17 6 7 (.getfield 108) := ⟨rfl, rfl⟩
theorem fReader_readFigures_7 : w_fe w_c17 7 8 (.invokestatic 14) := ⟨rfl, rfl⟩
theorem fReader_readFigures_8 : w_fe w_c17 8 9 (.bipush 48) := ⟨rfl, rfl⟩
theorem fReader_readFigures_9 : w_fe w_c17 9 10 (.isub) := ⟨rfl, rfl⟩
theorem fReader_readFigures_10 : w_fe w_c17 10 11 (.putfield 110) := ⟨rfl, rfl⟩
theorem fReader_readFigures_11 : w_fe w_c17 11 12 (.aload 0) := ⟨rfl, rfl⟩
theorem fReader_readFigures_12 : w_fe w_c17 12 13 (.getfield 109) := ⟨rfl, rfl⟩
theorem fReader_readFigures_13 : w_fe w_c17 13 14 (.aload 0) := ⟨rfl, rfl⟩
theorem fReader_readFigures_14 : w_fe w_c17 14 15 (.getfield 101) := ⟨rfl, rfl⟩
theorem fReader_readFigures_15 : w_ic w_c17 15 16 .ge 42 := ⟨rfl, rfl⟩
theorem fReader_readFigures_16 : w_fe w_c17 16 17 (.aload 0) := ⟨rfl, rfl⟩
theorem fReader_readFigures_17 : w_fe w_c17 17 18 (.aload 0) := ⟨rfl, rfl⟩
theorem fReader_readFigures_18 : w_fe w_c17 18 19 (.getfield 109) := ⟨rfl, rfl⟩
theorem fReader_readFigures_19 : w_fe w_c17 19 20 (.invokestatic 14) := ⟨rfl, rfl⟩
theorem fReader_readFigures_20 : w_fe w_c17 20 21 (.invokestatic 16) := ⟨rfl, rfl⟩
theorem fReader_readFigures_21 : w_if w_c17 21 22 .eq 42 := ⟨rfl, rfl⟩
theorem fReader_readFigures_22 : w_fe w_c17 22 23 (.aload 0) := ⟨rfl, rfl⟩
theorem fReader_readFigures_23 : w_fe w_c17 23 24 (.aload 0) := ⟨rfl, rfl⟩
theorem fReader_readFigures_24 : w_fe w_c17 24 25 (.getfield 110) := ⟨rfl, rfl⟩
theorem fReader_readFigures_25 : w_fe w_c17 25 26 (.bipush 10) := ⟨rfl, rfl⟩
theorem fReader_readFigures_26 : w_fe w_c17 26 27 (.fmul) := ⟨rfl, rfl⟩
theorem fReader_readFigures_27 : w_fe w_c17 27 28 (.aload 0) := ⟨rfl, rfl⟩
theorem fReader_readFigures_28 : w_fe w_c17 28 29 (.aload 0) := ⟨rfl, rfl⟩
theorem fReader_readFigures_29 : w_fe w_c17 29 30 (.getfield 109) := ⟨rfl, rfl⟩
theorem fReader_readFigures_30 : w_fe w_c17 30 31 (.invokestatic 14) := ⟨rfl, rfl⟩
theorem fReader_readFigures_31 : w_fe w_c17 31 32 (.fadd) := ⟨rfl, rfl⟩
theorem fReader_readFigures_32 : w_fe w_c17 32 33 (.bipush 48) := ⟨rfl, rfl⟩
theorem fReader_readFigures_33 : w_fe w_c17 33 34 (.fsub) := ⟨rfl, rfl⟩
theorem fReader_readFigures_34 : w_fe w_c17 34 35 (.putfield 110) := ⟨rfl, rfl⟩
theorem fReader_readFigures_35 : w_fe w_c17 35 36 (.aload 0) := ⟨rfl, rfl⟩
theorem fReader_readFigures_36 : w_fe w_c17 36 37 (.dup) := ⟨rfl, rfl⟩
theorem fReader_readFigures_37 : w_fe w_c17 37 38 (.getfield 109) := ⟨rfl, rfl⟩
theorem fReader_readFigures_38 : w_fe w_c17 38 39 (.bipush 1) := ⟨rfl, rfl⟩
theorem fReader_readFigures_39 : w_fe w_c17 39 40 (.iadd) := ⟨rfl, rfl⟩
theorem fReader_readFigures_40 : w_fe w_c17 40 41 (.putfield 109) := ⟨rfl, rfl⟩
theorem fReader_readFigures_41 : w_gt w_c17 41 11 := rfl
theorem fReader_readFigures_42 : w_fe w_c17 42 43 (.aload 0) := ⟨rfl, rfl⟩
theorem fReader_readFigures_43 : w_fe w_c17 43 44 (.getfield 109) := ⟨rfl, rfl⟩
theorem fReader_readFigures_44 : w_fe w_c17 44 45 (.aload 0) := ⟨rfl, rfl⟩
theorem fReader_readFigures_45 : w_fe w_c17 45 46 (.getfield 108) := ⟨rfl, rfl⟩
theorem fReader_readFigures_46 : w_fe w_c17 46 47 (.isub) := ⟨rfl, rfl⟩
theorem fReader_readFigures_47 : w_fe w_c17 47 48 (.bipush 2) := ⟨rfl, rfl⟩
theorem fReader_readFigures_48 : w_ic w_c17 48 49 .le 57 := ⟨rfl, rfl⟩
theorem fReader_readFigures_49 : w_fe w_c17 49 50 (.aload 0) := ⟨rfl, rfl⟩
theorem fReader_readFigures_50 : w_fe w_c17 50 51 (.bipush 4) := ⟨rfl, rfl⟩
theorem fReader_readFigures_51 : w_fe w_c17 51 52 (.putfield 107) := ⟨rfl, rfl⟩
theorem fReader_readFigures_52 : w_fe w_c17 52 53 (.aload 0) := ⟨rfl, rfl⟩
theorem fReader_readFigures_53 : w_fe w_c17 53 54 (.bipush 1) := ⟨rfl, rfl⟩
theorem fReader_readFigures_54 : w_fe w_c17 54 55 (.aload 0) := ⟨rfl, rfl⟩
theorem fReader_readFigures_55 : w_fe w_c17 55 56 (.getfield 108) := ⟨rfl, rfl⟩
theorem fReader_readFigures_56 : w_fe w_c17 56 57 (.invokestatic 18) := ⟨rfl, rfl⟩
theorem fReader_readFigures_57 : w_fe w_c17 57 58 (.return_) := ⟨rfl, rfl⟩
noncomputable def LReader_readFigures_11 (xs : List Int) (d : Nat) (Q : Option w_V → w_M → Prop)  (σ : w_M) : Prop := w_Ex (xs, d) 0 w_c17 Q 11 [some (.inr (.inr (1, 1)))] [] σ
set_option maxRecDepth 20000 in
theorem bReader_readFigures_0 {xs : List Int} {d : Nat} {Q : Option w_V → w_M → Prop}  {σ : w_M}
    (h : ∀ (τ1 : w_M), τ1 = w_up σ 1 7 2 → ∀ (y2 : Int), y2 = v_Reader_byteAt (τ1 1 8) τ1 → (w_in (y2 - 48) ∧ (∀ (τ3 : w_M), τ3 = w_up τ1 1 10 (y2 - 48) → LReader_readFigures_11 xs (d + 1) Q τ3))) : w_Call (xs, (d + 1)) 17 [.inr (.inr (1, 1))] σ Q :=
  (w_mk (mid := 17) (by decide) rfl rfl rfl rfl rfl (Nat.le_of_ble_eq_true rfl) ⟨rfl, Or.inl (by decide)⟩ (wi_aload0 fReader_readFigures_0 (wi_bipush fReader_readFigures_1 (wi_putf107 fReader_readFigures_2 (wi_aload0 fReader_readFigures_3 (wi_aload0 fReader_readFigures_4 (wi_aload0 fReader_readFigures_5 (wi_getf108 fReader_readFigures_6 (wi_call2 fReader_readFigures_7 (Nat.le_of_ble_eq_true rfl) (k_Reader_byteAt (wi_bipush fReader_readFigures_8 (wi_isub fReader_readFigures_9 ((h _ rfl) _ rfl).1 (wi_putf110 fReader_readFigures_10 (((h _ rfl) _ rfl).2 _ rfl))))))))))))))
set_option maxRecDepth 20000 in
theorem bReader_readFigures_11 {xs : List Int} {d : Nat} {Q : Option w_V → w_M → Prop}  {σ : w_M}
    (h : ((σ 1 1) ≤ (σ 1 9) → (w_in ((σ 1 9) - (σ 1 8)) ∧ ((((σ 1 9) - (σ 1 8)) ≤ 2 → Q none σ) ∧ (2 < ((σ 1 9) - (σ 1 8)) → ∀ (τ1 : w_M), τ1 = w_up σ 1 7 4 → ∀ (τ2 : w_M), q_Reader_fail 1 (τ1 1 8) τ1 τ2 → Q none τ2)))) ∧ ((σ 1 9) < (σ 1 1) → ∀ (y4 : Int), y4 = v_Reader_byteAt (σ 1 9) σ → ((¬ (48 ≤ y4 ∧ y4 ≤ 57) → (w_in ((σ 1 9) - (σ 1 8)) ∧ ((((σ 1 9) - (σ 1 8)) ≤ 2 → Q none σ) ∧ (2 < ((σ 1 9) - (σ 1 8)) → ∀ (τ5 : w_M), τ5 = w_up σ 1 7 4 → ∀ (τ6 : w_M), q_Reader_fail 1 (τ5 1 8) τ5 τ6 → Q none τ6)))) ∧ ((48 ≤ y4 ∧ y4 ≤ 57) → ∀ (y8 : Int), y8 = v_Reader_byteAt (σ 1 9) σ → ∀ (τ9 : w_M), τ9 = w_up σ 1 10 (w_wr ((w_wr ((w_wr ((σ 1 10) * 10)) + y8)) - 48)) → (w_in ((τ9 1 9) + 1) ∧ (∀ (τ10 : w_M), τ10 = w_up τ9 1 9 ((τ9 1 9) + 1) → LReader_readFigures_11 xs (d + 1) Q τ10)))))) : LReader_readFigures_11 xs (d + 1) Q  σ :=
  (wi_aload0 fReader_readFigures_11 (wi_getf109 fReader_readFigures_12 (wi_aload0 fReader_readFigures_13 (wi_getf101 fReader_readFigures_14 (wi_ic_ge fReader_readFigures_15 (fun c12 => (wi_aload0 fReader_readFigures_42 (wi_getf109 fReader_readFigures_43 (wi_aload0 fReader_readFigures_44 (wi_getf108 fReader_readFigures_45 (wi_isub fReader_readFigures_46 (h.1 c12).1 (wi_bipush fReader_readFigures_47 (wi_ic_le fReader_readFigures_48 (fun c3 => (wi_ret0 fReader_readFigures_57 ((h.1 c12).2.1 c3))) (fun c3 => (wi_aload0 fReader_readFigures_49 (wi_bipush fReader_readFigures_50 (wi_putf107 fReader_readFigures_51 (wi_aload0 fReader_readFigures_52 (wi_bipush fReader_readFigures_53 (wi_aload0 fReader_readFigures_54 (wi_getf108 fReader_readFigures_55 (wi_call3 fReader_readFigures_56 (Nat.le_of_ble_eq_true rfl) (k_Reader_fail (fun τ2 eτ2 => (wi_ret0 fReader_readFigures_57 ((((h.1 c12).2.2 c3) _ rfl) τ2 eτ2))))))))))))))))))))) (fun c12 => (wi_aload0 fReader_readFigures_16 (wi_aload0 fReader_readFigures_17 (wi_getf109 fReader_readFigures_18 (wi_call2 fReader_readFigures_19 (Nat.le_of_ble_eq_true rfl) (k_Reader_byteAt (wi_call1 fReader_readFigures_20 (Nat.le_of_ble_eq_true rfl) (k_Reader_isFigure (wi_ifb_eq fReader_readFigures_21 (fun c11 => (wi_aload0 fReader_readFigures_42 (wi_getf109 fReader_readFigures_43 (wi_aload0 fReader_readFigures_44 (wi_getf108 fReader_readFigures_45 (wi_isub fReader_readFigures_46 (((h.2 c12) _ rfl).1 c11).1 (wi_bipush fReader_readFigures_47 (wi_ic_le fReader_readFigures_48 (fun c7 => (wi_ret0 fReader_readFigures_57 ((((h.2 c12) _ rfl).1 c11).2.1 c7))) (fun c7 => (wi_aload0 fReader_readFigures_49 (wi_bipush fReader_readFigures_50 (wi_putf107 fReader_readFigures_51 (wi_aload0 fReader_readFigures_52 (wi_bipush fReader_readFigures_53 (wi_aload0 fReader_readFigures_54 (wi_getf108 fReader_readFigures_55 (wi_call3 fReader_readFigures_56 (Nat.le_of_ble_eq_true rfl) (k_Reader_fail (fun τ6 eτ6 => (wi_ret0 fReader_readFigures_57 ((((((h.2 c12) _ rfl).1 c11).2.2 c7) _ rfl) τ6 eτ6))))))))))))))))))))) (fun c11 => (wi_aload0 fReader_readFigures_22 (wi_aload0 fReader_readFigures_23 (wi_getf110 fReader_readFigures_24 (wi_bipush fReader_readFigures_25 (wi_fmul fReader_readFigures_26 (wi_aload0 fReader_readFigures_27 (wi_aload0 fReader_readFigures_28 (wi_getf109 fReader_readFigures_29 (wi_call2 fReader_readFigures_30 (Nat.le_of_ble_eq_true rfl) (k_Reader_byteAt (wi_fadd fReader_readFigures_31 (wi_bipush fReader_readFigures_32 (wi_fsub fReader_readFigures_33 (wi_putf110 fReader_readFigures_34 (wi_aload0 fReader_readFigures_35 (wi_dup_a fReader_readFigures_36 (wi_getf109 fReader_readFigures_37 (wi_bipush fReader_readFigures_38 (wi_iadd fReader_readFigures_39 (((((h.2 c12) _ rfl).2 c11) _ rfl) _ rfl).1 (wi_putf109 fReader_readFigures_40 (wi_goto fReader_readFigures_41 ((((((h.2 c12) _ rfl).2 c11) _ rfl) _ rfl).2 _ rfl)))))))))))))))))))))))))))))))))))))
set_option maxHeartbeats 1000000 in
theorem k_Reader_readFigures {xs : List Int} {d : Nat} {Q : Option w_V → w_M → Prop}  {σ : w_M} (hp : p_Reader_readFigures σ) (hQ : ∀ σ' : w_M, q_Reader_readFigures σ σ' → Q none σ') : w_Call (xs, d + 1) 17 [.inr (.inr (1, 1))] σ Q := by
  obtain ⟨⟨hk, h3⟩, h8, h9, hc⟩ := hp
  have hk1 := hk.1
  unfold q_Reader_readFigures at hQ
  obtain ⟨f, hf⟩ : ∃ f : Nat, σ 1 8 = (f : Int) := ⟨(σ 1 8).toNat, by omega⟩
  rw [hf, Int.toNat_natCast] at hQ hc
  rw [hf] at h8 h9
  have hLe : rL σ = (σ 1 1).toNat := rfl
  have tbb : ∀ τ : w_M, r_fr σ τ → ∀ x : Int, 0 ≤ x → v_Reader_byteAt x τ = tb (rT σ) (rL σ) x.toNat := fun τ F x hx => by rw [r_byte (F.ok hk) hx, F.T, F.L]
  generalize hT : rT σ = T at *
  generalize hL : rL σ = L at *
  refine bReader_readFigures_0 (fun τ1 t1 y2 e2 => ?_)
  have F1 : r_fr σ τ1 := by rw [t1]; exact r_fr.rfl'.up (by decide) (by decide)
  have z8 : τ1 1 8 = (f : Int) := by rw [t1, w_up_j (by decide)]; exact hf
  rw [tbb τ1 F1 _ (by omega), z8, Int.toNat_natCast] at e2
  refine ⟨⟨by omega, by omega⟩, fun τ3 t3 => ?_⟩
  have fin : ∀ (i : Nat) (τ : w_M), r_fr σ τ → τ 1 3 = 0 → τ 1 4 = σ 1 4 → τ 1 7 = 2 → τ 1 8 = (f : Int) → τ 1 9 = ((f + 1 + i : Nat) : Int) → (∀ j, f + 1 ≤ j → j < f + 1 + i → tP_f (tb T L j) = true) → (i = 0 → τ 1 10 = tb T L f - 48) → (i = 1 → τ 1 10 = (tb T L f - 48) * 10 + tb T L (f + 1) - 48) → tP_f (tb T L (f + 1 + i)) = false → f + 1 + i ≤ L →
      (w_in (τ 1 9 - τ 1 8) ∧ ((τ 1 9 - τ 1 8 ≤ 2 → Q none τ) ∧ (2 < τ 1 9 - τ 1 8 → ∀ τ1 : w_M, τ1 = w_up τ 1 7 4 → ∀ τ2 : w_M, q_Reader_fail 1 (τ1 1 8) τ1 τ2 → Q none τ2))) := fun i τ F i3 i4 i7 i8 i9 hd hv0 hv1 hstop hle => by
    have ee : rn tP_f T L 160 (f + 1) = f + 1 + i := rn_of hstop _ _ (by omega) hd (by omega)
    rw [ee] at hQ
    refine ⟨⟨by omega, by omega⟩, fun c => hQ _ ⟨F, i8, i9, Or.inl ⟨by omega, i7, i3, i4, ?_⟩⟩, fun c τ5 t5 τ6 q6 => ?_⟩
    · by_cases h0 : i = 0
      · rw [hv0 h0, if_pos (by omega)]
      · rw [hv1 (by omega), if_neg (by omega)]
    · have z3 : τ5 1 3 = 0 := by rw [t5, w_up_j (by decide)]; exact i3
      have z8' : τ5 1 8 = (f : Int) := by rw [t5, w_up_j (by decide)]; exact i8
      have q6' := q6.1 z3
      rw [z8'] at q6'
      have F5 : r_fr σ τ5 := by rw [t5]; exact F.up (by decide) (by decide)
      refine hQ _ ⟨by rw [q6']; exact (F5.up (by decide) (by decide)).up (by decide) (by decide), ?_, ?_, Or.inr ⟨by omega, ?_, ?_, ?_⟩⟩
      · rw [q6', w_up_j (by decide), w_up_j (by decide)]; exact z8'
      · rw [q6', w_up_j (by decide), w_up_j (by decide), t5, w_up_j (by decide)]; exact i9
      · rw [q6', w_up_j (by decide), w_up_j (by decide), t5, w_up_at]
      · rw [q6', w_up_j (by decide), w_up_at]
      · rw [q6', w_up_at]
  refine (w_loop (n := L - (f + 1)) (P := fun i => ∀ τ : w_M, r_fr σ τ → τ 1 3 = 0 → τ 1 4 = σ 1 4 → τ 1 7 = 2 → τ 1 8 = (f : Int) → τ 1 9 = ((f + 1 + i : Nat) : Int) → (∀ j, f + 1 ≤ j → j < f + 1 + i → tP_f (tb T L j) = true) → (i = 0 → τ 1 10 = tb T L f - 48) → (i = 1 → τ 1 10 = (tb T L f - 48) * 10 + tb T L (f + 1) - 48) → LReader_readFigures_11 xs (d + 1) Q τ) ?_ ?_) τ3 ?_ ?_ ?_ ?_ ?_ ?_ (fun j h1 h2 => by omega) (fun _ => by rw [t3, w_up_at, e2]) (fun h => by omega)
  · intro τ F i3 i4 i7 i8 i9 hd hv0 hv1
    have hstop : tP_f (tb T L (f + 1 + (L - (f + 1)))) = false := by
      unfold tb
      rw [if_neg (by omega)]
      decide
    have e11 : τ 1 1 = σ 1 1 := F.2.1
    exact bReader_readFigures_11 ⟨fun _ => fin _ τ F i3 i4 i7 i8 i9 hd hv0 hv1 hstop (by omega), fun h => by omega⟩
  · intro i hi ih τ F i3 i4 i7 i8 i9 hd hv0 hv1
    have e11 : τ 1 1 = σ 1 1 := F.2.1
    have eb : v_Reader_byteAt (τ 1 9) τ = tb T L (f + 1 + i) := by rw [tbb τ F _ (by omega), i9, Int.toNat_natCast]
    refine bReader_readFigures_11 ⟨fun h => by omega, fun _ y4 e4 => ?_⟩
    rw [eb] at e4
    refine ⟨fun c => fin i τ F i3 i4 i7 i8 i9 hd hv0 hv1 (tP_ff (by rw [← e4]; exact c)) (by omega), fun c y8 e8 τ9 t9 => ?_⟩
    rw [eb] at e8
    have z9 : τ9 1 9 = ((f + 1 + i : Nat) : Int) := by rw [t9, w_up_j (by decide)]; exact i9
    refine ⟨⟨by omega, by omega⟩, fun τ10 t10 => ?_⟩
    have hdi : tP_f (tb T L (f + 1 + i)) = true := tP_ft.mpr (by rw [← e4]; exact c)
    refine ih τ10 ?_ ?_ ?_ ?_ ?_ ?_ (fun j h1 h2 => ?_) (fun h => by omega) (fun h => ?_)
    · rw [t10, t9]; exact (F.up (by decide) (by decide)).up (by decide) (by decide)
    · rw [t10, w_up_j (by decide), t9, w_up_j (by decide)]; exact i3
    · rw [t10, w_up_j (by decide), t9, w_up_j (by decide)]; exact i4
    · rw [t10, w_up_j (by decide), t9, w_up_j (by decide)]; exact i7
    · rw [t10, w_up_j (by decide), t9, w_up_j (by decide)]; exact i8
    · rw [t10, w_up_at, z9]; omega
    · by_cases e : j = f + 1 + i
      · rw [e]; exact hdi
      · exact hd j h1 (by omega)
    · have i0 : i = 0 := by omega
      subst i0
      have hv := hv0 rfl
      have hdd := tP_ft.mp hdi
      rw [t10, w_up_j (by decide), t9, w_up_at, hv, e8]
      rw [w_wr_of (x := (tb T L f - 48) * 10) ⟨by omega, by omega⟩, w_wr_of (x := (tb T L f - 48) * 10 + tb T L (f + 1 + 0)) ⟨by omega, by omega⟩, w_wr_of ⟨by omega, by omega⟩]
  · rw [t3]; exact F1.up (by decide) (by decide)
  · rw [t3, w_up_j (by decide), t1, w_up_j (by decide)]; exact h3
  · rw [t3, w_up_j (by decide), t1, w_up_j (by decide)]
  · rw [t3, w_up_j (by decide), t1, w_up_at]
  · rw [t3, w_up_j (by decide)]; exact z8
  · rw [t3, w_up_j (by decide), t1, w_up_j (by decide), h9]; omega
noncomputable def p_Reader_readToken (σ : w_M) : Prop := (r_ok σ ∧ σ 1 3 = 0) ∧ (0 ≤ σ 1 9 ∧ σ 1 9 ≤ σ 1 1)
/-- a token was read from p on -/
noncomputable def r_tok (T : Nat → Int) (L p : Nat) (σ σ' : w_M) : Prop := r_fr σ σ' ∧ σ' 1 8 = ((tk_f T L p : Nat) : Int) ∧ (¬ tk_k T L p = 0 → σ' 1 9 = ((tk_b T L p : Nat) : Int)) ∧ σ' 1 7 = tk_k T L p ∧ (tk_k T L p = 2 → σ' 1 10 = tk_v T L p) ∧ (tk_k T L p = 4 → σ' 1 3 = 1 ∧ σ' 1 4 = ((tk_f T L p : Nat) : Int)) ∧ (¬ tk_k T L p = 4 → σ' 1 3 = 0 ∧ σ' 1 4 = σ 1 4)
noncomputable def q_Reader_readToken (σ σ' : w_M) : Prop := r_tok (rT σ) (rL σ) (σ 1 9).toNat σ σ'
theorem fReader_readToken_0 : w_fe am_c13 0 1 (.aload 0) := ⟨rfl, rfl⟩
theorem fReader_readToken_1 : w_fe am_c13 1 2 (.aload 0) := ⟨rfl, rfl⟩
theorem fReader_readToken_2 : w_fe am_c13 2 3 (.getfield 109) := ⟨rfl, rfl⟩
theorem fReader_readToken_3 : w_fe am_c13 3 4 (.putfield 108) := ⟨rfl, rfl⟩
theorem fReader_readToken_4 : w_fe am_c13 4 5 (.aload 0) := ⟨rfl, rfl⟩
theorem fReader_readToken_5 : w_fe am_c13 5 6 (.aload 0) := ⟨rfl, rfl⟩
theorem fReader_readToken_6 : w_fe am_c13 6 7 (.getfield 108) := ⟨rfl, rfl⟩
theorem fReader_readToken_7 : w_fe am_c13 7 8 (.invokestatic 14) := ⟨rfl, rfl⟩
theorem fReader_readToken_8 : w_fe am_c13 8 9 (.bipush 32) := ⟨rfl, rfl⟩
theorem fReader_readToken_9 : w_ic am_c13 9 10 .ne 22 := ⟨rfl, rfl⟩
theorem fReader_readToken_10 : w_fe am_c13 10 11 (.aload 0) := ⟨rfl, rfl⟩
theorem fReader_readToken_11 : w_fe am_c13 11 12 (.getfield 108) := ⟨rfl, rfl⟩
theorem fReader_readToken_12 : w_fe am_c13 12 13 (.aload 0) := ⟨rfl, rfl⟩
theorem fReader_readToken_13 : w_fe am_c13 13 14 (.getfield 101) := ⟨rfl, rfl⟩
theorem fReader_readToken_14 : w_ic am_c13 14 15 .ge 22 := ⟨rfl, rfl⟩
theorem fReader_readToken_15 : w_fe am_c13 15 16 (.aload 0) := ⟨rfl, rfl⟩
theorem fReader_readToken_16 : w_fe am_c13 16 17 (.dup) := ⟨rfl, rfl⟩
theorem fReader_readToken_17 : w_fe am_c13 17 18 (.getfield 108) := ⟨rfl, rfl⟩
theorem fReader_readToken_18 : w_fe am_c13 18 19 (.bipush 1) := ⟨rfl, rfl⟩
theorem fReader_readToken_19 : w_fe am_c13 19 20 (.iadd) := ⟨rfl, rfl⟩
theorem fReader_readToken_20 : w_fe am_c13 20 21 (.putfield 108) := ⟨rfl, rfl⟩
theorem fReader_readToken_21 : w_gt am_c13 21 4 := rfl
theorem fReader_readToken_22 : w_fe am_c13 22 23 (.aload 0) := ⟨rfl, rfl⟩
theorem fReader_readToken_23 : w_fe am_c13 23 24 (.aload 0) := ⟨rfl, rfl⟩
theorem fReader_readToken_24 : w_fe am_c13 24 25 (.getfield 108) := ⟨rfl, rfl⟩
theorem fReader_readToken_25 : w_fe am_c13 25 26 (.bipush 1) := ⟨rfl, rfl⟩
theorem fReader_readToken_26 : w_fe am_c13 26 27 (.iadd) := ⟨rfl, rfl⟩
theorem fReader_readToken_27 : w_fe am_c13 27 28 (.putfield 109) := ⟨rfl, rfl⟩
theorem fReader_readToken_28 : w_fe am_c13 28 29 (.aload 0) := ⟨rfl, rfl⟩
theorem fReader_readToken_29 : w_fe am_c13 29 30 (.aload 0) := ⟨rfl, rfl⟩
theorem fReader_readToken_30 : w_fe am_c13 30 31 (.getfield 108) := ⟨rfl, rfl⟩
theorem fReader_readToken_31 : w_fe am_c13 31 32 (.invokestatic 14) := ⟨rfl, rfl⟩
theorem fReader_readToken_32 : w_fe am_c13 32 33 (.istore 1) := ⟨rfl, rfl⟩
theorem fReader_readToken_33 : w_fe am_c13 33 34 (.aload 0) := ⟨rfl, rfl⟩
theorem fReader_readToken_34 : w_fe am_c13 34 35 (.getfield 108) := ⟨rfl, rfl⟩
theorem fReader_readToken_35 : w_fe am_c13 35 36 (.aload 0) := ⟨rfl, rfl⟩
theorem fReader_readToken_36 : w_fe am_c13 36 37 (.getfield 101) := ⟨rfl, rfl⟩
theorem fReader_readToken_37 : w_ic am_c13 37 38 .lt 42 := ⟨rfl, rfl⟩
theorem fReader_readToken_38 : w_fe am_c13 38 39 (.aload 0) := ⟨rfl, rfl⟩
theorem fReader_readToken_39 : w_fe am_c13 39 40 (.bipush 0) := ⟨rfl, rfl⟩
theorem fReader_readToken_40 : w_fe am_c13 40 41 (.putfield 107) := ⟨rfl, rfl⟩
theorem fReader_readToken_41 : w_gt am_c13 41 87 := rfl
theorem fReader_readToken_42 : w_fe am_c13 42 43 (.iload 1) := ⟨rfl, rfl⟩
theorem fReader_readToken_43 : w_fe am_c13 43 44 (.invokestatic 15) := ⟨rfl, rfl⟩
theorem fReader_readToken_44 : w_if am_c13 44 45 .eq 66 := ⟨rfl, rfl⟩
theorem fReader_readToken_45 : w_fe am_c13 45 46 (.aload 0) := ⟨rfl, rfl⟩
theorem fReader_readToken_46 : w_fe am_c13 46 47 (.bipush 1) := ⟨rfl, rfl⟩
theorem fReader_readToken_47 : w_fe am_c13 47 48 (.putfield 107) := ⟨rfl, rfl⟩
theorem fReader_readToken_48 : w_fe am_c13 48 49 (.aload 0) := ⟨rfl, rfl⟩
theorem fReader_readToken_49 : w_fe am_c13 49 50 (.getfield 109) := ⟨rfl, rfl⟩
theorem fReader_readToken_50 : w_fe am_c13 50 51 (.aload 0) := ⟨rfl, rfl⟩
theorem fReader_readToken_51 : w_fe am_c13 51 52 (.getfield 101) := ⟨rfl, rfl⟩
theorem fReader_readToken_52 : w_ic am_c13 52 53 .ge 87 := ⟨rfl, rfl⟩
theorem fReader_readToken_53 : w_fe am_c13 53 54 (.aload 0) := ⟨rfl, rfl⟩
theorem fReader_readToken_54 : w_fe am_c13 54 55 (.aload 0) := ⟨rfl, rfl⟩
theorem fReader_readToken_55 : w_fe am_c13 55 56 (.getfield 109) := ⟨rfl, rfl⟩
theorem fReader_readToken_56 : w_fe am_c13 56 57 (.invokestatic 14) := ⟨rfl, rfl⟩
theorem fReader_readToken_57 : w_fe am_c13 57 58 (.invokestatic 15) := ⟨rfl, rfl⟩
theorem fReader_readToken_58 : w_if am_c13 58 59 .eq 87 := ⟨rfl, rfl⟩
theorem fReader_readToken_59 : w_fe am_c13 59 60 (.aload 0) := ⟨rfl, rfl⟩
theorem fReader_readToken_60 : w_fe am_c13 60 61 (.dup) := ⟨rfl, rfl⟩
theorem fReader_readToken_61 : w_fe am_c13 61 62 (.getfield 109) := ⟨rfl, rfl⟩
theorem fReader_readToken_62 : w_fe am_c13 62 63 (.bipush 1) := ⟨rfl, rfl⟩
theorem fReader_readToken_63 : w_fe am_c13 63 64 (.iadd) := ⟨rfl, rfl⟩
theorem fReader_readToken_64 : w_fe am_c13 64 65 (.putfield 109) := ⟨rfl, rfl⟩
theorem fReader_readToken_65 : w_gt am_c13 65 48 := rfl
theorem fReader_readToken_66 : w_fe am_c13 66 67 (.iload 1) := ⟨rfl, rfl⟩
theorem fReader_readToken_67 : w_fe am_c13 67 68 (.invokestatic 16) := ⟨rfl, rfl⟩
theorem fReader_readToken_68 : w_if am_c13 68 69 .eq 72 := ⟨rfl, rfl⟩
theorem fReader_readToken_69 : w_fe am_c13 69 70 (.aload 0) := ⟨rfl, rfl⟩
theorem fReader_readToken_70 : w_fe am_c13 70 71 (.invokestatic 17) := ⟨rfl, rfl⟩
theorem fReader_readToken_71 : w_gt am_c13 71 87 := rfl
theorem fReader_readToken_72 : w_fe am_c13 72 73 (.iload 1) := ⟨rfl, rfl⟩
theorem fReader_readToken_73 : w_fe am_c13 73 74 (.bipush 59) := ⟨rfl, rfl⟩
theorem fReader_readToken_74 : w_ic am_c13 74 75 .ne 79 := ⟨rfl, rfl⟩
theorem fReader_readToken_75 : w_fe am_c13 75 76 (.aload 0) := ⟨rfl, rfl⟩
theorem fReader_readToken_76 : w_fe am_c13 76 77 (.bipush 3) := ⟨rfl, rfl⟩
theorem fReader_readToken_77 : w_fe am_c13 77 78 (.putfield 107) := ⟨rfl, rfl⟩
theorem fReader_readToken_78 : w_gt am_c13 78 87 := rfl
theorem fReader_readToken_79 : w_fe am_c13 79 80 (.aload 0) := ⟨rfl, rfl⟩
theorem fReader_readToken_80 : w_fe am_c13 80 81 (.bipush 4) := ⟨rfl, rfl⟩
theorem fReader_readToken_81 : w_fe am_c13 81 82 (.putfield 107) := ⟨rfl, rfl⟩
theorem fReader_readToken_82 : w_fe am_c13 82 83 (.aload 0) := ⟨rfl, rfl⟩
theorem fReader_readToken_83 : w_fe am_c13 83 84 (.bipush 1) := ⟨rfl, rfl⟩
theorem fReader_readToken_84 : w_fe am_c13 84 85 (.aload 0) := ⟨rfl, rfl⟩
theorem fReader_readToken_85 : w_fe am_c13 85 86 (.getfield 108) := ⟨rfl, rfl⟩
theorem fReader_readToken_86 : w_fe am_c13 86 87 (.invokestatic 18) := ⟨rfl, rfl⟩
theorem fReader_readToken_87 : w_fe am_c13 87 88 (.return_) := ⟨rfl, rfl⟩
noncomputable def LReader_readToken_4 (xs : List Int) (d : Nat) (Q : Option w_V → w_M → Prop)  (σ : w_M) : Prop := ∀ l1, w_nl l1 → w_Ex (xs, d) 0 am_c13 Q 4 [some (.inr (.inr (1, 1))), l1] [] σ
noncomputable def LReader_readToken_48 (xs : List Int) (d : Nat) (Q : Option w_V → w_M → Prop)  (σ : w_M) : Prop := ∀ l1, w_nl l1 → w_Ex (xs, d) 0 am_c13 Q 48 [some (.inr (.inr (1, 1))), l1] [] σ
set_option maxRecDepth 20000 in
theorem bReader_readToken_0 {xs : List Int} {d : Nat} {Q : Option w_V → w_M → Prop}  {σ : w_M}
    (h : ∀ (τ1 : w_M), τ1 = w_up σ 1 8 (σ 1 9) → LReader_readToken_4 xs (d + 2) Q τ1) : w_Call (xs, (d + 2)) 13 [.inr (.inr (1, 1))] σ Q :=
  (w_mk (mid := 13) (by decide) rfl rfl rfl rfl rfl (Nat.le_of_ble_eq_true rfl) ⟨rfl, Or.inl (by decide)⟩ (wi_aload0 fReader_readToken_0 (wi_aload0 fReader_readToken_1 (wi_getf109 fReader_readToken_2 (wi_putf108 fReader_readToken_3 ((h _ rfl) _ (by exact trivial)))))))
set_option maxRecDepth 20000 in
theorem bReader_readToken_4 {xs : List Int} {d : Nat} {Q : Option w_V → w_M → Prop}  {σ : w_M}
    (h : ∀ (y1 : Int), y1 = v_Reader_byteAt (σ 1 8) σ → ((¬ y1 = 32 → (w_in ((σ 1 8) + 1) ∧ (∀ (τ2 : w_M), τ2 = w_up σ 1 9 ((σ 1 8) + 1) → ∀ (y3 : Int), y3 = v_Reader_byteAt (τ2 1 8) τ2 → (((τ2 1 8) < (τ2 1 1) → ((¬ (97 ≤ y3 ∧ y3 ≤ 122) → ((¬ (48 ≤ y3 ∧ y3 ≤ 57) → ((¬ y3 = 59 → ∀ (τ4 : w_M), τ4 = w_up τ2 1 7 4 → ∀ (τ5 : w_M), q_Reader_fail 1 (τ4 1 8) τ4 τ5 → Q none τ5) ∧ (y3 = 59 → ∀ (τ6 : w_M), τ6 = w_up τ2 1 7 3 → Q none τ6))) ∧ ((48 ≤ y3 ∧ y3 ≤ 57) → (p_Reader_readFigures τ2 ∧ (∀ (τ8 : w_M), q_Reader_readFigures τ2 τ8 → Q none τ8))))) ∧ ((97 ≤ y3 ∧ y3 ≤ 122) → ∀ (τ10 : w_M), τ10 = w_up τ2 1 7 1 → LReader_readToken_48 xs (d + 2) Q τ10))) ∧ ((τ2 1 1) ≤ (τ2 1 8) → ∀ (τ12 : w_M), τ12 = w_up τ2 1 7 0 → Q none τ12))))) ∧ (y1 = 32 → (((σ 1 1) ≤ (σ 1 8) → (w_in ((σ 1 8) + 1) ∧ (∀ (τ14 : w_M), τ14 = w_up σ 1 9 ((σ 1 8) + 1) → ∀ (y15 : Int), y15 = v_Reader_byteAt (τ14 1 8) τ14 → (((τ14 1 8) < (τ14 1 1) → ((¬ (97 ≤ y15 ∧ y15 ≤ 122) → ((¬ (48 ≤ y15 ∧ y15 ≤ 57) → ((¬ y15 = 59 → ∀ (τ16 : w_M), τ16 = w_up τ14 1 7 4 → ∀ (τ17 : w_M), q_Reader_fail 1 (τ16 1 8) τ16 τ17 → Q none τ17) ∧ (y15 = 59 → ∀ (τ18 : w_M), τ18 = w_up τ14 1 7 3 → Q none τ18))) ∧ ((48 ≤ y15 ∧ y15 ≤ 57) → (p_Reader_readFigures τ14 ∧ (∀ (τ20 : w_M), q_Reader_readFigures τ14 τ20 → Q none τ20))))) ∧ ((97 ≤ y15 ∧ y15 ≤ 122) → ∀ (τ22 : w_M), τ22 = w_up τ14 1 7 1 → LReader_readToken_48 xs (d + 2) Q τ22))) ∧ ((τ14 1 1) ≤ (τ14 1 8) → ∀ (τ24 : w_M), τ24 = w_up τ14 1 7 0 → Q none τ24))))) ∧ ((σ 1 8) < (σ 1 1) → (w_in ((σ 1 8) + 1) ∧ (∀ (τ26 : w_M), τ26 = w_up σ 1 8 ((σ 1 8) + 1) → LReader_readToken_4 xs (d + 2) Q τ26))))))) : LReader_readToken_4 xs (d + 2) Q  σ :=
  fun l1 nl1 => (wi_aload0 fReader_readToken_4 (wi_aload0 fReader_readToken_5 (wi_getf108 fReader_readToken_6 (wi_call2 fReader_readToken_7 (Nat.le_of_ble_eq_true rfl) (k_Reader_byteAt (wi_bipush fReader_readToken_8 (wi_ic_ne fReader_readToken_9 (fun c28 => (wi_aload0 fReader_readToken_22 (wi_aload0 fReader_readToken_23 (wi_getf108 fReader_readToken_24 (wi_bipush fReader_readToken_25 (wi_iadd fReader_readToken_26 ((h _ rfl).1 c28).1 (wi_putf109 fReader_readToken_27 (wi_aload0 fReader_readToken_28 (wi_aload0 fReader_readToken_29 (wi_getf108 fReader_readToken_30 (wi_call2 fReader_readToken_31 (Nat.le_of_ble_eq_true rfl) (k_Reader_byteAt (wi_istore1 fReader_readToken_32 trivial (wi_aload0 fReader_readToken_33 (wi_getf108 fReader_readToken_34 (wi_aload0 fReader_readToken_35 (wi_getf101 fReader_readToken_36 (wi_ic_lt fReader_readToken_37 (fun c13 => (wi_iload1 fReader_readToken_42 (wi_call1 fReader_readToken_43 (Nat.le_of_ble_eq_true rfl) (k_Reader_isLetter (wi_ifb_eq fReader_readToken_44 (fun c11 => (wi_iload1 fReader_readToken_66 (wi_call1 fReader_readToken_67 (Nat.le_of_ble_eq_true rfl) (k_Reader_isFigure (wi_ifb_eq fReader_readToken_68 (fun c9 => (wi_iload1 fReader_readToken_72 (wi_bipush fReader_readToken_73 (wi_ic_ne fReader_readToken_74 (fun c7 => (wi_aload0 fReader_readToken_79 (wi_bipush fReader_readToken_80 (wi_putf107 fReader_readToken_81 (wi_aload0 fReader_readToken_82 (wi_bipush fReader_readToken_83 (wi_aload0 fReader_readToken_84 (wi_getf108 fReader_readToken_85 (wi_call3 fReader_readToken_86 (Nat.le_of_ble_eq_true rfl) (k_Reader_fail (fun τ5 eτ5 => (wi_ret0 fReader_readToken_87 ((((((((((h _ rfl).1 c28).2 _ rfl) _ rfl).1 c13).1 c11).1 c9).1 c7) _ rfl) τ5 eτ5))))))))))))) (fun c7 => (wi_aload0 fReader_readToken_75 (wi_bipush fReader_readToken_76 (wi_putf107 fReader_readToken_77 (wi_goto fReader_readToken_78 (wi_ret0 fReader_readToken_87 (((((((((h _ rfl).1 c28).2 _ rfl) _ rfl).1 c13).1 c11).1 c9).2 c7) _ rfl))))))))))) (fun c9 => (wi_aload0 fReader_readToken_69 (wi_call1 fReader_readToken_70 (Nat.le_of_ble_eq_true rfl) (k_Reader_readFigures (((((((h _ rfl).1 c28).2 _ rfl) _ rfl).1 c13).1 c11).2 c9).1 (fun τ8 eτ8 => (wi_goto fReader_readToken_71 (wi_ret0 fReader_readToken_87 ((((((((h _ rfl).1 c28).2 _ rfl) _ rfl).1 c13).1 c11).2 c9).2 τ8 eτ8))))))))))))) (fun c11 => (wi_aload0 fReader_readToken_45 (wi_bipush fReader_readToken_46 (wi_putf107 fReader_readToken_47 ((((((((h _ rfl).1 c28).2 _ rfl) _ rfl).1 c13).2 c11) _ rfl) _ (by exact trivial))))))))))) (fun c13 => (wi_aload0 fReader_readToken_38 (wi_bipush fReader_readToken_39 (wi_putf107 fReader_readToken_40 (wi_goto fReader_readToken_41 (wi_ret0 fReader_readToken_87 ((((((h _ rfl).1 c28).2 _ rfl) _ rfl).2 c13) _ rfl))))))))))))))))))))))))) (fun c28 => (wi_aload0 fReader_readToken_10 (wi_getf108 fReader_readToken_11 (wi_aload0 fReader_readToken_12 (wi_getf101 fReader_readToken_13 (wi_ic_ge fReader_readToken_14 (fun c27 => (wi_aload0 fReader_readToken_22 (wi_aload0 fReader_readToken_23 (wi_getf108 fReader_readToken_24 (wi_bipush fReader_readToken_25 (wi_iadd fReader_readToken_26 (((h _ rfl).2 c28).1 c27).1 (wi_putf109 fReader_readToken_27 (wi_aload0 fReader_readToken_28 (wi_aload0 fReader_readToken_29 (wi_getf108 fReader_readToken_30 (wi_call2 fReader_readToken_31 (Nat.le_of_ble_eq_true rfl) (k_Reader_byteAt (wi_istore1 fReader_readToken_32 trivial (wi_aload0 fReader_readToken_33 (wi_getf108 fReader_readToken_34 (wi_aload0 fReader_readToken_35 (wi_getf101 fReader_readToken_36 (wi_ic_lt fReader_readToken_37 (fun c25 => (wi_iload1 fReader_readToken_42 (wi_call1 fReader_readToken_43 (Nat.le_of_ble_eq_true rfl) (k_Reader_isLetter (wi_ifb_eq fReader_readToken_44 (fun c23 => (wi_iload1 fReader_readToken_66 (wi_call1 fReader_readToken_67 (Nat.le_of_ble_eq_true rfl) (k_Reader_isFigure (wi_ifb_eq fReader_readToken_68 (fun c21 => (wi_iload1 fReader_readToken_72 (wi_bipush fReader_readToken_73 (wi_ic_ne fReader_readToken_74 (fun c19 => (wi_aload0 fReader_readToken_79 (wi_bipush fReader_readToken_80 (wi_putf107 fReader_readToken_81 (wi_aload0 fReader_readToken_82 (wi_bipush fReader_readToken_83 (wi_aload0 fReader_readToken_84 (wi_getf108 fReader_readToken_85 (wi_call3 fReader_readToken_86 (Nat.le_of_ble_eq_true rfl) (k_Reader_fail (fun τ17 eτ17 => (wi_ret0 fReader_readToken_87 (((((((((((h _ rfl).2 c28).1 c27).2 _ rfl) _ rfl).1 c25).1 c23).1 c21).1 c19) _ rfl) τ17 eτ17))))))))))))) (fun c19 => (wi_aload0 fReader_readToken_75 (wi_bipush fReader_readToken_76 (wi_putf107 fReader_readToken_77 (wi_goto fReader_readToken_78 (wi_ret0 fReader_readToken_87 ((((((((((h _ rfl).2 c28).1 c27).2 _ rfl) _ rfl).1 c25).1 c23).1 c21).2 c19) _ rfl))))))))))) (fun c21 => (wi_aload0 fReader_readToken_69 (wi_call1 fReader_readToken_70 (Nat.le_of_ble_eq_true rfl) (k_Reader_readFigures ((((((((h _ rfl).2 c28).1 c27).2 _ rfl) _ rfl).1 c25).1 c23).2 c21).1 (fun τ20 eτ20 => (wi_goto fReader_readToken_71 (wi_ret0 fReader_readToken_87 (((((((((h _ rfl).2 c28).1 c27).2 _ rfl) _ rfl).1 c25).1 c23).2 c21).2 τ20 eτ20))))))))))))) (fun c23 => (wi_aload0 fReader_readToken_45 (wi_bipush fReader_readToken_46 (wi_putf107 fReader_readToken_47 (((((((((h _ rfl).2 c28).1 c27).2 _ rfl) _ rfl).1 c25).2 c23) _ rfl) _ (by exact trivial))))))))))) (fun c25 => (wi_aload0 fReader_readToken_38 (wi_bipush fReader_readToken_39 (wi_putf107 fReader_readToken_40 (wi_goto fReader_readToken_41 (wi_ret0 fReader_readToken_87 (((((((h _ rfl).2 c28).1 c27).2 _ rfl) _ rfl).2 c25) _ rfl))))))))))))))))))))))))) (fun c27 => (wi_aload0 fReader_readToken_15 (wi_dup_a fReader_readToken_16 (wi_getf108 fReader_readToken_17 (wi_bipush fReader_readToken_18 (wi_iadd fReader_readToken_19 (((h _ rfl).2 c28).2 c27).1 (wi_putf108 fReader_readToken_20 (wi_goto fReader_readToken_21 (((((h _ rfl).2 c28).2 c27).2 _ rfl) _ nl1))))))))))))))))))))))
set_option maxRecDepth 20000 in
theorem bReader_readToken_48 {xs : List Int} {d : Nat} {Q : Option w_V → w_M → Prop}  {σ : w_M}
    (h : ((σ 1 1) ≤ (σ 1 9) → Q none σ) ∧ ((σ 1 9) < (σ 1 1) → ∀ (y1 : Int), y1 = v_Reader_byteAt (σ 1 9) σ → ((¬ (97 ≤ y1 ∧ y1 ≤ 122) → Q none σ) ∧ ((97 ≤ y1 ∧ y1 ≤ 122) → (w_in ((σ 1 9) + 1) ∧ (∀ (τ2 : w_M), τ2 = w_up σ 1 9 ((σ 1 9) + 1) → LReader_readToken_48 xs (d + 2) Q τ2)))))) : LReader_readToken_48 xs (d + 2) Q  σ :=
  fun l1 nl1 => (wi_aload0 fReader_readToken_48 (wi_getf109 fReader_readToken_49 (wi_aload0 fReader_readToken_50 (wi_getf101 fReader_readToken_51 (wi_ic_ge fReader_readToken_52 (fun c4 => (wi_ret0 fReader_readToken_87 (h.1 c4))) (fun c4 => (wi_aload0 fReader_readToken_53 (wi_aload0 fReader_readToken_54 (wi_getf109 fReader_readToken_55 (wi_call2 fReader_readToken_56 (Nat.le_of_ble_eq_true rfl) (k_Reader_byteAt (wi_call1 fReader_readToken_57 (Nat.le_of_ble_eq_true rfl) (k_Reader_isLetter (wi_ifb_eq fReader_readToken_58 (fun c3 => (wi_ret0 fReader_readToken_87 (((h.2 c4) _ rfl).1 c3))) (fun c3 => (wi_aload0 fReader_readToken_59 (wi_dup_a fReader_readToken_60 (wi_getf109 fReader_readToken_61 (wi_bipush fReader_readToken_62 (wi_iadd fReader_readToken_63 (((h.2 c4) _ rfl).2 c3).1 (wi_putf109 fReader_readToken_64 (wi_goto fReader_readToken_65 (((((h.2 c4) _ rfl).2 c3).2 _ rfl) _ nl1)))))))))))))))))))))))
set_option maxHeartbeats 1000000 in
theorem k_Reader_readToken {xs : List Int} {d : Nat} {Q : Option w_V → w_M → Prop}  {σ : w_M} (hp : p_Reader_readToken σ) (hQ : ∀ σ' : w_M, q_Reader_readToken σ σ' → Q none σ') : w_Call (xs, d + 2) 13 [.inr (.inr (1, 1))] σ Q := by
  obtain ⟨⟨hk, h3⟩, h9⟩ := hp
  have hk1 := hk.1
  unfold q_Reader_readToken at hQ
  obtain ⟨p, hp9⟩ : ∃ p : Nat, σ 1 9 = (p : Int) := ⟨(σ 1 9).toNat, by omega⟩
  rw [hp9, Int.toNat_natCast] at hQ
  rw [hp9] at h9
  have hLe : rL σ = (σ 1 1).toNat := rfl
  have tbb : ∀ τ : w_M, r_fr σ τ → ∀ x : Int, 0 ≤ x → v_Reader_byteAt x τ = tb (rT σ) (rL σ) x.toNat := fun τ F x hx => by rw [r_byte (F.ok hk) hx, F.T, F.L]
  have tTL : ∀ τ : w_M, r_fr σ τ → rT τ = rT σ ∧ rL τ = rL σ ∧ r_ok τ := fun τ F => ⟨F.T, F.L, F.ok hk⟩
  generalize hT : rT σ = T at *
  generalize hL : rL σ = L at *
  have tbn : ∀ q, q < L → 0 ≤ tb T L q ∧ tb T L q ≤ 127 := fun q hq => by
    rw [← hT, ← hL, r_tb, if_pos (by rw [← hLe]; exact hq)]
    exact hk.2 q (by rw [← hLe]; exact hq)
  refine bReader_readToken_0 (fun τ1 t1 => ?_)
  refine (w_loop (n := L - p) (P := fun i => ∀ τ : w_M, r_fr σ τ → τ 1 3 = 0 → τ 1 4 = σ 1 4 → τ 1 8 = ((p + i : Nat) : Int) → (∀ j, p ≤ j → j < p + i → tP_s (tb T L j) = true) → LReader_readToken_4 xs (d + 2) Q τ) ?_ ?_) τ1 ?_ ?_ ?_ ?_ (fun j h1 h2 => by omega)
  · intro τ F i3 i4 i8 hsp
    have e11 : τ 1 1 = σ 1 1 := F.2.1
    have hend : tb T L (p + (L - p)) = -1 := by unfold tb; rw [if_neg (by omega)]
    have ef : tk_f T L p = p + (L - p) := rn_of (by rw [hend]; decide) _ _ (by omega) hsp (by omega)
    have ek : tk_k T L p = 0 := by unfold tk_k; rw [if_pos (by omega)]
    refine bReader_readToken_4 (fun y1 e1 => ?_)
    rw [tbb τ F _ (by omega), i8, Int.toNat_natCast, hend] at e1
    refine ⟨fun c => ⟨⟨by omega, by omega⟩, fun τ2 t2 y3 e3 => ⟨fun c2 => ?_, fun c2 τ12 t12 => ?_⟩⟩, fun c => by omega⟩
    · rw [t2, w_up_j (by decide), w_up_j (by decide)] at c2
      omega
    · refine hQ _ ⟨by rw [t12, t2]; exact (F.up (by decide) (by decide)).up (by decide) (by decide), ?_, fun h => absurd ek h, by rw [t12, w_up_at, ek], fun h => by omega, fun h => by omega, fun _ => ⟨?_, ?_⟩⟩
      · rw [t12, w_up_j (by decide), t2, w_up_j (by decide), i8, ef]
      · rw [t12, w_up_j (by decide), t2, w_up_j (by decide)]; exact i3
      · rw [t12, w_up_j (by decide), t2, w_up_j (by decide)]; exact i4
  · intro i hi ih τ F i3 i4 i8 hsp
    have e11 : τ 1 1 = σ 1 1 := F.2.1
    have hb := tbn (p + i) (by omega)
    refine bReader_readToken_4 (fun y1 e1 => ?_)
    rw [tbb τ F _ (by omega), i8, Int.toNat_natCast] at e1
    refine ⟨fun c => ⟨⟨by omega, by omega⟩, fun τ2 t2 => ?_⟩, fun c => ⟨fun c2 => by omega, fun c2 => ⟨⟨by omega, by omega⟩, fun τ26 t26 => ?_⟩⟩⟩
    · have ef : tk_f T L p = p + i := rn_of (tP_sf (by rw [← e1]; exact c)) _ _ (by omega) hsp (by omega)
      have ec : tk_c T L p = tb T L (p + i) := by unfold tk_c; rw [ef]
      have F2 : r_fr σ τ2 := by rw [t2]; exact F.up (by decide) (by decide)
      have z8 : τ2 1 8 = ((p + i : Nat) : Int) := by rw [t2, w_up_j (by decide)]; exact i8
      have z9 : τ2 1 9 = ((p + i + 1 : Nat) : Int) := by rw [t2, w_up_at, i8]; omega
      have z3 : τ2 1 3 = 0 := by rw [t2, w_up_j (by decide)]; exact i3
      have z4 : τ2 1 4 = σ 1 4 := by rw [t2, w_up_j (by decide)]; exact i4
      have z1 : τ2 1 1 = σ 1 1 := F2.2.1
      have kk : Unit → (tk_k T L p = if 97 ≤ tk_c T L p ∧ tk_c T L p ≤ 122 then 1 else if 48 ≤ tk_c T L p ∧ tk_c T L p ≤ 57 then (if tk_d T L p ≤ tk_f T L p + 2 then 2 else 4) else if tk_c T L p = 59 then 3 else 4) := fun _ => by unfold tk_k; rw [if_neg (by omega)]
      intro y3 e3
      rw [tbb τ2 F2 _ (by omega), z8, Int.toNat_natCast, ← ec] at e3
      rw [e3]
      refine ⟨fun c2 => ⟨fun c3 => ⟨fun c4 => ⟨fun c5 τ4 t4 τ5 q5 => ?_, fun c5 τ6 t6 => ?_⟩, fun c4 => ?_⟩, fun c3 τ10 t10 => ?_⟩, fun c2 => by omega⟩
      · -- a flaw
        have ek : tk_k T L p = 4 := by rw [kk (), if_neg c3, if_neg c4, if_neg c5]
        have eb : tk_b T L p = p + i + 1 := by unfold tk_b; rw [if_neg c3, if_neg c4, ef]
        have y3' : τ4 1 3 = 0 := by rw [t4, w_up_j (by decide)]; exact z3
        have y8' : τ4 1 8 = ((p + i : Nat) : Int) := by rw [t4, w_up_j (by decide)]; exact z8
        have q5' := q5.1 y3'
        rw [y8'] at q5'
        refine hQ _ ⟨by rw [q5', t4]; exact ((F2.up (by decide) (by decide)).up (by decide) (by decide)).up (by decide) (by decide), ?_, fun _ => ?_, ?_, fun h => by omega, fun _ => ⟨?_, ?_⟩, fun h => absurd ek h⟩
        · rw [q5', w_up_j (by decide), w_up_j (by decide), y8', ef]
        · rw [q5', w_up_j (by decide), w_up_j (by decide), t4, w_up_j (by decide), z9, eb]
        · rw [q5', w_up_j (by decide), w_up_j (by decide), t4, w_up_at, ek]
        · rw [q5', w_up_j (by decide), w_up_at]
        · rw [q5', w_up_at, ef]
      · -- a stop
        have ek : tk_k T L p = 3 := by rw [kk (), if_neg c3, if_neg c4, if_pos c5]
        have eb : tk_b T L p = p + i + 1 := by unfold tk_b; rw [if_neg c3, if_neg c4, ef]
        refine hQ _ ⟨by rw [t6]; exact F2.up (by decide) (by decide), ?_, fun _ => ?_, by rw [t6, w_up_at, ek], fun h => by omega, fun h => by omega, fun _ => ⟨?_, ?_⟩⟩
        · rw [t6, w_up_j (by decide), z8, ef]
        · rw [t6, w_up_j (by decide), z9, eb]
        · rw [t6, w_up_j (by decide)]; exact z3
        · rw [t6, w_up_j (by decide)]; exact z4
      · -- a number
        obtain ⟨g1, g2, g3⟩ := tTL τ2 F2
        refine ⟨⟨⟨g3, z3⟩, by omega, by omega, by rw [g1, g2, z8, Int.toNat_natCast, ← ec]; exact c4⟩, fun τ8 hq8 => ?_⟩
        obtain ⟨n1, n2, n3, n4⟩ := hq8
        rw [g1, g2, z8, Int.toNat_natCast] at n3 n4
        have ed : tk_d T L p = rn tP_f T L 160 (p + i + 1) := by unfold tk_d; rw [ef]
        rw [← ed] at n3 n4
        have eb : tk_b T L p = tk_d T L p := by unfold tk_b; rw [if_neg c3, if_pos c4]
        have kk2 := kk ()
        rw [if_neg c3, if_pos c4] at kk2
        replace kk : Unit → _ := fun _ => kk2
        clear kk2
        rcases n4 with ⟨m1, m2, m3, m4, m5⟩ | ⟨m1, m2, m3, m4⟩
        · replace kk := kk ()
          rw [if_pos (by omega)] at kk
          refine hQ _ ⟨F2.tr n1, by rw [n2, z8, ef], fun _ => by rw [n3, eb], by rw [m2, kk], fun _ => ?_, fun h => by omega, fun _ => ⟨m3, m4.trans z4⟩⟩
          rw [m5]
          unfold tk_v
          rw [ef, ec]
        · replace kk := kk ()
          rw [if_neg (by omega)] at kk
          exact hQ _ ⟨F2.tr n1, by rw [n2, z8, ef], fun _ => by rw [n3, eb], by rw [m2, kk], fun h => by omega, fun _ => ⟨m3, by rw [m4, ef]⟩, fun h => absurd kk h⟩
      · -- a name
        have ek : tk_k T L p = 1 := by rw [kk (), if_pos c3]
        refine (w_loop (n := L - (p + i + 1)) (P := fun k => ∀ τ : w_M, r_fr σ τ → τ 1 3 = 0 → τ 1 4 = σ 1 4 → τ 1 7 = 1 → τ 1 8 = ((p + i : Nat) : Int) → τ 1 9 = ((p + i + 1 + k : Nat) : Int) → (∀ j, p + i + 1 ≤ j → j < p + i + 1 + k → tP_l (tb T L j) = true) → LReader_readToken_48 xs (d + 2) Q τ) ?_ ?_) τ10 ?_ ?_ ?_ ?_ ?_ ?_ (fun j h1 h2 => by omega)
        · intro τ F' j3 j4 j7 j8 j9 hl
          have hend : tb T L (p + i + 1 + (L - (p + i + 1))) = -1 := by unfold tb; rw [if_neg (by omega)]
          have eb : tk_b T L p = p + i + 1 + (L - (p + i + 1)) := by
            unfold tk_b
            rw [if_pos c3, ef]
            exact rn_of (by rw [hend]; decide) _ _ (by omega) hl (by omega)
          have f11 : τ 1 1 = σ 1 1 := F'.2.1
          exact bReader_readToken_48 ⟨fun _ => hQ _ ⟨F', by rw [j8, ef], fun _ => by rw [j9, eb], by rw [j7, ek], fun h => by omega, fun h => by omega, fun _ => ⟨j3, j4⟩⟩, fun h => by omega⟩
        · intro k hk2 ih2 τ F' j3 j4 j7 j8 j9 hl
          have f11 : τ 1 1 = σ 1 1 := F'.2.1
          refine bReader_readToken_48 ⟨fun h => by omega, fun _ y1' e1' => ?_⟩
          rw [tbb τ F' _ (by omega), j9, Int.toNat_natCast] at e1'
          refine ⟨fun c6 => ?_, fun c6 => ⟨⟨by omega, by omega⟩, fun τ2' t2' => ?_⟩⟩
          · have eb : tk_b T L p = p + i + 1 + k := by
              unfold tk_b
              rw [if_pos c3, ef]
              exact rn_of (tP_lf (by rw [← e1']; exact c6)) _ _ (by omega) hl (by omega)
            exact hQ _ ⟨F', by rw [j8, ef], fun _ => by rw [j9, eb], by rw [j7, ek], fun h => by omega, fun h => by omega, fun _ => ⟨j3, j4⟩⟩
          · refine ih2 τ2' (by rw [t2']; exact F'.up (by decide) (by decide)) ?_ ?_ ?_ ?_ ?_ (fun j h1 h2 => ?_)
            · rw [t2', w_up_j (by decide)]; exact j3
            · rw [t2', w_up_j (by decide)]; exact j4
            · rw [t2', w_up_j (by decide)]; exact j7
            · rw [t2', w_up_j (by decide)]; exact j8
            · rw [t2', w_up_at, j9]; omega
            · by_cases e : j = p + i + 1 + k
              · rw [e]; exact tP_lt.mpr (by rw [← e1']; exact c6)
              · exact hl j h1 (by omega)
        · rw [t10]; exact F2.up (by decide) (by decide)
        · rw [t10, w_up_j (by decide)]; exact z3
        · rw [t10, w_up_j (by decide)]; exact z4
        · rw [t10, w_up_at]
        · rw [t10, w_up_j (by decide)]; exact z8
        · rw [t10, w_up_j (by decide)]; exact z9
    · refine ih τ26 (by rw [t26]; exact F.up (by decide) (by decide)) ?_ ?_ ?_ (fun j h1 h2 => ?_)
      · rw [t26, w_up_j (by decide)]; exact i3
      · rw [t26, w_up_j (by decide)]; exact i4
      · rw [t26, w_up_at, i8]; omega
      · by_cases e : j = p + i
        · rw [e]; exact tP_st (by rw [← e1]; exact c)
        · exact hsp j h1 (by omega)
  · rw [t1]; exact r_fr.rfl'.up (by decide) (by decide)
  · rw [t1, w_up_j (by decide)]; exact h3
  · rw [t1, w_up_j (by decide)]
  · rw [t1, w_up_at, hp9]; omega
