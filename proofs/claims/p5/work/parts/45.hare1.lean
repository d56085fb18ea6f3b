/-! Where the hare can stand -/
noncomputable def se_1 (B : w_M) (n i : Int) (k : Nat) : Prop := B 1 k = n → (if B 2 k = i then (1 : Int) else 0) = B 3 k
noncomputable def se_al (B : w_M) (n i : Int) : Prop := ∀ k, k < (B 0 0).toNat → se_1 B n i k
theorem s_ab_rd {σ : w_M} {a d i : Nat} (h1 : 1 ≤ d) (h2 : d < 4) (hi : i < (σ a 0).toNat) : σ (a + d) i = s_ab σ a d i := by
  unfold s_ab
  rw [if_neg (by omega), if_pos h2, if_pos hi]
theorem s_am_rd {σ : w_M} {d i x : Nat} (h1 : 1 ≤ d) (h2 : d < 4) (hi : i < (σ 123 48).toNat) (hx : x = 49 + 3 * i + (d - 1)) : σ 123 x = s_am σ 0 d i := by
  unfold s_am
  rw [Nat.zero_add, if_neg (by omega), if_pos h2, if_pos hi, hx, Nat.zero_add]
noncomputable def p_Seen_allows (a : Nat) (_ _ : Int) (σ : w_M) : Prop := 0 ≤ σ a 0 ∧ σ a 0 ≤ 8
noncomputable def P_Seen_allows (a : Nat) (n i : Int) (σ : w_M) : Prop := se_al (s_ab σ a) n i
theorem fSeen_allows_0 : w_fe am_c57 0 1 (.bipush 0) := ⟨rfl, rfl⟩
theorem fSeen_allows_1 : w_fe am_c57 1 2 (.istore 3) := ⟨rfl, rfl⟩
theorem fSeen_allows_2 : w_fe am_c57 2 3 (.iload 3) := ⟨rfl, rfl⟩
theorem fSeen_allows_3 : w_fe am_c57 3 4 (.aload 0) := ⟨rfl, rfl⟩
theorem fSeen_allows_4 : w_fe am_c57 4 5 (.getfield 400) := ⟨rfl, rfl⟩
theorem fSeen_allows_5 : w_ic am_c57 5 6 .ge 32 := ⟨rfl, rfl⟩
theorem fSeen_allows_6 : w_fe am_c57 6 7 (.aload 0) := ⟨rfl, rfl⟩
theorem fSeen_allows_7 : w_fe am_c57 7 8 (.getfield 402) := ⟨rfl, rfl⟩
theorem fSeen_allows_8 : w_fe am_c57 8 9 (.iload 3) := ⟨rfl, rfl⟩
theorem fSeen_allows_9 : w_fe am_c57 9 10 (.iaload) := ⟨rfl, rfl⟩
theorem fSeen_allows_10 : w_fe am_c57 10 11 (.iload 2) := ⟨rfl, rfl⟩
theorem fSeen_allows_11 : w_ic am_c57 11 12 .ne 14 := ⟨rfl, rfl⟩
theorem fSeen_allows_12 : w_fe am_c57 12 13 (.bipush 1) := ⟨rfl, rfl⟩
theorem fSeen_allows_13 : w_gt am_c57 13 15 := rfl
theorem fSeen_allows_14 : w_fe am_c57 14 15 (.bipush 0) := ⟨rfl, rfl⟩
theorem fSeen_allows_15 : w_fe am_c57 15 16 (.istore 4) := ⟨rfl, rfl⟩
theorem fSeen_allows_16 : w_fe am_c57 16 17 (.aload 0) := ⟨rfl, rfl⟩
theorem fSeen_allows_17 : w_fe am_c57 17 18 (.getfield 401) := ⟨rfl, rfl⟩
theorem fSeen_allows_18 : w_fe am_c57 18 19 (.iload 3) := ⟨rfl, rfl⟩
theorem fSeen_allows_19 : w_fe am_c57 19 20 (.iaload) := ⟨rfl, rfl⟩
theorem fSeen_allows_20 : w_fe am_c57 20 21 (.iload 1) := ⟨rfl, rfl⟩
theorem fSeen_allows_21 : w_ic am_c57 21 22 .ne 30 := ⟨rfl, rfl⟩
theorem fSeen_allows_22 : w_fe am_c57 22 23 (.iload 4) := ⟨rfl, rfl⟩
theorem fSeen_allows_23 : w_fe am_c57 23 24 (.aload 0) := ⟨rfl, rfl⟩
theorem fSeen_allows_24 : w_fe am_c57 24 25 (.getfield 403) := ⟨rfl, rfl⟩
theorem fSeen_allows_25 : w_fe am_c57 25 26 (.iload 3) := ⟨rfl, rfl⟩
theorem fSeen_allows_26 : w_fe am_c57 26 27 (.iaload) := ⟨rfl, rfl⟩
theorem fSeen_allows_27 : w_ic am_c57 27 28 .eq 30 := ⟨rfl, rfl⟩
theorem fSeen_allows_28 : w_fe am_c57 28 29 (.bipush 0) := ⟨rfl, rfl⟩
theorem fSeen_allows_29 : w_fe am_c57 29 30 (.ireturn) := ⟨rfl, rfl⟩
theorem fSeen_allows_30 : w_fe am_c57 30 31 (.iinc 3 1) := ⟨rfl, rfl⟩
theorem fSeen_allows_31 : w_gt am_c57 31 2 := rfl
theorem fSeen_allows_32 : w_fe am_c57 32 33 (.bipush 1) := ⟨rfl, rfl⟩
theorem fSeen_allows_33 : w_fe am_c57 33 34 (.ireturn) := ⟨rfl, rfl⟩
noncomputable def LSeen_allows_2 (xs : List Int) (d : Nat) (Q : Option w_V → w_M → Prop) (r0 : Nat) (v1 : Int) (v2 : Int) (v3 : Int) (σ : w_M) : Prop := ∀ l4, w_nl l4 → w_Ex (xs, d) 2 am_c57 Q 2 [some (.inr (.inr (4, r0))), some (.inl v1), some (.inl v2), some (.inl v3), l4] [] σ
set_option maxRecDepth 20000 in
theorem bSeen_allows_0 {xs : List Int} {d : Nat} {Q : Option w_V → w_M → Prop} {a : Nat} {x1 : Int} {x2 : Int} {σ : w_M}
    (h : LSeen_allows_2 xs d Q a x1 x2 0 σ) : w_Call (xs, d) 57 [.inr (.inr (4, a)), .inl x1, .inl x2] σ Q :=
  (w_mk (mid := 57) (by decide) rfl rfl rfl rfl rfl (Nat.le_of_ble_eq_true rfl) ⟨rfl, Or.inl (by decide)⟩ (wi_bipush fSeen_allows_0 (wi_istore3 fSeen_allows_1 trivial (h _ (by exact trivial)))))
set_option maxRecDepth 20000 in
theorem bSeen_allows_2 {xs : List Int} {d : Nat} {Q : Option w_V → w_M → Prop} {r0 : Nat} {v1 : Int} {v2 : Int} {v3 : Int} {σ : w_M}
    (h : ((σ r0 0) ≤ v3 → Q (some (.inl 1)) σ) ∧ (v3 < (σ r0 0) → (0 ≤ v3 ∧ v3 < 8 ∧ ((¬ (σ (r0 + 2) v3.toNat) = v2 → ((¬ (σ (r0 + 1) v3.toNat) = v1 → (w_in (v3 + 1) ∧ LSeen_allows_2 xs d Q r0 v1 v2 (v3 + 1) σ)) ∧ ((σ (r0 + 1) v3.toNat) = v1 → (((0 : Int) = (σ (r0 + 3) v3.toNat) → (w_in (v3 + 1) ∧ LSeen_allows_2 xs d Q r0 v1 v2 (v3 + 1) σ)) ∧ (¬ (0 : Int) = (σ (r0 + 3) v3.toNat) → Q (some (.inl 0)) σ))))) ∧ ((σ (r0 + 2) v3.toNat) = v2 → ((¬ (σ (r0 + 1) v3.toNat) = v1 → (w_in (v3 + 1) ∧ LSeen_allows_2 xs d Q r0 v1 v2 (v3 + 1) σ)) ∧ ((σ (r0 + 1) v3.toNat) = v1 → (((1 : Int) = (σ (r0 + 3) v3.toNat) → (w_in (v3 + 1) ∧ LSeen_allows_2 xs d Q r0 v1 v2 (v3 + 1) σ)) ∧ (¬ (1 : Int) = (σ (r0 + 3) v3.toNat) → Q (some (.inl 0)) σ))))))))) : LSeen_allows_2 xs d Q r0 v1 v2 v3 σ :=
  fun l4 nl4 => (wi_iload3 fSeen_allows_2 (wi_aload0 fSeen_allows_3 (wi_getf400 fSeen_allows_4 (wi_ic_ge fSeen_allows_5 (fun c6 => (wi_bipush fSeen_allows_32 (wi_ret2 fSeen_allows_33 (by decide) (h.1 c6)))) (fun c6 => (wi_aload0 fSeen_allows_6 (wi_getf402 fSeen_allows_7 (wi_iload3 fSeen_allows_8 (wi_iald1008 fSeen_allows_9 (h.2 c6).1 (h.2 c6).2.1 (wi_iload2 fSeen_allows_10 (wi_ic_ne fSeen_allows_11 (fun c5 => (wi_bipush fSeen_allows_14 (wi_istore4 fSeen_allows_15 trivial (wi_aload0 fSeen_allows_16 (wi_getf401 fSeen_allows_17 (wi_iload3 fSeen_allows_18 (wi_iald1008 fSeen_allows_19 (h.2 c6).1 (h.2 c6).2.1 (wi_iload1 fSeen_allows_20 (wi_ic_ne fSeen_allows_21 (fun c2 => (wi_iinc3 fSeen_allows_30 trivial (((h.2 c6).2.2.1 c5).1 c2).1 (wi_goto fSeen_allows_31 ((((h.2 c6).2.2.1 c5).1 c2).2 _ (by exact trivial))))) (fun c2 => (wi_iload4 fSeen_allows_22 (wi_aload0 fSeen_allows_23 (wi_getf403 fSeen_allows_24 (wi_iload3 fSeen_allows_25 (wi_iald1008 fSeen_allows_26 (h.2 c6).1 (h.2 c6).2.1 (wi_ic_eq fSeen_allows_27 (fun c1 => (wi_iinc3 fSeen_allows_30 trivial ((((h.2 c6).2.2.1 c5).2 c2).1 c1).1 (wi_goto fSeen_allows_31 (((((h.2 c6).2.2.1 c5).2 c2).1 c1).2 _ (by exact trivial))))) (fun c1 => (wi_bipush fSeen_allows_28 (wi_ret2 fSeen_allows_29 (by decide) ((((h.2 c6).2.2.1 c5).2 c2).2 c1)))))))))))))))))))) (fun c5 => (wi_bipush fSeen_allows_12 (wi_goto fSeen_allows_13 (wi_istore4 fSeen_allows_15 trivial (wi_aload0 fSeen_allows_16 (wi_getf401 fSeen_allows_17 (wi_iload3 fSeen_allows_18 (wi_iald1008 fSeen_allows_19 (h.2 c6).1 (h.2 c6).2.1 (wi_iload1 fSeen_allows_20 (wi_ic_ne fSeen_allows_21 (fun c4 => (wi_iinc3 fSeen_allows_30 trivial (((h.2 c6).2.2.2 c5).1 c4).1 (wi_goto fSeen_allows_31 ((((h.2 c6).2.2.2 c5).1 c4).2 _ (by exact trivial))))) (fun c4 => (wi_iload4 fSeen_allows_22 (wi_aload0 fSeen_allows_23 (wi_getf403 fSeen_allows_24 (wi_iload3 fSeen_allows_25 (wi_iald1008 fSeen_allows_26 (h.2 c6).1 (h.2 c6).2.1 (wi_ic_eq fSeen_allows_27 (fun c3 => (wi_iinc3 fSeen_allows_30 trivial ((((h.2 c6).2.2.2 c5).2 c4).1 c3).1 (wi_goto fSeen_allows_31 (((((h.2 c6).2.2.2 c5).2 c4).1 c3).2 _ (by exact trivial))))) (fun c3 => (wi_bipush fSeen_allows_28 (wi_ret2 fSeen_allows_29 (by decide) ((((h.2 c6).2.2.2 c5).2 c4).2 c3))))))))))))))))))))))))))))))))
theorem k_Seen_allows {xs : List Int} {d : Nat} {Q : Option w_V → w_M → Prop} {a : Nat} {x1 : Int} {x2 : Int} {σ : w_M} (hp : p_Seen_allows a x1 x2 σ) (hQ : Q (some (.inl (w_bi (P_Seen_allows a x1 x2 σ)))) σ) : w_Call (xs, d) 57 [.inr (.inr (4, a)), .inl x1, .inl x2] σ Q := by
  have h8 : 0 ≤ σ a 0 ∧ σ a 0 ≤ 8 := hp
  refine bSeen_allows_0 ?_
  refine (w_loop (n := (σ a 0).toNat) (P := fun k => (∀ q, q < k → se_1 (s_ab σ a) x1 x2 q) → LSeen_allows_2 xs d Q a x1 x2 (k : Int) σ) ?_ ?_) (fun q hq => by omega)
  · intro h
    refine bSeen_allows_2 ⟨fun _ => ?_, fun h => by omega⟩
    rw [w_bi_t (show P_Seen_allows a x1 x2 σ from h)] at hQ
    exact hQ
  · intro k hk ih h
    have no : ¬ se_1 (s_ab σ a) x1 x2 k → Q (some (.inl 0)) σ := fun q => by
      rw [w_bi_f (fun z : P_Seen_allows a x1 x2 σ => q (z k hk))] at hQ
      exact hQ
    have yes : se_1 (s_ab σ a) x1 x2 k → LSeen_allows_2 xs d Q a x1 x2 ((k : Int) + 1) σ := fun q => by
      rw [← w_cs1]
      refine ih (fun m hm => ?_)
      by_cases hmk : m = k
      · rw [hmk]; exact q
      · exact h m (by omega)
    refine bSeen_allows_2 ⟨fun h => by omega, fun _ => ⟨by omega, by omega, ?_⟩⟩
    rw [Int.toNat_natCast, s_ab_rd (d := 1) (by decide) (by decide) hk, s_ab_rd (d := 2) (by decide) (by decide) hk, s_ab_rd (d := 3) (by decide) (by decide) hk]
    refine ⟨fun c2 => ⟨fun c1 => ⟨⟨by omega, by omega⟩, yes (fun z => absurd z c1)⟩, fun c1 => ⟨fun c3 => ⟨⟨by omega, by omega⟩, yes (fun _ => (if_neg c2).trans c3)⟩, fun c3 => no (fun z => c3 ((if_neg c2).symm.trans (z c1)))⟩⟩, fun c2 => ⟨fun c1 => ⟨⟨by omega, by omega⟩, yes (fun z => absurd z c1)⟩, fun c1 => ⟨fun c3 => ⟨⟨by omega, by omega⟩, yes (fun _ => (if_pos c2).trans c3)⟩, fun c3 => no (fun z => c3 ((if_pos c2).symm.trans (z c1)))⟩⟩⟩
noncomputable def p_Model_canStand (_ _ : Int) (σ : w_M) : Prop := 0 ≤ σ 123 48 ∧ σ 123 48 ≤ 8
noncomputable def P_Model_canStand (n i : Int) (σ : w_M) : Prop := se_al (s_am σ 0) n i
theorem fModel_canStand_0 : w_fe am_c221 0 1 (.bipush 1) := ⟨rfl, rfl⟩
theorem fModel_canStand_1 : w_fe am_c221 1 2 (.istore 3) := ⟨rfl, rfl⟩
theorem fModel_canStand_2 : w_fe am_c221 2 3 (.bipush 0) := ⟨rfl, rfl⟩
theorem fModel_canStand_3 : w_fe am_c221 3 4 (.istore 4) := ⟨rfl, rfl⟩
theorem fModel_canStand_4 : w_fe am_c221 4 5 (.iload 4) := ⟨rfl, rfl⟩
theorem fModel_canStand_5 : w_fe am_c221 5 6 (.aload 0) := ⟨rfl, rfl⟩
theorem fModel_canStand_6 : w_fe am_c221 6 7 (.getfield 900) := ⟨rfl, rfl⟩
theorem fModel_canStand_7 : w_fe am_c221 7 8 (.bipush 48) := ⟨rfl, rfl⟩
theorem fModel_canStand_8 : w_fe am_c221 8 9 (.iaload) := ⟨rfl, rfl⟩
theorem fModel_canStand_9 : w_ic am_c221 9 10 .ge 49 := ⟨rfl, rfl⟩
theorem fModel_canStand_10 : w_fe am_c221 10 11 (.bipush 49) := ⟨rfl, rfl⟩
theorem fModel_canStand_11 : w_fe am_c221 11 12 (.bipush 3) := ⟨rfl, rfl⟩
theorem fModel_canStand_12 : w_fe am_c221 12 13 (.iload 4) := ⟨rfl, rfl⟩
theorem fModel_canStand_13 : w_fe am_c221 13 14 (.imul) := ⟨rfl, rfl⟩
theorem fModel_canStand_14 : w_fe am_c221 14 15 (.iadd) := ⟨rfl, rfl⟩
theorem fModel_canStand_15 : w_fe am_c221 15 16 (.istore 5) := ⟨rfl, rfl⟩
theorem fModel_canStand_16 : w_fe am_c221 16 17 (.iload 3) := ⟨rfl, rfl⟩
theorem fModel_canStand_17 : w_if am_c221 17 18 .eq 45 := ⟨rfl, rfl⟩
theorem fModel_canStand_18 : w_fe am_c221 18 19 (.aload 0) := ⟨rfl, rfl⟩
theorem fModel_canStand_19 : w_fe am_c221 19 20 (.getfield 900) := ⟨rfl, rfl⟩
theorem fModel_canStand_20 : w_fe am_c221 20 21 (.iload 5) := ⟨rfl, rfl⟩
theorem fModel_canStand_21 : w_fe am_c221 21 22 (.iaload) := ⟨rfl, rfl⟩
theorem fModel_canStand_22 : w_fe am_c221 22 23 (.iload 1) := ⟨rfl, rfl⟩
theorem fModel_canStand_23 : w_ic am_c221 23 24 .ne 43 := ⟨rfl, rfl⟩
theorem fModel_canStand_24 : w_fe am_c221 24 25 (.aload 0) := ⟨rfl, rfl⟩
theorem fModel_canStand_25 : w_fe am_c221 25 26 (.getfield 900) := ⟨rfl, rfl⟩
theorem fModel_canStand_26 : w_fe am_c221 26 27 (.iload 5) := ⟨rfl, rfl⟩
theorem fModel_canStand_27 : w_fe am_c221 27 28 (.bipush 1) := ⟨rfl, rfl⟩
theorem fModel_canStand_28 : w_fe am_c221 28 29 (.iadd) := ⟨rfl, rfl⟩
theorem fModel_canStand_29 : w_fe am_c221 29 30 (.iaload) := ⟨rfl, rfl⟩
theorem fModel_canStand_30 : w_fe am_c221 30 31 (.iload 2) := ⟨rfl, rfl⟩
theorem fModel_canStand_31 : w_ic am_c221 31 32 .ne 34 := ⟨rfl, rfl⟩
theorem fModel_canStand_32 : w_fe am_c221 32 33 (.bipush 1) := ⟨rfl, rfl⟩
theorem fModel_canStand_33 : w_gt am_c221 33 35 := rfl
theorem fModel_canStand_34 : w_fe am_c221 34 35 (.bipush 0) := ⟨rfl, rfl⟩
theorem fModel_canStand_35 : w_fe am_c221 35 36 (.invokestatic 179) := ⟨rfl, rfl⟩
theorem fModel_canStand_36 : w_fe am_c221 36 37 (.aload 0) := ⟨rfl, rfl⟩
theorem fModel_canStand_37 : w_fe am_c221 37 38 (.getfield 900) := ⟨rfl, rfl⟩
theorem fModel_canStand_38 : w_fe am_c221 38 39 (.iload 5) := ⟨rfl, rfl⟩
theorem fModel_canStand_39 : w_fe am_c221 39 40 (.bipush 2) := ⟨rfl, rfl⟩
theorem fModel_canStand_40 : w_fe am_c221 40 41 (.iadd) := ⟨rfl, rfl⟩
theorem fModel_canStand_41 : w_fe am_c221 41 42 (.iaload) := ⟨rfl, rfl⟩
theorem fModel_canStand_42 : w_ic am_c221 42 43 .ne 45 := ⟨rfl, rfl⟩
theorem fModel_canStand_43 : w_fe am_c221 43 44 (.bipush 1) := ⟨rfl, rfl⟩
theorem fModel_canStand_44 : w_gt am_c221 44 46 := rfl
theorem fModel_canStand_45 : w_fe am_c221 45 46 (.bipush 0) := ⟨rfl, rfl⟩
theorem fModel_canStand_46 : w_fe am_c221 46 47 (.istore 3) := ⟨rfl, rfl⟩
theorem fModel_canStand_47 : w_fe am_c221 47 48 (.iinc 4 1) := ⟨rfl, rfl⟩
theorem fModel_canStand_48 : w_gt am_c221 48 4 := rfl
theorem fModel_canStand_49 : w_fe am_c221 49 50 (.iload 3) := ⟨rfl, rfl⟩
theorem fModel_canStand_50 : w_fe am_c221 50 51 (.ireturn) := ⟨rfl, rfl⟩
noncomputable def LModel_canStand_4 (xs : List Int) (d : Nat) (Q : Option w_V → w_M → Prop) (v1 : Int) (v2 : Int) (v3 : Int) (v4 : Int) (σ : w_M) : Prop := ∀ l5, w_nl l5 → w_Ex (xs, d) 2 am_c221 Q 4 [some (.inr (.inr (9, 122))), some (.inl v1), some (.inl v2), some (.inl v3), some (.inl v4), l5] [] σ
set_option maxRecDepth 20000 in
theorem bModel_canStand_0 {xs : List Int} {d : Nat} {Q : Option w_V → w_M → Prop} {x1 : Int} {x2 : Int} {σ : w_M}
    (h : LModel_canStand_4 xs (d + 1) Q x1 x2 1 0 σ) : w_Call (xs, (d + 1)) 221 [.inr (.inr (9, 122)), .inl x1, .inl x2] σ Q :=
  (w_mk (mid := 221) (by decide) rfl rfl rfl rfl rfl (Nat.le_of_ble_eq_true rfl) ⟨rfl, Or.inl (by decide)⟩ (wi_bipush fModel_canStand_0 (wi_istore3 fModel_canStand_1 trivial (wi_bipush fModel_canStand_2 (wi_istore4 fModel_canStand_3 trivial (h _ (by exact trivial)))))))
set_option maxRecDepth 20000 in
theorem bModel_canStand_4 {xs : List Int} {d : Nat} {Q : Option w_V → w_M → Prop} {v1 : Int} {v2 : Int} {v3 : Int} {v4 : Int} {σ : w_M}
    (h : ((σ 123 48) ≤ v4 → ((v3 = 0 ∨ v3 = 1) ∧ Q (some (.inl v3)) σ)) ∧ (v4 < (σ 123 48) → (w_in (3 * v4) ∧ w_in (49 + (3 * v4)) ∧ (∀ (y1 : Int), y1 = (49 + (3 * v4)) → ((v3 = 0 → (w_in (v4 + 1) ∧ LModel_canStand_4 xs (d + 1) Q v1 v2 0 (v4 + 1) σ)) ∧ (¬ v3 = 0 → (0 ≤ y1 ∧ y1 < 246 ∧ ((¬ (σ 123 y1.toNat) = v1 → (w_in (v4 + 1) ∧ LModel_canStand_4 xs (d + 1) Q v1 v2 1 (v4 + 1) σ)) ∧ ((σ 123 y1.toNat) = v1 → (w_in (y1 + 1) ∧ 0 ≤ (y1 + 1) ∧ (y1 + 1) < 246 ∧ ((¬ (σ 123 (y1 + 1).toNat) = v2 → (w_in (y1 + 2) ∧ 0 ≤ (y1 + 2) ∧ (y1 + 2) < 246 ∧ ((¬ (0 : Int) = (σ 123 (y1 + 2).toNat) → (w_in (v4 + 1) ∧ LModel_canStand_4 xs (d + 1) Q v1 v2 0 (v4 + 1) σ)) ∧ ((0 : Int) = (σ 123 (y1 + 2).toNat) → (w_in (v4 + 1) ∧ LModel_canStand_4 xs (d + 1) Q v1 v2 1 (v4 + 1) σ))))) ∧ ((σ 123 (y1 + 1).toNat) = v2 → (w_in (y1 + 2) ∧ 0 ≤ (y1 + 2) ∧ (y1 + 2) < 246 ∧ ((¬ (1 : Int) = (σ 123 (y1 + 2).toNat) → (w_in (v4 + 1) ∧ LModel_canStand_4 xs (d + 1) Q v1 v2 0 (v4 + 1) σ)) ∧ ((1 : Int) = (σ 123 (y1 + 2).toNat) → (w_in (v4 + 1) ∧ LModel_canStand_4 xs (d + 1) Q v1 v2 1 (v4 + 1) σ)))))))))))))))) : LModel_canStand_4 xs (d + 1) Q v1 v2 v3 v4 σ :=
  fun l5 nl5 => (wi_iload4 fModel_canStand_4 (wi_aload0 fModel_canStand_5 (wi_getf900 fModel_canStand_6 (wi_bipush fModel_canStand_7 (wi_iald1246 fModel_canStand_8 (by decide) (by decide) (wi_ic_ge fModel_canStand_9 (fun c7 => (wi_iload3 fModel_canStand_49 (wi_ret2 fModel_canStand_50 (h.1 c7).1 (h.1 c7).2))) (fun c7 => (wi_bipush fModel_canStand_10 (wi_bipush fModel_canStand_11 (wi_iload4 fModel_canStand_12 (wi_imul fModel_canStand_13 (h.2 c7).1 (wi_iadd fModel_canStand_14 (h.2 c7).2.1 (wi_istore5 fModel_canStand_15 trivial (wi_iload3 fModel_canStand_16 (wi_if_eq fModel_canStand_17 (fun c6 => (wi_bipush fModel_canStand_45 (wi_istore3 fModel_canStand_46 trivial (wi_iinc4 fModel_canStand_47 trivial (((h.2 c7).2.2 _ rfl).1 c6).1 (wi_goto fModel_canStand_48 ((((h.2 c7).2.2 _ rfl).1 c6).2 _ (by exact trivial))))))) (fun c6 => (wi_aload0 fModel_canStand_18 (wi_getf900 fModel_canStand_19 (wi_iload5 fModel_canStand_20 (wi_iald1246 fModel_canStand_21 (((h.2 c7).2.2 _ rfl).2 c6).1 (((h.2 c7).2.2 _ rfl).2 c6).2.1 (wi_iload1 fModel_canStand_22 (wi_ic_ne fModel_canStand_23 (fun c5 => (wi_bipush fModel_canStand_43 (wi_goto fModel_canStand_44 (wi_istore3 fModel_canStand_46 trivial (wi_iinc4 fModel_canStand_47 trivial ((((h.2 c7).2.2 _ rfl).2 c6).2.2.1 c5).1 (wi_goto fModel_canStand_48 (((((h.2 c7).2.2 _ rfl).2 c6).2.2.1 c5).2 _ (by exact trivial)))))))) (fun c5 => (wi_aload0 fModel_canStand_24 (wi_getf900 fModel_canStand_25 (wi_iload5 fModel_canStand_26 (wi_bipush fModel_canStand_27 (wi_iadd fModel_canStand_28 ((((h.2 c7).2.2 _ rfl).2 c6).2.2.2 c5).1 (wi_iald1246 fModel_canStand_29 ((((h.2 c7).2.2 _ rfl).2 c6).2.2.2 c5).2.1 ((((h.2 c7).2.2 _ rfl).2 c6).2.2.2 c5).2.2.1 (wi_iload2 fModel_canStand_30 (wi_ic_ne fModel_canStand_31 (fun c4 => (wi_bipush fModel_canStand_34 (wi_call1 fModel_canStand_35 (Nat.le_of_ble_eq_true rfl) (k_Model_flag (wi_aload0 fModel_canStand_36 (wi_getf900 fModel_canStand_37 (wi_iload5 fModel_canStand_38 (wi_bipush fModel_canStand_39 (wi_iadd fModel_canStand_40 (((((h.2 c7).2.2 _ rfl).2 c6).2.2.2 c5).2.2.2.1 c4).1 (wi_iald1246 fModel_canStand_41 (((((h.2 c7).2.2 _ rfl).2 c6).2.2.2 c5).2.2.2.1 c4).2.1 (((((h.2 c7).2.2 _ rfl).2 c6).2.2.2 c5).2.2.2.1 c4).2.2.1 (wi_ic_ne fModel_canStand_42 (fun c2 => (wi_bipush fModel_canStand_45 (wi_istore3 fModel_canStand_46 trivial (wi_iinc4 fModel_canStand_47 trivial ((((((h.2 c7).2.2 _ rfl).2 c6).2.2.2 c5).2.2.2.1 c4).2.2.2.1 c2).1 (wi_goto fModel_canStand_48 (((((((h.2 c7).2.2 _ rfl).2 c6).2.2.2 c5).2.2.2.1 c4).2.2.2.1 c2).2 _ (by exact trivial))))))) (fun c2 => (wi_bipush fModel_canStand_43 (wi_goto fModel_canStand_44 (wi_istore3 fModel_canStand_46 trivial (wi_iinc4 fModel_canStand_47 trivial ((((((h.2 c7).2.2 _ rfl).2 c6).2.2.2 c5).2.2.2.1 c4).2.2.2.2 c2).1 (wi_goto fModel_canStand_48 (((((((h.2 c7).2.2 _ rfl).2 c6).2.2.2 c5).2.2.2.1 c4).2.2.2.2 c2).2 _ (by exact trivial))))))))))))))))))) (fun c4 => (wi_bipush fModel_canStand_32 (wi_goto fModel_canStand_33 (wi_call1 fModel_canStand_35 (Nat.le_of_ble_eq_true rfl) (k_Model_flag (wi_aload0 fModel_canStand_36 (wi_getf900 fModel_canStand_37 (wi_iload5 fModel_canStand_38 (wi_bipush fModel_canStand_39 (wi_iadd fModel_canStand_40 (((((h.2 c7).2.2 _ rfl).2 c6).2.2.2 c5).2.2.2.2 c4).1 (wi_iald1246 fModel_canStand_41 (((((h.2 c7).2.2 _ rfl).2 c6).2.2.2 c5).2.2.2.2 c4).2.1 (((((h.2 c7).2.2 _ rfl).2 c6).2.2.2 c5).2.2.2.2 c4).2.2.1 (wi_ic_ne fModel_canStand_42 (fun c3 => (wi_bipush fModel_canStand_45 (wi_istore3 fModel_canStand_46 trivial (wi_iinc4 fModel_canStand_47 trivial ((((((h.2 c7).2.2 _ rfl).2 c6).2.2.2 c5).2.2.2.2 c4).2.2.2.1 c3).1 (wi_goto fModel_canStand_48 (((((((h.2 c7).2.2 _ rfl).2 c6).2.2.2 c5).2.2.2.2 c4).2.2.2.1 c3).2 _ (by exact trivial))))))) (fun c3 => (wi_bipush fModel_canStand_43 (wi_goto fModel_canStand_44 (wi_istore3 fModel_canStand_46 trivial (wi_iinc4 fModel_canStand_47 trivial ((((((h.2 c7).2.2 _ rfl).2 c6).2.2.2 c5).2.2.2.2 c4).2.2.2.2 c3).1 (wi_goto fModel_canStand_48 (((((((h.2 c7).2.2 _ rfl).2 c6).2.2.2 c5).2.2.2.2 c4).2.2.2.2 c3).2 _ (by exact trivial)))))))))))))))))))))))))))))))))))))))))))))))))))
theorem k_Model_canStand {xs : List Int} {d : Nat} {Q : Option w_V → w_M → Prop} {x1 : Int} {x2 : Int} {σ : w_M} (hp : p_Model_canStand x1 x2 σ) (hQ : Q (some (.inl (w_bi (P_Model_canStand x1 x2 σ)))) σ) : w_Call (xs, d + 1) 221 [.inr (.inr (9, 122)), .inl x1, .inl x2] σ Q := by
  have h8 : 0 ≤ σ 123 48 ∧ σ 123 48 ≤ 8 := hp
  refine bModel_canStand_0 ?_
  refine (w_loop (n := (σ 123 48).toNat) (P := fun k => ∀ b : Int, (b = 1 ∧ (∀ q, q < k → se_1 (s_am σ 0) x1 x2 q)) ∨ (b = 0 ∧ ¬ (∀ q, q < k → se_1 (s_am σ 0) x1 x2 q)) → LModel_canStand_4 xs (d + 1) Q x1 x2 b (k : Int) σ) ?_ ?_) 1 (Or.inl ⟨rfl, fun q hq => by omega⟩)
  · intro b h
    refine bModel_canStand_4 ⟨fun _ => ?_, fun h => by omega⟩
    rcases h with ⟨rfl, h⟩ | ⟨rfl, h⟩
    · rw [w_bi_t (show P_Model_canStand x1 x2 σ from h)] at hQ
      exact ⟨Or.inr rfl, hQ⟩
    · rw [w_bi_f (show ¬ P_Model_canStand x1 x2 σ from h)] at hQ
      exact ⟨Or.inl rfl, hQ⟩
  · intro k hk ih b h
    refine bModel_canStand_4 ⟨fun h => by omega, fun _ => ⟨⟨by omega, by omega⟩, ⟨by omega, by omega⟩, fun y ey => ⟨fun c0 => ⟨⟨by omega, by omega⟩, ?_⟩, fun c0 => ⟨by omega, by omega, ?_⟩⟩⟩⟩
    · rcases h with ⟨rfl, h⟩ | ⟨rfl, h⟩
      · omega
      · rw [← w_cs1]
        exact ih 0 (Or.inr ⟨rfl, fun q => h (fun m hm => q m (by omega))⟩)
    · have hh : ∀ q, q < k → se_1 (s_am σ 0) x1 x2 q := by
        rcases h with ⟨_, h⟩ | ⟨h0, _⟩
        · exact h
        · exact absurd h0 c0
      have no : ¬ se_1 (s_am σ 0) x1 x2 k → LModel_canStand_4 xs (d + 1) Q x1 x2 0 ((k : Int) + 1) σ := fun q => by
        rw [← w_cs1]
        exact ih 0 (Or.inr ⟨rfl, fun z => q (z k (by omega))⟩)
      have yes : se_1 (s_am σ 0) x1 x2 k → LModel_canStand_4 xs (d + 1) Q x1 x2 1 ((k : Int) + 1) σ := fun q => by
        rw [← w_cs1]
        refine ih 1 (Or.inl ⟨rfl, fun m hm => ?_⟩)
        by_cases hmk : m = k
        · rw [hmk]; exact q
        · exact hh m (by omega)
      rw [s_am_rd (d := 1) (by decide) (by decide) hk (show y.toNat = _ by omega), s_am_rd (d := 2) (by decide) (by decide) hk (show (y + 1).toNat = _ by omega), s_am_rd (d := 3) (by decide) (by decide) hk (show (y + 2).toNat = _ by omega)]
      refine ⟨fun c1 => ⟨⟨by omega, by omega⟩, yes (fun z => absurd z c1)⟩, fun c1 => ⟨⟨by omega, by omega⟩, by omega, by omega, fun c2 => ⟨⟨by omega, by omega⟩, by omega, by omega, fun c3 => ⟨⟨by omega, by omega⟩, no (fun z => c3 ((if_neg c2).symm.trans (z c1)))⟩, fun c3 => ⟨⟨by omega, by omega⟩, yes (fun _ => (if_neg c2).trans c3)⟩⟩, fun c2 => ⟨⟨by omega, by omega⟩, by omega, by omega, fun c3 => ⟨⟨by omega, by omega⟩, no (fun z => c3 ((if_pos c2).symm.trans (z c1)))⟩, fun c3 => ⟨⟨by omega, by omega⟩, yes (fun _ => (if_pos c2).trans c3)⟩⟩⟩⟩
