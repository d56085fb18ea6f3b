/-! Sheets, counts: the class -/
noncomputable def shNew (H : w_M) (k : Nat) (lane n : Int) : w_M := fun q j => if q = k then (if j = 0 then n else if j = 1 then lane else 0) else H q j
noncomputable def shVal (lane v : Int) : Int := if lane = 0 then Int.bmod v 256 else if lane = 1 then Int.bmod v 65536 else v
noncomputable def P_sheet (k lane n : Int) : Prop := ((0 ≤ k ∧ k ≤ 3) ∧ (0 ≤ lane ∧ lane ≤ 2)) ∧ n ≤ 40
noncomputable def F_sheet (_ : w_S) (k lane n : Int) : Int := @ite _ (P_sheet k lane n) (Classical.propDecidable _) (if n < 0 then -14 else 1) (-1)
noncomputable def G_sheet (S : w_S) (k lane n : Int) : w_S := @ite _ (P_sheet k lane n ∧ 0 ≤ n) (Classical.propDecidable _) (w_sp S 4 (shNew (S 4) k.toNat lane n)) S
noncomputable def F_lay (S : w_S) (k i _v : Int) : Int := if 0 ≤ k ∧ k ≤ 3 then (if S 4 k.toNat 0 = -4 then -11 else if 0 ≤ i ∧ i < S 4 k.toNat 0 then 1 else -12) else -1
noncomputable def G_lay (S : w_S) (k i v : Int) : w_S := if (0 ≤ k ∧ k ≤ 3) ∧ ¬ S 4 k.toNat 0 = -4 ∧ (0 ≤ i ∧ i < S 4 k.toNat 0) then w_sp S 4 (w_up (S 4) k.toNat (2 + i.toNat) (shVal (S 4 k.toNat 1) v)) else S
theorem shNew_WF {H : w_M} (h : shWF H) {k : Nat} {lane n : Int} (hl : 0 ≤ lane ∧ lane ≤ 2) (hn : 0 ≤ n ∧ n ≤ 40) : shWF (shNew H k lane n) := by
  intro q hq
  unfold shNew
  by_cases hk : q = k
  · rw [if_pos hk, if_pos hk]
    exact Or.inr ⟨hn, hl⟩
  · rw [if_neg hk, if_neg hk]
    exact h q hq
theorem shLay_WF {H : w_M} (h : shWF H) {k i : Nat} {v : Int} : shWF (w_up H k (2 + i) v) := by
  intro q hq
  rw [w_up_eq, if_neg (by omega), w_up_eq, if_neg (by omega)]
  exact h q hq
theorem CI.sh {σ : w_M} (h : CI σ) {k : Nat} (hk : k < 4) : h_ab σ k 0 = -4 ∨ ((0 ≤ h_ab σ k 0 ∧ h_ab σ k 0 ≤ 40) ∧ (0 ≤ h_ab σ k 1 ∧ h_ab σ k 1 ≤ 2)) := h.1.2.2.2.2.1 k hk
theorem h_ab_no {σ : w_M} {k : Nat} (hk : k < 4) (h : σ 87 k < 0) : h_ab σ k 0 = -4 := by
  unfold h_ab
  rw [if_pos hk, if_pos h, if_pos rfl]
theorem h_ab_yes {σ : w_M} {k : Nat} (hk : k < 4) (h : ¬ σ 87 k < 0) : h_ab σ k 0 = σ 87 k ∧ h_ab σ k 1 = σ 86 k ∧ ∀ j, j < 40 → h_ab σ k (2 + j) = σ (82 + k) j := by
  unfold h_ab
  refine ⟨?_, ?_, fun j hj => ?_⟩
  · rw [if_pos hk, if_neg h, if_pos rfl]
  · rw [if_pos hk, if_neg h, if_neg (by decide), if_pos rfl]
  · rw [if_pos hk, if_neg h, if_neg (by omega), if_neg (by omega), if_pos (by omega), show 2 + j - 2 = j by omega]
theorem h_ab_no_iff {σ : w_M} {k : Nat} (hk : k < 4) : h_ab σ k 0 = -4 ↔ σ 87 k < 0 := by
  constructor
  · intro h
    by_cases hn : σ 87 k < 0
    · exact hn
    · rw [(h_ab_yes hk hn).1] at h
      omega
  · exact h_ab_no hk
noncomputable def v_Sheets_sizeOf (k : Int) (σ : w_M) : Int := if (0 ≤ k ∧ k < 4) ∧ ¬ σ 87 k.toNat < 0 then σ 87 k.toNat else 0
noncomputable def P_Sheets_hasCell (k i : Int) (σ : w_M) : Prop := 0 ≤ i ∧ i < v_Sheets_sizeOf k σ ∧ i < 40
noncomputable def P_Sheets_isOfLane (k lane : Int) (σ : w_M) : Prop := (0 ≤ k ∧ k < 4) ∧ ¬ σ 87 k.toNat < 0 ∧ σ 86 k.toNat = lane
theorem fSheets_isSheet_0 : w_fe am_c96 0 1 (.iload 0) := ⟨rfl, rfl⟩
theorem fSheets_isSheet_1 : w_if am_c96 1 2 .lt 7 := ⟨rfl, rfl⟩
theorem fSheets_isSheet_2 : w_fe am_c96 2 3 (.iload 0) := ⟨rfl, rfl⟩
theorem fSheets_isSheet_3 : w_fe am_c96 3 4 (.bipush 4) := ⟨rfl, rfl⟩
theorem fSheets_isSheet_4 : w_ic am_c96 4 5 .ge 7 := ⟨rfl, rfl⟩
theorem fSheets_isSheet_5 : w_fe am_c96 5 6 (.bipush 1) := ⟨rfl, rfl⟩
theorem fSheets_isSheet_6 : w_gt am_c96 6 8 := rfl
theorem fSheets_isSheet_7 : w_fe am_c96 7 8 (.bipush 0) := ⟨rfl, rfl⟩
theorem fSheets_isSheet_8 : w_fe am_c96 8 9 (.ireturn) := ⟨rfl, rfl⟩
set_option maxRecDepth 20000 in
theorem bSheets_isSheet_0 {xs : List Int} {d : Nat} {Q : Option w_V → w_M → Prop} {x0 : Int} {σ : w_M}
    (h : (x0 < 0 → Q (some (.inl 0)) σ) ∧ (0 ≤ x0 → ((4 ≤ x0 → Q (some (.inl 0)) σ) ∧ (x0 < 4 → Q (some (.inl 1)) σ)))) : w_Call (xs, d) 96 [.inl x0] σ Q :=
  (w_mk (mid := 96) (by decide) rfl rfl rfl rfl rfl (Nat.le_of_ble_eq_true rfl) trivial (wi_iload0 fSheets_isSheet_0 (wi_if_lt fSheets_isSheet_1 (fun c2 => (wi_bipush fSheets_isSheet_7 (wi_ret2 fSheets_isSheet_8 (by decide) (h.1 c2)))) (fun c2 => (wi_iload0 fSheets_isSheet_2 (wi_bipush fSheets_isSheet_3 (wi_ic_ge fSheets_isSheet_4 (fun c1 => (wi_bipush fSheets_isSheet_7 (wi_ret2 fSheets_isSheet_8 (by decide) ((h.2 c2).1 c1)))) (fun c1 => (wi_bipush fSheets_isSheet_5 (wi_goto fSheets_isSheet_6 (wi_ret2 fSheets_isSheet_8 (by decide) ((h.2 c2).2 c1))))))))))))
theorem k_Sheets_isSheet {xs : List Int} {d : Nat} {Q : Option w_V → w_M → Prop} {x0 : Int} {σ : w_M} (hQ : Q (some (.inl (w_bi (0 ≤ x0 ∧ x0 < 4)))) σ) : w_Call (xs, d) 96 [.inl x0] σ Q := by
  refine bSheets_isSheet_0 ⟨fun h => ?_, fun h => ⟨fun h2 => ?_, fun h2 => ?_⟩⟩
  · rw [w_bi_f (by omega)] at hQ; exact hQ
  · rw [w_bi_f (by omega)] at hQ; exact hQ
  · rw [w_bi_t (by omega)] at hQ; exact hQ
theorem fSheets_isNothing_0 : w_fe am_c97 0 1 (.iload 1) := ⟨rfl, rfl⟩
theorem fSheets_isNothing_1 : w_fe am_c97 1 2 (.invokestatic 96) := ⟨rfl, rfl⟩
theorem fSheets_isNothing_2 : w_if am_c97 2 3 .eq 8 := ⟨rfl, rfl⟩
theorem fSheets_isNothing_3 : w_fe am_c97 3 4 (.aload 0) := ⟨rfl, rfl⟩
theorem fSheets_isNothing_4 : w_fe am_c97 4 5 (.getfield 802) := ⟨rfl, rfl⟩
theorem fSheets_isNothing_5 : w_fe am_c97 5 6 (.iload 1) := ⟨rfl, rfl⟩
theorem fSheets_isNothing_6 : w_fe am_c97 6 7 (.iaload) := ⟨rfl, rfl⟩
theorem fSheets_isNothing_7 : w_if am_c97 7 8 .ge 10 := ⟨rfl, rfl⟩
theorem fSheets_isNothing_8 : w_fe am_c97 8 9 (.bipush 1) := ⟨rfl, rfl⟩
theorem fSheets_isNothing_9 : w_gt am_c97 9 11 := rfl
theorem fSheets_isNothing_10 : w_fe am_c97 10 11 (.bipush 0) := ⟨rfl, rfl⟩
theorem fSheets_isNothing_11 : w_fe am_c97 11 12 (.ireturn) := ⟨rfl, rfl⟩
set_option maxRecDepth 20000 in
theorem bSheets_isNothing_0 {xs : List Int} {d : Nat} {Q : Option w_V → w_M → Prop} {x1 : Int} {σ : w_M}
    (h : (¬ (0 ≤ x1 ∧ x1 < 4) → Q (some (.inl 1)) σ) ∧ ((0 ≤ x1 ∧ x1 < 4) → (0 ≤ x1 ∧ x1 < 4 ∧ ((0 ≤ (σ 87 x1.toNat) → Q (some (.inl 0)) σ) ∧ ((σ 87 x1.toNat) < 0 → Q (some (.inl 1)) σ))))) : w_Call (xs, (d + 1)) 97 [.inr (.inr (8, 80)), .inl x1] σ Q :=
  (w_mk (mid := 97) (by decide) rfl rfl rfl rfl rfl (Nat.le_of_ble_eq_true rfl) ⟨rfl, Or.inl (by decide)⟩ (wi_iload1 fSheets_isNothing_0 (wi_call1 fSheets_isNothing_1 (Nat.le_of_ble_eq_true rfl) (k_Sheets_isSheet (wi_ifb_eq fSheets_isNothing_2 (fun c2 => (wi_bipush fSheets_isNothing_8 (wi_goto fSheets_isNothing_9 (wi_ret2 fSheets_isNothing_11 (by decide) (h.1 c2))))) (fun c2 => (wi_aload0 fSheets_isNothing_3 (wi_getf802 fSheets_isNothing_4 (wi_iload1 fSheets_isNothing_5 (wi_iald1004 fSheets_isNothing_6 (h.2 c2).1 (h.2 c2).2.1 (wi_if_ge fSheets_isNothing_7 (fun c1 => (wi_bipush fSheets_isNothing_10 (wi_ret2 fSheets_isNothing_11 (by decide) ((h.2 c2).2.2.1 c1)))) (fun c1 => (wi_bipush fSheets_isNothing_8 (wi_goto fSheets_isNothing_9 (wi_ret2 fSheets_isNothing_11 (by decide) ((h.2 c2).2.2.2 c1))))))))))))))))
theorem k_Sheets_isNothing {xs : List Int} {d : Nat} {Q : Option w_V → w_M → Prop} {x1 : Int} {σ : w_M} (hQ : Q (some (.inl (w_bi (¬ ((0 : Int) ≤ x1 ∧ x1 < (4 : Int)) ∨ σ 87 (Int.toNat x1) < 0)))) σ) : w_Call (xs, d + 1) 97 [.inr (.inr (8, 80)), .inl x1] σ Q := by
  refine bSheets_isNothing_0 ⟨fun h => ?_, fun h => ⟨h.1, h.2, fun h2 => ?_, fun h2 => ?_⟩⟩
  · rw [w_bi_t (Or.inl h)] at hQ; exact hQ
  · rw [w_bi_f (fun q => by rcases q with q | q <;> omega)] at hQ; exact hQ
  · rw [w_bi_t (Or.inr h2)] at hQ; exact hQ
theorem fSheets_sizeOf_0 : w_fe am_c99 0 1 (.aload 0) := ⟨rfl, rfl⟩
theorem fSheets_sizeOf_1 : w_fe am_c99 1 2 (.iload 1) := ⟨rfl, rfl⟩
theorem fSheets_sizeOf_2 : w_fe am_c99 2 3 (.invokestatic 97) := ⟨rfl, rfl⟩
theorem fSheets_sizeOf_3 : w_if am_c99 3 4 .eq 6 := ⟨rfl, rfl⟩
theorem fSheets_sizeOf_4 : w_fe am_c99 4 5 (.bipush 0) := ⟨rfl, rfl⟩
theorem fSheets_sizeOf_5 : w_gt am_c99 5 10 := rfl
theorem fSheets_sizeOf_6 : w_fe am_c99 6 7 (.aload 0) := ⟨rfl, rfl⟩
theorem fSheets_sizeOf_7 : w_fe am_c99 7 8 (.getfield 802) := ⟨rfl, rfl⟩
theorem fSheets_sizeOf_8 : w_fe am_c99 8 9 (.iload 1) := ⟨rfl, rfl⟩
theorem fSheets_sizeOf_9 : w_fe am_c99 9 10 (.iaload) := ⟨rfl, rfl⟩
theorem fSheets_sizeOf_10 : w_fe am_c99 10 11 (.ireturn) := ⟨rfl, rfl⟩
set_option maxRecDepth 20000 in
theorem bSheets_sizeOf_0 {xs : List Int} {d : Nat} {Q : Option w_V → w_M → Prop} {x1 : Int} {σ : w_M}
    (h : (¬ (¬ ((0 : Int) ≤ x1 ∧ x1 < (4 : Int)) ∨ σ 87 (Int.toNat x1) < 0) → (0 ≤ x1 ∧ x1 < 4 ∧ Q (some (.inl (σ 87 x1.toNat))) σ)) ∧ ((¬ ((0 : Int) ≤ x1 ∧ x1 < (4 : Int)) ∨ σ 87 (Int.toNat x1) < 0) → Q (some (.inl 0)) σ)) : w_Call (xs, (d + 2)) 99 [.inr (.inr (8, 80)), .inl x1] σ Q :=
  (w_mk (mid := 99) (by decide) rfl rfl rfl rfl rfl (Nat.le_of_ble_eq_true rfl) ⟨rfl, Or.inl (by decide)⟩ (wi_aload0 fSheets_sizeOf_0 (wi_iload1 fSheets_sizeOf_1 (wi_call2 fSheets_sizeOf_2 (Nat.le_of_ble_eq_true rfl) (k_Sheets_isNothing (wi_ifb_eq fSheets_sizeOf_3 (fun c1 => (wi_aload0 fSheets_sizeOf_6 (wi_getf802 fSheets_sizeOf_7 (wi_iload1 fSheets_sizeOf_8 (wi_iald1004 fSheets_sizeOf_9 (h.1 c1).1 (h.1 c1).2.1 (wi_ret1 fSheets_sizeOf_10 (h.1 c1).2.2)))))) (fun c1 => (wi_bipush fSheets_sizeOf_4 (wi_goto fSheets_sizeOf_5 (wi_ret1 fSheets_sizeOf_10 (h.2 c1)))))))))))
theorem fSheets_isOfLane_0 : w_fe am_c101 0 1 (.aload 0) := ⟨rfl, rfl⟩
theorem fSheets_isOfLane_1 : w_fe am_c101 1 2 (.iload 1) := ⟨rfl, rfl⟩
theorem fSheets_isOfLane_2 : w_fe am_c101 2 3 (.invokestatic 97) := ⟨rfl, rfl⟩
theorem fSheets_isOfLane_3 : w_if am_c101 3 4 .ne 12 := ⟨rfl, rfl⟩
theorem fSheets_isOfLane_4 : w_fe am_c101 4 5 (.aload 0) := ⟨rfl, rfl⟩
theorem fSheets_isOfLane_5 : w_fe am_c101 5 6 (.getfield 801) := ⟨rfl, rfl⟩
theorem fSheets_isOfLane_6 : w_fe am_c101 6 7 (.iload 1) := ⟨rfl, rfl⟩
theorem fSheets_isOfLane_7 : w_fe am_c101 7 8 (.iaload) := ⟨rfl, rfl⟩
theorem fSheets_isOfLane_8 : w_fe am_c101 8 9 (.iload 2) := ⟨rfl, rfl⟩
theorem fSheets_isOfLane_9 : w_ic am_c101 9 10 .ne 12 := ⟨rfl, rfl⟩
theorem fSheets_isOfLane_10 : w_fe am_c101 10 11 (.bipush 1) := ⟨rfl, rfl⟩
theorem fSheets_isOfLane_11 : w_gt am_c101 11 13 := rfl
theorem fSheets_isOfLane_12 : w_fe am_c101 12 13 (.bipush 0) := ⟨rfl, rfl⟩
theorem fSheets_isOfLane_13 : w_fe am_c101 13 14 (.ireturn) := ⟨rfl, rfl⟩
set_option maxRecDepth 20000 in
theorem bSheets_isOfLane_0 {xs : List Int} {d : Nat} {Q : Option w_V → w_M → Prop} {x1 : Int} {x2 : Int} {σ : w_M}
    (h : ((¬ ((0 : Int) ≤ x1 ∧ x1 < (4 : Int)) ∨ σ 87 (Int.toNat x1) < 0) → Q (some (.inl 0)) σ) ∧ (¬ (¬ ((0 : Int) ≤ x1 ∧ x1 < (4 : Int)) ∨ σ 87 (Int.toNat x1) < 0) → (0 ≤ x1 ∧ x1 < 4 ∧ ((¬ (σ 86 x1.toNat) = x2 → Q (some (.inl 0)) σ) ∧ ((σ 86 x1.toNat) = x2 → Q (some (.inl 1)) σ))))) : w_Call (xs, (d + 2)) 101 [.inr (.inr (8, 80)), .inl x1, .inl x2] σ Q :=
  (w_mk (mid := 101) (by decide) rfl rfl rfl rfl rfl (Nat.le_of_ble_eq_true rfl) ⟨rfl, Or.inl (by decide)⟩ (wi_aload0 fSheets_isOfLane_0 (wi_iload1 fSheets_isOfLane_1 (wi_call2 fSheets_isOfLane_2 (Nat.le_of_ble_eq_true rfl) (k_Sheets_isNothing (wi_ifb_ne fSheets_isOfLane_3 (fun c2 => (wi_bipush fSheets_isOfLane_12 (wi_ret2 fSheets_isOfLane_13 (by decide) (h.1 c2)))) (fun c2 => (wi_aload0 fSheets_isOfLane_4 (wi_getf801 fSheets_isOfLane_5 (wi_iload1 fSheets_isOfLane_6 (wi_iald1004 fSheets_isOfLane_7 (h.2 c2).1 (h.2 c2).2.1 (wi_iload2 fSheets_isOfLane_8 (wi_ic_ne fSheets_isOfLane_9 (fun c1 => (wi_bipush fSheets_isOfLane_12 (wi_ret2 fSheets_isOfLane_13 (by decide) ((h.2 c2).2.2.1 c1)))) (fun c1 => (wi_bipush fSheets_isOfLane_10 (wi_goto fSheets_isOfLane_11 (wi_ret2 fSheets_isOfLane_13 (by decide) ((h.2 c2).2.2.2 c1))))))))))))))))))
theorem k_Sheets_sizeOf {xs : List Int} {d : Nat} {Q : Option w_V → w_M → Prop} {x1 : Int} {σ : w_M} (hQ : Q (some (.inl (v_Sheets_sizeOf x1 σ))) σ) : w_Call (xs, d + 2) 99 [.inr (.inr (8, 80)), .inl x1] σ Q := by
  unfold v_Sheets_sizeOf at hQ
  refine bSheets_sizeOf_0 ⟨fun h => ?_, fun h => ?_⟩
  · have h1 : 0 ≤ x1 ∧ x1 < 4 := Classical.byContradiction (fun q => h (Or.inl q))
    have h2 : ¬ σ 87 x1.toNat < 0 := fun q => h (Or.inr q)
    rw [if_pos ⟨h1, h2⟩] at hQ
    exact ⟨h1.1, h1.2, hQ⟩
  · rw [if_neg (fun q => by rcases h with h | h; exact h q.1; exact q.2 h)] at hQ
    exact hQ
theorem k_Sheets_isOfLane {xs : List Int} {d : Nat} {Q : Option w_V → w_M → Prop} {x1 : Int} {x2 : Int} {σ : w_M} (hQ : Q (some (.inl (w_bi (P_Sheets_isOfLane x1 x2 σ)))) σ) : w_Call (xs, d + 2) 101 [.inr (.inr (8, 80)), .inl x1, .inl x2] σ Q := by
  refine bSheets_isOfLane_0 ⟨fun h => ?_, fun h => ?_⟩
  · rw [w_bi_f (fun q => by rcases h with h | h; exact h q.1; exact q.2.1 h)] at hQ
    exact hQ
  · have h1 : 0 ≤ x1 ∧ x1 < 4 := Classical.byContradiction (fun q => h (Or.inl q))
    have h2 : ¬ σ 87 x1.toNat < 0 := fun q => h (Or.inr q)
    refine ⟨h1.1, h1.2, fun h3 => ?_, fun h3 => ?_⟩
    · rw [w_bi_f (fun q => h3 q.2.2)] at hQ; exact hQ
    · rw [w_bi_t ⟨h1, h2, h3⟩] at hQ; exact hQ
theorem fSheets_hasCell_0 : w_fe am_c98 0 1 (.iload 2) := ⟨rfl, rfl⟩
theorem fSheets_hasCell_1 : w_if am_c98 1 2 .lt 12 := ⟨rfl, rfl⟩
theorem fSheets_hasCell_2 : w_fe am_c98 2 3 (.iload 2) := ⟨rfl, rfl⟩
theorem fSheets_hasCell_3 : w_fe am_c98 3 4 (.aload 0) := ⟨rfl, rfl⟩
theorem fSheets_hasCell_4 : w_fe am_c98 4 5 (.iload 1) := ⟨rfl, rfl⟩
theorem fSheets_hasCell_5 : w_fe am_c98 5 6 (.invokestatic 99) := ⟨rfl, rfl⟩
theorem fSheets_hasCell_6 : w_ic am_c98 6 7 .ge 12 := ⟨rfl, rfl⟩
theorem fSheets_hasCell_7 : w_fe am_c98 7 8 (.iload 2) := ⟨rfl, rfl⟩
theorem fSheets_hasCell_8 : w_fe am_c98 8 9 (.bipush 40) := ⟨rfl, rfl⟩
theorem fSheets_hasCell_9 : w_ic am_c98 9 10 .ge 12 := ⟨rfl, rfl⟩
theorem fSheets_hasCell_10 : w_fe am_c98 10 11 (.bipush 1) := ⟨rfl, rfl⟩
theorem fSheets_hasCell_11 : w_gt am_c98 11 13 := rfl
theorem fSheets_hasCell_12 : w_fe am_c98 12 13 (.bipush 0) := ⟨rfl, rfl⟩
theorem fSheets_hasCell_13 : w_fe am_c98 13 14 (.ireturn) := ⟨rfl, rfl⟩
set_option maxRecDepth 20000 in
theorem bSheets_hasCell_0 {xs : List Int} {d : Nat} {Q : Option w_V → w_M → Prop} {x1 : Int} {x2 : Int} {σ : w_M}
    (h : (x2 < 0 → Q (some (.inl 0)) σ) ∧ (0 ≤ x2 → ∀ (y1 : Int), y1 = v_Sheets_sizeOf x1 σ → ((y1 ≤ x2 → Q (some (.inl 0)) σ) ∧ (x2 < y1 → ((40 ≤ x2 → Q (some (.inl 0)) σ) ∧ (x2 < 40 → Q (some (.inl 1)) σ)))))) : w_Call (xs, (d + 3)) 98 [.inr (.inr (8, 80)), .inl x1, .inl x2] σ Q :=
  (w_mk (mid := 98) (by decide) rfl rfl rfl rfl rfl (Nat.le_of_ble_eq_true rfl) ⟨rfl, Or.inl (by decide)⟩ (wi_iload2 fSheets_hasCell_0 (wi_if_lt fSheets_hasCell_1 (fun c4 => (wi_bipush fSheets_hasCell_12 (wi_ret2 fSheets_hasCell_13 (by decide) (h.1 c4)))) (fun c4 => (wi_iload2 fSheets_hasCell_2 (wi_aload0 fSheets_hasCell_3 (wi_iload1 fSheets_hasCell_4 (wi_call2 fSheets_hasCell_5 (Nat.le_of_ble_eq_true rfl) (k_Sheets_sizeOf (wi_ic_ge fSheets_hasCell_6 (fun c3 => (wi_bipush fSheets_hasCell_12 (wi_ret2 fSheets_hasCell_13 (by decide) (((h.2 c4) _ rfl).1 c3)))) (fun c3 => (wi_iload2 fSheets_hasCell_7 (wi_bipush fSheets_hasCell_8 (wi_ic_ge fSheets_hasCell_9 (fun c2 => (wi_bipush fSheets_hasCell_12 (wi_ret2 fSheets_hasCell_13 (by decide) ((((h.2 c4) _ rfl).2 c3).1 c2)))) (fun c2 => (wi_bipush fSheets_hasCell_10 (wi_goto fSheets_hasCell_11 (wi_ret2 fSheets_hasCell_13 (by decide) ((((h.2 c4) _ rfl).2 c3).2 c2)))))))))))))))))))
theorem k_Sheets_hasCell {xs : List Int} {d : Nat} {Q : Option w_V → w_M → Prop} {x1 : Int} {x2 : Int} {σ : w_M} (hQ : Q (some (.inl (w_bi (P_Sheets_hasCell x1 x2 σ)))) σ) : w_Call (xs, d + 3) 98 [.inr (.inr (8, 80)), .inl x1, .inl x2] σ Q := by
  unfold P_Sheets_hasCell at hQ
  refine bSheets_hasCell_0 ⟨fun h => ?_, fun h => fun y e => ⟨fun h2 => ?_, fun h2 => ⟨fun h3 => ?_, fun h3 => ?_⟩⟩⟩
  · rw [w_bi_f (by omega)] at hQ; exact hQ
  · rw [w_bi_f (by omega)] at hQ; exact hQ
  · rw [w_bi_f (by omega)] at hQ; exact hQ
  · rw [w_bi_t (by omega)] at hQ; exact hQ
noncomputable def p_Sheets_renew (k _lane _n : Int) (_ : w_M) : Prop := 0 ≤ k ∧ k < 4
noncomputable def q_Sheets_renew (k lane n : Int) (σ σ' : w_M) : Prop := σ' = f_fill (w_up (w_up σ 86 k.toNat lane) 87 k.toNat n) (82 + k.toNat) 40 0
theorem fSheets_renew_0 : w_fe am_c95 0 1 (.iload 1) := ⟨rfl, rfl⟩
theorem fSheets_renew_1 : w_fe am_c95 1 2 (.invokestatic 96) := ⟨rfl, rfl⟩
theorem fSheets_renew_2 : w_if am_c95 2 3 .eq 19 := ⟨rfl, rfl⟩
theorem fSheets_renew_3 : w_fe am_c95 3 4 (.aload 0) := ⟨rfl, rfl⟩
theorem fSheets_renew_4 : w_fe am_c95 4 5 (.getfield 801) := ⟨rfl, rfl⟩
theorem fSheets_renew_5 : w_fe am_c95 5 6 (.iload 1) := ⟨rfl, rfl⟩
theorem fSheets_renew_6 : w_fe am_c95 6 7 (.iload 2) := ⟨rfl, rfl⟩
theorem fSheets_renew_7 : w_fe am_c95 7 8 (.iastore) := ⟨rfl, rfl⟩
theorem fSheets_renew_8 : w_fe am_c95 8 9 (.aload 0) := ⟨rfl, rfl⟩
theorem fSheets_renew_9 : w_fe am_c95 9 10 (.getfield 802) := ⟨rfl, rfl⟩
theorem fSheets_renew_10 : w_fe am_c95 10 11 (.iload 1) := ⟨rfl, rfl⟩
theorem fSheets_renew_11 : w_fe am_c95 11 12 (.iload 3) := ⟨rfl, rfl⟩
theorem fSheets_renew_12 : w_fe am_c95 12 13 (.iastore) := ⟨rfl, rfl⟩
theorem fSheets_renew_13 : w_fe am_c95 13 14 (.aload 0) := ⟨rfl, rfl⟩
theorem fSheets_renew_14 : w_fe am_c95 14 15 (.getfield 800) := ⟨rfl, rfl⟩
theorem fSheets_renew_15 : w_fe am_c95 15 16 (.iload 1) := ⟨rfl, rfl⟩
theorem fSheets_renew_16 : w_fe am_c95 16 17 (.aaload) := ⟨rfl, rfl⟩
theorem fSheets_renew_17 : w_fe am_c95 17 18 (.bipush 0) := ⟨rfl, rfl⟩
theorem fSheets_renew_18 : w_fe am_c95 18 19 (.invokestatic 4) := ⟨rfl, rfl⟩
theorem fSheets_renew_19 : w_fe am_c95 19 20 (.return_) := ⟨rfl, rfl⟩
set_option maxRecDepth 20000 in
theorem bSheets_renew_0 {xs : List Int} {d : Nat} {Q : Option w_V → w_M → Prop} {x1 : Int} {x2 : Int} {x3 : Int} {σ : w_M}
    (h : (¬ (0 ≤ x1 ∧ x1 < 4) → Q none σ) ∧ ((0 ≤ x1 ∧ x1 < 4) → (0 ≤ x1 ∧ x1 < 4 ∧ (∀ (τ1 : w_M), τ1 = w_up σ 86 x1.toNat x2 → ∀ (τ2 : w_M), τ2 = w_up τ1 87 x1.toNat x3 → ∀ (τ3 : w_M), q_Arrays_fill40 (82 + x1.toNat) 0 τ2 τ3 → Q none τ3)))) : w_Call (xs, (d + 1)) 95 [.inr (.inr (8, 80)), .inl x1, .inl x2, .inl x3] σ Q :=
  (w_mk (mid := 95) (by decide) rfl rfl rfl rfl rfl (Nat.le_of_ble_eq_true rfl) ⟨rfl, Or.inl (by decide)⟩ (wi_iload1 fSheets_renew_0 (wi_call1 fSheets_renew_1 (Nat.le_of_ble_eq_true rfl) (k_Sheets_isSheet (wi_ifb_eq fSheets_renew_2 (fun c4 => (wi_ret0 fSheets_renew_19 (h.1 c4))) (fun c4 => (wi_aload0 fSheets_renew_3 (wi_getf801 fSheets_renew_4 (wi_iload1 fSheets_renew_5 (wi_iload2 fSheets_renew_6 (wi_iast1004 fSheets_renew_7 (h.2 c4).1 (h.2 c4).2.1 (wi_aload0 fSheets_renew_8 (wi_getf802 fSheets_renew_9 (wi_iload1 fSheets_renew_10 (wi_iload3 fSheets_renew_11 (wi_iast1004 fSheets_renew_12 (h.2 c4).1 (h.2 c4).2.1 (wi_aload0 fSheets_renew_13 (wi_getf800 fSheets_renew_14 (wi_iload1 fSheets_renew_15 (wi_aald10440 fSheets_renew_16 (h.2 c4).1 (h.2 c4).2.1 (wi_bipush fSheets_renew_17 (wi_call2 fSheets_renew_18 (Nat.le_of_ble_eq_true rfl) (k_Arrays_fill40 (fun τ3 eτ3 => (wi_ret0 fSheets_renew_19 ((((h.2 c4).2.2 _ rfl) _ rfl) τ3 eτ3))))))))))))))))))))))))))
theorem k_Sheets_renew {xs : List Int} {d : Nat} {Q : Option w_V → w_M → Prop} {x1 : Int} {x2 : Int} {x3 : Int} {σ : w_M} (hp : p_Sheets_renew x1 x2 x3 σ) (hQ : ∀ σ' : w_M, q_Sheets_renew x1 x2 x3 σ σ' → Q none σ') : w_Call (xs, d + 1) 95 [.inr (.inr (8, 80)), .inl x1, .inl x2, .inl x3] σ Q := by
  have h : 0 ≤ x1 ∧ x1 < 4 := hp
  refine bSheets_renew_0 ⟨fun c => absurd h c, fun c => ⟨c.1, c.2, fun τ1 t1 τ2 t2 τ3 q3 => hQ _ ?_⟩⟩
  show τ3 = _
  rw [q3, t2, t1]
noncomputable def p_Sheets_put (k i _v : Int) (σ : w_M) : Prop := (0 ≤ k ∧ k < 4) ∧ P_Sheets_hasCell k i σ
noncomputable def q_Sheets_put (k i v : Int) (σ σ' : w_M) : Prop := σ' = w_up σ (82 + k.toNat) i.toNat (shVal (σ 86 k.toNat) v)
theorem fSheets_put_0 : w_fe am_c100 0 1 (.aload 0) := ⟨rfl, rfl⟩
theorem fSheets_put_1 : w_fe am_c100 1 2 (.iload 1) := ⟨rfl, rfl⟩
theorem fSheets_put_2 : w_fe am_c100 2 3 (.iload 2) := ⟨rfl, rfl⟩
theorem fSheets_put_3 : w_fe am_c100 3 4 (.invokestatic 98) := ⟨rfl, rfl⟩
theorem fSheets_put_4 : w_if am_c100 4 5 .ne 6 := ⟨rfl, rfl⟩
theorem fSheets_put_5 : w_fe am_c100 5 6 (.return_) := ⟨rfl, rfl⟩
theorem fSheets_put_6 : w_fe am_c100 6 7 (.aload 0) := ⟨rfl, rfl⟩
theorem fSheets_put_7 : w_fe am_c100 7 8 (.getfield 801) := ⟨rfl, rfl⟩
theorem fSheets_put_8 : w_fe am_c100 8 9 (.iload 1) := ⟨rfl, rfl⟩
theorem fSheets_put_9 : w_fe am_c100 9 10 (.iaload) := ⟨rfl, rfl⟩
theorem fSheets_put_10 : w_if am_c100 10 11 .ne 20 := ⟨rfl, rfl⟩
theorem fSheets_put_11 : w_fe am_c100 11 12 (.aload 0) := ⟨rfl, rfl⟩
theorem fSheets_put_12 : w_fe am_c100 12 13 (.getfield 800) := ⟨rfl, rfl⟩
theorem fSheets_put_13 : w_fe am_c100 13 14 (.iload 1) := ⟨rfl, rfl⟩
theorem fSheets_put_14 : w_fe am_c100 14 15 (.aaload) := ⟨rfl, rfl⟩
theorem fSheets_put_15 : w_fe am_c100 15 16 (.iload 2) := ⟨rfl, rfl⟩
theorem fSheets_put_16 : w_fe am_c100 16 17 (.iload 3) := ⟨rfl, rfl⟩
theorem fSheets_put_17 : w_fe am_c100 17 18 (.i2b) := ⟨rfl, rfl⟩
theorem fSheets_put_18 : w_fe am_c100 18 19 (.iastore) := ⟨rfl, rfl⟩
theorem fSheets_put_19 : w_gt am_c100 19 42 := rfl
theorem fSheets_put_20 : w_fe am_c100 20 21 (.aload 0) := ⟨rfl, rfl⟩
theorem fSheets_put_21 : w_fe am_c100 21 22 (.getfield 801) := ⟨rfl, rfl⟩
theorem fSheets_put_22 : w_fe am_c100 22 23 (.iload 1) := ⟨rfl, rfl⟩
theorem fSheets_put_23 : w_fe am_c100 23 24 (.iaload) := ⟨rfl, rfl⟩
theorem fSheets_put_24 : w_fe am_c100 24 25 (.bipush 1) := ⟨rfl, rfl⟩
theorem fSheets_put_25 : w_ic am_c100 25 26 .ne 35 := ⟨rfl, rfl⟩
theorem fSheets_put_26 : w_fe am_c100 26 27 (.aload 0) := ⟨rfl, rfl⟩
theorem fSheets_put_27 : w_fe am_c100 27 28 (.getfield 800) := ⟨rfl, rfl⟩
theorem fSheets_put_28 : w_fe am_c100 28 29 (.iload 1) := ⟨rfl, rfl⟩
theorem fSheets_put_29 : w_fe am_c100 29 30 (.aaload) := ⟨rfl, rfl⟩
theorem fSheets_put_30 : w_fe am_c100 30 31 (.iload 2) := ⟨rfl, rfl⟩
theorem fSheets_put_31 : w_fe am_c100 31 32 (.iload 3) := ⟨rfl, rfl⟩
theorem fSheets_put_32 : w_fe am_c100 32 33 (.i2s) := ⟨rfl, rfl⟩
theorem fSheets_put_33 : w_fe am_c100 33 34 (.iastore) := ⟨rfl, rfl⟩
theorem fSheets_put_34 : w_gt am_c100 34 42 := rfl
theorem fSheets_put_35 : w_fe am_c100 35 36 (.aload 0) := ⟨rfl, rfl⟩
theorem fSheets_put_36 : w_fe am_c100 36 37 (.getfield 800) := ⟨rfl, rfl⟩
theorem fSheets_put_37 : w_fe am_c100 37 38 (.iload 1) := ⟨rfl, rfl⟩
theorem fSheets_put_38 : w_fe am_c100 38 39 (.aaload) := ⟨rfl, rfl⟩
theorem fSheets_put_39 : w_fe am_c100 39 40 (.iload 2) := ⟨rfl, rfl⟩
theorem fSheets_put_40 : w_fe am_c100 40 41 (.iload 3) := ⟨rfl, rfl⟩
theorem fSheets_put_41 : w_fe am_c100 41 42 (.iastore) := ⟨rfl, rfl⟩
theorem fSheets_put_42 : w_fe am_c100 42 43 (.return_) := ⟨rfl, rfl⟩
set_option maxRecDepth 20000 in
theorem bSheets_put_0 {xs : List Int} {d : Nat} {Q : Option w_V → w_M → Prop} {x1 : Int} {x2 : Int} {x3 : Int} {σ : w_M}
    (h : ((P_Sheets_hasCell x1 x2 σ) → (0 ≤ x1 ∧ x1 < 4 ∧ ((¬ (σ 86 x1.toNat) = 0 → ((¬ (σ 86 x1.toNat) = 1 → (0 ≤ x2 ∧ x2 < 40 ∧ (∀ (τ1 : w_M), τ1 = w_up σ (82 + x1.toNat) x2.toNat x3 → Q none τ1))) ∧ ((σ 86 x1.toNat) = 1 → (0 ≤ x2 ∧ x2 < 40 ∧ (∀ (τ2 : w_M), τ2 = w_up σ (82 + x1.toNat) x2.toNat (Int.bmod x3 65536) → Q none τ2))))) ∧ ((σ 86 x1.toNat) = 0 → (0 ≤ x2 ∧ x2 < 40 ∧ (∀ (τ4 : w_M), τ4 = w_up σ (82 + x1.toNat) x2.toNat (Int.bmod x3 256) → Q none τ4)))))) ∧ (¬ (P_Sheets_hasCell x1 x2 σ) → Q none σ)) : w_Call (xs, (d + 4)) 100 [.inr (.inr (8, 80)), .inl x1, .inl x2, .inl x3] σ Q :=
  (w_mk (mid := 100) (by decide) rfl rfl rfl rfl rfl (Nat.le_of_ble_eq_true rfl) ⟨rfl, Or.inl (by decide)⟩ (wi_aload0 fSheets_put_0 (wi_iload1 fSheets_put_1 (wi_iload2 fSheets_put_2 (wi_call3 fSheets_put_3 (Nat.le_of_ble_eq_true rfl) (k_Sheets_hasCell (wi_ifb_ne fSheets_put_4 (fun c6 => (wi_aload0 fSheets_put_6 (wi_getf801 fSheets_put_7 (wi_iload1 fSheets_put_8 (wi_iald1004 fSheets_put_9 (h.1 c6).1 (h.1 c6).2.1 (wi_if_ne fSheets_put_10 (fun c5 => (wi_aload0 fSheets_put_20 (wi_getf801 fSheets_put_21 (wi_iload1 fSheets_put_22 (wi_iald1004 fSheets_put_23 (h.1 c6).1 (h.1 c6).2.1 (wi_bipush fSheets_put_24 (wi_ic_ne fSheets_put_25 (fun c3 => (wi_aload0 fSheets_put_35 (wi_getf800 fSheets_put_36 (wi_iload1 fSheets_put_37 (wi_aald10440 fSheets_put_38 (h.1 c6).1 (h.1 c6).2.1 (wi_iload2 fSheets_put_39 (wi_iload3 fSheets_put_40 (wi_iast1040 fSheets_put_41 (((h.1 c6).2.2.1 c5).1 c3).1 (((h.1 c6).2.2.1 c5).1 c3).2.1 (wi_ret0 fSheets_put_42 ((((h.1 c6).2.2.1 c5).1 c3).2.2 _ rfl)))))))))) (fun c3 => (wi_aload0 fSheets_put_26 (wi_getf800 fSheets_put_27 (wi_iload1 fSheets_put_28 (wi_aald10440 fSheets_put_29 (h.1 c6).1 (h.1 c6).2.1 (wi_iload2 fSheets_put_30 (wi_iload3 fSheets_put_31 (wi_i2s fSheets_put_32 (wi_iast1040 fSheets_put_33 (((h.1 c6).2.2.1 c5).2 c3).1 (((h.1 c6).2.2.1 c5).2 c3).2.1 (wi_goto fSheets_put_34 (wi_ret0 fSheets_put_42 ((((h.1 c6).2.2.1 c5).2 c3).2.2 _ rfl))))))))))))))))))) (fun c5 => (wi_aload0 fSheets_put_11 (wi_getf800 fSheets_put_12 (wi_iload1 fSheets_put_13 (wi_aald10440 fSheets_put_14 (h.1 c6).1 (h.1 c6).2.1 (wi_iload2 fSheets_put_15 (wi_iload3 fSheets_put_16 (wi_i2b fSheets_put_17 (wi_iast1040 fSheets_put_18 ((h.1 c6).2.2.2 c5).1 ((h.1 c6).2.2.2 c5).2.1 (wi_goto fSheets_put_19 (wi_ret0 fSheets_put_42 (((h.1 c6).2.2.2 c5).2.2 _ rfl)))))))))))))))))) (fun c6 => (wi_ret0 fSheets_put_5 (h.2 c6))))))))))
theorem k_Sheets_put {xs : List Int} {d : Nat} {Q : Option w_V → w_M → Prop} {x1 : Int} {x2 : Int} {x3 : Int} {σ : w_M} (hp : p_Sheets_put x1 x2 x3 σ) (hQ : ∀ σ' : w_M, q_Sheets_put x1 x2 x3 σ σ' → Q none σ') : w_Call (xs, d + 4) 100 [.inr (.inr (8, 80)), .inl x1, .inl x2, .inl x3] σ Q := by
  obtain ⟨hk, hc⟩ := hp
  refine bSheets_put_0 ⟨fun c => ⟨hk.1, hk.2, fun h0 => ⟨fun h1 => ⟨c.1, c.2.2, fun τ t => hQ _ ?_⟩, fun h1 => ⟨c.1, c.2.2, fun τ t => hQ _ ?_⟩⟩, fun h0 => ⟨c.1, c.2.2, fun τ t => hQ _ ?_⟩⟩, fun c => absurd hc c⟩
  · show τ = _; rw [t]; unfold shVal; rw [if_neg h0, if_neg h1]
  · show τ = _; rw [t]; unfold shVal; rw [if_neg h0, if_pos h1]
  · show τ = _; rw [t]; unfold shVal; rw [if_pos h0]
noncomputable def p_Sheets_cell (k _i : Int) (_ : w_M) : Prop := 0 ≤ k ∧ k < 4
noncomputable def v_Sheets_cell (k i : Int) (σ : w_M) : Int := @ite _ (P_Sheets_hasCell k i σ) (Classical.propDecidable _) (σ (82 + k.toNat) i.toNat) (-1)
theorem fSheets_cell_0 : w_fe am_c103 0 1 (.aload 0) := ⟨rfl, rfl⟩
theorem fSheets_cell_1 : w_fe am_c103 1 2 (.iload 1) := ⟨rfl, rfl⟩
theorem fSheets_cell_2 : w_fe am_c103 2 3 (.iload 2) := ⟨rfl, rfl⟩
theorem fSheets_cell_3 : w_fe am_c103 3 4 (.invokestatic 98) := ⟨rfl, rfl⟩
theorem fSheets_cell_4 : w_if am_c103 4 5 .eq 12 := ⟨rfl, rfl⟩
theorem fSheets_cell_5 : w_fe am_c103 5 6 (.aload 0) := ⟨rfl, rfl⟩
theorem fSheets_cell_6 : w_fe am_c103 6 7 (.getfield 800) := ⟨rfl, rfl⟩
theorem fSheets_cell_7 : w_fe am_c103 7 8 (.iload 1) := ⟨rfl, rfl⟩
theorem fSheets_cell_8 : w_fe am_c103 8 9 (.aaload) := ⟨rfl, rfl⟩
theorem fSheets_cell_9 : w_fe am_c103 9 10 (.iload 2) := ⟨rfl, rfl⟩
theorem fSheets_cell_10 : w_fe am_c103 10 11 (.iaload) := ⟨rfl, rfl⟩
theorem fSheets_cell_11 : w_gt am_c103 11 13 := rfl
theorem fSheets_cell_12 : w_fe am_c103 12 13 (.bipush (-1)) := ⟨rfl, rfl⟩
theorem fSheets_cell_13 : w_fe am_c103 13 14 (.ireturn) := ⟨rfl, rfl⟩
set_option maxRecDepth 20000 in
theorem bSheets_cell_0 {xs : List Int} {d : Nat} {Q : Option w_V → w_M → Prop} {x1 : Int} {x2 : Int} {σ : w_M}
    (h : (¬ (P_Sheets_hasCell x1 x2 σ) → Q (some (.inl (-1))) σ) ∧ ((P_Sheets_hasCell x1 x2 σ) → (0 ≤ x1 ∧ x1 < 4 ∧ 0 ≤ x2 ∧ x2 < 40 ∧ Q (some (.inl (σ (82 + x1.toNat) x2.toNat))) σ))) : w_Call (xs, (d + 4)) 103 [.inr (.inr (8, 80)), .inl x1, .inl x2] σ Q :=
  (w_mk (mid := 103) (by decide) rfl rfl rfl rfl rfl (Nat.le_of_ble_eq_true rfl) ⟨rfl, Or.inl (by decide)⟩ (wi_aload0 fSheets_cell_0 (wi_iload1 fSheets_cell_1 (wi_iload2 fSheets_cell_2 (wi_call3 fSheets_cell_3 (Nat.le_of_ble_eq_true rfl) (k_Sheets_hasCell (wi_ifb_eq fSheets_cell_4 (fun c1 => (wi_bipush fSheets_cell_12 (wi_ret1 fSheets_cell_13 (h.1 c1)))) (fun c1 => (wi_aload0 fSheets_cell_5 (wi_getf800 fSheets_cell_6 (wi_iload1 fSheets_cell_7 (wi_aald10440 fSheets_cell_8 (h.2 c1).1 (h.2 c1).2.1 (wi_iload2 fSheets_cell_9 (wi_iald1040 fSheets_cell_10 (h.2 c1).2.2.1 (h.2 c1).2.2.2.1 (wi_goto fSheets_cell_11 (wi_ret1 fSheets_cell_13 (h.2 c1).2.2.2.2))))))))))))))))
theorem k_Sheets_cell {xs : List Int} {d : Nat} {Q : Option w_V → w_M → Prop} {x1 : Int} {x2 : Int} {σ : w_M} (hp : p_Sheets_cell x1 x2 σ) (hQ : Q (some (.inl (v_Sheets_cell x1 x2 σ))) σ) : w_Call (xs, d + 4) 103 [.inr (.inr (8, 80)), .inl x1, .inl x2] σ Q := by
  have hk : 0 ≤ x1 ∧ x1 < 4 := hp
  refine bSheets_cell_0 ⟨fun c => ?_, fun c => ⟨hk.1, hk.2, c.1, c.2.2, ?_⟩⟩
  · exact w_Qe hQ (if_neg c)
  · exact w_Qe hQ (if_pos c)
noncomputable def p_Moon_sheet (_x1 : Int) (_x2 : Int) (_x3 : Int) (σ : w_M) : Prop := CI σ
noncomputable def q_Moon_sheet (x1 : Int) (x2 : Int) (x3 : Int) (σ : w_M) (x : Int) (σ' : w_M) : Prop := c_q (F_sheet (cS σ) x1 x2 x3) (G_sheet (cS σ) x1 x2 x3) σ x σ'
theorem fMoon_sheet_0 : w_fe am_c148 0 1 (.iload 1) := ⟨rfl, rfl⟩
theorem fMoon_sheet_1 : w_fe am_c148 1 2 (.bipush 0) := ⟨rfl, rfl⟩
theorem fMoon_sheet_2 : w_fe am_c148 2 3 (.bipush 3) := ⟨rfl, rfl⟩
theorem fMoon_sheet_3 : w_fe am_c148 3 4 (.invokestatic 107) := ⟨rfl, rfl⟩
theorem fMoon_sheet_4 : w_if am_c148 4 5 .eq 13 := ⟨rfl, rfl⟩
theorem fMoon_sheet_5 : w_fe am_c148 5 6 (.iload 2) := ⟨rfl, rfl⟩
theorem fMoon_sheet_6 : w_fe am_c148 6 7 (.bipush 0) := ⟨rfl, rfl⟩
theorem fMoon_sheet_7 : w_fe am_c148 7 8 (.bipush 2) := ⟨rfl, rfl⟩
theorem fMoon_sheet_8 : w_fe am_c148 8 9 (.invokestatic 107) := ⟨rfl, rfl⟩
theorem fMoon_sheet_9 : w_if am_c148 9 10 .eq 13 := ⟨rfl, rfl⟩
theorem fMoon_sheet_10 : w_fe am_c148 10 11 (.iload 3) := ⟨rfl, rfl⟩
theorem fMoon_sheet_11 : w_fe am_c148 11 12 (.bipush 40) := ⟨rfl, rfl⟩
theorem fMoon_sheet_12 : w_ic am_c148 12 13 .le 15 := ⟨rfl, rfl⟩
theorem fMoon_sheet_13 : w_fe am_c148 13 14 (.bipush (-1)) := ⟨rfl, rfl⟩
theorem fMoon_sheet_14 : w_fe am_c148 14 15 (.ireturn) := ⟨rfl, rfl⟩
theorem fMoon_sheet_15 : w_fe am_c148 15 16 (.iload 3) := ⟨rfl, rfl⟩
theorem fMoon_sheet_16 : w_if am_c148 16 17 .ge 19 := ⟨rfl, rfl⟩
theorem fMoon_sheet_17 : w_fe am_c148 17 18 (.bipush (-14)) := ⟨rfl, rfl⟩
theorem fMoon_sheet_18 : w_fe am_c148 18 19 (.ireturn) := ⟨rfl, rfl⟩
theorem fMoon_sheet_19 : w_fe am_c148 19 20 (.aload 0) := ⟨rfl, rfl⟩
theorem fMoon_sheet_20 : w_fe am_c148 20 21 (.getfield 6) := ⟨rfl, rfl⟩
theorem fMoon_sheet_21 : w_fe am_c148 21 22 (.iload 1) := ⟨rfl, rfl⟩
theorem fMoon_sheet_22 : w_fe am_c148 22 23 (.iload 2) := ⟨rfl, rfl⟩
theorem fMoon_sheet_23 : w_fe am_c148 23 24 (.iload 3) := ⟨rfl, rfl⟩
theorem fMoon_sheet_24 : w_fe am_c148 24 25 (.invokestatic 95) := ⟨rfl, rfl⟩
theorem fMoon_sheet_25 : w_fe am_c148 25 26 (.bipush 1) := ⟨rfl, rfl⟩
theorem fMoon_sheet_26 : w_fe am_c148 26 27 (.ireturn) := ⟨rfl, rfl⟩
set_option maxRecDepth 20000 in
theorem bMoon_sheet_0 {xs : List Int} {d : Nat} {Q : Option w_V → w_M → Prop} {x1 : Int} {x2 : Int} {x3 : Int} {σ : w_M}
    (h : (¬ (0 ≤ x1 ∧ x1 ≤ 3) → Q (some (.inl (-1))) σ) ∧ ((0 ≤ x1 ∧ x1 ≤ 3) → ((¬ (0 ≤ x2 ∧ x2 ≤ 2) → Q (some (.inl (-1))) σ) ∧ ((0 ≤ x2 ∧ x2 ≤ 2) → ((x3 ≤ 40 → ((0 ≤ x3 → (p_Sheets_renew x1 x2 x3 σ ∧ (∀ (τ1 : w_M), q_Sheets_renew x1 x2 x3 σ τ1 → Q (some (.inl 1)) τ1))) ∧ (x3 < 0 → Q (some (.inl (-14))) σ))) ∧ (40 < x3 → Q (some (.inl (-1))) σ)))))) : w_Call (xs, (d + 2)) 148 [.inr (.inr (0, 0)), .inl x1, .inl x2, .inl x3] σ Q :=
  (w_mk (mid := 148) (by decide) rfl rfl rfl rfl rfl (Nat.le_of_ble_eq_true rfl) ⟨rfl, Or.inl (by decide)⟩ (wi_iload1 fMoon_sheet_0 (wi_bipush fMoon_sheet_1 (wi_bipush fMoon_sheet_2 (wi_call3 fMoon_sheet_3 (Nat.le_of_ble_eq_true rfl) (k_Moon_isWithin (wi_ifb_eq fMoon_sheet_4 (fun c5 => (wi_bipush fMoon_sheet_13 (wi_ret1 fMoon_sheet_14 (h.1 c5)))) (fun c5 => (wi_iload2 fMoon_sheet_5 (wi_bipush fMoon_sheet_6 (wi_bipush fMoon_sheet_7 (wi_call3 fMoon_sheet_8 (Nat.le_of_ble_eq_true rfl) (k_Moon_isWithin (wi_ifb_eq fMoon_sheet_9 (fun c4 => (wi_bipush fMoon_sheet_13 (wi_ret1 fMoon_sheet_14 ((h.2 c5).1 c4)))) (fun c4 => (wi_iload3 fMoon_sheet_10 (wi_bipush fMoon_sheet_11 (wi_ic_le fMoon_sheet_12 (fun c3 => (wi_iload3 fMoon_sheet_15 (wi_if_ge fMoon_sheet_16 (fun c2 => (wi_aload0 fMoon_sheet_19 (wi_getf6 fMoon_sheet_20 (wi_iload1 fMoon_sheet_21 (wi_iload2 fMoon_sheet_22 (wi_iload3 fMoon_sheet_23 (wi_call4 fMoon_sheet_24 (Nat.le_of_ble_eq_true rfl) (k_Sheets_renew ((((h.2 c5).2 c4).1 c3).1 c2).1 (fun τ1 eτ1 => (wi_bipush fMoon_sheet_25 (wi_ret1 fMoon_sheet_26 (((((h.2 c5).2 c4).1 c3).1 c2).2 τ1 eτ1)))))))))))) (fun c2 => (wi_bipush fMoon_sheet_17 (wi_ret1 fMoon_sheet_18 ((((h.2 c5).2 c4).1 c3).2 c2))))))) (fun c3 => (wi_bipush fMoon_sheet_13 (wi_ret1 fMoon_sheet_14 (((h.2 c5).2 c4).2 c3))))))))))))))))))))))
theorem k_Moon_sheet {xs : List Int} {d : Nat} {Q : Option w_V → w_M → Prop} {x1 : Int} {x2 : Int} {x3 : Int} {σ : w_M} (hp : p_Moon_sheet x1 x2 x3 σ) (hQ : ∀ (x : Int) (σ' : w_M), q_Moon_sheet x1 x2 x3 σ x σ' → Q (some (.inl x)) σ') : w_Call (xs, d + 2) 148 [.inr (.inr (0, 0)), .inl x1, .inl x2, .inl x3] σ Q := by
  have hC : CI σ := hp
  unfold q_Moon_sheet at hQ
  have bad : ¬ P_sheet x1 x2 x3 → Q (some (.inl (-1))) σ := fun h => by
    have e1 : F_sheet (cS σ) x1 x2 x3 = -1 := if_neg h
    have e2 : G_sheet (cS σ) x1 x2 x3 = cS σ := if_neg (fun q => h q.1)
    rw [e1, e2] at hQ
    exact hQ _ _ (c_qr hC rfl)
  refine bMoon_sheet_0 ⟨fun c => bad (fun q => c q.1.1), fun c => ⟨fun c2 => bad (fun q => c2 q.1.2), fun c2 => ⟨fun c3 => ⟨fun c4 => ⟨⟨c.1, by omega⟩, fun τ hq => ?_⟩, fun c4 => ?_⟩, fun c3 => bad (fun q => by have := q.2; omega)⟩⟩⟩
  · have hP : P_sheet x1 x2 x3 := ⟨⟨c, c2⟩, c3⟩
    have e1 : F_sheet (cS σ) x1 x2 x3 = 1 := (if_pos hP).trans (if_neg (by omega))
    have e2 : G_sheet (cS σ) x1 x2 x3 = w_sp (cS σ) 4 (shNew (h_ab σ) x1.toNat x2 x3) := if_pos ⟨hP, c4⟩
    rw [e1, e2] at hQ
    have t : τ = f_fill (w_up (w_up σ 86 x1.toNat x2) 87 x1.toNat x3) (82 + x1.toNat) 40 0 := hq
    have hk4 : x1.toNat < 4 := by omega
    refine hQ _ _ (c_q4 hC (fun b hb => ?_) ?_ (shNew_WF hC.1.2.2.2.2.1 c2 ⟨c4, c3⟩) rfl)
    · rw [t, f_fill_ne (by omega), w_up_ne (by omega), w_up_ne (by omega)]
    · have t87 : τ 87 = w_up σ 87 x1.toNat x3 87 := by
        rw [t, f_fill_ne (by omega)]
        funext j
        show (if 87 = 87 ∧ j = x1.toNat then x3 else w_up σ 86 x1.toNat x2 87 j) = (if 87 = 87 ∧ j = x1.toNat then x3 else σ 87 j)
        rw [w_up_ne (show 87 ≠ 86 by decide)]
      have t86 : τ 86 = w_up σ 86 x1.toNat x2 86 := by rw [t, f_fill_ne (by omega), w_up_ne (by decide)]
      funext q j
      unfold h_ab shNew
      by_cases hq4 : q < 4
      · rw [if_pos hq4]
        by_cases hqk : q = x1.toNat
        · rw [if_pos hqk, t87, t86, hqk, w_up_at, w_up_at, if_neg (by omega)]
          by_cases hj0 : j = 0
          · rw [if_pos hj0, if_pos hj0]
          · rw [if_neg hj0, if_neg hj0]
            by_cases hj1 : j = 1
            · rw [if_pos hj1, if_pos hj1]
            · rw [if_neg hj1, if_neg hj1]
              by_cases hj : j < 42
              · rw [if_pos hj, t, f_fill_at (by omega)]
              · rw [if_neg hj]
        · rw [if_neg hqk, t87, t86, w_up_j hqk, w_up_j hqk]
          show _ = h_ab σ q j
          unfold h_ab
          rw [if_pos hq4, t, f_fill_ne (by omega), w_up_ne (by omega), w_up_ne (by omega)]
      · rw [if_neg hq4, if_neg (by omega)]
        show 0 = h_ab σ q j
        unfold h_ab
        rw [if_neg hq4]
  · have hP : P_sheet x1 x2 x3 := ⟨⟨c, c2⟩, c3⟩
    have e1 : F_sheet (cS σ) x1 x2 x3 = -14 := (if_pos hP).trans (if_pos c4)
    have e2 : G_sheet (cS σ) x1 x2 x3 = cS σ := if_neg (fun q => by have := q.2; omega)
    rw [e1, e2] at hQ
    exact hQ _ _ (c_qr hC rfl)
theorem c_has {σ : w_M} {k i : Int} (hC : CI σ) (hk : 0 ≤ k ∧ k ≤ 3) (hn : ¬ h_ab σ k.toNat 0 = -4) : P_Sheets_hasCell k i σ ↔ 0 ≤ i ∧ i < h_ab σ k.toNat 0 := by
  have h4 : k.toNat < 4 := by omega
  have h87 : ¬ σ 87 k.toNat < 0 := fun q => hn (h_ab_no h4 q)
  have e := (h_ab_yes h4 h87).1
  have hw := (hC.sh h4).resolve_left hn
  have es : v_Sheets_sizeOf k σ = σ 87 k.toNat := by unfold v_Sheets_sizeOf; rw [if_pos ⟨by omega, h87⟩]
  unfold P_Sheets_hasCell
  rw [es, ← e]
  omega
noncomputable def p_Moon_lay (_x1 : Int) (_x2 : Int) (_x3 : Int) (σ : w_M) : Prop := CI σ
noncomputable def q_Moon_lay (x1 : Int) (x2 : Int) (x3 : Int) (σ : w_M) (x : Int) (σ' : w_M) : Prop := c_q (F_lay (cS σ) x1 x2 x3) (G_lay (cS σ) x1 x2 x3) σ x σ'
theorem fMoon_lay_0 : w_fe am_c149 0 1 (.iload 1) := ⟨rfl, rfl⟩
theorem fMoon_lay_1 : w_fe am_c149 1 2 (.bipush 0) := ⟨rfl, rfl⟩
theorem fMoon_lay_2 : w_fe am_c149 2 3 (.bipush 3) := ⟨rfl, rfl⟩
theorem fMoon_lay_3 : w_fe am_c149 3 4 (.invokestatic 107) := ⟨rfl, rfl⟩
theorem fMoon_lay_4 : w_if am_c149 4 5 .ne 7 := ⟨rfl, rfl⟩
theorem fMoon_lay_5 : w_fe am_c149 5 6 (.bipush (-1)) := ⟨rfl, rfl⟩
theorem fMoon_lay_6 : w_fe am_c149 6 7 (.ireturn) := ⟨rfl, rfl⟩
theorem fMoon_lay_7 : w_fe am_c149 7 8 (.aload 0) := ⟨rfl, rfl⟩
theorem fMoon_lay_8 : w_fe am_c149 8 9 (.getfield 6) := ⟨rfl, rfl⟩
theorem fMoon_lay_9 : w_fe am_c149 9 10 (.iload 1) := ⟨rfl, rfl⟩
theorem fMoon_lay_10 : w_fe am_c149 10 11 (.invokestatic 97) := ⟨rfl, rfl⟩
theorem fMoon_lay_11 : w_if am_c149 11 12 .eq 14 := ⟨rfl, rfl⟩
theorem fMoon_lay_12 : w_fe am_c149 12 13 (.bipush (-11)) := ⟨rfl, rfl⟩
theorem fMoon_lay_13 : w_fe am_c149 13 14 (.ireturn) := ⟨rfl, rfl⟩
theorem fMoon_lay_14 : w_fe am_c149 14 15 (.aload 0) := ⟨rfl, rfl⟩
theorem fMoon_lay_15 : w_fe am_c149 15 16 (.getfield 6) := ⟨rfl, rfl⟩
theorem fMoon_lay_16 : w_fe am_c149 16 17 (.iload 1) := ⟨rfl, rfl⟩
theorem fMoon_lay_17 : w_fe am_c149 17 18 (.iload 2) := ⟨rfl, rfl⟩
theorem fMoon_lay_18 : w_fe am_c149 18 19 (.invokestatic 98) := ⟨rfl, rfl⟩
theorem fMoon_lay_19 : w_if am_c149 19 20 .ne 22 := ⟨rfl, rfl⟩
theorem fMoon_lay_20 : w_fe am_c149 20 21 (.bipush (-12)) := ⟨rfl, rfl⟩
theorem fMoon_lay_21 : w_fe am_c149 21 22 (.ireturn) := ⟨rfl, rfl⟩
theorem fMoon_lay_22 : w_fe am_c149 22 23 (.aload 0) := ⟨rfl, rfl⟩
theorem fMoon_lay_23 : w_fe am_c149 23 24 (.getfield 6) := ⟨rfl, rfl⟩
theorem fMoon_lay_24 : w_fe am_c149 24 25 (.iload 1) := ⟨rfl, rfl⟩
theorem fMoon_lay_25 : w_fe am_c149 25 26 (.iload 2) := ⟨rfl, rfl⟩
theorem fMoon_lay_26 : w_fe am_c149 26 27 (.iload 3) := ⟨rfl, rfl⟩
theorem fMoon_lay_27 : w_fe am_c149 27 28 (.invokestatic 100) := ⟨rfl, rfl⟩
theorem fMoon_lay_28 : w_fe am_c149 28 29 (.bipush 1) := ⟨rfl, rfl⟩
theorem fMoon_lay_29 : w_fe am_c149 29 30 (.ireturn) := ⟨rfl, rfl⟩
set_option maxRecDepth 20000 in
theorem bMoon_lay_0 {xs : List Int} {d : Nat} {Q : Option w_V → w_M → Prop} {x1 : Int} {x2 : Int} {x3 : Int} {σ : w_M}
    (h : ((0 ≤ x1 ∧ x1 ≤ 3) → ((¬ (¬ ((0 : Int) ≤ x1 ∧ x1 < (4 : Int)) ∨ σ 87 (Int.toNat x1) < 0) → (((P_Sheets_hasCell x1 x2 σ) → (p_Sheets_put x1 x2 x3 σ ∧ (∀ (τ1 : w_M), q_Sheets_put x1 x2 x3 σ τ1 → Q (some (.inl 1)) τ1))) ∧ (¬ (P_Sheets_hasCell x1 x2 σ) → Q (some (.inl (-12))) σ))) ∧ ((¬ ((0 : Int) ≤ x1 ∧ x1 < (4 : Int)) ∨ σ 87 (Int.toNat x1) < 0) → Q (some (.inl (-11))) σ))) ∧ (¬ (0 ≤ x1 ∧ x1 ≤ 3) → Q (some (.inl (-1))) σ)) : w_Call (xs, (d + 5)) 149 [.inr (.inr (0, 0)), .inl x1, .inl x2, .inl x3] σ Q :=
  (w_mk (mid := 149) (by decide) rfl rfl rfl rfl rfl (Nat.le_of_ble_eq_true rfl) ⟨rfl, Or.inl (by decide)⟩ (wi_iload1 fMoon_lay_0 (wi_bipush fMoon_lay_1 (wi_bipush fMoon_lay_2 (wi_call3 fMoon_lay_3 (Nat.le_of_ble_eq_true rfl) (k_Moon_isWithin (wi_ifb_ne fMoon_lay_4 (fun c4 => (wi_aload0 fMoon_lay_7 (wi_getf6 fMoon_lay_8 (wi_iload1 fMoon_lay_9 (wi_call2 fMoon_lay_10 (Nat.le_of_ble_eq_true rfl) (k_Sheets_isNothing (wi_ifb_eq fMoon_lay_11 (fun c3 => (wi_aload0 fMoon_lay_14 (wi_getf6 fMoon_lay_15 (wi_iload1 fMoon_lay_16 (wi_iload2 fMoon_lay_17 (wi_call3 fMoon_lay_18 (Nat.le_of_ble_eq_true rfl) (k_Sheets_hasCell (wi_ifb_ne fMoon_lay_19 (fun c2 => (wi_aload0 fMoon_lay_22 (wi_getf6 fMoon_lay_23 (wi_iload1 fMoon_lay_24 (wi_iload2 fMoon_lay_25 (wi_iload3 fMoon_lay_26 (wi_call4 fMoon_lay_27 (Nat.le_of_ble_eq_true rfl) (k_Sheets_put (((h.1 c4).1 c3).1 c2).1 (fun τ1 eτ1 => (wi_bipush fMoon_lay_28 (wi_ret1 fMoon_lay_29 ((((h.1 c4).1 c3).1 c2).2 τ1 eτ1)))))))))))) (fun c2 => (wi_bipush fMoon_lay_20 (wi_ret1 fMoon_lay_21 (((h.1 c4).1 c3).2 c2)))))))))))) (fun c3 => (wi_bipush fMoon_lay_12 (wi_ret1 fMoon_lay_13 ((h.1 c4).2 c3))))))))))) (fun c4 => (wi_bipush fMoon_lay_5 (wi_ret1 fMoon_lay_6 (h.2 c4)))))))))))
theorem k_Moon_lay {xs : List Int} {d : Nat} {Q : Option w_V → w_M → Prop} {x1 : Int} {x2 : Int} {x3 : Int} {σ : w_M} (hp : p_Moon_lay x1 x2 x3 σ) (hQ : ∀ (x : Int) (σ' : w_M), q_Moon_lay x1 x2 x3 σ x σ' → Q (some (.inl x)) σ') : w_Call (xs, d + 5) 149 [.inr (.inr (0, 0)), .inl x1, .inl x2, .inl x3] σ Q := by
  have hC : CI σ := hp
  unfold q_Moon_lay F_lay G_lay at hQ
  have e4 : cS σ 4 = h_ab σ := rfl
  rw [e4] at hQ
  refine bMoon_lay_0 ⟨fun c => ?_, fun c => ?_⟩
  · have h4 : x1.toNat < 4 := by omega
    rw [if_pos c] at hQ
    refine ⟨fun c2 => ?_, fun c2 => ?_⟩
    · have h87 : ¬ σ 87 x1.toNat < 0 := fun q => c2 (Or.inr q)
      have hn : ¬ h_ab σ x1.toNat 0 = -4 := fun q => h87 ((h_ab_no_iff h4).mp q)
      obtain ⟨e0, e1, e2⟩ := h_ab_yes h4 h87
      have hw := (hC.sh h4).resolve_left hn
      rw [if_neg hn] at hQ
      refine ⟨fun c3 => ⟨⟨by omega, c3⟩, fun τ t => ?_⟩, fun c3 => ?_⟩
      · have c3' := (c_has hC c hn).mp c3
        rw [if_pos c3', if_pos ⟨c, hn, c3'⟩] at hQ
        have t' : τ = w_up σ (82 + x1.toNat) x2.toNat (shVal (σ 86 x1.toNat) x3) := t
        refine hQ _ _ (c_q4 hC (by rw [t']; exact w_fr.up0 (by omega) (by omega)) ?_ (shLay_WF hC.1.2.2.2.2.1) rfl)
        funext q j
        have f87 : τ 87 = σ 87 := by rw [t', w_up_ne (by omega)]
        have f86 : τ 86 = σ 86 := by rw [t', w_up_ne (by omega)]
        rw [w_up_eq]
        show _ = if q = x1.toNat ∧ j = 2 + x2.toNat then shVal (h_ab σ x1.toNat 1) x3 else h_ab σ q j
        by_cases hq : q = x1.toNat
        · subst hq
          have h87t : ¬ τ 87 x1.toNat < 0 := by rw [f87]; exact h87
          obtain ⟨d0, d1, d2⟩ := h_ab_yes h4 h87t
          by_cases hj : j = 2 + x2.toNat
          · rw [if_pos ⟨rfl, hj⟩, hj, d2 _ (by omega), t', w_up_at, e1]
          · rw [if_neg (fun e => hj e.2)]
            unfold h_ab
            rw [f87, f86, t', w_up_eq]
            by_cases hj0 : j = 0
            · rw [hj0]; rfl
            · by_cases hj1 : j = 1
              · rw [hj1]; rfl
              · rw [if_neg (show ¬ (82 + x1.toNat = 82 + x1.toNat ∧ j - 2 = x2.toNat) by omega)]
        · rw [if_neg (fun e => hq e.1)]
          unfold h_ab
          rw [f87, f86, t', w_up_ne (by omega)]
      · rw [if_neg (fun q => c3 ((c_has hC c hn).mpr q)), if_neg (fun q => c3 ((c_has hC c hn).mpr q.2.2))] at hQ
        exact hQ _ _ (c_qr hC rfl)
    · have h87 : σ 87 x1.toNat < 0 := by
        rcases c2 with h | h
        · exact absurd (show 0 ≤ x1 ∧ x1 < 4 by omega) h
        · exact h
      have hn := h_ab_no h4 h87
      rw [if_pos hn, if_neg (fun q => q.2.1 hn)] at hQ
      exact hQ _ _ (c_qr hC rfl)
  · rw [if_neg c, if_neg (fun q => c q.1)] at hQ
    exact hQ _ _ (c_qr hC rfl)
theorem w_bc : ∀ m, m < 4 → v_Integer_bitCount (m : Nat) = w_and (w_shr ((m : Nat) : Int) ((0 : Nat) : Int)) 1 + w_and (w_shr ((m : Nat) : Int) ((1 : Nat) : Int)) 1 := by decide +kernel
noncomputable def p_Moon_count (_x1 : Int) (σ : w_M) : Prop := CI σ
noncomputable def q_Moon_count (x1 : Int) (σ : w_M) (x : Int) (σ' : w_M) : Prop := c_q (F_count (cS σ) x1) (cS σ) σ x σ'
theorem fMoon_count_0 : w_fe am_c152 0 1 (.iload 1) := ⟨rfl, rfl⟩
theorem fMoon_count_1 {E : w_C} {rt : Nat} {Q : Option w_V → w_M → Prop} {ls : w_L} {st : List w_V} {σ : w_M} {x : Int} (h0 : x = 0 → w_Ex E rt am_c152 Q 2 ls st σ) (h1 : x = 1 → w_Ex E rt am_c152 Q 6 ls st σ) (h2 : x = 2 → w_Ex E rt am_c152 Q 10 ls st σ) (h3 : x = 3 → w_Ex E rt am_c152 Q 14 ls st σ) (h4 : x = 4 → w_Ex E rt am_c152 Q 19 ls st σ) (h5 : x = 5 → w_Ex E rt am_c152 Q 24 ls st σ) (h6 : x = 6 → w_Ex E rt am_c152 Q 28 ls st σ) (h7 : x = 7 → w_Ex E rt am_c152 Q 32 ls st σ) (hd : x < 0 ∨ 7 < x → w_Ex E rt am_c152 Q 44 ls st σ) : w_Ex E rt am_c152 Q 1 ls (.inl x :: st) σ :=
  w_Ex_in (op := .tableswitch 44 0 7 #[2, 6, 10, 14, 19, 24, 28, 32]) rfl ⟨rfl, hd, And.intro h0 (And.intro h1 (And.intro h2 (And.intro h3 (And.intro h4 (And.intro h5 (And.intro h6 (And.intro h7 ( trivial))))))))⟩
theorem fMoon_count_2 : w_fe am_c152 2 3 (.aload 0) := ⟨rfl, rfl⟩
theorem fMoon_count_3 : w_fe am_c152 3 4 (.getfield 2) := ⟨rfl, rfl⟩
theorem fMoon_count_4 : w_fe am_c152 4 5 (.invokestatic 51) := ⟨rfl, rfl⟩
theorem fMoon_count_5 : w_fe am_c152 5 6 (.ireturn) := ⟨rfl, rfl⟩
theorem fMoon_count_6 : w_fe am_c152 6 7 (.aload 0) := ⟨rfl, rfl⟩
theorem fMoon_count_7 : w_fe am_c152 7 8 (.getfield 2) := ⟨rfl, rfl⟩
theorem fMoon_count_8 : w_fe am_c152 8 9 (.invokestatic 52) := ⟨rfl, rfl⟩
theorem fMoon_count_9 : w_fe am_c152 9 10 (.ireturn) := ⟨rfl, rfl⟩
theorem fMoon_count_10 : w_fe am_c152 10 11 (.aload 0) := ⟨rfl, rfl⟩
theorem fMoon_count_11 : w_fe am_c152 11 12 (.getfield 2) := ⟨rfl, rfl⟩
theorem fMoon_count_12 : w_fe am_c152 12 13 (.invokestatic 50) := ⟨rfl, rfl⟩
theorem fMoon_count_13 : w_fe am_c152 13 14 (.ireturn) := ⟨rfl, rfl⟩
theorem fMoon_count_14 : w_fe am_c152 14 15 (.aload 0) := ⟨rfl, rfl⟩
theorem fMoon_count_15 : w_fe am_c152 15 16 (.getfield 1) := ⟨rfl, rfl⟩
theorem fMoon_count_16 : w_fe am_c152 16 17 (.getfield 301) := ⟨rfl, rfl⟩
theorem fMoon_count_17 : w_fe am_c152 17 18 (.getfield 400) := ⟨rfl, rfl⟩
theorem fMoon_count_18 : w_fe am_c152 18 19 (.ireturn) := ⟨rfl, rfl⟩
theorem fMoon_count_19 : w_fe am_c152 19 20 (.aload 0) := ⟨rfl, rfl⟩
theorem fMoon_count_20 : w_fe am_c152 20 21 (.getfield 1) := ⟨rfl, rfl⟩
theorem fMoon_count_21 : w_fe am_c152 21 22 (.getfield 302) := ⟨rfl, rfl⟩
theorem fMoon_count_22 : w_fe am_c152 22 23 (.getfield 500) := ⟨rfl, rfl⟩
theorem fMoon_count_23 : w_fe am_c152 23 24 (.ireturn) := ⟨rfl, rfl⟩
theorem fMoon_count_24 : w_fe am_c152 24 25 (.aload 0) := ⟨rfl, rfl⟩
theorem fMoon_count_25 : w_fe am_c152 25 26 (.getfield 7) := ⟨rfl, rfl⟩
theorem fMoon_count_26 : w_fe am_c152 26 27 (.invokestatic 3) := ⟨rfl, rfl⟩
theorem fMoon_count_27 : w_fe am_c152 27 28 (.ireturn) := ⟨rfl, rfl⟩
theorem fMoon_count_28 : w_fe am_c152 28 29 (.aload 0) := ⟨rfl, rfl⟩
theorem fMoon_count_29 : w_fe am_c152 29 30 (.getfield 0) := ⟨rfl, rfl⟩
theorem fMoon_count_30 : w_fe am_c152 30 31 (.getfield 101) := ⟨rfl, rfl⟩
theorem fMoon_count_31 : w_fe am_c152 31 32 (.ireturn) := ⟨rfl, rfl⟩
theorem fMoon_count_32 : w_fe am_c152 32 33 (.aload 0) := ⟨rfl, rfl⟩
theorem fMoon_count_33 : w_fe am_c152 33 34 (.getfield 6) := ⟨rfl, rfl⟩
theorem fMoon_count_34 : w_fe am_c152 34 35 (.bipush 0) := ⟨rfl, rfl⟩
theorem fMoon_count_35 : w_fe am_c152 35 36 (.invokestatic 97) := ⟨rfl, rfl⟩
theorem fMoon_count_36 : w_if am_c152 36 37 .eq 39 := ⟨rfl, rfl⟩
theorem fMoon_count_37 : w_fe am_c152 37 38 (.bipush (-4)) := ⟨rfl, rfl⟩
theorem fMoon_count_38 : w_gt am_c152 38 43 := rfl
theorem fMoon_count_39 : w_fe am_c152 39 40 (.aload 0) := ⟨rfl, rfl⟩
theorem fMoon_count_40 : w_fe am_c152 40 41 (.getfield 6) := ⟨rfl, rfl⟩
theorem fMoon_count_41 : w_fe am_c152 41 42 (.bipush 0) := ⟨rfl, rfl⟩
theorem fMoon_count_42 : w_fe am_c152 42 43 (.invokestatic 99) := ⟨rfl, rfl⟩
theorem fMoon_count_43 : w_fe am_c152 43 44 (.ireturn) := ⟨rfl, rfl⟩
theorem fMoon_count_44 : w_fe am_c152 44 45 (.bipush (-1)) := ⟨rfl, rfl⟩
theorem fMoon_count_45 : w_fe am_c152 45 46 (.ireturn) := ⟨rfl, rfl⟩
set_option maxRecDepth 20000 in
theorem bMoon_count_0 {xs : List Int} {d : Nat} {Q : Option w_V → w_M → Prop} {x1 : Int} {σ : w_M}
    (h : (x1 = 0 → (p_Field_stripsWithYards 14 σ ∧ (∀ (y1 : Int), y1 = v_Field_stripsWithYards 14 σ → Q (some (.inl y1)) σ))) ∧ (x1 = 1 → (p_Field_allWages 14 σ ∧ (∀ (y2 : Int), y2 = v_Field_allWages 14 σ → Q (some (.inl y2)) σ))) ∧ (x1 = 2 → (p_Field_allOil 14 σ ∧ (∀ (y3 : Int), y3 = v_Field_allOil 14 σ → Q (some (.inl y3)) σ))) ∧ (x1 = 3 → Q (some (.inl (σ 23 0))) σ) ∧ (x1 = 4 → Q (some (.inl (σ 27 0))) σ) ∧ (x1 = 5 → (p_Integer_bitCount (σ 0 7) ∧ (∀ (y4 : Int), y4 = v_Integer_bitCount (σ 0 7) → Q (some (.inl y4)) σ))) ∧ (x1 = 6 → Q (some (.inl (σ 1 1))) σ) ∧ (x1 = 7 → ((¬ (¬ ((0 : Int) ≤ 0 ∧ 0 < (4 : Int)) ∨ σ 87 (Int.toNat 0) < 0) → ∀ (y5 : Int), y5 = v_Sheets_sizeOf 0 σ → Q (some (.inl y5)) σ) ∧ ((¬ ((0 : Int) ≤ 0 ∧ 0 < (4 : Int)) ∨ σ 87 (Int.toNat 0) < 0) → Q (some (.inl (-4))) σ))) ∧ (x1 < 0 ∨ 7 < x1 → Q (some (.inl (-1))) σ)) : w_Call (xs, (d + 3)) 152 [.inr (.inr (0, 0)), .inl x1] σ Q :=
  (w_mk (mid := 152) (by decide) rfl rfl rfl rfl rfl (Nat.le_of_ble_eq_true rfl) ⟨rfl, Or.inl (by decide)⟩ (wi_iload1 fMoon_count_0 (fMoon_count_1 (fun c => (wi_aload0 fMoon_count_2 (wi_getf2 fMoon_count_3 (wi_call1 fMoon_count_4 (Nat.le_of_ble_eq_true rfl) (k_Field_stripsWithYards (h.1 c).1 (wi_ret1 fMoon_count_5 ((h.1 c).2 _ rfl))))))) (fun c => (wi_aload0 fMoon_count_6 (wi_getf2 fMoon_count_7 (wi_call1 fMoon_count_8 (Nat.le_of_ble_eq_true rfl) (k_Field_allWages (h.2.1 c).1 (wi_ret1 fMoon_count_9 ((h.2.1 c).2 _ rfl))))))) (fun c => (wi_aload0 fMoon_count_10 (wi_getf2 fMoon_count_11 (wi_call1 fMoon_count_12 (Nat.le_of_ble_eq_true rfl) (k_Field_allOil (h.2.2.1 c).1 (wi_ret1 fMoon_count_13 ((h.2.2.1 c).2 _ rfl))))))) (fun c => (wi_aload0 fMoon_count_14 (wi_getf1 fMoon_count_15 (wi_getf301 fMoon_count_16 (wi_getf400 fMoon_count_17 (wi_ret1 fMoon_count_18 (h.2.2.2.1 c))))))) (fun c => (wi_aload0 fMoon_count_19 (wi_getf1 fMoon_count_20 (wi_getf302 fMoon_count_21 (wi_getf500 fMoon_count_22 (wi_ret1 fMoon_count_23 (h.2.2.2.2.1 c))))))) (fun c => (wi_aload0 fMoon_count_24 (wi_getf7 fMoon_count_25 (wi_call1 fMoon_count_26 (Nat.le_of_ble_eq_true rfl) (k_Integer_bitCount (h.2.2.2.2.2.1 c).1 (wi_ret1 fMoon_count_27 ((h.2.2.2.2.2.1 c).2 _ rfl))))))) (fun c => (wi_aload0 fMoon_count_28 (wi_getf0 fMoon_count_29 (wi_getf101 fMoon_count_30 (wi_ret1 fMoon_count_31 (h.2.2.2.2.2.2.1 c)))))) (fun c => (wi_aload0 fMoon_count_32 (wi_getf6 fMoon_count_33 (wi_bipush fMoon_count_34 (wi_call2 fMoon_count_35 (Nat.le_of_ble_eq_true rfl) (k_Sheets_isNothing (wi_ifb_eq fMoon_count_36 (fun c6 => (wi_aload0 fMoon_count_39 (wi_getf6 fMoon_count_40 (wi_bipush fMoon_count_41 (wi_call2 fMoon_count_42 (Nat.le_of_ble_eq_true rfl) (k_Sheets_sizeOf (wi_ret1 fMoon_count_43 (((h.2.2.2.2.2.2.2.1 c).1 c6) _ rfl)))))))) (fun c6 => (wi_bipush fMoon_count_37 (wi_goto fMoon_count_38 (wi_ret1 fMoon_count_43 ((h.2.2.2.2.2.2.2.1 c).2 c6)))))))))))) (fun c => (wi_bipush fMoon_count_44 (wi_ret1 fMoon_count_45 (h.2.2.2.2.2.2.2.2 c)))))))
theorem k_Moon_count {xs : List Int} {d : Nat} {Q : Option w_V → w_M → Prop} {x1 : Int} {σ : w_M} (hp : p_Moon_count x1 σ) (hQ : ∀ (x : Int) (σ' : w_M), q_Moon_count x1 σ x σ' → Q (some (.inl x)) σ') : w_Call (xs, d + 3) 152 [.inr (.inr (0, 0)), .inl x1] σ Q := by
  have hC : CI σ := hp
  have hok := hC.ok
  unfold q_Moon_count F_count at hQ
  refine bMoon_count_0 ⟨fun c => ⟨hok, fun y e => ?_⟩, fun c => ⟨hok, fun y e => ?_⟩, fun c => ⟨hok, fun y e => ?_⟩, fun c => ?_, fun c => ?_, fun c => ⟨hC.2.2.1, fun y e => ?_⟩, fun c => ?_, fun c => ⟨fun c2 => fun y e => ?_, fun c2 => ?_⟩, fun c => ?_⟩
  · rw [if_pos c] at hQ; exact hQ _ _ (c_qr hC e)
  · rw [if_neg (by omega), if_pos c] at hQ; exact hQ _ _ (c_qr hC e)
  · rw [if_neg (by omega), if_neg (by omega), if_pos c] at hQ; exact hQ _ _ (c_qr hC e)
  · rw [if_neg (by omega), if_neg (by omega), if_neg (by omega), if_pos c] at hQ; exact hQ _ _ (c_qr hC rfl)
  · rw [if_neg (by omega), if_neg (by omega), if_neg (by omega), if_neg (by omega), if_pos c] at hQ; exact hQ _ _ (c_qr hC rfl)
  · rw [if_neg (by omega), if_neg (by omega), if_neg (by omega), if_neg (by omega), if_neg (by omega), if_pos c] at hQ
    refine hQ _ _ (c_qr hC ?_)
    rw [e, cS_11 (by decide), cS_11 (by decide)]
    obtain ⟨m, em⟩ := Int.eq_ofNat_of_zero_le hC.2.2.1.1
    unfold k_ab
    rw [em]
    exact w_bc m (by have := hC.2.2.1.2; omega)
  · rw [if_neg (by omega), if_neg (by omega), if_neg (by omega), if_neg (by omega), if_neg (by omega), if_neg (by omega), if_pos c] at hQ; exact hQ _ _ (c_qr hC rfl)
  · rw [if_neg (by omega), if_neg (by omega), if_neg (by omega), if_neg (by omega), if_neg (by omega), if_neg (by omega), if_neg (by omega), if_pos c] at hQ
    have h87 : ¬ σ 87 0 < 0 := fun q => c2 (Or.inr q)
    refine hQ _ _ (c_qr hC ?_)
    show y = h_ab σ 0 0
    rw [e, (h_ab_yes (by decide) h87).1]
    unfold v_Sheets_sizeOf
    rw [if_pos ⟨by decide, h87⟩]
    rfl
  · rw [if_neg (by omega), if_neg (by omega), if_neg (by omega), if_neg (by omega), if_neg (by omega), if_neg (by omega), if_neg (by omega), if_pos c] at hQ
    have h87 : σ 87 0 < 0 := by
      rcases c2 with h | h
      · exact absurd (by decide) h
      · exact h
    exact hQ _ _ (c_qr hC (h_ab_no (by decide) h87).symm)
  · rw [if_neg (by omega), if_neg (by omega), if_neg (by omega), if_neg (by omega), if_neg (by omega), if_neg (by omega), if_neg (by omega), if_neg (by omega)] at hQ; exact hQ _ _ (c_qr hC rfl)
