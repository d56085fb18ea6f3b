/-! Reading sheets: the class -/
noncomputable def rd_ok (S : w_S) (k lane f j : Int) : Prop := S 4 k.toNat 1 = lane ∧ (0 ≤ f + 2 * j ∧ f + 2 * j + 1 < S 4 k.toNat 0)
noncomputable def rd_a (S : w_S) (k f j : Int) : Int := S 4 k.toNat (2 + (f + 2 * j).toNat)
noncomputable def rd_b (S : w_S) (k f j : Int) : Int := S 4 k.toNat (2 + (f + 2 * j + 1).toNat)
noncomputable def rd_gd (S : w_S) (k f j : Int) : Prop := P_send S (rd_a S k f j) (rd_b S k f j)
noncomputable def rd_sd (S : w_S) (k f : Int) : Nat → w_S
  | 0 => S
  | j + 1 => G_send (rd_sd S k f j) (rd_a S k f j) (rd_b S k f j)
noncomputable def rd_in (k lane n : Int) : Prop := (0 ≤ k ∧ k ≤ 3) ∧ (0 ≤ lane ∧ lane ≤ 2) ∧ (0 ≤ n ∧ n ≤ 20)
noncomputable def R_read (S : w_S) (k lane f n x : Int) (T : w_S) : Prop :=
  (¬ rd_in k lane n ∧ x = -1 ∧ T = S) ∨
  (rd_in k lane n ∧ ∃ b : Nat, (∀ i : Nat, i < b → rd_ok S k lane f i ∧ rd_gd S k f i) ∧
    (((b : Int) < n ∧ rd_ok S k lane f b ∧ ¬ rd_gd S k f b ∧ x = -20 - (b : Int) ∧ T = S) ∨ ((b : Int) ≤ n ∧ ((b : Int) = n ∨ ¬ rd_ok S k lane f b) ∧ x = (b : Int) ∧ T = rd_sd S k f b)))
theorem R_read_det {S : w_S} {k lane f n x y : Int} {T U : w_S} (h1 : R_read S k lane f n x T) (h2 : R_read S k lane f n y U) : x = y ∧ T = U := by
  rcases h1 with ⟨a0, a1, a2⟩ | ⟨a0, b, a1, a2⟩
  · rcases h2 with ⟨b0, b1, b2⟩ | ⟨b0, _⟩
    · exact ⟨a1.trans b1.symm, a2.trans b2.symm⟩
    · exact absurd b0 a0
  · rcases h2 with ⟨b0, _⟩ | ⟨b0, c, c1, c2⟩
    · exact absurd a0 b0
    · have e : b = c := by
        rcases Nat.lt_trichotomy b c with h | h | h
        · have hc := c1 b h
          rcases a2 with ⟨_, _, g, _⟩ | ⟨g1, g2, _⟩
          · exact absurd hc.2 g
          · rcases g2 with g2 | g2
            · rcases c2 with ⟨g3, _⟩ | ⟨g3, _⟩ <;> omega
            · exact absurd hc.1 g2
        · exact h
        · have hc := a1 c h
          rcases c2 with ⟨_, _, g, _⟩ | ⟨g1, g2, _⟩
          · exact absurd hc.2 g
          · rcases g2 with g2 | g2
            · rcases a2 with ⟨g3, _⟩ | ⟨g3, _⟩ <;> omega
            · exact absurd hc.1 g2
      subst e
      rcases a2 with ⟨g0, g1, g2, g3, g4⟩ | ⟨g0, g1, g2, g3⟩
      · rcases c2 with ⟨_, _, _, i3, i4⟩ | ⟨_, i1, _⟩
        · exact ⟨g3.trans i3.symm, g4.trans i4.symm⟩
        · rcases i1 with i1 | i1
          · omega
          · exact absurd g1 i1
      · rcases c2 with ⟨i0, i1, _⟩ | ⟨_, _, i2, i3⟩
        · rcases g1 with g1 | g1
          · omega
          · exact absurd i1 g1
        · exact ⟨g2.trans i2.symm, g3.trans i3.symm⟩
theorem G_send_4 {S : w_S} {r i : Int} : G_send S r i 4 = S 4 := by
  unfold G_send
  by_cases h : P_send S r i
  · rw [G_set_t h, w_sp_ne (by decide)]
  · rw [G_set_f h]
theorem G_send_0 {S : w_S} {r i : Int} : G_send S r i 0 0 = S 0 0 := by
  unfold G_send
  by_cases h : P_send S r i
  · rw [G_set_t h, w_sp_at, w_up_ne (by decide)]
  · rw [G_set_f h]
theorem rd_sd_4 {S : w_S} {k f : Int} (j : Nat) : rd_sd S k f j 4 = S 4 := by
  induction j with
  | zero => rfl
  | succ j ih => exact G_send_4.trans ih
theorem rd_sd_0 {S : w_S} {k f : Int} (j : Nat) : rd_sd S k f j 0 0 = S 0 0 := by
  induction j with
  | zero => rfl
  | succ j ih => exact G_send_0.trans ih
noncomputable def torn_c (S : w_S) (k lane n x : Int) : Int := if S 4 k.toNat 0 = -4 then (if x = n then 0 else 1) else if S 4 k.toNat 1 = lane then (if x = n then 0 else 2) else 3
noncomputable def torn_m (S : w_S) (k lane n x : Int) : Int := if x = n then 0 else if S 4 k.toNat 0 = -4 then 1 else if S 4 k.toNat 1 = lane then 2 else 3
noncomputable def p_Sheets_wholePairs (k f n : Int) (_ : w_M) : Prop := (0 ≤ k ∧ k < 4) ∧ w_in f ∧ (0 ≤ n ∧ n ≤ 20)
noncomputable def q_Sheets_wholePairs (k f n : Int) (σ : w_M) (x : Int) (σ' : w_M) : Prop := σ' = σ ∧ (0 ≤ x ∧ x ≤ n) ∧ (∀ i : Nat, (i : Int) < x → P_Sheets_hasCell k (f + 2 * i) σ ∧ P_Sheets_hasCell k (f + 2 * i + 1) σ) ∧ (x = n ∨ ¬ (P_Sheets_hasCell k (f + 2 * x) σ ∧ P_Sheets_hasCell k (f + 2 * x + 1) σ))
theorem fSheets_wholePairs_0 : w_fe am_c102 0 1 (.bipush 0) := ⟨rfl, rfl⟩
theorem fSheets_wholePairs_1 : w_fe am_c102 1 2 (.istore 4) := ⟨rfl, rfl⟩
theorem fSheets_wholePairs_2 : w_fe am_c102 2 3 (.iload 4) := ⟨rfl, rfl⟩
theorem fSheets_wholePairs_3 : w_fe am_c102 3 4 (.iload 3) := ⟨rfl, rfl⟩
theorem fSheets_wholePairs_4 : w_ic am_c102 4 5 .ge 29 := ⟨rfl, rfl⟩
theorem fSheets_wholePairs_5 : w_fe am_c102 5 6 (.aload 0) := ⟨rfl, rfl⟩
theorem fSheets_wholePairs_6 : w_fe am_c102 6 7 (.iload 1) := ⟨rfl, rfl⟩
theorem fSheets_wholePairs_7 : w_fe am_c102 7 8 (.iload 2) := ⟨rfl, rfl⟩
theorem fSheets_wholePairs_8 : w_fe am_c102 8 9 (.bipush 2) := ⟨rfl, rfl⟩
theorem fSheets_wholePairs_9 : w_fe am_c102 9 10 (.iload 4) := ⟨rfl, rfl⟩
theorem fSheets_wholePairs_10 : w_fe am_c102 10 11 (.imul) := ⟨rfl, rfl⟩
theorem fSheets_wholePairs_11 : w_fe am_c102 11 12 (.iadd) := ⟨rfl, rfl⟩
theorem fSheets_wholePairs_12 : w_fe am_c102 12 13 (.invokestatic 98) := ⟨rfl, rfl⟩
theorem fSheets_wholePairs_13 : w_if am_c102 13 14 .eq 25 := ⟨rfl, rfl⟩
theorem fSheets_wholePairs_14 : w_fe am_c102 14 15 (.aload 0) := ⟨rfl, rfl⟩
theorem fSheets_wholePairs_15 : w_fe am_c102 15 16 (.iload 1) := ⟨rfl, rfl⟩
theorem fSheets_wholePairs_16 : w_fe am_c102 16 17 (.iload 2) := ⟨rfl, rfl⟩
theorem fSheets_wholePairs_17 : w_fe am_c102 17 18 (.bipush 2) := ⟨rfl, rfl⟩
theorem fSheets_wholePairs_18 : w_fe am_c102 18 19 (.iload 4) := ⟨rfl, rfl⟩
theorem fSheets_wholePairs_19 : w_fe am_c102 19 20 (.imul) := ⟨rfl, rfl⟩
theorem fSheets_wholePairs_20 : w_fe am_c102 20 21 (.iadd) := ⟨rfl, rfl⟩
theorem fSheets_wholePairs_21 : w_fe am_c102 21 22 (.bipush 1) := ⟨rfl, rfl⟩
theorem fSheets_wholePairs_22 : w_fe am_c102 22 23 (.iadd) := ⟨rfl, rfl⟩
theorem fSheets_wholePairs_23 : w_fe am_c102 23 24 (.invokestatic 98) := ⟨rfl, rfl⟩
theorem fSheets_wholePairs_24 : w_if am_c102 24 25 .ne 27 := ⟨rfl, rfl⟩
theorem fSheets_wholePairs_25 : w_fe am_c102 25 26 (.iload 4) := ⟨rfl, rfl⟩
theorem fSheets_wholePairs_26 : w_fe am_c102 26 27 (.ireturn) := ⟨rfl, rfl⟩
theorem fSheets_wholePairs_27 : w_fe am_c102 27 28 (.iinc 4 1) := ⟨rfl, rfl⟩
theorem fSheets_wholePairs_28 : w_gt am_c102 28 2 := rfl
theorem fSheets_wholePairs_29 : w_fe am_c102 29 30 (.iload 3) := ⟨rfl, rfl⟩
theorem fSheets_wholePairs_30 : w_fe am_c102 30 31 (.ireturn) := ⟨rfl, rfl⟩
noncomputable def LSheets_wholePairs_2 (xs : List Int) (d : Nat) (Q : Option w_V → w_M → Prop) (v1 : Int) (v2 : Int) (v3 : Int) (v4 : Int) (σ : w_M) : Prop := w_Ex (xs, d) 1 am_c102 Q 2 [some (.inr (.inr (8, 80))), some (.inl v1), some (.inl v2), some (.inl v3), some (.inl v4)] [] σ
set_option maxRecDepth 20000 in
theorem bSheets_wholePairs_0 {xs : List Int} {d : Nat} {Q : Option w_V → w_M → Prop} {x1 : Int} {x2 : Int} {x3 : Int} {σ : w_M}
    (h : LSheets_wholePairs_2 xs (d + 4) Q x1 x2 x3 0 σ) : w_Call (xs, (d + 4)) 102 [.inr (.inr (8, 80)), .inl x1, .inl x2, .inl x3] σ Q :=
  (w_mk (mid := 102) (by decide) rfl rfl rfl rfl rfl (Nat.le_of_ble_eq_true rfl) ⟨rfl, Or.inl (by decide)⟩ (wi_bipush fSheets_wholePairs_0 (wi_istore4 fSheets_wholePairs_1 trivial h)))
set_option maxRecDepth 20000 in
theorem bSheets_wholePairs_2 {xs : List Int} {d : Nat} {Q : Option w_V → w_M → Prop} {v1 : Int} {v2 : Int} {v3 : Int} {v4 : Int} {σ : w_M}
    (h : (v3 ≤ v4 → Q (some (.inl v3)) σ) ∧ (v4 < v3 → (w_in (2 * v4) ∧ w_in (v2 + (2 * v4)) ∧ ((¬ (P_Sheets_hasCell v1 (v2 + (2 * v4)) σ) → Q (some (.inl v4)) σ) ∧ ((P_Sheets_hasCell v1 (v2 + (2 * v4)) σ) → (w_in ((v2 + (2 * v4)) + 1) ∧ (((P_Sheets_hasCell v1 ((v2 + (2 * v4)) + 1) σ) → (w_in (v4 + 1) ∧ LSheets_wholePairs_2 xs (d + 4) Q v1 v2 v3 (v4 + 1) σ)) ∧ (¬ (P_Sheets_hasCell v1 ((v2 + (2 * v4)) + 1) σ) → Q (some (.inl v4)) σ)))))))) : LSheets_wholePairs_2 xs (d + 4) Q v1 v2 v3 v4 σ :=
  (wi_iload4 fSheets_wholePairs_2 (wi_iload3 fSheets_wholePairs_3 (wi_ic_ge fSheets_wholePairs_4 (fun c3 => (wi_iload3 fSheets_wholePairs_29 (wi_ret1 fSheets_wholePairs_30 (h.1 c3)))) (fun c3 => (wi_aload0 fSheets_wholePairs_5 (wi_iload1 fSheets_wholePairs_6 (wi_iload2 fSheets_wholePairs_7 (wi_bipush fSheets_wholePairs_8 (wi_iload4 fSheets_wholePairs_9 (wi_imul fSheets_wholePairs_10 (h.2 c3).1 (wi_iadd fSheets_wholePairs_11 (h.2 c3).2.1 (wi_call3 fSheets_wholePairs_12 (Nat.le_of_ble_eq_true rfl) (k_Sheets_hasCell (wi_ifb_eq fSheets_wholePairs_13 (fun c2 => (wi_iload4 fSheets_wholePairs_25 (wi_ret1 fSheets_wholePairs_26 ((h.2 c3).2.2.1 c2)))) (fun c2 => (wi_aload0 fSheets_wholePairs_14 (wi_iload1 fSheets_wholePairs_15 (wi_iload2 fSheets_wholePairs_16 (wi_bipush fSheets_wholePairs_17 (wi_iload4 fSheets_wholePairs_18 (wi_imul fSheets_wholePairs_19 (h.2 c3).1 (wi_iadd fSheets_wholePairs_20 (h.2 c3).2.1 (wi_bipush fSheets_wholePairs_21 (wi_iadd fSheets_wholePairs_22 ((h.2 c3).2.2.2 c2).1 (wi_call3 fSheets_wholePairs_23 (Nat.le_of_ble_eq_true rfl) (k_Sheets_hasCell (wi_ifb_ne fSheets_wholePairs_24 (fun c1 => (wi_iinc4 fSheets_wholePairs_27 trivial (((h.2 c3).2.2.2 c2).2.1 c1).1 (wi_goto fSheets_wholePairs_28 (((h.2 c3).2.2.2 c2).2.1 c1).2))) (fun c1 => (wi_iload4 fSheets_wholePairs_25 (wi_ret1 fSheets_wholePairs_26 (((h.2 c3).2.2.2 c2).2.2 c1)))))))))))))))))))))))))))))))
theorem k_Sheets_wholePairs {xs : List Int} {d : Nat} {Q : Option w_V → w_M → Prop} {x1 : Int} {x2 : Int} {x3 : Int} {σ : w_M} (hp : p_Sheets_wholePairs x1 x2 x3 σ) (hQ : ∀ (x : Int) (σ' : w_M), q_Sheets_wholePairs x1 x2 x3 σ x σ' → Q (some (.inl x)) σ') : w_Call (xs, d + 4) 102 [.inr (.inr (8, 80)), .inl x1, .inl x2, .inl x3] σ Q := by
  obtain ⟨hk, hf, hn⟩ := hp
  unfold w_in at hf
  refine bSheets_wholePairs_0 ?_
  refine (w_loop (n := x3.toNat) (P := fun j => (∀ i : Nat, i < j → P_Sheets_hasCell x1 (x2 + 2 * i) σ ∧ P_Sheets_hasCell x1 (x2 + 2 * i + 1) σ) → LSheets_wholePairs_2 xs (d + 4) Q x1 x2 x3 (j : Int) σ) ?_ ?_) (fun i hi => by omega)
  · intro h
    exact bSheets_wholePairs_2 ⟨fun _ => hQ _ _ ⟨rfl, ⟨hn.1, by omega⟩, fun i hi => h i (by omega), Or.inl rfl⟩, fun h => by omega⟩
  · intro j hj ih h
    have hb : w_in (x2 + 2 * (j : Int)) := by
      unfold w_in
      by_cases h0 : j = 0
      · subst h0; constructor <;> omega
      · have hq := h (j - 1) (by omega)
        unfold P_Sheets_hasCell at hq
        constructor <;> omega
    refine bSheets_wholePairs_2 ⟨fun h => by omega, fun _ => ⟨⟨by omega, by omega⟩, hb, fun c => ?_, fun c => ⟨?_, fun c2 => ⟨⟨by omega, by omega⟩, ?_⟩, fun c2 => ?_⟩⟩⟩
    · exact hQ _ _ ⟨rfl, ⟨by omega, by omega⟩, fun i hi => h i (by omega), Or.inr (fun q => c q.1)⟩
    · have := c
      unfold P_Sheets_hasCell at this
      constructor <;> omega
    · rw [← w_cs1]
      refine ih (fun i hi => ?_)
      by_cases hij : i = j
      · rw [hij]; exact ⟨c, c2⟩
      · exact h i (by omega)
    · exact hQ _ _ ⟨rfl, ⟨by omega, by omega⟩, fun i hi => h i (by omega), Or.inr (fun q => c2 q.2)⟩
noncomputable def v_Sheets_faultOfReading (k lane n w : Int) (σ : w_M) : Int := if ¬ ((0 : Int) ≤ k ∧ k < (4 : Int)) ∨ σ 87 (Int.toNat k) < 0 then (if w = n then 0 else 1) else @ite _ (P_Sheets_isOfLane k lane σ) (Classical.propDecidable _) (if w = n then 0 else 2) 3
theorem fSheets_faultOfReading_0 : w_fe am_c104 0 1 (.aload 0) := ⟨rfl, rfl⟩
theorem fSheets_faultOfReading_1 : w_fe am_c104 1 2 (.iload 1) := ⟨rfl, rfl⟩
theorem fSheets_faultOfReading_2 : w_fe am_c104 2 3 (.invokestatic 97) := ⟨rfl, rfl⟩
theorem fSheets_faultOfReading_3 : w_if am_c104 3 4 .ne 11 := ⟨rfl, rfl⟩
theorem fSheets_faultOfReading_4 : w_fe am_c104 4 5 (.aload 0) := ⟨rfl, rfl⟩
theorem fSheets_faultOfReading_5 : w_fe am_c104 5 6 (.iload 1) := ⟨rfl, rfl⟩
theorem fSheets_faultOfReading_6 : w_fe am_c104 6 7 (.iload 2) := ⟨rfl, rfl⟩
theorem fSheets_faultOfReading_7 : w_fe am_c104 7 8 (.invokestatic 101) := ⟨rfl, rfl⟩
theorem fSheets_faultOfReading_8 : w_if am_c104 8 9 .ne 11 := ⟨rfl, rfl⟩
theorem fSheets_faultOfReading_9 : w_fe am_c104 9 10 (.bipush 3) := ⟨rfl, rfl⟩
theorem fSheets_faultOfReading_10 : w_fe am_c104 10 11 (.ireturn) := ⟨rfl, rfl⟩
theorem fSheets_faultOfReading_11 : w_fe am_c104 11 12 (.iload 4) := ⟨rfl, rfl⟩
theorem fSheets_faultOfReading_12 : w_fe am_c104 12 13 (.iload 3) := ⟨rfl, rfl⟩
theorem fSheets_faultOfReading_13 : w_ic am_c104 13 14 .ne 16 := ⟨rfl, rfl⟩
theorem fSheets_faultOfReading_14 : w_fe am_c104 14 15 (.bipush 0) := ⟨rfl, rfl⟩
theorem fSheets_faultOfReading_15 : w_fe am_c104 15 16 (.ireturn) := ⟨rfl, rfl⟩
theorem fSheets_faultOfReading_16 : w_fe am_c104 16 17 (.aload 0) := ⟨rfl, rfl⟩
theorem fSheets_faultOfReading_17 : w_fe am_c104 17 18 (.iload 1) := ⟨rfl, rfl⟩
theorem fSheets_faultOfReading_18 : w_fe am_c104 18 19 (.invokestatic 97) := ⟨rfl, rfl⟩
theorem fSheets_faultOfReading_19 : w_if am_c104 19 20 .eq 22 := ⟨rfl, rfl⟩
theorem fSheets_faultOfReading_20 : w_fe am_c104 20 21 (.bipush 1) := ⟨rfl, rfl⟩
theorem fSheets_faultOfReading_21 : w_gt am_c104 21 23 := rfl
theorem fSheets_faultOfReading_22 : w_fe am_c104 22 23 (.bipush 2) := ⟨rfl, rfl⟩
theorem fSheets_faultOfReading_23 : w_fe am_c104 23 24 (.ireturn) := ⟨rfl, rfl⟩
set_option maxRecDepth 20000 in
theorem bSheets_faultOfReading_0 {xs : List Int} {d : Nat} {Q : Option w_V → w_M → Prop} {x1 : Int} {x2 : Int} {x3 : Int} {x4 : Int} {σ : w_M}
    (h : ((¬ ((0 : Int) ≤ x1 ∧ x1 < (4 : Int)) ∨ σ 87 (Int.toNat x1) < 0) → ((¬ x4 = x3 → Q (some (.inl 1)) σ) ∧ (x4 = x3 → Q (some (.inl 0)) σ))) ∧ (¬ (¬ ((0 : Int) ≤ x1 ∧ x1 < (4 : Int)) ∨ σ 87 (Int.toNat x1) < 0) → (((P_Sheets_isOfLane x1 x2 σ) → ((¬ x4 = x3 → Q (some (.inl 2)) σ) ∧ (x4 = x3 → Q (some (.inl 0)) σ))) ∧ (¬ (P_Sheets_isOfLane x1 x2 σ) → Q (some (.inl 3)) σ)))) : w_Call (xs, (d + 3)) 104 [.inr (.inr (8, 80)), .inl x1, .inl x2, .inl x3, .inl x4] σ Q :=
  (w_mk (mid := 104) (by decide) rfl rfl rfl rfl rfl (Nat.le_of_ble_eq_true rfl) ⟨rfl, Or.inl (by decide)⟩ (wi_aload0 fSheets_faultOfReading_0 (wi_iload1 fSheets_faultOfReading_1 (wi_call2 fSheets_faultOfReading_2 (Nat.le_of_ble_eq_true rfl) (k_Sheets_isNothing (wi_ifb_ne fSheets_faultOfReading_3 (fun c4 => (wi_iload4 fSheets_faultOfReading_11 (wi_iload3 fSheets_faultOfReading_12 (wi_ic_ne fSheets_faultOfReading_13 (fun c1 => (wi_aload0 fSheets_faultOfReading_16 (wi_iload1 fSheets_faultOfReading_17 (wi_call2 fSheets_faultOfReading_18 (Nat.le_of_ble_eq_true rfl) (k_Sheets_isNothing (wi_ifb_eq fSheets_faultOfReading_19 (fun e => absurd c4 (w_m_eqb e)) (fun _ => (wi_bipush fSheets_faultOfReading_20 (wi_goto fSheets_faultOfReading_21 (wi_ret1 fSheets_faultOfReading_23 ((h.1 c4).1 c1))))))))))) (fun c1 => (wi_bipush fSheets_faultOfReading_14 (wi_ret1 fSheets_faultOfReading_15 ((h.1 c4).2 c1)))))))) (fun c4 => (wi_aload0 fSheets_faultOfReading_4 (wi_iload1 fSheets_faultOfReading_5 (wi_iload2 fSheets_faultOfReading_6 (wi_call3 fSheets_faultOfReading_7 (Nat.le_of_ble_eq_true rfl) (k_Sheets_isOfLane (wi_ifb_ne fSheets_faultOfReading_8 (fun c3 => (wi_iload4 fSheets_faultOfReading_11 (wi_iload3 fSheets_faultOfReading_12 (wi_ic_ne fSheets_faultOfReading_13 (fun c2 => (wi_aload0 fSheets_faultOfReading_16 (wi_iload1 fSheets_faultOfReading_17 (wi_call2 fSheets_faultOfReading_18 (Nat.le_of_ble_eq_true rfl) (k_Sheets_isNothing (wi_ifb_eq fSheets_faultOfReading_19 (fun _ => (wi_bipush fSheets_faultOfReading_22 (wi_ret1 fSheets_faultOfReading_23 (((h.2 c4).1 c3).1 c2)))) (fun e => absurd c4 (w_n_eqb e)))))))) (fun c2 => (wi_bipush fSheets_faultOfReading_14 (wi_ret1 fSheets_faultOfReading_15 (((h.2 c4).1 c3).2 c2)))))))) (fun c3 => (wi_bipush fSheets_faultOfReading_9 (wi_ret1 fSheets_faultOfReading_10 ((h.2 c4).2 c3)))))))))))))))))
theorem k_Sheets_faultOfReading {xs : List Int} {d : Nat} {Q : Option w_V → w_M → Prop} {x1 : Int} {x2 : Int} {x3 : Int} {x4 : Int} {σ : w_M} (hQ : Q (some (.inl (v_Sheets_faultOfReading x1 x2 x3 x4 σ))) σ) : w_Call (xs, d + 3) 104 [.inr (.inr (8, 80)), .inl x1, .inl x2, .inl x3, .inl x4] σ Q := by
  unfold v_Sheets_faultOfReading at hQ
  refine bSheets_faultOfReading_0 ⟨fun c => ⟨fun c2 => ?_, fun c2 => ?_⟩, fun c => ⟨fun c2 => ⟨fun c3 => ?_, fun c3 => ?_⟩, fun c2 => ?_⟩⟩
  · rw [if_pos c, if_neg c2] at hQ; exact hQ
  · rw [if_pos c, if_pos c2] at hQ; exact hQ
  · rw [if_neg c, if_pos c2, if_neg c3] at hQ; exact hQ
  · rw [if_neg c, if_pos c2, if_pos c3] at hQ; exact hQ
  · rw [if_neg c, if_neg c2] at hQ; exact hQ
theorem cS_t9 {σ : w_M} {y : Int} : cS (w_up σ 0 9 y) = cS σ :=
  cS_ext (w_ab_fr (fun d hd => w_up_ne (by omega))) (s_ab_fr (fun d hd => w_up_ne (by omega))) (c_ab_fr (fun d hd => w_up_ne (by omega))) (t_ab_fr (by rw [w_up_ne (by decide)]) (w_up_j (by decide)) (w_up_ne (by decide))) (h_ab_fr (fun b h1 h2 => w_up_ne (by omega))) (cS_im (w_up_j (by decide)) (fun b h1 h2 => w_up_ne (by omega)))
theorem CI_t9 {σ : w_M} {y : Int} (h : CI σ) : CI (w_up σ 0 9 y) :=
  ⟨by rw [cS_t9]; exact h.1, cX_fr h.2 (by rw [w_up_ne (by decide)]) (w_up_j (by decide)) (by rw [w_up_ne (by decide)]) (by rw [w_up_ne (by decide)])⟩
theorem c_ok {σ : w_M} {k lane f j : Int} (hC : CI σ) (hk : 0 ≤ k ∧ k ≤ 3) (hl : 0 ≤ lane) : rd_ok (cS σ) k lane f j ↔ P_Sheets_isOfLane k lane σ ∧ P_Sheets_hasCell k (f + 2 * j) σ ∧ P_Sheets_hasCell k (f + 2 * j + 1) σ := by
  have h4 : k.toNat < 4 := by omega
  have e4 : cS σ 4 = h_ab σ := rfl
  unfold rd_ok P_Sheets_isOfLane
  rw [e4]
  by_cases h87 : σ 87 k.toNat < 0
  · rw [h_ab_no h4 h87]
    constructor
    · intro h; omega
    · intro h; exact absurd h87 h.1.2.1
  · obtain ⟨e0, e1, _⟩ := h_ab_yes h4 h87
    have hn : ¬ h_ab σ k.toNat 0 = -4 := fun q => h87 ((h_ab_no_iff h4).mp q)
    rw [c_has hC hk hn, c_has hC hk hn, e1]
    constructor
    · intro h; exact ⟨⟨by omega, h87, h.1⟩, by omega, by omega⟩
    · intro h; exact ⟨h.1.2.2, by omega, by omega⟩
theorem c_cell {σ : w_M} {k i : Int} (hC : CI σ) (hk : 0 ≤ k ∧ k ≤ 3) (h : P_Sheets_hasCell k i σ) : v_Sheets_cell k i σ = cS σ 4 k.toNat (2 + i.toNat) := by
  have h4 : k.toNat < 4 := by omega
  have h87 : ¬ σ 87 k.toNat < 0 := fun q => by
    unfold P_Sheets_hasCell v_Sheets_sizeOf at h
    rw [if_neg (fun z => z.2 q)] at h
    omega
  have hi : i < 40 := h.2.2
  have h0 := h.1
  show v_Sheets_cell k i σ = h_ab σ k.toNat (2 + i.toNat)
  rw [(h_ab_yes h4 h87).2.2 _ (by omega)]
  exact if_pos h
noncomputable def p_Moon_read (_ _ f _ : Int) (σ : w_M) : Prop := CI σ ∧ w_in f
noncomputable def q_Moon_read (k lane f n : Int) (σ : w_M) (x : Int) (σ' : w_M) : Prop := R_read (cS σ) k lane f n x (cS σ') ∧ CI σ' ∧ (∀ b, 122 ≤ b → σ' b = σ b) ∧ (x < 0 → σ' 0 9 = σ 0 9) ∧ (0 ≤ x → σ' 0 9 = torn_c (cS σ) k lane n x)
theorem fMoon_read_0 : w_fe am_c150 0 1 (.iload 1) := ⟨rfl, rfl⟩
theorem fMoon_read_1 : w_fe am_c150 1 2 (.bipush 0) := ⟨rfl, rfl⟩
theorem fMoon_read_2 : w_fe am_c150 2 3 (.bipush 3) := ⟨rfl, rfl⟩
theorem fMoon_read_3 : w_fe am_c150 3 4 (.invokestatic 107) := ⟨rfl, rfl⟩
theorem fMoon_read_4 : w_if am_c150 4 5 .eq 15 := ⟨rfl, rfl⟩
theorem fMoon_read_5 : w_fe am_c150 5 6 (.iload 2) := ⟨rfl, rfl⟩
theorem fMoon_read_6 : w_fe am_c150 6 7 (.bipush 0) := ⟨rfl, rfl⟩
theorem fMoon_read_7 : w_fe am_c150 7 8 (.bipush 2) := ⟨rfl, rfl⟩
theorem fMoon_read_8 : w_fe am_c150 8 9 (.invokestatic 107) := ⟨rfl, rfl⟩
theorem fMoon_read_9 : w_if am_c150 9 10 .eq 15 := ⟨rfl, rfl⟩
theorem fMoon_read_10 : w_fe am_c150 10 11 (.iload 4) := ⟨rfl, rfl⟩
theorem fMoon_read_11 : w_fe am_c150 11 12 (.bipush 0) := ⟨rfl, rfl⟩
theorem fMoon_read_12 : w_fe am_c150 12 13 (.bipush 20) := ⟨rfl, rfl⟩
theorem fMoon_read_13 : w_fe am_c150 13 14 (.invokestatic 107) := ⟨rfl, rfl⟩
theorem fMoon_read_14 : w_if am_c150 14 15 .ne 17 := ⟨rfl, rfl⟩
theorem fMoon_read_15 : w_fe am_c150 15 16 (.bipush (-1)) := ⟨rfl, rfl⟩
theorem fMoon_read_16 : w_fe am_c150 16 17 (.ireturn) := ⟨rfl, rfl⟩
theorem fMoon_read_17 : w_fe am_c150 17 18 (.aload 0) := ⟨rfl, rfl⟩
theorem fMoon_read_18 : w_fe am_c150 18 19 (.getfield 6) := ⟨rfl, rfl⟩
theorem fMoon_read_19 : w_fe am_c150 19 20 (.iload 1) := ⟨rfl, rfl⟩
theorem fMoon_read_20 : w_fe am_c150 20 21 (.iload 2) := ⟨rfl, rfl⟩
theorem fMoon_read_21 : w_fe am_c150 21 22 (.invokestatic 101) := ⟨rfl, rfl⟩
theorem fMoon_read_22 : w_if am_c150 22 23 .eq 30 := ⟨rfl, rfl⟩
theorem fMoon_read_23 : w_fe am_c150 23 24 (.aload 0) := ⟨rfl, rfl⟩
theorem fMoon_read_24 : w_fe am_c150 24 25 (.getfield 6) := ⟨rfl, rfl⟩
theorem fMoon_read_25 : w_fe am_c150 25 26 (.iload 1) := ⟨rfl, rfl⟩
theorem fMoon_read_26 : w_fe am_c150 26 27 (.iload 3) := ⟨rfl, rfl⟩
theorem fMoon_read_27 : w_fe am_c150 27 28 (.iload 4) := ⟨rfl, rfl⟩
theorem fMoon_read_28 : w_fe am_c150 28 29 (.invokestatic 102) := ⟨rfl, rfl⟩
theorem fMoon_read_29 : w_gt am_c150 29 31 := rfl
theorem fMoon_read_30 : w_fe am_c150 30 31 (.bipush 0) := ⟨rfl, rfl⟩
theorem fMoon_read_31 : w_fe am_c150 31 32 (.istore 5) := ⟨rfl, rfl⟩
theorem fMoon_read_32 : w_fe am_c150 32 33 (.bipush 0) := ⟨rfl, rfl⟩
theorem fMoon_read_33 : w_fe am_c150 33 34 (.istore 6) := ⟨rfl, rfl⟩
theorem fMoon_read_34 : w_fe am_c150 34 35 (.iload 6) := ⟨rfl, rfl⟩
theorem fMoon_read_35 : w_fe am_c150 35 36 (.iload 5) := ⟨rfl, rfl⟩
theorem fMoon_read_36 : w_ic am_c150 36 37 .ge 71 := ⟨rfl, rfl⟩
theorem fMoon_read_37 : w_fe am_c150 37 38 (.aload 0) := ⟨rfl, rfl⟩
theorem fMoon_read_38 : w_fe am_c150 38 39 (.getfield 2) := ⟨rfl, rfl⟩
theorem fMoon_read_39 : w_fe am_c150 39 40 (.aload 0) := ⟨rfl, rfl⟩
theorem fMoon_read_40 : w_fe am_c150 40 41 (.getfield 6) := ⟨rfl, rfl⟩
theorem fMoon_read_41 : w_fe am_c150 41 42 (.iload 1) := ⟨rfl, rfl⟩
theorem fMoon_read_42 : w_fe am_c150 42 43 (.iload 3) := ⟨rfl, rfl⟩
theorem fMoon_read_43 : w_fe am_c150 43 44 (.bipush 2) := ⟨rfl, rfl⟩
theorem fMoon_read_44 : w_fe am_c150 44 45 (.iload 6) := ⟨rfl, rfl⟩
theorem fMoon_read_45 : w_fe am_c150 45 46 (.imul) := ⟨rfl, rfl⟩
theorem fMoon_read_46 : w_fe am_c150 46 47 (.iadd) := ⟨rfl, rfl⟩
theorem fMoon_read_47 : w_fe am_c150 47 48 (.invokestatic 103) := ⟨rfl, rfl⟩
theorem fMoon_read_48 : w_fe am_c150 48 49 (.invokestatic 38) := ⟨rfl, rfl⟩
theorem fMoon_read_49 : w_if am_c150 49 50 .eq 65 := ⟨rfl, rfl⟩
theorem fMoon_read_50 : w_fe am_c150 50 51 (.aload 0) := ⟨rfl, rfl⟩
theorem fMoon_read_51 : w_fe am_c150 51 52 (.getfield 2) := ⟨rfl, rfl⟩
theorem fMoon_read_52 : w_fe am_c150 52 53 (.aload 0) := ⟨rfl, rfl⟩
theorem fMoon_read_53 : w_fe am_c150 53 54 (.getfield 6) := ⟨rfl, rfl⟩
theorem fMoon_read_54 : w_fe am_c150 54 55 (.iload 1) := ⟨rfl, rfl⟩
theorem fMoon_read_55 : w_fe am_c150 55 56 (.iload 3) := ⟨rfl, rfl⟩
theorem fMoon_read_56 : w_fe am_c150 56 57 (.bipush 2) := ⟨rfl, rfl⟩
theorem fMoon_read_57 : w_fe am_c150 57 58 (.iload 6) := ⟨rfl, rfl⟩
theorem fMoon_read_58 : w_fe am_c150 58 59 (.imul) := ⟨rfl, rfl⟩
theorem fMoon_read_59 : w_fe am_c150 59 60 (.iadd) := ⟨rfl, rfl⟩
theorem fMoon_read_60 : w_fe am_c150 60 61 (.bipush 1) := ⟨rfl, rfl⟩
theorem fMoon_read_61 : w_fe am_c150 61 62 (.iadd) := ⟨rfl, rfl⟩
theorem fMoon_read_62 : w_fe am_c150 62 63 (.invokestatic 103) := ⟨rfl, rfl⟩
theorem fMoon_read_63 : w_fe am_c150 63 64 (.invokestatic 33) := ⟨rfl, rfl⟩
theorem fMoon_read_64 : w_if am_c150 64 65 .ne 69 := ⟨rfl, rfl⟩
theorem fMoon_read_65 : w_fe am_c150 65 66 (.bipush (-20)) := ⟨rfl, rfl⟩
theorem fMoon_read_66 : w_fe am_c150 66 67 (.iload 6) := ⟨rfl, rfl⟩
theorem fMoon_read_67 : w_fe am_c150 67 68 (.isub) := ⟨rfl, rfl⟩
theorem fMoon_read_68 : w_fe am_c150 68 69 (.ireturn) := ⟨rfl, rfl⟩
theorem fMoon_read_69 : w_fe am_c150 69 70 (.iinc 6 1) := ⟨rfl, rfl⟩
theorem fMoon_read_70 : w_gt am_c150 70 34 := rfl
theorem fMoon_read_71 : w_fe am_c150 71 72 (.bipush 0) := ⟨rfl, rfl⟩
theorem fMoon_read_72 : w_fe am_c150 72 73 (.istore 6) := ⟨rfl, rfl⟩
theorem fMoon_read_73 : w_fe am_c150 73 74 (.iload 6) := ⟨rfl, rfl⟩
theorem fMoon_read_74 : w_fe am_c150 74 75 (.iload 5) := ⟨rfl, rfl⟩
theorem fMoon_read_75 : w_ic am_c150 75 76 .ge 101 := ⟨rfl, rfl⟩
theorem fMoon_read_76 : w_fe am_c150 76 77 (.aload 0) := ⟨rfl, rfl⟩
theorem fMoon_read_77 : w_fe am_c150 77 78 (.aload 0) := ⟨rfl, rfl⟩
theorem fMoon_read_78 : w_fe am_c150 78 79 (.getfield 6) := ⟨rfl, rfl⟩
theorem fMoon_read_79 : w_fe am_c150 79 80 (.iload 1) := ⟨rfl, rfl⟩
theorem fMoon_read_80 : w_fe am_c150 80 81 (.iload 3) := ⟨rfl, rfl⟩
theorem fMoon_read_81 : w_fe am_c150 81 82 (.bipush 2) := ⟨rfl, rfl⟩
theorem fMoon_read_82 : w_fe am_c150 82 83 (.iload 6) := ⟨rfl, rfl⟩
theorem fMoon_read_83 : w_fe am_c150 83 84 (.imul) := ⟨rfl, rfl⟩
theorem fMoon_read_84 : w_fe am_c150 84 85 (.iadd) := ⟨rfl, rfl⟩
theorem fMoon_read_85 : w_fe am_c150 85 86 (.invokestatic 103) := ⟨rfl, rfl⟩
theorem fMoon_read_86 : w_fe am_c150 86 87 (.aload 0) := ⟨rfl, rfl⟩
theorem fMoon_read_87 : w_fe am_c150 87 88 (.getfield 6) := ⟨rfl, rfl⟩
theorem fMoon_read_88 : w_fe am_c150 88 89 (.iload 1) := ⟨rfl, rfl⟩
theorem fMoon_read_89 : w_fe am_c150 89 90 (.iload 3) := ⟨rfl, rfl⟩
theorem fMoon_read_90 : w_fe am_c150 90 91 (.bipush 2) := ⟨rfl, rfl⟩
theorem fMoon_read_91 : w_fe am_c150 91 92 (.iload 6) := ⟨rfl, rfl⟩
theorem fMoon_read_92 : w_fe am_c150 92 93 (.imul) := ⟨rfl, rfl⟩
theorem fMoon_read_93 : w_fe am_c150 93 94 (.iadd) := ⟨rfl, rfl⟩
theorem fMoon_read_94 : w_fe am_c150 94 95 (.bipush 1) := ⟨rfl, rfl⟩
theorem fMoon_read_95 : w_fe am_c150 95 96 (.iadd) := ⟨rfl, rfl⟩
theorem fMoon_read_96 : w_fe am_c150 96 97 (.invokestatic 103) := ⟨rfl, rfl⟩
theorem fMoon_read_97 : w_fe am_c150 97 98 (.invokestatic 116) := ⟨rfl, rfl⟩
theorem fMoon_read_98 : w_fe am_c150 98 99 (.pop) := ⟨rfl, rfl⟩
theorem fMoon_read_99 : w_fe am_c150 99 100 (.iinc 6 1) := ⟨rfl, rfl⟩
theorem fMoon_read_100 : w_gt am_c150 100 73 := rfl
theorem fMoon_read_101 : w_fe am_c150 101 102 (.aload 0) := ⟨rfl, rfl⟩
theorem fMoon_read_102 : w_fe am_c150 102 103 (.aload 0) := ⟨rfl, rfl⟩
theorem fMoon_read_103 : w_fe am_c150 103 104 (.getfield 6) := ⟨rfl, rfl⟩
theorem fMoon_read_104 : w_fe am_c150 104 105 (.iload 1) := ⟨rfl, rfl⟩
theorem fMoon_read_105 : w_fe am_c150 105 106 (.iload 2) := ⟨rfl, rfl⟩
theorem fMoon_read_106 : w_fe am_c150 106 107 (.iload 4) := ⟨rfl, rfl⟩
theorem fMoon_read_107 : w_fe am_c150 107 108 (.iload 5) := ⟨rfl, rfl⟩
theorem fMoon_read_108 : w_fe am_c150 108 109 (.invokestatic 104) := ⟨rfl, rfl⟩
theorem fMoon_read_109 : w_fe am_c150 109 110 (.putfield 9) := ⟨rfl, rfl⟩
theorem fMoon_read_110 : w_fe am_c150 110 111 (.iload 5) := ⟨rfl, rfl⟩
theorem fMoon_read_111 : w_fe am_c150 111 112 (.ireturn) := ⟨rfl, rfl⟩
noncomputable def LMoon_read_34 (xs : List Int) (d : Nat) (Q : Option w_V → w_M → Prop) (v1 : Int) (v2 : Int) (v3 : Int) (v4 : Int) (v5 : Int) (v6 : Int) (σ : w_M) : Prop := w_Ex (xs, d) 1 am_c150 Q 34 [some (.inr (.inr (0, 0))), some (.inl v1), some (.inl v2), some (.inl v3), some (.inl v4), some (.inl v5), some (.inl v6)] [] σ
noncomputable def LMoon_read_73 (xs : List Int) (d : Nat) (Q : Option w_V → w_M → Prop) (v1 : Int) (v2 : Int) (v3 : Int) (v4 : Int) (v5 : Int) (v6 : Int) (σ : w_M) : Prop := w_Ex (xs, d) 1 am_c150 Q 73 [some (.inr (.inr (0, 0))), some (.inl v1), some (.inl v2), some (.inl v3), some (.inl v4), some (.inl v5), some (.inl v6)] [] σ
set_option maxRecDepth 20000 in
theorem bMoon_read_0 {xs : List Int} {d : Nat} {Q : Option w_V → w_M → Prop} {x1 : Int} {x2 : Int} {x3 : Int} {x4 : Int} {σ : w_M}
    (h : (¬ (0 ≤ x1 ∧ x1 ≤ 3) → Q (some (.inl (-1))) σ) ∧ ((0 ≤ x1 ∧ x1 ≤ 3) → ((¬ (0 ≤ x2 ∧ x2 ≤ 2) → Q (some (.inl (-1))) σ) ∧ ((0 ≤ x2 ∧ x2 ≤ 2) → (((0 ≤ x4 ∧ x4 ≤ 20) → ((¬ (P_Sheets_isOfLane x1 x2 σ) → LMoon_read_34 xs (d + 5) Q x1 x2 x3 x4 0 0 σ) ∧ ((P_Sheets_isOfLane x1 x2 σ) → (p_Sheets_wholePairs x1 x3 x4 σ ∧ (∀ (y1 : Int) (τ2 : w_M), q_Sheets_wholePairs x1 x3 x4 σ y1 τ2 → LMoon_read_34 xs (d + 5) Q x1 x2 x3 x4 y1 0 τ2))))) ∧ (¬ (0 ≤ x4 ∧ x4 ≤ 20) → Q (some (.inl (-1))) σ)))))) : w_Call (xs, (d + 5)) 150 [.inr (.inr (0, 0)), .inl x1, .inl x2, .inl x3, .inl x4] σ Q :=
  (w_mk (mid := 150) (by decide) rfl rfl rfl rfl rfl (Nat.le_of_ble_eq_true rfl) ⟨rfl, Or.inl (by decide)⟩ (wi_iload1 fMoon_read_0 (wi_bipush fMoon_read_1 (wi_bipush fMoon_read_2 (wi_call3 fMoon_read_3 (Nat.le_of_ble_eq_true rfl) (k_Moon_isWithin (wi_ifb_eq fMoon_read_4 (fun c6 => (wi_bipush fMoon_read_15 (wi_ret1 fMoon_read_16 (h.1 c6)))) (fun c6 => (wi_iload2 fMoon_read_5 (wi_bipush fMoon_read_6 (wi_bipush fMoon_read_7 (wi_call3 fMoon_read_8 (Nat.le_of_ble_eq_true rfl) (k_Moon_isWithin (wi_ifb_eq fMoon_read_9 (fun c5 => (wi_bipush fMoon_read_15 (wi_ret1 fMoon_read_16 ((h.2 c6).1 c5)))) (fun c5 => (wi_iload4 fMoon_read_10 (wi_bipush fMoon_read_11 (wi_bipush fMoon_read_12 (wi_call3 fMoon_read_13 (Nat.le_of_ble_eq_true rfl) (k_Moon_isWithin (wi_ifb_ne fMoon_read_14 (fun c4 => (wi_aload0 fMoon_read_17 (wi_getf6 fMoon_read_18 (wi_iload1 fMoon_read_19 (wi_iload2 fMoon_read_20 (wi_call3 fMoon_read_21 (Nat.le_of_ble_eq_true rfl) (k_Sheets_isOfLane (wi_ifb_eq fMoon_read_22 (fun c3 => (wi_bipush fMoon_read_30 (wi_istore5 fMoon_read_31 trivial (wi_bipush fMoon_read_32 (wi_istore6 fMoon_read_33 trivial ((((h.2 c6).2 c5).1 c4).1 c3)))))) (fun c3 => (wi_aload0 fMoon_read_23 (wi_getf6 fMoon_read_24 (wi_iload1 fMoon_read_25 (wi_iload3 fMoon_read_26 (wi_iload4 fMoon_read_27 (wi_call4 fMoon_read_28 (Nat.le_of_ble_eq_true rfl) (k_Sheets_wholePairs ((((h.2 c6).2 c5).1 c4).2 c3).1 (fun y1 τ2 eτ2 => (wi_goto fMoon_read_29 (wi_istore5 fMoon_read_31 trivial (wi_bipush fMoon_read_32 (wi_istore6 fMoon_read_33 trivial (((((h.2 c6).2 c5).1 c4).2 c3).2 y1 τ2 eτ2)))))))))))))))))))))) (fun c4 => (wi_bipush fMoon_read_15 (wi_ret1 fMoon_read_16 (((h.2 c6).2 c5).2 c4)))))))))))))))))))))))))
set_option maxRecDepth 20000 in
theorem bMoon_read_34 {xs : List Int} {d : Nat} {Q : Option w_V → w_M → Prop} {v1 : Int} {v2 : Int} {v3 : Int} {v4 : Int} {v5 : Int} {v6 : Int} {σ : w_M}
    (h : (v5 ≤ v6 → LMoon_read_73 xs (d + 5) Q v1 v2 v3 v4 v5 0 σ) ∧ (v6 < v5 → (w_in (2 * v6) ∧ w_in (v3 + (2 * v6)) ∧ p_Sheets_cell v1 (v3 + (2 * v6)) σ ∧ (∀ (y1 : Int), y1 = v_Sheets_cell v1 (v3 + (2 * v6)) σ → ((¬ (0 ≤ y1 ∧ y1 < σ 14 5) → (w_in ((-20) - v6) ∧ Q (some (.inl ((-20) - v6))) σ)) ∧ ((0 ≤ y1 ∧ y1 < σ 14 5) → (w_in ((v3 + (2 * v6)) + 1) ∧ p_Sheets_cell v1 ((v3 + (2 * v6)) + 1) σ ∧ (∀ (y2 : Int), y2 = v_Sheets_cell v1 ((v3 + (2 * v6)) + 1) σ → (((0 ≤ y2 ∧ y2 < σ 14 4) → (w_in (v6 + 1) ∧ LMoon_read_34 xs (d + 5) Q v1 v2 v3 v4 v5 (v6 + 1) σ)) ∧ (¬ (0 ≤ y2 ∧ y2 < σ 14 4) → (w_in ((-20) - v6) ∧ Q (some (.inl ((-20) - v6))) σ))))))))))) : LMoon_read_34 xs (d + 5) Q v1 v2 v3 v4 v5 v6 σ :=
  (wi_iload6 fMoon_read_34 (wi_iload5 fMoon_read_35 (wi_ic_ge fMoon_read_36 (fun c5 => (wi_bipush fMoon_read_71 (wi_istore6 fMoon_read_72 trivial (h.1 c5)))) (fun c5 => (wi_aload0 fMoon_read_37 (wi_getf2 fMoon_read_38 (wi_aload0 fMoon_read_39 (wi_getf6 fMoon_read_40 (wi_iload1 fMoon_read_41 (wi_iload3 fMoon_read_42 (wi_bipush fMoon_read_43 (wi_iload6 fMoon_read_44 (wi_imul fMoon_read_45 (h.2 c5).1 (wi_iadd fMoon_read_46 (h.2 c5).2.1 (wi_call3 fMoon_read_47 (Nat.le_of_ble_eq_true rfl) (k_Sheets_cell (h.2 c5).2.2.1 (wi_call2 fMoon_read_48 (Nat.le_of_ble_eq_true rfl) (k_Field_isReaper (wi_ifb_eq fMoon_read_49 (fun c4 => (wi_bipush fMoon_read_65 (wi_iload6 fMoon_read_66 (wi_isub fMoon_read_67 (((h.2 c5).2.2.2 _ rfl).1 c4).1 (wi_ret1 fMoon_read_68 (((h.2 c5).2.2.2 _ rfl).1 c4).2))))) (fun c4 => (wi_aload0 fMoon_read_50 (wi_getf2 fMoon_read_51 (wi_aload0 fMoon_read_52 (wi_getf6 fMoon_read_53 (wi_iload1 fMoon_read_54 (wi_iload3 fMoon_read_55 (wi_bipush fMoon_read_56 (wi_iload6 fMoon_read_57 (wi_imul fMoon_read_58 (h.2 c5).1 (wi_iadd fMoon_read_59 (h.2 c5).2.1 (wi_bipush fMoon_read_60 (wi_iadd fMoon_read_61 (((h.2 c5).2.2.2 _ rfl).2 c4).1 (wi_call3 fMoon_read_62 (Nat.le_of_ble_eq_true rfl) (k_Sheets_cell (((h.2 c5).2.2.2 _ rfl).2 c4).2.1 (wi_call2 fMoon_read_63 (Nat.le_of_ble_eq_true rfl) (k_Field_isStrip (wi_ifb_ne fMoon_read_64 (fun c3 => (wi_iinc6 fMoon_read_69 trivial (((((h.2 c5).2.2.2 _ rfl).2 c4).2.2 _ rfl).1 c3).1 (wi_goto fMoon_read_70 (((((h.2 c5).2.2.2 _ rfl).2 c4).2.2 _ rfl).1 c3).2))) (fun c3 => (wi_bipush fMoon_read_65 (wi_iload6 fMoon_read_66 (wi_isub fMoon_read_67 (((((h.2 c5).2.2.2 _ rfl).2 c4).2.2 _ rfl).2 c3).1 (wi_ret1 fMoon_read_68 (((((h.2 c5).2.2.2 _ rfl).2 c4).2.2 _ rfl).2 c3).2))))))))))))))))))))))))))))))))))))))))))
set_option maxRecDepth 20000 in
theorem bMoon_read_73 {xs : List Int} {d : Nat} {Q : Option w_V → w_M → Prop} {v1 : Int} {v2 : Int} {v3 : Int} {v4 : Int} {v5 : Int} {v6 : Int} {σ : w_M}
    (h : (v5 ≤ v6 → ∀ (y1 : Int), y1 = v_Sheets_faultOfReading v1 v2 v4 v5 σ → ∀ (τ2 : w_M), τ2 = w_up σ 0 9 y1 → Q (some (.inl v5)) τ2) ∧ (v6 < v5 → (w_in (2 * v6) ∧ w_in (v3 + (2 * v6)) ∧ p_Sheets_cell v1 (v3 + (2 * v6)) σ ∧ (∀ (y3 : Int), y3 = v_Sheets_cell v1 (v3 + (2 * v6)) σ → (w_in ((v3 + (2 * v6)) + 1) ∧ p_Sheets_cell v1 ((v3 + (2 * v6)) + 1) σ ∧ (∀ (y4 : Int), y4 = v_Sheets_cell v1 ((v3 + (2 * v6)) + 1) σ → (p_Moon_send y3 y4 σ ∧ (∀ (y5 : Int) (τ6 : w_M), q_Moon_send y3 y4 σ y5 τ6 → (w_in (v6 + 1) ∧ LMoon_read_73 xs (d + 5) Q v1 v2 v3 v4 v5 (v6 + 1) τ6))))))))) : LMoon_read_73 xs (d + 5) Q v1 v2 v3 v4 v5 v6 σ :=
  (wi_iload6 fMoon_read_73 (wi_iload5 fMoon_read_74 (wi_ic_ge fMoon_read_75 (fun c7 => (wi_aload0 fMoon_read_101 (wi_aload0 fMoon_read_102 (wi_getf6 fMoon_read_103 (wi_iload1 fMoon_read_104 (wi_iload2 fMoon_read_105 (wi_iload4 fMoon_read_106 (wi_iload5 fMoon_read_107 (wi_call5 fMoon_read_108 (Nat.le_of_ble_eq_true rfl) (k_Sheets_faultOfReading (wi_putf9 fMoon_read_109 (wi_iload5 fMoon_read_110 (wi_ret1 fMoon_read_111 (((h.1 c7) _ rfl) _ rfl)))))))))))))) (fun c7 => (wi_aload0 fMoon_read_76 (wi_aload0 fMoon_read_77 (wi_getf6 fMoon_read_78 (wi_iload1 fMoon_read_79 (wi_iload3 fMoon_read_80 (wi_bipush fMoon_read_81 (wi_iload6 fMoon_read_82 (wi_imul fMoon_read_83 (h.2 c7).1 (wi_iadd fMoon_read_84 (h.2 c7).2.1 (wi_call3 fMoon_read_85 (Nat.le_of_ble_eq_true rfl) (k_Sheets_cell (h.2 c7).2.2.1 (wi_aload0 fMoon_read_86 (wi_getf6 fMoon_read_87 (wi_iload1 fMoon_read_88 (wi_iload3 fMoon_read_89 (wi_bipush fMoon_read_90 (wi_iload6 fMoon_read_91 (wi_imul fMoon_read_92 (h.2 c7).1 (wi_iadd fMoon_read_93 (h.2 c7).2.1 (wi_bipush fMoon_read_94 (wi_iadd fMoon_read_95 ((h.2 c7).2.2.2 _ rfl).1 (wi_call3 fMoon_read_96 (Nat.le_of_ble_eq_true rfl) (k_Sheets_cell ((h.2 c7).2.2.2 _ rfl).2.1 (wi_call3 fMoon_read_97 (Nat.le_of_ble_eq_true rfl) (k_Moon_send (((h.2 c7).2.2.2 _ rfl).2.2 _ rfl).1 (fun y5 τ6 eτ6 => (wi_pop_i fMoon_read_98 (wi_iinc6 fMoon_read_99 trivial ((((h.2 c7).2.2.2 _ rfl).2.2 _ rfl).2 y5 τ6 eτ6).1 (wi_goto fMoon_read_100 ((((h.2 c7).2.2.2 _ rfl).2.2 _ rfl).2 y5 τ6 eτ6).2)))))))))))))))))))))))))))))))))
theorem k_Moon_read {xs : List Int} {d : Nat} {Q : Option w_V → w_M → Prop} {x1 : Int} {x2 : Int} {x3 : Int} {x4 : Int} {σ : w_M} (hp : p_Moon_read x1 x2 x3 x4 σ) (hQ : ∀ (x : Int) (σ' : w_M), q_Moon_read x1 x2 x3 x4 σ x σ' → Q (some (.inl x)) σ') : w_Call (xs, d + 5) 150 [.inr (.inr (0, 0)), .inl x1, .inl x2, .inl x3, .inl x4] σ Q := by
  obtain ⟨hC, hf⟩ := hp
  unfold w_in at hf
  have bad : ¬ rd_in x1 x2 x4 → Q (some (.inl (-1))) σ := fun h => hQ _ _ ⟨Or.inl ⟨h, rfl, rfl⟩, hC, fun _ _ => rfl, fun _ => rfl, fun h => by omega⟩
  have main : rd_in x1 x2 x4 → ∀ w : Nat, (w : Int) ≤ x4 → (∀ i : Nat, i < w → rd_ok (cS σ) x1 x2 x3 i) → ((w : Int) = x4 ∨ ¬ rd_ok (cS σ) x1 x2 x3 w) → LMoon_read_34 xs (d + 5) Q x1 x2 x3 x4 (w : Int) 0 σ := by
    intro hin w hw h1 h2
    have hk := hin.1
    have hl := hin.2.1
    have hn := hin.2.2
    have hok : ∀ i : Nat, i < w → P_Sheets_isOfLane x1 x2 σ ∧ P_Sheets_hasCell x1 (x3 + 2 * i) σ ∧ P_Sheets_hasCell x1 (x3 + 2 * i + 1) σ := fun i hi => (c_ok hC hk hl.1).mp (h1 i hi)
    refine (w_loop (n := w) (P := fun j => (∀ i : Nat, i < j → rd_gd (cS σ) x1 x3 i) → LMoon_read_34 xs (d + 5) Q x1 x2 x3 x4 (w : Int) (j : Int) σ) ?_ ?_) (fun i hi => by omega)
    · intro hg
      refine bMoon_read_34 ⟨fun _ => ?_, fun h => by omega⟩
      refine (w_loop (n := w) (P := fun j => ∀ τ : w_M, CI τ → cS τ = rd_sd (cS σ) x1 x3 j → (∀ b, 122 ≤ b → τ b = σ b) → LMoon_read_73 xs (d + 5) Q x1 x2 x3 x4 (w : Int) (j : Int) τ) ?_ ?_) σ hC rfl (fun _ _ => rfl)
      · intro τ hT eT fT
        refine bMoon_read_73 ⟨fun _ => fun y ey τ2 t2 => ?_, fun h => by omega⟩
        have e4 : h_ab τ = cS σ 4 := by
          show cS τ 4 = _
          rw [eT, rd_sd_4]
        have h4 : x1.toNat < 4 := by omega
        refine hQ _ _ ⟨Or.inr ⟨hin, w, fun i hi => ⟨h1 i hi, hg i hi⟩, Or.inr ⟨hw, h2, rfl, ?_⟩⟩, ?_, fun b hb => ?_, fun h => by omega, fun _ => ?_⟩
        · rw [t2, cS_t9, eT]
        · rw [t2]; exact CI_t9 hT
        · rw [t2, w_up_ne (by omega), fT b hb]
        · rw [t2, w_up_at, ey]
          unfold v_Sheets_faultOfReading torn_c
          rw [← e4]
          by_cases h87 : τ 87 x1.toNat < 0
          · rw [if_pos (Or.inr h87), if_pos (h_ab_no h4 h87)]
          · rw [if_neg (fun q => by rcases q with q | q; exact q (by omega); exact h87 q), if_neg (fun q => h87 ((h_ab_no_iff h4).mp q)), (h_ab_yes h4 h87).2.1]
            by_cases hla : τ 86 x1.toNat = x2
            · rw [if_pos (show P_Sheets_isOfLane x1 x2 τ from ⟨by omega, h87, hla⟩), if_pos hla]
            · rw [if_neg (fun q : P_Sheets_isOfLane x1 x2 τ => hla q.2.2), if_neg hla]
      · intro j hj ih τ hT eT fT
        have e4 : cS τ 4 = cS σ 4 := by rw [eT, rd_sd_4]
        obtain ⟨_, g1, g2⟩ := (c_ok hT hk hl.1).mp (show rd_ok (cS τ) x1 x2 x3 j by unfold rd_ok; rw [e4]; exact h1 j hj)
        have hb1 := g1
        have hb2 := g2
        unfold P_Sheets_hasCell at hb1 hb2
        refine bMoon_read_73 ⟨fun h => by omega, fun _ => ⟨⟨by omega, by omega⟩, ⟨by omega, by omega⟩, ⟨hk.1, by omega⟩, fun y3 e3 => ⟨⟨by omega, by omega⟩, ⟨hk.1, by omega⟩, fun y4' e4' => ⟨hT, fun y5 τ6 hq => ⟨⟨by omega, by omega⟩, ?_⟩⟩⟩⟩⟩
        rw [c_cell hT hk g1, e4] at e3
        rw [c_cell hT hk g2, e4] at e4'
        obtain ⟨_, s2, s3, s4, _⟩ := hq
        rw [← w_cs1]
        refine ih τ6 s2 ?_ (fun b hb => by rw [s4 b hb, fT b hb])
        rw [s3, eT, e3, e4']
        rfl
    · intro j hj ih hg
      obtain ⟨_, g1, g2⟩ := hok j hj
      have hb1 := g1
      have hb2 := g2
      unfold P_Sheets_hasCell at hb1 hb2
      have bj : ¬ rd_gd (cS σ) x1 x3 j → Q (some (.inl (-20 - (j : Int)))) σ := fun h => hQ _ _ ⟨Or.inr ⟨hin, j, fun i hi => ⟨h1 i (by omega), hg i hi⟩, Or.inl ⟨by omega, h1 j hj, h, rfl, rfl⟩⟩, hC, fun _ _ => rfl, fun _ => rfl, fun h => by omega⟩
      refine bMoon_read_34 ⟨fun h => by omega, fun _ => ⟨⟨by omega, by omega⟩, ⟨by omega, by omega⟩, ⟨hk.1, by omega⟩, fun y1 e1 => ?_⟩⟩
      rw [c_cell hC hk g1] at e1
      refine ⟨fun c => ⟨⟨by omega, by omega⟩, bj (fun q => c (by rw [e1]; exact q.1))⟩, fun c => ⟨⟨by omega, by omega⟩, ⟨hk.1, by omega⟩, fun y2 e2 => ?_⟩⟩
      rw [c_cell hC hk g2] at e2
      refine ⟨fun c2 => ⟨⟨by omega, by omega⟩, ?_⟩, fun c2 => ⟨⟨by omega, by omega⟩, bj (fun q => c2 (by rw [e2]; exact q.2))⟩⟩
      rw [← w_cs1]
      refine ih (fun i hi => ?_)
      by_cases hij : i = j
      · rw [hij]
        refine ⟨?_, ?_⟩
        · rw [e1] at c; exact c
        · rw [e2] at c2; exact c2
      · exact hg i (by omega)
  refine bMoon_read_0 ⟨fun c => bad (fun q => c q.1), fun c => ⟨fun c2 => bad (fun q => c2 q.2.1), fun c2 => ⟨fun c3 => ⟨fun c4 => ?_, fun c4 => ⟨⟨⟨c.1, by omega⟩, hf, c3⟩, fun y1 τ hq => ?_⟩⟩, fun c3 => bad (fun q => c3 q.2.2)⟩⟩⟩
  · exact main ⟨c, c2, c3⟩ 0 c3.1 (fun i hi => by omega) (Or.inr (fun q => c4 ((c_ok hC c c2.1).mp q).1))
  · obtain ⟨q1, q2, q3, q4⟩ := hq
    rw [q1]
    obtain ⟨m, em⟩ := Int.eq_ofNat_of_zero_le q2.1
    rw [em] at q2 q3 q4 ⊢
    refine main ⟨c, c2, c3⟩ m q2.2 (fun i hi => (c_ok hC c c2.1).mpr ⟨c4, q3 i (by omega)⟩) ?_
    rcases q4 with q4 | q4
    · exact Or.inl q4
    · exact Or.inr (fun q => q4 ((c_ok hC c c2.1).mp q).2)
