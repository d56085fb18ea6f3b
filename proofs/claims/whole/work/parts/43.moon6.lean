/-! Reading sheets: the class -/
def rd_ok (S : w_S) (k lane f j : Int) : Prop := S 4 k.toNat 1 = lane ∧ (0 ≤ f + 2 * j ∧ f + 2 * j + 1 < S 4 k.toNat 0)
def rd_a (S : w_S) (k f j : Int) : Int := S 4 k.toNat (2 + (f + 2 * j).toNat)
def rd_b (S : w_S) (k f j : Int) : Int := S 4 k.toNat (2 + (f + 2 * j + 1).toNat)
def rd_gd (S : w_S) (k f j : Int) : Prop := P_send S (rd_a S k f j) (rd_b S k f j)
noncomputable def rd_sd (S : w_S) (k f : Int) : Nat → w_S
  | 0 => S
  | j + 1 => G_send (rd_sd S k f j) (rd_a S k f j) (rd_b S k f j)
def rd_in (k lane n : Int) : Prop := (0 ≤ k ∧ k ≤ 3) ∧ (0 ≤ lane ∧ lane ≤ 2) ∧ (0 ≤ n ∧ n ≤ 20)
def R_read (S : w_S) (k lane f n x : Int) (T : w_S) : Prop :=
  (¬ rd_in k lane n ∧ x = -1 ∧ T = S) ∨
  (rd_in k lane n ∧ ∃ b : Nat, (∀ i : Nat, i < b → rd_ok S k lane f i ∧ rd_gd S k f i) ∧
    (((b : Int) < n ∧ rd_ok S k lane f b ∧ ¬ rd_gd S k f b ∧ x = -20 - (b : Int) ∧ T = S) ∨ ((b : Int) ≤ n ∧ ((b : Int) = n ∨ ¬ rd_ok S k lane f b) ∧ x = (b : Int) ∧ T = rd_sd S k f b)))
theorem R_read_det {S : w_S} {k lane f n x y : Int} {T U : w_S} (h1 : R_read S k lane f n x T) (h2 : R_read S k lane f n y U) : x = y ∧ T = U := by
  rcases h1 with ⟨a0, a1, a2⟩ | ⟨a0, b, a1, a2⟩
  · rcases h2 with ⟨b0, b1, b2⟩ | ⟨b0, _⟩
    · exact ⟨a1.trans b1.symm, a2.trans b2.symm⟩
    · exact absurd b0 a0
  · rcases h2 with ⟨b0, _⟩ | ⟨b0, c, c1, c2⟩
    · exact absurd a0 b0
    · have e : b = c := by
        rcases Nat.lt_trichotomy b c with h | h | h
        · have hc := c1 b h
          rcases a2 with ⟨_, _, g, _⟩ | ⟨g1, g2, _⟩
          · exact absurd hc.2 g
          · rcases g2 with g2 | g2
            · rcases c2 with ⟨g3, _⟩ | ⟨g3, _⟩ <;> omega
            · exact absurd hc.1 g2
        · exact h
        · have hc := a1 c h
          rcases c2 with ⟨_, _, g, _⟩ | ⟨g1, g2, _⟩
          · exact absurd hc.2 g
          · rcases g2 with g2 | g2
            · rcases a2 with ⟨g3, _⟩ | ⟨g3, _⟩ <;> omega
            · exact absurd hc.1 g2
      subst e
      rcases a2 with ⟨g0, g1, g2, g3, g4⟩ | ⟨g0, g1, g2, g3⟩
      · rcases c2 with ⟨_, _, _, i3, i4⟩ | ⟨_, i1, _⟩
        · exact ⟨g3.trans i3.symm, g4.trans i4.symm⟩
        · rcases i1 with i1 | i1
          · omega
          · exact absurd g1 i1
      · rcases c2 with ⟨i0, i1, _⟩ | ⟨_, _, i2, i3⟩
        · rcases g1 with g1 | g1
          · omega
          · exact absurd i1 g1
        · exact ⟨g2.trans i2.symm, g3.trans i3.symm⟩
theorem G_send_4 {S : w_S} {r i : Int} : G_send S r i 4 = S 4 := by
  unfold G_send
  by_cases h : P_send S r i
  · rw [G_set_t h, w_sp_ne (by decide)]
  · rw [G_set_f h]
theorem G_send_0 {S : w_S} {r i : Int} : G_send S r i 0 0 = S 0 0 := by
  unfold G_send
  by_cases h : P_send S r i
  · rw [G_set_t h, w_sp_at, w_up_ne (by decide)]
  · rw [G_set_f h]
theorem rd_sd_4 {S : w_S} {k f : Int} (j : Nat) : rd_sd S k f j 4 = S 4 := by
  induction j with
  | zero => rfl
  | succ j ih => exact G_send_4.trans ih
theorem rd_sd_0 {S : w_S} {k f : Int} (j : Nat) : rd_sd S k f j 0 0 = S 0 0 := by
  induction j with
  | zero => rfl
  | succ j ih => exact G_send_0.trans ih
def torn_c (S : w_S) (k lane n x : Int) : Int := if S 4 k.toNat 0 = -4 then (if x = n then 0 else 1) else if S 4 k.toNat 1 = lane then (if x = n then 0 else 2) else 3
def torn_m (S : w_S) (k lane n x : Int) : Int := if x = n then 0 else if S 4 k.toNat 0 = -4 then 1 else if S 4 k.toNat 1 = lane then 2 else 3
def p_Sheets_wholePairs (k f n : Int) (_ : w_M) : Prop := (0 ≤ k ∧ k < 4) ∧ w_in f ∧ (0 ≤ n ∧ n ≤ 20)
def q_Sheets_wholePairs (k f n : Int) (σ : w_M) (x : Int) (σ' : w_M) : Prop := σ' = σ ∧ (0 ≤ x ∧ x ≤ n) ∧ (∀ i : Nat, (i : Int) < x → P_Sheets_hasCell k (f + 2 * i) σ ∧ P_Sheets_hasCell k (f + 2 * i + 1) σ) ∧ (x = n ∨ ¬ (P_Sheets_hasCell k (f + 2 * x) σ ∧ P_Sheets_hasCell k (f + 2 * x + 1) σ))
theorem f103_0 : w_fe am_c103 0 1 (.bipush 0) := ⟨rfl, rfl⟩
theorem f103_1 : w_fe am_c103 1 2 (.istore 4) := ⟨rfl, rfl⟩
theorem f103_2 : w_fe am_c103 2 3 (.iload 4) := ⟨rfl, rfl⟩
theorem f103_3 : w_fe am_c103 3 4 (.iload 3) := ⟨rfl, rfl⟩
theorem f103_4 : w_ic am_c103 4 5 .ge 29 := ⟨rfl, rfl⟩
theorem f103_5 : w_fe am_c103 5 6 (.aload 0) := ⟨rfl, rfl⟩
theorem f103_6 : w_fe am_c103 6 7 (.iload 1) := ⟨rfl, rfl⟩
theorem f103_7 : w_fe am_c103 7 8 (.iload 2) := ⟨rfl, rfl⟩
theorem f103_8 : w_fe am_c103 8 9 (.bipush 2) := ⟨rfl, rfl⟩
theorem f103_9 : w_fe am_c103 9 10 (.iload 4) := ⟨rfl, rfl⟩
theorem f103_10 : w_fe am_c103 10 11 (.imul) := ⟨rfl, rfl⟩
theorem f103_11 : w_fe am_c103 11 12 (.iadd) := ⟨rfl, rfl⟩
theorem f103_12 : w_fe am_c103 12 13 (.invokestatic 99) := ⟨rfl, rfl⟩
theorem f103_13 : w_if am_c103 13 14 .eq 25 := ⟨rfl, rfl⟩
theorem f103_14 : w_fe am_c103 14 15 (.aload 0) := ⟨rfl, rfl⟩
theorem f103_15 : w_fe am_c103 15 16 (.iload 1) := ⟨rfl, rfl⟩
theorem f103_16 : w_fe am_c103 16 17 (.iload 2) := ⟨rfl, rfl⟩
theorem f103_17 : w_fe am_c103 17 18 (.bipush 2) := ⟨rfl, rfl⟩
theorem f103_18 : w_fe am_c103 18 19 (.iload 4) := ⟨rfl, rfl⟩
theorem f103_19 : w_fe am_c103 19 20 (.imul) := ⟨rfl, rfl⟩
theorem f103_20 : w_fe am_c103 20 21 (.iadd) := ⟨rfl, rfl⟩
theorem f103_21 : w_fe am_c103 21 22 (.bipush 1) := ⟨rfl, rfl⟩
theorem f103_22 : w_fe am_c103 22 23 (.iadd) := ⟨rfl, rfl⟩
theorem f103_23 : w_fe am_c103 23 24 (.invokestatic 99) := ⟨rfl, rfl⟩
theorem f103_24 : w_if am_c103 24 25 .ne 27 := ⟨rfl, rfl⟩
theorem f103_25 : w_fe am_c103 25 26 (.iload 4) := ⟨rfl, rfl⟩
theorem f103_26 : w_fe am_c103 26 27 (.ireturn) := ⟨rfl, rfl⟩
theorem f103_27 : w_fe am_c103 27 28 (.iinc 4 1) := ⟨rfl, rfl⟩
theorem f103_28 : w_gt am_c103 28 2 := rfl
theorem f103_29 : w_fe am_c103 29 30 (.iload 3) := ⟨rfl, rfl⟩
theorem f103_30 : w_fe am_c103 30 31 (.ireturn) := ⟨rfl, rfl⟩
def L103_2 (xs : List Int) (d : Nat) (Q : Option w_V → w_M → Prop) (v1 : Int) (v2 : Int) (v3 : Int) (v4 : Int) (σ : w_M) : Prop := w_Ex (xs, d) 1 am_c103 Q 2 [some (.inr (.inr (8, 80))), some (.inl v1), some (.inl v2), some (.inl v3), some (.inl v4)] [] σ
set_option maxRecDepth 20000 in
theorem b103_0 {xs : List Int} {d : Nat} {Q : Option w_V → w_M → Prop} {x1 : Int} {x2 : Int} {x3 : Int} {σ : w_M}
    (h : L103_2 xs (d + 4) Q x1 x2 x3 0 σ) : w_Call (xs, (d + 4)) 103 [.inr (.inr (8, 80)), .inl x1, .inl x2, .inl x3] σ Q :=
  (w_mk (mid := 103) (by decide) rfl rfl rfl rfl rfl (Nat.le_of_ble_eq_true rfl) ⟨rfl, Or.inl (by decide)⟩ (wi_bipush f103_0 (wi_istore4 f103_1 trivial h)))
set_option maxRecDepth 20000 in
theorem b103_2 {xs : List Int} {d : Nat} {Q : Option w_V → w_M → Prop} {v1 : Int} {v2 : Int} {v3 : Int} {v4 : Int} {σ : w_M}
    (h : (v3 ≤ v4 → Q (some (.inl v3)) σ) ∧ (v4 < v3 → (w_in (2 * v4) ∧ w_in (v2 + (2 * v4)) ∧ ((¬ (P_Sheets_hasCell v1 (v2 + (2 * v4)) σ) → Q (some (.inl v4)) σ) ∧ ((P_Sheets_hasCell v1 (v2 + (2 * v4)) σ) → (w_in ((v2 + (2 * v4)) + 1) ∧ (((P_Sheets_hasCell v1 ((v2 + (2 * v4)) + 1) σ) → (w_in (v4 + 1) ∧ L103_2 xs (d + 4) Q v1 v2 v3 (v4 + 1) σ)) ∧ (¬ (P_Sheets_hasCell v1 ((v2 + (2 * v4)) + 1) σ) → Q (some (.inl v4)) σ)))))))) : L103_2 xs (d + 4) Q v1 v2 v3 v4 σ :=
  (wi_iload4 f103_2 (wi_iload3 f103_3 (wi_ic_ge f103_4 (fun c3 => (wi_iload3 f103_29 (wi_ret1 f103_30 (h.1 c3)))) (fun c3 => (wi_aload0 f103_5 (wi_iload1 f103_6 (wi_iload2 f103_7 (wi_bipush f103_8 (wi_iload4 f103_9 (wi_imul f103_10 (h.2 c3).1 (wi_iadd f103_11 (h.2 c3).2.1 (wi_call3 f103_12 (Nat.le_of_ble_eq_true rfl) (k_Sheets_hasCell (wi_ifb_eq f103_13 (fun c2 => (wi_iload4 f103_25 (wi_ret1 f103_26 ((h.2 c3).2.2.1 c2)))) (fun c2 => (wi_aload0 f103_14 (wi_iload1 f103_15 (wi_iload2 f103_16 (wi_bipush f103_17 (wi_iload4 f103_18 (wi_imul f103_19 (h.2 c3).1 (wi_iadd f103_20 (h.2 c3).2.1 (wi_bipush f103_21 (wi_iadd f103_22 ((h.2 c3).2.2.2 c2).1 (wi_call3 f103_23 (Nat.le_of_ble_eq_true rfl) (k_Sheets_hasCell (wi_ifb_ne f103_24 (fun c1 => (wi_iinc4 f103_27 trivial (((h.2 c3).2.2.2 c2).2.1 c1).1 (wi_goto f103_28 (((h.2 c3).2.2.2 c2).2.1 c1).2))) (fun c1 => (wi_iload4 f103_25 (wi_ret1 f103_26 (((h.2 c3).2.2.2 c2).2.2 c1)))))))))))))))))))))))))))))))
theorem k_Sheets_wholePairs {xs : List Int} {d : Nat} {Q : Option w_V → w_M → Prop} {x1 : Int} {x2 : Int} {x3 : Int} {σ : w_M} (hp : p_Sheets_wholePairs x1 x2 x3 σ) (hQ : ∀ (x : Int) (σ' : w_M), q_Sheets_wholePairs x1 x2 x3 σ x σ' → Q (some (.inl x)) σ') : w_Call (xs, d + 4) 103 [.inr (.inr (8, 80)), .inl x1, .inl x2, .inl x3] σ Q := by
  obtain ⟨hk, hf, hn⟩ := hp
  unfold w_in at hf
  refine b103_0 ?_
  refine (w_loop (n := x3.toNat) (P := fun j => (∀ i : Nat, i < j → P_Sheets_hasCell x1 (x2 + 2 * i) σ ∧ P_Sheets_hasCell x1 (x2 + 2 * i + 1) σ) → L103_2 xs (d + 4) Q x1 x2 x3 (j : Int) σ) ?_ ?_) (fun i hi => by omega)
  · intro h
    exact b103_2 ⟨fun _ => hQ _ _ ⟨rfl, ⟨hn.1, by omega⟩, fun i hi => h i (by omega), Or.inl rfl⟩, fun h => by omega⟩
  · intro j hj ih h
    have hb : w_in (x2 + 2 * (j : Int)) := by
      unfold w_in
      by_cases h0 : j = 0
      · subst h0; constructor <;> omega
      · have hq := h (j - 1) (by omega)
        unfold P_Sheets_hasCell at hq
        constructor <;> omega
    refine b103_2 ⟨fun h => by omega, fun _ => ⟨⟨by omega, by omega⟩, hb, fun c => ?_, fun c => ⟨?_, fun c2 => ⟨⟨by omega, by omega⟩, ?_⟩, fun c2 => ?_⟩⟩⟩
    · exact hQ _ _ ⟨rfl, ⟨by omega, by omega⟩, fun i hi => h i (by omega), Or.inr (fun q => c q.1)⟩
    · have := c
      unfold P_Sheets_hasCell at this
      constructor <;> omega
    · rw [← w_cs1]
      refine ih (fun i hi => ?_)
      by_cases hij : i = j
      · rw [hij]; exact ⟨c, c2⟩
      · exact h i (by omega)
    · exact hQ _ _ ⟨rfl, ⟨by omega, by omega⟩, fun i hi => h i (by omega), Or.inr (fun q => c2 q.2)⟩
noncomputable def v_Sheets_faultOfReading (k lane n w : Int) (σ : w_M) : Int := if ¬ ((0 : Int) ≤ k ∧ k < (4 : Int)) ∨ σ 87 (Int.toNat k) < 0 then (if w = n then 0 else 1) else @ite _ (P_Sheets_isOfLane k lane σ) (Classical.propDecidable _) (if w = n then 0 else 2) 3
theorem f105_0 : w_fe am_c105 0 1 (.aload 0) := ⟨rfl, rfl⟩
theorem f105_1 : w_fe am_c105 1 2 (.iload 1) := ⟨rfl, rfl⟩
theorem f105_2 : w_fe am_c105 2 3 (.invokestatic 98) := ⟨rfl, rfl⟩
theorem f105_3 : w_if am_c105 3 4 .ne 11 := ⟨rfl, rfl⟩
theorem f105_4 : w_fe am_c105 4 5 (.aload 0) := ⟨rfl, rfl⟩
theorem f105_5 : w_fe am_c105 5 6 (.iload 1) := ⟨rfl, rfl⟩
theorem f105_6 : w_fe am_c105 6 7 (.iload 2) := ⟨rfl, rfl⟩
theorem f105_7 : w_fe am_c105 7 8 (.invokestatic 102) := ⟨rfl, rfl⟩
theorem f105_8 : w_if am_c105 8 9 .ne 11 := ⟨rfl, rfl⟩
theorem f105_9 : w_fe am_c105 9 10 (.bipush 3) := ⟨rfl, rfl⟩
theorem f105_10 : w_fe am_c105 10 11 (.ireturn) := ⟨rfl, rfl⟩
theorem f105_11 : w_fe am_c105 11 12 (.iload 4) := ⟨rfl, rfl⟩
theorem f105_12 : w_fe am_c105 12 13 (.iload 3) := ⟨rfl, rfl⟩
theorem f105_13 : w_ic am_c105 13 14 .ne 16 := ⟨rfl, rfl⟩
theorem f105_14 : w_fe am_c105 14 15 (.bipush 0) := ⟨rfl, rfl⟩
theorem f105_15 : w_fe am_c105 15 16 (.ireturn) := ⟨rfl, rfl⟩
theorem f105_16 : w_fe am_c105 16 17 (.aload 0) := ⟨rfl, rfl⟩
theorem f105_17 : w_fe am_c105 17 18 (.iload 1) := ⟨rfl, rfl⟩
theorem f105_18 : w_fe am_c105 18 19 (.invokestatic 98) := ⟨rfl, rfl⟩
theorem f105_19 : w_if am_c105 19 20 .eq 22 := ⟨rfl, rfl⟩
theorem f105_20 : w_fe am_c105 20 21 (.bipush 1) := ⟨rfl, rfl⟩
theorem f105_21 : w_gt am_c105 21 23 := rfl
theorem f105_22 : w_fe am_c105 22 23 (.bipush 2) := ⟨rfl, rfl⟩
theorem f105_23 : w_fe am_c105 23 24 (.ireturn) := ⟨rfl, rfl⟩
set_option maxRecDepth 20000 in
theorem b105_0 {xs : List Int} {d : Nat} {Q : Option w_V → w_M → Prop} {x1 : Int} {x2 : Int} {x3 : Int} {x4 : Int} {σ : w_M}
    (h : ((¬ ((0 : Int) ≤ x1 ∧ x1 < (4 : Int)) ∨ σ 87 (Int.toNat x1) < 0) → ((¬ x4 = x3 → Q (some (.inl 1)) σ) ∧ (x4 = x3 → Q (some (.inl 0)) σ))) ∧ (¬ (¬ ((0 : Int) ≤ x1 ∧ x1 < (4 : Int)) ∨ σ 87 (Int.toNat x1) < 0) → (((P_Sheets_isOfLane x1 x2 σ) → ((¬ x4 = x3 → Q (some (.inl 2)) σ) ∧ (x4 = x3 → Q (some (.inl 0)) σ))) ∧ (¬ (P_Sheets_isOfLane x1 x2 σ) → Q (some (.inl 3)) σ)))) : w_Call (xs, (d + 3)) 105 [.inr (.inr (8, 80)), .inl x1, .inl x2, .inl x3, .inl x4] σ Q :=
  (w_mk (mid := 105) (by decide) rfl rfl rfl rfl rfl (Nat.le_of_ble_eq_true rfl) ⟨rfl, Or.inl (by decide)⟩ (wi_aload0 f105_0 (wi_iload1 f105_1 (wi_call2 f105_2 (Nat.le_of_ble_eq_true rfl) (k_Sheets_isNothing (wi_ifb_ne f105_3 (fun c4 => (wi_iload4 f105_11 (wi_iload3 f105_12 (wi_ic_ne f105_13 (fun c1 => (wi_aload0 f105_16 (wi_iload1 f105_17 (wi_call2 f105_18 (Nat.le_of_ble_eq_true rfl) (k_Sheets_isNothing (wi_ifb_eq f105_19 (fun e => absurd c4 (w_m_eqb e)) (fun _ => (wi_bipush f105_20 (wi_goto f105_21 (wi_ret1 f105_23 ((h.1 c4).1 c1))))))))))) (fun c1 => (wi_bipush f105_14 (wi_ret1 f105_15 ((h.1 c4).2 c1)))))))) (fun c4 => (wi_aload0 f105_4 (wi_iload1 f105_5 (wi_iload2 f105_6 (wi_call3 f105_7 (Nat.le_of_ble_eq_true rfl) (k_Sheets_isOfLane (wi_ifb_ne f105_8 (fun c3 => (wi_iload4 f105_11 (wi_iload3 f105_12 (wi_ic_ne f105_13 (fun c2 => (wi_aload0 f105_16 (wi_iload1 f105_17 (wi_call2 f105_18 (Nat.le_of_ble_eq_true rfl) (k_Sheets_isNothing (wi_ifb_eq f105_19 (fun _ => (wi_bipush f105_22 (wi_ret1 f105_23 (((h.2 c4).1 c3).1 c2)))) (fun e => absurd c4 (w_n_eqb e)))))))) (fun c2 => (wi_bipush f105_14 (wi_ret1 f105_15 (((h.2 c4).1 c3).2 c2)))))))) (fun c3 => (wi_bipush f105_9 (wi_ret1 f105_10 ((h.2 c4).2 c3)))))))))))))))))
theorem k_Sheets_faultOfReading {xs : List Int} {d : Nat} {Q : Option w_V → w_M → Prop} {x1 : Int} {x2 : Int} {x3 : Int} {x4 : Int} {σ : w_M} (hQ : Q (some (.inl (v_Sheets_faultOfReading x1 x2 x3 x4 σ))) σ) : w_Call (xs, d + 3) 105 [.inr (.inr (8, 80)), .inl x1, .inl x2, .inl x3, .inl x4] σ Q := by
  unfold v_Sheets_faultOfReading at hQ
  refine b105_0 ⟨fun c => ⟨fun c2 => ?_, fun c2 => ?_⟩, fun c => ⟨fun c2 => ⟨fun c3 => ?_, fun c3 => ?_⟩, fun c2 => ?_⟩⟩
  · rw [if_pos c, if_neg c2] at hQ; exact hQ
  · rw [if_pos c, if_pos c2] at hQ; exact hQ
  · rw [if_neg c, if_pos c2, if_neg c3] at hQ; exact hQ
  · rw [if_neg c, if_pos c2, if_pos c3] at hQ; exact hQ
  · rw [if_neg c, if_neg c2] at hQ; exact hQ
theorem cS_t9 {σ : w_M} {y : Int} : cS (w_up σ 0 9 y) = cS σ :=
  cS_ext (w_ab_fr (fun d hd => w_up_ne (by omega))) (s_ab_fr (fun d hd => w_up_ne (by omega))) (c_ab_fr (fun d hd => w_up_ne (by omega))) (t_ab_fr (by rw [w_up_ne (by decide)]) (w_up_j (by decide)) (w_up_ne (by decide))) (h_ab_fr (fun b h1 h2 => w_up_ne (by omega))) (cS_im (w_up_j (by decide)) (fun b h1 h2 => w_up_ne (by omega)))
theorem CI_t9 {σ : w_M} {y : Int} (h : CI σ) : CI (w_up σ 0 9 y) :=
  ⟨by rw [cS_t9]; exact h.1, cX_fr h.2 (by rw [w_up_ne (by decide)]) (w_up_j (by decide)) (by rw [w_up_ne (by decide)]) (by rw [w_up_ne (by decide)])⟩
theorem c_ok {σ : w_M} {k lane f j : Int} (hC : CI σ) (hk : 0 ≤ k ∧ k ≤ 3) (hl : 0 ≤ lane) : rd_ok (cS σ) k lane f j ↔ P_Sheets_isOfLane k lane σ ∧ P_Sheets_hasCell k (f + 2 * j) σ ∧ P_Sheets_hasCell k (f + 2 * j + 1) σ := by
  have h4 : k.toNat < 4 := by omega
  have e4 : cS σ 4 = h_ab σ := rfl
  unfold rd_ok P_Sheets_isOfLane
  rw [e4]
  by_cases h87 : σ 87 k.toNat < 0
  · rw [h_ab_no h4 h87]
    constructor
    · intro h; omega
    · intro h; exact absurd h87 h.1.2.1
  · obtain ⟨e0, e1, _⟩ := h_ab_yes h4 h87
    have hn : ¬ h_ab σ k.toNat 0 = -4 := fun q => h87 ((h_ab_no_iff h4).mp q)
    rw [c_has hC hk hn, c_has hC hk hn, e1]
    constructor
    · intro h; exact ⟨⟨by omega, h87, h.1⟩, by omega, by omega⟩
    · intro h; exact ⟨h.1.2.2, by omega, by omega⟩
theorem c_cell {σ : w_M} {k i : Int} (hC : CI σ) (hk : 0 ≤ k ∧ k ≤ 3) (h : P_Sheets_hasCell k i σ) : v_Sheets_cell k i σ = cS σ 4 k.toNat (2 + i.toNat) := by
  have h4 : k.toNat < 4 := by omega
  have h87 : ¬ σ 87 k.toNat < 0 := fun q => by
    unfold P_Sheets_hasCell v_Sheets_sizeOf at h
    rw [if_neg (fun z => z.2 q)] at h
    omega
  have hi : i < 40 := h.2.2
  have h0 := h.1
  show v_Sheets_cell k i σ = h_ab σ k.toNat (2 + i.toNat)
  rw [(h_ab_yes h4 h87).2.2 _ (by omega)]
  exact if_pos h
def p_Moon_read (_ _ f _ : Int) (σ : w_M) : Prop := CI σ ∧ w_in f
def q_Moon_read (k lane f n : Int) (σ : w_M) (x : Int) (σ' : w_M) : Prop := R_read (cS σ) k lane f n x (cS σ') ∧ CI σ' ∧ (∀ b, 122 ≤ b → σ' b = σ b) ∧ (x < 0 → σ' 0 9 = σ 0 9) ∧ (0 ≤ x → σ' 0 9 = torn_c (cS σ) k lane n x)
theorem f151_0 : w_fe am_c151 0 1 (.iload 1) := ⟨rfl, rfl⟩
theorem f151_1 : w_fe am_c151 1 2 (.bipush 0) := ⟨rfl, rfl⟩
theorem f151_2 : w_fe am_c151 2 3 (.bipush 3) := ⟨rfl, rfl⟩
theorem f151_3 : w_fe am_c151 3 4 (.invokestatic 108) := ⟨rfl, rfl⟩
theorem f151_4 : w_if am_c151 4 5 .eq 15 := ⟨rfl, rfl⟩
theorem f151_5 : w_fe am_c151 5 6 (.iload 2) := ⟨rfl, rfl⟩
theorem f151_6 : w_fe am_c151 6 7 (.bipush 0) := ⟨rfl, rfl⟩
theorem f151_7 : w_fe am_c151 7 8 (.bipush 2) := ⟨rfl, rfl⟩
theorem f151_8 : w_fe am_c151 8 9 (.invokestatic 108) := ⟨rfl, rfl⟩
theorem f151_9 : w_if am_c151 9 10 .eq 15 := ⟨rfl, rfl⟩
theorem f151_10 : w_fe am_c151 10 11 (.iload 4) := ⟨rfl, rfl⟩
theorem f151_11 : w_fe am_c151 11 12 (.bipush 0) := ⟨rfl, rfl⟩
theorem f151_12 : w_fe am_c151 12 13 (.bipush 20) := ⟨rfl, rfl⟩
theorem f151_13 : w_fe am_c151 13 14 (.invokestatic 108) := ⟨rfl, rfl⟩
theorem f151_14 : w_if am_c151 14 15 .ne 17 := ⟨rfl, rfl⟩
theorem f151_15 : w_fe am_c151 15 16 (.bipush (-1)) := ⟨rfl, rfl⟩
theorem f151_16 : w_fe am_c151 16 17 (.ireturn) := ⟨rfl, rfl⟩
theorem f151_17 : w_fe am_c151 17 18 (.aload 0) := ⟨rfl, rfl⟩
theorem f151_18 : w_fe am_c151 18 19 (.getfield 6) := ⟨rfl, rfl⟩
theorem f151_19 : w_fe am_c151 19 20 (.iload 1) := ⟨rfl, rfl⟩
theorem f151_20 : w_fe am_c151 20 21 (.iload 2) := ⟨rfl, rfl⟩
theorem f151_21 : w_fe am_c151 21 22 (.invokestatic 102) := ⟨rfl, rfl⟩
theorem f151_22 : w_if am_c151 22 23 .eq 30 := ⟨rfl, rfl⟩
theorem f151_23 : w_fe am_c151 23 24 (.aload 0) := ⟨rfl, rfl⟩
theorem f151_24 : w_fe am_c151 24 25 (.getfield 6) := ⟨rfl, rfl⟩
theorem f151_25 : w_fe am_c151 25 26 (.iload 1) := ⟨rfl, rfl⟩
theorem f151_26 : w_fe am_c151 26 27 (.iload 3) := ⟨rfl, rfl⟩
theorem f151_27 : w_fe am_c151 27 28 (.iload 4) := ⟨rfl, rfl⟩
theorem f151_28 : w_fe am_c151 28 29 (.invokestatic 103) := ⟨rfl, rfl⟩
theorem f151_29 : w_gt am_c151 29 31 := rfl
theorem f151_30 : w_fe am_c151 30 31 (.bipush 0) := ⟨rfl, rfl⟩
theorem f151_31 : w_fe am_c151 31 32 (.istore 5) := ⟨rfl, rfl⟩
theorem f151_32 : w_fe am_c151 32 33 (.bipush 0) := ⟨rfl, rfl⟩
theorem f151_33 : w_fe am_c151 33 34 (.istore 6) := ⟨rfl, rfl⟩
theorem f151_34 : w_fe am_c151 34 35 (.iload 6) := ⟨rfl, rfl⟩
theorem f151_35 : w_fe am_c151 35 36 (.iload 5) := ⟨rfl, rfl⟩
theorem f151_36 : w_ic am_c151 36 37 .ge 71 := ⟨rfl, rfl⟩
theorem f151_37 : w_fe am_c151 37 38 (.aload 0) := ⟨rfl, rfl⟩
theorem f151_38 : w_fe am_c151 38 39 (.getfield 2) := ⟨rfl, rfl⟩
theorem f151_39 : w_fe am_c151 39 40 (.aload 0) := ⟨rfl, rfl⟩
theorem f151_40 : w_fe am_c151 40 41 (.getfield 6) := ⟨rfl, rfl⟩
theorem f151_41 : w_fe am_c151 41 42 (.iload 1) := ⟨rfl, rfl⟩
theorem f151_42 : w_fe am_c151 42 43 (.iload 3) := ⟨rfl, rfl⟩
theorem f151_43 : w_fe am_c151 43 44 (.bipush 2) := ⟨rfl, rfl⟩
theorem f151_44 : w_fe am_c151 44 45 (.iload 6) := ⟨rfl, rfl⟩
theorem f151_45 : w_fe am_c151 45 46 (.imul) := ⟨rfl, rfl⟩
theorem f151_46 : w_fe am_c151 46 47 (.iadd) := ⟨rfl, rfl⟩
theorem f151_47 : w_fe am_c151 47 48 (.invokestatic 104) := ⟨rfl, rfl⟩
theorem f151_48 : w_fe am_c151 48 49 (.invokestatic 38) := ⟨rfl, rfl⟩
theorem f151_49 : w_if am_c151 49 50 .eq 65 := ⟨rfl, rfl⟩
theorem f151_50 : w_fe am_c151 50 51 (.aload 0) := ⟨rfl, rfl⟩
theorem f151_51 : w_fe am_c151 51 52 (.getfield 2) := ⟨rfl, rfl⟩
theorem f151_52 : w_fe am_c151 52 53 (.aload 0) := ⟨rfl, rfl⟩
theorem f151_53 : w_fe am_c151 53 54 (.getfield 6) := ⟨rfl, rfl⟩
theorem f151_54 : w_fe am_c151 54 55 (.iload 1) := ⟨rfl, rfl⟩
theorem f151_55 : w_fe am_c151 55 56 (.iload 3) := ⟨rfl, rfl⟩
theorem f151_56 : w_fe am_c151 56 57 (.bipush 2) := ⟨rfl, rfl⟩
theorem f151_57 : w_fe am_c151 57 58 (.iload 6) := ⟨rfl, rfl⟩
theorem f151_58 : w_fe am_c151 58 59 (.imul) := ⟨rfl, rfl⟩
theorem f151_59 : w_fe am_c151 59 60 (.iadd) := ⟨rfl, rfl⟩
theorem f151_60 : w_fe am_c151 60 61 (.bipush 1) := ⟨rfl, rfl⟩
theorem f151_61 : w_fe am_c151 61 62 (.iadd) := ⟨rfl, rfl⟩
theorem f151_62 : w_fe am_c151 62 63 (.invokestatic 104) := ⟨rfl, rfl⟩
theorem f151_63 : w_fe am_c151 63 64 (.invokestatic 33) := ⟨rfl, rfl⟩
theorem f151_64 : w_if am_c151 64 65 .ne 69 := ⟨rfl, rfl⟩
theorem f151_65 : w_fe am_c151 65 66 (.bipush (-20)) := ⟨rfl, rfl⟩
theorem f151_66 : w_fe am_c151 66 67 (.iload 6) := ⟨rfl, rfl⟩
theorem f151_67 : w_fe am_c151 67 68 (.isub) := ⟨rfl, rfl⟩
theorem f151_68 : w_fe am_c151 68 69 (.ireturn) := ⟨rfl, rfl⟩
theorem f151_69 : w_fe am_c151 69 70 (.iinc 6 1) := ⟨rfl, rfl⟩
theorem f151_70 : w_gt am_c151 70 34 := rfl
theorem f151_71 : w_fe am_c151 71 72 (.bipush 0) := ⟨rfl, rfl⟩
theorem f151_72 : w_fe am_c151 72 73 (.istore 6) := ⟨rfl, rfl⟩
theorem f151_73 : w_fe am_c151 73 74 (.iload 6) := ⟨rfl, rfl⟩
theorem f151_74 : w_fe am_c151 74 75 (.iload 5) := ⟨rfl, rfl⟩
theorem f151_75 : w_ic am_c151 75 76 .ge 101 := ⟨rfl, rfl⟩
theorem f151_76 : w_fe am_c151 76 77 (.aload 0) := ⟨rfl, rfl⟩
theorem f151_77 : w_fe am_c151 77 78 (.aload 0) := ⟨rfl, rfl⟩
theorem f151_78 : w_fe am_c151 78 79 (.getfield 6) := ⟨rfl, rfl⟩
theorem f151_79 : w_fe am_c151 79 80 (.iload 1) := ⟨rfl, rfl⟩
theorem f151_80 : w_fe am_c151 80 81 (.iload 3) := ⟨rfl, rfl⟩
theorem f151_81 : w_fe am_c151 81 82 (.bipush 2) := ⟨rfl, rfl⟩
theorem f151_82 : w_fe am_c151 82 83 (.iload 6) := ⟨rfl, rfl⟩
theorem f151_83 : w_fe am_c151 83 84 (.imul) := ⟨rfl, rfl⟩
theorem f151_84 : w_fe am_c151 84 85 (.iadd) := ⟨rfl, rfl⟩
theorem f151_85 : w_fe am_c151 85 86 (.invokestatic 104) := ⟨rfl, rfl⟩
theorem f151_86 : w_fe am_c151 86 87 (.aload 0) := ⟨rfl, rfl⟩
theorem f151_87 : w_fe am_c151 87 88 (.getfield 6) := ⟨rfl, rfl⟩
theorem f151_88 : w_fe am_c151 88 89 (.iload 1) := ⟨rfl, rfl⟩
theorem f151_89 : w_fe am_c151 89 90 (.iload 3) := ⟨rfl, rfl⟩
theorem f151_90 : w_fe am_c151 90 91 (.bipush 2) := ⟨rfl, rfl⟩
theorem f151_91 : w_fe am_c151 91 92 (.iload 6) := ⟨rfl, rfl⟩
theorem f151_92 : w_fe am_c151 92 93 (.imul) := ⟨rfl, rfl⟩
theorem f151_93 : w_fe am_c151 93 94 (.iadd) := ⟨rfl, rfl⟩
theorem f151_94 : w_fe am_c151 94 95 (.bipush 1) := ⟨rfl, rfl⟩
theorem f151_95 : w_fe am_c151 95 96 (.iadd) := ⟨rfl, rfl⟩
theorem f151_96 : w_fe am_c151 96 97 (.invokestatic 104) := ⟨rfl, rfl⟩
theorem f151_97 : w_fe am_c151 97 98 (.invokestatic 117) := ⟨rfl, rfl⟩
theorem f151_98 : w_fe am_c151 98 99 (.pop) := ⟨rfl, rfl⟩
theorem f151_99 : w_fe am_c151 99 100 (.iinc 6 1) := ⟨rfl, rfl⟩
theorem f151_100 : w_gt am_c151 100 73 := rfl
theorem f151_101 : w_fe am_c151 101 102 (.aload 0) := ⟨rfl, rfl⟩
theorem f151_102 : w_fe am_c151 102 103 (.aload 0) := ⟨rfl, rfl⟩
theorem f151_103 : w_fe am_c151 103 104 (.getfield 6) := ⟨rfl, rfl⟩
theorem f151_104 : w_fe am_c151 104 105 (.iload 1) := ⟨rfl, rfl⟩
theorem f151_105 : w_fe am_c151 105 106 (.iload 2) := ⟨rfl, rfl⟩
theorem f151_106 : w_fe am_c151 106 107 (.iload 4) := ⟨rfl, rfl⟩
theorem f151_107 : w_fe am_c151 107 108 (.iload 5) := ⟨rfl, rfl⟩
theorem f151_108 : w_fe am_c151 108 109 (.invokestatic 105) := ⟨rfl, rfl⟩
theorem f151_109 : w_fe am_c151 109 110 (.putfield 9) := ⟨rfl, rfl⟩
theorem f151_110 : w_fe am_c151 110 111 (.iload 5) := ⟨rfl, rfl⟩
theorem f151_111 : w_fe am_c151 111 112 (.ireturn) := ⟨rfl, rfl⟩
def L151_34 (xs : List Int) (d : Nat) (Q : Option w_V → w_M → Prop) (v1 : Int) (v2 : Int) (v3 : Int) (v4 : Int) (v5 : Int) (v6 : Int) (σ : w_M) : Prop := w_Ex (xs, d) 1 am_c151 Q 34 [some (.inr (.inr (0, 0))), some (.inl v1), some (.inl v2), some (.inl v3), some (.inl v4), some (.inl v5), some (.inl v6)] [] σ
def L151_73 (xs : List Int) (d : Nat) (Q : Option w_V → w_M → Prop) (v1 : Int) (v2 : Int) (v3 : Int) (v4 : Int) (v5 : Int) (v6 : Int) (σ : w_M) : Prop := w_Ex (xs, d) 1 am_c151 Q 73 [some (.inr (.inr (0, 0))), some (.inl v1), some (.inl v2), some (.inl v3), some (.inl v4), some (.inl v5), some (.inl v6)] [] σ
set_option maxRecDepth 20000 in
theorem b151_0 {xs : List Int} {d : Nat} {Q : Option w_V → w_M → Prop} {x1 : Int} {x2 : Int} {x3 : Int} {x4 : Int} {σ : w_M}
    (h : (¬ (0 ≤ x1 ∧ x1 ≤ 3) → Q (some (.inl (-1))) σ) ∧ ((0 ≤ x1 ∧ x1 ≤ 3) → ((¬ (0 ≤ x2 ∧ x2 ≤ 2) → Q (some (.inl (-1))) σ) ∧ ((0 ≤ x2 ∧ x2 ≤ 2) → (((0 ≤ x4 ∧ x4 ≤ 20) → ((¬ (P_Sheets_isOfLane x1 x2 σ) → L151_34 xs (d + 5) Q x1 x2 x3 x4 0 0 σ) ∧ ((P_Sheets_isOfLane x1 x2 σ) → (p_Sheets_wholePairs x1 x3 x4 σ ∧ (∀ (y1 : Int) (τ2 : w_M), q_Sheets_wholePairs x1 x3 x4 σ y1 τ2 → L151_34 xs (d + 5) Q x1 x2 x3 x4 y1 0 τ2))))) ∧ (¬ (0 ≤ x4 ∧ x4 ≤ 20) → Q (some (.inl (-1))) σ)))))) : w_Call (xs, (d + 5)) 151 [.inr (.inr (0, 0)), .inl x1, .inl x2, .inl x3, .inl x4] σ Q :=
  (w_mk (mid := 151) (by decide) rfl rfl rfl rfl rfl (Nat.le_of_ble_eq_true rfl) ⟨rfl, Or.inl (by decide)⟩ (wi_iload1 f151_0 (wi_bipush f151_1 (wi_bipush f151_2 (wi_call3 f151_3 (Nat.le_of_ble_eq_true rfl) (k_Moon_isWithin (wi_ifb_eq f151_4 (fun c6 => (wi_bipush f151_15 (wi_ret1 f151_16 (h.1 c6)))) (fun c6 => (wi_iload2 f151_5 (wi_bipush f151_6 (wi_bipush f151_7 (wi_call3 f151_8 (Nat.le_of_ble_eq_true rfl) (k_Moon_isWithin (wi_ifb_eq f151_9 (fun c5 => (wi_bipush f151_15 (wi_ret1 f151_16 ((h.2 c6).1 c5)))) (fun c5 => (wi_iload4 f151_10 (wi_bipush f151_11 (wi_bipush f151_12 (wi_call3 f151_13 (Nat.le_of_ble_eq_true rfl) (k_Moon_isWithin (wi_ifb_ne f151_14 (fun c4 => (wi_aload0 f151_17 (wi_getf6 f151_18 (wi_iload1 f151_19 (wi_iload2 f151_20 (wi_call3 f151_21 (Nat.le_of_ble_eq_true rfl) (k_Sheets_isOfLane (wi_ifb_eq f151_22 (fun c3 => (wi_bipush f151_30 (wi_istore5 f151_31 trivial (wi_bipush f151_32 (wi_istore6 f151_33 trivial ((((h.2 c6).2 c5).1 c4).1 c3)))))) (fun c3 => (wi_aload0 f151_23 (wi_getf6 f151_24 (wi_iload1 f151_25 (wi_iload3 f151_26 (wi_iload4 f151_27 (wi_call4 f151_28 (Nat.le_of_ble_eq_true rfl) (k_Sheets_wholePairs ((((h.2 c6).2 c5).1 c4).2 c3).1 (fun y1 τ2 eτ2 => (wi_goto f151_29 (wi_istore5 f151_31 trivial (wi_bipush f151_32 (wi_istore6 f151_33 trivial (((((h.2 c6).2 c5).1 c4).2 c3).2 y1 τ2 eτ2)))))))))))))))))))))) (fun c4 => (wi_bipush f151_15 (wi_ret1 f151_16 (((h.2 c6).2 c5).2 c4)))))))))))))))))))))))))
set_option maxRecDepth 20000 in
theorem b151_34 {xs : List Int} {d : Nat} {Q : Option w_V → w_M → Prop} {v1 : Int} {v2 : Int} {v3 : Int} {v4 : Int} {v5 : Int} {v6 : Int} {σ : w_M}
    (h : (v5 ≤ v6 → L151_73 xs (d + 5) Q v1 v2 v3 v4 v5 0 σ) ∧ (v6 < v5 → (w_in (2 * v6) ∧ w_in (v3 + (2 * v6)) ∧ p_Sheets_cell v1 (v3 + (2 * v6)) σ ∧ (∀ (y1 : Int), y1 = v_Sheets_cell v1 (v3 + (2 * v6)) σ → ((¬ (0 ≤ y1 ∧ y1 < σ 14 5) → (w_in ((-20) - v6) ∧ Q (some (.inl ((-20) - v6))) σ)) ∧ ((0 ≤ y1 ∧ y1 < σ 14 5) → (w_in ((v3 + (2 * v6)) + 1) ∧ p_Sheets_cell v1 ((v3 + (2 * v6)) + 1) σ ∧ (∀ (y2 : Int), y2 = v_Sheets_cell v1 ((v3 + (2 * v6)) + 1) σ → (((0 ≤ y2 ∧ y2 < σ 14 4) → (w_in (v6 + 1) ∧ L151_34 xs (d + 5) Q v1 v2 v3 v4 v5 (v6 + 1) σ)) ∧ (¬ (0 ≤ y2 ∧ y2 < σ 14 4) → (w_in ((-20) - v6) ∧ Q (some (.inl ((-20) - v6))) σ))))))))))) : L151_34 xs (d + 5) Q v1 v2 v3 v4 v5 v6 σ :=
  (wi_iload6 f151_34 (wi_iload5 f151_35 (wi_ic_ge f151_36 (fun c5 => (wi_bipush f151_71 (wi_istore6 f151_72 trivial (h.1 c5)))) (fun c5 => (wi_aload0 f151_37 (wi_getf2 f151_38 (wi_aload0 f151_39 (wi_getf6 f151_40 (wi_iload1 f151_41 (wi_iload3 f151_42 (wi_bipush f151_43 (wi_iload6 f151_44 (wi_imul f151_45 (h.2 c5).1 (wi_iadd f151_46 (h.2 c5).2.1 (wi_call3 f151_47 (Nat.le_of_ble_eq_true rfl) (k_Sheets_cell (h.2 c5).2.2.1 (wi_call2 f151_48 (Nat.le_of_ble_eq_true rfl) (k_Field_isReaper (wi_ifb_eq f151_49 (fun c4 => (wi_bipush f151_65 (wi_iload6 f151_66 (wi_isub f151_67 (((h.2 c5).2.2.2 _ rfl).1 c4).1 (wi_ret1 f151_68 (((h.2 c5).2.2.2 _ rfl).1 c4).2))))) (fun c4 => (wi_aload0 f151_50 (wi_getf2 f151_51 (wi_aload0 f151_52 (wi_getf6 f151_53 (wi_iload1 f151_54 (wi_iload3 f151_55 (wi_bipush f151_56 (wi_iload6 f151_57 (wi_imul f151_58 (h.2 c5).1 (wi_iadd f151_59 (h.2 c5).2.1 (wi_bipush f151_60 (wi_iadd f151_61 (((h.2 c5).2.2.2 _ rfl).2 c4).1 (wi_call3 f151_62 (Nat.le_of_ble_eq_true rfl) (k_Sheets_cell (((h.2 c5).2.2.2 _ rfl).2 c4).2.1 (wi_call2 f151_63 (Nat.le_of_ble_eq_true rfl) (k_Field_isStrip (wi_ifb_ne f151_64 (fun c3 => (wi_iinc6 f151_69 trivial (((((h.2 c5).2.2.2 _ rfl).2 c4).2.2 _ rfl).1 c3).1 (wi_goto f151_70 (((((h.2 c5).2.2.2 _ rfl).2 c4).2.2 _ rfl).1 c3).2))) (fun c3 => (wi_bipush f151_65 (wi_iload6 f151_66 (wi_isub f151_67 (((((h.2 c5).2.2.2 _ rfl).2 c4).2.2 _ rfl).2 c3).1 (wi_ret1 f151_68 (((((h.2 c5).2.2.2 _ rfl).2 c4).2.2 _ rfl).2 c3).2))))))))))))))))))))))))))))))))))))))))))
set_option maxRecDepth 20000 in
theorem b151_73 {xs : List Int} {d : Nat} {Q : Option w_V → w_M → Prop} {v1 : Int} {v2 : Int} {v3 : Int} {v4 : Int} {v5 : Int} {v6 : Int} {σ : w_M}
    (h : (v5 ≤ v6 → ∀ (y1 : Int), y1 = v_Sheets_faultOfReading v1 v2 v4 v5 σ → ∀ (τ2 : w_M), τ2 = w_up σ 0 9 y1 → Q (some (.inl v5)) τ2) ∧ (v6 < v5 → (w_in (2 * v6) ∧ w_in (v3 + (2 * v6)) ∧ p_Sheets_cell v1 (v3 + (2 * v6)) σ ∧ (∀ (y3 : Int), y3 = v_Sheets_cell v1 (v3 + (2 * v6)) σ → (w_in ((v3 + (2 * v6)) + 1) ∧ p_Sheets_cell v1 ((v3 + (2 * v6)) + 1) σ ∧ (∀ (y4 : Int), y4 = v_Sheets_cell v1 ((v3 + (2 * v6)) + 1) σ → (p_Moon_send y3 y4 σ ∧ (∀ (y5 : Int) (τ6 : w_M), q_Moon_send y3 y4 σ y5 τ6 → (w_in (v6 + 1) ∧ L151_73 xs (d + 5) Q v1 v2 v3 v4 v5 (v6 + 1) τ6))))))))) : L151_73 xs (d + 5) Q v1 v2 v3 v4 v5 v6 σ :=
  (wi_iload6 f151_73 (wi_iload5 f151_74 (wi_ic_ge f151_75 (fun c7 => (wi_aload0 f151_101 (wi_aload0 f151_102 (wi_getf6 f151_103 (wi_iload1 f151_104 (wi_iload2 f151_105 (wi_iload4 f151_106 (wi_iload5 f151_107 (wi_call5 f151_108 (Nat.le_of_ble_eq_true rfl) (k_Sheets_faultOfReading (wi_putf9 f151_109 (wi_iload5 f151_110 (wi_ret1 f151_111 (((h.1 c7) _ rfl) _ rfl)))))))))))))) (fun c7 => (wi_aload0 f151_76 (wi_aload0 f151_77 (wi_getf6 f151_78 (wi_iload1 f151_79 (wi_iload3 f151_80 (wi_bipush f151_81 (wi_iload6 f151_82 (wi_imul f151_83 (h.2 c7).1 (wi_iadd f151_84 (h.2 c7).2.1 (wi_call3 f151_85 (Nat.le_of_ble_eq_true rfl) (k_Sheets_cell (h.2 c7).2.2.1 (wi_aload0 f151_86 (wi_getf6 f151_87 (wi_iload1 f151_88 (wi_iload3 f151_89 (wi_bipush f151_90 (wi_iload6 f151_91 (wi_imul f151_92 (h.2 c7).1 (wi_iadd f151_93 (h.2 c7).2.1 (wi_bipush f151_94 (wi_iadd f151_95 ((h.2 c7).2.2.2 _ rfl).1 (wi_call3 f151_96 (Nat.le_of_ble_eq_true rfl) (k_Sheets_cell ((h.2 c7).2.2.2 _ rfl).2.1 (wi_call3 f151_97 (Nat.le_of_ble_eq_true rfl) (k_Moon_send (((h.2 c7).2.2.2 _ rfl).2.2 _ rfl).1 (fun y5 τ6 eτ6 => (wi_pop_i f151_98 (wi_iinc6 f151_99 trivial ((((h.2 c7).2.2.2 _ rfl).2.2 _ rfl).2 y5 τ6 eτ6).1 (wi_goto f151_100 ((((h.2 c7).2.2.2 _ rfl).2.2 _ rfl).2 y5 τ6 eτ6).2)))))))))))))))))))))))))))))))))
theorem k_Moon_read {xs : List Int} {d : Nat} {Q : Option w_V → w_M → Prop} {x1 : Int} {x2 : Int} {x3 : Int} {x4 : Int} {σ : w_M} (hp : p_Moon_read x1 x2 x3 x4 σ) (hQ : ∀ (x : Int) (σ' : w_M), q_Moon_read x1 x2 x3 x4 σ x σ' → Q (some (.inl x)) σ') : w_Call (xs, d + 5) 151 [.inr (.inr (0, 0)), .inl x1, .inl x2, .inl x3, .inl x4] σ Q := by
  obtain ⟨hC, hf⟩ := hp
  unfold w_in at hf
  have bad : ¬ rd_in x1 x2 x4 → Q (some (.inl (-1))) σ := fun h => hQ _ _ ⟨Or.inl ⟨h, rfl, rfl⟩, hC, fun _ _ => rfl, fun _ => rfl, fun h => by omega⟩
  have main : rd_in x1 x2 x4 → ∀ w : Nat, (w : Int) ≤ x4 → (∀ i : Nat, i < w → rd_ok (cS σ) x1 x2 x3 i) → ((w : Int) = x4 ∨ ¬ rd_ok (cS σ) x1 x2 x3 w) → L151_34 xs (d + 5) Q x1 x2 x3 x4 (w : Int) 0 σ := by
    intro hin w hw h1 h2
    have hk := hin.1
    have hl := hin.2.1
    have hn := hin.2.2
    have hok : ∀ i : Nat, i < w → P_Sheets_isOfLane x1 x2 σ ∧ P_Sheets_hasCell x1 (x3 + 2 * i) σ ∧ P_Sheets_hasCell x1 (x3 + 2 * i + 1) σ := fun i hi => (c_ok hC hk hl.1).mp (h1 i hi)
    refine (w_loop (n := w) (P := fun j => (∀ i : Nat, i < j → rd_gd (cS σ) x1 x3 i) → L151_34 xs (d + 5) Q x1 x2 x3 x4 (w : Int) (j : Int) σ) ?_ ?_) (fun i hi => by omega)
    · intro hg
      refine b151_34 ⟨fun _ => ?_, fun h => by omega⟩
      refine (w_loop (n := w) (P := fun j => ∀ τ : w_M, CI τ → cS τ = rd_sd (cS σ) x1 x3 j → (∀ b, 122 ≤ b → τ b = σ b) → L151_73 xs (d + 5) Q x1 x2 x3 x4 (w : Int) (j : Int) τ) ?_ ?_) σ hC rfl (fun _ _ => rfl)
      · intro τ hT eT fT
        refine b151_73 ⟨fun _ => fun y ey τ2 t2 => ?_, fun h => by omega⟩
        have e4 : h_ab τ = cS σ 4 := by
          show cS τ 4 = _
          rw [eT, rd_sd_4]
        have h4 : x1.toNat < 4 := by omega
        refine hQ _ _ ⟨Or.inr ⟨hin, w, fun i hi => ⟨h1 i hi, hg i hi⟩, Or.inr ⟨hw, h2, rfl, ?_⟩⟩, ?_, fun b hb => ?_, fun h => by omega, fun _ => ?_⟩
        · rw [t2, cS_t9, eT]
        · rw [t2]; exact CI_t9 hT
        · rw [t2, w_up_ne (by omega), fT b hb]
        · rw [t2, w_up_at, ey]
          unfold v_Sheets_faultOfReading torn_c
          rw [← e4]
          by_cases h87 : τ 87 x1.toNat < 0
          · rw [if_pos (Or.inr h87), if_pos (h_ab_no h4 h87)]
          · rw [if_neg (fun q => by rcases q with q | q; exact q (by omega); exact h87 q), if_neg (fun q => h87 ((h_ab_no_iff h4).mp q)), (h_ab_yes h4 h87).2.1]
            by_cases hla : τ 86 x1.toNat = x2
            · rw [if_pos (show P_Sheets_isOfLane x1 x2 τ from ⟨by omega, h87, hla⟩), if_pos hla]
            · rw [if_neg (fun q : P_Sheets_isOfLane x1 x2 τ => hla q.2.2), if_neg hla]
      · intro j hj ih τ hT eT fT
        have e4 : cS τ 4 = cS σ 4 := by rw [eT, rd_sd_4]
        obtain ⟨_, g1, g2⟩ := (c_ok hT hk hl.1).mp (show rd_ok (cS τ) x1 x2 x3 j by unfold rd_ok; rw [e4]; exact h1 j hj)
        have hb1 := g1
        have hb2 := g2
        unfold P_Sheets_hasCell at hb1 hb2
        refine b151_73 ⟨fun h => by omega, fun _ => ⟨⟨by omega, by omega⟩, ⟨by omega, by omega⟩, ⟨hk.1, by omega⟩, fun y3 e3 => ⟨⟨by omega, by omega⟩, ⟨hk.1, by omega⟩, fun y4' e4' => ⟨hT, fun y5 τ6 hq => ⟨⟨by omega, by omega⟩, ?_⟩⟩⟩⟩⟩
        rw [c_cell hT hk g1, e4] at e3
        rw [c_cell hT hk g2, e4] at e4'
        obtain ⟨_, s2, s3, s4, _⟩ := hq
        rw [← w_cs1]
        refine ih τ6 s2 ?_ (fun b hb => by rw [s4 b hb, fT b hb])
        rw [s3, eT, e3, e4']
        rfl
    · intro j hj ih hg
      obtain ⟨_, g1, g2⟩ := hok j hj
      have hb1 := g1
      have hb2 := g2
      unfold P_Sheets_hasCell at hb1 hb2
      have bj : ¬ rd_gd (cS σ) x1 x3 j → Q (some (.inl (-20 - (j : Int)))) σ := fun h => hQ _ _ ⟨Or.inr ⟨hin, j, fun i hi => ⟨h1 i (by omega), hg i hi⟩, Or.inl ⟨by omega, h1 j hj, h, rfl, rfl⟩⟩, hC, fun _ _ => rfl, fun _ => rfl, fun h => by omega⟩
      refine b151_34 ⟨fun h => by omega, fun _ => ⟨⟨by omega, by omega⟩, ⟨by omega, by omega⟩, ⟨hk.1, by omega⟩, fun y1 e1 => ?_⟩⟩
      rw [c_cell hC hk g1] at e1
      refine ⟨fun c => ⟨⟨by omega, by omega⟩, bj (fun q => c (by rw [e1]; exact q.1))⟩, fun c => ⟨⟨by omega, by omega⟩, ⟨hk.1, by omega⟩, fun y2 e2 => ?_⟩⟩
      rw [c_cell hC hk g2] at e2
      refine ⟨fun c2 => ⟨⟨by omega, by omega⟩, ?_⟩, fun c2 => ⟨⟨by omega, by omega⟩, bj (fun q => c2 (by rw [e2]; exact q.2))⟩⟩
      rw [← w_cs1]
      refine ih (fun i hi => ?_)
      by_cases hij : i = j
      · rw [hij]
        refine ⟨?_, ?_⟩
        · rw [e1] at c; exact c
        · rw [e2] at c2; exact c2
      · exact hg i (by omega)
  refine b151_0 ⟨fun c => bad (fun q => c q.1), fun c => ⟨fun c2 => bad (fun q => c2 q.2.1), fun c2 => ⟨fun c3 => ⟨fun c4 => ?_, fun c4 => ⟨⟨⟨c.1, by omega⟩, hf, c3⟩, fun y1 τ hq => ?_⟩⟩, fun c3 => bad (fun q => c3 q.2.2)⟩⟩⟩
  · exact main ⟨c, c2, c3⟩ 0 c3.1 (fun i hi => by omega) (Or.inr (fun q => c4 ((c_ok hC c c2.1).mp q).1))
  · obtain ⟨q1, q2, q3, q4⟩ := hq
    rw [q1]
    obtain ⟨m, em⟩ := Int.eq_ofNat_of_zero_le q2.1
    rw [em] at q2 q3 q4 ⊢
    refine main ⟨c, c2, c3⟩ m q2.2 (fun i hi => (c_ok hC c c2.1).mpr ⟨c4, q3 i (by omega)⟩) ?_
    rcases q4 with q4 | q4
    · exact Or.inl q4
    · exact Or.inr (fun q => q4 ((c_ok hC c c2.1).mp q).2)
