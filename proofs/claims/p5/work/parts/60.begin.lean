/-! Where all are to begin -/
noncomputable def p_Plan_countReach (b : Nat) (σ : w_M) : Prop := n_ok σ b ∧ b + 9 ≤ 32
noncomputable def q_Plan_countReach (b : Nat) (σ σ' : w_M) : Prop := (∀ n, n ≤ 12 → σ' 44 n = n_rch (w_ab σ b) (n_lft (w_ab σ b) (n : Int))) ∧ w_f1 σ σ' 44
theorem fPlan_countReach_0 : w_fe am_c67 0 1 (.bipush 0) := ⟨rfl, rfl⟩
theorem fPlan_countReach_1 : w_fe am_c67 1 2 (.istore 2) := ⟨rfl, rfl⟩
theorem fPlan_countReach_2 : w_fe am_c67 2 3 (.iload 2) := ⟨rfl, rfl⟩
theorem fPlan_countReach_3 : w_fe am_c67 3 4 (.bipush 12) := ⟨rfl, rfl⟩
theorem fPlan_countReach_4 : w_ic am_c67 4 5 .gt 40 := ⟨rfl, rfl⟩
theorem fPlan_countReach_5 : w_fe am_c67 5 6 (.aload 0) := ⟨rfl, rfl⟩
theorem fPlan_countReach_6 : w_fe am_c67 6 7 (.getfield 604) := ⟨rfl, rfl⟩
theorem fPlan_countReach_7 : w_fe am_c67 7 8 (.iload 2) := ⟨rfl, rfl⟩
theorem fPlan_countReach_8 : w_fe am_c67 8 9 (.bipush 0) := ⟨rfl, rfl⟩
theorem fPlan_countReach_9 : w_fe am_c67 9 10 (.iastore) := ⟨rfl, rfl⟩
theorem fPlan_countReach_10 : w_fe am_c67 10 11 (.bipush 0) := ⟨rfl, rfl⟩
theorem fPlan_countReach_11 : w_fe am_c67 11 12 (.istore 3) := ⟨rfl, rfl⟩
theorem fPlan_countReach_12 : w_fe am_c67 12 13 (.iload 3) := ⟨rfl, rfl⟩
theorem fPlan_countReach_13 : w_fe am_c67 13 14 (.aload 1) := ⟨rfl, rfl⟩
theorem fPlan_countReach_14 : w_fe am_c67 14 15 (.getfield 205) := ⟨rfl, rfl⟩
theorem fPlan_countReach_15 : w_ic am_c67 15 16 .ge 38 := ⟨rfl, rfl⟩
theorem fPlan_countReach_16 : w_fe am_c67 16 17 (.aload 0) := ⟨rfl, rfl⟩
theorem fPlan_countReach_17 : w_fe am_c67 17 18 (.getfield 604) := ⟨rfl, rfl⟩
theorem fPlan_countReach_18 : w_fe am_c67 18 19 (.iload 2) := ⟨rfl, rfl⟩
theorem fPlan_countReach_19 : w_fe am_c67 19 20 (.dup2) := ⟨rfl, rfl⟩
theorem fPlan_countReach_20 : w_fe am_c67 20 21 (.iaload) := ⟨rfl, rfl⟩
theorem fPlan_countReach_21 : w_fe am_c67 21 22 (.aload 1) := ⟨rfl, rfl⟩
theorem fPlan_countReach_22 : w_fe am_c67 22 23 (.getfield 209) := ⟨rfl, rfl⟩
theorem fPlan_countReach_23 : w_fe am_c67 23 24 (.iload 3) := ⟨rfl, rfl⟩
theorem fPlan_countReach_24 : w_fe am_c67 24 25 (.iaload) := ⟨rfl, rfl⟩
theorem fPlan_countReach_25 : w_fe am_c67 25 26 (.aload 1) := ⟨rfl, rfl⟩
theorem fPlan_countReach_26 : w_fe am_c67 26 27 (.iload 3) := ⟨rfl, rfl⟩
theorem fPlan_countReach_27 : w_fe am_c67 27 28 (.aload 1) := ⟨rfl, rfl⟩
theorem fPlan_countReach_28 : w_fe am_c67 28 29 (.getfield 210) := ⟨rfl, rfl⟩
theorem fPlan_countReach_29 : w_fe am_c67 29 30 (.iload 3) := ⟨rfl, rfl⟩
theorem fPlan_countReach_30 : w_fe am_c67 30 31 (.iaload) := ⟨rfl, rfl⟩
theorem fPlan_countReach_31 : w_fe am_c67 31 32 (.iload 2) := ⟨rfl, rfl⟩
theorem fPlan_countReach_32 : w_fe am_c67 32 33 (.invokestatic 46) := ⟨rfl, rfl⟩
theorem fPlan_countReach_33 : w_fe am_c67 33 34 (.imul) := ⟨rfl, rfl⟩
theorem fPlan_countReach_34 : w_fe am_c67 34 35 (.iadd) := ⟨rfl, rfl⟩
theorem fPlan_countReach_35 : w_fe am_c67 35 36 (.iastore) := ⟨rfl, rfl⟩
theorem fPlan_countReach_36 : w_fe am_c67 36 37 (.iinc 3 1) := ⟨rfl, rfl⟩
theorem fPlan_countReach_37 : w_gt am_c67 37 12 := rfl
theorem fPlan_countReach_38 : w_fe am_c67 38 39 (.iinc 2 1) := ⟨rfl, rfl⟩
theorem fPlan_countReach_39 : w_gt am_c67 39 2 := rfl
theorem fPlan_countReach_40 : w_fe am_c67 40 41 (.return_) := ⟨rfl, rfl⟩
noncomputable def LPlan_countReach_2 (xs : List Int) (d : Nat) (Q : Option w_V → w_M → Prop) (r1 : Nat) (v2 : Int) (σ : w_M) : Prop := ∀ l3, w_nl l3 → w_Ex (xs, d) 0 am_c67 Q 2 [some (.inr (.inr (6, 31))), some (.inr (.inr (2, r1))), some (.inl v2), l3] [] σ
noncomputable def LPlan_countReach_12 (xs : List Int) (d : Nat) (Q : Option w_V → w_M → Prop) (r1 : Nat) (v2 : Int) (v3 : Int) (σ : w_M) : Prop := w_Ex (xs, d) 0 am_c67 Q 12 [some (.inr (.inr (6, 31))), some (.inr (.inr (2, r1))), some (.inl v2), some (.inl v3)] [] σ
set_option maxRecDepth 20000 in
theorem bPlan_countReach_0 {xs : List Int} {d : Nat} {Q : Option w_V → w_M → Prop} {b : Nat} {σ : w_M}
    (h : LPlan_countReach_2 xs (d + 2) Q b 0 σ) : w_Call (xs, (d + 2)) 67 [.inr (.inr (6, 31)), .inr (.inr (2, b))] σ Q :=
  (w_mk (mid := 67) (by decide) rfl rfl rfl rfl rfl (Nat.le_of_ble_eq_true rfl) ⟨rfl, Or.inl (by decide)⟩ (wi_bipush fPlan_countReach_0 (wi_istore2 fPlan_countReach_1 trivial (h _ (by exact trivial)))))
set_option maxRecDepth 20000 in
theorem bPlan_countReach_2 {xs : List Int} {d : Nat} {Q : Option w_V → w_M → Prop} {r1 : Nat} {v2 : Int} {σ : w_M}
    (h : (12 < v2 → Q none σ) ∧ (v2 ≤ 12 → (0 ≤ v2 ∧ v2 < 13 ∧ (∀ (τ1 : w_M), τ1 = w_up σ 44 v2.toNat 0 → LPlan_countReach_12 xs (d + 2) Q r1 v2 0 τ1)))) : LPlan_countReach_2 xs (d + 2) Q r1 v2 σ :=
  fun l3 nl3 => (wi_iload2 fPlan_countReach_2 (wi_bipush fPlan_countReach_3 (wi_ic_gt fPlan_countReach_4 (fun c2 => (wi_ret0 fPlan_countReach_40 (h.1 c2))) (fun c2 => (wi_aload0 fPlan_countReach_5 (wi_getf604 fPlan_countReach_6 (wi_iload2 fPlan_countReach_7 (wi_bipush fPlan_countReach_8 (wi_iast1013 fPlan_countReach_9 (h.2 c2).1 (h.2 c2).2.1 (wi_bipush fPlan_countReach_10 (wi_istore3 fPlan_countReach_11 trivial ((h.2 c2).2.2 _ rfl))))))))))))
set_option maxRecDepth 20000 in
theorem bPlan_countReach_12 {xs : List Int} {d : Nat} {Q : Option w_V → w_M → Prop} {r1 : Nat} {v2 : Int} {v3 : Int} {σ : w_M}
    (h : ((σ r1 5) ≤ v3 → (w_in (v2 + 1) ∧ LPlan_countReach_2 xs (d + 2) Q r1 (v2 + 1) σ)) ∧ (v3 < (σ r1 5) → (0 ≤ v2 ∧ v2 < 13 ∧ 0 ≤ v3 ∧ v3 < 4 ∧ p_Field_cutsAhead r1 v3 (σ (r1 + 4) v3.toNat) v2 σ ∧ (∀ (y1 : Int), y1 = v_Field_cutsAhead r1 v3 (σ (r1 + 4) v3.toNat) v2 σ → (w_in ((σ (r1 + 3) v3.toNat) * y1) ∧ w_in ((σ 44 v2.toNat) + ((σ (r1 + 3) v3.toNat) * y1)) ∧ (∀ (τ2 : w_M), τ2 = w_up σ 44 v2.toNat ((σ 44 v2.toNat) + ((σ (r1 + 3) v3.toNat) * y1)) → (w_in (v3 + 1) ∧ LPlan_countReach_12 xs (d + 2) Q r1 v2 (v3 + 1) τ2))))))) : LPlan_countReach_12 xs (d + 2) Q r1 v2 v3 σ :=
  (wi_iload3 fPlan_countReach_12 (wi_aload1 fPlan_countReach_13 (wi_getf205 fPlan_countReach_14 (wi_ic_ge fPlan_countReach_15 (fun c3 => (wi_iinc2 fPlan_countReach_38 trivial (h.1 c3).1 (wi_goto fPlan_countReach_39 ((h.1 c3).2 _ (by exact trivial))))) (fun c3 => (wi_aload0 fPlan_countReach_16 (wi_getf604 fPlan_countReach_17 (wi_iload2 fPlan_countReach_18 (wi_dup2 fPlan_countReach_19 (wi_iald1013 fPlan_countReach_20 (h.2 c3).1 (h.2 c3).2.1 (wi_aload1 fPlan_countReach_21 (wi_getf209 fPlan_countReach_22 (wi_iload3 fPlan_countReach_23 (wi_iald1004 fPlan_countReach_24 (h.2 c3).2.2.1 (h.2 c3).2.2.2.1 (wi_aload1 fPlan_countReach_25 (wi_iload3 fPlan_countReach_26 (wi_aload1 fPlan_countReach_27 (wi_getf210 fPlan_countReach_28 (wi_iload3 fPlan_countReach_29 (wi_iald1004 fPlan_countReach_30 (h.2 c3).2.2.1 (h.2 c3).2.2.2.1 (wi_iload2 fPlan_countReach_31 (wi_call4 fPlan_countReach_32 (Nat.le_of_ble_eq_true rfl) (k_Field_cutsAhead (h.2 c3).2.2.2.2.1 (wi_imul fPlan_countReach_33 ((h.2 c3).2.2.2.2.2 _ rfl).1 (wi_iadd fPlan_countReach_34 ((h.2 c3).2.2.2.2.2 _ rfl).2.1 (wi_iast1013 fPlan_countReach_35 (h.2 c3).1 (h.2 c3).2.1 (wi_iinc3 fPlan_countReach_36 trivial (((h.2 c3).2.2.2.2.2 _ rfl).2.2 _ rfl).1 (wi_goto fPlan_countReach_37 (((h.2 c3).2.2.2.2.2 _ rfl).2.2 _ rfl).2))))))))))))))))))))))))))))
theorem k_Plan_countReach {xs : List Int} {d : Nat} {Q : Option w_V → w_M → Prop} {b : Nat} {σ : w_M} (hp : p_Plan_countReach b σ) (hQ : ∀ σ' : w_M, q_Plan_countReach b σ σ' → Q none σ') : w_Call (xs, d + 2) 67 [.inr (.inr (6, 31)), .inr (.inr (2, b))] σ Q := by
  obtain ⟨hok, hb⟩ := hp
  have hn := n_ok.n hok
  have hW : n_WF (w_ab σ b) := hok
  have fab : ∀ τ : w_M, w_f1 σ τ 44 → w_ab τ b = w_ab σ b ∧ τ b = σ b := fun τ F => ⟨w_ab_fr (fun d hd => F _ (by omega)), F b (by omega)⟩
  have en : n_n (w_ab σ b) = (σ b 5).toNat := rfl
  refine bPlan_countReach_0 ?_
  refine (w_loop (n := 13) (P := fun n => ∀ τ : w_M, w_f1 σ τ 44 → (∀ m, m < n → τ 44 m = n_rch (w_ab σ b) (n_lft (w_ab σ b) (m : Int))) → LPlan_countReach_2 xs (d + 2) Q b (n : Int) τ) ?_ ?_) σ w_f1.rfl' (fun m hm => by omega)
  · intro τ F h
    exact bPlan_countReach_2 ⟨fun _ => hQ _ ⟨fun n hn => h n (by omega), F⟩, fun h => by omega⟩
  · intro n hn13 ih τ F h
    refine bPlan_countReach_2 ⟨fun h => by omega, fun _ => ⟨by omega, by omega, fun τ1 t1 => ?_⟩⟩
    rw [Int.toNat_natCast] at t1
    have hl := n_left_lft hW (n := (n : Int)) (by omega)
    have hl12 : n_lft (w_ab σ b) (n : Int) ≤ 12 := by omega
    refine (w_loop (n := (σ b 5).toNat) (P := fun r => ∀ τ : w_M, w_f1 σ τ 44 → (∀ m, m < n → τ 44 m = n_rch (w_ab σ b) (n_lft (w_ab σ b) (m : Int))) → τ 44 n = f_sum (fun r => w_ab σ b 3 r * (n_cutF (w_ab σ b) r (w_ab σ b 4 r) (n_lft (w_ab σ b) (n : Int))).2.2) r → LPlan_countReach_12 xs (d + 2) Q b (n : Int) (r : Int) τ) ?_ ?_) τ1 (by rw [t1]; exact F.up) (fun m hm => by rw [t1, w_up_j (by omega)]; exact h m hm) (by rw [t1, w_up_at]; rfl)
    · intro τ F h hv
      obtain ⟨f1, f2⟩ := fab τ F
      refine bPlan_countReach_12 ⟨fun _ => ⟨⟨by omega, by omega⟩, ?_⟩, fun h => by rw [f2] at h; omega⟩
      rw [← w_cs1]
      refine ih τ F (fun m hm => ?_)
      by_cases e : m = n
      · rw [e]; exact hv
      · exact h m (by omega)
    · intro r hr ih2 τ F h hv
      obtain ⟨f1, f2⟩ := fab τ F
      have hr4 : r < n_n (w_ab σ b) := hr
      have wr := hW.r hr4
      have e4 : τ (b + 4) r = w_ab σ b 4 r := by rw [← f1]; exact w_rd (by decide) (by rw [w_rl37 (by decide) (by decide), f2]; exact hr)
      have e3 : τ (b + 3) r = w_ab σ b 3 r := by rw [← f1]; exact w_rd (by decide) (by rw [w_rl37 (by decide) (by decide), f2]; exact hr)
      have cb := (n_cutF_le hW hr4 wr.2.1 (n_lft (w_ab σ b) (n : Int))).2.2
      have pr : 0 ≤ w_ab σ b 3 r * (n_cutF (w_ab σ b) r (w_ab σ b 4 r) (n_lft (w_ab σ b) (n : Int))).2.2 ∧ w_ab σ b 3 r * (n_cutF (w_ab σ b) r (w_ab σ b 4 r) (n_lft (w_ab σ b) (n : Int))).2.2 ≤ 9 * 12 := ⟨Int.mul_nonneg (by omega) cb.1, Int.mul_le_mul wr.1.2 (by omega) cb.1 (by decide)⟩
      have fs := f_sum_le (f := fun r => w_ab σ b 3 r * (n_cutF (w_ab σ b) r (w_ab σ b 4 r) (n_lft (w_ab σ b) (n : Int))).2.2) (B := 108) (m := n_n (w_ab σ b)) (fun r hr => by
        have a := (hW.r hr).1
        have b' := (n_cutF_le hW hr (hW.r hr).2.1 (n_lft (w_ab σ b) (n : Int))).2.2
        exact ⟨Int.mul_nonneg (by omega) b'.1, by have := Int.mul_le_mul a.2 (show (n_cutF (w_ab σ b) r (w_ab σ b 4 r) (n_lft (w_ab σ b) (n : Int))).2.2 ≤ 12 by omega) b'.1 (by decide); omega⟩) (Nat.le_of_lt hr4)
      refine bPlan_countReach_12 ⟨fun h => by rw [f2] at h; omega, fun _ => ⟨by omega, by omega, by omega, by omega, ?_⟩⟩
      rw [Int.toNat_natCast, Int.toNat_natCast, e4, e3, hv]
      refine ⟨⟨n_ok.of f1 hW, by rw [f2]; omega, wr.2.1, by omega, by omega⟩, fun y1 e1 => ?_⟩
      unfold v_Field_cutsAhead at e1
      rw [f1, Int.toNat_natCast] at e1
      rw [e1]
      refine ⟨⟨by omega, by omega⟩, ⟨by omega, by omega⟩, fun τ2 t2 => ⟨⟨by omega, by omega⟩, ?_⟩⟩
      rw [← w_cs1]
      refine ih2 τ2 (by rw [t2]; exact F.up) (fun m hm => by rw [t2, w_up_j (by omega)]; exact h m hm) (by rw [t2, w_up_at]; rfl)
noncomputable def p_Plan_isInReach (_ _ : Int) (_ : w_M) : Prop := True
noncomputable def P_Plan_isInReach (s n : Int) (σ : w_M) : Prop := (0 ≤ n ∧ n ≤ 12) ∧ s ≤ σ 44 n.toNat
theorem fPlan_isInReach_0 : w_fe am_c69 0 1 (.iload 2) := ⟨rfl, rfl⟩
theorem fPlan_isInReach_1 : w_if am_c69 1 2 .lt 13 := ⟨rfl, rfl⟩
theorem fPlan_isInReach_2 : w_fe am_c69 2 3 (.iload 2) := ⟨rfl, rfl⟩
theorem fPlan_isInReach_3 : w_fe am_c69 3 4 (.bipush 12) := ⟨rfl, rfl⟩
theorem fPlan_isInReach_4 : w_ic am_c69 4 5 .gt 13 := ⟨rfl, rfl⟩
theorem fPlan_isInReach_5 : w_fe am_c69 5 6 (.aload 0) := ⟨rfl, rfl⟩
theorem fPlan_isInReach_6 : w_fe am_c69 6 7 (.getfield 604) := ⟨rfl, rfl⟩
theorem fPlan_isInReach_7 : w_fe am_c69 7 8 (.iload 2) := ⟨rfl, rfl⟩
theorem fPlan_isInReach_8 : w_fe am_c69 8 9 (.iaload) := ⟨rfl, rfl⟩
theorem fPlan_isInReach_9 : w_fe am_c69 9 10 (.iload 1) := ⟨rfl, rfl⟩
theorem fPlan_isInReach_10 : w_ic am_c69 10 11 .lt 13 := ⟨rfl, rfl⟩
theorem fPlan_isInReach_11 : w_fe am_c69 11 12 (.bipush 1) := ⟨rfl, rfl⟩
theorem fPlan_isInReach_12 : w_gt am_c69 12 14 := rfl
theorem fPlan_isInReach_13 : w_fe am_c69 13 14 (.bipush 0) := ⟨rfl, rfl⟩
theorem fPlan_isInReach_14 : w_fe am_c69 14 15 (.ireturn) := ⟨rfl, rfl⟩
set_option maxRecDepth 20000 in
theorem bPlan_isInReach_0 {xs : List Int} {d : Nat} {Q : Option w_V → w_M → Prop} {x1 : Int} {x2 : Int} {σ : w_M}
    (h : (x2 < 0 → Q (some (.inl 0)) σ) ∧ (0 ≤ x2 → ((12 < x2 → Q (some (.inl 0)) σ) ∧ (x2 ≤ 12 → (x2 < 13 ∧ (((σ 44 x2.toNat) < x1 → Q (some (.inl 0)) σ) ∧ (x1 ≤ (σ 44 x2.toNat) → Q (some (.inl 1)) σ))))))) : w_Call (xs, d) 69 [.inr (.inr (6, 31)), .inl x1, .inl x2] σ Q :=
  (w_mk (mid := 69) (by decide) rfl rfl rfl rfl rfl (Nat.le_of_ble_eq_true rfl) ⟨rfl, Or.inl (by decide)⟩ (wi_iload2 fPlan_isInReach_0 (wi_if_lt fPlan_isInReach_1 (fun c3 => (wi_bipush fPlan_isInReach_13 (wi_ret2 fPlan_isInReach_14 (by decide) (h.1 c3)))) (fun c3 => (wi_iload2 fPlan_isInReach_2 (wi_bipush fPlan_isInReach_3 (wi_ic_gt fPlan_isInReach_4 (fun c2 => (wi_bipush fPlan_isInReach_13 (wi_ret2 fPlan_isInReach_14 (by decide) ((h.2 c3).1 c2)))) (fun c2 => (wi_aload0 fPlan_isInReach_5 (wi_getf604 fPlan_isInReach_6 (wi_iload2 fPlan_isInReach_7 (wi_iald1013 fPlan_isInReach_8 c3 ((h.2 c3).2 c2).1 (wi_iload1 fPlan_isInReach_9 (wi_ic_lt fPlan_isInReach_10 (fun c1 => (wi_bipush fPlan_isInReach_13 (wi_ret2 fPlan_isInReach_14 (by decide) (((h.2 c3).2 c2).2.1 c1)))) (fun c1 => (wi_bipush fPlan_isInReach_11 (wi_goto fPlan_isInReach_12 (wi_ret2 fPlan_isInReach_14 (by decide) (((h.2 c3).2 c2).2.2 c1)))))))))))))))))))
theorem k_Plan_isInReach {xs : List Int} {d : Nat} {Q : Option w_V → w_M → Prop} {x1 : Int} {x2 : Int} {σ : w_M} (hp : p_Plan_isInReach x1 x2 σ) (hQ : Q (some (.inl (w_bi (P_Plan_isInReach x1 x2 σ)))) σ) : w_Call (xs, d) 69 [.inr (.inr (6, 31)), .inl x1, .inl x2] σ Q := by
  have no : ¬ P_Plan_isInReach x1 x2 σ → Q (some (.inl 0)) σ := fun h => by rw [w_bi_f h] at hQ; exact hQ
  refine bPlan_isInReach_0 ⟨fun c => no (fun q => by have := q.1; omega), fun c => ⟨fun c2 => no (fun q => by have := q.1; omega), fun c2 => ⟨by omega, fun c3 => no (fun q => by have := q.2; omega), fun c3 => ?_⟩⟩⟩
  rw [w_bi_t (show P_Plan_isInReach x1 x2 σ from ⟨⟨c, c2⟩, c3⟩)] at hQ
  exact hQ
noncomputable def p_Plan_soonest (b : Nat) (σ : w_M) : Prop := (n_ok σ b ∧ b + 9 ≤ 32) ∧ 1 ≤ σ b 4 ∧ 1 ≤ σ b 5
noncomputable def q_Plan_soonest (b : Nat) (σ : w_M) (x : Int) (σ' : w_M) : Prop := x = (if (sn_F (sn_f (w_ab σ b)) (ft_r (w_ab σ b))).2 = -4 then -4 else (sn_F (sn_f (w_ab σ b)) (ft_r (w_ab σ b))).1) ∧ (¬ (sn_F (sn_f (w_ab σ b)) (ft_r (w_ab σ b))).2 = -4 → ∀ r, r < n_n (w_ab σ b) → σ' 43 r = ((dg (n_s (w_ab σ b)) (n_n (w_ab σ b)) (sn_F (sn_f (w_ab σ b)) (ft_r (w_ab σ b))).2.toNat r : Nat) : Int)) ∧ w_fr σ σ' 31 80
theorem fPlan_soonest_0 : w_fe am_c66 0 1 (.aload 0) := ⟨rfl, rfl⟩
theorem fPlan_soonest_1 : w_fe am_c66 1 2 (.aload 1) := ⟨rfl, rfl⟩
theorem fPlan_soonest_2 : w_fe am_c66 2 3 (.invokestatic 67) := ⟨rfl, rfl⟩
theorem fPlan_soonest_3 : w_fe am_c66 3 4 (.aload 0) := ⟨rfl, rfl⟩
theorem fPlan_soonest_4 : w_fe am_c66 4 5 (.aload 1) := ⟨rfl, rfl⟩
theorem fPlan_soonest_5 : w_fe am_c66 5 6 (.getfield 204) := ⟨rfl, rfl⟩
theorem fPlan_soonest_6 : w_fe am_c66 6 7 (.bipush 1) := ⟨rfl, rfl⟩
theorem fPlan_soonest_7 : w_fe am_c66 7 8 (.isub) := ⟨rfl, rfl⟩
theorem fPlan_soonest_8 : w_fe am_c66 8 9 (.invokestatic 68) := ⟨rfl, rfl⟩
theorem fPlan_soonest_9 : w_fe am_c66 9 10 (.aload 1) := ⟨rfl, rfl⟩
theorem fPlan_soonest_10 : w_fe am_c66 10 11 (.invokestatic 35) := ⟨rfl, rfl⟩
theorem fPlan_soonest_11 : w_fe am_c66 11 12 (.istore 2) := ⟨rfl, rfl⟩
theorem fPlan_soonest_12 : w_fe am_c66 12 13 (.bipush (-4)) := ⟨rfl, rfl⟩
theorem fPlan_soonest_13 : w_fe am_c66 13 14 (.istore 3) := ⟨rfl, rfl⟩
theorem fPlan_soonest_14 : w_fe am_c66 14 15 (.aload 1) := ⟨rfl, rfl⟩
theorem fPlan_soonest_15 : w_fe am_c66 15 16 (.invokestatic 39) := ⟨rfl, rfl⟩
theorem fPlan_soonest_16 : w_fe am_c66 16 17 (.istore 4) := ⟨rfl, rfl⟩
theorem fPlan_soonest_17 : w_fe am_c66 17 18 (.bipush 0) := ⟨rfl, rfl⟩
theorem fPlan_soonest_18 : w_fe am_c66 18 19 (.istore 5) := ⟨rfl, rfl⟩
theorem fPlan_soonest_19 : w_fe am_c66 19 20 (.iload 5) := ⟨rfl, rfl⟩
theorem fPlan_soonest_20 : w_fe am_c66 20 21 (.bipush 2401) := ⟨rfl, rfl⟩
theorem fPlan_soonest_21 : w_ic am_c66 21 22 .ge 60 := ⟨rfl, rfl⟩
theorem fPlan_soonest_22 : w_fe am_c66 22 23 (.aload 0) := ⟨rfl, rfl⟩
theorem fPlan_soonest_23 : w_fe am_c66 23 24 (.iload 2) := ⟨rfl, rfl⟩
theorem fPlan_soonest_24 : w_fe am_c66 24 25 (.iload 4) := ⟨rfl, rfl⟩
theorem fPlan_soonest_25 : w_fe am_c66 25 26 (.invokestatic 69) := ⟨rfl, rfl⟩
theorem fPlan_soonest_26 : w_if am_c66 26 27 .eq 60 := ⟨rfl, rfl⟩
theorem fPlan_soonest_27 : w_fe am_c66 27 28 (.aload 0) := ⟨rfl, rfl⟩
theorem fPlan_soonest_28 : w_fe am_c66 28 29 (.aload 1) := ⟨rfl, rfl⟩
theorem fPlan_soonest_29 : w_fe am_c66 29 30 (.invokestatic 70) := ⟨rfl, rfl⟩
theorem fPlan_soonest_30 : w_fe am_c66 30 31 (.aload 0) := ⟨rfl, rfl⟩
theorem fPlan_soonest_31 : w_fe am_c66 31 32 (.getfield 600) := ⟨rfl, rfl⟩
theorem fPlan_soonest_32 : w_fe am_c66 32 33 (.iload 4) := ⟨rfl, rfl⟩
theorem fPlan_soonest_33 : w_fe am_c66 33 34 (.aload 0) := ⟨rfl, rfl⟩
theorem fPlan_soonest_34 : w_fe am_c66 34 35 (.getfield 604) := ⟨rfl, rfl⟩
theorem fPlan_soonest_35 : w_fe am_c66 35 36 (.iload 4) := ⟨rfl, rfl⟩
theorem fPlan_soonest_36 : w_fe am_c66 36 37 (.iaload) := ⟨rfl, rfl⟩
theorem fPlan_soonest_37 : w_fe am_c66 37 38 (.iload 2) := ⟨rfl, rfl⟩
theorem fPlan_soonest_38 : w_fe am_c66 38 39 (.isub) := ⟨rfl, rfl⟩
theorem fPlan_soonest_39 : w_fe am_c66 39 40 (.invokestatic 45) := ⟨rfl, rfl⟩
theorem fPlan_soonest_40 : w_fe am_c66 40 41 (.istore 6) := ⟨rfl, rfl⟩
theorem fPlan_soonest_41 : w_fe am_c66 41 42 (.iload 6) := ⟨rfl, rfl⟩
theorem fPlan_soonest_42 : w_fe am_c66 42 43 (.bipush (-4)) := ⟨rfl, rfl⟩
theorem fPlan_soonest_43 : w_ic am_c66 43 44 .eq 52 := ⟨rfl, rfl⟩
theorem fPlan_soonest_44 : w_fe am_c66 44 45 (.iload 6) := ⟨rfl, rfl⟩
theorem fPlan_soonest_45 : w_fe am_c66 45 46 (.istore 3) := ⟨rfl, rfl⟩
theorem fPlan_soonest_46 : w_fe am_c66 46 47 (.aload 0) := ⟨rfl, rfl⟩
theorem fPlan_soonest_47 : w_fe am_c66 47 48 (.invokestatic 71) := ⟨rfl, rfl⟩
theorem fPlan_soonest_48 : w_fe am_c66 48 49 (.iload 6) := ⟨rfl, rfl⟩
theorem fPlan_soonest_49 : w_fe am_c66 49 50 (.bipush 1) := ⟨rfl, rfl⟩
theorem fPlan_soonest_50 : w_fe am_c66 50 51 (.isub) := ⟨rfl, rfl⟩
theorem fPlan_soonest_51 : w_fe am_c66 51 52 (.istore 4) := ⟨rfl, rfl⟩
theorem fPlan_soonest_52 : w_fe am_c66 52 53 (.aload 0) := ⟨rfl, rfl⟩
theorem fPlan_soonest_53 : w_fe am_c66 53 54 (.aload 1) := ⟨rfl, rfl⟩
theorem fPlan_soonest_54 : w_fe am_c66 54 55 (.getfield 205) := ⟨rfl, rfl⟩
theorem fPlan_soonest_55 : w_fe am_c66 55 56 (.invokestatic 72) := ⟨rfl, rfl⟩
theorem fPlan_soonest_56 : w_if am_c66 56 57 .ne 58 := ⟨rfl, rfl⟩
theorem fPlan_soonest_57 : w_gt am_c66 57 60 := rfl
theorem fPlan_soonest_58 : w_fe am_c66 58 59 (.iinc 5 1) := ⟨rfl, rfl⟩
theorem fPlan_soonest_59 : w_gt am_c66 59 19 := rfl
theorem fPlan_soonest_60 : w_fe am_c66 60 61 (.iload 3) := ⟨rfl, rfl⟩
theorem fPlan_soonest_61 : w_fe am_c66 61 62 (.ireturn) := ⟨rfl, rfl⟩
noncomputable def LPlan_soonest_19 (xs : List Int) (d : Nat) (Q : Option w_V → w_M → Prop) (r1 : Nat) (v2 : Int) (v3 : Int) (v4 : Int) (v5 : Int) (σ : w_M) : Prop := ∀ l6, w_nl l6 → w_Ex (xs, d) 1 am_c66 Q 19 [some (.inr (.inr (6, 31))), some (.inr (.inr (2, r1))), some (.inl v2), some (.inl v3), some (.inl v4), some (.inl v5), l6] [] σ
set_option maxRecDepth 20000 in
theorem bPlan_soonest_0 {xs : List Int} {d : Nat} {Q : Option w_V → w_M → Prop} {b : Nat} {σ : w_M}
    (h : p_Plan_countReach b σ ∧ (∀ (τ1 : w_M), q_Plan_countReach b σ τ1 → (w_in ((τ1 b 4) - 1) ∧ p_Plan_startPicks ((τ1 b 4) - 1) τ1 ∧ (∀ (τ2 : w_M), q_Plan_startPicks ((τ1 b 4) - 1) τ1 τ2 → (p_Field_standing b τ2 ∧ (∀ (y3 : Int), y3 = v_Field_standing b τ2 → (p_Field_hoursLeft b τ2 ∧ (∀ (y4 : Int), y4 = (τ2 b 0 - τ2 b 1) → LPlan_soonest_19 xs (d + 5) Q b y3 (-4) y4 0 τ2)))))))) : w_Call (xs, (d + 5)) 66 [.inr (.inr (6, 31)), .inr (.inr (2, b))] σ Q :=
  (w_mk (mid := 66) (by decide) rfl rfl rfl rfl rfl (Nat.le_of_ble_eq_true rfl) ⟨rfl, Or.inl (by decide)⟩ (wi_aload0 fPlan_soonest_0 (wi_aload1 fPlan_soonest_1 (wi_call2 fPlan_soonest_2 (Nat.le_of_ble_eq_true rfl) (k_Plan_countReach h.1 (fun τ1 eτ1 => (wi_aload0 fPlan_soonest_3 (wi_aload1 fPlan_soonest_4 (wi_getf204 fPlan_soonest_5 (wi_bipush fPlan_soonest_6 (wi_isub fPlan_soonest_7 (h.2 τ1 eτ1).1 (wi_call2 fPlan_soonest_8 (Nat.le_of_ble_eq_true rfl) (k_Plan_startPicks (h.2 τ1 eτ1).2.1 (fun τ2 eτ2 => (wi_aload1 fPlan_soonest_9 (wi_call1 fPlan_soonest_10 (Nat.le_of_ble_eq_true rfl) (k_Field_standing ((h.2 τ1 eτ1).2.2 τ2 eτ2).1 (wi_istore2 fPlan_soonest_11 trivial (wi_bipush fPlan_soonest_12 (wi_istore3 fPlan_soonest_13 trivial (wi_aload1 fPlan_soonest_14 (wi_call1 fPlan_soonest_15 (Nat.le_of_ble_eq_true rfl) (k_Field_hoursLeft (((h.2 τ1 eτ1).2.2 τ2 eτ2).2 _ rfl).1 (wi_istore4 fPlan_soonest_16 trivial (wi_bipush fPlan_soonest_17 (wi_istore5 fPlan_soonest_18 trivial (((((h.2 τ1 eτ1).2.2 τ2 eτ2).2 _ rfl).2 _ rfl) _ (by exact trivial))))))))))))))))))))))))))))
set_option maxRecDepth 20000 in
theorem bPlan_soonest_19 {xs : List Int} {d : Nat} {Q : Option w_V → w_M → Prop} {r1 : Nat} {v2 : Int} {v3 : Int} {v4 : Int} {v5 : Int} {σ : w_M}
    (h : (2401 ≤ v5 → Q (some (.inl v3)) σ) ∧ (v5 < 2401 → (p_Plan_isInReach v2 v4 σ ∧ ((¬ (P_Plan_isInReach v2 v4 σ) → Q (some (.inl v3)) σ) ∧ ((P_Plan_isInReach v2 v4 σ) → (p_Plan_beginAsPicked r1 σ ∧ (∀ (τ1 : w_M), q_Plan_beginAsPicked r1 σ τ1 → (0 ≤ v4 ∧ v4 < 13 ∧ w_in ((τ1 44 v4.toNat) - v2) ∧ p_Field_passUntilDone 32 v4 ((τ1 44 v4.toNat) - v2) τ1 ∧ (∀ (y2 : Int) (τ3 : w_M), q_Field_passUntilDone 32 v4 ((τ1 44 v4.toNat) - v2) τ1 y2 τ3 → ((y2 = (-4) → (p_Plan_turnPicks (τ3 r1 5) τ3 ∧ (∀ (y4 : Int) (τ5 : w_M), q_Plan_turnPicks (τ3 r1 5) τ3 y4 τ5 → ((¬ y4 = 0 → (w_in (v5 + 1) ∧ LPlan_soonest_19 xs (d + 5) Q r1 v2 v3 v4 (v5 + 1) τ5)) ∧ (y4 = 0 → Q (some (.inl v3)) τ5))))) ∧ (¬ y2 = (-4) → (p_Plan_choosePicks τ3 ∧ (∀ (τ7 : w_M), q_Plan_choosePicks τ3 τ7 → (w_in (y2 - 1) ∧ (∀ (y8 : Int), y8 = (y2 - 1) → (p_Plan_turnPicks (τ7 r1 5) τ7 ∧ (∀ (y9 : Int) (τ10 : w_M), q_Plan_turnPicks (τ7 r1 5) τ7 y9 τ10 → ((¬ y9 = 0 → (w_in (v5 + 1) ∧ LPlan_soonest_19 xs (d + 5) Q r1 v2 y2 y8 (v5 + 1) τ10)) ∧ (y9 = 0 → Q (some (.inl y2)) τ10))))))))))))))))))) : LPlan_soonest_19 xs (d + 5) Q r1 v2 v3 v4 v5 σ :=
  fun l6 nl6 => (wi_iload5 fPlan_soonest_19 (wi_bipush fPlan_soonest_20 (wi_ic_ge fPlan_soonest_21 (fun c14 => (wi_iload3 fPlan_soonest_60 (wi_ret1 fPlan_soonest_61 (h.1 c14)))) (fun c14 => (wi_aload0 fPlan_soonest_22 (wi_iload2 fPlan_soonest_23 (wi_iload4 fPlan_soonest_24 (wi_call3 fPlan_soonest_25 (Nat.le_of_ble_eq_true rfl) (k_Plan_isInReach (h.2 c14).1 (wi_ifb_eq fPlan_soonest_26 (fun c13 => (wi_iload3 fPlan_soonest_60 (wi_ret1 fPlan_soonest_61 ((h.2 c14).2.1 c13)))) (fun c13 => (wi_aload0 fPlan_soonest_27 (wi_aload1 fPlan_soonest_28 (wi_call2 fPlan_soonest_29 (Nat.le_of_ble_eq_true rfl) (k_Plan_beginAsPicked ((h.2 c14).2.2 c13).1 (fun τ1 eτ1 => (wi_aload0 fPlan_soonest_30 (wi_getf600 fPlan_soonest_31 (wi_iload4 fPlan_soonest_32 (wi_aload0 fPlan_soonest_33 (wi_getf604 fPlan_soonest_34 (wi_iload4 fPlan_soonest_35 (wi_iald1013 fPlan_soonest_36 (((h.2 c14).2.2 c13).2 τ1 eτ1).1 (((h.2 c14).2.2 c13).2 τ1 eτ1).2.1 (wi_iload2 fPlan_soonest_37 (wi_isub fPlan_soonest_38 (((h.2 c14).2.2 c13).2 τ1 eτ1).2.2.1 (wi_call3 fPlan_soonest_39 (Nat.le_of_ble_eq_true rfl) (k_Field_passUntilDone (((h.2 c14).2.2 c13).2 τ1 eτ1).2.2.2.1 (fun y2 τ3 eτ3 => (wi_istore6 fPlan_soonest_40 trivial (wi_iload6 fPlan_soonest_41 (wi_bipush fPlan_soonest_42 (wi_ic_eq fPlan_soonest_43 (fun c12 => (wi_aload0 fPlan_soonest_52 (wi_aload1 fPlan_soonest_53 (wi_getf205 fPlan_soonest_54 (wi_call2 fPlan_soonest_55 (Nat.le_of_ble_eq_true rfl) (k_Plan_turnPicks (((((h.2 c14).2.2 c13).2 τ1 eτ1).2.2.2.2 y2 τ3 eτ3).1 c12).1 (fun y4 τ5 eτ5 => (wi_if_ne fPlan_soonest_56 (fun c6 => (wi_iinc5 fPlan_soonest_58 trivial (((((((h.2 c14).2.2 c13).2 τ1 eτ1).2.2.2.2 y2 τ3 eτ3).1 c12).2 y4 τ5 eτ5).1 c6).1 (wi_goto fPlan_soonest_59 ((((((((h.2 c14).2.2 c13).2 τ1 eτ1).2.2.2.2 y2 τ3 eτ3).1 c12).2 y4 τ5 eτ5).1 c6).2 _ (by exact trivial))))) (fun c6 => (wi_goto fPlan_soonest_57 (wi_iload3 fPlan_soonest_60 (wi_ret1 fPlan_soonest_61 (((((((h.2 c14).2.2 c13).2 τ1 eτ1).2.2.2.2 y2 τ3 eτ3).1 c12).2 y4 τ5 eτ5).2 c6))))))))))))) (fun c12 => (wi_iload6 fPlan_soonest_44 (wi_istore3 fPlan_soonest_45 trivial (wi_aload0 fPlan_soonest_46 (wi_call1 fPlan_soonest_47 (Nat.le_of_ble_eq_true rfl) (k_Plan_choosePicks (((((h.2 c14).2.2 c13).2 τ1 eτ1).2.2.2.2 y2 τ3 eτ3).2 c12).1 (fun τ7 eτ7 => (wi_iload6 fPlan_soonest_48 (wi_bipush fPlan_soonest_49 (wi_isub fPlan_soonest_50 ((((((h.2 c14).2.2 c13).2 τ1 eτ1).2.2.2.2 y2 τ3 eτ3).2 c12).2 τ7 eτ7).1 (wi_istore4 fPlan_soonest_51 trivial (wi_aload0 fPlan_soonest_52 (wi_aload1 fPlan_soonest_53 (wi_getf205 fPlan_soonest_54 (wi_call2 fPlan_soonest_55 (Nat.le_of_ble_eq_true rfl) (k_Plan_turnPicks (((((((h.2 c14).2.2 c13).2 τ1 eτ1).2.2.2.2 y2 τ3 eτ3).2 c12).2 τ7 eτ7).2 _ rfl).1 (fun y9 τ10 eτ10 => (wi_if_ne fPlan_soonest_56 (fun c11 => (wi_iinc5 fPlan_soonest_58 trivial (((((((((h.2 c14).2.2 c13).2 τ1 eτ1).2.2.2.2 y2 τ3 eτ3).2 c12).2 τ7 eτ7).2 _ rfl).2 y9 τ10 eτ10).1 c11).1 (wi_goto fPlan_soonest_59 ((((((((((h.2 c14).2.2 c13).2 τ1 eτ1).2.2.2.2 y2 τ3 eτ3).2 c12).2 τ7 eτ7).2 _ rfl).2 y9 τ10 eτ10).1 c11).2 _ (by exact trivial))))) (fun c11 => (wi_goto fPlan_soonest_57 (wi_iload3 fPlan_soonest_60 (wi_ret1 fPlan_soonest_61 (((((((((h.2 c14).2.2 c13).2 τ1 eτ1).2.2.2.2 y2 τ3 eτ3).2 c12).2 τ7 eτ7).2 _ rfl).2 y9 τ10 eτ10).2 c11)))))))))))))))))))))))))))))))))))))))))))))))))))))))
set_option maxHeartbeats 2000000 in
theorem k_Plan_soonest {xs : List Int} {d : Nat} {Q : Option w_V → w_M → Prop} {b : Nat} {σ : w_M} (hp : p_Plan_soonest b σ) (hQ : ∀ (x : Int) (σ' : w_M), q_Plan_soonest b σ x σ' → Q (some (.inl x)) σ') : w_Call (xs, d + 5) 66 [.inr (.inr (6, 31)), .inr (.inr (2, b))] σ Q := by
  obtain ⟨⟨hok, hb⟩, h4, h5⟩ := hp
  have hs := n_ok.s hok
  have hn := n_ok.n hok
  have hrs := n_ok.hrs hok
  have hr := n_ok.hr hok
  have hW : n_WF (w_ab σ b) := hok
  have en : n_n (w_ab σ b) = (σ b 5).toNat := rfl
  have es : n_s (w_ab σ b) = (σ b 4).toNat := rfl
  have e0 : w_ab σ b 0 0 = σ b 0 := rfl
  have e1 : w_ab σ b 0 1 = σ b 1 := rfl
  have hs1 := n_s_pos hW
  unfold q_Plan_soonest ft_r at hQ
  have fab : ∀ τ : w_M, w_fr σ τ 32 63 → w_ab τ b = w_ab σ b ∧ τ b = σ b := fun τ F => ⟨w_ab_fr (fun d hd => F _ (by omega)), F b (by omega)⟩
  generalize hA : w_ab σ b = A at *
  have hB7 : n_s A ≤ 7 := by omega
  have hn4 : n_n A ≤ 4 := by omega
  have p7 := pow7 hB7 hn4
  have hpos : 0 < n_s A ^ n_n A := Nat.pow_pos (by omega)
  have hsd := n_sd_le hW
  have hfl : ∀ k, sn_f A k = -4 ∨ (0 ≤ sn_f A k ∧ sn_f A k ≤ A 0 0 - A 0 1) := sn_f_le hW
  have hfl12 : ∀ k, sn_f A k = -4 ∨ (0 ≤ sn_f A k ∧ sn_f A k ≤ 12) := fun k => by have := hfl k; omega
  refine bPlan_soonest_0 ⟨⟨hok, hb⟩, fun τ1 hq1 => ?_⟩
  obtain ⟨r1, F1⟩ := hq1
  rw [hA] at r1
  have zb1 : τ1 b = σ b := F1 b (by omega)
  rw [zb1]
  refine ⟨⟨by omega, by omega⟩, trivial, fun τ2 hq2 => ?_⟩
  obtain ⟨s1, s2⟩ := hq2
  have F2 : w_fr σ τ2 32 63 := fun c hc => by rw [s2 c (by omega) (by omega), F1 c (by omega)]
  obtain ⟨f1, f2⟩ := fab τ2 F2
  refine ⟨n_ok.of f1 hW, fun y3 e3 => ⟨by unfold p_Field_hoursLeft; rw [f2]; exact ⟨by omega, by omega⟩, fun y4 e4 => ?_⟩⟩
  unfold v_Field_standing at e3
  rw [f1] at e3
  rw [f2] at e4
  have r2 : ∀ n, n ≤ 12 → τ2 44 n = n_rch A (n_lft A (n : Int)) := fun n hn => by rw [s2 44 (by decide) (by decide)]; exact r1 n hn
  refine (w_loop (n := n_s A ^ n_n A) (P := fun k => k < n_s A ^ n_n A → ∀ (τ : w_M) (v3 v4 : Int), w_fr σ τ 32 63 → pk_at τ (n_s A) (n_n A) k → (∀ n, n ≤ 12 → τ 44 n = n_rch A (n_lft A (n : Int))) → (((sn_F (sn_f A) k).2 = -4 ∧ v3 = -4 ∧ v4 = A 0 0 - A 0 1) ∨ (¬ (sn_F (sn_f A) k).2 = -4 ∧ v3 = (sn_F (sn_f A) k).1 ∧ v4 = (sn_F (sn_f A) k).1 - 1 ∧ ∀ r, r < n_n A → τ 43 r = ((dg (n_s A) (n_n A) (sn_F (sn_f A) k).2.toNat r : Nat) : Int))) → LPlan_soonest_19 xs (d + 5) Q b y3 v3 v4 (k : Int) τ) ?_ ?_) hpos τ2 (-4) y4 F2 ?_ r2 (Or.inl ⟨rfl, rfl, by omega⟩)
  · intro h; omega
  · intro k hk ih _ τ v3 v4 F hpk hrc hinv
    obtain ⟨g1, g2⟩ := fab τ F
    have hsn := sn_F_le hfl12 k
    -- the condition of the class is the reference's
    have cond : (sn_f A k ≠ -4 ∧ sn_f A k ≤ v4) ↔ (sn_f A k ≠ -4 ∧ sn_f A k < (sn_F (sn_f A) k).1) := by
      have := hfl k
      rcases hinv with ⟨h1, h2, h3⟩ | ⟨h1, h2, h3, h4⟩
      · omega
      · omega
    have v4le : v4 ≤ 12 := by
      rcases hinv with ⟨h1, h2, h3⟩ | ⟨h1, h2, h3, h4⟩ <;> omega
    -- the end, at row m, with what was found
    have fin : ∀ (τ' : w_M) (v : Int) (m : Nat), w_fr σ τ' 32 63 → sn_F (sn_f A) (n_s A ^ n_n A) = sn_F (sn_f A) m → (((sn_F (sn_f A) m).2 = -4 ∧ v = -4) ∨ (¬ (sn_F (sn_f A) m).2 = -4 ∧ v = (sn_F (sn_f A) m).1 ∧ ∀ r, r < n_n A → τ' 43 r = ((dg (n_s A) (n_n A) (sn_F (sn_f A) m).2.toNat r : Nat) : Int))) → Q (some (.inl v)) τ' := fun τ' v m F' em hv => by
      rw [em] at hQ
      refine hQ _ _ ⟨?_, fun hne => ?_, F'.wide (by decide) (by decide)⟩
      · rcases hv with ⟨a, b⟩ | ⟨a, b, c⟩
        · rw [if_pos a, b]
        · rw [if_neg a, b]
      · rcases hv with ⟨a, b⟩ | ⟨a, b, c⟩
        · exact absurd a hne
        · exact c
    -- turning
    have turn : ∀ (τ' : w_M) (v3' v4' : Int), w_fr σ τ' 32 63 → pk_at τ' (n_s A) (n_n A) k → (∀ n, n ≤ 12 → τ' 44 n = n_rch A (n_lft A (n : Int))) → (((sn_F (sn_f A) (k + 1)).2 = -4 ∧ v3' = -4 ∧ v4' = A 0 0 - A 0 1) ∨ (¬ (sn_F (sn_f A) (k + 1)).2 = -4 ∧ v3' = (sn_F (sn_f A) (k + 1)).1 ∧ v4' = (sn_F (sn_f A) (k + 1)).1 - 1 ∧ ∀ r, r < n_n A → τ' 43 r = ((dg (n_s A) (n_n A) (sn_F (sn_f A) (k + 1)).2.toNat r : Nat) : Int))) → (p_Plan_turnPicks (τ' b 5) τ' ∧ (∀ (y : Int) (τ5 : w_M), q_Plan_turnPicks (τ' b 5) τ' y τ5 → ((¬ y = 0 → (w_in ((k : Int) + 1) ∧ LPlan_soonest_19 xs (d + 5) Q b y3 v3' v4' ((k : Int) + 1) τ5)) ∧ (y = 0 → Q (some (.inl v3')) τ5)))) := fun τ' v3' v4' F' hp' hr' hi' => by
      obtain ⟨-, g3⟩ := fab τ' F'
      rw [g3]
      refine ⟨⟨hn, n_s A, k, by omega, by omega, by rw [← en]; exact hk, by rw [← en]; exact hp'⟩, fun y τ5 hq => ?_⟩
      obtain ⟨q1, q2⟩ := hq
      have F5 : w_fr σ τ5 32 63 := fun c hc => by rw [q1 c (by omega), F' c hc]
      have z43 : τ5 43 = τ' 43 := q1 43 (by decide)
      have z44 : τ5 44 = τ' 44 := q1 44 (by decide)
      have q2' := q2 (n_s A) k (by omega) (by omega) (by rw [← en]; exact hk) (by rw [← en]; exact hp')
      rw [← en] at q2'
      refine ⟨fun c => ⟨⟨by omega, by omega⟩, ?_⟩, fun c => ?_⟩
      · rcases q2' with ⟨a1, a2, a3⟩ | ⟨a1, a2⟩
        · rw [← w_cs1]
          refine ih a2 τ5 v3' v4' F5 a3 (by rw [z44]; exact hr') ?_
          rw [z43]
          exact hi'
        · exact absurd a1 c
      · rcases q2' with ⟨a1, a2, a3⟩ | ⟨a1, a2⟩
        · omega
        · refine fin τ5 v3' (k + 1) F5 (by rw [a2]) ?_
          rw [z43]
          rcases hi' with ⟨x1, x2, x3⟩ | ⟨x1, x2, x3, x4⟩
          · exact Or.inl ⟨x1, x2⟩
          · exact Or.inr ⟨x1, x2, x4⟩
    have Wk : n_WF (n_row A k) := n_row_WF hW hs1 k
    refine bPlan_soonest_19 ⟨fun h => by omega, fun _ => ⟨trivial, fun c => ?_, fun c => ⟨⟨n_ok.of g1 hW, Or.inr hb⟩, fun τ3 hq3 => ?_⟩⟩⟩
    · -- nothing that comes can be sooner
      have nomore : ∀ i, ¬ (sn_f A i ≠ -4 ∧ sn_f A i ≤ v4) := fun i => by
        have Wi : n_WF (n_row A i) := n_row_WF hW hs1 i
        refine n_done_cut Wi ?_
        unfold n_row
        rw [n_rch_bg, n_lft_bg, n_bg_sd]
        by_cases h0 : v4 < 0
        · exact Or.inl h0
        · right
          have hnr : ¬ y3 ≤ τ 44 v4.toNat := fun q => c ⟨⟨by omega, v4le⟩, q⟩
          rw [hrc v4.toNat (by omega), show ((v4.toNat : Nat) : Int) = v4 by omega] at hnr
          omega
      have e := sn_stay (f := sn_f A) (k := k) (n_s A ^ n_n A - k) (fun i h1 h2 q => nomore i (by
        have := hfl i
        rcases hinv with ⟨x1, x2, x3⟩ | ⟨x1, x2, x3, x4⟩
        · exact ⟨q.1, by omega⟩
        · exact ⟨q.1, by omega⟩))
      rw [show k + (n_s A ^ n_n A - k) = n_s A ^ n_n A by omega] at e
      refine fin τ v3 k F e ?_
      rcases hinv with ⟨x1, x2, x3⟩ | ⟨x1, x2, x3, x4⟩
      · exact Or.inl ⟨x1, x2⟩
      · exact Or.inr ⟨x1, x2, x4⟩
    · obtain ⟨⟨c0, c12⟩, c3⟩ := c
      obtain ⟨a3, F3⟩ := hq3
      have er : n_bg (w_ab τ b) (τ 41) = n_row A k := by rw [g1]; exact n_bg_congr (fun r hr => (hpk r hr).1)
      rw [er] at a3
      have z44 : τ3 44 = τ 44 := F3 44 (by omega)
      have rb : τ3 44 v4.toNat = n_rch A (n_lft A v4) := by rw [z44, hrc v4.toNat (by omega), show ((v4.toNat : Nat) : Int) = v4 by omega]
      have rle := n_rch_le hW (k := n_lft A v4) (by have := (n_left_lft hW c0).2.1; omega)
      refine ⟨c0, by omega, ⟨by omega, by omega⟩, ⟨n_ok.of a3 Wk, c0, c12⟩, fun y2 τ4 hq4 => ?_⟩
      obtain ⟨j, p1, p2, p3⟩ := hq4
      rw [a3] at p2
      have ey := n_pud_cut Wk c0 (by unfold n_row; rw [n_rch_bg, n_lft_bg, n_bg_sd]; omega) p2
      have ey' : y2 = if sn_f A k ≠ -4 ∧ sn_f A k ≤ v4 then sn_f A k else -4 := ey
      have F4 : w_fr σ τ4 32 63 := (F.tr (F3.wide (by decide) (by decide))).tr (p3.wide (by decide) (by decide))
      have t41 : τ4 41 = τ 41 := by rw [p3 41 (by omega), F3 41 (by omega)]
      have t42 : τ4 42 = τ 42 := by rw [p3 42 (by omega), F3 42 (by omega)]
      have t43 : τ4 43 = τ 43 := by rw [p3 43 (by omega), F3 43 (by omega)]
      have t44 : τ4 44 = τ 44 := by rw [p3 44 (by omega), z44]
      have pk4 : pk_at τ4 (n_s A) (n_n A) k := fun r hr => by rw [t41, t42]; exact hpk r hr
      refine ⟨fun c4 => turn τ4 v3 v4 F4 pk4 (by rw [t44]; exact hrc) ?_, fun c4 => ⟨trivial, fun τ7 hq7 => ?_⟩⟩
      · have hno : ¬ (sn_f A k ≠ -4 ∧ sn_f A k ≤ v4) := fun q => by rw [if_pos q] at ey'; omega
        have e : sn_F (sn_f A) (k + 1) = sn_F (sn_f A) k := by
          simp only [sn_F]
          rw [if_neg (fun q => hno (cond.mpr q))]
        rw [e, t43]
        exact hinv
      · have hyes : sn_f A k ≠ -4 ∧ sn_f A k ≤ v4 := by
          by_cases q : sn_f A k ≠ -4 ∧ sn_f A k ≤ v4
          · exact q
          · rw [if_neg q] at ey'; exact absurd ey' c4
        rw [if_pos hyes] at ey'
        obtain ⟨u1, u2⟩ := hq7
        have e : sn_F (sn_f A) (k + 1) = (sn_f A k, (k : Int)) := by
          simp only [sn_F]
          rw [if_pos (cond.mp hyes)]
        have hk12 := hfl12 k
        refine ⟨⟨by omega, by omega⟩, fun y8 e8 => turn τ7 y2 y8 (fun c hc => by rw [u2 c (by omega), F4 c hc]) (fun r hr => by rw [u2 41 (by decide), u2 42 (by decide)]; exact pk4 r hr) (by rw [u2 44 (by decide), t44]; exact hrc) (Or.inr ?_)⟩
        rw [e]
        refine ⟨by simp only []; omega, ey', by simp only []; omega, fun r hr => ?_⟩
        rw [u1 r (by omega), t41, (hpk r hr).1]
        simp only [Int.toNat_natCast]
  · refine pk_start hn4 (fun r hr => ?_)
    refine ⟨(s1 r hr).1, ?_⟩
    rw [(s1 r hr).2]
    omega
noncomputable def p_Moon_begin (_x1 : Int) (σ : w_M) : Prop := CI σ
noncomputable def q_Moon_begin (x1 : Int) (σ : w_M) (x : Int) (σ' : w_M) : Prop := c_q (F_begin (cS σ) x1) (cS σ) σ x σ'
theorem fMoon_begin_0 : w_fe am_c129 0 1 (.iload 1) := ⟨rfl, rfl⟩
theorem fMoon_begin_1 : w_if am_c129 1 2 .eq 8 := ⟨rfl, rfl⟩
theorem fMoon_begin_2 : w_fe am_c129 2 3 (.aload 0) := ⟨rfl, rfl⟩
theorem fMoon_begin_3 : w_fe am_c129 3 4 (.iload 1) := ⟨rfl, rfl⟩
theorem fMoon_begin_4 : w_fe am_c129 4 5 (.invokestatic 130) := ⟨rfl, rfl⟩
theorem fMoon_begin_5 : w_if am_c129 5 6 .ne 8 := ⟨rfl, rfl⟩
theorem fMoon_begin_6 : w_fe am_c129 6 7 (.bipush (-1)) := ⟨rfl, rfl⟩
theorem fMoon_begin_7 : w_fe am_c129 7 8 (.ireturn) := ⟨rfl, rfl⟩
theorem fMoon_begin_8 : w_fe am_c129 8 9 (.aload 0) := ⟨rfl, rfl⟩
theorem fMoon_begin_9 : w_fe am_c129 9 10 (.getfield 2) := ⟨rfl, rfl⟩
theorem fMoon_begin_10 : w_fe am_c129 10 11 (.getfield 204) := ⟨rfl, rfl⟩
theorem fMoon_begin_11 : w_if am_c129 11 12 .eq 16 := ⟨rfl, rfl⟩
theorem fMoon_begin_12 : w_fe am_c129 12 13 (.aload 0) := ⟨rfl, rfl⟩
theorem fMoon_begin_13 : w_fe am_c129 13 14 (.getfield 2) := ⟨rfl, rfl⟩
theorem fMoon_begin_14 : w_fe am_c129 14 15 (.getfield 205) := ⟨rfl, rfl⟩
theorem fMoon_begin_15 : w_if am_c129 15 16 .ne 18 := ⟨rfl, rfl⟩
theorem fMoon_begin_16 : w_fe am_c129 16 17 (.bipush (-2)) := ⟨rfl, rfl⟩
theorem fMoon_begin_17 : w_fe am_c129 17 18 (.ireturn) := ⟨rfl, rfl⟩
theorem fMoon_begin_18 : w_fe am_c129 18 19 (.aload 0) := ⟨rfl, rfl⟩
theorem fMoon_begin_19 : w_fe am_c129 19 20 (.getfield 4) := ⟨rfl, rfl⟩
theorem fMoon_begin_20 : w_fe am_c129 20 21 (.aload 0) := ⟨rfl, rfl⟩
theorem fMoon_begin_21 : w_fe am_c129 21 22 (.getfield 2) := ⟨rfl, rfl⟩
theorem fMoon_begin_22 : w_fe am_c129 22 23 (.invokestatic 66) := ⟨rfl, rfl⟩
theorem fMoon_begin_23 : w_fe am_c129 23 24 (.istore 2) := ⟨rfl, rfl⟩
theorem fMoon_begin_24 : w_fe am_c129 24 25 (.iload 1) := ⟨rfl, rfl⟩
theorem fMoon_begin_25 : w_if am_c129 25 26 .eq 29 := ⟨rfl, rfl⟩
theorem fMoon_begin_26 : w_fe am_c129 26 27 (.iload 2) := ⟨rfl, rfl⟩
theorem fMoon_begin_27 : w_fe am_c129 27 28 (.bipush (-4)) := ⟨rfl, rfl⟩
theorem fMoon_begin_28 : w_ic am_c129 28 29 .ne 31 := ⟨rfl, rfl⟩
theorem fMoon_begin_29 : w_fe am_c129 29 30 (.iload 2) := ⟨rfl, rfl⟩
theorem fMoon_begin_30 : w_gt am_c129 30 37 := rfl
theorem fMoon_begin_31 : w_fe am_c129 31 32 (.aload 0) := ⟨rfl, rfl⟩
theorem fMoon_begin_32 : w_fe am_c129 32 33 (.getfield 4) := ⟨rfl, rfl⟩
theorem fMoon_begin_33 : w_fe am_c129 33 34 (.iload 1) := ⟨rfl, rfl⟩
theorem fMoon_begin_34 : w_fe am_c129 34 35 (.bipush 10) := ⟨rfl, rfl⟩
theorem fMoon_begin_35 : w_fe am_c129 35 36 (.isub) := ⟨rfl, rfl⟩
theorem fMoon_begin_36 : w_fe am_c129 36 37 (.invokestatic 73) := ⟨rfl, rfl⟩
theorem fMoon_begin_37 : w_fe am_c129 37 38 (.ireturn) := ⟨rfl, rfl⟩
set_option maxRecDepth 20000 in
theorem bMoon_begin_0 {xs : List Int} {d : Nat} {Q : Option w_V → w_M → Prop} {x1 : Int} {σ : w_M}
    (h : (x1 = 0 → (((σ 14 4) = 0 → Q (some (.inl (-2))) σ) ∧ (¬ (σ 14 4) = 0 → ((¬ (σ 14 5) = 0 → (p_Plan_soonest 14 σ ∧ (∀ (y1 : Int) (τ2 : w_M), q_Plan_soonest 14 σ y1 τ2 → Q (some (.inl y1)) τ2))) ∧ ((σ 14 5) = 0 → Q (some (.inl (-2))) σ))))) ∧ (¬ x1 = 0 → (((10 ≤ x1 ∧ x1 - 10 < σ 14 5) → (((σ 14 4) = 0 → Q (some (.inl (-2))) σ) ∧ (¬ (σ 14 4) = 0 → ((¬ (σ 14 5) = 0 → (p_Plan_soonest 14 σ ∧ (∀ (y5 : Int) (τ6 : w_M), q_Plan_soonest 14 σ y5 τ6 → ((¬ y5 = (-4) → (w_in (x1 - 10) ∧ p_Plan_chosenOf (x1 - 10) τ6 ∧ (∀ (y7 : Int), y7 = v_Plan_chosenOf (x1 - 10) τ6 → Q (some (.inl y7)) τ6))) ∧ (y5 = (-4) → Q (some (.inl y5)) τ6))))) ∧ ((σ 14 5) = 0 → Q (some (.inl (-2))) σ))))) ∧ (¬ (10 ≤ x1 ∧ x1 - 10 < σ 14 5) → Q (some (.inl (-1))) σ)))) : w_Call (xs, (d + 6)) 129 [.inr (.inr (0, 0)), .inl x1] σ Q :=
  (w_mk (mid := 129) (by decide) rfl rfl rfl rfl rfl (Nat.le_of_ble_eq_true rfl) ⟨rfl, Or.inl (by decide)⟩ (wi_iload1 fMoon_begin_0 (wi_if_eq fMoon_begin_1 (fun c12 => (wi_aload0 fMoon_begin_8 (wi_getf2 fMoon_begin_9 (wi_getf204 fMoon_begin_10 (wi_if_eq fMoon_begin_11 (fun c4 => (wi_bipush fMoon_begin_16 (wi_ret1 fMoon_begin_17 ((h.1 c12).1 c4)))) (fun c4 => (wi_aload0 fMoon_begin_12 (wi_getf2 fMoon_begin_13 (wi_getf205 fMoon_begin_14 (wi_if_ne fMoon_begin_15 (fun c3 => (wi_aload0 fMoon_begin_18 (wi_getf4 fMoon_begin_19 (wi_aload0 fMoon_begin_20 (wi_getf2 fMoon_begin_21 (wi_call2 fMoon_begin_22 (Nat.le_of_ble_eq_true rfl) (k_Plan_soonest (((h.1 c12).2 c4).1 c3).1 (fun y1 τ2 eτ2 => (wi_istore2 fMoon_begin_23 trivial (wi_iload1 fMoon_begin_24 (wi_if_eq fMoon_begin_25 (fun _ => (wi_iload2 fMoon_begin_29 (wi_goto fMoon_begin_30 (wi_ret1 fMoon_begin_37 ((((h.1 c12).2 c4).1 c3).2 y1 τ2 eτ2))))) (fun e => absurd c12 (w_n_eq e))))))))))))) (fun c3 => (wi_bipush fMoon_begin_16 (wi_ret1 fMoon_begin_17 (((h.1 c12).2 c4).2 c3)))))))))))))) (fun c12 => (wi_aload0 fMoon_begin_2 (wi_iload1 fMoon_begin_3 (wi_call2 fMoon_begin_4 (Nat.le_of_ble_eq_true rfl) (k_Moon_asksOfReaper (wi_ifb_ne fMoon_begin_5 (fun c11 => (wi_aload0 fMoon_begin_8 (wi_getf2 fMoon_begin_9 (wi_getf204 fMoon_begin_10 (wi_if_eq fMoon_begin_11 (fun c10 => (wi_bipush fMoon_begin_16 (wi_ret1 fMoon_begin_17 (((h.2 c12).1 c11).1 c10)))) (fun c10 => (wi_aload0 fMoon_begin_12 (wi_getf2 fMoon_begin_13 (wi_getf205 fMoon_begin_14 (wi_if_ne fMoon_begin_15 (fun c9 => (wi_aload0 fMoon_begin_18 (wi_getf4 fMoon_begin_19 (wi_aload0 fMoon_begin_20 (wi_getf2 fMoon_begin_21 (wi_call2 fMoon_begin_22 (Nat.le_of_ble_eq_true rfl) (k_Plan_soonest ((((h.2 c12).1 c11).2 c10).1 c9).1 (fun y5 τ6 eτ6 => (wi_istore2 fMoon_begin_23 trivial (wi_iload1 fMoon_begin_24 (wi_if_eq fMoon_begin_25 (fun e => absurd c12 (w_m_eq e)) (fun _ => (wi_iload2 fMoon_begin_26 (wi_bipush fMoon_begin_27 (wi_ic_ne fMoon_begin_28 (fun c8 => (wi_aload0 fMoon_begin_31 (wi_getf4 fMoon_begin_32 (wi_iload1 fMoon_begin_33 (wi_bipush fMoon_begin_34 (wi_isub fMoon_begin_35 ((((((h.2 c12).1 c11).2 c10).1 c9).2 y5 τ6 eτ6).1 c8).1 (wi_call2 fMoon_begin_36 (Nat.le_of_ble_eq_true rfl) (k_Plan_chosenOf ((((((h.2 c12).1 c11).2 c10).1 c9).2 y5 τ6 eτ6).1 c8).2.1 (wi_ret1 fMoon_begin_37 (((((((h.2 c12).1 c11).2 c10).1 c9).2 y5 τ6 eτ6).1 c8).2.2 _ rfl)))))))))) (fun c8 => (wi_iload2 fMoon_begin_29 (wi_goto fMoon_begin_30 (wi_ret1 fMoon_begin_37 ((((((h.2 c12).1 c11).2 c10).1 c9).2 y5 τ6 eτ6).2 c8)))))))))))))))))))) (fun c9 => (wi_bipush fMoon_begin_16 (wi_ret1 fMoon_begin_17 ((((h.2 c12).1 c11).2 c10).2 c9)))))))))))))) (fun c11 => (wi_bipush fMoon_begin_6 (wi_ret1 fMoon_begin_7 ((h.2 c12).2 c11)))))))))))))
theorem k_Moon_begin {xs : List Int} {d : Nat} {Q : Option w_V → w_M → Prop} {x1 : Int} {σ : w_M} (hp : p_Moon_begin x1 σ) (hQ : ∀ (x : Int) (σ' : w_M), q_Moon_begin x1 σ x σ' → Q (some (.inl x)) σ') : w_Call (xs, d + 6) 129 [.inr (.inr (0, 0)), .inl x1] σ Q := by
  have hC : CI σ := hp
  have hok := hC.ok
  have hn := n_ok.n hok
  have hs := n_ok.s hok
  unfold q_Moon_begin F_begin at hQ
  have e5 : cS σ 0 0 5 = σ 14 5 := rfl
  have e4 : cS σ 0 0 4 = σ 14 4 := rfl
  have eA : cS σ 0 = w_ab σ 14 := rfl
  rw [e5, e4, eA] at hQ
  have st : (x1 = 0 ∨ (10 ≤ x1 ∧ x1 - 10 < σ 14 5)) → (σ 14 4 = 0 ∨ σ 14 5 = 0) → Q (some (.inl (-2))) σ := fun h1 h2 => by
    rw [if_pos h1, if_pos h2] at hQ
    exact hQ _ _ (c_qr hC rfl)
  refine bMoon_begin_0 ⟨fun c => ⟨fun c2 => st (Or.inl c) (Or.inl c2), fun c2 => ⟨fun c3 => ⟨⟨⟨hok, by decide⟩, by omega, by omega⟩, fun y τ hq => ?_⟩, fun c3 => st (Or.inl c) (Or.inr c3)⟩⟩, fun c => ⟨fun ca => ⟨fun c2 => st (Or.inr ca) (Or.inl c2), fun c2 => ⟨fun c3 => ⟨⟨⟨hok, by decide⟩, by omega, by omega⟩, fun y τ hq => ⟨fun c4 => ⟨⟨by omega, by omega⟩, ⟨by omega, by omega⟩, fun y7 e7 => ?_⟩, fun c4 => ?_⟩⟩, fun c3 => st (Or.inr ca) (Or.inr c3)⟩⟩, fun ca => ?_⟩⟩
  · rw [if_pos (Or.inl c), if_neg (by omega), if_pos c] at hQ
    exact hQ _ _ (c_qs hC hq.2.2 hq.1)
  · rw [if_pos (Or.inr ca), if_neg (by omega), if_neg c] at hQ
    obtain ⟨q1, q2, q3⟩ := hq
    by_cases h : (sn_F (sn_f (w_ab σ 14)) (ft_r (w_ab σ 14))).2 = -4
    · rw [if_pos h] at q1
      exact absurd q1 c4
    · rw [if_neg h] at hQ
      refine hQ _ _ (c_qs hC q3 ?_)
      rw [e7]
      exact q2 h _ (by show (x1 - 10).toNat < (σ 14 5).toNat; omega)
  · rw [if_pos (Or.inr ca), if_neg (by omega), if_neg c] at hQ
    obtain ⟨q1, q2, q3⟩ := hq
    have hsn := sn_F_le (f := sn_f (w_ab σ 14)) (fun k => by
      have := sn_f_le hok k
      have hrs := n_ok.hrs hok
      have hr := n_ok.hr hok
      have e0 : w_ab σ 14 0 0 = σ 14 0 := rfl
      have e1 : w_ab σ 14 0 1 = σ 14 1 := rfl
      omega) (ft_r (w_ab σ 14))
    by_cases h : (sn_F (sn_f (w_ab σ 14)) (ft_r (w_ab σ 14))).2 = -4
    · rw [if_pos h] at hQ
      exact hQ _ _ (c_qs hC q3 c4)
    · rw [if_neg h] at q1
      omega
  · rw [if_neg (by omega)] at hQ
    exact hQ _ _ (c_qr hC rfl)
noncomputable def p_Model_begin (_x1 : Int) (σ : w_M) : Prop := MI σ
noncomputable def q_Model_begin (x1 : Int) (σ : w_M) (x : Int) (σ' : w_M) : Prop := m_q (F_begin (mS σ) x1) (mS σ) σ x σ'
noncomputable def w_c206 : List Instr := [.iload 1, .ifCond .eq 10, .aload 0, .iload 1, .bipush 10, .fsub, .invokestatic 181, .ifCond .ne 10, .bipush (-1), .ireturn, .aload 0, .getfield 904, .ifCond .eq 16, .aload 0, .getfield 905, .ifCond .ne 18, .bipush (-2), .ireturn, .bipush 1000000, .istore 2, .bipush (-4), .istore 3, .bipush 0, .istore 4, .iload 4, .aload 0, .aload 0, .getfield 904, .invokestatic 207, .if_icmp .ge 60, .aload 0, .iload 4, .invokestatic 208, .aload 0, .invokestatic 204, .istore 5, .iload 5, .bipush (-4), .if_icmp .eq 44, .iload 5, .iload 2, .if_icmp .ge 44, .bipush 1, .goto 45, .bipush 0, .istore 6, .iload 6, .ifCond .eq 50, .iload 4, .goto 51, .iload 3, .istore 3, .iload 6, .ifCond .eq 56, .iload 5, .goto 57, .iload 2, .istore 2, .iinc 4 1, .goto 24, .iload 3, .bipush (-4), .if_icmp .ne 65, .bipush (-4), .goto 77, .iload 1, .ifCond .ne 69, .iload 2, .goto 77, .aload 0, .iload 3, .iload 1, .bipush 10, .isub, .aload 0, .getfield 904, .invokestatic 209, .ireturn]
theorem fModel_begin_0 : w_fe w_c206 0 1 (.iload 1) := ⟨rfl, rfl⟩
theorem fModel_begin_1 : w_if w_c206 1 2 .eq 10 := ⟨rfl, rfl⟩
theorem fModel_begin_2 : w_fe w_c206 2 3 (.aload 0) := ⟨rfl, rfl⟩
theorem fModel_begin_3 : w_fe w_c206 3 4 (.iload 1) := ⟨rfl, rfl⟩
theorem fModel_begin_4 : w_fe w_c206 4 5 (.bipush 10) := ⟨rfl, rfl⟩
theorem fModel_begin_5 : w_fe w_c206 5 6 (.fsub) := ⟨rfl, rfl⟩
theorem fModel_begin_6 : w_fe w_c206 6 7 (.invokestatic 181) := ⟨rfl, rfl⟩
theorem fModel_begin_7 : w_if w_c206 7 8 .ne 10 := ⟨rfl, rfl⟩
theorem fModel_begin_8 : w_fe w_c206 8 9 (.bipush (-1)) := ⟨rfl, rfl⟩
theorem fModel_begin_9 : w_fe w_c206 9 10 (.ireturn) := ⟨rfl, rfl⟩
theorem fModel_begin_10 : w_fe w_c206 10 11 (.aload 0) := ⟨rfl, rfl⟩
theorem fModel_begin_11 : w_fe w_c206 11 12 (.getfield 904) := ⟨rfl, rfl⟩
theorem fModel_begin_12 : w_if w_c206 12 13 .eq 16 := ⟨rfl, rfl⟩
theorem fModel_begin_13 : w_fe w_c206 13 14 (.aload 0) := ⟨rfl, rfl⟩
theorem fModel_begin_14 : w_fe w_c206 14 15 (.getfield 905) := ⟨rfl, rfl⟩
theorem fModel_begin_15 : w_if w_c206 15 16 .ne 18 := ⟨rfl, rfl⟩
theorem fModel_begin_16 : w_fe w_c206 16 17 (.bipush (-2)) := ⟨rfl, rfl⟩
theorem fModel_begin_17 : w_fe w_c206 17 18 (.ireturn) := ⟨rfl, rfl⟩
theorem fModel_begin_18 : w_fe w_c206 18 19 (.bipush 1000000) := ⟨rfl, rfl⟩
theorem fModel_begin_19 : w_fe w_c206 19 20 (.istore 2) := ⟨rfl, rfl⟩
theorem fModel_begin_20 : w_fe w_c206 20 21 (.bipush (-4)) := ⟨rfl, rfl⟩
theorem fModel_begin_21 : w_fe w_c206 21 22 (.istore 3) := ⟨rfl, rfl⟩
theorem fModel_begin_22 : w_fe w_c206 22 23 (.bipush 0) := ⟨rfl, rfl⟩
theorem fModel_begin_23 : w_fe w_c206 23 24 (.istore 4) := ⟨rfl, rfl⟩
theorem fModel_begin_24 : w_fe w_c206 24 25 (.iload 4) := ⟨rfl, rfl⟩
theorem fModel_begin_25 : w_fe w_c206 25 26 (.aload 0) := ⟨rfl, rfl⟩
theorem fModel_begin_26 : w_fe w_c206 26 27 (.aload 0) := ⟨rfl, rfl⟩
theorem fModel_begin_27 : w_fe w_c206 27 28 (.getfield 904) := ⟨rfl, rfl⟩
theorem fModel_begin_28 : w_fe w_c206 28 29 (.invokestatic 207) := ⟨rfl, rfl⟩
theorem fModel_begin_29 : w_ic w_c206 29 30 .ge 60 := ⟨rfl, rfl⟩
theorem fModel_begin_30 : w_fe w_c206 30 31 (.aload 0) := ⟨rfl, rfl⟩
theorem fModel_begin_31 : w_fe w_c206 31 32 (.iload 4) := ⟨rfl, rfl⟩
theorem fModel_begin_32 : w_fe w_c206 32 33 (.invokestatic 208) := ⟨rfl, rfl⟩
theorem fModel_begin_33 : w_fe w_c206 33 34 (.aload 0) := ⟨rfl, rfl⟩
theorem fModel_begin_34 : w_fe w_c206 34 35 (.invokestatic 204) := ⟨rfl, rfl⟩
theorem fModel_begin_35 : w_fe w_c206 35 36 (.istore 5) := ⟨rfl, rfl⟩
theorem fModel_begin_36 : w_fe w_c206 36 37 (.iload 5) := ⟨rfl, rfl⟩
theorem fModel_begin_37 : w_fe w_c206 37 38 (.bipush (-4)) := ⟨rfl, rfl⟩
theorem fModel_begin_38 : w_ic w_c206 38 39 .eq 44 := ⟨rfl, rfl⟩
theorem fModel_begin_39 : w_fe w_c206 39 40 (.iload 5) := ⟨rfl, rfl⟩
theorem fModel_begin_40 : w_fe w_c206 40 41 (.iload 2) := ⟨rfl, rfl⟩
theorem fModel_begin_41 : w_ic w_c206 41 42 .ge 44 := ⟨rfl, rfl⟩
theorem fModel_begin_42 : w_fe w_c206 42 43 (.bipush 1) := ⟨rfl, rfl⟩
theorem fModel_begin_43 : w_gt w_c206 43 45 := rfl
theorem fModel_begin_44 : w_fe w_c206 44 45 (.bipush 0) := ⟨rfl, rfl⟩
theorem fModel_begin_45 : w_fe w_c206 45 46 (.istore 6) := ⟨rfl, rfl⟩
theorem fModel_begin_46 : w_fe w_c206 46 47 (.iload 6) := ⟨rfl, rfl⟩
theorem fModel_begin_47 : w_if w_c206 47 48 .eq 50 := ⟨rfl, rfl⟩
theorem fModel_begin_48 : w_fe w_c206 48 49 (.iload 4) := ⟨rfl, rfl⟩
theorem fModel_begin_49 : w_gt w_c206 49 51 := rfl
theorem fModel_begin_50 : w_fe w_c206 50 51 (.iload 3) := ⟨rfl, rfl⟩
theorem fModel_begin_51 : w_fe w_c206 51 52 (.istore 3) := ⟨rfl, rfl⟩
theorem fModel_begin_52 : w_fe w_c206 52 53 (.iload 6) := ⟨rfl, rfl⟩
theorem fModel_begin_53 : w_if w_c206 53 54 .eq 56 := ⟨rfl, rfl⟩
theorem fModel_begin_54 : w_fe w_c206 54 55 (.iload 5) := ⟨rfl, rfl⟩
theorem fModel_begin_55 : w_gt w_c206 55 57 := rfl
theorem fModel_begin_56 : w_fe w_c206 56 57 (.iload 2) := ⟨rfl, rfl⟩
theorem fModel_begin_57 : w_fe w_c206 57 58 (.istore 2) := ⟨rfl, rfl⟩
theorem fModel_begin_58 : w_fe w_c206 58 59 (.iinc 4 1) := ⟨rfl, rfl⟩
theorem fModel_begin_59 : w_gt w_c206 59 24 := rfl
theorem fModel_begin_60 : w_fe w_c206 60 61 (.iload 3) := ⟨rfl, rfl⟩
theorem fModel_begin_61 : w_fe w_c206 61 62 (.bipush (-4)) := ⟨rfl, rfl⟩
theorem fModel_begin_62 : w_ic w_c206 62 63 .ne 65 := ⟨rfl, rfl⟩
theorem fModel_begin_63 : w_fe w_c206 63 64 (.bipush (-4)) := ⟨rfl, rfl⟩
theorem fModel_begin_64 : w_gt w_c206 64 77 := rfl
theorem fModel_begin_65 : w_fe w_c206 65 66 (.iload 1) := ⟨rfl, rfl⟩
theorem fModel_begin_66 : w_if w_c206 66 67 .ne 69 := ⟨rfl, rfl⟩
theorem fModel_begin_67 : w_fe w_c206 67 68 (.iload 2) := ⟨rfl, rfl⟩
theorem fModel_begin_68 : w_gt w_c206 68 77 := rfl
theorem fModel_begin_69 : w_fe w_c206 69 70 (.aload 0) := ⟨rfl, rfl⟩
theorem fModel_begin_70 : w_fe w_c206 70 71 (.iload 3) := ⟨rfl, rfl⟩
theorem fModel_begin_71 : w_fe w_c206 71 72 (.iload 1) := ⟨rfl, rfl⟩
theorem fModel_begin_72 : w_fe w_c206 72 73 (.bipush 10) := ⟨rfl, rfl⟩
theorem fModel_begin_73 : w_fe w_c206 73 74 (.isub) := ⟨rfl, rfl⟩
theorem fModel_begin_74 : w_fe w_c206 74 75 (.aload 0) := ⟨rfl, rfl⟩
theorem fModel_begin_75 : w_fe w_c206 75 76 (.getfield 904) := ⟨rfl, rfl⟩
theorem fModel_begin_76 : w_fe w_c206 76 77 (.invokestatic 209) := ⟨rfl, rfl⟩
theorem fModel_begin_77 : w_fe w_c206 77 78 (.ireturn) := ⟨rfl, rfl⟩
noncomputable def LModel_begin_24 (xs : List Int) (d : Nat) (Q : Option w_V → w_M → Prop) (v1 : Int) (v2 : Int) (v3 : Int) (v4 : Int) (σ : w_M) : Prop := ∀ l5, w_nl l5 → ∀ l6, w_nl l6 → w_Ex (xs, d) 1 w_c206 Q 24 [some (.inr (.inr (9, 122))), some (.inl v1), some (.inl v2), some (.inl v3), some (.inl v4), l5, l6] [] σ
set_option maxRecDepth 20000 in
theorem bModel_begin_0 {xs : List Int} {d : Nat} {Q : Option w_V → w_M → Prop} {x1 : Int} {σ : w_M}
    (h : (x1 = 0 → (((σ 122 4) = 0 → Q (some (.inl (-2))) σ) ∧ (¬ (σ 122 4) = 0 → ((¬ (σ 122 5) = 0 → LModel_begin_24 xs (d + 6) Q x1 1000000 (-4) 0 σ) ∧ ((σ 122 5) = 0 → Q (some (.inl (-2))) σ))))) ∧ (¬ x1 = 0 → (p_Model_isReaper (w_wr (x1 - 10)) σ ∧ (((0 ≤ (w_wr (x1 - 10)) ∧ (w_wr (x1 - 10)) < σ 122 5) → (((σ 122 4) = 0 → Q (some (.inl (-2))) σ) ∧ (¬ (σ 122 4) = 0 → ((¬ (σ 122 5) = 0 → LModel_begin_24 xs (d + 6) Q x1 1000000 (-4) 0 σ) ∧ ((σ 122 5) = 0 → Q (some (.inl (-2))) σ))))) ∧ (¬ (0 ≤ (w_wr (x1 - 10)) ∧ (w_wr (x1 - 10)) < σ 122 5) → Q (some (.inl (-1))) σ))))) : w_Call (xs, (d + 6)) 206 [.inr (.inr (9, 122)), .inl x1] σ Q :=
  (w_mk (mid := 206) (by decide) rfl rfl rfl rfl rfl (Nat.le_of_ble_eq_true rfl) ⟨rfl, Or.inl (by decide)⟩ (wi_iload1 fModel_begin_0 (wi_if_eq fModel_begin_1 (fun c6 => (wi_aload0 fModel_begin_10 (wi_getf904 fModel_begin_11 (wi_if_eq fModel_begin_12 (fun c2 => (wi_bipush fModel_begin_16 (wi_ret1 fModel_begin_17 ((h.1 c6).1 c2)))) (fun c2 => (wi_aload0 fModel_begin_13 (wi_getf905 fModel_begin_14 (wi_if_ne fModel_begin_15 (fun c1 => (wi_bipush fModel_begin_18 (wi_istore2 fModel_begin_19 trivial (wi_bipush fModel_begin_20 (wi_istore3 fModel_begin_21 trivial (wi_bipush fModel_begin_22 (wi_istore4 fModel_begin_23 trivial ((((h.1 c6).2 c2).1 c1) _ (by exact trivial) _ (by exact trivial))))))))) (fun c1 => (wi_bipush fModel_begin_16 (wi_ret1 fModel_begin_17 (((h.1 c6).2 c2).2 c1)))))))))))) (fun c6 => (wi_aload0 fModel_begin_2 (wi_iload1 fModel_begin_3 (wi_bipush fModel_begin_4 (wi_fsub fModel_begin_5 (wi_call2 fModel_begin_6 (Nat.le_of_ble_eq_true rfl) (k_Model_isReaper (h.2 c6).1 (wi_ifb_ne fModel_begin_7 (fun c5 => (wi_aload0 fModel_begin_10 (wi_getf904 fModel_begin_11 (wi_if_eq fModel_begin_12 (fun c4 => (wi_bipush fModel_begin_16 (wi_ret1 fModel_begin_17 (((h.2 c6).2.1 c5).1 c4)))) (fun c4 => (wi_aload0 fModel_begin_13 (wi_getf905 fModel_begin_14 (wi_if_ne fModel_begin_15 (fun c3 => (wi_bipush fModel_begin_18 (wi_istore2 fModel_begin_19 trivial (wi_bipush fModel_begin_20 (wi_istore3 fModel_begin_21 trivial (wi_bipush fModel_begin_22 (wi_istore4 fModel_begin_23 trivial (((((h.2 c6).2.1 c5).2 c4).1 c3) _ (by exact trivial) _ (by exact trivial))))))))) (fun c3 => (wi_bipush fModel_begin_16 (wi_ret1 fModel_begin_17 ((((h.2 c6).2.1 c5).2 c4).2 c3)))))))))))) (fun c5 => (wi_bipush fModel_begin_8 (wi_ret1 fModel_begin_9 ((h.2 c6).2.2 c5)))))))))))))))
set_option maxRecDepth 20000 in
theorem bModel_begin_24 {xs : List Int} {d : Nat} {Q : Option w_V → w_M → Prop} {v1 : Int} {v2 : Int} {v3 : Int} {v4 : Int} {σ : w_M}
    (h : p_Model_rowsOf (σ 122 4) σ ∧ (∀ (y1 : Int), y1 = v_Model_rowsOf (σ 122 4) σ → ((y1 ≤ v4 → ((¬ v3 = (-4) → ((¬ v1 = 0 → (w_in (v1 - 10) ∧ p_Model_toldBy v3 (v1 - 10) (σ 122 4) σ ∧ (∀ (y2 : Int), y2 = v_Model_toldBy v3 (v1 - 10) (σ 122 4) σ → Q (some (.inl y2)) σ))) ∧ (v1 = 0 → Q (some (.inl v2)) σ))) ∧ (v3 = (-4) → Q (some (.inl (-4))) σ))) ∧ (v4 < y1 → (p_Model_begins v4 σ ∧ (∀ (τ5 : w_M), q_Model_begins v4 σ τ5 → (p_Model_doneBehind τ5 ∧ (∀ (y6 : Int) (τ7 : w_M), q_Model_doneBehind τ5 y6 τ7 → ((y6 = (-4) → (w_in (v4 + 1) ∧ LModel_begin_24 xs (d + 6) Q v1 v2 v3 (v4 + 1) τ7)) ∧ (¬ y6 = (-4) → ((v2 ≤ y6 → (w_in (v4 + 1) ∧ LModel_begin_24 xs (d + 6) Q v1 v2 v3 (v4 + 1) τ7)) ∧ (y6 < v2 → (w_in (v4 + 1) ∧ LModel_begin_24 xs (d + 6) Q v1 y6 v4 (v4 + 1) τ7))))))))))))) : LModel_begin_24 xs (d + 6) Q v1 v2 v3 v4 σ :=
  fun l5 nl5 => fun l6 nl6 => (wi_iload4 fModel_begin_24 (wi_aload0 fModel_begin_25 (wi_aload0 fModel_begin_26 (wi_getf904 fModel_begin_27 (wi_call2 fModel_begin_28 (Nat.le_of_ble_eq_true rfl) (k_Model_rowsOf h.1 (wi_ic_ge fModel_begin_29 (fun c10 => (wi_iload3 fModel_begin_60 (wi_bipush fModel_begin_61 (wi_ic_ne fModel_begin_62 (fun c4 => (wi_iload1 fModel_begin_65 (wi_if_ne fModel_begin_66 (fun c3 => (wi_aload0 fModel_begin_69 (wi_iload3 fModel_begin_70 (wi_iload1 fModel_begin_71 (wi_bipush fModel_begin_72 (wi_isub fModel_begin_73 ((((h.2 _ rfl).1 c10).1 c4).1 c3).1 (wi_aload0 fModel_begin_74 (wi_getf904 fModel_begin_75 (wi_call4 fModel_begin_76 (Nat.le_of_ble_eq_true rfl) (k_Model_toldBy ((((h.2 _ rfl).1 c10).1 c4).1 c3).2.1 (wi_ret1 fModel_begin_77 (((((h.2 _ rfl).1 c10).1 c4).1 c3).2.2 _ rfl)))))))))))) (fun c3 => (wi_iload2 fModel_begin_67 (wi_goto fModel_begin_68 (wi_ret1 fModel_begin_77 ((((h.2 _ rfl).1 c10).1 c4).2 c3)))))))) (fun c4 => (wi_bipush fModel_begin_63 (wi_goto fModel_begin_64 (wi_ret1 fModel_begin_77 (((h.2 _ rfl).1 c10).2 c4))))))))) (fun c10 => (wi_aload0 fModel_begin_30 (wi_iload4 fModel_begin_31 (wi_call2 fModel_begin_32 (Nat.le_of_ble_eq_true rfl) (k_Model_begins ((h.2 _ rfl).2 c10).1 (fun τ5 eτ5 => (wi_aload0 fModel_begin_33 (wi_call1 fModel_begin_34 (Nat.le_of_ble_eq_true rfl) (k_Model_doneBehind (((h.2 _ rfl).2 c10).2 τ5 eτ5).1 (fun y6 τ7 eτ7 => (wi_istore5 fModel_begin_35 trivial (wi_iload5 fModel_begin_36 (wi_bipush fModel_begin_37 (wi_ic_eq fModel_begin_38 (fun c9 => (wi_bipush fModel_begin_44 (wi_istore6 fModel_begin_45 trivial (wi_iload6 fModel_begin_46 (wi_if_eq fModel_begin_47 (fun _ => (wi_iload3 fModel_begin_50 (wi_istore3 fModel_begin_51 trivial (wi_iload6 fModel_begin_52 (wi_if_eq fModel_begin_53 (fun _ => (wi_iload2 fModel_begin_56 (wi_istore2 fModel_begin_57 trivial (wi_iinc4 fModel_begin_58 trivial (((((h.2 _ rfl).2 c10).2 τ5 eτ5).2 y6 τ7 eτ7).1 c9).1 (wi_goto fModel_begin_59 ((((((h.2 _ rfl).2 c10).2 τ5 eτ5).2 y6 τ7 eτ7).1 c9).2 _ (by exact trivial) _ (by exact trivial))))))) (fun e => absurd e (by decide))))))) (fun e => absurd e (by decide))))))) (fun c9 => (wi_iload5 fModel_begin_39 (wi_iload2 fModel_begin_40 (wi_ic_ge fModel_begin_41 (fun c8 => (wi_bipush fModel_begin_44 (wi_istore6 fModel_begin_45 trivial (wi_iload6 fModel_begin_46 (wi_if_eq fModel_begin_47 (fun _ => (wi_iload3 fModel_begin_50 (wi_istore3 fModel_begin_51 trivial (wi_iload6 fModel_begin_52 (wi_if_eq fModel_begin_53 (fun _ => (wi_iload2 fModel_begin_56 (wi_istore2 fModel_begin_57 trivial (wi_iinc4 fModel_begin_58 trivial ((((((h.2 _ rfl).2 c10).2 τ5 eτ5).2 y6 τ7 eτ7).2 c9).1 c8).1 (wi_goto fModel_begin_59 (((((((h.2 _ rfl).2 c10).2 τ5 eτ5).2 y6 τ7 eτ7).2 c9).1 c8).2 _ (by exact trivial) _ (by exact trivial))))))) (fun e => absurd e (by decide))))))) (fun e => absurd e (by decide))))))) (fun c8 => (wi_bipush fModel_begin_42 (wi_goto fModel_begin_43 (wi_istore6 fModel_begin_45 trivial (wi_iload6 fModel_begin_46 (wi_if_eq fModel_begin_47 (fun e => absurd e (by decide)) (fun _ => (wi_iload4 fModel_begin_48 (wi_goto fModel_begin_49 (wi_istore3 fModel_begin_51 trivial (wi_iload6 fModel_begin_52 (wi_if_eq fModel_begin_53 (fun e => absurd e (by decide)) (fun _ => (wi_iload5 fModel_begin_54 (wi_goto fModel_begin_55 (wi_istore2 fModel_begin_57 trivial (wi_iinc4 fModel_begin_58 trivial ((((((h.2 _ rfl).2 c10).2 τ5 eτ5).2 y6 τ7 eτ7).2 c9).2 c8).1 (wi_goto fModel_begin_59 (((((((h.2 _ rfl).2 c10).2 τ5 eτ5).2 y6 τ7 eτ7).2 c9).2 c8).2 _ (by exact trivial) _ (by exact trivial)))))))))))))))))))))))))))))))))))))))))))))
theorem k_Model_begin {xs : List Int} {d : Nat} {Q : Option w_V → w_M → Prop} {x1 : Int} {σ : w_M} (hp : p_Model_begin x1 σ) (hQ : ∀ (x : Int) (σ' : w_M), q_Model_begin x1 σ x σ' → Q (some (.inl x)) σ') : w_Call (xs, d + 6) 206 [.inr (.inr (9, 122)), .inl x1] σ Q := by
  refine w_Call_as (fun has => ?_)
  have hx : w_in x1 := has (.inl x1) (by simp)
  have hM : MI σ := hp
  have hok := hM.ok
  have hs := hM.s
  have hn := hM.n
  have hrs := m_ok.hrs hok
  have hr : 0 ≤ σ 123 42 ∧ σ 123 42 ≤ σ 122 3 := m_ok.hr hok
  have hs1 := n_s_pos hok
  unfold q_Model_begin F_begin ft_r at hQ
  have e5 : mS σ 0 0 5 = σ 122 5 := rfl
  have e4 : mS σ 0 0 4 = σ 122 4 := rfl
  have eA : mS σ 0 = w_am σ 123 0 := rfl
  rw [e5, e4, eA] at hQ
  have en : n_n (w_am σ 123 0) = (σ 122 5).toNat := rfl
  have es : n_s (w_am σ 123 0) = (σ 122 4).toNat := rfl
  have st : (x1 = 0 ∨ (10 ≤ x1 ∧ x1 - 10 < σ 122 5)) → (σ 122 4 = 0 ∨ σ 122 5 = 0) → Q (some (.inl (-2))) σ := fun h1 h2 => by
    rw [if_pos h1, if_pos h2] at hQ
    exact hQ _ _ (m_qr hM rfl)
  have main : (x1 = 0 ∨ (10 ≤ x1 ∧ x1 - 10 < σ 122 5)) → ¬ σ 122 4 = 0 → ¬ σ 122 5 = 0 → LModel_begin_24 xs (d + 6) Q x1 1000000 (-4) 0 σ := by
    intro hw h4 h5
    rw [if_pos hw, if_neg (by omega)] at hQ
    have hW : n_WF (w_am σ 123 0) := hok
    have a0 : w_am σ 123 0 0 0 = σ 122 3 := rfl
    have a1 : w_am σ 123 0 0 1 = σ 123 42 := rfl
    generalize hA : w_am σ 123 0 = A at *
    have hB7 : n_s A ≤ 7 := by omega
    have hn4 : n_n A ≤ 4 := by omega
    have p7 := pow7 hB7 hn4
    have hfl12 : ∀ k, sn_f A k = -4 ∨ (0 ≤ sn_f A k ∧ sn_f A k ≤ 12) := fun k => by have := sn_f_le hW k; omega
    refine (w_loop (n := n_s A ^ n_n A) (P := fun k => ∀ τ : w_M, w_f1 σ τ 124 → LModel_begin_24 xs (d + 6) Q x1 (sn_F (sn_f A) k).1 (sn_F (sn_f A) k).2 (k : Int) τ) ?_ ?_) σ w_f1.rfl'
    · intro τ F
      have z2 : τ 122 = σ 122 := F 122 (by decide)
      have hsn := sn_F_le hfl12 (n_s A ^ n_n A)
      refine bModel_begin_24 ⟨⟨by rw [z2]; omega, by rw [z2]; exact hn⟩, fun y ey => ?_⟩
      unfold v_Model_rowsOf at ey
      rw [z2, ← es, ← en] at ey
      refine ⟨fun _ => ⟨fun c => ⟨fun c2 => ⟨⟨by omega, by omega⟩, ⟨by omega, by rw [z2]; omega, by rw [z2]; omega, by rw [z2]; omega⟩, fun y2 e2 => ?_⟩, fun c2 => ?_⟩, fun c => ?_⟩, fun h => by omega⟩
      · rw [if_neg c, if_neg c2] at hQ
        refine hQ _ _ (m_qs hM F ?_)
        rw [e2]
        unfold v_Model_toldBy
        rw [z2, ← es, ← en]
      · rw [if_neg c, if_pos c2] at hQ
        exact hQ _ _ (m_qs hM F rfl)
      · rw [if_pos c] at hQ
        exact hQ _ _ (m_qs hM F rfl)
    · intro k hk ih τ F
      have z2 : τ 122 = σ 122 := F 122 (by decide)
      have z3 : τ 123 = σ 123 := F 123 (by decide)
      refine bModel_begin_24 ⟨⟨by rw [z2]; omega, by rw [z2]; exact hn⟩, fun y ey => ?_⟩
      unfold v_Model_rowsOf at ey
      rw [z2, ← es, ← en] at ey
      refine ⟨fun h => by omega, fun _ => ⟨⟨⟨by unfold m_sm; rw [z2]; exact hM.sm, by omega, by omega⟩, by rw [z2]; exact hs, by rw [z2]; exact hn, by rw [z2]; omega⟩, fun τ3 hq3 => ?_⟩⟩
      obtain ⟨a3, F3⟩ := hq3
      have eA2 : w_am τ 123 0 = A := by rw [← hA]; exact w_am_fr (by rw [z2]; exact ⟨rfl, rfl, rfl⟩) z3
      rw [eA2, Int.toNat_natCast] at a3
      have W3 : n_WF (n_row A k) := n_row_WF hW hs1 k
      refine ⟨by unfold p_Model_doneBehind m_ok; rw [a3]; exact W3, fun y6 τ7 hq7 => ?_⟩
      obtain ⟨-, ey6, F7⟩ := hq7
      rw [a3] at ey6
      have ey6' : y6 = sn_f A k := ey6
      have F7' : w_f1 σ τ7 124 := (F.tr F3).tr F7
      simp only [sn_F] at ih
      rw [w_cs1] at ih
      refine ⟨fun c => ⟨⟨by omega, by omega⟩, ?_⟩, fun c => ⟨fun c2 => ⟨⟨by omega, by omega⟩, ?_⟩, fun c2 => ⟨⟨by omega, by omega⟩, ?_⟩⟩⟩
      · rw [if_neg (fun q => q.1 (by omega))] at ih
        exact ih τ7 F7'
      · rw [if_neg (fun q => by have := q.2; omega)] at ih
        exact ih τ7 F7'
      · rw [if_pos ⟨by omega, by omega⟩] at ih
        rw [ey6']
        exact ih τ7 F7'
  have hi := w_wr10 hx hn
  refine bModel_begin_0 ⟨fun c => ⟨fun c2 => st (Or.inl c) (Or.inl c2), fun c2 => ⟨fun c3 => main (Or.inl c) c2 c3, fun c3 => st (Or.inl c) (Or.inr c3)⟩⟩, fun c => ⟨hn, fun ca => ⟨fun c2 => st (Or.inr (hi.mp ca)) (Or.inl c2), fun c2 => ⟨fun c3 => main (Or.inr (hi.mp ca)) c2 c3, fun c3 => st (Or.inr (hi.mp ca)) (Or.inr c3)⟩⟩, fun ca => ?_⟩⟩
  rw [if_neg (fun q => q.elim c (fun q => ca (hi.mpr q)))] at hQ
  exact hQ _ _ (m_qr hM rfl)
