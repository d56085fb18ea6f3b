/-! The least oil of all -/
noncomputable def mc_v (A : w_M) (r v : Nat) : Int := A 3 r * (n_cutF A r (v : Int) (n_lft A 12)).2.2
noncomputable def p_Plan_countMostCut (b : Nat) (σ : w_M) : Prop := n_ok σ b ∧ b + 9 ≤ 32
noncomputable def q_Plan_countMostCut (b : Nat) (σ σ' : w_M) : Prop := (∀ r, r < n_n (w_ab σ b) → ∀ v, v < 10 → σ' (46 + r) v = mc_v (w_ab σ b) r v) ∧ ∀ c, c < 46 ∨ 50 ≤ c → σ' c = σ c
theorem mc_le {A : w_M} (h : n_WF A) {r v : Nat} (hr : r < n_n A) (hv : v < 10) : 0 ≤ mc_v A r v ∧ mc_v A r v ≤ 108 := by
  have a := (h.r hr).1
  have l := n_left_lft h (n := 12) (by decide)
  have b := (n_cutF_le h hr (o := (v : Int)) (by omega) (n_lft A 12)).2.2
  unfold mc_v
  exact ⟨Int.mul_nonneg (by omega) b.1, by have := Int.mul_le_mul a.2 (show (n_cutF A r (v : Int) (n_lft A 12)).2.2 ≤ 12 by omega) b.1 (by decide); omega⟩
theorem fPlan_countMostCut_0 : w_fe am_c77 0 1 (.bipush 0) := ⟨rfl, rfl⟩
theorem fPlan_countMostCut_1 : w_fe am_c77 1 2 (.istore 2) := ⟨rfl, rfl⟩
theorem fPlan_countMostCut_2 : w_fe am_c77 2 3 (.iload 2) := ⟨rfl, rfl⟩
theorem fPlan_countMostCut_3 : w_fe am_c77 3 4 (.aload 1) := ⟨rfl, rfl⟩
theorem fPlan_countMostCut_4 : w_fe am_c77 4 5 (.getfield 205) := ⟨rfl, rfl⟩
theorem fPlan_countMostCut_5 : w_ic am_c77 5 6 .ge 31 := ⟨rfl, rfl⟩
theorem fPlan_countMostCut_6 : w_fe am_c77 6 7 (.bipush 0) := ⟨rfl, rfl⟩
theorem fPlan_countMostCut_7 : w_fe am_c77 7 8 (.istore 3) := ⟨rfl, rfl⟩
theorem fPlan_countMostCut_8 : w_fe am_c77 8 9 (.iload 3) := ⟨rfl, rfl⟩
theorem fPlan_countMostCut_9 : w_fe am_c77 9 10 (.bipush 10) := ⟨rfl, rfl⟩
theorem fPlan_countMostCut_10 : w_ic am_c77 10 11 .ge 29 := ⟨rfl, rfl⟩
theorem fPlan_countMostCut_11 : w_fe am_c77 11 12 (.aload 0) := ⟨rfl, rfl⟩
theorem fPlan_countMostCut_12 : w_fe am_c77 12 13 (.getfield 605) := ⟨rfl, rfl⟩
theorem fPlan_countMostCut_13 : w_fe am_c77 13 14 (.iload 2) := ⟨rfl, rfl⟩
theorem fPlan_countMostCut_14 : w_fe am_c77 14 15 (.aaload) := ⟨rfl, rfl⟩
theorem fPlan_countMostCut_15 : w_fe am_c77 15 16 (.iload 3) := ⟨rfl, rfl⟩
theorem fPlan_countMostCut_16 : w_fe am_c77 16 17 (.aload 1) := ⟨rfl, rfl⟩
theorem fPlan_countMostCut_17 : w_fe am_c77 17 18 (.getfield 209) := ⟨rfl, rfl⟩
theorem fPlan_countMostCut_18 : w_fe am_c77 18 19 (.iload 2) := ⟨rfl, rfl⟩
theorem fPlan_countMostCut_19 : w_fe am_c77 19 20 (.iaload) := ⟨rfl, rfl⟩
theorem fPlan_countMostCut_20 : w_fe am_c77 20 21 (.aload 1) := ⟨rfl, rfl⟩
theorem fPlan_countMostCut_21 : w_fe am_c77 21 22 (.iload 2) := ⟨rfl, rfl⟩
theorem fPlan_countMostCut_22 : w_fe am_c77 22 23 (.iload 3) := ⟨rfl, rfl⟩
theorem fPlan_countMostCut_23 : w_fe am_c77 23 24 (.bipush 12) := ⟨rfl, rfl⟩
theorem fPlan_countMostCut_24 : w_fe am_c77 24 25 (.invokestatic 46) := ⟨rfl, rfl⟩
theorem fPlan_countMostCut_25 : w_fe am_c77 25 26 (.imul) := ⟨rfl, rfl⟩
theorem fPlan_countMostCut_26 : w_fe am_c77 26 27 (.iastore) := ⟨rfl, rfl⟩
theorem fPlan_countMostCut_27 : w_fe am_c77 27 28 (.iinc 3 1) := ⟨rfl, rfl⟩
theorem fPlan_countMostCut_28 : w_gt am_c77 28 8 := rfl
theorem fPlan_countMostCut_29 : w_fe am_c77 29 30 (.iinc 2 1) := ⟨rfl, rfl⟩
theorem fPlan_countMostCut_30 : w_gt am_c77 30 2 := rfl
theorem fPlan_countMostCut_31 : w_fe am_c77 31 32 (.return_) := ⟨rfl, rfl⟩
noncomputable def LPlan_countMostCut_2 (xs : List Int) (d : Nat) (Q : Option w_V → w_M → Prop) (r1 : Nat) (v2 : Int) (σ : w_M) : Prop := ∀ l3, w_nl l3 → w_Ex (xs, d) 0 am_c77 Q 2 [some (.inr (.inr (6, 31))), some (.inr (.inr (2, r1))), some (.inl v2), l3] [] σ
noncomputable def LPlan_countMostCut_8 (xs : List Int) (d : Nat) (Q : Option w_V → w_M → Prop) (r1 : Nat) (v2 : Int) (v3 : Int) (σ : w_M) : Prop := w_Ex (xs, d) 0 am_c77 Q 8 [some (.inr (.inr (6, 31))), some (.inr (.inr (2, r1))), some (.inl v2), some (.inl v3)] [] σ
set_option maxRecDepth 20000 in
theorem bPlan_countMostCut_0 {xs : List Int} {d : Nat} {Q : Option w_V → w_M → Prop} {b : Nat} {σ : w_M}
    (h : LPlan_countMostCut_2 xs (d + 2) Q b 0 σ) : w_Call (xs, (d + 2)) 77 [.inr (.inr (6, 31)), .inr (.inr (2, b))] σ Q :=
  (w_mk (mid := 77) (by decide) rfl rfl rfl rfl rfl (Nat.le_of_ble_eq_true rfl) ⟨rfl, Or.inl (by decide)⟩ (wi_bipush fPlan_countMostCut_0 (wi_istore2 fPlan_countMostCut_1 trivial (h _ (by exact trivial)))))
set_option maxRecDepth 20000 in
theorem bPlan_countMostCut_2 {xs : List Int} {d : Nat} {Q : Option w_V → w_M → Prop} {r1 : Nat} {v2 : Int} {σ : w_M}
    (h : ((σ r1 5) ≤ v2 → Q none σ) ∧ (v2 < (σ r1 5) → LPlan_countMostCut_8 xs (d + 2) Q r1 v2 0 σ)) : LPlan_countMostCut_2 xs (d + 2) Q r1 v2 σ :=
  fun l3 nl3 => (wi_iload2 fPlan_countMostCut_2 (wi_aload1 fPlan_countMostCut_3 (wi_getf205 fPlan_countMostCut_4 (wi_ic_ge fPlan_countMostCut_5 (fun c1 => (wi_ret0 fPlan_countMostCut_31 (h.1 c1))) (fun c1 => (wi_bipush fPlan_countMostCut_6 (wi_istore3 fPlan_countMostCut_7 trivial (h.2 c1))))))))
set_option maxRecDepth 20000 in
theorem bPlan_countMostCut_8 {xs : List Int} {d : Nat} {Q : Option w_V → w_M → Prop} {r1 : Nat} {v2 : Int} {v3 : Int} {σ : w_M}
    (h : (10 ≤ v3 → (w_in (v2 + 1) ∧ LPlan_countMostCut_2 xs (d + 2) Q r1 (v2 + 1) σ)) ∧ (v3 < 10 → (0 ≤ v2 ∧ v2 < 4 ∧ p_Field_cutsAhead r1 v2 v3 12 σ ∧ (∀ (y1 : Int), y1 = v_Field_cutsAhead r1 v2 v3 12 σ → (w_in ((σ (r1 + 3) v2.toNat) * y1) ∧ 0 ≤ v3 ∧ (∀ (τ2 : w_M), τ2 = w_up σ (46 + v2.toNat) v3.toNat ((σ (r1 + 3) v2.toNat) * y1) → (w_in (v3 + 1) ∧ LPlan_countMostCut_8 xs (d + 2) Q r1 v2 (v3 + 1) τ2))))))) : LPlan_countMostCut_8 xs (d + 2) Q r1 v2 v3 σ :=
  (wi_iload3 fPlan_countMostCut_8 (wi_bipush fPlan_countMostCut_9 (wi_ic_ge fPlan_countMostCut_10 (fun c3 => (wi_iinc2 fPlan_countMostCut_29 trivial (h.1 c3).1 (wi_goto fPlan_countMostCut_30 ((h.1 c3).2 _ (by exact trivial))))) (fun c3 => (wi_aload0 fPlan_countMostCut_11 (wi_getf605 fPlan_countMostCut_12 (wi_iload2 fPlan_countMostCut_13 (wi_aald10410 fPlan_countMostCut_14 (h.2 c3).1 (h.2 c3).2.1 (wi_iload3 fPlan_countMostCut_15 (wi_aload1 fPlan_countMostCut_16 (wi_getf209 fPlan_countMostCut_17 (wi_iload2 fPlan_countMostCut_18 (wi_iald1004 fPlan_countMostCut_19 (h.2 c3).1 (h.2 c3).2.1 (wi_aload1 fPlan_countMostCut_20 (wi_iload2 fPlan_countMostCut_21 (wi_iload3 fPlan_countMostCut_22 (wi_bipush fPlan_countMostCut_23 (wi_call4 fPlan_countMostCut_24 (Nat.le_of_ble_eq_true rfl) (k_Field_cutsAhead (h.2 c3).2.2.1 (wi_imul fPlan_countMostCut_25 ((h.2 c3).2.2.2 _ rfl).1 (wi_iast1010 fPlan_countMostCut_26 ((h.2 c3).2.2.2 _ rfl).2.1 c3 (wi_iinc3 fPlan_countMostCut_27 trivial (((h.2 c3).2.2.2 _ rfl).2.2 _ rfl).1 (wi_goto fPlan_countMostCut_28 (((h.2 c3).2.2.2 _ rfl).2.2 _ rfl).2)))))))))))))))))))))))
theorem k_Plan_countMostCut {xs : List Int} {d : Nat} {Q : Option w_V → w_M → Prop} {b : Nat} {σ : w_M} (hp : p_Plan_countMostCut b σ) (hQ : ∀ σ' : w_M, q_Plan_countMostCut b σ σ' → Q none σ') : w_Call (xs, d + 2) 77 [.inr (.inr (6, 31)), .inr (.inr (2, b))] σ Q := by
  obtain ⟨hok, hb⟩ := hp
  have hn := n_ok.n hok
  have hW : n_WF (w_ab σ b) := hok
  have en : n_n (w_ab σ b) = (σ b 5).toNat := rfl
  have fab : ∀ τ : w_M, (∀ c, c < 46 ∨ 50 ≤ c → τ c = σ c) → w_ab τ b = w_ab σ b ∧ τ b = σ b := fun τ F => ⟨w_ab_fr (fun d hd => F _ (by omega)), F b (by omega)⟩
  refine bPlan_countMostCut_0 ?_
  refine (w_loop (n := (σ b 5).toNat) (P := fun r => ∀ τ : w_M, (∀ c, c < 46 ∨ 50 ≤ c → τ c = σ c) → (∀ q, q < r → ∀ v, v < 10 → τ (46 + q) v = mc_v (w_ab σ b) q v) → LPlan_countMostCut_2 xs (d + 2) Q b (r : Int) τ) ?_ ?_) σ (fun _ _ => rfl) (fun q hq => by omega)
  · intro τ F h
    obtain ⟨f1, f2⟩ := fab τ F
    exact bPlan_countMostCut_2 ⟨fun _ => hQ _ ⟨fun r hr => h r (by rw [en] at hr; exact hr), F⟩, fun h => by rw [f2] at h; omega⟩
  · intro r hr ih τ F h
    obtain ⟨f1, f2⟩ := fab τ F
    refine bPlan_countMostCut_2 ⟨fun h => by rw [f2] at h; omega, fun _ => ?_⟩
    refine (w_loop (n := 10) (P := fun v => ∀ τ : w_M, (∀ c, c < 46 ∨ 50 ≤ c → τ c = σ c) → (∀ q, q < r → ∀ v, v < 10 → τ (46 + q) v = mc_v (w_ab σ b) q v) → (∀ u, u < v → τ (46 + r) u = mc_v (w_ab σ b) r u) → LPlan_countMostCut_8 xs (d + 2) Q b (r : Int) (v : Int) τ) ?_ ?_) τ F h (fun u hu => by omega)
    · intro τ F h h2
      refine bPlan_countMostCut_8 ⟨fun _ => ⟨⟨by omega, by omega⟩, ?_⟩, fun h => by omega⟩
      rw [← w_cs1]
      refine ih τ F (fun q hq v hv => ?_)
      by_cases e : q = r
      · rw [e]; exact h2 v hv
      · exact h q (by omega) v hv
    · intro v hv ih2 τ F h h2
      obtain ⟨f1, f2⟩ := fab τ F
      have hr4 : r < n_n (w_ab σ b) := hr
      have ml := mc_le hW hr4 hv
      have e3 : τ (b + 3) r = w_ab σ b 3 r := by rw [← f1]; exact w_rd (by decide) (by rw [w_rl37 (by decide) (by decide), f2]; exact hr)
      refine bPlan_countMostCut_8 ⟨fun h => by omega, fun _ => ⟨by omega, by omega, ⟨n_ok.of f1 hW, by rw [f2]; omega, by omega, by decide⟩, fun y1 e1 => ?_⟩⟩
      unfold v_Field_cutsAhead at e1
      rw [f1, Int.toNat_natCast] at e1
      rw [Int.toNat_natCast, Int.toNat_natCast, e3]
      have ep : w_ab σ b 3 r * y1 = mc_v (w_ab σ b) r v := by rw [e1]; rfl
      rw [ep]
      refine ⟨⟨by omega, by omega⟩, by omega, fun τ2 t2 => ⟨⟨by omega, by omega⟩, ?_⟩⟩
      rw [← w_cs1]
      refine ih2 τ2 (fun c hc => by rw [t2, w_up_ne (by omega)]; exact F c hc) (fun q hq u hu => by rw [t2, w_up_ne (by omega)]; exact h q hq u hu) (fun u hu => ?_)
      rw [t2]
      by_cases e : u = v
      · rw [e, w_up_at]
      · rw [w_up_j e]; exact h2 u (by omega)
noncomputable def p_Plan_sumOfPicks (n : Int) (σ : w_M) : Prop := (0 ≤ n ∧ n ≤ 4) ∧ ∀ r, r < n.toNat → 0 ≤ σ 41 r ∧ σ 41 r ≤ 9
noncomputable def v_Plan_sumOfPicks (n : Int) (σ : w_M) : Int := f_sum (σ 41) n.toNat
theorem fPlan_sumOfPicks_0 : w_fe am_c78 0 1 (.bipush 0) := ⟨rfl, rfl⟩
theorem fPlan_sumOfPicks_1 : w_fe am_c78 1 2 (.istore 2) := ⟨rfl, rfl⟩
theorem fPlan_sumOfPicks_2 : w_fe am_c78 2 3 (.bipush 0) := ⟨rfl, rfl⟩
theorem fPlan_sumOfPicks_3 : w_fe am_c78 3 4 (.istore 3) := ⟨rfl, rfl⟩
theorem fPlan_sumOfPicks_4 : w_fe am_c78 4 5 (.iload 3) := ⟨rfl, rfl⟩
theorem fPlan_sumOfPicks_5 : w_fe am_c78 5 6 (.iload 1) := ⟨rfl, rfl⟩
theorem fPlan_sumOfPicks_6 : w_ic am_c78 6 7 .ge 16 := ⟨rfl, rfl⟩
theorem fPlan_sumOfPicks_7 : w_fe am_c78 7 8 (.iload 2) := ⟨rfl, rfl⟩
theorem fPlan_sumOfPicks_8 : w_fe am_c78 8 9 (.aload 0) := ⟨rfl, rfl⟩
theorem fPlan_sumOfPicks_9 : w_fe am_c78 9 10 (.getfield 601) := ⟨rfl, rfl⟩
theorem fPlan_sumOfPicks_10 : w_fe am_c78 10 11 (.iload 3) := ⟨rfl, rfl⟩
theorem fPlan_sumOfPicks_11 : w_fe am_c78 11 12 (.iaload) := ⟨rfl, rfl⟩
theorem fPlan_sumOfPicks_12 : w_fe am_c78 12 13 (.iadd) := ⟨rfl, rfl⟩
theorem fPlan_sumOfPicks_13 : w_fe am_c78 13 14 (.istore 2) := ⟨rfl, rfl⟩
theorem fPlan_sumOfPicks_14 : w_fe am_c78 14 15 (.iinc 3 1) := ⟨rfl, rfl⟩
theorem fPlan_sumOfPicks_15 : w_gt am_c78 15 4 := rfl
theorem fPlan_sumOfPicks_16 : w_fe am_c78 16 17 (.iload 2) := ⟨rfl, rfl⟩
theorem fPlan_sumOfPicks_17 : w_fe am_c78 17 18 (.ireturn) := ⟨rfl, rfl⟩
noncomputable def LPlan_sumOfPicks_4 (xs : List Int) (d : Nat) (Q : Option w_V → w_M → Prop) (v1 : Int) (v2 : Int) (v3 : Int) (σ : w_M) : Prop := w_Ex (xs, d) 1 am_c78 Q 4 [some (.inr (.inr (6, 31))), some (.inl v1), some (.inl v2), some (.inl v3)] [] σ
set_option maxRecDepth 20000 in
theorem bPlan_sumOfPicks_0 {xs : List Int} {d : Nat} {Q : Option w_V → w_M → Prop} {x1 : Int} {σ : w_M}
    (h : LPlan_sumOfPicks_4 xs d Q x1 0 0 σ) : w_Call (xs, d) 78 [.inr (.inr (6, 31)), .inl x1] σ Q :=
  (w_mk (mid := 78) (by decide) rfl rfl rfl rfl rfl (Nat.le_of_ble_eq_true rfl) ⟨rfl, Or.inl (by decide)⟩ (wi_bipush fPlan_sumOfPicks_0 (wi_istore2 fPlan_sumOfPicks_1 trivial (wi_bipush fPlan_sumOfPicks_2 (wi_istore3 fPlan_sumOfPicks_3 trivial h)))))
set_option maxRecDepth 20000 in
theorem bPlan_sumOfPicks_4 {xs : List Int} {d : Nat} {Q : Option w_V → w_M → Prop} {v1 : Int} {v2 : Int} {v3 : Int} {σ : w_M}
    (h : (v1 ≤ v3 → Q (some (.inl v2)) σ) ∧ (v3 < v1 → (0 ≤ v3 ∧ v3 < 4 ∧ w_in (v2 + (σ 41 v3.toNat)) ∧ (∀ (y1 : Int), y1 = (v2 + (σ 41 v3.toNat)) → (w_in (v3 + 1) ∧ LPlan_sumOfPicks_4 xs d Q v1 y1 (v3 + 1) σ))))) : LPlan_sumOfPicks_4 xs d Q v1 v2 v3 σ :=
  (wi_iload3 fPlan_sumOfPicks_4 (wi_iload1 fPlan_sumOfPicks_5 (wi_ic_ge fPlan_sumOfPicks_6 (fun c2 => (wi_iload2 fPlan_sumOfPicks_16 (wi_ret1 fPlan_sumOfPicks_17 (h.1 c2)))) (fun c2 => (wi_iload2 fPlan_sumOfPicks_7 (wi_aload0 fPlan_sumOfPicks_8 (wi_getf601 fPlan_sumOfPicks_9 (wi_iload3 fPlan_sumOfPicks_10 (wi_iald1004 fPlan_sumOfPicks_11 (h.2 c2).1 (h.2 c2).2.1 (wi_iadd fPlan_sumOfPicks_12 (h.2 c2).2.2.1 (wi_istore2 fPlan_sumOfPicks_13 trivial (wi_iinc3 fPlan_sumOfPicks_14 trivial ((h.2 c2).2.2.2 _ rfl).1 (wi_goto fPlan_sumOfPicks_15 ((h.2 c2).2.2.2 _ rfl).2)))))))))))))
theorem k_Plan_sumOfPicks {xs : List Int} {d : Nat} {Q : Option w_V → w_M → Prop} {x1 : Int} {σ : w_M} (hp : p_Plan_sumOfPicks x1 σ) (hQ : Q (some (.inl (v_Plan_sumOfPicks x1 σ))) σ) : w_Call (xs, d) 78 [.inr (.inr (6, 31)), .inl x1] σ Q := by
  obtain ⟨hn, hv⟩ := hp
  refine bPlan_sumOfPicks_0 ?_
  refine w_loop (n := x1.toNat) (P := fun i => LPlan_sumOfPicks_4 xs d Q x1 (f_sum (σ 41) i) (i : Int) σ) ?_ ?_
  · exact bPlan_sumOfPicks_4 ⟨fun _ => hQ, fun h => by omega⟩
  · intro i hi ih
    have h1 := hv i hi
    have h2 := f_sum_le (f := σ 41) (B := 9) (m := x1.toNat) hv (Nat.le_of_lt hi)
    simp only [f_sum] at ih
    rw [w_cs1] at ih
    refine bPlan_sumOfPicks_4 ⟨fun h => by omega, fun _ => ⟨by omega, by omega, ?_⟩⟩
    rw [Int.toNat_natCast]
    exact ⟨⟨by omega, by omega⟩, fun y ey => ⟨⟨by omega, by omega⟩, by rw [ey]; exact ih⟩⟩
noncomputable def p_Plan_mostCutByPicks (n : Int) (σ : w_M) : Prop := (0 ≤ n ∧ n ≤ 4) ∧ ∀ r, r < n.toNat → (0 ≤ σ 41 r ∧ σ 41 r ≤ 9) ∧ (0 ≤ σ (46 + r) (σ 41 r).toNat ∧ σ (46 + r) (σ 41 r).toNat ≤ 108)
noncomputable def v_Plan_mostCutByPicks (n : Int) (σ : w_M) : Int := f_sum (fun r => σ (46 + r) (σ 41 r).toNat) n.toNat
theorem fPlan_mostCutByPicks_0 : w_fe am_c79 0 1 (.bipush 0) := ⟨rfl, rfl⟩
theorem fPlan_mostCutByPicks_1 : w_fe am_c79 1 2 (.istore 2) := ⟨rfl, rfl⟩
theorem fPlan_mostCutByPicks_2 : w_fe am_c79 2 3 (.bipush 0) := ⟨rfl, rfl⟩
theorem fPlan_mostCutByPicks_3 : w_fe am_c79 3 4 (.istore 3) := ⟨rfl, rfl⟩
theorem fPlan_mostCutByPicks_4 : w_fe am_c79 4 5 (.iload 3) := ⟨rfl, rfl⟩
theorem fPlan_mostCutByPicks_5 : w_fe am_c79 5 6 (.iload 1) := ⟨rfl, rfl⟩
theorem fPlan_mostCutByPicks_6 : w_ic am_c79 6 7 .ge 28 := ⟨rfl, rfl⟩
theorem fPlan_mostCutByPicks_7 : w_fe am_c79 7 8 (.aload 0) := ⟨rfl, rfl⟩
theorem fPlan_mostCutByPicks_8 : w_fe am_c79 8 9 (.getfield 601) := ⟨rfl, rfl⟩
theorem fPlan_mostCutByPicks_9 : w_fe am_c79 9 10 (.iload 3) := ⟨rfl, rfl⟩
theorem fPlan_mostCutByPicks_10 : w_fe am_c79 10 11 (.iaload) := ⟨rfl, rfl⟩
theorem fPlan_mostCutByPicks_11 : w_fe am_c79 11 12 (.istore 4) := ⟨rfl, rfl⟩
theorem fPlan_mostCutByPicks_12 : w_fe am_c79 12 13 (.iload 4) := ⟨rfl, rfl⟩
theorem fPlan_mostCutByPicks_13 : w_if am_c79 13 14 .lt 26 := ⟨rfl, rfl⟩
theorem fPlan_mostCutByPicks_14 : w_fe am_c79 14 15 (.iload 4) := ⟨rfl, rfl⟩
theorem fPlan_mostCutByPicks_15 : w_fe am_c79 15 16 (.bipush 10) := ⟨rfl, rfl⟩
theorem fPlan_mostCutByPicks_16 : w_ic am_c79 16 17 .ge 26 := ⟨rfl, rfl⟩
theorem fPlan_mostCutByPicks_17 : w_fe am_c79 17 18 (.iload 2) := ⟨rfl, rfl⟩
theorem fPlan_mostCutByPicks_18 : w_fe am_c79 18 19 (.aload 0) := ⟨rfl, rfl⟩
theorem fPlan_mostCutByPicks_19 : w_fe am_c79 19 20 (.getfield 605) := ⟨rfl, rfl⟩
theorem fPlan_mostCutByPicks_20 : w_fe am_c79 20 21 (.iload 3) := ⟨rfl, rfl⟩
theorem fPlan_mostCutByPicks_21 : w_fe am_c79 21 22 (.aaload) := ⟨rfl, rfl⟩
theorem fPlan_mostCutByPicks_22 : w_fe am_c79 22 23 (.iload 4) := ⟨rfl, rfl⟩
theorem fPlan_mostCutByPicks_23 : w_fe am_c79 23 24 (.iaload) := ⟨rfl, rfl⟩
theorem fPlan_mostCutByPicks_24 : w_fe am_c79 24 25 (.iadd) := ⟨rfl, rfl⟩
theorem fPlan_mostCutByPicks_25 : w_fe am_c79 25 26 (.istore 2) := ⟨rfl, rfl⟩
theorem fPlan_mostCutByPicks_26 : w_fe am_c79 26 27 (.iinc 3 1) := ⟨rfl, rfl⟩
theorem fPlan_mostCutByPicks_27 : w_gt am_c79 27 4 := rfl
theorem fPlan_mostCutByPicks_28 : w_fe am_c79 28 29 (.iload 2) := ⟨rfl, rfl⟩
theorem fPlan_mostCutByPicks_29 : w_fe am_c79 29 30 (.ireturn) := ⟨rfl, rfl⟩
noncomputable def LPlan_mostCutByPicks_4 (xs : List Int) (d : Nat) (Q : Option w_V → w_M → Prop) (v1 : Int) (v2 : Int) (v3 : Int) (σ : w_M) : Prop := ∀ l4, w_nl l4 → w_Ex (xs, d) 1 am_c79 Q 4 [some (.inr (.inr (6, 31))), some (.inl v1), some (.inl v2), some (.inl v3), l4] [] σ
set_option maxRecDepth 20000 in
theorem bPlan_mostCutByPicks_0 {xs : List Int} {d : Nat} {Q : Option w_V → w_M → Prop} {x1 : Int} {σ : w_M}
    (h : LPlan_mostCutByPicks_4 xs d Q x1 0 0 σ) : w_Call (xs, d) 79 [.inr (.inr (6, 31)), .inl x1] σ Q :=
  (w_mk (mid := 79) (by decide) rfl rfl rfl rfl rfl (Nat.le_of_ble_eq_true rfl) ⟨rfl, Or.inl (by decide)⟩ (wi_bipush fPlan_mostCutByPicks_0 (wi_istore2 fPlan_mostCutByPicks_1 trivial (wi_bipush fPlan_mostCutByPicks_2 (wi_istore3 fPlan_mostCutByPicks_3 trivial (h _ (by exact trivial)))))))
set_option maxRecDepth 20000 in
theorem bPlan_mostCutByPicks_4 {xs : List Int} {d : Nat} {Q : Option w_V → w_M → Prop} {v1 : Int} {v2 : Int} {v3 : Int} {σ : w_M}
    (h : (v1 ≤ v3 → Q (some (.inl v2)) σ) ∧ (v3 < v1 → (0 ≤ v3 ∧ v3 < 4 ∧ (∀ (y1 : Int), y1 = (σ 41 v3.toNat) → ((y1 < 0 → (w_in (v3 + 1) ∧ LPlan_mostCutByPicks_4 xs d Q v1 v2 (v3 + 1) σ)) ∧ (0 ≤ y1 → ((10 ≤ y1 → (w_in (v3 + 1) ∧ LPlan_mostCutByPicks_4 xs d Q v1 v2 (v3 + 1) σ)) ∧ (y1 < 10 → (w_in (v2 + (σ (46 + v3.toNat) y1.toNat)) ∧ (∀ (y2 : Int), y2 = (v2 + (σ (46 + v3.toNat) y1.toNat)) → (w_in (v3 + 1) ∧ LPlan_mostCutByPicks_4 xs d Q v1 y2 (v3 + 1) σ))))))))))) : LPlan_mostCutByPicks_4 xs d Q v1 v2 v3 σ :=
  fun l4 nl4 => (wi_iload3 fPlan_mostCutByPicks_4 (wi_iload1 fPlan_mostCutByPicks_5 (wi_ic_ge fPlan_mostCutByPicks_6 (fun c5 => (wi_iload2 fPlan_mostCutByPicks_28 (wi_ret1 fPlan_mostCutByPicks_29 (h.1 c5)))) (fun c5 => (wi_aload0 fPlan_mostCutByPicks_7 (wi_getf601 fPlan_mostCutByPicks_8 (wi_iload3 fPlan_mostCutByPicks_9 (wi_iald1004 fPlan_mostCutByPicks_10 (h.2 c5).1 (h.2 c5).2.1 (wi_istore4 fPlan_mostCutByPicks_11 trivial (wi_iload4 fPlan_mostCutByPicks_12 (wi_if_lt fPlan_mostCutByPicks_13 (fun c4 => (wi_iinc3 fPlan_mostCutByPicks_26 trivial (((h.2 c5).2.2 _ rfl).1 c4).1 (wi_goto fPlan_mostCutByPicks_27 ((((h.2 c5).2.2 _ rfl).1 c4).2 _ (by exact trivial))))) (fun c4 => (wi_iload4 fPlan_mostCutByPicks_14 (wi_bipush fPlan_mostCutByPicks_15 (wi_ic_ge fPlan_mostCutByPicks_16 (fun c3 => (wi_iinc3 fPlan_mostCutByPicks_26 trivial ((((h.2 c5).2.2 _ rfl).2 c4).1 c3).1 (wi_goto fPlan_mostCutByPicks_27 (((((h.2 c5).2.2 _ rfl).2 c4).1 c3).2 _ (by exact trivial))))) (fun c3 => (wi_iload2 fPlan_mostCutByPicks_17 (wi_aload0 fPlan_mostCutByPicks_18 (wi_getf605 fPlan_mostCutByPicks_19 (wi_iload3 fPlan_mostCutByPicks_20 (wi_aald10410 fPlan_mostCutByPicks_21 (h.2 c5).1 (h.2 c5).2.1 (wi_iload4 fPlan_mostCutByPicks_22 (wi_iald1010 fPlan_mostCutByPicks_23 c4 c3 (wi_iadd fPlan_mostCutByPicks_24 ((((h.2 c5).2.2 _ rfl).2 c4).2 c3).1 (wi_istore2 fPlan_mostCutByPicks_25 trivial (wi_iinc3 fPlan_mostCutByPicks_26 trivial (((((h.2 c5).2.2 _ rfl).2 c4).2 c3).2 _ rfl).1 (wi_goto fPlan_mostCutByPicks_27 ((((((h.2 c5).2.2 _ rfl).2 c4).2 c3).2 _ rfl).2 _ (by exact trivial)))))))))))))))))))))))))))))
theorem k_Plan_mostCutByPicks {xs : List Int} {d : Nat} {Q : Option w_V → w_M → Prop} {x1 : Int} {σ : w_M} (hp : p_Plan_mostCutByPicks x1 σ) (hQ : Q (some (.inl (v_Plan_mostCutByPicks x1 σ))) σ) : w_Call (xs, d) 79 [.inr (.inr (6, 31)), .inl x1] σ Q := by
  obtain ⟨hn, hv⟩ := hp
  refine bPlan_mostCutByPicks_0 ?_
  refine w_loop (n := x1.toNat) (P := fun i => LPlan_mostCutByPicks_4 xs d Q x1 (f_sum (fun r => σ (46 + r) (σ 41 r).toNat) i) (i : Int) σ) ?_ ?_
  · exact bPlan_mostCutByPicks_4 ⟨fun _ => hQ, fun h => by omega⟩
  · intro i hi ih
    have h1 := hv i hi
    have h2 := f_sum_le (f := fun r => σ (46 + r) (σ 41 r).toNat) (B := 108) (m := x1.toNat) (fun r hr => (hv r hr).2) (Nat.le_of_lt hi)
    simp only [f_sum] at ih
    rw [w_cs1] at ih
    refine bPlan_mostCutByPicks_4 ⟨fun h => by omega, fun _ => ⟨by omega, by omega, fun y1 e1 => ?_⟩⟩
    rw [Int.toNat_natCast] at e1
    rw [Int.toNat_natCast, e1]
    exact ⟨fun h => by omega, fun _ => ⟨fun h => by omega, fun _ => ⟨⟨by omega, by omega⟩, fun y ey => ⟨⟨by omega, by omega⟩, by rw [ey]; exact ih⟩⟩⟩⟩
noncomputable def p_Plan_isDoneByPicks (b : Nat) (sp : Int) (σ : w_M) : Prop := (n_ok σ b ∧ b + 9 ≤ 32) ∧ (∀ r, r < n_n (w_ab σ b) → 0 ≤ σ 41 r ∧ σ 41 r ≤ 9) ∧ sp = n_rch (n_bo (w_ab σ b) (σ 41)) (n_lft (w_ab σ b) 12) - n_sd (w_ab σ b)
noncomputable def q_Plan_isDoneByPicks (b : Nat) (_sp : Int) (σ : w_M) (x : Int) (σ' : w_M) : Prop := ((x = 0 ∧ n_done (n_bo (w_ab σ b) (σ 41)) = -4) ∨ (x = 1 ∧ ¬ n_done (n_bo (w_ab σ b) (σ 41)) = -4)) ∧ w_fr σ σ' 32 41
theorem fPlan_isDoneByPicks_0 : w_fe am_c80 0 1 (.iload 2) := ⟨rfl, rfl⟩
theorem fPlan_isDoneByPicks_1 : w_if am_c80 1 2 .ge 4 := ⟨rfl, rfl⟩
theorem fPlan_isDoneByPicks_2 : w_fe am_c80 2 3 (.bipush 0) := ⟨rfl, rfl⟩
theorem fPlan_isDoneByPicks_3 : w_fe am_c80 3 4 (.ireturn) := ⟨rfl, rfl⟩
theorem fPlan_isDoneByPicks_4 : w_fe am_c80 4 5 (.aload 0) := ⟨rfl, rfl⟩
theorem fPlan_isDoneByPicks_5 : w_fe am_c80 5 6 (.getfield 600) := ⟨rfl, rfl⟩
theorem fPlan_isDoneByPicks_6 : w_fe am_c80 6 7 (.aload 1) := ⟨rfl, rfl⟩
theorem fPlan_isDoneByPicks_7 : w_fe am_c80 7 8 (.invokestatic 34) := ⟨rfl, rfl⟩
theorem fPlan_isDoneByPicks_8 : w_fe am_c80 8 9 (.aload 0) := ⟨rfl, rfl⟩
theorem fPlan_isDoneByPicks_9 : w_fe am_c80 9 10 (.getfield 601) := ⟨rfl, rfl⟩
theorem fPlan_isDoneByPicks_10 : w_fe am_c80 10 11 (.bipush 0) := ⟨rfl, rfl⟩
theorem fPlan_isDoneByPicks_11 : w_fe am_c80 11 12 (.aload 0) := ⟨rfl, rfl⟩
theorem fPlan_isDoneByPicks_12 : w_fe am_c80 12 13 (.getfield 600) := ⟨rfl, rfl⟩
theorem fPlan_isDoneByPicks_13 : w_fe am_c80 13 14 (.getfield 210) := ⟨rfl, rfl⟩
theorem fPlan_isDoneByPicks_14 : w_fe am_c80 14 15 (.bipush 0) := ⟨rfl, rfl⟩
theorem fPlan_isDoneByPicks_15 : w_fe am_c80 15 16 (.bipush 4) := ⟨rfl, rfl⟩
theorem fPlan_isDoneByPicks_16 : w_fe am_c80 16 17 (.invokedynamic 0) := ⟨rfl, rfl⟩
theorem fPlan_isDoneByPicks_17 : w_fe am_c80 17 18 (.aload 0) := ⟨rfl, rfl⟩
theorem fPlan_isDoneByPicks_18 : w_fe am_c80 18 19 (.getfield 600) := ⟨rfl, rfl⟩
theorem fPlan_isDoneByPicks_19 : w_fe am_c80 19 20 (.bipush 12) := ⟨rfl, rfl⟩
theorem fPlan_isDoneByPicks_20 : w_fe am_c80 20 21 (.iload 2) := ⟨rfl, rfl⟩
theorem fPlan_isDoneByPicks_21 : w_fe am_c80 21 22 (.invokestatic 45) := ⟨rfl, rfl⟩
theorem fPlan_isDoneByPicks_22 : w_fe am_c80 22 23 (.bipush (-4)) := ⟨rfl, rfl⟩
theorem fPlan_isDoneByPicks_23 : w_ic am_c80 23 24 .eq 26 := ⟨rfl, rfl⟩
theorem fPlan_isDoneByPicks_24 : w_fe am_c80 24 25 (.bipush 1) := ⟨rfl, rfl⟩
theorem fPlan_isDoneByPicks_25 : w_gt am_c80 25 27 := rfl
theorem fPlan_isDoneByPicks_26 : w_fe am_c80 26 27 (.bipush 0) := ⟨rfl, rfl⟩
theorem fPlan_isDoneByPicks_27 : w_fe am_c80 27 28 (.ireturn) := ⟨rfl, rfl⟩
set_option maxRecDepth 20000 in
theorem bPlan_isDoneByPicks_0 {xs : List Int} {d : Nat} {Q : Option w_V → w_M → Prop} {b : Nat} {x2 : Int} {σ : w_M}
    (h : (0 ≤ x2 → (p_Field_copyFrom 32 b σ ∧ (∀ (τ1 : w_M), q_Field_copyFrom 32 b σ τ1 → ∀ (τ2 : w_M), τ2 = w_cpy τ1 41 36 0 0 4 → (p_Field_passUntilDone 32 12 x2 τ2 ∧ (∀ (y3 : Int) (τ4 : w_M), q_Field_passUntilDone 32 12 x2 τ2 y3 τ4 → ((y3 = (-4) → Q (some (.inl 0)) τ4) ∧ (¬ y3 = (-4) → Q (some (.inl 1)) τ4))))))) ∧ (x2 < 0 → Q (some (.inl 0)) σ)) : w_Call (xs, (d + 5)) 80 [.inr (.inr (6, 31)), .inr (.inr (2, b)), .inl x2] σ Q :=
  (w_mk (mid := 80) (by decide) rfl rfl rfl rfl rfl (Nat.le_of_ble_eq_true rfl) ⟨rfl, Or.inl (by decide)⟩ (wi_iload2 fPlan_isDoneByPicks_0 (wi_if_ge fPlan_isDoneByPicks_1 (fun c6 => (wi_aload0 fPlan_isDoneByPicks_4 (wi_getf600 fPlan_isDoneByPicks_5 (wi_aload1 fPlan_isDoneByPicks_6 (wi_call2 fPlan_isDoneByPicks_7 (Nat.le_of_ble_eq_true rfl) (k_Field_copyFrom (h.1 c6).1 (fun τ1 eτ1 => (wi_aload0 fPlan_isDoneByPicks_8 (wi_getf601 fPlan_isDoneByPicks_9 (wi_bipush fPlan_isDoneByPicks_10 (wi_aload0 fPlan_isDoneByPicks_11 (wi_getf600 fPlan_isDoneByPicks_12 (wi_getf210 fPlan_isDoneByPicks_13 (wi_bipush fPlan_isDoneByPicks_14 (wi_bipush fPlan_isDoneByPicks_15 (wi_acopy fPlan_isDoneByPicks_16 (by decide) (Nat.le_of_ble_eq_true rfl) (by decide) (by decide) (by decide) (by decide) (by decide) (wi_aload0 fPlan_isDoneByPicks_17 (wi_getf600 fPlan_isDoneByPicks_18 (wi_bipush fPlan_isDoneByPicks_19 (wi_iload2 fPlan_isDoneByPicks_20 (wi_call3 fPlan_isDoneByPicks_21 (Nat.le_of_ble_eq_true rfl) (k_Field_passUntilDone (((h.1 c6).2 τ1 eτ1) _ rfl).1 (fun y3 τ4 eτ4 => (wi_bipush fPlan_isDoneByPicks_22 (wi_ic_eq fPlan_isDoneByPicks_23 (fun c5 => (wi_bipush fPlan_isDoneByPicks_26 (wi_ret2 fPlan_isDoneByPicks_27 (by decide) (((((h.1 c6).2 τ1 eτ1) _ rfl).2 y3 τ4 eτ4).1 c5)))) (fun c5 => (wi_bipush fPlan_isDoneByPicks_24 (wi_goto fPlan_isDoneByPicks_25 (wi_ret2 fPlan_isDoneByPicks_27 (by decide) (((((h.1 c6).2 τ1 eτ1) _ rfl).2 y3 τ4 eτ4).2 c5)))))))))))))))))))))))))))))) (fun c6 => (wi_bipush fPlan_isDoneByPicks_2 (wi_ret2 fPlan_isDoneByPicks_3 (by decide) (h.2 c6)))))))
theorem n_lft_bo {A : w_M} {f : Nat → Int} {n : Int} : n_lft (n_bo A f) n = n_lft A n := by unfold n_lft; rw [n_bo_ne (by decide)]
theorem k_Plan_isDoneByPicks {xs : List Int} {d : Nat} {Q : Option w_V → w_M → Prop} {b : Nat} {x2 : Int} {σ : w_M} (hp : p_Plan_isDoneByPicks b x2 σ) (hQ : ∀ (x : Int) (σ' : w_M), q_Plan_isDoneByPicks b x2 σ x σ' → Q (some (.inl x)) σ') : w_Call (xs, d + 5) 80 [.inr (.inr (6, 31)), .inr (.inr (2, b)), .inl x2] σ Q := by
  obtain ⟨⟨hok, hb⟩, hv, hsp⟩ := hp
  have hn := n_ok.n hok
  have hrs := n_ok.hrs hok
  have hr := n_ok.hr hok
  have hW : n_WF (w_ab σ b) := hok
  have W := n_bo_WF hW hv
  have dl := n_done_le W
  have e0 : n_bo (w_ab σ b) (σ 41) 0 = w_ab σ b 0 := n_bo_ne (by decide)
  have a0 : w_ab σ b 0 0 = σ b 0 := rfl
  have a1 : w_ab σ b 0 1 = σ b 1 := rfl
  rw [e0, a0, a1] at dl
  refine bPlan_isDoneByPicks_0 ⟨fun c => ⟨⟨hok, Or.inr hb⟩, fun τ1 hq1 τ2 t2 => ?_⟩, fun c => ?_⟩
  · obtain ⟨q1, q2, q3⟩ := hq1
    have F2 : w_fr σ τ2 32 41 := fun c hc => by rw [t2, w_cpy_ne (by omega), q3 c hc]
    have ab2 : w_ab τ2 32 = n_bo (w_ab σ b) (σ 41) := by
      have z0 : τ2 32 = τ1 32 := by rw [t2, w_cpy_ne (by decide)]
      have z5 : τ1 32 5 = σ b 5 := congrFun (congrFun q1 0) 5
      have rl : ∀ d, w_rl τ2 32 d = w_rl τ1 32 d := fun d => by unfold w_rl; rw [z0]
      funext d i
      unfold n_bo
      by_cases c : d = 4 ∧ i < n_n (w_ab σ b)
      · rw [if_pos c, c.1, w_ab_row (by decide), rl, w_rl37 (by decide) (by decide)]
        have c2 : i < (σ b 5).toNat := c.2
        rw [if_pos (by rw [z5]; exact c2), t2]
        show w_cpy τ1 41 36 0 0 4 36 i = _
        rw [w_cpy_q, if_pos (by omega), Nat.zero_add, Nat.sub_zero, q3 41 (by omega)]
      · rw [if_neg c, ← q1]
        by_cases h9 : d < 9
        · rw [w_ab_row h9, w_ab_row h9, rl]
          by_cases hi : i < w_rl τ1 32 d
          · rw [if_pos hi, if_pos hi]
            by_cases h6 : d = 4
            · subst h6
              rw [w_rl37 (by decide) (by decide), z5] at hi
              exact absurd ⟨rfl, hi⟩ c
            · rw [t2, w_cpy_ne (by omega)]
          · rw [if_neg hi, if_neg hi]
        · by_cases h10 : d = 9
          · subst h10
            rw [w_ab_9, w_ab_9, z0]
          · rw [w_ab_10 (by omega), w_ab_10 (by omega)]
    refine ⟨⟨n_ok.of ab2 W, by decide, by decide⟩, fun y3 τ4 hq4 => ?_⟩
    obtain ⟨j, p1, p2, p3⟩ := hq4
    rw [ab2] at p2
    have ey := n_pud_cut W (by decide) (by rw [n_lft_bo, n_bo_sd]; omega) p2
    refine ⟨fun c4 => hQ _ _ ⟨Or.inl ⟨rfl, ?_⟩, F2.tr p3⟩, fun c4 => hQ _ _ ⟨Or.inr ⟨rfl, ?_⟩, F2.tr p3⟩⟩
    · by_cases h : n_done (n_bo (w_ab σ b) (σ 41)) = -4
      · exact h
      · rw [if_pos ⟨h, by omega⟩] at ey
        omega
    · intro h
      rw [if_neg (fun q => q.1 h)] at ey
      exact c4 ey
  · have no := n_done_cut W (most := 12) (Or.inr (by rw [n_lft_bo, n_bo_sd]; omega))
    refine hQ _ _ ⟨Or.inl ⟨rfl, ?_⟩, w_fr.rfl'⟩
    by_cases h : n_done (n_bo (w_ab σ b) (σ 41)) = -4
    · exact h
    · exact absurd ⟨h, by omega⟩ no
theorem n_rch_bo {A : w_M} {f : Nat → Int} (k : Nat) : n_rch (n_bo A f) k = f_sum (fun r => A 3 r * (n_cutF A r (f r) k).2.2) (n_n A) := by
  have e0 : n_bo A f 0 = A 0 := n_bo_ne (by decide)
  have key : ∀ (r : Nat) (o : Int) (k : Nat), n_cutF (n_bo A f) r o k = n_cutF A r o k := by
    intro r o k
    induction k with
    | zero => show (n_bo A f 5 r, o, (0 : Int)) = (A 5 r, o, 0); rw [n_bo_ne (by decide)]
    | succ k ih =>
      rw [n_cutF_s, n_cutF_s, ih]
      unfold n_cl
      rw [e0]
  unfold n_rch
  rw [n_bo_n]
  refine f_sum_congr (fun r hr => ?_)
  rw [key, n_bo_ne (by decide), n_bo_4 hr]
noncomputable def F_least (S : w_S) (w : Int) : Int := if w = 0 ∨ (10 ≤ w ∧ w - 10 < S 0 0 5) then
  (if (ls_F (lo_s (S 0) 10) (lo_d (S 0) 10) (10 ^ n_n (S 0))).2 = -4 then -4 else if w = 0 then (ls_F (lo_s (S 0) 10) (lo_d (S 0) 10) (10 ^ n_n (S 0))).1 else ((dg 10 (n_n (S 0)) (ls_F (lo_s (S 0) 10) (lo_d (S 0) 10) (10 ^ n_n (S 0))).2.toNat (w - 10).toNat : Nat) : Int)) else -1
noncomputable def p_Plan_leastOilOfAll (b : Nat) (σ : w_M) : Prop := n_ok σ b ∧ b + 9 ≤ 32
noncomputable def q_Plan_leastOilOfAll (b : Nat) (σ : w_M) (x : Int) (σ' : w_M) : Prop := x = (if (ls_F (lo_s (w_ab σ b) 10) (lo_d (w_ab σ b) 10) (10 ^ n_n (w_ab σ b))).2 = -4 then -4 else (ls_F (lo_s (w_ab σ b) 10) (lo_d (w_ab σ b) 10) (10 ^ n_n (w_ab σ b))).1) ∧ (¬ (ls_F (lo_s (w_ab σ b) 10) (lo_d (w_ab σ b) 10) (10 ^ n_n (w_ab σ b))).2 = -4 → ∀ r, r < n_n (w_ab σ b) → σ' 43 r = ((dg 10 (n_n (w_ab σ b)) (ls_F (lo_s (w_ab σ b) 10) (lo_d (w_ab σ b) 10) (10 ^ n_n (w_ab σ b))).2.toNat r : Nat) : Int)) ∧ w_fr σ σ' 31 80
theorem fPlan_leastOilOfAll_0 : w_fe am_c76 0 1 (.aload 0) := ⟨rfl, rfl⟩
theorem fPlan_leastOilOfAll_1 : w_fe am_c76 1 2 (.bipush 9) := ⟨rfl, rfl⟩
theorem fPlan_leastOilOfAll_2 : w_fe am_c76 2 3 (.aload 1) := ⟨rfl, rfl⟩
theorem fPlan_leastOilOfAll_3 : w_fe am_c76 3 4 (.invokestatic 47) := ⟨rfl, rfl⟩
theorem fPlan_leastOilOfAll_4 : w_fe am_c76 4 5 (.invokestatic 1) := ⟨rfl, rfl⟩
theorem fPlan_leastOilOfAll_5 : w_fe am_c76 5 6 (.invokestatic 68) := ⟨rfl, rfl⟩
theorem fPlan_leastOilOfAll_6 : w_fe am_c76 6 7 (.aload 0) := ⟨rfl, rfl⟩
theorem fPlan_leastOilOfAll_7 : w_fe am_c76 7 8 (.aload 1) := ⟨rfl, rfl⟩
theorem fPlan_leastOilOfAll_8 : w_fe am_c76 8 9 (.invokestatic 77) := ⟨rfl, rfl⟩
theorem fPlan_leastOilOfAll_9 : w_fe am_c76 9 10 (.aload 1) := ⟨rfl, rfl⟩
theorem fPlan_leastOilOfAll_10 : w_fe am_c76 10 11 (.invokestatic 35) := ⟨rfl, rfl⟩
theorem fPlan_leastOilOfAll_11 : w_fe am_c76 11 12 (.istore 2) := ⟨rfl, rfl⟩
theorem fPlan_leastOilOfAll_12 : w_fe am_c76 12 13 (.bipush (-4)) := ⟨rfl, rfl⟩
theorem fPlan_leastOilOfAll_13 : w_fe am_c76 13 14 (.istore 3) := ⟨rfl, rfl⟩
theorem fPlan_leastOilOfAll_14 : w_fe am_c76 14 15 (.bipush 0) := ⟨rfl, rfl⟩
theorem fPlan_leastOilOfAll_15 : w_fe am_c76 15 16 (.istore 4) := ⟨rfl, rfl⟩
theorem fPlan_leastOilOfAll_16 : w_fe am_c76 16 17 (.iload 4) := ⟨rfl, rfl⟩
theorem fPlan_leastOilOfAll_17 : w_fe am_c76 17 18 (.bipush 10000) := ⟨rfl, rfl⟩
theorem fPlan_leastOilOfAll_18 : w_ic am_c76 18 19 .ge 54 := ⟨rfl, rfl⟩
theorem fPlan_leastOilOfAll_19 : w_fe am_c76 19 20 (.aload 0) := ⟨rfl, rfl⟩
theorem fPlan_leastOilOfAll_20 : w_fe am_c76 20 21 (.aload 1) := ⟨rfl, rfl⟩
theorem fPlan_leastOilOfAll_21 : w_fe am_c76 21 22 (.getfield 205) := ⟨rfl, rfl⟩
theorem fPlan_leastOilOfAll_22 : w_fe am_c76 22 23 (.invokestatic 78) := ⟨rfl, rfl⟩
theorem fPlan_leastOilOfAll_23 : w_fe am_c76 23 24 (.istore 5) := ⟨rfl, rfl⟩
theorem fPlan_leastOilOfAll_24 : w_fe am_c76 24 25 (.iload 3) := ⟨rfl, rfl⟩
theorem fPlan_leastOilOfAll_25 : w_fe am_c76 25 26 (.bipush (-4)) := ⟨rfl, rfl⟩
theorem fPlan_leastOilOfAll_26 : w_ic am_c76 26 27 .eq 30 := ⟨rfl, rfl⟩
theorem fPlan_leastOilOfAll_27 : w_fe am_c76 27 28 (.iload 5) := ⟨rfl, rfl⟩
theorem fPlan_leastOilOfAll_28 : w_fe am_c76 28 29 (.iload 3) := ⟨rfl, rfl⟩
theorem fPlan_leastOilOfAll_29 : w_ic am_c76 29 30 .ge 44 := ⟨rfl, rfl⟩
theorem fPlan_leastOilOfAll_30 : w_fe am_c76 30 31 (.aload 0) := ⟨rfl, rfl⟩
theorem fPlan_leastOilOfAll_31 : w_fe am_c76 31 32 (.aload 1) := ⟨rfl, rfl⟩
theorem fPlan_leastOilOfAll_32 : w_fe am_c76 32 33 (.aload 0) := ⟨rfl, rfl⟩
theorem fPlan_leastOilOfAll_33 : w_fe am_c76 33 34 (.aload 1) := ⟨rfl, rfl⟩
theorem fPlan_leastOilOfAll_34 : w_fe am_c76 34 35 (.getfield 205) := ⟨rfl, rfl⟩
theorem fPlan_leastOilOfAll_35 : w_fe am_c76 35 36 (.invokestatic 79) := ⟨rfl, rfl⟩
theorem fPlan_leastOilOfAll_36 : w_fe am_c76 36 37 (.iload 2) := ⟨rfl, rfl⟩
theorem fPlan_leastOilOfAll_37 : w_fe am_c76 37 38 (.isub) := ⟨rfl, rfl⟩
theorem fPlan_leastOilOfAll_38 : w_fe am_c76 38 39 (.invokestatic 80) := ⟨rfl, rfl⟩
theorem fPlan_leastOilOfAll_39 : w_if am_c76 39 40 .eq 44 := ⟨rfl, rfl⟩
theorem fPlan_leastOilOfAll_40 : w_fe am_c76 40 41 (.iload 5) := ⟨rfl, rfl⟩
theorem fPlan_leastOilOfAll_41 : w_fe am_c76 41 42 (.istore 3) := ⟨rfl, rfl⟩
theorem fPlan_leastOilOfAll_42 : w_fe am_c76 42 43 (.aload 0) := ⟨rfl, rfl⟩
theorem fPlan_leastOilOfAll_43 : w_fe am_c76 43 44 (.invokestatic 71) := ⟨rfl, rfl⟩
theorem fPlan_leastOilOfAll_44 : w_fe am_c76 44 45 (.iload 3) := ⟨rfl, rfl⟩
theorem fPlan_leastOilOfAll_45 : w_if am_c76 45 46 .eq 54 := ⟨rfl, rfl⟩
theorem fPlan_leastOilOfAll_46 : w_fe am_c76 46 47 (.aload 0) := ⟨rfl, rfl⟩
theorem fPlan_leastOilOfAll_47 : w_fe am_c76 47 48 (.aload 1) := ⟨rfl, rfl⟩
theorem fPlan_leastOilOfAll_48 : w_fe am_c76 48 49 (.getfield 205) := ⟨rfl, rfl⟩
theorem fPlan_leastOilOfAll_49 : w_fe am_c76 49 50 (.invokestatic 72) := ⟨rfl, rfl⟩
theorem fPlan_leastOilOfAll_50 : w_if am_c76 50 51 .ne 52 := ⟨rfl, rfl⟩
theorem fPlan_leastOilOfAll_51 : w_gt am_c76 51 54 := rfl
theorem fPlan_leastOilOfAll_52 : w_fe am_c76 52 53 (.iinc 4 1) := ⟨rfl, rfl⟩
theorem fPlan_leastOilOfAll_53 : w_gt am_c76 53 16 := rfl
theorem fPlan_leastOilOfAll_54 : w_fe am_c76 54 55 (.iload 3) := ⟨rfl, rfl⟩
theorem fPlan_leastOilOfAll_55 : w_fe am_c76 55 56 (.ireturn) := ⟨rfl, rfl⟩
noncomputable def LPlan_leastOilOfAll_16 (xs : List Int) (d : Nat) (Q : Option w_V → w_M → Prop) (r1 : Nat) (v2 : Int) (v3 : Int) (v4 : Int) (σ : w_M) : Prop := ∀ l5, w_nl l5 → w_Ex (xs, d) 1 am_c76 Q 16 [some (.inr (.inr (6, 31))), some (.inr (.inr (2, r1))), some (.inl v2), some (.inl v3), some (.inl v4), l5] [] σ
set_option maxRecDepth 20000 in
theorem bPlan_leastOilOfAll_0 {xs : List Int} {d : Nat} {Q : Option w_V → w_M → Prop} {b : Nat} {σ : w_M}
    (h : p_Field_cloudyHoursLeft b σ ∧ (∀ (y1 : Int), y1 = v_Field_cloudyHoursLeft b σ → ∀ (y2 : Int), y2 = v_Math_min 9 y1 → (p_Plan_startPicks y2 σ ∧ (∀ (τ3 : w_M), q_Plan_startPicks y2 σ τ3 → (p_Plan_countMostCut b τ3 ∧ (∀ (τ4 : w_M), q_Plan_countMostCut b τ3 τ4 → (p_Field_standing b τ4 ∧ (∀ (y5 : Int), y5 = v_Field_standing b τ4 → LPlan_leastOilOfAll_16 xs (d + 6) Q b y5 (-4) 0 τ4)))))))) : w_Call (xs, (d + 6)) 76 [.inr (.inr (6, 31)), .inr (.inr (2, b))] σ Q :=
  (w_mk (mid := 76) (by decide) rfl rfl rfl rfl rfl (Nat.le_of_ble_eq_true rfl) ⟨rfl, Or.inl (by decide)⟩ (wi_aload0 fPlan_leastOilOfAll_0 (wi_bipush fPlan_leastOilOfAll_1 (wi_aload1 fPlan_leastOilOfAll_2 (wi_call1 fPlan_leastOilOfAll_3 (Nat.le_of_ble_eq_true rfl) (k_Field_cloudyHoursLeft h.1 (wi_call2 fPlan_leastOilOfAll_4 (Nat.le_of_ble_eq_true rfl) (k_Math_min (wi_call2 fPlan_leastOilOfAll_5 (Nat.le_of_ble_eq_true rfl) (k_Plan_startPicks ((h.2 _ rfl) _ rfl).1 (fun τ3 eτ3 => (wi_aload0 fPlan_leastOilOfAll_6 (wi_aload1 fPlan_leastOilOfAll_7 (wi_call2 fPlan_leastOilOfAll_8 (Nat.le_of_ble_eq_true rfl) (k_Plan_countMostCut (((h.2 _ rfl) _ rfl).2 τ3 eτ3).1 (fun τ4 eτ4 => (wi_aload1 fPlan_leastOilOfAll_9 (wi_call1 fPlan_leastOilOfAll_10 (Nat.le_of_ble_eq_true rfl) (k_Field_standing ((((h.2 _ rfl) _ rfl).2 τ3 eτ3).2 τ4 eτ4).1 (wi_istore2 fPlan_leastOilOfAll_11 trivial (wi_bipush fPlan_leastOilOfAll_12 (wi_istore3 fPlan_leastOilOfAll_13 trivial (wi_bipush fPlan_leastOilOfAll_14 (wi_istore4 fPlan_leastOilOfAll_15 trivial ((((((h.2 _ rfl) _ rfl).2 τ3 eτ3).2 τ4 eτ4).2 _ rfl) _ (by exact trivial))))))))))))))))))))))))))
set_option maxRecDepth 20000 in
theorem bPlan_leastOilOfAll_16 {xs : List Int} {d : Nat} {Q : Option w_V → w_M → Prop} {r1 : Nat} {v2 : Int} {v3 : Int} {v4 : Int} {σ : w_M}
    (h : (10000 ≤ v4 → Q (some (.inl v3)) σ) ∧ (v4 < 10000 → (p_Plan_sumOfPicks (σ r1 5) σ ∧ (∀ (y1 : Int), y1 = v_Plan_sumOfPicks (σ r1 5) σ → ((v3 = (-4) → (p_Plan_mostCutByPicks (σ r1 5) σ ∧ (∀ (y2 : Int), y2 = v_Plan_mostCutByPicks (σ r1 5) σ → (w_in (y2 - v2) ∧ p_Plan_isDoneByPicks r1 (y2 - v2) σ ∧ (∀ (y3 : Int) (τ4 : w_M), q_Plan_isDoneByPicks r1 (y2 - v2) σ y3 τ4 → ((y3 = 0 → ((v3 = 0 → Q (some (.inl v3)) τ4) ∧ (¬ v3 = 0 → (p_Plan_turnPicks (τ4 r1 5) τ4 ∧ (∀ (y5 : Int) (τ6 : w_M), q_Plan_turnPicks (τ4 r1 5) τ4 y5 τ6 → ((¬ y5 = 0 → (w_in (v4 + 1) ∧ LPlan_leastOilOfAll_16 xs (d + 6) Q r1 v2 v3 (v4 + 1) τ6)) ∧ (y5 = 0 → Q (some (.inl v3)) τ6))))))) ∧ (¬ y3 = 0 → (p_Plan_choosePicks τ4 ∧ (∀ (τ9 : w_M), q_Plan_choosePicks τ4 τ9 → ((y1 = 0 → Q (some (.inl y1)) τ9) ∧ (¬ y1 = 0 → (p_Plan_turnPicks (τ9 r1 5) τ9 ∧ (∀ (y10 : Int) (τ11 : w_M), q_Plan_turnPicks (τ9 r1 5) τ9 y10 τ11 → ((¬ y10 = 0 → (w_in (v4 + 1) ∧ LPlan_leastOilOfAll_16 xs (d + 6) Q r1 v2 y1 (v4 + 1) τ11)) ∧ (y10 = 0 → Q (some (.inl y1)) τ11))))))))))))))) ∧ (¬ v3 = (-4) → ((v3 ≤ y1 → ((v3 = 0 → Q (some (.inl v3)) σ) ∧ (¬ v3 = 0 → (p_Plan_turnPicks (σ r1 5) σ ∧ (∀ (y15 : Int) (τ16 : w_M), q_Plan_turnPicks (σ r1 5) σ y15 τ16 → ((¬ y15 = 0 → (w_in (v4 + 1) ∧ LPlan_leastOilOfAll_16 xs (d + 6) Q r1 v2 v3 (v4 + 1) τ16)) ∧ (y15 = 0 → Q (some (.inl v3)) τ16))))))) ∧ (y1 < v3 → (p_Plan_mostCutByPicks (σ r1 5) σ ∧ (∀ (y19 : Int), y19 = v_Plan_mostCutByPicks (σ r1 5) σ → (w_in (y19 - v2) ∧ p_Plan_isDoneByPicks r1 (y19 - v2) σ ∧ (∀ (y20 : Int) (τ21 : w_M), q_Plan_isDoneByPicks r1 (y19 - v2) σ y20 τ21 → ((y20 = 0 → ((v3 = 0 → Q (some (.inl v3)) τ21) ∧ (¬ v3 = 0 → (p_Plan_turnPicks (τ21 r1 5) τ21 ∧ (∀ (y22 : Int) (τ23 : w_M), q_Plan_turnPicks (τ21 r1 5) τ21 y22 τ23 → ((¬ y22 = 0 → (w_in (v4 + 1) ∧ LPlan_leastOilOfAll_16 xs (d + 6) Q r1 v2 v3 (v4 + 1) τ23)) ∧ (y22 = 0 → Q (some (.inl v3)) τ23))))))) ∧ (¬ y20 = 0 → (p_Plan_choosePicks τ21 ∧ (∀ (τ26 : w_M), q_Plan_choosePicks τ21 τ26 → ((y1 = 0 → Q (some (.inl y1)) τ26) ∧ (¬ y1 = 0 → (p_Plan_turnPicks (τ26 r1 5) τ26 ∧ (∀ (y27 : Int) (τ28 : w_M), q_Plan_turnPicks (τ26 r1 5) τ26 y27 τ28 → ((¬ y27 = 0 → (w_in (v4 + 1) ∧ LPlan_leastOilOfAll_16 xs (d + 6) Q r1 v2 y1 (v4 + 1) τ28)) ∧ (y27 = 0 → Q (some (.inl y1)) τ28)))))))))))))))))))))) : LPlan_leastOilOfAll_16 xs (d + 6) Q r1 v2 v3 v4 σ :=
  fun l5 nl5 => (wi_iload4 fPlan_leastOilOfAll_16 (wi_bipush fPlan_leastOilOfAll_17 (wi_ic_ge fPlan_leastOilOfAll_18 (fun c34 => (wi_iload3 fPlan_leastOilOfAll_54 (wi_ret1 fPlan_leastOilOfAll_55 (h.1 c34)))) (fun c34 => (wi_aload0 fPlan_leastOilOfAll_19 (wi_aload1 fPlan_leastOilOfAll_20 (wi_getf205 fPlan_leastOilOfAll_21 (wi_call2 fPlan_leastOilOfAll_22 (Nat.le_of_ble_eq_true rfl) (k_Plan_sumOfPicks (h.2 c34).1 (wi_istore5 fPlan_leastOilOfAll_23 trivial (wi_iload3 fPlan_leastOilOfAll_24 (wi_bipush fPlan_leastOilOfAll_25 (wi_ic_eq fPlan_leastOilOfAll_26 (fun c33 => (wi_aload0 fPlan_leastOilOfAll_30 (wi_aload1 fPlan_leastOilOfAll_31 (wi_aload0 fPlan_leastOilOfAll_32 (wi_aload1 fPlan_leastOilOfAll_33 (wi_getf205 fPlan_leastOilOfAll_34 (wi_call2 fPlan_leastOilOfAll_35 (Nat.le_of_ble_eq_true rfl) (k_Plan_mostCutByPicks (((h.2 c34).2 _ rfl).1 c33).1 (wi_iload2 fPlan_leastOilOfAll_36 (wi_isub fPlan_leastOilOfAll_37 ((((h.2 c34).2 _ rfl).1 c33).2 _ rfl).1 (wi_call3 fPlan_leastOilOfAll_38 (Nat.le_of_ble_eq_true rfl) (k_Plan_isDoneByPicks ((((h.2 c34).2 _ rfl).1 c33).2 _ rfl).2.1 (fun y3 τ4 eτ4 => (wi_if_eq fPlan_leastOilOfAll_39 (fun c14 => (wi_iload3 fPlan_leastOilOfAll_44 (wi_if_eq fPlan_leastOilOfAll_45 (fun c8 => (wi_iload3 fPlan_leastOilOfAll_54 (wi_ret1 fPlan_leastOilOfAll_55 (((((((h.2 c34).2 _ rfl).1 c33).2 _ rfl).2.2 y3 τ4 eτ4).1 c14).1 c8)))) (fun c8 => (wi_aload0 fPlan_leastOilOfAll_46 (wi_aload1 fPlan_leastOilOfAll_47 (wi_getf205 fPlan_leastOilOfAll_48 (wi_call2 fPlan_leastOilOfAll_49 (Nat.le_of_ble_eq_true rfl) (k_Plan_turnPicks (((((((h.2 c34).2 _ rfl).1 c33).2 _ rfl).2.2 y3 τ4 eτ4).1 c14).2 c8).1 (fun y5 τ6 eτ6 => (wi_if_ne fPlan_leastOilOfAll_50 (fun c7 => (wi_iinc4 fPlan_leastOilOfAll_52 trivial (((((((((h.2 c34).2 _ rfl).1 c33).2 _ rfl).2.2 y3 τ4 eτ4).1 c14).2 c8).2 y5 τ6 eτ6).1 c7).1 (wi_goto fPlan_leastOilOfAll_53 ((((((((((h.2 c34).2 _ rfl).1 c33).2 _ rfl).2.2 y3 τ4 eτ4).1 c14).2 c8).2 y5 τ6 eτ6).1 c7).2 _ (by exact trivial))))) (fun c7 => (wi_goto fPlan_leastOilOfAll_51 (wi_iload3 fPlan_leastOilOfAll_54 (wi_ret1 fPlan_leastOilOfAll_55 (((((((((h.2 c34).2 _ rfl).1 c33).2 _ rfl).2.2 y3 τ4 eτ4).1 c14).2 c8).2 y5 τ6 eτ6).2 c7)))))))))))))))) (fun c14 => (wi_iload5 fPlan_leastOilOfAll_40 (wi_istore3 fPlan_leastOilOfAll_41 trivial (wi_aload0 fPlan_leastOilOfAll_42 (wi_call1 fPlan_leastOilOfAll_43 (Nat.le_of_ble_eq_true rfl) (k_Plan_choosePicks ((((((h.2 c34).2 _ rfl).1 c33).2 _ rfl).2.2 y3 τ4 eτ4).2 c14).1 (fun τ9 eτ9 => (wi_iload3 fPlan_leastOilOfAll_44 (wi_if_eq fPlan_leastOilOfAll_45 (fun c13 => (wi_iload3 fPlan_leastOilOfAll_54 (wi_ret1 fPlan_leastOilOfAll_55 ((((((((h.2 c34).2 _ rfl).1 c33).2 _ rfl).2.2 y3 τ4 eτ4).2 c14).2 τ9 eτ9).1 c13)))) (fun c13 => (wi_aload0 fPlan_leastOilOfAll_46 (wi_aload1 fPlan_leastOilOfAll_47 (wi_getf205 fPlan_leastOilOfAll_48 (wi_call2 fPlan_leastOilOfAll_49 (Nat.le_of_ble_eq_true rfl) (k_Plan_turnPicks ((((((((h.2 c34).2 _ rfl).1 c33).2 _ rfl).2.2 y3 τ4 eτ4).2 c14).2 τ9 eτ9).2 c13).1 (fun y10 τ11 eτ11 => (wi_if_ne fPlan_leastOilOfAll_50 (fun c12 => (wi_iinc4 fPlan_leastOilOfAll_52 trivial ((((((((((h.2 c34).2 _ rfl).1 c33).2 _ rfl).2.2 y3 τ4 eτ4).2 c14).2 τ9 eτ9).2 c13).2 y10 τ11 eτ11).1 c12).1 (wi_goto fPlan_leastOilOfAll_53 (((((((((((h.2 c34).2 _ rfl).1 c33).2 _ rfl).2.2 y3 τ4 eτ4).2 c14).2 τ9 eτ9).2 c13).2 y10 τ11 eτ11).1 c12).2 _ (by exact trivial))))) (fun c12 => (wi_goto fPlan_leastOilOfAll_51 (wi_iload3 fPlan_leastOilOfAll_54 (wi_ret1 fPlan_leastOilOfAll_55 ((((((((((h.2 c34).2 _ rfl).1 c33).2 _ rfl).2.2 y3 τ4 eτ4).2 c14).2 τ9 eτ9).2 c13).2 y10 τ11 eτ11).2 c12)))))))))))))))))))))))))))))))))))) (fun c33 => (wi_iload5 fPlan_leastOilOfAll_27 (wi_iload3 fPlan_leastOilOfAll_28 (wi_ic_ge fPlan_leastOilOfAll_29 (fun c32 => (wi_iload3 fPlan_leastOilOfAll_44 (wi_if_eq fPlan_leastOilOfAll_45 (fun c18 => (wi_iload3 fPlan_leastOilOfAll_54 (wi_ret1 fPlan_leastOilOfAll_55 (((((h.2 c34).2 _ rfl).2 c33).1 c32).1 c18)))) (fun c18 => (wi_aload0 fPlan_leastOilOfAll_46 (wi_aload1 fPlan_leastOilOfAll_47 (wi_getf205 fPlan_leastOilOfAll_48 (wi_call2 fPlan_leastOilOfAll_49 (Nat.le_of_ble_eq_true rfl) (k_Plan_turnPicks (((((h.2 c34).2 _ rfl).2 c33).1 c32).2 c18).1 (fun y15 τ16 eτ16 => (wi_if_ne fPlan_leastOilOfAll_50 (fun c17 => (wi_iinc4 fPlan_leastOilOfAll_52 trivial (((((((h.2 c34).2 _ rfl).2 c33).1 c32).2 c18).2 y15 τ16 eτ16).1 c17).1 (wi_goto fPlan_leastOilOfAll_53 ((((((((h.2 c34).2 _ rfl).2 c33).1 c32).2 c18).2 y15 τ16 eτ16).1 c17).2 _ (by exact trivial))))) (fun c17 => (wi_goto fPlan_leastOilOfAll_51 (wi_iload3 fPlan_leastOilOfAll_54 (wi_ret1 fPlan_leastOilOfAll_55 (((((((h.2 c34).2 _ rfl).2 c33).1 c32).2 c18).2 y15 τ16 eτ16).2 c17)))))))))))))))) (fun c32 => (wi_aload0 fPlan_leastOilOfAll_30 (wi_aload1 fPlan_leastOilOfAll_31 (wi_aload0 fPlan_leastOilOfAll_32 (wi_aload1 fPlan_leastOilOfAll_33 (wi_getf205 fPlan_leastOilOfAll_34 (wi_call2 fPlan_leastOilOfAll_35 (Nat.le_of_ble_eq_true rfl) (k_Plan_mostCutByPicks ((((h.2 c34).2 _ rfl).2 c33).2 c32).1 (wi_iload2 fPlan_leastOilOfAll_36 (wi_isub fPlan_leastOilOfAll_37 (((((h.2 c34).2 _ rfl).2 c33).2 c32).2 _ rfl).1 (wi_call3 fPlan_leastOilOfAll_38 (Nat.le_of_ble_eq_true rfl) (k_Plan_isDoneByPicks (((((h.2 c34).2 _ rfl).2 c33).2 c32).2 _ rfl).2.1 (fun y20 τ21 eτ21 => (wi_if_eq fPlan_leastOilOfAll_39 (fun c31 => (wi_iload3 fPlan_leastOilOfAll_44 (wi_if_eq fPlan_leastOilOfAll_45 (fun c25 => (wi_iload3 fPlan_leastOilOfAll_54 (wi_ret1 fPlan_leastOilOfAll_55 ((((((((h.2 c34).2 _ rfl).2 c33).2 c32).2 _ rfl).2.2 y20 τ21 eτ21).1 c31).1 c25)))) (fun c25 => (wi_aload0 fPlan_leastOilOfAll_46 (wi_aload1 fPlan_leastOilOfAll_47 (wi_getf205 fPlan_leastOilOfAll_48 (wi_call2 fPlan_leastOilOfAll_49 (Nat.le_of_ble_eq_true rfl) (k_Plan_turnPicks ((((((((h.2 c34).2 _ rfl).2 c33).2 c32).2 _ rfl).2.2 y20 τ21 eτ21).1 c31).2 c25).1 (fun y22 τ23 eτ23 => (wi_if_ne fPlan_leastOilOfAll_50 (fun c24 => (wi_iinc4 fPlan_leastOilOfAll_52 trivial ((((((((((h.2 c34).2 _ rfl).2 c33).2 c32).2 _ rfl).2.2 y20 τ21 eτ21).1 c31).2 c25).2 y22 τ23 eτ23).1 c24).1 (wi_goto fPlan_leastOilOfAll_53 (((((((((((h.2 c34).2 _ rfl).2 c33).2 c32).2 _ rfl).2.2 y20 τ21 eτ21).1 c31).2 c25).2 y22 τ23 eτ23).1 c24).2 _ (by exact trivial))))) (fun c24 => (wi_goto fPlan_leastOilOfAll_51 (wi_iload3 fPlan_leastOilOfAll_54 (wi_ret1 fPlan_leastOilOfAll_55 ((((((((((h.2 c34).2 _ rfl).2 c33).2 c32).2 _ rfl).2.2 y20 τ21 eτ21).1 c31).2 c25).2 y22 τ23 eτ23).2 c24)))))))))))))))) (fun c31 => (wi_iload5 fPlan_leastOilOfAll_40 (wi_istore3 fPlan_leastOilOfAll_41 trivial (wi_aload0 fPlan_leastOilOfAll_42 (wi_call1 fPlan_leastOilOfAll_43 (Nat.le_of_ble_eq_true rfl) (k_Plan_choosePicks (((((((h.2 c34).2 _ rfl).2 c33).2 c32).2 _ rfl).2.2 y20 τ21 eτ21).2 c31).1 (fun τ26 eτ26 => (wi_iload3 fPlan_leastOilOfAll_44 (wi_if_eq fPlan_leastOilOfAll_45 (fun c30 => (wi_iload3 fPlan_leastOilOfAll_54 (wi_ret1 fPlan_leastOilOfAll_55 (((((((((h.2 c34).2 _ rfl).2 c33).2 c32).2 _ rfl).2.2 y20 τ21 eτ21).2 c31).2 τ26 eτ26).1 c30)))) (fun c30 => (wi_aload0 fPlan_leastOilOfAll_46 (wi_aload1 fPlan_leastOilOfAll_47 (wi_getf205 fPlan_leastOilOfAll_48 (wi_call2 fPlan_leastOilOfAll_49 (Nat.le_of_ble_eq_true rfl) (k_Plan_turnPicks (((((((((h.2 c34).2 _ rfl).2 c33).2 c32).2 _ rfl).2.2 y20 τ21 eτ21).2 c31).2 τ26 eτ26).2 c30).1 (fun y27 τ28 eτ28 => (wi_if_ne fPlan_leastOilOfAll_50 (fun c29 => (wi_iinc4 fPlan_leastOilOfAll_52 trivial (((((((((((h.2 c34).2 _ rfl).2 c33).2 c32).2 _ rfl).2.2 y20 τ21 eτ21).2 c31).2 τ26 eτ26).2 c30).2 y27 τ28 eτ28).1 c29).1 (wi_goto fPlan_leastOilOfAll_53 ((((((((((((h.2 c34).2 _ rfl).2 c33).2 c32).2 _ rfl).2.2 y20 τ21 eτ21).2 c31).2 τ26 eτ26).2 c30).2 y27 τ28 eτ28).1 c29).2 _ (by exact trivial))))) (fun c29 => (wi_goto fPlan_leastOilOfAll_51 (wi_iload3 fPlan_leastOilOfAll_54 (wi_ret1 fPlan_leastOilOfAll_55 (((((((((((h.2 c34).2 _ rfl).2 c33).2 c32).2 _ rfl).2.2 y20 τ21 eτ21).2 c31).2 τ26 eτ26).2 c30).2 y27 τ28 eτ28).2 c29)))))))))))))))))))))))))))))))))))))))))))))))))))))
set_option maxHeartbeats 4000000 in
theorem k_Plan_leastOilOfAll {xs : List Int} {d : Nat} {Q : Option w_V → w_M → Prop} {b : Nat} {σ : w_M} (hp : p_Plan_leastOilOfAll b σ) (hQ : ∀ (x : Int) (σ' : w_M), q_Plan_leastOilOfAll b σ x σ' → Q (some (.inl x)) σ') : w_Call (xs, d + 6) 76 [.inr (.inr (6, 31)), .inr (.inr (2, b))] σ Q := by
  obtain ⟨hok, hb⟩ := hp
  have hn := n_ok.n hok
  have hrs := n_ok.hrs hok
  have hr := n_ok.hr hok
  have hW : n_WF (w_ab σ b) := hok
  have en : n_n (w_ab σ b) = (σ b 5).toNat := rfl
  unfold q_Plan_leastOilOfAll at hQ
  have fab : ∀ τ : w_M, w_fr σ τ 32 63 → w_ab τ b = w_ab σ b ∧ τ b = σ b := fun τ F => ⟨w_ab_fr (fun d hd => F _ (by omega)), F b (by omega)⟩
  have cl0 : 0 ≤ n_cloudy (w_ab σ b) := by
    unfold n_cloudy
    refine (f_sum_le (B := 1) (m := (w_ab σ b 0 0 - w_ab σ b 0 1).toNat) (fun k _ => ?_) (Nat.le_refl _)).1
    have := n_cl01 (w_ab σ b) (w_ab σ b 0 1 + (k : Int))
    omega
  refine bPlan_leastOilOfAll_0 ⟨hok, fun y1 e1 y2 e2 => ⟨trivial, fun τ3 hq3 => ?_⟩⟩
  unfold v_Field_cloudyHoursLeft at e1
  generalize hA : w_ab σ b = A at *
  obtain ⟨C, hC⟩ : ∃ C : Nat, (C : Int) = y2 := ⟨y2.toNat, by rw [e2, e1]; unfold v_Math_min; split <;> omega⟩
  have hC9 : C ≤ 9 := by
    have : y2 ≤ 9 := by rw [e2]; unfold v_Math_min; split <;> omega
    omega
  have hcl : C = 9 ∨ n_cloudy A = (C : Int) := by
    rw [hC, e2, e1]
    unfold v_Math_min
    split
    · left; rw [e2, e1] at hC; unfold v_Math_min at hC; rw [if_pos (by assumption)] at hC; omega
    · right; rfl
  have LE := lo_eq hW hC9 hcl
  have hn4 : n_n A ≤ 4 := by omega
  have p10 := pow10 (B := C + 1) (n := n_n A) (by omega) hn4
  have hpos : 0 < (C + 1) ^ n_n A := Nat.pow_pos (by omega)
  have hsd := n_sd_le hW
  have hsl := lo_s_le hW (B := C + 1) (by omega) (by omega)
  have dB : ∀ k r, dg (C + 1) (n_n A) k r < C + 1 := fun k r => dg_lt (by omega)
  obtain ⟨s1, s2⟩ := hq3
  have F3 : w_fr σ τ3 32 63 := fun c hc => s2 c (by omega) (by omega)
  obtain ⟨f1, f2⟩ := fab τ3 F3
  refine ⟨⟨n_ok.of f1 hW, hb⟩, fun τ4 hq4 => ?_⟩
  obtain ⟨m1, m2⟩ := hq4
  rw [f1] at m1
  have F4 : w_fr σ τ4 32 63 := fun c hc => by rw [m2 c (by omega), F3 c hc]
  obtain ⟨g1, g2⟩ := fab τ4 F4
  refine ⟨n_ok.of g1 hW, fun y5 e5 => ?_⟩
  unfold v_Field_standing at e5
  rw [g1] at e5
  generalize hs : lo_s A (C + 1) = s at *
  generalize hd : lo_d A (C + 1) = dd at *
  -- the end, with what was found
  have fin : ∀ (τ' : w_M) (v : Int), w_fr σ τ' 32 63 → (((ls_F s dd ((C + 1) ^ n_n A)).2 = -4 ∧ v = -4) ∨ (¬ (ls_F s dd ((C + 1) ^ n_n A)).2 = -4 ∧ v = (ls_F s dd ((C + 1) ^ n_n A)).1 ∧ ∀ r, r < n_n A → τ' 43 r = ((dg (C + 1) (n_n A) (ls_F s dd ((C + 1) ^ n_n A)).2.toNat r : Nat) : Int))) → Q (some (.inl v)) τ' := fun τ' v F' hv => by
    refine hQ _ _ ⟨?_, fun hne r hr2 => ?_, F'.wide (by decide) (by decide)⟩
    · rcases LE with ⟨l1, l2⟩ | ⟨l1, l2, l3, l4⟩
      · rw [if_pos l2]
        rcases hv with ⟨-, h⟩ | ⟨h, -⟩
        · exact h
        · exact absurd l1 h
      · rw [if_neg l2]
        rcases hv with ⟨h, -⟩ | ⟨-, h, -⟩
        · exact absurd h l1
        · rw [h, l3]
    · rcases LE with ⟨l1, l2⟩ | ⟨l1, l2, l3, l4⟩
      · exact absurd l2 hne
      · rcases hv with ⟨h, -⟩ | ⟨-, -, h⟩
        · exact absurd h l1
        · rw [h r hr2, l4 r hr2]
  have mst : ∀ r, r < n_n A → ∀ v, v < 10 → τ4 (46 + r) v = mc_v A r v := m1
  refine (w_loop (n := (C + 1) ^ n_n A) (P := fun k => k < (C + 1) ^ n_n A → ∀ (τ : w_M) (v3 : Int), w_fr σ τ 32 63 → pk_at τ (C + 1) (n_n A) k → (∀ r, r < n_n A → ∀ v, v < 10 → τ (46 + r) v = mc_v A r v) → (((ls_F s dd k).2 = -4 ∧ v3 = -4) ∨ (¬ (ls_F s dd k).2 = -4 ∧ v3 = (ls_F s dd k).1 ∧ ∀ r, r < n_n A → τ 43 r = ((dg (C + 1) (n_n A) (ls_F s dd k).2.toNat r : Nat) : Int))) → LPlan_leastOilOfAll_16 xs (d + 6) Q b y5 v3 (k : Int) τ) ?_ ?_) hpos τ4 (-4) F4 ?_ mst (Or.inl ⟨rfl, rfl⟩)
  · intro h; omega
  · intro k hk ih _ τ v3 F hpk hms hinv
    obtain ⟨g3, g4⟩ := fab τ F
    have hsp := ls_spec (s := s) (d := dd) hsl k
    have v3le : v3 = -4 ∨ (0 ≤ v3 ∧ v3 ≤ 36) := by
      rcases hinv with ⟨h1, h2⟩ | ⟨h1, h2, h3⟩
      · exact Or.inl h2
      · rcases hsp with ⟨q1, -⟩ | ⟨m, -, -, q2, -⟩
        · exact absurd q1 h1
        · have := hsl m; omega
    have pv : ∀ r, r < n_n A → 0 ≤ τ 41 r ∧ τ 41 r ≤ 9 := fun r hr2 => by
      have h1 := (hpk r hr2).1
      have h2 := dB k r
      omega
    have ef : ∀ r, r < n_n A → τ 41 r = lo_f A (C + 1) k r := fun r hr2 => (hpk r hr2).1
    have ebo : n_bo A (τ 41) = n_bo A (lo_f A (C + 1) k) := n_bo_congr ef
    have edone : n_done (n_bo A (τ 41)) = dd k := by rw [ebo, ← hd]; rfl
    -- turning, or the end where nothing less is left
    have turn : ∀ (τ' : w_M) (v3' : Int), w_fr σ τ' 32 63 → pk_at τ' (C + 1) (n_n A) k → (∀ r, r < n_n A → ∀ v, v < 10 → τ' (46 + r) v = mc_v A r v) → (((ls_F s dd (k + 1)).2 = -4 ∧ v3' = -4) ∨ (¬ (ls_F s dd (k + 1)).2 = -4 ∧ v3' = (ls_F s dd (k + 1)).1 ∧ ∀ r, r < n_n A → τ' 43 r = ((dg (C + 1) (n_n A) (ls_F s dd (k + 1)).2.toNat r : Nat) : Int))) → (v3' = 0 → Q (some (.inl v3')) τ') ∧ (¬ v3' = 0 → (p_Plan_turnPicks (τ' b 5) τ' ∧ (∀ (y : Int) (τ5 : w_M), q_Plan_turnPicks (τ' b 5) τ' y τ5 → ((¬ y = 0 → (w_in ((k : Int) + 1) ∧ LPlan_leastOilOfAll_16 xs (d + 6) Q b y5 v3' ((k : Int) + 1) τ5)) ∧ (y = 0 → Q (some (.inl v3')) τ5))))) := fun τ' v3' F' hp' hm' hi' => by
      obtain ⟨-, g5⟩ := fab τ' F'
      refine ⟨fun hz => ?_, fun _ => ?_⟩
      · rcases hi' with ⟨x1, x2⟩ | ⟨x1, x2, x3⟩
        · omega
        · have e := ls_stay (s := s) (d := dd) (k := k + 1) ((C + 1) ^ n_n A - (k + 1)) (fun i _ _ q => by
            have h1 := hsl i
            have h2 := q.1
            omega)
          rw [show k + 1 + ((C + 1) ^ n_n A - (k + 1)) = (C + 1) ^ n_n A by omega] at e
          refine fin τ' v3' F' (Or.inr ?_)
          rw [e]
          exact ⟨x1, x2, x3⟩
      · rw [g5]
        refine ⟨⟨hn, C + 1, k, by omega, by omega, by rw [← en]; exact hk, by rw [← en]; exact hp'⟩, fun y τ5 hq => ?_⟩
        obtain ⟨q1, q2⟩ := hq
        have F5 : w_fr σ τ5 32 63 := fun c hc => by rw [q1 c (by omega), F' c hc]
        have z43 : τ5 43 = τ' 43 := q1 43 (by decide)
        have q2' := q2 (C + 1) k (by omega) (by omega) (by rw [← en]; exact hk) (by rw [← en]; exact hp')
        rw [← en] at q2'
        refine ⟨fun c => ⟨⟨by omega, by omega⟩, ?_⟩, fun c => ?_⟩
        · rcases q2' with ⟨a1, a2, a3⟩ | ⟨a1, a2⟩
          · rw [← w_cs1]
            refine ih a2 τ5 v3' F5 a3 (fun r hr2 v hv => by rw [q1 (46 + r) (by omega)]; exact hm' r hr2 v hv) ?_
            rw [z43]
            exact hi'
          · exact absurd a1 c
        · rcases q2' with ⟨a1, a2, a3⟩ | ⟨a1, a2⟩
          · omega
          · refine fin τ5 v3' F5 ?_
            rw [z43, ← a2]
            exact hi'
    -- how it is tried
    have psum : p_Plan_sumOfPicks (τ b 5) τ := ⟨by rw [g4]; exact hn, fun r hr2 => pv r (by rw [g4, ← en] at hr2; exact hr2)⟩
    have esum : v_Plan_sumOfPicks (τ b 5) τ = s k := by
      unfold v_Plan_sumOfPicks
      rw [g4, ← en, ← hs]
      exact f_sum_congr ef
    have emc : ∀ r, r < n_n A → τ (46 + r) (τ 41 r).toNat = A 3 r * (n_cutF A r (τ 41 r) (n_lft A 12)).2.2 := fun r hr2 => by
      have h1 := pv r hr2
      rw [hms r hr2 (τ 41 r).toNat (by omega)]
      unfold mc_v
      rw [show (((τ 41 r).toNat : Nat) : Int) = τ 41 r by omega]
    have pmc : p_Plan_mostCutByPicks (τ b 5) τ := ⟨by rw [g4]; exact hn, fun r hr2 => by
      rw [g4, ← en] at hr2
      have h1 := pv r hr2
      refine ⟨h1, ?_⟩
      rw [hms r hr2 (τ 41 r).toNat (by omega)]
      exact mc_le hW hr2 (by omega)⟩
    have evm : v_Plan_mostCutByPicks (τ b 5) τ = n_rch (n_bo A (τ 41)) (n_lft A 12) := by
      unfold v_Plan_mostCutByPicks
      rw [g4, ← en, n_rch_bo]
      exact f_sum_congr emc
    have rle : 0 ≤ n_rch (n_bo A (τ 41)) (n_lft A 12) ∧ n_rch (n_bo A (τ 41)) (n_lft A 12) ≤ 432 := n_rch_le (n_bo_WF hW pv) (by have := (n_left_lft hW (n := 12) (by decide)).2.1; omega)
    have pid : p_Plan_isDoneByPicks b (n_rch (n_bo A (τ 41)) (n_lft A 12) - y5) τ := ⟨⟨n_ok.of g3 hW, hb⟩, by rw [g3]; exact pv, by rw [g3, e5]⟩
    have rest : ∀ (y3 : Int) (τ5 : w_M), q_Plan_isDoneByPicks b (n_rch (n_bo A (τ 41)) (n_lft A 12) - y5) τ y3 τ5 → (v3 = -4 ∨ s k < v3) → (y3 = 0 → (v3 = 0 → Q (some (.inl v3)) τ5) ∧ (¬ v3 = 0 → (p_Plan_turnPicks (τ5 b 5) τ5 ∧ (∀ (y : Int) (τ6 : w_M), q_Plan_turnPicks (τ5 b 5) τ5 y τ6 → ((¬ y = 0 → (w_in ((k : Int) + 1) ∧ LPlan_leastOilOfAll_16 xs (d + 6) Q b y5 v3 ((k : Int) + 1) τ6)) ∧ (y = 0 → Q (some (.inl v3)) τ6)))))) ∧ (¬ y3 = 0 → (p_Plan_choosePicks τ5 ∧ (∀ τ9 : w_M, q_Plan_choosePicks τ5 τ9 → ((s k = 0 → Q (some (.inl (s k))) τ9) ∧ (¬ s k = 0 → (p_Plan_turnPicks (τ9 b 5) τ9 ∧ (∀ (y : Int) (τ6 : w_M), q_Plan_turnPicks (τ9 b 5) τ9 y τ6 → ((¬ y = 0 → (w_in ((k : Int) + 1) ∧ LPlan_leastOilOfAll_16 xs (d + 6) Q b y5 (s k) ((k : Int) + 1) τ6)) ∧ (y = 0 → Q (some (.inl (s k))) τ6))))))))) := fun y3 τ5 hq hlt => by
      obtain ⟨o1, o2⟩ := hq
      rw [g3, edone] at o1
      have F5 : w_fr σ τ5 32 63 := F.tr (o2.wide (by decide) (by decide))
      have t41 : τ5 41 = τ 41 := o2 41 (by omega)
      have t42 : τ5 42 = τ 42 := o2 42 (by omega)
      have t43 : τ5 43 = τ 43 := o2 43 (by omega)
      have ms5 : ∀ r, r < n_n A → ∀ v, v < 10 → τ5 (46 + r) v = mc_v A r v := fun r hr2 v hv => by rw [o2 (46 + r) (by omega)]; exact hms r hr2 v hv
      have pk5 : pk_at τ5 (C + 1) (n_n A) k := fun r hr2 => by rw [t41, t42]; exact hpk r hr2
      refine ⟨fun c => ?_, fun c => ⟨trivial, fun τ9 hq9 => ?_⟩⟩
      · have hno : dd k = -4 := by rcases o1 with ⟨-, h⟩ | ⟨h, -⟩ <;> first | exact h | omega
        have e : ls_F s dd (k + 1) = ls_F s dd k := by
          simp only [ls_F]
          rw [if_neg (fun q => q.2 hno)]
        refine turn τ5 v3 F5 pk5 ms5 ?_
        rw [e, t43]
        exact hinv
      · have hyes : dd k ≠ -4 := by rcases o1 with ⟨h, -⟩ | ⟨-, h⟩ <;> first | exact h | omega
        obtain ⟨u1, u2⟩ := hq9
        have hk36 := hsl k
        have hlt2 : s k < (ls_F s dd k).1 := by
          rcases hinv with ⟨x1, x2⟩ | ⟨x1, x2, x3⟩
          · rcases hsp with ⟨-, q1, -⟩ | ⟨m, -, q2, -⟩
            · omega
            · omega
          · rcases hsp with ⟨q1, -⟩ | ⟨m, -, -, q2, -⟩
            · exact absurd q1 x1
            · have := hsl m
              omega
        have e : ls_F s dd (k + 1) = (s k, (k : Int)) := by
          simp only [ls_F]
          rw [if_pos ⟨hlt2, hyes⟩]
        refine turn τ9 (s k) (fun c hc => by rw [u2 c (by omega), F5 c hc]) (fun r hr2 => by rw [u2 41 (by decide), u2 42 (by decide)]; exact pk5 r hr2) (fun r hr2 v hv => by rw [u2 (46 + r) (by omega)]; exact ms5 r hr2 v hv) (Or.inr ?_)
        rw [e]
        refine ⟨by simp only []; omega, rfl, fun r hr2 => ?_⟩
        rw [u1 r (by omega), t41, (hpk r hr2).1]
        simp only [Int.toNat_natCast]
    refine bPlan_leastOilOfAll_16 ⟨fun h => by omega, fun _ => ⟨psum, fun y1' e1' => ?_⟩⟩
    rw [esum] at e1'
    rw [e1', evm]
    refine ⟨fun c => ⟨pmc, fun y2' e2' => ?_⟩, fun c => ⟨fun c2 => ?_, fun c2 => ⟨pmc, fun y2' e2' => ?_⟩⟩⟩
    · rw [e2']
      exact ⟨⟨by omega, by omega⟩, pid, fun y3 τ5 hq => rest y3 τ5 hq (Or.inl c)⟩
    · have e : ls_F s dd (k + 1) = ls_F s dd k := by
        simp only [ls_F]
        rcases hinv with ⟨x1, x2⟩ | ⟨x1, x2, x3⟩
        · exact absurd x2 c
        · rw [if_neg (fun q => by have := q.1; omega)]
      refine turn τ v3 F hpk hms ?_
      rw [e]
      exact hinv
    · rw [e2']
      exact ⟨⟨by omega, by omega⟩, pid, fun y3 τ5 hq => rest y3 τ5 hq (Or.inr c2)⟩
  · refine pk_start hn4 (fun r hr2 => ?_)
    rw [m2 41 (by omega), m2 42 (by omega)]
    refine ⟨(s1 r hr2).1, ?_⟩
    rw [(s1 r hr2).2]
    omega
noncomputable def p_Moon_least (_x1 : Int) (σ : w_M) : Prop := CI σ
noncomputable def q_Moon_least (x1 : Int) (σ : w_M) (x : Int) (σ' : w_M) : Prop := c_q (F_least (cS σ) x1) (cS σ) σ x σ'
theorem fMoon_least_0 : w_fe am_c133 0 1 (.iload 1) := ⟨rfl, rfl⟩
theorem fMoon_least_1 : w_if am_c133 1 2 .eq 8 := ⟨rfl, rfl⟩
theorem fMoon_least_2 : w_fe am_c133 2 3 (.aload 0) := ⟨rfl, rfl⟩
theorem fMoon_least_3 : w_fe am_c133 3 4 (.iload 1) := ⟨rfl, rfl⟩
theorem fMoon_least_4 : w_fe am_c133 4 5 (.invokestatic 130) := ⟨rfl, rfl⟩
theorem fMoon_least_5 : w_if am_c133 5 6 .ne 8 := ⟨rfl, rfl⟩
theorem fMoon_least_6 : w_fe am_c133 6 7 (.bipush (-1)) := ⟨rfl, rfl⟩
theorem fMoon_least_7 : w_fe am_c133 7 8 (.ireturn) := ⟨rfl, rfl⟩
theorem fMoon_least_8 : w_fe am_c133 8 9 (.aload 0) := ⟨rfl, rfl⟩
theorem fMoon_least_9 : w_fe am_c133 9 10 (.getfield 4) := ⟨rfl, rfl⟩
theorem fMoon_least_10 : w_fe am_c133 10 11 (.aload 0) := ⟨rfl, rfl⟩
theorem fMoon_least_11 : w_fe am_c133 11 12 (.getfield 2) := ⟨rfl, rfl⟩
theorem fMoon_least_12 : w_fe am_c133 12 13 (.invokestatic 76) := ⟨rfl, rfl⟩
theorem fMoon_least_13 : w_fe am_c133 13 14 (.istore 2) := ⟨rfl, rfl⟩
theorem fMoon_least_14 : w_fe am_c133 14 15 (.iload 1) := ⟨rfl, rfl⟩
theorem fMoon_least_15 : w_if am_c133 15 16 .eq 19 := ⟨rfl, rfl⟩
theorem fMoon_least_16 : w_fe am_c133 16 17 (.iload 2) := ⟨rfl, rfl⟩
theorem fMoon_least_17 : w_fe am_c133 17 18 (.bipush (-4)) := ⟨rfl, rfl⟩
theorem fMoon_least_18 : w_ic am_c133 18 19 .ne 21 := ⟨rfl, rfl⟩
theorem fMoon_least_19 : w_fe am_c133 19 20 (.iload 2) := ⟨rfl, rfl⟩
theorem fMoon_least_20 : w_gt am_c133 20 27 := rfl
theorem fMoon_least_21 : w_fe am_c133 21 22 (.aload 0) := ⟨rfl, rfl⟩
theorem fMoon_least_22 : w_fe am_c133 22 23 (.getfield 4) := ⟨rfl, rfl⟩
theorem fMoon_least_23 : w_fe am_c133 23 24 (.iload 1) := ⟨rfl, rfl⟩
theorem fMoon_least_24 : w_fe am_c133 24 25 (.bipush 10) := ⟨rfl, rfl⟩
theorem fMoon_least_25 : w_fe am_c133 25 26 (.isub) := ⟨rfl, rfl⟩
theorem fMoon_least_26 : w_fe am_c133 26 27 (.invokestatic 73) := ⟨rfl, rfl⟩
theorem fMoon_least_27 : w_fe am_c133 27 28 (.ireturn) := ⟨rfl, rfl⟩
set_option maxRecDepth 20000 in
theorem bMoon_least_0 {xs : List Int} {d : Nat} {Q : Option w_V → w_M → Prop} {x1 : Int} {σ : w_M}
    (h : (x1 = 0 → (p_Plan_leastOilOfAll 14 σ ∧ (∀ (y1 : Int) (τ2 : w_M), q_Plan_leastOilOfAll 14 σ y1 τ2 → Q (some (.inl y1)) τ2))) ∧ (¬ x1 = 0 → (((10 ≤ x1 ∧ x1 - 10 < σ 14 5) → (p_Plan_leastOilOfAll 14 σ ∧ (∀ (y3 : Int) (τ4 : w_M), q_Plan_leastOilOfAll 14 σ y3 τ4 → ((¬ y3 = (-4) → (w_in (x1 - 10) ∧ p_Plan_chosenOf (x1 - 10) τ4 ∧ (∀ (y5 : Int), y5 = v_Plan_chosenOf (x1 - 10) τ4 → Q (some (.inl y5)) τ4))) ∧ (y3 = (-4) → Q (some (.inl y3)) τ4))))) ∧ (¬ (10 ≤ x1 ∧ x1 - 10 < σ 14 5) → Q (some (.inl (-1))) σ)))) : w_Call (xs, (d + 7)) 133 [.inr (.inr (0, 0)), .inl x1] σ Q :=
  (w_mk (mid := 133) (by decide) rfl rfl rfl rfl rfl (Nat.le_of_ble_eq_true rfl) ⟨rfl, Or.inl (by decide)⟩ (wi_iload1 fMoon_least_0 (wi_if_eq fMoon_least_1 (fun c8 => (wi_aload0 fMoon_least_8 (wi_getf4 fMoon_least_9 (wi_aload0 fMoon_least_10 (wi_getf2 fMoon_least_11 (wi_call2 fMoon_least_12 (Nat.le_of_ble_eq_true rfl) (k_Plan_leastOilOfAll (h.1 c8).1 (fun y1 τ2 eτ2 => (wi_istore2 fMoon_least_13 trivial (wi_iload1 fMoon_least_14 (wi_if_eq fMoon_least_15 (fun _ => (wi_iload2 fMoon_least_19 (wi_goto fMoon_least_20 (wi_ret1 fMoon_least_27 ((h.1 c8).2 y1 τ2 eτ2))))) (fun e => absurd c8 (w_n_eq e))))))))))))) (fun c8 => (wi_aload0 fMoon_least_2 (wi_iload1 fMoon_least_3 (wi_call2 fMoon_least_4 (Nat.le_of_ble_eq_true rfl) (k_Moon_asksOfReaper (wi_ifb_ne fMoon_least_5 (fun c7 => (wi_aload0 fMoon_least_8 (wi_getf4 fMoon_least_9 (wi_aload0 fMoon_least_10 (wi_getf2 fMoon_least_11 (wi_call2 fMoon_least_12 (Nat.le_of_ble_eq_true rfl) (k_Plan_leastOilOfAll ((h.2 c8).1 c7).1 (fun y3 τ4 eτ4 => (wi_istore2 fMoon_least_13 trivial (wi_iload1 fMoon_least_14 (wi_if_eq fMoon_least_15 (fun e => absurd c8 (w_m_eq e)) (fun _ => (wi_iload2 fMoon_least_16 (wi_bipush fMoon_least_17 (wi_ic_ne fMoon_least_18 (fun c6 => (wi_aload0 fMoon_least_21 (wi_getf4 fMoon_least_22 (wi_iload1 fMoon_least_23 (wi_bipush fMoon_least_24 (wi_isub fMoon_least_25 ((((h.2 c8).1 c7).2 y3 τ4 eτ4).1 c6).1 (wi_call2 fMoon_least_26 (Nat.le_of_ble_eq_true rfl) (k_Plan_chosenOf ((((h.2 c8).1 c7).2 y3 τ4 eτ4).1 c6).2.1 (wi_ret1 fMoon_least_27 (((((h.2 c8).1 c7).2 y3 τ4 eτ4).1 c6).2.2 _ rfl)))))))))) (fun c6 => (wi_iload2 fMoon_least_19 (wi_goto fMoon_least_20 (wi_ret1 fMoon_least_27 ((((h.2 c8).1 c7).2 y3 τ4 eτ4).2 c6)))))))))))))))))))) (fun c7 => (wi_bipush fMoon_least_6 (wi_ret1 fMoon_least_7 ((h.2 c8).2 c7)))))))))))))
theorem k_Moon_least {xs : List Int} {d : Nat} {Q : Option w_V → w_M → Prop} {x1 : Int} {σ : w_M} (hp : p_Moon_least x1 σ) (hQ : ∀ (x : Int) (σ' : w_M), q_Moon_least x1 σ x σ' → Q (some (.inl x)) σ') : w_Call (xs, d + 7) 133 [.inr (.inr (0, 0)), .inl x1] σ Q := by
  have hC : CI σ := hp
  have hok := hC.ok
  have hn := n_ok.n hok
  unfold q_Moon_least F_least at hQ
  have e5 : cS σ 0 0 5 = σ 14 5 := rfl
  have eA : cS σ 0 = w_ab σ 14 := rfl
  rw [e5, eA] at hQ
  refine bMoon_least_0 ⟨fun c => ⟨⟨hok, by decide⟩, fun y τ hq => ?_⟩, fun c => ⟨fun ca => ⟨⟨hok, by decide⟩, fun y τ hq => ⟨fun c4 => ⟨⟨by omega, by omega⟩, ⟨by omega, by omega⟩, fun y7 e7 => ?_⟩, fun c4 => ?_⟩⟩, fun ca => ?_⟩⟩
  · rw [if_pos (Or.inl c), if_pos c] at hQ
    exact hQ _ _ (c_qs hC hq.2.2 hq.1)
  · rw [if_pos (Or.inr ca), if_neg c] at hQ
    obtain ⟨q1, q2, q3⟩ := hq
    by_cases h : (ls_F (lo_s (w_ab σ 14) 10) (lo_d (w_ab σ 14) 10) (10 ^ n_n (w_ab σ 14))).2 = -4
    · rw [if_pos h] at q1
      exact absurd q1 c4
    · rw [if_neg h] at hQ
      refine hQ _ _ (c_qs hC q3 ?_)
      rw [e7]
      exact q2 h _ (by show (x1 - 10).toNat < (σ 14 5).toNat; omega)
  · rw [if_pos (Or.inr ca), if_neg c] at hQ
    obtain ⟨q1, q2, q3⟩ := hq
    by_cases h : (ls_F (lo_s (w_ab σ 14) 10) (lo_d (w_ab σ 14) 10) (10 ^ n_n (w_ab σ 14))).2 = -4
    · rw [if_pos h] at hQ
      exact hQ _ _ (c_qs hC q3 c4)
    · rw [if_neg h] at q1
      rcases ls_spec (d := lo_d (w_ab σ 14) 10) (lo_s_le hok (B := 10) (by decide) (by decide)) (10 ^ n_n (w_ab σ 14)) with ⟨a1, -⟩ | ⟨m, -, -, a2, -⟩
      · exact absurd a1 h
      · have := lo_s_le hok (B := 10) (by decide) (by decide) m
        omega
  · rw [if_neg (by omega)] at hQ
    exact hQ _ _ (c_qr hC rfl)
noncomputable def p_Model_least (_x1 : Int) (σ : w_M) : Prop := MI σ
noncomputable def q_Model_least (x1 : Int) (σ : w_M) (x : Int) (σ' : w_M) : Prop := m_q (F_least (mS σ) x1) (mS σ) σ x σ'
noncomputable def w_c212 : List Instr := [.iload 1, .ifCond .eq 10, .aload 0, .iload 1, .bipush 10, .fsub, .invokestatic 181, .ifCond .ne 10, .bipush (-1), .ireturn, .bipush 1000000, .istore 2, .bipush (-4), .istore 3, .bipush 0, .istore 4, .iload 4, .aload 0, .bipush 10, .invokestatic 207, .if_icmp .ge 74, .bipush 0, .istore 5, .aload 0, .invokestatic 174, .bipush 0, .istore 6, .iload 6, .aload 0, .getfield 905, .if_icmp .ge 49, .aload 0, .iload 6, .bipush 1, .aload 0, .iload 4, .iload 6, .bipush 10, .invokestatic 209, .invokestatic 199, .iload 5, .aload 0, .iload 6, .bipush 1, .invokestatic 178, .iadd, .istore 5, .iinc 6 1, .goto 27, .iload 5, .iload 2, .if_icmp .ge 58, .aload 0, .invokestatic 204, .bipush (-4), .if_icmp .eq 58, .bipush 1, .goto 59, .bipush 0, .istore 6, .iload 6, .ifCond .eq 64, .iload 4, .goto 65, .iload 3, .istore 3, .iload 6, .ifCond .eq 70, .iload 5, .goto 71, .iload 2, .istore 2, .iinc 4 1, .goto 16, .iload 3, .bipush (-4), .if_icmp .ne 79, .bipush (-4), .goto 90, .iload 1, .ifCond .ne 83, .iload 2, .goto 90, .aload 0, .iload 3, .iload 1, .bipush 10, .isub, .bipush 10, .invokestatic 209, .ireturn]
theorem fModel_least_0 : w_fe w_c212 0 1 (.iload 1) := ⟨rfl, rfl⟩
theorem fModel_least_1 : w_if w_c212 1 2 .eq 10 := ⟨rfl, rfl⟩
theorem fModel_least_2 : w_fe w_c212 2 3 (.aload 0) := ⟨rfl, rfl⟩
theorem fModel_least_3 : w_fe w_c212 3 4 (.iload 1) := ⟨rfl, rfl⟩
theorem fModel_least_4 : w_fe w_c212 4 5 (.bipush 10) := ⟨rfl, rfl⟩
theorem fModel_least_5 : w_fe w_c212 5 6 (.fsub) := ⟨rfl, rfl⟩
theorem fModel_least_6 : w_fe w_c212 6 7 (.invokestatic 181) := ⟨rfl, rfl⟩
theorem fModel_least_7 : w_if w_c212 7 8 .ne 10 := ⟨rfl, rfl⟩
theorem fModel_least_8 : w_fe w_c212 8 9 (.bipush (-1)) := ⟨rfl, rfl⟩
theorem fModel_least_9 : w_fe w_c212 9 10 (.ireturn) := ⟨rfl, rfl⟩
theorem fModel_least_10 : w_fe w_c212 10 11 (.bipush 1000000) := ⟨rfl, rfl⟩
theorem fModel_least_11 : w_fe w_c212 11 12 (.istore 2) := ⟨rfl, rfl⟩
theorem fModel_least_12 : w_fe w_c212 12 13 (.bipush (-4)) := ⟨rfl, rfl⟩
theorem fModel_least_13 : w_fe w_c212 13 14 (.istore 3) := ⟨rfl, rfl⟩
theorem fModel_least_14 : w_fe w_c212 14 15 (.bipush 0) := ⟨rfl, rfl⟩
theorem fModel_least_15 : w_fe w_c212 15 16 (.istore 4) := ⟨rfl, rfl⟩
theorem fModel_least_16 : w_fe w_c212 16 17 (.iload 4) := ⟨rfl, rfl⟩
theorem fModel_least_17 : w_fe w_c212 17 18 (.aload 0) := ⟨rfl, rfl⟩
theorem fModel_least_18 : w_fe w_c212 18 19 (.bipush 10) := ⟨rfl, rfl⟩
theorem fModel_least_19 : w_fe w_c212 19 20 (.invokestatic 207) := ⟨rfl, rfl⟩
theorem fModel_least_20 : w_ic w_c212 20 21 .ge 74 := ⟨rfl, rfl⟩
theorem fModel_least_21 : w_fe w_c212 21 22 (.bipush 0) := ⟨rfl, rfl⟩
theorem fModel_least_22 : w_fe w_c212 22 23 (.istore 5) := ⟨rfl, rfl⟩
theorem fModel_least_23 : w_fe w_c212 23 24 (.aload 0) := ⟨rfl, rfl⟩
theorem fModel_least_24 : w_fe w_c212 24 25 (.invokestatic 174) := ⟨rfl, rfl⟩
theorem fModel_least_25 : w_fe w_c212 25 26 (.bipush 0) := ⟨rfl, rfl⟩
theorem fModel_least_26 : w_fe w_c212 26 27 (.istore 6) := ⟨rfl, rfl⟩
theorem fModel_least_27 : w_fe w_c212 27 28 (.iload 6) := ⟨rfl, rfl⟩
theorem fModel_least_28 : w_fe w_c212 28 29 (.aload 0) := ⟨rfl, rfl⟩
theorem fModel_least_29 : w_fe w_c212 29 30 (.getfield 905) := ⟨rfl, rfl⟩
theorem fModel_least_30 : w_ic w_c212 30 31 .ge 49 := ⟨rfl, rfl⟩
theorem fModel_least_31 : w_fe w_c212 31 32 (.aload 0) := ⟨rfl, rfl⟩
theorem fModel_least_32 : w_fe w_c212 32 33 (.iload 6) := ⟨rfl, rfl⟩
theorem fModel_least_33 : w_fe w_c212 33 34 (.bipush 1) := ⟨rfl, rfl⟩
theorem fModel_least_34 : w_fe w_c212 34 35 (.aload 0) := ⟨rfl, rfl⟩
theorem fModel_least_35 : w_fe w_c212 35 36 (.iload 4) := ⟨rfl, rfl⟩
theorem fModel_least_36 : w_fe w_c212 36 37 (.iload 6) := ⟨rfl, rfl⟩
theorem fModel_least_37 : w_fe w_c212 37 38 (.bipush 10) := ⟨rfl, rfl⟩
theorem fModel_least_38 : w_fe w_c212 38 39 (.invokestatic 209) := ⟨rfl, rfl⟩
theorem fModel_least_39 : w_fe w_c212 39 40 (.invokestatic 199) := ⟨rfl, rfl⟩
theorem fModel_least_40 : w_fe w_c212 40 41 (.iload 5) := ⟨rfl, rfl⟩
theorem fModel_least_41 : w_fe w_c212 41 42 (.aload 0) := ⟨rfl, rfl⟩
theorem fModel_least_42 : w_fe w_c212 42 43 (.iload 6) := ⟨rfl, rfl⟩
theorem fModel_least_43 : w_fe w_c212 43 44 (.bipush 1) := ⟨rfl, rfl⟩
theorem fModel_least_44 : w_fe w_c212 44 45 (.invokestatic 178) := ⟨rfl, rfl⟩
theorem fModel_least_45 : w_fe w_c212 45 46 (.iadd) := ⟨rfl, rfl⟩
theorem fModel_least_46 : w_fe w_c212 46 47 (.istore 5) := ⟨rfl, rfl⟩
theorem fModel_least_47 : w_fe w_c212 47 48 (.iinc 6 1) := ⟨rfl, rfl⟩
theorem fModel_least_48 : w_gt w_c212 48 27 := rfl
theorem fModel_least_49 : w_fe w_c212 49 50 (.iload 5) := ⟨rfl, rfl⟩
theorem fModel_least_50 : w_fe w_c212 50 51 (.iload 2) := ⟨rfl, rfl⟩
theorem fModel_least_51 : w_ic w_c212 51 52 .ge 58 := ⟨rfl, rfl⟩
theorem fModel_least_52 : w_fe w_c212 52 53 (.aload 0) := ⟨rfl, rfl⟩
theorem fModel_least_53 : w_fe w_c212 53 54 (.invokestatic 204) := ⟨rfl, rfl⟩
theorem fModel_least_54 : w_fe w_c212 54 55 (.bipush (-4)) := ⟨rfl, rfl⟩
theorem fModel_least_55 : w_ic w_c212 55 56 .eq 58 := ⟨rfl, rfl⟩
theorem fModel_least_56 : w_fe w_c212 56 57 (.bipush 1) := ⟨rfl, rfl⟩
theorem fModel_least_57 : w_gt w_c212 57 59 := rfl
theorem fModel_least_58 : w_fe w_c212 58 59 (.bipush 0) := ⟨rfl, rfl⟩
theorem fModel_least_59 : w_fe w_c212 59 60 (.istore 6) := ⟨rfl, rfl⟩
theorem fModel_least_60 : w_fe w_c212 60 61 (.iload 6) := ⟨rfl, rfl⟩
theorem fModel_least_61 : w_if w_c212 61 62 .eq 64 := ⟨rfl, rfl⟩
theorem fModel_least_62 : w_fe w_c212 62 63 (.iload 4) := ⟨rfl, rfl⟩
theorem fModel_least_63 : w_gt w_c212 63 65 := rfl
theorem fModel_least_64 : w_fe w_c212 64 65 (.iload 3) := ⟨rfl, rfl⟩
theorem fModel_least_65 : w_fe w_c212 65 66 (.istore 3) := ⟨rfl, rfl⟩
theorem fModel_least_66 : w_fe w_c212 66 67 (.iload 6) := ⟨rfl, rfl⟩
theorem fModel_least_67 : w_if w_c212 67 68 .eq 70 := ⟨rfl, rfl⟩
theorem fModel_least_68 : w_fe w_c212 68 69 (.iload 5) := ⟨rfl, rfl⟩
theorem fModel_least_69 : w_gt w_c212 69 71 := rfl
theorem fModel_least_70 : w_fe w_c212 70 71 (.iload 2) := ⟨rfl, rfl⟩
theorem fModel_least_71 : w_fe w_c212 71 72 (.istore 2) := ⟨rfl, rfl⟩
theorem fModel_least_72 : w_fe w_c212 72 73 (.iinc 4 1) := ⟨rfl, rfl⟩
theorem fModel_least_73 : w_gt w_c212 73 16 := rfl
theorem fModel_least_74 : w_fe w_c212 74 75 (.iload 3) := ⟨rfl, rfl⟩
theorem fModel_least_75 : w_fe w_c212 75 76 (.bipush (-4)) := ⟨rfl, rfl⟩
theorem fModel_least_76 : w_ic w_c212 76 77 .ne 79 := ⟨rfl, rfl⟩
theorem fModel_least_77 : w_fe w_c212 77 78 (.bipush (-4)) := ⟨rfl, rfl⟩
theorem fModel_least_78 : w_gt w_c212 78 90 := rfl
theorem fModel_least_79 : w_fe w_c212 79 80 (.iload 1) := ⟨rfl, rfl⟩
theorem fModel_least_80 : w_if w_c212 80 81 .ne 83 := ⟨rfl, rfl⟩
theorem fModel_least_81 : w_fe w_c212 81 82 (.iload 2) := ⟨rfl, rfl⟩
theorem fModel_least_82 : w_gt w_c212 82 90 := rfl
theorem fModel_least_83 : w_fe w_c212 83 84 (.aload 0) := ⟨rfl, rfl⟩
theorem fModel_least_84 : w_fe w_c212 84 85 (.iload 3) := ⟨rfl, rfl⟩
theorem fModel_least_85 : w_fe w_c212 85 86 (.iload 1) := ⟨rfl, rfl⟩
theorem fModel_least_86 : w_fe w_c212 86 87 (.bipush 10) := ⟨rfl, rfl⟩
theorem fModel_least_87 : w_fe w_c212 87 88 (.isub) := ⟨rfl, rfl⟩
theorem fModel_least_88 : w_fe w_c212 88 89 (.bipush 10) := ⟨rfl, rfl⟩
theorem fModel_least_89 : w_fe w_c212 89 90 (.invokestatic 209) := ⟨rfl, rfl⟩
theorem fModel_least_90 : w_fe w_c212 90 91 (.ireturn) := ⟨rfl, rfl⟩
noncomputable def LModel_least_16 (xs : List Int) (d : Nat) (Q : Option w_V → w_M → Prop) (v1 : Int) (v2 : Int) (v3 : Int) (v4 : Int) (σ : w_M) : Prop := ∀ l5, w_nl l5 → ∀ l6, w_nl l6 → w_Ex (xs, d) 1 w_c212 Q 16 [some (.inr (.inr (9, 122))), some (.inl v1), some (.inl v2), some (.inl v3), some (.inl v4), l5, l6] [] σ
noncomputable def LModel_least_27 (xs : List Int) (d : Nat) (Q : Option w_V → w_M → Prop) (v1 : Int) (v2 : Int) (v3 : Int) (v4 : Int) (v5 : Int) (v6 : Int) (σ : w_M) : Prop := w_Ex (xs, d) 1 w_c212 Q 27 [some (.inr (.inr (9, 122))), some (.inl v1), some (.inl v2), some (.inl v3), some (.inl v4), some (.inl v5), some (.inl v6)] [] σ
set_option maxRecDepth 20000 in
theorem bModel_least_0 {xs : List Int} {d : Nat} {Q : Option w_V → w_M → Prop} {x1 : Int} {σ : w_M}
    (h : (x1 = 0 → LModel_least_16 xs (d + 6) Q x1 1000000 (-4) 0 σ) ∧ (¬ x1 = 0 → (p_Model_isReaper (w_wr (x1 - 10)) σ ∧ (((0 ≤ (w_wr (x1 - 10)) ∧ (w_wr (x1 - 10)) < σ 122 5) → LModel_least_16 xs (d + 6) Q x1 1000000 (-4) 0 σ) ∧ (¬ (0 ≤ (w_wr (x1 - 10)) ∧ (w_wr (x1 - 10)) < σ 122 5) → Q (some (.inl (-1))) σ))))) : w_Call (xs, (d + 6)) 212 [.inr (.inr (9, 122)), .inl x1] σ Q :=
  (w_mk (mid := 212) (by decide) rfl rfl rfl rfl rfl (Nat.le_of_ble_eq_true rfl) ⟨rfl, Or.inl (by decide)⟩ (wi_iload1 fModel_least_0 (wi_if_eq fModel_least_1 (fun c2 => (wi_bipush fModel_least_10 (wi_istore2 fModel_least_11 trivial (wi_bipush fModel_least_12 (wi_istore3 fModel_least_13 trivial (wi_bipush fModel_least_14 (wi_istore4 fModel_least_15 trivial ((h.1 c2) _ (by exact trivial) _ (by exact trivial))))))))) (fun c2 => (wi_aload0 fModel_least_2 (wi_iload1 fModel_least_3 (wi_bipush fModel_least_4 (wi_fsub fModel_least_5 (wi_call2 fModel_least_6 (Nat.le_of_ble_eq_true rfl) (k_Model_isReaper (h.2 c2).1 (wi_ifb_ne fModel_least_7 (fun c1 => (wi_bipush fModel_least_10 (wi_istore2 fModel_least_11 trivial (wi_bipush fModel_least_12 (wi_istore3 fModel_least_13 trivial (wi_bipush fModel_least_14 (wi_istore4 fModel_least_15 trivial (((h.2 c2).2.1 c1) _ (by exact trivial) _ (by exact trivial))))))))) (fun c1 => (wi_bipush fModel_least_8 (wi_ret1 fModel_least_9 ((h.2 c2).2.2 c1)))))))))))))))
set_option maxRecDepth 20000 in
theorem bModel_least_16 {xs : List Int} {d : Nat} {Q : Option w_V → w_M → Prop} {v1 : Int} {v2 : Int} {v3 : Int} {v4 : Int} {σ : w_M}
    (h : p_Model_rowsOf 10 σ ∧ (∀ (y1 : Int), y1 = v_Model_rowsOf 10 σ → ((y1 ≤ v4 → ((¬ v3 = (-4) → ((¬ v1 = 0 → (w_in (v1 - 10) ∧ p_Model_toldBy v3 (v1 - 10) 10 σ ∧ (∀ (y2 : Int), y2 = v_Model_toldBy v3 (v1 - 10) 10 σ → Q (some (.inl y2)) σ))) ∧ (v1 = 0 → Q (some (.inl v2)) σ))) ∧ (v3 = (-4) → Q (some (.inl (-4))) σ))) ∧ (v4 < y1 → (p_Model_starts σ ∧ (∀ (τ5 : w_M), q_Model_starts σ τ5 → LModel_least_27 xs (d + 6) Q v1 v2 v3 v4 0 0 τ5)))))) : LModel_least_16 xs (d + 6) Q v1 v2 v3 v4 σ :=
  fun l5 nl5 => fun l6 nl6 => (wi_iload4 fModel_least_16 (wi_aload0 fModel_least_17 (wi_bipush fModel_least_18 (wi_call2 fModel_least_19 (Nat.le_of_ble_eq_true rfl) (k_Model_rowsOf h.1 (wi_ic_ge fModel_least_20 (fun c6 => (wi_iload3 fModel_least_74 (wi_bipush fModel_least_75 (wi_ic_ne fModel_least_76 (fun c4 => (wi_iload1 fModel_least_79 (wi_if_ne fModel_least_80 (fun c3 => (wi_aload0 fModel_least_83 (wi_iload3 fModel_least_84 (wi_iload1 fModel_least_85 (wi_bipush fModel_least_86 (wi_isub fModel_least_87 ((((h.2 _ rfl).1 c6).1 c4).1 c3).1 (wi_bipush fModel_least_88 (wi_call4 fModel_least_89 (Nat.le_of_ble_eq_true rfl) (k_Model_toldBy ((((h.2 _ rfl).1 c6).1 c4).1 c3).2.1 (wi_ret1 fModel_least_90 (((((h.2 _ rfl).1 c6).1 c4).1 c3).2.2 _ rfl))))))))))) (fun c3 => (wi_iload2 fModel_least_81 (wi_goto fModel_least_82 (wi_ret1 fModel_least_90 ((((h.2 _ rfl).1 c6).1 c4).2 c3)))))))) (fun c4 => (wi_bipush fModel_least_77 (wi_goto fModel_least_78 (wi_ret1 fModel_least_90 (((h.2 _ rfl).1 c6).2 c4))))))))) (fun c6 => (wi_bipush fModel_least_21 (wi_istore5 fModel_least_22 trivial (wi_aload0 fModel_least_23 (wi_call1 fModel_least_24 (Nat.le_of_ble_eq_true rfl) (k_Model_starts ((h.2 _ rfl).2 c6).1 (fun τ5 eτ5 => (wi_bipush fModel_least_25 (wi_istore6 fModel_least_26 trivial (((h.2 _ rfl).2 c6).2 τ5 eτ5))))))))))))))))
set_option maxRecDepth 20000 in
theorem bModel_least_27 {xs : List Int} {d : Nat} {Q : Option w_V → w_M → Prop} {v1 : Int} {v2 : Int} {v3 : Int} {v4 : Int} {v5 : Int} {v6 : Int} {σ : w_M}
    (h : ((σ 122 5) ≤ v6 → ((v2 ≤ v5 → (w_in (v4 + 1) ∧ LModel_least_16 xs (d + 6) Q v1 v2 v3 (v4 + 1) σ)) ∧ (v5 < v2 → (p_Model_doneBehind σ ∧ (∀ (y1 : Int) (τ2 : w_M), q_Model_doneBehind σ y1 τ2 → ((y1 = (-4) → (w_in (v4 + 1) ∧ LModel_least_16 xs (d + 6) Q v1 v2 v3 (v4 + 1) τ2)) ∧ (¬ y1 = (-4) → (w_in (v4 + 1) ∧ LModel_least_16 xs (d + 6) Q v1 v5 v4 (v4 + 1) τ2)))))))) ∧ (v6 < (σ 122 5) → (p_Model_toldBy v4 v6 10 σ ∧ (∀ (y5 : Int), y5 = v_Model_toldBy v4 v6 10 σ → (p_Model_becomesOf v6 1 y5 σ ∧ (∀ (τ6 : w_M), q_Model_becomesOf v6 1 y5 σ τ6 → (p_Model_of v6 1 τ6 ∧ w_in (v5 + (τ6 124 (21 + 5 * v6 + 1).toNat)) ∧ (∀ (y7 : Int), y7 = (v5 + (τ6 124 (21 + 5 * v6 + 1).toNat)) → (w_in (v6 + 1) ∧ LModel_least_27 xs (d + 6) Q v1 v2 v3 v4 y7 (v6 + 1) τ6))))))))) : LModel_least_27 xs (d + 6) Q v1 v2 v3 v4 v5 v6 σ :=
  (wi_iload6 fModel_least_27 (wi_aload0 fModel_least_28 (wi_getf905 fModel_least_29 (wi_ic_ge fModel_least_30 (fun c8 => (wi_iload5 fModel_least_49 (wi_iload2 fModel_least_50 (wi_ic_ge fModel_least_51 (fun c4 => (wi_bipush fModel_least_58 (wi_istore6 fModel_least_59 trivial (wi_iload6 fModel_least_60 (wi_if_eq fModel_least_61 (fun _ => (wi_iload3 fModel_least_64 (wi_istore3 fModel_least_65 trivial (wi_iload6 fModel_least_66 (wi_if_eq fModel_least_67 (fun _ => (wi_iload2 fModel_least_70 (wi_istore2 fModel_least_71 trivial (wi_iinc4 fModel_least_72 trivial ((h.1 c8).1 c4).1 (wi_goto fModel_least_73 (((h.1 c8).1 c4).2 _ (by exact trivial) _ (by exact trivial))))))) (fun e => absurd e (by decide))))))) (fun e => absurd e (by decide))))))) (fun c4 => (wi_aload0 fModel_least_52 (wi_call1 fModel_least_53 (Nat.le_of_ble_eq_true rfl) (k_Model_doneBehind ((h.1 c8).2 c4).1 (fun y1 τ2 eτ2 => (wi_bipush fModel_least_54 (wi_ic_eq fModel_least_55 (fun c3 => (wi_bipush fModel_least_58 (wi_istore6 fModel_least_59 trivial (wi_iload6 fModel_least_60 (wi_if_eq fModel_least_61 (fun _ => (wi_iload3 fModel_least_64 (wi_istore3 fModel_least_65 trivial (wi_iload6 fModel_least_66 (wi_if_eq fModel_least_67 (fun _ => (wi_iload2 fModel_least_70 (wi_istore2 fModel_least_71 trivial (wi_iinc4 fModel_least_72 trivial ((((h.1 c8).2 c4).2 y1 τ2 eτ2).1 c3).1 (wi_goto fModel_least_73 (((((h.1 c8).2 c4).2 y1 τ2 eτ2).1 c3).2 _ (by exact trivial) _ (by exact trivial))))))) (fun e => absurd e (by decide))))))) (fun e => absurd e (by decide))))))) (fun c3 => (wi_bipush fModel_least_56 (wi_goto fModel_least_57 (wi_istore6 fModel_least_59 trivial (wi_iload6 fModel_least_60 (wi_if_eq fModel_least_61 (fun e => absurd e (by decide)) (fun _ => (wi_iload4 fModel_least_62 (wi_goto fModel_least_63 (wi_istore3 fModel_least_65 trivial (wi_iload6 fModel_least_66 (wi_if_eq fModel_least_67 (fun e => absurd e (by decide)) (fun _ => (wi_iload5 fModel_least_68 (wi_goto fModel_least_69 (wi_istore2 fModel_least_71 trivial (wi_iinc4 fModel_least_72 trivial ((((h.1 c8).2 c4).2 y1 τ2 eτ2).2 c3).1 (wi_goto fModel_least_73 (((((h.1 c8).2 c4).2 y1 τ2 eτ2).2 c3).2 _ (by exact trivial) _ (by exact trivial))))))))))))))))))))))))))))))) (fun c8 => (wi_aload0 fModel_least_31 (wi_iload6 fModel_least_32 (wi_bipush fModel_least_33 (wi_aload0 fModel_least_34 (wi_iload4 fModel_least_35 (wi_iload6 fModel_least_36 (wi_bipush fModel_least_37 (wi_call4 fModel_least_38 (Nat.le_of_ble_eq_true rfl) (k_Model_toldBy (h.2 c8).1 (wi_call4 fModel_least_39 (Nat.le_of_ble_eq_true rfl) (k_Model_becomesOf ((h.2 c8).2 _ rfl).1 (fun τ6 eτ6 => (wi_iload5 fModel_least_40 (wi_aload0 fModel_least_41 (wi_iload6 fModel_least_42 (wi_bipush fModel_least_43 (wi_call3 fModel_least_44 (Nat.le_of_ble_eq_true rfl) (k_Model_of (((h.2 c8).2 _ rfl).2 τ6 eτ6).1 (wi_iadd fModel_least_45 (((h.2 c8).2 _ rfl).2 τ6 eτ6).2.1 (wi_istore5 fModel_least_46 trivial (wi_iinc6 fModel_least_47 trivial ((((h.2 c8).2 _ rfl).2 τ6 eτ6).2.2 _ rfl).1 (wi_goto fModel_least_48 ((((h.2 c8).2 _ rfl).2 τ6 eτ6).2.2 _ rfl).2)))))))))))))))))))))))))))
set_option maxHeartbeats 2000000 in
theorem k_Model_least {xs : List Int} {d : Nat} {Q : Option w_V → w_M → Prop} {x1 : Int} {σ : w_M} (hp : p_Model_least x1 σ) (hQ : ∀ (x : Int) (σ' : w_M), q_Model_least x1 σ x σ' → Q (some (.inl x)) σ') : w_Call (xs, d + 6) 212 [.inr (.inr (9, 122)), .inl x1] σ Q := by
  refine w_Call_as (fun has => ?_)
  have hx : w_in x1 := has (.inl x1) (by simp)
  have hM : MI σ := hp
  have hok := hM.ok
  have hn := hM.n
  unfold q_Model_least F_least at hQ
  have e5 : mS σ 0 0 5 = σ 122 5 := rfl
  have eA : mS σ 0 = w_am σ 123 0 := rfl
  rw [e5, eA] at hQ
  have en : n_n (w_am σ 123 0) = (σ 122 5).toNat := rfl
  have main : (x1 = 0 ∨ (10 ≤ x1 ∧ x1 - 10 < σ 122 5)) → LModel_least_16 xs (d + 6) Q x1 1000000 (-4) 0 σ := by
    intro hw
    rw [if_pos hw] at hQ
    have hW : n_WF (w_am σ 123 0) := hok
    have st : ∀ {τ τ1 : w_M}, w_f1 σ τ 124 → p_Model_starts τ ∧ (q_Model_starts τ τ1 → w_am τ1 124 0 = w_am σ 123 0 ∧ w_f1 σ τ1 124 ∧ ∀ j, j < 82 → τ1 124 j = σ 123 j) := fun F => m_starts hM F
    generalize hA : w_am σ 123 0 = A at *
    have hn4 : n_n A ≤ 4 := by omega
    have p10 := pow10 (B := 10) (n := n_n A) (by decide) hn4
    have hsl := lo_s_le hW (B := 10) (by decide) (by decide)
    generalize hs : lo_s A 10 = s at *
    generalize hd : lo_d A 10 = dd at *
    refine (w_loop (n := 10 ^ n_n A) (P := fun k => ∀ τ : w_M, w_f1 σ τ 124 → LModel_least_16 xs (d + 6) Q x1 (ls_F s dd k).1 (ls_F s dd k).2 (k : Int) τ) ?_ ?_) σ w_f1.rfl'
    · intro τ F
      have z2 : τ 122 = σ 122 := F 122 (by decide)
      refine bModel_least_16 ⟨⟨by decide, by rw [z2]; exact hn⟩, fun y ey => ?_⟩
      unfold v_Model_rowsOf at ey
      rw [z2, ← en] at ey
      have ey' : y = ((10 ^ n_n A : Nat) : Int) := ey
      refine ⟨fun _ => ⟨fun c => ⟨fun c2 => ⟨⟨by omega, by omega⟩, ?_, fun y2 e2 => ?_⟩, fun c2 => ?_⟩, fun c => ?_⟩, fun h => by omega⟩
      · refine ⟨?_, by rw [z2]; omega, by decide, by rw [z2]; omega⟩
        rcases ls_spec (d := dd) hsl (10 ^ n_n A) with ⟨q1, -⟩ | ⟨m, q0, q1, -⟩
        · exact absurd q1 c
        · omega
      · rw [if_neg c, if_neg c2] at hQ
        refine hQ _ _ (m_qs hM F ?_)
        rw [e2]
        unfold v_Model_toldBy
        rw [z2, ← en]
        rfl
      · rw [if_neg c, if_pos c2] at hQ
        exact hQ _ _ (m_qs hM F rfl)
      · rw [if_pos c] at hQ
        exact hQ _ _ (m_qs hM F rfl)
    · intro k hk ih τ F
      have z2 : τ 122 = σ 122 := F 122 (by decide)
      refine bModel_least_16 ⟨⟨by decide, by rw [z2]; exact hn⟩, fun y ey => ?_⟩
      unfold v_Model_rowsOf at ey
      rw [z2, ← en] at ey
      have ey' : y = ((10 ^ n_n A : Nat) : Int) := ey
      refine ⟨fun h => by omega, fun _ => ⟨(st (τ1 := τ) F).1, fun τ3 hq3 => ?_⟩⟩
      obtain ⟨a3, F3, -⟩ := (st F).2 hq3
      refine (w_loop (n := n_n A) (P := fun i => ∀ τ : w_M, w_f1 σ τ 124 → w_am τ 124 0 = (fun d j => if d = 4 ∧ j < i then lo_f A 10 k j else A d j) → LModel_least_27 xs (d + 6) Q x1 (ls_F s dd k).1 (ls_F s dd k).2 (k : Int) (f_sum (lo_f A 10 k) i) (i : Int) τ) ?_ ?_) τ3 F3 ?_
      · intro τ5 F5 h5
        have z5 : τ5 122 = σ 122 := F5 122 (by decide)
        have es : f_sum (lo_f A 10 k) (n_n A) = s k := by rw [← hs]; rfl
        have ebo : w_am τ5 124 0 = n_bo A (lo_f A 10 k) := h5
        have Wb : n_WF (n_bo A (lo_f A 10 k)) := n_bo_WF hW (fun r _ => by
          have := dg_lt (B := 10) (n := n_n A) (k := k) (r := r) (by decide)
          unfold lo_f
          omega)
        simp only [ls_F] at ih
        rw [w_cs1] at ih
        rw [es]
        refine bModel_least_27 ⟨fun _ => ⟨fun c => ⟨⟨by omega, by omega⟩, ?_⟩, fun c => ⟨by unfold p_Model_doneBehind m_ok; rw [ebo]; exact Wb, fun y1 τ6 hq6 => ?_⟩⟩, fun h => by rw [z5] at h; omega⟩
        · rw [if_neg (fun q => by have := q.1; omega)] at ih
          exact ih τ5 F5
        · obtain ⟨-, ed, F6⟩ := hq6
          rw [ebo] at ed
          have ed' : y1 = dd k := by rw [ed, ← hd]; rfl
          refine ⟨fun c2 => ⟨⟨by omega, by omega⟩, ?_⟩, fun c2 => ⟨⟨by omega, by omega⟩, ?_⟩⟩
          · rw [if_neg (fun q => q.2 (by omega))] at ih
            exact ih τ6 (F5.tr F6)
          · rw [if_pos ⟨c, by omega⟩] at ih
            exact ih τ6 (F5.tr F6)
      · intro i hi ih2 τ5 F5 h5
        have z5 : τ5 122 = σ 122 := F5 122 (by decide)
        have hd10 := dg_lt (B := 10) (n := n_n A) (k := k) (r := i) (by decide)
        have fs := f_sum_le (f := lo_f A 10 k) (B := 9) (m := n_n A) (fun r _ => by
          have := dg_lt (B := 10) (n := n_n A) (k := k) (r := r) (by decide)
          unfold lo_f
          omega) (Nat.le_of_lt hi)
        simp only [f_sum] at ih2
        rw [w_cs1] at ih2
        refine bModel_least_27 ⟨fun h => by rw [z5] at h; omega, fun _ => ⟨⟨by omega, by rw [z5]; omega, by decide, by rw [z5]; omega⟩, fun y5 e5' => ⟨⟨by omega, by decide⟩, fun τ6 t6 => ⟨⟨by omega, by decide⟩, ?_⟩⟩⟩⟩
        have t6' : τ6 = w_up τ5 124 (21 + 5 * (i : Int) + 1).toNat y5 := t6
        unfold v_Model_toldBy at e5'
        rw [z5, Int.toNat_natCast, Int.toNat_natCast, ← en] at e5'
        have e5'' : y5 = lo_f A 10 k i := e5'
        have hy5 : 0 ≤ y5 ∧ y5 ≤ 9 := by rw [e5'']; unfold lo_f; omega
        have erd : τ6 124 (21 + 5 * (i : Int) + 1).toNat = y5 := by rw [t6', w_up_at]
        rw [erd]
        refine ⟨⟨by omega, by omega⟩, fun y7 e7 => ⟨⟨by omega, by omega⟩, ?_⟩⟩
        rw [e7, e5'']
        refine ih2 τ6 (by rw [t6']; exact F5.up) ?_
        rw [t6', w_am_up (d := 4) (i := i) (by unfold m_sm; rw [z5]; exact hM.sm) (by decide) (by rw [m_rl37 (by decide) (by decide), z5]; omega) (by show _ = 0 + (22 + 5 * i); omega), h5]
        funext d j
        rw [w_up_eq]
        by_cases c : d = 4 ∧ j = i
        · rw [if_pos c, if_pos (by omega), e5'', c.2]
        · rw [if_neg c]
          by_cases c2 : d = 4 ∧ j < i
          · rw [if_pos c2, if_pos (by omega)]
          · rw [if_neg c2, if_neg (by omega)]
      · rw [a3]
        funext d j
        rw [if_neg (by omega)]
  have hi := w_wr10 hx hn
  refine bModel_least_0 ⟨fun c => main (Or.inl c), fun c => ⟨hn, fun ca => main (Or.inr (hi.mp ca)), fun ca => ?_⟩⟩
  rw [if_neg (fun q => q.elim c (fun q => ca (hi.mpr q)))] at hQ
  exact hQ _ _ (m_qr hM rfl)
