section
/-! Rows of choices: one number for each reaper, the last turning first -/
noncomputable def dv (B : Nat) : Nat → Nat → Nat
  | 0, k => k
  | j + 1, k => dv B j (k / B)
theorem dv_s (B : Nat) : ∀ j k, dv B (j + 1) k = dv B j k / B := by
  intro j
  induction j with
  | zero => intro k; rfl
  | succ j ih => intro k; show dv B (j + 1) (k / B) = dv B j (k / B) / B; exact ih _
/-- the number of reaper r, of n, in row k -/
noncomputable def dg (B n k r : Nat) : Nat := dv B (n - 1 - r) k % B
theorem dv_lt {B : Nat} : ∀ n k, k < B ^ n → dv B n k = 0 := by
  intro n
  induction n with
  | zero => intro k h; simp at h; exact h
  | succ n ih =>
    intro k h
    refine ih _ ?_
    rw [Nat.pow_succ, Nat.mul_comm] at h
    exact Nat.div_lt_of_lt_mul h
theorem dv_0 (B : Nat) : ∀ j, dv B j 0 = 0 := by
  intro j
  induction j with
  | zero => rfl
  | succ j ih => show dv B j (0 / B) = 0; rw [Nat.zero_div]; exact ih
theorem dg_0 (B n r : Nat) : dg B n 0 r = 0 := by unfold dg; rw [dv_0, Nat.zero_mod]
theorem dg_lt {B n k r : Nat} (h : 1 ≤ B) : dg B n k r < B := Nat.mod_lt _ (by omega)
theorem div_s1 {B q : Nat} (hB : 1 ≤ B) (h : q % B + 1 < B) : (q + 1) / B = q / B ∧ (q + 1) % B = q % B + 1 := by
  have e := Nat.div_add_mod q B
  have e1 : q + 1 = B * (q / B) + (q % B + 1) := by omega
  constructor
  · rw [e1, Nat.mul_add_div (by omega), Nat.div_eq_of_lt h, Nat.add_zero]
  · rw [e1, Nat.mul_add_mod, Nat.mod_eq_of_lt h]
theorem div_s2 {B q : Nat} (hB : 1 ≤ B) (h : B ≤ q % B + 1) : (q + 1) / B = q / B + 1 ∧ (q + 1) % B = 0 := by
  have e := Nat.div_add_mod q B
  have hl := Nat.mod_lt q (show 0 < B by omega)
  have h2 : q % B + 1 = B := by omega
  have e1 : q + 1 = B * (q / B) + B := by omega
  constructor
  · rw [e1, Nat.mul_add_div (by omega), Nat.div_self (by omega)]
  · rw [e1, Nat.mul_add_mod, Nat.mod_self]
theorem dv_up {B : Nat} {m k l : Nat} (h : dv B m l = dv B m k) : ∀ j, m ≤ j → dv B j l = dv B j k := by
  intro j hj
  obtain ⟨t, rfl⟩ := Nat.exists_eq_add_of_le hj
  induction t with
  | zero => exact h
  | succ t ih =>
    show dv B (m + t + 1) l = dv B (m + t + 1) k
    rw [dv_s, dv_s, ih (by omega)]
theorem dv_pos {B : Nat} {n k : Nat} (h : 1 ≤ dv B n k) (hB : 1 ≤ B) : B ^ n ≤ k := by
  by_cases hk : k < B ^ n
  · rw [dv_lt n k hk] at h; omega
  · omega
/-- what is picked is row k -/
noncomputable def pk_at (σ : w_M) (B n k : Nat) : Prop := ∀ r, r < n → σ 41 r = (dg B n k r : Nat) ∧ σ 42 r = (B : Int) - 1
noncomputable def p_Plan_turnPicks (n : Int) (σ : w_M) : Prop := (0 ≤ n ∧ n ≤ 4) ∧ ∃ B k : Nat, B ≤ 10 ∧ (1 ≤ B ∨ n = 0) ∧ k < B ^ n.toNat ∧ pk_at σ B n.toNat k
noncomputable def q_Plan_turnPicks (n : Int) (σ : w_M) (x : Int) (σ' : w_M) : Prop := w_f1 σ σ' 41 ∧ ∀ B k : Nat, B ≤ 10 → (1 ≤ B ∨ n = 0) → k < B ^ n.toNat → pk_at σ B n.toNat k → (x = 1 ∧ k + 1 < B ^ n.toNat ∧ pk_at σ' B n.toNat (k + 1)) ∨ (x = 0 ∧ k + 1 = B ^ n.toNat)
theorem pk_bnd {σ : w_M} {B n k : Nat} (h : pk_at σ B n k) (hB : 1 ≤ B) {r : Nat} (hr : r < n) : 0 ≤ σ 41 r ∧ σ 41 r < B := by
  have h1 := (h r hr).1
  have h2 := dg_lt (n := n) (k := k) (r := r) hB
  omega
theorem fPlan_turnPicks_0 : w_fe am_c72 0 1 (.iload 1) := ⟨rfl, rfl⟩
theorem fPlan_turnPicks_1 : w_fe am_c72 1 2 (.bipush 4) := ⟨rfl, rfl⟩
theorem fPlan_turnPicks_2 : w_fe am_c72 2 3 (.invokestatic 1) := ⟨rfl, rfl⟩
theorem fPlan_turnPicks_3 : w_fe am_c72 3 4 (.bipush 1) := ⟨rfl, rfl⟩
theorem fPlan_turnPicks_4 : w_fe am_c72 4 5 (.isub) := ⟨rfl, rfl⟩
theorem fPlan_turnPicks_5 : w_fe am_c72 5 6 (.istore 2) := ⟨rfl, rfl⟩
theorem fPlan_turnPicks_6 : w_fe am_c72 6 7 (.iload 2) := ⟨rfl, rfl⟩
theorem fPlan_turnPicks_7 : w_if am_c72 7 8 .lt 34 := ⟨rfl, rfl⟩
theorem fPlan_turnPicks_8 : w_fe am_c72 8 9 (.aload 0) := ⟨rfl, rfl⟩
theorem fPlan_turnPicks_9 : w_fe am_c72 9 10 (.getfield 601) := ⟨rfl, rfl⟩
theorem fPlan_turnPicks_10 : w_fe am_c72 10 11 (.iload 2) := ⟨rfl, rfl⟩
theorem fPlan_turnPicks_11 : w_fe am_c72 11 12 (.iaload) := ⟨rfl, rfl⟩
theorem fPlan_turnPicks_12 : w_fe am_c72 12 13 (.aload 0) := ⟨rfl, rfl⟩
theorem fPlan_turnPicks_13 : w_fe am_c72 13 14 (.getfield 602) := ⟨rfl, rfl⟩
theorem fPlan_turnPicks_14 : w_fe am_c72 14 15 (.iload 2) := ⟨rfl, rfl⟩
theorem fPlan_turnPicks_15 : w_fe am_c72 15 16 (.iaload) := ⟨rfl, rfl⟩
theorem fPlan_turnPicks_16 : w_ic am_c72 16 17 .ge 27 := ⟨rfl, rfl⟩
theorem fPlan_turnPicks_17 : w_fe am_c72 17 18 (.aload 0) := ⟨rfl, rfl⟩
theorem fPlan_turnPicks_18 : w_fe am_c72 18 19 (.getfield 601) := ⟨rfl, rfl⟩
theorem fPlan_turnPicks_19 : w_fe am_c72 19 20 (.iload 2) := ⟨rfl, rfl⟩
theorem fPlan_turnPicks_20 : w_fe am_c72 20 21 (.dup2) := ⟨rfl, rfl⟩
theorem fPlan_turnPicks_21 : w_fe am_c72 21 22 (.iaload) := ⟨rfl, rfl⟩
theorem fPlan_turnPicks_22 : w_fe am_c72 22 23 (.bipush 1) := ⟨rfl, rfl⟩
theorem fPlan_turnPicks_23 : w_fe am_c72 23 24 (.iadd) := ⟨rfl, rfl⟩
theorem fPlan_turnPicks_24 : w_fe am_c72 24 25 (.iastore) := ⟨rfl, rfl⟩
theorem fPlan_turnPicks_25 : w_fe am_c72 25 26 (.bipush 1) := ⟨rfl, rfl⟩
theorem fPlan_turnPicks_26 : w_fe am_c72 26 27 (.ireturn) := ⟨rfl, rfl⟩
theorem fPlan_turnPicks_27 : w_fe am_c72 27 28 (.aload 0) := ⟨rfl, rfl⟩
theorem fPlan_turnPicks_28 : w_fe am_c72 28 29 (.getfield 601) := ⟨rfl, rfl⟩
theorem fPlan_turnPicks_29 : w_fe am_c72 29 30 (.iload 2) := ⟨rfl, rfl⟩
theorem fPlan_turnPicks_30 : w_fe am_c72 30 31 (.bipush 0) := ⟨rfl, rfl⟩
theorem fPlan_turnPicks_31 : w_fe am_c72 31 32 (.iastore) := ⟨rfl, rfl⟩
theorem fPlan_turnPicks_32 : w_fe am_c72 32 33 (.iinc 2 (-1)) := ⟨rfl, rfl⟩
theorem fPlan_turnPicks_33 : w_gt am_c72 33 6 := rfl
theorem fPlan_turnPicks_34 : w_fe am_c72 34 35 (.bipush 0) := ⟨rfl, rfl⟩
theorem fPlan_turnPicks_35 : w_fe am_c72 35 36 (.ireturn) := ⟨rfl, rfl⟩
noncomputable def LPlan_turnPicks_6 (xs : List Int) (d : Nat) (Q : Option w_V → w_M → Prop) (v2 : Int) (σ : w_M) : Prop := ∀ l1, w_nl l1 → w_Ex (xs, d) 2 am_c72 Q 6 [some (.inr (.inr (6, 31))), l1, some (.inl v2)] [] σ
set_option maxRecDepth 20000 in
theorem bPlan_turnPicks_0 {xs : List Int} {d : Nat} {Q : Option w_V → w_M → Prop} {x1 : Int} {σ : w_M}
    (h : ∀ (y1 : Int), y1 = v_Math_min x1 4 → (w_in (y1 - 1) ∧ (∀ (y2 : Int), y2 = (y1 - 1) → LPlan_turnPicks_6 xs (d + 1) Q y2 σ))) : w_Call (xs, (d + 1)) 72 [.inr (.inr (6, 31)), .inl x1] σ Q :=
  (w_mk (mid := 72) (by decide) rfl rfl rfl rfl rfl (Nat.le_of_ble_eq_true rfl) ⟨rfl, Or.inl (by decide)⟩ (wi_iload1 fPlan_turnPicks_0 (wi_bipush fPlan_turnPicks_1 (wi_call2 fPlan_turnPicks_2 (Nat.le_of_ble_eq_true rfl) (k_Math_min (wi_bipush fPlan_turnPicks_3 (wi_isub fPlan_turnPicks_4 (h _ rfl).1 (wi_istore2 fPlan_turnPicks_5 trivial (((h _ rfl).2 _ rfl) _ (by exact trivial))))))))))
set_option maxRecDepth 20000 in
theorem bPlan_turnPicks_6 {xs : List Int} {d : Nat} {Q : Option w_V → w_M → Prop} {v2 : Int} {σ : w_M}
    (h : (v2 < 0 → Q (some (.inl 0)) σ) ∧ (0 ≤ v2 → (v2 < 4 ∧ (((σ 42 v2.toNat) ≤ (σ 41 v2.toNat) → ∀ (τ1 : w_M), τ1 = w_up σ 41 v2.toNat 0 → (w_in (v2 + (-1)) ∧ LPlan_turnPicks_6 xs (d + 1) Q (v2 + (-1)) τ1)) ∧ ((σ 41 v2.toNat) < (σ 42 v2.toNat) → (w_in ((σ 41 v2.toNat) + 1) ∧ (∀ (τ2 : w_M), τ2 = w_up σ 41 v2.toNat ((σ 41 v2.toNat) + 1) → Q (some (.inl 1)) τ2))))))) : LPlan_turnPicks_6 xs (d + 1) Q v2 σ :=
  fun l1 nl1 => (wi_iload2 fPlan_turnPicks_6 (wi_if_lt fPlan_turnPicks_7 (fun c4 => (wi_bipush fPlan_turnPicks_34 (wi_ret2 fPlan_turnPicks_35 (by decide) (h.1 c4)))) (fun c4 => (wi_aload0 fPlan_turnPicks_8 (wi_getf601 fPlan_turnPicks_9 (wi_iload2 fPlan_turnPicks_10 (wi_iald1004 fPlan_turnPicks_11 c4 (h.2 c4).1 (wi_aload0 fPlan_turnPicks_12 (wi_getf602 fPlan_turnPicks_13 (wi_iload2 fPlan_turnPicks_14 (wi_iald1004 fPlan_turnPicks_15 c4 (h.2 c4).1 (wi_ic_ge fPlan_turnPicks_16 (fun c3 => (wi_aload0 fPlan_turnPicks_27 (wi_getf601 fPlan_turnPicks_28 (wi_iload2 fPlan_turnPicks_29 (wi_bipush fPlan_turnPicks_30 (wi_iast1004 fPlan_turnPicks_31 c4 (h.2 c4).1 (wi_iinc2 fPlan_turnPicks_32 nl1 (((h.2 c4).2.1 c3) _ rfl).1 (wi_goto fPlan_turnPicks_33 ((((h.2 c4).2.1 c3) _ rfl).2 _ nl1))))))))) (fun c3 => (wi_aload0 fPlan_turnPicks_17 (wi_getf601 fPlan_turnPicks_18 (wi_iload2 fPlan_turnPicks_19 (wi_dup2 fPlan_turnPicks_20 (wi_iald1004 fPlan_turnPicks_21 c4 (h.2 c4).1 (wi_bipush fPlan_turnPicks_22 (wi_iadd fPlan_turnPicks_23 ((h.2 c4).2.2 c3).1 (wi_iast1004 fPlan_turnPicks_24 c4 (h.2 c4).1 (wi_bipush fPlan_turnPicks_25 (wi_ret2 fPlan_turnPicks_26 (by decide) (((h.2 c4).2.2 c3).2 _ rfl))))))))))))))))))))))))
theorem k_Plan_turnPicks {xs : List Int} {d : Nat} {Q : Option w_V → w_M → Prop} {x1 : Int} {σ : w_M} (hp : p_Plan_turnPicks x1 σ) (hQ : ∀ (x : Int) (σ' : w_M), q_Plan_turnPicks x1 σ x σ' → Q (some (.inl x)) σ') : w_Call (xs, d + 1) 72 [.inr (.inr (6, 31)), .inl x1] σ Q := by
  obtain ⟨⟨n0, n4⟩, B, k, hB10, hB, hk, hpk⟩ := hp
  obtain ⟨n, rfl⟩ := Int.eq_ofNat_of_zero_le n0
  unfold q_Plan_turnPicks at hQ
  rw [Int.toNat_natCast] at hQ hk hpk
  refine bPlan_turnPicks_0 (fun y1 e1 => ⟨?_, fun y2 e2 => ?_⟩)
  · rw [e1]; unfold v_Math_min; split <;> exact ⟨by omega, by omega⟩
  have ey : y2 = (n : Int) - 1 := by rw [e2, e1]; unfold v_Math_min; split <;> omega
  rw [ey, show (n : Int) - 1 = (n : Int) - 1 - ((0 : Nat) : Int) by omega]
  -- m numbers are turned to 0
  refine (w_loop (n := n) (P := fun m => ∀ τ : w_M, w_f1 σ τ 41 → (∀ r, r < n - m → τ 41 r = σ 41 r) → (∀ r, n - m ≤ r → r < n → τ 41 r = 0) → (∀ B k : Nat, B ≤ 10 → 1 ≤ B → k < B ^ n → pk_at σ B n k → dv B m (k + 1) = dv B m k + 1 ∧ ∀ j, j < m → dv B j (k + 1) % B = 0) → LPlan_turnPicks_6 xs (d + 1) Q ((n : Int) - 1 - (m : Int)) τ) ?_ ?_) σ w_f1.rfl' (fun r _ => rfl) (fun r h1 h2 => by omega) (fun B k _ _ _ _ => ⟨rfl, fun j hj => by omega⟩)
  · intro τ F h1 h2 h3
    refine bPlan_turnPicks_6 ⟨fun _ => hQ _ _ ⟨F, fun B k b1 b2 b3 b4 => Or.inr ⟨rfl, ?_⟩⟩, fun h => by omega⟩
    by_cases hB1 : 1 ≤ B
    · have := (h3 B k b1 hB1 b3 b4).1
      have := dv_pos (B := B) (n := n) (k := k + 1) (by omega) hB1
      omega
    · have hn0 : n = 0 := by omega
      subst hn0
      simp at b3 ⊢
      exact b3
  · intro m hm ih τ F h1 h2 h3
    have z42 : τ 42 = σ 42 := F 42 (by decide)
    have hB1 : 1 ≤ B := by omega
    have en : ((n : Int) - 1 - (m : Int)).toNat = n - 1 - m := by omega
    have hd := hpk (n - 1 - m) (by omega)
    have hlt := dg_lt (n := n) (k := k) (r := n - 1 - m) hB1
    refine bPlan_turnPicks_6 ⟨fun h => by omega, fun _ => ⟨by omega, ?_⟩⟩
    rw [en, z42, h1 _ (by omega)]
    refine ⟨fun c τ1 t1 => ⟨⟨by omega, by omega⟩, ?_⟩, fun c => ⟨⟨by omega, by omega⟩, fun τ2 t2 => hQ _ _ ⟨?_, fun B k b1 b2 b3 b4 => Or.inl ⟨rfl, ?_⟩⟩⟩⟩
    · rw [show (n : Int) - 1 - (m : Int) + (-1) = (n : Int) - 1 - ((m + 1 : Nat) : Int) by omega]
      refine ih τ1 (by rw [t1]; exact F.up) (fun r hr => ?_) (fun r hr1 hr2 => ?_) (fun B k b1 b2 b3 b4 => ?_)
      · rw [t1, w_up_j (by omega)]; exact h1 r (by omega)
      · rw [t1]
        by_cases hr : r = n - 1 - m
        · rw [hr, w_up_at]
        · rw [w_up_j hr]; exact h2 r (by omega) hr2
      · obtain ⟨g1, g2⟩ := h3 B k b1 b2 b3 b4
        have hd := b4 (n - 1 - m) (by omega)
        have ed : dg B n k (n - 1 - m) = dv B m k % B := by unfold dg; rw [show n - 1 - (n - 1 - m) = m by omega]
        rw [ed] at hd
        obtain ⟨s1, s2⟩ := div_s2 (q := dv B m k) b2 (by omega)
        refine ⟨by rw [dv_s, dv_s, g1, s1], fun j hj => ?_⟩
        by_cases hjm : j = m
        · rw [hjm, g1, s2]
        · exact g2 j (by omega)
    · rw [t2]; exact F.up
    · have b2' : 1 ≤ B := by omega
      obtain ⟨g1, g2⟩ := h3 B k b1 b2' b3 b4
      have hd := b4 (n - 1 - m) (by omega)
      have ed : dg B n k (n - 1 - m) = dv B m k % B := by unfold dg; rw [show n - 1 - (n - 1 - m) = m by omega]
      rw [ed] at hd
      obtain ⟨s1, s2⟩ := div_s1 (q := dv B m k) b2' (by omega)
      have hup : dv B (m + 1) (k + 1) = dv B (m + 1) k := by rw [dv_s, dv_s, g1, s1]
      refine ⟨?_, fun r hr => ⟨?_, by rw [t2, w_up_ne (by decide), z42]; exact (b4 r hr).2⟩⟩
      · by_cases hlt : k + 1 < B ^ n
        · exact hlt
        · have e : k + 1 = B ^ n := by omega
          have h0 := dv_lt (B := B) n k b3
          have hn := dv_up hup n (by omega)
          have hone : ∀ n, dv B n (B ^ n) = 1 := by
            intro n
            induction n with
            | zero => rfl
            | succ n ih => show dv B n (B ^ (n + 1) / B) = 1; rw [Nat.pow_succ, Nat.mul_div_cancel _ (by omega)]; exact ih
          rw [e, hone n, h0] at hn
          omega
      · rw [t2]
        unfold dg
        by_cases hr1 : r = n - 1 - m
        · rw [hr1, w_up_at, show n - 1 - (n - 1 - m) = m by omega, g1, s2, hd.1, w_cs1]
        · rw [w_up_j hr1]
          by_cases hr2 : r < n - 1 - m
          · rw [h1 r (by omega), (b4 r hr).1, dv_up hup (n - 1 - r) (by omega)]
            rfl
          · rw [h2 r (by omega) hr, g2 (n - 1 - r) (by omega)]
            rfl
noncomputable def p_Plan_startPicks (_ : Int) (_ : w_M) : Prop := True
noncomputable def q_Plan_startPicks (x : Int) (σ σ' : w_M) : Prop := (∀ r, r < 4 → σ' 41 r = 0 ∧ σ' 42 r = x) ∧ ∀ b, b ≠ 41 → b ≠ 42 → σ' b = σ b
theorem fPlan_startPicks_0 : w_fe am_c68 0 1 (.aload 0) := ⟨rfl, rfl⟩
theorem fPlan_startPicks_1 : w_fe am_c68 1 2 (.getfield 601) := ⟨rfl, rfl⟩
theorem fPlan_startPicks_2 : w_fe am_c68 2 3 (.bipush 0) := ⟨rfl, rfl⟩
theorem fPlan_startPicks_3 : w_fe am_c68 3 4 (.invokestatic 4) := ⟨rfl, rfl⟩
theorem fPlan_startPicks_4 : w_fe am_c68 4 5 (.aload 0) := ⟨rfl, rfl⟩
theorem fPlan_startPicks_5 : w_fe am_c68 5 6 (.getfield 602) := ⟨rfl, rfl⟩
theorem fPlan_startPicks_6 : w_fe am_c68 6 7 (.iload 1) := ⟨rfl, rfl⟩
theorem fPlan_startPicks_7 : w_fe am_c68 7 8 (.invokestatic 4) := ⟨rfl, rfl⟩
theorem fPlan_startPicks_8 : w_fe am_c68 8 9 (.return_) := ⟨rfl, rfl⟩
set_option maxRecDepth 20000 in
theorem bPlan_startPicks_0 {xs : List Int} {d : Nat} {Q : Option w_V → w_M → Prop} {x1 : Int} {σ : w_M}
    (h : ∀ (τ1 : w_M), q_Arrays_fill 41 0 σ τ1 → ∀ (τ2 : w_M), q_Arrays_fill 42 x1 τ1 τ2 → Q none τ2) : w_Call (xs, (d + 1)) 68 [.inr (.inr (6, 31)), .inl x1] σ Q :=
  (w_mk (mid := 68) (by decide) rfl rfl rfl rfl rfl (Nat.le_of_ble_eq_true rfl) ⟨rfl, Or.inl (by decide)⟩ (wi_aload0 fPlan_startPicks_0 (wi_getf601 fPlan_startPicks_1 (wi_bipush fPlan_startPicks_2 (wi_call2 fPlan_startPicks_3 (Nat.le_of_ble_eq_true rfl) (k_Arrays_fill (fun τ1 eτ1 => (wi_aload0 fPlan_startPicks_4 (wi_getf602 fPlan_startPicks_5 (wi_iload1 fPlan_startPicks_6 (wi_call2 fPlan_startPicks_7 (Nat.le_of_ble_eq_true rfl) (k_Arrays_fill (fun τ2 eτ2 => (wi_ret0 fPlan_startPicks_8 ((h τ1 eτ1) τ2 eτ2)))))))))))))))
theorem k_Plan_startPicks {xs : List Int} {d : Nat} {Q : Option w_V → w_M → Prop} {x1 : Int} {σ : w_M} (hp : p_Plan_startPicks x1 σ) (hQ : ∀ σ' : w_M, q_Plan_startPicks x1 σ σ' → Q none σ') : w_Call (xs, d + 1) 68 [.inr (.inr (6, 31)), .inl x1] σ Q := by
  refine bPlan_startPicks_0 (fun τ1 q1 τ2 q2 => hQ _ ?_)
  unfold q_Arrays_fill at q1 q2
  refine ⟨fun r hr => ⟨?_, ?_⟩, fun b h1 h2 => ?_⟩
  · rw [q2, f_fill_ne (by decide), q1, f_fill_at hr]
  · rw [q2, f_fill_at hr]
  · rw [q2, f_fill_ne h2, q1, f_fill_ne h1]
theorem pk_start {σ : w_M} {B n : Nat} (hn : n ≤ 4) (h : ∀ r, r < 4 → σ 41 r = 0 ∧ σ 42 r = (B : Int) - 1) : pk_at σ B n 0 := fun r hr => by
  rw [dg_0]
  exact h r (by omega)
noncomputable def p_Plan_choosePicks (_ : w_M) : Prop := True
noncomputable def q_Plan_choosePicks (σ σ' : w_M) : Prop := (∀ r, r < 4 → σ' 43 r = σ 41 r) ∧ w_f1 σ σ' 43
theorem fPlan_choosePicks_0 : w_fe am_c71 0 1 (.aload 0) := ⟨rfl, rfl⟩
theorem fPlan_choosePicks_1 : w_fe am_c71 1 2 (.getfield 601) := ⟨rfl, rfl⟩
theorem fPlan_choosePicks_2 : w_fe am_c71 2 3 (.bipush 0) := ⟨rfl, rfl⟩
theorem fPlan_choosePicks_3 : w_fe am_c71 3 4 (.aload 0) := ⟨rfl, rfl⟩
theorem fPlan_choosePicks_4 : w_fe am_c71 4 5 (.getfield 603) := ⟨rfl, rfl⟩
theorem fPlan_choosePicks_5 : w_fe am_c71 5 6 (.bipush 0) := ⟨rfl, rfl⟩
theorem fPlan_choosePicks_6 : w_fe am_c71 6 7 (.bipush 4) := ⟨rfl, rfl⟩
theorem fPlan_choosePicks_7 : w_fe am_c71 7 8 (.invokedynamic 0) := ⟨rfl, rfl⟩
theorem fPlan_choosePicks_8 : w_fe am_c71 8 9 (.return_) := ⟨rfl, rfl⟩
set_option maxRecDepth 20000 in
theorem bPlan_choosePicks_0 {xs : List Int} {d : Nat} {Q : Option w_V → w_M → Prop}  {σ : w_M}
    (h : ∀ (τ1 : w_M), τ1 = w_cpy σ 41 43 0 0 4 → Q none τ1) : w_Call (xs, d) 71 [.inr (.inr (6, 31))] σ Q :=
  (w_mk (mid := 71) (by decide) rfl rfl rfl rfl rfl (Nat.le_of_ble_eq_true rfl) ⟨rfl, Or.inl (by decide)⟩ (wi_aload0 fPlan_choosePicks_0 (wi_getf601 fPlan_choosePicks_1 (wi_bipush fPlan_choosePicks_2 (wi_aload0 fPlan_choosePicks_3 (wi_getf603 fPlan_choosePicks_4 (wi_bipush fPlan_choosePicks_5 (wi_bipush fPlan_choosePicks_6 (wi_acopy fPlan_choosePicks_7 (by decide) (Nat.le_of_ble_eq_true rfl) (by decide) (by decide) (by decide) (by decide) (by decide) (wi_ret0 fPlan_choosePicks_8 (h _ rfl)))))))))))
theorem fPlan_chosenOf_0 : w_fe am_c73 0 1 (.iload 1) := ⟨rfl, rfl⟩
theorem fPlan_chosenOf_1 : w_if am_c73 1 2 .lt 10 := ⟨rfl, rfl⟩
theorem fPlan_chosenOf_2 : w_fe am_c73 2 3 (.iload 1) := ⟨rfl, rfl⟩
theorem fPlan_chosenOf_3 : w_fe am_c73 3 4 (.bipush 4) := ⟨rfl, rfl⟩
theorem fPlan_chosenOf_4 : w_ic am_c73 4 5 .ge 10 := ⟨rfl, rfl⟩
theorem fPlan_chosenOf_5 : w_fe am_c73 5 6 (.aload 0) := ⟨rfl, rfl⟩
theorem fPlan_chosenOf_6 : w_fe am_c73 6 7 (.getfield 603) := ⟨rfl, rfl⟩
theorem fPlan_chosenOf_7 : w_fe am_c73 7 8 (.iload 1) := ⟨rfl, rfl⟩
theorem fPlan_chosenOf_8 : w_fe am_c73 8 9 (.iaload) := ⟨rfl, rfl⟩
theorem fPlan_chosenOf_9 : w_gt am_c73 9 11 := rfl
theorem fPlan_chosenOf_10 : w_fe am_c73 10 11 (.bipush (-1)) := ⟨rfl, rfl⟩
theorem fPlan_chosenOf_11 : w_fe am_c73 11 12 (.ireturn) := ⟨rfl, rfl⟩
set_option maxRecDepth 20000 in
theorem bPlan_chosenOf_0 {xs : List Int} {d : Nat} {Q : Option w_V → w_M → Prop} {x1 : Int} {σ : w_M}
    (h : (x1 < 0 → Q (some (.inl (-1))) σ) ∧ (0 ≤ x1 → ((4 ≤ x1 → Q (some (.inl (-1))) σ) ∧ (x1 < 4 → Q (some (.inl (σ 43 x1.toNat))) σ)))) : w_Call (xs, d) 73 [.inr (.inr (6, 31)), .inl x1] σ Q :=
  (w_mk (mid := 73) (by decide) rfl rfl rfl rfl rfl (Nat.le_of_ble_eq_true rfl) ⟨rfl, Or.inl (by decide)⟩ (wi_iload1 fPlan_chosenOf_0 (wi_if_lt fPlan_chosenOf_1 (fun c2 => (wi_bipush fPlan_chosenOf_10 (wi_ret1 fPlan_chosenOf_11 (h.1 c2)))) (fun c2 => (wi_iload1 fPlan_chosenOf_2 (wi_bipush fPlan_chosenOf_3 (wi_ic_ge fPlan_chosenOf_4 (fun c1 => (wi_bipush fPlan_chosenOf_10 (wi_ret1 fPlan_chosenOf_11 ((h.2 c2).1 c1)))) (fun c1 => (wi_aload0 fPlan_chosenOf_5 (wi_getf603 fPlan_chosenOf_6 (wi_iload1 fPlan_chosenOf_7 (wi_iald1004 fPlan_chosenOf_8 c2 c1 (wi_goto fPlan_chosenOf_9 (wi_ret1 fPlan_chosenOf_11 ((h.2 c2).2 c1)))))))))))))))
theorem k_Plan_choosePicks {xs : List Int} {d : Nat} {Q : Option w_V → w_M → Prop}  {σ : w_M} (hp : p_Plan_choosePicks σ) (hQ : ∀ σ' : w_M, q_Plan_choosePicks σ σ' → Q none σ') : w_Call (xs, d) 71 [.inr (.inr (6, 31))] σ Q := by
  refine bPlan_choosePicks_0 (fun τ t => hQ _ ⟨fun r hr => ?_, fun b hb => ?_⟩)
  · rw [t, w_cpy_q, if_pos (by omega), Nat.zero_add, Nat.sub_zero]
  · rw [t, w_cpy_ne hb]
noncomputable def p_Plan_chosenOf (r : Int) (_ : w_M) : Prop := 0 ≤ r ∧ r < 4
noncomputable def v_Plan_chosenOf (r : Int) (σ : w_M) : Int := σ 43 r.toNat
theorem k_Plan_chosenOf {xs : List Int} {d : Nat} {Q : Option w_V → w_M → Prop} {x1 : Int} {σ : w_M} (hp : p_Plan_chosenOf x1 σ) (hQ : Q (some (.inl (v_Plan_chosenOf x1 σ))) σ) : w_Call (xs, d) 73 [.inr (.inr (6, 31)), .inl x1] σ Q := by
  have h : 0 ≤ x1 ∧ x1 < 4 := hp
  exact bPlan_chosenOf_0 ⟨fun c => by omega, fun _ => ⟨fun c => by omega, fun _ => hQ⟩⟩
/-- a night that is begun otherwise -/
noncomputable def n_bg (A : w_M) (f : Nat → Int) : w_M := fun d i => if d = 6 ∧ i < n_n A then f i else A d i
theorem n_bg_ne {A : w_M} {f : Nat → Int} {d : Nat} (h : d ≠ 6) : n_bg A f d = A d := by
  funext i
  unfold n_bg
  rw [if_neg (fun q => h q.1)]
theorem n_bg_sd {A : w_M} {f : Nat → Int} : n_sd (n_bg A f) = n_sd A := by unfold n_sd n_s; rw [n_bg_ne (by decide), n_bg_ne (by decide)]
theorem n_bg_WF {A : w_M} (h : n_WF A) {f : Nat → Int} (hf : ∀ r, r < n_n A → 0 ≤ f r ∧ f r < A 0 4) : n_WF (n_bg A f) := by
  have e : ∀ d, d ≠ 6 → n_bg A f d = A d := fun d hd => n_bg_ne hd
  have es : n_s (n_bg A f) = n_s A := by unfold n_s; rw [e 0 (by decide)]
  have en : n_n (n_bg A f) = n_n A := by unfold n_n; rw [e 0 (by decide)]
  unfold n_WF at h ⊢
  rw [es, en, e 0 (by decide), e 1 (by decide), e 2 (by decide), e 3 (by decide), e 4 (by decide), e 5 (by decide), e 9 (by decide)]
  refine ⟨h.1, h.2.1, h.2.2.1, h.2.2.2.1, h.2.2.2.2.1, h.2.2.2.2.2.1, fun r hr => ?_⟩
  have := h.2.2.2.2.2.2 r hr
  have e6 : n_bg A f 6 r = f r := if_pos ⟨rfl, hr⟩
  rw [e6]
  exact ⟨this.1, this.2.1, this.2.2.1, hf r hr⟩
theorem n_bg_congr {A : w_M} {f g : Nat → Int} (h : ∀ r, r < n_n A → f r = g r) : n_bg A f = n_bg A g := by
  funext d i
  unfold n_bg
  by_cases c : d = 6 ∧ i < n_n A
  · rw [if_pos c, if_pos c, h i c.2]
  · rw [if_neg c, if_neg c]
noncomputable def p_Plan_beginAsPicked (b : Nat) (σ : w_M) : Prop := n_ok σ b ∧ (32 + 9 ≤ b ∨ b + 9 ≤ 32)
noncomputable def q_Plan_beginAsPicked (b : Nat) (σ σ' : w_M) : Prop := w_ab σ' 32 = n_bg (w_ab σ b) (σ 41) ∧ w_fr σ σ' 32 41
theorem fPlan_beginAsPicked_0 : w_fe am_c70 0 1 (.aload 0) := ⟨rfl, rfl⟩
theorem fPlan_beginAsPicked_1 : w_fe am_c70 1 2 (.getfield 600) := ⟨rfl, rfl⟩
theorem fPlan_beginAsPicked_2 : w_fe am_c70 2 3 (.aload 1) := ⟨rfl, rfl⟩
theorem fPlan_beginAsPicked_3 : w_fe am_c70 3 4 (.invokestatic 34) := ⟨rfl, rfl⟩
theorem fPlan_beginAsPicked_4 : w_fe am_c70 4 5 (.aload 0) := ⟨rfl, rfl⟩
theorem fPlan_beginAsPicked_5 : w_fe am_c70 5 6 (.getfield 601) := ⟨rfl, rfl⟩
theorem fPlan_beginAsPicked_6 : w_fe am_c70 6 7 (.bipush 0) := ⟨rfl, rfl⟩
theorem fPlan_beginAsPicked_7 : w_fe am_c70 7 8 (.aload 0) := ⟨rfl, rfl⟩
theorem fPlan_beginAsPicked_8 : w_fe am_c70 8 9 (.getfield 600) := ⟨rfl, rfl⟩
theorem fPlan_beginAsPicked_9 : w_fe am_c70 9 10 (.getfield 212) := ⟨rfl, rfl⟩
theorem fPlan_beginAsPicked_10 : w_fe am_c70 10 11 (.bipush 0) := ⟨rfl, rfl⟩
theorem fPlan_beginAsPicked_11 : w_fe am_c70 11 12 (.bipush 4) := ⟨rfl, rfl⟩
theorem fPlan_beginAsPicked_12 : w_fe am_c70 12 13 (.invokedynamic 0) := ⟨rfl, rfl⟩
theorem fPlan_beginAsPicked_13 : w_fe am_c70 13 14 (.return_) := ⟨rfl, rfl⟩
set_option maxRecDepth 20000 in
theorem bPlan_beginAsPicked_0 {xs : List Int} {d : Nat} {Q : Option w_V → w_M → Prop} {b : Nat} {σ : w_M}
    (h : p_Field_copyFrom 32 b σ ∧ (∀ (τ1 : w_M), q_Field_copyFrom 32 b σ τ1 → ∀ (τ2 : w_M), τ2 = w_cpy τ1 41 38 0 0 4 → Q none τ2)) : w_Call (xs, (d + 1)) 70 [.inr (.inr (6, 31)), .inr (.inr (2, b))] σ Q :=
  (w_mk (mid := 70) (by decide) rfl rfl rfl rfl rfl (Nat.le_of_ble_eq_true rfl) ⟨rfl, Or.inl (by decide)⟩ (wi_aload0 fPlan_beginAsPicked_0 (wi_getf600 fPlan_beginAsPicked_1 (wi_aload1 fPlan_beginAsPicked_2 (wi_call2 fPlan_beginAsPicked_3 (Nat.le_of_ble_eq_true rfl) (k_Field_copyFrom h.1 (fun τ1 eτ1 => (wi_aload0 fPlan_beginAsPicked_4 (wi_getf601 fPlan_beginAsPicked_5 (wi_bipush fPlan_beginAsPicked_6 (wi_aload0 fPlan_beginAsPicked_7 (wi_getf600 fPlan_beginAsPicked_8 (wi_getf212 fPlan_beginAsPicked_9 (wi_bipush fPlan_beginAsPicked_10 (wi_bipush fPlan_beginAsPicked_11 (wi_acopy fPlan_beginAsPicked_12 (by decide) (Nat.le_of_ble_eq_true rfl) (by decide) (by decide) (by decide) (by decide) (by decide) (wi_ret0 fPlan_beginAsPicked_13 ((h.2 τ1 eτ1) _ rfl))))))))))))))))))
theorem k_Plan_beginAsPicked {xs : List Int} {d : Nat} {Q : Option w_V → w_M → Prop} {b : Nat} {σ : w_M} (hp : p_Plan_beginAsPicked b σ) (hQ : ∀ σ' : w_M, q_Plan_beginAsPicked b σ σ' → Q none σ') : w_Call (xs, d + 1) 70 [.inr (.inr (6, 31)), .inr (.inr (2, b))] σ Q := by
  obtain ⟨hok, hb⟩ := hp
  have hn := n_ok.n hok
  refine bPlan_beginAsPicked_0 ⟨⟨hok, hb⟩, fun τ1 hq τ2 t2 => hQ _ ⟨?_, ?_⟩⟩
  · obtain ⟨q1, q2, q3⟩ := hq
    have e0 : τ2 32 = τ1 32 := by rw [t2, w_cpy_ne (by decide)]
    have z5 : τ1 32 5 = σ b 5 := congrFun (congrFun q1 0) 5
    have rl : ∀ d, w_rl τ2 32 d = w_rl τ1 32 d := fun d => by unfold w_rl; rw [e0]
    funext d i
    unfold n_bg
    by_cases c : d = 6 ∧ i < n_n (w_ab σ b)
    · rw [if_pos c, c.1, w_ab_row (by decide), rl, w_rl37 (by decide) (by decide)]
      have c2 : i < (σ b 5).toNat := c.2
      rw [if_pos (by rw [z5]; exact c2), t2]
      show w_cpy τ1 41 38 0 0 4 38 i = _
      rw [w_cpy_q, if_pos (by omega), Nat.zero_add, Nat.sub_zero, q3 41 (by omega)]
    · rw [if_neg c, ← q1]
      by_cases h9 : d < 9
      · rw [w_ab_row h9, w_ab_row h9, rl]
        by_cases hi : i < w_rl τ1 32 d
        · rw [if_pos hi, if_pos hi]
          by_cases h6 : d = 6
          · subst h6
            rw [w_rl37 (by decide) (by decide), z5] at hi
            exact absurd ⟨rfl, hi⟩ c
          · rw [t2, w_cpy_ne (by omega)]
        · rw [if_neg hi, if_neg hi]
      · by_cases h10 : d = 9
        · subst h10
          rw [w_ab_9, w_ab_9, e0]
        · rw [w_ab_10 (by omega), w_ab_10 (by omega)]
  · intro c hc
    rw [t2, w_cpy_ne (by omega), hq.2.2 c hc]
noncomputable def p_Model_rowsOf (B : Int) (σ : w_M) : Prop := (0 ≤ B ∧ B ≤ 10) ∧ (0 ≤ σ 122 5 ∧ σ 122 5 ≤ 4)
noncomputable def v_Model_rowsOf (B : Int) (σ : w_M) : Int := ((B.toNat ^ (σ 122 5).toNat : Nat) : Int)
theorem pow10 {B n : Nat} (hB : B ≤ 10) (hn : n ≤ 4) : B ^ n ≤ 10000 := Nat.le_trans (Nat.pow_le_pow_left hB n) (Nat.pow_le_pow_right (n := 10) (by decide) hn)
theorem pow7 {B n : Nat} (hB : B ≤ 7) (hn : n ≤ 4) : B ^ n ≤ 2401 := by
  have h1 := Nat.pow_le_pow_left hB n
  have h2 : 7 ^ n ≤ 7 ^ 4 := Nat.pow_le_pow_right (by decide) hn
  omega
theorem fModel_rowsOf_0 : w_fe am_c207 0 1 (.bipush 1) := ⟨rfl, rfl⟩
theorem fModel_rowsOf_1 : w_fe am_c207 1 2 (.istore 2) := ⟨rfl, rfl⟩
theorem fModel_rowsOf_2 : w_fe am_c207 2 3 (.bipush 0) := ⟨rfl, rfl⟩
theorem fModel_rowsOf_3 : w_fe am_c207 3 4 (.istore 3) := ⟨rfl, rfl⟩
theorem fModel_rowsOf_4 : w_fe am_c207 4 5 (.iload 3) := ⟨rfl, rfl⟩
theorem fModel_rowsOf_5 : w_fe am_c207 5 6 (.aload 0) := ⟨rfl, rfl⟩
theorem fModel_rowsOf_6 : w_fe am_c207 6 7 (.getfield 905) := ⟨rfl, rfl⟩
theorem fModel_rowsOf_7 : w_ic am_c207 7 8 .ge 14 := ⟨rfl, rfl⟩
theorem fModel_rowsOf_8 : w_fe am_c207 8 9 (.iload 2) := ⟨rfl, rfl⟩
theorem fModel_rowsOf_9 : w_fe am_c207 9 10 (.iload 1) := ⟨rfl, rfl⟩
theorem fModel_rowsOf_10 : w_fe am_c207 10 11 (.imul) := ⟨rfl, rfl⟩
theorem fModel_rowsOf_11 : w_fe am_c207 11 12 (.istore 2) := ⟨rfl, rfl⟩
theorem fModel_rowsOf_12 : w_fe am_c207 12 13 (.iinc 3 1) := ⟨rfl, rfl⟩
theorem fModel_rowsOf_13 : w_gt am_c207 13 4 := rfl
theorem fModel_rowsOf_14 : w_fe am_c207 14 15 (.iload 2) := ⟨rfl, rfl⟩
theorem fModel_rowsOf_15 : w_fe am_c207 15 16 (.ireturn) := ⟨rfl, rfl⟩
noncomputable def LModel_rowsOf_4 (xs : List Int) (d : Nat) (Q : Option w_V → w_M → Prop) (v1 : Int) (v2 : Int) (v3 : Int) (σ : w_M) : Prop := w_Ex (xs, d) 1 am_c207 Q 4 [some (.inr (.inr (9, 122))), some (.inl v1), some (.inl v2), some (.inl v3)] [] σ
set_option maxRecDepth 20000 in
theorem bModel_rowsOf_0 {xs : List Int} {d : Nat} {Q : Option w_V → w_M → Prop} {x1 : Int} {σ : w_M}
    (h : LModel_rowsOf_4 xs d Q x1 1 0 σ) : w_Call (xs, d) 207 [.inr (.inr (9, 122)), .inl x1] σ Q :=
  (w_mk (mid := 207) (by decide) rfl rfl rfl rfl rfl (Nat.le_of_ble_eq_true rfl) ⟨rfl, Or.inl (by decide)⟩ (wi_bipush fModel_rowsOf_0 (wi_istore2 fModel_rowsOf_1 trivial (wi_bipush fModel_rowsOf_2 (wi_istore3 fModel_rowsOf_3 trivial h)))))
set_option maxRecDepth 20000 in
theorem bModel_rowsOf_4 {xs : List Int} {d : Nat} {Q : Option w_V → w_M → Prop} {v1 : Int} {v2 : Int} {v3 : Int} {σ : w_M}
    (h : ((σ 122 5) ≤ v3 → Q (some (.inl v2)) σ) ∧ (v3 < (σ 122 5) → (w_in (v2 * v1) ∧ (∀ (y1 : Int), y1 = (v2 * v1) → (w_in (v3 + 1) ∧ LModel_rowsOf_4 xs d Q v1 y1 (v3 + 1) σ))))) : LModel_rowsOf_4 xs d Q v1 v2 v3 σ :=
  (wi_iload3 fModel_rowsOf_4 (wi_aload0 fModel_rowsOf_5 (wi_getf905 fModel_rowsOf_6 (wi_ic_ge fModel_rowsOf_7 (fun c2 => (wi_iload2 fModel_rowsOf_14 (wi_ret1 fModel_rowsOf_15 (h.1 c2)))) (fun c2 => (wi_iload2 fModel_rowsOf_8 (wi_iload1 fModel_rowsOf_9 (wi_imul fModel_rowsOf_10 (h.2 c2).1 (wi_istore2 fModel_rowsOf_11 trivial (wi_iinc3 fModel_rowsOf_12 trivial ((h.2 c2).2 _ rfl).1 (wi_goto fModel_rowsOf_13 ((h.2 c2).2 _ rfl).2)))))))))))
theorem k_Model_rowsOf {xs : List Int} {d : Nat} {Q : Option w_V → w_M → Prop} {x1 : Int} {σ : w_M} (hp : p_Model_rowsOf x1 σ) (hQ : Q (some (.inl (v_Model_rowsOf x1 σ))) σ) : w_Call (xs, d) 207 [.inr (.inr (9, 122)), .inl x1] σ Q := by
  obtain ⟨hB, hn⟩ := hp
  obtain ⟨B, rfl⟩ := Int.eq_ofNat_of_zero_le hB.1
  unfold v_Model_rowsOf at hQ
  rw [Int.toNat_natCast] at hQ
  refine bModel_rowsOf_0 ?_
  refine w_loop (n := (σ 122 5).toNat) (P := fun i => LModel_rowsOf_4 xs d Q (B : Int) ((B ^ i : Nat) : Int) (i : Int) σ) ?_ ?_
  · exact bModel_rowsOf_4 ⟨fun _ => hQ, fun h => by omega⟩
  · intro i hi ih
    have e : ((B ^ i : Nat) : Int) * (B : Int) = ((B ^ (i + 1) : Nat) : Int) := by rw [Nat.pow_succ, Int.natCast_mul]
    have := pow10 (B := B) (n := i + 1) (by omega) (by omega)
    rw [w_cs1] at ih
    refine bModel_rowsOf_4 ⟨fun h => by omega, fun _ => ?_⟩
    rw [e]
    exact ⟨⟨by omega, by omega⟩, fun y ey => ⟨⟨by omega, by omega⟩, by rw [ey]; exact ih⟩⟩
noncomputable def p_Model_toldBy (k r B : Int) (σ : w_M) : Prop := (0 ≤ k ∧ k ≤ 10000) ∧ (0 ≤ r ∧ r < σ 122 5) ∧ (1 ≤ B ∧ B ≤ 10) ∧ σ 122 5 ≤ 4
noncomputable def v_Model_toldBy (k r B : Int) (σ : w_M) : Int := (dg B.toNat (σ 122 5).toNat k.toNat r.toNat : Nat)
theorem fModel_toldBy_0 : w_fe am_c209 0 1 (.iload 1) := ⟨rfl, rfl⟩
theorem fModel_toldBy_1 : w_fe am_c209 1 2 (.istore 4) := ⟨rfl, rfl⟩
theorem fModel_toldBy_2 : w_fe am_c209 2 3 (.aload 0) := ⟨rfl, rfl⟩
theorem fModel_toldBy_3 : w_fe am_c209 3 4 (.getfield 905) := ⟨rfl, rfl⟩
theorem fModel_toldBy_4 : w_fe am_c209 4 5 (.bipush 1) := ⟨rfl, rfl⟩
theorem fModel_toldBy_5 : w_fe am_c209 5 6 (.isub) := ⟨rfl, rfl⟩
theorem fModel_toldBy_6 : w_fe am_c209 6 7 (.istore 5) := ⟨rfl, rfl⟩
theorem fModel_toldBy_7 : w_fe am_c209 7 8 (.iload 5) := ⟨rfl, rfl⟩
theorem fModel_toldBy_8 : w_fe am_c209 8 9 (.iload 2) := ⟨rfl, rfl⟩
theorem fModel_toldBy_9 : w_ic am_c209 9 10 .le 16 := ⟨rfl, rfl⟩
theorem fModel_toldBy_10 : w_fe am_c209 10 11 (.iload 4) := ⟨rfl, rfl⟩
theorem fModel_toldBy_11 : w_fe am_c209 11 12 (.iload 3) := ⟨rfl, rfl⟩
theorem fModel_toldBy_12 : w_fe am_c209 12 13 (.idiv) := ⟨rfl, rfl⟩
theorem fModel_toldBy_13 : w_fe am_c209 13 14 (.istore 4) := ⟨rfl, rfl⟩
theorem fModel_toldBy_14 : w_fe am_c209 14 15 (.iinc 5 (-1)) := ⟨rfl, rfl⟩
theorem fModel_toldBy_15 : w_gt am_c209 15 7 := rfl
theorem fModel_toldBy_16 : w_fe am_c209 16 17 (.iload 4) := ⟨rfl, rfl⟩
theorem fModel_toldBy_17 : w_fe am_c209 17 18 (.iload 3) := ⟨rfl, rfl⟩
theorem fModel_toldBy_18 : w_fe am_c209 18 19 (.irem) := ⟨rfl, rfl⟩
theorem fModel_toldBy_19 : w_fe am_c209 19 20 (.ireturn) := ⟨rfl, rfl⟩
noncomputable def LModel_toldBy_7 (xs : List Int) (d : Nat) (Q : Option w_V → w_M → Prop) (v2 : Int) (v3 : Int) (v4 : Int) (v5 : Int) (σ : w_M) : Prop := ∀ l0, w_nl l0 → ∀ l1, w_nl l1 → w_Ex (xs, d) 1 am_c209 Q 7 [l0, l1, some (.inl v2), some (.inl v3), some (.inl v4), some (.inl v5)] [] σ
set_option maxRecDepth 20000 in
theorem bModel_toldBy_0 {xs : List Int} {d : Nat} {Q : Option w_V → w_M → Prop} {x1 : Int} {x2 : Int} {x3 : Int} {σ : w_M}
    (h : w_in ((σ 122 5) - 1) ∧ (∀ (y1 : Int), y1 = ((σ 122 5) - 1) → LModel_toldBy_7 xs d Q x2 x3 x1 y1 σ)) : w_Call (xs, d) 209 [.inr (.inr (9, 122)), .inl x1, .inl x2, .inl x3] σ Q :=
  (w_mk (mid := 209) (by decide) rfl rfl rfl rfl rfl (Nat.le_of_ble_eq_true rfl) ⟨rfl, Or.inl (by decide)⟩ (wi_iload1 fModel_toldBy_0 (wi_istore4 fModel_toldBy_1 trivial (wi_aload0 fModel_toldBy_2 (wi_getf905 fModel_toldBy_3 (wi_bipush fModel_toldBy_4 (wi_isub fModel_toldBy_5 h.1 (wi_istore5 fModel_toldBy_6 trivial ((h.2 _ rfl) _ (by exact trivial) _ (by exact trivial))))))))))
set_option maxRecDepth 20000 in
theorem bModel_toldBy_7 {xs : List Int} {d : Nat} {Q : Option w_V → w_M → Prop} {v2 : Int} {v3 : Int} {v4 : Int} {v5 : Int} {σ : w_M}
    (h : (v5 ≤ v2 → (¬ v3 = 0 ∧ Q (some (.inl (v4.tmod v3))) σ)) ∧ (v2 < v5 → (¬ v3 = 0 ∧ w_in (v4.tdiv v3) ∧ (∀ (y1 : Int), y1 = (v4.tdiv v3) → (w_in (v5 + (-1)) ∧ LModel_toldBy_7 xs d Q v2 v3 y1 (v5 + (-1)) σ))))) : LModel_toldBy_7 xs d Q v2 v3 v4 v5 σ :=
  fun l0 nl0 => fun l1 nl1 => (wi_iload5 fModel_toldBy_7 (wi_iload2 fModel_toldBy_8 (wi_ic_le fModel_toldBy_9 (fun c2 => (wi_iload4 fModel_toldBy_16 (wi_iload3 fModel_toldBy_17 (wi_irem fModel_toldBy_18 (h.1 c2).1 (wi_ret1 fModel_toldBy_19 (h.1 c2).2))))) (fun c2 => (wi_iload4 fModel_toldBy_10 (wi_iload3 fModel_toldBy_11 (wi_idiv fModel_toldBy_12 (h.2 c2).1 (h.2 c2).2.1 (wi_istore4 fModel_toldBy_13 trivial (wi_iinc5 fModel_toldBy_14 trivial ((h.2 c2).2.2 _ rfl).1 (wi_goto fModel_toldBy_15 (((h.2 c2).2.2 _ rfl).2 _ nl0 _ nl1)))))))))))
theorem k_Model_toldBy {xs : List Int} {d : Nat} {Q : Option w_V → w_M → Prop} {x1 : Int} {x2 : Int} {x3 : Int} {σ : w_M} (hp : p_Model_toldBy x1 x2 x3 σ) (hQ : Q (some (.inl (v_Model_toldBy x1 x2 x3 σ))) σ) : w_Call (xs, d) 209 [.inr (.inr (9, 122)), .inl x1, .inl x2, .inl x3] σ Q := by
  obtain ⟨hk, hr, hB, hn⟩ := hp
  obtain ⟨k, rfl⟩ := Int.eq_ofNat_of_zero_le hk.1
  obtain ⟨B, rfl⟩ := Int.eq_ofNat_of_zero_le (show 0 ≤ x3 by omega)
  unfold v_Model_toldBy dg at hQ
  rw [Int.toNat_natCast, Int.toNat_natCast] at hQ
  have le : ∀ j, dv B j k ≤ k := by
    intro j
    induction j with
    | zero => exact Nat.le_refl _
    | succ j ih => rw [dv_s]; exact Nat.le_trans (Nat.div_le_self _ _) ih
  refine bModel_toldBy_0 ⟨⟨by omega, by omega⟩, fun y1 e1 => ?_⟩
  rw [e1, show σ 122 5 - 1 = σ 122 5 - 1 - ((0 : Nat) : Int) by omega]
  refine w_loop (n := (σ 122 5).toNat - 1 - x2.toNat) (P := fun j => LModel_toldBy_7 xs d Q x2 (B : Int) ((dv B j k : Nat) : Int) (σ 122 5 - 1 - (j : Int)) σ) ?_ ?_
  · refine bModel_toldBy_7 ⟨fun _ => ⟨by omega, ?_⟩, fun h => by omega⟩
    rw [← Int.ofNat_tmod]
    exact hQ
  · intro j hj ih
    have hl := le (j + 1)
    have e : ((dv B j k : Nat) : Int).tdiv (B : Int) = ((dv B (j + 1) k : Nat) : Int) := by rw [dv_s, Int.ofNat_tdiv]
    refine bModel_toldBy_7 ⟨fun h => by omega, fun _ => ⟨by omega, ?_⟩⟩
    rw [e]
    refine ⟨⟨by omega, by omega⟩, fun y ey => ⟨⟨by omega, by omega⟩, ?_⟩⟩
    rw [ey, show σ 122 5 - 1 - (j : Int) + (-1) = σ 122 5 - 1 - ((j + 1 : Nat) : Int) by omega]
    exact ih
noncomputable def p_Model_begins (k : Int) (σ : w_M) : Prop := (m_sm σ ∧ (0 ≤ k ∧ k ≤ 10000)) ∧ (0 ≤ σ 122 4 ∧ σ 122 4 ≤ 7) ∧ (0 ≤ σ 122 5 ∧ σ 122 5 ≤ 4) ∧ (1 ≤ σ 122 4 ∨ σ 122 5 = 0)
noncomputable def n_row (A : w_M) (k : Nat) : w_M := n_bg A (fun r => ((dg (n_s A) (n_n A) k r : Nat) : Int))
noncomputable def q_Model_begins (k : Int) (σ σ' : w_M) : Prop := w_am σ' 124 0 = n_row (w_am σ 123 0) k.toNat ∧ w_f1 σ σ' 124
theorem fModel_begins_0 : w_fe am_c208 0 1 (.aload 0) := ⟨rfl, rfl⟩
theorem fModel_begins_1 : w_fe am_c208 1 2 (.invokestatic 174) := ⟨rfl, rfl⟩
theorem fModel_begins_2 : w_fe am_c208 2 3 (.bipush 0) := ⟨rfl, rfl⟩
theorem fModel_begins_3 : w_fe am_c208 3 4 (.istore 2) := ⟨rfl, rfl⟩
theorem fModel_begins_4 : w_fe am_c208 4 5 (.iload 2) := ⟨rfl, rfl⟩
theorem fModel_begins_5 : w_fe am_c208 5 6 (.aload 0) := ⟨rfl, rfl⟩
theorem fModel_begins_6 : w_fe am_c208 6 7 (.getfield 905) := ⟨rfl, rfl⟩
theorem fModel_begins_7 : w_ic am_c208 7 8 .ge 20 := ⟨rfl, rfl⟩
theorem fModel_begins_8 : w_fe am_c208 8 9 (.aload 0) := ⟨rfl, rfl⟩
theorem fModel_begins_9 : w_fe am_c208 9 10 (.iload 2) := ⟨rfl, rfl⟩
theorem fModel_begins_10 : w_fe am_c208 10 11 (.bipush 3) := ⟨rfl, rfl⟩
theorem fModel_begins_11 : w_fe am_c208 11 12 (.aload 0) := ⟨rfl, rfl⟩
theorem fModel_begins_12 : w_fe am_c208 12 13 (.iload 1) := ⟨rfl, rfl⟩
theorem fModel_begins_13 : w_fe am_c208 13 14 (.iload 2) := ⟨rfl, rfl⟩
theorem fModel_begins_14 : w_fe am_c208 14 15 (.aload 0) := ⟨rfl, rfl⟩
theorem fModel_begins_15 : w_fe am_c208 15 16 (.getfield 904) := ⟨rfl, rfl⟩
theorem fModel_begins_16 : w_fe am_c208 16 17 (.invokestatic 209) := ⟨rfl, rfl⟩
theorem fModel_begins_17 : w_fe am_c208 17 18 (.invokestatic 199) := ⟨rfl, rfl⟩
theorem fModel_begins_18 : w_fe am_c208 18 19 (.iinc 2 1) := ⟨rfl, rfl⟩
theorem fModel_begins_19 : w_gt am_c208 19 4 := rfl
theorem fModel_begins_20 : w_fe am_c208 20 21 (.return_) := ⟨rfl, rfl⟩
noncomputable def LModel_begins_4 (xs : List Int) (d : Nat) (Q : Option w_V → w_M → Prop) (v1 : Int) (v2 : Int) (σ : w_M) : Prop := w_Ex (xs, d) 0 am_c208 Q 4 [some (.inr (.inr (9, 122))), some (.inl v1), some (.inl v2)] [] σ
set_option maxRecDepth 20000 in
theorem bModel_begins_0 {xs : List Int} {d : Nat} {Q : Option w_V → w_M → Prop} {x1 : Int} {σ : w_M}
    (h : p_Model_starts σ ∧ (∀ (τ1 : w_M), q_Model_starts σ τ1 → LModel_begins_4 xs (d + 1) Q x1 0 τ1)) : w_Call (xs, (d + 1)) 208 [.inr (.inr (9, 122)), .inl x1] σ Q :=
  (w_mk (mid := 208) (by decide) rfl rfl rfl rfl rfl (Nat.le_of_ble_eq_true rfl) ⟨rfl, Or.inl (by decide)⟩ (wi_aload0 fModel_begins_0 (wi_call1 fModel_begins_1 (Nat.le_of_ble_eq_true rfl) (k_Model_starts h.1 (fun τ1 eτ1 => (wi_bipush fModel_begins_2 (wi_istore2 fModel_begins_3 trivial (h.2 τ1 eτ1))))))))
set_option maxRecDepth 20000 in
theorem bModel_begins_4 {xs : List Int} {d : Nat} {Q : Option w_V → w_M → Prop} {v1 : Int} {v2 : Int} {σ : w_M}
    (h : ((σ 122 5) ≤ v2 → Q none σ) ∧ (v2 < (σ 122 5) → (p_Model_toldBy v1 v2 (σ 122 4) σ ∧ (∀ (y1 : Int), y1 = v_Model_toldBy v1 v2 (σ 122 4) σ → (p_Model_becomesOf v2 3 y1 σ ∧ (∀ (τ2 : w_M), q_Model_becomesOf v2 3 y1 σ τ2 → (w_in (v2 + 1) ∧ LModel_begins_4 xs (d + 1) Q v1 (v2 + 1) τ2))))))) : LModel_begins_4 xs (d + 1) Q v1 v2 σ :=
  (wi_iload2 fModel_begins_4 (wi_aload0 fModel_begins_5 (wi_getf905 fModel_begins_6 (wi_ic_ge fModel_begins_7 (fun c3 => (wi_ret0 fModel_begins_20 (h.1 c3))) (fun c3 => (wi_aload0 fModel_begins_8 (wi_iload2 fModel_begins_9 (wi_bipush fModel_begins_10 (wi_aload0 fModel_begins_11 (wi_iload1 fModel_begins_12 (wi_iload2 fModel_begins_13 (wi_aload0 fModel_begins_14 (wi_getf904 fModel_begins_15 (wi_call4 fModel_begins_16 (Nat.le_of_ble_eq_true rfl) (k_Model_toldBy (h.2 c3).1 (wi_call4 fModel_begins_17 (Nat.le_of_ble_eq_true rfl) (k_Model_becomesOf ((h.2 c3).2 _ rfl).1 (fun τ2 eτ2 => (wi_iinc2 fModel_begins_18 trivial (((h.2 c3).2 _ rfl).2 τ2 eτ2).1 (wi_goto fModel_begins_19 (((h.2 c3).2 _ rfl).2 τ2 eτ2).2))))))))))))))))))))
theorem k_Model_begins {xs : List Int} {d : Nat} {Q : Option w_V → w_M → Prop} {x1 : Int} {σ : w_M} (hp : p_Model_begins x1 σ) (hQ : ∀ σ' : w_M, q_Model_begins x1 σ σ' → Q none σ') : w_Call (xs, d + 1) 208 [.inr (.inr (9, 122)), .inl x1] σ Q := by
  obtain ⟨⟨hsm, hk⟩, hs, hn, h0⟩ := hp
  refine bModel_begins_0 ⟨hsm, fun τ1 hq => ?_⟩
  obtain ⟨q1, q2, q3⟩ := hq
  refine (w_loop (n := (σ 122 5).toNat) (P := fun i => ∀ τ : w_M, w_f1 σ τ 124 → w_am τ 124 0 = (fun d j => if d = 6 ∧ j < i then ((dg (σ 122 4).toNat (σ 122 5).toNat x1.toNat j : Nat) : Int) else w_am σ 123 0 d j) → LModel_begins_4 xs (d + 1) Q x1 (i : Int) τ) ?_ ?_) τ1 q2 ?_
  · intro τ F ha
    have z2 : τ 122 = σ 122 := F 122 (by decide)
    exact bModel_begins_4 ⟨fun _ => hQ _ ⟨ha, F⟩, fun h => by rw [z2] at h; omega⟩
  · intro i hi ih τ F ha
    have z2 : τ 122 = σ 122 := F 122 (by decide)
    refine bModel_begins_4 ⟨fun h => by rw [z2] at h; omega, fun _ => ⟨⟨hk, by rw [z2]; omega, by rw [z2]; omega, by rw [z2]; omega⟩, fun y ey => ⟨⟨by omega, by decide⟩, fun τ2 t2 => ⟨⟨by omega, by omega⟩, ?_⟩⟩⟩⟩
    rw [← w_cs1]
    have t2' : τ2 = w_up τ 124 (21 + 5 * (i : Int) + 3).toNat y := t2
    refine ih τ2 (by rw [t2']; exact F.up) ?_
    rw [t2', w_am_up (d := 6) (i := i) (by unfold m_sm; rw [z2]; exact hsm) (by decide) (by rw [m_rl37 (by decide) (by decide), z2]; exact hi) (by show _ = 0 + (24 + 5 * i); omega), ha]
    unfold v_Model_toldBy at ey
    rw [z2, Int.toNat_natCast] at ey
    funext d j
    rw [w_up_eq]
    by_cases c : d = 6 ∧ j = i
    · rw [if_pos c, if_pos (by omega), ey, c.2]
    · rw [if_neg c]
      by_cases c2 : d = 6 ∧ j < i
      · rw [if_pos c2, if_pos (by omega)]
      · rw [if_neg c2, if_neg (by omega)]
  · rw [q1]
    funext d j
    rw [if_neg (by omega)]
theorem w_Call_as {E : w_C} {c : Nat} {as : List w_V} {σ : w_M} {Q : Option w_V → w_M → Prop} (h : w_vs as → w_Call E c as σ Q) : w_Call E c as σ Q := fun h1 h2 h3 => h h2 h1 h2 h3
theorem fMoon_asksOfReaper_0 : w_fe am_c130 0 1 (.iload 1) := ⟨rfl, rfl⟩
theorem fMoon_asksOfReaper_1 : w_fe am_c130 1 2 (.bipush 10) := ⟨rfl, rfl⟩
theorem fMoon_asksOfReaper_2 : w_ic am_c130 2 3 .lt 12 := ⟨rfl, rfl⟩
theorem fMoon_asksOfReaper_3 : w_fe am_c130 3 4 (.iload 1) := ⟨rfl, rfl⟩
theorem fMoon_asksOfReaper_4 : w_fe am_c130 4 5 (.bipush 10) := ⟨rfl, rfl⟩
theorem fMoon_asksOfReaper_5 : w_fe am_c130 5 6 (.isub) := ⟨rfl, rfl⟩
theorem fMoon_asksOfReaper_6 : w_fe am_c130 6 7 (.aload 0) := ⟨rfl, rfl⟩
theorem fMoon_asksOfReaper_7 : w_fe am_c130 7 8 (.getfield 2) := ⟨rfl, rfl⟩
theorem fMoon_asksOfReaper_8 : w_fe am_c130 8 9 (.getfield 205) := ⟨rfl, rfl⟩
theorem fMoon_asksOfReaper_9 : w_ic am_c130 9 10 .ge 12 := ⟨rfl, rfl⟩
theorem fMoon_asksOfReaper_10 : w_fe am_c130 10 11 (.bipush 1) := ⟨rfl, rfl⟩
theorem fMoon_asksOfReaper_11 : w_gt am_c130 11 13 := rfl
theorem fMoon_asksOfReaper_12 : w_fe am_c130 12 13 (.bipush 0) := ⟨rfl, rfl⟩
theorem fMoon_asksOfReaper_13 : w_fe am_c130 13 14 (.ireturn) := ⟨rfl, rfl⟩
set_option maxRecDepth 20000 in
theorem bMoon_asksOfReaper_0 {xs : List Int} {d : Nat} {Q : Option w_V → w_M → Prop} {x1 : Int} {σ : w_M}
    (h : (x1 < 10 → Q (some (.inl 0)) σ) ∧ (10 ≤ x1 → (w_in (x1 - 10) ∧ (((σ 14 5) ≤ (x1 - 10) → Q (some (.inl 0)) σ) ∧ ((x1 - 10) < (σ 14 5) → Q (some (.inl 1)) σ))))) : w_Call (xs, d) 130 [.inr (.inr (0, 0)), .inl x1] σ Q :=
  (w_mk (mid := 130) (by decide) rfl rfl rfl rfl rfl (Nat.le_of_ble_eq_true rfl) ⟨rfl, Or.inl (by decide)⟩ (wi_iload1 fMoon_asksOfReaper_0 (wi_bipush fMoon_asksOfReaper_1 (wi_ic_lt fMoon_asksOfReaper_2 (fun c2 => (wi_bipush fMoon_asksOfReaper_12 (wi_ret2 fMoon_asksOfReaper_13 (by decide) (h.1 c2)))) (fun c2 => (wi_iload1 fMoon_asksOfReaper_3 (wi_bipush fMoon_asksOfReaper_4 (wi_isub fMoon_asksOfReaper_5 (h.2 c2).1 (wi_aload0 fMoon_asksOfReaper_6 (wi_getf2 fMoon_asksOfReaper_7 (wi_getf205 fMoon_asksOfReaper_8 (wi_ic_ge fMoon_asksOfReaper_9 (fun c1 => (wi_bipush fMoon_asksOfReaper_12 (wi_ret2 fMoon_asksOfReaper_13 (by decide) ((h.2 c2).2.1 c1)))) (fun c1 => (wi_bipush fMoon_asksOfReaper_10 (wi_goto fMoon_asksOfReaper_11 (wi_ret2 fMoon_asksOfReaper_13 (by decide) ((h.2 c2).2.2 c1)))))))))))))))))
theorem k_Moon_asksOfReaper {xs : List Int} {d : Nat} {Q : Option w_V → w_M → Prop} {x1 : Int} {σ : w_M} (hQ : Q (some (.inl (w_bi (10 ≤ x1 ∧ x1 - 10 < σ 14 5)))) σ) : w_Call (xs, d) 130 [.inr (.inr (0, 0)), .inl x1] σ Q := by
  refine w_Call_as (fun has => ?_)
  have hx : w_in x1 := has (.inl x1) (by simp)
  refine bMoon_asksOfReaper_0 ⟨fun c => ?_, fun c => ⟨⟨by omega, by have := hx.2; omega⟩, fun c2 => ?_, fun c2 => ?_⟩⟩
  · rw [w_bi_f (by omega)] at hQ; exact hQ
  · rw [w_bi_f (by omega)] at hQ; exact hQ
  · rw [w_bi_t ⟨c, c2⟩] at hQ; exact hQ
end
section
/-! Who began where, by wages -/
noncomputable def ft_ok (A C : w_M) (k : Nat) : Prop := ∀ q, q < (C 0 0).toNat → (n_goes (n_row A k) 12) 7 (C 1 q).toNat = C 2 q
noncomputable def ft_n (A C : w_M) : Nat → Int
  | 0 => 0
  | k + 1 => ft_n A C k + @ite _ (ft_ok A C k) (Classical.propDecidable _) 1 0
noncomputable def ft_m (A C : w_M) (r : Nat) : Nat → Int
  | 0 => 0
  | k + 1 => @ite _ (ft_ok A C k) (Classical.propDecidable _) (w_or (ft_m A C r k) (w_shl 1 ((dg (n_s A) (n_n A) k r : Nat) : Int))) (ft_m A C r k)
theorem ft_n_t {A C : w_M} {k : Nat} (h : ft_ok A C k) : ft_n A C (k + 1) = ft_n A C k + 1 := by simp only [ft_n]; rw [if_pos h]
theorem ft_n_f {A C : w_M} {k : Nat} (h : ¬ ft_ok A C k) : ft_n A C (k + 1) = ft_n A C k := by simp only [ft_n]; rw [if_neg h, Int.add_zero]
theorem ft_m_t {A C : w_M} {r k : Nat} (h : ft_ok A C k) : ft_m A C r (k + 1) = w_or (ft_m A C r k) (w_shl 1 ((dg (n_s A) (n_n A) k r : Nat) : Int)) := by simp only [ft_m]; rw [if_pos h]
theorem ft_m_f {A C : w_M} {r k : Nat} (h : ¬ ft_ok A C k) : ft_m A C r (k + 1) = ft_m A C r k := by simp only [ft_m]; rw [if_neg h]
theorem ft_n_le {A C : w_M} : ∀ k : Nat, 0 ≤ ft_n A C k ∧ ft_n A C k ≤ k := by
  intro k
  induction k with
  | zero => simp [ft_n]
  | succ k ih =>
    by_cases h : ft_ok A C k
    · rw [ft_n_t h]; omega
    · rw [ft_n_f h]; omega
theorem ft_m_in {A C : w_M} {r : Nat} : ∀ k : Nat, w_in (ft_m A C r k) := by
  intro k
  induction k with
  | zero => exact w_in0
  | succ k ih =>
    by_cases h : ft_ok A C k
    · rw [ft_m_t h]; exact w_toInt_in _
    · rw [ft_m_f h]; exact ih
theorem w_or0 {x : Int} (h : w_in x) : w_or x 0 = x := by
  show (Int32.ofInt x ||| Int32.ofInt 0).toInt = x
  have : Int32.ofInt x ||| Int32.ofInt 0 = Int32.ofInt x := by
    apply Int32.toBitVec_inj.mp
    rw [Int32.toBitVec_or]
    show (Int32.ofInt x).toBitVec ||| 0#32 = _
    exact BitVec.or_zero
  rw [this, w_ci h]
noncomputable def ft_r (A : w_M) : Nat := n_s A ^ n_n A
noncomputable def F_fits (S : w_S) (w : Int) : Int := if w = 0 then ft_n (S 0) (S 2) (ft_r (S 0)) else if 10 ≤ w ∧ w - 10 < S 0 0 5 then ft_m (S 0) (S 2) (w - 10).toNat (ft_r (S 0)) else -1
/-- a row of beginnings is a night -/
theorem n_row_WF {A : w_M} (h : n_WF A) (hs : 1 ≤ n_s A ∨ n_n A = 0) (k : Nat) : n_WF (n_row A k) := by
  refine n_bg_WF h (fun r hr => ?_)
  have h4 := h.s
  have := dg_lt (B := n_s A) (n := n_n A) (k := k) (r := r) (by omega)
  unfold n_s at this ⊢
  omega
theorem n_s_pos {A : w_M} (h : n_WF A) : 1 ≤ n_s A ∨ n_n A = 0 := by
  by_cases hn : n_n A = 0
  · exact Or.inr hn
  · have := (h.r (r := 0) (by omega)).2.2.2
    refine Or.inl ?_
    unfold n_s
    omega
theorem n_row12 {A : w_M} (h : n_WF A) (d : Nat) (hd : d ≠ 0) : (n_goes A 12) d = (n_goes A (n_fin A)) d := by
  obtain ⟨x, hx⟩ := n_goes12 h
  rw [hx, w_up_ne hd]
noncomputable def p_Paid_isAsPaid (a b : Nat) (σ : w_M) : Prop := (0 ≤ σ a 0 ∧ σ a 0 ≤ 4) ∧ σ b 5 ≤ 4
noncomputable def P_Paid_isAsPaid (a b : Nat) (σ : w_M) : Prop := ∀ q : Nat, q < (σ a 0).toNat → (0 ≤ σ (a + 1) q ∧ σ (a + 1) q < σ b 5) ∧ σ (b + 7) (σ (a + 1) q).toNat = σ (a + 2) q
theorem fPaid_isAsPaid_0 : w_fe am_c61 0 1 (.bipush 0) := ⟨rfl, rfl⟩
theorem fPaid_isAsPaid_1 : w_fe am_c61 1 2 (.istore 2) := ⟨rfl, rfl⟩
theorem fPaid_isAsPaid_2 : w_fe am_c61 2 3 (.iload 2) := ⟨rfl, rfl⟩
theorem fPaid_isAsPaid_3 : w_fe am_c61 3 4 (.aload 0) := ⟨rfl, rfl⟩
theorem fPaid_isAsPaid_4 : w_fe am_c61 4 5 (.getfield 500) := ⟨rfl, rfl⟩
theorem fPaid_isAsPaid_5 : w_ic am_c61 5 6 .ge 28 := ⟨rfl, rfl⟩
theorem fPaid_isAsPaid_6 : w_fe am_c61 6 7 (.aload 0) := ⟨rfl, rfl⟩
theorem fPaid_isAsPaid_7 : w_fe am_c61 7 8 (.getfield 501) := ⟨rfl, rfl⟩
theorem fPaid_isAsPaid_8 : w_fe am_c61 8 9 (.iload 2) := ⟨rfl, rfl⟩
theorem fPaid_isAsPaid_9 : w_fe am_c61 9 10 (.iaload) := ⟨rfl, rfl⟩
theorem fPaid_isAsPaid_10 : w_fe am_c61 10 11 (.istore 3) := ⟨rfl, rfl⟩
theorem fPaid_isAsPaid_11 : w_fe am_c61 11 12 (.aload 1) := ⟨rfl, rfl⟩
theorem fPaid_isAsPaid_12 : w_fe am_c61 12 13 (.iload 3) := ⟨rfl, rfl⟩
theorem fPaid_isAsPaid_13 : w_fe am_c61 13 14 (.invokestatic 38) := ⟨rfl, rfl⟩
theorem fPaid_isAsPaid_14 : w_if am_c61 14 15 .eq 24 := ⟨rfl, rfl⟩
theorem fPaid_isAsPaid_15 : w_fe am_c61 15 16 (.aload 1) := ⟨rfl, rfl⟩
theorem fPaid_isAsPaid_16 : w_fe am_c61 16 17 (.getfield 213) := ⟨rfl, rfl⟩
theorem fPaid_isAsPaid_17 : w_fe am_c61 17 18 (.iload 3) := ⟨rfl, rfl⟩
theorem fPaid_isAsPaid_18 : w_fe am_c61 18 19 (.iaload) := ⟨rfl, rfl⟩
theorem fPaid_isAsPaid_19 : w_fe am_c61 19 20 (.aload 0) := ⟨rfl, rfl⟩
theorem fPaid_isAsPaid_20 : w_fe am_c61 20 21 (.getfield 502) := ⟨rfl, rfl⟩
theorem fPaid_isAsPaid_21 : w_fe am_c61 21 22 (.iload 2) := ⟨rfl, rfl⟩
theorem fPaid_isAsPaid_22 : w_fe am_c61 22 23 (.iaload) := ⟨rfl, rfl⟩
theorem fPaid_isAsPaid_23 : w_ic am_c61 23 24 .eq 26 := ⟨rfl, rfl⟩
theorem fPaid_isAsPaid_24 : w_fe am_c61 24 25 (.bipush 0) := ⟨rfl, rfl⟩
theorem fPaid_isAsPaid_25 : w_fe am_c61 25 26 (.ireturn) := ⟨rfl, rfl⟩
theorem fPaid_isAsPaid_26 : w_fe am_c61 26 27 (.iinc 2 1) := ⟨rfl, rfl⟩
theorem fPaid_isAsPaid_27 : w_gt am_c61 27 2 := rfl
theorem fPaid_isAsPaid_28 : w_fe am_c61 28 29 (.bipush 1) := ⟨rfl, rfl⟩
theorem fPaid_isAsPaid_29 : w_fe am_c61 29 30 (.ireturn) := ⟨rfl, rfl⟩
noncomputable def LPaid_isAsPaid_2 (xs : List Int) (d : Nat) (Q : Option w_V → w_M → Prop) (r0 : Nat) (r1 : Nat) (v2 : Int) (σ : w_M) : Prop := ∀ l3, w_nl l3 → w_Ex (xs, d) 2 am_c61 Q 2 [some (.inr (.inr (5, r0))), some (.inr (.inr (2, r1))), some (.inl v2), l3] [] σ
set_option maxRecDepth 20000 in
theorem bPaid_isAsPaid_0 {xs : List Int} {d : Nat} {Q : Option w_V → w_M → Prop} {a : Nat} {b : Nat} {σ : w_M}
    (h : LPaid_isAsPaid_2 xs (d + 1) Q a b 0 σ) : w_Call (xs, (d + 1)) 61 [.inr (.inr (5, a)), .inr (.inr (2, b))] σ Q :=
  (w_mk (mid := 61) (by decide) rfl rfl rfl rfl rfl (Nat.le_of_ble_eq_true rfl) ⟨rfl, Or.inl (by decide)⟩ (wi_bipush fPaid_isAsPaid_0 (wi_istore2 fPaid_isAsPaid_1 trivial (h _ (by exact trivial)))))
set_option maxRecDepth 20000 in
theorem bPaid_isAsPaid_2 {xs : List Int} {d : Nat} {Q : Option w_V → w_M → Prop} {r0 : Nat} {r1 : Nat} {v2 : Int} {σ : w_M}
    (h : ((σ r0 0) ≤ v2 → Q (some (.inl 1)) σ) ∧ (v2 < (σ r0 0) → (0 ≤ v2 ∧ v2 < 4 ∧ (∀ (y1 : Int), y1 = (σ (r0 + 1) v2.toNat) → ((¬ (0 ≤ y1 ∧ y1 < σ r1 5) → Q (some (.inl 0)) σ) ∧ ((0 ≤ y1 ∧ y1 < σ r1 5) → (0 ≤ y1 ∧ y1 < 4 ∧ (((σ (r1 + 7) y1.toNat) = (σ (r0 + 2) v2.toNat) → (w_in (v2 + 1) ∧ LPaid_isAsPaid_2 xs (d + 1) Q r0 r1 (v2 + 1) σ)) ∧ (¬ (σ (r1 + 7) y1.toNat) = (σ (r0 + 2) v2.toNat) → Q (some (.inl 0)) σ))))))))) : LPaid_isAsPaid_2 xs (d + 1) Q r0 r1 v2 σ :=
  fun l3 nl3 => (wi_iload2 fPaid_isAsPaid_2 (wi_aload0 fPaid_isAsPaid_3 (wi_getf500 fPaid_isAsPaid_4 (wi_ic_ge fPaid_isAsPaid_5 (fun c4 => (wi_bipush fPaid_isAsPaid_28 (wi_ret2 fPaid_isAsPaid_29 (by decide) (h.1 c4)))) (fun c4 => (wi_aload0 fPaid_isAsPaid_6 (wi_getf501 fPaid_isAsPaid_7 (wi_iload2 fPaid_isAsPaid_8 (wi_iald1004 fPaid_isAsPaid_9 (h.2 c4).1 (h.2 c4).2.1 (wi_istore3 fPaid_isAsPaid_10 trivial (wi_aload1 fPaid_isAsPaid_11 (wi_iload3 fPaid_isAsPaid_12 (wi_call2 fPaid_isAsPaid_13 (Nat.le_of_ble_eq_true rfl) (k_Field_isReaper (wi_ifb_eq fPaid_isAsPaid_14 (fun c3 => (wi_bipush fPaid_isAsPaid_24 (wi_ret2 fPaid_isAsPaid_25 (by decide) (((h.2 c4).2.2 _ rfl).1 c3)))) (fun c3 => (wi_aload1 fPaid_isAsPaid_15 (wi_getf213 fPaid_isAsPaid_16 (wi_iload3 fPaid_isAsPaid_17 (wi_iald1004 fPaid_isAsPaid_18 (((h.2 c4).2.2 _ rfl).2 c3).1 (((h.2 c4).2.2 _ rfl).2 c3).2.1 (wi_aload0 fPaid_isAsPaid_19 (wi_getf502 fPaid_isAsPaid_20 (wi_iload2 fPaid_isAsPaid_21 (wi_iald1004 fPaid_isAsPaid_22 (h.2 c4).1 (h.2 c4).2.1 (wi_ic_eq fPaid_isAsPaid_23 (fun c2 => (wi_iinc2 fPaid_isAsPaid_26 trivial ((((h.2 c4).2.2 _ rfl).2 c3).2.2.1 c2).1 (wi_goto fPaid_isAsPaid_27 (((((h.2 c4).2.2 _ rfl).2 c3).2.2.1 c2).2 _ (by exact trivial))))) (fun c2 => (wi_bipush fPaid_isAsPaid_24 (wi_ret2 fPaid_isAsPaid_25 (by decide) ((((h.2 c4).2.2 _ rfl).2 c3).2.2.2 c2)))))))))))))))))))))))))))))
theorem k_Paid_isAsPaid {xs : List Int} {d : Nat} {Q : Option w_V → w_M → Prop} {a : Nat} {b : Nat} {σ : w_M} (hp : p_Paid_isAsPaid a b σ) (hQ : Q (some (.inl (w_bi (P_Paid_isAsPaid a b σ)))) σ) : w_Call (xs, d + 1) 61 [.inr (.inr (5, a)), .inr (.inr (2, b))] σ Q := by
  obtain ⟨h0, h5⟩ := hp
  refine bPaid_isAsPaid_0 ?_
  refine (w_loop (n := (σ a 0).toNat) (P := fun k => (∀ q, q < k → (0 ≤ σ (a + 1) q ∧ σ (a + 1) q < σ b 5) ∧ σ (b + 7) (σ (a + 1) q).toNat = σ (a + 2) q) → LPaid_isAsPaid_2 xs (d + 1) Q a b (k : Int) σ) ?_ ?_) (fun q hq => by omega)
  · intro h
    rw [w_bi_t (show P_Paid_isAsPaid a b σ from h)] at hQ
    exact bPaid_isAsPaid_2 ⟨fun _ => hQ, fun h => by omega⟩
  · intro k hk ih h
    have no : ¬ ((0 ≤ σ (a + 1) k ∧ σ (a + 1) k < σ b 5) ∧ σ (b + 7) (σ (a + 1) k).toNat = σ (a + 2) k) → Q (some (.inl 0)) σ := fun q => by
      rw [w_bi_f (fun z : P_Paid_isAsPaid a b σ => q (z k hk))] at hQ
      exact hQ
    refine bPaid_isAsPaid_2 ⟨fun h => by omega, fun _ => ⟨by omega, by omega, fun y ey => ?_⟩⟩
    rw [Int.toNat_natCast] at ey
    rw [Int.toNat_natCast]
    refine ⟨fun c => no (fun q => c (by rw [ey]; exact q.1)), fun c => ⟨by omega, by omega, fun c2 => ⟨⟨by omega, by omega⟩, ?_⟩, fun c2 => no (fun q => c2 (by rw [ey]; exact q.2))⟩⟩
    rw [← w_cs1]
    refine ih (fun q hq => ?_)
    by_cases e : q = k
    · rw [e, ← ey]; exact ⟨c, c2⟩
    · exact h q (by omega)
noncomputable def p_Plan_isFitting (b b2 : Nat) (σ : w_M) : Prop := ((n_ok σ b ∧ (32 + 9 ≤ b ∨ b + 9 ≤ 32)) ∧ b2 + 3 ≤ 32) ∧ paWF (w_ab σ b) (c_ab σ b2) ∧ ∃ k : Nat, ∀ r, r < n_n (w_ab σ b) → σ 41 r = ((dg (n_s (w_ab σ b)) (n_n (w_ab σ b)) k r : Nat) : Int)
noncomputable def q_Plan_isFitting (b b2 : Nat) (σ : w_M) (x : Int) (σ' : w_M) : Prop := (x = 0 ∨ x = 1) ∧ (∀ k : Nat, (∀ r, r < n_n (w_ab σ b) → σ 41 r = ((dg (n_s (w_ab σ b)) (n_n (w_ab σ b)) k r : Nat) : Int)) → (x = 1 ↔ ft_ok (w_ab σ b) (c_ab σ b2) k)) ∧ w_fr σ σ' 32 41
theorem fPlan_isFitting_0 : w_fe am_c86 0 1 (.aload 2) := ⟨rfl, rfl⟩
theorem fPlan_isFitting_1 : w_fe am_c86 1 2 (.getfield 500) := ⟨rfl, rfl⟩
theorem fPlan_isFitting_2 : w_if am_c86 2 3 .ne 5 := ⟨rfl, rfl⟩
theorem fPlan_isFitting_3 : w_fe am_c86 3 4 (.bipush 1) := ⟨rfl, rfl⟩
theorem fPlan_isFitting_4 : w_fe am_c86 4 5 (.ireturn) := ⟨rfl, rfl⟩
theorem fPlan_isFitting_5 : w_fe am_c86 5 6 (.aload 0) := ⟨rfl, rfl⟩
theorem fPlan_isFitting_6 : w_fe am_c86 6 7 (.aload 1) := ⟨rfl, rfl⟩
theorem fPlan_isFitting_7 : w_fe am_c86 7 8 (.invokestatic 70) := ⟨rfl, rfl⟩
theorem fPlan_isFitting_8 : w_fe am_c86 8 9 (.aload 0) := ⟨rfl, rfl⟩
theorem fPlan_isFitting_9 : w_fe am_c86 9 10 (.getfield 600) := ⟨rfl, rfl⟩
theorem fPlan_isFitting_10 : w_fe am_c86 10 11 (.bipush 12) := ⟨rfl, rfl⟩
theorem fPlan_isFitting_11 : w_fe am_c86 11 12 (.bipush 1000000) := ⟨rfl, rfl⟩
theorem fPlan_isFitting_12 : w_fe am_c86 12 13 (.invokestatic 45) := ⟨rfl, rfl⟩
theorem fPlan_isFitting_13 : w_fe am_c86 13 14 (.pop) := ⟨rfl, rfl⟩
theorem fPlan_isFitting_14 : w_fe am_c86 14 15 (.aload 2) := ⟨rfl, rfl⟩
theorem fPlan_isFitting_15 : w_fe am_c86 15 16 (.aload 0) := ⟨rfl, rfl⟩
theorem fPlan_isFitting_16 : w_fe am_c86 16 17 (.getfield 600) := ⟨rfl, rfl⟩
theorem fPlan_isFitting_17 : w_fe am_c86 17 18 (.invokestatic 61) := ⟨rfl, rfl⟩
theorem fPlan_isFitting_18 : w_fe am_c86 18 19 (.ireturn) := ⟨rfl, rfl⟩
set_option maxRecDepth 20000 in
theorem bPlan_isFitting_0 {xs : List Int} {d : Nat} {Q : Option w_V → w_M → Prop} {b : Nat} {b2 : Nat} {σ : w_M}
    (h : (¬ (σ b2 0) = 0 → (p_Plan_beginAsPicked b σ ∧ (∀ (τ1 : w_M), q_Plan_beginAsPicked b σ τ1 → (p_Field_passUntilDone 32 12 1000000 τ1 ∧ (∀ (y2 : Int) (τ3 : w_M), q_Field_passUntilDone 32 12 1000000 τ1 y2 τ3 → (p_Paid_isAsPaid b2 32 τ3 ∧ Q (some (.inl (w_bi (P_Paid_isAsPaid b2 32 τ3)))) τ3)))))) ∧ ((σ b2 0) = 0 → Q (some (.inl 1)) σ)) : w_Call (xs, (d + 5)) 86 [.inr (.inr (6, 31)), .inr (.inr (2, b)), .inr (.inr (5, b2))] σ Q :=
  (w_mk (mid := 86) (by decide) rfl rfl rfl rfl rfl (Nat.le_of_ble_eq_true rfl) ⟨rfl, Or.inl (by decide)⟩ (wi_aload2 fPlan_isFitting_0 (wi_getf500 fPlan_isFitting_1 (wi_if_ne fPlan_isFitting_2 (fun c4 => (wi_aload0 fPlan_isFitting_5 (wi_aload1 fPlan_isFitting_6 (wi_call2 fPlan_isFitting_7 (Nat.le_of_ble_eq_true rfl) (k_Plan_beginAsPicked (h.1 c4).1 (fun τ1 eτ1 => (wi_aload0 fPlan_isFitting_8 (wi_getf600 fPlan_isFitting_9 (wi_bipush fPlan_isFitting_10 (wi_bipush fPlan_isFitting_11 (wi_call3 fPlan_isFitting_12 (Nat.le_of_ble_eq_true rfl) (k_Field_passUntilDone ((h.1 c4).2 τ1 eτ1).1 (fun y2 τ3 eτ3 => (wi_pop_i fPlan_isFitting_13 (wi_aload2 fPlan_isFitting_14 (wi_aload0 fPlan_isFitting_15 (wi_getf600 fPlan_isFitting_16 (wi_call2 fPlan_isFitting_17 (Nat.le_of_ble_eq_true rfl) (k_Paid_isAsPaid (((h.1 c4).2 τ1 eτ1).2 y2 τ3 eτ3).1 (wi_ret2 fPlan_isFitting_18 (w_bi01 _) (((h.1 c4).2 τ1 eτ1).2 y2 τ3 eτ3).2)))))))))))))))))))) (fun c4 => (wi_bipush fPlan_isFitting_3 (wi_ret2 fPlan_isFitting_4 (by decide) (h.2 c4))))))))
theorem w_bi_1 {P : Prop} : w_bi P = 1 ↔ P := by
  by_cases h : P
  · rw [w_bi_t h]; exact ⟨fun _ => h, fun _ => rfl⟩
  · rw [w_bi_f h]; exact ⟨fun q => absurd q (by decide), fun q => absurd q h⟩
theorem k_Plan_isFitting {xs : List Int} {d : Nat} {Q : Option w_V → w_M → Prop} {b : Nat} {b2 : Nat} {σ : w_M} (hp : p_Plan_isFitting b b2 σ) (hQ : ∀ (x : Int) (σ' : w_M), q_Plan_isFitting b b2 σ x σ' → Q (some (.inl x)) σ') : w_Call (xs, d + 5) 86 [.inr (.inr (6, 31)), .inr (.inr (2, b)), .inr (.inr (5, b2))] σ Q := by
  obtain ⟨⟨⟨hok, hb⟩, hb2⟩, hpa, k0, hk0⟩ := hp
  have hn := n_ok.n hok
  have hc : 0 ≤ σ b2 0 ∧ σ b2 0 ≤ 4 := hpa.1
  refine bPlan_isFitting_0 ⟨fun c => ⟨⟨hok, hb⟩, fun τ1 hq1 => ?_⟩, fun c => hQ _ _ ⟨Or.inr rfl, fun k _ => ⟨fun _ q hq => ?_, fun _ => rfl⟩, w_fr.rfl'⟩⟩
  · obtain ⟨a1, F1⟩ := hq1
    have er : n_bg (w_ab σ b) (σ 41) = n_row (w_ab σ b) k0 := n_bg_congr hk0
    rw [er] at a1
    have W1 : n_WF (n_row (w_ab σ b) k0) := n_row_WF hok (n_s_pos hok) k0
    refine ⟨⟨n_ok.of a1 W1, by decide, by decide⟩, fun y2 τ3 hq3 => ?_⟩
    obtain ⟨j, p1, p2, p3⟩ := hq3
    rw [a1] at p1 p2
    obtain ⟨ej, -⟩ := n_pud_done W1 p2
    have G := n_goes_all W1 j
    have F3 : w_fr σ τ3 32 41 := F1.tr p3
    have e5 : τ3 32 5 = σ b 5 := by
      have h1 : w_ab τ3 32 0 5 = τ3 32 5 := rfl
      have h2 : (n_row (w_ab σ b) k0) 0 5 = σ b 5 := by unfold n_row; rw [n_bg_ne (by decide)]; rfl
      rw [← h1, p1, G.2.1.1 5 (by decide) (by decide), h2]
    have z0 : τ3 b2 = σ b2 := F3 b2 (by omega)
    have z1 : τ3 (b2 + 1) = σ (b2 + 1) := F3 _ (by omega)
    have z2 : τ3 (b2 + 2) = σ (b2 + 2) := F3 _ (by omega)
    refine ⟨⟨by rw [z0]; exact hc, by rw [e5]; omega⟩, hQ _ _ ⟨?_, fun k hk => ?_, F3⟩⟩
    · by_cases h : P_Paid_isAsPaid b2 32 τ3
      · exact Or.inr (w_bi_t h)
      · exact Or.inl (w_bi_f h)
    · have ek : n_row (w_ab σ b) k = n_row (w_ab σ b) k0 := by
        unfold n_row
        exact n_bg_congr (fun r hr => by rw [← hk r hr, ← hk0 r hr])
      rw [w_bi_1]
      unfold P_Paid_isAsPaid ft_ok
      rw [z0, z1, z2, e5, ek]
      have eC0 : c_ab σ b2 0 0 = σ b2 0 := rfl
      rw [eC0]
      have key : ∀ q, q < (σ b2 0).toNat → (0 ≤ σ (b2 + 1) q ∧ σ (b2 + 1) q < σ b 5) ∧ c_ab σ b2 1 q = σ (b2 + 1) q ∧ c_ab σ b2 2 q = σ (b2 + 2) q ∧ τ3 (32 + 7) (σ (b2 + 1) q).toNat = (n_goes (n_row (w_ab σ b) k0) 12) 7 (c_ab σ b2 1 q).toNat := fun q hq => by
        have w1 := (hpa.2 q hq).1
        have e1 : c_ab σ b2 1 q = σ (b2 + 1) q := by unfold c_ab; rw [if_neg (by decide), if_pos (by decide), if_pos hq]
        have e2 : c_ab σ b2 2 q = σ (b2 + 2) q := by unfold c_ab; rw [if_neg (by decide), if_pos (by decide), if_pos hq]
        rw [e1] at w1
        have w1' : 0 ≤ σ (b2 + 1) q ∧ σ (b2 + 1) q < σ b 5 := w1
        refine ⟨w1', e1, e2, ?_⟩
        rw [e1, n_row12 W1 7 (by decide), ← ej, ← p1]
        exact w_rd (by decide) (by rw [w_rl37 (by decide) (by decide), e5]; omega)
      refine ⟨fun h q hq => ?_, fun h q hq => ?_⟩
      · obtain ⟨k1, k2, k3, k4⟩ := key q hq
        rw [← k4, k3]
        exact (h q hq).2
      · obtain ⟨k1, k2, k3, k4⟩ := key q hq
        refine ⟨k1, ?_⟩
        rw [k4, ← k3]
        exact h q hq
  · have : (σ b2 0).toNat = 0 := by omega
    have eC0 : c_ab σ b2 0 0 = σ b2 0 := rfl
    rw [eC0] at hq
    omega
noncomputable def p_Plan_countFitting (b b2 : Nat) (σ : w_M) : Prop := ((n_ok σ b ∧ b + 9 ≤ 32) ∧ b2 + 3 ≤ 32) ∧ paWF (w_ab σ b) (c_ab σ b2)
noncomputable def q_Plan_countFitting (b b2 : Nat) (σ : w_M) (x : Int) (σ' : w_M) : Prop := x = ft_n (w_ab σ b) (c_ab σ b2) (ft_r (w_ab σ b)) ∧ (∀ r, r < n_n (w_ab σ b) → σ' 43 r = ft_m (w_ab σ b) (c_ab σ b2) r (ft_r (w_ab σ b))) ∧ w_fr σ σ' 31 80
theorem fPlan_countFitting_0 : w_fe am_c85 0 1 (.aload 0) := ⟨rfl, rfl⟩
theorem fPlan_countFitting_1 : w_fe am_c85 1 2 (.aload 1) := ⟨rfl, rfl⟩
theorem fPlan_countFitting_2 : w_fe am_c85 2 3 (.getfield 204) := ⟨rfl, rfl⟩
theorem fPlan_countFitting_3 : w_fe am_c85 3 4 (.bipush 1) := ⟨rfl, rfl⟩
theorem fPlan_countFitting_4 : w_fe am_c85 4 5 (.isub) := ⟨rfl, rfl⟩
theorem fPlan_countFitting_5 : w_fe am_c85 5 6 (.invokestatic 68) := ⟨rfl, rfl⟩
theorem fPlan_countFitting_6 : w_fe am_c85 6 7 (.aload 0) := ⟨rfl, rfl⟩
theorem fPlan_countFitting_7 : w_fe am_c85 7 8 (.getfield 603) := ⟨rfl, rfl⟩
theorem fPlan_countFitting_8 : w_fe am_c85 8 9 (.bipush 0) := ⟨rfl, rfl⟩
theorem fPlan_countFitting_9 : w_fe am_c85 9 10 (.invokestatic 4) := ⟨rfl, rfl⟩
theorem fPlan_countFitting_10 : w_fe am_c85 10 11 (.bipush 0) := ⟨rfl, rfl⟩
theorem fPlan_countFitting_11 : w_fe am_c85 11 12 (.istore 3) := ⟨rfl, rfl⟩
theorem fPlan_countFitting_12 : w_fe am_c85 12 13 (.bipush 0) := ⟨rfl, rfl⟩
theorem fPlan_countFitting_13 : w_fe am_c85 13 14 (.istore 4) := ⟨rfl, rfl⟩
theorem fPlan_countFitting_14 : w_fe am_c85 14 15 (.iload 4) := ⟨rfl, rfl⟩
theorem fPlan_countFitting_15 : w_fe am_c85 15 16 (.bipush 2401) := ⟨rfl, rfl⟩
theorem fPlan_countFitting_16 : w_ic am_c85 16 17 .ge 53 := ⟨rfl, rfl⟩
theorem fPlan_countFitting_17 : w_fe am_c85 17 18 (.aload 0) := ⟨rfl, rfl⟩
theorem fPlan_countFitting_18 : w_fe am_c85 18 19 (.aload 1) := ⟨rfl, rfl⟩
theorem fPlan_countFitting_19 : w_fe am_c85 19 20 (.aload 2) := ⟨rfl, rfl⟩
theorem fPlan_countFitting_20 : w_fe am_c85 20 21 (.invokestatic 86) := ⟨rfl, rfl⟩
theorem fPlan_countFitting_21 : w_if am_c85 21 22 .eq 45 := ⟨rfl, rfl⟩
theorem fPlan_countFitting_22 : w_fe am_c85 22 23 (.iinc 3 1) := ⟨rfl, rfl⟩
theorem fPlan_countFitting_23 : w_fe am_c85 23 24 (.bipush 0) := ⟨rfl, rfl⟩
theorem fPlan_countFitting_24 : w_fe am_c85 24 25 (.istore 5) := ⟨rfl, rfl⟩
theorem fPlan_countFitting_25 : w_fe am_c85 25 26 (.iload 5) := ⟨rfl, rfl⟩
theorem fPlan_countFitting_26 : w_fe am_c85 26 27 (.aload 1) := ⟨rfl, rfl⟩
theorem fPlan_countFitting_27 : w_fe am_c85 27 28 (.getfield 205) := ⟨rfl, rfl⟩
theorem fPlan_countFitting_28 : w_ic am_c85 28 29 .ge 45 := ⟨rfl, rfl⟩
theorem fPlan_countFitting_29 : w_fe am_c85 29 30 (.aload 0) := ⟨rfl, rfl⟩
theorem fPlan_countFitting_30 : w_fe am_c85 30 31 (.getfield 603) := ⟨rfl, rfl⟩
theorem fPlan_countFitting_31 : w_fe am_c85 31 32 (.iload 5) := ⟨rfl, rfl⟩
theorem fPlan_countFitting_32 : w_fe am_c85 32 33 (.aload 0) := ⟨rfl, rfl⟩
theorem fPlan_countFitting_33 : w_fe am_c85 33 34 (.getfield 603) := ⟨rfl, rfl⟩
theorem fPlan_countFitting_34 : w_fe am_c85 34 35 (.iload 5) := ⟨rfl, rfl⟩
theorem fPlan_countFitting_35 : w_fe am_c85 35 36 (.iaload) := ⟨rfl, rfl⟩
theorem fPlan_countFitting_36 : w_fe am_c85 36 37 (.aload 0) := ⟨rfl, rfl⟩
theorem fPlan_countFitting_37 : w_fe am_c85 37 38 (.getfield 601) := ⟨rfl, rfl⟩
theorem fPlan_countFitting_38 : w_fe am_c85 38 39 (.iload 5) := ⟨rfl, rfl⟩
theorem fPlan_countFitting_39 : w_fe am_c85 39 40 (.iaload) := ⟨rfl, rfl⟩
theorem fPlan_countFitting_40 : w_fe am_c85 40 41 (.bipush 1) := ⟨rfl, rfl⟩
theorem fPlan_countFitting_41 : w_fe am_c85 41 42 (.invokestatic 110) := ⟨rfl, rfl⟩
theorem fPlan_countFitting_42 : w_fe am_c85 42 43 (.iastore) := ⟨rfl, rfl⟩
theorem fPlan_countFitting_43 : w_fe am_c85 43 44 (.iinc 5 1) := ⟨rfl, rfl⟩
theorem fPlan_countFitting_44 : w_gt am_c85 44 25 := rfl
theorem fPlan_countFitting_45 : w_fe am_c85 45 46 (.aload 0) := ⟨rfl, rfl⟩
theorem fPlan_countFitting_46 : w_fe am_c85 46 47 (.aload 1) := ⟨rfl, rfl⟩
theorem fPlan_countFitting_47 : w_fe am_c85 47 48 (.getfield 205) := ⟨rfl, rfl⟩
theorem fPlan_countFitting_48 : w_fe am_c85 48 49 (.invokestatic 72) := ⟨rfl, rfl⟩
theorem fPlan_countFitting_49 : w_if am_c85 49 50 .ne 51 := ⟨rfl, rfl⟩
theorem fPlan_countFitting_50 : w_gt am_c85 50 53 := rfl
theorem fPlan_countFitting_51 : w_fe am_c85 51 52 (.iinc 4 1) := ⟨rfl, rfl⟩
theorem fPlan_countFitting_52 : w_gt am_c85 52 14 := rfl
theorem fPlan_countFitting_53 : w_fe am_c85 53 54 (.iload 3) := ⟨rfl, rfl⟩
theorem fPlan_countFitting_54 : w_fe am_c85 54 55 (.ireturn) := ⟨rfl, rfl⟩
noncomputable def LPlan_countFitting_14 (xs : List Int) (d : Nat) (Q : Option w_V → w_M → Prop) (r1 : Nat) (r2 : Nat) (v3 : Int) (v4 : Int) (σ : w_M) : Prop := ∀ l5, w_nl l5 → w_Ex (xs, d) 1 am_c85 Q 14 [some (.inr (.inr (6, 31))), some (.inr (.inr (2, r1))), some (.inr (.inr (5, r2))), some (.inl v3), some (.inl v4), l5] [] σ
noncomputable def LPlan_countFitting_25 (xs : List Int) (d : Nat) (Q : Option w_V → w_M → Prop) (r1 : Nat) (r2 : Nat) (v3 : Int) (v4 : Int) (v5 : Int) (σ : w_M) : Prop := w_Ex (xs, d) 1 am_c85 Q 25 [some (.inr (.inr (6, 31))), some (.inr (.inr (2, r1))), some (.inr (.inr (5, r2))), some (.inl v3), some (.inl v4), some (.inl v5)] [] σ
set_option maxRecDepth 20000 in
theorem bPlan_countFitting_0 {xs : List Int} {d : Nat} {Q : Option w_V → w_M → Prop} {b : Nat} {b2 : Nat} {σ : w_M}
    (h : w_in ((σ b 4) - 1) ∧ p_Plan_startPicks ((σ b 4) - 1) σ ∧ (∀ (τ1 : w_M), q_Plan_startPicks ((σ b 4) - 1) σ τ1 → ∀ (τ2 : w_M), q_Arrays_fill 43 0 τ1 τ2 → LPlan_countFitting_14 xs (d + 6) Q b b2 0 0 τ2)) : w_Call (xs, (d + 6)) 85 [.inr (.inr (6, 31)), .inr (.inr (2, b)), .inr (.inr (5, b2))] σ Q :=
  (w_mk (mid := 85) (by decide) rfl rfl rfl rfl rfl (Nat.le_of_ble_eq_true rfl) ⟨rfl, Or.inl (by decide)⟩ (wi_aload0 fPlan_countFitting_0 (wi_aload1 fPlan_countFitting_1 (wi_getf204 fPlan_countFitting_2 (wi_bipush fPlan_countFitting_3 (wi_isub fPlan_countFitting_4 h.1 (wi_call2 fPlan_countFitting_5 (Nat.le_of_ble_eq_true rfl) (k_Plan_startPicks h.2.1 (fun τ1 eτ1 => (wi_aload0 fPlan_countFitting_6 (wi_getf603 fPlan_countFitting_7 (wi_bipush fPlan_countFitting_8 (wi_call2 fPlan_countFitting_9 (Nat.le_of_ble_eq_true rfl) (k_Arrays_fill (fun τ2 eτ2 => (wi_bipush fPlan_countFitting_10 (wi_istore3 fPlan_countFitting_11 trivial (wi_bipush fPlan_countFitting_12 (wi_istore4 fPlan_countFitting_13 trivial (((h.2.2 τ1 eτ1) τ2 eτ2) _ (by exact trivial)))))))))))))))))))))
set_option maxRecDepth 20000 in
theorem bPlan_countFitting_14 {xs : List Int} {d : Nat} {Q : Option w_V → w_M → Prop} {r1 : Nat} {r2 : Nat} {v3 : Int} {v4 : Int} {σ : w_M}
    (h : (2401 ≤ v4 → Q (some (.inl v3)) σ) ∧ (v4 < 2401 → (p_Plan_isFitting r1 r2 σ ∧ (∀ (y1 : Int) (τ2 : w_M), q_Plan_isFitting r1 r2 σ y1 τ2 → ((y1 = 0 → (p_Plan_turnPicks (τ2 r1 5) τ2 ∧ (∀ (y3 : Int) (τ4 : w_M), q_Plan_turnPicks (τ2 r1 5) τ2 y3 τ4 → ((¬ y3 = 0 → (w_in (v4 + 1) ∧ LPlan_countFitting_14 xs (d + 6) Q r1 r2 v3 (v4 + 1) τ4)) ∧ (y3 = 0 → Q (some (.inl v3)) τ4))))) ∧ (¬ y1 = 0 → (w_in (v3 + 1) ∧ LPlan_countFitting_25 xs (d + 6) Q r1 r2 (v3 + 1) v4 0 τ2))))))) : LPlan_countFitting_14 xs (d + 6) Q r1 r2 v3 v4 σ :=
  fun l5 nl5 => (wi_iload4 fPlan_countFitting_14 (wi_bipush fPlan_countFitting_15 (wi_ic_ge fPlan_countFitting_16 (fun c7 => (wi_iload3 fPlan_countFitting_53 (wi_ret1 fPlan_countFitting_54 (h.1 c7)))) (fun c7 => (wi_aload0 fPlan_countFitting_17 (wi_aload1 fPlan_countFitting_18 (wi_aload2 fPlan_countFitting_19 (wi_call3 fPlan_countFitting_20 (Nat.le_of_ble_eq_true rfl) (k_Plan_isFitting (h.2 c7).1 (fun y1 τ2 eτ2 => (wi_if_eq fPlan_countFitting_21 (fun c6 => (wi_aload0 fPlan_countFitting_45 (wi_aload1 fPlan_countFitting_46 (wi_getf205 fPlan_countFitting_47 (wi_call2 fPlan_countFitting_48 (Nat.le_of_ble_eq_true rfl) (k_Plan_turnPicks (((h.2 c7).2 y1 τ2 eτ2).1 c6).1 (fun y3 τ4 eτ4 => (wi_if_ne fPlan_countFitting_49 (fun c5 => (wi_iinc4 fPlan_countFitting_51 trivial (((((h.2 c7).2 y1 τ2 eτ2).1 c6).2 y3 τ4 eτ4).1 c5).1 (wi_goto fPlan_countFitting_52 ((((((h.2 c7).2 y1 τ2 eτ2).1 c6).2 y3 τ4 eτ4).1 c5).2 _ nl5)))) (fun c5 => (wi_goto fPlan_countFitting_50 (wi_iload3 fPlan_countFitting_53 (wi_ret1 fPlan_countFitting_54 (((((h.2 c7).2 y1 τ2 eτ2).1 c6).2 y3 τ4 eτ4).2 c5))))))))))))) (fun c6 => (wi_iinc3 fPlan_countFitting_22 trivial (((h.2 c7).2 y1 τ2 eτ2).2 c6).1 (wi_bipush fPlan_countFitting_23 (wi_istore5 fPlan_countFitting_24 trivial (((h.2 c7).2 y1 τ2 eτ2).2 c6).2)))))))))))))))
set_option maxRecDepth 20000 in
theorem bPlan_countFitting_25 {xs : List Int} {d : Nat} {Q : Option w_V → w_M → Prop} {r1 : Nat} {r2 : Nat} {v3 : Int} {v4 : Int} {v5 : Int} {σ : w_M}
    (h : ((σ r1 5) ≤ v5 → (p_Plan_turnPicks (σ r1 5) σ ∧ (∀ (y1 : Int) (τ2 : w_M), q_Plan_turnPicks (σ r1 5) σ y1 τ2 → ((¬ y1 = 0 → (w_in (v4 + 1) ∧ LPlan_countFitting_14 xs (d + 6) Q r1 r2 v3 (v4 + 1) τ2)) ∧ (y1 = 0 → Q (some (.inl v3)) τ2))))) ∧ (v5 < (σ r1 5) → (0 ≤ v5 ∧ v5 < 4 ∧ (∀ (y4 : Int), y4 = v_Moon_withBit (σ 43 v5.toNat) (σ 41 v5.toNat) 1 → ∀ (τ5 : w_M), τ5 = w_up σ 43 v5.toNat y4 → (w_in (v5 + 1) ∧ LPlan_countFitting_25 xs (d + 6) Q r1 r2 v3 v4 (v5 + 1) τ5))))) : LPlan_countFitting_25 xs (d + 6) Q r1 r2 v3 v4 v5 σ :=
  (wi_iload5 fPlan_countFitting_25 (wi_aload1 fPlan_countFitting_26 (wi_getf205 fPlan_countFitting_27 (wi_ic_ge fPlan_countFitting_28 (fun c6 => (wi_aload0 fPlan_countFitting_45 (wi_aload1 fPlan_countFitting_46 (wi_getf205 fPlan_countFitting_47 (wi_call2 fPlan_countFitting_48 (Nat.le_of_ble_eq_true rfl) (k_Plan_turnPicks (h.1 c6).1 (fun y1 τ2 eτ2 => (wi_if_ne fPlan_countFitting_49 (fun c3 => (wi_iinc4 fPlan_countFitting_51 trivial (((h.1 c6).2 y1 τ2 eτ2).1 c3).1 (wi_goto fPlan_countFitting_52 ((((h.1 c6).2 y1 τ2 eτ2).1 c3).2 _ (by exact trivial))))) (fun c3 => (wi_goto fPlan_countFitting_50 (wi_iload3 fPlan_countFitting_53 (wi_ret1 fPlan_countFitting_54 (((h.1 c6).2 y1 τ2 eτ2).2 c3))))))))))))) (fun c6 => (wi_aload0 fPlan_countFitting_29 (wi_getf603 fPlan_countFitting_30 (wi_iload5 fPlan_countFitting_31 (wi_aload0 fPlan_countFitting_32 (wi_getf603 fPlan_countFitting_33 (wi_iload5 fPlan_countFitting_34 (wi_iald1004 fPlan_countFitting_35 (h.2 c6).1 (h.2 c6).2.1 (wi_aload0 fPlan_countFitting_36 (wi_getf601 fPlan_countFitting_37 (wi_iload5 fPlan_countFitting_38 (wi_iald1004 fPlan_countFitting_39 (h.2 c6).1 (h.2 c6).2.1 (wi_bipush fPlan_countFitting_40 (wi_call3 fPlan_countFitting_41 (Nat.le_of_ble_eq_true rfl) (k_Moon_withBit (wi_iast1004 fPlan_countFitting_42 (h.2 c6).1 (h.2 c6).2.1 (wi_iinc5 fPlan_countFitting_43 trivial (((h.2 c6).2.2 _ rfl) _ rfl).1 (wi_goto fPlan_countFitting_44 (((h.2 c6).2.2 _ rfl) _ rfl).2))))))))))))))))))))))
set_option maxHeartbeats 2000000 in
theorem k_Plan_countFitting {xs : List Int} {d : Nat} {Q : Option w_V → w_M → Prop} {b : Nat} {b2 : Nat} {σ : w_M} (hp : p_Plan_countFitting b b2 σ) (hQ : ∀ (x : Int) (σ' : w_M), q_Plan_countFitting b b2 σ x σ' → Q (some (.inl x)) σ') : w_Call (xs, d + 6) 85 [.inr (.inr (6, 31)), .inr (.inr (2, b)), .inr (.inr (5, b2))] σ Q := by
  obtain ⟨⟨⟨hok, hb⟩, hb2⟩, hpa⟩ := hp
  have hs := n_ok.s hok
  have hn := n_ok.n hok
  have hs1 := n_s_pos hok
  have en : n_n (w_ab σ b) = (σ b 5).toNat := rfl
  have es : n_s (w_ab σ b) = (σ b 4).toNat := rfl
  unfold q_Plan_countFitting ft_r at hQ
  have fab : ∀ τ : w_M, w_fr σ τ 32 63 → w_ab τ b = w_ab σ b ∧ c_ab τ b2 = c_ab σ b2 ∧ τ b = σ b := fun τ F => ⟨w_ab_fr (fun d hd => F _ (by omega)), c_ab_fr (fun d hd => F _ (by omega)), F b (by omega)⟩
  have hW : n_WF (w_ab σ b) := hok
  generalize hA : w_ab σ b = A at *
  generalize hC : c_ab σ b2 = C at *
  have hB7 : n_s A ≤ 7 := by omega
  have hn4 : n_n A ≤ 4 := by omega
  have p7 := pow7 hB7 hn4
  refine bPlan_countFitting_0 ⟨⟨by omega, by omega⟩, trivial, fun τ1 hq1 τ2 hq2 => ?_⟩
  obtain ⟨s1, s2⟩ := hq1
  unfold q_Arrays_fill at hq2
  have F2 : w_fr σ τ2 32 63 := fun c hc => by rw [hq2, f_fill_ne (by omega), s2 c (by omega) (by omega)]
  refine (w_loop (n := n_s A ^ n_n A) (P := fun k => k < n_s A ^ n_n A → ∀ τ : w_M, w_fr σ τ 32 63 → pk_at τ (n_s A) (n_n A) k → (∀ r, r < n_n A → τ 43 r = ft_m A C r k) → LPlan_countFitting_14 xs (d + 6) Q b b2 (ft_n A C k) (k : Int) τ) ?_ ?_) ?_ τ2 F2 ?_ ?_
  · intro h; omega
  · intro k hk ih _ τ F hpk hch
    obtain ⟨f1, f2, f3⟩ := fab τ F
    have hfn := ft_n_le (A := A) (C := C) k
    -- the turning of the picks
    have turn : ∀ (τ' : w_M) (v : Int), w_fr σ τ' 32 63 → pk_at τ' (n_s A) (n_n A) k → (∀ r, r < n_n A → τ' 43 r = ft_m A C r (k + 1)) → v = ft_n A C (k + 1) → (p_Plan_turnPicks (τ' b 5) τ' ∧ (∀ (y3 : Int) (τ4 : w_M), q_Plan_turnPicks (τ' b 5) τ' y3 τ4 → ((¬ y3 = 0 → (w_in ((k : Int) + 1) ∧ LPlan_countFitting_14 xs (d + 6) Q b b2 v ((k : Int) + 1) τ4)) ∧ (y3 = 0 → Q (some (.inl v)) τ4)))) := fun τ' v F' hp' hc' ev => by
      obtain ⟨-, -, g3⟩ := fab τ' F'
      rw [g3]
      refine ⟨⟨hn, n_s A, k, by omega, by omega, by rw [← en]; exact hk, by rw [← en]; exact hp'⟩, fun y3 τ4 hq => ?_⟩
      obtain ⟨q1, q2⟩ := hq
      have F4 : w_fr σ τ4 32 63 := fun c hc => by rw [q1 c (by omega), F' c hc]
      have c4 : ∀ r, r < n_n A → τ4 43 r = ft_m A C r (k + 1) := fun r hr => by rw [q1 43 (by decide)]; exact hc' r hr
      have q2' := q2 (n_s A) k (by omega) (by omega) (by rw [← en]; exact hk) (by rw [← en]; exact hp')
      rw [← en] at q2'
      refine ⟨fun c => ⟨⟨by omega, by omega⟩, ?_⟩, fun c => ?_⟩
      · rcases q2' with ⟨a1, a2, a3⟩ | ⟨a1, a2⟩
        · rw [ev, ← w_cs1]
          exact ih a2 τ4 F4 a3 c4
        · exact absurd a1 c
      · rcases q2' with ⟨a1, a2, a3⟩ | ⟨a1, a2⟩
        · omega
        · refine hQ _ _ ⟨by rw [ev, a2], fun r hr => by rw [c4 r hr, a2], F4.wide (by decide) (by decide)⟩
    refine bPlan_countFitting_14 ⟨fun h => by omega, fun _ => ⟨⟨⟨⟨n_ok.of f1 hW, Or.inr hb⟩, hb2⟩, by rw [f1, f2]; exact hpa, k, fun r hr => by rw [f1] at hr ⊢; exact (hpk r hr).1⟩, fun y1 τ3 hq3 => ?_⟩⟩
    obtain ⟨o1, o2, o3⟩ := hq3
    rw [f1, f2] at o2
    have o2' := o2 k (fun r hr => (hpk r hr).1)
    have F3 : w_fr σ τ3 32 63 := F.tr (o3.wide (by decide) (by decide))
    have pk3 : pk_at τ3 (n_s A) (n_n A) k := fun r hr => by rw [o3 41 (by omega), o3 42 (by omega)]; exact hpk r hr
    have ch3 : ∀ r, r < n_n A → τ3 43 r = ft_m A C r k := fun r hr => by rw [o3 43 (by omega)]; exact hch r hr
    refine ⟨fun c => ?_, fun c => ⟨⟨by omega, by omega⟩, ?_⟩⟩
    · have nok : ¬ ft_ok A C k := fun h => by have := o2'.mpr h; omega
      exact turn τ3 _ F3 pk3 (fun r hr => by rw [ft_m_f nok]; exact ch3 r hr) (ft_n_f nok).symm
    · have yok : ft_ok A C k := o2'.mp (o1.resolve_left c)
      refine (w_loop (n := n_n A) (P := fun r => ∀ τ : w_M, w_fr σ τ 32 63 → pk_at τ (n_s A) (n_n A) k → (∀ q, q < r → τ 43 q = ft_m A C q (k + 1)) → (∀ q, r ≤ q → q < n_n A → τ 43 q = ft_m A C q k) → LPlan_countFitting_25 xs (d + 6) Q b b2 (ft_n A C k + 1) (k : Int) (r : Int) τ) ?_ ?_) τ3 F3 pk3 (fun q hq => by omega) (fun q _ hq => ch3 q hq)
      · intro τ5 F5 p5 h1 h2
        obtain ⟨-, -, g3⟩ := fab τ5 F5
        exact bPlan_countFitting_25 ⟨fun _ => turn τ5 _ F5 p5 h1 (ft_n_t yok).symm, fun h => by rw [g3] at h; omega⟩
      · intro r hr ih2 τ5 F5 p5 h1 h2
        obtain ⟨-, -, g3⟩ := fab τ5 F5
        refine bPlan_countFitting_25 ⟨fun h => by rw [g3] at h; omega, fun _ => ⟨by omega, by omega, fun y4 e4 τ6 t6 => ⟨⟨by omega, by omega⟩, ?_⟩⟩⟩
        rw [Int.toNat_natCast] at e4 t6
        have e4' : y4 = ft_m A C r (k + 1) := by
          rw [e4, ft_m_t yok, h2 r (Nat.le_refl _) hr, (p5 r hr).1]
          rfl
        rw [← w_cs1]
        refine ih2 τ6 (by rw [t6]; exact F5.up (by decide) (by decide)) (fun q hq => by rw [t6, w_up_ne (by decide), w_up_ne (by decide)]; exact p5 q hq) (fun q hq => ?_) (fun q hq1 hq2 => ?_)
        · rw [t6]
          by_cases e : q = r
          · rw [e, w_up_at]; exact e4'
          · rw [w_up_j e]; exact h1 q (by omega)
        · rw [t6, w_up_j (by omega)]; exact h2 q (by omega) hq2
  · by_cases h : n_n A = 0
    · rw [h]; simp
    · exact Nat.pow_pos (by omega)
  · refine pk_start hn4 (fun r hr => ?_)
    rw [hq2, f_fill_ne (by decide), f_fill_ne (by decide)]
    refine ⟨(s1 r hr).1, ?_⟩
    rw [(s1 r hr).2]
    omega
  · intro r hr
    rw [hq2, f_fill_at (by omega)]
    rfl
noncomputable def p_Moon_fits (_x1 : Int) (σ : w_M) : Prop := CI σ
noncomputable def q_Moon_fits (x1 : Int) (σ : w_M) (x : Int) (σ' : w_M) : Prop := c_q (F_fits (cS σ) x1) (cS σ) σ x σ'
theorem fMoon_fits_0 : w_fe am_c144 0 1 (.iload 1) := ⟨rfl, rfl⟩
theorem fMoon_fits_1 : w_if am_c144 1 2 .eq 8 := ⟨rfl, rfl⟩
theorem fMoon_fits_2 : w_fe am_c144 2 3 (.aload 0) := ⟨rfl, rfl⟩
theorem fMoon_fits_3 : w_fe am_c144 3 4 (.iload 1) := ⟨rfl, rfl⟩
theorem fMoon_fits_4 : w_fe am_c144 4 5 (.invokestatic 130) := ⟨rfl, rfl⟩
theorem fMoon_fits_5 : w_if am_c144 5 6 .ne 8 := ⟨rfl, rfl⟩
theorem fMoon_fits_6 : w_fe am_c144 6 7 (.bipush (-1)) := ⟨rfl, rfl⟩
theorem fMoon_fits_7 : w_fe am_c144 7 8 (.ireturn) := ⟨rfl, rfl⟩
theorem fMoon_fits_8 : w_fe am_c144 8 9 (.aload 0) := ⟨rfl, rfl⟩
theorem fMoon_fits_9 : w_fe am_c144 9 10 (.getfield 4) := ⟨rfl, rfl⟩
theorem fMoon_fits_10 : w_fe am_c144 10 11 (.aload 0) := ⟨rfl, rfl⟩
theorem fMoon_fits_11 : w_fe am_c144 11 12 (.getfield 2) := ⟨rfl, rfl⟩
theorem fMoon_fits_12 : w_fe am_c144 12 13 (.aload 0) := ⟨rfl, rfl⟩
theorem fMoon_fits_13 : w_fe am_c144 13 14 (.getfield 1) := ⟨rfl, rfl⟩
theorem fMoon_fits_14 : w_fe am_c144 14 15 (.getfield 302) := ⟨rfl, rfl⟩
theorem fMoon_fits_15 : w_fe am_c144 15 16 (.invokestatic 85) := ⟨rfl, rfl⟩
theorem fMoon_fits_16 : w_fe am_c144 16 17 (.istore 2) := ⟨rfl, rfl⟩
theorem fMoon_fits_17 : w_fe am_c144 17 18 (.iload 1) := ⟨rfl, rfl⟩
theorem fMoon_fits_18 : w_if am_c144 18 19 .ne 21 := ⟨rfl, rfl⟩
theorem fMoon_fits_19 : w_fe am_c144 19 20 (.iload 2) := ⟨rfl, rfl⟩
theorem fMoon_fits_20 : w_gt am_c144 20 27 := rfl
theorem fMoon_fits_21 : w_fe am_c144 21 22 (.aload 0) := ⟨rfl, rfl⟩
theorem fMoon_fits_22 : w_fe am_c144 22 23 (.getfield 4) := ⟨rfl, rfl⟩
theorem fMoon_fits_23 : w_fe am_c144 23 24 (.iload 1) := ⟨rfl, rfl⟩
theorem fMoon_fits_24 : w_fe am_c144 24 25 (.bipush 10) := ⟨rfl, rfl⟩
theorem fMoon_fits_25 : w_fe am_c144 25 26 (.isub) := ⟨rfl, rfl⟩
theorem fMoon_fits_26 : w_fe am_c144 26 27 (.invokestatic 73) := ⟨rfl, rfl⟩
theorem fMoon_fits_27 : w_fe am_c144 27 28 (.ireturn) := ⟨rfl, rfl⟩
set_option maxRecDepth 20000 in
theorem bMoon_fits_0 {xs : List Int} {d : Nat} {Q : Option w_V → w_M → Prop} {x1 : Int} {σ : w_M}
    (h : (x1 = 0 → (p_Plan_countFitting 14 27 σ ∧ (∀ (y1 : Int) (τ2 : w_M), q_Plan_countFitting 14 27 σ y1 τ2 → Q (some (.inl y1)) τ2))) ∧ (¬ x1 = 0 → (((10 ≤ x1 ∧ x1 - 10 < σ 14 5) → (p_Plan_countFitting 14 27 σ ∧ (∀ (y3 : Int) (τ4 : w_M), q_Plan_countFitting 14 27 σ y3 τ4 → (w_in (x1 - 10) ∧ p_Plan_chosenOf (x1 - 10) τ4 ∧ (∀ (y5 : Int), y5 = v_Plan_chosenOf (x1 - 10) τ4 → Q (some (.inl y5)) τ4))))) ∧ (¬ (10 ≤ x1 ∧ x1 - 10 < σ 14 5) → Q (some (.inl (-1))) σ)))) : w_Call (xs, (d + 7)) 144 [.inr (.inr (0, 0)), .inl x1] σ Q :=
  (w_mk (mid := 144) (by decide) rfl rfl rfl rfl rfl (Nat.le_of_ble_eq_true rfl) ⟨rfl, Or.inl (by decide)⟩ (wi_iload1 fMoon_fits_0 (wi_if_eq fMoon_fits_1 (fun c7 => (wi_aload0 fMoon_fits_8 (wi_getf4 fMoon_fits_9 (wi_aload0 fMoon_fits_10 (wi_getf2 fMoon_fits_11 (wi_aload0 fMoon_fits_12 (wi_getf1 fMoon_fits_13 (wi_getf302 fMoon_fits_14 (wi_call3 fMoon_fits_15 (Nat.le_of_ble_eq_true rfl) (k_Plan_countFitting (h.1 c7).1 (fun y1 τ2 eτ2 => (wi_istore2 fMoon_fits_16 trivial (wi_iload1 fMoon_fits_17 (wi_if_ne fMoon_fits_18 (fun e => absurd c7 (w_m_ne e)) (fun _ => (wi_iload2 fMoon_fits_19 (wi_goto fMoon_fits_20 (wi_ret1 fMoon_fits_27 ((h.1 c7).2 y1 τ2 eτ2))))))))))))))))))) (fun c7 => (wi_aload0 fMoon_fits_2 (wi_iload1 fMoon_fits_3 (wi_call2 fMoon_fits_4 (Nat.le_of_ble_eq_true rfl) (k_Moon_asksOfReaper (wi_ifb_ne fMoon_fits_5 (fun c6 => (wi_aload0 fMoon_fits_8 (wi_getf4 fMoon_fits_9 (wi_aload0 fMoon_fits_10 (wi_getf2 fMoon_fits_11 (wi_aload0 fMoon_fits_12 (wi_getf1 fMoon_fits_13 (wi_getf302 fMoon_fits_14 (wi_call3 fMoon_fits_15 (Nat.le_of_ble_eq_true rfl) (k_Plan_countFitting ((h.2 c7).1 c6).1 (fun y3 τ4 eτ4 => (wi_istore2 fMoon_fits_16 trivial (wi_iload1 fMoon_fits_17 (wi_if_ne fMoon_fits_18 (fun _ => (wi_aload0 fMoon_fits_21 (wi_getf4 fMoon_fits_22 (wi_iload1 fMoon_fits_23 (wi_bipush fMoon_fits_24 (wi_isub fMoon_fits_25 (((h.2 c7).1 c6).2 y3 τ4 eτ4).1 (wi_call2 fMoon_fits_26 (Nat.le_of_ble_eq_true rfl) (k_Plan_chosenOf (((h.2 c7).1 c6).2 y3 τ4 eτ4).2.1 (wi_ret1 fMoon_fits_27 ((((h.2 c7).1 c6).2 y3 τ4 eτ4).2.2 _ rfl)))))))))) (fun e => absurd c7 (w_n_ne e)))))))))))))))) (fun c6 => (wi_bipush fMoon_fits_6 (wi_ret1 fMoon_fits_7 ((h.2 c7).2 c6)))))))))))))
theorem k_Moon_fits {xs : List Int} {d : Nat} {Q : Option w_V → w_M → Prop} {x1 : Int} {σ : w_M} (hp : p_Moon_fits x1 σ) (hQ : ∀ (x : Int) (σ' : w_M), q_Moon_fits x1 σ x σ' → Q (some (.inl x)) σ') : w_Call (xs, d + 7) 144 [.inr (.inr (0, 0)), .inl x1] σ Q := by
  have hC : CI σ := hp
  have hok := hC.ok
  have hn := n_ok.n hok
  unfold q_Moon_fits F_fits at hQ
  have e5 : cS σ 0 0 5 = σ 14 5 := rfl
  have eA : cS σ 0 = w_ab σ 14 := rfl
  have eC : cS σ 2 = c_ab σ 27 := rfl
  rw [e5, eA, eC] at hQ
  have pre : p_Plan_countFitting 14 27 σ := ⟨⟨⟨hok, by decide⟩, by decide⟩, hC.1.2.2.1⟩
  refine bMoon_fits_0 ⟨fun c => ⟨pre, fun y τ hq => ?_⟩, fun c => ⟨fun c2 => ⟨pre, fun y τ hq => ⟨⟨by omega, by omega⟩, ⟨by omega, by omega⟩, fun y5 e5' => ?_⟩⟩, fun c2 => ?_⟩⟩
  · rw [if_pos c] at hQ
    exact hQ _ _ (c_qs hC hq.2.2 hq.1)
  · rw [if_neg c, if_pos c2] at hQ
    refine hQ _ _ (c_qs hC hq.2.2 ?_)
    rw [e5']
    exact hq.2.1 _ (by show (x1 - 10).toNat < (σ 14 5).toNat; omega)
  · rw [if_neg c, if_neg c2] at hQ
    exact hQ _ _ (c_qr hC rfl)
theorem w_wr10 {x n : Int} (hx : w_in x) (hn : 0 ≤ n ∧ n ≤ 4) : (0 ≤ w_wr (x - 10) ∧ w_wr (x - 10) < n) ↔ (10 ≤ x ∧ x - 10 < n) := by
  obtain ⟨h1, h2⟩ := hx
  by_cases h : -2147483648 ≤ x - 10
  · rw [w_wr_of ⟨h, by omega⟩]
    omega
  · have : w_wr (x - 10) = x - 10 + 4294967296 := by
      unfold w_wr
      rw [Int.bmod_def]
      have : (x - 10) % ((4294967296 : Nat) : Int) = x - 10 + 4294967296 := by omega
      rw [this, if_pos (by omega)]
    rw [this]
    omega
noncomputable def p_Model_fits (_x1 : Int) (σ : w_M) : Prop := MI σ
noncomputable def q_Model_fits (x1 : Int) (σ : w_M) (x : Int) (σ' : w_M) : Prop := m_q (F_fits (mS σ) x1) (mS σ) σ x σ'
noncomputable def w_c228 : List Instr := [.iload 1, .ifCond .eq 10, .aload 0, .iload 1, .bipush 10, .fsub, .invokestatic 181, .ifCond .ne 10, .bipush (-1), .ireturn, .bipush 0, .istore 2, .bipush 0, .istore 3, .bipush 0, .istore 4, .iload 4, .aload 0, .aload 0, .getfield 904, .invokestatic 207, .if_icmp .ge 95, .aload 0, .iload 4, .invokestatic 208, .aload 0, .bipush 12, .invokestatic 194, .bipush 1, .istore 5, .bipush 0, .istore 6, .iload 6, .aload 0, .getfield 900, .bipush 73, .iaload, .if_icmp .ge 68, .iload 5, .ifCond .eq 64, .aload 0, .aload 0, .getfield 900, .bipush 74, .bipush 2, .iload 6, .imul, .iadd, .iaload, .bipush 4, .invokestatic 178, .aload 0, .getfield 900, .bipush 74, .bipush 2, .iload 6, .imul, .iadd, .bipush 1, .iadd, .iaload, .if_icmp .ne 64, .bipush 1, .goto 65, .bipush 0, .istore 5, .iinc 6 1, .goto 32, .iload 2, .iload 5, .invokestatic 179, .iadd, .istore 2, .iload 3, .iload 5, .ifCond .eq 90, .iload 1, .bipush 10, .if_icmp .lt 90, .bipush 1, .aload 0, .iload 4, .iload 1, .bipush 10, .isub, .aload 0, .getfield 904, .invokestatic 209, .ishl, .goto 91, .bipush 0, .ior, .istore 3, .iinc 4 1, .goto 16, .iload 1, .ifCond .ne 99, .iload 2, .goto 100, .iload 3, .ireturn]
theorem fModel_fits_0 : w_fe w_c228 0 1 (.iload 1) := ⟨rfl, rfl⟩
theorem fModel_fits_1 : w_if w_c228 1 2 .eq 10 := ⟨rfl, rfl⟩
theorem fModel_fits_2 : w_fe w_c228 2 3 (.aload 0) := ⟨rfl, rfl⟩
theorem fModel_fits_3 : w_fe w_c228 3 4 (.iload 1) := ⟨rfl, rfl⟩
theorem fModel_fits_4 : w_fe w_c228 4 5 (.bipush 10) := ⟨rfl, rfl⟩
theorem fModel_fits_5 : w_fe w_c228 5 6 (.fsub) := ⟨rfl, rfl⟩
theorem fModel_fits_6 : w_fe w_c228 6 7 (.invokestatic 181) := ⟨rfl, rfl⟩
theorem fModel_fits_7 : w_if w_c228 7 8 .ne 10 := ⟨rfl, rfl⟩
theorem fModel_fits_8 : w_fe w_c228 8 9 (.bipush (-1)) := ⟨rfl, rfl⟩
theorem fModel_fits_9 : w_fe w_c228 9 10 (.ireturn) := ⟨rfl, rfl⟩
theorem fModel_fits_10 : w_fe w_c228 10 11 (.bipush 0) := ⟨rfl, rfl⟩
theorem fModel_fits_11 : w_fe w_c228 11 12 (.istore 2) := ⟨rfl, rfl⟩
theorem fModel_fits_12 : w_fe w_c228 12 13 (.bipush 0) := ⟨rfl, rfl⟩
theorem fModel_fits_13 : w_fe w_c228 13 14 (.istore 3) := ⟨rfl, rfl⟩
theorem fModel_fits_14 : w_fe w_c228 14 15 (.bipush 0) := ⟨rfl, rfl⟩
theorem fModel_fits_15 : w_fe w_c228 15 16 (.istore 4) := ⟨rfl, rfl⟩
theorem fModel_fits_16 : w_fe w_c228 16 17 (.iload 4) := ⟨rfl, rfl⟩
theorem fModel_fits_17 : w_fe w_c228 17 18 (.aload 0) := ⟨rfl, rfl⟩
theorem fModel_fits_18 : w_fe w_c228 18 19 (.aload 0) := ⟨rfl, rfl⟩
theorem fModel_fits_19 : w_fe w_c228 19 20 (.getfield 904) := ⟨rfl, rfl⟩
theorem fModel_fits_20 : w_fe w_c228 20 21 (.invokestatic 207) := ⟨rfl, rfl⟩
theorem fModel_fits_21 : w_ic w_c228 21 22 .ge 95 := ⟨rfl, rfl⟩
theorem fModel_fits_22 : w_fe w_c228 22 23 (.aload 0) := ⟨rfl, rfl⟩
theorem fModel_fits_23 : w_fe w_c228 23 24 (.iload 4) := ⟨rfl, rfl⟩
theorem fModel_fits_24 : w_fe w_c228 24 25 (.invokestatic 208) := ⟨rfl, rfl⟩
theorem fModel_fits_25 : w_fe w_c228 25 26 (.aload 0) := ⟨rfl, rfl⟩
theorem fModel_fits_26 : w_fe w_c228 26 27 (.bipush 12) := ⟨rfl, rfl⟩
theorem fModel_fits_27 : w_fe w_c228 27 28 (.invokestatic 194) := ⟨rfl, rfl⟩
theorem fModel_fits_28 : w_fe w_c228 28 29 (.bipush 1) := ⟨rfl, rfl⟩
theorem fModel_fits_29 : w_fe w_c228 29 30 (.istore 5) := ⟨rfl, rfl⟩
theorem fModel_fits_30 : w_fe w_c228 30 31 (.bipush 0) := ⟨rfl, rfl⟩
theorem fModel_fits_31 : w_fe w_c228 31 32 (.istore 6) := ⟨rfl, rfl⟩
theorem fModel_fits_32 : w_fe w_c228 32 33 (.iload 6) := ⟨rfl, rfl⟩
theorem fModel_fits_33 : w_fe w_c228 33 34 (.aload 0) := ⟨rfl, rfl⟩
theorem fModel_fits_34 : w_fe w_c228 34 35 (.getfield 900) := ⟨rfl, rfl⟩
theorem fModel_fits_35 : w_fe w_c228 35 36 (.bipush 73) := ⟨rfl, rfl⟩
theorem fModel_fits_36 : w_fe w_c228 36 37 (.iaload) := ⟨rfl, rfl⟩
theorem fModel_fits_37 : w_ic w_c228 37 38 .ge 68 := ⟨rfl, rfl⟩
theorem fModel_fits_38 : w_fe w_c228 38 39 (.iload 5) := ⟨rfl, rfl⟩
theorem fModel_fits_39 : w_if w_c228 39 40 .eq 64 := ⟨rfl, rfl⟩
theorem fModel_fits_40 : w_fe w_c228 40 41 (.aload 0) := ⟨rfl, rfl⟩
theorem fModel_fits_41 : w_fe w_c228 41 42 (.aload 0) := ⟨rfl, rfl⟩
theorem fModel_fits_42 : w_fe w_c228 42 43 (.getfield 900) := ⟨rfl, rfl⟩
theorem fModel_fits_43 : w_fe w_c228 43 44 (.bipush 74) := ⟨rfl, rfl⟩
theorem fModel_fits_44 : w_fe w_c228 44 45 (.bipush 2) := ⟨rfl, rfl⟩
theorem fModel_fits_45 : w_fe w_c228 45 46 (.iload 6) := ⟨rfl, rfl⟩
theorem fModel_fits_46 : w_fe w_c228 46 47 (.imul) := ⟨rfl, rfl⟩
theorem fModel_fits_47 : w_fe w_c228 47 48 (.iadd) := ⟨rfl, rfl⟩
theorem fModel_fits_48 : w_fe w_c228 48 49 (.iaload) := ⟨rfl, rfl⟩
theorem fModel_fits_49 : w_fe w_c228 49 50 (.bipush 4) := ⟨rfl, rfl⟩
theorem fModel_fits_50 : w_fe w_c228 50 51 (.invokestatic 178) := ⟨rfl, rfl⟩
theorem fModel_fits_51 : w_fe w_c228 51 52 (.aload 0) := ⟨rfl, rfl⟩
theorem fModel_fits_52 : w_fe w_c228 52 53 (.getfield 900) := ⟨rfl, rfl⟩
theorem fModel_fits_53 : w_fe w_c228 53 54 (.bipush 74) := ⟨rfl, rfl⟩
theorem fModel_fits_54 : w_fe w_c228 54 55 (.bipush 2) := ⟨rfl, rfl⟩
theorem fModel_fits_55 : w_fe w_c228 55 56 (.iload 6) := ⟨rfl, rfl⟩
theorem fModel_fits_56 : w_fe w_c228 56 57 (.imul) := ⟨rfl, rfl⟩
theorem fModel_fits_57 : w_fe w_c228 57 58 (.iadd) := ⟨rfl, rfl⟩
theorem fModel_fits_58 : w_fe w_c228 58 59 (.bipush 1) := ⟨rfl, rfl⟩
theorem fModel_fits_59 : w_fe w_c228 59 60 (.iadd) := ⟨rfl, rfl⟩
theorem fModel_fits_60 : w_fe w_c228 60 61 (.iaload) := ⟨rfl, rfl⟩
theorem fModel_fits_61 : w_ic w_c228 61 62 .ne 64 := ⟨rfl, rfl⟩
theorem fModel_fits_62 : w_fe w_c228 62 63 (.bipush 1) := ⟨rfl, rfl⟩
theorem fModel_fits_63 : w_gt w_c228 63 65 := rfl
theorem fModel_fits_64 : w_fe w_c228 64 65 (.bipush 0) := ⟨rfl, rfl⟩
theorem fModel_fits_65 : w_fe w_c228 65 66 (.istore 5) := ⟨rfl, rfl⟩
theorem fModel_fits_66 : w_fe w_c228 66 67 (.iinc 6 1) := ⟨rfl, rfl⟩
theorem fModel_fits_67 : w_gt w_c228 67 32 := rfl
theorem fModel_fits_68 : w_fe w_c228 68 69 (.iload 2) := ⟨rfl, rfl⟩
theorem fModel_fits_69 : w_fe w_c228 69 70 (.iload 5) := ⟨rfl, rfl⟩
theorem fModel_fits_70 : w_fe w_c228 70 71 (.invokestatic 179) := ⟨rfl, rfl⟩
theorem fModel_fits_71 : w_fe w_c228 71 72 (.iadd) := ⟨rfl, rfl⟩
theorem fModel_fits_72 : w_fe w_c228 72 73 (.istore 2) := ⟨rfl, rfl⟩
theorem fModel_fits_73 : w_fe w_c228 73 74 (.iload 3) := ⟨rfl, rfl⟩
theorem fModel_fits_74 : w_fe w_c228 74 75 (.iload 5) := ⟨rfl, rfl⟩
theorem fModel_fits_75 : w_if w_c228 75 76 .eq 90 := ⟨rfl, rfl⟩
theorem fModel_fits_76 : w_fe w_c228 76 77 (.iload 1) := ⟨rfl, rfl⟩
theorem fModel_fits_77 : w_fe w_c228 77 78 (.bipush 10) := ⟨rfl, rfl⟩
theorem fModel_fits_78 : w_ic w_c228 78 79 .lt 90 := ⟨rfl, rfl⟩
theorem fModel_fits_79 : w_fe w_c228 79 80 (.bipush 1) := ⟨rfl, rfl⟩
theorem fModel_fits_80 : w_fe w_c228 80 81 (.aload 0) := ⟨rfl, rfl⟩
theorem fModel_fits_81 : w_fe w_c228 81 82 (.iload 4) := ⟨rfl, rfl⟩
theorem fModel_fits_82 : w_fe w_c228 82 83 (.iload 1) := ⟨rfl, rfl⟩
theorem fModel_fits_83 : w_fe w_c228 83 84 (.bipush 10) := ⟨rfl, rfl⟩
theorem fModel_fits_84 : w_fe w_c228 84 85 (.isub) := ⟨rfl, rfl⟩
theorem fModel_fits_85 : w_fe w_c228 85 86 (.aload 0) := ⟨rfl, rfl⟩
theorem fModel_fits_86 : w_fe w_c228 86 87 (.getfield 904) := ⟨rfl, rfl⟩
theorem fModel_fits_87 : w_fe w_c228 87 88 (.invokestatic 209) := ⟨rfl, rfl⟩
theorem fModel_fits_88 : w_fe w_c228 88 89 (.ishl) := ⟨rfl, rfl⟩
theorem fModel_fits_89 : w_gt w_c228 89 91 := rfl
theorem fModel_fits_90 : w_fe w_c228 90 91 (.bipush 0) := ⟨rfl, rfl⟩
theorem fModel_fits_91 : w_fe w_c228 91 92 (.ior) := ⟨rfl, rfl⟩
theorem fModel_fits_92 : w_fe w_c228 92 93 (.istore 3) := ⟨rfl, rfl⟩
theorem fModel_fits_93 : w_fe w_c228 93 94 (.iinc 4 1) := ⟨rfl, rfl⟩
theorem fModel_fits_94 : w_gt w_c228 94 16 := rfl
theorem fModel_fits_95 : w_fe w_c228 95 96 (.iload 1) := ⟨rfl, rfl⟩
theorem fModel_fits_96 : w_if w_c228 96 97 .ne 99 := ⟨rfl, rfl⟩
theorem fModel_fits_97 : w_fe w_c228 97 98 (.iload 2) := ⟨rfl, rfl⟩
theorem fModel_fits_98 : w_gt w_c228 98 100 := rfl
theorem fModel_fits_99 : w_fe w_c228 99 100 (.iload 3) := ⟨rfl, rfl⟩
theorem fModel_fits_100 : w_fe w_c228 100 101 (.ireturn) := ⟨rfl, rfl⟩
noncomputable def LModel_fits_16 (xs : List Int) (d : Nat) (Q : Option w_V → w_M → Prop) (v1 : Int) (v2 : Int) (v3 : Int) (v4 : Int) (σ : w_M) : Prop := ∀ l5, w_nl l5 → ∀ l6, w_nl l6 → w_Ex (xs, d) 1 w_c228 Q 16 [some (.inr (.inr (9, 122))), some (.inl v1), some (.inl v2), some (.inl v3), some (.inl v4), l5, l6] [] σ
noncomputable def LModel_fits_32 (xs : List Int) (d : Nat) (Q : Option w_V → w_M → Prop) (v1 : Int) (v2 : Int) (v3 : Int) (v4 : Int) (v5 : Int) (v6 : Int) (σ : w_M) : Prop := w_Ex (xs, d) 1 w_c228 Q 32 [some (.inr (.inr (9, 122))), some (.inl v1), some (.inl v2), some (.inl v3), some (.inl v4), some (.inl v5), some (.inl v6)] [] σ
set_option maxRecDepth 20000 in
theorem bModel_fits_0 {xs : List Int} {d : Nat} {Q : Option w_V → w_M → Prop} {x1 : Int} {σ : w_M}
    (h : (x1 = 0 → LModel_fits_16 xs (d + 6) Q x1 0 0 0 σ) ∧ (¬ x1 = 0 → (p_Model_isReaper (w_wr (x1 - 10)) σ ∧ (((0 ≤ (w_wr (x1 - 10)) ∧ (w_wr (x1 - 10)) < σ 122 5) → LModel_fits_16 xs (d + 6) Q x1 0 0 0 σ) ∧ (¬ (0 ≤ (w_wr (x1 - 10)) ∧ (w_wr (x1 - 10)) < σ 122 5) → Q (some (.inl (-1))) σ))))) : w_Call (xs, (d + 6)) 228 [.inr (.inr (9, 122)), .inl x1] σ Q :=
  (w_mk (mid := 228) (by decide) rfl rfl rfl rfl rfl (Nat.le_of_ble_eq_true rfl) ⟨rfl, Or.inl (by decide)⟩ (wi_iload1 fModel_fits_0 (wi_if_eq fModel_fits_1 (fun c2 => (wi_bipush fModel_fits_10 (wi_istore2 fModel_fits_11 trivial (wi_bipush fModel_fits_12 (wi_istore3 fModel_fits_13 trivial (wi_bipush fModel_fits_14 (wi_istore4 fModel_fits_15 trivial ((h.1 c2) _ (by exact trivial) _ (by exact trivial))))))))) (fun c2 => (wi_aload0 fModel_fits_2 (wi_iload1 fModel_fits_3 (wi_bipush fModel_fits_4 (wi_fsub fModel_fits_5 (wi_call2 fModel_fits_6 (Nat.le_of_ble_eq_true rfl) (k_Model_isReaper (h.2 c2).1 (wi_ifb_ne fModel_fits_7 (fun c1 => (wi_bipush fModel_fits_10 (wi_istore2 fModel_fits_11 trivial (wi_bipush fModel_fits_12 (wi_istore3 fModel_fits_13 trivial (wi_bipush fModel_fits_14 (wi_istore4 fModel_fits_15 trivial (((h.2 c2).2.1 c1) _ (by exact trivial) _ (by exact trivial))))))))) (fun c1 => (wi_bipush fModel_fits_8 (wi_ret1 fModel_fits_9 ((h.2 c2).2.2 c1)))))))))))))))
set_option maxRecDepth 20000 in
theorem bModel_fits_16 {xs : List Int} {d : Nat} {Q : Option w_V → w_M → Prop} {v1 : Int} {v2 : Int} {v3 : Int} {v4 : Int} {σ : w_M}
    (h : p_Model_rowsOf (σ 122 4) σ ∧ (∀ (y1 : Int), y1 = v_Model_rowsOf (σ 122 4) σ → ((y1 ≤ v4 → ((¬ v1 = 0 → Q (some (.inl v3)) σ) ∧ (v1 = 0 → Q (some (.inl v2)) σ))) ∧ (v4 < y1 → (p_Model_begins v4 σ ∧ (∀ (τ3 : w_M), q_Model_begins v4 σ τ3 → (p_Model_goesTo 12 τ3 ∧ (∀ (τ4 : w_M), q_Model_goesTo 12 τ3 τ4 → LModel_fits_32 xs (d + 6) Q v1 v2 v3 v4 1 0 τ4)))))))) : LModel_fits_16 xs (d + 6) Q v1 v2 v3 v4 σ :=
  fun l5 nl5 => fun l6 nl6 => (wi_iload4 fModel_fits_16 (wi_aload0 fModel_fits_17 (wi_aload0 fModel_fits_18 (wi_getf904 fModel_fits_19 (wi_call2 fModel_fits_20 (Nat.le_of_ble_eq_true rfl) (k_Model_rowsOf h.1 (wi_ic_ge fModel_fits_21 (fun c5 => (wi_iload1 fModel_fits_95 (wi_if_ne fModel_fits_96 (fun c2 => (wi_iload3 fModel_fits_99 (wi_ret1 fModel_fits_100 (((h.2 _ rfl).1 c5).1 c2)))) (fun c2 => (wi_iload2 fModel_fits_97 (wi_goto fModel_fits_98 (wi_ret1 fModel_fits_100 (((h.2 _ rfl).1 c5).2 c2)))))))) (fun c5 => (wi_aload0 fModel_fits_22 (wi_iload4 fModel_fits_23 (wi_call2 fModel_fits_24 (Nat.le_of_ble_eq_true rfl) (k_Model_begins ((h.2 _ rfl).2 c5).1 (fun τ3 eτ3 => (wi_aload0 fModel_fits_25 (wi_bipush fModel_fits_26 (wi_call2 fModel_fits_27 (Nat.le_of_ble_eq_true rfl) (k_Model_goesTo (((h.2 _ rfl).2 c5).2 τ3 eτ3).1 (fun τ4 eτ4 => (wi_bipush fModel_fits_28 (wi_istore5 fModel_fits_29 trivial (wi_bipush fModel_fits_30 (wi_istore6 fModel_fits_31 trivial ((((h.2 _ rfl).2 c5).2 τ3 eτ3).2 τ4 eτ4)))))))))))))))))))))))
set_option maxRecDepth 20000 in
theorem bModel_fits_32 {xs : List Int} {d : Nat} {Q : Option w_V → w_M → Prop} {v1 : Int} {v2 : Int} {v3 : Int} {v4 : Int} {v5 : Int} {v6 : Int} {σ : w_M}
    (h : ((σ 123 73) ≤ v6 → ∀ (y1 : Int), y1 = v_Model_flag v5 → (w_in (v2 + y1) ∧ (∀ (y2 : Int), y2 = (v2 + y1) → ((v5 = 0 → ∀ (y3 : Int), y3 = (w_or v3 0) → (w_in (v4 + 1) ∧ LModel_fits_16 xs (d + 6) Q v1 y2 y3 (v4 + 1) σ)) ∧ (¬ v5 = 0 → ((v1 < 10 → ∀ (y4 : Int), y4 = (w_or v3 0) → (w_in (v4 + 1) ∧ LModel_fits_16 xs (d + 6) Q v1 y2 y4 (v4 + 1) σ)) ∧ (10 ≤ v1 → (w_in (v1 - 10) ∧ p_Model_toldBy v4 (v1 - 10) (σ 122 4) σ ∧ (∀ (y5 : Int), y5 = v_Model_toldBy v4 (v1 - 10) (σ 122 4) σ → ∀ (y6 : Int), y6 = (w_or v3 (w_shl 1 y5)) → (w_in (v4 + 1) ∧ LModel_fits_16 xs (d + 6) Q v1 y2 y6 (v4 + 1) σ)))))))))) ∧ (v6 < (σ 123 73) → ((v5 = 0 → (w_in (v6 + 1) ∧ LModel_fits_32 xs (d + 6) Q v1 v2 v3 v4 0 (v6 + 1) σ)) ∧ (¬ v5 = 0 → (w_in (2 * v6) ∧ w_in (74 + (2 * v6)) ∧ 0 ≤ (74 + (2 * v6)) ∧ (74 + (2 * v6)) < 246 ∧ p_Model_of (σ 123 (74 + (2 * v6)).toNat) 4 σ ∧ w_in ((74 + (2 * v6)) + 1) ∧ 0 ≤ ((74 + (2 * v6)) + 1) ∧ ((74 + (2 * v6)) + 1) < 246 ∧ ((¬ (σ 124 (21 + 5 * (σ 123 (74 + (2 * v6)).toNat) + 4).toNat) = (σ 123 ((74 + (2 * v6)) + 1).toNat) → (w_in (v6 + 1) ∧ LModel_fits_32 xs (d + 6) Q v1 v2 v3 v4 0 (v6 + 1) σ)) ∧ ((σ 124 (21 + 5 * (σ 123 (74 + (2 * v6)).toNat) + 4).toNat) = (σ 123 ((74 + (2 * v6)) + 1).toNat) → (w_in (v6 + 1) ∧ LModel_fits_32 xs (d + 6) Q v1 v2 v3 v4 1 (v6 + 1) σ)))))))) : LModel_fits_32 xs (d + 6) Q v1 v2 v3 v4 v5 v6 σ :=
  (wi_iload6 fModel_fits_32 (wi_aload0 fModel_fits_33 (wi_getf900 fModel_fits_34 (wi_bipush fModel_fits_35 (wi_iald1246 fModel_fits_36 (by decide) (by decide) (wi_ic_ge fModel_fits_37 (fun c11 => (wi_iload2 fModel_fits_68 (wi_iload5 fModel_fits_69 (wi_call1 fModel_fits_70 (Nat.le_of_ble_eq_true rfl) (k_Model_flag (wi_iadd fModel_fits_71 ((h.1 c11) _ rfl).1 (wi_istore2 fModel_fits_72 trivial (wi_iload3 fModel_fits_73 (wi_iload5 fModel_fits_74 (wi_if_eq fModel_fits_75 (fun c8 => (wi_bipush fModel_fits_90 (wi_ior fModel_fits_91 (wi_istore3 fModel_fits_92 trivial (wi_iinc4 fModel_fits_93 trivial (((((h.1 c11) _ rfl).2 _ rfl).1 c8) _ rfl).1 (wi_goto fModel_fits_94 ((((((h.1 c11) _ rfl).2 _ rfl).1 c8) _ rfl).2 _ (by exact trivial) _ (by exact trivial)))))))) (fun c8 => (wi_iload1 fModel_fits_76 (wi_bipush fModel_fits_77 (wi_ic_lt fModel_fits_78 (fun c7 => (wi_bipush fModel_fits_90 (wi_ior fModel_fits_91 (wi_istore3 fModel_fits_92 trivial (wi_iinc4 fModel_fits_93 trivial ((((((h.1 c11) _ rfl).2 _ rfl).2 c8).1 c7) _ rfl).1 (wi_goto fModel_fits_94 (((((((h.1 c11) _ rfl).2 _ rfl).2 c8).1 c7) _ rfl).2 _ (by exact trivial) _ (by exact trivial)))))))) (fun c7 => (wi_bipush fModel_fits_79 (wi_aload0 fModel_fits_80 (wi_iload4 fModel_fits_81 (wi_iload1 fModel_fits_82 (wi_bipush fModel_fits_83 (wi_isub fModel_fits_84 (((((h.1 c11) _ rfl).2 _ rfl).2 c8).2 c7).1 (wi_aload0 fModel_fits_85 (wi_getf904 fModel_fits_86 (wi_call4 fModel_fits_87 (Nat.le_of_ble_eq_true rfl) (k_Model_toldBy (((((h.1 c11) _ rfl).2 _ rfl).2 c8).2 c7).2.1 (wi_ishl fModel_fits_88 (wi_goto fModel_fits_89 (wi_ior fModel_fits_91 (wi_istore3 fModel_fits_92 trivial (wi_iinc4 fModel_fits_93 trivial (((((((h.1 c11) _ rfl).2 _ rfl).2 c8).2 c7).2.2 _ rfl) _ rfl).1 (wi_goto fModel_fits_94 ((((((((h.1 c11) _ rfl).2 _ rfl).2 c8).2 c7).2.2 _ rfl) _ rfl).2 _ (by exact trivial) _ (by exact trivial))))))))))))))))))))))))))))))))) (fun c11 => (wi_iload5 fModel_fits_38 (wi_if_eq fModel_fits_39 (fun c10 => (wi_bipush fModel_fits_64 (wi_istore5 fModel_fits_65 trivial (wi_iinc6 fModel_fits_66 trivial ((h.2 c11).1 c10).1 (wi_goto fModel_fits_67 ((h.2 c11).1 c10).2))))) (fun c10 => (wi_aload0 fModel_fits_40 (wi_aload0 fModel_fits_41 (wi_getf900 fModel_fits_42 (wi_bipush fModel_fits_43 (wi_bipush fModel_fits_44 (wi_iload6 fModel_fits_45 (wi_imul fModel_fits_46 ((h.2 c11).2 c10).1 (wi_iadd fModel_fits_47 ((h.2 c11).2 c10).2.1 (wi_iald1246 fModel_fits_48 ((h.2 c11).2 c10).2.2.1 ((h.2 c11).2 c10).2.2.2.1 (wi_bipush fModel_fits_49 (wi_call3 fModel_fits_50 (Nat.le_of_ble_eq_true rfl) (k_Model_of ((h.2 c11).2 c10).2.2.2.2.1 (wi_aload0 fModel_fits_51 (wi_getf900 fModel_fits_52 (wi_bipush fModel_fits_53 (wi_bipush fModel_fits_54 (wi_iload6 fModel_fits_55 (wi_imul fModel_fits_56 ((h.2 c11).2 c10).1 (wi_iadd fModel_fits_57 ((h.2 c11).2 c10).2.1 (wi_bipush fModel_fits_58 (wi_iadd fModel_fits_59 ((h.2 c11).2 c10).2.2.2.2.2.1 (wi_iald1246 fModel_fits_60 ((h.2 c11).2 c10).2.2.2.2.2.2.1 ((h.2 c11).2 c10).2.2.2.2.2.2.2.1 (wi_ic_ne fModel_fits_61 (fun c9 => (wi_bipush fModel_fits_64 (wi_istore5 fModel_fits_65 trivial (wi_iinc6 fModel_fits_66 trivial (((h.2 c11).2 c10).2.2.2.2.2.2.2.2.1 c9).1 (wi_goto fModel_fits_67 (((h.2 c11).2 c10).2.2.2.2.2.2.2.2.1 c9).2))))) (fun c9 => (wi_bipush fModel_fits_62 (wi_goto fModel_fits_63 (wi_istore5 fModel_fits_65 trivial (wi_iinc6 fModel_fits_66 trivial (((h.2 c11).2 c10).2.2.2.2.2.2.2.2.2 c9).1 (wi_goto fModel_fits_67 (((h.2 c11).2 c10).2.2.2.2.2.2.2.2.2 c9).2)))))))))))))))))))))))))))))))))))))))
set_option maxHeartbeats 2000000 in
theorem k_Model_fits {xs : List Int} {d : Nat} {Q : Option w_V → w_M → Prop} {x1 : Int} {σ : w_M} (hp : p_Model_fits x1 σ) (hQ : ∀ (x : Int) (σ' : w_M), q_Model_fits x1 σ x σ' → Q (some (.inl x)) σ') : w_Call (xs, d + 6) 228 [.inr (.inr (9, 122)), .inl x1] σ Q := by
  refine w_Call_as (fun has => ?_)
  have hx : w_in x1 := has (.inl x1) (by simp)
  have hM : MI σ := hp
  have hok := hM.ok
  have hs := hM.s
  have hn := hM.n
  have hpa : paWF (w_am σ 123 0) (c_am σ 0) := hM.2.2.1
  have hs1 := n_s_pos hok
  unfold q_Model_fits F_fits ft_r at hQ
  have e5 : mS σ 0 0 5 = σ 122 5 := rfl
  have eA : mS σ 0 = w_am σ 123 0 := rfl
  have eC : mS σ 2 = c_am σ 0 := rfl
  rw [e5, eA, eC] at hQ
  have en : n_n (w_am σ 123 0) = (σ 122 5).toNat := rfl
  have es : n_s (w_am σ 123 0) = (σ 122 4).toNat := rfl
  have main : x1 = 0 ∨ (10 ≤ x1 ∧ x1 - 10 < σ 122 5) → LModel_fits_16 xs (d + 6) Q x1 0 0 0 σ := by
    intro hw
    have hW : n_WF (w_am σ 123 0) := hok
    generalize hA : w_am σ 123 0 = A at *
    generalize hCc : c_am σ 0 = C at *
    have hB7 : n_s A ≤ 7 := by omega
    have hn4 : n_n A ≤ 4 := by omega
    have p7 := pow7 hB7 hn4
    refine (w_loop (n := n_s A ^ n_n A) (P := fun k => ∀ (τ : w_M) (v3 : Int), w_f1 σ τ 124 → ((x1 = 0 ∧ v3 = 0) ∨ (10 ≤ x1 ∧ v3 = ft_m A C (x1 - 10).toNat k)) → LModel_fits_16 xs (d + 6) Q x1 (ft_n A C k) v3 (k : Int) τ) ?_ ?_) σ 0 w_f1.rfl' ?_
    · intro τ v3 F h3
      have z2 : τ 122 = σ 122 := F 122 (by decide)
      refine bModel_fits_16 ⟨⟨by rw [z2]; omega, by rw [z2]; exact hn⟩, fun y ey => ?_⟩
      unfold v_Model_rowsOf at ey
      rw [z2, ← es, ← en] at ey
      refine ⟨fun _ => ⟨fun c => ?_, fun c => ?_⟩, fun h => by omega⟩
      · rw [if_neg c, if_pos (by omega)] at hQ
        exact hQ _ _ (m_qs hM F (by omega))
      · rw [if_pos c] at hQ
        exact hQ _ _ (m_qs hM F rfl)
    · intro k hk ih τ v3 F h3
      have z2 : τ 122 = σ 122 := F 122 (by decide)
      have z3 : τ 123 = σ 123 := F 123 (by decide)
      have hfn := ft_n_le (A := A) (C := C) k
      have v3in : w_in v3 := by
        rcases h3 with ⟨-, h⟩ | ⟨-, h⟩
        · rw [h]; exact w_in0
        · rw [h]; exact ft_m_in k
      refine bModel_fits_16 ⟨⟨by rw [z2]; omega, by rw [z2]; exact hn⟩, fun y ey => ?_⟩
      unfold v_Model_rowsOf at ey
      rw [z2, ← es, ← en] at ey
      refine ⟨fun h => by omega, fun _ => ⟨⟨⟨by unfold m_sm; rw [z2]; exact hM.sm, by omega, by omega⟩, by rw [z2]; exact hs, by rw [z2]; exact hn, by rw [z2]; omega⟩, fun τ3 hq3 => ?_⟩⟩
      obtain ⟨a3, F3⟩ := hq3
      have eA2 : w_am τ 123 0 = A := by rw [← hA]; exact w_am_fr (by rw [z2]; exact ⟨rfl, rfl, rfl⟩) z3
      rw [eA2, Int.toNat_natCast] at a3
      have W3 : n_WF (n_row A k) := n_row_WF hW hs1 k
      refine ⟨⟨by unfold m_ok; rw [a3]; exact W3, by decide⟩, fun τ4 hq4 => ?_⟩
      obtain ⟨a4, F4⟩ := hq4
      rw [a3] at a4
      have F4' : w_f1 σ τ4 124 := (F.tr F3).tr F4.1
      have z42 : τ4 122 = σ 122 := F4' 122 (by decide)
      have z43 : τ4 123 = σ 123 := F4' 123 (by decide)
      have eC0 : C 0 0 = σ 123 73 := by rw [← hCc]; rfl
      have hc4 : 0 ≤ σ 123 73 ∧ σ 123 73 ≤ 4 := hM.pa
      have rd : ∀ q : Nat, q < (σ 123 73).toNat → C 1 q = σ 123 (74 + 2 * q) ∧ C 2 q = σ 123 (74 + 2 * q + 1) ∧ (0 ≤ C 1 q ∧ C 1 q < σ 122 5) := fun q hq => by
        have w := (hpa.2 q (by rw [eC0]; exact hq)).1
        refine ⟨?_, ?_, ?_⟩
        · rw [← hCc]; unfold c_am; rw [if_neg (by decide), if_pos (by decide), if_pos hq, show 0 + 74 + 2 * q + (1 - 1) = 74 + 2 * q by omega]
        · rw [← hCc]; unfold c_am; rw [if_neg (by decide), if_pos (by decide), if_pos hq]
        · have e5' : A 0 5 = σ 122 5 := by rw [← hA]; rfl
          rw [e5'] at w
          exact w
      refine (w_loop (n := (σ 123 73).toNat) (P := fun q => ∀ b : Int, (b = 1 ∧ (∀ p, p < q → (n_goes (n_row A k) 12) 7 (C 1 p).toNat = C 2 p)) ∨ (b = 0 ∧ ¬ (∀ p, p < q → (n_goes (n_row A k) 12) 7 (C 1 p).toNat = C 2 p)) → LModel_fits_32 xs (d + 6) Q x1 (ft_n A C k) v3 (k : Int) b (q : Int) τ4) ?_ ?_) 1 (Or.inl ⟨rfl, fun p hp => by omega⟩)
      · intro b hb
        have okI : (∀ p, p < (σ 123 73).toNat → (n_goes (n_row A k) 12) 7 (C 1 p).toNat = C 2 p) ↔ ft_ok A C k := by
          unfold ft_ok
          rw [eC0]
        rw [okI] at hb
        refine bModel_fits_32 ⟨fun _ => fun y1 e1 => ⟨?_, fun y2 e2 => ⟨fun c y3 e3 => ⟨⟨by omega, by omega⟩, ?_⟩, fun c => ⟨fun c2 y4 e4 => ⟨⟨by omega, by omega⟩, ?_⟩, fun c2 => ⟨⟨by omega, by omega⟩, ?_⟩⟩⟩⟩, fun h => by rw [z43] at h; omega⟩
        · have : y1 = 0 ∨ y1 = 1 := by rw [e1]; unfold v_Model_flag; split <;> simp
          exact ⟨by omega, by omega⟩
        · have nok : ¬ ft_ok A C k := by rcases hb with ⟨h, -⟩ | ⟨-, h⟩ <;> first | omega | exact h
          have y0 : y1 = 0 := by rw [e1]; unfold v_Model_flag; rw [if_pos c]
          have e2' : ft_n A C (k + 1) = y2 := by rw [ft_n_f nok]; omega
          rw [← e2', e3, w_or0 v3in, ← w_cs1]
          refine ih τ4 v3 F4' ?_
          rw [ft_m_f nok]
          exact h3
        · have yok : ft_ok A C k := by rcases hb with ⟨-, h⟩ | ⟨h, -⟩ <;> first | exact h | omega
          have y1' : y1 = 1 := by rw [e1]; unfold v_Model_flag; rw [if_neg c]
          have e2' : ft_n A C (k + 1) = y2 := by rw [ft_n_t yok]; omega
          rw [← e2', e4, w_or0 v3in, ← w_cs1]
          refine ih τ4 v3 F4' ?_
          rcases h3 with h | h
          · exact Or.inl h
          · omega
        · have yok : ft_ok A C k := by rcases hb with ⟨-, h⟩ | ⟨h, -⟩ <;> first | exact h | omega
          have y1' : y1 = 1 := by rw [e1]; unfold v_Model_flag; rw [if_neg c]
          have e2' : ft_n A C (k + 1) = y2 := by rw [ft_n_t yok]; omega
          refine ⟨⟨by omega, by rw [z42]; omega, by rw [z42]; omega, by rw [z42]; omega⟩, fun y5 e5' y6 e6 => ⟨⟨by omega, by omega⟩, ?_⟩⟩
          unfold v_Model_toldBy at e5'
          rw [z42, Int.toNat_natCast, ← es, ← en] at e5'
          rw [← e2', ← w_cs1]
          refine ih τ4 y6 F4' (Or.inr ⟨c2, ?_⟩)
          rcases h3 with h | h
          · omega
          · rw [ft_m_t yok, e6, h.2, e5']
      · intro q hq ih2 b hb
        obtain ⟨r1, r2, r3⟩ := rd q hq
        have no : ¬ (∀ p, p < q + 1 → (n_goes (n_row A k) 12) 7 (C 1 p).toNat = C 2 p) → LModel_fits_32 xs (d + 6) Q x1 (ft_n A C k) v3 (k : Int) 0 ((q : Int) + 1) τ4 := fun h => by
          rw [← w_cs1]
          exact ih2 0 (Or.inr ⟨rfl, h⟩)
        refine bModel_fits_32 ⟨fun h => by rw [z43] at h; omega, fun _ => ⟨fun c => ⟨⟨by omega, by omega⟩, no ?_⟩, fun c => ?_⟩⟩
        · rcases hb with ⟨h, -⟩ | ⟨-, h⟩
          · omega
          · exact fun z => h (fun p hp => z p (by omega))
        · have hall : ∀ p, p < q → (n_goes (n_row A k) 12) 7 (C 1 p).toNat = C 2 p := by rcases hb with ⟨-, h⟩ | ⟨h, -⟩ <;> first | exact h | omega
          have i1 : (74 + 2 * (q : Int)).toNat = 74 + 2 * q := by omega
          have i2 : (74 + 2 * (q : Int) + 1).toNat = 74 + 2 * q + 1 := by omega
          rw [i1, i2, z43, ← r1, ← r2]
          have ew : τ4 124 (21 + 5 * C 1 q + 4).toNat = (n_goes (n_row A k) 12) 7 (C 1 q).toNat := by
            rw [show (12 : Nat) = (12 : Int).toNat from rfl, ← a4]
            exact m_rdr (by decide) (by decide) (by rw [z42]; exact r3) (by show _ = 25 + 5 * (C 1 q).toNat; omega)
          rw [ew]
          refine ⟨⟨by omega, by omega⟩, ⟨by omega, by omega⟩, by omega, by omega, ⟨by omega, by decide⟩, ⟨by omega, by omega⟩, by omega, by omega, fun c2 => ⟨⟨by omega, by omega⟩, no (fun z => c2 (z q (by omega)))⟩, fun c2 => ⟨⟨by omega, by omega⟩, ?_⟩⟩
          rw [← w_cs1]
          refine ih2 1 (Or.inl ⟨rfl, fun p hp => ?_⟩)
          by_cases e : p = q
          · rw [e]; exact c2
          · exact hall p (by omega)
    · by_cases h : x1 = 0
      · exact Or.inl ⟨h, rfl⟩
      · exact Or.inr ⟨by omega, rfl⟩
  have hi := w_wr10 hx hn
  refine bModel_fits_0 ⟨fun c => main (Or.inl c), fun c => ⟨hn, fun c2 => main (Or.inr (hi.mp c2)), fun c2 => ?_⟩⟩
  rw [if_neg c, if_neg (fun q => c2 (hi.mpr q))] at hQ
  exact hQ _ _ (m_qr hM rfl)
end
section
/-! Where all are to begin: how much can be cut at the most, pure -/
noncomputable def ct_b (e o c : Int) : Int := if e = 0 then 0 else if c = 0 ∨ 0 < o then 1 else 0
noncomputable def ct_e (e o c : Int) : Int := if e = 0 then 3 else if c = 0 ∨ 0 < o then e - 1 else e
noncomputable def ct_o (e o c : Int) : Int := if e = 0 then o else if c = 0 ∨ 0 < o then o - c else o
theorem ct_b01 (e o c : Int) : ct_b e o c = 0 ∨ ct_b e o c = 1 := by
  unfold ct_b
  split
  · exact Or.inl rfl
  · split
    · exact Or.inr rfl
    · exact Or.inl rfl
theorem n_cutF_s {A : w_M} {r : Nat} {o : Int} {k : Nat} : n_cutF A r o (k + 1) = (ct_e (n_cutF A r o k).1 (n_cutF A r o k).2.1 (n_cl A (A 0 1 + k)), ct_o (n_cutF A r o k).1 (n_cutF A r o k).2.1 (n_cl A (A 0 1 + k)), (n_cutF A r o k).2.2 + ct_b (n_cutF A r o k).1 (n_cutF A r o k).2.1 (n_cl A (A 0 1 + k))) := by
  simp only [n_cutF]
  unfold ct_e ct_o ct_b
  by_cases h1 : (n_cutF A r o k).1 = 0
  · simp only [if_pos h1, Int.add_zero]
  · by_cases h2 : n_cl A (A 0 1 + k) = 0 ∨ 0 < (n_cutF A r o k).2.1
    · simp only [if_neg h1, if_pos h2]
    · simp only [if_neg h1, if_neg h2, Int.add_zero]
theorem n_work_cut {B : w_M} (h : n_WF B) {r : Nat} (hr : r < n_n B) {c : Int} (hc : c = 0 ∨ c = 1) :
    n_sd B - n_sd (n_work B r c) + n_lost B r c ≤ B 3 r * ct_b (B 5 r) (B 4 r) c ∧
    (∀ q, q ≠ r → (n_work B r c) 5 q = B 5 q ∧ (n_work B r c) 4 q = B 4 q) ∧
    (0 < n_sd (n_work B r c) → (n_work B r c) 5 r = ct_e (B 5 r) (B 4 r) c ∧ (n_work B r c) 4 r = ct_o (B 5 r) (B 4 r) c) := by
  have hR := h.r hr
  have hs := h.s
  have hsn : n_s B ≤ 1000 := by unfold n_s; omega
  rcases n_near_cases (A := B) (f := B 6 r) (by omega) hsn with ⟨h1, h2⟩ | ⟨i, h1, h2, h3⟩
  · have hz : n_sd B = 0 := by
      have : 0 ≤ n_sd B := (n_sd_le h).1
      by_cases hp : 0 < n_sd B
      · obtain ⟨j, hj, hy⟩ := f_sum_pos (f := B 1) (fun i hi => (h.i hi).1.1) hp
        exact absurd hy (h2 j hj)
      · omega
    unfold n_work n_lost
    rw [if_pos h1, if_pos h1]
    refine ⟨?_, fun q _ => ⟨rfl, rfl⟩, fun hp => by omega⟩
    have := ct_b01 (B 5 r) (B 4 r) c
    rcases this with e | e <;> rw [e] <;> omega
  · have hne : ¬ n_near B (B 6 r) = -4 := by omega
    unfold n_work n_lost ct_b ct_e ct_o
    rw [if_neg hne, if_neg hne]
    by_cases h5 : B 5 r = 0
    · rw [if_pos h5, if_pos h5, if_pos h5, if_pos h5, if_pos h5]
      refine ⟨?_, fun q hq => ⟨?_, ?_⟩, fun _ => ⟨w_up_at, ?_⟩⟩
      · rw [n_sd_up (by decide) (by omega), n_sd_up (by decide) (by omega)]; omega
      · rw [w_up_j hq, w_up_ne (by decide)]
      · rw [w_up_ne (by decide), w_up_ne (by decide)]
      · rw [w_up_ne (by decide), w_up_ne (by decide)]
    · rw [if_neg h5, if_neg h5, if_neg h5, if_neg h5, if_neg h5]
      by_cases ho : c = 0 ∨ 0 < B 4 r
      · rw [if_pos ho, if_pos ho, if_pos ho, if_pos ho, if_pos ho]
        have en : (n_near B (B 6 r)).toNat = i := by rw [h2]; exact Int.toNat_natCast i
        rw [en]
        generalize hD : w_up (w_up (w_up B 6 r (n_near B (B 6 r))) 5 r (B 5 r - 1)) 4 r (B 4 r - c) = D
        have y4 : n_sd D = n_sd B := by rw [← hD, n_sd_up (by decide) (by omega), n_sd_up (by decide) (by omega), n_sd_up (by decide) (by omega)]
        have s4 : n_s D = n_s B := by
          rw [← hD]
          unfold n_s
          rw [w_up_ne (by decide), w_up_ne (by decide), w_up_ne (by decide)]
        have a4 : n_amt D r i = n_amt B r i := n_amt_congr (by rw [← hD, w_up_ne (by decide), w_up_ne (by decide), w_up_ne (by decide)]) (by rw [← hD, w_up_ne (by decide), w_up_ne (by decide), w_up_ne (by decide)]) (by rw [← hD, w_up_ne (by decide), w_up_ne (by decide), w_up_ne (by decide)])
        have c5 : (n_cut D r i) 5 = D 5 := by unfold n_cut; rw [w_up_ne (by decide), w_up_ne (by decide), w_up_ne (by decide), w_up_ne (by decide)]
        have c4 : (n_cut D r i) 4 = D 4 := by unfold n_cut; rw [w_up_ne (by decide), w_up_ne (by decide), w_up_ne (by decide), w_up_ne (by decide)]
        have am := n_amt_le h hr h1
        refine ⟨?_, fun q hq => ⟨?_, ?_⟩, fun _ => ⟨?_, ?_⟩⟩
        · rw [n_cut_sd (by rw [s4]; exact h1), y4, a4]
          omega
        · rw [c5, ← hD, w_up_ne (by decide), w_up_j hq, w_up_ne (by decide)]
        · rw [c4, ← hD, w_up_j hq, w_up_ne (by decide), w_up_ne (by decide)]
        · rw [c5, ← hD, w_up_ne (by decide), w_up_at]
        · rw [c4, ← hD, w_up_at]
      · rw [if_neg ho, if_neg ho, if_neg ho, if_neg ho, if_neg ho]
        refine ⟨?_, fun q hq => ⟨?_, ?_⟩, fun _ => ⟨?_, ?_⟩⟩
        · rw [n_sd_up (by decide) (by omega)]; omega
        · rw [w_up_ne (by decide)]
        · rw [w_up_ne (by decide)]
        · rw [w_up_ne (by decide)]
        · rw [w_up_ne (by decide)]
theorem n_hourF_cut {B : w_M} (h : n_WF B) {c : Int} (hc : c = 0 ∨ c = 1) : ∀ m : Nat, m ≤ n_n B →
    n_sd B - n_sd (n_hourF B c m) + n_lostF B c m ≤ f_sum (fun r => B 3 r * ct_b (B 5 r) (B 4 r) c) m ∧
    (∀ q, m ≤ q → (n_hourF B c m) 5 q = B 5 q ∧ (n_hourF B c m) 4 q = B 4 q) ∧
    (0 < n_sd (n_hourF B c m) → ∀ r, r < m → (n_hourF B c m) 5 r = ct_e (B 5 r) (B 4 r) c ∧ (n_hourF B c m) 4 r = ct_o (B 5 r) (B 4 r) c) := by
  intro m
  induction m with
  | zero =>
    intro _
    refine ⟨?_, fun q _ => ⟨rfl, rfl⟩, fun _ r hr => by omega⟩
    simp [n_hourF, n_lostF, f_sum]
  | succ m ih =>
    intro hm
    obtain ⟨i1, i2, i3⟩ := ih (by omega)
    obtain ⟨g1, g2, -, -, -⟩ := n_hourF_all h hc m (by omega)
    have hr : m < n_n (n_hourF B c m) := by rw [g2.n]; omega
    obtain ⟨w1, w2, w3⟩ := n_work_cut g1 hr hc
    have wl := (n_work_all g1 hr hc).2.2.2.1
    obtain ⟨e5, e4⟩ := i2 m (Nat.le_refl _)
    rw [e5, e4, g2.2.2.1] at w1
    rw [e5, e4] at w3
    simp only [n_hourF, n_lostF, f_sum]
    refine ⟨by omega, fun q hq => ?_, fun hp r hr2 => ?_⟩
    · obtain ⟨a, b⟩ := w2 q (by omega)
      obtain ⟨a', b'⟩ := i2 q (by omega)
      exact ⟨a.trans a', b.trans b'⟩
    · by_cases e : r = m
      · rw [e]; exact w3 hp
      · obtain ⟨a, b⟩ := w2 r e
        obtain ⟨a', b'⟩ := i3 (by omega) r (by omega)
        exact ⟨a.trans a', b.trans b'⟩
/-- what all can cut in k hours at the most -/
noncomputable def n_rch (A : w_M) (k : Nat) : Int := f_sum (fun r => A 3 r * (n_cutF A r (A 4 r) k).2.2) (n_n A)
theorem f_sum_add {f g : Nat → Int} : ∀ n : Nat, f_sum (fun i => f i + g i) n = f_sum f n + f_sum g n := by
  intro n
  induction n with
  | zero => rfl
  | succ n ih => simp only [f_sum]; rw [ih]; omega
theorem n_rch_s {A : w_M} (k : Nat) : n_rch A (k + 1) = n_rch A k + f_sum (fun r => A 3 r * ct_b (n_cutF A r (A 4 r) k).1 (n_cutF A r (A 4 r) k).2.1 (n_cl A (A 0 1 + k))) (n_n A) := by
  unfold n_rch
  rw [← f_sum_add]
  refine f_sum_congr (fun r _ => ?_)
  rw [n_cutF_s]
  simp only []
  rw [Int.mul_add]
theorem n_rch_mono {A : w_M} (h : n_WF A) {k : Nat} : ∀ j : Nat, n_rch A k ≤ n_rch A (k + j) := by
  intro j
  induction j with
  | zero => exact Int.le_refl _
  | succ j ih =>
    have e : n_rch A (k + (j + 1)) = n_rch A (k + j) + _ := n_rch_s (k + j)
    have : 0 ≤ f_sum (fun r => A 3 r * ct_b (n_cutF A r (A 4 r) (k + j)).1 (n_cutF A r (A 4 r) (k + j)).2.1 (n_cl A (A 0 1 + ((k + j : Nat) : Int)))) (n_n A) := by
      refine (f_sum_le (B := 9) (m := n_n A) (fun r hr => ?_) (Nat.le_refl _)).1
      have h3 := (h.r hr).1
      rcases ct_b01 (n_cutF A r (A 4 r) (k + j)).1 (n_cutF A r (A 4 r) (k + j)).2.1 (n_cl A (A 0 1 + ((k + j : Nat) : Int))) with e | e <;> rw [e] <;> omega
    rw [e]
    omega
theorem n_lostT_mono {A : w_M} (h : n_WF A) {k : Nat} : ∀ j : Nat, A 0 1 + ((k + j : Nat) : Int) ≤ A 0 0 → n_lostT A k ≤ n_lostT A (k + j) := by
  intro j
  induction j with
  | zero => intro _; exact Int.le_refl _
  | succ j ih =>
    intro hj
    have := ih (by omega)
    have G := n_goes_all h (k + j)
    have := (n_hourF_all G.1 (n_cl01 (n_goes A (k + j)) ((n_goes A (k + j)) 0 1)) (n_n (n_goes A (k + j))) (Nat.le_refl _)).2.2.2.2
    have e : n_lostT A (k + (j + 1)) = n_lostT A (k + j) + n_lostF (n_goes A (k + j)) (n_cl (n_goes A (k + j)) ((n_goes A (k + j)) 0 1)) (n_n (n_goes A (k + j))) := rfl
    omega
theorem n_reach {A : w_M} (h : n_WF A) : ∀ k : Nat, A 0 1 + (k : Int) ≤ A 0 0 → (∀ i, i < k → 0 < n_sd (n_goes A i)) →
    n_sd A - n_sd (n_goes A k) + n_lostT A k ≤ n_rch A k ∧ (0 < n_sd (n_goes A k) → ∀ r, r < n_n A → (n_goes A k) 5 r = (n_cutF A r (A 4 r) k).1 ∧ (n_goes A k) 4 r = (n_cutF A r (A 4 r) k).2.1) := by
  intro k
  induction k with
  | zero =>
    intro _ _
    refine ⟨?_, fun _ r _ => ⟨rfl, rfl⟩⟩
    have : 0 ≤ n_rch A 0 := by
      unfold n_rch
      refine (f_sum_le (B := 0) (m := n_n A) (fun r hr => ?_) (Nat.le_refl _)).1
      simp [n_cutF]
    simp only [n_goes, n_lostT]
    omega
  | succ k ih =>
    intro hk hst
    obtain ⟨i1, i2⟩ := ih (by omega) (fun i hi => hst i (by omega))
    have i3 := i2 (hst k (by omega))
    have G := n_goes_all h k
    have e1 : (n_goes A k) 0 1 = A 0 1 + k := by rw [G.2.2.1, if_pos (by omega)]
    have e0 : (n_goes A k) 0 0 = A 0 0 := G.2.1.1 0 (by decide) (by decide)
    have e2 : (n_goes A k) 0 2 = A 0 2 := G.2.1.1 2 (by decide) (by decide)
    have ecl : n_cl (n_goes A k) ((n_goes A k) 0 1) = n_cl A (A 0 1 + k) := by unfold n_cl; rw [e2, e1]
    have en : n_n (n_goes A k) = n_n A := G.2.1.n
    have eg : n_goes A (k + 1) = n_hour (n_goes A k) (n_cl A (A 0 1 + k)) := by
      simp only [n_goes]
      rw [if_pos (by rw [e1, e0]; omega)]
      unfold n_on
      rw [ecl]
    obtain ⟨w1, w2, w3⟩ := n_hourF_cut G.1 (n_cl01 A (A 0 1 + k)) (n_n (n_goes A k)) (Nat.le_refl _)
    have esd : n_sd (n_goes A (k + 1)) = n_sd (n_hourF (n_goes A k) (n_cl A (A 0 1 + k)) (n_n (n_goes A k))) := by rw [eg]; unfold n_hour; rw [n_sd_up (by decide) (by decide)]
    have el : n_lostT A (k + 1) = n_lostT A k + n_lostF (n_goes A k) (n_cl A (A 0 1 + k)) (n_n (n_goes A k)) := by
      simp only [n_lostT]
      rw [ecl]
    have es : f_sum (fun r => (n_goes A k) 3 r * ct_b ((n_goes A k) 5 r) ((n_goes A k) 4 r) (n_cl A (A 0 1 + k))) (n_n (n_goes A k)) = f_sum (fun r => A 3 r * ct_b (n_cutF A r (A 4 r) k).1 (n_cutF A r (A 4 r) k).2.1 (n_cl A (A 0 1 + k))) (n_n A) := by
      rw [en]
      refine f_sum_congr (fun r hr => ?_)
      rw [G.2.1.2.2.1, (i3 r hr).1, (i3 r hr).2]
    rw [es] at w1
    refine ⟨by rw [esd, el, n_rch_s]; omega, fun hp r hr => ?_⟩
    rw [esd] at hp
    have := w3 hp r (by rw [en]; exact hr)
    rw [(i3 r hr).1, (i3 r hr).2] at this
    have r5 : (n_goes A (k + 1)) 5 r = (n_hourF (n_goes A k) (n_cl A (A 0 1 + k)) (n_n (n_goes A k))) 5 r := by rw [eg]; unfold n_hour; rw [w_up_ne (by decide)]
    have r4 : (n_goes A (k + 1)) 4 r = (n_hourF (n_goes A k) (n_cl A (A 0 1 + k)) (n_n (n_goes A k))) 4 r := by rw [eg]; unfold n_hour; rw [w_up_ne (by decide)]
    rw [r5, r4, this.1, this.2, n_cutF_s]
    exact ⟨rfl, rfl⟩
theorem n_done_spec {A : w_M} (h : n_WF A) : (n_done A = -4 ∧ ∀ i, i ≤ n_left A → 0 < n_sd (n_goes A i)) ∨ (n_done A = (n_fin A : Int) ∧ n_fin A ≤ n_left A ∧ n_sd (n_goes A (n_fin A)) = 0 ∧ ∀ i, i < n_fin A → 0 < n_sd (n_goes A i)) := by
  obtain ⟨h1, h2, h3⟩ := n_st_spec A h (n_left A)
  unfold n_done
  by_cases hz : n_sd (n_goes A (n_fin A)) = 0
  · rw [if_pos hz]
    exact Or.inr ⟨rfl, h1, hz, h2⟩
  · rw [if_neg hz]
    refine Or.inl ⟨rfl, fun i hi => ?_⟩
    have h3' : n_fin A = n_left A := h3.resolve_left hz
    have hge := (n_sd_le (n_goes_all h (n_fin A)).1).1
    by_cases hl : i < n_fin A
    · exact h2 i hl
    · have : i = n_fin A := by omega
      rw [this]
      omega
/-- who is done behind m hours can cut that much -/
theorem n_done_reach {A : w_M} (h : n_WF A) {m : Nat} (hd : n_done A = (m : Int)) : n_sd A + n_lostT A m ≤ n_rch A m ∧ m ≤ n_left A := by
  have hrs := h.hrs
  have hr := h.hr
  rcases n_done_spec h with ⟨h1, -⟩ | ⟨h1, h2, h3, h4⟩
  · omega
  · have em : m = n_fin A := by omega
    subst em
    have hl : n_left A = (A 0 0 - A 0 1).toNat := rfl
    have := (n_reach h (n_fin A) (by omega) h4).1
    omega
theorem n_left_lft {A : w_M} (h : n_WF A) {n : Int} (hn : 0 ≤ n) : n_lft A n ≤ n_left A ∧ (n_lft A n : Int) ≤ n ∧ (∀ m : Nat, (m : Int) ≤ n → m ≤ n_left A → m ≤ n_lft A n) := by
  have hr := h.hr
  have hl : n_left A = (A 0 0 - A 0 1).toNat := rfl
  unfold n_lft
  split
  · refine ⟨by omega, by omega, fun m h1 h2 => by omega⟩
  · refine ⟨by omega, by omega, fun m h1 h2 => by omega⟩
/-- what passUntilDone finds where it gives up what can't be done -/
theorem n_pud_cut {A : w_M} (h : n_WF A) {most spare x : Int} {j : Nat} (h0 : 0 ≤ most) (hs : n_rch A (n_lft A most) - n_sd A ≤ spare) (hp : n_pud A most spare x j) : x = if n_done A ≠ -4 ∧ n_done A ≤ most then n_done A else -4 := by
  have hrs := h.hrs
  have hr := h.hr
  have hl : n_left A = (A 0 0 - A 0 1).toNat := rfl
  obtain ⟨p1, p2, p3, p4⟩ := hp
  rcases p4 with ⟨e, hz⟩ | ⟨e, hpos, why⟩
  · have hf := n_fin_of h (j := j) (by omega) p3 (Or.inl hz)
    have hd : n_done A = (j : Int) := by unfold n_done; rw [hf, if_pos hz]
    rw [hd, if_pos ⟨by omega, p1⟩]
    exact e
  · rw [e]
    refine (if_neg ?_).symm
    rintro ⟨d1, d2⟩
    rcases n_done_spec h with ⟨h1, -⟩ | ⟨h1, h2, h3, h4⟩
    · exact d1 h1
    · have hj : j < n_fin A := by
        by_cases hlt : j < n_fin A
        · exact hlt
        · by_cases he : j = n_fin A
          · rw [he] at hpos; omega
          · have := p3 (n_fin A) (by omega); omega
      rcases why with w | w | w
      · omega
      · omega
      · obtain ⟨r1, r2⟩ := n_done_reach h h1
        have l1 := n_lostT_mono h (k := j) (n_fin A - j) (by rw [show j + (n_fin A - j) = n_fin A by omega]; omega)
        rw [show j + (n_fin A - j) = n_fin A by omega] at l1
        have hle := (n_left_lft h h0).2.2 (n_fin A) (by omega) h2
        have m1 := n_rch_mono h (k := n_fin A) (n_lft A most - n_fin A)
        rw [show n_fin A + (n_lft A most - n_fin A) = n_lft A most by omega] at m1
        omega
theorem n_done_cut {A : w_M} (h : n_WF A) {most : Int} (hs : most < 0 ∨ n_rch A (n_lft A most) < n_sd A) : ¬ (n_done A ≠ -4 ∧ n_done A ≤ most) := by
  rintro ⟨d1, d2⟩
  rcases n_done_spec h with ⟨h1, -⟩ | ⟨h1, h2, h3, h4⟩
  · exact d1 h1
  · have h0 : 0 ≤ most := by omega
    rcases hs with w | w
    · omega
    · obtain ⟨r1, r2⟩ := n_done_reach h h1
      have hle := (n_left_lft h h0).2.2 (n_fin A) (by omega) h2
      have m1 := n_rch_mono h (k := n_fin A) (n_lft A most - n_fin A)
      rw [show n_fin A + (n_lft A most - n_fin A) = n_lft A most by omega] at m1
      have := (n_lostT_le h (n_fin A)).1
      omega
/-- the soonest row -/
noncomputable def sn_F (f : Nat → Int) : Nat → Int × Int
  | 0 => (1000000, -4)
  | k + 1 => if f k ≠ -4 ∧ f k < (sn_F f k).1 then (f k, (k : Int)) else sn_F f k
theorem sn_stay {f : Nat → Int} {k : Nat} : ∀ j : Nat, (∀ i, k ≤ i → i < k + j → ¬ (f i ≠ -4 ∧ f i < (sn_F f k).1)) → sn_F f (k + j) = sn_F f k := by
  intro j
  induction j with
  | zero => intro _; rfl
  | succ j ih =>
    intro h
    have e := ih (fun i h1 h2 => h i h1 (by omega))
    show (if f (k + j) ≠ -4 ∧ f (k + j) < (sn_F f (k + j)).1 then (f (k + j), ((k + j : Nat) : Int)) else sn_F f (k + j)) = _
    rw [e, if_neg (h (k + j) (by omega) (by omega))]
theorem sn_F_le {f : Nat → Int} (hf : ∀ i, f i = -4 ∨ (0 ≤ f i ∧ f i ≤ 12)) : ∀ k : Nat, ((sn_F f k).2 = -4 ∧ (sn_F f k).1 = 1000000) ∨ ((0 ≤ (sn_F f k).2 ∧ (sn_F f k).2 < k) ∧ (0 ≤ (sn_F f k).1 ∧ (sn_F f k).1 ≤ 12)) := by
  intro k
  induction k with
  | zero => exact Or.inl ⟨rfl, rfl⟩
  | succ k ih =>
    simp only [sn_F]
    split
    · rename_i h
      have := hf k
      simp only []
      right
      omega
    · omega
noncomputable def sn_f (A : w_M) (k : Nat) : Int := n_done (n_row A k)
theorem n_done_le {A : w_M} (h : n_WF A) : n_done A = -4 ∨ (0 ≤ n_done A ∧ n_done A ≤ A 0 0 - A 0 1) := by
  have hr := h.hr
  have hl : n_left A = (A 0 0 - A 0 1).toNat := rfl
  rcases n_done_spec h with ⟨h1, -⟩ | ⟨h1, h2, -, -⟩
  · exact Or.inl h1
  · right; omega
theorem sn_f_le {A : w_M} (h : n_WF A) (k : Nat) : sn_f A k = -4 ∨ (0 ≤ sn_f A k ∧ sn_f A k ≤ A 0 0 - A 0 1) := by
  have := n_done_le (n_row_WF h (n_s_pos h) k)
  have e : (n_row A k) 0 = A 0 := by unfold n_row; exact n_bg_ne (by decide)
  rw [e] at this
  exact this
noncomputable def F_begin (S : w_S) (w : Int) : Int := if w = 0 ∨ (10 ≤ w ∧ w - 10 < S 0 0 5) then
  (if S 0 0 4 = 0 ∨ S 0 0 5 = 0 then -2 else if (sn_F (sn_f (S 0)) (ft_r (S 0))).2 = -4 then -4 else if w = 0 then (sn_F (sn_f (S 0)) (ft_r (S 0))).1 else ((dg (n_s (S 0)) (n_n (S 0)) (sn_F (sn_f (S 0)) (ft_r (S 0))).2.toNat (w - 10).toNat : Nat) : Int)) else -1
theorem n_cutF_bg {A : w_M} {f : Nat → Int} {r : Nat} {o : Int} : ∀ k : Nat, n_cutF (n_bg A f) r o k = n_cutF A r o k := by
  intro k
  have e0 : n_bg A f 0 = A 0 := n_bg_ne (by decide)
  induction k with
  | zero => show (n_bg A f 5 r, o, (0 : Int)) = (A 5 r, o, 0); rw [n_bg_ne (by decide)]
  | succ k ih =>
    rw [n_cutF_s, n_cutF_s, ih]
    unfold n_cl
    rw [e0]
theorem n_rch_bg {A : w_M} {f : Nat → Int} (k : Nat) : n_rch (n_bg A f) k = n_rch A k := by
  unfold n_rch
  have en : n_n (n_bg A f) = n_n A := by unfold n_n; rw [n_bg_ne (by decide)]
  rw [en]
  refine f_sum_congr (fun r _ => ?_)
  rw [n_cutF_bg, n_bg_ne (by decide), n_bg_ne (by decide)]
theorem n_lft_bg {A : w_M} {f : Nat → Int} {n : Int} : n_lft (n_bg A f) n = n_lft A n := by unfold n_lft; rw [n_bg_ne (by decide)]
theorem n_rch_le {A : w_M} (h : n_WF A) {k : Nat} (hk : k ≤ 12) : 0 ≤ n_rch A k ∧ n_rch A k ≤ 432 := by
  have hn := h.n
  have h1 := f_sum_le (f := fun r => A 3 r * (n_cutF A r (A 4 r) k).2.2) (B := 108) (m := n_n A) (fun r hr => by
    have a := (h.r hr).1
    have b := (n_cutF_le h hr (h.r hr).2.1 k).2.2
    exact ⟨Int.mul_nonneg (by omega) b.1, by have := Int.mul_le_mul a.2 (show (n_cutF A r (A 4 r) k).2.2 ≤ 12 by omega) b.1 (by decide); omega⟩) (Nat.le_refl _)
  unfold n_rch
  unfold n_n at h1 ⊢
  omega
end
section
/-! Where all are to begin -/
noncomputable def p_Plan_countReach (b : Nat) (σ : w_M) : Prop := n_ok σ b ∧ b + 9 ≤ 32
noncomputable def q_Plan_countReach (b : Nat) (σ σ' : w_M) : Prop := (∀ n, n ≤ 12 → σ' 44 n = n_rch (w_ab σ b) (n_lft (w_ab σ b) (n : Int))) ∧ w_f1 σ σ' 44
theorem fPlan_countReach_0 : w_fe am_c67 0 1 (.bipush 0) := ⟨rfl, rfl⟩
theorem fPlan_countReach_1 : w_fe am_c67 1 2 (.istore 2) := ⟨rfl, rfl⟩
theorem fPlan_countReach_2 : w_fe am_c67 2 3 (.iload 2) := ⟨rfl, rfl⟩
theorem fPlan_countReach_3 : w_fe am_c67 3 4 (.bipush 12) := ⟨rfl, rfl⟩
theorem fPlan_countReach_4 : w_ic am_c67 4 5 .gt 40 := ⟨rfl, rfl⟩
theorem fPlan_countReach_5 : w_fe am_c67 5 6 (.aload 0) := ⟨rfl, rfl⟩
theorem fPlan_countReach_6 : w_fe am_c67 6 7 (.getfield 604) := ⟨rfl, rfl⟩
theorem fPlan_countReach_7 : w_fe am_c67 7 8 (.iload 2) := ⟨rfl, rfl⟩
theorem fPlan_countReach_8 : w_fe am_c67 8 9 (.bipush 0) := ⟨rfl, rfl⟩
theorem fPlan_countReach_9 : w_fe am_c67 9 10 (.iastore) := ⟨rfl, rfl⟩
theorem fPlan_countReach_10 : w_fe am_c67 10 11 (.bipush 0) := ⟨rfl, rfl⟩
theorem fPlan_countReach_11 : w_fe am_c67 11 12 (.istore 3) := ⟨rfl, rfl⟩
theorem fPlan_countReach_12 : w_fe am_c67 12 13 (.iload 3) := ⟨rfl, rfl⟩
theorem fPlan_countReach_13 : w_fe am_c67 13 14 (.aload 1) := ⟨rfl, rfl⟩
theorem fPlan_countReach_14 : w_fe am_c67 14 15 (.getfield 205) := ⟨rfl, rfl⟩
theorem fPlan_countReach_15 : w_ic am_c67 15 16 .ge 38 := ⟨rfl, rfl⟩
theorem fPlan_countReach_16 : w_fe am_c67 16 17 (.aload 0) := ⟨rfl, rfl⟩
theorem fPlan_countReach_17 : w_fe am_c67 17 18 (.getfield 604) := ⟨rfl, rfl⟩
theorem fPlan_countReach_18 : w_fe am_c67 18 19 (.iload 2) := ⟨rfl, rfl⟩
theorem fPlan_countReach_19 : w_fe am_c67 19 20 (.dup2) := ⟨rfl, rfl⟩
theorem fPlan_countReach_20 : w_fe am_c67 20 21 (.iaload) := ⟨rfl, rfl⟩
theorem fPlan_countReach_21 : w_fe am_c67 21 22 (.aload 1) := ⟨rfl, rfl⟩
theorem fPlan_countReach_22 : w_fe am_c67 22 23 (.getfield 209) := ⟨rfl, rfl⟩
theorem fPlan_countReach_23 : w_fe am_c67 23 24 (.iload 3) := ⟨rfl, rfl⟩
theorem fPlan_countReach_24 : w_fe am_c67 24 25 (.iaload) := ⟨rfl, rfl⟩
theorem fPlan_countReach_25 : w_fe am_c67 25 26 (.aload 1) := ⟨rfl, rfl⟩
theorem fPlan_countReach_26 : w_fe am_c67 26 27 (.iload 3) := ⟨rfl, rfl⟩
theorem fPlan_countReach_27 : w_fe am_c67 27 28 (.aload 1) := ⟨rfl, rfl⟩
theorem fPlan_countReach_28 : w_fe am_c67 28 29 (.getfield 210) := ⟨rfl, rfl⟩
theorem fPlan_countReach_29 : w_fe am_c67 29 30 (.iload 3) := ⟨rfl, rfl⟩
theorem fPlan_countReach_30 : w_fe am_c67 30 31 (.iaload) := ⟨rfl, rfl⟩
theorem fPlan_countReach_31 : w_fe am_c67 31 32 (.iload 2) := ⟨rfl, rfl⟩
theorem fPlan_countReach_32 : w_fe am_c67 32 33 (.invokestatic 46) := ⟨rfl, rfl⟩
theorem fPlan_countReach_33 : w_fe am_c67 33 34 (.imul) := ⟨rfl, rfl⟩
theorem fPlan_countReach_34 : w_fe am_c67 34 35 (.iadd) := ⟨rfl, rfl⟩
theorem fPlan_countReach_35 : w_fe am_c67 35 36 (.iastore) := ⟨rfl, rfl⟩
theorem fPlan_countReach_36 : w_fe am_c67 36 37 (.iinc 3 1) := ⟨rfl, rfl⟩
theorem fPlan_countReach_37 : w_gt am_c67 37 12 := rfl
theorem fPlan_countReach_38 : w_fe am_c67 38 39 (.iinc 2 1) := ⟨rfl, rfl⟩
theorem fPlan_countReach_39 : w_gt am_c67 39 2 := rfl
theorem fPlan_countReach_40 : w_fe am_c67 40 41 (.return_) := ⟨rfl, rfl⟩
noncomputable def LPlan_countReach_2 (xs : List Int) (d : Nat) (Q : Option w_V → w_M → Prop) (r1 : Nat) (v2 : Int) (σ : w_M) : Prop := ∀ l3, w_nl l3 → w_Ex (xs, d) 0 am_c67 Q 2 [some (.inr (.inr (6, 31))), some (.inr (.inr (2, r1))), some (.inl v2), l3] [] σ
noncomputable def LPlan_countReach_12 (xs : List Int) (d : Nat) (Q : Option w_V → w_M → Prop) (r1 : Nat) (v2 : Int) (v3 : Int) (σ : w_M) : Prop := w_Ex (xs, d) 0 am_c67 Q 12 [some (.inr (.inr (6, 31))), some (.inr (.inr (2, r1))), some (.inl v2), some (.inl v3)] [] σ
set_option maxRecDepth 20000 in
theorem bPlan_countReach_0 {xs : List Int} {d : Nat} {Q : Option w_V → w_M → Prop} {b : Nat} {σ : w_M}
    (h : LPlan_countReach_2 xs (d + 2) Q b 0 σ) : w_Call (xs, (d + 2)) 67 [.inr (.inr (6, 31)), .inr (.inr (2, b))] σ Q :=
  (w_mk (mid := 67) (by decide) rfl rfl rfl rfl rfl (Nat.le_of_ble_eq_true rfl) ⟨rfl, Or.inl (by decide)⟩ (wi_bipush fPlan_countReach_0 (wi_istore2 fPlan_countReach_1 trivial (h _ (by exact trivial)))))
set_option maxRecDepth 20000 in
theorem bPlan_countReach_2 {xs : List Int} {d : Nat} {Q : Option w_V → w_M → Prop} {r1 : Nat} {v2 : Int} {σ : w_M}
    (h : (12 < v2 → Q none σ) ∧ (v2 ≤ 12 → (0 ≤ v2 ∧ v2 < 13 ∧ (∀ (τ1 : w_M), τ1 = w_up σ 44 v2.toNat 0 → LPlan_countReach_12 xs (d + 2) Q r1 v2 0 τ1)))) : LPlan_countReach_2 xs (d + 2) Q r1 v2 σ :=
  fun l3 nl3 => (wi_iload2 fPlan_countReach_2 (wi_bipush fPlan_countReach_3 (wi_ic_gt fPlan_countReach_4 (fun c2 => (wi_ret0 fPlan_countReach_40 (h.1 c2))) (fun c2 => (wi_aload0 fPlan_countReach_5 (wi_getf604 fPlan_countReach_6 (wi_iload2 fPlan_countReach_7 (wi_bipush fPlan_countReach_8 (wi_iast1013 fPlan_countReach_9 (h.2 c2).1 (h.2 c2).2.1 (wi_bipush fPlan_countReach_10 (wi_istore3 fPlan_countReach_11 trivial ((h.2 c2).2.2 _ rfl))))))))))))
set_option maxRecDepth 20000 in
theorem bPlan_countReach_12 {xs : List Int} {d : Nat} {Q : Option w_V → w_M → Prop} {r1 : Nat} {v2 : Int} {v3 : Int} {σ : w_M}
    (h : ((σ r1 5) ≤ v3 → (w_in (v2 + 1) ∧ LPlan_countReach_2 xs (d + 2) Q r1 (v2 + 1) σ)) ∧ (v3 < (σ r1 5) → (0 ≤ v2 ∧ v2 < 13 ∧ 0 ≤ v3 ∧ v3 < 4 ∧ p_Field_cutsAhead r1 v3 (σ (r1 + 4) v3.toNat) v2 σ ∧ (∀ (y1 : Int), y1 = v_Field_cutsAhead r1 v3 (σ (r1 + 4) v3.toNat) v2 σ → (w_in ((σ (r1 + 3) v3.toNat) * y1) ∧ w_in ((σ 44 v2.toNat) + ((σ (r1 + 3) v3.toNat) * y1)) ∧ (∀ (τ2 : w_M), τ2 = w_up σ 44 v2.toNat ((σ 44 v2.toNat) + ((σ (r1 + 3) v3.toNat) * y1)) → (w_in (v3 + 1) ∧ LPlan_countReach_12 xs (d + 2) Q r1 v2 (v3 + 1) τ2))))))) : LPlan_countReach_12 xs (d + 2) Q r1 v2 v3 σ :=
  (wi_iload3 fPlan_countReach_12 (wi_aload1 fPlan_countReach_13 (wi_getf205 fPlan_countReach_14 (wi_ic_ge fPlan_countReach_15 (fun c3 => (wi_iinc2 fPlan_countReach_38 trivial (h.1 c3).1 (wi_goto fPlan_countReach_39 ((h.1 c3).2 _ (by exact trivial))))) (fun c3 => (wi_aload0 fPlan_countReach_16 (wi_getf604 fPlan_countReach_17 (wi_iload2 fPlan_countReach_18 (wi_dup2 fPlan_countReach_19 (wi_iald1013 fPlan_countReach_20 (h.2 c3).1 (h.2 c3).2.1 (wi_aload1 fPlan_countReach_21 (wi_getf209 fPlan_countReach_22 (wi_iload3 fPlan_countReach_23 (wi_iald1004 fPlan_countReach_24 (h.2 c3).2.2.1 (h.2 c3).2.2.2.1 (wi_aload1 fPlan_countReach_25 (wi_iload3 fPlan_countReach_26 (wi_aload1 fPlan_countReach_27 (wi_getf210 fPlan_countReach_28 (wi_iload3 fPlan_countReach_29 (wi_iald1004 fPlan_countReach_30 (h.2 c3).2.2.1 (h.2 c3).2.2.2.1 (wi_iload2 fPlan_countReach_31 (wi_call4 fPlan_countReach_32 (Nat.le_of_ble_eq_true rfl) (k_Field_cutsAhead (h.2 c3).2.2.2.2.1 (wi_imul fPlan_countReach_33 ((h.2 c3).2.2.2.2.2 _ rfl).1 (wi_iadd fPlan_countReach_34 ((h.2 c3).2.2.2.2.2 _ rfl).2.1 (wi_iast1013 fPlan_countReach_35 (h.2 c3).1 (h.2 c3).2.1 (wi_iinc3 fPlan_countReach_36 trivial (((h.2 c3).2.2.2.2.2 _ rfl).2.2 _ rfl).1 (wi_goto fPlan_countReach_37 (((h.2 c3).2.2.2.2.2 _ rfl).2.2 _ rfl).2))))))))))))))))))))))))))))
theorem k_Plan_countReach {xs : List Int} {d : Nat} {Q : Option w_V → w_M → Prop} {b : Nat} {σ : w_M} (hp : p_Plan_countReach b σ) (hQ : ∀ σ' : w_M, q_Plan_countReach b σ σ' → Q none σ') : w_Call (xs, d + 2) 67 [.inr (.inr (6, 31)), .inr (.inr (2, b))] σ Q := by
  obtain ⟨hok, hb⟩ := hp
  have hn := n_ok.n hok
  have hW : n_WF (w_ab σ b) := hok
  have fab : ∀ τ : w_M, w_f1 σ τ 44 → w_ab τ b = w_ab σ b ∧ τ b = σ b := fun τ F => ⟨w_ab_fr (fun d hd => F _ (by omega)), F b (by omega)⟩
  have en : n_n (w_ab σ b) = (σ b 5).toNat := rfl
  refine bPlan_countReach_0 ?_
  refine (w_loop (n := 13) (P := fun n => ∀ τ : w_M, w_f1 σ τ 44 → (∀ m, m < n → τ 44 m = n_rch (w_ab σ b) (n_lft (w_ab σ b) (m : Int))) → LPlan_countReach_2 xs (d + 2) Q b (n : Int) τ) ?_ ?_) σ w_f1.rfl' (fun m hm => by omega)
  · intro τ F h
    exact bPlan_countReach_2 ⟨fun _ => hQ _ ⟨fun n hn => h n (by omega), F⟩, fun h => by omega⟩
  · intro n hn13 ih τ F h
    refine bPlan_countReach_2 ⟨fun h => by omega, fun _ => ⟨by omega, by omega, fun τ1 t1 => ?_⟩⟩
    rw [Int.toNat_natCast] at t1
    have hl := n_left_lft hW (n := (n : Int)) (by omega)
    have hl12 : n_lft (w_ab σ b) (n : Int) ≤ 12 := by omega
    refine (w_loop (n := (σ b 5).toNat) (P := fun r => ∀ τ : w_M, w_f1 σ τ 44 → (∀ m, m < n → τ 44 m = n_rch (w_ab σ b) (n_lft (w_ab σ b) (m : Int))) → τ 44 n = f_sum (fun r => w_ab σ b 3 r * (n_cutF (w_ab σ b) r (w_ab σ b 4 r) (n_lft (w_ab σ b) (n : Int))).2.2) r → LPlan_countReach_12 xs (d + 2) Q b (n : Int) (r : Int) τ) ?_ ?_) τ1 (by rw [t1]; exact F.up) (fun m hm => by rw [t1, w_up_j (by omega)]; exact h m hm) (by rw [t1, w_up_at]; rfl)
    · intro τ F h hv
      obtain ⟨f1, f2⟩ := fab τ F
      refine bPlan_countReach_12 ⟨fun _ => ⟨⟨by omega, by omega⟩, ?_⟩, fun h => by rw [f2] at h; omega⟩
      rw [← w_cs1]
      refine ih τ F (fun m hm => ?_)
      by_cases e : m = n
      · rw [e]; exact hv
      · exact h m (by omega)
    · intro r hr ih2 τ F h hv
      obtain ⟨f1, f2⟩ := fab τ F
      have hr4 : r < n_n (w_ab σ b) := hr
      have wr := hW.r hr4
      have e4 : τ (b + 4) r = w_ab σ b 4 r := by rw [← f1]; exact w_rd (by decide) (by rw [w_rl37 (by decide) (by decide), f2]; exact hr)
      have e3 : τ (b + 3) r = w_ab σ b 3 r := by rw [← f1]; exact w_rd (by decide) (by rw [w_rl37 (by decide) (by decide), f2]; exact hr)
      have cb := (n_cutF_le hW hr4 wr.2.1 (n_lft (w_ab σ b) (n : Int))).2.2
      have pr : 0 ≤ w_ab σ b 3 r * (n_cutF (w_ab σ b) r (w_ab σ b 4 r) (n_lft (w_ab σ b) (n : Int))).2.2 ∧ w_ab σ b 3 r * (n_cutF (w_ab σ b) r (w_ab σ b 4 r) (n_lft (w_ab σ b) (n : Int))).2.2 ≤ 9 * 12 := ⟨Int.mul_nonneg (by omega) cb.1, Int.mul_le_mul wr.1.2 (by omega) cb.1 (by decide)⟩
      have fs := f_sum_le (f := fun r => w_ab σ b 3 r * (n_cutF (w_ab σ b) r (w_ab σ b 4 r) (n_lft (w_ab σ b) (n : Int))).2.2) (B := 108) (m := n_n (w_ab σ b)) (fun r hr => by
        have a := (hW.r hr).1
        have b' := (n_cutF_le hW hr (hW.r hr).2.1 (n_lft (w_ab σ b) (n : Int))).2.2
        exact ⟨Int.mul_nonneg (by omega) b'.1, by have := Int.mul_le_mul a.2 (show (n_cutF (w_ab σ b) r (w_ab σ b 4 r) (n_lft (w_ab σ b) (n : Int))).2.2 ≤ 12 by omega) b'.1 (by decide); omega⟩) (Nat.le_of_lt hr4)
      refine bPlan_countReach_12 ⟨fun h => by rw [f2] at h; omega, fun _ => ⟨by omega, by omega, by omega, by omega, ?_⟩⟩
      rw [Int.toNat_natCast, Int.toNat_natCast, e4, e3, hv]
      refine ⟨⟨n_ok.of f1 hW, by rw [f2]; omega, wr.2.1, by omega, by omega⟩, fun y1 e1 => ?_⟩
      unfold v_Field_cutsAhead at e1
      rw [f1, Int.toNat_natCast] at e1
      rw [e1]
      refine ⟨⟨by omega, by omega⟩, ⟨by omega, by omega⟩, fun τ2 t2 => ⟨⟨by omega, by omega⟩, ?_⟩⟩
      rw [← w_cs1]
      refine ih2 τ2 (by rw [t2]; exact F.up) (fun m hm => by rw [t2, w_up_j (by omega)]; exact h m hm) (by rw [t2, w_up_at]; rfl)
noncomputable def p_Plan_isInReach (_ _ : Int) (_ : w_M) : Prop := True
noncomputable def P_Plan_isInReach (s n : Int) (σ : w_M) : Prop := (0 ≤ n ∧ n ≤ 12) ∧ s ≤ σ 44 n.toNat
theorem fPlan_isInReach_0 : w_fe am_c69 0 1 (.iload 2) := ⟨rfl, rfl⟩
theorem fPlan_isInReach_1 : w_if am_c69 1 2 .lt 13 := ⟨rfl, rfl⟩
theorem fPlan_isInReach_2 : w_fe am_c69 2 3 (.iload 2) := ⟨rfl, rfl⟩
theorem fPlan_isInReach_3 : w_fe am_c69 3 4 (.bipush 12) := ⟨rfl, rfl⟩
theorem fPlan_isInReach_4 : w_ic am_c69 4 5 .gt 13 := ⟨rfl, rfl⟩
theorem fPlan_isInReach_5 : w_fe am_c69 5 6 (.aload 0) := ⟨rfl, rfl⟩
theorem fPlan_isInReach_6 : w_fe am_c69 6 7 (.getfield 604) := ⟨rfl, rfl⟩
theorem fPlan_isInReach_7 : w_fe am_c69 7 8 (.iload 2) := ⟨rfl, rfl⟩
theorem fPlan_isInReach_8 : w_fe am_c69 8 9 (.iaload) := ⟨rfl, rfl⟩
theorem fPlan_isInReach_9 : w_fe am_c69 9 10 (.iload 1) := ⟨rfl, rfl⟩
theorem fPlan_isInReach_10 : w_ic am_c69 10 11 .lt 13 := ⟨rfl, rfl⟩
theorem fPlan_isInReach_11 : w_fe am_c69 11 12 (.bipush 1) := ⟨rfl, rfl⟩
theorem fPlan_isInReach_12 : w_gt am_c69 12 14 := rfl
theorem fPlan_isInReach_13 : w_fe am_c69 13 14 (.bipush 0) := ⟨rfl, rfl⟩
theorem fPlan_isInReach_14 : w_fe am_c69 14 15 (.ireturn) := ⟨rfl, rfl⟩
set_option maxRecDepth 20000 in
theorem bPlan_isInReach_0 {xs : List Int} {d : Nat} {Q : Option w_V → w_M → Prop} {x1 : Int} {x2 : Int} {σ : w_M}
    (h : (x2 < 0 → Q (some (.inl 0)) σ) ∧ (0 ≤ x2 → ((12 < x2 → Q (some (.inl 0)) σ) ∧ (x2 ≤ 12 → (x2 < 13 ∧ (((σ 44 x2.toNat) < x1 → Q (some (.inl 0)) σ) ∧ (x1 ≤ (σ 44 x2.toNat) → Q (some (.inl 1)) σ))))))) : w_Call (xs, d) 69 [.inr (.inr (6, 31)), .inl x1, .inl x2] σ Q :=
  (w_mk (mid := 69) (by decide) rfl rfl rfl rfl rfl (Nat.le_of_ble_eq_true rfl) ⟨rfl, Or.inl (by decide)⟩ (wi_iload2 fPlan_isInReach_0 (wi_if_lt fPlan_isInReach_1 (fun c3 => (wi_bipush fPlan_isInReach_13 (wi_ret2 fPlan_isInReach_14 (by decide) (h.1 c3)))) (fun c3 => (wi_iload2 fPlan_isInReach_2 (wi_bipush fPlan_isInReach_3 (wi_ic_gt fPlan_isInReach_4 (fun c2 => (wi_bipush fPlan_isInReach_13 (wi_ret2 fPlan_isInReach_14 (by decide) ((h.2 c3).1 c2)))) (fun c2 => (wi_aload0 fPlan_isInReach_5 (wi_getf604 fPlan_isInReach_6 (wi_iload2 fPlan_isInReach_7 (wi_iald1013 fPlan_isInReach_8 c3 ((h.2 c3).2 c2).1 (wi_iload1 fPlan_isInReach_9 (wi_ic_lt fPlan_isInReach_10 (fun c1 => (wi_bipush fPlan_isInReach_13 (wi_ret2 fPlan_isInReach_14 (by decide) (((h.2 c3).2 c2).2.1 c1)))) (fun c1 => (wi_bipush fPlan_isInReach_11 (wi_goto fPlan_isInReach_12 (wi_ret2 fPlan_isInReach_14 (by decide) (((h.2 c3).2 c2).2.2 c1)))))))))))))))))))
theorem k_Plan_isInReach {xs : List Int} {d : Nat} {Q : Option w_V → w_M → Prop} {x1 : Int} {x2 : Int} {σ : w_M} (hp : p_Plan_isInReach x1 x2 σ) (hQ : Q (some (.inl (w_bi (P_Plan_isInReach x1 x2 σ)))) σ) : w_Call (xs, d) 69 [.inr (.inr (6, 31)), .inl x1, .inl x2] σ Q := by
  have no : ¬ P_Plan_isInReach x1 x2 σ → Q (some (.inl 0)) σ := fun h => by rw [w_bi_f h] at hQ; exact hQ
  refine bPlan_isInReach_0 ⟨fun c => no (fun q => by have := q.1; omega), fun c => ⟨fun c2 => no (fun q => by have := q.1; omega), fun c2 => ⟨by omega, fun c3 => no (fun q => by have := q.2; omega), fun c3 => ?_⟩⟩⟩
  rw [w_bi_t (show P_Plan_isInReach x1 x2 σ from ⟨⟨c, c2⟩, c3⟩)] at hQ
  exact hQ
noncomputable def p_Plan_soonest (b : Nat) (σ : w_M) : Prop := (n_ok σ b ∧ b + 9 ≤ 32) ∧ 1 ≤ σ b 4 ∧ 1 ≤ σ b 5
noncomputable def q_Plan_soonest (b : Nat) (σ : w_M) (x : Int) (σ' : w_M) : Prop := x = (if (sn_F (sn_f (w_ab σ b)) (ft_r (w_ab σ b))).2 = -4 then -4 else (sn_F (sn_f (w_ab σ b)) (ft_r (w_ab σ b))).1) ∧ (¬ (sn_F (sn_f (w_ab σ b)) (ft_r (w_ab σ b))).2 = -4 → ∀ r, r < n_n (w_ab σ b) → σ' 43 r = ((dg (n_s (w_ab σ b)) (n_n (w_ab σ b)) (sn_F (sn_f (w_ab σ b)) (ft_r (w_ab σ b))).2.toNat r : Nat) : Int)) ∧ w_fr σ σ' 31 80
theorem fPlan_soonest_0 : w_fe am_c66 0 1 (.aload 0) := ⟨rfl, rfl⟩
theorem fPlan_soonest_1 : w_fe am_c66 1 2 (.aload 1) := ⟨rfl, rfl⟩
theorem fPlan_soonest_2 : w_fe am_c66 2 3 (.invokestatic 67) := ⟨rfl, rfl⟩
theorem fPlan_soonest_3 : w_fe am_c66 3 4 (.aload 0) := ⟨rfl, rfl⟩
theorem fPlan_soonest_4 : w_fe am_c66 4 5 (.aload 1) := ⟨rfl, rfl⟩
theorem fPlan_soonest_5 : w_fe am_c66 5 6 (.getfield 204) := ⟨rfl, rfl⟩
theorem fPlan_soonest_6 : w_fe am_c66 6 7 (.bipush 1) := ⟨rfl, rfl⟩
theorem fPlan_soonest_7 : w_fe am_c66 7 8 (.isub) := ⟨rfl, rfl⟩
theorem fPlan_soonest_8 : w_fe am_c66 8 9 (.invokestatic 68) := ⟨rfl, rfl⟩
theorem fPlan_soonest_9 : w_fe am_c66 9 10 (.aload 1) := ⟨rfl, rfl⟩
theorem fPlan_soonest_10 : w_fe am_c66 10 11 (.invokestatic 35) := ⟨rfl, rfl⟩
theorem fPlan_soonest_11 : w_fe am_c66 11 12 (.istore 2) := ⟨rfl, rfl⟩
theorem fPlan_soonest_12 : w_fe am_c66 12 13 (.bipush (-4)) := ⟨rfl, rfl⟩
theorem fPlan_soonest_13 : w_fe am_c66 13 14 (.istore 3) := ⟨rfl, rfl⟩
theorem fPlan_soonest_14 : w_fe am_c66 14 15 (.aload 1) := ⟨rfl, rfl⟩
theorem fPlan_soonest_15 : w_fe am_c66 15 16 (.invokestatic 39) := ⟨rfl, rfl⟩
theorem fPlan_soonest_16 : w_fe am_c66 16 17 (.istore 4) := ⟨rfl, rfl⟩
theorem fPlan_soonest_17 : w_fe am_c66 17 18 (.bipush 0) := ⟨rfl, rfl⟩
theorem fPlan_soonest_18 : w_fe am_c66 18 19 (.istore 5) := ⟨rfl, rfl⟩
theorem fPlan_soonest_19 : w_fe am_c66 19 20 (.iload 5) := ⟨rfl, rfl⟩
theorem fPlan_soonest_20 : w_fe am_c66 20 21 (.bipush 2401) := ⟨rfl, rfl⟩
theorem fPlan_soonest_21 : w_ic am_c66 21 22 .ge 60 := ⟨rfl, rfl⟩
theorem fPlan_soonest_22 : w_fe am_c66 22 23 (.aload 0) := ⟨rfl, rfl⟩
theorem fPlan_soonest_23 : w_fe am_c66 23 24 (.iload 2) := ⟨rfl, rfl⟩
theorem fPlan_soonest_24 : w_fe am_c66 24 25 (.iload 4) := ⟨rfl, rfl⟩
theorem fPlan_soonest_25 : w_fe am_c66 25 26 (.invokestatic 69) := ⟨rfl, rfl⟩
theorem fPlan_soonest_26 : w_if am_c66 26 27 .eq 60 := ⟨rfl, rfl⟩
theorem fPlan_soonest_27 : w_fe am_c66 27 28 (.aload 0) := ⟨rfl, rfl⟩
theorem fPlan_soonest_28 : w_fe am_c66 28 29 (.aload 1) := ⟨rfl, rfl⟩
theorem fPlan_soonest_29 : w_fe am_c66 29 30 (.invokestatic 70) := ⟨rfl, rfl⟩
theorem fPlan_soonest_30 : w_fe am_c66 30 31 (.aload 0) := ⟨rfl, rfl⟩
theorem fPlan_soonest_31 : w_fe am_c66 31 32 (.getfield 600) := ⟨rfl, rfl⟩
theorem fPlan_soonest_32 : w_fe am_c66 32 33 (.iload 4) := ⟨rfl, rfl⟩
theorem fPlan_soonest_33 : w_fe am_c66 33 34 (.aload 0) := ⟨rfl, rfl⟩
theorem fPlan_soonest_34 : w_fe am_c66 34 35 (.getfield 604) := ⟨rfl, rfl⟩
theorem fPlan_soonest_35 : w_fe am_c66 35 36 (.iload 4) := ⟨rfl, rfl⟩
theorem fPlan_soonest_36 : w_fe am_c66 36 37 (.iaload) := ⟨rfl, rfl⟩
theorem fPlan_soonest_37 : w_fe am_c66 37 38 (.iload 2) := ⟨rfl, rfl⟩
theorem fPlan_soonest_38 : w_fe am_c66 38 39 (.isub) := ⟨rfl, rfl⟩
theorem fPlan_soonest_39 : w_fe am_c66 39 40 (.invokestatic 45) := ⟨rfl, rfl⟩
theorem fPlan_soonest_40 : w_fe am_c66 40 41 (.istore 6) := ⟨rfl, rfl⟩
theorem fPlan_soonest_41 : w_fe am_c66 41 42 (.iload 6) := ⟨rfl, rfl⟩
theorem fPlan_soonest_42 : w_fe am_c66 42 43 (.bipush (-4)) := ⟨rfl, rfl⟩
theorem fPlan_soonest_43 : w_ic am_c66 43 44 .eq 52 := ⟨rfl, rfl⟩
theorem fPlan_soonest_44 : w_fe am_c66 44 45 (.iload 6) := ⟨rfl, rfl⟩
theorem fPlan_soonest_45 : w_fe am_c66 45 46 (.istore 3) := ⟨rfl, rfl⟩
theorem fPlan_soonest_46 : w_fe am_c66 46 47 (.aload 0) := ⟨rfl, rfl⟩
theorem fPlan_soonest_47 : w_fe am_c66 47 48 (.invokestatic 71) := ⟨rfl, rfl⟩
theorem fPlan_soonest_48 : w_fe am_c66 48 49 (.iload 6) := ⟨rfl, rfl⟩
theorem fPlan_soonest_49 : w_fe am_c66 49 50 (.bipush 1) := ⟨rfl, rfl⟩
theorem fPlan_soonest_50 : w_fe am_c66 50 51 (.isub) := ⟨rfl, rfl⟩
theorem fPlan_soonest_51 : w_fe am_c66 51 52 (.istore 4) := ⟨rfl, rfl⟩
theorem fPlan_soonest_52 : w_fe am_c66 52 53 (.aload 0) := ⟨rfl, rfl⟩
theorem fPlan_soonest_53 : w_fe am_c66 53 54 (.aload 1) := ⟨rfl, rfl⟩
theorem fPlan_soonest_54 : w_fe am_c66 54 55 (.getfield 205) := ⟨rfl, rfl⟩
theorem fPlan_soonest_55 : w_fe am_c66 55 56 (.invokestatic 72) := ⟨rfl, rfl⟩
theorem fPlan_soonest_56 : w_if am_c66 56 57 .ne 58 := ⟨rfl, rfl⟩
theorem fPlan_soonest_57 : w_gt am_c66 57 60 := rfl
theorem fPlan_soonest_58 : w_fe am_c66 58 59 (.iinc 5 1) := ⟨rfl, rfl⟩
theorem fPlan_soonest_59 : w_gt am_c66 59 19 := rfl
theorem fPlan_soonest_60 : w_fe am_c66 60 61 (.iload 3) := ⟨rfl, rfl⟩
theorem fPlan_soonest_61 : w_fe am_c66 61 62 (.ireturn) := ⟨rfl, rfl⟩
noncomputable def LPlan_soonest_19 (xs : List Int) (d : Nat) (Q : Option w_V → w_M → Prop) (r1 : Nat) (v2 : Int) (v3 : Int) (v4 : Int) (v5 : Int) (σ : w_M) : Prop := ∀ l6, w_nl l6 → w_Ex (xs, d) 1 am_c66 Q 19 [some (.inr (.inr (6, 31))), some (.inr (.inr (2, r1))), some (.inl v2), some (.inl v3), some (.inl v4), some (.inl v5), l6] [] σ
set_option maxRecDepth 20000 in
theorem bPlan_soonest_0 {xs : List Int} {d : Nat} {Q : Option w_V → w_M → Prop} {b : Nat} {σ : w_M}
    (h : p_Plan_countReach b σ ∧ (∀ (τ1 : w_M), q_Plan_countReach b σ τ1 → (w_in ((τ1 b 4) - 1) ∧ p_Plan_startPicks ((τ1 b 4) - 1) τ1 ∧ (∀ (τ2 : w_M), q_Plan_startPicks ((τ1 b 4) - 1) τ1 τ2 → (p_Field_standing b τ2 ∧ (∀ (y3 : Int), y3 = v_Field_standing b τ2 → (p_Field_hoursLeft b τ2 ∧ (∀ (y4 : Int), y4 = (τ2 b 0 - τ2 b 1) → LPlan_soonest_19 xs (d + 5) Q b y3 (-4) y4 0 τ2)))))))) : w_Call (xs, (d + 5)) 66 [.inr (.inr (6, 31)), .inr (.inr (2, b))] σ Q :=
  (w_mk (mid := 66) (by decide) rfl rfl rfl rfl rfl (Nat.le_of_ble_eq_true rfl) ⟨rfl, Or.inl (by decide)⟩ (wi_aload0 fPlan_soonest_0 (wi_aload1 fPlan_soonest_1 (wi_call2 fPlan_soonest_2 (Nat.le_of_ble_eq_true rfl) (k_Plan_countReach h.1 (fun τ1 eτ1 => (wi_aload0 fPlan_soonest_3 (wi_aload1 fPlan_soonest_4 (wi_getf204 fPlan_soonest_5 (wi_bipush fPlan_soonest_6 (wi_isub fPlan_soonest_7 (h.2 τ1 eτ1).1 (wi_call2 fPlan_soonest_8 (Nat.le_of_ble_eq_true rfl) (k_Plan_startPicks (h.2 τ1 eτ1).2.1 (fun τ2 eτ2 => (wi_aload1 fPlan_soonest_9 (wi_call1 fPlan_soonest_10 (Nat.le_of_ble_eq_true rfl) (k_Field_standing ((h.2 τ1 eτ1).2.2 τ2 eτ2).1 (wi_istore2 fPlan_soonest_11 trivial (wi_bipush fPlan_soonest_12 (wi_istore3 fPlan_soonest_13 trivial (wi_aload1 fPlan_soonest_14 (wi_call1 fPlan_soonest_15 (Nat.le_of_ble_eq_true rfl) (k_Field_hoursLeft (((h.2 τ1 eτ1).2.2 τ2 eτ2).2 _ rfl).1 (wi_istore4 fPlan_soonest_16 trivial (wi_bipush fPlan_soonest_17 (wi_istore5 fPlan_soonest_18 trivial (((((h.2 τ1 eτ1).2.2 τ2 eτ2).2 _ rfl).2 _ rfl) _ (by exact trivial))))))))))))))))))))))))))))
set_option maxRecDepth 20000 in
theorem bPlan_soonest_19 {xs : List Int} {d : Nat} {Q : Option w_V → w_M → Prop} {r1 : Nat} {v2 : Int} {v3 : Int} {v4 : Int} {v5 : Int} {σ : w_M}
    (h : (2401 ≤ v5 → Q (some (.inl v3)) σ) ∧ (v5 < 2401 → (p_Plan_isInReach v2 v4 σ ∧ ((¬ (P_Plan_isInReach v2 v4 σ) → Q (some (.inl v3)) σ) ∧ ((P_Plan_isInReach v2 v4 σ) → (p_Plan_beginAsPicked r1 σ ∧ (∀ (τ1 : w_M), q_Plan_beginAsPicked r1 σ τ1 → (0 ≤ v4 ∧ v4 < 13 ∧ w_in ((τ1 44 v4.toNat) - v2) ∧ p_Field_passUntilDone 32 v4 ((τ1 44 v4.toNat) - v2) τ1 ∧ (∀ (y2 : Int) (τ3 : w_M), q_Field_passUntilDone 32 v4 ((τ1 44 v4.toNat) - v2) τ1 y2 τ3 → ((y2 = (-4) → (p_Plan_turnPicks (τ3 r1 5) τ3 ∧ (∀ (y4 : Int) (τ5 : w_M), q_Plan_turnPicks (τ3 r1 5) τ3 y4 τ5 → ((¬ y4 = 0 → (w_in (v5 + 1) ∧ LPlan_soonest_19 xs (d + 5) Q r1 v2 v3 v4 (v5 + 1) τ5)) ∧ (y4 = 0 → Q (some (.inl v3)) τ5))))) ∧ (¬ y2 = (-4) → (p_Plan_choosePicks τ3 ∧ (∀ (τ7 : w_M), q_Plan_choosePicks τ3 τ7 → (w_in (y2 - 1) ∧ (∀ (y8 : Int), y8 = (y2 - 1) → (p_Plan_turnPicks (τ7 r1 5) τ7 ∧ (∀ (y9 : Int) (τ10 : w_M), q_Plan_turnPicks (τ7 r1 5) τ7 y9 τ10 → ((¬ y9 = 0 → (w_in (v5 + 1) ∧ LPlan_soonest_19 xs (d + 5) Q r1 v2 y2 y8 (v5 + 1) τ10)) ∧ (y9 = 0 → Q (some (.inl y2)) τ10))))))))))))))))))) : LPlan_soonest_19 xs (d + 5) Q r1 v2 v3 v4 v5 σ :=
  fun l6 nl6 => (wi_iload5 fPlan_soonest_19 (wi_bipush fPlan_soonest_20 (wi_ic_ge fPlan_soonest_21 (fun c14 => (wi_iload3 fPlan_soonest_60 (wi_ret1 fPlan_soonest_61 (h.1 c14)))) (fun c14 => (wi_aload0 fPlan_soonest_22 (wi_iload2 fPlan_soonest_23 (wi_iload4 fPlan_soonest_24 (wi_call3 fPlan_soonest_25 (Nat.le_of_ble_eq_true rfl) (k_Plan_isInReach (h.2 c14).1 (wi_ifb_eq fPlan_soonest_26 (fun c13 => (wi_iload3 fPlan_soonest_60 (wi_ret1 fPlan_soonest_61 ((h.2 c14).2.1 c13)))) (fun c13 => (wi_aload0 fPlan_soonest_27 (wi_aload1 fPlan_soonest_28 (wi_call2 fPlan_soonest_29 (Nat.le_of_ble_eq_true rfl) (k_Plan_beginAsPicked ((h.2 c14).2.2 c13).1 (fun τ1 eτ1 => (wi_aload0 fPlan_soonest_30 (wi_getf600 fPlan_soonest_31 (wi_iload4 fPlan_soonest_32 (wi_aload0 fPlan_soonest_33 (wi_getf604 fPlan_soonest_34 (wi_iload4 fPlan_soonest_35 (wi_iald1013 fPlan_soonest_36 (((h.2 c14).2.2 c13).2 τ1 eτ1).1 (((h.2 c14).2.2 c13).2 τ1 eτ1).2.1 (wi_iload2 fPlan_soonest_37 (wi_isub fPlan_soonest_38 (((h.2 c14).2.2 c13).2 τ1 eτ1).2.2.1 (wi_call3 fPlan_soonest_39 (Nat.le_of_ble_eq_true rfl) (k_Field_passUntilDone (((h.2 c14).2.2 c13).2 τ1 eτ1).2.2.2.1 (fun y2 τ3 eτ3 => (wi_istore6 fPlan_soonest_40 trivial (wi_iload6 fPlan_soonest_41 (wi_bipush fPlan_soonest_42 (wi_ic_eq fPlan_soonest_43 (fun c12 => (wi_aload0 fPlan_soonest_52 (wi_aload1 fPlan_soonest_53 (wi_getf205 fPlan_soonest_54 (wi_call2 fPlan_soonest_55 (Nat.le_of_ble_eq_true rfl) (k_Plan_turnPicks (((((h.2 c14).2.2 c13).2 τ1 eτ1).2.2.2.2 y2 τ3 eτ3).1 c12).1 (fun y4 τ5 eτ5 => (wi_if_ne fPlan_soonest_56 (fun c6 => (wi_iinc5 fPlan_soonest_58 trivial (((((((h.2 c14).2.2 c13).2 τ1 eτ1).2.2.2.2 y2 τ3 eτ3).1 c12).2 y4 τ5 eτ5).1 c6).1 (wi_goto fPlan_soonest_59 ((((((((h.2 c14).2.2 c13).2 τ1 eτ1).2.2.2.2 y2 τ3 eτ3).1 c12).2 y4 τ5 eτ5).1 c6).2 _ (by exact trivial))))) (fun c6 => (wi_goto fPlan_soonest_57 (wi_iload3 fPlan_soonest_60 (wi_ret1 fPlan_soonest_61 (((((((h.2 c14).2.2 c13).2 τ1 eτ1).2.2.2.2 y2 τ3 eτ3).1 c12).2 y4 τ5 eτ5).2 c6))))))))))))) (fun c12 => (wi_iload6 fPlan_soonest_44 (wi_istore3 fPlan_soonest_45 trivial (wi_aload0 fPlan_soonest_46 (wi_call1 fPlan_soonest_47 (Nat.le_of_ble_eq_true rfl) (k_Plan_choosePicks (((((h.2 c14).2.2 c13).2 τ1 eτ1).2.2.2.2 y2 τ3 eτ3).2 c12).1 (fun τ7 eτ7 => (wi_iload6 fPlan_soonest_48 (wi_bipush fPlan_soonest_49 (wi_isub fPlan_soonest_50 ((((((h.2 c14).2.2 c13).2 τ1 eτ1).2.2.2.2 y2 τ3 eτ3).2 c12).2 τ7 eτ7).1 (wi_istore4 fPlan_soonest_51 trivial (wi_aload0 fPlan_soonest_52 (wi_aload1 fPlan_soonest_53 (wi_getf205 fPlan_soonest_54 (wi_call2 fPlan_soonest_55 (Nat.le_of_ble_eq_true rfl) (k_Plan_turnPicks (((((((h.2 c14).2.2 c13).2 τ1 eτ1).2.2.2.2 y2 τ3 eτ3).2 c12).2 τ7 eτ7).2 _ rfl).1 (fun y9 τ10 eτ10 => (wi_if_ne fPlan_soonest_56 (fun c11 => (wi_iinc5 fPlan_soonest_58 trivial (((((((((h.2 c14).2.2 c13).2 τ1 eτ1).2.2.2.2 y2 τ3 eτ3).2 c12).2 τ7 eτ7).2 _ rfl).2 y9 τ10 eτ10).1 c11).1 (wi_goto fPlan_soonest_59 ((((((((((h.2 c14).2.2 c13).2 τ1 eτ1).2.2.2.2 y2 τ3 eτ3).2 c12).2 τ7 eτ7).2 _ rfl).2 y9 τ10 eτ10).1 c11).2 _ (by exact trivial))))) (fun c11 => (wi_goto fPlan_soonest_57 (wi_iload3 fPlan_soonest_60 (wi_ret1 fPlan_soonest_61 (((((((((h.2 c14).2.2 c13).2 τ1 eτ1).2.2.2.2 y2 τ3 eτ3).2 c12).2 τ7 eτ7).2 _ rfl).2 y9 τ10 eτ10).2 c11)))))))))))))))))))))))))))))))))))))))))))))))))))))))
set_option maxHeartbeats 2000000 in
theorem k_Plan_soonest {xs : List Int} {d : Nat} {Q : Option w_V → w_M → Prop} {b : Nat} {σ : w_M} (hp : p_Plan_soonest b σ) (hQ : ∀ (x : Int) (σ' : w_M), q_Plan_soonest b σ x σ' → Q (some (.inl x)) σ') : w_Call (xs, d + 5) 66 [.inr (.inr (6, 31)), .inr (.inr (2, b))] σ Q := by
  obtain ⟨⟨hok, hb⟩, h4, h5⟩ := hp
  have hs := n_ok.s hok
  have hn := n_ok.n hok
  have hrs := n_ok.hrs hok
  have hr := n_ok.hr hok
  have hW : n_WF (w_ab σ b) := hok
  have en : n_n (w_ab σ b) = (σ b 5).toNat := rfl
  have es : n_s (w_ab σ b) = (σ b 4).toNat := rfl
  have e0 : w_ab σ b 0 0 = σ b 0 := rfl
  have e1 : w_ab σ b 0 1 = σ b 1 := rfl
  have hs1 := n_s_pos hW
  unfold q_Plan_soonest ft_r at hQ
  have fab : ∀ τ : w_M, w_fr σ τ 32 63 → w_ab τ b = w_ab σ b ∧ τ b = σ b := fun τ F => ⟨w_ab_fr (fun d hd => F _ (by omega)), F b (by omega)⟩
  generalize hA : w_ab σ b = A at *
  have hB7 : n_s A ≤ 7 := by omega
  have hn4 : n_n A ≤ 4 := by omega
  have p7 := pow7 hB7 hn4
  have hpos : 0 < n_s A ^ n_n A := Nat.pow_pos (by omega)
  have hsd := n_sd_le hW
  have hfl : ∀ k, sn_f A k = -4 ∨ (0 ≤ sn_f A k ∧ sn_f A k ≤ A 0 0 - A 0 1) := sn_f_le hW
  have hfl12 : ∀ k, sn_f A k = -4 ∨ (0 ≤ sn_f A k ∧ sn_f A k ≤ 12) := fun k => by have := hfl k; omega
  refine bPlan_soonest_0 ⟨⟨hok, hb⟩, fun τ1 hq1 => ?_⟩
  obtain ⟨r1, F1⟩ := hq1
  rw [hA] at r1
  have zb1 : τ1 b = σ b := F1 b (by omega)
  rw [zb1]
  refine ⟨⟨by omega, by omega⟩, trivial, fun τ2 hq2 => ?_⟩
  obtain ⟨s1, s2⟩ := hq2
  have F2 : w_fr σ τ2 32 63 := fun c hc => by rw [s2 c (by omega) (by omega), F1 c (by omega)]
  obtain ⟨f1, f2⟩ := fab τ2 F2
  refine ⟨n_ok.of f1 hW, fun y3 e3 => ⟨by unfold p_Field_hoursLeft; rw [f2]; exact ⟨by omega, by omega⟩, fun y4 e4 => ?_⟩⟩
  unfold v_Field_standing at e3
  rw [f1] at e3
  rw [f2] at e4
  have r2 : ∀ n, n ≤ 12 → τ2 44 n = n_rch A (n_lft A (n : Int)) := fun n hn => by rw [s2 44 (by decide) (by decide)]; exact r1 n hn
  refine (w_loop (n := n_s A ^ n_n A) (P := fun k => k < n_s A ^ n_n A → ∀ (τ : w_M) (v3 v4 : Int), w_fr σ τ 32 63 → pk_at τ (n_s A) (n_n A) k → (∀ n, n ≤ 12 → τ 44 n = n_rch A (n_lft A (n : Int))) → (((sn_F (sn_f A) k).2 = -4 ∧ v3 = -4 ∧ v4 = A 0 0 - A 0 1) ∨ (¬ (sn_F (sn_f A) k).2 = -4 ∧ v3 = (sn_F (sn_f A) k).1 ∧ v4 = (sn_F (sn_f A) k).1 - 1 ∧ ∀ r, r < n_n A → τ 43 r = ((dg (n_s A) (n_n A) (sn_F (sn_f A) k).2.toNat r : Nat) : Int))) → LPlan_soonest_19 xs (d + 5) Q b y3 v3 v4 (k : Int) τ) ?_ ?_) hpos τ2 (-4) y4 F2 ?_ r2 (Or.inl ⟨rfl, rfl, by omega⟩)
  · intro h; omega
  · intro k hk ih _ τ v3 v4 F hpk hrc hinv
    obtain ⟨g1, g2⟩ := fab τ F
    have hsn := sn_F_le hfl12 k
    -- the condition of the class is the reference's
    have cond : (sn_f A k ≠ -4 ∧ sn_f A k ≤ v4) ↔ (sn_f A k ≠ -4 ∧ sn_f A k < (sn_F (sn_f A) k).1) := by
      have := hfl k
      rcases hinv with ⟨h1, h2, h3⟩ | ⟨h1, h2, h3, h4⟩
      · omega
      · omega
    have v4le : v4 ≤ 12 := by
      rcases hinv with ⟨h1, h2, h3⟩ | ⟨h1, h2, h3, h4⟩ <;> omega
    -- the end, at row m, with what was found
    have fin : ∀ (τ' : w_M) (v : Int) (m : Nat), w_fr σ τ' 32 63 → sn_F (sn_f A) (n_s A ^ n_n A) = sn_F (sn_f A) m → (((sn_F (sn_f A) m).2 = -4 ∧ v = -4) ∨ (¬ (sn_F (sn_f A) m).2 = -4 ∧ v = (sn_F (sn_f A) m).1 ∧ ∀ r, r < n_n A → τ' 43 r = ((dg (n_s A) (n_n A) (sn_F (sn_f A) m).2.toNat r : Nat) : Int))) → Q (some (.inl v)) τ' := fun τ' v m F' em hv => by
      rw [em] at hQ
      refine hQ _ _ ⟨?_, fun hne => ?_, F'.wide (by decide) (by decide)⟩
      · rcases hv with ⟨a, b⟩ | ⟨a, b, c⟩
        · rw [if_pos a, b]
        · rw [if_neg a, b]
      · rcases hv with ⟨a, b⟩ | ⟨a, b, c⟩
        · exact absurd a hne
        · exact c
    -- turning
    have turn : ∀ (τ' : w_M) (v3' v4' : Int), w_fr σ τ' 32 63 → pk_at τ' (n_s A) (n_n A) k → (∀ n, n ≤ 12 → τ' 44 n = n_rch A (n_lft A (n : Int))) → (((sn_F (sn_f A) (k + 1)).2 = -4 ∧ v3' = -4 ∧ v4' = A 0 0 - A 0 1) ∨ (¬ (sn_F (sn_f A) (k + 1)).2 = -4 ∧ v3' = (sn_F (sn_f A) (k + 1)).1 ∧ v4' = (sn_F (sn_f A) (k + 1)).1 - 1 ∧ ∀ r, r < n_n A → τ' 43 r = ((dg (n_s A) (n_n A) (sn_F (sn_f A) (k + 1)).2.toNat r : Nat) : Int))) → (p_Plan_turnPicks (τ' b 5) τ' ∧ (∀ (y : Int) (τ5 : w_M), q_Plan_turnPicks (τ' b 5) τ' y τ5 → ((¬ y = 0 → (w_in ((k : Int) + 1) ∧ LPlan_soonest_19 xs (d + 5) Q b y3 v3' v4' ((k : Int) + 1) τ5)) ∧ (y = 0 → Q (some (.inl v3')) τ5)))) := fun τ' v3' v4' F' hp' hr' hi' => by
      obtain ⟨-, g3⟩ := fab τ' F'
      rw [g3]
      refine ⟨⟨hn, n_s A, k, by omega, by omega, by rw [← en]; exact hk, by rw [← en]; exact hp'⟩, fun y τ5 hq => ?_⟩
      obtain ⟨q1, q2⟩ := hq
      have F5 : w_fr σ τ5 32 63 := fun c hc => by rw [q1 c (by omega), F' c hc]
      have z43 : τ5 43 = τ' 43 := q1 43 (by decide)
      have z44 : τ5 44 = τ' 44 := q1 44 (by decide)
      have q2' := q2 (n_s A) k (by omega) (by omega) (by rw [← en]; exact hk) (by rw [← en]; exact hp')
      rw [← en] at q2'
      refine ⟨fun c => ⟨⟨by omega, by omega⟩, ?_⟩, fun c => ?_⟩
      · rcases q2' with ⟨a1, a2, a3⟩ | ⟨a1, a2⟩
        · rw [← w_cs1]
          refine ih a2 τ5 v3' v4' F5 a3 (by rw [z44]; exact hr') ?_
          rw [z43]
          exact hi'
        · exact absurd a1 c
      · rcases q2' with ⟨a1, a2, a3⟩ | ⟨a1, a2⟩
        · omega
        · refine fin τ5 v3' (k + 1) F5 (by rw [a2]) ?_
          rw [z43]
          rcases hi' with ⟨x1, x2, x3⟩ | ⟨x1, x2, x3, x4⟩
          · exact Or.inl ⟨x1, x2⟩
          · exact Or.inr ⟨x1, x2, x4⟩
    have Wk : n_WF (n_row A k) := n_row_WF hW hs1 k
    refine bPlan_soonest_19 ⟨fun h => by omega, fun _ => ⟨trivial, fun c => ?_, fun c => ⟨⟨n_ok.of g1 hW, Or.inr hb⟩, fun τ3 hq3 => ?_⟩⟩⟩
    · -- nothing that comes can be sooner
      have nomore : ∀ i, ¬ (sn_f A i ≠ -4 ∧ sn_f A i ≤ v4) := fun i => by
        have Wi : n_WF (n_row A i) := n_row_WF hW hs1 i
        refine n_done_cut Wi ?_
        unfold n_row
        rw [n_rch_bg, n_lft_bg, n_bg_sd]
        by_cases h0 : v4 < 0
        · exact Or.inl h0
        · right
          have hnr : ¬ y3 ≤ τ 44 v4.toNat := fun q => c ⟨⟨by omega, v4le⟩, q⟩
          rw [hrc v4.toNat (by omega), show ((v4.toNat : Nat) : Int) = v4 by omega] at hnr
          omega
      have e := sn_stay (f := sn_f A) (k := k) (n_s A ^ n_n A - k) (fun i h1 h2 q => nomore i (by
        have := hfl i
        rcases hinv with ⟨x1, x2, x3⟩ | ⟨x1, x2, x3, x4⟩
        · exact ⟨q.1, by omega⟩
        · exact ⟨q.1, by omega⟩))
      rw [show k + (n_s A ^ n_n A - k) = n_s A ^ n_n A by omega] at e
      refine fin τ v3 k F e ?_
      rcases hinv with ⟨x1, x2, x3⟩ | ⟨x1, x2, x3, x4⟩
      · exact Or.inl ⟨x1, x2⟩
      · exact Or.inr ⟨x1, x2, x4⟩
    · obtain ⟨⟨c0, c12⟩, c3⟩ := c
      obtain ⟨a3, F3⟩ := hq3
      have er : n_bg (w_ab τ b) (τ 41) = n_row A k := by rw [g1]; exact n_bg_congr (fun r hr => (hpk r hr).1)
      rw [er] at a3
      have z44 : τ3 44 = τ 44 := F3 44 (by omega)
      have rb : τ3 44 v4.toNat = n_rch A (n_lft A v4) := by rw [z44, hrc v4.toNat (by omega), show ((v4.toNat : Nat) : Int) = v4 by omega]
      have rle := n_rch_le hW (k := n_lft A v4) (by have := (n_left_lft hW c0).2.1; omega)
      refine ⟨c0, by omega, ⟨by omega, by omega⟩, ⟨n_ok.of a3 Wk, c0, c12⟩, fun y2 τ4 hq4 => ?_⟩
      obtain ⟨j, p1, p2, p3⟩ := hq4
      rw [a3] at p2
      have ey := n_pud_cut Wk c0 (by unfold n_row; rw [n_rch_bg, n_lft_bg, n_bg_sd]; omega) p2
      have ey' : y2 = if sn_f A k ≠ -4 ∧ sn_f A k ≤ v4 then sn_f A k else -4 := ey
      have F4 : w_fr σ τ4 32 63 := (F.tr (F3.wide (by decide) (by decide))).tr (p3.wide (by decide) (by decide))
      have t41 : τ4 41 = τ 41 := by rw [p3 41 (by omega), F3 41 (by omega)]
      have t42 : τ4 42 = τ 42 := by rw [p3 42 (by omega), F3 42 (by omega)]
      have t43 : τ4 43 = τ 43 := by rw [p3 43 (by omega), F3 43 (by omega)]
      have t44 : τ4 44 = τ 44 := by rw [p3 44 (by omega), z44]
      have pk4 : pk_at τ4 (n_s A) (n_n A) k := fun r hr => by rw [t41, t42]; exact hpk r hr
      refine ⟨fun c4 => turn τ4 v3 v4 F4 pk4 (by rw [t44]; exact hrc) ?_, fun c4 => ⟨trivial, fun τ7 hq7 => ?_⟩⟩
      · have hno : ¬ (sn_f A k ≠ -4 ∧ sn_f A k ≤ v4) := fun q => by rw [if_pos q] at ey'; omega
        have e : sn_F (sn_f A) (k + 1) = sn_F (sn_f A) k := by
          simp only [sn_F]
          rw [if_neg (fun q => hno (cond.mpr q))]
        rw [e, t43]
        exact hinv
      · have hyes : sn_f A k ≠ -4 ∧ sn_f A k ≤ v4 := by
          by_cases q : sn_f A k ≠ -4 ∧ sn_f A k ≤ v4
          · exact q
          · rw [if_neg q] at ey'; exact absurd ey' c4
        rw [if_pos hyes] at ey'
        obtain ⟨u1, u2⟩ := hq7
        have e : sn_F (sn_f A) (k + 1) = (sn_f A k, (k : Int)) := by
          simp only [sn_F]
          rw [if_pos (cond.mp hyes)]
        have hk12 := hfl12 k
        refine ⟨⟨by omega, by omega⟩, fun y8 e8 => turn τ7 y2 y8 (fun c hc => by rw [u2 c (by omega), F4 c hc]) (fun r hr => by rw [u2 41 (by decide), u2 42 (by decide)]; exact pk4 r hr) (by rw [u2 44 (by decide), t44]; exact hrc) (Or.inr ?_)⟩
        rw [e]
        refine ⟨by simp only []; omega, ey', by simp only []; omega, fun r hr => ?_⟩
        rw [u1 r (by omega), t41, (hpk r hr).1]
        simp only [Int.toNat_natCast]
  · refine pk_start hn4 (fun r hr => ?_)
    refine ⟨(s1 r hr).1, ?_⟩
    rw [(s1 r hr).2]
    omega
noncomputable def p_Moon_begin (_x1 : Int) (σ : w_M) : Prop := CI σ
noncomputable def q_Moon_begin (x1 : Int) (σ : w_M) (x : Int) (σ' : w_M) : Prop := c_q (F_begin (cS σ) x1) (cS σ) σ x σ'
theorem fMoon_begin_0 : w_fe am_c129 0 1 (.iload 1) := ⟨rfl, rfl⟩
theorem fMoon_begin_1 : w_if am_c129 1 2 .eq 8 := ⟨rfl, rfl⟩
theorem fMoon_begin_2 : w_fe am_c129 2 3 (.aload 0) := ⟨rfl, rfl⟩
theorem fMoon_begin_3 : w_fe am_c129 3 4 (.iload 1) := ⟨rfl, rfl⟩
theorem fMoon_begin_4 : w_fe am_c129 4 5 (.invokestatic 130) := ⟨rfl, rfl⟩
theorem fMoon_begin_5 : w_if am_c129 5 6 .ne 8 := ⟨rfl, rfl⟩
theorem fMoon_begin_6 : w_fe am_c129 6 7 (.bipush (-1)) := ⟨rfl, rfl⟩
theorem fMoon_begin_7 : w_fe am_c129 7 8 (.ireturn) := ⟨rfl, rfl⟩
theorem fMoon_begin_8 : w_fe am_c129 8 9 (.aload 0) := ⟨rfl, rfl⟩
theorem fMoon_begin_9 : w_fe am_c129 9 10 (.getfield 2) := ⟨rfl, rfl⟩
theorem fMoon_begin_10 : w_fe am_c129 10 11 (.getfield 204) := ⟨rfl, rfl⟩
theorem fMoon_begin_11 : w_if am_c129 11 12 .eq 16 := ⟨rfl, rfl⟩
theorem fMoon_begin_12 : w_fe am_c129 12 13 (.aload 0) := ⟨rfl, rfl⟩
theorem fMoon_begin_13 : w_fe am_c129 13 14 (.getfield 2) := ⟨rfl, rfl⟩
theorem fMoon_begin_14 : w_fe am_c129 14 15 (.getfield 205) := ⟨rfl, rfl⟩
theorem fMoon_begin_15 : w_if am_c129 15 16 .ne 18 := ⟨rfl, rfl⟩
theorem fMoon_begin_16 : w_fe am_c129 16 17 (.bipush (-2)) := ⟨rfl, rfl⟩
theorem fMoon_begin_17 : w_fe am_c129 17 18 (.ireturn) := ⟨rfl, rfl⟩
theorem fMoon_begin_18 : w_fe am_c129 18 19 (.aload 0) := ⟨rfl, rfl⟩
theorem fMoon_begin_19 : w_fe am_c129 19 20 (.getfield 4) := ⟨rfl, rfl⟩
theorem fMoon_begin_20 : w_fe am_c129 20 21 (.aload 0) := ⟨rfl, rfl⟩
theorem fMoon_begin_21 : w_fe am_c129 21 22 (.getfield 2) := ⟨rfl, rfl⟩
theorem fMoon_begin_22 : w_fe am_c129 22 23 (.invokestatic 66) := ⟨rfl, rfl⟩
theorem fMoon_begin_23 : w_fe am_c129 23 24 (.istore 2) := ⟨rfl, rfl⟩
theorem fMoon_begin_24 : w_fe am_c129 24 25 (.iload 1) := ⟨rfl, rfl⟩
theorem fMoon_begin_25 : w_if am_c129 25 26 .eq 29 := ⟨rfl, rfl⟩
theorem fMoon_begin_26 : w_fe am_c129 26 27 (.iload 2) := ⟨rfl, rfl⟩
theorem fMoon_begin_27 : w_fe am_c129 27 28 (.bipush (-4)) := ⟨rfl, rfl⟩
theorem fMoon_begin_28 : w_ic am_c129 28 29 .ne 31 := ⟨rfl, rfl⟩
theorem fMoon_begin_29 : w_fe am_c129 29 30 (.iload 2) := ⟨rfl, rfl⟩
theorem fMoon_begin_30 : w_gt am_c129 30 37 := rfl
theorem fMoon_begin_31 : w_fe am_c129 31 32 (.aload 0) := ⟨rfl, rfl⟩
theorem fMoon_begin_32 : w_fe am_c129 32 33 (.getfield 4) := ⟨rfl, rfl⟩
theorem fMoon_begin_33 : w_fe am_c129 33 34 (.iload 1) := ⟨rfl, rfl⟩
theorem fMoon_begin_34 : w_fe am_c129 34 35 (.bipush 10) := ⟨rfl, rfl⟩
theorem fMoon_begin_35 : w_fe am_c129 35 36 (.isub) := ⟨rfl, rfl⟩
theorem fMoon_begin_36 : w_fe am_c129 36 37 (.invokestatic 73) := ⟨rfl, rfl⟩
theorem fMoon_begin_37 : w_fe am_c129 37 38 (.ireturn) := ⟨rfl, rfl⟩
set_option maxRecDepth 20000 in
theorem bMoon_begin_0 {xs : List Int} {d : Nat} {Q : Option w_V → w_M → Prop} {x1 : Int} {σ : w_M}
    (h : (x1 = 0 → (((σ 14 4) = 0 → Q (some (.inl (-2))) σ) ∧ (¬ (σ 14 4) = 0 → ((¬ (σ 14 5) = 0 → (p_Plan_soonest 14 σ ∧ (∀ (y1 : Int) (τ2 : w_M), q_Plan_soonest 14 σ y1 τ2 → Q (some (.inl y1)) τ2))) ∧ ((σ 14 5) = 0 → Q (some (.inl (-2))) σ))))) ∧ (¬ x1 = 0 → (((10 ≤ x1 ∧ x1 - 10 < σ 14 5) → (((σ 14 4) = 0 → Q (some (.inl (-2))) σ) ∧ (¬ (σ 14 4) = 0 → ((¬ (σ 14 5) = 0 → (p_Plan_soonest 14 σ ∧ (∀ (y5 : Int) (τ6 : w_M), q_Plan_soonest 14 σ y5 τ6 → ((¬ y5 = (-4) → (w_in (x1 - 10) ∧ p_Plan_chosenOf (x1 - 10) τ6 ∧ (∀ (y7 : Int), y7 = v_Plan_chosenOf (x1 - 10) τ6 → Q (some (.inl y7)) τ6))) ∧ (y5 = (-4) → Q (some (.inl y5)) τ6))))) ∧ ((σ 14 5) = 0 → Q (some (.inl (-2))) σ))))) ∧ (¬ (10 ≤ x1 ∧ x1 - 10 < σ 14 5) → Q (some (.inl (-1))) σ)))) : w_Call (xs, (d + 6)) 129 [.inr (.inr (0, 0)), .inl x1] σ Q :=
  (w_mk (mid := 129) (by decide) rfl rfl rfl rfl rfl (Nat.le_of_ble_eq_true rfl) ⟨rfl, Or.inl (by decide)⟩ (wi_iload1 fMoon_begin_0 (wi_if_eq fMoon_begin_1 (fun c12 => (wi_aload0 fMoon_begin_8 (wi_getf2 fMoon_begin_9 (wi_getf204 fMoon_begin_10 (wi_if_eq fMoon_begin_11 (fun c4 => (wi_bipush fMoon_begin_16 (wi_ret1 fMoon_begin_17 ((h.1 c12).1 c4)))) (fun c4 => (wi_aload0 fMoon_begin_12 (wi_getf2 fMoon_begin_13 (wi_getf205 fMoon_begin_14 (wi_if_ne fMoon_begin_15 (fun c3 => (wi_aload0 fMoon_begin_18 (wi_getf4 fMoon_begin_19 (wi_aload0 fMoon_begin_20 (wi_getf2 fMoon_begin_21 (wi_call2 fMoon_begin_22 (Nat.le_of_ble_eq_true rfl) (k_Plan_soonest (((h.1 c12).2 c4).1 c3).1 (fun y1 τ2 eτ2 => (wi_istore2 fMoon_begin_23 trivial (wi_iload1 fMoon_begin_24 (wi_if_eq fMoon_begin_25 (fun _ => (wi_iload2 fMoon_begin_29 (wi_goto fMoon_begin_30 (wi_ret1 fMoon_begin_37 ((((h.1 c12).2 c4).1 c3).2 y1 τ2 eτ2))))) (fun e => absurd c12 (w_n_eq e))))))))))))) (fun c3 => (wi_bipush fMoon_begin_16 (wi_ret1 fMoon_begin_17 (((h.1 c12).2 c4).2 c3)))))))))))))) (fun c12 => (wi_aload0 fMoon_begin_2 (wi_iload1 fMoon_begin_3 (wi_call2 fMoon_begin_4 (Nat.le_of_ble_eq_true rfl) (k_Moon_asksOfReaper (wi_ifb_ne fMoon_begin_5 (fun c11 => (wi_aload0 fMoon_begin_8 (wi_getf2 fMoon_begin_9 (wi_getf204 fMoon_begin_10 (wi_if_eq fMoon_begin_11 (fun c10 => (wi_bipush fMoon_begin_16 (wi_ret1 fMoon_begin_17 (((h.2 c12).1 c11).1 c10)))) (fun c10 => (wi_aload0 fMoon_begin_12 (wi_getf2 fMoon_begin_13 (wi_getf205 fMoon_begin_14 (wi_if_ne fMoon_begin_15 (fun c9 => (wi_aload0 fMoon_begin_18 (wi_getf4 fMoon_begin_19 (wi_aload0 fMoon_begin_20 (wi_getf2 fMoon_begin_21 (wi_call2 fMoon_begin_22 (Nat.le_of_ble_eq_true rfl) (k_Plan_soonest ((((h.2 c12).1 c11).2 c10).1 c9).1 (fun y5 τ6 eτ6 => (wi_istore2 fMoon_begin_23 trivial (wi_iload1 fMoon_begin_24 (wi_if_eq fMoon_begin_25 (fun e => absurd c12 (w_m_eq e)) (fun _ => (wi_iload2 fMoon_begin_26 (wi_bipush fMoon_begin_27 (wi_ic_ne fMoon_begin_28 (fun c8 => (wi_aload0 fMoon_begin_31 (wi_getf4 fMoon_begin_32 (wi_iload1 fMoon_begin_33 (wi_bipush fMoon_begin_34 (wi_isub fMoon_begin_35 ((((((h.2 c12).1 c11).2 c10).1 c9).2 y5 τ6 eτ6).1 c8).1 (wi_call2 fMoon_begin_36 (Nat.le_of_ble_eq_true rfl) (k_Plan_chosenOf ((((((h.2 c12).1 c11).2 c10).1 c9).2 y5 τ6 eτ6).1 c8).2.1 (wi_ret1 fMoon_begin_37 (((((((h.2 c12).1 c11).2 c10).1 c9).2 y5 τ6 eτ6).1 c8).2.2 _ rfl)))))))))) (fun c8 => (wi_iload2 fMoon_begin_29 (wi_goto fMoon_begin_30 (wi_ret1 fMoon_begin_37 ((((((h.2 c12).1 c11).2 c10).1 c9).2 y5 τ6 eτ6).2 c8)))))))))))))))))))) (fun c9 => (wi_bipush fMoon_begin_16 (wi_ret1 fMoon_begin_17 ((((h.2 c12).1 c11).2 c10).2 c9)))))))))))))) (fun c11 => (wi_bipush fMoon_begin_6 (wi_ret1 fMoon_begin_7 ((h.2 c12).2 c11)))))))))))))
theorem k_Moon_begin {xs : List Int} {d : Nat} {Q : Option w_V → w_M → Prop} {x1 : Int} {σ : w_M} (hp : p_Moon_begin x1 σ) (hQ : ∀ (x : Int) (σ' : w_M), q_Moon_begin x1 σ x σ' → Q (some (.inl x)) σ') : w_Call (xs, d + 6) 129 [.inr (.inr (0, 0)), .inl x1] σ Q := by
  have hC : CI σ := hp
  have hok := hC.ok
  have hn := n_ok.n hok
  have hs := n_ok.s hok
  unfold q_Moon_begin F_begin at hQ
  have e5 : cS σ 0 0 5 = σ 14 5 := rfl
  have e4 : cS σ 0 0 4 = σ 14 4 := rfl
  have eA : cS σ 0 = w_ab σ 14 := rfl
  rw [e5, e4, eA] at hQ
  have st : (x1 = 0 ∨ (10 ≤ x1 ∧ x1 - 10 < σ 14 5)) → (σ 14 4 = 0 ∨ σ 14 5 = 0) → Q (some (.inl (-2))) σ := fun h1 h2 => by
    rw [if_pos h1, if_pos h2] at hQ
    exact hQ _ _ (c_qr hC rfl)
  refine bMoon_begin_0 ⟨fun c => ⟨fun c2 => st (Or.inl c) (Or.inl c2), fun c2 => ⟨fun c3 => ⟨⟨⟨hok, by decide⟩, by omega, by omega⟩, fun y τ hq => ?_⟩, fun c3 => st (Or.inl c) (Or.inr c3)⟩⟩, fun c => ⟨fun ca => ⟨fun c2 => st (Or.inr ca) (Or.inl c2), fun c2 => ⟨fun c3 => ⟨⟨⟨hok, by decide⟩, by omega, by omega⟩, fun y τ hq => ⟨fun c4 => ⟨⟨by omega, by omega⟩, ⟨by omega, by omega⟩, fun y7 e7 => ?_⟩, fun c4 => ?_⟩⟩, fun c3 => st (Or.inr ca) (Or.inr c3)⟩⟩, fun ca => ?_⟩⟩
  · rw [if_pos (Or.inl c), if_neg (by omega), if_pos c] at hQ
    exact hQ _ _ (c_qs hC hq.2.2 hq.1)
  · rw [if_pos (Or.inr ca), if_neg (by omega), if_neg c] at hQ
    obtain ⟨q1, q2, q3⟩ := hq
    by_cases h : (sn_F (sn_f (w_ab σ 14)) (ft_r (w_ab σ 14))).2 = -4
    · rw [if_pos h] at q1
      exact absurd q1 c4
    · rw [if_neg h] at hQ
      refine hQ _ _ (c_qs hC q3 ?_)
      rw [e7]
      exact q2 h _ (by show (x1 - 10).toNat < (σ 14 5).toNat; omega)
  · rw [if_pos (Or.inr ca), if_neg (by omega), if_neg c] at hQ
    obtain ⟨q1, q2, q3⟩ := hq
    have hsn := sn_F_le (f := sn_f (w_ab σ 14)) (fun k => by
      have := sn_f_le hok k
      have hrs := n_ok.hrs hok
      have hr := n_ok.hr hok
      have e0 : w_ab σ 14 0 0 = σ 14 0 := rfl
      have e1 : w_ab σ 14 0 1 = σ 14 1 := rfl
      omega) (ft_r (w_ab σ 14))
    by_cases h : (sn_F (sn_f (w_ab σ 14)) (ft_r (w_ab σ 14))).2 = -4
    · rw [if_pos h] at hQ
      exact hQ _ _ (c_qs hC q3 c4)
    · rw [if_neg h] at q1
      omega
  · rw [if_neg (by omega)] at hQ
    exact hQ _ _ (c_qr hC rfl)
noncomputable def p_Model_begin (_x1 : Int) (σ : w_M) : Prop := MI σ
noncomputable def q_Model_begin (x1 : Int) (σ : w_M) (x : Int) (σ' : w_M) : Prop := m_q (F_begin (mS σ) x1) (mS σ) σ x σ'
noncomputable def w_c206 : List Instr := [.iload 1, .ifCond .eq 10, .aload 0, .iload 1, .bipush 10, .fsub, .invokestatic 181, .ifCond .ne 10, .bipush (-1), .ireturn, .aload 0, .getfield 904, .ifCond .eq 16, .aload 0, .getfield 905, .ifCond .ne 18, .bipush (-2), .ireturn, .bipush 1000000, .istore 2, .bipush (-4), .istore 3, .bipush 0, .istore 4, .iload 4, .aload 0, .aload 0, .getfield 904, .invokestatic 207, .if_icmp .ge 60, .aload 0, .iload 4, .invokestatic 208, .aload 0, .invokestatic 204, .istore 5, .iload 5, .bipush (-4), .if_icmp .eq 44, .iload 5, .iload 2, .if_icmp .ge 44, .bipush 1, .goto 45, .bipush 0, .istore 6, .iload 6, .ifCond .eq 50, .iload 4, .goto 51, .iload 3, .istore 3, .iload 6, .ifCond .eq 56, .iload 5, .goto 57, .iload 2, .istore 2, .iinc 4 1, .goto 24, .iload 3, .bipush (-4), .if_icmp .ne 65, .bipush (-4), .goto 77, .iload 1, .ifCond .ne 69, .iload 2, .goto 77, .aload 0, .iload 3, .iload 1, .bipush 10, .isub, .aload 0, .getfield 904, .invokestatic 209, .ireturn]
theorem fModel_begin_0 : w_fe w_c206 0 1 (.iload 1) := ⟨rfl, rfl⟩
theorem fModel_begin_1 : w_if w_c206 1 2 .eq 10 := ⟨rfl, rfl⟩
theorem fModel_begin_2 : w_fe w_c206 2 3 (.aload 0) := ⟨rfl, rfl⟩
theorem fModel_begin_3 : w_fe w_c206 3 4 (.iload 1) := ⟨rfl, rfl⟩
theorem fModel_begin_4 : w_fe w_c206 4 5 (.bipush 10) := ⟨rfl, rfl⟩
theorem fModel_begin_5 : w_fe w_c206 5 6 (.fsub) := ⟨rfl, rfl⟩
theorem fModel_begin_6 : w_fe w_c206 6 7 (.invokestatic 181) := ⟨rfl, rfl⟩
theorem fModel_begin_7 : w_if w_c206 7 8 .ne 10 := ⟨rfl, rfl⟩
theorem fModel_begin_8 : w_fe w_c206 8 9 (.bipush (-1)) := ⟨rfl, rfl⟩
theorem fModel_begin_9 : w_fe w_c206 9 10 (.ireturn) := ⟨rfl, rfl⟩
theorem fModel_begin_10 : w_fe w_c206 10 11 (.aload 0) := ⟨rfl, rfl⟩
theorem fModel_begin_11 : w_fe w_c206 11 12 (.getfield 904) := ⟨rfl, rfl⟩
theorem fModel_begin_12 : w_if w_c206 12 13 .eq 16 := ⟨rfl, rfl⟩
theorem fModel_begin_13 : w_fe w_c206 13 14 (.aload 0) := ⟨rfl, rfl⟩
theorem fModel_begin_14 : w_fe w_c206 14 15 (.getfield 905) := ⟨rfl, rfl⟩
theorem fModel_begin_15 : w_if w_c206 15 16 .ne 18 := ⟨rfl, rfl⟩
theorem fModel_begin_16 : w_fe w_c206 16 17 (.bipush (-2)) := ⟨rfl, rfl⟩
theorem fModel_begin_17 : w_fe w_c206 17 18 (.ireturn) := ⟨rfl, rfl⟩
theorem fModel_begin_18 : w_fe w_c206 18 19 (.bipush 1000000) := ⟨rfl, rfl⟩
theorem fModel_begin_19 : w_fe w_c206 19 20 (.istore 2) := ⟨rfl, rfl⟩
theorem fModel_begin_20 : w_fe w_c206 20 21 (.bipush (-4)) := ⟨rfl, rfl⟩
theorem fModel_begin_21 : w_fe w_c206 21 22 (.istore 3) := ⟨rfl, rfl⟩
theorem fModel_begin_22 : w_fe w_c206 22 23 (.bipush 0) := ⟨rfl, rfl⟩
theorem fModel_begin_23 : w_fe w_c206 23 24 (.istore 4) := ⟨rfl, rfl⟩
theorem fModel_begin_24 : w_fe w_c206 24 25 (.iload 4) := ⟨rfl, rfl⟩
theorem fModel_begin_25 : w_fe w_c206 25 26 (.aload 0) := ⟨rfl, rfl⟩
theorem fModel_begin_26 : w_fe w_c206 26 27 (.aload 0) := ⟨rfl, rfl⟩
theorem fModel_begin_27 : w_fe w_c206 27 28 (.getfield 904) := ⟨rfl, rfl⟩
theorem fModel_begin_28 : w_fe w_c206 28 29 (.invokestatic 207) := ⟨rfl, rfl⟩
theorem fModel_begin_29 : w_ic w_c206 29 30 .ge 60 := ⟨rfl, rfl⟩
theorem fModel_begin_30 : w_fe w_c206 30 31 (.aload 0) := ⟨rfl, rfl⟩
theorem fModel_begin_31 : w_fe w_c206 31 32 (.iload 4) := ⟨rfl, rfl⟩
theorem fModel_begin_32 : w_fe w_c206 32 33 (.invokestatic 208) := ⟨rfl, rfl⟩
theorem fModel_begin_33 : w_fe w_c206 33 34 (.aload 0) := ⟨rfl, rfl⟩
theorem fModel_begin_34 : w_fe w_c206 34 35 (.invokestatic 204) := ⟨rfl, rfl⟩
theorem fModel_begin_35 : w_fe w_c206 35 36 (.istore 5) := ⟨rfl, rfl⟩
theorem fModel_begin_36 : w_fe w_c206 36 37 (.iload 5) := ⟨rfl, rfl⟩
theorem fModel_begin_37 : w_fe w_c206 37 38 (.bipush (-4)) := ⟨rfl, rfl⟩
theorem fModel_begin_38 : w_ic w_c206 38 39 .eq 44 := ⟨rfl, rfl⟩
theorem fModel_begin_39 : w_fe w_c206 39 40 (.iload 5) := ⟨rfl, rfl⟩
theorem fModel_begin_40 : w_fe w_c206 40 41 (.iload 2) := ⟨rfl, rfl⟩
theorem fModel_begin_41 : w_ic w_c206 41 42 .ge 44 := ⟨rfl, rfl⟩
theorem fModel_begin_42 : w_fe w_c206 42 43 (.bipush 1) := ⟨rfl, rfl⟩
theorem fModel_begin_43 : w_gt w_c206 43 45 := rfl
theorem fModel_begin_44 : w_fe w_c206 44 45 (.bipush 0) := ⟨rfl, rfl⟩
theorem fModel_begin_45 : w_fe w_c206 45 46 (.istore 6) := ⟨rfl, rfl⟩
theorem fModel_begin_46 : w_fe w_c206 46 47 (.iload 6) := ⟨rfl, rfl⟩
theorem fModel_begin_47 : w_if w_c206 47 48 .eq 50 := ⟨rfl, rfl⟩
theorem fModel_begin_48 : w_fe w_c206 48 49 (.iload 4) := ⟨rfl, rfl⟩
theorem fModel_begin_49 : w_gt w_c206 49 51 := rfl
theorem fModel_begin_50 : w_fe w_c206 50 51 (.iload 3) := ⟨rfl, rfl⟩
theorem fModel_begin_51 : w_fe w_c206 51 52 (.istore 3) := ⟨rfl, rfl⟩
theorem fModel_begin_52 : w_fe w_c206 52 53 (.iload 6) := ⟨rfl, rfl⟩
theorem fModel_begin_53 : w_if w_c206 53 54 .eq 56 := ⟨rfl, rfl⟩
theorem fModel_begin_54 : w_fe w_c206 54 55 (.iload 5) := ⟨rfl, rfl⟩
theorem fModel_begin_55 : w_gt w_c206 55 57 := rfl
theorem fModel_begin_56 : w_fe w_c206 56 57 (.iload 2) := ⟨rfl, rfl⟩
theorem fModel_begin_57 : w_fe w_c206 57 58 (.istore 2) := ⟨rfl, rfl⟩
theorem fModel_begin_58 : w_fe w_c206 58 59 (.iinc 4 1) := ⟨rfl, rfl⟩
theorem fModel_begin_59 : w_gt w_c206 59 24 := rfl
theorem fModel_begin_60 : w_fe w_c206 60 61 (.iload 3) := ⟨rfl, rfl⟩
theorem fModel_begin_61 : w_fe w_c206 61 62 (.bipush (-4)) := ⟨rfl, rfl⟩
theorem fModel_begin_62 : w_ic w_c206 62 63 .ne 65 := ⟨rfl, rfl⟩
theorem fModel_begin_63 : w_fe w_c206 63 64 (.bipush (-4)) := ⟨rfl, rfl⟩
theorem fModel_begin_64 : w_gt w_c206 64 77 := rfl
theorem fModel_begin_65 : w_fe w_c206 65 66 (.iload 1) := ⟨rfl, rfl⟩
theorem fModel_begin_66 : w_if w_c206 66 67 .ne 69 := ⟨rfl, rfl⟩
theorem fModel_begin_67 : w_fe w_c206 67 68 (.iload 2) := ⟨rfl, rfl⟩
theorem fModel_begin_68 : w_gt w_c206 68 77 := rfl
theorem fModel_begin_69 : w_fe w_c206 69 70 (.aload 0) := ⟨rfl, rfl⟩
theorem fModel_begin_70 : w_fe w_c206 70 71 (.iload 3) := ⟨rfl, rfl⟩
theorem fModel_begin_71 : w_fe w_c206 71 72 (.iload 1) := ⟨rfl, rfl⟩
theorem fModel_begin_72 : w_fe w_c206 72 73 (.bipush 10) := ⟨rfl, rfl⟩
theorem fModel_begin_73 : w_fe w_c206 73 74 (.isub) := ⟨rfl, rfl⟩
theorem fModel_begin_74 : w_fe w_c206 74 75 (.aload 0) := ⟨rfl, rfl⟩
theorem fModel_begin_75 : w_fe w_c206 75 76 (.getfield 904) := ⟨rfl, rfl⟩
theorem fModel_begin_76 : w_fe w_c206 76 77 (.invokestatic 209) := ⟨rfl, rfl⟩
theorem fModel_begin_77 : w_fe w_c206 77 78 (.ireturn) := ⟨rfl, rfl⟩
noncomputable def LModel_begin_24 (xs : List Int) (d : Nat) (Q : Option w_V → w_M → Prop) (v1 : Int) (v2 : Int) (v3 : Int) (v4 : Int) (σ : w_M) : Prop := ∀ l5, w_nl l5 → ∀ l6, w_nl l6 → w_Ex (xs, d) 1 w_c206 Q 24 [some (.inr (.inr (9, 122))), some (.inl v1), some (.inl v2), some (.inl v3), some (.inl v4), l5, l6] [] σ
set_option maxRecDepth 20000 in
theorem bModel_begin_0 {xs : List Int} {d : Nat} {Q : Option w_V → w_M → Prop} {x1 : Int} {σ : w_M}
    (h : (x1 = 0 → (((σ 122 4) = 0 → Q (some (.inl (-2))) σ) ∧ (¬ (σ 122 4) = 0 → ((¬ (σ 122 5) = 0 → LModel_begin_24 xs (d + 6) Q x1 1000000 (-4) 0 σ) ∧ ((σ 122 5) = 0 → Q (some (.inl (-2))) σ))))) ∧ (¬ x1 = 0 → (p_Model_isReaper (w_wr (x1 - 10)) σ ∧ (((0 ≤ (w_wr (x1 - 10)) ∧ (w_wr (x1 - 10)) < σ 122 5) → (((σ 122 4) = 0 → Q (some (.inl (-2))) σ) ∧ (¬ (σ 122 4) = 0 → ((¬ (σ 122 5) = 0 → LModel_begin_24 xs (d + 6) Q x1 1000000 (-4) 0 σ) ∧ ((σ 122 5) = 0 → Q (some (.inl (-2))) σ))))) ∧ (¬ (0 ≤ (w_wr (x1 - 10)) ∧ (w_wr (x1 - 10)) < σ 122 5) → Q (some (.inl (-1))) σ))))) : w_Call (xs, (d + 6)) 206 [.inr (.inr (9, 122)), .inl x1] σ Q :=
  (w_mk (mid := 206) (by decide) rfl rfl rfl rfl rfl (Nat.le_of_ble_eq_true rfl) ⟨rfl, Or.inl (by decide)⟩ (wi_iload1 fModel_begin_0 (wi_if_eq fModel_begin_1 (fun c6 => (wi_aload0 fModel_begin_10 (wi_getf904 fModel_begin_11 (wi_if_eq fModel_begin_12 (fun c2 => (wi_bipush fModel_begin_16 (wi_ret1 fModel_begin_17 ((h.1 c6).1 c2)))) (fun c2 => (wi_aload0 fModel_begin_13 (wi_getf905 fModel_begin_14 (wi_if_ne fModel_begin_15 (fun c1 => (wi_bipush fModel_begin_18 (wi_istore2 fModel_begin_19 trivial (wi_bipush fModel_begin_20 (wi_istore3 fModel_begin_21 trivial (wi_bipush fModel_begin_22 (wi_istore4 fModel_begin_23 trivial ((((h.1 c6).2 c2).1 c1) _ (by exact trivial) _ (by exact trivial))))))))) (fun c1 => (wi_bipush fModel_begin_16 (wi_ret1 fModel_begin_17 (((h.1 c6).2 c2).2 c1)))))))))))) (fun c6 => (wi_aload0 fModel_begin_2 (wi_iload1 fModel_begin_3 (wi_bipush fModel_begin_4 (wi_fsub fModel_begin_5 (wi_call2 fModel_begin_6 (Nat.le_of_ble_eq_true rfl) (k_Model_isReaper (h.2 c6).1 (wi_ifb_ne fModel_begin_7 (fun c5 => (wi_aload0 fModel_begin_10 (wi_getf904 fModel_begin_11 (wi_if_eq fModel_begin_12 (fun c4 => (wi_bipush fModel_begin_16 (wi_ret1 fModel_begin_17 (((h.2 c6).2.1 c5).1 c4)))) (fun c4 => (wi_aload0 fModel_begin_13 (wi_getf905 fModel_begin_14 (wi_if_ne fModel_begin_15 (fun c3 => (wi_bipush fModel_begin_18 (wi_istore2 fModel_begin_19 trivial (wi_bipush fModel_begin_20 (wi_istore3 fModel_begin_21 trivial (wi_bipush fModel_begin_22 (wi_istore4 fModel_begin_23 trivial (((((h.2 c6).2.1 c5).2 c4).1 c3) _ (by exact trivial) _ (by exact trivial))))))))) (fun c3 => (wi_bipush fModel_begin_16 (wi_ret1 fModel_begin_17 ((((h.2 c6).2.1 c5).2 c4).2 c3)))))))))))) (fun c5 => (wi_bipush fModel_begin_8 (wi_ret1 fModel_begin_9 ((h.2 c6).2.2 c5)))))))))))))))
set_option maxRecDepth 20000 in
theorem bModel_begin_24 {xs : List Int} {d : Nat} {Q : Option w_V → w_M → Prop} {v1 : Int} {v2 : Int} {v3 : Int} {v4 : Int} {σ : w_M}
    (h : p_Model_rowsOf (σ 122 4) σ ∧ (∀ (y1 : Int), y1 = v_Model_rowsOf (σ 122 4) σ → ((y1 ≤ v4 → ((¬ v3 = (-4) → ((¬ v1 = 0 → (w_in (v1 - 10) ∧ p_Model_toldBy v3 (v1 - 10) (σ 122 4) σ ∧ (∀ (y2 : Int), y2 = v_Model_toldBy v3 (v1 - 10) (σ 122 4) σ → Q (some (.inl y2)) σ))) ∧ (v1 = 0 → Q (some (.inl v2)) σ))) ∧ (v3 = (-4) → Q (some (.inl (-4))) σ))) ∧ (v4 < y1 → (p_Model_begins v4 σ ∧ (∀ (τ5 : w_M), q_Model_begins v4 σ τ5 → (p_Model_doneBehind τ5 ∧ (∀ (y6 : Int) (τ7 : w_M), q_Model_doneBehind τ5 y6 τ7 → ((y6 = (-4) → (w_in (v4 + 1) ∧ LModel_begin_24 xs (d + 6) Q v1 v2 v3 (v4 + 1) τ7)) ∧ (¬ y6 = (-4) → ((v2 ≤ y6 → (w_in (v4 + 1) ∧ LModel_begin_24 xs (d + 6) Q v1 v2 v3 (v4 + 1) τ7)) ∧ (y6 < v2 → (w_in (v4 + 1) ∧ LModel_begin_24 xs (d + 6) Q v1 y6 v4 (v4 + 1) τ7))))))))))))) : LModel_begin_24 xs (d + 6) Q v1 v2 v3 v4 σ :=
  fun l5 nl5 => fun l6 nl6 => (wi_iload4 fModel_begin_24 (wi_aload0 fModel_begin_25 (wi_aload0 fModel_begin_26 (wi_getf904 fModel_begin_27 (wi_call2 fModel_begin_28 (Nat.le_of_ble_eq_true rfl) (k_Model_rowsOf h.1 (wi_ic_ge fModel_begin_29 (fun c10 => (wi_iload3 fModel_begin_60 (wi_bipush fModel_begin_61 (wi_ic_ne fModel_begin_62 (fun c4 => (wi_iload1 fModel_begin_65 (wi_if_ne fModel_begin_66 (fun c3 => (wi_aload0 fModel_begin_69 (wi_iload3 fModel_begin_70 (wi_iload1 fModel_begin_71 (wi_bipush fModel_begin_72 (wi_isub fModel_begin_73 ((((h.2 _ rfl).1 c10).1 c4).1 c3).1 (wi_aload0 fModel_begin_74 (wi_getf904 fModel_begin_75 (wi_call4 fModel_begin_76 (Nat.le_of_ble_eq_true rfl) (k_Model_toldBy ((((h.2 _ rfl).1 c10).1 c4).1 c3).2.1 (wi_ret1 fModel_begin_77 (((((h.2 _ rfl).1 c10).1 c4).1 c3).2.2 _ rfl)))))))))))) (fun c3 => (wi_iload2 fModel_begin_67 (wi_goto fModel_begin_68 (wi_ret1 fModel_begin_77 ((((h.2 _ rfl).1 c10).1 c4).2 c3)))))))) (fun c4 => (wi_bipush fModel_begin_63 (wi_goto fModel_begin_64 (wi_ret1 fModel_begin_77 (((h.2 _ rfl).1 c10).2 c4))))))))) (fun c10 => (wi_aload0 fModel_begin_30 (wi_iload4 fModel_begin_31 (wi_call2 fModel_begin_32 (Nat.le_of_ble_eq_true rfl) (k_Model_begins ((h.2 _ rfl).2 c10).1 (fun τ5 eτ5 => (wi_aload0 fModel_begin_33 (wi_call1 fModel_begin_34 (Nat.le_of_ble_eq_true rfl) (k_Model_doneBehind (((h.2 _ rfl).2 c10).2 τ5 eτ5).1 (fun y6 τ7 eτ7 => (wi_istore5 fModel_begin_35 trivial (wi_iload5 fModel_begin_36 (wi_bipush fModel_begin_37 (wi_ic_eq fModel_begin_38 (fun c9 => (wi_bipush fModel_begin_44 (wi_istore6 fModel_begin_45 trivial (wi_iload6 fModel_begin_46 (wi_if_eq fModel_begin_47 (fun _ => (wi_iload3 fModel_begin_50 (wi_istore3 fModel_begin_51 trivial (wi_iload6 fModel_begin_52 (wi_if_eq fModel_begin_53 (fun _ => (wi_iload2 fModel_begin_56 (wi_istore2 fModel_begin_57 trivial (wi_iinc4 fModel_begin_58 trivial (((((h.2 _ rfl).2 c10).2 τ5 eτ5).2 y6 τ7 eτ7).1 c9).1 (wi_goto fModel_begin_59 ((((((h.2 _ rfl).2 c10).2 τ5 eτ5).2 y6 τ7 eτ7).1 c9).2 _ (by exact trivial) _ (by exact trivial))))))) (fun e => absurd e (by decide))))))) (fun e => absurd e (by decide))))))) (fun c9 => (wi_iload5 fModel_begin_39 (wi_iload2 fModel_begin_40 (wi_ic_ge fModel_begin_41 (fun c8 => (wi_bipush fModel_begin_44 (wi_istore6 fModel_begin_45 trivial (wi_iload6 fModel_begin_46 (wi_if_eq fModel_begin_47 (fun _ => (wi_iload3 fModel_begin_50 (wi_istore3 fModel_begin_51 trivial (wi_iload6 fModel_begin_52 (wi_if_eq fModel_begin_53 (fun _ => (wi_iload2 fModel_begin_56 (wi_istore2 fModel_begin_57 trivial (wi_iinc4 fModel_begin_58 trivial ((((((h.2 _ rfl).2 c10).2 τ5 eτ5).2 y6 τ7 eτ7).2 c9).1 c8).1 (wi_goto fModel_begin_59 (((((((h.2 _ rfl).2 c10).2 τ5 eτ5).2 y6 τ7 eτ7).2 c9).1 c8).2 _ (by exact trivial) _ (by exact trivial))))))) (fun e => absurd e (by decide))))))) (fun e => absurd e (by decide))))))) (fun c8 => (wi_bipush fModel_begin_42 (wi_goto fModel_begin_43 (wi_istore6 fModel_begin_45 trivial (wi_iload6 fModel_begin_46 (wi_if_eq fModel_begin_47 (fun e => absurd e (by decide)) (fun _ => (wi_iload4 fModel_begin_48 (wi_goto fModel_begin_49 (wi_istore3 fModel_begin_51 trivial (wi_iload6 fModel_begin_52 (wi_if_eq fModel_begin_53 (fun e => absurd e (by decide)) (fun _ => (wi_iload5 fModel_begin_54 (wi_goto fModel_begin_55 (wi_istore2 fModel_begin_57 trivial (wi_iinc4 fModel_begin_58 trivial ((((((h.2 _ rfl).2 c10).2 τ5 eτ5).2 y6 τ7 eτ7).2 c9).2 c8).1 (wi_goto fModel_begin_59 (((((((h.2 _ rfl).2 c10).2 τ5 eτ5).2 y6 τ7 eτ7).2 c9).2 c8).2 _ (by exact trivial) _ (by exact trivial)))))))))))))))))))))))))))))))))))))))))))))
theorem k_Model_begin {xs : List Int} {d : Nat} {Q : Option w_V → w_M → Prop} {x1 : Int} {σ : w_M} (hp : p_Model_begin x1 σ) (hQ : ∀ (x : Int) (σ' : w_M), q_Model_begin x1 σ x σ' → Q (some (.inl x)) σ') : w_Call (xs, d + 6) 206 [.inr (.inr (9, 122)), .inl x1] σ Q := by
  refine w_Call_as (fun has => ?_)
  have hx : w_in x1 := has (.inl x1) (by simp)
  have hM : MI σ := hp
  have hok := hM.ok
  have hs := hM.s
  have hn := hM.n
  have hrs := m_ok.hrs hok
  have hr : 0 ≤ σ 123 42 ∧ σ 123 42 ≤ σ 122 3 := m_ok.hr hok
  have hs1 := n_s_pos hok
  unfold q_Model_begin F_begin ft_r at hQ
  have e5 : mS σ 0 0 5 = σ 122 5 := rfl
  have e4 : mS σ 0 0 4 = σ 122 4 := rfl
  have eA : mS σ 0 = w_am σ 123 0 := rfl
  rw [e5, e4, eA] at hQ
  have en : n_n (w_am σ 123 0) = (σ 122 5).toNat := rfl
  have es : n_s (w_am σ 123 0) = (σ 122 4).toNat := rfl
  have st : (x1 = 0 ∨ (10 ≤ x1 ∧ x1 - 10 < σ 122 5)) → (σ 122 4 = 0 ∨ σ 122 5 = 0) → Q (some (.inl (-2))) σ := fun h1 h2 => by
    rw [if_pos h1, if_pos h2] at hQ
    exact hQ _ _ (m_qr hM rfl)
  have main : (x1 = 0 ∨ (10 ≤ x1 ∧ x1 - 10 < σ 122 5)) → ¬ σ 122 4 = 0 → ¬ σ 122 5 = 0 → LModel_begin_24 xs (d + 6) Q x1 1000000 (-4) 0 σ := by
    intro hw h4 h5
    rw [if_pos hw, if_neg (by omega)] at hQ
    have hW : n_WF (w_am σ 123 0) := hok
    have a0 : w_am σ 123 0 0 0 = σ 122 3 := rfl
    have a1 : w_am σ 123 0 0 1 = σ 123 42 := rfl
    generalize hA : w_am σ 123 0 = A at *
    have hB7 : n_s A ≤ 7 := by omega
    have hn4 : n_n A ≤ 4 := by omega
    have p7 := pow7 hB7 hn4
    have hfl12 : ∀ k, sn_f A k = -4 ∨ (0 ≤ sn_f A k ∧ sn_f A k ≤ 12) := fun k => by have := sn_f_le hW k; omega
    refine (w_loop (n := n_s A ^ n_n A) (P := fun k => ∀ τ : w_M, w_f1 σ τ 124 → LModel_begin_24 xs (d + 6) Q x1 (sn_F (sn_f A) k).1 (sn_F (sn_f A) k).2 (k : Int) τ) ?_ ?_) σ w_f1.rfl'
    · intro τ F
      have z2 : τ 122 = σ 122 := F 122 (by decide)
      have hsn := sn_F_le hfl12 (n_s A ^ n_n A)
      refine bModel_begin_24 ⟨⟨by rw [z2]; omega, by rw [z2]; exact hn⟩, fun y ey => ?_⟩
      unfold v_Model_rowsOf at ey
      rw [z2, ← es, ← en] at ey
      refine ⟨fun _ => ⟨fun c => ⟨fun c2 => ⟨⟨by omega, by omega⟩, ⟨by omega, by rw [z2]; omega, by rw [z2]; omega, by rw [z2]; omega⟩, fun y2 e2 => ?_⟩, fun c2 => ?_⟩, fun c => ?_⟩, fun h => by omega⟩
      · rw [if_neg c, if_neg c2] at hQ
        refine hQ _ _ (m_qs hM F ?_)
        rw [e2]
        unfold v_Model_toldBy
        rw [z2, ← es, ← en]
      · rw [if_neg c, if_pos c2] at hQ
        exact hQ _ _ (m_qs hM F rfl)
      · rw [if_pos c] at hQ
        exact hQ _ _ (m_qs hM F rfl)
    · intro k hk ih τ F
      have z2 : τ 122 = σ 122 := F 122 (by decide)
      have z3 : τ 123 = σ 123 := F 123 (by decide)
      refine bModel_begin_24 ⟨⟨by rw [z2]; omega, by rw [z2]; exact hn⟩, fun y ey => ?_⟩
      unfold v_Model_rowsOf at ey
      rw [z2, ← es, ← en] at ey
      refine ⟨fun h => by omega, fun _ => ⟨⟨⟨by unfold m_sm; rw [z2]; exact hM.sm, by omega, by omega⟩, by rw [z2]; exact hs, by rw [z2]; exact hn, by rw [z2]; omega⟩, fun τ3 hq3 => ?_⟩⟩
      obtain ⟨a3, F3⟩ := hq3
      have eA2 : w_am τ 123 0 = A := by rw [← hA]; exact w_am_fr (by rw [z2]; exact ⟨rfl, rfl, rfl⟩) z3
      rw [eA2, Int.toNat_natCast] at a3
      have W3 : n_WF (n_row A k) := n_row_WF hW hs1 k
      refine ⟨by unfold p_Model_doneBehind m_ok; rw [a3]; exact W3, fun y6 τ7 hq7 => ?_⟩
      obtain ⟨-, ey6, F7⟩ := hq7
      rw [a3] at ey6
      have ey6' : y6 = sn_f A k := ey6
      have F7' : w_f1 σ τ7 124 := (F.tr F3).tr F7
      simp only [sn_F] at ih
      rw [w_cs1] at ih
      refine ⟨fun c => ⟨⟨by omega, by omega⟩, ?_⟩, fun c => ⟨fun c2 => ⟨⟨by omega, by omega⟩, ?_⟩, fun c2 => ⟨⟨by omega, by omega⟩, ?_⟩⟩⟩
      · rw [if_neg (fun q => q.1 (by omega))] at ih
        exact ih τ7 F7'
      · rw [if_neg (fun q => by have := q.2; omega)] at ih
        exact ih τ7 F7'
      · rw [if_pos ⟨by omega, by omega⟩] at ih
        rw [ey6']
        exact ih τ7 F7'
  have hi := w_wr10 hx hn
  refine bModel_begin_0 ⟨fun c => ⟨fun c2 => st (Or.inl c) (Or.inl c2), fun c2 => ⟨fun c3 => main (Or.inl c) c2 c3, fun c3 => st (Or.inl c) (Or.inr c3)⟩⟩, fun c => ⟨hn, fun ca => ⟨fun c2 => st (Or.inr (hi.mp ca)) (Or.inl c2), fun c2 => ⟨fun c3 => main (Or.inr (hi.mp ca)) c2 c3, fun c3 => st (Or.inr (hi.mp ca)) (Or.inr c3)⟩⟩, fun ca => ?_⟩⟩
  rw [if_neg (fun q => q.elim c (fun q => ca (hi.mpr q)))] at hQ
  exact hQ _ _ (m_qr hM rfl)
end
section
/-! The least oil of all, pure: rows of choices by their numbers; oil beyond the hours with clouds changes nothing -/
noncomputable def nb (B : Nat) : Nat → (Nat → Nat) → Nat
  | 0, _ => 0
  | n + 1, f => nb B n f * B + f n
theorem nb_congr {B : Nat} {f g : Nat → Nat} : ∀ n, (∀ r, r < n → f r = g r) → nb B n f = nb B n g := by
  intro n
  induction n with
  | zero => intro _; rfl
  | succ n ih => intro h; simp only [nb]; rw [ih (fun r hr => h r (by omega)), h n (by omega)]
theorem dg_s {B n k r : Nat} (hr : r < n) : dg B (n + 1) k r = dg B n (k / B) r := by
  unfold dg
  rw [show n + 1 - 1 - r = (n - 1 - r) + 1 by omega]
  rfl
theorem dg_last {B n k : Nat} : dg B (n + 1) k n = k % B := by
  unfold dg
  rw [show n + 1 - 1 - n = 0 by omega]
  rfl
theorem nb_dg {B : Nat} : ∀ n k, k < B ^ n → nb B n (dg B n k) = k := by
  intro n
  induction n with
  | zero => intro k h; simp at h; simp [nb, h]
  | succ n ih =>
    intro k h
    simp only [nb]
    rw [nb_congr n (fun r hr => dg_s hr), dg_last, ih (k / B) (by rw [Nat.pow_succ, Nat.mul_comm] at h; exact Nat.div_lt_of_lt_mul h)]
    rw [Nat.mul_comm]
    exact Nat.div_add_mod k B
theorem nb_lt {B : Nat} {f : Nat → Nat} : ∀ n, (∀ r, r < n → f r < B) → nb B n f < B ^ n := by
  intro n
  induction n with
  | zero => intro _; simp [nb]
  | succ n ih =>
    intro h
    have h1 := ih (fun r hr => h r (by omega))
    have h2 := h n (by omega)
    simp only [nb]
    rw [Nat.pow_succ]
    have h3 : (nb B n f + 1) * B ≤ B ^ n * B := Nat.mul_le_mul_right B h1
    rw [Nat.add_mul, Nat.one_mul] at h3
    omega
theorem dg_nb {B : Nat} {f : Nat → Nat} : ∀ n, (∀ r, r < n → f r < B) → ∀ r, r < n → dg B n (nb B n f) r = f r := by
  intro n
  induction n with
  | zero => intro _ r hr; omega
  | succ n ih =>
    intro h r hr
    have h2 := h n (by omega)
    have e1 : (nb B n f * B + f n) / B = nb B n f := by
      rw [Nat.mul_comm, Nat.mul_add_div (by omega), Nat.div_eq_of_lt h2, Nat.add_zero]
    have e2 : (nb B n f * B + f n) % B = f n := by
      rw [Nat.mul_comm, Nat.mul_add_mod, Nat.mod_eq_of_lt h2]
    by_cases hn : r = n
    · subst hn
      rw [dg_last]
      exact e2
    · rw [dg_s (by omega)]
      simp only [nb]
      rw [e1]
      exact ih (fun q hq => h q (by omega)) r (by omega)
theorem mul_lex {B a b x y : Nat} (hx : x < B) (hy : y < B) : a * B + x ≤ b * B + y ↔ (a < b ∨ (a = b ∧ x ≤ y)) := by
  constructor
  · intro h
    by_cases h1 : a < b
    · exact Or.inl h1
    · right
      by_cases h2 : a = b
      · subst h2; exact ⟨rfl, by omega⟩
      · exfalso
        have : (b + 1) * B ≤ a * B := Nat.mul_le_mul_right B (by omega)
        rw [Nat.add_mul, Nat.one_mul] at this
        omega
  · rintro (h | ⟨h1, h2⟩)
    · have : (a + 1) * B ≤ b * B := Nat.mul_le_mul_right B h
      rw [Nat.add_mul, Nat.one_mul] at this
      omega
    · subst h1; omega
theorem nb_lex {B D : Nat} {f g : Nat → Nat} : ∀ n, (∀ r, r < n → (f r < B ∧ g r < B) ∧ (f r < D ∧ g r < D)) → (nb B n f ≤ nb B n g ↔ nb D n f ≤ nb D n g) ∧ (nb B n g ≤ nb B n f ↔ nb D n g ≤ nb D n f) := by
  intro n
  induction n with
  | zero => intro _; simp [nb]
  | succ n ih =>
    intro h
    obtain ⟨i1, i2⟩ := ih (fun r hr => h r (by omega))
    obtain ⟨⟨a1, a2⟩, b1, b2⟩ := h n (by omega)
    simp only [nb]
    rw [mul_lex a1 a2, mul_lex b1 b2, mul_lex a2 a1, mul_lex b2 b1]
    omega
theorem nb_inj {B : Nat} {f g : Nat → Nat} (n : Nat) (hf : ∀ r, r < n → f r < B) (hg : ∀ r, r < n → g r < B) (h : nb B n f = nb B n g) : ∀ r, r < n → f r = g r := fun r hr => by
  rw [← dg_nb n hf r hr, ← dg_nb n hg r hr, h]
/-- the least sum of those at which it is done, the first of them -/
noncomputable def ls_F (s d : Nat → Int) : Nat → Int × Int
  | 0 => (1000000, -4)
  | k + 1 => if s k < (ls_F s d k).1 ∧ d k ≠ -4 then (s k, (k : Int)) else ls_F s d k
theorem ls_spec {s d : Nat → Int} (hs : ∀ i, 0 ≤ s i ∧ s i ≤ 36) : ∀ k : Nat, ((ls_F s d k).2 = -4 ∧ (ls_F s d k).1 = 1000000 ∧ ∀ i, i < k → d i = -4) ∨
    (∃ m : Nat, m < k ∧ (ls_F s d k).2 = (m : Int) ∧ (ls_F s d k).1 = s m ∧ d m ≠ -4 ∧ (∀ i, i < k → d i ≠ -4 → s m ≤ s i) ∧ (∀ i, i < m → d i ≠ -4 → s m < s i)) := by
  intro k
  induction k with
  | zero => exact Or.inl ⟨rfl, rfl, fun i hi => by omega⟩
  | succ k ih =>
    have hk := hs k
    simp only [ls_F]
    rcases ih with ⟨h1, h2, h3⟩ | ⟨m, hm, h1, h2, h3, h4, h5⟩
    · by_cases c : s k < (ls_F s d k).1 ∧ d k ≠ -4
      · rw [if_pos c]
        right
        refine ⟨k, by omega, rfl, rfl, c.2, fun i hi hd => ?_, fun i hi hd => absurd (h3 i hi) hd⟩
        by_cases e : i = k
        · rw [e]; exact Int.le_refl _
        · exact absurd (h3 i (by omega)) hd
      · rw [if_neg c]
        left
        refine ⟨h1, h2, fun i hi => ?_⟩
        by_cases e : i = k
        · rw [e]
          by_cases hd : d k = -4
          · exact hd
          · exact absurd ⟨by omega, hd⟩ c
        · exact h3 i (by omega)
    · by_cases c : s k < (ls_F s d k).1 ∧ d k ≠ -4
      · rw [if_pos c]
        right
        rw [h2] at c
        refine ⟨k, by omega, rfl, rfl, c.2, fun i hi hd => ?_, fun i hi hd => ?_⟩
        · by_cases e : i = k
          · rw [e]; exact Int.le_refl _
          · have := h4 i (by omega) hd; omega
        · have := h4 i hi hd; omega
      · rw [if_neg c]
        right
        refine ⟨m, by omega, h1, h2, h3, fun i hi hd => ?_, h5⟩
        by_cases e : i = k
        · rw [e] at hd ⊢
          by_cases hl : s m ≤ s k
          · exact hl
          · exact absurd ⟨by omega, hd⟩ c
        · exact h4 i (by omega) hd
theorem ls_stay {s d : Nat → Int} {k : Nat} : ∀ j : Nat, (∀ i, k ≤ i → i < k + j → ¬ (s i < (ls_F s d k).1 ∧ d i ≠ -4)) → ls_F s d (k + j) = ls_F s d k := by
  intro j
  induction j with
  | zero => intro _; rfl
  | succ j ih =>
    intro h
    have e := ih (fun i h1 h2 => h i h1 (by omega))
    show (if s (k + j) < (ls_F s d (k + j)).1 ∧ d (k + j) ≠ -4 then (s (k + j), ((k + j : Nat) : Int)) else ls_F s d (k + j)) = _
    rw [e, if_neg (h (k + j) (by omega) (by omega))]
/-- a night with other oil -/
noncomputable def n_bo (A : w_M) (f : Nat → Int) : w_M := fun d i => if d = 4 ∧ i < n_n A then f i else A d i
theorem n_bo_ne {A : w_M} {f : Nat → Int} {d : Nat} (h : d ≠ 4) : n_bo A f d = A d := by
  funext i
  unfold n_bo
  rw [if_neg (fun q => h q.1)]
theorem n_bo_4 {A : w_M} {f : Nat → Int} {r : Nat} (h : r < n_n A) : n_bo A f 4 r = f r := if_pos ⟨rfl, h⟩
theorem n_bo_sd {A : w_M} {f : Nat → Int} : n_sd (n_bo A f) = n_sd A := by unfold n_sd n_s; rw [n_bo_ne (by decide), n_bo_ne (by decide)]
theorem n_bo_n {A : w_M} {f : Nat → Int} : n_n (n_bo A f) = n_n A := by unfold n_n; rw [n_bo_ne (by decide)]
theorem n_bo_WF {A : w_M} (h : n_WF A) {f : Nat → Int} (hf : ∀ r, r < n_n A → 0 ≤ f r ∧ f r ≤ 9) : n_WF (n_bo A f) := by
  have e : ∀ d, d ≠ 4 → n_bo A f d = A d := fun d hd => n_bo_ne hd
  have es : n_s (n_bo A f) = n_s A := by unfold n_s; rw [e 0 (by decide)]
  unfold n_WF at h ⊢
  rw [es, n_bo_n, e 0 (by decide), e 1 (by decide), e 2 (by decide), e 3 (by decide), e 6 (by decide), e 5 (by decide), e 9 (by decide)]
  refine ⟨h.1, h.2.1, h.2.2.1, h.2.2.2.1, h.2.2.2.2.1, h.2.2.2.2.2.1, fun r hr => ?_⟩
  have := h.2.2.2.2.2.2 r hr
  rw [n_bo_4 hr]
  exact ⟨this.1, hf r hr, this.2.2.1, this.2.2.2⟩
theorem n_bo_congr {A : w_M} {f g : Nat → Int} (h : ∀ r, r < n_n A → f r = g r) : n_bo A f = n_bo A g := by
  funext d i
  unfold n_bo
  by_cases c : d = 4 ∧ i < n_n A
  · rw [if_pos c, if_pos c, h i c.2]
  · rw [if_neg c, if_neg c]
/-- nights alike but for oil that both have enough of, each reaper by his bound -/
noncomputable def ol_R (g : Nat → Int) (X Y : w_M) : Prop := (∀ d, d ≠ 4 → Y d = X d) ∧ ∀ r, r < n_n X → Y 4 r = X 4 r ∨ (g r ≤ X 4 r ∧ g r ≤ Y 4 r)
theorem ol_R.near {g : Nat → Int} {X Y : w_M} (h : ol_R g X Y) (f : Int) : n_near Y f = n_near X f := by
  have e1 := h.1 1 (by decide)
  have key : ∀ k : Nat, n_nearF Y f k = n_nearF X f k := by
    intro k
    induction k with
    | zero => rfl
    | succ k ih => simp only [n_nearF]; rw [ih, e1]
  unfold n_near n_s
  rw [h.1 0 (by decide), key]
theorem ol_R.up {g : Nat → Int} {X Y : w_M} (h : ol_R g X Y) {d i : Nat} {x : Int} (hd : d ≠ 4) (h0 : ¬ (d = 0 ∧ i = 5)) : ol_R g (w_up X d i x) (w_up Y d i x) := by
  refine ⟨fun e he => ?_, fun r hr => ?_⟩
  · funext j
    rw [w_up_eq, w_up_eq, h.1 e he]
  · rw [w_up_ne (fun q => hd q.symm), w_up_ne (fun q => hd q.symm)]
    refine h.2 r ?_
    unfold n_n at hr ⊢
    rw [w_up_eq, if_neg (fun q => h0 ⟨q.1.symm, q.2.symm⟩)] at hr
    exact hr
theorem ol_R.work {g : Nat → Int} {X Y : w_M} (h : ol_R g X Y) {r : Nat} (hr : r < n_n X) {c : Int} (hc : c = 0 ∨ c = 1) (hg : c ≤ g r) : ol_R (fun q => if q = r then g q - c else g q) (n_work X r c) (n_work Y r c) := by
  have e5 := h.1 5 (by decide)
  have e6 := h.1 6 (by decide)
  have weak : ∀ {X' Y' : w_M}, ol_R g X' Y' → ol_R (fun q => if q = r then g q - c else g q) X' Y' := fun {X' Y'} h' => ⟨h'.1, fun q hq => by
    rcases h'.2 q hq with e | ⟨e1, e2⟩
    · exact Or.inl e
    · refine Or.inr ?_
      simp only []
      split
      · omega
      · exact ⟨e1, e2⟩⟩
  unfold n_work
  rw [e6, h.near, e5]
  split
  · exact weak h
  · split
    · exact weak ((h.up (by decide) (by omega)).up (by decide) (by omega))
    · have hiff : (c = 0 ∨ 0 < Y 4 r) ↔ (c = 0 ∨ 0 < X 4 r) := by
        rcases h.2 r hr with e | ⟨e1, e2⟩
        · rw [e]
        · omega
      have h2 : ol_R g (w_up (w_up X 6 r (n_near X (X 6 r))) 5 r (X 5 r - 1)) (w_up (w_up Y 6 r (n_near X (X 6 r))) 5 r (X 5 r - 1)) := (h.up (by decide) (by omega)).up (by decide) (by omega)
      by_cases ho : c = 0 ∨ 0 < X 4 r
      · rw [if_pos (hiff.mpr ho), if_pos ho]
        have h3 : ol_R (fun q => if q = r then g q - c else g q) (w_up (w_up (w_up X 6 r (n_near X (X 6 r))) 5 r (X 5 r - 1)) 4 r (X 4 r - c)) (w_up (w_up (w_up Y 6 r (n_near X (X 6 r))) 5 r (X 5 r - 1)) 4 r (Y 4 r - c)) := by
          refine ⟨fun d hd => ?_, fun q hq => ?_⟩
          · rw [w_up_ne hd, w_up_ne hd]
            exact h2.1 d hd
          · by_cases e : q = r
            · subst e
              rw [w_up_at, w_up_at]
              simp only [if_pos rfl]
              rcases h.2 q hr with e | ⟨e1, e2⟩
              · exact Or.inl (by rw [e])
              · exact Or.inr (by simp only [if_true]; omega)
            · rw [w_up_j e, w_up_j e]
              simp only [if_neg e]
              refine h2.2 q ?_
              have hq' : q < n_n (w_up (w_up (w_up X 6 r (n_near X (X 6 r))) 5 r (X 5 r - 1)) 4 r (X 4 r - c)) := hq
              unfold n_n at hq' ⊢
              rw [w_up_ne (by decide)] at hq'
              exact hq'
        have ea : ∀ i, n_amt (w_up (w_up (w_up Y 6 r (n_near X (X 6 r))) 5 r (X 5 r - 1)) 4 r (Y 4 r - c)) r i = n_amt (w_up (w_up (w_up X 6 r (n_near X (X 6 r))) 5 r (X 5 r - 1)) 4 r (X 4 r - c)) r i := fun i => n_amt_congr (h3.1 1 (by decide)) (h3.1 3 (by decide)) (h3.1 9 (by decide))
        unfold n_cut
        rw [ea, h3.1 1 (by decide), h3.1 7 (by decide), h3.1 2 (by decide), h3.1 8 (by decide)]
        exact (((h3.up (by decide) (by omega)).up (by decide) (by omega)).up (by decide) (by omega)).up (by decide) (by omega)
      · rw [if_neg (fun q => ho (hiff.mp q)), if_neg ho]
        exact weak (h.up (by decide) (by omega))
theorem ol_R.hour {X Y : w_M} {m c : Int} (hX : n_WF X) (h : ol_R (fun _ => m) X Y) (hc : c = 0 ∨ c = 1) (hm : c ≤ m) : ol_R (fun _ => m - c) (n_hour X c) (n_hour Y c) := by
  have e0 := h.1 0 (by decide)
  have en : n_n Y = n_n X := by unfold n_n; rw [e0]
  have key : ∀ k : Nat, k ≤ n_n X → ol_R (fun q => if q < k then m - c else m) (n_hourF X c k) (n_hourF Y c k) := by
    intro k
    induction k with
    | zero => intro _; exact ⟨h.1, fun r hr => by have := h.2 r hr; simp only [Nat.not_lt_zero, if_false]; exact this⟩
    | succ k ih =>
      intro hk
      have g2 := (n_hourF_all hX hc k (by omega)).2.1
      have w := (ih (by omega)).work (r := k) (by rw [g2.n]; omega) hc (by simp only [Nat.lt_irrefl, if_false]; exact hm)
      refine ⟨w.1, fun r hr => ?_⟩
      have := w.2 r hr
      by_cases e : r = k
      · subst e
        simp only [Nat.lt_irrefl, if_false, if_true, if_pos (Nat.lt_succ_self _)] at this ⊢
        exact this
      · by_cases e2 : r < k
        · simp only [if_neg e, if_pos e2, if_pos (Nat.lt_succ_of_lt e2)] at this ⊢
          exact this
        · simp only [if_neg e, if_neg e2, if_neg (show ¬ r < k + 1 by omega)] at this ⊢
          exact this
  have k1 := key (n_n X) (Nat.le_refl _)
  have g2 := (n_hourF_all hX hc (n_n X) (Nat.le_refl _)).2.1
  unfold n_hour
  rw [en, e0]
  have k2 : ol_R (fun _ => m - c) (n_hourF X c (n_n X)) (n_hourF Y c (n_n X)) := ⟨k1.1, fun r hr => by
    have := k1.2 r hr
    rw [g2.n] at hr
    simp only [if_pos hr] at this
    exact this⟩
  exact k2.up (by decide) (by omega)
/-- the hours with clouds that are left from hour k on -/
noncomputable def ol_m (A : w_M) (k : Nat) : Int := n_cloudy A - f_sum (fun j => n_cl A (A 0 1 + j)) k
theorem ol_m_s {A : w_M} (k : Nat) : ol_m A (k + 1) = ol_m A k - n_cl A (A 0 1 + k) := by
  unfold ol_m
  simp only [f_sum]
  omega
theorem ol_m_le {A : w_M} {k : Nat} : ∀ j : Nat, k + j = n_left A → 0 ≤ ol_m A k := by
  intro j
  induction j generalizing k with
  | zero =>
    intro h
    have e : k = n_left A := h
    unfold ol_m n_cloudy
    rw [e]
    have : n_left A = (A 0 0 - A 0 1).toNat := rfl
    rw [this]
    omega
  | succ j ih =>
    intro h
    have h1 := ih (k := k + 1) (by omega)
    rw [ol_m_s] at h1
    have := n_cl01 A (A 0 1 + k)
    omega
theorem ol_goes {A X Y : w_M} (hX : n_WF X) (hY : n_WF Y) (h0 : X 0 = A 0) (h : ol_R (fun _ => ol_m A 0) X Y) : ∀ k : Nat, k ≤ n_left A → ol_R (fun _ => ol_m A k) (n_goes X k) (n_goes Y k) := by
  intro k
  induction k with
  | zero => intro _; exact h
  | succ k ih =>
    intro hk
    have i1 := ih (by omega)
    have G := n_goes_all hX k
    have hl : n_left A = (A 0 0 - A 0 1).toNat := rfl
    have e1 : (n_goes X k) 0 1 = A 0 1 + k := by rw [G.2.2.1, h0, if_pos (by omega)]
    have e0 : (n_goes X k) 0 0 = A 0 0 := by rw [G.2.1.1 0 (by decide) (by decide), h0]
    have e2 : (n_goes X k) 0 2 = A 0 2 := by rw [G.2.1.1 2 (by decide) (by decide), h0]
    have ey : (n_goes Y k) 0 = (n_goes X k) 0 := i1.1 0 (by decide)
    have ec : n_cl (n_goes X k) ((n_goes X k) 0 1) = n_cl A (A 0 1 + k) := by unfold n_cl; rw [e2, e1]
    have ecy : n_cl (n_goes Y k) ((n_goes Y k) 0 1) = n_cl A (A 0 1 + k) := by unfold n_cl at ec ⊢; rw [ey]; exact ec
    have nn := ol_m_le (A := A) (k := k + 1) (n_left A - (k + 1)) (by omega)
    rw [ol_m_s] at nn
    simp only [n_goes]
    rw [ey, if_pos (by rw [e1, e0]; omega), if_pos (by rw [e1, e0]; omega)]
    unfold n_on
    rw [ec, ecy, ol_m_s]
    exact i1.hour G.1 (n_cl01 _ _) (by omega)
theorem ol_sd {g : Nat → Int} {X Y : w_M} (h : ol_R g X Y) : n_sd Y = n_sd X := by unfold n_sd n_s; rw [h.1 1 (by decide), h.1 0 (by decide)]
theorem n_done_congr {X Y : w_M} (hX : n_WF X) (hY : n_WF Y) (hl : n_left Y = n_left X) (h : ∀ k, k ≤ n_left X → n_sd (n_goes Y k) = n_sd (n_goes X k)) : n_done Y = n_done X := by
  rcases n_done_spec hX with ⟨a1, a2⟩ | ⟨a1, a2, a3, a4⟩
  · rcases n_done_spec hY with ⟨b1, b2⟩ | ⟨b1, b2, b3, b4⟩
    · rw [a1, b1]
    · have := a2 (n_fin Y) (by omega)
      rw [← h _ (by omega)] at this
      omega
  · have hf := n_fin_of hY (j := n_fin X) (by omega) (fun i hi => by rw [h i (by omega)]; exact a4 i hi) (Or.inl (by rw [h _ a2]; exact a3))
    rw [a1]
    unfold n_done
    rw [hf, if_pos (by rw [h _ a2]; exact a3)]
/-- oil beyond the hours with clouds changes nothing -/
theorem ol_cap {A : w_M} (hA : n_WF A) {f g : Nat → Int} (hf : ∀ r, r < n_n A → 0 ≤ f r ∧ f r ≤ 9) (hg : ∀ r, r < n_n A → 0 ≤ g r ∧ g r ≤ 9) (h : ∀ r, r < n_n A → g r = f r ∨ (n_cloudy A ≤ f r ∧ n_cloudy A ≤ g r)) : n_done (n_bo A g) = n_done (n_bo A f) := by
  have WX := n_bo_WF hA hf
  have WY := n_bo_WF hA hg
  have e0 : n_bo A f 0 = A 0 := n_bo_ne (by decide)
  have e0' : n_bo A g 0 = A 0 := n_bo_ne (by decide)
  have lX : n_left (n_bo A f) = n_left A := by unfold n_left; rw [e0]
  have lY : n_left (n_bo A g) = n_left A := by unfold n_left; rw [e0']
  have hR : ol_R (fun _ => ol_m A 0) (n_bo A f) (n_bo A g) := by
    refine ⟨fun d hd => by rw [n_bo_ne hd, n_bo_ne hd], fun r hr => ?_⟩
    rw [n_bo_n] at hr
    rw [n_bo_4 hr, n_bo_4 hr]
    have em : ol_m A 0 = n_cloudy A := by unfold ol_m; simp [f_sum]
    rw [em]
    exact h r hr
  have G := ol_goes WX WY e0 hR
  exact n_done_congr WX WY (by rw [lX, lY]) (fun k hk => ol_sd (G k (by rw [← lX]; exact hk)))
noncomputable def lo_f (A : w_M) (B k : Nat) : Nat → Int := fun r => ((dg B (n_n A) k r : Nat) : Int)
noncomputable def lo_d (A : w_M) (B k : Nat) : Int := n_done (n_bo A (lo_f A B k))
noncomputable def lo_s (A : w_M) (B k : Nat) : Int := f_sum (lo_f A B k) (n_n A)
theorem lo_s_le {A : w_M} (hA : n_WF A) {B : Nat} (h1 : 1 ≤ B) (h10 : B ≤ 10) (k : Nat) : 0 ≤ lo_s A B k ∧ lo_s A B k ≤ 36 := by
  have hn := hA.n
  have := f_sum_le (f := lo_f A B k) (B := 9) (m := n_n A) (fun r _ => by
    have := dg_lt (B := B) (n := n_n A) (k := k) (r := r) h1
    unfold lo_f
    omega) (Nat.le_refl _)
  unfold lo_s
  unfold n_n at this ⊢
  omega
theorem f_sum_mono {f g : Nat → Int} : ∀ n : Nat, (∀ r, r < n → f r ≤ g r) → f_sum f n ≤ f_sum g n := by
  intro n
  induction n with
  | zero => intro _; exact Int.le_refl _
  | succ n ih =>
    intro h
    have := ih (fun r hr => h r (by omega))
    have := h n (by omega)
    simp only [f_sum]
    omega
theorem f_sum_strict {f g : Nat → Int} {n q : Nat} (h : ∀ r, r < n → f r ≤ g r) (hq : q < n) (hl : f q < g q) : f_sum f n < f_sum g n := by
  induction n with
  | zero => omega
  | succ n ih =>
    simp only [f_sum]
    have hn := h n (by omega)
    by_cases e : q = n
    · subst e
      have := f_sum_mono q (fun r hr => h r (by omega))
      omega
    · have := ih (fun r hr => h r (by omega)) (by omega)
      omega
/-- the class's rows, of as many numbers as there are hours with clouds, and the reference's: the same is chosen -/
theorem lo_eq {A : w_M} (hA : n_WF A) {C : Nat} (hC : C ≤ 9) (hcl : C = 9 ∨ n_cloudy A = (C : Int)) :
    ((ls_F (lo_s A (C + 1)) (lo_d A (C + 1)) ((C + 1) ^ n_n A)).2 = -4 ∧ (ls_F (lo_s A 10) (lo_d A 10) (10 ^ n_n A)).2 = -4) ∨
    (¬ (ls_F (lo_s A (C + 1)) (lo_d A (C + 1)) ((C + 1) ^ n_n A)).2 = -4 ∧ ¬ (ls_F (lo_s A 10) (lo_d A 10) (10 ^ n_n A)).2 = -4 ∧
      (ls_F (lo_s A (C + 1)) (lo_d A (C + 1)) ((C + 1) ^ n_n A)).1 = (ls_F (lo_s A 10) (lo_d A 10) (10 ^ n_n A)).1 ∧
      ∀ r, r < n_n A → dg (C + 1) (n_n A) (ls_F (lo_s A (C + 1)) (lo_d A (C + 1)) ((C + 1) ^ n_n A)).2.toNat r = dg 10 (n_n A) (ls_F (lo_s A 10) (lo_d A 10) (10 ^ n_n A)).2.toNat r) := by
  have dB : ∀ k r, dg (C + 1) (n_n A) k r < C + 1 := fun k r => dg_lt (by omega)
  have dT : ∀ k r, dg 10 (n_n A) k r < 10 := fun k r => dg_lt (by decide)
  -- a row of the class among the reference's
  have up : ∀ k, lo_d A 10 (nb 10 (n_n A) (dg (C + 1) (n_n A) k)) = lo_d A (C + 1) k ∧ lo_s A 10 (nb 10 (n_n A) (dg (C + 1) (n_n A) k)) = lo_s A (C + 1) k ∧ nb 10 (n_n A) (dg (C + 1) (n_n A) k) < 10 ^ n_n A := fun k => by
    have h1 : ∀ r, r < n_n A → dg (C + 1) (n_n A) k r < 10 := fun r _ => by have := dB k r; omega
    have e : ∀ r, r < n_n A → lo_f A 10 (nb 10 (n_n A) (dg (C + 1) (n_n A) k)) r = lo_f A (C + 1) k r := fun r hr => by
      unfold lo_f
      rw [dg_nb _ h1 r hr]
    refine ⟨?_, f_sum_congr e, nb_lt _ h1⟩
    unfold lo_d
    rw [n_bo_congr e]
  -- a row of the reference, cut to the hours with clouds, among the class's
  have dn : ∀ k, lo_d A (C + 1) (nb (C + 1) (n_n A) (fun r => min (dg 10 (n_n A) k r) C)) = lo_d A 10 k ∧ lo_s A (C + 1) (nb (C + 1) (n_n A) (fun r => min (dg 10 (n_n A) k r) C)) ≤ lo_s A 10 k ∧ ((∃ r, r < n_n A ∧ C < dg 10 (n_n A) k r) → lo_s A (C + 1) (nb (C + 1) (n_n A) (fun r => min (dg 10 (n_n A) k r) C)) < lo_s A 10 k) ∧ nb (C + 1) (n_n A) (fun r => min (dg 10 (n_n A) k r) C) < (C + 1) ^ n_n A := fun k => by
    have h1 : ∀ r, r < n_n A → min (dg 10 (n_n A) k r) C < C + 1 := fun r _ => by omega
    have e : ∀ r, r < n_n A → lo_f A (C + 1) (nb (C + 1) (n_n A) (fun r => min (dg 10 (n_n A) k r) C)) r = ((min (dg 10 (n_n A) k r) C : Nat) : Int) := fun r hr => by
      unfold lo_f
      rw [dg_nb _ h1 r hr]
    refine ⟨?_, ?_, ?_, nb_lt _ h1⟩
    · unfold lo_d
      refine ol_cap hA (fun r _ => ?_) (fun r hr => ?_) (fun r hr => ?_)
      · have := dT k r; unfold lo_f; omega
      · rw [e r hr]; omega
      · rw [e r hr]
        have := dT k r
        unfold lo_f
        rcases hcl with h | h
        · left; omega
        · rw [h]; omega
    · refine f_sum_mono _ (fun r hr => ?_)
      rw [e r hr]
      unfold lo_f
      omega
    · rintro ⟨q, hq, hl⟩
      refine f_sum_strict (q := q) (fun r hr => ?_) hq ?_
      · rw [e r hr]; unfold lo_f; omega
      · rw [e q hq]; unfold lo_f; omega
  rcases ls_spec (d := lo_d A (C + 1)) (lo_s_le hA (B := C + 1) (by omega) (by omega)) ((C + 1) ^ n_n A) with ⟨a1, -, a3⟩ | ⟨k1, hk1, a1, a2, a3, a4, a5⟩
  · left
    refine ⟨a1, ?_⟩
    rcases ls_spec (d := lo_d A 10) (lo_s_le hA (B := 10) (by decide) (by decide)) (10 ^ n_n A) with ⟨b1, -, -⟩ | ⟨k0, hk0, b1, b2, b3, b4, b5⟩
    · exact b1
    · obtain ⟨c1, -, -, c4⟩ := dn k0
      exact absurd (c1 ▸ a3 _ c4) b3
  · rcases ls_spec (d := lo_d A 10) (lo_s_le hA (B := 10) (by decide) (by decide)) (10 ^ n_n A) with ⟨b1, -, b3⟩ | ⟨k0, hk0, b1, b2, b3, b4, b5⟩
    · obtain ⟨c1, -, c3⟩ := up k1
      exact absurd (c1 ▸ b3 _ c3) a3
    · right
      obtain ⟨u1, u2, u3⟩ := up k1
      obtain ⟨w1, w2, w3, w4⟩ := dn k0
      have s1 : lo_s A 10 k0 ≤ lo_s A (C + 1) k1 := by rw [← u2]; exact b4 _ u3 (by rw [u1]; exact a3)
      have s2 : lo_s A (C + 1) k1 ≤ lo_s A (C + 1) (nb (C + 1) (n_n A) (fun r => min (dg 10 (n_n A) k0 r) C)) := a4 _ w4 (by rw [w1]; exact b3)
      have small : ∀ r, r < n_n A → dg 10 (n_n A) k0 r ≤ C := fun r hr => by
        by_cases h : dg 10 (n_n A) k0 r ≤ C
        · exact h
        · have := w3 ⟨r, hr, by omega⟩; omega
      have ev : nb (C + 1) (n_n A) (fun r => min (dg 10 (n_n A) k0 r) C) = nb (C + 1) (n_n A) (dg 10 (n_n A) k0) := nb_congr _ (fun r hr => by have := small r hr; omega)
      rw [ev] at w1 w2 w4 s2
      have seq : lo_s A (C + 1) k1 = lo_s A 10 k0 := by omega
      have o1 : k1 ≤ nb (C + 1) (n_n A) (dg 10 (n_n A) k0) := by
        by_cases h : k1 ≤ nb (C + 1) (n_n A) (dg 10 (n_n A) k0)
        · exact h
        · have := a5 (nb (C + 1) (n_n A) (dg 10 (n_n A) k0)) (by omega) (by rw [w1]; exact b3); omega
      have o2 : k0 ≤ nb 10 (n_n A) (dg (C + 1) (n_n A) k1) := by
        by_cases h : k0 ≤ nb 10 (n_n A) (dg (C + 1) (n_n A) k1)
        · exact h
        · have := b5 (nb 10 (n_n A) (dg (C + 1) (n_n A) k1)) (by omega) (by rw [u1]; exact a3); omega
      have lex := nb_lex (B := C + 1) (D := 10) (f := dg (C + 1) (n_n A) k1) (g := dg 10 (n_n A) k0) (n_n A) (fun r hr => by
        have h1 := dB k1 r
        have h2 := small r hr
        have h3 := dT k0 r
        omega)
      rw [nb_dg _ k1 hk1, nb_dg _ k0 hk0] at lex
      have e3 : nb 10 (n_n A) (dg (C + 1) (n_n A) k1) = k0 := by
        have := lex.1.mp o1
        omega
      refine ⟨by omega, by omega, by rw [a2, b2]; exact seq, fun r hr => ?_⟩
      rw [a1, b1, Int.toNat_natCast, Int.toNat_natCast]
      refine nb_inj (B := 10) (n_n A) (fun r hr => ?_) (fun r _ => dT k0 r) ?_ r hr
      · have := dB k1 r; omega
      · rw [e3, nb_dg _ k0 hk0]
end
section
/-! The least oil of all -/
noncomputable def mc_v (A : w_M) (r v : Nat) : Int := A 3 r * (n_cutF A r (v : Int) (n_lft A 12)).2.2
noncomputable def p_Plan_countMostCut (b : Nat) (σ : w_M) : Prop := n_ok σ b ∧ b + 9 ≤ 32
noncomputable def q_Plan_countMostCut (b : Nat) (σ σ' : w_M) : Prop := (∀ r, r < n_n (w_ab σ b) → ∀ v, v < 10 → σ' (46 + r) v = mc_v (w_ab σ b) r v) ∧ ∀ c, c < 46 ∨ 50 ≤ c → σ' c = σ c
theorem mc_le {A : w_M} (h : n_WF A) {r v : Nat} (hr : r < n_n A) (hv : v < 10) : 0 ≤ mc_v A r v ∧ mc_v A r v ≤ 108 := by
  have a := (h.r hr).1
  have l := n_left_lft h (n := 12) (by decide)
  have b := (n_cutF_le h hr (o := (v : Int)) (by omega) (n_lft A 12)).2.2
  unfold mc_v
  exact ⟨Int.mul_nonneg (by omega) b.1, by have := Int.mul_le_mul a.2 (show (n_cutF A r (v : Int) (n_lft A 12)).2.2 ≤ 12 by omega) b.1 (by decide); omega⟩
theorem fPlan_countMostCut_0 : w_fe am_c77 0 1 (.bipush 0) := ⟨rfl, rfl⟩
theorem fPlan_countMostCut_1 : w_fe am_c77 1 2 (.istore 2) := ⟨rfl, rfl⟩
theorem fPlan_countMostCut_2 : w_fe am_c77 2 3 (.iload 2) := ⟨rfl, rfl⟩
theorem fPlan_countMostCut_3 : w_fe am_c77 3 4 (.aload 1) := ⟨rfl, rfl⟩
theorem fPlan_countMostCut_4 : w_fe am_c77 4 5 (.getfield 205) := ⟨rfl, rfl⟩
theorem fPlan_countMostCut_5 : w_ic am_c77 5 6 .ge 31 := ⟨rfl, rfl⟩
theorem fPlan_countMostCut_6 : w_fe am_c77 6 7 (.bipush 0) := ⟨rfl, rfl⟩
theorem fPlan_countMostCut_7 : w_fe am_c77 7 8 (.istore 3) := ⟨rfl, rfl⟩
theorem fPlan_countMostCut_8 : w_fe am_c77 8 9 (.iload 3) := ⟨rfl, rfl⟩
theorem fPlan_countMostCut_9 : w_fe am_c77 9 10 (.bipush 10) := ⟨rfl, rfl⟩
theorem fPlan_countMostCut_10 : w_ic am_c77 10 11 .ge 29 := ⟨rfl, rfl⟩
theorem fPlan_countMostCut_11 : w_fe am_c77 11 12 (.aload 0) := ⟨rfl, rfl⟩
theorem fPlan_countMostCut_12 : w_fe am_c77 12 13 (.getfield 605) := ⟨rfl, rfl⟩
theorem fPlan_countMostCut_13 : w_fe am_c77 13 14 (.iload 2) := ⟨rfl, rfl⟩
theorem fPlan_countMostCut_14 : w_fe am_c77 14 15 (.aaload) := ⟨rfl, rfl⟩
theorem fPlan_countMostCut_15 : w_fe am_c77 15 16 (.iload 3) := ⟨rfl, rfl⟩
theorem fPlan_countMostCut_16 : w_fe am_c77 16 17 (.aload 1) := ⟨rfl, rfl⟩
theorem fPlan_countMostCut_17 : w_fe am_c77 17 18 (.getfield 209) := ⟨rfl, rfl⟩
theorem fPlan_countMostCut_18 : w_fe am_c77 18 19 (.iload 2) := ⟨rfl, rfl⟩
theorem fPlan_countMostCut_19 : w_fe am_c77 19 20 (.iaload) := ⟨rfl, rfl⟩
theorem fPlan_countMostCut_20 : w_fe am_c77 20 21 (.aload 1) := ⟨rfl, rfl⟩
theorem fPlan_countMostCut_21 : w_fe am_c77 21 22 (.iload 2) := ⟨rfl, rfl⟩
theorem fPlan_countMostCut_22 : w_fe am_c77 22 23 (.iload 3) := ⟨rfl, rfl⟩
theorem fPlan_countMostCut_23 : w_fe am_c77 23 24 (.bipush 12) := ⟨rfl, rfl⟩
theorem fPlan_countMostCut_24 : w_fe am_c77 24 25 (.invokestatic 46) := ⟨rfl, rfl⟩
theorem fPlan_countMostCut_25 : w_fe am_c77 25 26 (.imul) := ⟨rfl, rfl⟩
theorem fPlan_countMostCut_26 : w_fe am_c77 26 27 (.iastore) := ⟨rfl, rfl⟩
theorem fPlan_countMostCut_27 : w_fe am_c77 27 28 (.iinc 3 1) := ⟨rfl, rfl⟩
theorem fPlan_countMostCut_28 : w_gt am_c77 28 8 := rfl
theorem fPlan_countMostCut_29 : w_fe am_c77 29 30 (.iinc 2 1) := ⟨rfl, rfl⟩
theorem fPlan_countMostCut_30 : w_gt am_c77 30 2 := rfl
theorem fPlan_countMostCut_31 : w_fe am_c77 31 32 (.return_) := ⟨rfl, rfl⟩
noncomputable def LPlan_countMostCut_2 (xs : List Int) (d : Nat) (Q : Option w_V → w_M → Prop) (r1 : Nat) (v2 : Int) (σ : w_M) : Prop := ∀ l3, w_nl l3 → w_Ex (xs, d) 0 am_c77 Q 2 [some (.inr (.inr (6, 31))), some (.inr (.inr (2, r1))), some (.inl v2), l3] [] σ
noncomputable def LPlan_countMostCut_8 (xs : List Int) (d : Nat) (Q : Option w_V → w_M → Prop) (r1 : Nat) (v2 : Int) (v3 : Int) (σ : w_M) : Prop := w_Ex (xs, d) 0 am_c77 Q 8 [some (.inr (.inr (6, 31))), some (.inr (.inr (2, r1))), some (.inl v2), some (.inl v3)] [] σ
set_option maxRecDepth 20000 in
theorem bPlan_countMostCut_0 {xs : List Int} {d : Nat} {Q : Option w_V → w_M → Prop} {b : Nat} {σ : w_M}
    (h : LPlan_countMostCut_2 xs (d + 2) Q b 0 σ) : w_Call (xs, (d + 2)) 77 [.inr (.inr (6, 31)), .inr (.inr (2, b))] σ Q :=
  (w_mk (mid := 77) (by decide) rfl rfl rfl rfl rfl (Nat.le_of_ble_eq_true rfl) ⟨rfl, Or.inl (by decide)⟩ (wi_bipush fPlan_countMostCut_0 (wi_istore2 fPlan_countMostCut_1 trivial (h _ (by exact trivial)))))
set_option maxRecDepth 20000 in
theorem bPlan_countMostCut_2 {xs : List Int} {d : Nat} {Q : Option w_V → w_M → Prop} {r1 : Nat} {v2 : Int} {σ : w_M}
    (h : ((σ r1 5) ≤ v2 → Q none σ) ∧ (v2 < (σ r1 5) → LPlan_countMostCut_8 xs (d + 2) Q r1 v2 0 σ)) : LPlan_countMostCut_2 xs (d + 2) Q r1 v2 σ :=
  fun l3 nl3 => (wi_iload2 fPlan_countMostCut_2 (wi_aload1 fPlan_countMostCut_3 (wi_getf205 fPlan_countMostCut_4 (wi_ic_ge fPlan_countMostCut_5 (fun c1 => (wi_ret0 fPlan_countMostCut_31 (h.1 c1))) (fun c1 => (wi_bipush fPlan_countMostCut_6 (wi_istore3 fPlan_countMostCut_7 trivial (h.2 c1))))))))
set_option maxRecDepth 20000 in
theorem bPlan_countMostCut_8 {xs : List Int} {d : Nat} {Q : Option w_V → w_M → Prop} {r1 : Nat} {v2 : Int} {v3 : Int} {σ : w_M}
    (h : (10 ≤ v3 → (w_in (v2 + 1) ∧ LPlan_countMostCut_2 xs (d + 2) Q r1 (v2 + 1) σ)) ∧ (v3 < 10 → (0 ≤ v2 ∧ v2 < 4 ∧ p_Field_cutsAhead r1 v2 v3 12 σ ∧ (∀ (y1 : Int), y1 = v_Field_cutsAhead r1 v2 v3 12 σ → (w_in ((σ (r1 + 3) v2.toNat) * y1) ∧ 0 ≤ v3 ∧ (∀ (τ2 : w_M), τ2 = w_up σ (46 + v2.toNat) v3.toNat ((σ (r1 + 3) v2.toNat) * y1) → (w_in (v3 + 1) ∧ LPlan_countMostCut_8 xs (d + 2) Q r1 v2 (v3 + 1) τ2))))))) : LPlan_countMostCut_8 xs (d + 2) Q r1 v2 v3 σ :=
  (wi_iload3 fPlan_countMostCut_8 (wi_bipush fPlan_countMostCut_9 (wi_ic_ge fPlan_countMostCut_10 (fun c3 => (wi_iinc2 fPlan_countMostCut_29 trivial (h.1 c3).1 (wi_goto fPlan_countMostCut_30 ((h.1 c3).2 _ (by exact trivial))))) (fun c3 => (wi_aload0 fPlan_countMostCut_11 (wi_getf605 fPlan_countMostCut_12 (wi_iload2 fPlan_countMostCut_13 (wi_aald10410 fPlan_countMostCut_14 (h.2 c3).1 (h.2 c3).2.1 (wi_iload3 fPlan_countMostCut_15 (wi_aload1 fPlan_countMostCut_16 (wi_getf209 fPlan_countMostCut_17 (wi_iload2 fPlan_countMostCut_18 (wi_iald1004 fPlan_countMostCut_19 (h.2 c3).1 (h.2 c3).2.1 (wi_aload1 fPlan_countMostCut_20 (wi_iload2 fPlan_countMostCut_21 (wi_iload3 fPlan_countMostCut_22 (wi_bipush fPlan_countMostCut_23 (wi_call4 fPlan_countMostCut_24 (Nat.le_of_ble_eq_true rfl) (k_Field_cutsAhead (h.2 c3).2.2.1 (wi_imul fPlan_countMostCut_25 ((h.2 c3).2.2.2 _ rfl).1 (wi_iast1010 fPlan_countMostCut_26 ((h.2 c3).2.2.2 _ rfl).2.1 c3 (wi_iinc3 fPlan_countMostCut_27 trivial (((h.2 c3).2.2.2 _ rfl).2.2 _ rfl).1 (wi_goto fPlan_countMostCut_28 (((h.2 c3).2.2.2 _ rfl).2.2 _ rfl).2)))))))))))))))))))))))
theorem k_Plan_countMostCut {xs : List Int} {d : Nat} {Q : Option w_V → w_M → Prop} {b : Nat} {σ : w_M} (hp : p_Plan_countMostCut b σ) (hQ : ∀ σ' : w_M, q_Plan_countMostCut b σ σ' → Q none σ') : w_Call (xs, d + 2) 77 [.inr (.inr (6, 31)), .inr (.inr (2, b))] σ Q := by
  obtain ⟨hok, hb⟩ := hp
  have hn := n_ok.n hok
  have hW : n_WF (w_ab σ b) := hok
  have en : n_n (w_ab σ b) = (σ b 5).toNat := rfl
  have fab : ∀ τ : w_M, (∀ c, c < 46 ∨ 50 ≤ c → τ c = σ c) → w_ab τ b = w_ab σ b ∧ τ b = σ b := fun τ F => ⟨w_ab_fr (fun d hd => F _ (by omega)), F b (by omega)⟩
  refine bPlan_countMostCut_0 ?_
  refine (w_loop (n := (σ b 5).toNat) (P := fun r => ∀ τ : w_M, (∀ c, c < 46 ∨ 50 ≤ c → τ c = σ c) → (∀ q, q < r → ∀ v, v < 10 → τ (46 + q) v = mc_v (w_ab σ b) q v) → LPlan_countMostCut_2 xs (d + 2) Q b (r : Int) τ) ?_ ?_) σ (fun _ _ => rfl) (fun q hq => by omega)
  · intro τ F h
    obtain ⟨f1, f2⟩ := fab τ F
    exact bPlan_countMostCut_2 ⟨fun _ => hQ _ ⟨fun r hr => h r (by rw [en] at hr; exact hr), F⟩, fun h => by rw [f2] at h; omega⟩
  · intro r hr ih τ F h
    obtain ⟨f1, f2⟩ := fab τ F
    refine bPlan_countMostCut_2 ⟨fun h => by rw [f2] at h; omega, fun _ => ?_⟩
    refine (w_loop (n := 10) (P := fun v => ∀ τ : w_M, (∀ c, c < 46 ∨ 50 ≤ c → τ c = σ c) → (∀ q, q < r → ∀ v, v < 10 → τ (46 + q) v = mc_v (w_ab σ b) q v) → (∀ u, u < v → τ (46 + r) u = mc_v (w_ab σ b) r u) → LPlan_countMostCut_8 xs (d + 2) Q b (r : Int) (v : Int) τ) ?_ ?_) τ F h (fun u hu => by omega)
    · intro τ F h h2
      refine bPlan_countMostCut_8 ⟨fun _ => ⟨⟨by omega, by omega⟩, ?_⟩, fun h => by omega⟩
      rw [← w_cs1]
      refine ih τ F (fun q hq v hv => ?_)
      by_cases e : q = r
      · rw [e]; exact h2 v hv
      · exact h q (by omega) v hv
    · intro v hv ih2 τ F h h2
      obtain ⟨f1, f2⟩ := fab τ F
      have hr4 : r < n_n (w_ab σ b) := hr
      have ml := mc_le hW hr4 hv
      have e3 : τ (b + 3) r = w_ab σ b 3 r := by rw [← f1]; exact w_rd (by decide) (by rw [w_rl37 (by decide) (by decide), f2]; exact hr)
      refine bPlan_countMostCut_8 ⟨fun h => by omega, fun _ => ⟨by omega, by omega, ⟨n_ok.of f1 hW, by rw [f2]; omega, by omega, by decide⟩, fun y1 e1 => ?_⟩⟩
      unfold v_Field_cutsAhead at e1
      rw [f1, Int.toNat_natCast] at e1
      rw [Int.toNat_natCast, Int.toNat_natCast, e3]
      have ep : w_ab σ b 3 r * y1 = mc_v (w_ab σ b) r v := by rw [e1]; rfl
      rw [ep]
      refine ⟨⟨by omega, by omega⟩, by omega, fun τ2 t2 => ⟨⟨by omega, by omega⟩, ?_⟩⟩
      rw [← w_cs1]
      refine ih2 τ2 (fun c hc => by rw [t2, w_up_ne (by omega)]; exact F c hc) (fun q hq u hu => by rw [t2, w_up_ne (by omega)]; exact h q hq u hu) (fun u hu => ?_)
      rw [t2]
      by_cases e : u = v
      · rw [e, w_up_at]
      · rw [w_up_j e]; exact h2 u (by omega)
noncomputable def p_Plan_sumOfPicks (n : Int) (σ : w_M) : Prop := (0 ≤ n ∧ n ≤ 4) ∧ ∀ r, r < n.toNat → 0 ≤ σ 41 r ∧ σ 41 r ≤ 9
noncomputable def v_Plan_sumOfPicks (n : Int) (σ : w_M) : Int := f_sum (σ 41) n.toNat
theorem fPlan_sumOfPicks_0 : w_fe am_c78 0 1 (.bipush 0) := ⟨rfl, rfl⟩
theorem fPlan_sumOfPicks_1 : w_fe am_c78 1 2 (.istore 2) := ⟨rfl, rfl⟩
theorem fPlan_sumOfPicks_2 : w_fe am_c78 2 3 (.bipush 0) := ⟨rfl, rfl⟩
theorem fPlan_sumOfPicks_3 : w_fe am_c78 3 4 (.istore 3) := ⟨rfl, rfl⟩
theorem fPlan_sumOfPicks_4 : w_fe am_c78 4 5 (.iload 3) := ⟨rfl, rfl⟩
theorem fPlan_sumOfPicks_5 : w_fe am_c78 5 6 (.iload 1) := ⟨rfl, rfl⟩
theorem fPlan_sumOfPicks_6 : w_ic am_c78 6 7 .ge 16 := ⟨rfl, rfl⟩
theorem fPlan_sumOfPicks_7 : w_fe am_c78 7 8 (.iload 2) := ⟨rfl, rfl⟩
theorem fPlan_sumOfPicks_8 : w_fe am_c78 8 9 (.aload 0) := ⟨rfl, rfl⟩
theorem fPlan_sumOfPicks_9 : w_fe am_c78 9 10 (.getfield 601) := ⟨rfl, rfl⟩
theorem fPlan_sumOfPicks_10 : w_fe am_c78 10 11 (.iload 3) := ⟨rfl, rfl⟩
theorem fPlan_sumOfPicks_11 : w_fe am_c78 11 12 (.iaload) := ⟨rfl, rfl⟩
theorem fPlan_sumOfPicks_12 : w_fe am_c78 12 13 (.iadd) := ⟨rfl, rfl⟩
theorem fPlan_sumOfPicks_13 : w_fe am_c78 13 14 (.istore 2) := ⟨rfl, rfl⟩
theorem fPlan_sumOfPicks_14 : w_fe am_c78 14 15 (.iinc 3 1) := ⟨rfl, rfl⟩
theorem fPlan_sumOfPicks_15 : w_gt am_c78 15 4 := rfl
theorem fPlan_sumOfPicks_16 : w_fe am_c78 16 17 (.iload 2) := ⟨rfl, rfl⟩
theorem fPlan_sumOfPicks_17 : w_fe am_c78 17 18 (.ireturn) := ⟨rfl, rfl⟩
noncomputable def LPlan_sumOfPicks_4 (xs : List Int) (d : Nat) (Q : Option w_V → w_M → Prop) (v1 : Int) (v2 : Int) (v3 : Int) (σ : w_M) : Prop := w_Ex (xs, d) 1 am_c78 Q 4 [some (.inr (.inr (6, 31))), some (.inl v1), some (.inl v2), some (.inl v3)] [] σ
set_option maxRecDepth 20000 in
theorem bPlan_sumOfPicks_0 {xs : List Int} {d : Nat} {Q : Option w_V → w_M → Prop} {x1 : Int} {σ : w_M}
    (h : LPlan_sumOfPicks_4 xs d Q x1 0 0 σ) : w_Call (xs, d) 78 [.inr (.inr (6, 31)), .inl x1] σ Q :=
  (w_mk (mid := 78) (by decide) rfl rfl rfl rfl rfl (Nat.le_of_ble_eq_true rfl) ⟨rfl, Or.inl (by decide)⟩ (wi_bipush fPlan_sumOfPicks_0 (wi_istore2 fPlan_sumOfPicks_1 trivial (wi_bipush fPlan_sumOfPicks_2 (wi_istore3 fPlan_sumOfPicks_3 trivial h)))))
set_option maxRecDepth 20000 in
theorem bPlan_sumOfPicks_4 {xs : List Int} {d : Nat} {Q : Option w_V → w_M → Prop} {v1 : Int} {v2 : Int} {v3 : Int} {σ : w_M}
    (h : (v1 ≤ v3 → Q (some (.inl v2)) σ) ∧ (v3 < v1 → (0 ≤ v3 ∧ v3 < 4 ∧ w_in (v2 + (σ 41 v3.toNat)) ∧ (∀ (y1 : Int), y1 = (v2 + (σ 41 v3.toNat)) → (w_in (v3 + 1) ∧ LPlan_sumOfPicks_4 xs d Q v1 y1 (v3 + 1) σ))))) : LPlan_sumOfPicks_4 xs d Q v1 v2 v3 σ :=
  (wi_iload3 fPlan_sumOfPicks_4 (wi_iload1 fPlan_sumOfPicks_5 (wi_ic_ge fPlan_sumOfPicks_6 (fun c2 => (wi_iload2 fPlan_sumOfPicks_16 (wi_ret1 fPlan_sumOfPicks_17 (h.1 c2)))) (fun c2 => (wi_iload2 fPlan_sumOfPicks_7 (wi_aload0 fPlan_sumOfPicks_8 (wi_getf601 fPlan_sumOfPicks_9 (wi_iload3 fPlan_sumOfPicks_10 (wi_iald1004 fPlan_sumOfPicks_11 (h.2 c2).1 (h.2 c2).2.1 (wi_iadd fPlan_sumOfPicks_12 (h.2 c2).2.2.1 (wi_istore2 fPlan_sumOfPicks_13 trivial (wi_iinc3 fPlan_sumOfPicks_14 trivial ((h.2 c2).2.2.2 _ rfl).1 (wi_goto fPlan_sumOfPicks_15 ((h.2 c2).2.2.2 _ rfl).2)))))))))))))
theorem k_Plan_sumOfPicks {xs : List Int} {d : Nat} {Q : Option w_V → w_M → Prop} {x1 : Int} {σ : w_M} (hp : p_Plan_sumOfPicks x1 σ) (hQ : Q (some (.inl (v_Plan_sumOfPicks x1 σ))) σ) : w_Call (xs, d) 78 [.inr (.inr (6, 31)), .inl x1] σ Q := by
  obtain ⟨hn, hv⟩ := hp
  refine bPlan_sumOfPicks_0 ?_
  refine w_loop (n := x1.toNat) (P := fun i => LPlan_sumOfPicks_4 xs d Q x1 (f_sum (σ 41) i) (i : Int) σ) ?_ ?_
  · exact bPlan_sumOfPicks_4 ⟨fun _ => hQ, fun h => by omega⟩
  · intro i hi ih
    have h1 := hv i hi
    have h2 := f_sum_le (f := σ 41) (B := 9) (m := x1.toNat) hv (Nat.le_of_lt hi)
    simp only [f_sum] at ih
    rw [w_cs1] at ih
    refine bPlan_sumOfPicks_4 ⟨fun h => by omega, fun _ => ⟨by omega, by omega, ?_⟩⟩
    rw [Int.toNat_natCast]
    exact ⟨⟨by omega, by omega⟩, fun y ey => ⟨⟨by omega, by omega⟩, by rw [ey]; exact ih⟩⟩
noncomputable def p_Plan_mostCutByPicks (n : Int) (σ : w_M) : Prop := (0 ≤ n ∧ n ≤ 4) ∧ ∀ r, r < n.toNat → (0 ≤ σ 41 r ∧ σ 41 r ≤ 9) ∧ (0 ≤ σ (46 + r) (σ 41 r).toNat ∧ σ (46 + r) (σ 41 r).toNat ≤ 108)
noncomputable def v_Plan_mostCutByPicks (n : Int) (σ : w_M) : Int := f_sum (fun r => σ (46 + r) (σ 41 r).toNat) n.toNat
theorem fPlan_mostCutByPicks_0 : w_fe am_c79 0 1 (.bipush 0) := ⟨rfl, rfl⟩
theorem fPlan_mostCutByPicks_1 : w_fe am_c79 1 2 (.istore 2) := ⟨rfl, rfl⟩
theorem fPlan_mostCutByPicks_2 : w_fe am_c79 2 3 (.bipush 0) := ⟨rfl, rfl⟩
theorem fPlan_mostCutByPicks_3 : w_fe am_c79 3 4 (.istore 3) := ⟨rfl, rfl⟩
theorem fPlan_mostCutByPicks_4 : w_fe am_c79 4 5 (.iload 3) := ⟨rfl, rfl⟩
theorem fPlan_mostCutByPicks_5 : w_fe am_c79 5 6 (.iload 1) := ⟨rfl, rfl⟩
theorem fPlan_mostCutByPicks_6 : w_ic am_c79 6 7 .ge 28 := ⟨rfl, rfl⟩
theorem fPlan_mostCutByPicks_7 : w_fe am_c79 7 8 (.aload 0) := ⟨rfl, rfl⟩
theorem fPlan_mostCutByPicks_8 : w_fe am_c79 8 9 (.getfield 601) := ⟨rfl, rfl⟩
theorem fPlan_mostCutByPicks_9 : w_fe am_c79 9 10 (.iload 3) := ⟨rfl, rfl⟩
theorem fPlan_mostCutByPicks_10 : w_fe am_c79 10 11 (.iaload) := ⟨rfl, rfl⟩
theorem fPlan_mostCutByPicks_11 : w_fe am_c79 11 12 (.istore 4) := ⟨rfl, rfl⟩
theorem fPlan_mostCutByPicks_12 : w_fe am_c79 12 13 (.iload 4) := ⟨rfl, rfl⟩
theorem fPlan_mostCutByPicks_13 : w_if am_c79 13 14 .lt 26 := ⟨rfl, rfl⟩
theorem fPlan_mostCutByPicks_14 : w_fe am_c79 14 15 (.iload 4) := ⟨rfl, rfl⟩
theorem fPlan_mostCutByPicks_15 : w_fe am_c79 15 16 (.bipush 10) := ⟨rfl, rfl⟩
theorem fPlan_mostCutByPicks_16 : w_ic am_c79 16 17 .ge 26 := ⟨rfl, rfl⟩
theorem fPlan_mostCutByPicks_17 : w_fe am_c79 17 18 (.iload 2) := ⟨rfl, rfl⟩
theorem fPlan_mostCutByPicks_18 : w_fe am_c79 18 19 (.aload 0) := ⟨rfl, rfl⟩
theorem fPlan_mostCutByPicks_19 : w_fe am_c79 19 20 (.getfield 605) := ⟨rfl, rfl⟩
theorem fPlan_mostCutByPicks_20 : w_fe am_c79 20 21 (.iload 3) := ⟨rfl, rfl⟩
theorem fPlan_mostCutByPicks_21 : w_fe am_c79 21 22 (.aaload) := ⟨rfl, rfl⟩
theorem fPlan_mostCutByPicks_22 : w_fe am_c79 22 23 (.iload 4) := ⟨rfl, rfl⟩
theorem fPlan_mostCutByPicks_23 : w_fe am_c79 23 24 (.iaload) := ⟨rfl, rfl⟩
theorem fPlan_mostCutByPicks_24 : w_fe am_c79 24 25 (.iadd) := ⟨rfl, rfl⟩
theorem fPlan_mostCutByPicks_25 : w_fe am_c79 25 26 (.istore 2) := ⟨rfl, rfl⟩
theorem fPlan_mostCutByPicks_26 : w_fe am_c79 26 27 (.iinc 3 1) := ⟨rfl, rfl⟩
theorem fPlan_mostCutByPicks_27 : w_gt am_c79 27 4 := rfl
theorem fPlan_mostCutByPicks_28 : w_fe am_c79 28 29 (.iload 2) := ⟨rfl, rfl⟩
theorem fPlan_mostCutByPicks_29 : w_fe am_c79 29 30 (.ireturn) := ⟨rfl, rfl⟩
noncomputable def LPlan_mostCutByPicks_4 (xs : List Int) (d : Nat) (Q : Option w_V → w_M → Prop) (v1 : Int) (v2 : Int) (v3 : Int) (σ : w_M) : Prop := ∀ l4, w_nl l4 → w_Ex (xs, d) 1 am_c79 Q 4 [some (.inr (.inr (6, 31))), some (.inl v1), some (.inl v2), some (.inl v3), l4] [] σ
set_option maxRecDepth 20000 in
theorem bPlan_mostCutByPicks_0 {xs : List Int} {d : Nat} {Q : Option w_V → w_M → Prop} {x1 : Int} {σ : w_M}
    (h : LPlan_mostCutByPicks_4 xs d Q x1 0 0 σ) : w_Call (xs, d) 79 [.inr (.inr (6, 31)), .inl x1] σ Q :=
  (w_mk (mid := 79) (by decide) rfl rfl rfl rfl rfl (Nat.le_of_ble_eq_true rfl) ⟨rfl, Or.inl (by decide)⟩ (wi_bipush fPlan_mostCutByPicks_0 (wi_istore2 fPlan_mostCutByPicks_1 trivial (wi_bipush fPlan_mostCutByPicks_2 (wi_istore3 fPlan_mostCutByPicks_3 trivial (h _ (by exact trivial)))))))
set_option maxRecDepth 20000 in
theorem bPlan_mostCutByPicks_4 {xs : List Int} {d : Nat} {Q : Option w_V → w_M → Prop} {v1 : Int} {v2 : Int} {v3 : Int} {σ : w_M}
    (h : (v1 ≤ v3 → Q (some (.inl v2)) σ) ∧ (v3 < v1 → (0 ≤ v3 ∧ v3 < 4 ∧ (∀ (y1 : Int), y1 = (σ 41 v3.toNat) → ((y1 < 0 → (w_in (v3 + 1) ∧ LPlan_mostCutByPicks_4 xs d Q v1 v2 (v3 + 1) σ)) ∧ (0 ≤ y1 → ((10 ≤ y1 → (w_in (v3 + 1) ∧ LPlan_mostCutByPicks_4 xs d Q v1 v2 (v3 + 1) σ)) ∧ (y1 < 10 → (w_in (v2 + (σ (46 + v3.toNat) y1.toNat)) ∧ (∀ (y2 : Int), y2 = (v2 + (σ (46 + v3.toNat) y1.toNat)) → (w_in (v3 + 1) ∧ LPlan_mostCutByPicks_4 xs d Q v1 y2 (v3 + 1) σ))))))))))) : LPlan_mostCutByPicks_4 xs d Q v1 v2 v3 σ :=
  fun l4 nl4 => (wi_iload3 fPlan_mostCutByPicks_4 (wi_iload1 fPlan_mostCutByPicks_5 (wi_ic_ge fPlan_mostCutByPicks_6 (fun c5 => (wi_iload2 fPlan_mostCutByPicks_28 (wi_ret1 fPlan_mostCutByPicks_29 (h.1 c5)))) (fun c5 => (wi_aload0 fPlan_mostCutByPicks_7 (wi_getf601 fPlan_mostCutByPicks_8 (wi_iload3 fPlan_mostCutByPicks_9 (wi_iald1004 fPlan_mostCutByPicks_10 (h.2 c5).1 (h.2 c5).2.1 (wi_istore4 fPlan_mostCutByPicks_11 trivial (wi_iload4 fPlan_mostCutByPicks_12 (wi_if_lt fPlan_mostCutByPicks_13 (fun c4 => (wi_iinc3 fPlan_mostCutByPicks_26 trivial (((h.2 c5).2.2 _ rfl).1 c4).1 (wi_goto fPlan_mostCutByPicks_27 ((((h.2 c5).2.2 _ rfl).1 c4).2 _ (by exact trivial))))) (fun c4 => (wi_iload4 fPlan_mostCutByPicks_14 (wi_bipush fPlan_mostCutByPicks_15 (wi_ic_ge fPlan_mostCutByPicks_16 (fun c3 => (wi_iinc3 fPlan_mostCutByPicks_26 trivial ((((h.2 c5).2.2 _ rfl).2 c4).1 c3).1 (wi_goto fPlan_mostCutByPicks_27 (((((h.2 c5).2.2 _ rfl).2 c4).1 c3).2 _ (by exact trivial))))) (fun c3 => (wi_iload2 fPlan_mostCutByPicks_17 (wi_aload0 fPlan_mostCutByPicks_18 (wi_getf605 fPlan_mostCutByPicks_19 (wi_iload3 fPlan_mostCutByPicks_20 (wi_aald10410 fPlan_mostCutByPicks_21 (h.2 c5).1 (h.2 c5).2.1 (wi_iload4 fPlan_mostCutByPicks_22 (wi_iald1010 fPlan_mostCutByPicks_23 c4 c3 (wi_iadd fPlan_mostCutByPicks_24 ((((h.2 c5).2.2 _ rfl).2 c4).2 c3).1 (wi_istore2 fPlan_mostCutByPicks_25 trivial (wi_iinc3 fPlan_mostCutByPicks_26 trivial (((((h.2 c5).2.2 _ rfl).2 c4).2 c3).2 _ rfl).1 (wi_goto fPlan_mostCutByPicks_27 ((((((h.2 c5).2.2 _ rfl).2 c4).2 c3).2 _ rfl).2 _ (by exact trivial)))))))))))))))))))))))))))))
theorem k_Plan_mostCutByPicks {xs : List Int} {d : Nat} {Q : Option w_V → w_M → Prop} {x1 : Int} {σ : w_M} (hp : p_Plan_mostCutByPicks x1 σ) (hQ : Q (some (.inl (v_Plan_mostCutByPicks x1 σ))) σ) : w_Call (xs, d) 79 [.inr (.inr (6, 31)), .inl x1] σ Q := by
  obtain ⟨hn, hv⟩ := hp
  refine bPlan_mostCutByPicks_0 ?_
  refine w_loop (n := x1.toNat) (P := fun i => LPlan_mostCutByPicks_4 xs d Q x1 (f_sum (fun r => σ (46 + r) (σ 41 r).toNat) i) (i : Int) σ) ?_ ?_
  · exact bPlan_mostCutByPicks_4 ⟨fun _ => hQ, fun h => by omega⟩
  · intro i hi ih
    have h1 := hv i hi
    have h2 := f_sum_le (f := fun r => σ (46 + r) (σ 41 r).toNat) (B := 108) (m := x1.toNat) (fun r hr => (hv r hr).2) (Nat.le_of_lt hi)
    simp only [f_sum] at ih
    rw [w_cs1] at ih
    refine bPlan_mostCutByPicks_4 ⟨fun h => by omega, fun _ => ⟨by omega, by omega, fun y1 e1 => ?_⟩⟩
    rw [Int.toNat_natCast] at e1
    rw [Int.toNat_natCast, e1]
    exact ⟨fun h => by omega, fun _ => ⟨fun h => by omega, fun _ => ⟨⟨by omega, by omega⟩, fun y ey => ⟨⟨by omega, by omega⟩, by rw [ey]; exact ih⟩⟩⟩⟩
noncomputable def p_Plan_isDoneByPicks (b : Nat) (sp : Int) (σ : w_M) : Prop := (n_ok σ b ∧ b + 9 ≤ 32) ∧ (∀ r, r < n_n (w_ab σ b) → 0 ≤ σ 41 r ∧ σ 41 r ≤ 9) ∧ sp = n_rch (n_bo (w_ab σ b) (σ 41)) (n_lft (w_ab σ b) 12) - n_sd (w_ab σ b)
noncomputable def q_Plan_isDoneByPicks (b : Nat) (_sp : Int) (σ : w_M) (x : Int) (σ' : w_M) : Prop := ((x = 0 ∧ n_done (n_bo (w_ab σ b) (σ 41)) = -4) ∨ (x = 1 ∧ ¬ n_done (n_bo (w_ab σ b) (σ 41)) = -4)) ∧ w_fr σ σ' 32 41
theorem fPlan_isDoneByPicks_0 : w_fe am_c80 0 1 (.iload 2) := ⟨rfl, rfl⟩
theorem fPlan_isDoneByPicks_1 : w_if am_c80 1 2 .ge 4 := ⟨rfl, rfl⟩
theorem fPlan_isDoneByPicks_2 : w_fe am_c80 2 3 (.bipush 0) := ⟨rfl, rfl⟩
theorem fPlan_isDoneByPicks_3 : w_fe am_c80 3 4 (.ireturn) := ⟨rfl, rfl⟩
theorem fPlan_isDoneByPicks_4 : w_fe am_c80 4 5 (.aload 0) := ⟨rfl, rfl⟩
theorem fPlan_isDoneByPicks_5 : w_fe am_c80 5 6 (.getfield 600) := ⟨rfl, rfl⟩
theorem fPlan_isDoneByPicks_6 : w_fe am_c80 6 7 (.aload 1) := ⟨rfl, rfl⟩
theorem fPlan_isDoneByPicks_7 : w_fe am_c80 7 8 (.invokestatic 34) := ⟨rfl, rfl⟩
theorem fPlan_isDoneByPicks_8 : w_fe am_c80 8 9 (.aload 0) := ⟨rfl, rfl⟩
theorem fPlan_isDoneByPicks_9 : w_fe am_c80 9 10 (.getfield 601) := ⟨rfl, rfl⟩
theorem fPlan_isDoneByPicks_10 : w_fe am_c80 10 11 (.bipush 0) := ⟨rfl, rfl⟩
theorem fPlan_isDoneByPicks_11 : w_fe am_c80 11 12 (.aload 0) := ⟨rfl, rfl⟩
theorem fPlan_isDoneByPicks_12 : w_fe am_c80 12 13 (.getfield 600) := ⟨rfl, rfl⟩
theorem fPlan_isDoneByPicks_13 : w_fe am_c80 13 14 (.getfield 210) := ⟨rfl, rfl⟩
theorem fPlan_isDoneByPicks_14 : w_fe am_c80 14 15 (.bipush 0) := ⟨rfl, rfl⟩
theorem fPlan_isDoneByPicks_15 : w_fe am_c80 15 16 (.bipush 4) := ⟨rfl, rfl⟩
theorem fPlan_isDoneByPicks_16 : w_fe am_c80 16 17 (.invokedynamic 0) := ⟨rfl, rfl⟩
theorem fPlan_isDoneByPicks_17 : w_fe am_c80 17 18 (.aload 0) := ⟨rfl, rfl⟩
theorem fPlan_isDoneByPicks_18 : w_fe am_c80 18 19 (.getfield 600) := ⟨rfl, rfl⟩
theorem fPlan_isDoneByPicks_19 : w_fe am_c80 19 20 (.bipush 12) := ⟨rfl, rfl⟩
theorem fPlan_isDoneByPicks_20 : w_fe am_c80 20 21 (.iload 2) := ⟨rfl, rfl⟩
theorem fPlan_isDoneByPicks_21 : w_fe am_c80 21 22 (.invokestatic 45) := ⟨rfl, rfl⟩
theorem fPlan_isDoneByPicks_22 : w_fe am_c80 22 23 (.bipush (-4)) := ⟨rfl, rfl⟩
theorem fPlan_isDoneByPicks_23 : w_ic am_c80 23 24 .eq 26 := ⟨rfl, rfl⟩
theorem fPlan_isDoneByPicks_24 : w_fe am_c80 24 25 (.bipush 1) := ⟨rfl, rfl⟩
theorem fPlan_isDoneByPicks_25 : w_gt am_c80 25 27 := rfl
theorem fPlan_isDoneByPicks_26 : w_fe am_c80 26 27 (.bipush 0) := ⟨rfl, rfl⟩
theorem fPlan_isDoneByPicks_27 : w_fe am_c80 27 28 (.ireturn) := ⟨rfl, rfl⟩
set_option maxRecDepth 20000 in
theorem bPlan_isDoneByPicks_0 {xs : List Int} {d : Nat} {Q : Option w_V → w_M → Prop} {b : Nat} {x2 : Int} {σ : w_M}
    (h : (0 ≤ x2 → (p_Field_copyFrom 32 b σ ∧ (∀ (τ1 : w_M), q_Field_copyFrom 32 b σ τ1 → ∀ (τ2 : w_M), τ2 = w_cpy τ1 41 36 0 0 4 → (p_Field_passUntilDone 32 12 x2 τ2 ∧ (∀ (y3 : Int) (τ4 : w_M), q_Field_passUntilDone 32 12 x2 τ2 y3 τ4 → ((y3 = (-4) → Q (some (.inl 0)) τ4) ∧ (¬ y3 = (-4) → Q (some (.inl 1)) τ4))))))) ∧ (x2 < 0 → Q (some (.inl 0)) σ)) : w_Call (xs, (d + 5)) 80 [.inr (.inr (6, 31)), .inr (.inr (2, b)), .inl x2] σ Q :=
  (w_mk (mid := 80) (by decide) rfl rfl rfl rfl rfl (Nat.le_of_ble_eq_true rfl) ⟨rfl, Or.inl (by decide)⟩ (wi_iload2 fPlan_isDoneByPicks_0 (wi_if_ge fPlan_isDoneByPicks_1 (fun c6 => (wi_aload0 fPlan_isDoneByPicks_4 (wi_getf600 fPlan_isDoneByPicks_5 (wi_aload1 fPlan_isDoneByPicks_6 (wi_call2 fPlan_isDoneByPicks_7 (Nat.le_of_ble_eq_true rfl) (k_Field_copyFrom (h.1 c6).1 (fun τ1 eτ1 => (wi_aload0 fPlan_isDoneByPicks_8 (wi_getf601 fPlan_isDoneByPicks_9 (wi_bipush fPlan_isDoneByPicks_10 (wi_aload0 fPlan_isDoneByPicks_11 (wi_getf600 fPlan_isDoneByPicks_12 (wi_getf210 fPlan_isDoneByPicks_13 (wi_bipush fPlan_isDoneByPicks_14 (wi_bipush fPlan_isDoneByPicks_15 (wi_acopy fPlan_isDoneByPicks_16 (by decide) (Nat.le_of_ble_eq_true rfl) (by decide) (by decide) (by decide) (by decide) (by decide) (wi_aload0 fPlan_isDoneByPicks_17 (wi_getf600 fPlan_isDoneByPicks_18 (wi_bipush fPlan_isDoneByPicks_19 (wi_iload2 fPlan_isDoneByPicks_20 (wi_call3 fPlan_isDoneByPicks_21 (Nat.le_of_ble_eq_true rfl) (k_Field_passUntilDone (((h.1 c6).2 τ1 eτ1) _ rfl).1 (fun y3 τ4 eτ4 => (wi_bipush fPlan_isDoneByPicks_22 (wi_ic_eq fPlan_isDoneByPicks_23 (fun c5 => (wi_bipush fPlan_isDoneByPicks_26 (wi_ret2 fPlan_isDoneByPicks_27 (by decide) (((((h.1 c6).2 τ1 eτ1) _ rfl).2 y3 τ4 eτ4).1 c5)))) (fun c5 => (wi_bipush fPlan_isDoneByPicks_24 (wi_goto fPlan_isDoneByPicks_25 (wi_ret2 fPlan_isDoneByPicks_27 (by decide) (((((h.1 c6).2 τ1 eτ1) _ rfl).2 y3 τ4 eτ4).2 c5)))))))))))))))))))))))))))))) (fun c6 => (wi_bipush fPlan_isDoneByPicks_2 (wi_ret2 fPlan_isDoneByPicks_3 (by decide) (h.2 c6)))))))
theorem n_lft_bo {A : w_M} {f : Nat → Int} {n : Int} : n_lft (n_bo A f) n = n_lft A n := by unfold n_lft; rw [n_bo_ne (by decide)]
theorem k_Plan_isDoneByPicks {xs : List Int} {d : Nat} {Q : Option w_V → w_M → Prop} {b : Nat} {x2 : Int} {σ : w_M} (hp : p_Plan_isDoneByPicks b x2 σ) (hQ : ∀ (x : Int) (σ' : w_M), q_Plan_isDoneByPicks b x2 σ x σ' → Q (some (.inl x)) σ') : w_Call (xs, d + 5) 80 [.inr (.inr (6, 31)), .inr (.inr (2, b)), .inl x2] σ Q := by
  obtain ⟨⟨hok, hb⟩, hv, hsp⟩ := hp
  have hn := n_ok.n hok
  have hrs := n_ok.hrs hok
  have hr := n_ok.hr hok
  have hW : n_WF (w_ab σ b) := hok
  have W := n_bo_WF hW hv
  have dl := n_done_le W
  have e0 : n_bo (w_ab σ b) (σ 41) 0 = w_ab σ b 0 := n_bo_ne (by decide)
  have a0 : w_ab σ b 0 0 = σ b 0 := rfl
  have a1 : w_ab σ b 0 1 = σ b 1 := rfl
  rw [e0, a0, a1] at dl
  refine bPlan_isDoneByPicks_0 ⟨fun c => ⟨⟨hok, Or.inr hb⟩, fun τ1 hq1 τ2 t2 => ?_⟩, fun c => ?_⟩
  · obtain ⟨q1, q2, q3⟩ := hq1
    have F2 : w_fr σ τ2 32 41 := fun c hc => by rw [t2, w_cpy_ne (by omega), q3 c hc]
    have ab2 : w_ab τ2 32 = n_bo (w_ab σ b) (σ 41) := by
      have z0 : τ2 32 = τ1 32 := by rw [t2, w_cpy_ne (by decide)]
      have z5 : τ1 32 5 = σ b 5 := congrFun (congrFun q1 0) 5
      have rl : ∀ d, w_rl τ2 32 d = w_rl τ1 32 d := fun d => by unfold w_rl; rw [z0]
      funext d i
      unfold n_bo
      by_cases c : d = 4 ∧ i < n_n (w_ab σ b)
      · rw [if_pos c, c.1, w_ab_row (by decide), rl, w_rl37 (by decide) (by decide)]
        have c2 : i < (σ b 5).toNat := c.2
        rw [if_pos (by rw [z5]; exact c2), t2]
        show w_cpy τ1 41 36 0 0 4 36 i = _
        rw [w_cpy_q, if_pos (by omega), Nat.zero_add, Nat.sub_zero, q3 41 (by omega)]
      · rw [if_neg c, ← q1]
        by_cases h9 : d < 9
        · rw [w_ab_row h9, w_ab_row h9, rl]
          by_cases hi : i < w_rl τ1 32 d
          · rw [if_pos hi, if_pos hi]
            by_cases h6 : d = 4
            · subst h6
              rw [w_rl37 (by decide) (by decide), z5] at hi
              exact absurd ⟨rfl, hi⟩ c
            · rw [t2, w_cpy_ne (by omega)]
          · rw [if_neg hi, if_neg hi]
        · by_cases h10 : d = 9
          · subst h10
            rw [w_ab_9, w_ab_9, z0]
          · rw [w_ab_10 (by omega), w_ab_10 (by omega)]
    refine ⟨⟨n_ok.of ab2 W, by decide, by decide⟩, fun y3 τ4 hq4 => ?_⟩
    obtain ⟨j, p1, p2, p3⟩ := hq4
    rw [ab2] at p2
    have ey := n_pud_cut W (by decide) (by rw [n_lft_bo, n_bo_sd]; omega) p2
    refine ⟨fun c4 => hQ _ _ ⟨Or.inl ⟨rfl, ?_⟩, F2.tr p3⟩, fun c4 => hQ _ _ ⟨Or.inr ⟨rfl, ?_⟩, F2.tr p3⟩⟩
    · by_cases h : n_done (n_bo (w_ab σ b) (σ 41)) = -4
      · exact h
      · rw [if_pos ⟨h, by omega⟩] at ey
        omega
    · intro h
      rw [if_neg (fun q => q.1 h)] at ey
      exact c4 ey
  · have no := n_done_cut W (most := 12) (Or.inr (by rw [n_lft_bo, n_bo_sd]; omega))
    refine hQ _ _ ⟨Or.inl ⟨rfl, ?_⟩, w_fr.rfl'⟩
    by_cases h : n_done (n_bo (w_ab σ b) (σ 41)) = -4
    · exact h
    · exact absurd ⟨h, by omega⟩ no
theorem n_rch_bo {A : w_M} {f : Nat → Int} (k : Nat) : n_rch (n_bo A f) k = f_sum (fun r => A 3 r * (n_cutF A r (f r) k).2.2) (n_n A) := by
  have e0 : n_bo A f 0 = A 0 := n_bo_ne (by decide)
  have key : ∀ (r : Nat) (o : Int) (k : Nat), n_cutF (n_bo A f) r o k = n_cutF A r o k := by
    intro r o k
    induction k with
    | zero => show (n_bo A f 5 r, o, (0 : Int)) = (A 5 r, o, 0); rw [n_bo_ne (by decide)]
    | succ k ih =>
      rw [n_cutF_s, n_cutF_s, ih]
      unfold n_cl
      rw [e0]
  unfold n_rch
  rw [n_bo_n]
  refine f_sum_congr (fun r hr => ?_)
  rw [key, n_bo_ne (by decide), n_bo_4 hr]
noncomputable def F_least (S : w_S) (w : Int) : Int := if w = 0 ∨ (10 ≤ w ∧ w - 10 < S 0 0 5) then
  (if (ls_F (lo_s (S 0) 10) (lo_d (S 0) 10) (10 ^ n_n (S 0))).2 = -4 then -4 else if w = 0 then (ls_F (lo_s (S 0) 10) (lo_d (S 0) 10) (10 ^ n_n (S 0))).1 else ((dg 10 (n_n (S 0)) (ls_F (lo_s (S 0) 10) (lo_d (S 0) 10) (10 ^ n_n (S 0))).2.toNat (w - 10).toNat : Nat) : Int)) else -1
noncomputable def p_Plan_leastOilOfAll (b : Nat) (σ : w_M) : Prop := n_ok σ b ∧ b + 9 ≤ 32
noncomputable def q_Plan_leastOilOfAll (b : Nat) (σ : w_M) (x : Int) (σ' : w_M) : Prop := x = (if (ls_F (lo_s (w_ab σ b) 10) (lo_d (w_ab σ b) 10) (10 ^ n_n (w_ab σ b))).2 = -4 then -4 else (ls_F (lo_s (w_ab σ b) 10) (lo_d (w_ab σ b) 10) (10 ^ n_n (w_ab σ b))).1) ∧ (¬ (ls_F (lo_s (w_ab σ b) 10) (lo_d (w_ab σ b) 10) (10 ^ n_n (w_ab σ b))).2 = -4 → ∀ r, r < n_n (w_ab σ b) → σ' 43 r = ((dg 10 (n_n (w_ab σ b)) (ls_F (lo_s (w_ab σ b) 10) (lo_d (w_ab σ b) 10) (10 ^ n_n (w_ab σ b))).2.toNat r : Nat) : Int)) ∧ w_fr σ σ' 31 80
theorem fPlan_leastOilOfAll_0 : w_fe am_c76 0 1 (.aload 0) := ⟨rfl, rfl⟩
theorem fPlan_leastOilOfAll_1 : w_fe am_c76 1 2 (.bipush 9) := ⟨rfl, rfl⟩
theorem fPlan_leastOilOfAll_2 : w_fe am_c76 2 3 (.aload 1) := ⟨rfl, rfl⟩
theorem fPlan_leastOilOfAll_3 : w_fe am_c76 3 4 (.invokestatic 47) := ⟨rfl, rfl⟩
theorem fPlan_leastOilOfAll_4 : w_fe am_c76 4 5 (.invokestatic 1) := ⟨rfl, rfl⟩
theorem fPlan_leastOilOfAll_5 : w_fe am_c76 5 6 (.invokestatic 68) := ⟨rfl, rfl⟩
theorem fPlan_leastOilOfAll_6 : w_fe am_c76 6 7 (.aload 0) := ⟨rfl, rfl⟩
theorem fPlan_leastOilOfAll_7 : w_fe am_c76 7 8 (.aload 1) := ⟨rfl, rfl⟩
theorem fPlan_leastOilOfAll_8 : w_fe am_c76 8 9 (.invokestatic 77) := ⟨rfl, rfl⟩
theorem fPlan_leastOilOfAll_9 : w_fe am_c76 9 10 (.aload 1) := ⟨rfl, rfl⟩
theorem fPlan_leastOilOfAll_10 : w_fe am_c76 10 11 (.invokestatic 35) := ⟨rfl, rfl⟩
theorem fPlan_leastOilOfAll_11 : w_fe am_c76 11 12 (.istore 2) := ⟨rfl, rfl⟩
theorem fPlan_leastOilOfAll_12 : w_fe am_c76 12 13 (.bipush (-4)) := ⟨rfl, rfl⟩
theorem fPlan_leastOilOfAll_13 : w_fe am_c76 13 14 (.istore 3) := ⟨rfl, rfl⟩
theorem fPlan_leastOilOfAll_14 : w_fe am_c76 14 15 (.bipush 0) := ⟨rfl, rfl⟩
theorem fPlan_leastOilOfAll_15 : w_fe am_c76 15 16 (.istore 4) := ⟨rfl, rfl⟩
theorem fPlan_leastOilOfAll_16 : w_fe am_c76 16 17 (.iload 4) := ⟨rfl, rfl⟩
theorem fPlan_leastOilOfAll_17 : w_fe am_c76 17 18 (.bipush 10000) := ⟨rfl, rfl⟩
theorem fPlan_leastOilOfAll_18 : w_ic am_c76 18 19 .ge 54 := ⟨rfl, rfl⟩
theorem fPlan_leastOilOfAll_19 : w_fe am_c76 19 20 (.aload 0) := ⟨rfl, rfl⟩
theorem fPlan_leastOilOfAll_20 : w_fe am_c76 20 21 (.aload 1) := ⟨rfl, rfl⟩
theorem fPlan_leastOilOfAll_21 : w_fe am_c76 21 22 (.getfield 205) := ⟨rfl, rfl⟩
theorem fPlan_leastOilOfAll_22 : w_fe am_c76 22 23 (.invokestatic 78) := ⟨rfl, rfl⟩
theorem fPlan_leastOilOfAll_23 : w_fe am_c76 23 24 (.istore 5) := ⟨rfl, rfl⟩
theorem fPlan_leastOilOfAll_24 : w_fe am_c76 24 25 (.iload 3) := ⟨rfl, rfl⟩
theorem fPlan_leastOilOfAll_25 : w_fe am_c76 25 26 (.bipush (-4)) := ⟨rfl, rfl⟩
theorem fPlan_leastOilOfAll_26 : w_ic am_c76 26 27 .eq 30 := ⟨rfl, rfl⟩
theorem fPlan_leastOilOfAll_27 : w_fe am_c76 27 28 (.iload 5) := ⟨rfl, rfl⟩
theorem fPlan_leastOilOfAll_28 : w_fe am_c76 28 29 (.iload 3) := ⟨rfl, rfl⟩
theorem fPlan_leastOilOfAll_29 : w_ic am_c76 29 30 .ge 44 := ⟨rfl, rfl⟩
theorem fPlan_leastOilOfAll_30 : w_fe am_c76 30 31 (.aload 0) := ⟨rfl, rfl⟩
theorem fPlan_leastOilOfAll_31 : w_fe am_c76 31 32 (.aload 1) := ⟨rfl, rfl⟩
theorem fPlan_leastOilOfAll_32 : w_fe am_c76 32 33 (.aload 0) := ⟨rfl, rfl⟩
theorem fPlan_leastOilOfAll_33 : w_fe am_c76 33 34 (.aload 1) := ⟨rfl, rfl⟩
theorem fPlan_leastOilOfAll_34 : w_fe am_c76 34 35 (.getfield 205) := ⟨rfl, rfl⟩
theorem fPlan_leastOilOfAll_35 : w_fe am_c76 35 36 (.invokestatic 79) := ⟨rfl, rfl⟩
theorem fPlan_leastOilOfAll_36 : w_fe am_c76 36 37 (.iload 2) := ⟨rfl, rfl⟩
theorem fPlan_leastOilOfAll_37 : w_fe am_c76 37 38 (.isub) := ⟨rfl, rfl⟩
theorem fPlan_leastOilOfAll_38 : w_fe am_c76 38 39 (.invokestatic 80) := ⟨rfl, rfl⟩
theorem fPlan_leastOilOfAll_39 : w_if am_c76 39 40 .eq 44 := ⟨rfl, rfl⟩
theorem fPlan_leastOilOfAll_40 : w_fe am_c76 40 41 (.iload 5) := ⟨rfl, rfl⟩
theorem fPlan_leastOilOfAll_41 : w_fe am_c76 41 42 (.istore 3) := ⟨rfl, rfl⟩
theorem fPlan_leastOilOfAll_42 : w_fe am_c76 42 43 (.aload 0) := ⟨rfl, rfl⟩
theorem fPlan_leastOilOfAll_43 : w_fe am_c76 43 44 (.invokestatic 71) := ⟨rfl, rfl⟩
theorem fPlan_leastOilOfAll_44 : w_fe am_c76 44 45 (.iload 3) := ⟨rfl, rfl⟩
theorem fPlan_leastOilOfAll_45 : w_if am_c76 45 46 .eq 54 := ⟨rfl, rfl⟩
theorem fPlan_leastOilOfAll_46 : w_fe am_c76 46 47 (.aload 0) := ⟨rfl, rfl⟩
theorem fPlan_leastOilOfAll_47 : w_fe am_c76 47 48 (.aload 1) := ⟨rfl, rfl⟩
theorem fPlan_leastOilOfAll_48 : w_fe am_c76 48 49 (.getfield 205) := ⟨rfl, rfl⟩
theorem fPlan_leastOilOfAll_49 : w_fe am_c76 49 50 (.invokestatic 72) := ⟨rfl, rfl⟩
theorem fPlan_leastOilOfAll_50 : w_if am_c76 50 51 .ne 52 := ⟨rfl, rfl⟩
theorem fPlan_leastOilOfAll_51 : w_gt am_c76 51 54 := rfl
theorem fPlan_leastOilOfAll_52 : w_fe am_c76 52 53 (.iinc 4 1) := ⟨rfl, rfl⟩
theorem fPlan_leastOilOfAll_53 : w_gt am_c76 53 16 := rfl
theorem fPlan_leastOilOfAll_54 : w_fe am_c76 54 55 (.iload 3) := ⟨rfl, rfl⟩
theorem fPlan_leastOilOfAll_55 : w_fe am_c76 55 56 (.ireturn) := ⟨rfl, rfl⟩
noncomputable def LPlan_leastOilOfAll_16 (xs : List Int) (d : Nat) (Q : Option w_V → w_M → Prop) (r1 : Nat) (v2 : Int) (v3 : Int) (v4 : Int) (σ : w_M) : Prop := ∀ l5, w_nl l5 → w_Ex (xs, d) 1 am_c76 Q 16 [some (.inr (.inr (6, 31))), some (.inr (.inr (2, r1))), some (.inl v2), some (.inl v3), some (.inl v4), l5] [] σ
set_option maxRecDepth 20000 in
theorem bPlan_leastOilOfAll_0 {xs : List Int} {d : Nat} {Q : Option w_V → w_M → Prop} {b : Nat} {σ : w_M}
    (h : p_Field_cloudyHoursLeft b σ ∧ (∀ (y1 : Int), y1 = v_Field_cloudyHoursLeft b σ → ∀ (y2 : Int), y2 = v_Math_min 9 y1 → (p_Plan_startPicks y2 σ ∧ (∀ (τ3 : w_M), q_Plan_startPicks y2 σ τ3 → (p_Plan_countMostCut b τ3 ∧ (∀ (τ4 : w_M), q_Plan_countMostCut b τ3 τ4 → (p_Field_standing b τ4 ∧ (∀ (y5 : Int), y5 = v_Field_standing b τ4 → LPlan_leastOilOfAll_16 xs (d + 6) Q b y5 (-4) 0 τ4)))))))) : w_Call (xs, (d + 6)) 76 [.inr (.inr (6, 31)), .inr (.inr (2, b))] σ Q :=
  (w_mk (mid := 76) (by decide) rfl rfl rfl rfl rfl (Nat.le_of_ble_eq_true rfl) ⟨rfl, Or.inl (by decide)⟩ (wi_aload0 fPlan_leastOilOfAll_0 (wi_bipush fPlan_leastOilOfAll_1 (wi_aload1 fPlan_leastOilOfAll_2 (wi_call1 fPlan_leastOilOfAll_3 (Nat.le_of_ble_eq_true rfl) (k_Field_cloudyHoursLeft h.1 (wi_call2 fPlan_leastOilOfAll_4 (Nat.le_of_ble_eq_true rfl) (k_Math_min (wi_call2 fPlan_leastOilOfAll_5 (Nat.le_of_ble_eq_true rfl) (k_Plan_startPicks ((h.2 _ rfl) _ rfl).1 (fun τ3 eτ3 => (wi_aload0 fPlan_leastOilOfAll_6 (wi_aload1 fPlan_leastOilOfAll_7 (wi_call2 fPlan_leastOilOfAll_8 (Nat.le_of_ble_eq_true rfl) (k_Plan_countMostCut (((h.2 _ rfl) _ rfl).2 τ3 eτ3).1 (fun τ4 eτ4 => (wi_aload1 fPlan_leastOilOfAll_9 (wi_call1 fPlan_leastOilOfAll_10 (Nat.le_of_ble_eq_true rfl) (k_Field_standing ((((h.2 _ rfl) _ rfl).2 τ3 eτ3).2 τ4 eτ4).1 (wi_istore2 fPlan_leastOilOfAll_11 trivial (wi_bipush fPlan_leastOilOfAll_12 (wi_istore3 fPlan_leastOilOfAll_13 trivial (wi_bipush fPlan_leastOilOfAll_14 (wi_istore4 fPlan_leastOilOfAll_15 trivial ((((((h.2 _ rfl) _ rfl).2 τ3 eτ3).2 τ4 eτ4).2 _ rfl) _ (by exact trivial))))))))))))))))))))))))))
set_option maxRecDepth 20000 in
theorem bPlan_leastOilOfAll_16 {xs : List Int} {d : Nat} {Q : Option w_V → w_M → Prop} {r1 : Nat} {v2 : Int} {v3 : Int} {v4 : Int} {σ : w_M}
    (h : (10000 ≤ v4 → Q (some (.inl v3)) σ) ∧ (v4 < 10000 → (p_Plan_sumOfPicks (σ r1 5) σ ∧ (∀ (y1 : Int), y1 = v_Plan_sumOfPicks (σ r1 5) σ → ((v3 = (-4) → (p_Plan_mostCutByPicks (σ r1 5) σ ∧ (∀ (y2 : Int), y2 = v_Plan_mostCutByPicks (σ r1 5) σ → (w_in (y2 - v2) ∧ p_Plan_isDoneByPicks r1 (y2 - v2) σ ∧ (∀ (y3 : Int) (τ4 : w_M), q_Plan_isDoneByPicks r1 (y2 - v2) σ y3 τ4 → ((y3 = 0 → ((v3 = 0 → Q (some (.inl v3)) τ4) ∧ (¬ v3 = 0 → (p_Plan_turnPicks (τ4 r1 5) τ4 ∧ (∀ (y5 : Int) (τ6 : w_M), q_Plan_turnPicks (τ4 r1 5) τ4 y5 τ6 → ((¬ y5 = 0 → (w_in (v4 + 1) ∧ LPlan_leastOilOfAll_16 xs (d + 6) Q r1 v2 v3 (v4 + 1) τ6)) ∧ (y5 = 0 → Q (some (.inl v3)) τ6))))))) ∧ (¬ y3 = 0 → (p_Plan_choosePicks τ4 ∧ (∀ (τ9 : w_M), q_Plan_choosePicks τ4 τ9 → ((y1 = 0 → Q (some (.inl y1)) τ9) ∧ (¬ y1 = 0 → (p_Plan_turnPicks (τ9 r1 5) τ9 ∧ (∀ (y10 : Int) (τ11 : w_M), q_Plan_turnPicks (τ9 r1 5) τ9 y10 τ11 → ((¬ y10 = 0 → (w_in (v4 + 1) ∧ LPlan_leastOilOfAll_16 xs (d + 6) Q r1 v2 y1 (v4 + 1) τ11)) ∧ (y10 = 0 → Q (some (.inl y1)) τ11))))))))))))))) ∧ (¬ v3 = (-4) → ((v3 ≤ y1 → ((v3 = 0 → Q (some (.inl v3)) σ) ∧ (¬ v3 = 0 → (p_Plan_turnPicks (σ r1 5) σ ∧ (∀ (y15 : Int) (τ16 : w_M), q_Plan_turnPicks (σ r1 5) σ y15 τ16 → ((¬ y15 = 0 → (w_in (v4 + 1) ∧ LPlan_leastOilOfAll_16 xs (d + 6) Q r1 v2 v3 (v4 + 1) τ16)) ∧ (y15 = 0 → Q (some (.inl v3)) τ16))))))) ∧ (y1 < v3 → (p_Plan_mostCutByPicks (σ r1 5) σ ∧ (∀ (y19 : Int), y19 = v_Plan_mostCutByPicks (σ r1 5) σ → (w_in (y19 - v2) ∧ p_Plan_isDoneByPicks r1 (y19 - v2) σ ∧ (∀ (y20 : Int) (τ21 : w_M), q_Plan_isDoneByPicks r1 (y19 - v2) σ y20 τ21 → ((y20 = 0 → ((v3 = 0 → Q (some (.inl v3)) τ21) ∧ (¬ v3 = 0 → (p_Plan_turnPicks (τ21 r1 5) τ21 ∧ (∀ (y22 : Int) (τ23 : w_M), q_Plan_turnPicks (τ21 r1 5) τ21 y22 τ23 → ((¬ y22 = 0 → (w_in (v4 + 1) ∧ LPlan_leastOilOfAll_16 xs (d + 6) Q r1 v2 v3 (v4 + 1) τ23)) ∧ (y22 = 0 → Q (some (.inl v3)) τ23))))))) ∧ (¬ y20 = 0 → (p_Plan_choosePicks τ21 ∧ (∀ (τ26 : w_M), q_Plan_choosePicks τ21 τ26 → ((y1 = 0 → Q (some (.inl y1)) τ26) ∧ (¬ y1 = 0 → (p_Plan_turnPicks (τ26 r1 5) τ26 ∧ (∀ (y27 : Int) (τ28 : w_M), q_Plan_turnPicks (τ26 r1 5) τ26 y27 τ28 → ((¬ y27 = 0 → (w_in (v4 + 1) ∧ LPlan_leastOilOfAll_16 xs (d + 6) Q r1 v2 y1 (v4 + 1) τ28)) ∧ (y27 = 0 → Q (some (.inl y1)) τ28)))))))))))))))))))))) : LPlan_leastOilOfAll_16 xs (d + 6) Q r1 v2 v3 v4 σ :=
  fun l5 nl5 => (wi_iload4 fPlan_leastOilOfAll_16 (wi_bipush fPlan_leastOilOfAll_17 (wi_ic_ge fPlan_leastOilOfAll_18 (fun c34 => (wi_iload3 fPlan_leastOilOfAll_54 (wi_ret1 fPlan_leastOilOfAll_55 (h.1 c34)))) (fun c34 => (wi_aload0 fPlan_leastOilOfAll_19 (wi_aload1 fPlan_leastOilOfAll_20 (wi_getf205 fPlan_leastOilOfAll_21 (wi_call2 fPlan_leastOilOfAll_22 (Nat.le_of_ble_eq_true rfl) (k_Plan_sumOfPicks (h.2 c34).1 (wi_istore5 fPlan_leastOilOfAll_23 trivial (wi_iload3 fPlan_leastOilOfAll_24 (wi_bipush fPlan_leastOilOfAll_25 (wi_ic_eq fPlan_leastOilOfAll_26 (fun c33 => (wi_aload0 fPlan_leastOilOfAll_30 (wi_aload1 fPlan_leastOilOfAll_31 (wi_aload0 fPlan_leastOilOfAll_32 (wi_aload1 fPlan_leastOilOfAll_33 (wi_getf205 fPlan_leastOilOfAll_34 (wi_call2 fPlan_leastOilOfAll_35 (Nat.le_of_ble_eq_true rfl) (k_Plan_mostCutByPicks (((h.2 c34).2 _ rfl).1 c33).1 (wi_iload2 fPlan_leastOilOfAll_36 (wi_isub fPlan_leastOilOfAll_37 ((((h.2 c34).2 _ rfl).1 c33).2 _ rfl).1 (wi_call3 fPlan_leastOilOfAll_38 (Nat.le_of_ble_eq_true rfl) (k_Plan_isDoneByPicks ((((h.2 c34).2 _ rfl).1 c33).2 _ rfl).2.1 (fun y3 τ4 eτ4 => (wi_if_eq fPlan_leastOilOfAll_39 (fun c14 => (wi_iload3 fPlan_leastOilOfAll_44 (wi_if_eq fPlan_leastOilOfAll_45 (fun c8 => (wi_iload3 fPlan_leastOilOfAll_54 (wi_ret1 fPlan_leastOilOfAll_55 (((((((h.2 c34).2 _ rfl).1 c33).2 _ rfl).2.2 y3 τ4 eτ4).1 c14).1 c8)))) (fun c8 => (wi_aload0 fPlan_leastOilOfAll_46 (wi_aload1 fPlan_leastOilOfAll_47 (wi_getf205 fPlan_leastOilOfAll_48 (wi_call2 fPlan_leastOilOfAll_49 (Nat.le_of_ble_eq_true rfl) (k_Plan_turnPicks (((((((h.2 c34).2 _ rfl).1 c33).2 _ rfl).2.2 y3 τ4 eτ4).1 c14).2 c8).1 (fun y5 τ6 eτ6 => (wi_if_ne fPlan_leastOilOfAll_50 (fun c7 => (wi_iinc4 fPlan_leastOilOfAll_52 trivial (((((((((h.2 c34).2 _ rfl).1 c33).2 _ rfl).2.2 y3 τ4 eτ4).1 c14).2 c8).2 y5 τ6 eτ6).1 c7).1 (wi_goto fPlan_leastOilOfAll_53 ((((((((((h.2 c34).2 _ rfl).1 c33).2 _ rfl).2.2 y3 τ4 eτ4).1 c14).2 c8).2 y5 τ6 eτ6).1 c7).2 _ (by exact trivial))))) (fun c7 => (wi_goto fPlan_leastOilOfAll_51 (wi_iload3 fPlan_leastOilOfAll_54 (wi_ret1 fPlan_leastOilOfAll_55 (((((((((h.2 c34).2 _ rfl).1 c33).2 _ rfl).2.2 y3 τ4 eτ4).1 c14).2 c8).2 y5 τ6 eτ6).2 c7)))))))))))))))) (fun c14 => (wi_iload5 fPlan_leastOilOfAll_40 (wi_istore3 fPlan_leastOilOfAll_41 trivial (wi_aload0 fPlan_leastOilOfAll_42 (wi_call1 fPlan_leastOilOfAll_43 (Nat.le_of_ble_eq_true rfl) (k_Plan_choosePicks ((((((h.2 c34).2 _ rfl).1 c33).2 _ rfl).2.2 y3 τ4 eτ4).2 c14).1 (fun τ9 eτ9 => (wi_iload3 fPlan_leastOilOfAll_44 (wi_if_eq fPlan_leastOilOfAll_45 (fun c13 => (wi_iload3 fPlan_leastOilOfAll_54 (wi_ret1 fPlan_leastOilOfAll_55 ((((((((h.2 c34).2 _ rfl).1 c33).2 _ rfl).2.2 y3 τ4 eτ4).2 c14).2 τ9 eτ9).1 c13)))) (fun c13 => (wi_aload0 fPlan_leastOilOfAll_46 (wi_aload1 fPlan_leastOilOfAll_47 (wi_getf205 fPlan_leastOilOfAll_48 (wi_call2 fPlan_leastOilOfAll_49 (Nat.le_of_ble_eq_true rfl) (k_Plan_turnPicks ((((((((h.2 c34).2 _ rfl).1 c33).2 _ rfl).2.2 y3 τ4 eτ4).2 c14).2 τ9 eτ9).2 c13).1 (fun y10 τ11 eτ11 => (wi_if_ne fPlan_leastOilOfAll_50 (fun c12 => (wi_iinc4 fPlan_leastOilOfAll_52 trivial ((((((((((h.2 c34).2 _ rfl).1 c33).2 _ rfl).2.2 y3 τ4 eτ4).2 c14).2 τ9 eτ9).2 c13).2 y10 τ11 eτ11).1 c12).1 (wi_goto fPlan_leastOilOfAll_53 (((((((((((h.2 c34).2 _ rfl).1 c33).2 _ rfl).2.2 y3 τ4 eτ4).2 c14).2 τ9 eτ9).2 c13).2 y10 τ11 eτ11).1 c12).2 _ (by exact trivial))))) (fun c12 => (wi_goto fPlan_leastOilOfAll_51 (wi_iload3 fPlan_leastOilOfAll_54 (wi_ret1 fPlan_leastOilOfAll_55 ((((((((((h.2 c34).2 _ rfl).1 c33).2 _ rfl).2.2 y3 τ4 eτ4).2 c14).2 τ9 eτ9).2 c13).2 y10 τ11 eτ11).2 c12)))))))))))))))))))))))))))))))))))) (fun c33 => (wi_iload5 fPlan_leastOilOfAll_27 (wi_iload3 fPlan_leastOilOfAll_28 (wi_ic_ge fPlan_leastOilOfAll_29 (fun c32 => (wi_iload3 fPlan_leastOilOfAll_44 (wi_if_eq fPlan_leastOilOfAll_45 (fun c18 => (wi_iload3 fPlan_leastOilOfAll_54 (wi_ret1 fPlan_leastOilOfAll_55 (((((h.2 c34).2 _ rfl).2 c33).1 c32).1 c18)))) (fun c18 => (wi_aload0 fPlan_leastOilOfAll_46 (wi_aload1 fPlan_leastOilOfAll_47 (wi_getf205 fPlan_leastOilOfAll_48 (wi_call2 fPlan_leastOilOfAll_49 (Nat.le_of_ble_eq_true rfl) (k_Plan_turnPicks (((((h.2 c34).2 _ rfl).2 c33).1 c32).2 c18).1 (fun y15 τ16 eτ16 => (wi_if_ne fPlan_leastOilOfAll_50 (fun c17 => (wi_iinc4 fPlan_leastOilOfAll_52 trivial (((((((h.2 c34).2 _ rfl).2 c33).1 c32).2 c18).2 y15 τ16 eτ16).1 c17).1 (wi_goto fPlan_leastOilOfAll_53 ((((((((h.2 c34).2 _ rfl).2 c33).1 c32).2 c18).2 y15 τ16 eτ16).1 c17).2 _ (by exact trivial))))) (fun c17 => (wi_goto fPlan_leastOilOfAll_51 (wi_iload3 fPlan_leastOilOfAll_54 (wi_ret1 fPlan_leastOilOfAll_55 (((((((h.2 c34).2 _ rfl).2 c33).1 c32).2 c18).2 y15 τ16 eτ16).2 c17)))))))))))))))) (fun c32 => (wi_aload0 fPlan_leastOilOfAll_30 (wi_aload1 fPlan_leastOilOfAll_31 (wi_aload0 fPlan_leastOilOfAll_32 (wi_aload1 fPlan_leastOilOfAll_33 (wi_getf205 fPlan_leastOilOfAll_34 (wi_call2 fPlan_leastOilOfAll_35 (Nat.le_of_ble_eq_true rfl) (k_Plan_mostCutByPicks ((((h.2 c34).2 _ rfl).2 c33).2 c32).1 (wi_iload2 fPlan_leastOilOfAll_36 (wi_isub fPlan_leastOilOfAll_37 (((((h.2 c34).2 _ rfl).2 c33).2 c32).2 _ rfl).1 (wi_call3 fPlan_leastOilOfAll_38 (Nat.le_of_ble_eq_true rfl) (k_Plan_isDoneByPicks (((((h.2 c34).2 _ rfl).2 c33).2 c32).2 _ rfl).2.1 (fun y20 τ21 eτ21 => (wi_if_eq fPlan_leastOilOfAll_39 (fun c31 => (wi_iload3 fPlan_leastOilOfAll_44 (wi_if_eq fPlan_leastOilOfAll_45 (fun c25 => (wi_iload3 fPlan_leastOilOfAll_54 (wi_ret1 fPlan_leastOilOfAll_55 ((((((((h.2 c34).2 _ rfl).2 c33).2 c32).2 _ rfl).2.2 y20 τ21 eτ21).1 c31).1 c25)))) (fun c25 => (wi_aload0 fPlan_leastOilOfAll_46 (wi_aload1 fPlan_leastOilOfAll_47 (wi_getf205 fPlan_leastOilOfAll_48 (wi_call2 fPlan_leastOilOfAll_49 (Nat.le_of_ble_eq_true rfl) (k_Plan_turnPicks ((((((((h.2 c34).2 _ rfl).2 c33).2 c32).2 _ rfl).2.2 y20 τ21 eτ21).1 c31).2 c25).1 (fun y22 τ23 eτ23 => (wi_if_ne fPlan_leastOilOfAll_50 (fun c24 => (wi_iinc4 fPlan_leastOilOfAll_52 trivial ((((((((((h.2 c34).2 _ rfl).2 c33).2 c32).2 _ rfl).2.2 y20 τ21 eτ21).1 c31).2 c25).2 y22 τ23 eτ23).1 c24).1 (wi_goto fPlan_leastOilOfAll_53 (((((((((((h.2 c34).2 _ rfl).2 c33).2 c32).2 _ rfl).2.2 y20 τ21 eτ21).1 c31).2 c25).2 y22 τ23 eτ23).1 c24).2 _ (by exact trivial))))) (fun c24 => (wi_goto fPlan_leastOilOfAll_51 (wi_iload3 fPlan_leastOilOfAll_54 (wi_ret1 fPlan_leastOilOfAll_55 ((((((((((h.2 c34).2 _ rfl).2 c33).2 c32).2 _ rfl).2.2 y20 τ21 eτ21).1 c31).2 c25).2 y22 τ23 eτ23).2 c24)))))))))))))))) (fun c31 => (wi_iload5 fPlan_leastOilOfAll_40 (wi_istore3 fPlan_leastOilOfAll_41 trivial (wi_aload0 fPlan_leastOilOfAll_42 (wi_call1 fPlan_leastOilOfAll_43 (Nat.le_of_ble_eq_true rfl) (k_Plan_choosePicks (((((((h.2 c34).2 _ rfl).2 c33).2 c32).2 _ rfl).2.2 y20 τ21 eτ21).2 c31).1 (fun τ26 eτ26 => (wi_iload3 fPlan_leastOilOfAll_44 (wi_if_eq fPlan_leastOilOfAll_45 (fun c30 => (wi_iload3 fPlan_leastOilOfAll_54 (wi_ret1 fPlan_leastOilOfAll_55 (((((((((h.2 c34).2 _ rfl).2 c33).2 c32).2 _ rfl).2.2 y20 τ21 eτ21).2 c31).2 τ26 eτ26).1 c30)))) (fun c30 => (wi_aload0 fPlan_leastOilOfAll_46 (wi_aload1 fPlan_leastOilOfAll_47 (wi_getf205 fPlan_leastOilOfAll_48 (wi_call2 fPlan_leastOilOfAll_49 (Nat.le_of_ble_eq_true rfl) (k_Plan_turnPicks (((((((((h.2 c34).2 _ rfl).2 c33).2 c32).2 _ rfl).2.2 y20 τ21 eτ21).2 c31).2 τ26 eτ26).2 c30).1 (fun y27 τ28 eτ28 => (wi_if_ne fPlan_leastOilOfAll_50 (fun c29 => (wi_iinc4 fPlan_leastOilOfAll_52 trivial (((((((((((h.2 c34).2 _ rfl).2 c33).2 c32).2 _ rfl).2.2 y20 τ21 eτ21).2 c31).2 τ26 eτ26).2 c30).2 y27 τ28 eτ28).1 c29).1 (wi_goto fPlan_leastOilOfAll_53 ((((((((((((h.2 c34).2 _ rfl).2 c33).2 c32).2 _ rfl).2.2 y20 τ21 eτ21).2 c31).2 τ26 eτ26).2 c30).2 y27 τ28 eτ28).1 c29).2 _ (by exact trivial))))) (fun c29 => (wi_goto fPlan_leastOilOfAll_51 (wi_iload3 fPlan_leastOilOfAll_54 (wi_ret1 fPlan_leastOilOfAll_55 (((((((((((h.2 c34).2 _ rfl).2 c33).2 c32).2 _ rfl).2.2 y20 τ21 eτ21).2 c31).2 τ26 eτ26).2 c30).2 y27 τ28 eτ28).2 c29)))))))))))))))))))))))))))))))))))))))))))))))))))))
set_option maxHeartbeats 4000000 in
theorem k_Plan_leastOilOfAll {xs : List Int} {d : Nat} {Q : Option w_V → w_M → Prop} {b : Nat} {σ : w_M} (hp : p_Plan_leastOilOfAll b σ) (hQ : ∀ (x : Int) (σ' : w_M), q_Plan_leastOilOfAll b σ x σ' → Q (some (.inl x)) σ') : w_Call (xs, d + 6) 76 [.inr (.inr (6, 31)), .inr (.inr (2, b))] σ Q := by
  obtain ⟨hok, hb⟩ := hp
  have hn := n_ok.n hok
  have hrs := n_ok.hrs hok
  have hr := n_ok.hr hok
  have hW : n_WF (w_ab σ b) := hok
  have en : n_n (w_ab σ b) = (σ b 5).toNat := rfl
  unfold q_Plan_leastOilOfAll at hQ
  have fab : ∀ τ : w_M, w_fr σ τ 32 63 → w_ab τ b = w_ab σ b ∧ τ b = σ b := fun τ F => ⟨w_ab_fr (fun d hd => F _ (by omega)), F b (by omega)⟩
  have cl0 : 0 ≤ n_cloudy (w_ab σ b) := by
    unfold n_cloudy
    refine (f_sum_le (B := 1) (m := (w_ab σ b 0 0 - w_ab σ b 0 1).toNat) (fun k _ => ?_) (Nat.le_refl _)).1
    have := n_cl01 (w_ab σ b) (w_ab σ b 0 1 + (k : Int))
    omega
  refine bPlan_leastOilOfAll_0 ⟨hok, fun y1 e1 y2 e2 => ⟨trivial, fun τ3 hq3 => ?_⟩⟩
  unfold v_Field_cloudyHoursLeft at e1
  generalize hA : w_ab σ b = A at *
  obtain ⟨C, hC⟩ : ∃ C : Nat, (C : Int) = y2 := ⟨y2.toNat, by rw [e2, e1]; unfold v_Math_min; split <;> omega⟩
  have hC9 : C ≤ 9 := by
    have : y2 ≤ 9 := by rw [e2]; unfold v_Math_min; split <;> omega
    omega
  have hcl : C = 9 ∨ n_cloudy A = (C : Int) := by
    rw [hC, e2, e1]
    unfold v_Math_min
    split
    · left; rw [e2, e1] at hC; unfold v_Math_min at hC; rw [if_pos (by assumption)] at hC; omega
    · right; rfl
  have LE := lo_eq hW hC9 hcl
  have hn4 : n_n A ≤ 4 := by omega
  have p10 := pow10 (B := C + 1) (n := n_n A) (by omega) hn4
  have hpos : 0 < (C + 1) ^ n_n A := Nat.pow_pos (by omega)
  have hsd := n_sd_le hW
  have hsl := lo_s_le hW (B := C + 1) (by omega) (by omega)
  have dB : ∀ k r, dg (C + 1) (n_n A) k r < C + 1 := fun k r => dg_lt (by omega)
  obtain ⟨s1, s2⟩ := hq3
  have F3 : w_fr σ τ3 32 63 := fun c hc => s2 c (by omega) (by omega)
  obtain ⟨f1, f2⟩ := fab τ3 F3
  refine ⟨⟨n_ok.of f1 hW, hb⟩, fun τ4 hq4 => ?_⟩
  obtain ⟨m1, m2⟩ := hq4
  rw [f1] at m1
  have F4 : w_fr σ τ4 32 63 := fun c hc => by rw [m2 c (by omega), F3 c hc]
  obtain ⟨g1, g2⟩ := fab τ4 F4
  refine ⟨n_ok.of g1 hW, fun y5 e5 => ?_⟩
  unfold v_Field_standing at e5
  rw [g1] at e5
  generalize hs : lo_s A (C + 1) = s at *
  generalize hd : lo_d A (C + 1) = dd at *
  -- the end, with what was found
  have fin : ∀ (τ' : w_M) (v : Int), w_fr σ τ' 32 63 → (((ls_F s dd ((C + 1) ^ n_n A)).2 = -4 ∧ v = -4) ∨ (¬ (ls_F s dd ((C + 1) ^ n_n A)).2 = -4 ∧ v = (ls_F s dd ((C + 1) ^ n_n A)).1 ∧ ∀ r, r < n_n A → τ' 43 r = ((dg (C + 1) (n_n A) (ls_F s dd ((C + 1) ^ n_n A)).2.toNat r : Nat) : Int))) → Q (some (.inl v)) τ' := fun τ' v F' hv => by
    refine hQ _ _ ⟨?_, fun hne r hr2 => ?_, F'.wide (by decide) (by decide)⟩
    · rcases LE with ⟨l1, l2⟩ | ⟨l1, l2, l3, l4⟩
      · rw [if_pos l2]
        rcases hv with ⟨-, h⟩ | ⟨h, -⟩
        · exact h
        · exact absurd l1 h
      · rw [if_neg l2]
        rcases hv with ⟨h, -⟩ | ⟨-, h, -⟩
        · exact absurd h l1
        · rw [h, l3]
    · rcases LE with ⟨l1, l2⟩ | ⟨l1, l2, l3, l4⟩
      · exact absurd l2 hne
      · rcases hv with ⟨h, -⟩ | ⟨-, -, h⟩
        · exact absurd h l1
        · rw [h r hr2, l4 r hr2]
  have mst : ∀ r, r < n_n A → ∀ v, v < 10 → τ4 (46 + r) v = mc_v A r v := m1
  refine (w_loop (n := (C + 1) ^ n_n A) (P := fun k => k < (C + 1) ^ n_n A → ∀ (τ : w_M) (v3 : Int), w_fr σ τ 32 63 → pk_at τ (C + 1) (n_n A) k → (∀ r, r < n_n A → ∀ v, v < 10 → τ (46 + r) v = mc_v A r v) → (((ls_F s dd k).2 = -4 ∧ v3 = -4) ∨ (¬ (ls_F s dd k).2 = -4 ∧ v3 = (ls_F s dd k).1 ∧ ∀ r, r < n_n A → τ 43 r = ((dg (C + 1) (n_n A) (ls_F s dd k).2.toNat r : Nat) : Int))) → LPlan_leastOilOfAll_16 xs (d + 6) Q b y5 v3 (k : Int) τ) ?_ ?_) hpos τ4 (-4) F4 ?_ mst (Or.inl ⟨rfl, rfl⟩)
  · intro h; omega
  · intro k hk ih _ τ v3 F hpk hms hinv
    obtain ⟨g3, g4⟩ := fab τ F
    have hsp := ls_spec (s := s) (d := dd) hsl k
    have v3le : v3 = -4 ∨ (0 ≤ v3 ∧ v3 ≤ 36) := by
      rcases hinv with ⟨h1, h2⟩ | ⟨h1, h2, h3⟩
      · exact Or.inl h2
      · rcases hsp with ⟨q1, -⟩ | ⟨m, -, -, q2, -⟩
        · exact absurd q1 h1
        · have := hsl m; omega
    have pv : ∀ r, r < n_n A → 0 ≤ τ 41 r ∧ τ 41 r ≤ 9 := fun r hr2 => by
      have h1 := (hpk r hr2).1
      have h2 := dB k r
      omega
    have ef : ∀ r, r < n_n A → τ 41 r = lo_f A (C + 1) k r := fun r hr2 => (hpk r hr2).1
    have ebo : n_bo A (τ 41) = n_bo A (lo_f A (C + 1) k) := n_bo_congr ef
    have edone : n_done (n_bo A (τ 41)) = dd k := by rw [ebo, ← hd]; rfl
    -- turning, or the end where nothing less is left
    have turn : ∀ (τ' : w_M) (v3' : Int), w_fr σ τ' 32 63 → pk_at τ' (C + 1) (n_n A) k → (∀ r, r < n_n A → ∀ v, v < 10 → τ' (46 + r) v = mc_v A r v) → (((ls_F s dd (k + 1)).2 = -4 ∧ v3' = -4) ∨ (¬ (ls_F s dd (k + 1)).2 = -4 ∧ v3' = (ls_F s dd (k + 1)).1 ∧ ∀ r, r < n_n A → τ' 43 r = ((dg (C + 1) (n_n A) (ls_F s dd (k + 1)).2.toNat r : Nat) : Int))) → (v3' = 0 → Q (some (.inl v3')) τ') ∧ (¬ v3' = 0 → (p_Plan_turnPicks (τ' b 5) τ' ∧ (∀ (y : Int) (τ5 : w_M), q_Plan_turnPicks (τ' b 5) τ' y τ5 → ((¬ y = 0 → (w_in ((k : Int) + 1) ∧ LPlan_leastOilOfAll_16 xs (d + 6) Q b y5 v3' ((k : Int) + 1) τ5)) ∧ (y = 0 → Q (some (.inl v3')) τ5))))) := fun τ' v3' F' hp' hm' hi' => by
      obtain ⟨-, g5⟩ := fab τ' F'
      refine ⟨fun hz => ?_, fun _ => ?_⟩
      · rcases hi' with ⟨x1, x2⟩ | ⟨x1, x2, x3⟩
        · omega
        · have e := ls_stay (s := s) (d := dd) (k := k + 1) ((C + 1) ^ n_n A - (k + 1)) (fun i _ _ q => by
            have h1 := hsl i
            have h2 := q.1
            omega)
          rw [show k + 1 + ((C + 1) ^ n_n A - (k + 1)) = (C + 1) ^ n_n A by omega] at e
          refine fin τ' v3' F' (Or.inr ?_)
          rw [e]
          exact ⟨x1, x2, x3⟩
      · rw [g5]
        refine ⟨⟨hn, C + 1, k, by omega, by omega, by rw [← en]; exact hk, by rw [← en]; exact hp'⟩, fun y τ5 hq => ?_⟩
        obtain ⟨q1, q2⟩ := hq
        have F5 : w_fr σ τ5 32 63 := fun c hc => by rw [q1 c (by omega), F' c hc]
        have z43 : τ5 43 = τ' 43 := q1 43 (by decide)
        have q2' := q2 (C + 1) k (by omega) (by omega) (by rw [← en]; exact hk) (by rw [← en]; exact hp')
        rw [← en] at q2'
        refine ⟨fun c => ⟨⟨by omega, by omega⟩, ?_⟩, fun c => ?_⟩
        · rcases q2' with ⟨a1, a2, a3⟩ | ⟨a1, a2⟩
          · rw [← w_cs1]
            refine ih a2 τ5 v3' F5 a3 (fun r hr2 v hv => by rw [q1 (46 + r) (by omega)]; exact hm' r hr2 v hv) ?_
            rw [z43]
            exact hi'
          · exact absurd a1 c
        · rcases q2' with ⟨a1, a2, a3⟩ | ⟨a1, a2⟩
          · omega
          · refine fin τ5 v3' F5 ?_
            rw [z43, ← a2]
            exact hi'
    -- how it is tried
    have psum : p_Plan_sumOfPicks (τ b 5) τ := ⟨by rw [g4]; exact hn, fun r hr2 => pv r (by rw [g4, ← en] at hr2; exact hr2)⟩
    have esum : v_Plan_sumOfPicks (τ b 5) τ = s k := by
      unfold v_Plan_sumOfPicks
      rw [g4, ← en, ← hs]
      exact f_sum_congr ef
    have emc : ∀ r, r < n_n A → τ (46 + r) (τ 41 r).toNat = A 3 r * (n_cutF A r (τ 41 r) (n_lft A 12)).2.2 := fun r hr2 => by
      have h1 := pv r hr2
      rw [hms r hr2 (τ 41 r).toNat (by omega)]
      unfold mc_v
      rw [show (((τ 41 r).toNat : Nat) : Int) = τ 41 r by omega]
    have pmc : p_Plan_mostCutByPicks (τ b 5) τ := ⟨by rw [g4]; exact hn, fun r hr2 => by
      rw [g4, ← en] at hr2
      have h1 := pv r hr2
      refine ⟨h1, ?_⟩
      rw [hms r hr2 (τ 41 r).toNat (by omega)]
      exact mc_le hW hr2 (by omega)⟩
    have evm : v_Plan_mostCutByPicks (τ b 5) τ = n_rch (n_bo A (τ 41)) (n_lft A 12) := by
      unfold v_Plan_mostCutByPicks
      rw [g4, ← en, n_rch_bo]
      exact f_sum_congr emc
    have rle : 0 ≤ n_rch (n_bo A (τ 41)) (n_lft A 12) ∧ n_rch (n_bo A (τ 41)) (n_lft A 12) ≤ 432 := n_rch_le (n_bo_WF hW pv) (by have := (n_left_lft hW (n := 12) (by decide)).2.1; omega)
    have pid : p_Plan_isDoneByPicks b (n_rch (n_bo A (τ 41)) (n_lft A 12) - y5) τ := ⟨⟨n_ok.of g3 hW, hb⟩, by rw [g3]; exact pv, by rw [g3, e5]⟩
    have rest : ∀ (y3 : Int) (τ5 : w_M), q_Plan_isDoneByPicks b (n_rch (n_bo A (τ 41)) (n_lft A 12) - y5) τ y3 τ5 → (v3 = -4 ∨ s k < v3) → (y3 = 0 → (v3 = 0 → Q (some (.inl v3)) τ5) ∧ (¬ v3 = 0 → (p_Plan_turnPicks (τ5 b 5) τ5 ∧ (∀ (y : Int) (τ6 : w_M), q_Plan_turnPicks (τ5 b 5) τ5 y τ6 → ((¬ y = 0 → (w_in ((k : Int) + 1) ∧ LPlan_leastOilOfAll_16 xs (d + 6) Q b y5 v3 ((k : Int) + 1) τ6)) ∧ (y = 0 → Q (some (.inl v3)) τ6)))))) ∧ (¬ y3 = 0 → (p_Plan_choosePicks τ5 ∧ (∀ τ9 : w_M, q_Plan_choosePicks τ5 τ9 → ((s k = 0 → Q (some (.inl (s k))) τ9) ∧ (¬ s k = 0 → (p_Plan_turnPicks (τ9 b 5) τ9 ∧ (∀ (y : Int) (τ6 : w_M), q_Plan_turnPicks (τ9 b 5) τ9 y τ6 → ((¬ y = 0 → (w_in ((k : Int) + 1) ∧ LPlan_leastOilOfAll_16 xs (d + 6) Q b y5 (s k) ((k : Int) + 1) τ6)) ∧ (y = 0 → Q (some (.inl (s k))) τ6))))))))) := fun y3 τ5 hq hlt => by
      obtain ⟨o1, o2⟩ := hq
      rw [g3, edone] at o1
      have F5 : w_fr σ τ5 32 63 := F.tr (o2.wide (by decide) (by decide))
      have t41 : τ5 41 = τ 41 := o2 41 (by omega)
      have t42 : τ5 42 = τ 42 := o2 42 (by omega)
      have t43 : τ5 43 = τ 43 := o2 43 (by omega)
      have ms5 : ∀ r, r < n_n A → ∀ v, v < 10 → τ5 (46 + r) v = mc_v A r v := fun r hr2 v hv => by rw [o2 (46 + r) (by omega)]; exact hms r hr2 v hv
      have pk5 : pk_at τ5 (C + 1) (n_n A) k := fun r hr2 => by rw [t41, t42]; exact hpk r hr2
      refine ⟨fun c => ?_, fun c => ⟨trivial, fun τ9 hq9 => ?_⟩⟩
      · have hno : dd k = -4 := by rcases o1 with ⟨-, h⟩ | ⟨h, -⟩ <;> first | exact h | omega
        have e : ls_F s dd (k + 1) = ls_F s dd k := by
          simp only [ls_F]
          rw [if_neg (fun q => q.2 hno)]
        refine turn τ5 v3 F5 pk5 ms5 ?_
        rw [e, t43]
        exact hinv
      · have hyes : dd k ≠ -4 := by rcases o1 with ⟨h, -⟩ | ⟨-, h⟩ <;> first | exact h | omega
        obtain ⟨u1, u2⟩ := hq9
        have hk36 := hsl k
        have hlt2 : s k < (ls_F s dd k).1 := by
          rcases hinv with ⟨x1, x2⟩ | ⟨x1, x2, x3⟩
          · rcases hsp with ⟨-, q1, -⟩ | ⟨m, -, q2, -⟩
            · omega
            · omega
          · rcases hsp with ⟨q1, -⟩ | ⟨m, -, -, q2, -⟩
            · exact absurd q1 x1
            · have := hsl m
              omega
        have e : ls_F s dd (k + 1) = (s k, (k : Int)) := by
          simp only [ls_F]
          rw [if_pos ⟨hlt2, hyes⟩]
        refine turn τ9 (s k) (fun c hc => by rw [u2 c (by omega), F5 c hc]) (fun r hr2 => by rw [u2 41 (by decide), u2 42 (by decide)]; exact pk5 r hr2) (fun r hr2 v hv => by rw [u2 (46 + r) (by omega)]; exact ms5 r hr2 v hv) (Or.inr ?_)
        rw [e]
        refine ⟨by simp only []; omega, rfl, fun r hr2 => ?_⟩
        rw [u1 r (by omega), t41, (hpk r hr2).1]
        simp only [Int.toNat_natCast]
    refine bPlan_leastOilOfAll_16 ⟨fun h => by omega, fun _ => ⟨psum, fun y1' e1' => ?_⟩⟩
    rw [esum] at e1'
    rw [e1', evm]
    refine ⟨fun c => ⟨pmc, fun y2' e2' => ?_⟩, fun c => ⟨fun c2 => ?_, fun c2 => ⟨pmc, fun y2' e2' => ?_⟩⟩⟩
    · rw [e2']
      exact ⟨⟨by omega, by omega⟩, pid, fun y3 τ5 hq => rest y3 τ5 hq (Or.inl c)⟩
    · have e : ls_F s dd (k + 1) = ls_F s dd k := by
        simp only [ls_F]
        rcases hinv with ⟨x1, x2⟩ | ⟨x1, x2, x3⟩
        · exact absurd x2 c
        · rw [if_neg (fun q => by have := q.1; omega)]
      refine turn τ v3 F hpk hms ?_
      rw [e]
      exact hinv
    · rw [e2']
      exact ⟨⟨by omega, by omega⟩, pid, fun y3 τ5 hq => rest y3 τ5 hq (Or.inr c2)⟩
  · refine pk_start hn4 (fun r hr2 => ?_)
    rw [m2 41 (by omega), m2 42 (by omega)]
    refine ⟨(s1 r hr2).1, ?_⟩
    rw [(s1 r hr2).2]
    omega
noncomputable def p_Moon_least (_x1 : Int) (σ : w_M) : Prop := CI σ
noncomputable def q_Moon_least (x1 : Int) (σ : w_M) (x : Int) (σ' : w_M) : Prop := c_q (F_least (cS σ) x1) (cS σ) σ x σ'
theorem fMoon_least_0 : w_fe am_c133 0 1 (.iload 1) := ⟨rfl, rfl⟩
theorem fMoon_least_1 : w_if am_c133 1 2 .eq 8 := ⟨rfl, rfl⟩
theorem fMoon_least_2 : w_fe am_c133 2 3 (.aload 0) := ⟨rfl, rfl⟩
theorem fMoon_least_3 : w_fe am_c133 3 4 (.iload 1) := ⟨rfl, rfl⟩
theorem fMoon_least_4 : w_fe am_c133 4 5 (.invokestatic 130) := ⟨rfl, rfl⟩
theorem fMoon_least_5 : w_if am_c133 5 6 .ne 8 := ⟨rfl, rfl⟩
theorem fMoon_least_6 : w_fe am_c133 6 7 (.bipush (-1)) := ⟨rfl, rfl⟩
theorem fMoon_least_7 : w_fe am_c133 7 8 (.ireturn) := ⟨rfl, rfl⟩
theorem fMoon_least_8 : w_fe am_c133 8 9 (.aload 0) := ⟨rfl, rfl⟩
theorem fMoon_least_9 : w_fe am_c133 9 10 (.getfield 4) := ⟨rfl, rfl⟩
theorem fMoon_least_10 : w_fe am_c133 10 11 (.aload 0) := ⟨rfl, rfl⟩
theorem fMoon_least_11 : w_fe am_c133 11 12 (.getfield 2) := ⟨rfl, rfl⟩
theorem fMoon_least_12 : w_fe am_c133 12 13 (.invokestatic 76) := ⟨rfl, rfl⟩
theorem fMoon_least_13 : w_fe am_c133 13 14 (.istore 2) := ⟨rfl, rfl⟩
theorem fMoon_least_14 : w_fe am_c133 14 15 (.iload 1) := ⟨rfl, rfl⟩
theorem fMoon_least_15 : w_if am_c133 15 16 .eq 19 := ⟨rfl, rfl⟩
theorem fMoon_least_16 : w_fe am_c133 16 17 (.iload 2) := ⟨rfl, rfl⟩
theorem fMoon_least_17 : w_fe am_c133 17 18 (.bipush (-4)) := ⟨rfl, rfl⟩
theorem fMoon_least_18 : w_ic am_c133 18 19 .ne 21 := ⟨rfl, rfl⟩
theorem fMoon_least_19 : w_fe am_c133 19 20 (.iload 2) := ⟨rfl, rfl⟩
theorem fMoon_least_20 : w_gt am_c133 20 27 := rfl
theorem fMoon_least_21 : w_fe am_c133 21 22 (.aload 0) := ⟨rfl, rfl⟩
theorem fMoon_least_22 : w_fe am_c133 22 23 (.getfield 4) := ⟨rfl, rfl⟩
theorem fMoon_least_23 : w_fe am_c133 23 24 (.iload 1) := ⟨rfl, rfl⟩
theorem fMoon_least_24 : w_fe am_c133 24 25 (.bipush 10) := ⟨rfl, rfl⟩
theorem fMoon_least_25 : w_fe am_c133 25 26 (.isub) := ⟨rfl, rfl⟩
theorem fMoon_least_26 : w_fe am_c133 26 27 (.invokestatic 73) := ⟨rfl, rfl⟩
theorem fMoon_least_27 : w_fe am_c133 27 28 (.ireturn) := ⟨rfl, rfl⟩
set_option maxRecDepth 20000 in
theorem bMoon_least_0 {xs : List Int} {d : Nat} {Q : Option w_V → w_M → Prop} {x1 : Int} {σ : w_M}
    (h : (x1 = 0 → (p_Plan_leastOilOfAll 14 σ ∧ (∀ (y1 : Int) (τ2 : w_M), q_Plan_leastOilOfAll 14 σ y1 τ2 → Q (some (.inl y1)) τ2))) ∧ (¬ x1 = 0 → (((10 ≤ x1 ∧ x1 - 10 < σ 14 5) → (p_Plan_leastOilOfAll 14 σ ∧ (∀ (y3 : Int) (τ4 : w_M), q_Plan_leastOilOfAll 14 σ y3 τ4 → ((¬ y3 = (-4) → (w_in (x1 - 10) ∧ p_Plan_chosenOf (x1 - 10) τ4 ∧ (∀ (y5 : Int), y5 = v_Plan_chosenOf (x1 - 10) τ4 → Q (some (.inl y5)) τ4))) ∧ (y3 = (-4) → Q (some (.inl y3)) τ4))))) ∧ (¬ (10 ≤ x1 ∧ x1 - 10 < σ 14 5) → Q (some (.inl (-1))) σ)))) : w_Call (xs, (d + 7)) 133 [.inr (.inr (0, 0)), .inl x1] σ Q :=
  (w_mk (mid := 133) (by decide) rfl rfl rfl rfl rfl (Nat.le_of_ble_eq_true rfl) ⟨rfl, Or.inl (by decide)⟩ (wi_iload1 fMoon_least_0 (wi_if_eq fMoon_least_1 (fun c8 => (wi_aload0 fMoon_least_8 (wi_getf4 fMoon_least_9 (wi_aload0 fMoon_least_10 (wi_getf2 fMoon_least_11 (wi_call2 fMoon_least_12 (Nat.le_of_ble_eq_true rfl) (k_Plan_leastOilOfAll (h.1 c8).1 (fun y1 τ2 eτ2 => (wi_istore2 fMoon_least_13 trivial (wi_iload1 fMoon_least_14 (wi_if_eq fMoon_least_15 (fun _ => (wi_iload2 fMoon_least_19 (wi_goto fMoon_least_20 (wi_ret1 fMoon_least_27 ((h.1 c8).2 y1 τ2 eτ2))))) (fun e => absurd c8 (w_n_eq e))))))))))))) (fun c8 => (wi_aload0 fMoon_least_2 (wi_iload1 fMoon_least_3 (wi_call2 fMoon_least_4 (Nat.le_of_ble_eq_true rfl) (k_Moon_asksOfReaper (wi_ifb_ne fMoon_least_5 (fun c7 => (wi_aload0 fMoon_least_8 (wi_getf4 fMoon_least_9 (wi_aload0 fMoon_least_10 (wi_getf2 fMoon_least_11 (wi_call2 fMoon_least_12 (Nat.le_of_ble_eq_true rfl) (k_Plan_leastOilOfAll ((h.2 c8).1 c7).1 (fun y3 τ4 eτ4 => (wi_istore2 fMoon_least_13 trivial (wi_iload1 fMoon_least_14 (wi_if_eq fMoon_least_15 (fun e => absurd c8 (w_m_eq e)) (fun _ => (wi_iload2 fMoon_least_16 (wi_bipush fMoon_least_17 (wi_ic_ne fMoon_least_18 (fun c6 => (wi_aload0 fMoon_least_21 (wi_getf4 fMoon_least_22 (wi_iload1 fMoon_least_23 (wi_bipush fMoon_least_24 (wi_isub fMoon_least_25 ((((h.2 c8).1 c7).2 y3 τ4 eτ4).1 c6).1 (wi_call2 fMoon_least_26 (Nat.le_of_ble_eq_true rfl) (k_Plan_chosenOf ((((h.2 c8).1 c7).2 y3 τ4 eτ4).1 c6).2.1 (wi_ret1 fMoon_least_27 (((((h.2 c8).1 c7).2 y3 τ4 eτ4).1 c6).2.2 _ rfl)))))))))) (fun c6 => (wi_iload2 fMoon_least_19 (wi_goto fMoon_least_20 (wi_ret1 fMoon_least_27 ((((h.2 c8).1 c7).2 y3 τ4 eτ4).2 c6)))))))))))))))))))) (fun c7 => (wi_bipush fMoon_least_6 (wi_ret1 fMoon_least_7 ((h.2 c8).2 c7)))))))))))))
theorem k_Moon_least {xs : List Int} {d : Nat} {Q : Option w_V → w_M → Prop} {x1 : Int} {σ : w_M} (hp : p_Moon_least x1 σ) (hQ : ∀ (x : Int) (σ' : w_M), q_Moon_least x1 σ x σ' → Q (some (.inl x)) σ') : w_Call (xs, d + 7) 133 [.inr (.inr (0, 0)), .inl x1] σ Q := by
  have hC : CI σ := hp
  have hok := hC.ok
  have hn := n_ok.n hok
  unfold q_Moon_least F_least at hQ
  have e5 : cS σ 0 0 5 = σ 14 5 := rfl
  have eA : cS σ 0 = w_ab σ 14 := rfl
  rw [e5, eA] at hQ
  refine bMoon_least_0 ⟨fun c => ⟨⟨hok, by decide⟩, fun y τ hq => ?_⟩, fun c => ⟨fun ca => ⟨⟨hok, by decide⟩, fun y τ hq => ⟨fun c4 => ⟨⟨by omega, by omega⟩, ⟨by omega, by omega⟩, fun y7 e7 => ?_⟩, fun c4 => ?_⟩⟩, fun ca => ?_⟩⟩
  · rw [if_pos (Or.inl c), if_pos c] at hQ
    exact hQ _ _ (c_qs hC hq.2.2 hq.1)
  · rw [if_pos (Or.inr ca), if_neg c] at hQ
    obtain ⟨q1, q2, q3⟩ := hq
    by_cases h : (ls_F (lo_s (w_ab σ 14) 10) (lo_d (w_ab σ 14) 10) (10 ^ n_n (w_ab σ 14))).2 = -4
    · rw [if_pos h] at q1
      exact absurd q1 c4
    · rw [if_neg h] at hQ
      refine hQ _ _ (c_qs hC q3 ?_)
      rw [e7]
      exact q2 h _ (by show (x1 - 10).toNat < (σ 14 5).toNat; omega)
  · rw [if_pos (Or.inr ca), if_neg c] at hQ
    obtain ⟨q1, q2, q3⟩ := hq
    by_cases h : (ls_F (lo_s (w_ab σ 14) 10) (lo_d (w_ab σ 14) 10) (10 ^ n_n (w_ab σ 14))).2 = -4
    · rw [if_pos h] at hQ
      exact hQ _ _ (c_qs hC q3 c4)
    · rw [if_neg h] at q1
      rcases ls_spec (d := lo_d (w_ab σ 14) 10) (lo_s_le hok (B := 10) (by decide) (by decide)) (10 ^ n_n (w_ab σ 14)) with ⟨a1, -⟩ | ⟨m, -, -, a2, -⟩
      · exact absurd a1 h
      · have := lo_s_le hok (B := 10) (by decide) (by decide) m
        omega
  · rw [if_neg (by omega)] at hQ
    exact hQ _ _ (c_qr hC rfl)
noncomputable def p_Model_least (_x1 : Int) (σ : w_M) : Prop := MI σ
noncomputable def q_Model_least (x1 : Int) (σ : w_M) (x : Int) (σ' : w_M) : Prop := m_q (F_least (mS σ) x1) (mS σ) σ x σ'
noncomputable def w_c212 : List Instr := [.iload 1, .ifCond .eq 10, .aload 0, .iload 1, .bipush 10, .fsub, .invokestatic 181, .ifCond .ne 10, .bipush (-1), .ireturn, .bipush 1000000, .istore 2, .bipush (-4), .istore 3, .bipush 0, .istore 4, .iload 4, .aload 0, .bipush 10, .invokestatic 207, .if_icmp .ge 74, .bipush 0, .istore 5, .aload 0, .invokestatic 174, .bipush 0, .istore 6, .iload 6, .aload 0, .getfield 905, .if_icmp .ge 49, .aload 0, .iload 6, .bipush 1, .aload 0, .iload 4, .iload 6, .bipush 10, .invokestatic 209, .invokestatic 199, .iload 5, .aload 0, .iload 6, .bipush 1, .invokestatic 178, .iadd, .istore 5, .iinc 6 1, .goto 27, .iload 5, .iload 2, .if_icmp .ge 58, .aload 0, .invokestatic 204, .bipush (-4), .if_icmp .eq 58, .bipush 1, .goto 59, .bipush 0, .istore 6, .iload 6, .ifCond .eq 64, .iload 4, .goto 65, .iload 3, .istore 3, .iload 6, .ifCond .eq 70, .iload 5, .goto 71, .iload 2, .istore 2, .iinc 4 1, .goto 16, .iload 3, .bipush (-4), .if_icmp .ne 79, .bipush (-4), .goto 90, .iload 1, .ifCond .ne 83, .iload 2, .goto 90, .aload 0, .iload 3, .iload 1, .bipush 10, .isub, .bipush 10, .invokestatic 209, .ireturn]
theorem fModel_least_0 : w_fe w_c212 0 1 (.iload 1) := ⟨rfl, rfl⟩
theorem fModel_least_1 : w_if w_c212 1 2 .eq 10 := ⟨rfl, rfl⟩
theorem fModel_least_2 : w_fe w_c212 2 3 (.aload 0) := ⟨rfl, rfl⟩
theorem fModel_least_3 : w_fe w_c212 3 4 (.iload 1) := ⟨rfl, rfl⟩
theorem fModel_least_4 : w_fe w_c212 4 5 (.bipush 10) := ⟨rfl, rfl⟩
theorem fModel_least_5 : w_fe w_c212 5 6 (.fsub) := ⟨rfl, rfl⟩
theorem fModel_least_6 : w_fe w_c212 6 7 (.invokestatic 181) := ⟨rfl, rfl⟩
theorem fModel_least_7 : w_if w_c212 7 8 .ne 10 := ⟨rfl, rfl⟩
theorem fModel_least_8 : w_fe w_c212 8 9 (.bipush (-1)) := ⟨rfl, rfl⟩
theorem fModel_least_9 : w_fe w_c212 9 10 (.ireturn) := ⟨rfl, rfl⟩
theorem fModel_least_10 : w_fe w_c212 10 11 (.bipush 1000000) := ⟨rfl, rfl⟩
theorem fModel_least_11 : w_fe w_c212 11 12 (.istore 2) := ⟨rfl, rfl⟩
theorem fModel_least_12 : w_fe w_c212 12 13 (.bipush (-4)) := ⟨rfl, rfl⟩
theorem fModel_least_13 : w_fe w_c212 13 14 (.istore 3) := ⟨rfl, rfl⟩
theorem fModel_least_14 : w_fe w_c212 14 15 (.bipush 0) := ⟨rfl, rfl⟩
theorem fModel_least_15 : w_fe w_c212 15 16 (.istore 4) := ⟨rfl, rfl⟩
theorem fModel_least_16 : w_fe w_c212 16 17 (.iload 4) := ⟨rfl, rfl⟩
theorem fModel_least_17 : w_fe w_c212 17 18 (.aload 0) := ⟨rfl, rfl⟩
theorem fModel_least_18 : w_fe w_c212 18 19 (.bipush 10) := ⟨rfl, rfl⟩
theorem fModel_least_19 : w_fe w_c212 19 20 (.invokestatic 207) := ⟨rfl, rfl⟩
theorem fModel_least_20 : w_ic w_c212 20 21 .ge 74 := ⟨rfl, rfl⟩
theorem fModel_least_21 : w_fe w_c212 21 22 (.bipush 0) := ⟨rfl, rfl⟩
theorem fModel_least_22 : w_fe w_c212 22 23 (.istore 5) := ⟨rfl, rfl⟩
theorem fModel_least_23 : w_fe w_c212 23 24 (.aload 0) := ⟨rfl, rfl⟩
theorem fModel_least_24 : w_fe w_c212 24 25 (.invokestatic 174) := ⟨rfl, rfl⟩
theorem fModel_least_25 : w_fe w_c212 25 26 (.bipush 0) := ⟨rfl, rfl⟩
theorem fModel_least_26 : w_fe w_c212 26 27 (.istore 6) := ⟨rfl, rfl⟩
theorem fModel_least_27 : w_fe w_c212 27 28 (.iload 6) := ⟨rfl, rfl⟩
theorem fModel_least_28 : w_fe w_c212 28 29 (.aload 0) := ⟨rfl, rfl⟩
theorem fModel_least_29 : w_fe w_c212 29 30 (.getfield 905) := ⟨rfl, rfl⟩
theorem fModel_least_30 : w_ic w_c212 30 31 .ge 49 := ⟨rfl, rfl⟩
theorem fModel_least_31 : w_fe w_c212 31 32 (.aload 0) := ⟨rfl, rfl⟩
theorem fModel_least_32 : w_fe w_c212 32 33 (.iload 6) := ⟨rfl, rfl⟩
theorem fModel_least_33 : w_fe w_c212 33 34 (.bipush 1) := ⟨rfl, rfl⟩
theorem fModel_least_34 : w_fe w_c212 34 35 (.aload 0) := ⟨rfl, rfl⟩
theorem fModel_least_35 : w_fe w_c212 35 36 (.iload 4) := ⟨rfl, rfl⟩
theorem fModel_least_36 : w_fe w_c212 36 37 (.iload 6) := ⟨rfl, rfl⟩
theorem fModel_least_37 : w_fe w_c212 37 38 (.bipush 10) := ⟨rfl, rfl⟩
theorem fModel_least_38 : w_fe w_c212 38 39 (.invokestatic 209) := ⟨rfl, rfl⟩
theorem fModel_least_39 : w_fe w_c212 39 40 (.invokestatic 199) := ⟨rfl, rfl⟩
theorem fModel_least_40 : w_fe w_c212 40 41 (.iload 5) := ⟨rfl, rfl⟩
theorem fModel_least_41 : w_fe w_c212 41 42 (.aload 0) := ⟨rfl, rfl⟩
theorem fModel_least_42 : w_fe w_c212 42 43 (.iload 6) := ⟨rfl, rfl⟩
theorem fModel_least_43 : w_fe w_c212 43 44 (.bipush 1) := ⟨rfl, rfl⟩
theorem fModel_least_44 : w_fe w_c212 44 45 (.invokestatic 178) := ⟨rfl, rfl⟩
theorem fModel_least_45 : w_fe w_c212 45 46 (.iadd) := ⟨rfl, rfl⟩
theorem fModel_least_46 : w_fe w_c212 46 47 (.istore 5) := ⟨rfl, rfl⟩
theorem fModel_least_47 : w_fe w_c212 47 48 (.iinc 6 1) := ⟨rfl, rfl⟩
theorem fModel_least_48 : w_gt w_c212 48 27 := rfl
theorem fModel_least_49 : w_fe w_c212 49 50 (.iload 5) := ⟨rfl, rfl⟩
theorem fModel_least_50 : w_fe w_c212 50 51 (.iload 2) := ⟨rfl, rfl⟩
theorem fModel_least_51 : w_ic w_c212 51 52 .ge 58 := ⟨rfl, rfl⟩
theorem fModel_least_52 : w_fe w_c212 52 53 (.aload 0) := ⟨rfl, rfl⟩
theorem fModel_least_53 : w_fe w_c212 53 54 (.invokestatic 204) := ⟨rfl, rfl⟩
theorem fModel_least_54 : w_fe w_c212 54 55 (.bipush (-4)) := ⟨rfl, rfl⟩
theorem fModel_least_55 : w_ic w_c212 55 56 .eq 58 := ⟨rfl, rfl⟩
theorem fModel_least_56 : w_fe w_c212 56 57 (.bipush 1) := ⟨rfl, rfl⟩
theorem fModel_least_57 : w_gt w_c212 57 59 := rfl
theorem fModel_least_58 : w_fe w_c212 58 59 (.bipush 0) := ⟨rfl, rfl⟩
theorem fModel_least_59 : w_fe w_c212 59 60 (.istore 6) := ⟨rfl, rfl⟩
theorem fModel_least_60 : w_fe w_c212 60 61 (.iload 6) := ⟨rfl, rfl⟩
theorem fModel_least_61 : w_if w_c212 61 62 .eq 64 := ⟨rfl, rfl⟩
theorem fModel_least_62 : w_fe w_c212 62 63 (.iload 4) := ⟨rfl, rfl⟩
theorem fModel_least_63 : w_gt w_c212 63 65 := rfl
theorem fModel_least_64 : w_fe w_c212 64 65 (.iload 3) := ⟨rfl, rfl⟩
theorem fModel_least_65 : w_fe w_c212 65 66 (.istore 3) := ⟨rfl, rfl⟩
theorem fModel_least_66 : w_fe w_c212 66 67 (.iload 6) := ⟨rfl, rfl⟩
theorem fModel_least_67 : w_if w_c212 67 68 .eq 70 := ⟨rfl, rfl⟩
theorem fModel_least_68 : w_fe w_c212 68 69 (.iload 5) := ⟨rfl, rfl⟩
theorem fModel_least_69 : w_gt w_c212 69 71 := rfl
theorem fModel_least_70 : w_fe w_c212 70 71 (.iload 2) := ⟨rfl, rfl⟩
theorem fModel_least_71 : w_fe w_c212 71 72 (.istore 2) := ⟨rfl, rfl⟩
theorem fModel_least_72 : w_fe w_c212 72 73 (.iinc 4 1) := ⟨rfl, rfl⟩
theorem fModel_least_73 : w_gt w_c212 73 16 := rfl
theorem fModel_least_74 : w_fe w_c212 74 75 (.iload 3) := ⟨rfl, rfl⟩
theorem fModel_least_75 : w_fe w_c212 75 76 (.bipush (-4)) := ⟨rfl, rfl⟩
theorem fModel_least_76 : w_ic w_c212 76 77 .ne 79 := ⟨rfl, rfl⟩
theorem fModel_least_77 : w_fe w_c212 77 78 (.bipush (-4)) := ⟨rfl, rfl⟩
theorem fModel_least_78 : w_gt w_c212 78 90 := rfl
theorem fModel_least_79 : w_fe w_c212 79 80 (.iload 1) := ⟨rfl, rfl⟩
theorem fModel_least_80 : w_if w_c212 80 81 .ne 83 := ⟨rfl, rfl⟩
theorem fModel_least_81 : w_fe w_c212 81 82 (.iload 2) := ⟨rfl, rfl⟩
theorem fModel_least_82 : w_gt w_c212 82 90 := rfl
theorem fModel_least_83 : w_fe w_c212 83 84 (.aload 0) := ⟨rfl, rfl⟩
theorem fModel_least_84 : w_fe w_c212 84 85 (.iload 3) := ⟨rfl, rfl⟩
theorem fModel_least_85 : w_fe w_c212 85 86 (.iload 1) := ⟨rfl, rfl⟩
theorem fModel_least_86 : w_fe w_c212 86 87 (.bipush 10) := ⟨rfl, rfl⟩
theorem fModel_least_87 : w_fe w_c212 87 88 (.isub) := ⟨rfl, rfl⟩
theorem fModel_least_88 : w_fe w_c212 88 89 (.bipush 10) := ⟨rfl, rfl⟩
theorem fModel_least_89 : w_fe w_c212 89 90 (.invokestatic 209) := ⟨rfl, rfl⟩
theorem fModel_least_90 : w_fe w_c212 90 91 (.ireturn) := ⟨rfl, rfl⟩
noncomputable def LModel_least_16 (xs : List Int) (d : Nat) (Q : Option w_V → w_M → Prop) (v1 : Int) (v2 : Int) (v3 : Int) (v4 : Int) (σ : w_M) : Prop := ∀ l5, w_nl l5 → ∀ l6, w_nl l6 → w_Ex (xs, d) 1 w_c212 Q 16 [some (.inr (.inr (9, 122))), some (.inl v1), some (.inl v2), some (.inl v3), some (.inl v4), l5, l6] [] σ
noncomputable def LModel_least_27 (xs : List Int) (d : Nat) (Q : Option w_V → w_M → Prop) (v1 : Int) (v2 : Int) (v3 : Int) (v4 : Int) (v5 : Int) (v6 : Int) (σ : w_M) : Prop := w_Ex (xs, d) 1 w_c212 Q 27 [some (.inr (.inr (9, 122))), some (.inl v1), some (.inl v2), some (.inl v3), some (.inl v4), some (.inl v5), some (.inl v6)] [] σ
set_option maxRecDepth 20000 in
theorem bModel_least_0 {xs : List Int} {d : Nat} {Q : Option w_V → w_M → Prop} {x1 : Int} {σ : w_M}
    (h : (x1 = 0 → LModel_least_16 xs (d + 6) Q x1 1000000 (-4) 0 σ) ∧ (¬ x1 = 0 → (p_Model_isReaper (w_wr (x1 - 10)) σ ∧ (((0 ≤ (w_wr (x1 - 10)) ∧ (w_wr (x1 - 10)) < σ 122 5) → LModel_least_16 xs (d + 6) Q x1 1000000 (-4) 0 σ) ∧ (¬ (0 ≤ (w_wr (x1 - 10)) ∧ (w_wr (x1 - 10)) < σ 122 5) → Q (some (.inl (-1))) σ))))) : w_Call (xs, (d + 6)) 212 [.inr (.inr (9, 122)), .inl x1] σ Q :=
  (w_mk (mid := 212) (by decide) rfl rfl rfl rfl rfl (Nat.le_of_ble_eq_true rfl) ⟨rfl, Or.inl (by decide)⟩ (wi_iload1 fModel_least_0 (wi_if_eq fModel_least_1 (fun c2 => (wi_bipush fModel_least_10 (wi_istore2 fModel_least_11 trivial (wi_bipush fModel_least_12 (wi_istore3 fModel_least_13 trivial (wi_bipush fModel_least_14 (wi_istore4 fModel_least_15 trivial ((h.1 c2) _ (by exact trivial) _ (by exact trivial))))))))) (fun c2 => (wi_aload0 fModel_least_2 (wi_iload1 fModel_least_3 (wi_bipush fModel_least_4 (wi_fsub fModel_least_5 (wi_call2 fModel_least_6 (Nat.le_of_ble_eq_true rfl) (k_Model_isReaper (h.2 c2).1 (wi_ifb_ne fModel_least_7 (fun c1 => (wi_bipush fModel_least_10 (wi_istore2 fModel_least_11 trivial (wi_bipush fModel_least_12 (wi_istore3 fModel_least_13 trivial (wi_bipush fModel_least_14 (wi_istore4 fModel_least_15 trivial (((h.2 c2).2.1 c1) _ (by exact trivial) _ (by exact trivial))))))))) (fun c1 => (wi_bipush fModel_least_8 (wi_ret1 fModel_least_9 ((h.2 c2).2.2 c1)))))))))))))))
set_option maxRecDepth 20000 in
theorem bModel_least_16 {xs : List Int} {d : Nat} {Q : Option w_V → w_M → Prop} {v1 : Int} {v2 : Int} {v3 : Int} {v4 : Int} {σ : w_M}
    (h : p_Model_rowsOf 10 σ ∧ (∀ (y1 : Int), y1 = v_Model_rowsOf 10 σ → ((y1 ≤ v4 → ((¬ v3 = (-4) → ((¬ v1 = 0 → (w_in (v1 - 10) ∧ p_Model_toldBy v3 (v1 - 10) 10 σ ∧ (∀ (y2 : Int), y2 = v_Model_toldBy v3 (v1 - 10) 10 σ → Q (some (.inl y2)) σ))) ∧ (v1 = 0 → Q (some (.inl v2)) σ))) ∧ (v3 = (-4) → Q (some (.inl (-4))) σ))) ∧ (v4 < y1 → (p_Model_starts σ ∧ (∀ (τ5 : w_M), q_Model_starts σ τ5 → LModel_least_27 xs (d + 6) Q v1 v2 v3 v4 0 0 τ5)))))) : LModel_least_16 xs (d + 6) Q v1 v2 v3 v4 σ :=
  fun l5 nl5 => fun l6 nl6 => (wi_iload4 fModel_least_16 (wi_aload0 fModel_least_17 (wi_bipush fModel_least_18 (wi_call2 fModel_least_19 (Nat.le_of_ble_eq_true rfl) (k_Model_rowsOf h.1 (wi_ic_ge fModel_least_20 (fun c6 => (wi_iload3 fModel_least_74 (wi_bipush fModel_least_75 (wi_ic_ne fModel_least_76 (fun c4 => (wi_iload1 fModel_least_79 (wi_if_ne fModel_least_80 (fun c3 => (wi_aload0 fModel_least_83 (wi_iload3 fModel_least_84 (wi_iload1 fModel_least_85 (wi_bipush fModel_least_86 (wi_isub fModel_least_87 ((((h.2 _ rfl).1 c6).1 c4).1 c3).1 (wi_bipush fModel_least_88 (wi_call4 fModel_least_89 (Nat.le_of_ble_eq_true rfl) (k_Model_toldBy ((((h.2 _ rfl).1 c6).1 c4).1 c3).2.1 (wi_ret1 fModel_least_90 (((((h.2 _ rfl).1 c6).1 c4).1 c3).2.2 _ rfl))))))))))) (fun c3 => (wi_iload2 fModel_least_81 (wi_goto fModel_least_82 (wi_ret1 fModel_least_90 ((((h.2 _ rfl).1 c6).1 c4).2 c3)))))))) (fun c4 => (wi_bipush fModel_least_77 (wi_goto fModel_least_78 (wi_ret1 fModel_least_90 (((h.2 _ rfl).1 c6).2 c4))))))))) (fun c6 => (wi_bipush fModel_least_21 (wi_istore5 fModel_least_22 trivial (wi_aload0 fModel_least_23 (wi_call1 fModel_least_24 (Nat.le_of_ble_eq_true rfl) (k_Model_starts ((h.2 _ rfl).2 c6).1 (fun τ5 eτ5 => (wi_bipush fModel_least_25 (wi_istore6 fModel_least_26 trivial (((h.2 _ rfl).2 c6).2 τ5 eτ5))))))))))))))))
set_option maxRecDepth 20000 in
theorem bModel_least_27 {xs : List Int} {d : Nat} {Q : Option w_V → w_M → Prop} {v1 : Int} {v2 : Int} {v3 : Int} {v4 : Int} {v5 : Int} {v6 : Int} {σ : w_M}
    (h : ((σ 122 5) ≤ v6 → ((v2 ≤ v5 → (w_in (v4 + 1) ∧ LModel_least_16 xs (d + 6) Q v1 v2 v3 (v4 + 1) σ)) ∧ (v5 < v2 → (p_Model_doneBehind σ ∧ (∀ (y1 : Int) (τ2 : w_M), q_Model_doneBehind σ y1 τ2 → ((y1 = (-4) → (w_in (v4 + 1) ∧ LModel_least_16 xs (d + 6) Q v1 v2 v3 (v4 + 1) τ2)) ∧ (¬ y1 = (-4) → (w_in (v4 + 1) ∧ LModel_least_16 xs (d + 6) Q v1 v5 v4 (v4 + 1) τ2)))))))) ∧ (v6 < (σ 122 5) → (p_Model_toldBy v4 v6 10 σ ∧ (∀ (y5 : Int), y5 = v_Model_toldBy v4 v6 10 σ → (p_Model_becomesOf v6 1 y5 σ ∧ (∀ (τ6 : w_M), q_Model_becomesOf v6 1 y5 σ τ6 → (p_Model_of v6 1 τ6 ∧ w_in (v5 + (τ6 124 (21 + 5 * v6 + 1).toNat)) ∧ (∀ (y7 : Int), y7 = (v5 + (τ6 124 (21 + 5 * v6 + 1).toNat)) → (w_in (v6 + 1) ∧ LModel_least_27 xs (d + 6) Q v1 v2 v3 v4 y7 (v6 + 1) τ6))))))))) : LModel_least_27 xs (d + 6) Q v1 v2 v3 v4 v5 v6 σ :=
  (wi_iload6 fModel_least_27 (wi_aload0 fModel_least_28 (wi_getf905 fModel_least_29 (wi_ic_ge fModel_least_30 (fun c8 => (wi_iload5 fModel_least_49 (wi_iload2 fModel_least_50 (wi_ic_ge fModel_least_51 (fun c4 => (wi_bipush fModel_least_58 (wi_istore6 fModel_least_59 trivial (wi_iload6 fModel_least_60 (wi_if_eq fModel_least_61 (fun _ => (wi_iload3 fModel_least_64 (wi_istore3 fModel_least_65 trivial (wi_iload6 fModel_least_66 (wi_if_eq fModel_least_67 (fun _ => (wi_iload2 fModel_least_70 (wi_istore2 fModel_least_71 trivial (wi_iinc4 fModel_least_72 trivial ((h.1 c8).1 c4).1 (wi_goto fModel_least_73 (((h.1 c8).1 c4).2 _ (by exact trivial) _ (by exact trivial))))))) (fun e => absurd e (by decide))))))) (fun e => absurd e (by decide))))))) (fun c4 => (wi_aload0 fModel_least_52 (wi_call1 fModel_least_53 (Nat.le_of_ble_eq_true rfl) (k_Model_doneBehind ((h.1 c8).2 c4).1 (fun y1 τ2 eτ2 => (wi_bipush fModel_least_54 (wi_ic_eq fModel_least_55 (fun c3 => (wi_bipush fModel_least_58 (wi_istore6 fModel_least_59 trivial (wi_iload6 fModel_least_60 (wi_if_eq fModel_least_61 (fun _ => (wi_iload3 fModel_least_64 (wi_istore3 fModel_least_65 trivial (wi_iload6 fModel_least_66 (wi_if_eq fModel_least_67 (fun _ => (wi_iload2 fModel_least_70 (wi_istore2 fModel_least_71 trivial (wi_iinc4 fModel_least_72 trivial ((((h.1 c8).2 c4).2 y1 τ2 eτ2).1 c3).1 (wi_goto fModel_least_73 (((((h.1 c8).2 c4).2 y1 τ2 eτ2).1 c3).2 _ (by exact trivial) _ (by exact trivial))))))) (fun e => absurd e (by decide))))))) (fun e => absurd e (by decide))))))) (fun c3 => (wi_bipush fModel_least_56 (wi_goto fModel_least_57 (wi_istore6 fModel_least_59 trivial (wi_iload6 fModel_least_60 (wi_if_eq fModel_least_61 (fun e => absurd e (by decide)) (fun _ => (wi_iload4 fModel_least_62 (wi_goto fModel_least_63 (wi_istore3 fModel_least_65 trivial (wi_iload6 fModel_least_66 (wi_if_eq fModel_least_67 (fun e => absurd e (by decide)) (fun _ => (wi_iload5 fModel_least_68 (wi_goto fModel_least_69 (wi_istore2 fModel_least_71 trivial (wi_iinc4 fModel_least_72 trivial ((((h.1 c8).2 c4).2 y1 τ2 eτ2).2 c3).1 (wi_goto fModel_least_73 (((((h.1 c8).2 c4).2 y1 τ2 eτ2).2 c3).2 _ (by exact trivial) _ (by exact trivial))))))))))))))))))))))))))))))) (fun c8 => (wi_aload0 fModel_least_31 (wi_iload6 fModel_least_32 (wi_bipush fModel_least_33 (wi_aload0 fModel_least_34 (wi_iload4 fModel_least_35 (wi_iload6 fModel_least_36 (wi_bipush fModel_least_37 (wi_call4 fModel_least_38 (Nat.le_of_ble_eq_true rfl) (k_Model_toldBy (h.2 c8).1 (wi_call4 fModel_least_39 (Nat.le_of_ble_eq_true rfl) (k_Model_becomesOf ((h.2 c8).2 _ rfl).1 (fun τ6 eτ6 => (wi_iload5 fModel_least_40 (wi_aload0 fModel_least_41 (wi_iload6 fModel_least_42 (wi_bipush fModel_least_43 (wi_call3 fModel_least_44 (Nat.le_of_ble_eq_true rfl) (k_Model_of (((h.2 c8).2 _ rfl).2 τ6 eτ6).1 (wi_iadd fModel_least_45 (((h.2 c8).2 _ rfl).2 τ6 eτ6).2.1 (wi_istore5 fModel_least_46 trivial (wi_iinc6 fModel_least_47 trivial ((((h.2 c8).2 _ rfl).2 τ6 eτ6).2.2 _ rfl).1 (wi_goto fModel_least_48 ((((h.2 c8).2 _ rfl).2 τ6 eτ6).2.2 _ rfl).2)))))))))))))))))))))))))))
set_option maxHeartbeats 2000000 in
theorem k_Model_least {xs : List Int} {d : Nat} {Q : Option w_V → w_M → Prop} {x1 : Int} {σ : w_M} (hp : p_Model_least x1 σ) (hQ : ∀ (x : Int) (σ' : w_M), q_Model_least x1 σ x σ' → Q (some (.inl x)) σ') : w_Call (xs, d + 6) 212 [.inr (.inr (9, 122)), .inl x1] σ Q := by
  refine w_Call_as (fun has => ?_)
  have hx : w_in x1 := has (.inl x1) (by simp)
  have hM : MI σ := hp
  have hok := hM.ok
  have hn := hM.n
  unfold q_Model_least F_least at hQ
  have e5 : mS σ 0 0 5 = σ 122 5 := rfl
  have eA : mS σ 0 = w_am σ 123 0 := rfl
  rw [e5, eA] at hQ
  have en : n_n (w_am σ 123 0) = (σ 122 5).toNat := rfl
  have main : (x1 = 0 ∨ (10 ≤ x1 ∧ x1 - 10 < σ 122 5)) → LModel_least_16 xs (d + 6) Q x1 1000000 (-4) 0 σ := by
    intro hw
    rw [if_pos hw] at hQ
    have hW : n_WF (w_am σ 123 0) := hok
    have st : ∀ {τ τ1 : w_M}, w_f1 σ τ 124 → p_Model_starts τ ∧ (q_Model_starts τ τ1 → w_am τ1 124 0 = w_am σ 123 0 ∧ w_f1 σ τ1 124 ∧ ∀ j, j < 82 → τ1 124 j = σ 123 j) := fun F => m_starts hM F
    generalize hA : w_am σ 123 0 = A at *
    have hn4 : n_n A ≤ 4 := by omega
    have p10 := pow10 (B := 10) (n := n_n A) (by decide) hn4
    have hsl := lo_s_le hW (B := 10) (by decide) (by decide)
    generalize hs : lo_s A 10 = s at *
    generalize hd : lo_d A 10 = dd at *
    refine (w_loop (n := 10 ^ n_n A) (P := fun k => ∀ τ : w_M, w_f1 σ τ 124 → LModel_least_16 xs (d + 6) Q x1 (ls_F s dd k).1 (ls_F s dd k).2 (k : Int) τ) ?_ ?_) σ w_f1.rfl'
    · intro τ F
      have z2 : τ 122 = σ 122 := F 122 (by decide)
      refine bModel_least_16 ⟨⟨by decide, by rw [z2]; exact hn⟩, fun y ey => ?_⟩
      unfold v_Model_rowsOf at ey
      rw [z2, ← en] at ey
      have ey' : y = ((10 ^ n_n A : Nat) : Int) := ey
      refine ⟨fun _ => ⟨fun c => ⟨fun c2 => ⟨⟨by omega, by omega⟩, ?_, fun y2 e2 => ?_⟩, fun c2 => ?_⟩, fun c => ?_⟩, fun h => by omega⟩
      · refine ⟨?_, by rw [z2]; omega, by decide, by rw [z2]; omega⟩
        rcases ls_spec (d := dd) hsl (10 ^ n_n A) with ⟨q1, -⟩ | ⟨m, q0, q1, -⟩
        · exact absurd q1 c
        · omega
      · rw [if_neg c, if_neg c2] at hQ
        refine hQ _ _ (m_qs hM F ?_)
        rw [e2]
        unfold v_Model_toldBy
        rw [z2, ← en]
        rfl
      · rw [if_neg c, if_pos c2] at hQ
        exact hQ _ _ (m_qs hM F rfl)
      · rw [if_pos c] at hQ
        exact hQ _ _ (m_qs hM F rfl)
    · intro k hk ih τ F
      have z2 : τ 122 = σ 122 := F 122 (by decide)
      refine bModel_least_16 ⟨⟨by decide, by rw [z2]; exact hn⟩, fun y ey => ?_⟩
      unfold v_Model_rowsOf at ey
      rw [z2, ← en] at ey
      have ey' : y = ((10 ^ n_n A : Nat) : Int) := ey
      refine ⟨fun h => by omega, fun _ => ⟨(st (τ1 := τ) F).1, fun τ3 hq3 => ?_⟩⟩
      obtain ⟨a3, F3, -⟩ := (st F).2 hq3
      refine (w_loop (n := n_n A) (P := fun i => ∀ τ : w_M, w_f1 σ τ 124 → w_am τ 124 0 = (fun d j => if d = 4 ∧ j < i then lo_f A 10 k j else A d j) → LModel_least_27 xs (d + 6) Q x1 (ls_F s dd k).1 (ls_F s dd k).2 (k : Int) (f_sum (lo_f A 10 k) i) (i : Int) τ) ?_ ?_) τ3 F3 ?_
      · intro τ5 F5 h5
        have z5 : τ5 122 = σ 122 := F5 122 (by decide)
        have es : f_sum (lo_f A 10 k) (n_n A) = s k := by rw [← hs]; rfl
        have ebo : w_am τ5 124 0 = n_bo A (lo_f A 10 k) := h5
        have Wb : n_WF (n_bo A (lo_f A 10 k)) := n_bo_WF hW (fun r _ => by
          have := dg_lt (B := 10) (n := n_n A) (k := k) (r := r) (by decide)
          unfold lo_f
          omega)
        simp only [ls_F] at ih
        rw [w_cs1] at ih
        rw [es]
        refine bModel_least_27 ⟨fun _ => ⟨fun c => ⟨⟨by omega, by omega⟩, ?_⟩, fun c => ⟨by unfold p_Model_doneBehind m_ok; rw [ebo]; exact Wb, fun y1 τ6 hq6 => ?_⟩⟩, fun h => by rw [z5] at h; omega⟩
        · rw [if_neg (fun q => by have := q.1; omega)] at ih
          exact ih τ5 F5
        · obtain ⟨-, ed, F6⟩ := hq6
          rw [ebo] at ed
          have ed' : y1 = dd k := by rw [ed, ← hd]; rfl
          refine ⟨fun c2 => ⟨⟨by omega, by omega⟩, ?_⟩, fun c2 => ⟨⟨by omega, by omega⟩, ?_⟩⟩
          · rw [if_neg (fun q => q.2 (by omega))] at ih
            exact ih τ6 (F5.tr F6)
          · rw [if_pos ⟨c, by omega⟩] at ih
            exact ih τ6 (F5.tr F6)
      · intro i hi ih2 τ5 F5 h5
        have z5 : τ5 122 = σ 122 := F5 122 (by decide)
        have hd10 := dg_lt (B := 10) (n := n_n A) (k := k) (r := i) (by decide)
        have fs := f_sum_le (f := lo_f A 10 k) (B := 9) (m := n_n A) (fun r _ => by
          have := dg_lt (B := 10) (n := n_n A) (k := k) (r := r) (by decide)
          unfold lo_f
          omega) (Nat.le_of_lt hi)
        simp only [f_sum] at ih2
        rw [w_cs1] at ih2
        refine bModel_least_27 ⟨fun h => by rw [z5] at h; omega, fun _ => ⟨⟨by omega, by rw [z5]; omega, by decide, by rw [z5]; omega⟩, fun y5 e5' => ⟨⟨by omega, by decide⟩, fun τ6 t6 => ⟨⟨by omega, by decide⟩, ?_⟩⟩⟩⟩
        have t6' : τ6 = w_up τ5 124 (21 + 5 * (i : Int) + 1).toNat y5 := t6
        unfold v_Model_toldBy at e5'
        rw [z5, Int.toNat_natCast, Int.toNat_natCast, ← en] at e5'
        have e5'' : y5 = lo_f A 10 k i := e5'
        have hy5 : 0 ≤ y5 ∧ y5 ≤ 9 := by rw [e5'']; unfold lo_f; omega
        have erd : τ6 124 (21 + 5 * (i : Int) + 1).toNat = y5 := by rw [t6', w_up_at]
        rw [erd]
        refine ⟨⟨by omega, by omega⟩, fun y7 e7 => ⟨⟨by omega, by omega⟩, ?_⟩⟩
        rw [e7, e5'']
        refine ih2 τ6 (by rw [t6']; exact F5.up) ?_
        rw [t6', w_am_up (d := 4) (i := i) (by unfold m_sm; rw [z5]; exact hM.sm) (by decide) (by rw [m_rl37 (by decide) (by decide), z5]; omega) (by show _ = 0 + (22 + 5 * i); omega), h5]
        funext d j
        rw [w_up_eq]
        by_cases c : d = 4 ∧ j = i
        · rw [if_pos c, if_pos (by omega), e5'', c.2]
        · rw [if_neg c]
          by_cases c2 : d = 4 ∧ j < i
          · rw [if_pos c2, if_pos (by omega)]
          · rw [if_neg c2, if_neg (by omega)]
      · rw [a3]
        funext d j
        rw [if_neg (by omega)]
  have hi := w_wr10 hx hn
  refine bModel_least_0 ⟨fun c => main (Or.inl c), fun c => ⟨hn, fun ca => main (Or.inr (hi.mp ca)), fun ca => ?_⟩⟩
  rw [if_neg (fun q => q.elim c (fun q => ca (hi.mpr q)))] at hQ
  exact hQ _ _ (m_qr hM rfl)
end
section
/-! The text, pure: tokens, lines, what they tell -/
noncomputable def tb (T : Nat → Int) (L p : Nat) : Int := if p < L then T p else -1
noncomputable def rn (P : Int → Bool) (T : Nat → Int) (L : Nat) : Nat → Nat → Nat
  | 0, p => p
  | n + 1, p => if P (tb T L p) = true then rn P T L n (p + 1) else p
theorem rn_of {P : Int → Bool} {T : Nat → Int} {L q : Nat} (h3 : P (tb T L q) = false) : ∀ (n p : Nat), p ≤ q → (∀ i, p ≤ i → i < q → P (tb T L i) = true) → q ≤ p + n → rn P T L n p = q := by
  intro n
  induction n with
  | zero => intro p h1 _ hn; simp only [rn]; omega
  | succ n ih =>
    intro p h1 h2 hn
    simp only [rn]
    by_cases e : p = q
    · rw [e, h3]
      rfl
    · rw [if_pos (h2 p (Nat.le_refl _) (by omega))]
      exact ih (p + 1) (by omega) (fun i a b => h2 i (by omega) b) (by omega)
theorem rn_ge {P : Int → Bool} {T : Nat → Int} {L : Nat} : ∀ (n p : Nat), p ≤ rn P T L n p := by
  intro n
  induction n with
  | zero => intro p; exact Nat.le_refl _
  | succ n ih =>
    intro p
    simp only [rn]
    split
    · exact Nat.le_trans (Nat.le_succ p) (ih (p + 1))
    · exact Nat.le_refl _
theorem rn_le {P : Int → Bool} {T : Nat → Int} {L : Nat} (h : P (-1) = false) : ∀ (n p : Nat), p ≤ L → rn P T L n p ≤ L := by
  intro n
  induction n with
  | zero => intro p hp; exact hp
  | succ n ih =>
    intro p hp
    simp only [rn]
    split
    · rename_i hb
      by_cases e : p < L
      · exact ih (p + 1) (by omega)
      · unfold tb at hb
        rw [if_neg e, h] at hb
        cases hb
    · exact hp
theorem rn_stop {P : Int → Bool} {T : Nat → Int} {L : Nat} (h : P (-1) = false) : ∀ (n p : Nat), L ≤ p + n → P (tb T L (rn P T L n p)) = false := by
  intro n
  induction n with
  | zero => intro p hp; simp only [rn]; unfold tb; rw [if_neg (by omega)]; exact h
  | succ n ih =>
    intro p hp
    simp only [rn]
    split
    · exact ih (p + 1) (by omega)
    · rename_i hb
      cases hh : P (tb T L p) with
      | false => rfl
      | true => exact absurd hh hb
noncomputable def tP_s (c : Int) : Bool := decide (c = 32)
noncomputable def tP_l (c : Int) : Bool := decide (97 ≤ c) && decide (c ≤ 122)
noncomputable def tP_f (c : Int) : Bool := decide (48 ≤ c) && decide (c ≤ 57)
theorem tP_lt {c : Int} : tP_l c = true ↔ (97 ≤ c ∧ c ≤ 122) := by unfold tP_l; simp
theorem tP_ft {c : Int} : tP_f c = true ↔ (48 ≤ c ∧ c ≤ 57) := by unfold tP_f; simp
theorem tP_lf {c : Int} (h : ¬ (97 ≤ c ∧ c ≤ 122)) : tP_l c = false := by
  cases e : tP_l c with
  | false => rfl
  | true => exact absurd (tP_lt.mp e) h
theorem tP_ff {c : Int} (h : ¬ (48 ≤ c ∧ c ≤ 57)) : tP_f c = false := by
  cases e : tP_f c with
  | false => rfl
  | true => exact absurd (tP_ft.mp e) h
theorem tP_st {c : Int} (h : c = 32) : tP_s c = true := by unfold tP_s; simp [h]
theorem tP_sf {c : Int} (h : ¬ c = 32) : tP_s c = false := by unfold tP_s; simp [h]
/-- the token from p on: its first place, its end, its kind (0 the end, 1 a name, 2 a number, 3 a stop, 4 a flaw), its value -/
noncomputable def tk_f (T : Nat → Int) (L p : Nat) : Nat := rn tP_s T L 160 p
noncomputable def tk_c (T : Nat → Int) (L p : Nat) : Int := tb T L (tk_f T L p)
noncomputable def tk_d (T : Nat → Int) (L p : Nat) : Nat := rn tP_f T L 160 (tk_f T L p + 1)
noncomputable def tk_k (T : Nat → Int) (L p : Nat) : Int := if L ≤ tk_f T L p then 0 else if 97 ≤ tk_c T L p ∧ tk_c T L p ≤ 122 then 1 else if 48 ≤ tk_c T L p ∧ tk_c T L p ≤ 57 then (if tk_d T L p ≤ tk_f T L p + 2 then 2 else 4) else if tk_c T L p = 59 then 3 else 4
noncomputable def tk_b (T : Nat → Int) (L p : Nat) : Nat := if 97 ≤ tk_c T L p ∧ tk_c T L p ≤ 122 then rn tP_l T L 160 (tk_f T L p + 1) else if 48 ≤ tk_c T L p ∧ tk_c T L p ≤ 57 then tk_d T L p else tk_f T L p + 1
noncomputable def tk_v (T : Nat → Int) (L p : Nat) : Int := if tk_d T L p = tk_f T L p + 1 then tk_c T L p - 48 else (tk_c T L p - 48) * 10 + tb T L (tk_f T L p + 1) - 48
theorem tk_f_le {T : Nat → Int} {L p : Nat} (h : p ≤ L) : p ≤ tk_f T L p ∧ tk_f T L p ≤ L := ⟨rn_ge _ _, rn_le (by decide) _ _ h⟩
theorem tk_k0 {T : Nat → Int} {L p : Nat} (h : ¬ tk_k T L p = 0) : tk_f T L p < L := by
  by_cases e : L ≤ tk_f T L p
  · unfold tk_k at h
    rw [if_pos e] at h
    exact absurd rfl h
  · omega
theorem tk_b_le {T : Nat → Int} {L p : Nat} (h : tk_f T L p < L) : tk_f T L p < tk_b T L p ∧ tk_b T L p ≤ L := by
  unfold tk_b
  split
  · exact ⟨rn_ge _ _, rn_le (by decide) _ _ h⟩
  · split
    · exact ⟨rn_ge _ _, rn_le (by decide) _ _ h⟩
    · omega
theorem tk_v_le {T : Nat → Int} {L p : Nat} (h : tk_k T L p = 2) : 0 ≤ tk_v T L p ∧ tk_v T L p ≤ 99 := by
  unfold tk_k at h
  by_cases e0 : L ≤ tk_f T L p
  · rw [if_pos e0] at h; omega
  · rw [if_neg e0] at h
    by_cases e1 : 97 ≤ tk_c T L p ∧ tk_c T L p ≤ 122
    · rw [if_pos e1] at h; omega
    · rw [if_neg e1] at h
      by_cases e2 : 48 ≤ tk_c T L p ∧ tk_c T L p ≤ 57
      · unfold tk_v
        split
        · omega
        · rename_i hd
          have h1 : tP_f (tb T L (tk_f T L p + 1)) = true := by
            cases hc : tP_f (tb T L (tk_f T L p + 1)) with
            | true => rfl
            | false =>
              refine absurd ?_ hd
              unfold tk_d
              exact rn_of hc _ _ (Nat.le_refl _) (fun i a b => by omega) (by omega)
          have := tP_ft.mp h1
          omega
      · rw [if_neg e2] at h
        split at h <;> omega
noncomputable def nm_len (k : Nat) : Nat := (w_cbyt.getD k []).length
noncomputable def nm_at (k i : Nat) : Int := (w_cbyt.getD k []).getD i 0
noncomputable def nm_is (T : Nat → Int) (L f b k : Nat) : Prop := b = f + nm_len k ∧ ∀ i, i < nm_len k → tb T L (f + i) = nm_at k i
/-- which line a name begins -/
noncomputable def ln_k (T : Nat → Int) (L f b : Nat) : Nat → Int
  | 0 => -1
  | k + 1 => @ite _ (ln_k T L f b k = -1 ∧ nm_is T L f b k) (Classical.propDecidable _) (k : Int) (ln_k T L f b k)
noncomputable def ln_n (T : Nat → Int) (L f b : Nat) : Int := ln_k T L f b 5
theorem ln_k_le {T : Nat → Int} {L f b : Nat} : ∀ k : Nat, ln_k T L f b k = -1 ∨ (0 ≤ ln_k T L f b k ∧ ln_k T L f b k < k) := by
  intro k
  induction k with
  | zero => exact Or.inl rfl
  | succ k ih =>
    simp only [ln_k]
    by_cases h : ln_k T L f b k = -1 ∧ nm_is T L f b k
    · rw [if_pos h]; omega
    · rw [if_neg h]; omega
theorem ln_stay {T : Nat → Int} {L f b k : Nat} (h : ¬ ln_k T L f b k = -1) : ∀ j : Nat, ln_k T L f b (k + j) = ln_k T L f b k := by
  intro j
  induction j with
  | zero => rfl
  | succ j ih =>
    show @ite _ (ln_k T L f b (k + j) = -1 ∧ nm_is T L f b (k + j)) (Classical.propDecidable _) ((k + j : Nat) : Int) (ln_k T L f b (k + j)) = _
    rw [if_neg (fun q => h (ih ▸ q.1)), ih]
theorem ln_hit {T : Nat → Int} {L f b k : Nat} (h0 : ln_k T L f b k = -1) (h : nm_is T L f b k) (hk : k < 5) : ln_n T L f b = k := by
  have e : ln_k T L f b (k + 1) = k := by simp only [ln_k]; rw [if_pos ⟨h0, h⟩]
  have := ln_stay (T := T) (L := L) (f := f) (b := b) (k := k + 1) (by omega) (5 - (k + 1))
  rw [show k + 1 + (5 - (k + 1)) = 5 by omega, e] at this
  exact this
theorem ln_miss {T : Nat → Int} {L f b k : Nat} (h0 : ln_k T L f b k = -1) (h : ¬ nm_is T L f b k) : ln_k T L f b (k + 1) = -1 := by
  simp only [ln_k]
  rw [if_neg (fun q => h q.2)]
  exact h0
/-- the draft: row 0 HOURS, -, clouds, -, strips, reapers, thistles, whether THE NIGHT was told; 1 yards, 2 owners, 3 paces, 4 oil, 6 places -/
noncomputable def d_WF (D : w_M) : Prop := (1 ≤ D 0 0 ∧ D 0 0 ≤ 12) ∧ (0 ≤ D 0 2 ∧ D 0 2 ≤ 4095) ∧ (0 ≤ D 0 4 ∧ D 0 4 ≤ 7) ∧ (0 ≤ D 0 5 ∧ D 0 5 ≤ 4) ∧ (0 ≤ D 0 6 ∧ D 0 6 ≤ 127) ∧ (D 0 7 = 0 ∨ D 0 7 = 1) ∧
  (∀ i, i < (D 0 4).toNat → (0 ≤ D 1 i ∧ D 1 i ≤ 40) ∧ (0 ≤ D 2 i ∧ D 2 i ≤ 3)) ∧ (∀ r, r < (D 0 5).toNat → (1 ≤ D 3 r ∧ D 3 r ≤ 9) ∧ (0 ≤ D 4 r ∧ D 4 r ≤ 9) ∧ (0 ≤ D 6 r ∧ D 6 r ≤ 6))
noncomputable def d_0 : w_M := fun d i => if d = 0 ∧ i = 0 then 8 else 0
theorem d_0_WF : d_WF d_0 := ⟨by decide, by decide, by decide, by decide, by decide, Or.inl rfl, fun i hi => absurd hi (Nat.not_lt_zero i), fun i hi => absurd hi (Nat.not_lt_zero i)⟩
noncomputable def ln_lo (k j : Nat) : Int := w_clow.getD (3 * k + j) 0
noncomputable def ln_hi (k j : Nat) : Int := w_chig.getD (3 * k + j) 0
noncomputable def ln_m (k : Nat) : Nat := (w_cnum.getD k 0).toNat
/-- what is wrong with a number of a line -/
noncomputable def nt_f (T : Nat → Int) (L : Nat) (D : w_M) (k j p : Nat) : Int := if tk_k T L p = 4 then 1 else if ¬ tk_k T L p = 2 then 2 else if tk_v T L p < ln_lo k j ∨ ln_hi k j < tk_v T L p then 3
  else if (k = 3 ∧ ¬ w_and (w_shr (D 0 2) (tk_v T L p)) 1 = 0) ∨ (k = 4 ∧ ¬ w_and (w_shr (D 0 6) (tk_v T L p)) 1 = 0) then 4 else 0
noncomputable def pp (T : Nat → Int) (L b : Nat) : Nat → Nat
  | 0 => b
  | j + 1 => tk_b T L (pp T L b j)
noncomputable def nf (T : Nat → Int) (L : Nat) (D : w_M) (k b : Nat) : Nat → Int × Nat
  | 0 => (0, 0)
  | j + 1 => if (nf T L D k b j).1 = 0 then (nt_f T L D k j (pp T L b j), tk_f T L (pp T L b j)) else nf T L D k b j
/-- what is wrong with a line of sort k whose name is from f to b -/
noncomputable def ln_b (D : w_M) (k : Nat) : Int := if k = 0 ∧ ¬ D 0 7 = 0 then 4 else if (k = 1 ∧ 7 ≤ D 0 4) ∨ (k = 2 ∧ 4 ≤ D 0 5) then 5 else 0
noncomputable def ln_s (T : Nat → Int) (L p : Nat) : Int := if tk_k T L p = 4 then 1 else if ¬ tk_k T L p = 3 then 2 else 0
noncomputable def ln_f (T : Nat → Int) (L : Nat) (D : w_M) (k f b : Nat) : Int × Nat := if ¬ ln_b D k = 0 then (ln_b D k, f) else if ¬ (nf T L D k b (ln_m k)).1 = 0 then nf T L D k b (ln_m k) else (ln_s T L (pp T L b (ln_m k)), tk_f T L (pp T L b (ln_m k)))
/-- what a line tells -/
noncomputable def ln_D (D : w_M) (k : Nat) (v0 v1 v2 : Int) : w_M := match k with
  | 0 => w_up (w_up D 0 0 v0) 0 7 1
  | 1 => w_up (w_up (w_up D 1 (D 0 4).toNat v0) 2 (D 0 4).toNat v1) 0 4 (D 0 4 + 1)
  | 2 => w_up (w_up (w_up (w_up D 3 (D 0 5).toNat v0) 4 (D 0 5).toNat v1) 6 (D 0 5).toNat v2) 0 5 (D 0 5 + 1)
  | 3 => w_up D 0 2 (w_or (D 0 2) (w_shl 1 v0))
  | _ => w_up D 0 6 (w_or (D 0 6) (w_shl 1 v0))
noncomputable def d_bad (D : w_M) : Prop := ¬ ((∀ r, r < (D 0 5).toNat → D 6 r < D 0 4) ∧ w_shr (D 0 2) (D 0 0) = 0 ∧ w_shr (D 0 6) (D 0 4) = 0)
/-- all lines from p on: the fault and its place, how many lines, what is told -/
noncomputable def rd_R (T : Nat → Int) (L : Nat) : Nat → Nat → Nat → w_M → (Int × Nat) × Nat × w_M
  | 0, l, _, D => ((0, 0), l, D)
  | n + 1, l, p, D =>
    if tk_k T L p = 0 then (@ite _ (d_bad D) (Classical.propDecidable _) ((6, L), l, D) ((0, 0), l, D))
    else if tk_k T L p = 4 then ((1, tk_f T L p), l, D)
    else if ¬ tk_k T L p = 1 ∨ ln_n T L (tk_f T L p) (tk_b T L p) = -1 then ((2, tk_f T L p), l, D)
    else if ¬ (ln_f T L D (ln_n T L (tk_f T L p) (tk_b T L p)).toNat (tk_f T L p) (tk_b T L p)).1 = 0 then (ln_f T L D (ln_n T L (tk_f T L p) (tk_b T L p)).toNat (tk_f T L p) (tk_b T L p), l, D)
    else rd_R T L n (l + 1) (tk_b T L (pp T L (tk_b T L p) (ln_m (ln_n T L (tk_f T L p) (tk_b T L p)).toNat))) (ln_D D (ln_n T L (tk_f T L p) (tk_b T L p)).toNat (tk_v T L (tk_b T L p)) (tk_v T L (pp T L (tk_b T L p) 1)) (tk_v T L (pp T L (tk_b T L p) 2)))
theorem nf_0 {T : Nat → Int} {L : Nat} {D : w_M} {k b : Nat} : ∀ n, (nf T L D k b n).1 = 0 → ∀ j, j < n → nt_f T L D k j (pp T L b j) = 0 := by
  intro n
  induction n with
  | zero => intro _ j hj; omega
  | succ n ih =>
    intro h j hj
    simp only [nf] at h
    by_cases e : (nf T L D k b n).1 = 0
    · rw [if_pos e] at h
      by_cases ej : j = n
      · rw [ej]; exact h
      · exact ih e j (by omega)
    · rw [if_neg e] at h
      exact absurd h e
theorem nt_f_0 {T : Nat → Int} {L : Nat} {D : w_M} {k j p : Nat} (h : nt_f T L D k j p = 0) : tk_k T L p = 2 ∧ (ln_lo k j ≤ tk_v T L p ∧ tk_v T L p ≤ ln_hi k j) ∧ (k = 3 → w_and (w_shr (D 0 2) (tk_v T L p)) 1 = 0) ∧ (k = 4 → w_and (w_shr (D 0 6) (tk_v T L p)) 1 = 0) := by
  unfold nt_f at h
  by_cases e4 : tk_k T L p = 4
  · rw [if_pos e4] at h; omega
  · rw [if_neg e4] at h
    by_cases e2 : tk_k T L p = 2
    · rw [if_neg (fun q => q e2)] at h
      by_cases e3 : tk_v T L p < ln_lo k j ∨ ln_hi k j < tk_v T L p
      · rw [if_pos e3] at h; omega
      · rw [if_neg e3] at h
        by_cases e5 : (k = 3 ∧ ¬ w_and (w_shr (D 0 2) (tk_v T L p)) 1 = 0) ∨ (k = 4 ∧ ¬ w_and (w_shr (D 0 6) (tk_v T L p)) 1 = 0)
        · rw [if_pos e5] at h; omega
        · refine ⟨e2, by omega, fun hk => ?_, fun hk => ?_⟩
          · by_cases z : w_and (w_shr (D 0 2) (tk_v T L p)) 1 = 0
            · exact z
            · exact absurd (Or.inl ⟨hk, z⟩) e5
          · by_cases z : w_and (w_shr (D 0 6) (tk_v T L p)) 1 = 0
            · exact z
            · exact absurd (Or.inr ⟨hk, z⟩) e5
    · rw [if_pos e2] at h; omega
theorem nt_f_le {T : Nat → Int} {L : Nat} {D : w_M} {k j p : Nat} : 0 ≤ nt_f T L D k j p ∧ nt_f T L D k j p ≤ 4 := by
  unfold nt_f
  repeat' split
  all_goals omega
theorem w_or_mask {m v n : Nat} (hm : m < 2 ^ n) (hv : v < n) (hn : n ≤ 12) : w_or (m : Int) (w_shl 1 (v : Int)) = ((m ||| 2 ^ v : Nat) : Int) ∧ m ||| 2 ^ v < 2 ^ n := by
  have h1 : 2 ^ v < 2 ^ n := Nat.pow_lt_pow_right (by decide) hv
  have h2 : 2 ^ n ≤ 2 ^ 12 := Nat.pow_le_pow_right (by decide) hn
  rw [w_shl13 v (by omega), w_or_nat (by omega) (by omega)]
  exact ⟨rfl, Nat.or_lt_two_pow hm h1⟩
theorem ln_D_WF {D : w_M} (h : d_WF D) {k : Nat} (hk : k < 5) (hb : ln_b D k = 0) {v0 v1 v2 : Int} (h0 : ln_lo k 0 ≤ v0 ∧ v0 ≤ ln_hi k 0) (h1 : 1 < ln_m k → ln_lo k 1 ≤ v1 ∧ v1 ≤ ln_hi k 1) (h2 : 2 < ln_m k → ln_lo k 2 ≤ v2 ∧ v2 ≤ ln_hi k 2) : d_WF (ln_D D k v0 v1 v2) := by
  obtain ⟨a1, a2, a3, a4, a5, a6, a7, a8⟩ := h
  unfold ln_b at hb
  rcases (show k = 0 ∨ k = 1 ∨ k = 2 ∨ k = 3 ∨ k = 4 by omega) with rfl | rfl | rfl | rfl | rfl
  · have e0 : (1 : Int) ≤ v0 ∧ v0 ≤ 12 := h0
    exact ⟨e0, a2, a3, a4, a5, Or.inr rfl, a7, a8⟩
  · have e0 : (0 : Int) ≤ v0 ∧ v0 ≤ 40 := h0
    have e1 : (0 : Int) ≤ v1 ∧ v1 ≤ 3 := h1 (by decide)
    rw [if_neg (by omega)] at hb
    have hs : D 0 4 < 7 := by
      by_cases q : 7 ≤ D 0 4
      · rw [if_pos (Or.inl ⟨rfl, q⟩)] at hb; omega
      · omega
    have eg : ∀ d i, ln_D D 1 v0 v1 v2 d i = if d = 0 ∧ i = 4 then D 0 4 + 1 else if d = 2 ∧ i = (D 0 4).toNat then v1 else if d = 1 ∧ i = (D 0 4).toNat then v0 else D d i := fun d i => rfl
    have z : ∀ j, j ≠ 4 → ln_D D 1 v0 v1 v2 0 j = D 0 j := fun j hj => by rw [eg, if_neg (by omega), if_neg (by omega), if_neg (by omega)]
    have z4 : ln_D D 1 v0 v1 v2 0 4 = D 0 4 + 1 := rfl
    unfold d_WF
    rw [z 0 (by decide), z 2 (by decide), z 5 (by decide), z 6 (by decide), z 7 (by decide), z4]
    have c1 : ∀ i, ln_D D 1 v0 v1 v2 1 i = if i = (D 0 4).toNat then v0 else D 1 i := fun i => by rw [eg]; simp
    have c2 : ∀ i, ln_D D 1 v0 v1 v2 2 i = if i = (D 0 4).toNat then v1 else D 2 i := fun i => by rw [eg]; simp
    have cz : ∀ d i, d ≠ 0 → d ≠ 1 → d ≠ 2 → ln_D D 1 v0 v1 v2 d i = D d i := fun d i x0 x1 x2 => by rw [eg, if_neg (fun q => x0 q.1), if_neg (fun q => x2 q.1), if_neg (fun q => x1 q.1)]
    refine ⟨a1, a2, by omega, a4, a5, a6, fun i hi => ?_, fun r hr => ?_⟩
    · rw [c1, c2]
      by_cases e : i = (D 0 4).toNat
      · rw [if_pos e, if_pos e]; exact ⟨e0, e1⟩
      · rw [if_neg e, if_neg e]
        exact a7 i (by omega)
    · rw [cz 3 r (by decide) (by decide) (by decide), cz 4 r (by decide) (by decide) (by decide), cz 6 r (by decide) (by decide) (by decide)]
      exact a8 r hr
  · have e0 : (1 : Int) ≤ v0 ∧ v0 ≤ 9 := h0
    have e1 : (0 : Int) ≤ v1 ∧ v1 ≤ 9 := h1 (by decide)
    have e2 : (0 : Int) ≤ v2 ∧ v2 ≤ 6 := h2 (by decide)
    rw [if_neg (by omega)] at hb
    have hs : D 0 5 < 4 := by
      by_cases q : 4 ≤ D 0 5
      · rw [if_pos (Or.inr ⟨rfl, q⟩)] at hb; omega
      · omega
    have eg : ∀ d i, ln_D D 2 v0 v1 v2 d i = if d = 0 ∧ i = 5 then D 0 5 + 1 else if d = 6 ∧ i = (D 0 5).toNat then v2 else if d = 4 ∧ i = (D 0 5).toNat then v1 else if d = 3 ∧ i = (D 0 5).toNat then v0 else D d i := fun d i => rfl
    have z : ∀ j, j ≠ 5 → ln_D D 2 v0 v1 v2 0 j = D 0 j := fun j hj => by rw [eg, if_neg (by omega), if_neg (by omega), if_neg (by omega), if_neg (by omega)]
    have z5 : ln_D D 2 v0 v1 v2 0 5 = D 0 5 + 1 := rfl
    unfold d_WF
    rw [z 0 (by decide), z 2 (by decide), z 4 (by decide), z 6 (by decide), z 7 (by decide), z5]
    have c3 : ∀ i, ln_D D 2 v0 v1 v2 3 i = if i = (D 0 5).toNat then v0 else D 3 i := fun i => by rw [eg]; simp
    have c4 : ∀ i, ln_D D 2 v0 v1 v2 4 i = if i = (D 0 5).toNat then v1 else D 4 i := fun i => by rw [eg]; simp
    have c6 : ∀ i, ln_D D 2 v0 v1 v2 6 i = if i = (D 0 5).toNat then v2 else D 6 i := fun i => by rw [eg]; simp
    have cz : ∀ d i, d ≠ 0 → d ≠ 3 → d ≠ 4 → d ≠ 6 → ln_D D 2 v0 v1 v2 d i = D d i := fun d i x0 x3 x4 x6 => by rw [eg, if_neg (fun q => x0 q.1), if_neg (fun q => x6 q.1), if_neg (fun q => x4 q.1), if_neg (fun q => x3 q.1)]
    refine ⟨a1, a2, a3, by omega, a5, a6, fun i hi => ?_, fun r hr => ?_⟩
    · rw [cz 1 i (by decide) (by decide) (by decide) (by decide), cz 2 i (by decide) (by decide) (by decide) (by decide)]
      exact a7 i hi
    · rw [c3, c4, c6]
      by_cases e : r = (D 0 5).toNat
      · rw [if_pos e, if_pos e, if_pos e]; exact ⟨e0, e1, e2⟩
      · rw [if_neg e, if_neg e, if_neg e]
        exact a8 r (by omega)
  · have e0 : (0 : Int) ≤ v0 ∧ v0 ≤ 11 := h0
    obtain ⟨m, hm⟩ := Int.eq_ofNat_of_zero_le a2.1
    obtain ⟨v, rfl⟩ := Int.eq_ofNat_of_zero_le e0.1
    obtain ⟨w1, w2⟩ := w_or_mask (m := m) (v := v) (n := 12) (by omega) (by omega) (by decide)
    refine ⟨a1, ?_, a3, a4, a5, a6, a7, a8⟩
    show 0 ≤ w_or (D 0 2) (w_shl 1 (v : Int)) ∧ w_or (D 0 2) (w_shl 1 (v : Int)) ≤ 4095
    rw [hm, w1]
    omega
  · have e0 : (0 : Int) ≤ v0 ∧ v0 ≤ 6 := h0
    obtain ⟨m, hm⟩ := Int.eq_ofNat_of_zero_le a5.1
    obtain ⟨v, rfl⟩ := Int.eq_ofNat_of_zero_le e0.1
    obtain ⟨w1, w2⟩ := w_or_mask (m := m) (v := v) (n := 7) (by omega) (by omega) (by decide)
    refine ⟨a1, a2, a3, a4, ?_, a6, a7, a8⟩
    show 0 ≤ w_or (D 0 6) (w_shl 1 (v : Int)) ∧ w_or (D 0 6) (w_shl 1 (v : Int)) ≤ 127
    rw [hm, w1]
    omega
/-- the night that is told -/
noncomputable def d_A (D : w_M) : w_M := fun d i => if d = 0 then (if i = 0 then D 0 0 else if i = 2 then D 0 2 else if i = 3 then -4 else if i = 4 then D 0 4 else if i = 5 then D 0 5 else 0)
  else if d ≤ 2 then (if i < (D 0 4).toNat then D d i else 0) else if d = 5 then (if i < (D 0 5).toNat then 3 else 0) else if d ≤ 6 then (if i < (D 0 5).toNat then D d i else 0)
  else if d = 9 then (if i < (D 0 4).toNat then w_and (w_shr (D 0 6) i) 1 else 0) else 0
theorem d_A_WF {D : w_M} (h : d_WF D) (hb : ¬ d_bad D) : n_WF (d_A D) := by
  obtain ⟨a1, a2, a3, a4, a5, a6, a7, a8⟩ := h
  have hg : (∀ r, r < (D 0 5).toNat → D 6 r < D 0 4) ∧ w_shr (D 0 2) (D 0 0) = 0 ∧ w_shr (D 0 6) (D 0 4) = 0 := Classical.byContradiction hb
  refine ⟨a1, ⟨by show (0 : Int) ≤ 0; omega, by show (0 : Int) ≤ D 0 0; omega⟩, a2, a3, a4, fun i hi => ?_, fun r hr => ?_⟩
  · have hi' : i < (D 0 4).toNat := hi
    have e1 : d_A D 1 i = D 1 i := by unfold d_A; rw [if_neg (by decide), if_pos (by decide), if_pos hi']
    have e2 : d_A D 2 i = D 2 i := by unfold d_A; rw [if_neg (by decide), if_pos (by decide), if_pos hi']
    have e9 : d_A D 9 i = w_and (w_shr (D 0 6) i) 1 := by unfold d_A; rw [if_neg (by decide), if_neg (by decide), if_neg (by decide), if_neg (by decide), if_pos rfl, if_pos hi']
    rw [e1, e2, e9]
    exact ⟨(a7 i hi').1, (a7 i hi').2, w_and1 _⟩
  · have hr' : r < (D 0 5).toNat := hr
    have e3 : d_A D 3 r = D 3 r := by unfold d_A; rw [if_neg (by decide), if_neg (by decide), if_neg (by decide), if_pos (by decide), if_pos hr']
    have e4 : d_A D 4 r = D 4 r := by unfold d_A; rw [if_neg (by decide), if_neg (by decide), if_neg (by decide), if_pos (by decide), if_pos hr']
    have e5 : d_A D 5 r = 3 := by unfold d_A; rw [if_neg (by decide), if_neg (by decide), if_pos (by decide), if_pos hr']
    have e6 : d_A D 6 r = D 6 r := by unfold d_A; rw [if_neg (by decide), if_neg (by decide), if_neg (by decide), if_pos (by decide), if_pos hr']
    have e04 : d_A D 0 4 = D 0 4 := rfl
    rw [e3, e4, e5, e6, e04]
    have w := a8 r hr'
    exact ⟨w.1, w.2.1, by decide, w.2.2.1, hg.1 r hr'⟩
end
