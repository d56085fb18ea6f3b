/-! Rows of choices: one number for each reaper, the last turning first -/
noncomputable def dv (B : Nat) : Nat → Nat → Nat
  | 0, k => k
  | j + 1, k => dv B j (k / B)
theorem dv_s (B : Nat) : ∀ j k, dv B (j + 1) k = dv B j k / B := by
  intro j
  induction j with
  | zero => intro k; rfl
  | succ j ih => intro k; show dv B (j + 1) (k / B) = dv B j (k / B) / B; exact ih _
/-- the number of reaper r, of n, in row k -/
noncomputable def dg (B n k r : Nat) : Nat := dv B (n - 1 - r) k % B
theorem dv_lt {B : Nat} : ∀ n k, k < B ^ n → dv B n k = 0 := by
  intro n
  induction n with
  | zero => intro k h; simp at h; exact h
  | succ n ih =>
    intro k h
    refine ih _ ?_
    rw [Nat.pow_succ, Nat.mul_comm] at h
    exact Nat.div_lt_of_lt_mul h
theorem dv_0 (B : Nat) : ∀ j, dv B j 0 = 0 := by
  intro j
  induction j with
  | zero => rfl
  | succ j ih => show dv B j (0 / B) = 0; rw [Nat.zero_div]; exact ih
theorem dg_0 (B n r : Nat) : dg B n 0 r = 0 := by unfold dg; rw [dv_0, Nat.zero_mod]
theorem dg_lt {B n k r : Nat} (h : 1 ≤ B) : dg B n k r < B := Nat.mod_lt _ (by omega)
theorem div_s1 {B q : Nat} (hB : 1 ≤ B) (h : q % B + 1 < B) : (q + 1) / B = q / B ∧ (q + 1) % B = q % B + 1 := by
  have e := Nat.div_add_mod q B
  have e1 : q + 1 = B * (q / B) + (q % B + 1) := by omega
  constructor
  · rw [e1, Nat.mul_add_div (by omega), Nat.div_eq_of_lt h, Nat.add_zero]
  · rw [e1, Nat.mul_add_mod, Nat.mod_eq_of_lt h]
theorem div_s2 {B q : Nat} (hB : 1 ≤ B) (h : B ≤ q % B + 1) : (q + 1) / B = q / B + 1 ∧ (q + 1) % B = 0 := by
  have e := Nat.div_add_mod q B
  have hl := Nat.mod_lt q (show 0 < B by omega)
  have h2 : q % B + 1 = B := by omega
  have e1 : q + 1 = B * (q / B) + B := by omega
  constructor
  · rw [e1, Nat.mul_add_div (by omega), Nat.div_self (by omega)]
  · rw [e1, Nat.mul_add_mod, Nat.mod_self]
theorem dv_up {B : Nat} {m k l : Nat} (h : dv B m l = dv B m k) : ∀ j, m ≤ j → dv B j l = dv B j k := by
  intro j hj
  obtain ⟨t, rfl⟩ := Nat.exists_eq_add_of_le hj
  induction t with
  | zero => exact h
  | succ t ih =>
    show dv B (m + t + 1) l = dv B (m + t + 1) k
    rw [dv_s, dv_s, ih (by omega)]
theorem dv_pos {B : Nat} {n k : Nat} (h : 1 ≤ dv B n k) (hB : 1 ≤ B) : B ^ n ≤ k := by
  by_cases hk : k < B ^ n
  · rw [dv_lt n k hk] at h; omega
  · omega
/-- what is picked is row k -/
noncomputable def pk_at (σ : w_M) (B n k : Nat) : Prop := ∀ r, r < n → σ 41 r = (dg B n k r : Nat) ∧ σ 42 r = (B : Int) - 1
noncomputable def p_Plan_turnPicks (n : Int) (σ : w_M) : Prop := (0 ≤ n ∧ n ≤ 4) ∧ ∃ B k : Nat, B ≤ 10 ∧ (1 ≤ B ∨ n = 0) ∧ k < B ^ n.toNat ∧ pk_at σ B n.toNat k
noncomputable def q_Plan_turnPicks (n : Int) (σ : w_M) (x : Int) (σ' : w_M) : Prop := w_f1 σ σ' 41 ∧ ∀ B k : Nat, B ≤ 10 → (1 ≤ B ∨ n = 0) → k < B ^ n.toNat → pk_at σ B n.toNat k → (x = 1 ∧ k + 1 < B ^ n.toNat ∧ pk_at σ' B n.toNat (k + 1)) ∨ (x = 0 ∧ k + 1 = B ^ n.toNat)
theorem pk_bnd {σ : w_M} {B n k : Nat} (h : pk_at σ B n k) (hB : 1 ≤ B) {r : Nat} (hr : r < n) : 0 ≤ σ 41 r ∧ σ 41 r < B := by
  have h1 := (h r hr).1
  have h2 := dg_lt (n := n) (k := k) (r := r) hB
  omega
theorem fPlan_turnPicks_0 : w_fe am_c72 0 1 (.iload 1) := ⟨rfl, rfl⟩
theorem fPlan_turnPicks_1 : w_fe am_c72 1 2 (.bipush 4) := ⟨rfl, rfl⟩
theorem fPlan_turnPicks_2 : w_fe am_c72 2 3 (.invokestatic 1) := ⟨rfl, rfl⟩
theorem fPlan_turnPicks_3 : w_fe am_c72 3 4 (.bipush 1) := ⟨rfl, rfl⟩
theorem fPlan_turnPicks_4 : w_fe am_c72 4 5 (.isub) := ⟨rfl, rfl⟩
theorem fPlan_turnPicks_5 : w_fe am_c72 5 6 (.istore 2) := ⟨rfl, rfl⟩
theorem fPlan_turnPicks_6 : w_fe am_c72 6 7 (.iload 2) := ⟨rfl, rfl⟩
theorem fPlan_turnPicks_7 : w_if am_c72 7 8 .lt 34 := ⟨rfl, rfl⟩
theorem fPlan_turnPicks_8 : w_fe am_c72 8 9 (.aload 0) := ⟨rfl, rfl⟩
theorem fPlan_turnPicks_9 : w_fe am_c72 9 10 (.getfield 601) := ⟨rfl, rfl⟩
theorem fPlan_turnPicks_10 : w_fe am_c72 10 11 (.iload 2) := ⟨rfl, rfl⟩
theorem fPlan_turnPicks_11 : w_fe am_c72 11 12 (.iaload) := ⟨rfl, rfl⟩
theorem fPlan_turnPicks_12 : w_fe am_c72 12 13 (.aload 0) := ⟨rfl, rfl⟩
theorem fPlan_turnPicks_13 : w_fe am_c72 13 14 (.getfield 602) := ⟨rfl, rfl⟩
theorem fPlan_turnPicks_14 : w_fe am_c72 14 15 (.iload 2) := ⟨rfl, rfl⟩
theorem fPlan_turnPicks_15 : w_fe am_c72 15 16 (.iaload) := ⟨rfl, rfl⟩
theorem fPlan_turnPicks_16 : w_ic am_c72 16 17 .ge 27 := ⟨rfl, rfl⟩
theorem fPlan_turnPicks_17 : w_fe am_c72 17 18 (.aload 0) := ⟨rfl, rfl⟩
theorem fPlan_turnPicks_18 : w_fe am_c72 18 19 (.getfield 601) := ⟨rfl, rfl⟩
theorem fPlan_turnPicks_19 : w_fe am_c72 19 20 (.iload 2) := ⟨rfl, rfl⟩
theorem fPlan_turnPicks_20 : w_fe am_c72 20 21 (.dup2) := ⟨rfl, rfl⟩
theorem fPlan_turnPicks_21 : w_fe am_c72 21 22 (.iaload) := ⟨rfl, rfl⟩
theorem fPlan_turnPicks_22 : w_fe am_c72 22 23 (.bipush 1) := ⟨rfl, rfl⟩
theorem fPlan_turnPicks_23 : w_fe am_c72 23 24 (.iadd) := ⟨rfl, rfl⟩
theorem fPlan_turnPicks_24 : w_fe am_c72 24 25 (.iastore) := ⟨rfl, rfl⟩
theorem fPlan_turnPicks_25 : w_fe am_c72 25 26 (.bipush 1) := ⟨rfl, rfl⟩
theorem fPlan_turnPicks_26 : w_fe am_c72 26 27 (.ireturn) := ⟨rfl, rfl⟩
theorem fPlan_turnPicks_27 : w_fe am_c72 27 28 (.aload 0) := ⟨rfl, rfl⟩
theorem fPlan_turnPicks_28 : w_fe am_c72 28 29 (.getfield 601) := ⟨rfl, rfl⟩
theorem fPlan_turnPicks_29 : w_fe am_c72 29 30 (.iload 2) := ⟨rfl, rfl⟩
theorem fPlan_turnPicks_30 : w_fe am_c72 30 31 (.bipush 0) := ⟨rfl, rfl⟩
theorem fPlan_turnPicks_31 : w_fe am_c72 31 32 (.iastore) := ⟨rfl, rfl⟩
theorem fPlan_turnPicks_32 : w_fe am_c72 32 33 (.iinc 2 (-1)) := ⟨rfl, rfl⟩
theorem fPlan_turnPicks_33 : w_gt am_c72 33 6 := rfl
theorem fPlan_turnPicks_34 : w_fe am_c72 34 35 (.bipush 0) := ⟨rfl, rfl⟩
theorem fPlan_turnPicks_35 : w_fe am_c72 35 36 (.ireturn) := ⟨rfl, rfl⟩
noncomputable def LPlan_turnPicks_6 (xs : List Int) (d : Nat) (Q : Option w_V → w_M → Prop) (v2 : Int) (σ : w_M) : Prop := ∀ l1, w_nl l1 → w_Ex (xs, d) 2 am_c72 Q 6 [some (.inr (.inr (6, 31))), l1, some (.inl v2)] [] σ
set_option maxRecDepth 20000 in
theorem bPlan_turnPicks_0 {xs : List Int} {d : Nat} {Q : Option w_V → w_M → Prop} {x1 : Int} {σ : w_M}
    (h : ∀ (y1 : Int), y1 = v_Math_min x1 4 → (w_in (y1 - 1) ∧ (∀ (y2 : Int), y2 = (y1 - 1) → LPlan_turnPicks_6 xs (d + 1) Q y2 σ))) : w_Call (xs, (d + 1)) 72 [.inr (.inr (6, 31)), .inl x1] σ Q :=
  (w_mk (mid := 72) (by decide) rfl rfl rfl rfl rfl (Nat.le_of_ble_eq_true rfl) ⟨rfl, Or.inl (by decide)⟩ (wi_iload1 fPlan_turnPicks_0 (wi_bipush fPlan_turnPicks_1 (wi_call2 fPlan_turnPicks_2 (Nat.le_of_ble_eq_true rfl) (k_Math_min (wi_bipush fPlan_turnPicks_3 (wi_isub fPlan_turnPicks_4 (h _ rfl).1 (wi_istore2 fPlan_turnPicks_5 trivial (((h _ rfl).2 _ rfl) _ (by exact trivial))))))))))
set_option maxRecDepth 20000 in
theorem bPlan_turnPicks_6 {xs : List Int} {d : Nat} {Q : Option w_V → w_M → Prop} {v2 : Int} {σ : w_M}
    (h : (v2 < 0 → Q (some (.inl 0)) σ) ∧ (0 ≤ v2 → (v2 < 4 ∧ (((σ 42 v2.toNat) ≤ (σ 41 v2.toNat) → ∀ (τ1 : w_M), τ1 = w_up σ 41 v2.toNat 0 → (w_in (v2 + (-1)) ∧ LPlan_turnPicks_6 xs (d + 1) Q (v2 + (-1)) τ1)) ∧ ((σ 41 v2.toNat) < (σ 42 v2.toNat) → (w_in ((σ 41 v2.toNat) + 1) ∧ (∀ (τ2 : w_M), τ2 = w_up σ 41 v2.toNat ((σ 41 v2.toNat) + 1) → Q (some (.inl 1)) τ2))))))) : LPlan_turnPicks_6 xs (d + 1) Q v2 σ :=
  fun l1 nl1 => (wi_iload2 fPlan_turnPicks_6 (wi_if_lt fPlan_turnPicks_7 (fun c4 => (wi_bipush fPlan_turnPicks_34 (wi_ret2 fPlan_turnPicks_35 (by decide) (h.1 c4)))) (fun c4 => (wi_aload0 fPlan_turnPicks_8 (wi_getf601 fPlan_turnPicks_9 (wi_iload2 fPlan_turnPicks_10 (wi_iald1004 fPlan_turnPicks_11 c4 (h.2 c4).1 (wi_aload0 fPlan_turnPicks_12 (wi_getf602 fPlan_turnPicks_13 (wi_iload2 fPlan_turnPicks_14 (wi_iald1004 fPlan_turnPicks_15 c4 (h.2 c4).1 (wi_ic_ge fPlan_turnPicks_16 (fun c3 => (wi_aload0 fPlan_turnPicks_27 (wi_getf601 fPlan_turnPicks_28 (wi_iload2 fPlan_turnPicks_29 (wi_bipush fPlan_turnPicks_30 (wi_iast1004 fPlan_turnPicks_31 c4 (h.2 c4).1 (wi_iinc2 fPlan_turnPicks_32 nl1 (((h.2 c4).2.1 c3) _ rfl).1 (wi_goto fPlan_turnPicks_33 ((((h.2 c4).2.1 c3) _ rfl).2 _ nl1))))))))) (fun c3 => (wi_aload0 fPlan_turnPicks_17 (wi_getf601 fPlan_turnPicks_18 (wi_iload2 fPlan_turnPicks_19 (wi_dup2 fPlan_turnPicks_20 (wi_iald1004 fPlan_turnPicks_21 c4 (h.2 c4).1 (wi_bipush fPlan_turnPicks_22 (wi_iadd fPlan_turnPicks_23 ((h.2 c4).2.2 c3).1 (wi_iast1004 fPlan_turnPicks_24 c4 (h.2 c4).1 (wi_bipush fPlan_turnPicks_25 (wi_ret2 fPlan_turnPicks_26 (by decide) (((h.2 c4).2.2 c3).2 _ rfl))))))))))))))))))))))))
theorem k_Plan_turnPicks {xs : List Int} {d : Nat} {Q : Option w_V → w_M → Prop} {x1 : Int} {σ : w_M} (hp : p_Plan_turnPicks x1 σ) (hQ : ∀ (x : Int) (σ' : w_M), q_Plan_turnPicks x1 σ x σ' → Q (some (.inl x)) σ') : w_Call (xs, d + 1) 72 [.inr (.inr (6, 31)), .inl x1] σ Q := by
  obtain ⟨⟨n0, n4⟩, B, k, hB10, hB, hk, hpk⟩ := hp
  obtain ⟨n, rfl⟩ := Int.eq_ofNat_of_zero_le n0
  unfold q_Plan_turnPicks at hQ
  rw [Int.toNat_natCast] at hQ hk hpk
  refine bPlan_turnPicks_0 (fun y1 e1 => ⟨?_, fun y2 e2 => ?_⟩)
  · rw [e1]; unfold v_Math_min; split <;> exact ⟨by omega, by omega⟩
  have ey : y2 = (n : Int) - 1 := by rw [e2, e1]; unfold v_Math_min; split <;> omega
  rw [ey, show (n : Int) - 1 = (n : Int) - 1 - ((0 : Nat) : Int) by omega]
  -- m numbers are turned to 0
  refine (w_loop (n := n) (P := fun m => ∀ τ : w_M, w_f1 σ τ 41 → (∀ r, r < n - m → τ 41 r = σ 41 r) → (∀ r, n - m ≤ r → r < n → τ 41 r = 0) → (∀ B k : Nat, B ≤ 10 → 1 ≤ B → k < B ^ n → pk_at σ B n k → dv B m (k + 1) = dv B m k + 1 ∧ ∀ j, j < m → dv B j (k + 1) % B = 0) → LPlan_turnPicks_6 xs (d + 1) Q ((n : Int) - 1 - (m : Int)) τ) ?_ ?_) σ w_f1.rfl' (fun r _ => rfl) (fun r h1 h2 => by omega) (fun B k _ _ _ _ => ⟨rfl, fun j hj => by omega⟩)
  · intro τ F h1 h2 h3
    refine bPlan_turnPicks_6 ⟨fun _ => hQ _ _ ⟨F, fun B k b1 b2 b3 b4 => Or.inr ⟨rfl, ?_⟩⟩, fun h => by omega⟩
    by_cases hB1 : 1 ≤ B
    · have := (h3 B k b1 hB1 b3 b4).1
      have := dv_pos (B := B) (n := n) (k := k + 1) (by omega) hB1
      omega
    · have hn0 : n = 0 := by omega
      subst hn0
      simp at b3 ⊢
      exact b3
  · intro m hm ih τ F h1 h2 h3
    have z42 : τ 42 = σ 42 := F 42 (by decide)
    have hB1 : 1 ≤ B := by omega
    have en : ((n : Int) - 1 - (m : Int)).toNat = n - 1 - m := by omega
    have hd := hpk (n - 1 - m) (by omega)
    have hlt := dg_lt (n := n) (k := k) (r := n - 1 - m) hB1
    refine bPlan_turnPicks_6 ⟨fun h => by omega, fun _ => ⟨by omega, ?_⟩⟩
    rw [en, z42, h1 _ (by omega)]
    refine ⟨fun c τ1 t1 => ⟨⟨by omega, by omega⟩, ?_⟩, fun c => ⟨⟨by omega, by omega⟩, fun τ2 t2 => hQ _ _ ⟨?_, fun B k b1 b2 b3 b4 => Or.inl ⟨rfl, ?_⟩⟩⟩⟩
    · rw [show (n : Int) - 1 - (m : Int) + (-1) = (n : Int) - 1 - ((m + 1 : Nat) : Int) by omega]
      refine ih τ1 (by rw [t1]; exact F.up) (fun r hr => ?_) (fun r hr1 hr2 => ?_) (fun B k b1 b2 b3 b4 => ?_)
      · rw [t1, w_up_j (by omega)]; exact h1 r (by omega)
      · rw [t1]
        by_cases hr : r = n - 1 - m
        · rw [hr, w_up_at]
        · rw [w_up_j hr]; exact h2 r (by omega) hr2
      · obtain ⟨g1, g2⟩ := h3 B k b1 b2 b3 b4
        have hd := b4 (n - 1 - m) (by omega)
        have ed : dg B n k (n - 1 - m) = dv B m k % B := by unfold dg; rw [show n - 1 - (n - 1 - m) = m by omega]
        rw [ed] at hd
        obtain ⟨s1, s2⟩ := div_s2 (q := dv B m k) b2 (by omega)
        refine ⟨by rw [dv_s, dv_s, g1, s1], fun j hj => ?_⟩
        by_cases hjm : j = m
        · rw [hjm, g1, s2]
        · exact g2 j (by omega)
    · rw [t2]; exact F.up
    · have b2' : 1 ≤ B := by omega
      obtain ⟨g1, g2⟩ := h3 B k b1 b2' b3 b4
      have hd := b4 (n - 1 - m) (by omega)
      have ed : dg B n k (n - 1 - m) = dv B m k % B := by unfold dg; rw [show n - 1 - (n - 1 - m) = m by omega]
      rw [ed] at hd
      obtain ⟨s1, s2⟩ := div_s1 (q := dv B m k) b2' (by omega)
      have hup : dv B (m + 1) (k + 1) = dv B (m + 1) k := by rw [dv_s, dv_s, g1, s1]
      refine ⟨?_, fun r hr => ⟨?_, by rw [t2, w_up_ne (by decide), z42]; exact (b4 r hr).2⟩⟩
      · by_cases hlt : k + 1 < B ^ n
        · exact hlt
        · have e : k + 1 = B ^ n := by omega
          have h0 := dv_lt (B := B) n k b3
          have hn := dv_up hup n (by omega)
          have hone : ∀ n, dv B n (B ^ n) = 1 := by
            intro n
            induction n with
            | zero => rfl
            | succ n ih => show dv B n (B ^ (n + 1) / B) = 1; rw [Nat.pow_succ, Nat.mul_div_cancel _ (by omega)]; exact ih
          rw [e, hone n, h0] at hn
          omega
      · rw [t2]
        unfold dg
        by_cases hr1 : r = n - 1 - m
        · rw [hr1, w_up_at, show n - 1 - (n - 1 - m) = m by omega, g1, s2, hd.1, w_cs1]
        · rw [w_up_j hr1]
          by_cases hr2 : r < n - 1 - m
          · rw [h1 r (by omega), (b4 r hr).1, dv_up hup (n - 1 - r) (by omega)]
            rfl
          · rw [h2 r (by omega) hr, g2 (n - 1 - r) (by omega)]
            rfl
noncomputable def p_Plan_startPicks (_ : Int) (_ : w_M) : Prop := True
noncomputable def q_Plan_startPicks (x : Int) (σ σ' : w_M) : Prop := (∀ r, r < 4 → σ' 41 r = 0 ∧ σ' 42 r = x) ∧ ∀ b, b ≠ 41 → b ≠ 42 → σ' b = σ b
theorem fPlan_startPicks_0 : w_fe am_c68 0 1 (.aload 0) := ⟨rfl, rfl⟩
theorem fPlan_startPicks_1 : w_fe am_c68 1 2 (.getfield 601) := ⟨rfl, rfl⟩
theorem fPlan_startPicks_2 : w_fe am_c68 2 3 (.bipush 0) := ⟨rfl, rfl⟩
theorem fPlan_startPicks_3 : w_fe am_c68 3 4 (.invokestatic 4) := ⟨rfl, rfl⟩
theorem fPlan_startPicks_4 : w_fe am_c68 4 5 (.aload 0) := ⟨rfl, rfl⟩
theorem fPlan_startPicks_5 : w_fe am_c68 5 6 (.getfield 602) := ⟨rfl, rfl⟩
theorem fPlan_startPicks_6 : w_fe am_c68 6 7 (.iload 1) := ⟨rfl, rfl⟩
theorem fPlan_startPicks_7 : w_fe am_c68 7 8 (.invokestatic 4) := ⟨rfl, rfl⟩
theorem fPlan_startPicks_8 : w_fe am_c68 8 9 (.return_) := ⟨rfl, rfl⟩
set_option maxRecDepth 20000 in
theorem bPlan_startPicks_0 {xs : List Int} {d : Nat} {Q : Option w_V → w_M → Prop} {x1 : Int} {σ : w_M}
    (h : ∀ (τ1 : w_M), q_Arrays_fill 41 0 σ τ1 → ∀ (τ2 : w_M), q_Arrays_fill 42 x1 τ1 τ2 → Q none τ2) : w_Call (xs, (d + 1)) 68 [.inr (.inr (6, 31)), .inl x1] σ Q :=
  (w_mk (mid := 68) (by decide) rfl rfl rfl rfl rfl (Nat.le_of_ble_eq_true rfl) ⟨rfl, Or.inl (by decide)⟩ (wi_aload0 fPlan_startPicks_0 (wi_getf601 fPlan_startPicks_1 (wi_bipush fPlan_startPicks_2 (wi_call2 fPlan_startPicks_3 (Nat.le_of_ble_eq_true rfl) (k_Arrays_fill (fun τ1 eτ1 => (wi_aload0 fPlan_startPicks_4 (wi_getf602 fPlan_startPicks_5 (wi_iload1 fPlan_startPicks_6 (wi_call2 fPlan_startPicks_7 (Nat.le_of_ble_eq_true rfl) (k_Arrays_fill (fun τ2 eτ2 => (wi_ret0 fPlan_startPicks_8 ((h τ1 eτ1) τ2 eτ2)))))))))))))))
theorem k_Plan_startPicks {xs : List Int} {d : Nat} {Q : Option w_V → w_M → Prop} {x1 : Int} {σ : w_M} (hp : p_Plan_startPicks x1 σ) (hQ : ∀ σ' : w_M, q_Plan_startPicks x1 σ σ' → Q none σ') : w_Call (xs, d + 1) 68 [.inr (.inr (6, 31)), .inl x1] σ Q := by
  refine bPlan_startPicks_0 (fun τ1 q1 τ2 q2 => hQ _ ?_)
  unfold q_Arrays_fill at q1 q2
  refine ⟨fun r hr => ⟨?_, ?_⟩, fun b h1 h2 => ?_⟩
  · rw [q2, f_fill_ne (by decide), q1, f_fill_at hr]
  · rw [q2, f_fill_at hr]
  · rw [q2, f_fill_ne h2, q1, f_fill_ne h1]
theorem pk_start {σ : w_M} {B n : Nat} (hn : n ≤ 4) (h : ∀ r, r < 4 → σ 41 r = 0 ∧ σ 42 r = (B : Int) - 1) : pk_at σ B n 0 := fun r hr => by
  rw [dg_0]
  exact h r (by omega)
noncomputable def p_Plan_choosePicks (_ : w_M) : Prop := True
noncomputable def q_Plan_choosePicks (σ σ' : w_M) : Prop := (∀ r, r < 4 → σ' 43 r = σ 41 r) ∧ w_f1 σ σ' 43
theorem fPlan_choosePicks_0 : w_fe am_c71 0 1 (.aload 0) := ⟨rfl, rfl⟩
theorem fPlan_choosePicks_1 : w_fe am_c71 1 2 (.getfield 601) := ⟨rfl, rfl⟩
theorem fPlan_choosePicks_2 : w_fe am_c71 2 3 (.bipush 0) := ⟨rfl, rfl⟩
theorem fPlan_choosePicks_3 : w_fe am_c71 3 4 (.aload 0) := ⟨rfl, rfl⟩
theorem fPlan_choosePicks_4 : w_fe am_c71 4 5 (.getfield 603) := ⟨rfl, rfl⟩
theorem fPlan_choosePicks_5 : w_fe am_c71 5 6 (.bipush 0) := ⟨rfl, rfl⟩
theorem fPlan_choosePicks_6 : w_fe am_c71 6 7 (.bipush 4) := ⟨rfl, rfl⟩
theorem fPlan_choosePicks_7 : w_fe am_c71 7 8 (.invokedynamic 0) := ⟨rfl, rfl⟩
theorem fPlan_choosePicks_8 : w_fe am_c71 8 9 (.return_) := ⟨rfl, rfl⟩
set_option maxRecDepth 20000 in
theorem bPlan_choosePicks_0 {xs : List Int} {d : Nat} {Q : Option w_V → w_M → Prop}  {σ : w_M}
    (h : ∀ (τ1 : w_M), τ1 = w_cpy σ 41 43 0 0 4 → Q none τ1) : w_Call (xs, d) 71 [.inr (.inr (6, 31))] σ Q :=
  (w_mk (mid := 71) (by decide) rfl rfl rfl rfl rfl (Nat.le_of_ble_eq_true rfl) ⟨rfl, Or.inl (by decide)⟩ (wi_aload0 fPlan_choosePicks_0 (wi_getf601 fPlan_choosePicks_1 (wi_bipush fPlan_choosePicks_2 (wi_aload0 fPlan_choosePicks_3 (wi_getf603 fPlan_choosePicks_4 (wi_bipush fPlan_choosePicks_5 (wi_bipush fPlan_choosePicks_6 (wi_acopy fPlan_choosePicks_7 (by decide) (Nat.le_of_ble_eq_true rfl) (by decide) (by decide) (by decide) (by decide) (by decide) (wi_ret0 fPlan_choosePicks_8 (h _ rfl)))))))))))
theorem fPlan_chosenOf_0 : w_fe am_c73 0 1 (.iload 1) := ⟨rfl, rfl⟩
theorem fPlan_chosenOf_1 : w_if am_c73 1 2 .lt 10 := ⟨rfl, rfl⟩
theorem fPlan_chosenOf_2 : w_fe am_c73 2 3 (.iload 1) := ⟨rfl, rfl⟩
theorem fPlan_chosenOf_3 : w_fe am_c73 3 4 (.bipush 4) := ⟨rfl, rfl⟩
theorem fPlan_chosenOf_4 : w_ic am_c73 4 5 .ge 10 := ⟨rfl, rfl⟩
theorem fPlan_chosenOf_5 : w_fe am_c73 5 6 (.aload 0) := ⟨rfl, rfl⟩
theorem fPlan_chosenOf_6 : w_fe am_c73 6 7 (.getfield 603) := ⟨rfl, rfl⟩
theorem fPlan_chosenOf_7 : w_fe am_c73 7 8 (.iload 1) := ⟨rfl, rfl⟩
theorem fPlan_chosenOf_8 : w_fe am_c73 8 9 (.iaload) := ⟨rfl, rfl⟩
theorem fPlan_chosenOf_9 : w_gt am_c73 9 11 := rfl
theorem fPlan_chosenOf_10 : w_fe am_c73 10 11 (.bipush (-1)) := ⟨rfl, rfl⟩
theorem fPlan_chosenOf_11 : w_fe am_c73 11 12 (.ireturn) := ⟨rfl, rfl⟩
set_option maxRecDepth 20000 in
theorem bPlan_chosenOf_0 {xs : List Int} {d : Nat} {Q : Option w_V → w_M → Prop} {x1 : Int} {σ : w_M}
    (h : (x1 < 0 → Q (some (.inl (-1))) σ) ∧ (0 ≤ x1 → ((4 ≤ x1 → Q (some (.inl (-1))) σ) ∧ (x1 < 4 → Q (some (.inl (σ 43 x1.toNat))) σ)))) : w_Call (xs, d) 73 [.inr (.inr (6, 31)), .inl x1] σ Q :=
  (w_mk (mid := 73) (by decide) rfl rfl rfl rfl rfl (Nat.le_of_ble_eq_true rfl) ⟨rfl, Or.inl (by decide)⟩ (wi_iload1 fPlan_chosenOf_0 (wi_if_lt fPlan_chosenOf_1 (fun c2 => (wi_bipush fPlan_chosenOf_10 (wi_ret1 fPlan_chosenOf_11 (h.1 c2)))) (fun c2 => (wi_iload1 fPlan_chosenOf_2 (wi_bipush fPlan_chosenOf_3 (wi_ic_ge fPlan_chosenOf_4 (fun c1 => (wi_bipush fPlan_chosenOf_10 (wi_ret1 fPlan_chosenOf_11 ((h.2 c2).1 c1)))) (fun c1 => (wi_aload0 fPlan_chosenOf_5 (wi_getf603 fPlan_chosenOf_6 (wi_iload1 fPlan_chosenOf_7 (wi_iald1004 fPlan_chosenOf_8 c2 c1 (wi_goto fPlan_chosenOf_9 (wi_ret1 fPlan_chosenOf_11 ((h.2 c2).2 c1)))))))))))))))
theorem k_Plan_choosePicks {xs : List Int} {d : Nat} {Q : Option w_V → w_M → Prop}  {σ : w_M} (hp : p_Plan_choosePicks σ) (hQ : ∀ σ' : w_M, q_Plan_choosePicks σ σ' → Q none σ') : w_Call (xs, d) 71 [.inr (.inr (6, 31))] σ Q := by
  refine bPlan_choosePicks_0 (fun τ t => hQ _ ⟨fun r hr => ?_, fun b hb => ?_⟩)
  · rw [t, w_cpy_q, if_pos (by omega), Nat.zero_add, Nat.sub_zero]
  · rw [t, w_cpy_ne hb]
noncomputable def p_Plan_chosenOf (r : Int) (_ : w_M) : Prop := 0 ≤ r ∧ r < 4
noncomputable def v_Plan_chosenOf (r : Int) (σ : w_M) : Int := σ 43 r.toNat
theorem k_Plan_chosenOf {xs : List Int} {d : Nat} {Q : Option w_V → w_M → Prop} {x1 : Int} {σ : w_M} (hp : p_Plan_chosenOf x1 σ) (hQ : Q (some (.inl (v_Plan_chosenOf x1 σ))) σ) : w_Call (xs, d) 73 [.inr (.inr (6, 31)), .inl x1] σ Q := by
  have h : 0 ≤ x1 ∧ x1 < 4 := hp
  exact bPlan_chosenOf_0 ⟨fun c => by omega, fun _ => ⟨fun c => by omega, fun _ => hQ⟩⟩
/-- a night that is begun otherwise -/
noncomputable def n_bg (A : w_M) (f : Nat → Int) : w_M := fun d i => if d = 6 ∧ i < n_n A then f i else A d i
theorem n_bg_ne {A : w_M} {f : Nat → Int} {d : Nat} (h : d ≠ 6) : n_bg A f d = A d := by
  funext i
  unfold n_bg
  rw [if_neg (fun q => h q.1)]
theorem n_bg_sd {A : w_M} {f : Nat → Int} : n_sd (n_bg A f) = n_sd A := by unfold n_sd n_s; rw [n_bg_ne (by decide), n_bg_ne (by decide)]
theorem n_bg_WF {A : w_M} (h : n_WF A) {f : Nat → Int} (hf : ∀ r, r < n_n A → 0 ≤ f r ∧ f r < A 0 4) : n_WF (n_bg A f) := by
  have e : ∀ d, d ≠ 6 → n_bg A f d = A d := fun d hd => n_bg_ne hd
  have es : n_s (n_bg A f) = n_s A := by unfold n_s; rw [e 0 (by decide)]
  have en : n_n (n_bg A f) = n_n A := by unfold n_n; rw [e 0 (by decide)]
  unfold n_WF at h ⊢
  rw [es, en, e 0 (by decide), e 1 (by decide), e 2 (by decide), e 3 (by decide), e 4 (by decide), e 5 (by decide), e 9 (by decide)]
  refine ⟨h.1, h.2.1, h.2.2.1, h.2.2.2.1, h.2.2.2.2.1, h.2.2.2.2.2.1, fun r hr => ?_⟩
  have := h.2.2.2.2.2.2 r hr
  have e6 : n_bg A f 6 r = f r := if_pos ⟨rfl, hr⟩
  rw [e6]
  exact ⟨this.1, this.2.1, this.2.2.1, hf r hr⟩
theorem n_bg_congr {A : w_M} {f g : Nat → Int} (h : ∀ r, r < n_n A → f r = g r) : n_bg A f = n_bg A g := by
  funext d i
  unfold n_bg
  by_cases c : d = 6 ∧ i < n_n A
  · rw [if_pos c, if_pos c, h i c.2]
  · rw [if_neg c, if_neg c]
noncomputable def p_Plan_beginAsPicked (b : Nat) (σ : w_M) : Prop := n_ok σ b ∧ (32 + 9 ≤ b ∨ b + 9 ≤ 32)
noncomputable def q_Plan_beginAsPicked (b : Nat) (σ σ' : w_M) : Prop := w_ab σ' 32 = n_bg (w_ab σ b) (σ 41) ∧ w_fr σ σ' 32 41
theorem fPlan_beginAsPicked_0 : w_fe am_c70 0 1 (.aload 0) := ⟨rfl, rfl⟩
theorem fPlan_beginAsPicked_1 : w_fe am_c70 1 2 (.getfield 600) := ⟨rfl, rfl⟩
theorem fPlan_beginAsPicked_2 : w_fe am_c70 2 3 (.aload 1) := ⟨rfl, rfl⟩
theorem fPlan_beginAsPicked_3 : w_fe am_c70 3 4 (.invokestatic 34) := ⟨rfl, rfl⟩
theorem fPlan_beginAsPicked_4 : w_fe am_c70 4 5 (.aload 0) := ⟨rfl, rfl⟩
theorem fPlan_beginAsPicked_5 : w_fe am_c70 5 6 (.getfield 601) := ⟨rfl, rfl⟩
theorem fPlan_beginAsPicked_6 : w_fe am_c70 6 7 (.bipush 0) := ⟨rfl, rfl⟩
theorem fPlan_beginAsPicked_7 : w_fe am_c70 7 8 (.aload 0) := ⟨rfl, rfl⟩
theorem fPlan_beginAsPicked_8 : w_fe am_c70 8 9 (.getfield 600) := ⟨rfl, rfl⟩
theorem fPlan_beginAsPicked_9 : w_fe am_c70 9 10 (.getfield 212) := ⟨rfl, rfl⟩
theorem fPlan_beginAsPicked_10 : w_fe am_c70 10 11 (.bipush 0) := ⟨rfl, rfl⟩
theorem fPlan_beginAsPicked_11 : w_fe am_c70 11 12 (.bipush 4) := ⟨rfl, rfl⟩
theorem fPlan_beginAsPicked_12 : w_fe am_c70 12 13 (.invokedynamic 0) := ⟨rfl, rfl⟩
theorem fPlan_beginAsPicked_13 : w_fe am_c70 13 14 (.return_) := ⟨rfl, rfl⟩
set_option maxRecDepth 20000 in
theorem bPlan_beginAsPicked_0 {xs : List Int} {d : Nat} {Q : Option w_V → w_M → Prop} {b : Nat} {σ : w_M}
    (h : p_Field_copyFrom 32 b σ ∧ (∀ (τ1 : w_M), q_Field_copyFrom 32 b σ τ1 → ∀ (τ2 : w_M), τ2 = w_cpy τ1 41 38 0 0 4 → Q none τ2)) : w_Call (xs, (d + 1)) 70 [.inr (.inr (6, 31)), .inr (.inr (2, b))] σ Q :=
  (w_mk (mid := 70) (by decide) rfl rfl rfl rfl rfl (Nat.le_of_ble_eq_true rfl) ⟨rfl, Or.inl (by decide)⟩ (wi_aload0 fPlan_beginAsPicked_0 (wi_getf600 fPlan_beginAsPicked_1 (wi_aload1 fPlan_beginAsPicked_2 (wi_call2 fPlan_beginAsPicked_3 (Nat.le_of_ble_eq_true rfl) (k_Field_copyFrom h.1 (fun τ1 eτ1 => (wi_aload0 fPlan_beginAsPicked_4 (wi_getf601 fPlan_beginAsPicked_5 (wi_bipush fPlan_beginAsPicked_6 (wi_aload0 fPlan_beginAsPicked_7 (wi_getf600 fPlan_beginAsPicked_8 (wi_getf212 fPlan_beginAsPicked_9 (wi_bipush fPlan_beginAsPicked_10 (wi_bipush fPlan_beginAsPicked_11 (wi_acopy fPlan_beginAsPicked_12 (by decide) (Nat.le_of_ble_eq_true rfl) (by decide) (by decide) (by decide) (by decide) (by decide) (wi_ret0 fPlan_beginAsPicked_13 ((h.2 τ1 eτ1) _ rfl))))))))))))))))))
theorem k_Plan_beginAsPicked {xs : List Int} {d : Nat} {Q : Option w_V → w_M → Prop} {b : Nat} {σ : w_M} (hp : p_Plan_beginAsPicked b σ) (hQ : ∀ σ' : w_M, q_Plan_beginAsPicked b σ σ' → Q none σ') : w_Call (xs, d + 1) 70 [.inr (.inr (6, 31)), .inr (.inr (2, b))] σ Q := by
  obtain ⟨hok, hb⟩ := hp
  have hn := n_ok.n hok
  refine bPlan_beginAsPicked_0 ⟨⟨hok, hb⟩, fun τ1 hq τ2 t2 => hQ _ ⟨?_, ?_⟩⟩
  · obtain ⟨q1, q2, q3⟩ := hq
    have e0 : τ2 32 = τ1 32 := by rw [t2, w_cpy_ne (by decide)]
    have z5 : τ1 32 5 = σ b 5 := congrFun (congrFun q1 0) 5
    have rl : ∀ d, w_rl τ2 32 d = w_rl τ1 32 d := fun d => by unfold w_rl; rw [e0]
    funext d i
    unfold n_bg
    by_cases c : d = 6 ∧ i < n_n (w_ab σ b)
    · rw [if_pos c, c.1, w_ab_row (by decide), rl, w_rl37 (by decide) (by decide)]
      have c2 : i < (σ b 5).toNat := c.2
      rw [if_pos (by rw [z5]; exact c2), t2]
      show w_cpy τ1 41 38 0 0 4 38 i = _
      rw [w_cpy_q, if_pos (by omega), Nat.zero_add, Nat.sub_zero, q3 41 (by omega)]
    · rw [if_neg c, ← q1]
      by_cases h9 : d < 9
      · rw [w_ab_row h9, w_ab_row h9, rl]
        by_cases hi : i < w_rl τ1 32 d
        · rw [if_pos hi, if_pos hi]
          by_cases h6 : d = 6
          · subst h6
            rw [w_rl37 (by decide) (by decide), z5] at hi
            exact absurd ⟨rfl, hi⟩ c
          · rw [t2, w_cpy_ne (by omega)]
        · rw [if_neg hi, if_neg hi]
      · by_cases h10 : d = 9
        · subst h10
          rw [w_ab_9, w_ab_9, e0]
        · rw [w_ab_10 (by omega), w_ab_10 (by omega)]
  · intro c hc
    rw [t2, w_cpy_ne (by omega), hq.2.2 c hc]
noncomputable def p_Model_rowsOf (B : Int) (σ : w_M) : Prop := (0 ≤ B ∧ B ≤ 10) ∧ (0 ≤ σ 122 5 ∧ σ 122 5 ≤ 4)
noncomputable def v_Model_rowsOf (B : Int) (σ : w_M) : Int := ((B.toNat ^ (σ 122 5).toNat : Nat) : Int)
theorem pow10 {B n : Nat} (hB : B ≤ 10) (hn : n ≤ 4) : B ^ n ≤ 10000 := Nat.le_trans (Nat.pow_le_pow_left hB n) (Nat.pow_le_pow_right (n := 10) (by decide) hn)
theorem pow7 {B n : Nat} (hB : B ≤ 7) (hn : n ≤ 4) : B ^ n ≤ 2401 := by
  have h1 := Nat.pow_le_pow_left hB n
  have h2 : 7 ^ n ≤ 7 ^ 4 := Nat.pow_le_pow_right (by decide) hn
  omega
theorem fModel_rowsOf_0 : w_fe am_c207 0 1 (.bipush 1) := ⟨rfl, rfl⟩
theorem fModel_rowsOf_1 : w_fe am_c207 1 2 (.istore 2) := ⟨rfl, rfl⟩
theorem fModel_rowsOf_2 : w_fe am_c207 2 3 (.bipush 0) := ⟨rfl, rfl⟩
theorem fModel_rowsOf_3 : w_fe am_c207 3 4 (.istore 3) := ⟨rfl, rfl⟩
theorem fModel_rowsOf_4 : w_fe am_c207 4 5 (.iload 3) := ⟨rfl, rfl⟩
theorem fModel_rowsOf_5 : w_fe am_c207 5 6 (.aload 0) := ⟨rfl, rfl⟩
theorem fModel_rowsOf_6 : w_fe am_c207 6 7 (.getfield 905) := ⟨rfl, rfl⟩
theorem fModel_rowsOf_7 : w_ic am_c207 7 8 .ge 14 := ⟨rfl, rfl⟩
theorem fModel_rowsOf_8 : w_fe am_c207 8 9 (.iload 2) := ⟨rfl, rfl⟩
theorem fModel_rowsOf_9 : w_fe am_c207 9 10 (.iload 1) := ⟨rfl, rfl⟩
theorem fModel_rowsOf_10 : w_fe am_c207 10 11 (.imul) := ⟨rfl, rfl⟩
theorem fModel_rowsOf_11 : w_fe am_c207 11 12 (.istore 2) := ⟨rfl, rfl⟩
theorem fModel_rowsOf_12 : w_fe am_c207 12 13 (.iinc 3 1) := ⟨rfl, rfl⟩
theorem fModel_rowsOf_13 : w_gt am_c207 13 4 := rfl
theorem fModel_rowsOf_14 : w_fe am_c207 14 15 (.iload 2) := ⟨rfl, rfl⟩
theorem fModel_rowsOf_15 : w_fe am_c207 15 16 (.ireturn) := ⟨rfl, rfl⟩
noncomputable def LModel_rowsOf_4 (xs : List Int) (d : Nat) (Q : Option w_V → w_M → Prop) (v1 : Int) (v2 : Int) (v3 : Int) (σ : w_M) : Prop := w_Ex (xs, d) 1 am_c207 Q 4 [some (.inr (.inr (9, 122))), some (.inl v1), some (.inl v2), some (.inl v3)] [] σ
set_option maxRecDepth 20000 in
theorem bModel_rowsOf_0 {xs : List Int} {d : Nat} {Q : Option w_V → w_M → Prop} {x1 : Int} {σ : w_M}
    (h : LModel_rowsOf_4 xs d Q x1 1 0 σ) : w_Call (xs, d) 207 [.inr (.inr (9, 122)), .inl x1] σ Q :=
  (w_mk (mid := 207) (by decide) rfl rfl rfl rfl rfl (Nat.le_of_ble_eq_true rfl) ⟨rfl, Or.inl (by decide)⟩ (wi_bipush fModel_rowsOf_0 (wi_istore2 fModel_rowsOf_1 trivial (wi_bipush fModel_rowsOf_2 (wi_istore3 fModel_rowsOf_3 trivial h)))))
set_option maxRecDepth 20000 in
theorem bModel_rowsOf_4 {xs : List Int} {d : Nat} {Q : Option w_V → w_M → Prop} {v1 : Int} {v2 : Int} {v3 : Int} {σ : w_M}
    (h : ((σ 122 5) ≤ v3 → Q (some (.inl v2)) σ) ∧ (v3 < (σ 122 5) → (w_in (v2 * v1) ∧ (∀ (y1 : Int), y1 = (v2 * v1) → (w_in (v3 + 1) ∧ LModel_rowsOf_4 xs d Q v1 y1 (v3 + 1) σ))))) : LModel_rowsOf_4 xs d Q v1 v2 v3 σ :=
  (wi_iload3 fModel_rowsOf_4 (wi_aload0 fModel_rowsOf_5 (wi_getf905 fModel_rowsOf_6 (wi_ic_ge fModel_rowsOf_7 (fun c2 => (wi_iload2 fModel_rowsOf_14 (wi_ret1 fModel_rowsOf_15 (h.1 c2)))) (fun c2 => (wi_iload2 fModel_rowsOf_8 (wi_iload1 fModel_rowsOf_9 (wi_imul fModel_rowsOf_10 (h.2 c2).1 (wi_istore2 fModel_rowsOf_11 trivial (wi_iinc3 fModel_rowsOf_12 trivial ((h.2 c2).2 _ rfl).1 (wi_goto fModel_rowsOf_13 ((h.2 c2).2 _ rfl).2)))))))))))
theorem k_Model_rowsOf {xs : List Int} {d : Nat} {Q : Option w_V → w_M → Prop} {x1 : Int} {σ : w_M} (hp : p_Model_rowsOf x1 σ) (hQ : Q (some (.inl (v_Model_rowsOf x1 σ))) σ) : w_Call (xs, d) 207 [.inr (.inr (9, 122)), .inl x1] σ Q := by
  obtain ⟨hB, hn⟩ := hp
  obtain ⟨B, rfl⟩ := Int.eq_ofNat_of_zero_le hB.1
  unfold v_Model_rowsOf at hQ
  rw [Int.toNat_natCast] at hQ
  refine bModel_rowsOf_0 ?_
  refine w_loop (n := (σ 122 5).toNat) (P := fun i => LModel_rowsOf_4 xs d Q (B : Int) ((B ^ i : Nat) : Int) (i : Int) σ) ?_ ?_
  · exact bModel_rowsOf_4 ⟨fun _ => hQ, fun h => by omega⟩
  · intro i hi ih
    have e : ((B ^ i : Nat) : Int) * (B : Int) = ((B ^ (i + 1) : Nat) : Int) := by rw [Nat.pow_succ, Int.natCast_mul]
    have := pow10 (B := B) (n := i + 1) (by omega) (by omega)
    rw [w_cs1] at ih
    refine bModel_rowsOf_4 ⟨fun h => by omega, fun _ => ?_⟩
    rw [e]
    exact ⟨⟨by omega, by omega⟩, fun y ey => ⟨⟨by omega, by omega⟩, by rw [ey]; exact ih⟩⟩
noncomputable def p_Model_toldBy (k r B : Int) (σ : w_M) : Prop := (0 ≤ k ∧ k ≤ 10000) ∧ (0 ≤ r ∧ r < σ 122 5) ∧ (1 ≤ B ∧ B ≤ 10) ∧ σ 122 5 ≤ 4
noncomputable def v_Model_toldBy (k r B : Int) (σ : w_M) : Int := (dg B.toNat (σ 122 5).toNat k.toNat r.toNat : Nat)
theorem fModel_toldBy_0 : w_fe am_c209 0 1 (.iload 1) := ⟨rfl, rfl⟩
theorem fModel_toldBy_1 : w_fe am_c209 1 2 (.istore 4) := ⟨rfl, rfl⟩
theorem fModel_toldBy_2 : w_fe am_c209 2 3 (.aload 0) := ⟨rfl, rfl⟩
theorem fModel_toldBy_3 : w_fe am_c209 3 4 (.getfield 905) := ⟨rfl, rfl⟩
theorem fModel_toldBy_4 : w_fe am_c209 4 5 (.bipush 1) := ⟨rfl, rfl⟩
theorem fModel_toldBy_5 : w_fe am_c209 5 6 (.isub) := ⟨rfl, rfl⟩
theorem fModel_toldBy_6 : w_fe am_c209 6 7 (.istore 5) := ⟨rfl, rfl⟩
theorem fModel_toldBy_7 : w_fe am_c209 7 8 (.iload 5) := ⟨rfl, rfl⟩
theorem fModel_toldBy_8 : w_fe am_c209 8 9 (.iload 2) := ⟨rfl, rfl⟩
theorem fModel_toldBy_9 : w_ic am_c209 9 10 .le 16 := ⟨rfl, rfl⟩
theorem fModel_toldBy_10 : w_fe am_c209 10 11 (.iload 4) := ⟨rfl, rfl⟩
theorem fModel_toldBy_11 : w_fe am_c209 11 12 (.iload 3) := ⟨rfl, rfl⟩
theorem fModel_toldBy_12 : w_fe am_c209 12 13 (.idiv) := ⟨rfl, rfl⟩
theorem fModel_toldBy_13 : w_fe am_c209 13 14 (.istore 4) := ⟨rfl, rfl⟩
theorem fModel_toldBy_14 : w_fe am_c209 14 15 (.iinc 5 (-1)) := ⟨rfl, rfl⟩
theorem fModel_toldBy_15 : w_gt am_c209 15 7 := rfl
theorem fModel_toldBy_16 : w_fe am_c209 16 17 (.iload 4) := ⟨rfl, rfl⟩
theorem fModel_toldBy_17 : w_fe am_c209 17 18 (.iload 3) := ⟨rfl, rfl⟩
theorem fModel_toldBy_18 : w_fe am_c209 18 19 (.irem) := ⟨rfl, rfl⟩
theorem fModel_toldBy_19 : w_fe am_c209 19 20 (.ireturn) := ⟨rfl, rfl⟩
noncomputable def LModel_toldBy_7 (xs : List Int) (d : Nat) (Q : Option w_V → w_M → Prop) (v2 : Int) (v3 : Int) (v4 : Int) (v5 : Int) (σ : w_M) : Prop := ∀ l0, w_nl l0 → ∀ l1, w_nl l1 → w_Ex (xs, d) 1 am_c209 Q 7 [l0, l1, some (.inl v2), some (.inl v3), some (.inl v4), some (.inl v5)] [] σ
set_option maxRecDepth 20000 in
theorem bModel_toldBy_0 {xs : List Int} {d : Nat} {Q : Option w_V → w_M → Prop} {x1 : Int} {x2 : Int} {x3 : Int} {σ : w_M}
    (h : w_in ((σ 122 5) - 1) ∧ (∀ (y1 : Int), y1 = ((σ 122 5) - 1) → LModel_toldBy_7 xs d Q x2 x3 x1 y1 σ)) : w_Call (xs, d) 209 [.inr (.inr (9, 122)), .inl x1, .inl x2, .inl x3] σ Q :=
  (w_mk (mid := 209) (by decide) rfl rfl rfl rfl rfl (Nat.le_of_ble_eq_true rfl) ⟨rfl, Or.inl (by decide)⟩ (wi_iload1 fModel_toldBy_0 (wi_istore4 fModel_toldBy_1 trivial (wi_aload0 fModel_toldBy_2 (wi_getf905 fModel_toldBy_3 (wi_bipush fModel_toldBy_4 (wi_isub fModel_toldBy_5 h.1 (wi_istore5 fModel_toldBy_6 trivial ((h.2 _ rfl) _ (by exact trivial) _ (by exact trivial))))))))))
set_option maxRecDepth 20000 in
theorem bModel_toldBy_7 {xs : List Int} {d : Nat} {Q : Option w_V → w_M → Prop} {v2 : Int} {v3 : Int} {v4 : Int} {v5 : Int} {σ : w_M}
    (h : (v5 ≤ v2 → (¬ v3 = 0 ∧ Q (some (.inl (v4.tmod v3))) σ)) ∧ (v2 < v5 → (¬ v3 = 0 ∧ w_in (v4.tdiv v3) ∧ (∀ (y1 : Int), y1 = (v4.tdiv v3) → (w_in (v5 + (-1)) ∧ LModel_toldBy_7 xs d Q v2 v3 y1 (v5 + (-1)) σ))))) : LModel_toldBy_7 xs d Q v2 v3 v4 v5 σ :=
  fun l0 nl0 => fun l1 nl1 => (wi_iload5 fModel_toldBy_7 (wi_iload2 fModel_toldBy_8 (wi_ic_le fModel_toldBy_9 (fun c2 => (wi_iload4 fModel_toldBy_16 (wi_iload3 fModel_toldBy_17 (wi_irem fModel_toldBy_18 (h.1 c2).1 (wi_ret1 fModel_toldBy_19 (h.1 c2).2))))) (fun c2 => (wi_iload4 fModel_toldBy_10 (wi_iload3 fModel_toldBy_11 (wi_idiv fModel_toldBy_12 (h.2 c2).1 (h.2 c2).2.1 (wi_istore4 fModel_toldBy_13 trivial (wi_iinc5 fModel_toldBy_14 trivial ((h.2 c2).2.2 _ rfl).1 (wi_goto fModel_toldBy_15 (((h.2 c2).2.2 _ rfl).2 _ nl0 _ nl1)))))))))))
theorem k_Model_toldBy {xs : List Int} {d : Nat} {Q : Option w_V → w_M → Prop} {x1 : Int} {x2 : Int} {x3 : Int} {σ : w_M} (hp : p_Model_toldBy x1 x2 x3 σ) (hQ : Q (some (.inl (v_Model_toldBy x1 x2 x3 σ))) σ) : w_Call (xs, d) 209 [.inr (.inr (9, 122)), .inl x1, .inl x2, .inl x3] σ Q := by
  obtain ⟨hk, hr, hB, hn⟩ := hp
  obtain ⟨k, rfl⟩ := Int.eq_ofNat_of_zero_le hk.1
  obtain ⟨B, rfl⟩ := Int.eq_ofNat_of_zero_le (show 0 ≤ x3 by omega)
  unfold v_Model_toldBy dg at hQ
  rw [Int.toNat_natCast, Int.toNat_natCast] at hQ
  have le : ∀ j, dv B j k ≤ k := by
    intro j
    induction j with
    | zero => exact Nat.le_refl _
    | succ j ih => rw [dv_s]; exact Nat.le_trans (Nat.div_le_self _ _) ih
  refine bModel_toldBy_0 ⟨⟨by omega, by omega⟩, fun y1 e1 => ?_⟩
  rw [e1, show σ 122 5 - 1 = σ 122 5 - 1 - ((0 : Nat) : Int) by omega]
  refine w_loop (n := (σ 122 5).toNat - 1 - x2.toNat) (P := fun j => LModel_toldBy_7 xs d Q x2 (B : Int) ((dv B j k : Nat) : Int) (σ 122 5 - 1 - (j : Int)) σ) ?_ ?_
  · refine bModel_toldBy_7 ⟨fun _ => ⟨by omega, ?_⟩, fun h => by omega⟩
    rw [← Int.ofNat_tmod]
    exact hQ
  · intro j hj ih
    have hl := le (j + 1)
    have e : ((dv B j k : Nat) : Int).tdiv (B : Int) = ((dv B (j + 1) k : Nat) : Int) := by rw [dv_s, Int.ofNat_tdiv]
    refine bModel_toldBy_7 ⟨fun h => by omega, fun _ => ⟨by omega, ?_⟩⟩
    rw [e]
    refine ⟨⟨by omega, by omega⟩, fun y ey => ⟨⟨by omega, by omega⟩, ?_⟩⟩
    rw [ey, show σ 122 5 - 1 - (j : Int) + (-1) = σ 122 5 - 1 - ((j + 1 : Nat) : Int) by omega]
    exact ih
noncomputable def p_Model_begins (k : Int) (σ : w_M) : Prop := (m_sm σ ∧ (0 ≤ k ∧ k ≤ 10000)) ∧ (0 ≤ σ 122 4 ∧ σ 122 4 ≤ 7) ∧ (0 ≤ σ 122 5 ∧ σ 122 5 ≤ 4) ∧ (1 ≤ σ 122 4 ∨ σ 122 5 = 0)
noncomputable def n_row (A : w_M) (k : Nat) : w_M := n_bg A (fun r => ((dg (n_s A) (n_n A) k r : Nat) : Int))
noncomputable def q_Model_begins (k : Int) (σ σ' : w_M) : Prop := w_am σ' 124 0 = n_row (w_am σ 123 0) k.toNat ∧ w_f1 σ σ' 124
theorem fModel_begins_0 : w_fe am_c208 0 1 (.aload 0) := ⟨rfl, rfl⟩
theorem fModel_begins_1 : w_fe am_c208 1 2 (.invokestatic 174) := ⟨rfl, rfl⟩
theorem fModel_begins_2 : w_fe am_c208 2 3 (.bipush 0) := ⟨rfl, rfl⟩
theorem fModel_begins_3 : w_fe am_c208 3 4 (.istore 2) := ⟨rfl, rfl⟩
theorem fModel_begins_4 : w_fe am_c208 4 5 (.iload 2) := ⟨rfl, rfl⟩
theorem fModel_begins_5 : w_fe am_c208 5 6 (.aload 0) := ⟨rfl, rfl⟩
theorem fModel_begins_6 : w_fe am_c208 6 7 (.getfield 905) := ⟨rfl, rfl⟩
theorem fModel_begins_7 : w_ic am_c208 7 8 .ge 20 := ⟨rfl, rfl⟩
theorem fModel_begins_8 : w_fe am_c208 8 9 (.aload 0) := ⟨rfl, rfl⟩
theorem fModel_begins_9 : w_fe am_c208 9 10 (.iload 2) := ⟨rfl, rfl⟩
theorem fModel_begins_10 : w_fe am_c208 10 11 (.bipush 3) := ⟨rfl, rfl⟩
theorem fModel_begins_11 : w_fe am_c208 11 12 (.aload 0) := ⟨rfl, rfl⟩
theorem fModel_begins_12 : w_fe am_c208 12 13 (.iload 1) := ⟨rfl, rfl⟩
theorem fModel_begins_13 : w_fe am_c208 13 14 (.iload 2) := ⟨rfl, rfl⟩
theorem fModel_begins_14 : w_fe am_c208 14 15 (.aload 0) := ⟨rfl, rfl⟩
theorem fModel_begins_15 : w_fe am_c208 15 16 (.getfield 904) := ⟨rfl, rfl⟩
theorem fModel_begins_16 : w_fe am_c208 16 17 (.invokestatic 209) := ⟨rfl, rfl⟩
theorem fModel_begins_17 : w_fe am_c208 17 18 (.invokestatic 199) := ⟨rfl, rfl⟩
theorem fModel_begins_18 : w_fe am_c208 18 19 (.iinc 2 1) := ⟨rfl, rfl⟩
theorem fModel_begins_19 : w_gt am_c208 19 4 := rfl
theorem fModel_begins_20 : w_fe am_c208 20 21 (.return_) := ⟨rfl, rfl⟩
noncomputable def LModel_begins_4 (xs : List Int) (d : Nat) (Q : Option w_V → w_M → Prop) (v1 : Int) (v2 : Int) (σ : w_M) : Prop := w_Ex (xs, d) 0 am_c208 Q 4 [some (.inr (.inr (9, 122))), some (.inl v1), some (.inl v2)] [] σ
set_option maxRecDepth 20000 in
theorem bModel_begins_0 {xs : List Int} {d : Nat} {Q : Option w_V → w_M → Prop} {x1 : Int} {σ : w_M}
    (h : p_Model_starts σ ∧ (∀ (τ1 : w_M), q_Model_starts σ τ1 → LModel_begins_4 xs (d + 1) Q x1 0 τ1)) : w_Call (xs, (d + 1)) 208 [.inr (.inr (9, 122)), .inl x1] σ Q :=
  (w_mk (mid := 208) (by decide) rfl rfl rfl rfl rfl (Nat.le_of_ble_eq_true rfl) ⟨rfl, Or.inl (by decide)⟩ (wi_aload0 fModel_begins_0 (wi_call1 fModel_begins_1 (Nat.le_of_ble_eq_true rfl) (k_Model_starts h.1 (fun τ1 eτ1 => (wi_bipush fModel_begins_2 (wi_istore2 fModel_begins_3 trivial (h.2 τ1 eτ1))))))))
set_option maxRecDepth 20000 in
theorem bModel_begins_4 {xs : List Int} {d : Nat} {Q : Option w_V → w_M → Prop} {v1 : Int} {v2 : Int} {σ : w_M}
    (h : ((σ 122 5) ≤ v2 → Q none σ) ∧ (v2 < (σ 122 5) → (p_Model_toldBy v1 v2 (σ 122 4) σ ∧ (∀ (y1 : Int), y1 = v_Model_toldBy v1 v2 (σ 122 4) σ → (p_Model_becomesOf v2 3 y1 σ ∧ (∀ (τ2 : w_M), q_Model_becomesOf v2 3 y1 σ τ2 → (w_in (v2 + 1) ∧ LModel_begins_4 xs (d + 1) Q v1 (v2 + 1) τ2))))))) : LModel_begins_4 xs (d + 1) Q v1 v2 σ :=
  (wi_iload2 fModel_begins_4 (wi_aload0 fModel_begins_5 (wi_getf905 fModel_begins_6 (wi_ic_ge fModel_begins_7 (fun c3 => (wi_ret0 fModel_begins_20 (h.1 c3))) (fun c3 => (wi_aload0 fModel_begins_8 (wi_iload2 fModel_begins_9 (wi_bipush fModel_begins_10 (wi_aload0 fModel_begins_11 (wi_iload1 fModel_begins_12 (wi_iload2 fModel_begins_13 (wi_aload0 fModel_begins_14 (wi_getf904 fModel_begins_15 (wi_call4 fModel_begins_16 (Nat.le_of_ble_eq_true rfl) (k_Model_toldBy (h.2 c3).1 (wi_call4 fModel_begins_17 (Nat.le_of_ble_eq_true rfl) (k_Model_becomesOf ((h.2 c3).2 _ rfl).1 (fun τ2 eτ2 => (wi_iinc2 fModel_begins_18 trivial (((h.2 c3).2 _ rfl).2 τ2 eτ2).1 (wi_goto fModel_begins_19 (((h.2 c3).2 _ rfl).2 τ2 eτ2).2))))))))))))))))))))
theorem k_Model_begins {xs : List Int} {d : Nat} {Q : Option w_V → w_M → Prop} {x1 : Int} {σ : w_M} (hp : p_Model_begins x1 σ) (hQ : ∀ σ' : w_M, q_Model_begins x1 σ σ' → Q none σ') : w_Call (xs, d + 1) 208 [.inr (.inr (9, 122)), .inl x1] σ Q := by
  obtain ⟨⟨hsm, hk⟩, hs, hn, h0⟩ := hp
  refine bModel_begins_0 ⟨hsm, fun τ1 hq => ?_⟩
  obtain ⟨q1, q2, q3⟩ := hq
  refine (w_loop (n := (σ 122 5).toNat) (P := fun i => ∀ τ : w_M, w_f1 σ τ 124 → w_am τ 124 0 = (fun d j => if d = 6 ∧ j < i then ((dg (σ 122 4).toNat (σ 122 5).toNat x1.toNat j : Nat) : Int) else w_am σ 123 0 d j) → LModel_begins_4 xs (d + 1) Q x1 (i : Int) τ) ?_ ?_) τ1 q2 ?_
  · intro τ F ha
    have z2 : τ 122 = σ 122 := F 122 (by decide)
    exact bModel_begins_4 ⟨fun _ => hQ _ ⟨ha, F⟩, fun h => by rw [z2] at h; omega⟩
  · intro i hi ih τ F ha
    have z2 : τ 122 = σ 122 := F 122 (by decide)
    refine bModel_begins_4 ⟨fun h => by rw [z2] at h; omega, fun _ => ⟨⟨hk, by rw [z2]; omega, by rw [z2]; omega, by rw [z2]; omega⟩, fun y ey => ⟨⟨by omega, by decide⟩, fun τ2 t2 => ⟨⟨by omega, by omega⟩, ?_⟩⟩⟩⟩
    rw [← w_cs1]
    have t2' : τ2 = w_up τ 124 (21 + 5 * (i : Int) + 3).toNat y := t2
    refine ih τ2 (by rw [t2']; exact F.up) ?_
    rw [t2', w_am_up (d := 6) (i := i) (by unfold m_sm; rw [z2]; exact hsm) (by decide) (by rw [m_rl37 (by decide) (by decide), z2]; exact hi) (by show _ = 0 + (24 + 5 * i); omega), ha]
    unfold v_Model_toldBy at ey
    rw [z2, Int.toNat_natCast] at ey
    funext d j
    rw [w_up_eq]
    by_cases c : d = 6 ∧ j = i
    · rw [if_pos c, if_pos (by omega), ey, c.2]
    · rw [if_neg c]
      by_cases c2 : d = 6 ∧ j < i
      · rw [if_pos c2, if_pos (by omega)]
      · rw [if_neg c2, if_neg (by omega)]
  · rw [q1]
    funext d j
    rw [if_neg (by omega)]
theorem w_Call_as {E : w_C} {c : Nat} {as : List w_V} {σ : w_M} {Q : Option w_V → w_M → Prop} (h : w_vs as → w_Call E c as σ Q) : w_Call E c as σ Q := fun h1 h2 h3 => h h2 h1 h2 h3
theorem fMoon_asksOfReaper_0 : w_fe am_c130 0 1 (.iload 1) := ⟨rfl, rfl⟩
theorem fMoon_asksOfReaper_1 : w_fe am_c130 1 2 (.bipush 10) := ⟨rfl, rfl⟩
theorem fMoon_asksOfReaper_2 : w_ic am_c130 2 3 .lt 12 := ⟨rfl, rfl⟩
theorem fMoon_asksOfReaper_3 : w_fe am_c130 3 4 (.iload 1) := ⟨rfl, rfl⟩
theorem fMoon_asksOfReaper_4 : w_fe am_c130 4 5 (.bipush 10) := ⟨rfl, rfl⟩
theorem fMoon_asksOfReaper_5 : w_fe am_c130 5 6 (.isub) := ⟨rfl, rfl⟩
theorem fMoon_asksOfReaper_6 : w_fe am_c130 6 7 (.aload 0) := ⟨rfl, rfl⟩
theorem fMoon_asksOfReaper_7 : w_fe am_c130 7 8 (.getfield 2) := ⟨rfl, rfl⟩
theorem fMoon_asksOfReaper_8 : w_fe am_c130 8 9 (.getfield 205) := ⟨rfl, rfl⟩
theorem fMoon_asksOfReaper_9 : w_ic am_c130 9 10 .ge 12 := ⟨rfl, rfl⟩
theorem fMoon_asksOfReaper_10 : w_fe am_c130 10 11 (.bipush 1) := ⟨rfl, rfl⟩
theorem fMoon_asksOfReaper_11 : w_gt am_c130 11 13 := rfl
theorem fMoon_asksOfReaper_12 : w_fe am_c130 12 13 (.bipush 0) := ⟨rfl, rfl⟩
theorem fMoon_asksOfReaper_13 : w_fe am_c130 13 14 (.ireturn) := ⟨rfl, rfl⟩
set_option maxRecDepth 20000 in
theorem bMoon_asksOfReaper_0 {xs : List Int} {d : Nat} {Q : Option w_V → w_M → Prop} {x1 : Int} {σ : w_M}
    (h : (x1 < 10 → Q (some (.inl 0)) σ) ∧ (10 ≤ x1 → (w_in (x1 - 10) ∧ (((σ 14 5) ≤ (x1 - 10) → Q (some (.inl 0)) σ) ∧ ((x1 - 10) < (σ 14 5) → Q (some (.inl 1)) σ))))) : w_Call (xs, d) 130 [.inr (.inr (0, 0)), .inl x1] σ Q :=
  (w_mk (mid := 130) (by decide) rfl rfl rfl rfl rfl (Nat.le_of_ble_eq_true rfl) ⟨rfl, Or.inl (by decide)⟩ (wi_iload1 fMoon_asksOfReaper_0 (wi_bipush fMoon_asksOfReaper_1 (wi_ic_lt fMoon_asksOfReaper_2 (fun c2 => (wi_bipush fMoon_asksOfReaper_12 (wi_ret2 fMoon_asksOfReaper_13 (by decide) (h.1 c2)))) (fun c2 => (wi_iload1 fMoon_asksOfReaper_3 (wi_bipush fMoon_asksOfReaper_4 (wi_isub fMoon_asksOfReaper_5 (h.2 c2).1 (wi_aload0 fMoon_asksOfReaper_6 (wi_getf2 fMoon_asksOfReaper_7 (wi_getf205 fMoon_asksOfReaper_8 (wi_ic_ge fMoon_asksOfReaper_9 (fun c1 => (wi_bipush fMoon_asksOfReaper_12 (wi_ret2 fMoon_asksOfReaper_13 (by decide) ((h.2 c2).2.1 c1)))) (fun c1 => (wi_bipush fMoon_asksOfReaper_10 (wi_goto fMoon_asksOfReaper_11 (wi_ret2 fMoon_asksOfReaper_13 (by decide) ((h.2 c2).2.2 c1)))))))))))))))))
theorem k_Moon_asksOfReaper {xs : List Int} {d : Nat} {Q : Option w_V → w_M → Prop} {x1 : Int} {σ : w_M} (hQ : Q (some (.inl (w_bi (10 ≤ x1 ∧ x1 - 10 < σ 14 5)))) σ) : w_Call (xs, d) 130 [.inr (.inr (0, 0)), .inl x1] σ Q := by
  refine w_Call_as (fun has => ?_)
  have hx : w_in x1 := has (.inl x1) (by simp)
  refine bMoon_asksOfReaper_0 ⟨fun c => ?_, fun c => ⟨⟨by omega, by have := hx.2; omega⟩, fun c2 => ?_, fun c2 => ?_⟩⟩
  · rw [w_bi_f (by omega)] at hQ; exact hQ
  · rw [w_bi_f (by omega)] at hQ; exact hQ
  · rw [w_bi_t ⟨c, c2⟩] at hQ; exact hQ
