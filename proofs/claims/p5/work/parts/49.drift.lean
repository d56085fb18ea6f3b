/-! A night by a seed -/
noncomputable def dr_x (s : Int) : Nat → Int
  | 0 => s
  | k + 1 => w_wr (w_wr (dr_x s k * 1103515245) + 12345)
noncomputable def dr_b (s v : Int) (k : Nat) : Int := if (w_and (w_shr (dr_x s (k + 1)) 16) 32767).tmod 10 < v then 1 else 0
noncomputable def n_dr (A : w_M) (s v : Int) : Nat → w_M
  | 0 => A
  | k + 1 => n_hour (n_dr A s v k) (dr_b s v k)
theorem dr_b01 (s v : Int) (k : Nat) : dr_b s v k = 0 ∨ dr_b s v k = 1 := by unfold dr_b; split <;> simp
theorem n_dr_all {A : w_M} (h : n_WF A) (s v : Int) : ∀ k : Nat, A 0 1 + k ≤ A 0 0 → n_WF (n_dr A s v k) ∧ n_same A (n_dr A s v k) ∧ (n_dr A s v k) 0 1 = A 0 1 + k := by
  intro k
  induction k with
  | zero => intro _; exact ⟨h, n_same.rfl', by simp [n_dr]⟩
  | succ k ih =>
    intro hk
    obtain ⟨h1, h2, h3⟩ := ih (by omega)
    have h0 : (n_dr A s v k) 0 0 = A 0 0 := h2.1 0 (by decide) (by decide)
    obtain ⟨g1, g2, g3, -⟩ := n_hour_all h1 (by omega) (dr_b01 s v k)
    refine ⟨g1, h2.tr g2, ?_⟩
    simp only [n_dr]
    rw [g3, h3]
    omega
theorem w_bv_ush (x : BitVec 32) : (x >>> 16) &&& 32767#32 = (x.sshiftRight 16) &&& 32767#32 := by
  apply BitVec.eq_of_getLsbD_eq
  intro i hi
  rw [BitVec.getLsbD_and, BitVec.getLsbD_and]
  by_cases h : i < 15
  · rw [BitVec.getLsbD_ushiftRight, BitVec.getLsbD_sshiftRight, if_pos (by omega)]
    simp [Nat.not_le.mpr hi]
  · have : (32767#32).getLsbD i = false := by
      rw [BitVec.getLsbD_ofNat, Nat.testBit_lt_two_pow (Nat.lt_of_lt_of_le (show 32767 < 2 ^ 15 by decide) (Nat.pow_le_pow_right (by decide) (by omega)))]
      simp
    rw [this, Bool.and_false, Bool.and_false]
theorem w_ush (y : Int) : w_and (w_ushr y 16) 32767 = w_and (w_shr y 16) 32767 := by
  unfold w_and w_ushr w_shr w_b2
  rw [Int32.ofInt_toInt, Int32.ofInt_toInt]
  congr 1
  apply Int32.toBitVec_inj.mp
  rw [Int32.toBitVec_and, Int32.toBitVec_and]
  exact w_bv_ush (Int32.ofInt y).toBitVec
noncomputable def F_drift (S : w_S) (s v w : Int) : Int := if (0 ≤ v ∧ v ≤ 10) ∧ (0 ≤ w ∧ w ≤ 1) then (if w = 0 then n_sd (n_dr (S 0) s v (n_left (S 0))) else n_oils (n_dr (S 0) s v (n_left (S 0)))) else -1
noncomputable def p_Plan_afterDrift (b : Nat) (_ _ : Int) (σ : w_M) : Prop := n_ok σ b ∧ (32 + 9 ≤ b ∨ b + 9 ≤ 32)
noncomputable def q_Plan_afterDrift (b : Nat) (s v : Int) (σ σ' : w_M) : Prop := w_ab σ' 32 = n_dr (w_ab σ b) s v (n_left (w_ab σ b)) ∧ w_fr σ σ' 32 41
noncomputable def w_c87 : List Instr := [.aload 0, .getfield 600, .aload 1, .invokestatic 34, .aload 1, .invokestatic 39, .istore 4, .iload 2, .istore 5, .bipush 0, .istore 6, .iload 6, .iload 4, .if_icmp .ge 38, .iload 5, .bipush 1103515245, .fmul, .bipush 12345, .fadd, .istore 5, .aload 0, .getfield 600, .iload 5, .bipush 16, .iushr, .bipush 32767, .iand, .bipush 10, .irem, .iload 3, .if_icmp .ge 33, .bipush 1, .goto 34, .bipush 0, .invokestatic 41, .pop, .iinc 6 1, .goto 11, .aload 0, .getfield 600, .ireturn]
theorem fPlan_afterDrift_0 : w_fe w_c87 0 1 (.aload 0) := ⟨rfl, rfl⟩
theorem fPlan_afterDrift_1 : w_fe w_c87 1 2 (.getfield 600) := ⟨rfl, rfl⟩
theorem fPlan_afterDrift_2 : w_fe w_c87 2 3 (.aload 1) := ⟨rfl, rfl⟩
theorem fPlan_afterDrift_3 : w_fe w_c87 3 4 (.invokestatic 34) := ⟨rfl, rfl⟩
theorem fPlan_afterDrift_4 : w_fe w_c87 4 5 (.aload 1) := ⟨rfl, rfl⟩
theorem fPlan_afterDrift_5 : w_fe w_c87 5 6 (.invokestatic 39) := ⟨rfl, rfl⟩
theorem fPlan_afterDrift_6 : w_fe w_c87 6 7 (.istore 4) := ⟨rfl, rfl⟩
theorem fPlan_afterDrift_7 : w_fe w_c87 7 8 (.iload 2) := ⟨rfl, rfl⟩
theorem fPlan_afterDrift_8 : w_fe w_c87 8 9 (.istore 5) := ⟨rfl, rfl⟩
theorem fPlan_afterDrift_9 : w_fe w_c87 9 10 (.bipush 0) := ⟨rfl, rfl⟩
theorem fPlan_afterDrift_10 : w_fe w_c87 10 11 (.istore 6) := ⟨rfl, rfl⟩
theorem fPlan_afterDrift_11 : w_fe w_c87 11 12 (.iload 6) := ⟨rfl, rfl⟩
theorem fPlan_afterDrift_12 : w_fe w_c87 12 13 (.iload 4) := ⟨rfl, rfl⟩
theorem fPlan_afterDrift_13 : w_ic w_c87 13 14 .ge 38 := ⟨rfl, rfl⟩
theorem fPlan_afterDrift_14 : w_fe w_c87 14 15 (.iload 5) := ⟨rfl, rfl⟩
theorem fPlan_afterDrift_15 : w_fe w_c87 15 16 (.bipush 1103515245) := ⟨rfl, rfl⟩
theorem fPlan_afterDrift_16 : w_fe w_c87 16 17 (.fmul) := ⟨rfl, rfl⟩
theorem fPlan_afterDrift_17 : w_fe w_c87 17 18 (.bipush 12345) := ⟨rfl, rfl⟩
theorem fPlan_afterDrift_18 : w_fe w_c87 18 19 (.fadd) := ⟨rfl, rfl⟩
theorem fPlan_afterDrift_19 : w_fe w_c87 19 20 (.istore 5) := ⟨rfl, rfl⟩
theorem fPlan_afterDrift_20 : w_fe w_c87 20 21 (.aload 0) := ⟨rfl, rfl⟩
theorem fPlan_afterDrift_21 : w_fe w_c87 21 22 (.getfield 600) := ⟨rfl, rfl⟩
theorem fPlan_afterDrift_22 : w_fe w_c87 22 23 (.iload 5) := ⟨rfl, rfl⟩
theorem fPlan_afterDrift_23 : w_fe w_c87 23 24 (.bipush 16) := ⟨rfl, rfl⟩
theorem fPlan_afterDrift_24 : w_fe w_c87 24 25 (.iushr) := ⟨rfl, rfl⟩
theorem fPlan_afterDrift_25 : w_fe w_c87 25 26 (.bipush 32767) := ⟨rfl, rfl⟩
theorem fPlan_afterDrift_26 : w_fe w_c87 26 27 (.iand) := ⟨rfl, rfl⟩
theorem fPlan_afterDrift_27 : w_fe w_c87 27 28 (.bipush 10) := ⟨rfl, rfl⟩
theorem fPlan_afterDrift_28 : w_fe w_c87 28 29 (.irem) := ⟨rfl, rfl⟩
theorem fPlan_afterDrift_29 : w_fe w_c87 29 30 (.iload 3) := ⟨rfl, rfl⟩
theorem fPlan_afterDrift_30 : w_ic w_c87 30 31 .ge 33 := ⟨rfl, rfl⟩
theorem fPlan_afterDrift_31 : w_fe w_c87 31 32 (.bipush 1) := ⟨rfl, rfl⟩
theorem fPlan_afterDrift_32 : w_gt w_c87 32 34 := rfl
theorem fPlan_afterDrift_33 : w_fe w_c87 33 34 (.bipush 0) := ⟨rfl, rfl⟩
theorem fPlan_afterDrift_34 : w_fe w_c87 34 35 (.invokestatic 41) := ⟨rfl, rfl⟩
theorem fPlan_afterDrift_35 : w_fe w_c87 35 36 (.pop) := ⟨rfl, rfl⟩
theorem fPlan_afterDrift_36 : w_fe w_c87 36 37 (.iinc 6 1) := ⟨rfl, rfl⟩
theorem fPlan_afterDrift_37 : w_gt w_c87 37 11 := rfl
theorem fPlan_afterDrift_38 : w_fe w_c87 38 39 (.aload 0) := ⟨rfl, rfl⟩
theorem fPlan_afterDrift_39 : w_fe w_c87 39 40 (.getfield 600) := ⟨rfl, rfl⟩
theorem fPlan_afterDrift_40 : w_fe w_c87 40 41 (.ireturn) := ⟨rfl, rfl⟩
noncomputable def LPlan_afterDrift_11 (xs : List Int) (d : Nat) (Q : Option w_V → w_M → Prop) (v3 : Int) (v4 : Int) (v5 : Int) (v6 : Int) (σ : w_M) : Prop := ∀ l1, w_nl l1 → ∀ l2, w_nl l2 → w_Ex (xs, d) 4 w_c87 Q 11 [some (.inr (.inr (6, 31))), l1, l2, some (.inl v3), some (.inl v4), some (.inl v5), some (.inl v6)] [] σ
set_option maxRecDepth 20000 in
theorem bPlan_afterDrift_0 {xs : List Int} {d : Nat} {Q : Option w_V → w_M → Prop} {b : Nat} {x2 : Int} {x3 : Int} {σ : w_M}
    (h : p_Field_copyFrom 32 b σ ∧ (∀ (τ1 : w_M), q_Field_copyFrom 32 b σ τ1 → (p_Field_hoursLeft b τ1 ∧ (∀ (y2 : Int), y2 = (τ1 b 0 - τ1 b 1) → LPlan_afterDrift_11 xs (d + 4) Q x3 y2 x2 0 τ1)))) : w_Call (xs, (d + 4)) 87 [.inr (.inr (6, 31)), .inr (.inr (2, b)), .inl x2, .inl x3] σ Q :=
  (w_mk (mid := 87) (by decide) rfl rfl rfl rfl rfl (Nat.le_of_ble_eq_true rfl) ⟨rfl, Or.inl (by decide)⟩ (wi_aload0 fPlan_afterDrift_0 (wi_getf600 fPlan_afterDrift_1 (wi_aload1 fPlan_afterDrift_2 (wi_call2 fPlan_afterDrift_3 (Nat.le_of_ble_eq_true rfl) (k_Field_copyFrom h.1 (fun τ1 eτ1 => (wi_aload1 fPlan_afterDrift_4 (wi_call1 fPlan_afterDrift_5 (Nat.le_of_ble_eq_true rfl) (k_Field_hoursLeft (h.2 τ1 eτ1).1 (wi_istore4 fPlan_afterDrift_6 trivial (wi_iload2 fPlan_afterDrift_7 (wi_istore5 fPlan_afterDrift_8 trivial (wi_bipush fPlan_afterDrift_9 (wi_istore6 fPlan_afterDrift_10 trivial (((h.2 τ1 eτ1).2 _ rfl) _ (by exact trivial) _ (by exact trivial)))))))))))))))))
set_option maxRecDepth 20000 in
theorem bPlan_afterDrift_11 {xs : List Int} {d : Nat} {Q : Option w_V → w_M → Prop} {v3 : Int} {v4 : Int} {v5 : Int} {v6 : Int} {σ : w_M}
    (h : (v4 ≤ v6 → Q (some (.inr (.inr (2, 32)))) σ) ∧ (v6 < v4 → ∀ (y1 : Int), y1 = (w_wr ((w_wr (v5 * 1103515245)) + 12345)) → ((v3 ≤ ((w_and (w_ushr y1 16) 32767).tmod 10) → (p_Field_passHour 32 0 σ ∧ (∀ (y2 : Int) (τ3 : w_M), q_Field_passHour 32 0 σ y2 τ3 → (w_in (v6 + 1) ∧ LPlan_afterDrift_11 xs (d + 4) Q v3 v4 y1 (v6 + 1) τ3)))) ∧ (((w_and (w_ushr y1 16) 32767).tmod 10) < v3 → (p_Field_passHour 32 1 σ ∧ (∀ (y4 : Int) (τ5 : w_M), q_Field_passHour 32 1 σ y4 τ5 → (w_in (v6 + 1) ∧ LPlan_afterDrift_11 xs (d + 4) Q v3 v4 y1 (v6 + 1) τ5))))))) : LPlan_afterDrift_11 xs (d + 4) Q v3 v4 v5 v6 σ :=
  fun l1 nl1 => fun l2 nl2 => (wi_iload6 fPlan_afterDrift_11 (wi_iload4 fPlan_afterDrift_12 (wi_ic_ge fPlan_afterDrift_13 (fun c7 => (wi_aload0 fPlan_afterDrift_38 (wi_getf600 fPlan_afterDrift_39 (wi_ret4 fPlan_afterDrift_40 (h.1 c7))))) (fun c7 => (wi_iload5 fPlan_afterDrift_14 (wi_bipush fPlan_afterDrift_15 (wi_fmul fPlan_afterDrift_16 (wi_bipush fPlan_afterDrift_17 (wi_fadd fPlan_afterDrift_18 (wi_istore5 fPlan_afterDrift_19 trivial (wi_aload0 fPlan_afterDrift_20 (wi_getf600 fPlan_afterDrift_21 (wi_iload5 fPlan_afterDrift_22 (wi_bipush fPlan_afterDrift_23 (wi_iushr fPlan_afterDrift_24 (wi_bipush fPlan_afterDrift_25 (wi_iand fPlan_afterDrift_26 (wi_bipush fPlan_afterDrift_27 (wi_irem fPlan_afterDrift_28 (by decide) (wi_iload3 fPlan_afterDrift_29 (wi_ic_ge fPlan_afterDrift_30 (fun c6 => (wi_bipush fPlan_afterDrift_33 (wi_call2 fPlan_afterDrift_34 (Nat.le_of_ble_eq_true rfl) (k_Field_passHour (((h.2 c7) _ rfl).1 c6).1 (fun y2 τ3 eτ3 => (wi_pop_i fPlan_afterDrift_35 (wi_iinc6 fPlan_afterDrift_36 trivial ((((h.2 c7) _ rfl).1 c6).2 y2 τ3 eτ3).1 (wi_goto fPlan_afterDrift_37 (((((h.2 c7) _ rfl).1 c6).2 y2 τ3 eτ3).2 _ nl1 _ nl2))))))))) (fun c6 => (wi_bipush fPlan_afterDrift_31 (wi_goto fPlan_afterDrift_32 (wi_call2 fPlan_afterDrift_34 (Nat.le_of_ble_eq_true rfl) (k_Field_passHour (((h.2 c7) _ rfl).2 c6).1 (fun y4 τ5 eτ5 => (wi_pop_i fPlan_afterDrift_35 (wi_iinc6 fPlan_afterDrift_36 trivial ((((h.2 c7) _ rfl).2 c6).2 y4 τ5 eτ5).1 (wi_goto fPlan_afterDrift_37 (((((h.2 c7) _ rfl).2 c6).2 y4 τ5 eτ5).2 _ nl1 _ nl2)))))))))))))))))))))))))))))))
theorem k_Plan_afterDrift {xs : List Int} {d : Nat} {Q : Option w_V → w_M → Prop} {b : Nat} {x2 : Int} {x3 : Int} {σ : w_M} (hp : p_Plan_afterDrift b x2 x3 σ) (hQ : ∀ σ' : w_M, q_Plan_afterDrift b x2 x3 σ σ' → Q (some (.inr (.inr (2, 32)))) σ') : w_Call (xs, d + 4) 87 [.inr (.inr (6, 31)), .inr (.inr (2, b)), .inl x2, .inl x3] σ Q := by
  obtain ⟨hok, hb⟩ := hp
  have hrs := n_ok.hrs hok
  have hr := n_ok.hr hok
  refine bPlan_afterDrift_0 ⟨⟨hok, hb⟩, fun τ1 hq => ?_⟩
  obtain ⟨q1, -, q3⟩ := hq
  have zb : τ1 b = σ b := q3 b (by omega)
  refine ⟨by unfold p_Field_hoursLeft; rw [zb]; exact ⟨by omega, by omega⟩, fun y2 e2 => ?_⟩
  rw [zb] at e2
  refine (w_loop (n := (σ b 0 - σ b 1).toNat) (P := fun k => ∀ τ : w_M, w_ab τ 32 = n_dr (w_ab σ b) x2 x3 k → w_fr σ τ 32 41 → LPlan_afterDrift_11 xs (d + 4) Q x3 y2 (dr_x x2 k) (k : Int) τ) ?_ ?_) τ1 q1 q3
  · intro τ A1 F1
    exact bPlan_afterDrift_11 ⟨fun _ => hQ _ ⟨A1, F1⟩, fun h => by omega⟩
  · intro k hk ih τ A1 F1
    obtain ⟨g1, g2, g3⟩ := n_dr_all hok x2 x3 k (by show σ b 1 + _ ≤ σ b 0; omega)
    have ok32 : n_ok τ 32 := n_ok.of A1 g1
    rw [← A1] at g2 g3
    have t1 : τ 32 1 = σ b 1 + k := g3
    have t0 : τ 32 0 = σ b 0 := g2.1 0 (by decide) (by decide)
    have eb : ∀ y1, y1 = w_wr (w_wr (dr_x x2 k * 1103515245) + 12345) → (w_and (w_ushr y1 16) 32767).tmod 10 = (w_and (w_shr (dr_x x2 (k + 1)) 16) 32767).tmod 10 := fun y1 e => by rw [e, w_ush]; rfl
    refine bPlan_afterDrift_11 ⟨fun h => by omega, fun h y1 e1 => ⟨fun c => ⟨⟨ok32, by omega, Or.inl rfl⟩, fun y τ3 hq => ⟨⟨by omega, by omega⟩, ?_⟩⟩, fun c => ⟨⟨ok32, by omega, Or.inr rfl⟩, fun y τ3 hq => ⟨⟨by omega, by omega⟩, ?_⟩⟩⟩⟩
    · rw [eb y1 e1] at c
      rw [← w_cs1, e1]
      refine ih τ3 ?_ (F1.tr hq.2.2.1)
      rw [hq.1, A1]
      simp only [n_dr]
      rw [show dr_b x2 x3 k = 0 from if_neg (by omega)]
    · rw [eb y1 e1] at c
      rw [← w_cs1, e1]
      refine ih τ3 ?_ (F1.tr hq.2.2.1)
      rw [hq.1, A1]
      simp only [n_dr]
      rw [show dr_b x2 x3 k = 1 from if_pos c]
noncomputable def p_Moon_drift (_x1 : Int) (_x2 : Int) (_x3 : Int) (σ : w_M) : Prop := CI σ
noncomputable def q_Moon_drift (x1 : Int) (x2 : Int) (x3 : Int) (σ : w_M) (x : Int) (σ' : w_M) : Prop := c_q (F_drift (cS σ) x1 x2 x3) (cS σ) σ x σ'
theorem fMoon_drift_0 : w_fe am_c145 0 1 (.iload 2) := ⟨rfl, rfl⟩
theorem fMoon_drift_1 : w_fe am_c145 1 2 (.bipush 0) := ⟨rfl, rfl⟩
theorem fMoon_drift_2 : w_fe am_c145 2 3 (.bipush 10) := ⟨rfl, rfl⟩
theorem fMoon_drift_3 : w_fe am_c145 3 4 (.invokestatic 107) := ⟨rfl, rfl⟩
theorem fMoon_drift_4 : w_if am_c145 4 5 .eq 10 := ⟨rfl, rfl⟩
theorem fMoon_drift_5 : w_fe am_c145 5 6 (.iload 3) := ⟨rfl, rfl⟩
theorem fMoon_drift_6 : w_fe am_c145 6 7 (.bipush 0) := ⟨rfl, rfl⟩
theorem fMoon_drift_7 : w_fe am_c145 7 8 (.bipush 1) := ⟨rfl, rfl⟩
theorem fMoon_drift_8 : w_fe am_c145 8 9 (.invokestatic 107) := ⟨rfl, rfl⟩
theorem fMoon_drift_9 : w_if am_c145 9 10 .ne 12 := ⟨rfl, rfl⟩
theorem fMoon_drift_10 : w_fe am_c145 10 11 (.bipush (-1)) := ⟨rfl, rfl⟩
theorem fMoon_drift_11 : w_fe am_c145 11 12 (.ireturn) := ⟨rfl, rfl⟩
theorem fMoon_drift_12 : w_fe am_c145 12 13 (.aload 0) := ⟨rfl, rfl⟩
theorem fMoon_drift_13 : w_fe am_c145 13 14 (.getfield 4) := ⟨rfl, rfl⟩
theorem fMoon_drift_14 : w_fe am_c145 14 15 (.aload 0) := ⟨rfl, rfl⟩
theorem fMoon_drift_15 : w_fe am_c145 15 16 (.getfield 2) := ⟨rfl, rfl⟩
theorem fMoon_drift_16 : w_fe am_c145 16 17 (.iload 1) := ⟨rfl, rfl⟩
theorem fMoon_drift_17 : w_fe am_c145 17 18 (.iload 2) := ⟨rfl, rfl⟩
theorem fMoon_drift_18 : w_fe am_c145 18 19 (.invokestatic 87) := ⟨rfl, rfl⟩
theorem fMoon_drift_19 : w_fe am_c145 19 20 (.astore 4) := ⟨rfl, rfl⟩
theorem fMoon_drift_20 : w_fe am_c145 20 21 (.iload 3) := ⟨rfl, rfl⟩
theorem fMoon_drift_21 : w_if am_c145 21 22 .ne 25 := ⟨rfl, rfl⟩
theorem fMoon_drift_22 : w_fe am_c145 22 23 (.aload 4) := ⟨rfl, rfl⟩
theorem fMoon_drift_23 : w_fe am_c145 23 24 (.invokestatic 35) := ⟨rfl, rfl⟩
theorem fMoon_drift_24 : w_gt am_c145 24 27 := rfl
theorem fMoon_drift_25 : w_fe am_c145 25 26 (.aload 4) := ⟨rfl, rfl⟩
theorem fMoon_drift_26 : w_fe am_c145 26 27 (.invokestatic 50) := ⟨rfl, rfl⟩
theorem fMoon_drift_27 : w_fe am_c145 27 28 (.ireturn) := ⟨rfl, rfl⟩
set_option maxRecDepth 20000 in
theorem bMoon_drift_0 {xs : List Int} {d : Nat} {Q : Option w_V → w_M → Prop} {x1 : Int} {x2 : Int} {x3 : Int} {σ : w_M}
    (h : (¬ (0 ≤ x2 ∧ x2 ≤ 10) → Q (some (.inl (-1))) σ) ∧ ((0 ≤ x2 ∧ x2 ≤ 10) → (((0 ≤ x3 ∧ x3 ≤ 1) → (p_Plan_afterDrift 14 x1 x2 σ ∧ (∀ (τ1 : w_M), q_Plan_afterDrift 14 x1 x2 σ τ1 → ((¬ x3 = 0 → (p_Field_allOil 32 τ1 ∧ (∀ (y2 : Int), y2 = v_Field_allOil 32 τ1 → Q (some (.inl y2)) τ1))) ∧ (x3 = 0 → (p_Field_standing 32 τ1 ∧ (∀ (y3 : Int), y3 = v_Field_standing 32 τ1 → Q (some (.inl y3)) τ1))))))) ∧ (¬ (0 ≤ x3 ∧ x3 ≤ 1) → Q (some (.inl (-1))) σ)))) : w_Call (xs, (d + 5)) 145 [.inr (.inr (0, 0)), .inl x1, .inl x2, .inl x3] σ Q :=
  (w_mk (mid := 145) (by decide) rfl rfl rfl rfl rfl (Nat.le_of_ble_eq_true rfl) ⟨rfl, Or.inl (by decide)⟩ (wi_iload2 fMoon_drift_0 (wi_bipush fMoon_drift_1 (wi_bipush fMoon_drift_2 (wi_call3 fMoon_drift_3 (Nat.le_of_ble_eq_true rfl) (k_Moon_isWithin (wi_ifb_eq fMoon_drift_4 (fun c6 => (wi_bipush fMoon_drift_10 (wi_ret1 fMoon_drift_11 (h.1 c6)))) (fun c6 => (wi_iload3 fMoon_drift_5 (wi_bipush fMoon_drift_6 (wi_bipush fMoon_drift_7 (wi_call3 fMoon_drift_8 (Nat.le_of_ble_eq_true rfl) (k_Moon_isWithin (wi_ifb_ne fMoon_drift_9 (fun c5 => (wi_aload0 fMoon_drift_12 (wi_getf4 fMoon_drift_13 (wi_aload0 fMoon_drift_14 (wi_getf2 fMoon_drift_15 (wi_iload1 fMoon_drift_16 (wi_iload2 fMoon_drift_17 (wi_call4 fMoon_drift_18 (Nat.le_of_ble_eq_true rfl) (k_Plan_afterDrift ((h.2 c6).1 c5).1 (fun τ1 eτ1 => (wi_astore4 fMoon_drift_19 trivial (wi_iload3 fMoon_drift_20 (wi_if_ne fMoon_drift_21 (fun c4 => (wi_aload4 fMoon_drift_25 (wi_call1 fMoon_drift_26 (Nat.le_of_ble_eq_true rfl) (k_Field_allOil ((((h.2 c6).1 c5).2 τ1 eτ1).1 c4).1 (wi_ret1 fMoon_drift_27 (((((h.2 c6).1 c5).2 τ1 eτ1).1 c4).2 _ rfl)))))) (fun c4 => (wi_aload4 fMoon_drift_22 (wi_call1 fMoon_drift_23 (Nat.le_of_ble_eq_true rfl) (k_Field_standing ((((h.2 c6).1 c5).2 τ1 eτ1).2 c4).1 (wi_goto fMoon_drift_24 (wi_ret1 fMoon_drift_27 (((((h.2 c6).1 c5).2 τ1 eτ1).2 c4).2 _ rfl)))))))))))))))))))) (fun c5 => (wi_bipush fMoon_drift_10 (wi_ret1 fMoon_drift_11 ((h.2 c6).2 c5))))))))))))))))))
theorem k_Moon_drift {xs : List Int} {d : Nat} {Q : Option w_V → w_M → Prop} {x1 : Int} {x2 : Int} {x3 : Int} {σ : w_M} (hp : p_Moon_drift x1 x2 x3 σ) (hQ : ∀ (x : Int) (σ' : w_M), q_Moon_drift x1 x2 x3 σ x σ' → Q (some (.inl x)) σ') : w_Call (xs, d + 5) 145 [.inr (.inr (0, 0)), .inl x1, .inl x2, .inl x3] σ Q := by
  have hC : CI σ := hp
  have hok := hC.ok
  have hrs := n_ok.hrs hok
  have hr := n_ok.hr hok
  unfold q_Moon_drift F_drift at hQ
  have G := n_dr_all hok x1 x2 (n_left (w_ab σ 14)) (by show σ 14 1 + (((σ 14 0 - σ 14 1).toNat : Nat) : Int) ≤ σ 14 0; omega)
  refine bMoon_drift_0 ⟨fun c => ?_, fun c => ⟨fun c2 => ⟨⟨hok, by decide⟩, fun τ hq => ⟨fun c3 => ⟨n_ok.of hq.1 G.1, fun y ey => ?_⟩, fun c3 => ⟨n_ok.of hq.1 G.1, fun y ey => ?_⟩⟩⟩, fun c2 => ?_⟩⟩
  · rw [if_neg (fun q => c q.1)] at hQ
    exact hQ _ _ (c_qr hC rfl)
  · rw [if_pos ⟨c, c2⟩, if_neg c3] at hQ
    refine hQ _ _ (c_qs hC (hq.2.wide (by decide) (by decide)) ?_)
    rw [ey]
    unfold v_Field_allOil
    rw [hq.1]
    rfl
  · rw [if_pos ⟨c, c2⟩, if_pos c3] at hQ
    refine hQ _ _ (c_qs hC (hq.2.wide (by decide) (by decide)) ?_)
    rw [ey]
    unfold v_Field_standing
    rw [hq.1]
    rfl
  · rw [if_neg (fun q => c2 q.2)] at hQ
    exact hQ _ _ (c_qr hC rfl)
noncomputable def p_Model_drift (_x1 : Int) (_x2 : Int) (_x3 : Int) (σ : w_M) : Prop := MI σ
noncomputable def q_Model_drift (x1 : Int) (x2 : Int) (x3 : Int) (σ : w_M) (x : Int) (σ' : w_M) : Prop := m_q (F_drift (mS σ) x1 x2 x3) (mS σ) σ x σ'
noncomputable def w_c229 : List Instr := [.iload 2, .i2l, .sipush 0, .sipush 10, .invokestatic 157, .ifCond .eq 12, .iload 3, .i2l, .sipush 0, .sipush 1, .invokestatic 157, .ifCond .ne 14, .bipush (-1), .ireturn, .aload 0, .invokestatic 174, .iload 1, .istore 4, .aload 0, .getfield 901, .bipush 42, .iaload, .aload 0, .getfield 903, .if_icmp .ge 46, .iload 4, .bipush 1103515245, .fmul, .bipush 12345, .fadd, .istore 4, .aload 0, .iload 4, .bipush 16, .ishr, .bipush 32767, .iand, .bipush 10, .irem, .iload 2, .if_icmp .ge 43, .bipush 1, .goto 44, .bipush 0, .invokestatic 196, .goto 18, .bipush 0, .istore 5, .bipush 0, .istore 6, .iload 6, .aload 0, .getfield 905, .if_icmp .ge 63, .iload 5, .aload 0, .iload 6, .bipush 1, .invokestatic 178, .iadd, .istore 5, .iinc 6 1, .goto 50, .iload 3, .ifCond .ne 68, .aload 0, .invokestatic 175, .goto 69, .iload 5, .ireturn]
theorem fModel_drift_0 : w_fe w_c229 0 1 (.iload 2) := ⟨rfl, rfl⟩
theorem fModel_drift_1 : w_fe w_c229 1 2 (.i2l) := ⟨rfl, rfl⟩
theorem fModel_drift_2 : w_fe w_c229 2 3 (.sipush 0) := ⟨rfl, rfl⟩
theorem fModel_drift_3 : w_fe w_c229 3 4 (.sipush 10) := ⟨rfl, rfl⟩
theorem fModel_drift_4 : w_fe w_c229 4 5 (.invokestatic 157) := ⟨rfl, rfl⟩
theorem fModel_drift_5 : w_if w_c229 5 6 .eq 12 := ⟨rfl, rfl⟩
theorem fModel_drift_6 : w_fe w_c229 6 7 (.iload 3) := ⟨rfl, rfl⟩
theorem fModel_drift_7 : w_fe w_c229 7 8 (.i2l) := ⟨rfl, rfl⟩
theorem fModel_drift_8 : w_fe w_c229 8 9 (.sipush 0) := ⟨rfl, rfl⟩
theorem fModel_drift_9 : w_fe w_c229 9 10 (.sipush 1) := ⟨rfl, rfl⟩
theorem fModel_drift_10 : w_fe w_c229 10 11 (.invokestatic 157) := ⟨rfl, rfl⟩
theorem fModel_drift_11 : w_if w_c229 11 12 .ne 14 := ⟨rfl, rfl⟩
theorem fModel_drift_12 : w_fe w_c229 12 13 (.bipush (-1)) := ⟨rfl, rfl⟩
theorem fModel_drift_13 : w_fe w_c229 13 14 (.ireturn) := ⟨rfl, rfl⟩
theorem fModel_drift_14 : w_fe w_c229 14 15 (.aload 0) := ⟨rfl, rfl⟩
theorem fModel_drift_15 : w_fe w_c229 15 16 (.invokestatic 174) := ⟨rfl, rfl⟩
theorem fModel_drift_16 : w_fe w_c229 16 17 (.iload 1) := ⟨rfl, rfl⟩
theorem fModel_drift_17 : w_fe w_c229 17 18 (.istore 4) := ⟨rfl, rfl⟩
theorem fModel_drift_18 : w_fe w_c229 18 19 (.aload 0) := ⟨rfl, rfl⟩
theorem fModel_drift_19 : w_fe w_c229 19 20 (.getfield 901) := ⟨rfl, rfl⟩
theorem fModel_drift_20 : w_fe w_c229 20 21 (.bipush 42) := ⟨rfl, rfl⟩
theorem fModel_drift_21 : w_fe w_c229 21 22 (.iaload) := ⟨rfl, rfl⟩
theorem fModel_drift_22 : w_fe w_c229 22 23 (.aload 0) := ⟨rfl, rfl⟩
theorem fModel_drift_23 : w_fe w_c229 23 24 (.getfield 903) := ⟨rfl, rfl⟩
theorem fModel_drift_24 : w_ic w_c229 24 25 .ge 46 := ⟨rfl, rfl⟩
theorem fModel_drift_25 : w_fe w_c229 25 26 (.iload 4) := ⟨rfl, rfl⟩
theorem fModel_drift_26 : w_fe w_c229 26 27 (.bipush 1103515245) := ⟨rfl, rfl⟩
theorem fModel_drift_27 : w_fe w_c229 27 28 (.fmul) := ⟨rfl, rfl⟩
theorem fModel_drift_28 : w_fe w_c229 28 29 (.bipush 12345) := ⟨rfl, rfl⟩
theorem fModel_drift_29 : w_fe w_c229 29 30 (.fadd) := ⟨rfl, rfl⟩
theorem fModel_drift_30 : w_fe w_c229 30 31 (.istore 4) := ⟨rfl, rfl⟩
theorem fModel_drift_31 : w_fe w_c229 31 32 (.aload 0) := ⟨rfl, rfl⟩
theorem fModel_drift_32 : w_fe w_c229 32 33 (.iload 4) := ⟨rfl, rfl⟩
theorem fModel_drift_33 : w_fe w_c229 33 34 (.bipush 16) := ⟨rfl, rfl⟩
theorem fModel_drift_34 : w_fe w_c229 34 35 (.ishr) := ⟨rfl, rfl⟩
theorem fModel_drift_35 : w_fe w_c229 35 36 (.bipush 32767) := ⟨rfl, rfl⟩
theorem fModel_drift_36 : w_fe w_c229 36 37 (.iand) := ⟨rfl, rfl⟩
theorem fModel_drift_37 : w_fe w_c229 37 38 (.bipush 10) := ⟨rfl, rfl⟩
theorem fModel_drift_38 : w_fe w_c229 38 39 (.irem) := ⟨rfl, rfl⟩
theorem fModel_drift_39 : w_fe w_c229 39 40 (.iload 2) := ⟨rfl, rfl⟩
theorem fModel_drift_40 : w_ic w_c229 40 41 .ge 43 := ⟨rfl, rfl⟩
theorem fModel_drift_41 : w_fe w_c229 41 42 (.bipush 1) := ⟨rfl, rfl⟩
theorem fModel_drift_42 : w_gt w_c229 42 44 := rfl
theorem fModel_drift_43 : w_fe w_c229 43 44 (.bipush 0) := ⟨rfl, rfl⟩
theorem fModel_drift_44 : w_fe w_c229 44 45 (.invokestatic 196) := ⟨rfl, rfl⟩
theorem fModel_drift_45 : w_gt w_c229 45 18 := rfl
theorem fModel_drift_46 : w_fe w_c229 46 47 (.bipush 0) := ⟨rfl, rfl⟩
theorem fModel_drift_47 : w_fe w_c229 47 48 (.istore 5) := ⟨rfl, rfl⟩
theorem fModel_drift_48 : w_fe w_c229 48 49 (.bipush 0) := ⟨rfl, rfl⟩
theorem fModel_drift_49 : w_fe w_c229 49 50 (.istore 6) := ⟨rfl, rfl⟩
theorem fModel_drift_50 : w_fe w_c229 50 51 (.iload 6) := ⟨rfl, rfl⟩
theorem fModel_drift_51 : w_fe w_c229 51 52 (.aload 0) := ⟨rfl, rfl⟩
theorem fModel_drift_52 : w_fe w_c229 52 53 (.getfield 905) := ⟨rfl, rfl⟩
theorem fModel_drift_53 : w_ic w_c229 53 54 .ge 63 := ⟨rfl, rfl⟩
theorem fModel_drift_54 : w_fe w_c229 54 55 (.iload 5) := ⟨rfl, rfl⟩
theorem fModel_drift_55 : w_fe w_c229 55 56 (.aload 0) := ⟨rfl, rfl⟩
theorem fModel_drift_56 : w_fe w_c229 56 57 (.iload 6) := ⟨rfl, rfl⟩
theorem fModel_drift_57 : w_fe w_c229 57 58 (.bipush 1) := ⟨rfl, rfl⟩
theorem fModel_drift_58 : w_fe w_c229 58 59 (.invokestatic 178) := ⟨rfl, rfl⟩
theorem fModel_drift_59 : w_fe w_c229 59 60 (.iadd) := ⟨rfl, rfl⟩
theorem fModel_drift_60 : w_fe w_c229 60 61 (.istore 5) := ⟨rfl, rfl⟩
theorem fModel_drift_61 : w_fe w_c229 61 62 (.iinc 6 1) := ⟨rfl, rfl⟩
theorem fModel_drift_62 : w_gt w_c229 62 50 := rfl
theorem fModel_drift_63 : w_fe w_c229 63 64 (.iload 3) := ⟨rfl, rfl⟩
theorem fModel_drift_64 : w_if w_c229 64 65 .ne 68 := ⟨rfl, rfl⟩
theorem fModel_drift_65 : w_fe w_c229 65 66 (.aload 0) := ⟨rfl, rfl⟩
theorem fModel_drift_66 : w_fe w_c229 66 67 (.invokestatic 175) := ⟨rfl, rfl⟩
theorem fModel_drift_67 : w_gt w_c229 67 69 := rfl
theorem fModel_drift_68 : w_fe w_c229 68 69 (.iload 5) := ⟨rfl, rfl⟩
theorem fModel_drift_69 : w_fe w_c229 69 70 (.ireturn) := ⟨rfl, rfl⟩
noncomputable def LModel_drift_18 (xs : List Int) (d : Nat) (Q : Option w_V → w_M → Prop) (v2 : Int) (v3 : Int) (v4 : Int) (σ : w_M) : Prop := ∀ l1, w_nl l1 → ∀ l5, w_nl l5 → ∀ l6, w_nl l6 → w_Ex (xs, d) 1 w_c229 Q 18 [some (.inr (.inr (9, 122))), l1, some (.inl v2), some (.inl v3), some (.inl v4), l5, l6] [] σ
noncomputable def LModel_drift_50 (xs : List Int) (d : Nat) (Q : Option w_V → w_M → Prop) (v3 : Int) (v5 : Int) (v6 : Int) (σ : w_M) : Prop := ∀ l1, w_nl l1 → ∀ l2, w_nl l2 → ∀ l4, w_nl l4 → w_Ex (xs, d) 1 w_c229 Q 50 [some (.inr (.inr (9, 122))), l1, l2, some (.inl v3), l4, some (.inl v5), some (.inl v6)] [] σ
set_option maxRecDepth 20000 in
theorem bModel_drift_0 {xs : List Int} {d : Nat} {Q : Option w_V → w_M → Prop} {x1 : Int} {x2 : Int} {x3 : Int} {σ : w_M}
    (h : (¬ (0 ≤ x2 ∧ x2 ≤ 10) → Q (some (.inl (-1))) σ) ∧ ((0 ≤ x2 ∧ x2 ≤ 10) → (((0 ≤ x3 ∧ x3 ≤ 1) → (p_Model_starts σ ∧ (∀ (τ1 : w_M), q_Model_starts σ τ1 → LModel_drift_18 xs (d + 4) Q x2 x3 x1 τ1))) ∧ (¬ (0 ≤ x3 ∧ x3 ≤ 1) → Q (some (.inl (-1))) σ)))) : w_Call (xs, (d + 4)) 229 [.inr (.inr (9, 122)), .inl x1, .inl x2, .inl x3] σ Q :=
  (w_mk (mid := 229) (by decide) rfl rfl rfl rfl rfl (Nat.le_of_ble_eq_true rfl) ⟨rfl, Or.inl (by decide)⟩ (wi_iload2 fModel_drift_0 (wi_i2l fModel_drift_1 (wi_sipush fModel_drift_2 (wi_sipush fModel_drift_3 (wi_call3 fModel_drift_4 (Nat.le_of_ble_eq_true rfl) (k_Model_in (wi_ifb_eq fModel_drift_5 (fun c3 => (wi_bipush fModel_drift_12 (wi_ret1 fModel_drift_13 (h.1 c3)))) (fun c3 => (wi_iload3 fModel_drift_6 (wi_i2l fModel_drift_7 (wi_sipush fModel_drift_8 (wi_sipush fModel_drift_9 (wi_call3 fModel_drift_10 (Nat.le_of_ble_eq_true rfl) (k_Model_in (wi_ifb_ne fModel_drift_11 (fun c2 => (wi_aload0 fModel_drift_14 (wi_call1 fModel_drift_15 (Nat.le_of_ble_eq_true rfl) (k_Model_starts ((h.2 c3).1 c2).1 (fun τ1 eτ1 => (wi_iload1 fModel_drift_16 (wi_istore4 fModel_drift_17 trivial ((((h.2 c3).1 c2).2 τ1 eτ1) _ (by exact trivial) _ (by exact trivial) _ (by exact trivial))))))))) (fun c2 => (wi_bipush fModel_drift_12 (wi_ret1 fModel_drift_13 ((h.2 c3).2 c2))))))))))))))))))))
set_option maxRecDepth 20000 in
theorem bModel_drift_18 {xs : List Int} {d : Nat} {Q : Option w_V → w_M → Prop} {v2 : Int} {v3 : Int} {v4 : Int} {σ : w_M}
    (h : ((σ 122 3) ≤ (σ 124 42) → LModel_drift_50 xs (d + 4) Q v3 0 0 σ) ∧ ((σ 124 42) < (σ 122 3) → ∀ (y1 : Int), y1 = (w_wr ((w_wr (v4 * 1103515245)) + 12345)) → ((v2 ≤ ((w_and (w_shr y1 16) 32767).tmod 10) → (p_Model_goesBy 0 σ ∧ (∀ (τ2 : w_M), q_Model_goesBy 0 σ τ2 → LModel_drift_18 xs (d + 4) Q v2 v3 y1 τ2))) ∧ (((w_and (w_shr y1 16) 32767).tmod 10) < v2 → (p_Model_goesBy 1 σ ∧ (∀ (τ3 : w_M), q_Model_goesBy 1 σ τ3 → LModel_drift_18 xs (d + 4) Q v2 v3 y1 τ3)))))) : LModel_drift_18 xs (d + 4) Q v2 v3 v4 σ :=
  fun l1 nl1 => fun l5 nl5 => fun l6 nl6 => (wi_aload0 fModel_drift_18 (wi_getf901 fModel_drift_19 (wi_bipush fModel_drift_20 (wi_iald1082 fModel_drift_21 (by decide) (by decide) (wi_aload0 fModel_drift_22 (wi_getf903 fModel_drift_23 (wi_ic_ge fModel_drift_24 (fun c5 => (wi_bipush fModel_drift_46 (wi_istore5 fModel_drift_47 trivial (wi_bipush fModel_drift_48 (wi_istore6 fModel_drift_49 trivial ((h.1 c5) _ nl1 _ (by exact trivial) _ (by exact trivial))))))) (fun c5 => (wi_iload4 fModel_drift_25 (wi_bipush fModel_drift_26 (wi_fmul fModel_drift_27 (wi_bipush fModel_drift_28 (wi_fadd fModel_drift_29 (wi_istore4 fModel_drift_30 trivial (wi_aload0 fModel_drift_31 (wi_iload4 fModel_drift_32 (wi_bipush fModel_drift_33 (wi_ishr fModel_drift_34 (wi_bipush fModel_drift_35 (wi_iand fModel_drift_36 (wi_bipush fModel_drift_37 (wi_irem fModel_drift_38 (by decide) (wi_iload2 fModel_drift_39 (wi_ic_ge fModel_drift_40 (fun c4 => (wi_bipush fModel_drift_43 (wi_call2 fModel_drift_44 (Nat.le_of_ble_eq_true rfl) (k_Model_goesBy (((h.2 c5) _ rfl).1 c4).1 (fun τ2 eτ2 => (wi_goto fModel_drift_45 (((((h.2 c5) _ rfl).1 c4).2 τ2 eτ2) _ nl1 _ nl5 _ nl6))))))) (fun c4 => (wi_bipush fModel_drift_41 (wi_goto fModel_drift_42 (wi_call2 fModel_drift_44 (Nat.le_of_ble_eq_true rfl) (k_Model_goesBy (((h.2 c5) _ rfl).2 c4).1 (fun τ3 eτ3 => (wi_goto fModel_drift_45 (((((h.2 c5) _ rfl).2 c4).2 τ3 eτ3) _ nl1 _ nl5 _ nl6))))))))))))))))))))))))))))))))
set_option maxRecDepth 20000 in
theorem bModel_drift_50 {xs : List Int} {d : Nat} {Q : Option w_V → w_M → Prop} {v3 : Int} {v5 : Int} {v6 : Int} {σ : w_M}
    (h : ((σ 122 5) ≤ v6 → ((¬ v3 = 0 → Q (some (.inl v5)) σ) ∧ (v3 = 0 → (p_Model_standing σ ∧ (∀ (y1 : Int), y1 = v_Model_standing σ → Q (some (.inl y1)) σ))))) ∧ (v6 < (σ 122 5) → (p_Model_of v6 1 σ ∧ w_in (v5 + (σ 124 (21 + 5 * v6 + 1).toNat)) ∧ (∀ (y3 : Int), y3 = (v5 + (σ 124 (21 + 5 * v6 + 1).toNat)) → (w_in (v6 + 1) ∧ LModel_drift_50 xs (d + 4) Q v3 y3 (v6 + 1) σ))))) : LModel_drift_50 xs (d + 4) Q v3 v5 v6 σ :=
  fun l1 nl1 => fun l2 nl2 => fun l4 nl4 => (wi_iload6 fModel_drift_50 (wi_aload0 fModel_drift_51 (wi_getf905 fModel_drift_52 (wi_ic_ge fModel_drift_53 (fun c4 => (wi_iload3 fModel_drift_63 (wi_if_ne fModel_drift_64 (fun c2 => (wi_iload5 fModel_drift_68 (wi_ret1 fModel_drift_69 ((h.1 c4).1 c2)))) (fun c2 => (wi_aload0 fModel_drift_65 (wi_call1 fModel_drift_66 (Nat.le_of_ble_eq_true rfl) (k_Model_standing ((h.1 c4).2 c2).1 (wi_goto fModel_drift_67 (wi_ret1 fModel_drift_69 (((h.1 c4).2 c2).2 _ rfl)))))))))) (fun c4 => (wi_iload5 fModel_drift_54 (wi_aload0 fModel_drift_55 (wi_iload6 fModel_drift_56 (wi_bipush fModel_drift_57 (wi_call3 fModel_drift_58 (Nat.le_of_ble_eq_true rfl) (k_Model_of (h.2 c4).1 (wi_iadd fModel_drift_59 (h.2 c4).2.1 (wi_istore5 fModel_drift_60 nl4 (wi_iinc6 fModel_drift_61 trivial ((h.2 c4).2.2 _ rfl).1 (wi_goto fModel_drift_62 (((h.2 c4).2.2 _ rfl).2 _ nl1 _ nl2 _ nl4))))))))))))))))
theorem k_Model_drift {xs : List Int} {d : Nat} {Q : Option w_V → w_M → Prop} {x1 : Int} {x2 : Int} {x3 : Int} {σ : w_M} (hp : p_Model_drift x1 x2 x3 σ) (hQ : ∀ (x : Int) (σ' : w_M), q_Model_drift x1 x2 x3 σ x σ' → Q (some (.inl x)) σ') : w_Call (xs, d + 4) 229 [.inr (.inr (9, 122)), .inl x1, .inl x2, .inl x3] σ Q := by
  have hM : MI σ := hp
  have hok := hM.ok
  have hrs := m_ok.hrs hok
  have hr : 0 ≤ σ 123 42 ∧ σ 123 42 ≤ σ 122 3 := m_ok.hr hok
  unfold q_Model_drift F_drift at hQ
  have eA : mS σ 0 = w_am σ 123 0 := rfl
  rw [eA] at hQ
  refine bModel_drift_0 ⟨fun c => ?_, fun c => ⟨fun c2 => ⟨hM.sm, fun τ1 hq1 => ?_⟩, fun c2 => ?_⟩⟩
  · rw [if_neg (fun q => c q.1)] at hQ
    exact hQ _ _ (m_qr hM rfl)
  · rw [if_pos ⟨c, c2⟩] at hQ
    obtain ⟨q1, q2, q3⟩ := hq1
    refine (w_loop (n := n_left (w_am σ 123 0)) (P := fun k => ∀ τ : w_M, w_am τ 124 0 = n_dr (w_am σ 123 0) x1 x2 k → w_f1 σ τ 124 → LModel_drift_18 xs (d + 4) Q x2 x3 (dr_x x1 k) τ) ?_ ?_) τ1 q1 q2
    · intro τ A1 F1
      obtain ⟨g1, g2, g3⟩ := n_dr_all hok x1 x2 (n_left (w_am σ 123 0)) (by show σ 123 42 + (((σ 122 3 - σ 123 42).toNat : Nat) : Int) ≤ σ 122 3; omega)
      rw [← A1] at g1 g3
      have z2 : τ 122 = σ 122 := F1 122 (by decide)
      have t1 : τ 124 42 = σ 123 42 + (((σ 122 3 - σ 123 42).toNat : Nat) : Int) := g3
      have hnn := hM.n
      refine bModel_drift_18 ⟨fun _ => ?_, fun h => by rw [z2, t1] at h; omega⟩
      refine w_loop (n := (σ 122 5).toNat) (P := fun i => LModel_drift_50 xs (d + 4) Q x3 (f_sum (w_am τ 124 0 4) i) (i : Int) τ) ?_ ?_
      · refine bModel_drift_50 ⟨fun _ => ⟨fun c3 => ?_, fun c3 => ⟨g1, fun y ey => ?_⟩⟩, fun h => by rw [z2] at h; omega⟩
        · rw [if_neg c3] at hQ
          refine hQ _ _ (m_qs hM F1 ?_)
          rw [← A1]
          unfold n_oils
          rw [n_n_am, z2]
        · rw [if_pos c3] at hQ
          refine hQ _ _ (m_qs hM F1 ?_)
          rw [ey, ← A1]
          rfl
      · intro i hi ih
        have hi4 : i < n_n (w_am τ 124 0) := by rw [n_n_am, z2]; exact hi
        have e4 : τ 124 (21 + 5 * (i : Int) + 1).toNat = w_am τ 124 0 4 i := by
          have := m_rdr (σ := τ) (c := 124) (d := 4) (r := (i : Int)) (x := (21 + 5 * (i : Int) + 1).toNat) (by decide) (by decide) (by rw [z2]; omega) (by show _ = 22 + 5 * ((i : Int)).toNat; omega)
          rw [Int.toNat_natCast] at this
          exact this
        have h2 := f_sum_le (f := w_am τ 124 0 4) (B := 9) (m := n_n (w_am τ 124 0)) (fun i hi => by have := (n_WF.r g1 hi).2.1; omega) (Nat.le_of_lt hi4)
        have h3 := (n_WF.r g1 hi4).2.1
        simp only [f_sum] at ih
        rw [w_cs1] at ih
        refine bModel_drift_50 ⟨fun h => by rw [z2] at h; omega, fun h => ⟨⟨⟨by omega, by omega⟩, by decide⟩, ?_⟩⟩
        rw [e4]
        refine ⟨⟨by omega, by omega⟩, fun y ey => ⟨⟨by omega, by omega⟩, ?_⟩⟩
        rw [ey]
        exact ih
    · intro k hk ih τ A1 F1
      have hk2 : (k : Int) < σ 122 3 - σ 123 42 := by
        have : n_left (w_am σ 123 0) = (σ 122 3 - σ 123 42).toNat := rfl
        omega
      obtain ⟨g1, g2, g3⟩ := n_dr_all hok x1 x2 k (by show σ 123 42 + _ ≤ σ 122 3; omega)
      rw [← A1] at g1 g2 g3
      have z2 : τ 122 = σ 122 := F1 122 (by decide)
      have t1 : τ 124 42 = σ 123 42 + k := g3
      refine bModel_drift_18 ⟨fun h => by rw [z2, t1] at h; omega, fun h y1 e1 => ⟨fun c3 => ⟨⟨g1, h, Or.inl rfl⟩, fun τ2 hq => ?_⟩, fun c3 => ⟨⟨g1, h, Or.inr rfl⟩, fun τ2 hq => ?_⟩⟩⟩
      · rw [e1] at c3 ⊢
        refine ih τ2 ?_ (F1.tr hq.2.1)
        rw [hq.1, A1]
        simp only [n_dr]
        rw [show dr_b x1 x2 k = 0 from if_neg (fun q => by have q2 : (w_and (w_shr (w_wr (w_wr (dr_x x1 k * 1103515245) + 12345)) 16) 32767).tmod 10 < x2 := q; omega)]
      · rw [e1] at c3 ⊢
        refine ih τ2 ?_ (F1.tr hq.2.1)
        rw [hq.1, A1]
        simp only [n_dr]
        rw [show dr_b x1 x2 k = 1 from if_pos c3]
  · rw [if_neg (fun q => c2 q.2)] at hQ
    exact hQ _ _ (m_qr hM rfl)
