/-! A Field's hours; copies -/
noncomputable def p_Field_passHour (a : Nat) (c : Int) (σ : w_M) : Prop := n_ok σ a ∧ σ a 1 < σ a 0 ∧ (c = 0 ∨ c = 1)
noncomputable def q_Field_passHour (a : Nat) (c : Int) (σ : w_M) (x : Int) (σ' : w_M) : Prop := w_ab σ' a = n_hour (w_ab σ a) c ∧ x = n_sd (w_ab σ a) - n_sd (n_hour (w_ab σ a) c) ∧ w_fr σ σ' a (a + 9) ∧ σ' a 15 = w_wr (σ a 15 + n_lostF (w_ab σ a) c (n_n (w_ab σ a))) ∧ σ' a 6 = σ a 6
theorem fField_passHour_0 : w_fe am_c41 0 1 (.bipush 0) := ⟨rfl, rfl⟩
theorem fField_passHour_1 : w_fe am_c41 1 2 (.istore 2) := ⟨rfl, rfl⟩
theorem fField_passHour_2 : w_fe am_c41 2 3 (.bipush 0) := ⟨rfl, rfl⟩
theorem fField_passHour_3 : w_fe am_c41 3 4 (.istore 3) := ⟨rfl, rfl⟩
theorem fField_passHour_4 : w_fe am_c41 4 5 (.iload 3) := ⟨rfl, rfl⟩
theorem fField_passHour_5 : w_fe am_c41 5 6 (.aload 0) := ⟨rfl, rfl⟩
theorem fField_passHour_6 : w_fe am_c41 6 7 (.getfield 205) := ⟨rfl, rfl⟩
theorem fField_passHour_7 : w_ic am_c41 7 8 .ge 17 := ⟨rfl, rfl⟩
theorem fField_passHour_8 : w_fe am_c41 8 9 (.iload 2) := ⟨rfl, rfl⟩
theorem fField_passHour_9 : w_fe am_c41 9 10 (.aload 0) := ⟨rfl, rfl⟩
theorem fField_passHour_10 : w_fe am_c41 10 11 (.iload 3) := ⟨rfl, rfl⟩
theorem fField_passHour_11 : w_fe am_c41 11 12 (.iload 1) := ⟨rfl, rfl⟩
theorem fField_passHour_12 : w_fe am_c41 12 13 (.invokestatic 42) := ⟨rfl, rfl⟩
theorem fField_passHour_13 : w_fe am_c41 13 14 (.iadd) := ⟨rfl, rfl⟩
theorem fField_passHour_14 : w_fe am_c41 14 15 (.istore 2) := ⟨rfl, rfl⟩
theorem fField_passHour_15 : w_fe am_c41 15 16 (.iinc 3 1) := ⟨rfl, rfl⟩
theorem fField_passHour_16 : w_gt am_c41 16 4 := rfl
theorem fField_passHour_17 : w_fe am_c41 17 18 (.aload 0) := ⟨rfl, rfl⟩
theorem fField_passHour_18 : w_fe am_c41 18 19 (.dup) := ⟨rfl, rfl⟩
theorem fField_passHour_19 : w_fe am_c41 19 20 (.getfield 201) := ⟨rfl, rfl⟩
theorem fField_passHour_20 : w_fe am_c41 20 21 (.bipush 1) := ⟨rfl, rfl⟩
theorem fField_passHour_21 : w_fe am_c41 21 22 (.iadd) := ⟨rfl, rfl⟩
theorem fField_passHour_22 : w_fe am_c41 22 23 (.putfield 201) := ⟨rfl, rfl⟩
theorem fField_passHour_23 : w_fe am_c41 23 24 (.iload 2) := ⟨rfl, rfl⟩
theorem fField_passHour_24 : w_fe am_c41 24 25 (.ireturn) := ⟨rfl, rfl⟩
noncomputable def LField_passHour_4 (xs : List Int) (d : Nat) (Q : Option w_V → w_M → Prop) (r0 : Nat) (v1 : Int) (v2 : Int) (v3 : Int) (σ : w_M) : Prop := w_Ex (xs, d) 1 am_c41 Q 4 [some (.inr (.inr (2, r0))), some (.inl v1), some (.inl v2), some (.inl v3)] [] σ
set_option maxRecDepth 20000 in
theorem bField_passHour_0 {xs : List Int} {d : Nat} {Q : Option w_V → w_M → Prop} {a : Nat} {x1 : Int} {σ : w_M}
    (h : LField_passHour_4 xs (d + 3) Q a x1 0 0 σ) : w_Call (xs, (d + 3)) 41 [.inr (.inr (2, a)), .inl x1] σ Q :=
  (w_mk (mid := 41) (by decide) rfl rfl rfl rfl rfl (Nat.le_of_ble_eq_true rfl) ⟨rfl, Or.inl (by decide)⟩ (wi_bipush fField_passHour_0 (wi_istore2 fField_passHour_1 trivial (wi_bipush fField_passHour_2 (wi_istore3 fField_passHour_3 trivial h)))))
set_option maxRecDepth 20000 in
theorem bField_passHour_4 {xs : List Int} {d : Nat} {Q : Option w_V → w_M → Prop} {r0 : Nat} {v1 : Int} {v2 : Int} {v3 : Int} {σ : w_M}
    (h : ((σ r0 5) ≤ v3 → (w_in ((σ r0 1) + 1) ∧ (∀ (τ1 : w_M), τ1 = w_up σ r0 1 ((σ r0 1) + 1) → Q (some (.inl v2)) τ1))) ∧ (v3 < (σ r0 5) → (p_Field_work r0 v3 v1 σ ∧ (∀ (y2 : Int) (τ3 : w_M), q_Field_work r0 v3 v1 σ y2 τ3 → (w_in (v2 + y2) ∧ (∀ (y4 : Int), y4 = (v2 + y2) → (w_in (v3 + 1) ∧ LField_passHour_4 xs (d + 3) Q r0 v1 y4 (v3 + 1) τ3))))))) : LField_passHour_4 xs (d + 3) Q r0 v1 v2 v3 σ :=
  (wi_iload3 fField_passHour_4 (wi_aload0 fField_passHour_5 (wi_getf205 fField_passHour_6 (wi_ic_ge fField_passHour_7 (fun c5 => (wi_aload0 fField_passHour_17 (wi_dup_a fField_passHour_18 (wi_getf201 fField_passHour_19 (wi_bipush fField_passHour_20 (wi_iadd fField_passHour_21 (h.1 c5).1 (wi_putf201 fField_passHour_22 (wi_iload2 fField_passHour_23 (wi_ret1 fField_passHour_24 ((h.1 c5).2 _ rfl)))))))))) (fun c5 => (wi_iload2 fField_passHour_8 (wi_aload0 fField_passHour_9 (wi_iload3 fField_passHour_10 (wi_iload1 fField_passHour_11 (wi_call3 fField_passHour_12 (Nat.le_of_ble_eq_true rfl) (k_Field_work (h.2 c5).1 (fun y2 τ3 eτ3 => (wi_iadd fField_passHour_13 ((h.2 c5).2 y2 τ3 eτ3).1 (wi_istore2 fField_passHour_14 trivial (wi_iinc3 fField_passHour_15 trivial (((h.2 c5).2 y2 τ3 eτ3).2 _ rfl).1 (wi_goto fField_passHour_16 (((h.2 c5).2 y2 τ3 eτ3).2 _ rfl).2))))))))))))))))
theorem k_Field_passHour {xs : List Int} {d : Nat} {Q : Option w_V → w_M → Prop} {a : Nat} {x1 : Int} {σ : w_M} (hp : p_Field_passHour a x1 σ) (hQ : ∀ (x : Int) (σ' : w_M), q_Field_passHour a x1 σ x σ' → Q (some (.inl x)) σ') : w_Call (xs, d + 3) 41 [.inr (.inr (2, a)), .inl x1] σ Q := by
  refine w_Call_in (fun hms => ?_)
  obtain ⟨hok, hh, hc⟩ := hp
  have hn := n_ok.n hok
  have hrs := n_ok.hrs hok
  have hr := n_ok.hr hok
  refine bField_passHour_0 ?_
  refine (w_loop (n := (σ a 5).toNat) (P := fun k => ∀ (τ : w_M) (v : Int), w_ab τ a = n_hourF (w_ab σ a) x1 k → w_fr σ τ a (a + 9) → τ a 15 = w_wr (σ a 15 + n_lostF (w_ab σ a) x1 k) → v = n_sd (w_ab σ a) - n_sd (n_hourF (w_ab σ a) x1 k) → τ a 6 = σ a 6 → LField_passHour_4 xs (d + 3) Q a x1 v (k : Int) τ) ?_ ?_) σ 0 rfl w_fr.rfl' (w_wr_0 (hms _ _)).symm (by simp [n_hourF]) rfl
  · intro τ v A1 F1 l1 ev m6
    obtain ⟨g1, g2, g3, g4, g5⟩ := n_hourF_all hok hc (n_n (w_ab σ a)) (Nat.le_refl _)
    have A1' : w_ab τ a = n_hourF (w_ab σ a) x1 (n_n (w_ab σ a)) := A1
    rw [← A1'] at g1 g2 g3 g4
    have z1 : τ a 1 = σ a 1 := g3
    have z5 : τ a 5 = σ a 5 := g2.1 5 (by decide) (by decide)
    refine bField_passHour_4 ⟨fun _ => ⟨by rw [z1]; exact ⟨by omega, by omega⟩, fun τ1 t1 => hQ _ _ ?_⟩, fun h => by omega⟩
    have e : w_ab τ1 a = n_hour (w_ab σ a) x1 := by
      rw [t1, w_ab_up0 (by decide), A1', z1]
      rfl
    refine ⟨e, ?_, by rw [t1]; exact F1.up (by omega) (by omega), by rw [t1, w_up_j (by decide)]; exact l1, by rw [t1, w_up_j (by decide)]; exact m6⟩
    rw [ev]
    unfold n_hour
    rw [n_sd_up (by decide) (by decide)]
    rfl
  · intro k hk ih τ v A1 F1 l1 ev m6
    obtain ⟨g1, g2, g3, g4, g5⟩ := n_hourF_all hok hc k (Nat.le_of_lt hk)
    rw [← A1] at g1 g2 g3 g4
    have z5 : τ a 5 = σ a 5 := g2.1 5 (by decide) (by decide)
    have b1 := n_sd_le hok
    have b2 := n_sd_le g1
    refine bField_passHour_4 ⟨fun h => by omega, fun h => ⟨⟨g1, ⟨by omega, by omega⟩, hc⟩, ?_⟩⟩
    intro y2 τ3 hq
    obtain ⟨q1, q2, q3, q4, q5⟩ := hq
    rw [Int.toNat_natCast] at q1 q2 q4
    have w1 := n_work_all g1 (r := k) (by show k < (τ a 5).toNat; rw [z5]; exact hk) hc
    have b3 := n_sd_le w1.1
    have hw : n_hourF (w_ab σ a) x1 (k + 1) = n_work (w_ab τ a) k x1 := by simp only [n_hourF]; rw [A1]
    rw [← A1] at ev
    refine ⟨⟨by omega, by omega⟩, fun y4 e4 => ⟨⟨by omega, by omega⟩, ?_⟩⟩
    rw [← w_cs1]
    refine ih τ3 y4 (by rw [hw]; exact q1) (F1.tr q3) ?_ (by rw [hw]; omega) (q5.trans m6)
    rw [q4, l1, w_wr_wr]
    simp only [n_lostF]
    rw [← A1]
noncomputable def p_Field_pass (a : Nat) (n : Int) (σ : w_M) : Prop := n_ok σ a ∧ (0 ≤ n ∧ n ≤ 12)
noncomputable def q_Field_pass (a : Nat) (n : Int) (σ : w_M) (x : Int) (σ' : w_M) : Prop := w_ab σ' a = n_goes (w_ab σ a) n.toNat ∧ x = n_sd (w_ab σ a) - n_sd (n_goes (w_ab σ a) n.toNat) ∧ w_fr σ σ' a (a + 9) ∧ σ' a 6 = σ a 6
theorem fField_pass_0 : w_fe am_c40 0 1 (.bipush 0) := ⟨rfl, rfl⟩
theorem fField_pass_1 : w_fe am_c40 1 2 (.istore 2) := ⟨rfl, rfl⟩
theorem fField_pass_2 : w_fe am_c40 2 3 (.bipush 0) := ⟨rfl, rfl⟩
theorem fField_pass_3 : w_fe am_c40 3 4 (.istore 3) := ⟨rfl, rfl⟩
theorem fField_pass_4 : w_fe am_c40 4 5 (.iload 3) := ⟨rfl, rfl⟩
theorem fField_pass_5 : w_fe am_c40 5 6 (.iload 1) := ⟨rfl, rfl⟩
theorem fField_pass_6 : w_ic am_c40 6 7 .ge 23 := ⟨rfl, rfl⟩
theorem fField_pass_7 : w_fe am_c40 7 8 (.aload 0) := ⟨rfl, rfl⟩
theorem fField_pass_8 : w_fe am_c40 8 9 (.getfield 201) := ⟨rfl, rfl⟩
theorem fField_pass_9 : w_fe am_c40 9 10 (.aload 0) := ⟨rfl, rfl⟩
theorem fField_pass_10 : w_fe am_c40 10 11 (.getfield 200) := ⟨rfl, rfl⟩
theorem fField_pass_11 : w_ic am_c40 11 12 .ge 23 := ⟨rfl, rfl⟩
theorem fField_pass_12 : w_fe am_c40 12 13 (.iload 2) := ⟨rfl, rfl⟩
theorem fField_pass_13 : w_fe am_c40 13 14 (.aload 0) := ⟨rfl, rfl⟩
theorem fField_pass_14 : w_fe am_c40 14 15 (.aload 0) := ⟨rfl, rfl⟩
theorem fField_pass_15 : w_fe am_c40 15 16 (.aload 0) := ⟨rfl, rfl⟩
theorem fField_pass_16 : w_fe am_c40 16 17 (.getfield 201) := ⟨rfl, rfl⟩
theorem fField_pass_17 : w_fe am_c40 17 18 (.invokestatic 29) := ⟨rfl, rfl⟩
theorem fField_pass_18 : w_fe am_c40 18 19 (.invokestatic 41) := ⟨rfl, rfl⟩
theorem fField_pass_19 : w_fe am_c40 19 20 (.iadd) := ⟨rfl, rfl⟩
theorem fField_pass_20 : w_fe am_c40 20 21 (.istore 2) := ⟨rfl, rfl⟩
theorem fField_pass_21 : w_fe am_c40 21 22 (.iinc 3 1) := ⟨rfl, rfl⟩
theorem fField_pass_22 : w_gt am_c40 22 4 := rfl
theorem fField_pass_23 : w_fe am_c40 23 24 (.iload 2) := ⟨rfl, rfl⟩
theorem fField_pass_24 : w_fe am_c40 24 25 (.ireturn) := ⟨rfl, rfl⟩
noncomputable def LField_pass_4 (xs : List Int) (d : Nat) (Q : Option w_V → w_M → Prop) (r0 : Nat) (v1 : Int) (v2 : Int) (v3 : Int) (σ : w_M) : Prop := w_Ex (xs, d) 1 am_c40 Q 4 [some (.inr (.inr (2, r0))), some (.inl v1), some (.inl v2), some (.inl v3)] [] σ
set_option maxRecDepth 20000 in
theorem bField_pass_0 {xs : List Int} {d : Nat} {Q : Option w_V → w_M → Prop} {a : Nat} {x1 : Int} {σ : w_M}
    (h : LField_pass_4 xs (d + 4) Q a x1 0 0 σ) : w_Call (xs, (d + 4)) 40 [.inr (.inr (2, a)), .inl x1] σ Q :=
  (w_mk (mid := 40) (by decide) rfl rfl rfl rfl rfl (Nat.le_of_ble_eq_true rfl) ⟨rfl, Or.inl (by decide)⟩ (wi_bipush fField_pass_0 (wi_istore2 fField_pass_1 trivial (wi_bipush fField_pass_2 (wi_istore3 fField_pass_3 trivial h)))))
set_option maxRecDepth 20000 in
theorem bField_pass_4 {xs : List Int} {d : Nat} {Q : Option w_V → w_M → Prop} {r0 : Nat} {v1 : Int} {v2 : Int} {v3 : Int} {σ : w_M}
    (h : (v1 ≤ v3 → Q (some (.inl v2)) σ) ∧ (v3 < v1 → (((σ r0 0) ≤ (σ r0 1) → Q (some (.inl v2)) σ) ∧ ((σ r0 1) < (σ r0 0) → (p_Field_passHour r0 (w_bi (¬ w_and (w_shr (σ r0 2) (σ r0 1)) 1 = 0)) σ ∧ (∀ (y1 : Int) (τ2 : w_M), q_Field_passHour r0 (w_bi (¬ w_and (w_shr (σ r0 2) (σ r0 1)) 1 = 0)) σ y1 τ2 → (w_in (v2 + y1) ∧ (∀ (y3 : Int), y3 = (v2 + y1) → (w_in (v3 + 1) ∧ LField_pass_4 xs (d + 4) Q r0 v1 y3 (v3 + 1) τ2))))))))) : LField_pass_4 xs (d + 4) Q r0 v1 v2 v3 σ :=
  (wi_iload3 fField_pass_4 (wi_iload1 fField_pass_5 (wi_ic_ge fField_pass_6 (fun c5 => (wi_iload2 fField_pass_23 (wi_ret1 fField_pass_24 (h.1 c5)))) (fun c5 => (wi_aload0 fField_pass_7 (wi_getf201 fField_pass_8 (wi_aload0 fField_pass_9 (wi_getf200 fField_pass_10 (wi_ic_ge fField_pass_11 (fun c4 => (wi_iload2 fField_pass_23 (wi_ret1 fField_pass_24 ((h.2 c5).1 c4)))) (fun c4 => (wi_iload2 fField_pass_12 (wi_aload0 fField_pass_13 (wi_aload0 fField_pass_14 (wi_aload0 fField_pass_15 (wi_getf201 fField_pass_16 (wi_call2 fField_pass_17 (Nat.le_of_ble_eq_true rfl) (k_Field_isCloudy (wi_call2 fField_pass_18 (Nat.le_of_ble_eq_true rfl) (k_Field_passHour ((h.2 c5).2 c4).1 (fun y1 τ2 eτ2 => (wi_iadd fField_pass_19 (((h.2 c5).2 c4).2 y1 τ2 eτ2).1 (wi_istore2 fField_pass_20 trivial (wi_iinc3 fField_pass_21 trivial ((((h.2 c5).2 c4).2 y1 τ2 eτ2).2 _ rfl).1 (wi_goto fField_pass_22 ((((h.2 c5).2 c4).2 y1 τ2 eτ2).2 _ rfl).2))))))))))))))))))))))))
theorem k_Field_pass {xs : List Int} {d : Nat} {Q : Option w_V → w_M → Prop} {a : Nat} {x1 : Int} {σ : w_M} (hp : p_Field_pass a x1 σ) (hQ : ∀ (x : Int) (σ' : w_M), q_Field_pass a x1 σ x σ' → Q (some (.inl x)) σ') : w_Call (xs, d + 4) 40 [.inr (.inr (2, a)), .inl x1] σ Q := by
  obtain ⟨hok, n0, n1⟩ := hp
  have hrs := n_ok.hrs hok
  have hr := n_ok.hr hok
  refine bField_pass_0 ?_
  refine (w_loop (n := x1.toNat) (P := fun k => ∀ (τ : w_M) (v : Int), w_ab τ a = n_goes (w_ab σ a) k → w_fr σ τ a (a + 9) → v = n_sd (w_ab σ a) - n_sd (n_goes (w_ab σ a) k) → τ a 6 = σ a 6 → LField_pass_4 xs (d + 4) Q a x1 v (k : Int) τ) ?_ ?_) σ 0 rfl w_fr.rfl' (by simp [n_goes]) rfl
  · intro τ v A1 F1 ev m6
    exact bField_pass_4 ⟨fun _ => hQ _ _ ⟨A1, ev, F1, m6⟩, fun h => by omega⟩
  · intro k hk ih τ v A1 F1 ev m6
    obtain ⟨g1, g2, g3, g4⟩ := n_goes_all hok k
    rw [← A1] at g1 g2 g3 g4 ev
    have b1 := n_sd_le hok
    have b2 := n_sd_le g1
    refine bField_pass_4 ⟨fun h => by omega, fun h => ⟨fun h2 => ?_, fun h2 => ?_⟩⟩
    · have he : n_goes (w_ab σ a) x1.toNat = n_goes (w_ab σ a) k := by
        have := n_goes_end (A := w_ab σ a) (k := k) (by rw [← A1]; show ¬ τ a 1 < τ a 0; omega) (x1.toNat - k)
        rw [show k + (x1.toNat - k) = x1.toNat by omega] at this
        exact this
      exact hQ _ _ ⟨by rw [he]; exact A1, by rw [he, ← A1]; exact ev, F1, m6⟩
    · rw [w_bi_and1]
      have hc : n_cl (w_ab τ a) (w_ab τ a 0 1) = w_and (w_shr (τ a 2) (τ a 1)) 1 := rfl
      rw [← hc]
      refine ⟨⟨g1, h2, n_cl01 _ _⟩, ?_⟩
      intro y1 τ2 hq
      obtain ⟨q1, q2, q3, q4, q5⟩ := hq
      have w1 := n_on_all g1 h2
      have b3 := n_sd_le w1.1
      have hw : n_goes (w_ab σ a) (k + 1) = n_on (w_ab τ a) := by
        simp only [n_goes]
        rw [← A1, if_pos (show w_ab τ a 0 1 < w_ab τ a 0 0 from h2)]
      have q2' : y1 = n_sd (w_ab τ a) - n_sd (n_on (w_ab τ a)) := q2
      refine ⟨⟨by omega, by omega⟩, fun y3 e3 => ⟨⟨by omega, by omega⟩, ?_⟩⟩
      rw [← w_cs1]
      exact ih τ2 y3 (by rw [hw]; exact q1) (F1.tr q3) (by rw [hw]; omega) (q5.trans m6)
/-- what is lost in the first k hours -/
noncomputable def n_lostT (A : w_M) : Nat → Int
  | 0 => 0
  | k + 1 => n_lostT A k + n_lostF (n_goes A k) (n_cl (n_goes A k) ((n_goes A k) 0 1)) (n_n (n_goes A k))
noncomputable def p_Field_passUntilDone (a : Nat) (most _spare : Int) (σ : w_M) : Prop := n_ok σ a ∧ (0 ≤ most ∧ most ≤ 12)
/-- j hours go by; all but the last state stand; at the end it is done, or it is given up, and why -/
noncomputable def n_pud (A : w_M) (most spare x : Int) (j : Nat) : Prop := (j : Int) ≤ most ∧ A 0 1 + j ≤ A 0 0 ∧ (∀ i, i < j → 0 < n_sd (n_goes A i)) ∧ ((x = j ∧ n_sd (n_goes A j) = 0) ∨ (x = -4 ∧ 0 < n_sd (n_goes A j) ∧ ((j : Int) = most ∨ A 0 1 + j = A 0 0 ∨ spare < n_lostT A j)))
noncomputable def q_Field_passUntilDone (a : Nat) (most spare : Int) (σ : w_M) (x : Int) (σ' : w_M) : Prop := ∃ j : Nat, w_ab σ' a = n_goes (w_ab σ a) j ∧ n_pud (w_ab σ a) most spare x j ∧ w_fr σ σ' a (a + 9)
theorem fField_passUntilDone_0 : w_fe am_c45 0 1 (.aload 0) := ⟨rfl, rfl⟩
theorem fField_passUntilDone_1 : w_fe am_c45 1 2 (.invokestatic 35) := ⟨rfl, rfl⟩
theorem fField_passUntilDone_2 : w_fe am_c45 2 3 (.istore 3) := ⟨rfl, rfl⟩
theorem fField_passUntilDone_3 : w_fe am_c45 3 4 (.aload 0) := ⟨rfl, rfl⟩
theorem fField_passUntilDone_4 : w_fe am_c45 4 5 (.bipush 0) := ⟨rfl, rfl⟩
theorem fField_passUntilDone_5 : w_fe am_c45 5 6 (.putfield 215) := ⟨rfl, rfl⟩
theorem fField_passUntilDone_6 : w_fe am_c45 6 7 (.bipush 0) := ⟨rfl, rfl⟩
theorem fField_passUntilDone_7 : w_fe am_c45 7 8 (.istore 4) := ⟨rfl, rfl⟩
theorem fField_passUntilDone_8 : w_fe am_c45 8 9 (.iload 4) := ⟨rfl, rfl⟩
theorem fField_passUntilDone_9 : w_fe am_c45 9 10 (.iload 1) := ⟨rfl, rfl⟩
theorem fField_passUntilDone_10 : w_ic am_c45 10 11 .ge 39 := ⟨rfl, rfl⟩
theorem fField_passUntilDone_11 : w_fe am_c45 11 12 (.iload 3) := ⟨rfl, rfl⟩
theorem fField_passUntilDone_12 : w_if am_c45 12 13 .le 39 := ⟨rfl, rfl⟩
theorem fField_passUntilDone_13 : w_fe am_c45 13 14 (.aload 0) := ⟨rfl, rfl⟩
theorem fField_passUntilDone_14 : w_fe am_c45 14 15 (.getfield 215) := ⟨rfl, rfl⟩
theorem fField_passUntilDone_15 : w_fe am_c45 15 16 (.iload 2) := ⟨rfl, rfl⟩
theorem fField_passUntilDone_16 : w_ic am_c45 16 17 .gt 39 := ⟨rfl, rfl⟩
theorem fField_passUntilDone_17 : w_fe am_c45 17 18 (.aload 0) := ⟨rfl, rfl⟩
theorem fField_passUntilDone_18 : w_fe am_c45 18 19 (.getfield 201) := ⟨rfl, rfl⟩
theorem fField_passUntilDone_19 : w_fe am_c45 19 20 (.aload 0) := ⟨rfl, rfl⟩
theorem fField_passUntilDone_20 : w_fe am_c45 20 21 (.getfield 200) := ⟨rfl, rfl⟩
theorem fField_passUntilDone_21 : w_ic am_c45 21 22 .ge 39 := ⟨rfl, rfl⟩
theorem fField_passUntilDone_22 : w_fe am_c45 22 23 (.iload 3) := ⟨rfl, rfl⟩
theorem fField_passUntilDone_23 : w_fe am_c45 23 24 (.aload 0) := ⟨rfl, rfl⟩
theorem fField_passUntilDone_24 : w_fe am_c45 24 25 (.aload 0) := ⟨rfl, rfl⟩
theorem fField_passUntilDone_25 : w_fe am_c45 25 26 (.aload 0) := ⟨rfl, rfl⟩
theorem fField_passUntilDone_26 : w_fe am_c45 26 27 (.getfield 201) := ⟨rfl, rfl⟩
theorem fField_passUntilDone_27 : w_fe am_c45 27 28 (.invokestatic 29) := ⟨rfl, rfl⟩
theorem fField_passUntilDone_28 : w_fe am_c45 28 29 (.invokestatic 41) := ⟨rfl, rfl⟩
theorem fField_passUntilDone_29 : w_fe am_c45 29 30 (.isub) := ⟨rfl, rfl⟩
theorem fField_passUntilDone_30 : w_fe am_c45 30 31 (.istore 3) := ⟨rfl, rfl⟩
theorem fField_passUntilDone_31 : w_fe am_c45 31 32 (.iload 3) := ⟨rfl, rfl⟩
theorem fField_passUntilDone_32 : w_if am_c45 32 33 .ne 37 := ⟨rfl, rfl⟩
theorem fField_passUntilDone_33 : w_fe am_c45 33 34 (.iload 4) := ⟨rfl, rfl⟩
theorem fField_passUntilDone_34 : w_fe am_c45 34 35 (.bipush 1) := ⟨rfl, rfl⟩
theorem fField_passUntilDone_35 : w_fe am_c45 35 36 (.iadd) := ⟨rfl, rfl⟩
theorem fField_passUntilDone_36 : w_fe am_c45 36 37 (.ireturn) := ⟨rfl, rfl⟩
theorem fField_passUntilDone_37 : w_fe am_c45 37 38 (.iinc 4 1) := ⟨rfl, rfl⟩
theorem fField_passUntilDone_38 : w_gt am_c45 38 8 := rfl
theorem fField_passUntilDone_39 : w_fe am_c45 39 40 (.iload 3) := ⟨rfl, rfl⟩
theorem fField_passUntilDone_40 : w_if am_c45 40 41 .ne 43 := ⟨rfl, rfl⟩
theorem fField_passUntilDone_41 : w_fe am_c45 41 42 (.bipush 0) := ⟨rfl, rfl⟩
theorem fField_passUntilDone_42 : w_gt am_c45 42 44 := rfl
theorem fField_passUntilDone_43 : w_fe am_c45 43 44 (.bipush (-4)) := ⟨rfl, rfl⟩
theorem fField_passUntilDone_44 : w_fe am_c45 44 45 (.ireturn) := ⟨rfl, rfl⟩
noncomputable def LField_passUntilDone_8 (xs : List Int) (d : Nat) (Q : Option w_V → w_M → Prop) (r0 : Nat) (v1 : Int) (v2 : Int) (v3 : Int) (v4 : Int) (σ : w_M) : Prop := w_Ex (xs, d) 1 am_c45 Q 8 [some (.inr (.inr (2, r0))), some (.inl v1), some (.inl v2), some (.inl v3), some (.inl v4)] [] σ
set_option maxRecDepth 20000 in
theorem bField_passUntilDone_0 {xs : List Int} {d : Nat} {Q : Option w_V → w_M → Prop} {a : Nat} {x1 : Int} {x2 : Int} {σ : w_M}
    (h : p_Field_standing a σ ∧ (∀ (y1 : Int), y1 = v_Field_standing a σ → ∀ (τ2 : w_M), τ2 = w_up σ a 15 0 → LField_passUntilDone_8 xs (d + 4) Q a x1 x2 y1 0 τ2)) : w_Call (xs, (d + 4)) 45 [.inr (.inr (2, a)), .inl x1, .inl x2] σ Q :=
  (w_mk (mid := 45) (by decide) rfl rfl rfl rfl rfl (Nat.le_of_ble_eq_true rfl) ⟨rfl, Or.inl (by decide)⟩ (wi_aload0 fField_passUntilDone_0 (wi_call1 fField_passUntilDone_1 (Nat.le_of_ble_eq_true rfl) (k_Field_standing h.1 (wi_istore3 fField_passUntilDone_2 trivial (wi_aload0 fField_passUntilDone_3 (wi_bipush fField_passUntilDone_4 (wi_putf215 fField_passUntilDone_5 (wi_bipush fField_passUntilDone_6 (wi_istore4 fField_passUntilDone_7 trivial ((h.2 _ rfl) _ rfl)))))))))))
set_option maxRecDepth 20000 in
theorem bField_passUntilDone_8 {xs : List Int} {d : Nat} {Q : Option w_V → w_M → Prop} {r0 : Nat} {v1 : Int} {v2 : Int} {v3 : Int} {v4 : Int} {σ : w_M}
    (h : (v1 ≤ v4 → ((¬ v3 = 0 → Q (some (.inl (-4))) σ) ∧ (v3 = 0 → Q (some (.inl 0)) σ))) ∧ (v4 < v1 → ((v3 ≤ 0 → ((¬ v3 = 0 → Q (some (.inl (-4))) σ) ∧ (v3 = 0 → Q (some (.inl 0)) σ))) ∧ (0 < v3 → ((v2 < (σ r0 15) → ((¬ v3 = 0 → Q (some (.inl (-4))) σ) ∧ (v3 = 0 → Q (some (.inl 0)) σ))) ∧ ((σ r0 15) ≤ v2 → (((σ r0 0) ≤ (σ r0 1) → ((¬ v3 = 0 → Q (some (.inl (-4))) σ) ∧ (v3 = 0 → Q (some (.inl 0)) σ))) ∧ ((σ r0 1) < (σ r0 0) → (p_Field_passHour r0 (w_bi (¬ w_and (w_shr (σ r0 2) (σ r0 1)) 1 = 0)) σ ∧ (∀ (y5 : Int) (τ6 : w_M), q_Field_passHour r0 (w_bi (¬ w_and (w_shr (σ r0 2) (σ r0 1)) 1 = 0)) σ y5 τ6 → (w_in (v3 - y5) ∧ (∀ (y7 : Int), y7 = (v3 - y5) → ((¬ y7 = 0 → (w_in (v4 + 1) ∧ LField_passUntilDone_8 xs (d + 4) Q r0 v1 v2 y7 (v4 + 1) τ6)) ∧ (y7 = 0 → (w_in (v4 + 1) ∧ Q (some (.inl (v4 + 1))) τ6))))))))))))))) : LField_passUntilDone_8 xs (d + 4) Q r0 v1 v2 v3 v4 σ :=
  (wi_iload4 fField_passUntilDone_8 (wi_iload1 fField_passUntilDone_9 (wi_ic_ge fField_passUntilDone_10 (fun c12 => (wi_iload3 fField_passUntilDone_39 (wi_if_ne fField_passUntilDone_40 (fun c1 => (wi_bipush fField_passUntilDone_43 (wi_ret1 fField_passUntilDone_44 ((h.1 c12).1 c1)))) (fun c1 => (wi_bipush fField_passUntilDone_41 (wi_goto fField_passUntilDone_42 (wi_ret1 fField_passUntilDone_44 ((h.1 c12).2 c1)))))))) (fun c12 => (wi_iload3 fField_passUntilDone_11 (wi_if_le fField_passUntilDone_12 (fun c11 => (wi_iload3 fField_passUntilDone_39 (wi_if_ne fField_passUntilDone_40 (fun c2 => (wi_bipush fField_passUntilDone_43 (wi_ret1 fField_passUntilDone_44 (((h.2 c12).1 c11).1 c2)))) (fun c2 => (wi_bipush fField_passUntilDone_41 (wi_goto fField_passUntilDone_42 (wi_ret1 fField_passUntilDone_44 (((h.2 c12).1 c11).2 c2)))))))) (fun c11 => (wi_aload0 fField_passUntilDone_13 (wi_getf215 fField_passUntilDone_14 (wi_iload2 fField_passUntilDone_15 (wi_ic_gt fField_passUntilDone_16 (fun c10 => (wi_iload3 fField_passUntilDone_39 (wi_if_ne fField_passUntilDone_40 (fun c3 => (wi_bipush fField_passUntilDone_43 (wi_ret1 fField_passUntilDone_44 ((((h.2 c12).2 c11).1 c10).1 c3)))) (fun c3 => (wi_bipush fField_passUntilDone_41 (wi_goto fField_passUntilDone_42 (wi_ret1 fField_passUntilDone_44 ((((h.2 c12).2 c11).1 c10).2 c3)))))))) (fun c10 => (wi_aload0 fField_passUntilDone_17 (wi_getf201 fField_passUntilDone_18 (wi_aload0 fField_passUntilDone_19 (wi_getf200 fField_passUntilDone_20 (wi_ic_ge fField_passUntilDone_21 (fun c9 => (wi_iload3 fField_passUntilDone_39 (wi_if_ne fField_passUntilDone_40 (fun c4 => (wi_bipush fField_passUntilDone_43 (wi_ret1 fField_passUntilDone_44 (((((h.2 c12).2 c11).2 c10).1 c9).1 c4)))) (fun c4 => (wi_bipush fField_passUntilDone_41 (wi_goto fField_passUntilDone_42 (wi_ret1 fField_passUntilDone_44 (((((h.2 c12).2 c11).2 c10).1 c9).2 c4)))))))) (fun c9 => (wi_iload3 fField_passUntilDone_22 (wi_aload0 fField_passUntilDone_23 (wi_aload0 fField_passUntilDone_24 (wi_aload0 fField_passUntilDone_25 (wi_getf201 fField_passUntilDone_26 (wi_call2 fField_passUntilDone_27 (Nat.le_of_ble_eq_true rfl) (k_Field_isCloudy (wi_call2 fField_passUntilDone_28 (Nat.le_of_ble_eq_true rfl) (k_Field_passHour ((((h.2 c12).2 c11).2 c10).2 c9).1 (fun y5 τ6 eτ6 => (wi_isub fField_passUntilDone_29 (((((h.2 c12).2 c11).2 c10).2 c9).2 y5 τ6 eτ6).1 (wi_istore3 fField_passUntilDone_30 trivial (wi_iload3 fField_passUntilDone_31 (wi_if_ne fField_passUntilDone_32 (fun c8 => (wi_iinc4 fField_passUntilDone_37 trivial (((((((h.2 c12).2 c11).2 c10).2 c9).2 y5 τ6 eτ6).2 _ rfl).1 c8).1 (wi_goto fField_passUntilDone_38 (((((((h.2 c12).2 c11).2 c10).2 c9).2 y5 τ6 eτ6).2 _ rfl).1 c8).2))) (fun c8 => (wi_iload4 fField_passUntilDone_33 (wi_bipush fField_passUntilDone_34 (wi_iadd fField_passUntilDone_35 (((((((h.2 c12).2 c11).2 c10).2 c9).2 y5 τ6 eτ6).2 _ rfl).2 c8).1 (wi_ret1 fField_passUntilDone_36 (((((((h.2 c12).2 c11).2 c10).2 c9).2 y5 τ6 eτ6).2 _ rfl).2 c8).2)))))))))))))))))))))))))))))))))))))
set_option maxHeartbeats 1000000 in
theorem k_Field_passUntilDone {xs : List Int} {d : Nat} {Q : Option w_V → w_M → Prop} {a : Nat} {x1 : Int} {x2 : Int} {σ : w_M} (hp : p_Field_passUntilDone a x1 x2 σ) (hQ : ∀ (x : Int) (σ' : w_M), q_Field_passUntilDone a x1 x2 σ x σ' → Q (some (.inl x)) σ') : w_Call (xs, d + 4) 45 [.inr (.inr (2, a)), .inl x1, .inl x2] σ Q := by
  obtain ⟨hok, n0, n1⟩ := hp
  have hrs := n_ok.hrs hok
  have hr := n_ok.hr hok
  have b1 := n_sd_le hok
  refine bField_passUntilDone_0 ⟨hok, fun y1 e1 τ2 t2 => ?_⟩
  have z00 : w_ab σ a 0 0 = σ a 0 := rfl
  have z01 : w_ab σ a 0 1 = σ a 1 := rfl
  refine (w_loop (n := 13) (P := fun k => ∀ (τ : w_M) (v : Int), (k : Int) ≤ x1 → σ a 1 + k ≤ σ a 0 → w_ab τ a = n_goes (w_ab σ a) k → w_fr σ τ a (a + 9) → τ a 15 = n_lostT (w_ab σ a) k → (0 ≤ n_lostT (w_ab σ a) k ∧ n_lostT (w_ab σ a) k ≤ 36 * k) → (∀ i, i < k → 0 < n_sd (n_goes (w_ab σ a) i)) → (k = 0 ∨ 0 < v) → v = n_sd (n_goes (w_ab σ a) k) → LField_passUntilDone_8 xs (d + 4) Q a x1 x2 v (k : Int) τ) ?_ ?_) τ2 y1 (by omega) (by omega) (by rw [t2]; exact w_ab_lost) (by rw [t2]; exact w_fr.up0 (by omega) (by omega)) (by rw [t2, w_up_at]; rfl) (by simp [n_lostT]) (fun i hi => by omega) (Or.inl rfl) e1
  · intro τ v h1
    omega
  · intro k hk ih τ v h1 h2 A1 F1 l1 lb hst hv0 ev
    obtain ⟨g1, g2, g3, g4⟩ := n_goes_all hok k
    rw [← A1] at g1 g2 g3 g4
    have b2 := n_sd_le g1
    rw [A1] at b2
    have stop : ∀ τ', (x1 ≤ k ∨ v ≤ 0 ∨ x2 < τ a 15 ∨ τ a 0 ≤ τ a 1) → τ' = τ → (¬ v = 0 → Q (some (.inl (-4))) τ') ∧ (v = 0 → Q (some (.inl 0)) τ') := by
      intro τ' hw et
      subst et
      have z0 : τ' a 0 = σ a 0 := g2.1 0 (by decide) (by decide)
      have z1 : τ' a 1 = σ a 1 + k := by
        have e : w_ab τ' a 0 1 = τ' a 1 := rfl
        rw [e, if_pos (by rw [z00, z01]; omega)] at g3
        exact g3
      refine ⟨fun hv => hQ _ _ ⟨k, A1, ⟨h1, h2, hst, Or.inr ⟨rfl, by omega, ?_⟩⟩, F1⟩, fun hv => ?_⟩
      · rw [← l1, z00, z01]
        rcases hw with hw | hw | hw | hw
        · left; omega
        · omega
        · right; right; exact hw
        · right; left; omega
      · rcases hv0 with rfl | hv0
        · exact hQ _ _ ⟨0, A1, ⟨h1, h2, hst, Or.inl ⟨rfl, by omega⟩⟩, F1⟩
        · omega
    refine bField_passUntilDone_8 ⟨fun c => stop τ (Or.inl c) rfl, fun c => ⟨fun c2 => stop τ (Or.inr (Or.inl c2)) rfl, fun c2 => ⟨fun c3 => stop τ (Or.inr (Or.inr (Or.inl c3))) rfl, fun c3 => ⟨fun c4 => stop τ (Or.inr (Or.inr (Or.inr c4))) rfl, fun c4 => ?_⟩⟩⟩⟩
    rw [w_bi_and1]
    have hc : n_cl (w_ab τ a) (w_ab τ a 0 1) = w_and (w_shr (τ a 2) (τ a 1)) 1 := rfl
    rw [← hc]
    refine ⟨⟨g1, c4, n_cl01 _ _⟩, ?_⟩
    intro y5 τ6 hq
    obtain ⟨q1, q2, q3, q4, -⟩ := hq
    have w1 := n_on_all g1 c4
    have b3 := n_sd_le w1.1
    have z0 : τ a 0 = σ a 0 := g2.1 0 (by decide) (by decide)
    have z1 : τ a 1 = σ a 1 + k := by
      have e : w_ab τ a 0 1 = τ a 1 := rfl
      rw [e, if_pos (by rw [z00, z01]; omega)] at g3
      exact g3
    have hw : n_goes (w_ab σ a) (k + 1) = n_on (w_ab τ a) := by
      simp only [n_goes]
      rw [← A1, if_pos (show w_ab τ a 0 1 < w_ab τ a 0 0 from c4)]
    have q2' : y5 = n_sd (w_ab τ a) - n_sd (n_on (w_ab τ a)) := q2
    rw [← A1] at ev
    have hl := (n_hourF_all g1 (n_cl01 (w_ab τ a) (w_ab τ a 0 1)) (n_n (w_ab τ a)) (Nat.le_refl _)).2.2.2.2
    have hn4 : (n_n (w_ab τ a) : Int) ≤ 4 := by have := n_WF.n g1; unfold n_n; omega
    have hT : n_lostT (w_ab σ a) (k + 1) = n_lostT (w_ab σ a) k + n_lostF (w_ab τ a) (n_cl (w_ab τ a) (w_ab τ a 0 1)) (n_n (w_ab τ a)) := by
      simp only [n_lostT]
      rw [← A1]
    have l6 : τ6 a 15 = n_lostT (w_ab σ a) (k + 1) := by
      rw [q4, l1, hT]
      exact w_wr_of ⟨by omega, by omega⟩
    have hst2 : ∀ i, i < k + 1 → 0 < n_sd (n_goes (w_ab σ a) i) := fun i hi => by
      by_cases hik : i = k
      · rw [hik, ← A1]; omega
      · exact hst i (by omega)
    refine ⟨⟨by omega, by omega⟩, fun y7 e7 => ⟨fun c5 => ⟨⟨by omega, by omega⟩, ?_⟩, fun c5 => ⟨⟨by omega, by omega⟩, ?_⟩⟩⟩
    · rw [← w_cs1]
      exact ih τ6 y7 (by omega) (by omega) (by rw [hw]; exact q1) (F1.tr q3) l6 (by rw [hT]; omega) hst2 (Or.inr (by omega)) (by rw [hw]; omega)
    · refine hQ _ _ ⟨k + 1, by rw [hw]; exact q1, ⟨by omega, by rw [z00, z01]; omega, hst2, Or.inl ⟨by omega, by rw [hw]; omega⟩⟩, F1.tr q3⟩
/-- how often he would cut in k hours, if yards stood all the time: edge, oil, cuts -/
noncomputable def n_cutF (A : w_M) (r : Nat) (o : Int) : Nat → Int × Int × Int
  | 0 => (A 5 r, o, 0)
  | k + 1 => if (n_cutF A r o k).1 = 0 then (3, (n_cutF A r o k).2.1, (n_cutF A r o k).2.2)
    else if n_cl A (A 0 1 + k) = 0 ∨ 0 < (n_cutF A r o k).2.1 then ((n_cutF A r o k).1 - 1, (n_cutF A r o k).2.1 - n_cl A (A 0 1 + k), (n_cutF A r o k).2.2 + 1)
    else n_cutF A r o k
/-- hours that are left, n at the most -/
noncomputable def n_lft (A : w_M) (n : Int) : Nat := if n ≤ A 0 0 - A 0 1 then n.toNat else (A 0 0 - A 0 1).toNat
noncomputable def p_Field_cutsAhead (a : Nat) (r o n : Int) (σ : w_M) : Prop := n_ok σ a ∧ (0 ≤ r ∧ r < σ a 5) ∧ (0 ≤ o ∧ o ≤ 9) ∧ (0 ≤ n ∧ n ≤ 12)
noncomputable def v_Field_cutsAhead (a : Nat) (r o n : Int) (σ : w_M) : Int := (n_cutF (w_ab σ a) r.toNat o (n_lft (w_ab σ a) n)).2.2
theorem fField_cutsAhead_0 : w_fe am_c46 0 1 (.aload 0) := ⟨rfl, rfl⟩
theorem fField_cutsAhead_1 : w_fe am_c46 1 2 (.getfield 211) := ⟨rfl, rfl⟩
theorem fField_cutsAhead_2 : w_fe am_c46 2 3 (.iload 1) := ⟨rfl, rfl⟩
theorem fField_cutsAhead_3 : w_fe am_c46 3 4 (.iaload) := ⟨rfl, rfl⟩
theorem fField_cutsAhead_4 : w_fe am_c46 4 5 (.istore 4) := ⟨rfl, rfl⟩
theorem fField_cutsAhead_5 : w_fe am_c46 5 6 (.iload 2) := ⟨rfl, rfl⟩
theorem fField_cutsAhead_6 : w_fe am_c46 6 7 (.istore 5) := ⟨rfl, rfl⟩
theorem fField_cutsAhead_7 : w_fe am_c46 7 8 (.bipush 0) := ⟨rfl, rfl⟩
theorem fField_cutsAhead_8 : w_fe am_c46 8 9 (.istore 6) := ⟨rfl, rfl⟩
theorem fField_cutsAhead_9 : w_fe am_c46 9 10 (.aload 0) := ⟨rfl, rfl⟩
theorem fField_cutsAhead_10 : w_fe am_c46 10 11 (.getfield 201) := ⟨rfl, rfl⟩
theorem fField_cutsAhead_11 : w_fe am_c46 11 12 (.istore 7) := ⟨rfl, rfl⟩
theorem fField_cutsAhead_12 : w_fe am_c46 12 13 (.iload 7) := ⟨rfl, rfl⟩
theorem fField_cutsAhead_13 : w_fe am_c46 13 14 (.aload 0) := ⟨rfl, rfl⟩
theorem fField_cutsAhead_14 : w_fe am_c46 14 15 (.getfield 200) := ⟨rfl, rfl⟩
theorem fField_cutsAhead_15 : w_ic am_c46 15 16 .ge 42 := ⟨rfl, rfl⟩
theorem fField_cutsAhead_16 : w_fe am_c46 16 17 (.iload 7) := ⟨rfl, rfl⟩
theorem fField_cutsAhead_17 : w_fe am_c46 17 18 (.aload 0) := ⟨rfl, rfl⟩
theorem fField_cutsAhead_18 : w_fe am_c46 18 19 (.getfield 201) := ⟨rfl, rfl⟩
theorem fField_cutsAhead_19 : w_fe am_c46 19 20 (.isub) := ⟨rfl, rfl⟩
theorem fField_cutsAhead_20 : w_fe am_c46 20 21 (.iload 3) := ⟨rfl, rfl⟩
theorem fField_cutsAhead_21 : w_ic am_c46 21 22 .ge 42 := ⟨rfl, rfl⟩
theorem fField_cutsAhead_22 : w_fe am_c46 22 23 (.aload 0) := ⟨rfl, rfl⟩
theorem fField_cutsAhead_23 : w_fe am_c46 23 24 (.iload 7) := ⟨rfl, rfl⟩
theorem fField_cutsAhead_24 : w_fe am_c46 24 25 (.invokestatic 29) := ⟨rfl, rfl⟩
theorem fField_cutsAhead_25 : w_fe am_c46 25 26 (.istore 8) := ⟨rfl, rfl⟩
theorem fField_cutsAhead_26 : w_fe am_c46 26 27 (.iload 4) := ⟨rfl, rfl⟩
theorem fField_cutsAhead_27 : w_if am_c46 27 28 .ne 31 := ⟨rfl, rfl⟩
theorem fField_cutsAhead_28 : w_fe am_c46 28 29 (.bipush 3) := ⟨rfl, rfl⟩
theorem fField_cutsAhead_29 : w_fe am_c46 29 30 (.istore 4) := ⟨rfl, rfl⟩
theorem fField_cutsAhead_30 : w_gt am_c46 30 40 := rfl
theorem fField_cutsAhead_31 : w_fe am_c46 31 32 (.iload 8) := ⟨rfl, rfl⟩
theorem fField_cutsAhead_32 : w_if am_c46 32 33 .eq 35 := ⟨rfl, rfl⟩
theorem fField_cutsAhead_33 : w_fe am_c46 33 34 (.iload 5) := ⟨rfl, rfl⟩
theorem fField_cutsAhead_34 : w_if am_c46 34 35 .le 40 := ⟨rfl, rfl⟩
theorem fField_cutsAhead_35 : w_fe am_c46 35 36 (.iinc 4 (-1)) := ⟨rfl, rfl⟩
theorem fField_cutsAhead_36 : w_fe am_c46 36 37 (.iinc 6 1) := ⟨rfl, rfl⟩
theorem fField_cutsAhead_37 : w_fe am_c46 37 38 (.iload 8) := ⟨rfl, rfl⟩
theorem fField_cutsAhead_38 : w_if am_c46 38 39 .eq 40 := ⟨rfl, rfl⟩
theorem fField_cutsAhead_39 : w_fe am_c46 39 40 (.iinc 5 (-1)) := ⟨rfl, rfl⟩
theorem fField_cutsAhead_40 : w_fe am_c46 40 41 (.iinc 7 1) := ⟨rfl, rfl⟩
theorem fField_cutsAhead_41 : w_gt am_c46 41 12 := rfl
theorem fField_cutsAhead_42 : w_fe am_c46 42 43 (.iload 6) := ⟨rfl, rfl⟩
theorem fField_cutsAhead_43 : w_fe am_c46 43 44 (.ireturn) := ⟨rfl, rfl⟩
noncomputable def LField_cutsAhead_12 (xs : List Int) (d : Nat) (Q : Option w_V → w_M → Prop) (r0 : Nat) (v3 : Int) (v4 : Int) (v5 : Int) (v6 : Int) (v7 : Int) (σ : w_M) : Prop := ∀ l1, w_nl l1 → ∀ l2, w_nl l2 → ∀ l8, w_nl l8 → w_Ex (xs, d) 1 am_c46 Q 12 [some (.inr (.inr (2, r0))), l1, l2, some (.inl v3), some (.inl v4), some (.inl v5), some (.inl v6), some (.inl v7), l8] [] σ
set_option maxRecDepth 20000 in
theorem bField_cutsAhead_0 {xs : List Int} {d : Nat} {Q : Option w_V → w_M → Prop} {a : Nat} {x1 : Int} {x2 : Int} {x3 : Int} {σ : w_M}
    (h : 0 ≤ x1 ∧ x1 < 4 ∧ (∀ (y1 : Int), y1 = (σ (a + 5) x1.toNat) → ∀ (y2 : Int), y2 = (σ a 1) → LField_cutsAhead_12 xs (d + 1) Q a x3 y1 x2 0 y2 σ)) : w_Call (xs, (d + 1)) 46 [.inr (.inr (2, a)), .inl x1, .inl x2, .inl x3] σ Q :=
  (w_mk (mid := 46) (by decide) rfl rfl rfl rfl rfl (Nat.le_of_ble_eq_true rfl) ⟨rfl, Or.inl (by decide)⟩ (wi_aload0 fField_cutsAhead_0 (wi_getf211 fField_cutsAhead_1 (wi_iload1 fField_cutsAhead_2 (wi_iald1004 fField_cutsAhead_3 h.1 h.2.1 (wi_istore4 fField_cutsAhead_4 trivial (wi_iload2 fField_cutsAhead_5 (wi_istore5 fField_cutsAhead_6 trivial (wi_bipush fField_cutsAhead_7 (wi_istore6 fField_cutsAhead_8 trivial (wi_aload0 fField_cutsAhead_9 (wi_getf201 fField_cutsAhead_10 (wi_istore7 fField_cutsAhead_11 trivial (((h.2.2 _ rfl) _ rfl) _ (by exact trivial) _ (by exact trivial) _ (by exact trivial)))))))))))))))
set_option maxRecDepth 20000 in
theorem bField_cutsAhead_12 {xs : List Int} {d : Nat} {Q : Option w_V → w_M → Prop} {r0 : Nat} {v3 : Int} {v4 : Int} {v5 : Int} {v6 : Int} {v7 : Int} {σ : w_M}
    (h : ((σ r0 0) ≤ v7 → Q (some (.inl v6)) σ) ∧ (v7 < (σ r0 0) → (w_in (v7 - (σ r0 1)) ∧ ((v3 ≤ (v7 - (σ r0 1)) → Q (some (.inl v6)) σ) ∧ ((v7 - (σ r0 1)) < v3 → ∀ (y1 : Int), y1 = (w_bi (¬ w_and (w_shr (σ r0 2) v7) 1 = 0)) → ((¬ v4 = 0 → ((y1 = 0 → (w_in (v4 + (-1)) ∧ w_in (v6 + 1) ∧ w_in (v7 + 1) ∧ LField_cutsAhead_12 xs (d + 1) Q r0 v3 (v4 + (-1)) v5 (v6 + 1) (v7 + 1) σ)) ∧ (¬ y1 = 0 → ((v5 ≤ 0 → (w_in (v7 + 1) ∧ LField_cutsAhead_12 xs (d + 1) Q r0 v3 v4 v5 v6 (v7 + 1) σ)) ∧ (0 < v5 → (w_in (v4 + (-1)) ∧ w_in (v6 + 1) ∧ w_in (v5 + (-1)) ∧ w_in (v7 + 1) ∧ LField_cutsAhead_12 xs (d + 1) Q r0 v3 (v4 + (-1)) (v5 + (-1)) (v6 + 1) (v7 + 1) σ)))))) ∧ (v4 = 0 → (w_in (v7 + 1) ∧ LField_cutsAhead_12 xs (d + 1) Q r0 v3 3 v5 v6 (v7 + 1) σ)))))))) : LField_cutsAhead_12 xs (d + 1) Q r0 v3 v4 v5 v6 v7 σ :=
  fun l1 nl1 => fun l2 nl2 => fun l8 nl8 => (wi_iload7 fField_cutsAhead_12 (wi_aload0 fField_cutsAhead_13 (wi_getf200 fField_cutsAhead_14 (wi_ic_ge fField_cutsAhead_15 (fun c6 => (wi_iload6 fField_cutsAhead_42 (wi_ret1 fField_cutsAhead_43 (h.1 c6)))) (fun c6 => (wi_iload7 fField_cutsAhead_16 (wi_aload0 fField_cutsAhead_17 (wi_getf201 fField_cutsAhead_18 (wi_isub fField_cutsAhead_19 (h.2 c6).1 (wi_iload3 fField_cutsAhead_20 (wi_ic_ge fField_cutsAhead_21 (fun c5 => (wi_iload6 fField_cutsAhead_42 (wi_ret1 fField_cutsAhead_43 ((h.2 c6).2.1 c5)))) (fun c5 => (wi_aload0 fField_cutsAhead_22 (wi_iload7 fField_cutsAhead_23 (wi_call2 fField_cutsAhead_24 (Nat.le_of_ble_eq_true rfl) (k_Field_isCloudy (wi_istore8 fField_cutsAhead_25 trivial (wi_iload4 fField_cutsAhead_26 (wi_if_ne fField_cutsAhead_27 (fun c4 => (wi_iload8 fField_cutsAhead_31 (wi_if_eq fField_cutsAhead_32 (fun c3 => (wi_iinc4 fField_cutsAhead_35 trivial (((((h.2 c6).2.2 c5) _ rfl).1 c4).1 c3).1 (wi_iinc6 fField_cutsAhead_36 trivial (((((h.2 c6).2.2 c5) _ rfl).1 c4).1 c3).2.1 (wi_iload8 fField_cutsAhead_37 (wi_if_eq fField_cutsAhead_38 (fun _ => (wi_iinc7 fField_cutsAhead_40 trivial (((((h.2 c6).2.2 c5) _ rfl).1 c4).1 c3).2.2.1 (wi_goto fField_cutsAhead_41 ((((((h.2 c6).2.2 c5) _ rfl).1 c4).1 c3).2.2.2 _ nl1 _ nl2 _ (by exact trivial))))) (fun e => absurd c3 (w_n_eq e))))))) (fun c3 => (wi_iload5 fField_cutsAhead_33 (wi_if_le fField_cutsAhead_34 (fun c2 => (wi_iinc7 fField_cutsAhead_40 trivial ((((((h.2 c6).2.2 c5) _ rfl).1 c4).2 c3).1 c2).1 (wi_goto fField_cutsAhead_41 (((((((h.2 c6).2.2 c5) _ rfl).1 c4).2 c3).1 c2).2 _ nl1 _ nl2 _ (by exact trivial))))) (fun c2 => (wi_iinc4 fField_cutsAhead_35 trivial ((((((h.2 c6).2.2 c5) _ rfl).1 c4).2 c3).2 c2).1 (wi_iinc6 fField_cutsAhead_36 trivial ((((((h.2 c6).2.2 c5) _ rfl).1 c4).2 c3).2 c2).2.1 (wi_iload8 fField_cutsAhead_37 (wi_if_eq fField_cutsAhead_38 (fun e => absurd c3 (w_m_eq e)) (fun _ => (wi_iinc5 fField_cutsAhead_39 trivial ((((((h.2 c6).2.2 c5) _ rfl).1 c4).2 c3).2 c2).2.2.1 (wi_iinc7 fField_cutsAhead_40 trivial ((((((h.2 c6).2.2 c5) _ rfl).1 c4).2 c3).2 c2).2.2.2.1 (wi_goto fField_cutsAhead_41 (((((((h.2 c6).2.2 c5) _ rfl).1 c4).2 c3).2 c2).2.2.2.2 _ nl1 _ nl2 _ (by exact trivial))))))))))))))))) (fun c4 => (wi_bipush fField_cutsAhead_28 (wi_istore4 fField_cutsAhead_29 trivial (wi_goto fField_cutsAhead_30 (wi_iinc7 fField_cutsAhead_40 trivial ((((h.2 c6).2.2 c5) _ rfl).2 c4).1 (wi_goto fField_cutsAhead_41 (((((h.2 c6).2.2 c5) _ rfl).2 c4).2 _ nl1 _ nl2 _ (by exact trivial)))))))))))))))))))))))))))
theorem n_cutF_le {A : w_M} (h : n_WF A) {r : Nat} (hr : r < n_n A) {o : Int} (ho : 0 ≤ o ∧ o ≤ 9) : ∀ k : Nat, (0 ≤ (n_cutF A r o k).1 ∧ (n_cutF A r o k).1 ≤ 3) ∧ (0 ≤ (n_cutF A r o k).2.1 ∧ (n_cutF A r o k).2.1 ≤ 9) ∧ (0 ≤ (n_cutF A r o k).2.2 ∧ (n_cutF A r o k).2.2 ≤ k) := by
  intro k
  induction k with
  | zero =>
    have := (h.r hr).2.2.1
    simp only [n_cutF]
    omega
  | succ k ih =>
    have c01 := n_cl01 A (A 0 1 + k)
    simp only [n_cutF]
    split
    · simp only; omega
    · split
      · simp only; omega
      · omega
set_option maxHeartbeats 1000000 in
theorem k_Field_cutsAhead {xs : List Int} {d : Nat} {Q : Option w_V → w_M → Prop} {a : Nat} {x1 : Int} {x2 : Int} {x3 : Int} {σ : w_M} (hp : p_Field_cutsAhead a x1 x2 x3 σ) (hQ : Q (some (.inl (v_Field_cutsAhead a x1 x2 x3 σ))) σ) : w_Call (xs, d + 1) 46 [.inr (.inr (2, a)), .inl x1, .inl x2, .inl x3] σ Q := by
  obtain ⟨hok, ⟨r0, r1⟩, ho, hn⟩ := hp
  obtain ⟨r, rfl⟩ := Int.eq_ofNat_of_zero_le r0
  have hnn := n_ok.n hok
  have hr : r < (σ a 5).toNat := by omega
  have hrs := n_ok.hrs hok
  have hrr := n_ok.hr hok
  have e5 : σ (a + 5) r = w_ab σ a 5 r := w_rd (by decide) (by rw [w_rl37 (by decide) (by decide)]; exact hr)
  have hl : n_lft (w_ab σ a) x3 = if x3 ≤ σ a 0 - σ a 1 then x3.toNat else (σ a 0 - σ a 1).toNat := rfl
  unfold v_Field_cutsAhead at hQ
  rw [Int.toNat_natCast] at hQ
  refine bField_cutsAhead_0 ⟨r0, by omega, fun y1 e1 y2 e2 => ?_⟩
  have key : LField_cutsAhead_12 xs (d + 1) Q a x3 (n_cutF (w_ab σ a) r x2 0).1 (n_cutF (w_ab σ a) r x2 0).2.1 (n_cutF (w_ab σ a) r x2 0).2.2 (σ a 1 + ((0 : Nat) : Int)) σ := by
    refine w_loop (n := n_lft (w_ab σ a) x3) (P := fun k => LField_cutsAhead_12 xs (d + 1) Q a x3 (n_cutF (w_ab σ a) r x2 k).1 (n_cutF (w_ab σ a) r x2 k).2.1 (n_cutF (w_ab σ a) r x2 k).2.2 (σ a 1 + (k : Int)) σ) ?_ ?_
    · rw [hl] at hQ ⊢
      split
      · rename_i hc
        rw [if_pos hc] at hQ
        exact bField_cutsAhead_12 ⟨fun _ => hQ, fun _ => ⟨⟨by omega, by omega⟩, fun _ => hQ, fun c => by omega⟩⟩
      · rename_i hc
        rw [if_neg hc] at hQ
        exact bField_cutsAhead_12 ⟨fun _ => hQ, fun c => by omega⟩
    · intro k hk ih
      have hk2 : (k : Int) < x3 ∧ σ a 1 + (k : Int) < σ a 0 := by
        rw [hl] at hk
        split at hk <;> omega
      obtain ⟨c1, c2, c3⟩ := n_cutF_le hok hr ho k
      have ec : n_cl (w_ab σ a) (w_ab σ a 0 1 + (k : Int)) = w_and (w_shr (σ a 2) (σ a 1 + (k : Int))) 1 := rfl
      have e01 := n_cl01 (w_ab σ a) (w_ab σ a 0 1 + (k : Int))
      simp only [n_cutF] at ih
      rw [w_cs1, ← Int.add_assoc] at ih
      refine bField_cutsAhead_12 ⟨fun c => by omega, fun c => ⟨⟨by omega, by omega⟩, fun c4 => by omega, fun c4 => ?_⟩⟩
      intro y1 ey
      rw [w_bi_and1, ← ec] at ey
      refine ⟨fun s => ⟨fun s2 => ⟨⟨by omega, by omega⟩, ⟨by omega, by omega⟩, ⟨by omega, by omega⟩, ?_⟩, fun s2 => ⟨fun s3 => ⟨⟨by omega, by omega⟩, ?_⟩, fun s3 => ⟨⟨by omega, by omega⟩, ⟨by omega, by omega⟩, ⟨by omega, by omega⟩, ⟨by omega, by omega⟩, ?_⟩⟩⟩, fun s => ⟨⟨by omega, by omega⟩, ?_⟩⟩
      · rw [if_neg s, if_pos (by omega), ← ey, s2, Int.sub_zero] at ih
        exact ih
      · rw [if_neg s, if_neg (by omega)] at ih
        exact ih
      · rw [if_neg s, if_pos (by omega), ← ey, show y1 = 1 by omega] at ih
        exact ih
      · rw [if_pos s] at ih
        exact ih
  rw [show σ a 1 + ((0 : Nat) : Int) = σ a 1 from Int.add_zero _] at key
  rw [e1, e2, Int.toNat_natCast, e5]
  exact key
noncomputable def q_Field_clear (a : Nat) (σ σ' : w_M) : Prop := (σ' a 0 = 8 ∧ σ' a 1 = 0 ∧ σ' a 2 = 0 ∧ σ' a 3 = -4 ∧ σ' a 4 = 0 ∧ σ' a 5 = 0 ∧ σ' a 6 = 0) ∧ (∀ o, o < 4 → σ' (a + 8) o = 0) ∧ w_fr σ σ' a (a + 9)
theorem fField_clear_0 : w_fe am_c28 0 1 (.aload 0) := ⟨rfl, rfl⟩
theorem fField_clear_1 : w_fe am_c28 1 2 (.bipush 8) := ⟨rfl, rfl⟩
theorem fField_clear_2 : w_fe am_c28 2 3 (.putfield 200) := ⟨rfl, rfl⟩
theorem fField_clear_3 : w_fe am_c28 3 4 (.aload 0) := ⟨rfl, rfl⟩
theorem fField_clear_4 : w_fe am_c28 4 5 (.bipush 0) := ⟨rfl, rfl⟩
theorem fField_clear_5 : w_fe am_c28 5 6 (.putfield 201) := ⟨rfl, rfl⟩
theorem fField_clear_6 : w_fe am_c28 6 7 (.aload 0) := ⟨rfl, rfl⟩
theorem fField_clear_7 : w_fe am_c28 7 8 (.bipush 0) := ⟨rfl, rfl⟩
theorem fField_clear_8 : w_fe am_c28 8 9 (.putfield 202) := ⟨rfl, rfl⟩
theorem fField_clear_9 : w_fe am_c28 9 10 (.aload 0) := ⟨rfl, rfl⟩
theorem fField_clear_10 : w_fe am_c28 10 11 (.bipush (-4)) := ⟨rfl, rfl⟩
theorem fField_clear_11 : w_fe am_c28 11 12 (.putfield 203) := ⟨rfl, rfl⟩
theorem fField_clear_12 : w_fe am_c28 12 13 (.aload 0) := ⟨rfl, rfl⟩
theorem fField_clear_13 : w_fe am_c28 13 14 (.bipush 0) := ⟨rfl, rfl⟩
theorem fField_clear_14 : w_fe am_c28 14 15 (.putfield 204) := ⟨rfl, rfl⟩
theorem fField_clear_15 : w_fe am_c28 15 16 (.aload 0) := ⟨rfl, rfl⟩
theorem fField_clear_16 : w_fe am_c28 16 17 (.bipush 0) := ⟨rfl, rfl⟩
theorem fField_clear_17 : w_fe am_c28 17 18 (.putfield 205) := ⟨rfl, rfl⟩
theorem fField_clear_18 : w_fe am_c28 18 19 (.aload 0) := ⟨rfl, rfl⟩
theorem fField_clear_19 : w_fe am_c28 19 20 (.bipush 0) := ⟨rfl, rfl⟩
theorem fField_clear_20 : w_fe am_c28 20 21 (.putfield 206) := ⟨rfl, rfl⟩
theorem fField_clear_21 : w_fe am_c28 21 22 (.aload 0) := ⟨rfl, rfl⟩
theorem fField_clear_22 : w_fe am_c28 22 23 (.getfield 214) := ⟨rfl, rfl⟩
theorem fField_clear_23 : w_fe am_c28 23 24 (.bipush 0) := ⟨rfl, rfl⟩
theorem fField_clear_24 : w_fe am_c28 24 25 (.invokestatic 4) := ⟨rfl, rfl⟩
theorem fField_clear_25 : w_fe am_c28 25 26 (.return_) := ⟨rfl, rfl⟩
set_option maxRecDepth 20000 in
theorem bField_clear_0 {xs : List Int} {d : Nat} {Q : Option w_V → w_M → Prop} {a : Nat} {σ : w_M}
    (h : ∀ (τ1 : w_M), τ1 = w_up σ a 0 8 → ∀ (τ2 : w_M), τ2 = w_up τ1 a 1 0 → ∀ (τ3 : w_M), τ3 = w_up τ2 a 2 0 → ∀ (τ4 : w_M), τ4 = w_up τ3 a 3 (-4) → ∀ (τ5 : w_M), τ5 = w_up τ4 a 4 0 → ∀ (τ6 : w_M), τ6 = w_up τ5 a 5 0 → ∀ (τ7 : w_M), τ7 = w_up τ6 a 6 0 → ∀ (τ8 : w_M), q_Arrays_fill (a + 8) 0 τ7 τ8 → Q none τ8) : w_Call (xs, (d + 1)) 28 [.inr (.inr (2, a))] σ Q :=
  (w_mk (mid := 28) (by decide) rfl rfl rfl rfl rfl (Nat.le_of_ble_eq_true rfl) ⟨rfl, Or.inl (by decide)⟩ (wi_aload0 fField_clear_0 (wi_bipush fField_clear_1 (wi_putf200 fField_clear_2 (wi_aload0 fField_clear_3 (wi_bipush fField_clear_4 (wi_putf201 fField_clear_5 (wi_aload0 fField_clear_6 (wi_bipush fField_clear_7 (wi_putf202 fField_clear_8 (wi_aload0 fField_clear_9 (wi_bipush fField_clear_10 (wi_putf203 fField_clear_11 (wi_aload0 fField_clear_12 (wi_bipush fField_clear_13 (wi_putf204 fField_clear_14 (wi_aload0 fField_clear_15 (wi_bipush fField_clear_16 (wi_putf205 fField_clear_17 (wi_aload0 fField_clear_18 (wi_bipush fField_clear_19 (wi_putf206 fField_clear_20 (wi_aload0 fField_clear_21 (wi_getf214 fField_clear_22 (wi_bipush fField_clear_23 (wi_call2 fField_clear_24 (Nat.le_of_ble_eq_true rfl) (k_Arrays_fill (fun τ8 eτ8 => (wi_ret0 fField_clear_25 ((((((((h _ rfl) _ rfl) _ rfl) _ rfl) _ rfl) _ rfl) _ rfl) τ8 eτ8))))))))))))))))))))))))))))))
theorem k_Field_clear {xs : List Int} {d : Nat} {Q : Option w_V → w_M → Prop} {a : Nat} {σ : w_M} (hQ : ∀ σ' : w_M, q_Field_clear a σ σ' → Q none σ') : w_Call (xs, d + 1) 28 [.inr (.inr (2, a))] σ Q := by
  refine bField_clear_0 ?_
  intro τ1 t1 τ2 t2 τ3 t3 τ4 t4 τ5 t5 τ6 t6 τ7 t7 τ8 hq
  unfold q_Arrays_fill at hq
  have h8 : τ8 a = τ7 a := by rw [hq]; exact f_fill_ne (by omega)
  refine hQ _ ⟨?_, fun o ho => by rw [hq]; exact f_fill_at ho, fun b hb => ?_⟩
  · rw [h8, t7, t6, t5, t4, t3, t2, t1]
    simp [w_up]
  · rw [hq, f_fill_ne (by omega), t7, w_up_ne (by omega), t6, w_up_ne (by omega), t5, w_up_ne (by omega), t4, w_up_ne (by omega), t3, w_up_ne (by omega), t2, w_up_ne (by omega), t1, w_up_ne (by omega)]
