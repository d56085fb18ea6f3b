/-! The reference's hours -/
noncomputable def p_Model_goesBy (c : Int) (σ : w_M) : Prop := m_ok σ 124 0 ∧ σ 124 42 < σ 122 3 ∧ (c = 0 ∨ c = 1)
noncomputable def q_Model_goesBy (c : Int) (σ σ' : w_M) : Prop := w_am σ' 124 0 = n_hour (w_am σ 124 0) c ∧ w_g1 σ σ'
theorem fModel_goesBy_0 : w_fe am_c196 0 1 (.bipush 0) := ⟨rfl, rfl⟩
theorem fModel_goesBy_1 : w_fe am_c196 1 2 (.istore 2) := ⟨rfl, rfl⟩
theorem fModel_goesBy_2 : w_fe am_c196 2 3 (.iload 2) := ⟨rfl, rfl⟩
theorem fModel_goesBy_3 : w_fe am_c196 3 4 (.aload 0) := ⟨rfl, rfl⟩
theorem fModel_goesBy_4 : w_fe am_c196 4 5 (.getfield 905) := ⟨rfl, rfl⟩
theorem fModel_goesBy_5 : w_ic am_c196 5 6 .ge 12 := ⟨rfl, rfl⟩
theorem fModel_goesBy_6 : w_fe am_c196 6 7 (.aload 0) := ⟨rfl, rfl⟩
theorem fModel_goesBy_7 : w_fe am_c196 7 8 (.iload 2) := ⟨rfl, rfl⟩
theorem fModel_goesBy_8 : w_fe am_c196 8 9 (.iload 1) := ⟨rfl, rfl⟩
theorem fModel_goesBy_9 : w_fe am_c196 9 10 (.invokestatic 197) := ⟨rfl, rfl⟩
theorem fModel_goesBy_10 : w_fe am_c196 10 11 (.iinc 2 1) := ⟨rfl, rfl⟩
theorem fModel_goesBy_11 : w_gt am_c196 11 2 := rfl
theorem fModel_goesBy_12 : w_fe am_c196 12 13 (.aload 0) := ⟨rfl, rfl⟩
theorem fModel_goesBy_13 : w_fe am_c196 13 14 (.getfield 901) := ⟨rfl, rfl⟩
theorem fModel_goesBy_14 : w_fe am_c196 14 15 (.bipush 42) := ⟨rfl, rfl⟩
theorem fModel_goesBy_15 : w_fe am_c196 15 16 (.dup2) := ⟨rfl, rfl⟩
theorem fModel_goesBy_16 : w_fe am_c196 16 17 (.iaload) := ⟨rfl, rfl⟩
theorem fModel_goesBy_17 : w_fe am_c196 17 18 (.bipush 1) := ⟨rfl, rfl⟩
theorem fModel_goesBy_18 : w_fe am_c196 18 19 (.iadd) := ⟨rfl, rfl⟩
theorem fModel_goesBy_19 : w_fe am_c196 19 20 (.iastore) := ⟨rfl, rfl⟩
theorem fModel_goesBy_20 : w_fe am_c196 20 21 (.return_) := ⟨rfl, rfl⟩
noncomputable def LModel_goesBy_2 (xs : List Int) (d : Nat) (Q : Option w_V → w_M → Prop) (v1 : Int) (v2 : Int) (σ : w_M) : Prop := w_Ex (xs, d) 0 am_c196 Q 2 [some (.inr (.inr (9, 122))), some (.inl v1), some (.inl v2)] [] σ
set_option maxRecDepth 20000 in
theorem bModel_goesBy_0 {xs : List Int} {d : Nat} {Q : Option w_V → w_M → Prop} {x1 : Int} {σ : w_M}
    (h : LModel_goesBy_2 xs (d + 3) Q x1 0 σ) : w_Call (xs, (d + 3)) 196 [.inr (.inr (9, 122)), .inl x1] σ Q :=
  (w_mk (mid := 196) (by decide) rfl rfl rfl rfl rfl (Nat.le_of_ble_eq_true rfl) ⟨rfl, Or.inl (by decide)⟩ (wi_bipush fModel_goesBy_0 (wi_istore2 fModel_goesBy_1 trivial h)))
set_option maxRecDepth 20000 in
theorem bModel_goesBy_2 {xs : List Int} {d : Nat} {Q : Option w_V → w_M → Prop} {v1 : Int} {v2 : Int} {σ : w_M}
    (h : ((σ 122 5) ≤ v2 → (w_in ((σ 124 42) + 1) ∧ (∀ (τ1 : w_M), τ1 = w_up σ 124 42 ((σ 124 42) + 1) → Q none τ1))) ∧ (v2 < (σ 122 5) → (p_Model_does v2 v1 σ ∧ (∀ (τ2 : w_M), q_Model_does v2 v1 σ τ2 → (w_in (v2 + 1) ∧ LModel_goesBy_2 xs (d + 3) Q v1 (v2 + 1) τ2))))) : LModel_goesBy_2 xs (d + 3) Q v1 v2 σ :=
  (wi_iload2 fModel_goesBy_2 (wi_aload0 fModel_goesBy_3 (wi_getf905 fModel_goesBy_4 (wi_ic_ge fModel_goesBy_5 (fun c3 => (wi_aload0 fModel_goesBy_12 (wi_getf901 fModel_goesBy_13 (wi_bipush fModel_goesBy_14 (wi_dup2 fModel_goesBy_15 (wi_iald1082 fModel_goesBy_16 (by decide) (by decide) (wi_bipush fModel_goesBy_17 (wi_iadd fModel_goesBy_18 (h.1 c3).1 (wi_iast1082 fModel_goesBy_19 (by decide) (by decide) (wi_ret0 fModel_goesBy_20 ((h.1 c3).2 _ rfl))))))))))) (fun c3 => (wi_aload0 fModel_goesBy_6 (wi_iload2 fModel_goesBy_7 (wi_iload1 fModel_goesBy_8 (wi_call3 fModel_goesBy_9 (Nat.le_of_ble_eq_true rfl) (k_Model_does (h.2 c3).1 (fun τ2 eτ2 => (wi_iinc2 fModel_goesBy_10 trivial ((h.2 c3).2 τ2 eτ2).1 (wi_goto fModel_goesBy_11 ((h.2 c3).2 τ2 eτ2).2)))))))))))))
theorem m_ok.of {σ : w_M} {c o : Nat} (h : n_WF (w_am σ c o)) : m_ok σ c o := h
theorem k_Model_goesBy {xs : List Int} {d : Nat} {Q : Option w_V → w_M → Prop} {x1 : Int} {σ : w_M} (hp : p_Model_goesBy x1 σ) (hQ : ∀ σ' : w_M, q_Model_goesBy x1 σ σ' → Q none σ') : w_Call (xs, d + 3) 196 [.inr (.inr (9, 122)), .inl x1] σ Q := by
  obtain ⟨hok, hh, hc⟩ := hp
  have hn := m_ok.n hok
  have hrs := m_ok.hrs hok
  have hr : 0 ≤ σ 124 42 ∧ σ 124 42 ≤ σ 122 3 := m_ok.hr hok
  refine bModel_goesBy_0 ?_
  refine (w_loop (n := (σ 122 5).toNat) (P := fun k => ∀ τ : w_M, w_am τ 124 0 = n_hourF (w_am σ 124 0) x1 k → w_g1 σ τ → LModel_goesBy_2 xs (d + 3) Q x1 (k : Int) τ) ?_ ?_) σ rfl w_g1.rfl'
  · intro τ A1 F1
    obtain ⟨g1, g2, g3, g4, g5⟩ := n_hourF_all hok hc (n_n (w_am σ 124 0)) (Nat.le_refl _)
    have A1' : w_am τ 124 0 = n_hourF (w_am σ 124 0) x1 (n_n (w_am σ 124 0)) := A1
    rw [← A1'] at g1 g2 g3 g4
    have z1 : τ 124 42 = σ 124 42 := g3
    have z2 : τ 122 = σ 122 := F1.1 122 (by decide)
    refine bModel_goesBy_2 ⟨fun _ => ⟨by rw [z1]; exact ⟨by omega, by omega⟩, fun τ1 t1 => hQ _ ⟨?_, by rw [t1]; exact F1.up (by decide)⟩⟩, fun h => by rw [z2] at h; omega⟩
    rw [t1, w_am_up0 (m_ok.sm g1) (by decide) (Or.inl ⟨rfl, rfl⟩), A1', z1]
    rfl
  · intro k hk ih τ A1 F1
    obtain ⟨g1, g2, g3, g4, g5⟩ := n_hourF_all hok hc k (Nat.le_of_lt hk)
    rw [← A1] at g1 g2 g3 g4
    have z2 : τ 122 = σ 122 := F1.1 122 (by decide)
    refine bModel_goesBy_2 ⟨fun h => by rw [z2] at h; omega, fun h => ⟨⟨g1, ⟨by omega, by rw [z2]; omega⟩, hc⟩, ?_⟩⟩
    intro τ2 hq
    obtain ⟨q1, q2⟩ := hq
    rw [Int.toNat_natCast] at q1
    refine ⟨⟨by omega, by omega⟩, ?_⟩
    rw [← w_cs1]
    refine ih τ2 ?_ (F1.tr q2)
    rw [q1]
    simp only [n_hourF]
    rw [A1]
noncomputable def p_Model_goesOn (σ : w_M) : Prop := m_ok σ 124 0 ∧ σ 124 42 < σ 122 3
noncomputable def q_Model_goesOn (σ σ' : w_M) : Prop := w_am σ' 124 0 = n_on (w_am σ 124 0) ∧ w_g1 σ σ'
theorem fModel_goesOn_0 : w_fe am_c195 0 1 (.aload 0) := ⟨rfl, rfl⟩
theorem fModel_goesOn_1 : w_fe am_c195 1 2 (.aload 0) := ⟨rfl, rfl⟩
theorem fModel_goesOn_2 : w_fe am_c195 2 3 (.getfield 901) := ⟨rfl, rfl⟩
theorem fModel_goesOn_3 : w_fe am_c195 3 4 (.bipush 41) := ⟨rfl, rfl⟩
theorem fModel_goesOn_4 : w_fe am_c195 4 5 (.iaload) := ⟨rfl, rfl⟩
theorem fModel_goesOn_5 : w_fe am_c195 5 6 (.aload 0) := ⟨rfl, rfl⟩
theorem fModel_goesOn_6 : w_fe am_c195 6 7 (.getfield 901) := ⟨rfl, rfl⟩
theorem fModel_goesOn_7 : w_fe am_c195 7 8 (.bipush 42) := ⟨rfl, rfl⟩
theorem fModel_goesOn_8 : w_fe am_c195 8 9 (.iaload) := ⟨rfl, rfl⟩
theorem fModel_goesOn_9 : w_fe am_c195 9 10 (.ishr) := ⟨rfl, rfl⟩
theorem fModel_goesOn_10 : w_fe am_c195 10 11 (.bipush 1) := ⟨rfl, rfl⟩
theorem fModel_goesOn_11 : w_fe am_c195 11 12 (.iand) := ⟨rfl, rfl⟩
theorem fModel_goesOn_12 : w_fe am_c195 12 13 (.bipush 1) := ⟨rfl, rfl⟩
theorem fModel_goesOn_13 : w_ic am_c195 13 14 .ne 16 := ⟨rfl, rfl⟩
theorem fModel_goesOn_14 : w_fe am_c195 14 15 (.bipush 1) := ⟨rfl, rfl⟩
theorem fModel_goesOn_15 : w_gt am_c195 15 17 := rfl
theorem fModel_goesOn_16 : w_fe am_c195 16 17 (.bipush 0) := ⟨rfl, rfl⟩
theorem fModel_goesOn_17 : w_fe am_c195 17 18 (.invokestatic 196) := ⟨rfl, rfl⟩
theorem fModel_goesOn_18 : w_fe am_c195 18 19 (.return_) := ⟨rfl, rfl⟩
set_option maxRecDepth 20000 in
theorem bModel_goesOn_0 {xs : List Int} {d : Nat} {Q : Option w_V → w_M → Prop}  {σ : w_M}
    (h : (¬ (w_and (w_shr (σ 124 41) (σ 124 42)) 1) = 1 → (p_Model_goesBy 0 σ ∧ (∀ (τ1 : w_M), q_Model_goesBy 0 σ τ1 → Q none τ1))) ∧ ((w_and (w_shr (σ 124 41) (σ 124 42)) 1) = 1 → (p_Model_goesBy 1 σ ∧ (∀ (τ2 : w_M), q_Model_goesBy 1 σ τ2 → Q none τ2)))) : w_Call (xs, (d + 4)) 195 [.inr (.inr (9, 122))] σ Q :=
  (w_mk (mid := 195) (by decide) rfl rfl rfl rfl rfl (Nat.le_of_ble_eq_true rfl) ⟨rfl, Or.inl (by decide)⟩ (wi_aload0 fModel_goesOn_0 (wi_aload0 fModel_goesOn_1 (wi_getf901 fModel_goesOn_2 (wi_bipush fModel_goesOn_3 (wi_iald1082 fModel_goesOn_4 (by decide) (by decide) (wi_aload0 fModel_goesOn_5 (wi_getf901 fModel_goesOn_6 (wi_bipush fModel_goesOn_7 (wi_iald1082 fModel_goesOn_8 (by decide) (by decide) (wi_ishr fModel_goesOn_9 (wi_bipush fModel_goesOn_10 (wi_iand fModel_goesOn_11 (wi_bipush fModel_goesOn_12 (wi_ic_ne fModel_goesOn_13 (fun c3 => (wi_bipush fModel_goesOn_16 (wi_call2 fModel_goesOn_17 (Nat.le_of_ble_eq_true rfl) (k_Model_goesBy (h.1 c3).1 (fun τ1 eτ1 => (wi_ret0 fModel_goesOn_18 ((h.1 c3).2 τ1 eτ1))))))) (fun c3 => (wi_bipush fModel_goesOn_14 (wi_goto fModel_goesOn_15 (wi_call2 fModel_goesOn_17 (Nat.le_of_ble_eq_true rfl) (k_Model_goesBy (h.2 c3).1 (fun τ2 eτ2 => (wi_ret0 fModel_goesOn_18 ((h.2 c3).2 τ2 eτ2)))))))))))))))))))))))
theorem k_Model_goesOn {xs : List Int} {d : Nat} {Q : Option w_V → w_M → Prop}  {σ : w_M} (hp : p_Model_goesOn σ) (hQ : ∀ σ' : w_M, q_Model_goesOn σ σ' → Q none σ') : w_Call (xs, d + 4) 195 [.inr (.inr (9, 122))] σ Q := by
  have e : n_cl (w_am σ 124 0) (w_am σ 124 0 0 1) = w_and (w_shr (σ 124 41) (σ 124 42)) 1 := rfl
  refine bModel_goesOn_0 ⟨fun c => ⟨⟨hp.1, hp.2, Or.inl rfl⟩, fun τ hq => hQ _ ⟨?_, hq.2⟩⟩, fun c => ⟨⟨hp.1, hp.2, Or.inr rfl⟩, fun τ hq => hQ _ ⟨?_, hq.2⟩⟩⟩
  · rw [hq.1]; unfold n_on; rw [e, (w_and1 _).resolve_right c]
  · rw [hq.1]; unfold n_on; rw [e, c]
noncomputable def p_Model_goesTo (n : Int) (σ : w_M) : Prop := m_ok σ 124 0 ∧ (0 ≤ n ∧ n ≤ 12)
noncomputable def q_Model_goesTo (n : Int) (σ σ' : w_M) : Prop := w_am σ' 124 0 = n_goes (w_am σ 124 0) n.toNat ∧ w_g1 σ σ'
theorem fModel_goesTo_0 : w_fe am_c194 0 1 (.bipush 0) := ⟨rfl, rfl⟩
theorem fModel_goesTo_1 : w_fe am_c194 1 2 (.istore 2) := ⟨rfl, rfl⟩
theorem fModel_goesTo_2 : w_fe am_c194 2 3 (.iload 2) := ⟨rfl, rfl⟩
theorem fModel_goesTo_3 : w_fe am_c194 3 4 (.iload 1) := ⟨rfl, rfl⟩
theorem fModel_goesTo_4 : w_ic am_c194 4 5 .ge 16 := ⟨rfl, rfl⟩
theorem fModel_goesTo_5 : w_fe am_c194 5 6 (.aload 0) := ⟨rfl, rfl⟩
theorem fModel_goesTo_6 : w_fe am_c194 6 7 (.getfield 901) := ⟨rfl, rfl⟩
theorem fModel_goesTo_7 : w_fe am_c194 7 8 (.bipush 42) := ⟨rfl, rfl⟩
theorem fModel_goesTo_8 : w_fe am_c194 8 9 (.iaload) := ⟨rfl, rfl⟩
theorem fModel_goesTo_9 : w_fe am_c194 9 10 (.aload 0) := ⟨rfl, rfl⟩
theorem fModel_goesTo_10 : w_fe am_c194 10 11 (.getfield 903) := ⟨rfl, rfl⟩
theorem fModel_goesTo_11 : w_ic am_c194 11 12 .ge 16 := ⟨rfl, rfl⟩
theorem fModel_goesTo_12 : w_fe am_c194 12 13 (.aload 0) := ⟨rfl, rfl⟩
theorem fModel_goesTo_13 : w_fe am_c194 13 14 (.invokestatic 195) := ⟨rfl, rfl⟩
theorem fModel_goesTo_14 : w_fe am_c194 14 15 (.iinc 2 1) := ⟨rfl, rfl⟩
theorem fModel_goesTo_15 : w_gt am_c194 15 2 := rfl
theorem fModel_goesTo_16 : w_fe am_c194 16 17 (.return_) := ⟨rfl, rfl⟩
noncomputable def LModel_goesTo_2 (xs : List Int) (d : Nat) (Q : Option w_V → w_M → Prop) (v1 : Int) (v2 : Int) (σ : w_M) : Prop := w_Ex (xs, d) 0 am_c194 Q 2 [some (.inr (.inr (9, 122))), some (.inl v1), some (.inl v2)] [] σ
set_option maxRecDepth 20000 in
theorem bModel_goesTo_0 {xs : List Int} {d : Nat} {Q : Option w_V → w_M → Prop} {x1 : Int} {σ : w_M}
    (h : LModel_goesTo_2 xs (d + 5) Q x1 0 σ) : w_Call (xs, (d + 5)) 194 [.inr (.inr (9, 122)), .inl x1] σ Q :=
  (w_mk (mid := 194) (by decide) rfl rfl rfl rfl rfl (Nat.le_of_ble_eq_true rfl) ⟨rfl, Or.inl (by decide)⟩ (wi_bipush fModel_goesTo_0 (wi_istore2 fModel_goesTo_1 trivial h)))
set_option maxRecDepth 20000 in
theorem bModel_goesTo_2 {xs : List Int} {d : Nat} {Q : Option w_V → w_M → Prop} {v1 : Int} {v2 : Int} {σ : w_M}
    (h : (v1 ≤ v2 → Q none σ) ∧ (v2 < v1 → (((σ 122 3) ≤ (σ 124 42) → Q none σ) ∧ ((σ 124 42) < (σ 122 3) → (p_Model_goesOn σ ∧ (∀ (τ1 : w_M), q_Model_goesOn σ τ1 → (w_in (v2 + 1) ∧ LModel_goesTo_2 xs (d + 5) Q v1 (v2 + 1) τ1))))))) : LModel_goesTo_2 xs (d + 5) Q v1 v2 σ :=
  (wi_iload2 fModel_goesTo_2 (wi_iload1 fModel_goesTo_3 (wi_ic_ge fModel_goesTo_4 (fun c3 => (wi_ret0 fModel_goesTo_16 (h.1 c3))) (fun c3 => (wi_aload0 fModel_goesTo_5 (wi_getf901 fModel_goesTo_6 (wi_bipush fModel_goesTo_7 (wi_iald1082 fModel_goesTo_8 (by decide) (by decide) (wi_aload0 fModel_goesTo_9 (wi_getf903 fModel_goesTo_10 (wi_ic_ge fModel_goesTo_11 (fun c2 => (wi_ret0 fModel_goesTo_16 ((h.2 c3).1 c2))) (fun c2 => (wi_aload0 fModel_goesTo_12 (wi_call1 fModel_goesTo_13 (Nat.le_of_ble_eq_true rfl) (k_Model_goesOn ((h.2 c3).2 c2).1 (fun τ1 eτ1 => (wi_iinc2 fModel_goesTo_14 trivial (((h.2 c3).2 c2).2 τ1 eτ1).1 (wi_goto fModel_goesTo_15 (((h.2 c3).2 c2).2 τ1 eτ1).2))))))))))))))))))
theorem k_Model_goesTo {xs : List Int} {d : Nat} {Q : Option w_V → w_M → Prop} {x1 : Int} {σ : w_M} (hp : p_Model_goesTo x1 σ) (hQ : ∀ σ' : w_M, q_Model_goesTo x1 σ σ' → Q none σ') : w_Call (xs, d + 5) 194 [.inr (.inr (9, 122)), .inl x1] σ Q := by
  obtain ⟨hok, n0, n1⟩ := hp
  refine bModel_goesTo_0 ?_
  refine (w_loop (n := x1.toNat) (P := fun k => ∀ τ : w_M, w_am τ 124 0 = n_goes (w_am σ 124 0) k → w_g1 σ τ → LModel_goesTo_2 xs (d + 5) Q x1 (k : Int) τ) ?_ ?_) σ rfl w_g1.rfl'
  · intro τ A1 F1
    exact bModel_goesTo_2 ⟨fun _ => hQ _ ⟨A1, F1⟩, fun h => by omega⟩
  · intro k hk ih τ A1 F1
    obtain ⟨g1, g2, g3, g4⟩ := n_goes_all hok k
    rw [← A1] at g1
    refine bModel_goesTo_2 ⟨fun h => by omega, fun h => ⟨fun h2 => ?_, fun h2 => ⟨⟨g1, h2⟩, fun τ1 hq => ⟨⟨by omega, by omega⟩, ?_⟩⟩⟩⟩
    · have he : n_goes (w_am σ 124 0) x1.toNat = n_goes (w_am σ 124 0) k := by
        have := n_goes_end (A := w_am σ 124 0) (k := k) (by rw [← A1]; show ¬ τ 124 42 < τ 122 3; omega) (x1.toNat - k)
        rw [show k + (x1.toNat - k) = x1.toNat by omega] at this
        exact this
      exact hQ _ ⟨by rw [he]; exact A1, F1⟩
    · rw [← w_cs1]
      refine ih τ1 ?_ (F1.tr hq.2)
      rw [hq.1]
      simp only [n_goes]
      rw [← A1, if_pos (show w_am τ 124 0 0 1 < w_am τ 124 0 0 0 from h2)]
/-- the first hour at whose end nothing stands, k at the latest -/
noncomputable def n_st (A : w_M) : Nat → Nat
  | 0 => 0
  | k + 1 => if n_sd (n_goes A (n_st A k)) = 0 then n_st A k else k + 1
noncomputable def n_left (A : w_M) : Nat := (A 0 0 - A 0 1).toNat
noncomputable def n_fin (A : w_M) : Nat := n_st A (n_left A)
noncomputable def n_done (A : w_M) : Int := if n_sd (n_goes A (n_fin A)) = 0 then (n_fin A : Int) else -4
theorem n_st_spec (A : w_M) (hA : n_WF A) : ∀ k : Nat, n_st A k ≤ k ∧ (∀ i, i < n_st A k → 0 < n_sd (n_goes A i)) ∧ (n_sd (n_goes A (n_st A k)) = 0 ∨ n_st A k = k) := by
  intro k
  induction k with
  | zero => exact ⟨Nat.le_refl _, fun i hi => absurd hi (Nat.not_lt_zero _), Or.inr rfl⟩
  | succ k ih =>
    obtain ⟨h1, h2, h3⟩ := ih
    simp only [n_st]
    split
    · rename_i h
      exact ⟨by omega, h2, Or.inl h⟩
    · rename_i h
      have hk : n_st A k = k := h3.resolve_left h
      refine ⟨Nat.le_refl _, fun i hi => ?_, Or.inr rfl⟩
      by_cases hik : i = k
      · rw [hk] at h
        rw [hik]
        have := (n_sd_le (n_goes_all hA k).1).1
        omega
      · exact h2 i (by omega)
/-- it is told by what it is -/
theorem n_fin_of {A : w_M} (hA : n_WF A) {j : Nat} (h1 : j ≤ n_left A) (h2 : ∀ i, i < j → 0 < n_sd (n_goes A i)) (h3 : n_sd (n_goes A j) = 0 ∨ j = n_left A) : n_fin A = j := by
  obtain ⟨g1, g2, g3⟩ := n_st_spec A hA (n_left A)
  unfold n_fin
  by_cases hlt : n_st A (n_left A) < j
  · have := h2 _ hlt
    rcases g3 with g3 | g3 <;> omega
  · by_cases hgt : j < n_st A (n_left A)
    · have := g2 _ hgt
      rcases h3 with h3 | h3 <;> omega
    · omega
noncomputable def p_Model_doneBehind (σ : w_M) : Prop := m_ok σ 124 0
noncomputable def q_Model_doneBehind (σ : w_M) (x : Int) (σ' : w_M) : Prop := w_am σ' 124 0 = n_goes (w_am σ 124 0) (n_fin (w_am σ 124 0)) ∧ x = n_done (w_am σ 124 0) ∧ w_f1 σ σ' 124
theorem fModel_doneBehind_0 : w_fe am_c204 0 1 (.aload 0) := ⟨rfl, rfl⟩
theorem fModel_doneBehind_1 : w_fe am_c204 1 2 (.getfield 901) := ⟨rfl, rfl⟩
theorem fModel_doneBehind_2 : w_fe am_c204 2 3 (.bipush 42) := ⟨rfl, rfl⟩
theorem fModel_doneBehind_3 : w_fe am_c204 3 4 (.iaload) := ⟨rfl, rfl⟩
theorem fModel_doneBehind_4 : w_fe am_c204 4 5 (.istore 1) := ⟨rfl, rfl⟩
theorem fModel_doneBehind_5 : w_fe am_c204 5 6 (.aload 0) := ⟨rfl, rfl⟩
theorem fModel_doneBehind_6 : w_fe am_c204 6 7 (.invokestatic 175) := ⟨rfl, rfl⟩
theorem fModel_doneBehind_7 : w_if am_c204 7 8 .le 18 := ⟨rfl, rfl⟩
theorem fModel_doneBehind_8 : w_fe am_c204 8 9 (.aload 0) := ⟨rfl, rfl⟩
theorem fModel_doneBehind_9 : w_fe am_c204 9 10 (.getfield 901) := ⟨rfl, rfl⟩
theorem fModel_doneBehind_10 : w_fe am_c204 10 11 (.bipush 42) := ⟨rfl, rfl⟩
theorem fModel_doneBehind_11 : w_fe am_c204 11 12 (.iaload) := ⟨rfl, rfl⟩
theorem fModel_doneBehind_12 : w_fe am_c204 12 13 (.aload 0) := ⟨rfl, rfl⟩
theorem fModel_doneBehind_13 : w_fe am_c204 13 14 (.getfield 903) := ⟨rfl, rfl⟩
theorem fModel_doneBehind_14 : w_ic am_c204 14 15 .ge 18 := ⟨rfl, rfl⟩
theorem fModel_doneBehind_15 : w_fe am_c204 15 16 (.aload 0) := ⟨rfl, rfl⟩
theorem fModel_doneBehind_16 : w_fe am_c204 16 17 (.invokestatic 195) := ⟨rfl, rfl⟩
theorem fModel_doneBehind_17 : w_gt am_c204 17 5 := rfl
theorem fModel_doneBehind_18 : w_fe am_c204 18 19 (.aload 0) := ⟨rfl, rfl⟩
theorem fModel_doneBehind_19 : w_fe am_c204 19 20 (.invokestatic 175) := ⟨rfl, rfl⟩
theorem fModel_doneBehind_20 : w_if am_c204 20 21 .le 23 := ⟨rfl, rfl⟩
theorem fModel_doneBehind_21 : w_fe am_c204 21 22 (.bipush (-4)) := ⟨rfl, rfl⟩
theorem fModel_doneBehind_22 : w_gt am_c204 22 29 := rfl
theorem fModel_doneBehind_23 : w_fe am_c204 23 24 (.aload 0) := ⟨rfl, rfl⟩
theorem fModel_doneBehind_24 : w_fe am_c204 24 25 (.getfield 901) := ⟨rfl, rfl⟩
theorem fModel_doneBehind_25 : w_fe am_c204 25 26 (.bipush 42) := ⟨rfl, rfl⟩
theorem fModel_doneBehind_26 : w_fe am_c204 26 27 (.iaload) := ⟨rfl, rfl⟩
theorem fModel_doneBehind_27 : w_fe am_c204 27 28 (.iload 1) := ⟨rfl, rfl⟩
theorem fModel_doneBehind_28 : w_fe am_c204 28 29 (.isub) := ⟨rfl, rfl⟩
theorem fModel_doneBehind_29 : w_fe am_c204 29 30 (.ireturn) := ⟨rfl, rfl⟩
noncomputable def LModel_doneBehind_5 (xs : List Int) (d : Nat) (Q : Option w_V → w_M → Prop) (v1 : Int) (σ : w_M) : Prop := w_Ex (xs, d) 1 am_c204 Q 5 [some (.inr (.inr (9, 122))), some (.inl v1)] [] σ
set_option maxRecDepth 20000 in
theorem bModel_doneBehind_0 {xs : List Int} {d : Nat} {Q : Option w_V → w_M → Prop}  {σ : w_M}
    (h : ∀ (y1 : Int), y1 = (σ 124 42) → LModel_doneBehind_5 xs (d + 5) Q y1 σ) : w_Call (xs, (d + 5)) 204 [.inr (.inr (9, 122))] σ Q :=
  (w_mk (mid := 204) (by decide) rfl rfl rfl rfl rfl (Nat.le_of_ble_eq_true rfl) ⟨rfl, Or.inl (by decide)⟩ (wi_aload0 fModel_doneBehind_0 (wi_getf901 fModel_doneBehind_1 (wi_bipush fModel_doneBehind_2 (wi_iald1082 fModel_doneBehind_3 (by decide) (by decide) (wi_istore1 fModel_doneBehind_4 trivial (h _ rfl)))))))
set_option maxRecDepth 20000 in
theorem bModel_doneBehind_5 {xs : List Int} {d : Nat} {Q : Option w_V → w_M → Prop} {v1 : Int} {σ : w_M}
    (h : p_Model_standing σ ∧ (∀ (y1 : Int), y1 = v_Model_standing σ → ((y1 ≤ 0 → ∀ (y2 : Int), y2 = v_Model_standing σ → ((y2 ≤ 0 → (w_in ((σ 124 42) - v1) ∧ Q (some (.inl ((σ 124 42) - v1))) σ)) ∧ (0 < y2 → Q (some (.inl (-4))) σ))) ∧ (0 < y1 → (((σ 122 3) ≤ (σ 124 42) → ∀ (y4 : Int), y4 = v_Model_standing σ → ((y4 ≤ 0 → (w_in ((σ 124 42) - v1) ∧ Q (some (.inl ((σ 124 42) - v1))) σ)) ∧ (0 < y4 → Q (some (.inl (-4))) σ))) ∧ ((σ 124 42) < (σ 122 3) → (p_Model_goesOn σ ∧ (∀ (τ6 : w_M), q_Model_goesOn σ τ6 → LModel_doneBehind_5 xs (d + 5) Q v1 τ6)))))))) : LModel_doneBehind_5 xs (d + 5) Q v1 σ :=
  (wi_aload0 fModel_doneBehind_5 (wi_call1 fModel_doneBehind_6 (Nat.le_of_ble_eq_true rfl) (k_Model_standing h.1 (wi_if_le fModel_doneBehind_7 (fun c8 => (wi_aload0 fModel_doneBehind_18 (wi_call1 fModel_doneBehind_19 (Nat.le_of_ble_eq_true rfl) (k_Model_standing h.1 (wi_if_le fModel_doneBehind_20 (fun c3 => (wi_aload0 fModel_doneBehind_23 (wi_getf901 fModel_doneBehind_24 (wi_bipush fModel_doneBehind_25 (wi_iald1082 fModel_doneBehind_26 (by decide) (by decide) (wi_iload1 fModel_doneBehind_27 (wi_isub fModel_doneBehind_28 ((((h.2 _ rfl).1 c8) _ rfl).1 c3).1 (wi_ret1 fModel_doneBehind_29 ((((h.2 _ rfl).1 c8) _ rfl).1 c3).2)))))))) (fun c3 => (wi_bipush fModel_doneBehind_21 (wi_goto fModel_doneBehind_22 (wi_ret1 fModel_doneBehind_29 ((((h.2 _ rfl).1 c8) _ rfl).2 c3)))))))))) (fun c8 => (wi_aload0 fModel_doneBehind_8 (wi_getf901 fModel_doneBehind_9 (wi_bipush fModel_doneBehind_10 (wi_iald1082 fModel_doneBehind_11 (by decide) (by decide) (wi_aload0 fModel_doneBehind_12 (wi_getf903 fModel_doneBehind_13 (wi_ic_ge fModel_doneBehind_14 (fun c7 => (wi_aload0 fModel_doneBehind_18 (wi_call1 fModel_doneBehind_19 (Nat.le_of_ble_eq_true rfl) (k_Model_standing h.1 (wi_if_le fModel_doneBehind_20 (fun c5 => (wi_aload0 fModel_doneBehind_23 (wi_getf901 fModel_doneBehind_24 (wi_bipush fModel_doneBehind_25 (wi_iald1082 fModel_doneBehind_26 (by decide) (by decide) (wi_iload1 fModel_doneBehind_27 (wi_isub fModel_doneBehind_28 (((((h.2 _ rfl).2 c8).1 c7) _ rfl).1 c5).1 (wi_ret1 fModel_doneBehind_29 (((((h.2 _ rfl).2 c8).1 c7) _ rfl).1 c5).2)))))))) (fun c5 => (wi_bipush fModel_doneBehind_21 (wi_goto fModel_doneBehind_22 (wi_ret1 fModel_doneBehind_29 (((((h.2 _ rfl).2 c8).1 c7) _ rfl).2 c5)))))))))) (fun c7 => (wi_aload0 fModel_doneBehind_15 (wi_call1 fModel_doneBehind_16 (Nat.le_of_ble_eq_true rfl) (k_Model_goesOn (((h.2 _ rfl).2 c8).2 c7).1 (fun τ6 eτ6 => (wi_goto fModel_doneBehind_17 ((((h.2 _ rfl).2 c8).2 c7).2 τ6 eτ6)))))))))))))))))))
theorem k_Model_doneBehind {xs : List Int} {d : Nat} {Q : Option w_V → w_M → Prop}  {σ : w_M} (hp : p_Model_doneBehind σ) (hQ : ∀ (x : Int) (σ' : w_M), q_Model_doneBehind σ x σ' → Q (some (.inl x)) σ') : w_Call (xs, d + 5) 204 [.inr (.inr (9, 122))] σ Q := by
  have hrs := m_ok.hrs hp
  have hr : 0 ≤ σ 124 42 ∧ σ 124 42 ≤ σ 122 3 := m_ok.hr hp
  have hl : n_left (w_am σ 124 0) = (σ 122 3 - σ 124 42).toNat := rfl
  refine bModel_doneBehind_0 (fun y1 e1 => ?_)
  refine (w_loop (n := 13) (P := fun k => ∀ τ : w_M, σ 124 42 + k ≤ σ 122 3 → w_am τ 124 0 = n_goes (w_am σ 124 0) k → w_f1 σ τ 124 → (∀ i, i < k → 0 < n_sd (n_goes (w_am σ 124 0) i)) → LModel_doneBehind_5 xs (d + 5) Q y1 τ) ?_ ?_) σ (by omega) rfl w_f1.rfl' (fun i hi => by omega)
  · intro τ h; omega
  · intro k hk ih τ h1 A1 F1 hst
    obtain ⟨g1, g2, g3, g4⟩ := n_goes_all hp k
    have b := n_sd_le g1
    rw [← A1] at g1 g2 g3
    have z2 : τ 122 = σ 122 := F1 122 (by decide)
    have z1 : τ 124 42 = σ 124 42 + k := by
      have e : w_am τ 124 0 0 1 = τ 124 42 := rfl
      have e0 : w_am σ 124 0 0 1 = σ 124 42 := rfl
      have e00 : w_am σ 124 0 0 0 = σ 122 3 := rfl
      rw [e, e0, e00, if_pos h1] at g3
      exact g3
    have stop : (n_sd (n_goes (w_am σ 124 0) k) = 0 ∨ k = n_left (w_am σ 124 0)) → ∀ y : Int, y = v_Model_standing τ → (y ≤ 0 → w_in (τ 124 42 - y1) ∧ Q (some (.inl (τ 124 42 - y1))) τ) ∧ (0 < y → Q (some (.inl (-4))) τ) := by
      intro h3 y ey
      have hf := n_fin_of hp (j := k) (by rw [hl]; omega) hst h3
      unfold v_Model_standing at ey
      rw [A1] at ey
      refine ⟨fun hy => ⟨⟨by omega, by omega⟩, hQ _ _ ⟨by rw [hf]; exact A1, ?_, F1⟩⟩, fun hy => hQ _ _ ⟨by rw [hf]; exact A1, ?_, F1⟩⟩
      · unfold n_done
        rw [hf, if_pos (by omega)]
        omega
      · unfold n_done
        rw [hf, if_neg (by omega)]
    refine bModel_doneBehind_5 ⟨g1, fun y ey => ⟨fun c => ?_, fun c => ⟨fun c2 => ?_, fun c2 => ⟨⟨g1, c2⟩, fun τ6 hq => ?_⟩⟩⟩⟩
    · refine stop (Or.inl ?_)
      unfold v_Model_standing at ey
      rw [A1] at ey
      omega
    · rw [z2] at c2
      exact stop (Or.inr (by rw [hl]; omega))
    · rw [z2] at c2
      refine ih τ6 (by omega) ?_ (F1.tr hq.2.1) (fun i hi => ?_)
      · rw [hq.1]
        simp only [n_goes]
        rw [← A1, if_pos (show w_am τ 124 0 0 1 < w_am τ 124 0 0 0 from (by show τ 124 42 < τ 122 3; rw [z2]; exact c2))]
      · by_cases hik : i = k
        · unfold v_Model_standing at ey
          rw [A1] at ey
          rw [hik]
          omega
        · exact hst i (by omega)
noncomputable def p_Model_becomes (k _v : Int) (_ : w_M) : Prop := 0 ≤ k ∧ k < 246
noncomputable def q_Model_becomes (k v : Int) (σ : w_M) (x : Int) (σ' : w_M) : Prop := x = σ 123 k.toNat ∧ σ' = w_up σ 123 k.toNat v
theorem fModel_becomes_0 : w_fe am_c185 0 1 (.aload 0) := ⟨rfl, rfl⟩
theorem fModel_becomes_1 : w_fe am_c185 1 2 (.getfield 900) := ⟨rfl, rfl⟩
theorem fModel_becomes_2 : w_fe am_c185 2 3 (.iload 1) := ⟨rfl, rfl⟩
theorem fModel_becomes_3 : w_fe am_c185 3 4 (.iaload) := ⟨rfl, rfl⟩
theorem fModel_becomes_4 : w_fe am_c185 4 5 (.istore 3) := ⟨rfl, rfl⟩
theorem fModel_becomes_5 : w_fe am_c185 5 6 (.aload 0) := ⟨rfl, rfl⟩
theorem fModel_becomes_6 : w_fe am_c185 6 7 (.getfield 900) := ⟨rfl, rfl⟩
theorem fModel_becomes_7 : w_fe am_c185 7 8 (.iload 1) := ⟨rfl, rfl⟩
theorem fModel_becomes_8 : w_fe am_c185 8 9 (.iload 2) := ⟨rfl, rfl⟩
theorem fModel_becomes_9 : w_fe am_c185 9 10 (.iastore) := ⟨rfl, rfl⟩
theorem fModel_becomes_10 : w_fe am_c185 10 11 (.iload 3) := ⟨rfl, rfl⟩
theorem fModel_becomes_11 : w_fe am_c185 11 12 (.ireturn) := ⟨rfl, rfl⟩
set_option maxRecDepth 20000 in
theorem bModel_becomes_0 {xs : List Int} {d : Nat} {Q : Option w_V → w_M → Prop} {x1 : Int} {x2 : Int} {σ : w_M}
    (h : 0 ≤ x1 ∧ x1 < 246 ∧ (∀ (y1 : Int), y1 = (σ 123 x1.toNat) → ∀ (τ2 : w_M), τ2 = w_up σ 123 x1.toNat x2 → Q (some (.inl y1)) τ2)) : w_Call (xs, d) 185 [.inr (.inr (9, 122)), .inl x1, .inl x2] σ Q :=
  (w_mk (mid := 185) (by decide) rfl rfl rfl rfl rfl (Nat.le_of_ble_eq_true rfl) ⟨rfl, Or.inl (by decide)⟩ (wi_aload0 fModel_becomes_0 (wi_getf900 fModel_becomes_1 (wi_iload1 fModel_becomes_2 (wi_iald1246 fModel_becomes_3 h.1 h.2.1 (wi_istore3 fModel_becomes_4 trivial (wi_aload0 fModel_becomes_5 (wi_getf900 fModel_becomes_6 (wi_iload1 fModel_becomes_7 (wi_iload2 fModel_becomes_8 (wi_iast1246 fModel_becomes_9 h.1 h.2.1 (wi_iload3 fModel_becomes_10 (wi_ret1 fModel_becomes_11 ((h.2.2 _ rfl) _ rfl))))))))))))))
theorem k_Model_becomes {xs : List Int} {d : Nat} {Q : Option w_V → w_M → Prop} {x1 : Int} {x2 : Int} {σ : w_M} (hp : p_Model_becomes x1 x2 σ) (hQ : ∀ (x : Int) (σ' : w_M), q_Model_becomes x1 x2 σ x σ' → Q (some (.inl x)) σ') : w_Call (xs, d) 185 [.inr (.inr (9, 122)), .inl x1, .inl x2] σ Q := bModel_becomes_0 ⟨hp.1, hp.2, fun y e τ t => hQ _ _ ⟨e, t⟩⟩
/-- the class's own way to the end of it -/
theorem n_lostT_le {A : w_M} (h : n_WF A) : ∀ k : Nat, 0 ≤ n_lostT A k ∧ n_lostT A k ≤ 36 * k := by
  intro k
  induction k with
  | zero => simp [n_lostT]
  | succ k ih =>
    have g := (n_goes_all h k).1
    have hl := (n_hourF_all g (n_cl01 (n_goes A k) ((n_goes A k) 0 1)) (n_n (n_goes A k)) (Nat.le_refl _)).2.2.2.2
    have hn4 : (n_n (n_goes A k) : Int) ≤ 4 := by have := g.n; unfold n_n; omega
    simp only [n_lostT]
    omega
theorem n_pud_done {A : w_M} (h : n_WF A) {x : Int} {j : Nat} (hp : n_pud A 12 1000000 x j) : j = n_fin A ∧ x = n_done A := by
  obtain ⟨h1, h2, h3, h4⟩ := hp
  have hrs := h.hrs
  have hr := h.hr
  have hl := n_lostT_le h j
  have hjl : j ≤ n_left A := by unfold n_left; omega
  have key : n_sd (n_goes A j) = 0 ∨ j = n_left A := by
    rcases h4 with ⟨_, h5⟩ | ⟨_, _, h5 | h5 | h5⟩
    · exact Or.inl h5
    · right; unfold n_left at hjl ⊢; omega
    · right; unfold n_left; omega
    · omega
  have hf := n_fin_of h hjl h3 key
  refine ⟨hf.symm, ?_⟩
  unfold n_done
  rw [hf]
  rcases h4 with ⟨h5, h6⟩ | ⟨h5, h6, _⟩
  · rw [if_pos h6]; exact h5
  · rw [if_neg (by omega)]; exact h5
