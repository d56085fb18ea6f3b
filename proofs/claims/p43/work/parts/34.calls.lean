section
/-! The class's calls: the text, what is told, what is changed, hours -/
theorem CI.ok {σ : w_M} (h : CI σ) : n_ok σ 14 := h.1.1
theorem CI.ta {σ : w_M} (h : CI σ) : 0 ≤ σ 1 1 ∧ σ 1 1 ≤ 160 := h.1.2.2.2.1.1
theorem t_ab_len {σ : w_M} : t_ab σ 0 0 = σ 1 1 := rfl
theorem ta_up {T : w_M} {c : Int} (h : taWF T) (hc : 0 ≤ c ∧ c ≤ 127) (hl : T 0 0 < 160) : taWF (w_up (w_up T 1 (T 0 0).toNat c) 0 0 (T 0 0 + 1)) := by
  obtain ⟨h1, h2⟩ := h
  have e : (w_up (w_up T 1 (T 0 0).toNat c) 0 0 (T 0 0 + 1)) 0 0 = T 0 0 + 1 := w_up_at
  refine ⟨by rw [e]; omega, fun i hi => ?_⟩
  rw [e] at hi
  rw [w_up_ne (by decide), w_up_eq]
  split
  · exact hc
  · exact h2 i (by omega)
theorem t_cut_WF {T : w_M} (h : taWF T) {n : Int} (hn : 0 ≤ n ∧ n ≤ T 0 0) : taWF (t_cut T n) := by
  obtain ⟨h1, h2⟩ := h
  have e : t_cut T n 0 0 = n := rfl
  refine ⟨by rw [e]; omega, fun i hi => ?_⟩
  rw [e] at hi
  show 0 ≤ (if i < n.toNat then T 1 i else 0) ∧ (if i < n.toNat then T 1 i else 0) ≤ 127
  rw [if_pos hi]
  exact h2 i (by omega)
noncomputable def p_Reader_put (c : Int) (σ : w_M) : Prop := (0 ≤ σ 1 1 ∧ σ 1 1 < 160) ∧ (0 ≤ c ∧ c ≤ 127)
noncomputable def q_Reader_put (c : Int) (σ : w_M) (x : Int) (σ' : w_M) : Prop := x = σ 1 1 + 1 ∧ σ' = w_up (w_up σ 2 (σ 1 1).toNat c) 1 1 (σ 1 1 + 1)
theorem fReader_put_0 : w_fe am_c11 0 1 (.aload 0) := ⟨rfl, rfl⟩
theorem fReader_put_1 : w_fe am_c11 1 2 (.getfield 101) := ⟨rfl, rfl⟩
theorem fReader_put_2 : w_fe am_c11 2 3 (.bipush 160) := ⟨rfl, rfl⟩
theorem fReader_put_3 : w_ic am_c11 3 4 .ge 17 := ⟨rfl, rfl⟩
theorem fReader_put_4 : w_fe am_c11 4 5 (.aload 0) := ⟨rfl, rfl⟩
theorem fReader_put_5 : w_fe am_c11 5 6 (.getfield 100) := ⟨rfl, rfl⟩
theorem fReader_put_6 : w_fe am_c11 6 7 (.aload 0) := ⟨rfl, rfl⟩
theorem fReader_put_7 : w_fe am_c11 7 8 (.getfield 101) := ⟨rfl, rfl⟩
theorem fReader_put_8 : w_fe am_c11 8 9 (.iload 1) := ⟨rfl, rfl⟩
theorem fReader_put_9 : w_fe am_c11 9 10 (.i2b) := ⟨rfl, rfl⟩
theorem fReader_put_10 : w_fe am_c11 10 11 (.bastore) := ⟨rfl, rfl⟩
theorem fReader_put_11 : w_fe am_c11 11 12 (.aload 0) := ⟨rfl, rfl⟩
theorem fReader_put_12 : w_fe am_c11 12 13 (.dup) := ⟨rfl, rfl⟩
theorem fReader_put_13 : w_fe am_c11 13 14 (.getfield 101) := ⟨rfl, rfl⟩
theorem fReader_put_14 : w_fe am_c11 14 15 (.bipush 1) := ⟨rfl, rfl⟩
theorem fReader_put_15 : w_fe am_c11 15 16 (.iadd) := ⟨rfl, rfl⟩
theorem fReader_put_16 : w_fe am_c11 16 17 (.putfield 101) := ⟨rfl, rfl⟩
theorem fReader_put_17 : w_fe am_c11 17 18 (.aload 0) := ⟨rfl, rfl⟩
theorem fReader_put_18 : w_fe am_c11 18 19 (.getfield 101) := ⟨rfl, rfl⟩
theorem fReader_put_19 : w_fe am_c11 19 20 (.ireturn) := ⟨rfl, rfl⟩
set_option maxRecDepth 20000 in
theorem bReader_put_0 {xs : List Int} {d : Nat} {Q : Option w_V → w_M → Prop} {x1 : Int} {σ : w_M}
    (h : (160 ≤ (σ 1 1) → Q (some (.inl (σ 1 1))) σ) ∧ ((σ 1 1) < 160 → ((-128 ≤ (Int.bmod x1 256) ∧ (Int.bmod x1 256) ≤ 127) ∧ 0 ≤ (σ 1 1) ∧ (∀ (τ1 : w_M), τ1 = w_up σ 2 (σ 1 1).toNat (Int.bmod x1 256) → (w_in ((τ1 1 1) + 1) ∧ (∀ (τ2 : w_M), τ2 = w_up τ1 1 1 ((τ1 1 1) + 1) → Q (some (.inl (τ2 1 1))) τ2)))))) : w_Call (xs, d) 11 [.inr (.inr (1, 1)), .inl x1] σ Q :=
  (w_mk (mid := 11) (by decide) rfl rfl rfl rfl rfl (Nat.le_of_ble_eq_true rfl) ⟨rfl, Or.inl (by decide)⟩ (wi_aload0 fReader_put_0 (wi_getf101 fReader_put_1 (wi_bipush fReader_put_2 (wi_ic_ge fReader_put_3 (fun c3 => (wi_aload0 fReader_put_17 (wi_getf101 fReader_put_18 (wi_ret1 fReader_put_19 (h.1 c3))))) (fun c3 => (wi_aload0 fReader_put_4 (wi_getf100 fReader_put_5 (wi_aload0 fReader_put_6 (wi_getf101 fReader_put_7 (wi_iload1 fReader_put_8 (wi_i2b fReader_put_9 (wi_bast2160 fReader_put_10 (h.2 c3).1 (h.2 c3).2.1 c3 (wi_aload0 fReader_put_11 (wi_dup_a fReader_put_12 (wi_getf101 fReader_put_13 (wi_bipush fReader_put_14 (wi_iadd fReader_put_15 ((h.2 c3).2.2 _ rfl).1 (wi_putf101 fReader_put_16 (wi_aload0 fReader_put_17 (wi_getf101 fReader_put_18 (wi_ret1 fReader_put_19 (((h.2 c3).2.2 _ rfl).2 _ rfl)))))))))))))))))))))))
theorem k_Reader_put {xs : List Int} {d : Nat} {Q : Option w_V → w_M → Prop} {x1 : Int} {σ : w_M} (hp : p_Reader_put x1 σ) (hQ : ∀ (x : Int) (σ' : w_M), q_Reader_put x1 σ x σ' → Q (some (.inl x)) σ') : w_Call (xs, d) 11 [.inr (.inr (1, 1)), .inl x1] σ Q := by
  obtain ⟨h1, h2⟩ := hp
  have hb : Int.bmod x1 256 = x1 := Int.bmod_eq_of_le (by omega) (by omega)
  refine bReader_put_0 ⟨fun c => by omega, fun c => ?_⟩
  rw [hb]
  refine ⟨by omega, by omega, fun τ1 t1 => ?_⟩
  have z : τ1 1 = σ 1 := by rw [t1]; exact w_up_ne (by decide)
  rw [z]
  refine ⟨⟨by omega, by omega⟩, fun τ2 t2 => hQ _ _ ⟨by rw [t2]; exact w_up_at, by rw [t2, t1]⟩⟩
noncomputable def p_Moon_feed (_x1 : Int) (σ : w_M) : Prop := CI σ
noncomputable def q_Moon_feed (x1 : Int) (σ : w_M) (x : Int) (σ' : w_M) : Prop := c_q (F_feed (cS σ) x1) (G_feed (cS σ) x1) σ x σ'
theorem fMoon_feed_0 : w_fe am_c106 0 1 (.iload 1) := ⟨rfl, rfl⟩
theorem fMoon_feed_1 : w_fe am_c106 1 2 (.bipush 0) := ⟨rfl, rfl⟩
theorem fMoon_feed_2 : w_fe am_c106 2 3 (.bipush 127) := ⟨rfl, rfl⟩
theorem fMoon_feed_3 : w_fe am_c106 3 4 (.invokestatic 107) := ⟨rfl, rfl⟩
theorem fMoon_feed_4 : w_if am_c106 4 5 .ne 7 := ⟨rfl, rfl⟩
theorem fMoon_feed_5 : w_fe am_c106 5 6 (.bipush (-1)) := ⟨rfl, rfl⟩
theorem fMoon_feed_6 : w_fe am_c106 6 7 (.ireturn) := ⟨rfl, rfl⟩
theorem fMoon_feed_7 : w_fe am_c106 7 8 (.aload 0) := ⟨rfl, rfl⟩
theorem fMoon_feed_8 : w_fe am_c106 8 9 (.getfield 0) := ⟨rfl, rfl⟩
theorem fMoon_feed_9 : w_fe am_c106 9 10 (.getfield 101) := ⟨rfl, rfl⟩
theorem fMoon_feed_10 : w_fe am_c106 10 11 (.bipush 160) := ⟨rfl, rfl⟩
theorem fMoon_feed_11 : w_ic am_c106 11 12 .lt 14 := ⟨rfl, rfl⟩
theorem fMoon_feed_12 : w_fe am_c106 12 13 (.bipush (-3)) := ⟨rfl, rfl⟩
theorem fMoon_feed_13 : w_fe am_c106 13 14 (.ireturn) := ⟨rfl, rfl⟩
theorem fMoon_feed_14 : w_fe am_c106 14 15 (.aload 0) := ⟨rfl, rfl⟩
theorem fMoon_feed_15 : w_fe am_c106 15 16 (.getfield 0) := ⟨rfl, rfl⟩
theorem fMoon_feed_16 : w_fe am_c106 16 17 (.iload 1) := ⟨rfl, rfl⟩
theorem fMoon_feed_17 : w_fe am_c106 17 18 (.invokestatic 11) := ⟨rfl, rfl⟩
theorem fMoon_feed_18 : w_fe am_c106 18 19 (.ireturn) := ⟨rfl, rfl⟩
set_option maxRecDepth 20000 in
theorem bMoon_feed_0 {xs : List Int} {d : Nat} {Q : Option w_V → w_M → Prop} {x1 : Int} {σ : w_M}
    (h : ((0 ≤ x1 ∧ x1 ≤ 127) → (((σ 1 1) < 160 → (p_Reader_put x1 σ ∧ (∀ (y1 : Int) (τ2 : w_M), q_Reader_put x1 σ y1 τ2 → Q (some (.inl y1)) τ2))) ∧ (160 ≤ (σ 1 1) → Q (some (.inl (-3))) σ))) ∧ (¬ (0 ≤ x1 ∧ x1 ≤ 127) → Q (some (.inl (-1))) σ)) : w_Call (xs, (d + 1)) 106 [.inr (.inr (0, 0)), .inl x1] σ Q :=
  (w_mk (mid := 106) (by decide) rfl rfl rfl rfl rfl (Nat.le_of_ble_eq_true rfl) ⟨rfl, Or.inl (by decide)⟩ (wi_iload1 fMoon_feed_0 (wi_bipush fMoon_feed_1 (wi_bipush fMoon_feed_2 (wi_call3 fMoon_feed_3 (Nat.le_of_ble_eq_true rfl) (k_Moon_isWithin (wi_ifb_ne fMoon_feed_4 (fun c4 => (wi_aload0 fMoon_feed_7 (wi_getf0 fMoon_feed_8 (wi_getf101 fMoon_feed_9 (wi_bipush fMoon_feed_10 (wi_ic_lt fMoon_feed_11 (fun c3 => (wi_aload0 fMoon_feed_14 (wi_getf0 fMoon_feed_15 (wi_iload1 fMoon_feed_16 (wi_call2 fMoon_feed_17 (Nat.le_of_ble_eq_true rfl) (k_Reader_put ((h.1 c4).1 c3).1 (fun y1 τ2 eτ2 => (wi_ret1 fMoon_feed_18 (((h.1 c4).1 c3).2 y1 τ2 eτ2))))))))) (fun c3 => (wi_bipush fMoon_feed_12 (wi_ret1 fMoon_feed_13 ((h.1 c4).2 c3)))))))))) (fun c4 => (wi_bipush fMoon_feed_5 (wi_ret1 fMoon_feed_6 (h.2 c4)))))))))))
theorem k_Moon_feed {xs : List Int} {d : Nat} {Q : Option w_V → w_M → Prop} {x1 : Int} {σ : w_M} (hp : p_Moon_feed x1 σ) (hQ : ∀ (x : Int) (σ' : w_M), q_Moon_feed x1 σ x σ' → Q (some (.inl x)) σ') : w_Call (xs, d + 1) 106 [.inr (.inr (0, 0)), .inl x1] σ Q := by
  have hC : CI σ := hp
  have hl := hC.ta
  unfold q_Moon_feed F_feed G_feed at hQ
  have el : cS σ 3 0 0 = σ 1 1 := rfl
  rw [el] at hQ
  refine bMoon_feed_0 ⟨fun c => ⟨fun c2 => ⟨⟨by omega, c⟩, fun y τ hq => ?_⟩, fun c2 => ?_⟩, fun c => ?_⟩
  · obtain ⟨q1, q2⟩ := hq
    rw [if_pos c, if_pos c2, if_pos ⟨c, c2⟩] at hQ
    refine hQ _ _ (c_q3 hC (fun b hb => ?_) ?_ ?_ ?_ (ta_up hC.1.2.2.2.1 c c2) q1)
    · rw [q2, w_up_ne (by omega), w_up_ne (by omega)]
    · rw [q2, w_up_ne (by decide), w_up_ne (by decide)]
    · rw [q2, w_up_ne (by decide), w_up_ne (by decide)]
    · have e1 : τ 1 1 = σ 1 1 + 1 := by rw [q2]; exact w_up_at
      have e2 : τ 2 = w_up σ 2 (σ 1 1).toNat x1 2 := by rw [q2]; exact w_up_ne (by decide)
      have e0 : τ 0 = σ 0 := by rw [q2, w_up_ne (by decide), w_up_ne (by decide)]
      funext d i
      by_cases hd0 : d = 0
      · subst hd0
        by_cases hi : i = 0
        · subst hi
          show τ 1 1 = _
          rw [e1]
          exact w_up_at.symm
        · show (if i = 0 then τ 1 1 else if i = 1 then τ 0 8 else 0) = w_up _ 0 0 _ 0 i
          rw [if_neg hi, e0, w_up_j hi, w_up_ne (by decide)]
          show _ = (if i = 0 then σ 1 1 else if i = 1 then σ 0 8 else 0)
          rw [if_neg hi]
      · rw [w_up_ne (show d ≠ 0 from hd0)]
        by_cases hd1 : d = 1
        · subst hd1
          show (if i < (τ 1 1).toNat then τ 2 i else 0) = _
          rw [e1, e2, w_up_eq, w_up_eq]
          show _ = if 1 = 1 ∧ i = (σ 1 1).toNat then x1 else if i < (σ 1 1).toNat then σ 2 i else 0
          by_cases hi : i = (σ 1 1).toNat
          · rw [if_pos (by omega), if_pos ⟨rfl, hi⟩, if_pos ⟨rfl, hi⟩]
          · rw [if_neg (show ¬ (2 = 2 ∧ i = (σ 1 1).toNat) from fun e => hi e.2), if_neg (show ¬ (1 = 1 ∧ i = (σ 1 1).toNat) from fun e => hi e.2)]
            by_cases hlt : i < (σ 1 1).toNat
            · rw [if_pos (by omega), if_pos hlt]
            · rw [if_neg (by omega), if_neg hlt]
        · rw [w_up_ne (show d ≠ 1 from hd1)]
          show (if d = 0 then _ else if d = 1 then _ else 0) = (if d = 0 then _ else if d = 1 then _ else 0)
          rw [if_neg hd0, if_neg hd1, if_neg hd0, if_neg hd1]
  · rw [if_pos c, if_neg (by omega), if_neg (by omega)] at hQ
    exact hQ _ _ (c_qr hC rfl)
  · rw [if_neg c, if_neg (fun q => c q.1)] at hQ
    exact hQ _ _ (c_qr hC rfl)
noncomputable def p_Moon_end (_x1 : Int) (σ : w_M) : Prop := CI σ
noncomputable def q_Moon_end (x1 : Int) (σ : w_M) (x : Int) (σ' : w_M) : Prop := c_q (F_end (cS σ) x1) (G_end (cS σ) x1) σ x σ'
theorem fMoon_end_0 : w_fe am_c108 0 1 (.aload 0) := ⟨rfl, rfl⟩
theorem fMoon_end_1 : w_fe am_c108 1 2 (.getfield 0) := ⟨rfl, rfl⟩
theorem fMoon_end_2 : w_fe am_c108 2 3 (.getfield 101) := ⟨rfl, rfl⟩
theorem fMoon_end_3 : w_fe am_c108 3 4 (.istore 2) := ⟨rfl, rfl⟩
theorem fMoon_end_4 : w_fe am_c108 4 5 (.iload 1) := ⟨rfl, rfl⟩
theorem fMoon_end_5 : w_fe am_c108 5 6 (.bipush 0) := ⟨rfl, rfl⟩
theorem fMoon_end_6 : w_fe am_c108 6 7 (.iload 2) := ⟨rfl, rfl⟩
theorem fMoon_end_7 : w_fe am_c108 7 8 (.invokestatic 107) := ⟨rfl, rfl⟩
theorem fMoon_end_8 : w_if am_c108 8 9 .ne 11 := ⟨rfl, rfl⟩
theorem fMoon_end_9 : w_fe am_c108 9 10 (.bipush (-1)) := ⟨rfl, rfl⟩
theorem fMoon_end_10 : w_fe am_c108 10 11 (.ireturn) := ⟨rfl, rfl⟩
theorem fMoon_end_11 : w_fe am_c108 11 12 (.aload 0) := ⟨rfl, rfl⟩
theorem fMoon_end_12 : w_fe am_c108 12 13 (.getfield 0) := ⟨rfl, rfl⟩
theorem fMoon_end_13 : w_fe am_c108 13 14 (.iload 1) := ⟨rfl, rfl⟩
theorem fMoon_end_14 : w_fe am_c108 14 15 (.putfield 101) := ⟨rfl, rfl⟩
theorem fMoon_end_15 : w_fe am_c108 15 16 (.iload 2) := ⟨rfl, rfl⟩
theorem fMoon_end_16 : w_fe am_c108 16 17 (.ireturn) := ⟨rfl, rfl⟩
set_option maxRecDepth 20000 in
theorem bMoon_end_0 {xs : List Int} {d : Nat} {Q : Option w_V → w_M → Prop} {x1 : Int} {σ : w_M}
    (h : ∀ (y1 : Int), y1 = (σ 1 1) → (((0 ≤ x1 ∧ x1 ≤ y1) → ∀ (τ2 : w_M), τ2 = w_up σ 1 1 x1 → Q (some (.inl y1)) τ2) ∧ (¬ (0 ≤ x1 ∧ x1 ≤ y1) → Q (some (.inl (-1))) σ))) : w_Call (xs, (d + 1)) 108 [.inr (.inr (0, 0)), .inl x1] σ Q :=
  (w_mk (mid := 108) (by decide) rfl rfl rfl rfl rfl (Nat.le_of_ble_eq_true rfl) ⟨rfl, Or.inl (by decide)⟩ (wi_aload0 fMoon_end_0 (wi_getf0 fMoon_end_1 (wi_getf101 fMoon_end_2 (wi_istore2 fMoon_end_3 trivial (wi_iload1 fMoon_end_4 (wi_bipush fMoon_end_5 (wi_iload2 fMoon_end_6 (wi_call3 fMoon_end_7 (Nat.le_of_ble_eq_true rfl) (k_Moon_isWithin (wi_ifb_ne fMoon_end_8 (fun c3 => (wi_aload0 fMoon_end_11 (wi_getf0 fMoon_end_12 (wi_iload1 fMoon_end_13 (wi_putf101 fMoon_end_14 (wi_iload2 fMoon_end_15 (wi_ret1 fMoon_end_16 (((h _ rfl).1 c3) _ rfl)))))))) (fun c3 => (wi_bipush fMoon_end_9 (wi_ret1 fMoon_end_10 ((h _ rfl).2 c3)))))))))))))))
theorem k_Moon_end {xs : List Int} {d : Nat} {Q : Option w_V → w_M → Prop} {x1 : Int} {σ : w_M} (hp : p_Moon_end x1 σ) (hQ : ∀ (x : Int) (σ' : w_M), q_Moon_end x1 σ x σ' → Q (some (.inl x)) σ') : w_Call (xs, d + 1) 108 [.inr (.inr (0, 0)), .inl x1] σ Q := by
  have hC : CI σ := hp
  have hl := hC.ta
  unfold q_Moon_end F_end G_end at hQ
  have el : cS σ 3 0 0 = σ 1 1 := rfl
  rw [el] at hQ
  refine bMoon_end_0 (fun y e => ?_)
  rw [e]
  refine ⟨fun c τ t => ?_, fun c => ?_⟩
  · rw [if_pos c, if_pos c] at hQ
    refine hQ _ _ (c_q3 hC (fun b hb => by rw [t, w_up_ne (by omega)]) (by rw [t, w_up_ne (by decide)]) (by rw [t, w_up_ne (by decide)]) ?_ (t_cut_WF hC.1.2.2.2.1 c) rfl)
    funext d i
    have e1 : τ 1 1 = x1 := by rw [t]; exact w_up_at
    have e0 : τ 0 = σ 0 := by rw [t, w_up_ne (by decide)]
    have e2 : τ 2 = σ 2 := by rw [t, w_up_ne (by decide)]
    unfold t_ab t_cut
    rw [e1, e0, e2]
    by_cases hd1 : d = 1
    · subst hd1
      show (if i < x1.toNat then σ 2 i else 0) = if i < x1.toNat then (if i < (σ 1 1).toNat then σ 2 i else 0) else 0
      by_cases hi : i < x1.toNat
      · rw [if_pos hi, if_pos hi, if_pos (by omega)]
      · rw [if_neg hi, if_neg hi]
    · rw [if_neg hd1, if_neg hd1]
      by_cases hd0 : d = 0
      · subst hd0
        by_cases hi : i = 0
        · subst hi; rfl
        · rw [if_pos rfl, if_neg hi, if_neg (show ¬ ((0 : Nat) = 0 ∧ i = 0) from fun q => hi q.2)]
          show _ = (if i = 0 then σ 1 1 else if i = 1 then σ 0 8 else 0)
          rw [if_neg hi]
      · rw [if_neg hd0, if_neg (fun q => hd0 q.1)]
        show 0 = if d = 0 then _ else if d = 1 then _ else 0
        rw [if_neg hd0, if_neg hd1]
  · rw [if_neg c, if_neg c] at hQ
    exact hQ _ _ (c_qr hC rfl)
noncomputable def p_Moon_fault  (σ : w_M) : Prop := CI σ
noncomputable def q_Moon_fault  (σ : w_M) (x : Int) (σ' : w_M) : Prop := c_q (F_fault (cS σ)) (cS σ) σ x σ'
noncomputable def p_Moon_torn (_ : w_M) : Prop := True
noncomputable def q_Moon_torn (σ : w_M) (x : Int) (σ' : w_M) : Prop := x = σ 0 9 ∧ σ' = σ
theorem fMoon_fault_0 : w_fe am_c111 0 1 (.aload 0) := ⟨rfl, rfl⟩
theorem fMoon_fault_1 : w_fe am_c111 1 2 (.getfield 8) := ⟨rfl, rfl⟩
theorem fMoon_fault_2 : w_fe am_c111 2 3 (.ireturn) := ⟨rfl, rfl⟩
set_option maxRecDepth 20000 in
theorem bMoon_fault_0 {xs : List Int} {d : Nat} {Q : Option w_V → w_M → Prop}  {σ : w_M}
    (h : Q (some (.inl (σ 0 8))) σ) : w_Call (xs, d) 111 [.inr (.inr (0, 0))] σ Q :=
  (w_mk (mid := 111) (by decide) rfl rfl rfl rfl rfl (Nat.le_of_ble_eq_true rfl) ⟨rfl, Or.inl (by decide)⟩ (wi_aload0 fMoon_fault_0 (wi_getf8 fMoon_fault_1 (wi_ret1 fMoon_fault_2 h))))
theorem fMoon_torn_0 : w_fe am_c151 0 1 (.aload 0) := ⟨rfl, rfl⟩
theorem fMoon_torn_1 : w_fe am_c151 1 2 (.getfield 9) := ⟨rfl, rfl⟩
theorem fMoon_torn_2 : w_fe am_c151 2 3 (.ireturn) := ⟨rfl, rfl⟩
set_option maxRecDepth 20000 in
theorem bMoon_torn_0 {xs : List Int} {d : Nat} {Q : Option w_V → w_M → Prop}  {σ : w_M}
    (h : Q (some (.inl (σ 0 9))) σ) : w_Call (xs, d) 151 [.inr (.inr (0, 0))] σ Q :=
  (w_mk (mid := 151) (by decide) rfl rfl rfl rfl rfl (Nat.le_of_ble_eq_true rfl) ⟨rfl, Or.inl (by decide)⟩ (wi_aload0 fMoon_torn_0 (wi_getf9 fMoon_torn_1 (wi_ret1 fMoon_torn_2 h))))
theorem k_Moon_fault {xs : List Int} {d : Nat} {Q : Option w_V → w_M → Prop}  {σ : w_M} (hp : p_Moon_fault σ) (hQ : ∀ (x : Int) (σ' : w_M), q_Moon_fault σ x σ' → Q (some (.inl x)) σ') : w_Call (xs, d) 111 [.inr (.inr (0, 0))] σ Q := bMoon_fault_0 (hQ _ _ (c_qr hp rfl))
theorem k_Moon_torn {xs : List Int} {d : Nat} {Q : Option w_V → w_M → Prop}  {σ : w_M} (hp : p_Moon_torn σ) (hQ : ∀ (x : Int) (σ' : w_M), q_Moon_torn σ x σ' → Q (some (.inl x)) σ') : w_Call (xs, d) 151 [.inr (.inr (0, 0))] σ Q := bMoon_torn_0 (hQ _ _ ⟨rfl, rfl⟩)
noncomputable def p_Moon_rule (_x1 : Int) (σ : w_M) : Prop := CI σ
noncomputable def q_Moon_rule (x1 : Int) (σ : w_M) (x : Int) (σ' : w_M) : Prop := c_q (F_rule (cS σ) x1) (cS σ) σ x σ'
theorem fMoon_rule_0 : w_fe am_c112 0 1 (.iload 1) := ⟨rfl, rfl⟩
theorem fMoon_rule_1 {E : w_C} {rt : Nat} {Q : Option w_V → w_M → Prop} {ls : w_L} {st : List w_V} {σ : w_M} {x : Int} (h0 : x = 0 → w_Ex E rt am_c112 Q 2 ls st σ) (h1 : x = 1 → w_Ex E rt am_c112 Q 6 ls st σ) (h2 : x = 2 → w_Ex E rt am_c112 Q 10 ls st σ) (h3 : x = 3 → w_Ex E rt am_c112 Q 14 ls st σ) (h4 : x = 4 → w_Ex E rt am_c112 Q 18 ls st σ) (h5 : x = 5 → w_Ex E rt am_c112 Q 22 ls st σ) (h6 : x = 6 → w_Ex E rt am_c112 Q 26 ls st σ) (hd : x < 0 ∨ 6 < x → w_Ex E rt am_c112 Q 30 ls st σ) : w_Ex E rt am_c112 Q 1 ls (.inl x :: st) σ :=
  w_Ex_in (op := .tableswitch 30 0 6 #[2, 6, 10, 14, 18, 22, 26]) rfl ⟨rfl, hd, And.intro h0 (And.intro h1 (And.intro h2 (And.intro h3 (And.intro h4 (And.intro h5 (And.intro h6 ( trivial)))))))⟩
theorem fMoon_rule_2 : w_fe am_c112 2 3 (.aload 0) := ⟨rfl, rfl⟩
theorem fMoon_rule_3 : w_fe am_c112 3 4 (.getfield 2) := ⟨rfl, rfl⟩
theorem fMoon_rule_4 : w_fe am_c112 4 5 (.getfield 200) := ⟨rfl, rfl⟩
theorem fMoon_rule_5 : w_fe am_c112 5 6 (.ireturn) := ⟨rfl, rfl⟩
theorem fMoon_rule_6 : w_fe am_c112 6 7 (.aload 0) := ⟨rfl, rfl⟩
theorem fMoon_rule_7 : w_fe am_c112 7 8 (.getfield 2) := ⟨rfl, rfl⟩
theorem fMoon_rule_8 : w_fe am_c112 8 9 (.getfield 201) := ⟨rfl, rfl⟩
theorem fMoon_rule_9 : w_fe am_c112 9 10 (.ireturn) := ⟨rfl, rfl⟩
theorem fMoon_rule_10 : w_fe am_c112 10 11 (.aload 0) := ⟨rfl, rfl⟩
theorem fMoon_rule_11 : w_fe am_c112 11 12 (.getfield 2) := ⟨rfl, rfl⟩
theorem fMoon_rule_12 : w_fe am_c112 12 13 (.getfield 202) := ⟨rfl, rfl⟩
theorem fMoon_rule_13 : w_fe am_c112 13 14 (.ireturn) := ⟨rfl, rfl⟩
theorem fMoon_rule_14 : w_fe am_c112 14 15 (.aload 0) := ⟨rfl, rfl⟩
theorem fMoon_rule_15 : w_fe am_c112 15 16 (.getfield 2) := ⟨rfl, rfl⟩
theorem fMoon_rule_16 : w_fe am_c112 16 17 (.getfield 204) := ⟨rfl, rfl⟩
theorem fMoon_rule_17 : w_fe am_c112 17 18 (.ireturn) := ⟨rfl, rfl⟩
theorem fMoon_rule_18 : w_fe am_c112 18 19 (.aload 0) := ⟨rfl, rfl⟩
theorem fMoon_rule_19 : w_fe am_c112 19 20 (.getfield 2) := ⟨rfl, rfl⟩
theorem fMoon_rule_20 : w_fe am_c112 20 21 (.getfield 205) := ⟨rfl, rfl⟩
theorem fMoon_rule_21 : w_fe am_c112 21 22 (.ireturn) := ⟨rfl, rfl⟩
theorem fMoon_rule_22 : w_fe am_c112 22 23 (.aload 0) := ⟨rfl, rfl⟩
theorem fMoon_rule_23 : w_fe am_c112 23 24 (.getfield 2) := ⟨rfl, rfl⟩
theorem fMoon_rule_24 : w_fe am_c112 24 25 (.getfield 203) := ⟨rfl, rfl⟩
theorem fMoon_rule_25 : w_fe am_c112 25 26 (.ireturn) := ⟨rfl, rfl⟩
theorem fMoon_rule_26 : w_fe am_c112 26 27 (.aload 0) := ⟨rfl, rfl⟩
theorem fMoon_rule_27 : w_fe am_c112 27 28 (.getfield 2) := ⟨rfl, rfl⟩
theorem fMoon_rule_28 : w_fe am_c112 28 29 (.invokestatic 35) := ⟨rfl, rfl⟩
theorem fMoon_rule_29 : w_fe am_c112 29 30 (.ireturn) := ⟨rfl, rfl⟩
theorem fMoon_rule_30 : w_fe am_c112 30 31 (.bipush (-1)) := ⟨rfl, rfl⟩
theorem fMoon_rule_31 : w_fe am_c112 31 32 (.ireturn) := ⟨rfl, rfl⟩
set_option maxRecDepth 20000 in
theorem bMoon_rule_0 {xs : List Int} {d : Nat} {Q : Option w_V → w_M → Prop} {x1 : Int} {σ : w_M}
    (h : (x1 = 0 → Q (some (.inl (σ 14 0))) σ) ∧ (x1 = 1 → Q (some (.inl (σ 14 1))) σ) ∧ (x1 = 2 → Q (some (.inl (σ 14 2))) σ) ∧ (x1 = 3 → Q (some (.inl (σ 14 4))) σ) ∧ (x1 = 4 → Q (some (.inl (σ 14 5))) σ) ∧ (x1 = 5 → Q (some (.inl (σ 14 3))) σ) ∧ (x1 = 6 → (p_Field_standing 14 σ ∧ (∀ (y1 : Int), y1 = v_Field_standing 14 σ → Q (some (.inl y1)) σ))) ∧ (x1 < 0 ∨ 6 < x1 → Q (some (.inl (-1))) σ)) : w_Call (xs, (d + 1)) 112 [.inr (.inr (0, 0)), .inl x1] σ Q :=
  (w_mk (mid := 112) (by decide) rfl rfl rfl rfl rfl (Nat.le_of_ble_eq_true rfl) ⟨rfl, Or.inl (by decide)⟩ (wi_iload1 fMoon_rule_0 (fMoon_rule_1 (fun c => (wi_aload0 fMoon_rule_2 (wi_getf2 fMoon_rule_3 (wi_getf200 fMoon_rule_4 (wi_ret1 fMoon_rule_5 (h.1 c)))))) (fun c => (wi_aload0 fMoon_rule_6 (wi_getf2 fMoon_rule_7 (wi_getf201 fMoon_rule_8 (wi_ret1 fMoon_rule_9 (h.2.1 c)))))) (fun c => (wi_aload0 fMoon_rule_10 (wi_getf2 fMoon_rule_11 (wi_getf202 fMoon_rule_12 (wi_ret1 fMoon_rule_13 (h.2.2.1 c)))))) (fun c => (wi_aload0 fMoon_rule_14 (wi_getf2 fMoon_rule_15 (wi_getf204 fMoon_rule_16 (wi_ret1 fMoon_rule_17 (h.2.2.2.1 c)))))) (fun c => (wi_aload0 fMoon_rule_18 (wi_getf2 fMoon_rule_19 (wi_getf205 fMoon_rule_20 (wi_ret1 fMoon_rule_21 (h.2.2.2.2.1 c)))))) (fun c => (wi_aload0 fMoon_rule_22 (wi_getf2 fMoon_rule_23 (wi_getf203 fMoon_rule_24 (wi_ret1 fMoon_rule_25 (h.2.2.2.2.2.1 c)))))) (fun c => (wi_aload0 fMoon_rule_26 (wi_getf2 fMoon_rule_27 (wi_call1 fMoon_rule_28 (Nat.le_of_ble_eq_true rfl) (k_Field_standing (h.2.2.2.2.2.2.1 c).1 (wi_ret1 fMoon_rule_29 ((h.2.2.2.2.2.2.1 c).2 _ rfl))))))) (fun c => (wi_bipush fMoon_rule_30 (wi_ret1 fMoon_rule_31 (h.2.2.2.2.2.2.2 c)))))))
theorem k_Moon_rule {xs : List Int} {d : Nat} {Q : Option w_V → w_M → Prop} {x1 : Int} {σ : w_M} (hp : p_Moon_rule x1 σ) (hQ : ∀ (x : Int) (σ' : w_M), q_Moon_rule x1 σ x σ' → Q (some (.inl x)) σ') : w_Call (xs, d + 1) 112 [.inr (.inr (0, 0)), .inl x1] σ Q := by
  have hC : CI σ := hp
  unfold q_Moon_rule F_rule at hQ
  refine bMoon_rule_0 ⟨fun c => ?_, fun c => ?_, fun c => ?_, fun c => ?_, fun c => ?_, fun c => ?_, fun c => ⟨hC.ok, fun y e => ?_⟩, fun c => ?_⟩
  · rw [if_pos c] at hQ; exact hQ _ _ (c_qr hC rfl)
  · rw [if_neg (by omega), if_pos c] at hQ; exact hQ _ _ (c_qr hC rfl)
  · rw [if_neg (by omega), if_neg (by omega), if_pos c] at hQ; exact hQ _ _ (c_qr hC rfl)
  · rw [if_neg (by omega), if_neg (by omega), if_neg (by omega), if_pos c] at hQ; exact hQ _ _ (c_qr hC rfl)
  · rw [if_neg (by omega), if_neg (by omega), if_neg (by omega), if_neg (by omega), if_pos c] at hQ; exact hQ _ _ (c_qr hC rfl)
  · rw [if_neg (by omega), if_neg (by omega), if_neg (by omega), if_neg (by omega), if_neg (by omega), if_pos c] at hQ; exact hQ _ _ (c_qr hC rfl)
  · rw [if_neg (by omega), if_neg (by omega), if_neg (by omega), if_neg (by omega), if_neg (by omega), if_neg (by omega), if_pos c] at hQ; exact hQ _ _ (c_qr hC e)
  · rw [if_neg (by omega), if_neg (by omega), if_neg (by omega), if_neg (by omega), if_neg (by omega), if_neg (by omega), if_neg (by omega)] at hQ; exact hQ _ _ (c_qr hC rfl)
theorem c_rd {σ : w_M} {a d : Nat} {i : Int} (h : n_ok σ a) (h1 : 1 ≤ d) (h2 : d ≤ 2) (hi : 0 ≤ i ∧ i < σ a 4) : σ (a + d) i.toNat = w_ab σ a d i.toNat := w_rd (by omega) (by rw [w_rl12 h1 h2]; omega)
theorem c_rdr {σ : w_M} {a d : Nat} {r : Int} (h : n_ok σ a) (h1 : 3 ≤ d) (h2 : d ≤ 7) (hr : 0 ≤ r ∧ r < σ a 5) : σ (a + d) r.toNat = w_ab σ a d r.toNat := w_rd (by omega) (by rw [w_rl37 h1 h2]; omega)
theorem c_rd9 {σ : w_M} {a : Nat} {i : Int} (hi : 0 ≤ i ∧ i < σ a 4) : w_ab σ a 9 i.toNat = w_and (w_shr (σ a 6) i) 1 := by
  show (if i.toNat < (σ a 4).toNat then w_and (w_shr (σ a 6) ((i.toNat : Nat) : Int)) 1 else 0) = _
  rw [if_pos (by omega), Int.toNat_of_nonneg hi.1]
noncomputable def p_Moon_strip (_x1 : Int) (_x2 : Int) (σ : w_M) : Prop := CI σ
noncomputable def q_Moon_strip (x1 : Int) (x2 : Int) (σ : w_M) (x : Int) (σ' : w_M) : Prop := c_q (F_strip (cS σ) x1 x2) (cS σ) σ x σ'
theorem fMoon_strip_0 : w_fe am_c113 0 1 (.aload 0) := ⟨rfl, rfl⟩
theorem fMoon_strip_1 : w_fe am_c113 1 2 (.getfield 2) := ⟨rfl, rfl⟩
theorem fMoon_strip_2 : w_fe am_c113 2 3 (.iload 1) := ⟨rfl, rfl⟩
theorem fMoon_strip_3 : w_fe am_c113 3 4 (.invokestatic 33) := ⟨rfl, rfl⟩
theorem fMoon_strip_4 : w_if am_c113 4 5 .ne 7 := ⟨rfl, rfl⟩
theorem fMoon_strip_5 : w_fe am_c113 5 6 (.bipush (-1)) := ⟨rfl, rfl⟩
theorem fMoon_strip_6 : w_fe am_c113 6 7 (.ireturn) := ⟨rfl, rfl⟩
theorem fMoon_strip_7 : w_fe am_c113 7 8 (.iload 2) := ⟨rfl, rfl⟩
theorem fMoon_strip_8 {E : w_C} {rt : Nat} {Q : Option w_V → w_M → Prop} {ls : w_L} {st : List w_V} {σ : w_M} {x : Int} (h0 : x = 0 → w_Ex E rt am_c113 Q 9 ls st σ) (h1 : x = 1 → w_Ex E rt am_c113 Q 15 ls st σ) (h2 : x = 2 → w_Ex E rt am_c113 Q 21 ls st σ) (h3 : x = 3 → w_Ex E rt am_c113 Q 30 ls st σ) (hd : x < 0 ∨ 3 < x → w_Ex E rt am_c113 Q 35 ls st σ) : w_Ex E rt am_c113 Q 8 ls (.inl x :: st) σ :=
  w_Ex_in (op := .tableswitch 35 0 3 #[9, 15, 21, 30]) rfl ⟨rfl, hd, And.intro h0 (And.intro h1 (And.intro h2 (And.intro h3 ( trivial))))⟩
theorem fMoon_strip_9 : w_fe am_c113 9 10 (.aload 0) := ⟨rfl, rfl⟩
theorem fMoon_strip_10 : w_fe am_c113 10 11 (.getfield 2) := ⟨rfl, rfl⟩
theorem fMoon_strip_11 : w_fe am_c113 11 12 (.getfield 207) := ⟨rfl, rfl⟩
theorem fMoon_strip_12 : w_fe am_c113 12 13 (.iload 1) := ⟨rfl, rfl⟩
theorem fMoon_strip_13 : w_fe am_c113 13 14 (.iaload) := ⟨rfl, rfl⟩
theorem fMoon_strip_14 : w_fe am_c113 14 15 (.ireturn) := ⟨rfl, rfl⟩
theorem fMoon_strip_15 : w_fe am_c113 15 16 (.aload 0) := ⟨rfl, rfl⟩
theorem fMoon_strip_16 : w_fe am_c113 16 17 (.getfield 2) := ⟨rfl, rfl⟩
theorem fMoon_strip_17 : w_fe am_c113 17 18 (.getfield 208) := ⟨rfl, rfl⟩
theorem fMoon_strip_18 : w_fe am_c113 18 19 (.iload 1) := ⟨rfl, rfl⟩
theorem fMoon_strip_19 : w_fe am_c113 19 20 (.iaload) := ⟨rfl, rfl⟩
theorem fMoon_strip_20 : w_fe am_c113 20 21 (.ireturn) := ⟨rfl, rfl⟩
theorem fMoon_strip_21 : w_fe am_c113 21 22 (.aload 0) := ⟨rfl, rfl⟩
theorem fMoon_strip_22 : w_fe am_c113 22 23 (.getfield 2) := ⟨rfl, rfl⟩
theorem fMoon_strip_23 : w_fe am_c113 23 24 (.iload 1) := ⟨rfl, rfl⟩
theorem fMoon_strip_24 : w_fe am_c113 24 25 (.invokestatic 30) := ⟨rfl, rfl⟩
theorem fMoon_strip_25 : w_if am_c113 25 26 .eq 28 := ⟨rfl, rfl⟩
theorem fMoon_strip_26 : w_fe am_c113 26 27 (.bipush 1) := ⟨rfl, rfl⟩
theorem fMoon_strip_27 : w_gt am_c113 27 29 := rfl
theorem fMoon_strip_28 : w_fe am_c113 28 29 (.bipush 0) := ⟨rfl, rfl⟩
theorem fMoon_strip_29 : w_fe am_c113 29 30 (.ireturn) := ⟨rfl, rfl⟩
theorem fMoon_strip_30 : w_fe am_c113 30 31 (.aload 0) := ⟨rfl, rfl⟩
theorem fMoon_strip_31 : w_fe am_c113 31 32 (.getfield 2) := ⟨rfl, rfl⟩
theorem fMoon_strip_32 : w_fe am_c113 32 33 (.iload 1) := ⟨rfl, rfl⟩
theorem fMoon_strip_33 : w_fe am_c113 33 34 (.invokestatic 36) := ⟨rfl, rfl⟩
theorem fMoon_strip_34 : w_fe am_c113 34 35 (.ireturn) := ⟨rfl, rfl⟩
theorem fMoon_strip_35 : w_fe am_c113 35 36 (.bipush (-1)) := ⟨rfl, rfl⟩
theorem fMoon_strip_36 : w_fe am_c113 36 37 (.ireturn) := ⟨rfl, rfl⟩
set_option maxRecDepth 20000 in
theorem bMoon_strip_0 {xs : List Int} {d : Nat} {Q : Option w_V → w_M → Prop} {x1 : Int} {x2 : Int} {σ : w_M}
    (h : ((0 ≤ x1 ∧ x1 < σ 14 4) → ((x2 = 0 → (0 ≤ x1 ∧ x1 < 7 ∧ Q (some (.inl (σ 15 x1.toNat))) σ)) ∧ (x2 = 1 → (0 ≤ x1 ∧ x1 < 7 ∧ Q (some (.inl (σ 16 x1.toNat))) σ)) ∧ (x2 = 2 → ((¬ (¬ w_and (w_shr (σ 14 6) x1) 1 = 0) → Q (some (.inl 0)) σ) ∧ ((¬ w_and (w_shr (σ 14 6) x1) 1 = 0) → Q (some (.inl 1)) σ))) ∧ (x2 = 3 → (p_Field_reapersAt 14 x1 σ ∧ (∀ (y2 : Int), y2 = v_Field_reapersAt 14 x1 σ → Q (some (.inl y2)) σ))) ∧ (x2 < 0 ∨ 3 < x2 → Q (some (.inl (-1))) σ))) ∧ (¬ (0 ≤ x1 ∧ x1 < σ 14 4) → Q (some (.inl (-1))) σ)) : w_Call (xs, (d + 2)) 113 [.inr (.inr (0, 0)), .inl x1, .inl x2] σ Q :=
  (w_mk (mid := 113) (by decide) rfl rfl rfl rfl rfl (Nat.le_of_ble_eq_true rfl) ⟨rfl, Or.inl (by decide)⟩ (wi_aload0 fMoon_strip_0 (wi_getf2 fMoon_strip_1 (wi_iload1 fMoon_strip_2 (wi_call2 fMoon_strip_3 (Nat.le_of_ble_eq_true rfl) (k_Field_isStrip (wi_ifb_ne fMoon_strip_4 (fun c3 => (wi_iload2 fMoon_strip_7 (fMoon_strip_8 (fun c => (wi_aload0 fMoon_strip_9 (wi_getf2 fMoon_strip_10 (wi_getf207 fMoon_strip_11 (wi_iload1 fMoon_strip_12 (wi_iald1007 fMoon_strip_13 ((h.1 c3).1 c).1 ((h.1 c3).1 c).2.1 (wi_ret1 fMoon_strip_14 ((h.1 c3).1 c).2.2))))))) (fun c => (wi_aload0 fMoon_strip_15 (wi_getf2 fMoon_strip_16 (wi_getf208 fMoon_strip_17 (wi_iload1 fMoon_strip_18 (wi_iald1007 fMoon_strip_19 ((h.1 c3).2.1 c).1 ((h.1 c3).2.1 c).2.1 (wi_ret1 fMoon_strip_20 ((h.1 c3).2.1 c).2.2))))))) (fun c => (wi_aload0 fMoon_strip_21 (wi_getf2 fMoon_strip_22 (wi_iload1 fMoon_strip_23 (wi_call2 fMoon_strip_24 (Nat.le_of_ble_eq_true rfl) (k_Field_isThistly (wi_ifb_eq fMoon_strip_25 (fun c1 => (wi_bipush fMoon_strip_28 (wi_ret1 fMoon_strip_29 (((h.1 c3).2.2.1 c).1 c1)))) (fun c1 => (wi_bipush fMoon_strip_26 (wi_goto fMoon_strip_27 (wi_ret1 fMoon_strip_29 (((h.1 c3).2.2.1 c).2 c1)))))))))))) (fun c => (wi_aload0 fMoon_strip_30 (wi_getf2 fMoon_strip_31 (wi_iload1 fMoon_strip_32 (wi_call2 fMoon_strip_33 (Nat.le_of_ble_eq_true rfl) (k_Field_reapersAt ((h.1 c3).2.2.2.1 c).1 (wi_ret1 fMoon_strip_34 (((h.1 c3).2.2.2.1 c).2 _ rfl)))))))) (fun c => (wi_bipush fMoon_strip_35 (wi_ret1 fMoon_strip_36 ((h.1 c3).2.2.2.2 c))))))) (fun c3 => (wi_bipush fMoon_strip_5 (wi_ret1 fMoon_strip_6 (h.2 c3)))))))))))
theorem k_Moon_strip {xs : List Int} {d : Nat} {Q : Option w_V → w_M → Prop} {x1 : Int} {x2 : Int} {σ : w_M} (hp : p_Moon_strip x1 x2 σ) (hQ : ∀ (x : Int) (σ' : w_M), q_Moon_strip x1 x2 σ x σ' → Q (some (.inl x)) σ') : w_Call (xs, d + 2) 113 [.inr (.inr (0, 0)), .inl x1, .inl x2] σ Q := by
  have hC : CI σ := hp
  have hs := n_ok.s hC.ok
  unfold q_Moon_strip F_strip at hQ
  have e4 : cS σ 0 0 4 = σ 14 4 := rfl
  rw [e4] at hQ
  refine bMoon_strip_0 ⟨fun c => ?_, fun c => ?_⟩
  · rw [if_pos c] at hQ
    have e9 := c_rd9 (σ := σ) (a := 14) c
    have h01 := w_and1 (w_shr (σ 14 6) x1)
    refine ⟨fun w => ⟨c.1, by omega, ?_⟩, fun w => ⟨c.1, by omega, ?_⟩, fun w => ⟨fun z => ?_, fun z => ?_⟩, fun w => ⟨hC.ok, fun y e => ?_⟩, fun w => ?_⟩
    · rw [if_pos w] at hQ; exact hQ _ _ (c_qr hC (c_rd (a := 14) (d := 1) hC.ok (by decide) (by decide) c))
    · rw [if_neg (by omega), if_pos w] at hQ; exact hQ _ _ (c_qr hC (c_rd (a := 14) (d := 2) hC.ok (by decide) (by decide) c))
    · rw [if_neg (by omega), if_neg (by omega), if_pos w] at hQ; exact hQ _ _ (c_qr hC ((Classical.not_not.mp z).symm.trans e9.symm))
    · rw [if_neg (by omega), if_neg (by omega), if_pos w] at hQ; exact hQ _ _ (c_qr hC ((h01.resolve_left z).symm.trans e9.symm))
    · rw [if_neg (by omega), if_neg (by omega), if_neg (by omega), if_pos w] at hQ; exact hQ _ _ (c_qr hC e)
    · rw [if_neg (by omega), if_neg (by omega), if_neg (by omega), if_neg (by omega)] at hQ; exact hQ _ _ (c_qr hC rfl)
  · rw [if_neg c] at hQ; exact hQ _ _ (c_qr hC rfl)
noncomputable def p_Moon_reaper (_x1 : Int) (_x2 : Int) (σ : w_M) : Prop := CI σ
noncomputable def q_Moon_reaper (x1 : Int) (x2 : Int) (σ : w_M) (x : Int) (σ' : w_M) : Prop := c_q (F_reaper (cS σ) x1 x2) (cS σ) σ x σ'
theorem fMoon_reaper_0 : w_fe am_c114 0 1 (.aload 0) := ⟨rfl, rfl⟩
theorem fMoon_reaper_1 : w_fe am_c114 1 2 (.getfield 2) := ⟨rfl, rfl⟩
theorem fMoon_reaper_2 : w_fe am_c114 2 3 (.iload 1) := ⟨rfl, rfl⟩
theorem fMoon_reaper_3 : w_fe am_c114 3 4 (.iload 2) := ⟨rfl, rfl⟩
theorem fMoon_reaper_4 : w_fe am_c114 4 5 (.invokestatic 37) := ⟨rfl, rfl⟩
theorem fMoon_reaper_5 : w_fe am_c114 5 6 (.ireturn) := ⟨rfl, rfl⟩
set_option maxRecDepth 20000 in
theorem bMoon_reaper_0 {xs : List Int} {d : Nat} {Q : Option w_V → w_M → Prop} {x1 : Int} {x2 : Int} {σ : w_M}
    (h : p_Field_tellOf 14 x1 x2 σ ∧ (∀ (y1 : Int), y1 = v_Field_tellOf 14 x1 x2 σ → Q (some (.inl y1)) σ)) : w_Call (xs, (d + 2)) 114 [.inr (.inr (0, 0)), .inl x1, .inl x2] σ Q :=
  (w_mk (mid := 114) (by decide) rfl rfl rfl rfl rfl (Nat.le_of_ble_eq_true rfl) ⟨rfl, Or.inl (by decide)⟩ (wi_aload0 fMoon_reaper_0 (wi_getf2 fMoon_reaper_1 (wi_iload1 fMoon_reaper_2 (wi_iload2 fMoon_reaper_3 (wi_call3 fMoon_reaper_4 (Nat.le_of_ble_eq_true rfl) (k_Field_tellOf h.1 (wi_ret1 fMoon_reaper_5 (h.2 _ rfl)))))))))
theorem k_Moon_reaper {xs : List Int} {d : Nat} {Q : Option w_V → w_M → Prop} {x1 : Int} {x2 : Int} {σ : w_M} (hp : p_Moon_reaper x1 x2 σ) (hQ : ∀ (x : Int) (σ' : w_M), q_Moon_reaper x1 x2 σ x σ' → Q (some (.inl x)) σ') : w_Call (xs, d + 2) 114 [.inr (.inr (0, 0)), .inl x1, .inl x2] σ Q := bMoon_reaper_0 ⟨CI.ok hp, fun y e => hQ _ _ (c_qr hp e)⟩
noncomputable def p_Moon_harvest (_x1 : Int) (σ : w_M) : Prop := CI σ
noncomputable def q_Moon_harvest (x1 : Int) (σ : w_M) (x : Int) (σ' : w_M) : Prop := c_q (F_harvest (cS σ) x1) (cS σ) σ x σ'
theorem fMoon_harvest_0 : w_fe am_c115 0 1 (.iload 1) := ⟨rfl, rfl⟩
theorem fMoon_harvest_1 : w_fe am_c115 1 2 (.bipush 0) := ⟨rfl, rfl⟩
theorem fMoon_harvest_2 : w_fe am_c115 2 3 (.bipush 3) := ⟨rfl, rfl⟩
theorem fMoon_harvest_3 : w_fe am_c115 3 4 (.invokestatic 107) := ⟨rfl, rfl⟩
theorem fMoon_harvest_4 : w_if am_c115 4 5 .eq 11 := ⟨rfl, rfl⟩
theorem fMoon_harvest_5 : w_fe am_c115 5 6 (.aload 0) := ⟨rfl, rfl⟩
theorem fMoon_harvest_6 : w_fe am_c115 6 7 (.getfield 2) := ⟨rfl, rfl⟩
theorem fMoon_harvest_7 : w_fe am_c115 7 8 (.getfield 214) := ⟨rfl, rfl⟩
theorem fMoon_harvest_8 : w_fe am_c115 8 9 (.iload 1) := ⟨rfl, rfl⟩
theorem fMoon_harvest_9 : w_fe am_c115 9 10 (.iaload) := ⟨rfl, rfl⟩
theorem fMoon_harvest_10 : w_gt am_c115 10 12 := rfl
theorem fMoon_harvest_11 : w_fe am_c115 11 12 (.bipush (-1)) := ⟨rfl, rfl⟩
theorem fMoon_harvest_12 : w_fe am_c115 12 13 (.ireturn) := ⟨rfl, rfl⟩
set_option maxRecDepth 20000 in
theorem bMoon_harvest_0 {xs : List Int} {d : Nat} {Q : Option w_V → w_M → Prop} {x1 : Int} {σ : w_M}
    (h : (¬ (0 ≤ x1 ∧ x1 ≤ 3) → Q (some (.inl (-1))) σ) ∧ ((0 ≤ x1 ∧ x1 ≤ 3) → (0 ≤ x1 ∧ x1 < 4 ∧ Q (some (.inl (σ 22 x1.toNat))) σ))) : w_Call (xs, (d + 1)) 115 [.inr (.inr (0, 0)), .inl x1] σ Q :=
  (w_mk (mid := 115) (by decide) rfl rfl rfl rfl rfl (Nat.le_of_ble_eq_true rfl) ⟨rfl, Or.inl (by decide)⟩ (wi_iload1 fMoon_harvest_0 (wi_bipush fMoon_harvest_1 (wi_bipush fMoon_harvest_2 (wi_call3 fMoon_harvest_3 (Nat.le_of_ble_eq_true rfl) (k_Moon_isWithin (wi_ifb_eq fMoon_harvest_4 (fun c1 => (wi_bipush fMoon_harvest_11 (wi_ret1 fMoon_harvest_12 (h.1 c1)))) (fun c1 => (wi_aload0 fMoon_harvest_5 (wi_getf2 fMoon_harvest_6 (wi_getf214 fMoon_harvest_7 (wi_iload1 fMoon_harvest_8 (wi_iald1004 fMoon_harvest_9 (h.2 c1).1 (h.2 c1).2.1 (wi_goto fMoon_harvest_10 (wi_ret1 fMoon_harvest_12 (h.2 c1).2.2)))))))))))))))
theorem k_Moon_harvest {xs : List Int} {d : Nat} {Q : Option w_V → w_M → Prop} {x1 : Int} {σ : w_M} (hp : p_Moon_harvest x1 σ) (hQ : ∀ (x : Int) (σ' : w_M), q_Moon_harvest x1 σ x σ' → Q (some (.inl x)) σ') : w_Call (xs, d + 1) 115 [.inr (.inr (0, 0)), .inl x1] σ Q := by
  have hC : CI σ := hp
  unfold q_Moon_harvest F_harvest at hQ
  refine bMoon_harvest_0 ⟨fun c => ?_, fun c => ⟨c.1, by omega, ?_⟩⟩
  · rw [if_neg c] at hQ; exact hQ _ _ (c_qr hC rfl)
  · rw [if_pos c] at hQ; exact hQ _ _ (c_qr hC (w_rd (a := 14) (d := 8) (by decide) (show x1.toNat < 4 by omega)))
/-- one number of the night is changed -/
theorem c_set {σ τ : w_M} {P : Prop} {d j : Nat} {v x : Int} {Q : Option w_V → w_M → Prop} (hC : CI σ) (hP : P) (h1 : 1 ≤ d) (h9 : d < 9) (hj : j < w_rl σ 14 d) (hW : n_WF (w_up (w_ab σ 14) d j v)) (ht : τ = w_up σ (14 + d) j v) (hx : x = σ (14 + d) j) : c_q (F_set (cS σ) P d j) (G_set (cS σ) P d j v) σ x τ := by
  rw [F_set_t hP, G_set_t hP]
  refine c_q0 hC (by rw [ht]; exact w_fr.up0 (by omega) (by omega)) ?_ hW ?_ ?_ ?_ ?_ ?_
  · rw [ht]; exact w_ab_up h1 h9 hj
  · show w_up (w_ab σ 14) d j v 0 0 = σ 14 0; rw [w_up_ne (by omega)]; rfl
  · show w_up (w_ab σ 14) d j v 0 4 = σ 14 4; rw [w_up_ne (by omega)]; rfl
  · show w_up (w_ab σ 14) d j v 0 5 = σ 14 5; rw [w_up_ne (by omega)]; rfl
  · rw [ht, w_up_ne (by omega)]; exact hC.2.1
  · rw [hx]; exact w_rd h9 hj
theorem c_no {σ : w_M} {P : Prop} {d j : Nat} {v : Int} (hC : CI σ) (hP : ¬ P) : c_q (F_set (cS σ) P d j) (G_set (cS σ) P d j v) σ (-1) σ := by
  rw [F_set_f hP, G_set_f hP]
  exact c_qr hC rfl
noncomputable def p_Moon_send (_x1 : Int) (_x2 : Int) (σ : w_M) : Prop := CI σ
noncomputable def q_Moon_send (x1 : Int) (x2 : Int) (σ : w_M) (x : Int) (σ' : w_M) : Prop := c_q (F_send (cS σ) x1 x2) (G_send (cS σ) x1 x2) σ x σ'
noncomputable def p_Moon_whet (_x1 : Int) (_x2 : Int) (σ : w_M) : Prop := CI σ
noncomputable def q_Moon_whet (x1 : Int) (x2 : Int) (σ : w_M) (x : Int) (σ' : w_M) : Prop := c_q (F_whet (cS σ) x1 x2) (G_whet (cS σ) x1 x2) σ x σ'
noncomputable def p_Moon_fill (_x1 : Int) (_x2 : Int) (σ : w_M) : Prop := CI σ
noncomputable def q_Moon_fill (x1 : Int) (x2 : Int) (σ : w_M) (x : Int) (σ' : w_M) : Prop := c_q (F_fill (cS σ) x1 x2) (G_fill (cS σ) x1 x2) σ x σ'
noncomputable def p_Moon_own (_x1 : Int) (_x2 : Int) (σ : w_M) : Prop := CI σ
noncomputable def q_Moon_own (x1 : Int) (x2 : Int) (σ : w_M) (x : Int) (σ' : w_M) : Prop := c_q (F_own (cS σ) x1 x2) (G_own (cS σ) x1 x2) σ x σ'
noncomputable def p_Moon_grow (_x1 : Int) (_x2 : Int) (σ : w_M) : Prop := CI σ
noncomputable def q_Moon_grow (x1 : Int) (x2 : Int) (σ : w_M) (x : Int) (σ' : w_M) : Prop := c_q (F_grow (cS σ) x1 x2) (G_grow (cS σ) x1 x2) σ x σ'
theorem fMoon_send_0 : w_fe am_c116 0 1 (.aload 0) := ⟨rfl, rfl⟩
theorem fMoon_send_1 : w_fe am_c116 1 2 (.getfield 2) := ⟨rfl, rfl⟩
theorem fMoon_send_2 : w_fe am_c116 2 3 (.iload 1) := ⟨rfl, rfl⟩
theorem fMoon_send_3 : w_fe am_c116 3 4 (.invokestatic 38) := ⟨rfl, rfl⟩
theorem fMoon_send_4 : w_if am_c116 4 5 .eq 10 := ⟨rfl, rfl⟩
theorem fMoon_send_5 : w_fe am_c116 5 6 (.aload 0) := ⟨rfl, rfl⟩
theorem fMoon_send_6 : w_fe am_c116 6 7 (.getfield 2) := ⟨rfl, rfl⟩
theorem fMoon_send_7 : w_fe am_c116 7 8 (.iload 2) := ⟨rfl, rfl⟩
theorem fMoon_send_8 : w_fe am_c116 8 9 (.invokestatic 33) := ⟨rfl, rfl⟩
theorem fMoon_send_9 : w_if am_c116 9 10 .ne 12 := ⟨rfl, rfl⟩
theorem fMoon_send_10 : w_fe am_c116 10 11 (.bipush (-1)) := ⟨rfl, rfl⟩
theorem fMoon_send_11 : w_fe am_c116 11 12 (.ireturn) := ⟨rfl, rfl⟩
theorem fMoon_send_12 : w_fe am_c116 12 13 (.aload 0) := ⟨rfl, rfl⟩
theorem fMoon_send_13 : w_fe am_c116 13 14 (.getfield 2) := ⟨rfl, rfl⟩
theorem fMoon_send_14 : w_fe am_c116 14 15 (.getfield 212) := ⟨rfl, rfl⟩
theorem fMoon_send_15 : w_fe am_c116 15 16 (.iload 1) := ⟨rfl, rfl⟩
theorem fMoon_send_16 : w_fe am_c116 16 17 (.iaload) := ⟨rfl, rfl⟩
theorem fMoon_send_17 : w_fe am_c116 17 18 (.istore 3) := ⟨rfl, rfl⟩
theorem fMoon_send_18 : w_fe am_c116 18 19 (.aload 0) := ⟨rfl, rfl⟩
theorem fMoon_send_19 : w_fe am_c116 19 20 (.getfield 2) := ⟨rfl, rfl⟩
theorem fMoon_send_20 : w_fe am_c116 20 21 (.getfield 212) := ⟨rfl, rfl⟩
theorem fMoon_send_21 : w_fe am_c116 21 22 (.iload 1) := ⟨rfl, rfl⟩
theorem fMoon_send_22 : w_fe am_c116 22 23 (.iload 2) := ⟨rfl, rfl⟩
theorem fMoon_send_23 : w_fe am_c116 23 24 (.iastore) := ⟨rfl, rfl⟩
theorem fMoon_send_24 : w_fe am_c116 24 25 (.iload 3) := ⟨rfl, rfl⟩
theorem fMoon_send_25 : w_fe am_c116 25 26 (.ireturn) := ⟨rfl, rfl⟩
set_option maxRecDepth 20000 in
theorem bMoon_send_0 {xs : List Int} {d : Nat} {Q : Option w_V → w_M → Prop} {x1 : Int} {x2 : Int} {σ : w_M}
    (h : (¬ (0 ≤ x1 ∧ x1 < σ 14 5) → Q (some (.inl (-1))) σ) ∧ ((0 ≤ x1 ∧ x1 < σ 14 5) → (((0 ≤ x2 ∧ x2 < σ 14 4) → (0 ≤ x1 ∧ x1 < 4 ∧ (∀ (y1 : Int), y1 = (σ 20 x1.toNat) → ∀ (τ2 : w_M), τ2 = w_up σ 20 x1.toNat x2 → Q (some (.inl y1)) τ2))) ∧ (¬ (0 ≤ x2 ∧ x2 < σ 14 4) → Q (some (.inl (-1))) σ)))) : w_Call (xs, (d + 1)) 116 [.inr (.inr (0, 0)), .inl x1, .inl x2] σ Q :=
  (w_mk (mid := 116) (by decide) rfl rfl rfl rfl rfl (Nat.le_of_ble_eq_true rfl) ⟨rfl, Or.inl (by decide)⟩ (wi_aload0 fMoon_send_0 (wi_getf2 fMoon_send_1 (wi_iload1 fMoon_send_2 (wi_call2 fMoon_send_3 (Nat.le_of_ble_eq_true rfl) (k_Field_isReaper (wi_ifb_eq fMoon_send_4 (fun c4 => (wi_bipush fMoon_send_10 (wi_ret1 fMoon_send_11 (h.1 c4)))) (fun c4 => (wi_aload0 fMoon_send_5 (wi_getf2 fMoon_send_6 (wi_iload2 fMoon_send_7 (wi_call2 fMoon_send_8 (Nat.le_of_ble_eq_true rfl) (k_Field_isStrip (wi_ifb_ne fMoon_send_9 (fun c3 => (wi_aload0 fMoon_send_12 (wi_getf2 fMoon_send_13 (wi_getf212 fMoon_send_14 (wi_iload1 fMoon_send_15 (wi_iald1004 fMoon_send_16 ((h.2 c4).1 c3).1 ((h.2 c4).1 c3).2.1 (wi_istore3 fMoon_send_17 trivial (wi_aload0 fMoon_send_18 (wi_getf2 fMoon_send_19 (wi_getf212 fMoon_send_20 (wi_iload1 fMoon_send_21 (wi_iload2 fMoon_send_22 (wi_iast1004 fMoon_send_23 ((h.2 c4).1 c3).1 ((h.2 c4).1 c3).2.1 (wi_iload3 fMoon_send_24 (wi_ret1 fMoon_send_25 ((((h.2 c4).1 c3).2.2 _ rfl) _ rfl)))))))))))))))) (fun c3 => (wi_bipush fMoon_send_10 (wi_ret1 fMoon_send_11 ((h.2 c4).2 c3))))))))))))))))))
theorem fMoon_whet_0 : w_fe am_c118 0 1 (.aload 0) := ⟨rfl, rfl⟩
theorem fMoon_whet_1 : w_fe am_c118 1 2 (.getfield 2) := ⟨rfl, rfl⟩
theorem fMoon_whet_2 : w_fe am_c118 2 3 (.iload 1) := ⟨rfl, rfl⟩
theorem fMoon_whet_3 : w_fe am_c118 3 4 (.invokestatic 38) := ⟨rfl, rfl⟩
theorem fMoon_whet_4 : w_if am_c118 4 5 .eq 10 := ⟨rfl, rfl⟩
theorem fMoon_whet_5 : w_fe am_c118 5 6 (.iload 2) := ⟨rfl, rfl⟩
theorem fMoon_whet_6 : w_fe am_c118 6 7 (.bipush 0) := ⟨rfl, rfl⟩
theorem fMoon_whet_7 : w_fe am_c118 7 8 (.bipush 3) := ⟨rfl, rfl⟩
theorem fMoon_whet_8 : w_fe am_c118 8 9 (.invokestatic 107) := ⟨rfl, rfl⟩
theorem fMoon_whet_9 : w_if am_c118 9 10 .ne 12 := ⟨rfl, rfl⟩
theorem fMoon_whet_10 : w_fe am_c118 10 11 (.bipush (-1)) := ⟨rfl, rfl⟩
theorem fMoon_whet_11 : w_fe am_c118 11 12 (.ireturn) := ⟨rfl, rfl⟩
theorem fMoon_whet_12 : w_fe am_c118 12 13 (.aload 0) := ⟨rfl, rfl⟩
theorem fMoon_whet_13 : w_fe am_c118 13 14 (.getfield 2) := ⟨rfl, rfl⟩
theorem fMoon_whet_14 : w_fe am_c118 14 15 (.getfield 211) := ⟨rfl, rfl⟩
theorem fMoon_whet_15 : w_fe am_c118 15 16 (.iload 1) := ⟨rfl, rfl⟩
theorem fMoon_whet_16 : w_fe am_c118 16 17 (.iaload) := ⟨rfl, rfl⟩
theorem fMoon_whet_17 : w_fe am_c118 17 18 (.istore 3) := ⟨rfl, rfl⟩
theorem fMoon_whet_18 : w_fe am_c118 18 19 (.aload 0) := ⟨rfl, rfl⟩
theorem fMoon_whet_19 : w_fe am_c118 19 20 (.getfield 2) := ⟨rfl, rfl⟩
theorem fMoon_whet_20 : w_fe am_c118 20 21 (.getfield 211) := ⟨rfl, rfl⟩
theorem fMoon_whet_21 : w_fe am_c118 21 22 (.iload 1) := ⟨rfl, rfl⟩
theorem fMoon_whet_22 : w_fe am_c118 22 23 (.iload 2) := ⟨rfl, rfl⟩
theorem fMoon_whet_23 : w_fe am_c118 23 24 (.iastore) := ⟨rfl, rfl⟩
theorem fMoon_whet_24 : w_fe am_c118 24 25 (.iload 3) := ⟨rfl, rfl⟩
theorem fMoon_whet_25 : w_fe am_c118 25 26 (.ireturn) := ⟨rfl, rfl⟩
set_option maxRecDepth 20000 in
theorem bMoon_whet_0 {xs : List Int} {d : Nat} {Q : Option w_V → w_M → Prop} {x1 : Int} {x2 : Int} {σ : w_M}
    (h : (¬ (0 ≤ x1 ∧ x1 < σ 14 5) → Q (some (.inl (-1))) σ) ∧ ((0 ≤ x1 ∧ x1 < σ 14 5) → (((0 ≤ x2 ∧ x2 ≤ 3) → (0 ≤ x1 ∧ x1 < 4 ∧ (∀ (y1 : Int), y1 = (σ 19 x1.toNat) → ∀ (τ2 : w_M), τ2 = w_up σ 19 x1.toNat x2 → Q (some (.inl y1)) τ2))) ∧ (¬ (0 ≤ x2 ∧ x2 ≤ 3) → Q (some (.inl (-1))) σ)))) : w_Call (xs, (d + 1)) 118 [.inr (.inr (0, 0)), .inl x1, .inl x2] σ Q :=
  (w_mk (mid := 118) (by decide) rfl rfl rfl rfl rfl (Nat.le_of_ble_eq_true rfl) ⟨rfl, Or.inl (by decide)⟩ (wi_aload0 fMoon_whet_0 (wi_getf2 fMoon_whet_1 (wi_iload1 fMoon_whet_2 (wi_call2 fMoon_whet_3 (Nat.le_of_ble_eq_true rfl) (k_Field_isReaper (wi_ifb_eq fMoon_whet_4 (fun c4 => (wi_bipush fMoon_whet_10 (wi_ret1 fMoon_whet_11 (h.1 c4)))) (fun c4 => (wi_iload2 fMoon_whet_5 (wi_bipush fMoon_whet_6 (wi_bipush fMoon_whet_7 (wi_call3 fMoon_whet_8 (Nat.le_of_ble_eq_true rfl) (k_Moon_isWithin (wi_ifb_ne fMoon_whet_9 (fun c3 => (wi_aload0 fMoon_whet_12 (wi_getf2 fMoon_whet_13 (wi_getf211 fMoon_whet_14 (wi_iload1 fMoon_whet_15 (wi_iald1004 fMoon_whet_16 ((h.2 c4).1 c3).1 ((h.2 c4).1 c3).2.1 (wi_istore3 fMoon_whet_17 trivial (wi_aload0 fMoon_whet_18 (wi_getf2 fMoon_whet_19 (wi_getf211 fMoon_whet_20 (wi_iload1 fMoon_whet_21 (wi_iload2 fMoon_whet_22 (wi_iast1004 fMoon_whet_23 ((h.2 c4).1 c3).1 ((h.2 c4).1 c3).2.1 (wi_iload3 fMoon_whet_24 (wi_ret1 fMoon_whet_25 ((((h.2 c4).1 c3).2.2 _ rfl) _ rfl)))))))))))))))) (fun c3 => (wi_bipush fMoon_whet_10 (wi_ret1 fMoon_whet_11 ((h.2 c4).2 c3))))))))))))))))))
theorem fMoon_fill_0 : w_fe am_c119 0 1 (.aload 0) := ⟨rfl, rfl⟩
theorem fMoon_fill_1 : w_fe am_c119 1 2 (.getfield 2) := ⟨rfl, rfl⟩
theorem fMoon_fill_2 : w_fe am_c119 2 3 (.iload 1) := ⟨rfl, rfl⟩
theorem fMoon_fill_3 : w_fe am_c119 3 4 (.invokestatic 38) := ⟨rfl, rfl⟩
theorem fMoon_fill_4 : w_if am_c119 4 5 .eq 10 := ⟨rfl, rfl⟩
theorem fMoon_fill_5 : w_fe am_c119 5 6 (.iload 2) := ⟨rfl, rfl⟩
theorem fMoon_fill_6 : w_fe am_c119 6 7 (.bipush 0) := ⟨rfl, rfl⟩
theorem fMoon_fill_7 : w_fe am_c119 7 8 (.bipush 9) := ⟨rfl, rfl⟩
theorem fMoon_fill_8 : w_fe am_c119 8 9 (.invokestatic 107) := ⟨rfl, rfl⟩
theorem fMoon_fill_9 : w_if am_c119 9 10 .ne 12 := ⟨rfl, rfl⟩
theorem fMoon_fill_10 : w_fe am_c119 10 11 (.bipush (-1)) := ⟨rfl, rfl⟩
theorem fMoon_fill_11 : w_fe am_c119 11 12 (.ireturn) := ⟨rfl, rfl⟩
theorem fMoon_fill_12 : w_fe am_c119 12 13 (.aload 0) := ⟨rfl, rfl⟩
theorem fMoon_fill_13 : w_fe am_c119 13 14 (.getfield 2) := ⟨rfl, rfl⟩
theorem fMoon_fill_14 : w_fe am_c119 14 15 (.getfield 210) := ⟨rfl, rfl⟩
theorem fMoon_fill_15 : w_fe am_c119 15 16 (.iload 1) := ⟨rfl, rfl⟩
theorem fMoon_fill_16 : w_fe am_c119 16 17 (.iaload) := ⟨rfl, rfl⟩
theorem fMoon_fill_17 : w_fe am_c119 17 18 (.istore 3) := ⟨rfl, rfl⟩
theorem fMoon_fill_18 : w_fe am_c119 18 19 (.aload 0) := ⟨rfl, rfl⟩
theorem fMoon_fill_19 : w_fe am_c119 19 20 (.getfield 2) := ⟨rfl, rfl⟩
theorem fMoon_fill_20 : w_fe am_c119 20 21 (.getfield 210) := ⟨rfl, rfl⟩
theorem fMoon_fill_21 : w_fe am_c119 21 22 (.iload 1) := ⟨rfl, rfl⟩
theorem fMoon_fill_22 : w_fe am_c119 22 23 (.iload 2) := ⟨rfl, rfl⟩
theorem fMoon_fill_23 : w_fe am_c119 23 24 (.iastore) := ⟨rfl, rfl⟩
theorem fMoon_fill_24 : w_fe am_c119 24 25 (.iload 3) := ⟨rfl, rfl⟩
theorem fMoon_fill_25 : w_fe am_c119 25 26 (.ireturn) := ⟨rfl, rfl⟩
set_option maxRecDepth 20000 in
theorem bMoon_fill_0 {xs : List Int} {d : Nat} {Q : Option w_V → w_M → Prop} {x1 : Int} {x2 : Int} {σ : w_M}
    (h : (¬ (0 ≤ x1 ∧ x1 < σ 14 5) → Q (some (.inl (-1))) σ) ∧ ((0 ≤ x1 ∧ x1 < σ 14 5) → (((0 ≤ x2 ∧ x2 ≤ 9) → (0 ≤ x1 ∧ x1 < 4 ∧ (∀ (y1 : Int), y1 = (σ 18 x1.toNat) → ∀ (τ2 : w_M), τ2 = w_up σ 18 x1.toNat x2 → Q (some (.inl y1)) τ2))) ∧ (¬ (0 ≤ x2 ∧ x2 ≤ 9) → Q (some (.inl (-1))) σ)))) : w_Call (xs, (d + 1)) 119 [.inr (.inr (0, 0)), .inl x1, .inl x2] σ Q :=
  (w_mk (mid := 119) (by decide) rfl rfl rfl rfl rfl (Nat.le_of_ble_eq_true rfl) ⟨rfl, Or.inl (by decide)⟩ (wi_aload0 fMoon_fill_0 (wi_getf2 fMoon_fill_1 (wi_iload1 fMoon_fill_2 (wi_call2 fMoon_fill_3 (Nat.le_of_ble_eq_true rfl) (k_Field_isReaper (wi_ifb_eq fMoon_fill_4 (fun c4 => (wi_bipush fMoon_fill_10 (wi_ret1 fMoon_fill_11 (h.1 c4)))) (fun c4 => (wi_iload2 fMoon_fill_5 (wi_bipush fMoon_fill_6 (wi_bipush fMoon_fill_7 (wi_call3 fMoon_fill_8 (Nat.le_of_ble_eq_true rfl) (k_Moon_isWithin (wi_ifb_ne fMoon_fill_9 (fun c3 => (wi_aload0 fMoon_fill_12 (wi_getf2 fMoon_fill_13 (wi_getf210 fMoon_fill_14 (wi_iload1 fMoon_fill_15 (wi_iald1004 fMoon_fill_16 ((h.2 c4).1 c3).1 ((h.2 c4).1 c3).2.1 (wi_istore3 fMoon_fill_17 trivial (wi_aload0 fMoon_fill_18 (wi_getf2 fMoon_fill_19 (wi_getf210 fMoon_fill_20 (wi_iload1 fMoon_fill_21 (wi_iload2 fMoon_fill_22 (wi_iast1004 fMoon_fill_23 ((h.2 c4).1 c3).1 ((h.2 c4).1 c3).2.1 (wi_iload3 fMoon_fill_24 (wi_ret1 fMoon_fill_25 ((((h.2 c4).1 c3).2.2 _ rfl) _ rfl)))))))))))))))) (fun c3 => (wi_bipush fMoon_fill_10 (wi_ret1 fMoon_fill_11 ((h.2 c4).2 c3))))))))))))))))))
theorem fMoon_own_0 : w_fe am_c122 0 1 (.aload 0) := ⟨rfl, rfl⟩
theorem fMoon_own_1 : w_fe am_c122 1 2 (.getfield 2) := ⟨rfl, rfl⟩
theorem fMoon_own_2 : w_fe am_c122 2 3 (.iload 1) := ⟨rfl, rfl⟩
theorem fMoon_own_3 : w_fe am_c122 3 4 (.invokestatic 33) := ⟨rfl, rfl⟩
theorem fMoon_own_4 : w_if am_c122 4 5 .eq 10 := ⟨rfl, rfl⟩
theorem fMoon_own_5 : w_fe am_c122 5 6 (.iload 2) := ⟨rfl, rfl⟩
theorem fMoon_own_6 : w_fe am_c122 6 7 (.bipush 0) := ⟨rfl, rfl⟩
theorem fMoon_own_7 : w_fe am_c122 7 8 (.bipush 3) := ⟨rfl, rfl⟩
theorem fMoon_own_8 : w_fe am_c122 8 9 (.invokestatic 107) := ⟨rfl, rfl⟩
theorem fMoon_own_9 : w_if am_c122 9 10 .ne 12 := ⟨rfl, rfl⟩
theorem fMoon_own_10 : w_fe am_c122 10 11 (.bipush (-1)) := ⟨rfl, rfl⟩
theorem fMoon_own_11 : w_fe am_c122 11 12 (.ireturn) := ⟨rfl, rfl⟩
theorem fMoon_own_12 : w_fe am_c122 12 13 (.aload 0) := ⟨rfl, rfl⟩
theorem fMoon_own_13 : w_fe am_c122 13 14 (.getfield 2) := ⟨rfl, rfl⟩
theorem fMoon_own_14 : w_fe am_c122 14 15 (.getfield 208) := ⟨rfl, rfl⟩
theorem fMoon_own_15 : w_fe am_c122 15 16 (.iload 1) := ⟨rfl, rfl⟩
theorem fMoon_own_16 : w_fe am_c122 16 17 (.iaload) := ⟨rfl, rfl⟩
theorem fMoon_own_17 : w_fe am_c122 17 18 (.istore 3) := ⟨rfl, rfl⟩
theorem fMoon_own_18 : w_fe am_c122 18 19 (.aload 0) := ⟨rfl, rfl⟩
theorem fMoon_own_19 : w_fe am_c122 19 20 (.getfield 2) := ⟨rfl, rfl⟩
theorem fMoon_own_20 : w_fe am_c122 20 21 (.getfield 208) := ⟨rfl, rfl⟩
theorem fMoon_own_21 : w_fe am_c122 21 22 (.iload 1) := ⟨rfl, rfl⟩
theorem fMoon_own_22 : w_fe am_c122 22 23 (.iload 2) := ⟨rfl, rfl⟩
theorem fMoon_own_23 : w_fe am_c122 23 24 (.iastore) := ⟨rfl, rfl⟩
theorem fMoon_own_24 : w_fe am_c122 24 25 (.iload 3) := ⟨rfl, rfl⟩
theorem fMoon_own_25 : w_fe am_c122 25 26 (.ireturn) := ⟨rfl, rfl⟩
set_option maxRecDepth 20000 in
theorem bMoon_own_0 {xs : List Int} {d : Nat} {Q : Option w_V → w_M → Prop} {x1 : Int} {x2 : Int} {σ : w_M}
    (h : (¬ (0 ≤ x1 ∧ x1 < σ 14 4) → Q (some (.inl (-1))) σ) ∧ ((0 ≤ x1 ∧ x1 < σ 14 4) → (((0 ≤ x2 ∧ x2 ≤ 3) → (0 ≤ x1 ∧ x1 < 7 ∧ (∀ (y1 : Int), y1 = (σ 16 x1.toNat) → ∀ (τ2 : w_M), τ2 = w_up σ 16 x1.toNat x2 → Q (some (.inl y1)) τ2))) ∧ (¬ (0 ≤ x2 ∧ x2 ≤ 3) → Q (some (.inl (-1))) σ)))) : w_Call (xs, (d + 1)) 122 [.inr (.inr (0, 0)), .inl x1, .inl x2] σ Q :=
  (w_mk (mid := 122) (by decide) rfl rfl rfl rfl rfl (Nat.le_of_ble_eq_true rfl) ⟨rfl, Or.inl (by decide)⟩ (wi_aload0 fMoon_own_0 (wi_getf2 fMoon_own_1 (wi_iload1 fMoon_own_2 (wi_call2 fMoon_own_3 (Nat.le_of_ble_eq_true rfl) (k_Field_isStrip (wi_ifb_eq fMoon_own_4 (fun c4 => (wi_bipush fMoon_own_10 (wi_ret1 fMoon_own_11 (h.1 c4)))) (fun c4 => (wi_iload2 fMoon_own_5 (wi_bipush fMoon_own_6 (wi_bipush fMoon_own_7 (wi_call3 fMoon_own_8 (Nat.le_of_ble_eq_true rfl) (k_Moon_isWithin (wi_ifb_ne fMoon_own_9 (fun c3 => (wi_aload0 fMoon_own_12 (wi_getf2 fMoon_own_13 (wi_getf208 fMoon_own_14 (wi_iload1 fMoon_own_15 (wi_iald1007 fMoon_own_16 ((h.2 c4).1 c3).1 ((h.2 c4).1 c3).2.1 (wi_istore3 fMoon_own_17 trivial (wi_aload0 fMoon_own_18 (wi_getf2 fMoon_own_19 (wi_getf208 fMoon_own_20 (wi_iload1 fMoon_own_21 (wi_iload2 fMoon_own_22 (wi_iast1007 fMoon_own_23 ((h.2 c4).1 c3).1 ((h.2 c4).1 c3).2.1 (wi_iload3 fMoon_own_24 (wi_ret1 fMoon_own_25 ((((h.2 c4).1 c3).2.2 _ rfl) _ rfl)))))))))))))))) (fun c3 => (wi_bipush fMoon_own_10 (wi_ret1 fMoon_own_11 ((h.2 c4).2 c3))))))))))))))))))
theorem fMoon_grow_0 : w_fe am_c123 0 1 (.aload 0) := ⟨rfl, rfl⟩
theorem fMoon_grow_1 : w_fe am_c123 1 2 (.getfield 2) := ⟨rfl, rfl⟩
theorem fMoon_grow_2 : w_fe am_c123 2 3 (.iload 1) := ⟨rfl, rfl⟩
theorem fMoon_grow_3 : w_fe am_c123 3 4 (.invokestatic 33) := ⟨rfl, rfl⟩
theorem fMoon_grow_4 : w_if am_c123 4 5 .eq 10 := ⟨rfl, rfl⟩
theorem fMoon_grow_5 : w_fe am_c123 5 6 (.iload 2) := ⟨rfl, rfl⟩
theorem fMoon_grow_6 : w_fe am_c123 6 7 (.bipush 0) := ⟨rfl, rfl⟩
theorem fMoon_grow_7 : w_fe am_c123 7 8 (.bipush 40) := ⟨rfl, rfl⟩
theorem fMoon_grow_8 : w_fe am_c123 8 9 (.invokestatic 107) := ⟨rfl, rfl⟩
theorem fMoon_grow_9 : w_if am_c123 9 10 .ne 12 := ⟨rfl, rfl⟩
theorem fMoon_grow_10 : w_fe am_c123 10 11 (.bipush (-1)) := ⟨rfl, rfl⟩
theorem fMoon_grow_11 : w_fe am_c123 11 12 (.ireturn) := ⟨rfl, rfl⟩
theorem fMoon_grow_12 : w_fe am_c123 12 13 (.aload 0) := ⟨rfl, rfl⟩
theorem fMoon_grow_13 : w_fe am_c123 13 14 (.getfield 2) := ⟨rfl, rfl⟩
theorem fMoon_grow_14 : w_fe am_c123 14 15 (.getfield 207) := ⟨rfl, rfl⟩
theorem fMoon_grow_15 : w_fe am_c123 15 16 (.iload 1) := ⟨rfl, rfl⟩
theorem fMoon_grow_16 : w_fe am_c123 16 17 (.iaload) := ⟨rfl, rfl⟩
theorem fMoon_grow_17 : w_fe am_c123 17 18 (.istore 3) := ⟨rfl, rfl⟩
theorem fMoon_grow_18 : w_fe am_c123 18 19 (.aload 0) := ⟨rfl, rfl⟩
theorem fMoon_grow_19 : w_fe am_c123 19 20 (.getfield 2) := ⟨rfl, rfl⟩
theorem fMoon_grow_20 : w_fe am_c123 20 21 (.getfield 207) := ⟨rfl, rfl⟩
theorem fMoon_grow_21 : w_fe am_c123 21 22 (.iload 1) := ⟨rfl, rfl⟩
theorem fMoon_grow_22 : w_fe am_c123 22 23 (.iload 2) := ⟨rfl, rfl⟩
theorem fMoon_grow_23 : w_fe am_c123 23 24 (.iastore) := ⟨rfl, rfl⟩
theorem fMoon_grow_24 : w_fe am_c123 24 25 (.iload 3) := ⟨rfl, rfl⟩
theorem fMoon_grow_25 : w_fe am_c123 25 26 (.ireturn) := ⟨rfl, rfl⟩
set_option maxRecDepth 20000 in
theorem bMoon_grow_0 {xs : List Int} {d : Nat} {Q : Option w_V → w_M → Prop} {x1 : Int} {x2 : Int} {σ : w_M}
    (h : (¬ (0 ≤ x1 ∧ x1 < σ 14 4) → Q (some (.inl (-1))) σ) ∧ ((0 ≤ x1 ∧ x1 < σ 14 4) → (((0 ≤ x2 ∧ x2 ≤ 40) → (0 ≤ x1 ∧ x1 < 7 ∧ (∀ (y1 : Int), y1 = (σ 15 x1.toNat) → ∀ (τ2 : w_M), τ2 = w_up σ 15 x1.toNat x2 → Q (some (.inl y1)) τ2))) ∧ (¬ (0 ≤ x2 ∧ x2 ≤ 40) → Q (some (.inl (-1))) σ)))) : w_Call (xs, (d + 1)) 123 [.inr (.inr (0, 0)), .inl x1, .inl x2] σ Q :=
  (w_mk (mid := 123) (by decide) rfl rfl rfl rfl rfl (Nat.le_of_ble_eq_true rfl) ⟨rfl, Or.inl (by decide)⟩ (wi_aload0 fMoon_grow_0 (wi_getf2 fMoon_grow_1 (wi_iload1 fMoon_grow_2 (wi_call2 fMoon_grow_3 (Nat.le_of_ble_eq_true rfl) (k_Field_isStrip (wi_ifb_eq fMoon_grow_4 (fun c4 => (wi_bipush fMoon_grow_10 (wi_ret1 fMoon_grow_11 (h.1 c4)))) (fun c4 => (wi_iload2 fMoon_grow_5 (wi_bipush fMoon_grow_6 (wi_bipush fMoon_grow_7 (wi_call3 fMoon_grow_8 (Nat.le_of_ble_eq_true rfl) (k_Moon_isWithin (wi_ifb_ne fMoon_grow_9 (fun c3 => (wi_aload0 fMoon_grow_12 (wi_getf2 fMoon_grow_13 (wi_getf207 fMoon_grow_14 (wi_iload1 fMoon_grow_15 (wi_iald1007 fMoon_grow_16 ((h.2 c4).1 c3).1 ((h.2 c4).1 c3).2.1 (wi_istore3 fMoon_grow_17 trivial (wi_aload0 fMoon_grow_18 (wi_getf2 fMoon_grow_19 (wi_getf207 fMoon_grow_20 (wi_iload1 fMoon_grow_21 (wi_iload2 fMoon_grow_22 (wi_iast1007 fMoon_grow_23 ((h.2 c4).1 c3).1 ((h.2 c4).1 c3).2.1 (wi_iload3 fMoon_grow_24 (wi_ret1 fMoon_grow_25 ((((h.2 c4).1 c3).2.2 _ rfl) _ rfl)))))))))))))))) (fun c3 => (wi_bipush fMoon_grow_10 (wi_ret1 fMoon_grow_11 ((h.2 c4).2 c3))))))))))))))))))
theorem k_Moon_send {xs : List Int} {d : Nat} {Q : Option w_V → w_M → Prop} {x1 : Int} {x2 : Int} {σ : w_M} (hp : p_Moon_send x1 x2 σ) (hQ : ∀ (x : Int) (σ' : w_M), q_Moon_send x1 x2 σ x σ' → Q (some (.inl x)) σ') : w_Call (xs, d + 1) 116 [.inr (.inr (0, 0)), .inl x1, .inl x2] σ Q := by
  have hC : CI σ := hp
  have hn := n_ok.n hC.ok
  have h04 : w_ab σ 14 0 4 = σ 14 4 := rfl
  unfold q_Moon_send F_send G_send at hQ
  refine bMoon_send_0 ⟨fun c => hQ _ _ (c_no hC (fun q => c q.1)), fun c => ⟨fun c2 => ⟨c.1, by omega, fun y e τ t => hQ _ _ ?_⟩, fun c2 => hQ _ _ (c_no hC (fun q => c2 q.2))⟩⟩
  refine c_set (Q := Q) hC ⟨c, c2⟩ (by decide) (by decide) (by rw [w_rl37 (by decide) (by decide)]; omega) ?_ t e
  refine n_WF_up hC.ok ?_ ?_ ?_ ?_ ?_ ?_ ?_ ?_ <;> (intros; omega)
theorem k_Moon_whet {xs : List Int} {d : Nat} {Q : Option w_V → w_M → Prop} {x1 : Int} {x2 : Int} {σ : w_M} (hp : p_Moon_whet x1 x2 σ) (hQ : ∀ (x : Int) (σ' : w_M), q_Moon_whet x1 x2 σ x σ' → Q (some (.inl x)) σ') : w_Call (xs, d + 1) 118 [.inr (.inr (0, 0)), .inl x1, .inl x2] σ Q := by
  have hC : CI σ := hp
  have hn := n_ok.n hC.ok
  unfold q_Moon_whet F_whet G_whet at hQ
  refine bMoon_whet_0 ⟨fun c => hQ _ _ (c_no hC (fun q => c q.1)), fun c => ⟨fun c2 => ⟨c.1, by omega, fun y e τ t => hQ _ _ ?_⟩, fun c2 => hQ _ _ (c_no hC (fun q => c2 q.2))⟩⟩
  refine c_set (Q := Q) hC ⟨c, c2⟩ (by decide) (by decide) (by rw [w_rl37 (by decide) (by decide)]; omega) ?_ t e
  refine n_WF_up hC.ok ?_ ?_ ?_ ?_ ?_ ?_ ?_ ?_ <;> (intros; omega)
theorem k_Moon_fill {xs : List Int} {d : Nat} {Q : Option w_V → w_M → Prop} {x1 : Int} {x2 : Int} {σ : w_M} (hp : p_Moon_fill x1 x2 σ) (hQ : ∀ (x : Int) (σ' : w_M), q_Moon_fill x1 x2 σ x σ' → Q (some (.inl x)) σ') : w_Call (xs, d + 1) 119 [.inr (.inr (0, 0)), .inl x1, .inl x2] σ Q := by
  have hC : CI σ := hp
  have hn := n_ok.n hC.ok
  unfold q_Moon_fill F_fill G_fill at hQ
  refine bMoon_fill_0 ⟨fun c => hQ _ _ (c_no hC (fun q => c q.1)), fun c => ⟨fun c2 => ⟨c.1, by omega, fun y e τ t => hQ _ _ ?_⟩, fun c2 => hQ _ _ (c_no hC (fun q => c2 q.2))⟩⟩
  refine c_set (Q := Q) hC ⟨c, c2⟩ (by decide) (by decide) (by rw [w_rl37 (by decide) (by decide)]; omega) ?_ t e
  refine n_WF_up hC.ok ?_ ?_ ?_ ?_ ?_ ?_ ?_ ?_ <;> (intros; omega)
theorem k_Moon_own {xs : List Int} {d : Nat} {Q : Option w_V → w_M → Prop} {x1 : Int} {x2 : Int} {σ : w_M} (hp : p_Moon_own x1 x2 σ) (hQ : ∀ (x : Int) (σ' : w_M), q_Moon_own x1 x2 σ x σ' → Q (some (.inl x)) σ') : w_Call (xs, d + 1) 122 [.inr (.inr (0, 0)), .inl x1, .inl x2] σ Q := by
  have hC : CI σ := hp
  have hn := n_ok.s hC.ok
  unfold q_Moon_own F_own G_own at hQ
  refine bMoon_own_0 ⟨fun c => hQ _ _ (c_no hC (fun q => c q.1)), fun c => ⟨fun c2 => ⟨c.1, by omega, fun y e τ t => hQ _ _ ?_⟩, fun c2 => hQ _ _ (c_no hC (fun q => c2 q.2))⟩⟩
  refine c_set (Q := Q) hC ⟨c, c2⟩ (by decide) (by decide) (by rw [w_rl12 (by decide) (by decide)]; omega) ?_ t e
  refine n_WF_up hC.ok ?_ ?_ ?_ ?_ ?_ ?_ ?_ ?_ <;> (intros; omega)
theorem k_Moon_grow {xs : List Int} {d : Nat} {Q : Option w_V → w_M → Prop} {x1 : Int} {x2 : Int} {σ : w_M} (hp : p_Moon_grow x1 x2 σ) (hQ : ∀ (x : Int) (σ' : w_M), q_Moon_grow x1 x2 σ x σ' → Q (some (.inl x)) σ') : w_Call (xs, d + 1) 123 [.inr (.inr (0, 0)), .inl x1, .inl x2] σ Q := by
  have hC : CI σ := hp
  have hn := n_ok.s hC.ok
  unfold q_Moon_grow F_grow G_grow at hQ
  refine bMoon_grow_0 ⟨fun c => hQ _ _ (c_no hC (fun q => c q.1)), fun c => ⟨fun c2 => ⟨c.1, by omega, fun y e τ t => hQ _ _ ?_⟩, fun c2 => hQ _ _ (c_no hC (fun q => c2 q.2))⟩⟩
  refine c_set (Q := Q) hC ⟨c, c2⟩ (by decide) (by decide) (by rw [w_rl12 (by decide) (by decide)]; omega) ?_ t e
  refine n_WF_up hC.ok ?_ ?_ ?_ ?_ ?_ ?_ ?_ ?_ <;> (intros; omega)
end
section
/-! The class's calls: lend, cloud, thistle, hours -/
theorem n_ok.of {σ : w_M} {a : Nat} {A : w_M} (h : w_ab σ a = A) (hA : n_WF A) : n_ok σ a := by unfold n_ok; rw [h]; exact hA
noncomputable def p_Plan_after (b : Nat) (n : Int) (σ : w_M) : Prop := (n_ok σ b ∧ (32 + 9 ≤ b ∨ b + 9 ≤ 32)) ∧ (0 ≤ n ∧ n ≤ 12)
noncomputable def q_Plan_after (b : Nat) (n : Int) (σ σ' : w_M) : Prop := w_ab σ' 32 = n_goes (w_ab σ b) n.toNat ∧ w_fr σ σ' 32 41
theorem fPlan_after_0 : w_fe am_c64 0 1 (.aload 0) := ⟨rfl, rfl⟩
theorem fPlan_after_1 : w_fe am_c64 1 2 (.getfield 600) := ⟨rfl, rfl⟩
theorem fPlan_after_2 : w_fe am_c64 2 3 (.aload 1) := ⟨rfl, rfl⟩
theorem fPlan_after_3 : w_fe am_c64 3 4 (.invokestatic 34) := ⟨rfl, rfl⟩
theorem fPlan_after_4 : w_fe am_c64 4 5 (.aload 0) := ⟨rfl, rfl⟩
theorem fPlan_after_5 : w_fe am_c64 5 6 (.getfield 600) := ⟨rfl, rfl⟩
theorem fPlan_after_6 : w_fe am_c64 6 7 (.iload 2) := ⟨rfl, rfl⟩
theorem fPlan_after_7 : w_fe am_c64 7 8 (.invokestatic 40) := ⟨rfl, rfl⟩
theorem fPlan_after_8 : w_fe am_c64 8 9 (.pop) := ⟨rfl, rfl⟩
theorem fPlan_after_9 : w_fe am_c64 9 10 (.aload 0) := ⟨rfl, rfl⟩
theorem fPlan_after_10 : w_fe am_c64 10 11 (.getfield 600) := ⟨rfl, rfl⟩
theorem fPlan_after_11 : w_fe am_c64 11 12 (.ireturn) := ⟨rfl, rfl⟩
set_option maxRecDepth 20000 in
theorem bPlan_after_0 {xs : List Int} {d : Nat} {Q : Option w_V → w_M → Prop} {b : Nat} {x2 : Int} {σ : w_M}
    (h : p_Field_copyFrom 32 b σ ∧ (∀ (τ1 : w_M), q_Field_copyFrom 32 b σ τ1 → (p_Field_pass 32 x2 τ1 ∧ (∀ (y2 : Int) (τ3 : w_M), q_Field_pass 32 x2 τ1 y2 τ3 → Q (some (.inr (.inr (2, 32)))) τ3)))) : w_Call (xs, (d + 5)) 64 [.inr (.inr (6, 31)), .inr (.inr (2, b)), .inl x2] σ Q :=
  (w_mk (mid := 64) (by decide) rfl rfl rfl rfl rfl (Nat.le_of_ble_eq_true rfl) ⟨rfl, Or.inl (by decide)⟩ (wi_aload0 fPlan_after_0 (wi_getf600 fPlan_after_1 (wi_aload1 fPlan_after_2 (wi_call2 fPlan_after_3 (Nat.le_of_ble_eq_true rfl) (k_Field_copyFrom h.1 (fun τ1 eτ1 => (wi_aload0 fPlan_after_4 (wi_getf600 fPlan_after_5 (wi_iload2 fPlan_after_6 (wi_call2 fPlan_after_7 (Nat.le_of_ble_eq_true rfl) (k_Field_pass (h.2 τ1 eτ1).1 (fun y2 τ3 eτ3 => (wi_pop_i fPlan_after_8 (wi_aload0 fPlan_after_9 (wi_getf600 fPlan_after_10 (wi_ret4 fPlan_after_11 ((h.2 τ1 eτ1).2 y2 τ3 eτ3))))))))))))))))))
theorem k_Plan_after {xs : List Int} {d : Nat} {Q : Option w_V → w_M → Prop} {b : Nat} {x2 : Int} {σ : w_M} (hp : p_Plan_after b x2 σ) (hQ : ∀ σ' : w_M, q_Plan_after b x2 σ σ' → Q (some (.inr (.inr (2, 32)))) σ') : w_Call (xs, d + 5) 64 [.inr (.inr (6, 31)), .inr (.inr (2, b)), .inl x2] σ Q := by
  obtain ⟨hp1, hn⟩ := hp
  refine bPlan_after_0 ⟨hp1, fun τ1 hq => ⟨⟨n_ok.of hq.1 hp1.1, hn⟩, fun y τ3 hq3 => hQ _ ⟨?_, hq.2.2.tr hq3.2.2.1⟩⟩⟩
  rw [hq3.1, hq.1]
noncomputable def p_Plan_doneAfter (b : Nat) (σ : w_M) : Prop := n_ok σ b ∧ (32 + 9 ≤ b ∨ b + 9 ≤ 32)
noncomputable def q_Plan_doneAfter (b : Nat) (σ : w_M) (x : Int) (σ' : w_M) : Prop := x = n_done (w_ab σ b) ∧ w_fr σ σ' 32 41
theorem fPlan_doneAfter_0 : w_fe am_c65 0 1 (.aload 0) := ⟨rfl, rfl⟩
theorem fPlan_doneAfter_1 : w_fe am_c65 1 2 (.getfield 600) := ⟨rfl, rfl⟩
theorem fPlan_doneAfter_2 : w_fe am_c65 2 3 (.aload 1) := ⟨rfl, rfl⟩
theorem fPlan_doneAfter_3 : w_fe am_c65 3 4 (.invokestatic 34) := ⟨rfl, rfl⟩
theorem fPlan_doneAfter_4 : w_fe am_c65 4 5 (.aload 0) := ⟨rfl, rfl⟩
theorem fPlan_doneAfter_5 : w_fe am_c65 5 6 (.getfield 600) := ⟨rfl, rfl⟩
theorem fPlan_doneAfter_6 : w_fe am_c65 6 7 (.bipush 12) := ⟨rfl, rfl⟩
theorem fPlan_doneAfter_7 : w_fe am_c65 7 8 (.bipush 1000000) := ⟨rfl, rfl⟩
theorem fPlan_doneAfter_8 : w_fe am_c65 8 9 (.invokestatic 45) := ⟨rfl, rfl⟩
theorem fPlan_doneAfter_9 : w_fe am_c65 9 10 (.ireturn) := ⟨rfl, rfl⟩
set_option maxRecDepth 20000 in
theorem bPlan_doneAfter_0 {xs : List Int} {d : Nat} {Q : Option w_V → w_M → Prop} {b : Nat} {σ : w_M}
    (h : p_Field_copyFrom 32 b σ ∧ (∀ (τ1 : w_M), q_Field_copyFrom 32 b σ τ1 → (p_Field_passUntilDone 32 12 1000000 τ1 ∧ (∀ (y2 : Int) (τ3 : w_M), q_Field_passUntilDone 32 12 1000000 τ1 y2 τ3 → Q (some (.inl y2)) τ3)))) : w_Call (xs, (d + 5)) 65 [.inr (.inr (6, 31)), .inr (.inr (2, b))] σ Q :=
  (w_mk (mid := 65) (by decide) rfl rfl rfl rfl rfl (Nat.le_of_ble_eq_true rfl) ⟨rfl, Or.inl (by decide)⟩ (wi_aload0 fPlan_doneAfter_0 (wi_getf600 fPlan_doneAfter_1 (wi_aload1 fPlan_doneAfter_2 (wi_call2 fPlan_doneAfter_3 (Nat.le_of_ble_eq_true rfl) (k_Field_copyFrom h.1 (fun τ1 eτ1 => (wi_aload0 fPlan_doneAfter_4 (wi_getf600 fPlan_doneAfter_5 (wi_bipush fPlan_doneAfter_6 (wi_bipush fPlan_doneAfter_7 (wi_call3 fPlan_doneAfter_8 (Nat.le_of_ble_eq_true rfl) (k_Field_passUntilDone (h.2 τ1 eτ1).1 (fun y2 τ3 eτ3 => (wi_ret1 fPlan_doneAfter_9 ((h.2 τ1 eτ1).2 y2 τ3 eτ3))))))))))))))))
theorem k_Plan_doneAfter {xs : List Int} {d : Nat} {Q : Option w_V → w_M → Prop} {b : Nat} {σ : w_M} (hp : p_Plan_doneAfter b σ) (hQ : ∀ (x : Int) (σ' : w_M), q_Plan_doneAfter b σ x σ' → Q (some (.inl x)) σ') : w_Call (xs, d + 5) 65 [.inr (.inr (6, 31)), .inr (.inr (2, b))] σ Q := by
  refine bPlan_doneAfter_0 ⟨hp, fun τ1 hq => ⟨⟨n_ok.of hq.1 hp.1, by decide, by decide⟩, fun y τ3 hq3 => hQ _ _ ?_⟩⟩
  obtain ⟨j, h1, h2, h3⟩ := hq3
  rw [hq.1] at h2
  exact ⟨(n_pud_done hp.1 h2).2, hq.2.2.tr h3⟩
noncomputable def p_Moon_lend (_x1 : Int) (_x2 : Int) (_x3 : Int) (σ : w_M) : Prop := CI σ
noncomputable def q_Moon_lend (x1 : Int) (x2 : Int) (x3 : Int) (σ : w_M) (x : Int) (σ' : w_M) : Prop := c_q (F_lend (cS σ) x1 x2 x3) (G_lend (cS σ) x1 x2 x3) σ x σ'
theorem fMoon_lend_0 : w_fe am_c117 0 1 (.aload 0) := ⟨rfl, rfl⟩
theorem fMoon_lend_1 : w_fe am_c117 1 2 (.getfield 2) := ⟨rfl, rfl⟩
theorem fMoon_lend_2 : w_fe am_c117 2 3 (.iload 1) := ⟨rfl, rfl⟩
theorem fMoon_lend_3 : w_fe am_c117 3 4 (.invokestatic 38) := ⟨rfl, rfl⟩
theorem fMoon_lend_4 : w_if am_c117 4 5 .eq 18 := ⟨rfl, rfl⟩
theorem fMoon_lend_5 : w_fe am_c117 5 6 (.aload 0) := ⟨rfl, rfl⟩
theorem fMoon_lend_6 : w_fe am_c117 6 7 (.getfield 2) := ⟨rfl, rfl⟩
theorem fMoon_lend_7 : w_fe am_c117 7 8 (.iload 2) := ⟨rfl, rfl⟩
theorem fMoon_lend_8 : w_fe am_c117 8 9 (.invokestatic 38) := ⟨rfl, rfl⟩
theorem fMoon_lend_9 : w_if am_c117 9 10 .eq 18 := ⟨rfl, rfl⟩
theorem fMoon_lend_10 : w_fe am_c117 10 11 (.iload 1) := ⟨rfl, rfl⟩
theorem fMoon_lend_11 : w_fe am_c117 11 12 (.iload 2) := ⟨rfl, rfl⟩
theorem fMoon_lend_12 : w_ic am_c117 12 13 .eq 18 := ⟨rfl, rfl⟩
theorem fMoon_lend_13 : w_fe am_c117 13 14 (.iload 3) := ⟨rfl, rfl⟩
theorem fMoon_lend_14 : w_fe am_c117 14 15 (.bipush 0) := ⟨rfl, rfl⟩
theorem fMoon_lend_15 : w_fe am_c117 15 16 (.bipush 9) := ⟨rfl, rfl⟩
theorem fMoon_lend_16 : w_fe am_c117 16 17 (.invokestatic 107) := ⟨rfl, rfl⟩
theorem fMoon_lend_17 : w_if am_c117 17 18 .ne 20 := ⟨rfl, rfl⟩
theorem fMoon_lend_18 : w_fe am_c117 18 19 (.bipush (-1)) := ⟨rfl, rfl⟩
theorem fMoon_lend_19 : w_fe am_c117 19 20 (.ireturn) := ⟨rfl, rfl⟩
theorem fMoon_lend_20 : w_fe am_c117 20 21 (.aload 0) := ⟨rfl, rfl⟩
theorem fMoon_lend_21 : w_fe am_c117 21 22 (.getfield 2) := ⟨rfl, rfl⟩
theorem fMoon_lend_22 : w_fe am_c117 22 23 (.getfield 212) := ⟨rfl, rfl⟩
theorem fMoon_lend_23 : w_fe am_c117 23 24 (.iload 1) := ⟨rfl, rfl⟩
theorem fMoon_lend_24 : w_fe am_c117 24 25 (.iaload) := ⟨rfl, rfl⟩
theorem fMoon_lend_25 : w_fe am_c117 25 26 (.aload 0) := ⟨rfl, rfl⟩
theorem fMoon_lend_26 : w_fe am_c117 26 27 (.getfield 2) := ⟨rfl, rfl⟩
theorem fMoon_lend_27 : w_fe am_c117 27 28 (.getfield 212) := ⟨rfl, rfl⟩
theorem fMoon_lend_28 : w_fe am_c117 28 29 (.iload 2) := ⟨rfl, rfl⟩
theorem fMoon_lend_29 : w_fe am_c117 29 30 (.iaload) := ⟨rfl, rfl⟩
theorem fMoon_lend_30 : w_fe am_c117 30 31 (.isub) := ⟨rfl, rfl⟩
theorem fMoon_lend_31 : w_fe am_c117 31 32 (.invokestatic 0) := ⟨rfl, rfl⟩
theorem fMoon_lend_32 : w_fe am_c117 32 33 (.bipush 1) := ⟨rfl, rfl⟩
theorem fMoon_lend_33 : w_ic am_c117 33 34 .gt 41 := ⟨rfl, rfl⟩
theorem fMoon_lend_34 : w_fe am_c117 34 35 (.aload 0) := ⟨rfl, rfl⟩
theorem fMoon_lend_35 : w_fe am_c117 35 36 (.getfield 2) := ⟨rfl, rfl⟩
theorem fMoon_lend_36 : w_fe am_c117 36 37 (.getfield 210) := ⟨rfl, rfl⟩
theorem fMoon_lend_37 : w_fe am_c117 37 38 (.iload 1) := ⟨rfl, rfl⟩
theorem fMoon_lend_38 : w_fe am_c117 38 39 (.iaload) := ⟨rfl, rfl⟩
theorem fMoon_lend_39 : w_fe am_c117 39 40 (.iload 3) := ⟨rfl, rfl⟩
theorem fMoon_lend_40 : w_ic am_c117 40 41 .ge 43 := ⟨rfl, rfl⟩
theorem fMoon_lend_41 : w_fe am_c117 41 42 (.bipush (-2)) := ⟨rfl, rfl⟩
theorem fMoon_lend_42 : w_fe am_c117 42 43 (.ireturn) := ⟨rfl, rfl⟩
theorem fMoon_lend_43 : w_fe am_c117 43 44 (.aload 0) := ⟨rfl, rfl⟩
theorem fMoon_lend_44 : w_fe am_c117 44 45 (.getfield 2) := ⟨rfl, rfl⟩
theorem fMoon_lend_45 : w_fe am_c117 45 46 (.getfield 210) := ⟨rfl, rfl⟩
theorem fMoon_lend_46 : w_fe am_c117 46 47 (.iload 2) := ⟨rfl, rfl⟩
theorem fMoon_lend_47 : w_fe am_c117 47 48 (.iaload) := ⟨rfl, rfl⟩
theorem fMoon_lend_48 : w_fe am_c117 48 49 (.iload 3) := ⟨rfl, rfl⟩
theorem fMoon_lend_49 : w_fe am_c117 49 50 (.iadd) := ⟨rfl, rfl⟩
theorem fMoon_lend_50 : w_fe am_c117 50 51 (.bipush 9) := ⟨rfl, rfl⟩
theorem fMoon_lend_51 : w_ic am_c117 51 52 .le 54 := ⟨rfl, rfl⟩
theorem fMoon_lend_52 : w_fe am_c117 52 53 (.bipush (-3)) := ⟨rfl, rfl⟩
theorem fMoon_lend_53 : w_fe am_c117 53 54 (.ireturn) := ⟨rfl, rfl⟩
theorem fMoon_lend_54 : w_fe am_c117 54 55 (.aload 0) := ⟨rfl, rfl⟩
theorem fMoon_lend_55 : w_fe am_c117 55 56 (.getfield 2) := ⟨rfl, rfl⟩
theorem fMoon_lend_56 : w_fe am_c117 56 57 (.getfield 210) := ⟨rfl, rfl⟩
theorem fMoon_lend_57 : w_fe am_c117 57 58 (.iload 1) := ⟨rfl, rfl⟩
theorem fMoon_lend_58 : w_fe am_c117 58 59 (.dup2) := ⟨rfl, rfl⟩
theorem fMoon_lend_59 : w_fe am_c117 59 60 (.iaload) := ⟨rfl, rfl⟩
theorem fMoon_lend_60 : w_fe am_c117 60 61 (.iload 3) := ⟨rfl, rfl⟩
theorem fMoon_lend_61 : w_fe am_c117 61 62 (.isub) := ⟨rfl, rfl⟩
theorem fMoon_lend_62 : w_fe am_c117 62 63 (.iastore) := ⟨rfl, rfl⟩
theorem fMoon_lend_63 : w_fe am_c117 63 64 (.aload 0) := ⟨rfl, rfl⟩
theorem fMoon_lend_64 : w_fe am_c117 64 65 (.getfield 2) := ⟨rfl, rfl⟩
theorem fMoon_lend_65 : w_fe am_c117 65 66 (.getfield 210) := ⟨rfl, rfl⟩
theorem fMoon_lend_66 : w_fe am_c117 66 67 (.iload 2) := ⟨rfl, rfl⟩
theorem fMoon_lend_67 : w_fe am_c117 67 68 (.dup2) := ⟨rfl, rfl⟩
theorem fMoon_lend_68 : w_fe am_c117 68 69 (.iaload) := ⟨rfl, rfl⟩
theorem fMoon_lend_69 : w_fe am_c117 69 70 (.iload 3) := ⟨rfl, rfl⟩
theorem fMoon_lend_70 : w_fe am_c117 70 71 (.iadd) := ⟨rfl, rfl⟩
theorem fMoon_lend_71 : w_fe am_c117 71 72 (.iastore) := ⟨rfl, rfl⟩
theorem fMoon_lend_72 : w_fe am_c117 72 73 (.aload 0) := ⟨rfl, rfl⟩
theorem fMoon_lend_73 : w_fe am_c117 73 74 (.getfield 2) := ⟨rfl, rfl⟩
theorem fMoon_lend_74 : w_fe am_c117 74 75 (.getfield 210) := ⟨rfl, rfl⟩
theorem fMoon_lend_75 : w_fe am_c117 75 76 (.iload 2) := ⟨rfl, rfl⟩
theorem fMoon_lend_76 : w_fe am_c117 76 77 (.iaload) := ⟨rfl, rfl⟩
theorem fMoon_lend_77 : w_fe am_c117 77 78 (.ireturn) := ⟨rfl, rfl⟩
set_option maxRecDepth 20000 in
theorem bMoon_lend_0 {xs : List Int} {d : Nat} {Q : Option w_V → w_M → Prop} {x1 : Int} {x2 : Int} {x3 : Int} {σ : w_M}
    (h : (¬ (0 ≤ x1 ∧ x1 < σ 14 5) → Q (some (.inl (-1))) σ) ∧ ((0 ≤ x1 ∧ x1 < σ 14 5) → ((¬ (0 ≤ x2 ∧ x2 < σ 14 5) → Q (some (.inl (-1))) σ) ∧ ((0 ≤ x2 ∧ x2 < σ 14 5) → ((x1 = x2 → Q (some (.inl (-1))) σ) ∧ (¬ x1 = x2 → (((0 ≤ x3 ∧ x3 ≤ 9) → (0 ≤ x1 ∧ x1 < 4 ∧ 0 ≤ x2 ∧ x2 < 4 ∧ w_in ((σ 20 x1.toNat) - (σ 20 x2.toNat)) ∧ p_Math_abs ((σ 20 x1.toNat) - (σ 20 x2.toNat)) ∧ (∀ (y1 : Int), y1 = v_Math_abs ((σ 20 x1.toNat) - (σ 20 x2.toNat)) → ((1 < y1 → Q (some (.inl (-2))) σ) ∧ (y1 ≤ 1 → ((x3 ≤ (σ 18 x1.toNat) → (w_in ((σ 18 x2.toNat) + x3) ∧ ((((σ 18 x2.toNat) + x3) ≤ 9 → (w_in ((σ 18 x1.toNat) - x3) ∧ (∀ (τ2 : w_M), τ2 = w_up σ 18 x1.toNat ((σ 18 x1.toNat) - x3) → (w_in ((τ2 18 x2.toNat) + x3) ∧ (∀ (τ3 : w_M), τ3 = w_up τ2 18 x2.toNat ((τ2 18 x2.toNat) + x3) → Q (some (.inl (τ3 18 x2.toNat))) τ3))))) ∧ (9 < ((σ 18 x2.toNat) + x3) → Q (some (.inl (-3))) σ)))) ∧ ((σ 18 x1.toNat) < x3 → Q (some (.inl (-2))) σ))))))) ∧ (¬ (0 ≤ x3 ∧ x3 ≤ 9) → Q (some (.inl (-1))) σ)))))))) : w_Call (xs, (d + 1)) 117 [.inr (.inr (0, 0)), .inl x1, .inl x2, .inl x3] σ Q :=
  (w_mk (mid := 117) (by decide) rfl rfl rfl rfl rfl (Nat.le_of_ble_eq_true rfl) ⟨rfl, Or.inl (by decide)⟩ (wi_aload0 fMoon_lend_0 (wi_getf2 fMoon_lend_1 (wi_iload1 fMoon_lend_2 (wi_call2 fMoon_lend_3 (Nat.le_of_ble_eq_true rfl) (k_Field_isReaper (wi_ifb_eq fMoon_lend_4 (fun c10 => (wi_bipush fMoon_lend_18 (wi_ret1 fMoon_lend_19 (h.1 c10)))) (fun c10 => (wi_aload0 fMoon_lend_5 (wi_getf2 fMoon_lend_6 (wi_iload2 fMoon_lend_7 (wi_call2 fMoon_lend_8 (Nat.le_of_ble_eq_true rfl) (k_Field_isReaper (wi_ifb_eq fMoon_lend_9 (fun c9 => (wi_bipush fMoon_lend_18 (wi_ret1 fMoon_lend_19 ((h.2 c10).1 c9)))) (fun c9 => (wi_iload1 fMoon_lend_10 (wi_iload2 fMoon_lend_11 (wi_ic_eq fMoon_lend_12 (fun c8 => (wi_bipush fMoon_lend_18 (wi_ret1 fMoon_lend_19 (((h.2 c10).2 c9).1 c8)))) (fun c8 => (wi_iload3 fMoon_lend_13 (wi_bipush fMoon_lend_14 (wi_bipush fMoon_lend_15 (wi_call3 fMoon_lend_16 (Nat.le_of_ble_eq_true rfl) (k_Moon_isWithin (wi_ifb_ne fMoon_lend_17 (fun c7 => (wi_aload0 fMoon_lend_20 (wi_getf2 fMoon_lend_21 (wi_getf212 fMoon_lend_22 (wi_iload1 fMoon_lend_23 (wi_iald1004 fMoon_lend_24 ((((h.2 c10).2 c9).2 c8).1 c7).1 ((((h.2 c10).2 c9).2 c8).1 c7).2.1 (wi_aload0 fMoon_lend_25 (wi_getf2 fMoon_lend_26 (wi_getf212 fMoon_lend_27 (wi_iload2 fMoon_lend_28 (wi_iald1004 fMoon_lend_29 ((((h.2 c10).2 c9).2 c8).1 c7).2.2.1 ((((h.2 c10).2 c9).2 c8).1 c7).2.2.2.1 (wi_isub fMoon_lend_30 ((((h.2 c10).2 c9).2 c8).1 c7).2.2.2.2.1 (wi_call1 fMoon_lend_31 (Nat.le_of_ble_eq_true rfl) (k_Math_abs ((((h.2 c10).2 c9).2 c8).1 c7).2.2.2.2.2.1 (wi_bipush fMoon_lend_32 (wi_ic_gt fMoon_lend_33 (fun c6 => (wi_bipush fMoon_lend_41 (wi_ret1 fMoon_lend_42 ((((((h.2 c10).2 c9).2 c8).1 c7).2.2.2.2.2.2 _ rfl).1 c6)))) (fun c6 => (wi_aload0 fMoon_lend_34 (wi_getf2 fMoon_lend_35 (wi_getf210 fMoon_lend_36 (wi_iload1 fMoon_lend_37 (wi_iald1004 fMoon_lend_38 ((((h.2 c10).2 c9).2 c8).1 c7).1 ((((h.2 c10).2 c9).2 c8).1 c7).2.1 (wi_iload3 fMoon_lend_39 (wi_ic_ge fMoon_lend_40 (fun c5 => (wi_aload0 fMoon_lend_43 (wi_getf2 fMoon_lend_44 (wi_getf210 fMoon_lend_45 (wi_iload2 fMoon_lend_46 (wi_iald1004 fMoon_lend_47 ((((h.2 c10).2 c9).2 c8).1 c7).2.2.1 ((((h.2 c10).2 c9).2 c8).1 c7).2.2.2.1 (wi_iload3 fMoon_lend_48 (wi_iadd fMoon_lend_49 (((((((h.2 c10).2 c9).2 c8).1 c7).2.2.2.2.2.2 _ rfl).2 c6).1 c5).1 (wi_bipush fMoon_lend_50 (wi_ic_le fMoon_lend_51 (fun c4 => (wi_aload0 fMoon_lend_54 (wi_getf2 fMoon_lend_55 (wi_getf210 fMoon_lend_56 (wi_iload1 fMoon_lend_57 (wi_dup2 fMoon_lend_58 (wi_iald1004 fMoon_lend_59 ((((h.2 c10).2 c9).2 c8).1 c7).1 ((((h.2 c10).2 c9).2 c8).1 c7).2.1 (wi_iload3 fMoon_lend_60 (wi_isub fMoon_lend_61 ((((((((h.2 c10).2 c9).2 c8).1 c7).2.2.2.2.2.2 _ rfl).2 c6).1 c5).2.1 c4).1 (wi_iast1004 fMoon_lend_62 ((((h.2 c10).2 c9).2 c8).1 c7).1 ((((h.2 c10).2 c9).2 c8).1 c7).2.1 (wi_aload0 fMoon_lend_63 (wi_getf2 fMoon_lend_64 (wi_getf210 fMoon_lend_65 (wi_iload2 fMoon_lend_66 (wi_dup2 fMoon_lend_67 (wi_iald1004 fMoon_lend_68 ((((h.2 c10).2 c9).2 c8).1 c7).2.2.1 ((((h.2 c10).2 c9).2 c8).1 c7).2.2.2.1 (wi_iload3 fMoon_lend_69 (wi_iadd fMoon_lend_70 (((((((((h.2 c10).2 c9).2 c8).1 c7).2.2.2.2.2.2 _ rfl).2 c6).1 c5).2.1 c4).2 _ rfl).1 (wi_iast1004 fMoon_lend_71 ((((h.2 c10).2 c9).2 c8).1 c7).2.2.1 ((((h.2 c10).2 c9).2 c8).1 c7).2.2.2.1 (wi_aload0 fMoon_lend_72 (wi_getf2 fMoon_lend_73 (wi_getf210 fMoon_lend_74 (wi_iload2 fMoon_lend_75 (wi_iald1004 fMoon_lend_76 ((((h.2 c10).2 c9).2 c8).1 c7).2.2.1 ((((h.2 c10).2 c9).2 c8).1 c7).2.2.2.1 (wi_ret1 fMoon_lend_77 ((((((((((h.2 c10).2 c9).2 c8).1 c7).2.2.2.2.2.2 _ rfl).2 c6).1 c5).2.1 c4).2 _ rfl).2 _ rfl)))))))))))))))))))))))))) (fun c4 => (wi_bipush fMoon_lend_52 (wi_ret1 fMoon_lend_53 ((((((((h.2 c10).2 c9).2 c8).1 c7).2.2.2.2.2.2 _ rfl).2 c6).1 c5).2.2 c4)))))))))))))) (fun c5 => (wi_bipush fMoon_lend_41 (wi_ret1 fMoon_lend_42 (((((((h.2 c10).2 c9).2 c8).1 c7).2.2.2.2.2.2 _ rfl).2 c6).2 c5)))))))))))))))))))))))))))) (fun c7 => (wi_bipush fMoon_lend_18 (wi_ret1 fMoon_lend_19 ((((h.2 c10).2 c9).2 c8).2 c7)))))))))))))))))))))))))))))
theorem F_lend_bad {S : w_S} {a b o : Int} (h : ¬ P_lend S a b o) : F_lend S a b o = -1 ∧ G_lend S a b o = S := ⟨if_neg h, if_neg (fun q => h q.1)⟩
theorem F_lend_state {S : w_S} {a b o : Int} (h : P_lend S a b o) (h2 : ¬ P_near S a b o) : F_lend S a b o = -2 ∧ G_lend S a b o = S := ⟨(if_pos h).trans (if_neg h2), if_neg (fun q => h2 q.2.1)⟩
theorem F_lend_full {S : w_S} {a b o : Int} (h : P_lend S a b o) (h2 : P_near S a b o) (h3 : ¬ S 0 4 b.toNat + o ≤ 9) : F_lend S a b o = -3 ∧ G_lend S a b o = S := ⟨((if_pos h).trans (if_pos h2)).trans (if_neg h3), if_neg (fun q => h3 q.2.2)⟩
theorem F_lend_ok {S : w_S} {a b o : Int} (h : P_lend S a b o) (h2 : P_near S a b o) (h3 : S 0 4 b.toNat + o ≤ 9) : F_lend S a b o = S 0 4 b.toNat + o ∧ G_lend S a b o = w_sp S 0 (w_up (w_up (S 0) 4 a.toNat (S 0 4 a.toNat - o)) 4 b.toNat (S 0 4 b.toNat + o)) := ⟨((if_pos h).trans (if_pos h2)).trans (if_pos h3), if_pos ⟨h, h2, h3⟩⟩
theorem n_WF_lend {A : w_M} (h : n_WF A) {a b : Nat} {o : Int} (ha : a < n_n A) (hb : b < n_n A) (ho : 0 ≤ o) (h1 : o ≤ A 4 a) (h2 : A 4 b + o ≤ 9) : n_WF (w_up (w_up A 4 a (A 4 a - o)) 4 b (A 4 b + o)) := by
  have r1 := (h.r ha).2.1
  have r2 := (h.r hb).2.1
  refine n_WF_up (n_WF_up h ?_ ?_ ?_ ?_ ?_ ?_ ?_ ?_) ?_ ?_ ?_ ?_ ?_ ?_ ?_ ?_ <;> (intros; omega)
set_option maxHeartbeats 1000000 in
theorem k_Moon_lend {xs : List Int} {d : Nat} {Q : Option w_V → w_M → Prop} {x1 : Int} {x2 : Int} {x3 : Int} {σ : w_M} (hp : p_Moon_lend x1 x2 x3 σ) (hQ : ∀ (x : Int) (σ' : w_M), q_Moon_lend x1 x2 x3 σ x σ' → Q (some (.inl x)) σ') : w_Call (xs, d + 1) 117 [.inr (.inr (0, 0)), .inl x1, .inl x2, .inl x3] σ Q := by
  have hC : CI σ := hp
  have hok := hC.ok
  have hn := n_ok.n hok
  unfold q_Moon_lend at hQ
  have bad : ¬ P_lend (cS σ) x1 x2 x3 → Q (some (.inl (-1))) σ := fun h => by
    obtain ⟨e1, e2⟩ := F_lend_bad h
    rw [e1, e2] at hQ
    exact hQ _ _ (c_qr hC rfl)
  refine bMoon_lend_0 ⟨fun c => bad (fun q => c q.1.1), fun c => ⟨fun c2 => bad (fun q => c2 q.1.2.1), fun c2 => ⟨fun c3 => bad (fun q => q.1.2.2 c3), fun c3 => ⟨fun c4 => ?_, fun c4 => bad (fun q => c4 q.2)⟩⟩⟩⟩
  have hL : P_lend (cS σ) x1 x2 x3 := ⟨⟨c, c2, c3⟩, c4⟩
  have r1 := n_WF.r hok (show x1.toNat < n_n (w_ab σ 14) by rw [n_n_ab]; omega)
  have r2 := n_WF.r hok (show x2.toNat < n_n (w_ab σ 14) by rw [n_n_ab]; omega)
  have a1 : σ 20 x1.toNat = w_ab σ 14 6 x1.toNat := c_rdr (a := 14) (d := 6) hok (by decide) (by decide) c
  have a2 : σ 20 x2.toNat = w_ab σ 14 6 x2.toNat := c_rdr (a := 14) (d := 6) hok (by decide) (by decide) c2
  have o1 : σ 18 x1.toNat = w_ab σ 14 4 x1.toNat := c_rdr (a := 14) (d := 4) hok (by decide) (by decide) c
  have o2 : σ 18 x2.toNat = w_ab σ 14 4 x2.toNat := c_rdr (a := 14) (d := 4) hok (by decide) (by decide) c2
  have h04 : w_ab σ 14 0 4 = σ 14 4 := rfl
  have hs := n_ok.s hok
  have hne : x2.toNat ≠ x1.toNat := by omega
  rw [a1, a2, o1, o2]
  refine ⟨c.1, by omega, c2.1, by omega, ⟨by omega, by omega⟩, ⟨by omega, by omega⟩, fun y ey => ⟨fun d1 => ?_, fun d1 => ⟨fun d2 => ⟨⟨by omega, by omega⟩, fun d3 => ⟨⟨by omega, by omega⟩, fun τ2 t2 => ?_⟩, fun d3 => ?_⟩, fun d2 => ?_⟩⟩⟩
  · obtain ⟨e1, e2⟩ := F_lend_state hL (fun q => by
      have q1 : -1 ≤ w_ab σ 14 6 x1.toNat - w_ab σ 14 6 x2.toNat ∧ w_ab σ 14 6 x1.toNat - w_ab σ 14 6 x2.toNat ≤ 1 := q.1
      unfold v_Math_abs at ey
      split at ey <;> omega)
    rw [e1, e2] at hQ
    exact hQ _ _ (c_qr hC rfl)
  · have hN : P_near (cS σ) x1 x2 x3 := by
      refine ⟨?_, d2⟩
      show -1 ≤ w_ab σ 14 6 x1.toNat - w_ab σ 14 6 x2.toNat ∧ w_ab σ 14 6 x1.toNat - w_ab σ 14 6 x2.toNat ≤ 1
      unfold v_Math_abs at ey
      split at ey <;> omega
    obtain ⟨e1, e2⟩ := F_lend_ok hL hN d3
    rw [e1, e2] at hQ
    have z2 : τ2 14 = σ 14 := by rw [t2]; exact w_up_ne (by decide)
    have v2 : τ2 18 x2.toNat = w_ab σ 14 4 x2.toNat := by rw [t2, w_up_j hne]; exact o2
    rw [v2]
    refine ⟨⟨by omega, by omega⟩, fun τ3 t3 => hQ _ _ ?_⟩
    have A2 : w_ab τ2 14 = w_up (w_ab σ 14) 4 x1.toNat (w_ab σ 14 4 x1.toNat - x3) := by rw [t2]; exact w_ab_up (a := 14) (d := 4) (by decide) (by decide) (by rw [w_rl37 (by decide) (by decide)]; omega)
    have A3 : w_ab τ3 14 = w_up (w_ab τ2 14) 4 x2.toNat (w_ab σ 14 4 x2.toNat + x3) := by rw [t3]; exact w_ab_up (a := 14) (d := 4) (by decide) (by decide) (by rw [w_rl37 (by decide) (by decide), z2]; omega)
    refine c_q0 hC (by rw [t3, t2]; exact (w_fr.up0 (by omega) (by omega)).up (by omega) (by omega)) (by rw [A3, A2]; rfl) (n_WF_lend hok (by rw [n_n_ab]; omega) (by rw [n_n_ab]; omega) c4.1 d2 d3) ?_ ?_ ?_ ?_ ?_
    · show w_up (w_up (w_ab σ 14) 4 _ _) 4 _ _ 0 0 = σ 14 0; rw [w_up_ne (by decide), w_up_ne (by decide)]; rfl
    · show w_up (w_up (w_ab σ 14) 4 _ _) 4 _ _ 0 4 = σ 14 4; rw [w_up_ne (by decide), w_up_ne (by decide)]; rfl
    · show w_up (w_up (w_ab σ 14) 4 _ _) 4 _ _ 0 5 = σ 14 5; rw [w_up_ne (by decide), w_up_ne (by decide)]; rfl
    · rw [t3, w_up_ne (by decide), z2]; exact hC.2.1
    · rw [t3, w_up_at]; rfl
  · have hN : P_near (cS σ) x1 x2 x3 := by
      refine ⟨?_, d2⟩
      show -1 ≤ w_ab σ 14 6 x1.toNat - w_ab σ 14 6 x2.toNat ∧ w_ab σ 14 6 x1.toNat - w_ab σ 14 6 x2.toNat ≤ 1
      unfold v_Math_abs at ey
      split at ey <;> omega
    obtain ⟨e1, e2⟩ := F_lend_full hL hN (fun q => by have q' : w_ab σ 14 4 x2.toNat + x3 ≤ 9 := q; omega)
    rw [e1, e2] at hQ
    exact hQ _ _ (c_qr hC rfl)
  · obtain ⟨e1, e2⟩ := F_lend_state hL (fun q => by have q' : x3 ≤ w_ab σ 14 4 x1.toNat := q.2; omega)
    rw [e1, e2] at hQ
    exact hQ _ _ (c_qr hC rfl)
noncomputable def p_Moon_cloud (_x1 : Int) (x2 : Int) (σ : w_M) : Prop := CI σ ∧ (x2 = 0 ∨ x2 = 1)
noncomputable def q_Moon_cloud (x1 : Int) (x2 : Int) (σ : w_M) (x : Int) (σ' : w_M) : Prop := c_q (F_cloud (cS σ) x1 x2) (G_cloud (cS σ) x1 x2) σ x σ'
theorem fMoon_cloud_0 : w_fe am_c120 0 1 (.iload 1) := ⟨rfl, rfl⟩
theorem fMoon_cloud_1 : w_fe am_c120 1 2 (.bipush 0) := ⟨rfl, rfl⟩
theorem fMoon_cloud_2 : w_fe am_c120 2 3 (.aload 0) := ⟨rfl, rfl⟩
theorem fMoon_cloud_3 : w_fe am_c120 3 4 (.getfield 2) := ⟨rfl, rfl⟩
theorem fMoon_cloud_4 : w_fe am_c120 4 5 (.getfield 200) := ⟨rfl, rfl⟩
theorem fMoon_cloud_5 : w_fe am_c120 5 6 (.bipush 1) := ⟨rfl, rfl⟩
theorem fMoon_cloud_6 : w_fe am_c120 6 7 (.isub) := ⟨rfl, rfl⟩
theorem fMoon_cloud_7 : w_fe am_c120 7 8 (.invokestatic 107) := ⟨rfl, rfl⟩
theorem fMoon_cloud_8 : w_if am_c120 8 9 .ne 11 := ⟨rfl, rfl⟩
theorem fMoon_cloud_9 : w_fe am_c120 9 10 (.bipush (-1)) := ⟨rfl, rfl⟩
theorem fMoon_cloud_10 : w_fe am_c120 10 11 (.ireturn) := ⟨rfl, rfl⟩
theorem fMoon_cloud_11 : w_fe am_c120 11 12 (.aload 0) := ⟨rfl, rfl⟩
theorem fMoon_cloud_12 : w_fe am_c120 12 13 (.getfield 2) := ⟨rfl, rfl⟩
theorem fMoon_cloud_13 : w_fe am_c120 13 14 (.iload 1) := ⟨rfl, rfl⟩
theorem fMoon_cloud_14 : w_fe am_c120 14 15 (.invokestatic 29) := ⟨rfl, rfl⟩
theorem fMoon_cloud_15 : w_if am_c120 15 16 .eq 18 := ⟨rfl, rfl⟩
theorem fMoon_cloud_16 : w_fe am_c120 16 17 (.bipush 1) := ⟨rfl, rfl⟩
theorem fMoon_cloud_17 : w_gt am_c120 17 19 := rfl
theorem fMoon_cloud_18 : w_fe am_c120 18 19 (.bipush 0) := ⟨rfl, rfl⟩
theorem fMoon_cloud_19 : w_fe am_c120 19 20 (.istore 3) := ⟨rfl, rfl⟩
theorem fMoon_cloud_20 : w_fe am_c120 20 21 (.aload 0) := ⟨rfl, rfl⟩
theorem fMoon_cloud_21 : w_fe am_c120 21 22 (.getfield 2) := ⟨rfl, rfl⟩
theorem fMoon_cloud_22 : w_fe am_c120 22 23 (.aload 0) := ⟨rfl, rfl⟩
theorem fMoon_cloud_23 : w_fe am_c120 23 24 (.getfield 2) := ⟨rfl, rfl⟩
theorem fMoon_cloud_24 : w_fe am_c120 24 25 (.getfield 202) := ⟨rfl, rfl⟩
theorem fMoon_cloud_25 : w_fe am_c120 25 26 (.iload 1) := ⟨rfl, rfl⟩
theorem fMoon_cloud_26 : w_fe am_c120 26 27 (.iload 2) := ⟨rfl, rfl⟩
theorem fMoon_cloud_27 : w_fe am_c120 27 28 (.invokestatic 110) := ⟨rfl, rfl⟩
theorem fMoon_cloud_28 : w_fe am_c120 28 29 (.putfield 202) := ⟨rfl, rfl⟩
theorem fMoon_cloud_29 : w_fe am_c120 29 30 (.iload 3) := ⟨rfl, rfl⟩
theorem fMoon_cloud_30 : w_fe am_c120 30 31 (.ireturn) := ⟨rfl, rfl⟩
set_option maxRecDepth 20000 in
theorem bMoon_cloud_0 {xs : List Int} {d : Nat} {Q : Option w_V → w_M → Prop} {x1 : Int} {x2 : Int} {σ : w_M}
    (h : w_in ((σ 14 0) - 1) ∧ (((0 ≤ x1 ∧ x1 ≤ ((σ 14 0) - 1)) → ((¬ (¬ w_and (w_shr (σ 14 2) x1) 1 = 0) → ∀ (y1 : Int), y1 = v_Moon_withBit (σ 14 2) x1 x2 → ∀ (τ2 : w_M), τ2 = w_up σ 14 2 y1 → Q (some (.inl 0)) τ2) ∧ ((¬ w_and (w_shr (σ 14 2) x1) 1 = 0) → ∀ (y3 : Int), y3 = v_Moon_withBit (σ 14 2) x1 x2 → ∀ (τ4 : w_M), τ4 = w_up σ 14 2 y3 → Q (some (.inl 1)) τ4))) ∧ (¬ (0 ≤ x1 ∧ x1 ≤ ((σ 14 0) - 1)) → Q (some (.inl (-1))) σ))) : w_Call (xs, (d + 1)) 120 [.inr (.inr (0, 0)), .inl x1, .inl x2] σ Q :=
  (w_mk (mid := 120) (by decide) rfl rfl rfl rfl rfl (Nat.le_of_ble_eq_true rfl) ⟨rfl, Or.inl (by decide)⟩ (wi_iload1 fMoon_cloud_0 (wi_bipush fMoon_cloud_1 (wi_aload0 fMoon_cloud_2 (wi_getf2 fMoon_cloud_3 (wi_getf200 fMoon_cloud_4 (wi_bipush fMoon_cloud_5 (wi_isub fMoon_cloud_6 h.1 (wi_call3 fMoon_cloud_7 (Nat.le_of_ble_eq_true rfl) (k_Moon_isWithin (wi_ifb_ne fMoon_cloud_8 (fun c6 => (wi_aload0 fMoon_cloud_11 (wi_getf2 fMoon_cloud_12 (wi_iload1 fMoon_cloud_13 (wi_call2 fMoon_cloud_14 (Nat.le_of_ble_eq_true rfl) (k_Field_isCloudy (wi_ifb_eq fMoon_cloud_15 (fun c5 => (wi_bipush fMoon_cloud_18 (wi_istore3 fMoon_cloud_19 trivial (wi_aload0 fMoon_cloud_20 (wi_getf2 fMoon_cloud_21 (wi_aload0 fMoon_cloud_22 (wi_getf2 fMoon_cloud_23 (wi_getf202 fMoon_cloud_24 (wi_iload1 fMoon_cloud_25 (wi_iload2 fMoon_cloud_26 (wi_call3 fMoon_cloud_27 (Nat.le_of_ble_eq_true rfl) (k_Moon_withBit (wi_putf202 fMoon_cloud_28 (wi_iload3 fMoon_cloud_29 (wi_ret1 fMoon_cloud_30 ((((h.2.1 c6).1 c5) _ rfl) _ rfl)))))))))))))))) (fun c5 => (wi_bipush fMoon_cloud_16 (wi_goto fMoon_cloud_17 (wi_istore3 fMoon_cloud_19 trivial (wi_aload0 fMoon_cloud_20 (wi_getf2 fMoon_cloud_21 (wi_aload0 fMoon_cloud_22 (wi_getf2 fMoon_cloud_23 (wi_getf202 fMoon_cloud_24 (wi_iload1 fMoon_cloud_25 (wi_iload2 fMoon_cloud_26 (wi_call3 fMoon_cloud_27 (Nat.le_of_ble_eq_true rfl) (k_Moon_withBit (wi_putf202 fMoon_cloud_28 (wi_iload3 fMoon_cloud_29 (wi_ret1 fMoon_cloud_30 ((((h.2.1 c6).2 c5) _ rfl) _ rfl)))))))))))))))))))))))) (fun c6 => (wi_bipush fMoon_cloud_9 (wi_ret1 fMoon_cloud_10 (h.2.2 c6)))))))))))))))
theorem k_Moon_cloud {xs : List Int} {d : Nat} {Q : Option w_V → w_M → Prop} {x1 : Int} {x2 : Int} {σ : w_M} (hp : p_Moon_cloud x1 x2 σ) (hQ : ∀ (x : Int) (σ' : w_M), q_Moon_cloud x1 x2 σ x σ' → Q (some (.inl x)) σ') : w_Call (xs, d + 1) 120 [.inr (.inr (0, 0)), .inl x1, .inl x2] σ Q := by
  obtain ⟨hC, hb⟩ := hp
  have hok := hC.ok
  have hrs := n_ok.hrs hok
  have hcl : 0 ≤ σ 14 2 ∧ σ 14 2 ≤ 4095 := hok.2.2.1
  unfold q_Moon_cloud F_cloud G_cloud at hQ
  have e0 : cS σ 0 0 0 = σ 14 0 := rfl
  have e2 : cS σ 0 0 2 = σ 14 2 := rfl
  have ec : n_cl (cS σ 0) x1 = w_and (w_shr (σ 14 2) x1) 1 := rfl
  rw [e0, e2, ec] at hQ
  have h01 := w_and1 (w_shr (σ 14 2) x1)
  have main : 0 ≤ x1 ∧ x1 < σ 14 0 → ∀ (x : Int), x = w_and (w_shr (σ 14 2) x1) 1 → ∀ y : Int, y = v_Moon_withBit (σ 14 2) x1 x2 → ∀ τ : w_M, τ = w_up σ 14 2 y → Q (some (.inl x)) τ := by
    intro c x ex y ey τ t
    have hb2 := w_cl_bits (is := x2) hcl (show 0 ≤ x1 ∧ x1 < 12 by omega)
    rw [if_pos c, if_pos c] at hQ
    refine hQ _ _ (c_q0 hC (by rw [t]; exact w_fr.up0 (by omega) (by omega)) (by rw [t, ey]; exact w_ab_up0 (by decide)) ?_ ?_ ?_ ?_ ?_ ex)
    · refine n_WF_up hok ?_ ?_ ?_ ?_ ?_ ?_ ?_ ?_ <;> (intros; omega)
    · show w_up (w_ab σ 14) 0 2 _ 0 0 = σ 14 0; rw [w_up_j (by decide)]; rfl
    · show w_up (w_ab σ 14) 0 2 _ 0 4 = σ 14 4; rw [w_up_j (by decide)]; rfl
    · show w_up (w_ab σ 14) 0 2 _ 0 5 = σ 14 5; rw [w_up_j (by decide)]; rfl
    · rw [t, w_up_j (by decide)]; exact hC.2.1
  refine bMoon_cloud_0 ⟨⟨by omega, by omega⟩, fun c => ⟨fun z y ey τ t => ?_, fun z y ey τ t => ?_⟩, fun c => ?_⟩
  · exact main (by omega) 0 (Classical.not_not.mp z).symm y ey τ t
  · exact main (by omega) 1 (h01.resolve_left z).symm y ey τ t
  · rw [if_neg (by omega), if_neg (by omega)] at hQ
    exact hQ _ _ (c_qr hC rfl)
theorem w_th_rng : ∀ m, m < 128 → ∀ i, i < 7 → (0 ≤ v_Moon_withBit (m : Nat) (i : Nat) 1 ∧ v_Moon_withBit (m : Nat) (i : Nat) 1 ≤ 127) ∧ (0 ≤ v_Moon_withBit (m : Nat) (i : Nat) 0 ∧ v_Moon_withBit (m : Nat) (i : Nat) 0 ≤ 127) := by decide +kernel
theorem w_ab_up6 {σ : w_M} {a i : Nat} {is : Int} (hs : (σ a 4).toNat ≤ 7) (hi : i < (σ a 4).toNat) (hm : 0 ≤ σ a 6 ∧ σ a 6 ≤ 127) (hb : is = 0 ∨ is = 1) : w_ab (w_up σ a 6 (v_Moon_withBit (σ a 6) i is)) a = w_up (w_ab σ a) 9 i is := by
  have h4 : w_up σ a 6 (v_Moon_withBit (σ a 6) i is) a 4 = σ a 4 := w_up_j (by decide)
  have h5 : w_up σ a 6 (v_Moon_withBit (σ a 6) i is) a 5 = σ a 5 := w_up_j (by decide)
  have hr : ∀ k, w_rl (w_up σ a 6 (v_Moon_withBit (σ a 6) i is)) a k = w_rl σ a k := fun k => by unfold w_rl; rw [h4, h5]
  obtain ⟨m, em⟩ := Int.eq_ofNat_of_zero_le hm.1
  funext k q
  rw [show w_up (w_ab σ a) 9 i is k q = if k = 9 ∧ q = i then is else w_ab σ a k q from rfl]
  unfold w_ab
  rw [hr, h4, w_up_at]
  by_cases hk : k < 9
  · rw [if_pos hk]
    rw [if_neg (show ¬ (k = 9 ∧ q = i) by omega), if_pos hk]
    by_cases hq : q < w_rl σ a k
    · rw [if_pos hq, if_pos hq]
      by_cases hk0 : k = 0
      · subst hk0
        have : q < 6 := hq
        exact w_up_j (by omega)
      · rw [w_up_ne (by omega)]
    · rw [if_neg hq, if_neg hq]
  · rw [if_neg hk]
    by_cases h9 : k = 9
    · subst h9
      rw [if_pos rfl]
      by_cases hq : q < (σ a 4).toNat
      · rw [if_pos hq]
        have hb2 := w_th_bits m (by omega) (7 * i + q) (by omega)
        rw [show (7 * i + q) / 7 = i by omega, show (7 * i + q) % 7 = q by omega] at hb2
        by_cases hqi : q = i
        · rw [if_pos ⟨rfl, hqi⟩, em]
          rcases hb with rfl | rfl
          · rw [hb2.2, if_pos hqi]
          · rw [hb2.1, if_pos hqi]
        · rw [if_neg (show ¬ (9 = 9 ∧ q = i) from fun e => hqi e.2), if_neg (show ¬ 9 < 9 by decide), if_pos rfl, if_pos hq, em]
          rcases hb with rfl | rfl
          · rw [hb2.2, if_neg hqi]
          · rw [hb2.1, if_neg hqi]
      · rw [if_neg hq, if_neg (show ¬ (9 = 9 ∧ q = i) by omega), if_neg (show ¬ 9 < 9 by decide), if_pos rfl, if_neg hq]
    · rw [if_neg h9, if_neg (show ¬ (k = 9 ∧ q = i) from fun e => h9 e.1), if_neg hk, if_neg h9]
noncomputable def p_Moon_thistle (_x1 : Int) (x2 : Int) (σ : w_M) : Prop := CI σ ∧ (x2 = 0 ∨ x2 = 1)
noncomputable def q_Moon_thistle (x1 : Int) (x2 : Int) (σ : w_M) (x : Int) (σ' : w_M) : Prop := c_q (F_thistle (cS σ) x1 x2) (G_thistle (cS σ) x1 x2) σ x σ'
theorem fMoon_thistle_0 : w_fe am_c121 0 1 (.aload 0) := ⟨rfl, rfl⟩
theorem fMoon_thistle_1 : w_fe am_c121 1 2 (.getfield 2) := ⟨rfl, rfl⟩
theorem fMoon_thistle_2 : w_fe am_c121 2 3 (.iload 1) := ⟨rfl, rfl⟩
theorem fMoon_thistle_3 : w_fe am_c121 3 4 (.invokestatic 33) := ⟨rfl, rfl⟩
theorem fMoon_thistle_4 : w_if am_c121 4 5 .ne 7 := ⟨rfl, rfl⟩
theorem fMoon_thistle_5 : w_fe am_c121 5 6 (.bipush (-1)) := ⟨rfl, rfl⟩
theorem fMoon_thistle_6 : w_fe am_c121 6 7 (.ireturn) := ⟨rfl, rfl⟩
theorem fMoon_thistle_7 : w_fe am_c121 7 8 (.aload 0) := ⟨rfl, rfl⟩
theorem fMoon_thistle_8 : w_fe am_c121 8 9 (.getfield 2) := ⟨rfl, rfl⟩
theorem fMoon_thistle_9 : w_fe am_c121 9 10 (.iload 1) := ⟨rfl, rfl⟩
theorem fMoon_thistle_10 : w_fe am_c121 10 11 (.invokestatic 30) := ⟨rfl, rfl⟩
theorem fMoon_thistle_11 : w_if am_c121 11 12 .eq 14 := ⟨rfl, rfl⟩
theorem fMoon_thistle_12 : w_fe am_c121 12 13 (.bipush 1) := ⟨rfl, rfl⟩
theorem fMoon_thistle_13 : w_gt am_c121 13 15 := rfl
theorem fMoon_thistle_14 : w_fe am_c121 14 15 (.bipush 0) := ⟨rfl, rfl⟩
theorem fMoon_thistle_15 : w_fe am_c121 15 16 (.istore 3) := ⟨rfl, rfl⟩
theorem fMoon_thistle_16 : w_fe am_c121 16 17 (.aload 0) := ⟨rfl, rfl⟩
theorem fMoon_thistle_17 : w_fe am_c121 17 18 (.getfield 2) := ⟨rfl, rfl⟩
theorem fMoon_thistle_18 : w_fe am_c121 18 19 (.aload 0) := ⟨rfl, rfl⟩
theorem fMoon_thistle_19 : w_fe am_c121 19 20 (.getfield 2) := ⟨rfl, rfl⟩
theorem fMoon_thistle_20 : w_fe am_c121 20 21 (.getfield 206) := ⟨rfl, rfl⟩
theorem fMoon_thistle_21 : w_fe am_c121 21 22 (.iload 1) := ⟨rfl, rfl⟩
theorem fMoon_thistle_22 : w_fe am_c121 22 23 (.iload 2) := ⟨rfl, rfl⟩
theorem fMoon_thistle_23 : w_fe am_c121 23 24 (.invokestatic 110) := ⟨rfl, rfl⟩
theorem fMoon_thistle_24 : w_fe am_c121 24 25 (.putfield 206) := ⟨rfl, rfl⟩
theorem fMoon_thistle_25 : w_fe am_c121 25 26 (.iload 3) := ⟨rfl, rfl⟩
theorem fMoon_thistle_26 : w_fe am_c121 26 27 (.ireturn) := ⟨rfl, rfl⟩
set_option maxRecDepth 20000 in
theorem bMoon_thistle_0 {xs : List Int} {d : Nat} {Q : Option w_V → w_M → Prop} {x1 : Int} {x2 : Int} {σ : w_M}
    (h : ((0 ≤ x1 ∧ x1 < σ 14 4) → ((¬ (¬ w_and (w_shr (σ 14 6) x1) 1 = 0) → ∀ (y1 : Int), y1 = v_Moon_withBit (σ 14 6) x1 x2 → ∀ (τ2 : w_M), τ2 = w_up σ 14 6 y1 → Q (some (.inl 0)) τ2) ∧ ((¬ w_and (w_shr (σ 14 6) x1) 1 = 0) → ∀ (y3 : Int), y3 = v_Moon_withBit (σ 14 6) x1 x2 → ∀ (τ4 : w_M), τ4 = w_up σ 14 6 y3 → Q (some (.inl 1)) τ4))) ∧ (¬ (0 ≤ x1 ∧ x1 < σ 14 4) → Q (some (.inl (-1))) σ)) : w_Call (xs, (d + 1)) 121 [.inr (.inr (0, 0)), .inl x1, .inl x2] σ Q :=
  (w_mk (mid := 121) (by decide) rfl rfl rfl rfl rfl (Nat.le_of_ble_eq_true rfl) ⟨rfl, Or.inl (by decide)⟩ (wi_aload0 fMoon_thistle_0 (wi_getf2 fMoon_thistle_1 (wi_iload1 fMoon_thistle_2 (wi_call2 fMoon_thistle_3 (Nat.le_of_ble_eq_true rfl) (k_Field_isStrip (wi_ifb_ne fMoon_thistle_4 (fun c6 => (wi_aload0 fMoon_thistle_7 (wi_getf2 fMoon_thistle_8 (wi_iload1 fMoon_thistle_9 (wi_call2 fMoon_thistle_10 (Nat.le_of_ble_eq_true rfl) (k_Field_isThistly (wi_ifb_eq fMoon_thistle_11 (fun c5 => (wi_bipush fMoon_thistle_14 (wi_istore3 fMoon_thistle_15 trivial (wi_aload0 fMoon_thistle_16 (wi_getf2 fMoon_thistle_17 (wi_aload0 fMoon_thistle_18 (wi_getf2 fMoon_thistle_19 (wi_getf206 fMoon_thistle_20 (wi_iload1 fMoon_thistle_21 (wi_iload2 fMoon_thistle_22 (wi_call3 fMoon_thistle_23 (Nat.le_of_ble_eq_true rfl) (k_Moon_withBit (wi_putf206 fMoon_thistle_24 (wi_iload3 fMoon_thistle_25 (wi_ret1 fMoon_thistle_26 ((((h.1 c6).1 c5) _ rfl) _ rfl)))))))))))))))) (fun c5 => (wi_bipush fMoon_thistle_12 (wi_goto fMoon_thistle_13 (wi_istore3 fMoon_thistle_15 trivial (wi_aload0 fMoon_thistle_16 (wi_getf2 fMoon_thistle_17 (wi_aload0 fMoon_thistle_18 (wi_getf2 fMoon_thistle_19 (wi_getf206 fMoon_thistle_20 (wi_iload1 fMoon_thistle_21 (wi_iload2 fMoon_thistle_22 (wi_call3 fMoon_thistle_23 (Nat.le_of_ble_eq_true rfl) (k_Moon_withBit (wi_putf206 fMoon_thistle_24 (wi_iload3 fMoon_thistle_25 (wi_ret1 fMoon_thistle_26 ((((h.1 c6).2 c5) _ rfl) _ rfl)))))))))))))))))))))))) (fun c6 => (wi_bipush fMoon_thistle_5 (wi_ret1 fMoon_thistle_6 (h.2 c6)))))))))))
theorem k_Moon_thistle {xs : List Int} {d : Nat} {Q : Option w_V → w_M → Prop} {x1 : Int} {x2 : Int} {σ : w_M} (hp : p_Moon_thistle x1 x2 σ) (hQ : ∀ (x : Int) (σ' : w_M), q_Moon_thistle x1 x2 σ x σ' → Q (some (.inl x)) σ') : w_Call (xs, d + 1) 121 [.inr (.inr (0, 0)), .inl x1, .inl x2] σ Q := by
  obtain ⟨hC, hb⟩ := hp
  have hok := hC.ok
  have hs := n_ok.s hok
  unfold q_Moon_thistle F_thistle G_thistle at hQ
  have h01 := w_and1 (w_shr (σ 14 6) x1)
  have main : 0 ≤ x1 ∧ x1 < σ 14 4 → ∀ (x : Int), x = w_and (w_shr (σ 14 6) x1) 1 → ∀ y : Int, y = v_Moon_withBit (σ 14 6) x1 x2 → ∀ τ : w_M, τ = w_up σ 14 6 y → Q (some (.inl x)) τ := by
    intro c x ex y ey τ t
    have hP : P_thistle (cS σ) x1 := c
    have hi : (x1.toNat : Int) = x1 := Int.toNat_of_nonneg c.1
    have hm := hC.2.1
    rw [F_set_t hP, G_set_t hP] at hQ
    obtain ⟨m, em⟩ := Int.eq_ofNat_of_zero_le hm.1
    have hr := w_th_rng m (by omega) x1.toNat (by omega)
    refine hQ _ _ (c_q0 hC (by rw [t]; exact w_fr.up0 (by omega) (by omega)) ?_ ?_ ?_ ?_ ?_ ?_ (ex.trans (c_rd9 c).symm))
    · rw [t, ey, ← hi]
      exact w_ab_up6 (by omega) (by omega) hm hb
    · refine n_WF_up hok ?_ ?_ ?_ ?_ ?_ ?_ ?_ ?_ <;> (intros; omega)
    · show w_up (w_ab σ 14) 9 _ _ 0 0 = σ 14 0; rw [w_up_ne (by decide)]; rfl
    · show w_up (w_ab σ 14) 9 _ _ 0 4 = σ 14 4; rw [w_up_ne (by decide)]; rfl
    · show w_up (w_ab σ 14) 9 _ _ 0 5 = σ 14 5; rw [w_up_ne (by decide)]; rfl
    · rw [t, w_up_at, ey, ← hi, em]
      rcases hb with rfl | rfl
      · exact hr.2
      · exact hr.1
  refine bMoon_thistle_0 ⟨fun c => ⟨fun z y ey τ t => ?_, fun z y ey τ t => ?_⟩, fun c => ?_⟩
  · exact main c 0 (Classical.not_not.mp z).symm y ey τ t
  · exact main c 1 (h01.resolve_left z).symm y ey τ t
  · exact hQ _ _ (c_no hC c)
theorem n_goes_hd {A : w_M} (h : n_WF A) (k : Nat) : (n_goes A k) 0 0 = A 0 0 ∧ (n_goes A k) 0 4 = A 0 4 ∧ (n_goes A k) 0 5 = A 0 5 := by
  have := (n_goes_all h k).2.1.1
  exact ⟨this 0 (by decide) (by decide), this 4 (by decide) (by decide), this 5 (by decide) (by decide)⟩
noncomputable def p_Moon_go (_x1 : Int) (σ : w_M) : Prop := CI σ
noncomputable def q_Moon_go (x1 : Int) (σ : w_M) (x : Int) (σ' : w_M) : Prop := c_q (F_go (cS σ) x1) (G_go (cS σ) x1) σ x σ'
noncomputable def p_Moon_ahead (_x1 : Int) (_x2 : Int) (_x3 : Int) (σ : w_M) : Prop := CI σ
noncomputable def q_Moon_ahead (x1 : Int) (x2 : Int) (x3 : Int) (σ : w_M) (x : Int) (σ' : w_M) : Prop := c_q (F_ahead (cS σ) x1 x2 x3) (cS σ) σ x σ'
noncomputable def p_Moon_stands (_x1 : Int) (_x2 : Int) (σ : w_M) : Prop := CI σ
noncomputable def q_Moon_stands (x1 : Int) (x2 : Int) (σ : w_M) (x : Int) (σ' : w_M) : Prop := c_q (F_stands (cS σ) x1 x2) (cS σ) σ x σ'
noncomputable def p_Moon_done (_x1 : Int) (σ : w_M) : Prop := CI σ
noncomputable def q_Moon_done (x1 : Int) (σ : w_M) (x : Int) (σ' : w_M) : Prop := c_q (F_done (cS σ) x1) (cS σ) σ x σ'
noncomputable def p_Moon_left  (σ : w_M) : Prop := CI σ
noncomputable def q_Moon_left  (σ : w_M) (x : Int) (σ' : w_M) : Prop := c_q (F_left (cS σ)) (cS σ) σ x σ'
theorem fMoon_go_0 : w_fe am_c124 0 1 (.iload 1) := ⟨rfl, rfl⟩
theorem fMoon_go_1 : w_fe am_c124 1 2 (.bipush 0) := ⟨rfl, rfl⟩
theorem fMoon_go_2 : w_fe am_c124 2 3 (.bipush 12) := ⟨rfl, rfl⟩
theorem fMoon_go_3 : w_fe am_c124 3 4 (.invokestatic 107) := ⟨rfl, rfl⟩
theorem fMoon_go_4 : w_if am_c124 4 5 .ne 7 := ⟨rfl, rfl⟩
theorem fMoon_go_5 : w_fe am_c124 5 6 (.bipush (-1)) := ⟨rfl, rfl⟩
theorem fMoon_go_6 : w_fe am_c124 6 7 (.ireturn) := ⟨rfl, rfl⟩
theorem fMoon_go_7 : w_fe am_c124 7 8 (.iload 1) := ⟨rfl, rfl⟩
theorem fMoon_go_8 : w_fe am_c124 8 9 (.aload 0) := ⟨rfl, rfl⟩
theorem fMoon_go_9 : w_fe am_c124 9 10 (.getfield 2) := ⟨rfl, rfl⟩
theorem fMoon_go_10 : w_fe am_c124 10 11 (.invokestatic 39) := ⟨rfl, rfl⟩
theorem fMoon_go_11 : w_ic am_c124 11 12 .le 14 := ⟨rfl, rfl⟩
theorem fMoon_go_12 : w_fe am_c124 12 13 (.bipush (-3)) := ⟨rfl, rfl⟩
theorem fMoon_go_13 : w_fe am_c124 13 14 (.ireturn) := ⟨rfl, rfl⟩
theorem fMoon_go_14 : w_fe am_c124 14 15 (.aload 0) := ⟨rfl, rfl⟩
theorem fMoon_go_15 : w_fe am_c124 15 16 (.getfield 2) := ⟨rfl, rfl⟩
theorem fMoon_go_16 : w_fe am_c124 16 17 (.iload 1) := ⟨rfl, rfl⟩
theorem fMoon_go_17 : w_fe am_c124 17 18 (.invokestatic 40) := ⟨rfl, rfl⟩
theorem fMoon_go_18 : w_fe am_c124 18 19 (.ireturn) := ⟨rfl, rfl⟩
set_option maxRecDepth 20000 in
theorem bMoon_go_0 {xs : List Int} {d : Nat} {Q : Option w_V → w_M → Prop} {x1 : Int} {σ : w_M}
    (h : ((0 ≤ x1 ∧ x1 ≤ 12) → (p_Field_hoursLeft 14 σ ∧ ((x1 ≤ (σ 14 0 - σ 14 1) → (p_Field_pass 14 x1 σ ∧ (∀ (y1 : Int) (τ2 : w_M), q_Field_pass 14 x1 σ y1 τ2 → Q (some (.inl y1)) τ2))) ∧ ((σ 14 0 - σ 14 1) < x1 → Q (some (.inl (-3))) σ)))) ∧ (¬ (0 ≤ x1 ∧ x1 ≤ 12) → Q (some (.inl (-1))) σ)) : w_Call (xs, (d + 5)) 124 [.inr (.inr (0, 0)), .inl x1] σ Q :=
  (w_mk (mid := 124) (by decide) rfl rfl rfl rfl rfl (Nat.le_of_ble_eq_true rfl) ⟨rfl, Or.inl (by decide)⟩ (wi_iload1 fMoon_go_0 (wi_bipush fMoon_go_1 (wi_bipush fMoon_go_2 (wi_call3 fMoon_go_3 (Nat.le_of_ble_eq_true rfl) (k_Moon_isWithin (wi_ifb_ne fMoon_go_4 (fun c4 => (wi_iload1 fMoon_go_7 (wi_aload0 fMoon_go_8 (wi_getf2 fMoon_go_9 (wi_call1 fMoon_go_10 (Nat.le_of_ble_eq_true rfl) (k_Field_hoursLeft (h.1 c4).1 (wi_ic_le fMoon_go_11 (fun c3 => (wi_aload0 fMoon_go_14 (wi_getf2 fMoon_go_15 (wi_iload1 fMoon_go_16 (wi_call2 fMoon_go_17 (Nat.le_of_ble_eq_true rfl) (k_Field_pass ((h.1 c4).2.1 c3).1 (fun y1 τ2 eτ2 => (wi_ret1 fMoon_go_18 (((h.1 c4).2.1 c3).2 y1 τ2 eτ2))))))))) (fun c3 => (wi_bipush fMoon_go_12 (wi_ret1 fMoon_go_13 ((h.1 c4).2.2 c3))))))))))) (fun c4 => (wi_bipush fMoon_go_5 (wi_ret1 fMoon_go_6 (h.2 c4)))))))))))
theorem fMoon_ahead_0 : w_fe am_c125 0 1 (.iload 2) := ⟨rfl, rfl⟩
theorem fMoon_ahead_1 : w_fe am_c125 1 2 (.bipush 0) := ⟨rfl, rfl⟩
theorem fMoon_ahead_2 : w_fe am_c125 2 3 (.bipush 12) := ⟨rfl, rfl⟩
theorem fMoon_ahead_3 : w_fe am_c125 3 4 (.invokestatic 107) := ⟨rfl, rfl⟩
theorem fMoon_ahead_4 : w_if am_c125 4 5 .ne 7 := ⟨rfl, rfl⟩
theorem fMoon_ahead_5 : w_fe am_c125 5 6 (.bipush (-1)) := ⟨rfl, rfl⟩
theorem fMoon_ahead_6 : w_fe am_c125 6 7 (.ireturn) := ⟨rfl, rfl⟩
theorem fMoon_ahead_7 : w_fe am_c125 7 8 (.aload 0) := ⟨rfl, rfl⟩
theorem fMoon_ahead_8 : w_fe am_c125 8 9 (.getfield 4) := ⟨rfl, rfl⟩
theorem fMoon_ahead_9 : w_fe am_c125 9 10 (.aload 0) := ⟨rfl, rfl⟩
theorem fMoon_ahead_10 : w_fe am_c125 10 11 (.getfield 2) := ⟨rfl, rfl⟩
theorem fMoon_ahead_11 : w_fe am_c125 11 12 (.iload 2) := ⟨rfl, rfl⟩
theorem fMoon_ahead_12 : w_fe am_c125 12 13 (.invokestatic 64) := ⟨rfl, rfl⟩
theorem fMoon_ahead_13 : w_fe am_c125 13 14 (.iload 1) := ⟨rfl, rfl⟩
theorem fMoon_ahead_14 : w_fe am_c125 14 15 (.iload 3) := ⟨rfl, rfl⟩
theorem fMoon_ahead_15 : w_fe am_c125 15 16 (.invokestatic 37) := ⟨rfl, rfl⟩
theorem fMoon_ahead_16 : w_fe am_c125 16 17 (.ireturn) := ⟨rfl, rfl⟩
set_option maxRecDepth 20000 in
theorem bMoon_ahead_0 {xs : List Int} {d : Nat} {Q : Option w_V → w_M → Prop} {x1 : Int} {x2 : Int} {x3 : Int} {σ : w_M}
    (h : ((0 ≤ x2 ∧ x2 ≤ 12) → (p_Plan_after 14 x2 σ ∧ (∀ (τ1 : w_M), q_Plan_after 14 x2 σ τ1 → (p_Field_tellOf 32 x1 x3 τ1 ∧ (∀ (y2 : Int), y2 = v_Field_tellOf 32 x1 x3 τ1 → Q (some (.inl y2)) τ1))))) ∧ (¬ (0 ≤ x2 ∧ x2 ≤ 12) → Q (some (.inl (-1))) σ)) : w_Call (xs, (d + 6)) 125 [.inr (.inr (0, 0)), .inl x1, .inl x2, .inl x3] σ Q :=
  (w_mk (mid := 125) (by decide) rfl rfl rfl rfl rfl (Nat.le_of_ble_eq_true rfl) ⟨rfl, Or.inl (by decide)⟩ (wi_iload2 fMoon_ahead_0 (wi_bipush fMoon_ahead_1 (wi_bipush fMoon_ahead_2 (wi_call3 fMoon_ahead_3 (Nat.le_of_ble_eq_true rfl) (k_Moon_isWithin (wi_ifb_ne fMoon_ahead_4 (fun c3 => (wi_aload0 fMoon_ahead_7 (wi_getf4 fMoon_ahead_8 (wi_aload0 fMoon_ahead_9 (wi_getf2 fMoon_ahead_10 (wi_iload2 fMoon_ahead_11 (wi_call3 fMoon_ahead_12 (Nat.le_of_ble_eq_true rfl) (k_Plan_after (h.1 c3).1 (fun τ1 eτ1 => (wi_iload1 fMoon_ahead_13 (wi_iload3 fMoon_ahead_14 (wi_call3 fMoon_ahead_15 (Nat.le_of_ble_eq_true rfl) (k_Field_tellOf ((h.1 c3).2 τ1 eτ1).1 (wi_ret1 fMoon_ahead_16 (((h.1 c3).2 τ1 eτ1).2 _ rfl))))))))))))))) (fun c3 => (wi_bipush fMoon_ahead_5 (wi_ret1 fMoon_ahead_6 (h.2 c3)))))))))))
theorem fMoon_stands_0 : w_fe am_c126 0 1 (.aload 0) := ⟨rfl, rfl⟩
theorem fMoon_stands_1 : w_fe am_c126 1 2 (.getfield 2) := ⟨rfl, rfl⟩
theorem fMoon_stands_2 : w_fe am_c126 2 3 (.iload 1) := ⟨rfl, rfl⟩
theorem fMoon_stands_3 : w_fe am_c126 3 4 (.invokestatic 33) := ⟨rfl, rfl⟩
theorem fMoon_stands_4 : w_if am_c126 4 5 .eq 10 := ⟨rfl, rfl⟩
theorem fMoon_stands_5 : w_fe am_c126 5 6 (.iload 2) := ⟨rfl, rfl⟩
theorem fMoon_stands_6 : w_fe am_c126 6 7 (.bipush 0) := ⟨rfl, rfl⟩
theorem fMoon_stands_7 : w_fe am_c126 7 8 (.bipush 12) := ⟨rfl, rfl⟩
theorem fMoon_stands_8 : w_fe am_c126 8 9 (.invokestatic 107) := ⟨rfl, rfl⟩
theorem fMoon_stands_9 : w_if am_c126 9 10 .ne 12 := ⟨rfl, rfl⟩
theorem fMoon_stands_10 : w_fe am_c126 10 11 (.bipush (-1)) := ⟨rfl, rfl⟩
theorem fMoon_stands_11 : w_fe am_c126 11 12 (.ireturn) := ⟨rfl, rfl⟩
theorem fMoon_stands_12 : w_fe am_c126 12 13 (.aload 0) := ⟨rfl, rfl⟩
theorem fMoon_stands_13 : w_fe am_c126 13 14 (.getfield 4) := ⟨rfl, rfl⟩
theorem fMoon_stands_14 : w_fe am_c126 14 15 (.aload 0) := ⟨rfl, rfl⟩
theorem fMoon_stands_15 : w_fe am_c126 15 16 (.getfield 2) := ⟨rfl, rfl⟩
theorem fMoon_stands_16 : w_fe am_c126 16 17 (.iload 2) := ⟨rfl, rfl⟩
theorem fMoon_stands_17 : w_fe am_c126 17 18 (.invokestatic 64) := ⟨rfl, rfl⟩
theorem fMoon_stands_18 : w_fe am_c126 18 19 (.getfield 207) := ⟨rfl, rfl⟩
theorem fMoon_stands_19 : w_fe am_c126 19 20 (.iload 1) := ⟨rfl, rfl⟩
theorem fMoon_stands_20 : w_fe am_c126 20 21 (.iaload) := ⟨rfl, rfl⟩
theorem fMoon_stands_21 : w_fe am_c126 21 22 (.ireturn) := ⟨rfl, rfl⟩
set_option maxRecDepth 20000 in
theorem bMoon_stands_0 {xs : List Int} {d : Nat} {Q : Option w_V → w_M → Prop} {x1 : Int} {x2 : Int} {σ : w_M}
    (h : (¬ (0 ≤ x1 ∧ x1 < σ 14 4) → Q (some (.inl (-1))) σ) ∧ ((0 ≤ x1 ∧ x1 < σ 14 4) → (((0 ≤ x2 ∧ x2 ≤ 12) → (p_Plan_after 14 x2 σ ∧ (∀ (τ1 : w_M), q_Plan_after 14 x2 σ τ1 → (0 ≤ x1 ∧ x1 < 7 ∧ Q (some (.inl (τ1 33 x1.toNat))) τ1)))) ∧ (¬ (0 ≤ x2 ∧ x2 ≤ 12) → Q (some (.inl (-1))) σ)))) : w_Call (xs, (d + 6)) 126 [.inr (.inr (0, 0)), .inl x1, .inl x2] σ Q :=
  (w_mk (mid := 126) (by decide) rfl rfl rfl rfl rfl (Nat.le_of_ble_eq_true rfl) ⟨rfl, Or.inl (by decide)⟩ (wi_aload0 fMoon_stands_0 (wi_getf2 fMoon_stands_1 (wi_iload1 fMoon_stands_2 (wi_call2 fMoon_stands_3 (Nat.le_of_ble_eq_true rfl) (k_Field_isStrip (wi_ifb_eq fMoon_stands_4 (fun c3 => (wi_bipush fMoon_stands_10 (wi_ret1 fMoon_stands_11 (h.1 c3)))) (fun c3 => (wi_iload2 fMoon_stands_5 (wi_bipush fMoon_stands_6 (wi_bipush fMoon_stands_7 (wi_call3 fMoon_stands_8 (Nat.le_of_ble_eq_true rfl) (k_Moon_isWithin (wi_ifb_ne fMoon_stands_9 (fun c2 => (wi_aload0 fMoon_stands_12 (wi_getf4 fMoon_stands_13 (wi_aload0 fMoon_stands_14 (wi_getf2 fMoon_stands_15 (wi_iload2 fMoon_stands_16 (wi_call3 fMoon_stands_17 (Nat.le_of_ble_eq_true rfl) (k_Plan_after ((h.2 c3).1 c2).1 (fun τ1 eτ1 => (wi_getf207 fMoon_stands_18 (wi_iload1 fMoon_stands_19 (wi_iald1007 fMoon_stands_20 (((h.2 c3).1 c2).2 τ1 eτ1).1 (((h.2 c3).1 c2).2 τ1 eτ1).2.1 (wi_ret1 fMoon_stands_21 (((h.2 c3).1 c2).2 τ1 eτ1).2.2))))))))))))) (fun c2 => (wi_bipush fMoon_stands_10 (wi_ret1 fMoon_stands_11 ((h.2 c3).2 c2))))))))))))))))))
theorem fMoon_done_0 : w_fe am_c127 0 1 (.iload 1) := ⟨rfl, rfl⟩
theorem fMoon_done_1 {E : w_C} {rt : Nat} {Q : Option w_V → w_M → Prop} {ls : w_L} {st : List w_V} {σ : w_M} {x : Int} (h0 : x = 0 → w_Ex E rt am_c127 Q 2 ls st σ) (h1 : x = 1 → w_Ex E rt am_c127 Q 8 ls st σ) (hd : ¬ x = 0 → ¬ x = 1 → w_Ex E rt am_c127 Q 16 ls st σ) : w_Ex E rt am_c127 Q 1 ls (.inl x :: st) σ :=
  w_Ex_in (op := .lookupswitch 16 #[(0, 2), (1, 8)]) rfl (And.intro h0 (fun c0 => And.intro h1 (fun c1 =>  hd c0 c1)))
theorem fMoon_done_2 : w_fe am_c127 2 3 (.aload 0) := ⟨rfl, rfl⟩
theorem fMoon_done_3 : w_fe am_c127 3 4 (.getfield 4) := ⟨rfl, rfl⟩
theorem fMoon_done_4 : w_fe am_c127 4 5 (.aload 0) := ⟨rfl, rfl⟩
theorem fMoon_done_5 : w_fe am_c127 5 6 (.getfield 2) := ⟨rfl, rfl⟩
theorem fMoon_done_6 : w_fe am_c127 6 7 (.invokestatic 65) := ⟨rfl, rfl⟩
theorem fMoon_done_7 : w_fe am_c127 7 8 (.ireturn) := ⟨rfl, rfl⟩
theorem fMoon_done_8 : w_fe am_c127 8 9 (.aload 0) := ⟨rfl, rfl⟩
theorem fMoon_done_9 : w_fe am_c127 9 10 (.getfield 4) := ⟨rfl, rfl⟩
theorem fMoon_done_10 : w_fe am_c127 10 11 (.aload 0) := ⟨rfl, rfl⟩
theorem fMoon_done_11 : w_fe am_c127 11 12 (.getfield 2) := ⟨rfl, rfl⟩
theorem fMoon_done_12 : w_fe am_c127 12 13 (.bipush 12) := ⟨rfl, rfl⟩
theorem fMoon_done_13 : w_fe am_c127 13 14 (.invokestatic 64) := ⟨rfl, rfl⟩
theorem fMoon_done_14 : w_fe am_c127 14 15 (.getfield 203) := ⟨rfl, rfl⟩
theorem fMoon_done_15 : w_fe am_c127 15 16 (.ireturn) := ⟨rfl, rfl⟩
theorem fMoon_done_16 : w_fe am_c127 16 17 (.bipush (-1)) := ⟨rfl, rfl⟩
theorem fMoon_done_17 : w_fe am_c127 17 18 (.ireturn) := ⟨rfl, rfl⟩
set_option maxRecDepth 20000 in
theorem bMoon_done_0 {xs : List Int} {d : Nat} {Q : Option w_V → w_M → Prop} {x1 : Int} {σ : w_M}
    (h : (x1 = 0 → (p_Plan_doneAfter 14 σ ∧ (∀ (y1 : Int) (τ2 : w_M), q_Plan_doneAfter 14 σ y1 τ2 → Q (some (.inl y1)) τ2))) ∧ (x1 = 1 → (p_Plan_after 14 12 σ ∧ (∀ (τ3 : w_M), q_Plan_after 14 12 σ τ3 → Q (some (.inl (τ3 32 3))) τ3))) ∧ (¬ x1 = 0 → ¬ x1 = 1 → Q (some (.inl (-1))) σ)) : w_Call (xs, (d + 6)) 127 [.inr (.inr (0, 0)), .inl x1] σ Q :=
  (w_mk (mid := 127) (by decide) rfl rfl rfl rfl rfl (Nat.le_of_ble_eq_true rfl) ⟨rfl, Or.inl (by decide)⟩ (wi_iload1 fMoon_done_0 (fMoon_done_1 (fun c => (wi_aload0 fMoon_done_2 (wi_getf4 fMoon_done_3 (wi_aload0 fMoon_done_4 (wi_getf2 fMoon_done_5 (wi_call2 fMoon_done_6 (Nat.le_of_ble_eq_true rfl) (k_Plan_doneAfter (h.1 c).1 (fun y1 τ2 eτ2 => (wi_ret1 fMoon_done_7 ((h.1 c).2 y1 τ2 eτ2)))))))))) (fun c => (wi_aload0 fMoon_done_8 (wi_getf4 fMoon_done_9 (wi_aload0 fMoon_done_10 (wi_getf2 fMoon_done_11 (wi_bipush fMoon_done_12 (wi_call3 fMoon_done_13 (Nat.le_of_ble_eq_true rfl) (k_Plan_after (h.2.1 c).1 (fun τ3 eτ3 => (wi_getf203 fMoon_done_14 (wi_ret1 fMoon_done_15 ((h.2.1 c).2 τ3 eτ3)))))))))))) (fun c0 c1 => (wi_bipush fMoon_done_16 (wi_ret1 fMoon_done_17 (h.2.2 c0 c1)))))))
theorem fMoon_left_0 : w_fe am_c128 0 1 (.aload 0) := ⟨rfl, rfl⟩
theorem fMoon_left_1 : w_fe am_c128 1 2 (.getfield 4) := ⟨rfl, rfl⟩
theorem fMoon_left_2 : w_fe am_c128 2 3 (.aload 0) := ⟨rfl, rfl⟩
theorem fMoon_left_3 : w_fe am_c128 3 4 (.getfield 2) := ⟨rfl, rfl⟩
theorem fMoon_left_4 : w_fe am_c128 4 5 (.bipush 12) := ⟨rfl, rfl⟩
theorem fMoon_left_5 : w_fe am_c128 5 6 (.invokestatic 64) := ⟨rfl, rfl⟩
theorem fMoon_left_6 : w_fe am_c128 6 7 (.invokestatic 35) := ⟨rfl, rfl⟩
theorem fMoon_left_7 : w_fe am_c128 7 8 (.ireturn) := ⟨rfl, rfl⟩
set_option maxRecDepth 20000 in
theorem bMoon_left_0 {xs : List Int} {d : Nat} {Q : Option w_V → w_M → Prop}  {σ : w_M}
    (h : p_Plan_after 14 12 σ ∧ (∀ (τ1 : w_M), q_Plan_after 14 12 σ τ1 → (p_Field_standing 32 τ1 ∧ (∀ (y2 : Int), y2 = v_Field_standing 32 τ1 → Q (some (.inl y2)) τ1)))) : w_Call (xs, (d + 6)) 128 [.inr (.inr (0, 0))] σ Q :=
  (w_mk (mid := 128) (by decide) rfl rfl rfl rfl rfl (Nat.le_of_ble_eq_true rfl) ⟨rfl, Or.inl (by decide)⟩ (wi_aload0 fMoon_left_0 (wi_getf4 fMoon_left_1 (wi_aload0 fMoon_left_2 (wi_getf2 fMoon_left_3 (wi_bipush fMoon_left_4 (wi_call3 fMoon_left_5 (Nat.le_of_ble_eq_true rfl) (k_Plan_after h.1 (fun τ1 eτ1 => (wi_call1 fMoon_left_6 (Nat.le_of_ble_eq_true rfl) (k_Field_standing (h.2 τ1 eτ1).1 (wi_ret1 fMoon_left_7 ((h.2 τ1 eτ1).2 _ rfl)))))))))))))
theorem k_Moon_go {xs : List Int} {d : Nat} {Q : Option w_V → w_M → Prop} {x1 : Int} {σ : w_M} (hp : p_Moon_go x1 σ) (hQ : ∀ (x : Int) (σ' : w_M), q_Moon_go x1 σ x σ' → Q (some (.inl x)) σ') : w_Call (xs, d + 5) 124 [.inr (.inr (0, 0)), .inl x1] σ Q := by
  have hC : CI σ := hp
  have hok := hC.ok
  have hrs := n_ok.hrs hok
  have hr := n_ok.hr hok
  unfold q_Moon_go F_go G_go at hQ
  have e0 : cS σ 0 0 0 = σ 14 0 := rfl
  have e1 : cS σ 0 0 1 = σ 14 1 := rfl
  have eA : cS σ 0 = w_ab σ 14 := rfl
  rw [e0, e1, eA] at hQ
  refine bMoon_go_0 ⟨fun c => ⟨⟨by omega, by omega⟩, fun c2 => ⟨⟨hok, c⟩, fun y τ hq => ?_⟩, fun c2 => ?_⟩, fun c => ?_⟩
  · rw [if_pos c, if_pos c2, if_pos ⟨c, c2⟩] at hQ
    obtain ⟨q1, q2, q3, q4⟩ := hq
    obtain ⟨g0, g4, g5⟩ := n_goes_hd hok x1.toNat
    refine hQ _ _ (c_q0 hC q3 q1 (n_goes_all hok _).1 g0 g4 g5 ?_ q2)
    rw [q4]; exact hC.2.1
  · rw [if_pos c, if_neg (by omega), if_neg (by omega)] at hQ
    exact hQ _ _ (c_qr hC rfl)
  · rw [if_neg c, if_neg (fun q => c q.1)] at hQ
    exact hQ _ _ (c_qr hC rfl)
theorem k_Moon_ahead {xs : List Int} {d : Nat} {Q : Option w_V → w_M → Prop} {x1 : Int} {x2 : Int} {x3 : Int} {σ : w_M} (hp : p_Moon_ahead x1 x2 x3 σ) (hQ : ∀ (x : Int) (σ' : w_M), q_Moon_ahead x1 x2 x3 σ x σ' → Q (some (.inl x)) σ') : w_Call (xs, d + 6) 125 [.inr (.inr (0, 0)), .inl x1, .inl x2, .inl x3] σ Q := by
  have hC : CI σ := hp
  have hok := hC.ok
  unfold q_Moon_ahead F_ahead at hQ
  refine bMoon_ahead_0 ⟨fun c => ⟨⟨⟨hok, by decide⟩, c⟩, fun τ hq => ⟨n_ok.of hq.1 (n_goes_all hok _).1, fun y ey => ?_⟩⟩, fun c => ?_⟩
  · rw [if_pos c] at hQ
    refine hQ _ _ (c_qs hC (hq.2.wide (by decide) (by decide)) ?_)
    rw [ey]
    unfold v_Field_tellOf
    rw [hq.1]
    rfl
  · rw [if_neg c] at hQ
    exact hQ _ _ (c_qr hC rfl)
theorem k_Moon_stands {xs : List Int} {d : Nat} {Q : Option w_V → w_M → Prop} {x1 : Int} {x2 : Int} {σ : w_M} (hp : p_Moon_stands x1 x2 σ) (hQ : ∀ (x : Int) (σ' : w_M), q_Moon_stands x1 x2 σ x σ' → Q (some (.inl x)) σ') : w_Call (xs, d + 6) 126 [.inr (.inr (0, 0)), .inl x1, .inl x2] σ Q := by
  have hC : CI σ := hp
  have hok := hC.ok
  have hs := n_ok.s hok
  unfold q_Moon_stands F_stands at hQ
  have e4 : cS σ 0 0 4 = σ 14 4 := rfl
  rw [e4] at hQ
  refine bMoon_stands_0 ⟨fun c => ?_, fun c => ⟨fun c2 => ⟨⟨⟨hok, by decide⟩, c2⟩, fun τ hq => ⟨c.1, by omega, ?_⟩⟩, fun c2 => ?_⟩⟩
  · rw [if_neg (fun q => c q.1)] at hQ
    exact hQ _ _ (c_qr hC rfl)
  · rw [if_pos ⟨c, c2⟩] at hQ
    refine hQ _ _ (c_qs hC (hq.2.wide (by decide) (by decide)) ?_)
    have g4 : τ 32 4 = σ 14 4 := by
      have : w_ab τ 32 0 4 = w_ab σ 14 0 4 := by rw [hq.1]; exact (n_goes_hd hok x2.toNat).2.1
      exact this
    have := c_rd (σ := τ) (a := 32) (d := 1) (i := x1) (n_ok.of hq.1 (n_goes_all hok _).1) (by decide) (by decide) (by rw [g4]; exact c)
    rw [hq.1] at this
    exact this
  · rw [if_neg (fun q => c2 q.2)] at hQ
    exact hQ _ _ (c_qr hC rfl)
theorem k_Moon_done {xs : List Int} {d : Nat} {Q : Option w_V → w_M → Prop} {x1 : Int} {σ : w_M} (hp : p_Moon_done x1 σ) (hQ : ∀ (x : Int) (σ' : w_M), q_Moon_done x1 σ x σ' → Q (some (.inl x)) σ') : w_Call (xs, d + 6) 127 [.inr (.inr (0, 0)), .inl x1] σ Q := by
  have hC : CI σ := hp
  have hok := hC.ok
  unfold q_Moon_done F_done at hQ
  refine bMoon_done_0 ⟨fun c => ⟨⟨hok, by decide⟩, fun y τ hq => ?_⟩, fun c => ⟨⟨⟨hok, by decide⟩, by decide, by decide⟩, fun τ hq => ?_⟩, fun c0 c1 => ?_⟩
  · rw [if_pos c] at hQ
    exact hQ _ _ (c_qs hC (hq.2.wide (by decide) (by decide)) hq.1)
  · rw [if_neg (by omega), if_pos c] at hQ
    refine hQ _ _ (c_qs hC (hq.2.wide (by decide) (by decide)) ?_)
    show w_ab τ 32 0 3 = _
    rw [hq.1]
    rfl
  · rw [if_neg c0, if_neg c1] at hQ
    exact hQ _ _ (c_qr hC rfl)
theorem k_Moon_left {xs : List Int} {d : Nat} {Q : Option w_V → w_M → Prop}  {σ : w_M} (hp : p_Moon_left σ) (hQ : ∀ (x : Int) (σ' : w_M), q_Moon_left σ x σ' → Q (some (.inl x)) σ') : w_Call (xs, d + 6) 128 [.inr (.inr (0, 0))] σ Q := by
  have hC : CI σ := hp
  have hok := hC.ok
  unfold q_Moon_left F_left at hQ
  refine bMoon_left_0 ⟨⟨⟨hok, by decide⟩, by decide, by decide⟩, fun τ hq => ⟨n_ok.of hq.1 (n_goes_all hok _).1, fun y ey => hQ _ _ (c_qs hC (hq.2.wide (by decide) (by decide)) ?_)⟩⟩
  rw [ey]
  unfold v_Field_standing
  rw [hq.1]
  rfl
end
section
/-! The reference's calls: the text, what is told, what is changed, hours -/
theorem MI.ta {σ : w_M} (h : MI σ) : 0 ≤ σ 122 15 ∧ σ 122 15 ≤ 160 := h.2.2.2.1.1
theorem m_q3 {σ σ' : w_M} {T : w_M} {F x : Int} (hM : MI σ) (h122 : ∀ j, j = 3 ∨ j = 4 ∨ j = 5 → σ' 122 j = σ 122 j) (h : ∀ b, b = 123 ∨ b = 125 ∨ b = 130 ∨ b = 131 ∨ b = 132 → σ' b = σ b) (hl : ∀ b, b < 122 → σ' b = σ b) (h27 : σ' 122 27 = σ 122 27) (hT : t_am σ' = T) (hW : taWF T) (hx : x = F) : m_q F (w_sp (mS σ) 3 T) σ x σ' := by
  have e : mS σ' = w_sp (mS σ) 3 T := by rw [mS_part3 hM h122 h, hT]
  exact ⟨hx, by unfold MI; rw [e]; exact sWF_3 hM hW, e, hl, h27⟩
noncomputable def p_Model_feed (_x1 : Int) (σ : w_M) : Prop := MI σ
noncomputable def q_Model_feed (x1 : Int) (σ : w_M) (x : Int) (σ' : w_M) : Prop := m_q (F_feed (mS σ) x1) (G_feed (mS σ) x1) σ x σ'
theorem fModel_feed_0 : w_fe am_c156 0 1 (.iload 1) := ⟨rfl, rfl⟩
theorem fModel_feed_1 : w_fe am_c156 1 2 (.i2l) := ⟨rfl, rfl⟩
theorem fModel_feed_2 : w_fe am_c156 2 3 (.sipush 0) := ⟨rfl, rfl⟩
theorem fModel_feed_3 : w_fe am_c156 3 4 (.sipush 127) := ⟨rfl, rfl⟩
theorem fModel_feed_4 : w_fe am_c156 4 5 (.invokestatic 157) := ⟨rfl, rfl⟩
theorem fModel_feed_5 : w_if am_c156 5 6 .ne 8 := ⟨rfl, rfl⟩
theorem fModel_feed_6 : w_fe am_c156 6 7 (.bipush (-1)) := ⟨rfl, rfl⟩
theorem fModel_feed_7 : w_fe am_c156 7 8 (.ireturn) := ⟨rfl, rfl⟩
theorem fModel_feed_8 : w_fe am_c156 8 9 (.aload 0) := ⟨rfl, rfl⟩
theorem fModel_feed_9 : w_fe am_c156 9 10 (.getfield 915) := ⟨rfl, rfl⟩
theorem fModel_feed_10 : w_fe am_c156 10 11 (.bipush 160) := ⟨rfl, rfl⟩
theorem fModel_feed_11 : w_ic am_c156 11 12 .ne 14 := ⟨rfl, rfl⟩
theorem fModel_feed_12 : w_fe am_c156 12 13 (.bipush (-3)) := ⟨rfl, rfl⟩
theorem fModel_feed_13 : w_fe am_c156 13 14 (.ireturn) := ⟨rfl, rfl⟩
theorem fModel_feed_14 : w_fe am_c156 14 15 (.aload 0) := ⟨rfl, rfl⟩
theorem fModel_feed_15 : w_fe am_c156 15 16 (.getfield 914) := ⟨rfl, rfl⟩
theorem fModel_feed_16 : w_fe am_c156 16 17 (.aload 0) := ⟨rfl, rfl⟩
theorem fModel_feed_17 : w_fe am_c156 17 18 (.getfield 915) := ⟨rfl, rfl⟩
theorem fModel_feed_18 : w_fe am_c156 18 19 (.iload 1) := ⟨rfl, rfl⟩
theorem fModel_feed_19 : w_fe am_c156 19 20 (.iastore) := ⟨rfl, rfl⟩
theorem fModel_feed_20 : w_fe am_c156 20 21 (.aload 0) := ⟨rfl, rfl⟩
theorem fModel_feed_21 : w_fe am_c156 21 22 (.dup) := ⟨rfl, rfl⟩
theorem fModel_feed_22 : w_fe am_c156 22 23 (.getfield 915) := ⟨rfl, rfl⟩
theorem fModel_feed_23 : w_fe am_c156 23 24 (.bipush 1) := ⟨rfl, rfl⟩
theorem fModel_feed_24 : w_fe am_c156 24 25 (.iadd) := ⟨rfl, rfl⟩
theorem fModel_feed_25 : w_fe am_c156 25 26 (.putfield 915) := ⟨rfl, rfl⟩
theorem fModel_feed_26 : w_fe am_c156 26 27 (.aload 0) := ⟨rfl, rfl⟩
theorem fModel_feed_27 : w_fe am_c156 27 28 (.getfield 915) := ⟨rfl, rfl⟩
theorem fModel_feed_28 : w_fe am_c156 28 29 (.ireturn) := ⟨rfl, rfl⟩
set_option maxRecDepth 20000 in
theorem bModel_feed_0 {xs : List Int} {d : Nat} {Q : Option w_V → w_M → Prop} {x1 : Int} {σ : w_M}
    (h : ((0 ≤ x1 ∧ x1 ≤ 127) → ((¬ (σ 122 15) = 160 → (0 ≤ (σ 122 15) ∧ (σ 122 15) < 160 ∧ (∀ (τ1 : w_M), τ1 = w_up σ 127 (σ 122 15).toNat x1 → (w_in ((τ1 122 15) + 1) ∧ (∀ (τ2 : w_M), τ2 = w_up τ1 122 15 ((τ1 122 15) + 1) → Q (some (.inl (τ2 122 15))) τ2))))) ∧ ((σ 122 15) = 160 → Q (some (.inl (-3))) σ))) ∧ (¬ (0 ≤ x1 ∧ x1 ≤ 127) → Q (some (.inl (-1))) σ)) : w_Call (xs, (d + 1)) 156 [.inr (.inr (9, 122)), .inl x1] σ Q :=
  (w_mk (mid := 156) (by decide) rfl rfl rfl rfl rfl (Nat.le_of_ble_eq_true rfl) ⟨rfl, Or.inl (by decide)⟩ (wi_iload1 fModel_feed_0 (wi_i2l fModel_feed_1 (wi_sipush fModel_feed_2 (wi_sipush fModel_feed_3 (wi_call3 fModel_feed_4 (Nat.le_of_ble_eq_true rfl) (k_Model_in (wi_ifb_ne fModel_feed_5 (fun c4 => (wi_aload0 fModel_feed_8 (wi_getf915 fModel_feed_9 (wi_bipush fModel_feed_10 (wi_ic_ne fModel_feed_11 (fun c3 => (wi_aload0 fModel_feed_14 (wi_getf914 fModel_feed_15 (wi_aload0 fModel_feed_16 (wi_getf915 fModel_feed_17 (wi_iload1 fModel_feed_18 (wi_iast1160 fModel_feed_19 ((h.1 c4).1 c3).1 ((h.1 c4).1 c3).2.1 (wi_aload0 fModel_feed_20 (wi_dup_a fModel_feed_21 (wi_getf915 fModel_feed_22 (wi_bipush fModel_feed_23 (wi_iadd fModel_feed_24 (((h.1 c4).1 c3).2.2 _ rfl).1 (wi_putf915 fModel_feed_25 (wi_aload0 fModel_feed_26 (wi_getf915 fModel_feed_27 (wi_ret1 fModel_feed_28 ((((h.1 c4).1 c3).2.2 _ rfl).2 _ rfl))))))))))))))))) (fun c3 => (wi_bipush fModel_feed_12 (wi_ret1 fModel_feed_13 ((h.1 c4).2 c3))))))))) (fun c4 => (wi_bipush fModel_feed_6 (wi_ret1 fModel_feed_7 (h.2 c4))))))))))))
theorem k_Model_feed {xs : List Int} {d : Nat} {Q : Option w_V → w_M → Prop} {x1 : Int} {σ : w_M} (hp : p_Model_feed x1 σ) (hQ : ∀ (x : Int) (σ' : w_M), q_Model_feed x1 σ x σ' → Q (some (.inl x)) σ') : w_Call (xs, d + 1) 156 [.inr (.inr (9, 122)), .inl x1] σ Q := by
  have hM : MI σ := hp
  have hl := hM.ta
  unfold q_Model_feed F_feed G_feed at hQ
  have el : mS σ 3 0 0 = σ 122 15 := rfl
  rw [el] at hQ
  refine bModel_feed_0 ⟨fun c => ⟨fun c2 => ⟨by omega, by omega, fun τ1 t1 => ?_⟩, fun c2 => ?_⟩, fun c => ?_⟩
  · have z1 : τ1 122 = σ 122 := by rw [t1]; exact w_up_ne (by decide)
    rw [z1]
    refine ⟨⟨by omega, by omega⟩, fun τ t => ?_⟩
    have c3 : σ 122 15 < 160 := by omega
    rw [if_pos c, if_pos c3, if_pos ⟨c, c3⟩] at hQ
    refine hQ _ _ (m_q3 hM (fun j hj => ?_) (fun b hb => ?_) (fun b hb => ?_) (by rw [t, w_up_j (by decide), z1]) ?_ (ta_up hM.2.2.2.1 c c3) ?_)
    · rw [t, w_up_j (by omega), z1]
    · rw [t, w_up_ne (by omega), t1, w_up_ne (by omega)]
    · rw [t, w_up_ne (by omega), t1, w_up_ne (by omega)]
    · have e1 : τ 122 15 = σ 122 15 + 1 := by rw [t]; exact w_up_at
      have e20 : τ 122 20 = σ 122 20 := by rw [t, w_up_j (by decide), z1]
      have e2 : τ 127 = w_up σ 127 (σ 122 15).toNat x1 127 := by rw [t, w_up_ne (by decide), t1]
      funext d i
      by_cases hd0 : d = 0
      · subst hd0
        by_cases hi : i = 0
        · subst hi
          show τ 122 15 = _
          rw [e1]
          exact w_up_at.symm
        · show (if i = 0 then τ 122 15 else if i = 1 then τ 122 20 else 0) = w_up _ 0 0 _ 0 i
          rw [if_neg hi, e20, w_up_j hi, w_up_ne (by decide)]
          show _ = (if i = 0 then σ 122 15 else if i = 1 then σ 122 20 else 0)
          rw [if_neg hi]
      · rw [w_up_ne (show d ≠ 0 from hd0)]
        by_cases hd1 : d = 1
        · subst hd1
          show (if i < (τ 122 15).toNat then τ 127 i else 0) = _
          rw [e1, e2, w_up_eq, w_up_eq]
          show _ = if 1 = 1 ∧ i = (σ 122 15).toNat then x1 else if i < (σ 122 15).toNat then σ 127 i else 0
          by_cases hi : i = (σ 122 15).toNat
          · rw [if_pos (by omega), if_pos ⟨rfl, hi⟩, if_pos ⟨rfl, hi⟩]
          · rw [if_neg (show ¬ (127 = 127 ∧ i = (σ 122 15).toNat) from fun e => hi e.2), if_neg (show ¬ (1 = 1 ∧ i = (σ 122 15).toNat) from fun e => hi e.2)]
            by_cases hlt : i < (σ 122 15).toNat
            · rw [if_pos (by omega), if_pos hlt]
            · rw [if_neg (by omega), if_neg hlt]
        · rw [w_up_ne (show d ≠ 1 from hd1)]
          show (if d = 0 then _ else if d = 1 then _ else 0) = (if d = 0 then _ else if d = 1 then _ else 0)
          rw [if_neg hd0, if_neg hd1, if_neg hd0, if_neg hd1]
    · rw [t]; exact w_up_at
  · rw [if_pos c, if_neg (by omega), if_neg (by omega)] at hQ
    exact hQ _ _ (m_qr hM rfl)
  · rw [if_neg c, if_neg (fun q => c q.1)] at hQ
    exact hQ _ _ (m_qr hM rfl)
noncomputable def p_Model_end (_x1 : Int) (σ : w_M) : Prop := MI σ
noncomputable def q_Model_end (x1 : Int) (σ : w_M) (x : Int) (σ' : w_M) : Prop := m_q (F_end (mS σ) x1) (G_end (mS σ) x1) σ x σ'
theorem fModel_end_0 : w_fe am_c158 0 1 (.iload 1) := ⟨rfl, rfl⟩
theorem fModel_end_1 : w_fe am_c158 1 2 (.i2l) := ⟨rfl, rfl⟩
theorem fModel_end_2 : w_fe am_c158 2 3 (.sipush 0) := ⟨rfl, rfl⟩
theorem fModel_end_3 : w_fe am_c158 3 4 (.aload 0) := ⟨rfl, rfl⟩
theorem fModel_end_4 : w_fe am_c158 4 5 (.getfield 915) := ⟨rfl, rfl⟩
theorem fModel_end_5 : w_fe am_c158 5 6 (.i2l) := ⟨rfl, rfl⟩
theorem fModel_end_6 : w_fe am_c158 6 7 (.invokestatic 157) := ⟨rfl, rfl⟩
theorem fModel_end_7 : w_if am_c158 7 8 .ne 10 := ⟨rfl, rfl⟩
theorem fModel_end_8 : w_fe am_c158 8 9 (.bipush (-1)) := ⟨rfl, rfl⟩
theorem fModel_end_9 : w_fe am_c158 9 10 (.ireturn) := ⟨rfl, rfl⟩
theorem fModel_end_10 : w_fe am_c158 10 11 (.aload 0) := ⟨rfl, rfl⟩
theorem fModel_end_11 : w_fe am_c158 11 12 (.getfield 915) := ⟨rfl, rfl⟩
theorem fModel_end_12 : w_fe am_c158 12 13 (.istore 2) := ⟨rfl, rfl⟩
theorem fModel_end_13 : w_fe am_c158 13 14 (.aload 0) := ⟨rfl, rfl⟩
theorem fModel_end_14 : w_fe am_c158 14 15 (.iload 1) := ⟨rfl, rfl⟩
theorem fModel_end_15 : w_fe am_c158 15 16 (.putfield 915) := ⟨rfl, rfl⟩
theorem fModel_end_16 : w_fe am_c158 16 17 (.iload 2) := ⟨rfl, rfl⟩
theorem fModel_end_17 : w_fe am_c158 17 18 (.ireturn) := ⟨rfl, rfl⟩
set_option maxRecDepth 20000 in
theorem bModel_end_0 {xs : List Int} {d : Nat} {Q : Option w_V → w_M → Prop} {x1 : Int} {σ : w_M}
    (h : ((0 ≤ x1 ∧ x1 ≤ (σ 122 15)) → ∀ (y1 : Int), y1 = (σ 122 15) → ∀ (τ2 : w_M), τ2 = w_up σ 122 15 x1 → Q (some (.inl y1)) τ2) ∧ (¬ (0 ≤ x1 ∧ x1 ≤ (σ 122 15)) → Q (some (.inl (-1))) σ)) : w_Call (xs, (d + 1)) 158 [.inr (.inr (9, 122)), .inl x1] σ Q :=
  (w_mk (mid := 158) (by decide) rfl rfl rfl rfl rfl (Nat.le_of_ble_eq_true rfl) ⟨rfl, Or.inl (by decide)⟩ (wi_iload1 fModel_end_0 (wi_i2l fModel_end_1 (wi_sipush fModel_end_2 (wi_aload0 fModel_end_3 (wi_getf915 fModel_end_4 (wi_i2l fModel_end_5 (wi_call3 fModel_end_6 (Nat.le_of_ble_eq_true rfl) (k_Model_in (wi_ifb_ne fModel_end_7 (fun c3 => (wi_aload0 fModel_end_10 (wi_getf915 fModel_end_11 (wi_istore2 fModel_end_12 trivial (wi_aload0 fModel_end_13 (wi_iload1 fModel_end_14 (wi_putf915 fModel_end_15 (wi_iload2 fModel_end_16 (wi_ret1 fModel_end_17 (((h.1 c3) _ rfl) _ rfl)))))))))) (fun c3 => (wi_bipush fModel_end_8 (wi_ret1 fModel_end_9 (h.2 c3))))))))))))))
theorem k_Model_end {xs : List Int} {d : Nat} {Q : Option w_V → w_M → Prop} {x1 : Int} {σ : w_M} (hp : p_Model_end x1 σ) (hQ : ∀ (x : Int) (σ' : w_M), q_Model_end x1 σ x σ' → Q (some (.inl x)) σ') : w_Call (xs, d + 1) 158 [.inr (.inr (9, 122)), .inl x1] σ Q := by
  have hM : MI σ := hp
  have hl := hM.ta
  unfold q_Model_end F_end G_end at hQ
  have el : mS σ 3 0 0 = σ 122 15 := rfl
  rw [el] at hQ
  refine bModel_end_0 ⟨fun c y e τ t => ?_, fun c => ?_⟩
  · rw [if_pos c, if_pos c] at hQ
    refine hQ _ _ (m_q3 hM (fun j hj => by rw [t, w_up_j (by omega)]) (fun b hb => by rw [t, w_up_ne (by omega)]) (fun b hb => by rw [t, w_up_ne (by omega)]) (by rw [t, w_up_j (by decide)]) ?_ (t_cut_WF hM.2.2.2.1 c) e)
    have e1 : τ 122 15 = x1 := by rw [t]; exact w_up_at
    have e20 : τ 122 20 = σ 122 20 := by rw [t, w_up_j (by decide)]
    have e2 : τ 127 = σ 127 := by rw [t, w_up_ne (by decide)]
    funext d i
    unfold t_am t_cut
    rw [e1, e20, e2]
    by_cases hd1 : d = 1
    · subst hd1
      show (if i < x1.toNat then σ 127 i else 0) = if i < x1.toNat then (if i < (σ 122 15).toNat then σ 127 i else 0) else 0
      by_cases hi : i < x1.toNat
      · rw [if_pos hi, if_pos hi, if_pos (by omega)]
      · rw [if_neg hi, if_neg hi]
    · rw [if_neg hd1, if_neg hd1]
      by_cases hd0 : d = 0
      · subst hd0
        by_cases hi : i = 0
        · subst hi; rfl
        · rw [if_pos rfl, if_neg hi, if_neg (show ¬ ((0 : Nat) = 0 ∧ i = 0) from fun q => hi q.2)]
          show _ = (if i = 0 then σ 122 15 else if i = 1 then σ 122 20 else 0)
          rw [if_neg hi]
      · rw [if_neg hd0, if_neg (fun q => hd0 q.1)]
        show 0 = if d = 0 then _ else if d = 1 then _ else 0
        rw [if_neg hd0, if_neg hd1]
  · rw [if_neg c, if_neg c] at hQ
    exact hQ _ _ (m_qr hM rfl)
noncomputable def p_Model_fault  (σ : w_M) : Prop := MI σ
noncomputable def q_Model_fault  (σ : w_M) (x : Int) (σ' : w_M) : Prop := m_q (F_fault (mS σ)) (mS σ) σ x σ'
noncomputable def p_Model_torn (_ : w_M) : Prop := True
noncomputable def q_Model_torn (σ : w_M) (x : Int) (σ' : w_M) : Prop := x = σ 122 27 ∧ σ' = σ
theorem fModel_fault_0 : w_fe am_c172 0 1 (.aload 0) := ⟨rfl, rfl⟩
theorem fModel_fault_1 : w_fe am_c172 1 2 (.getfield 920) := ⟨rfl, rfl⟩
theorem fModel_fault_2 : w_fe am_c172 2 3 (.ireturn) := ⟨rfl, rfl⟩
set_option maxRecDepth 20000 in
theorem bModel_fault_0 {xs : List Int} {d : Nat} {Q : Option w_V → w_M → Prop}  {σ : w_M}
    (h : Q (some (.inl (σ 122 20))) σ) : w_Call (xs, d) 172 [.inr (.inr (9, 122))] σ Q :=
  (w_mk (mid := 172) (by decide) rfl rfl rfl rfl rfl (Nat.le_of_ble_eq_true rfl) ⟨rfl, Or.inl (by decide)⟩ (wi_aload0 fModel_fault_0 (wi_getf920 fModel_fault_1 (wi_ret1 fModel_fault_2 h))))
theorem fModel_torn_0 : w_fe am_c237 0 1 (.aload 0) := ⟨rfl, rfl⟩
theorem fModel_torn_1 : w_fe am_c237 1 2 (.getfield 927) := ⟨rfl, rfl⟩
theorem fModel_torn_2 : w_fe am_c237 2 3 (.ireturn) := ⟨rfl, rfl⟩
set_option maxRecDepth 20000 in
theorem bModel_torn_0 {xs : List Int} {d : Nat} {Q : Option w_V → w_M → Prop}  {σ : w_M}
    (h : Q (some (.inl (σ 122 27))) σ) : w_Call (xs, d) 237 [.inr (.inr (9, 122))] σ Q :=
  (w_mk (mid := 237) (by decide) rfl rfl rfl rfl rfl (Nat.le_of_ble_eq_true rfl) ⟨rfl, Or.inl (by decide)⟩ (wi_aload0 fModel_torn_0 (wi_getf927 fModel_torn_1 (wi_ret1 fModel_torn_2 h))))
theorem k_Model_fault {xs : List Int} {d : Nat} {Q : Option w_V → w_M → Prop}  {σ : w_M} (hp : p_Model_fault σ) (hQ : ∀ (x : Int) (σ' : w_M), q_Model_fault σ x σ' → Q (some (.inl x)) σ') : w_Call (xs, d) 172 [.inr (.inr (9, 122))] σ Q := bModel_fault_0 (hQ _ _ (m_qr hp rfl))
theorem k_Model_torn {xs : List Int} {d : Nat} {Q : Option w_V → w_M → Prop}  {σ : w_M} (hp : p_Model_torn σ) (hQ : ∀ (x : Int) (σ' : w_M), q_Model_torn σ x σ' → Q (some (.inl x)) σ') : w_Call (xs, d) 237 [.inr (.inr (9, 122))] σ Q := bModel_torn_0 (hQ _ _ ⟨rfl, rfl⟩)
noncomputable def p_Model_rule (_x1 : Int) (σ : w_M) : Prop := MI σ
noncomputable def q_Model_rule (x1 : Int) (σ : w_M) (x : Int) (σ' : w_M) : Prop := m_q (F_rule (mS σ) x1) (mS σ) σ x σ'
theorem fModel_rule_0 : w_fe am_c173 0 1 (.aload 0) := ⟨rfl, rfl⟩
theorem fModel_rule_1 : w_fe am_c173 1 2 (.invokestatic 174) := ⟨rfl, rfl⟩
theorem fModel_rule_2 : w_fe am_c173 2 3 (.iload 1) := ⟨rfl, rfl⟩
theorem fModel_rule_3 {E : w_C} {rt : Nat} {Q : Option w_V → w_M → Prop} {ls : w_L} {st : List w_V} {σ : w_M} {x : Int} (h0 : x = 0 → w_Ex E rt am_c173 Q 4 ls st σ) (h1 : x = 1 → w_Ex E rt am_c173 Q 7 ls st σ) (h2 : x = 2 → w_Ex E rt am_c173 Q 12 ls st σ) (h3 : x = 3 → w_Ex E rt am_c173 Q 17 ls st σ) (h4 : x = 4 → w_Ex E rt am_c173 Q 20 ls st σ) (h5 : x = 5 → w_Ex E rt am_c173 Q 23 ls st σ) (h6 : x = 6 → w_Ex E rt am_c173 Q 28 ls st σ) (hd : x < 0 ∨ 6 < x → w_Ex E rt am_c173 Q 31 ls st σ) : w_Ex E rt am_c173 Q 3 ls (.inl x :: st) σ :=
  w_Ex_in (op := .tableswitch 31 0 6 #[4, 7, 12, 17, 20, 23, 28]) rfl ⟨rfl, hd, And.intro h0 (And.intro h1 (And.intro h2 (And.intro h3 (And.intro h4 (And.intro h5 (And.intro h6 ( trivial)))))))⟩
theorem fModel_rule_4 : w_fe am_c173 4 5 (.aload 0) := ⟨rfl, rfl⟩
theorem fModel_rule_5 : w_fe am_c173 5 6 (.getfield 903) := ⟨rfl, rfl⟩
theorem fModel_rule_6 : w_fe am_c173 6 7 (.ireturn) := ⟨rfl, rfl⟩
theorem fModel_rule_7 : w_fe am_c173 7 8 (.aload 0) := ⟨rfl, rfl⟩
theorem fModel_rule_8 : w_fe am_c173 8 9 (.getfield 900) := ⟨rfl, rfl⟩
theorem fModel_rule_9 : w_fe am_c173 9 10 (.bipush 42) := ⟨rfl, rfl⟩
theorem fModel_rule_10 : w_fe am_c173 10 11 (.iaload) := ⟨rfl, rfl⟩
theorem fModel_rule_11 : w_fe am_c173 11 12 (.ireturn) := ⟨rfl, rfl⟩
theorem fModel_rule_12 : w_fe am_c173 12 13 (.aload 0) := ⟨rfl, rfl⟩
theorem fModel_rule_13 : w_fe am_c173 13 14 (.getfield 900) := ⟨rfl, rfl⟩
theorem fModel_rule_14 : w_fe am_c173 14 15 (.bipush 41) := ⟨rfl, rfl⟩
theorem fModel_rule_15 : w_fe am_c173 15 16 (.iaload) := ⟨rfl, rfl⟩
theorem fModel_rule_16 : w_fe am_c173 16 17 (.ireturn) := ⟨rfl, rfl⟩
theorem fModel_rule_17 : w_fe am_c173 17 18 (.aload 0) := ⟨rfl, rfl⟩
theorem fModel_rule_18 : w_fe am_c173 18 19 (.getfield 904) := ⟨rfl, rfl⟩
theorem fModel_rule_19 : w_fe am_c173 19 20 (.ireturn) := ⟨rfl, rfl⟩
theorem fModel_rule_20 : w_fe am_c173 20 21 (.aload 0) := ⟨rfl, rfl⟩
theorem fModel_rule_21 : w_fe am_c173 21 22 (.getfield 905) := ⟨rfl, rfl⟩
theorem fModel_rule_22 : w_fe am_c173 22 23 (.ireturn) := ⟨rfl, rfl⟩
theorem fModel_rule_23 : w_fe am_c173 23 24 (.aload 0) := ⟨rfl, rfl⟩
theorem fModel_rule_24 : w_fe am_c173 24 25 (.getfield 900) := ⟨rfl, rfl⟩
theorem fModel_rule_25 : w_fe am_c173 25 26 (.bipush 47) := ⟨rfl, rfl⟩
theorem fModel_rule_26 : w_fe am_c173 26 27 (.iaload) := ⟨rfl, rfl⟩
theorem fModel_rule_27 : w_fe am_c173 27 28 (.ireturn) := ⟨rfl, rfl⟩
theorem fModel_rule_28 : w_fe am_c173 28 29 (.aload 0) := ⟨rfl, rfl⟩
theorem fModel_rule_29 : w_fe am_c173 29 30 (.invokestatic 175) := ⟨rfl, rfl⟩
theorem fModel_rule_30 : w_fe am_c173 30 31 (.ireturn) := ⟨rfl, rfl⟩
theorem fModel_rule_31 : w_fe am_c173 31 32 (.bipush (-1)) := ⟨rfl, rfl⟩
theorem fModel_rule_32 : w_fe am_c173 32 33 (.ireturn) := ⟨rfl, rfl⟩
set_option maxRecDepth 20000 in
theorem bModel_rule_0 {xs : List Int} {d : Nat} {Q : Option w_V → w_M → Prop} {x1 : Int} {σ : w_M}
    (h : p_Model_starts σ ∧ (∀ (τ1 : w_M), q_Model_starts σ τ1 → ((x1 = 0 → Q (some (.inl (τ1 122 3))) τ1) ∧ (x1 = 1 → Q (some (.inl (τ1 123 42))) τ1) ∧ (x1 = 2 → Q (some (.inl (τ1 123 41))) τ1) ∧ (x1 = 3 → Q (some (.inl (τ1 122 4))) τ1) ∧ (x1 = 4 → Q (some (.inl (τ1 122 5))) τ1) ∧ (x1 = 5 → Q (some (.inl (τ1 123 47))) τ1) ∧ (x1 = 6 → (p_Model_standing τ1 ∧ (∀ (y2 : Int), y2 = v_Model_standing τ1 → Q (some (.inl y2)) τ1))) ∧ (x1 < 0 ∨ 6 < x1 → Q (some (.inl (-1))) τ1)))) : w_Call (xs, (d + 1)) 173 [.inr (.inr (9, 122)), .inl x1] σ Q :=
  (w_mk (mid := 173) (by decide) rfl rfl rfl rfl rfl (Nat.le_of_ble_eq_true rfl) ⟨rfl, Or.inl (by decide)⟩ (wi_aload0 fModel_rule_0 (wi_call1 fModel_rule_1 (Nat.le_of_ble_eq_true rfl) (k_Model_starts h.1 (fun τ1 eτ1 => (wi_iload1 fModel_rule_2 (fModel_rule_3 (fun c => (wi_aload0 fModel_rule_4 (wi_getf903 fModel_rule_5 (wi_ret1 fModel_rule_6 ((h.2 τ1 eτ1).1 c))))) (fun c => (wi_aload0 fModel_rule_7 (wi_getf900 fModel_rule_8 (wi_bipush fModel_rule_9 (wi_iald1246 fModel_rule_10 (by decide) (by decide) (wi_ret1 fModel_rule_11 ((h.2 τ1 eτ1).2.1 c))))))) (fun c => (wi_aload0 fModel_rule_12 (wi_getf900 fModel_rule_13 (wi_bipush fModel_rule_14 (wi_iald1246 fModel_rule_15 (by decide) (by decide) (wi_ret1 fModel_rule_16 ((h.2 τ1 eτ1).2.2.1 c))))))) (fun c => (wi_aload0 fModel_rule_17 (wi_getf904 fModel_rule_18 (wi_ret1 fModel_rule_19 ((h.2 τ1 eτ1).2.2.2.1 c))))) (fun c => (wi_aload0 fModel_rule_20 (wi_getf905 fModel_rule_21 (wi_ret1 fModel_rule_22 ((h.2 τ1 eτ1).2.2.2.2.1 c))))) (fun c => (wi_aload0 fModel_rule_23 (wi_getf900 fModel_rule_24 (wi_bipush fModel_rule_25 (wi_iald1246 fModel_rule_26 (by decide) (by decide) (wi_ret1 fModel_rule_27 ((h.2 τ1 eτ1).2.2.2.2.2.1 c))))))) (fun c => (wi_aload0 fModel_rule_28 (wi_call1 fModel_rule_29 (Nat.le_of_ble_eq_true rfl) (k_Model_standing ((h.2 τ1 eτ1).2.2.2.2.2.2.1 c).1 (wi_ret1 fModel_rule_30 (((h.2 τ1 eτ1).2.2.2.2.2.2.1 c).2 _ rfl)))))) (fun c => (wi_bipush fModel_rule_31 (wi_ret1 fModel_rule_32 ((h.2 τ1 eτ1).2.2.2.2.2.2.2 c)))))))))))
theorem k_Model_rule {xs : List Int} {d : Nat} {Q : Option w_V → w_M → Prop} {x1 : Int} {σ : w_M} (hp : p_Model_rule x1 σ) (hQ : ∀ (x : Int) (σ' : w_M), q_Model_rule x1 σ x σ' → Q (some (.inl x)) σ') : w_Call (xs, d + 1) 173 [.inr (.inr (9, 122)), .inl x1] σ Q := by
  have hM : MI σ := hp
  unfold q_Model_rule F_rule at hQ
  refine bModel_rule_0 ⟨hM.sm, fun τ hq => ?_⟩
  obtain ⟨q1, q2, q3⟩ := hq
  have z2 : τ 122 = σ 122 := q2 122 (by decide)
  have z3 : τ 123 = σ 123 := q2 123 (by decide)
  rw [z2, z3]
  refine ⟨fun c => ?_, fun c => ?_, fun c => ?_, fun c => ?_, fun c => ?_, fun c => ?_, fun c => ⟨by show n_WF _; rw [q1]; exact hM.ok, fun y e => ?_⟩, fun c => ?_⟩
  · rw [if_pos c] at hQ; exact hQ _ _ (m_qs hM q2 rfl)
  · rw [if_neg (by omega), if_pos c] at hQ; exact hQ _ _ (m_qs hM q2 rfl)
  · rw [if_neg (by omega), if_neg (by omega), if_pos c] at hQ; exact hQ _ _ (m_qs hM q2 rfl)
  · rw [if_neg (by omega), if_neg (by omega), if_neg (by omega), if_pos c] at hQ; exact hQ _ _ (m_qs hM q2 rfl)
  · rw [if_neg (by omega), if_neg (by omega), if_neg (by omega), if_neg (by omega), if_pos c] at hQ; exact hQ _ _ (m_qs hM q2 rfl)
  · rw [if_neg (by omega), if_neg (by omega), if_neg (by omega), if_neg (by omega), if_neg (by omega), if_pos c] at hQ; exact hQ _ _ (m_qs hM q2 rfl)
  · rw [if_neg (by omega), if_neg (by omega), if_neg (by omega), if_neg (by omega), if_neg (by omega), if_neg (by omega), if_pos c] at hQ
    refine hQ _ _ (m_qs hM q2 ?_)
    rw [e]
    unfold v_Model_standing
    rw [q1]
    rfl
  · rw [if_neg (by omega), if_neg (by omega), if_neg (by omega), if_neg (by omega), if_neg (by omega), if_neg (by omega), if_neg (by omega)] at hQ; exact hQ _ _ (m_qs hM q2 rfl)
theorem m_rdi {σ : w_M} {c d : Nat} {i : Int} {x : Nat} (h1 : 1 ≤ d) (h2 : d ≤ 2 ∨ d = 9) (hi : 0 ≤ i ∧ i < σ 122 4) (hx : x = m_ix d i.toNat) : σ c x = w_am σ c 0 d i.toNat := m_rd (by omega) (by
  rcases h2 with h2 | rfl
  · rw [m_rl12 h1 h2]; omega
  · rw [m_rl9]; omega) (by omega)
theorem m_rdr {σ : w_M} {c d : Nat} {r : Int} {x : Nat} (h1 : 3 ≤ d) (h2 : d ≤ 7) (hr : 0 ≤ r ∧ r < σ 122 5) (hx : x = m_ix d r.toNat) : σ c x = w_am σ c 0 d r.toNat := m_rd (by omega) (by rw [m_rl37 h1 h2]; omega) (by omega)
theorem w_bit_or : ∀ k, k < 7 → ∀ x, x < 2 ^ k → w_or (x : Nat) (w_shl 1 (k : Nat)) = ((x + 2 ^ k : Nat) : Int) ∧ w_or (x : Nat) (w_shl 0 (k : Nat)) = ((x : Nat) : Int) := by decide +kernel
theorem MI.s {σ : w_M} (h : MI σ) : 0 ≤ σ 122 4 ∧ σ 122 4 ≤ 7 := m_ok.s h.ok
theorem MI.n {σ : w_M} (h : MI σ) : 0 ≤ σ 122 5 ∧ σ 122 5 ≤ 4 := m_ok.n h.ok
noncomputable def p_Model_strip (_x1 : Int) (_x2 : Int) (σ : w_M) : Prop := MI σ
noncomputable def q_Model_strip (x1 : Int) (x2 : Int) (σ : w_M) (x : Int) (σ' : w_M) : Prop := m_q (F_strip (mS σ) x1 x2) (mS σ) σ x σ'
theorem fModel_strip_0 : w_fe am_c176 0 1 (.aload 0) := ⟨rfl, rfl⟩
theorem fModel_strip_1 : w_fe am_c176 1 2 (.iload 1) := ⟨rfl, rfl⟩
theorem fModel_strip_2 : w_fe am_c176 2 3 (.invokestatic 177) := ⟨rfl, rfl⟩
theorem fModel_strip_3 : w_if am_c176 3 4 .eq 10 := ⟨rfl, rfl⟩
theorem fModel_strip_4 : w_fe am_c176 4 5 (.iload 2) := ⟨rfl, rfl⟩
theorem fModel_strip_5 : w_fe am_c176 5 6 (.i2l) := ⟨rfl, rfl⟩
theorem fModel_strip_6 : w_fe am_c176 6 7 (.sipush 0) := ⟨rfl, rfl⟩
theorem fModel_strip_7 : w_fe am_c176 7 8 (.sipush 3) := ⟨rfl, rfl⟩
theorem fModel_strip_8 : w_fe am_c176 8 9 (.invokestatic 157) := ⟨rfl, rfl⟩
theorem fModel_strip_9 : w_if am_c176 9 10 .ne 12 := ⟨rfl, rfl⟩
theorem fModel_strip_10 : w_fe am_c176 10 11 (.bipush (-1)) := ⟨rfl, rfl⟩
theorem fModel_strip_11 : w_fe am_c176 11 12 (.ireturn) := ⟨rfl, rfl⟩
theorem fModel_strip_12 : w_fe am_c176 12 13 (.bipush 0) := ⟨rfl, rfl⟩
theorem fModel_strip_13 : w_fe am_c176 13 14 (.istore 3) := ⟨rfl, rfl⟩
theorem fModel_strip_14 : w_fe am_c176 14 15 (.aload 0) := ⟨rfl, rfl⟩
theorem fModel_strip_15 : w_fe am_c176 15 16 (.invokestatic 174) := ⟨rfl, rfl⟩
theorem fModel_strip_16 : w_fe am_c176 16 17 (.bipush 0) := ⟨rfl, rfl⟩
theorem fModel_strip_17 : w_fe am_c176 17 18 (.istore 4) := ⟨rfl, rfl⟩
theorem fModel_strip_18 : w_fe am_c176 18 19 (.iload 4) := ⟨rfl, rfl⟩
theorem fModel_strip_19 : w_fe am_c176 19 20 (.aload 0) := ⟨rfl, rfl⟩
theorem fModel_strip_20 : w_fe am_c176 20 21 (.getfield 905) := ⟨rfl, rfl⟩
theorem fModel_strip_21 : w_ic am_c176 21 22 .ge 39 := ⟨rfl, rfl⟩
theorem fModel_strip_22 : w_fe am_c176 22 23 (.iload 3) := ⟨rfl, rfl⟩
theorem fModel_strip_23 : w_fe am_c176 23 24 (.aload 0) := ⟨rfl, rfl⟩
theorem fModel_strip_24 : w_fe am_c176 24 25 (.iload 4) := ⟨rfl, rfl⟩
theorem fModel_strip_25 : w_fe am_c176 25 26 (.bipush 3) := ⟨rfl, rfl⟩
theorem fModel_strip_26 : w_fe am_c176 26 27 (.invokestatic 178) := ⟨rfl, rfl⟩
theorem fModel_strip_27 : w_fe am_c176 27 28 (.iload 1) := ⟨rfl, rfl⟩
theorem fModel_strip_28 : w_ic am_c176 28 29 .ne 31 := ⟨rfl, rfl⟩
theorem fModel_strip_29 : w_fe am_c176 29 30 (.bipush 1) := ⟨rfl, rfl⟩
theorem fModel_strip_30 : w_gt am_c176 30 32 := rfl
theorem fModel_strip_31 : w_fe am_c176 31 32 (.bipush 0) := ⟨rfl, rfl⟩
theorem fModel_strip_32 : w_fe am_c176 32 33 (.invokestatic 179) := ⟨rfl, rfl⟩
theorem fModel_strip_33 : w_fe am_c176 33 34 (.iload 4) := ⟨rfl, rfl⟩
theorem fModel_strip_34 : w_fe am_c176 34 35 (.ishl) := ⟨rfl, rfl⟩
theorem fModel_strip_35 : w_fe am_c176 35 36 (.ior) := ⟨rfl, rfl⟩
theorem fModel_strip_36 : w_fe am_c176 36 37 (.istore 3) := ⟨rfl, rfl⟩
theorem fModel_strip_37 : w_fe am_c176 37 38 (.iinc 4 1) := ⟨rfl, rfl⟩
theorem fModel_strip_38 : w_gt am_c176 38 18 := rfl
theorem fModel_strip_39 : w_fe am_c176 39 40 (.iload 2) := ⟨rfl, rfl⟩
theorem fModel_strip_40 : w_fe am_c176 40 41 (.bipush 3) := ⟨rfl, rfl⟩
theorem fModel_strip_41 : w_ic am_c176 41 42 .ge 51 := ⟨rfl, rfl⟩
theorem fModel_strip_42 : w_fe am_c176 42 43 (.aload 0) := ⟨rfl, rfl⟩
theorem fModel_strip_43 : w_fe am_c176 43 44 (.getfield 900) := ⟨rfl, rfl⟩
theorem fModel_strip_44 : w_fe am_c176 44 45 (.bipush 7) := ⟨rfl, rfl⟩
theorem fModel_strip_45 : w_fe am_c176 45 46 (.iload 2) := ⟨rfl, rfl⟩
theorem fModel_strip_46 : w_fe am_c176 46 47 (.imul) := ⟨rfl, rfl⟩
theorem fModel_strip_47 : w_fe am_c176 47 48 (.iload 1) := ⟨rfl, rfl⟩
theorem fModel_strip_48 : w_fe am_c176 48 49 (.iadd) := ⟨rfl, rfl⟩
theorem fModel_strip_49 : w_fe am_c176 49 50 (.iaload) := ⟨rfl, rfl⟩
theorem fModel_strip_50 : w_gt am_c176 50 52 := rfl
theorem fModel_strip_51 : w_fe am_c176 51 52 (.iload 3) := ⟨rfl, rfl⟩
theorem fModel_strip_52 : w_fe am_c176 52 53 (.ireturn) := ⟨rfl, rfl⟩
noncomputable def LModel_strip_18 (xs : List Int) (d : Nat) (Q : Option w_V → w_M → Prop) (v1 : Int) (v2 : Int) (v3 : Int) (v4 : Int) (σ : w_M) : Prop := w_Ex (xs, d) 1 am_c176 Q 18 [some (.inr (.inr (9, 122))), some (.inl v1), some (.inl v2), some (.inl v3), some (.inl v4)] [] σ
set_option maxRecDepth 20000 in
theorem bModel_strip_0 {xs : List Int} {d : Nat} {Q : Option w_V → w_M → Prop} {x1 : Int} {x2 : Int} {σ : w_M}
    (h : p_Model_isStrip x1 σ ∧ ((¬ (0 ≤ x1 ∧ x1 < σ 122 4) → Q (some (.inl (-1))) σ) ∧ ((0 ≤ x1 ∧ x1 < σ 122 4) → (((0 ≤ x2 ∧ x2 ≤ 3) → (p_Model_starts σ ∧ (∀ (τ1 : w_M), q_Model_starts σ τ1 → LModel_strip_18 xs (d + 2) Q x1 x2 0 0 τ1))) ∧ (¬ (0 ≤ x2 ∧ x2 ≤ 3) → Q (some (.inl (-1))) σ))))) : w_Call (xs, (d + 2)) 176 [.inr (.inr (9, 122)), .inl x1, .inl x2] σ Q :=
  (w_mk (mid := 176) (by decide) rfl rfl rfl rfl rfl (Nat.le_of_ble_eq_true rfl) ⟨rfl, Or.inl (by decide)⟩ (wi_aload0 fModel_strip_0 (wi_iload1 fModel_strip_1 (wi_call2 fModel_strip_2 (Nat.le_of_ble_eq_true rfl) (k_Model_isStrip h.1 (wi_ifb_eq fModel_strip_3 (fun c3 => (wi_bipush fModel_strip_10 (wi_ret1 fModel_strip_11 (h.2.1 c3)))) (fun c3 => (wi_iload2 fModel_strip_4 (wi_i2l fModel_strip_5 (wi_sipush fModel_strip_6 (wi_sipush fModel_strip_7 (wi_call3 fModel_strip_8 (Nat.le_of_ble_eq_true rfl) (k_Model_in (wi_ifb_ne fModel_strip_9 (fun c2 => (wi_bipush fModel_strip_12 (wi_istore3 fModel_strip_13 trivial (wi_aload0 fModel_strip_14 (wi_call1 fModel_strip_15 (Nat.le_of_ble_eq_true rfl) (k_Model_starts ((h.2.2 c3).1 c2).1 (fun τ1 eτ1 => (wi_bipush fModel_strip_16 (wi_istore4 fModel_strip_17 trivial (((h.2.2 c3).1 c2).2 τ1 eτ1)))))))))) (fun c2 => (wi_bipush fModel_strip_10 (wi_ret1 fModel_strip_11 ((h.2.2 c3).2 c2))))))))))))))))))
set_option maxRecDepth 20000 in
theorem bModel_strip_18 {xs : List Int} {d : Nat} {Q : Option w_V → w_M → Prop} {v1 : Int} {v2 : Int} {v3 : Int} {v4 : Int} {σ : w_M}
    (h : ((σ 122 5) ≤ v4 → ((3 ≤ v2 → Q (some (.inl v3)) σ) ∧ (v2 < 3 → (w_in (7 * v2) ∧ w_in ((7 * v2) + v1) ∧ 0 ≤ ((7 * v2) + v1) ∧ ((7 * v2) + v1) < 246 ∧ Q (some (.inl (σ 123 ((7 * v2) + v1).toNat))) σ)))) ∧ (v4 < (σ 122 5) → (p_Model_of v4 3 σ ∧ ((¬ (σ 124 (21 + 5 * v4 + 3).toNat) = v1 → ∀ (y2 : Int), y2 = (w_or v3 (w_shl 0 v4)) → (w_in (v4 + 1) ∧ LModel_strip_18 xs (d + 2) Q v1 v2 y2 (v4 + 1) σ)) ∧ ((σ 124 (21 + 5 * v4 + 3).toNat) = v1 → ∀ (y3 : Int), y3 = (w_or v3 (w_shl 1 v4)) → (w_in (v4 + 1) ∧ LModel_strip_18 xs (d + 2) Q v1 v2 y3 (v4 + 1) σ)))))) : LModel_strip_18 xs (d + 2) Q v1 v2 v3 v4 σ :=
  (wi_iload4 fModel_strip_18 (wi_aload0 fModel_strip_19 (wi_getf905 fModel_strip_20 (wi_ic_ge fModel_strip_21 (fun c5 => (wi_iload2 fModel_strip_39 (wi_bipush fModel_strip_40 (wi_ic_ge fModel_strip_41 (fun c1 => (wi_iload3 fModel_strip_51 (wi_ret1 fModel_strip_52 ((h.1 c5).1 c1)))) (fun c1 => (wi_aload0 fModel_strip_42 (wi_getf900 fModel_strip_43 (wi_bipush fModel_strip_44 (wi_iload2 fModel_strip_45 (wi_imul fModel_strip_46 ((h.1 c5).2 c1).1 (wi_iload1 fModel_strip_47 (wi_iadd fModel_strip_48 ((h.1 c5).2 c1).2.1 (wi_iald1246 fModel_strip_49 ((h.1 c5).2 c1).2.2.1 ((h.1 c5).2 c1).2.2.2.1 (wi_goto fModel_strip_50 (wi_ret1 fModel_strip_52 ((h.1 c5).2 c1).2.2.2.2))))))))))))))) (fun c5 => (wi_iload3 fModel_strip_22 (wi_aload0 fModel_strip_23 (wi_iload4 fModel_strip_24 (wi_bipush fModel_strip_25 (wi_call3 fModel_strip_26 (Nat.le_of_ble_eq_true rfl) (k_Model_of (h.2 c5).1 (wi_iload1 fModel_strip_27 (wi_ic_ne fModel_strip_28 (fun c4 => (wi_bipush fModel_strip_31 (wi_call1 fModel_strip_32 (Nat.le_of_ble_eq_true rfl) (k_Model_flag (wi_iload4 fModel_strip_33 (wi_ishl fModel_strip_34 (wi_ior fModel_strip_35 (wi_istore3 fModel_strip_36 trivial (wi_iinc4 fModel_strip_37 trivial (((h.2 c5).2.1 c4) _ rfl).1 (wi_goto fModel_strip_38 (((h.2 c5).2.1 c4) _ rfl).2)))))))))) (fun c4 => (wi_bipush fModel_strip_29 (wi_goto fModel_strip_30 (wi_call1 fModel_strip_32 (Nat.le_of_ble_eq_true rfl) (k_Model_flag (wi_iload4 fModel_strip_33 (wi_ishl fModel_strip_34 (wi_ior fModel_strip_35 (wi_istore3 fModel_strip_36 trivial (wi_iinc4 fModel_strip_37 trivial (((h.2 c5).2.2 c4) _ rfl).1 (wi_goto fModel_strip_38 (((h.2 c5).2.2 c4) _ rfl).2))))))))))))))))))))))))
theorem k_Model_strip {xs : List Int} {d : Nat} {Q : Option w_V → w_M → Prop} {x1 : Int} {x2 : Int} {σ : w_M} (hp : p_Model_strip x1 x2 σ) (hQ : ∀ (x : Int) (σ' : w_M), q_Model_strip x1 x2 σ x σ' → Q (some (.inl x)) σ') : w_Call (xs, d + 2) 176 [.inr (.inr (9, 122)), .inl x1, .inl x2] σ Q := by
  have hM : MI σ := hp
  have hs := hM.s
  have hn := hM.n
  unfold q_Model_strip F_strip at hQ
  have e4 : mS σ 0 0 4 = σ 122 4 := rfl
  rw [e4] at hQ
  refine bModel_strip_0 ⟨hs, fun c => ?_, fun c => ⟨fun c2 => ⟨hM.sm, fun τ hq => ?_⟩, fun c2 => ?_⟩⟩
  · rw [if_neg c] at hQ
    exact hQ _ _ (m_qr hM rfl)
  · rw [if_pos c] at hQ
    obtain ⟨q1, q2, q3⟩ := hq
    have z2 : τ 122 = σ 122 := q2 122 (by decide)
    have z3 : τ 123 = σ 123 := q2 123 (by decide)
    refine w_loop (n := (σ 122 5).toNat) (P := fun k => LModel_strip_18 xs (d + 2) Q x1 x2 ((n_rat (w_am σ 123 0) x1 k : Nat) : Int) (k : Int) τ) ?_ ?_
    · refine bModel_strip_18 ⟨fun _ => ⟨fun c3 => ?_, fun c3 => ⟨⟨by omega, by omega⟩, ⟨by omega, by omega⟩, by omega, by omega, ?_⟩⟩, fun h => by rw [z2] at h; omega⟩
      · rw [if_neg (by omega), if_neg (by omega), if_neg (by omega), if_pos (by omega)] at hQ
        exact hQ _ _ (m_qs hM q2 rfl)
      · rw [z3]
        rcases (show x2 = 0 ∨ x2 = 1 ∨ x2 = 2 by omega) with rfl | rfl | rfl
        · rw [if_pos rfl] at hQ
          exact hQ _ _ (m_qs hM q2 (m_rdi (d := 1) (by decide) (Or.inl (by decide)) c (by show _ = x1.toNat; omega)))
        · rw [if_neg (by decide), if_pos rfl] at hQ
          exact hQ _ _ (m_qs hM q2 (m_rdi (d := 2) (by decide) (Or.inl (by decide)) c (by show _ = 7 + x1.toNat; omega)))
        · rw [if_neg (by decide), if_neg (by decide), if_pos rfl] at hQ
          exact hQ _ _ (m_qs hM q2 (m_rdi (d := 9) (by decide) (Or.inr rfl) c (by show _ = 14 + x1.toNat; omega)))
    · intro k hk ih
      have hb := w_bit_or k (by omega) _ (n_rat_lt (w_am σ 123 0) x1 k)
      have e6 : τ 124 (21 + 5 * (k : Int) + 3).toNat = w_am σ 123 0 6 k := by
        rw [q3 _ (by omega)]
        exact m_rd (by decide) (by rw [m_rl37 (by decide) (by decide)]; exact hk) (by show _ = 0 + (24 + 5 * k); omega)
      refine bModel_strip_18 ⟨fun h => by rw [z2] at h; omega, fun h => ⟨⟨by omega, by omega⟩, fun c3 => fun y e => ⟨⟨by omega, by omega⟩, ?_⟩, fun c3 => fun y e => ⟨⟨by omega, by omega⟩, ?_⟩⟩⟩
      · rw [e6] at c3
        simp only [n_rat] at ih
        rw [if_neg c3, Nat.add_zero, w_cs1] at ih
        rw [e, hb.2]
        exact ih
      · rw [e6] at c3
        simp only [n_rat] at ih
        rw [if_pos c3, w_cs1] at ih
        rw [e, hb.1]
        exact ih
  · rw [if_pos c, if_neg (by omega), if_neg (by omega), if_neg (by omega), if_neg (by omega)] at hQ
    exact hQ _ _ (m_qr hM rfl)
noncomputable def p_Model_reaper (_x1 : Int) (_x2 : Int) (σ : w_M) : Prop := MI σ
noncomputable def q_Model_reaper (x1 : Int) (x2 : Int) (σ : w_M) (x : Int) (σ' : w_M) : Prop := m_q (F_reaper (mS σ) x1 x2) (mS σ) σ x σ'
theorem fModel_reaper_0 : w_fe am_c180 0 1 (.aload 0) := ⟨rfl, rfl⟩
theorem fModel_reaper_1 : w_fe am_c180 1 2 (.iload 1) := ⟨rfl, rfl⟩
theorem fModel_reaper_2 : w_fe am_c180 2 3 (.invokestatic 181) := ⟨rfl, rfl⟩
theorem fModel_reaper_3 : w_if am_c180 3 4 .eq 21 := ⟨rfl, rfl⟩
theorem fModel_reaper_4 : w_fe am_c180 4 5 (.iload 2) := ⟨rfl, rfl⟩
theorem fModel_reaper_5 : w_fe am_c180 5 6 (.i2l) := ⟨rfl, rfl⟩
theorem fModel_reaper_6 : w_fe am_c180 6 7 (.sipush 0) := ⟨rfl, rfl⟩
theorem fModel_reaper_7 : w_fe am_c180 7 8 (.sipush 4) := ⟨rfl, rfl⟩
theorem fModel_reaper_8 : w_fe am_c180 8 9 (.invokestatic 157) := ⟨rfl, rfl⟩
theorem fModel_reaper_9 : w_if am_c180 9 10 .eq 21 := ⟨rfl, rfl⟩
theorem fModel_reaper_10 : w_fe am_c180 10 11 (.aload 0) := ⟨rfl, rfl⟩
theorem fModel_reaper_11 : w_fe am_c180 11 12 (.getfield 900) := ⟨rfl, rfl⟩
theorem fModel_reaper_12 : w_fe am_c180 12 13 (.bipush 21) := ⟨rfl, rfl⟩
theorem fModel_reaper_13 : w_fe am_c180 13 14 (.bipush 5) := ⟨rfl, rfl⟩
theorem fModel_reaper_14 : w_fe am_c180 14 15 (.iload 1) := ⟨rfl, rfl⟩
theorem fModel_reaper_15 : w_fe am_c180 15 16 (.imul) := ⟨rfl, rfl⟩
theorem fModel_reaper_16 : w_fe am_c180 16 17 (.iadd) := ⟨rfl, rfl⟩
theorem fModel_reaper_17 : w_fe am_c180 17 18 (.iload 2) := ⟨rfl, rfl⟩
theorem fModel_reaper_18 : w_fe am_c180 18 19 (.iadd) := ⟨rfl, rfl⟩
theorem fModel_reaper_19 : w_fe am_c180 19 20 (.iaload) := ⟨rfl, rfl⟩
theorem fModel_reaper_20 : w_gt am_c180 20 22 := rfl
theorem fModel_reaper_21 : w_fe am_c180 21 22 (.bipush (-1)) := ⟨rfl, rfl⟩
theorem fModel_reaper_22 : w_fe am_c180 22 23 (.ireturn) := ⟨rfl, rfl⟩
set_option maxRecDepth 20000 in
theorem bModel_reaper_0 {xs : List Int} {d : Nat} {Q : Option w_V → w_M → Prop} {x1 : Int} {x2 : Int} {σ : w_M}
    (h : p_Model_isReaper x1 σ ∧ ((¬ (0 ≤ x1 ∧ x1 < σ 122 5) → Q (some (.inl (-1))) σ) ∧ ((0 ≤ x1 ∧ x1 < σ 122 5) → ((¬ (0 ≤ x2 ∧ x2 ≤ 4) → Q (some (.inl (-1))) σ) ∧ ((0 ≤ x2 ∧ x2 ≤ 4) → (w_in (5 * x1) ∧ w_in (21 + (5 * x1)) ∧ w_in ((21 + (5 * x1)) + x2) ∧ 0 ≤ ((21 + (5 * x1)) + x2) ∧ ((21 + (5 * x1)) + x2) < 246 ∧ Q (some (.inl (σ 123 ((21 + (5 * x1)) + x2).toNat))) σ)))))) : w_Call (xs, (d + 2)) 180 [.inr (.inr (9, 122)), .inl x1, .inl x2] σ Q :=
  (w_mk (mid := 180) (by decide) rfl rfl rfl rfl rfl (Nat.le_of_ble_eq_true rfl) ⟨rfl, Or.inl (by decide)⟩ (wi_aload0 fModel_reaper_0 (wi_iload1 fModel_reaper_1 (wi_call2 fModel_reaper_2 (Nat.le_of_ble_eq_true rfl) (k_Model_isReaper h.1 (wi_ifb_eq fModel_reaper_3 (fun c2 => (wi_bipush fModel_reaper_21 (wi_ret1 fModel_reaper_22 (h.2.1 c2)))) (fun c2 => (wi_iload2 fModel_reaper_4 (wi_i2l fModel_reaper_5 (wi_sipush fModel_reaper_6 (wi_sipush fModel_reaper_7 (wi_call3 fModel_reaper_8 (Nat.le_of_ble_eq_true rfl) (k_Model_in (wi_ifb_eq fModel_reaper_9 (fun c1 => (wi_bipush fModel_reaper_21 (wi_ret1 fModel_reaper_22 ((h.2.2 c2).1 c1)))) (fun c1 => (wi_aload0 fModel_reaper_10 (wi_getf900 fModel_reaper_11 (wi_bipush fModel_reaper_12 (wi_bipush fModel_reaper_13 (wi_iload1 fModel_reaper_14 (wi_imul fModel_reaper_15 ((h.2.2 c2).2 c1).1 (wi_iadd fModel_reaper_16 ((h.2.2 c2).2 c1).2.1 (wi_iload2 fModel_reaper_17 (wi_iadd fModel_reaper_18 ((h.2.2 c2).2 c1).2.2.1 (wi_iald1246 fModel_reaper_19 ((h.2.2 c2).2 c1).2.2.2.1 ((h.2.2 c2).2 c1).2.2.2.2.1 (wi_goto fModel_reaper_20 (wi_ret1 fModel_reaper_22 ((h.2.2 c2).2 c1).2.2.2.2.2)))))))))))))))))))))))))))
theorem m_tell {σ : w_M} {c : Nat} {r w : Int} (hr : 0 ≤ r ∧ r < σ 122 5) (hw : 0 ≤ w ∧ w ≤ 4) {x : Nat} (hx : (x : Int) = 21 + 5 * r + w) : σ c x = n_tell (w_am σ c 0) r w := by
  unfold n_tell
  rw [if_pos (show 0 ≤ r ∧ r < w_am σ c 0 0 5 from hr), if_pos hw]
  rcases (show w = 0 ∨ w = 1 ∨ w = 2 ∨ w = 3 ∨ w = 4 by omega) with rfl | rfl | rfl | rfl | rfl
  · exact m_rdr (d := 3) (by decide) (by decide) hr (by show x = 21 + 5 * r.toNat; omega)
  · exact m_rdr (d := 4) (by decide) (by decide) hr (by show x = 22 + 5 * r.toNat; omega)
  · exact m_rdr (d := 5) (by decide) (by decide) hr (by show x = 23 + 5 * r.toNat; omega)
  · exact m_rdr (d := 6) (by decide) (by decide) hr (by show x = 24 + 5 * r.toNat; omega)
  · exact m_rdr (d := 7) (by decide) (by decide) hr (by show x = 25 + 5 * r.toNat; omega)
theorem n_tell_bad {A : w_M} {r w : Int} (h : ¬ ((0 ≤ r ∧ r < A 0 5) ∧ (0 ≤ w ∧ w ≤ 4))) : n_tell A r w = -1 := by
  unfold n_tell
  split
  · rename_i h1
    rw [if_neg (fun q => h ⟨h1, q⟩)]
  · rfl
theorem k_Model_reaper {xs : List Int} {d : Nat} {Q : Option w_V → w_M → Prop} {x1 : Int} {x2 : Int} {σ : w_M} (hp : p_Model_reaper x1 x2 σ) (hQ : ∀ (x : Int) (σ' : w_M), q_Model_reaper x1 x2 σ x σ' → Q (some (.inl x)) σ') : w_Call (xs, d + 2) 180 [.inr (.inr (9, 122)), .inl x1, .inl x2] σ Q := by
  have hM : MI σ := hp
  have hn := hM.n
  unfold q_Model_reaper F_reaper at hQ
  refine bModel_reaper_0 ⟨hn, fun c => ?_, fun c => ⟨fun c2 => ?_, fun c2 => ⟨⟨by omega, by omega⟩, ⟨by omega, by omega⟩, ⟨by omega, by omega⟩, by omega, by omega, ?_⟩⟩⟩
  · exact hQ _ _ (m_qr hM (n_tell_bad (fun q => c q.1)).symm)
  · exact hQ _ _ (m_qr hM (n_tell_bad (fun q => c2 q.2)).symm)
  · exact hQ _ _ (m_qr hM (m_tell c c2 (by omega)))
noncomputable def p_Model_harvest (_x1 : Int) (σ : w_M) : Prop := MI σ
noncomputable def q_Model_harvest (x1 : Int) (σ : w_M) (x : Int) (σ' : w_M) : Prop := m_q (F_harvest (mS σ) x1) (mS σ) σ x σ'
theorem fModel_harvest_0 : w_fe am_c182 0 1 (.iload 1) := ⟨rfl, rfl⟩
theorem fModel_harvest_1 : w_fe am_c182 1 2 (.invokestatic 183) := ⟨rfl, rfl⟩
theorem fModel_harvest_2 : w_if am_c182 2 3 .eq 10 := ⟨rfl, rfl⟩
theorem fModel_harvest_3 : w_fe am_c182 3 4 (.aload 0) := ⟨rfl, rfl⟩
theorem fModel_harvest_4 : w_fe am_c182 4 5 (.getfield 900) := ⟨rfl, rfl⟩
theorem fModel_harvest_5 : w_fe am_c182 5 6 (.bipush 43) := ⟨rfl, rfl⟩
theorem fModel_harvest_6 : w_fe am_c182 6 7 (.iload 1) := ⟨rfl, rfl⟩
theorem fModel_harvest_7 : w_fe am_c182 7 8 (.iadd) := ⟨rfl, rfl⟩
theorem fModel_harvest_8 : w_fe am_c182 8 9 (.iaload) := ⟨rfl, rfl⟩
theorem fModel_harvest_9 : w_gt am_c182 9 11 := rfl
theorem fModel_harvest_10 : w_fe am_c182 10 11 (.bipush (-1)) := ⟨rfl, rfl⟩
theorem fModel_harvest_11 : w_fe am_c182 11 12 (.ireturn) := ⟨rfl, rfl⟩
set_option maxRecDepth 20000 in
theorem bModel_harvest_0 {xs : List Int} {d : Nat} {Q : Option w_V → w_M → Prop} {x1 : Int} {σ : w_M}
    (h : (¬ (0 ≤ x1 ∧ x1 ≤ 3) → Q (some (.inl (-1))) σ) ∧ ((0 ≤ x1 ∧ x1 ≤ 3) → (w_in (43 + x1) ∧ 0 ≤ (43 + x1) ∧ (43 + x1) < 246 ∧ Q (some (.inl (σ 123 (43 + x1).toNat))) σ))) : w_Call (xs, (d + 2)) 182 [.inr (.inr (9, 122)), .inl x1] σ Q :=
  (w_mk (mid := 182) (by decide) rfl rfl rfl rfl rfl (Nat.le_of_ble_eq_true rfl) ⟨rfl, Or.inl (by decide)⟩ (wi_iload1 fModel_harvest_0 (wi_call1 fModel_harvest_1 (Nat.le_of_ble_eq_true rfl) (k_Model_isOwner (wi_ifb_eq fModel_harvest_2 (fun c1 => (wi_bipush fModel_harvest_10 (wi_ret1 fModel_harvest_11 (h.1 c1)))) (fun c1 => (wi_aload0 fModel_harvest_3 (wi_getf900 fModel_harvest_4 (wi_bipush fModel_harvest_5 (wi_iload1 fModel_harvest_6 (wi_iadd fModel_harvest_7 (h.2 c1).1 (wi_iald1246 fModel_harvest_8 (h.2 c1).2.1 (h.2 c1).2.2.1 (wi_goto fModel_harvest_9 (wi_ret1 fModel_harvest_11 (h.2 c1).2.2.2))))))))))))))
theorem k_Model_harvest {xs : List Int} {d : Nat} {Q : Option w_V → w_M → Prop} {x1 : Int} {σ : w_M} (hp : p_Model_harvest x1 σ) (hQ : ∀ (x : Int) (σ' : w_M), q_Model_harvest x1 σ x σ' → Q (some (.inl x)) σ') : w_Call (xs, d + 2) 182 [.inr (.inr (9, 122)), .inl x1] σ Q := by
  have hM : MI σ := hp
  unfold q_Model_harvest F_harvest at hQ
  refine bModel_harvest_0 ⟨fun c => ?_, fun c => ⟨⟨by omega, by omega⟩, by omega, by omega, ?_⟩⟩
  · rw [if_neg c] at hQ; exact hQ _ _ (m_qr hM rfl)
  · rw [if_pos c] at hQ
    exact hQ _ _ (m_qr hM (m_rd (d := 8) (by decide) (show x1.toNat < 4 by omega) (by show _ = 0 + (43 + x1.toNat); omega)))
theorem m_set {σ τ : w_M} {P : Prop} {d j k : Nat} {v x : Int} (hM : MI σ) (hP : P) (hj : j < m_rl σ d) (hk : k = 0 + m_ix d j) (hW : n_WF (w_up (w_am σ 123 0) d j v)) (ht : τ = w_up σ 123 k v) (hx : x = σ 123 k) : m_q (F_set (mS σ) P d j) (G_set (mS σ) P d j v) σ x τ := by
  have hd0 : d ≠ 0 := fun e => by rw [e] at hj; simp [m_rl] at hj
  obtain ⟨d10, j7, jL⟩ := m_rl_d hM.sm hj
  have hlt := (m_ix_sc d d10 j j7 jL).2.2.2
  rw [F_set_t hP, G_set_t hP]
  refine m_q0 hM (by rw [ht]; exact w_f1.up0) (fun y hy => by rw [ht, w_up_j (by omega)]) (by rw [ht]; exact w_am_up hM.sm (by decide) hj hk) hW ?_ ?_ ?_ ?_
  · show w_up (w_am σ 123 0) d j v 0 0 = σ 122 3; rw [w_up_ne (by omega)]; rfl
  · show w_up (w_am σ 123 0) d j v 0 4 = σ 122 4; rw [w_up_ne (by omega)]; rfl
  · show w_up (w_am σ 123 0) d j v 0 5 = σ 122 5; rw [w_up_ne (by omega)]; rfl
  · rw [hx]; exact m_rd hd0 hj hk
theorem m_no {σ : w_M} {P : Prop} {d j : Nat} {v : Int} (hM : MI σ) (hP : ¬ P) : m_q (F_set (mS σ) P d j) (G_set (mS σ) P d j v) σ (-1) σ := by
  rw [F_set_f hP, G_set_f hP]
  exact m_qr hM rfl
noncomputable def p_Model_send (_ _ : Int) (σ : w_M) : Prop := MI σ
noncomputable def q_Model_send (r i : Int) (σ : w_M) (x : Int) (σ' : w_M) : Prop := m_q (F_send (mS σ) r i) (G_send (mS σ) r i) σ x σ' ∧ (σ' = σ ∨ ((0 ≤ r ∧ r < 4) ∧ σ' = w_up σ 123 (24 + 5 * r.toNat) i))
noncomputable def p_Model_whet (_x1 : Int) (_x2 : Int) (σ : w_M) : Prop := MI σ
noncomputable def q_Model_whet (x1 : Int) (x2 : Int) (σ : w_M) (x : Int) (σ' : w_M) : Prop := m_q (F_whet (mS σ) x1 x2) (G_whet (mS σ) x1 x2) σ x σ'
noncomputable def p_Model_fill (_x1 : Int) (_x2 : Int) (σ : w_M) : Prop := MI σ
noncomputable def q_Model_fill (x1 : Int) (x2 : Int) (σ : w_M) (x : Int) (σ' : w_M) : Prop := m_q (F_fill (mS σ) x1 x2) (G_fill (mS σ) x1 x2) σ x σ'
noncomputable def p_Model_own (_x1 : Int) (_x2 : Int) (σ : w_M) : Prop := MI σ
noncomputable def q_Model_own (x1 : Int) (x2 : Int) (σ : w_M) (x : Int) (σ' : w_M) : Prop := m_q (F_own (mS σ) x1 x2) (G_own (mS σ) x1 x2) σ x σ'
noncomputable def p_Model_grow (_x1 : Int) (_x2 : Int) (σ : w_M) : Prop := MI σ
noncomputable def q_Model_grow (x1 : Int) (x2 : Int) (σ : w_M) (x : Int) (σ' : w_M) : Prop := m_q (F_grow (mS σ) x1 x2) (G_grow (mS σ) x1 x2) σ x σ'
noncomputable def p_Model_thistle (_x1 : Int) (x2 : Int) (σ : w_M) : Prop := MI σ ∧ (x2 = 0 ∨ x2 = 1)
noncomputable def q_Model_thistle (x1 : Int) (x2 : Int) (σ : w_M) (x : Int) (σ' : w_M) : Prop := m_q (F_thistle (mS σ) x1 x2) (G_thistle (mS σ) x1 x2) σ x σ'
theorem fModel_send_0 : w_fe am_c184 0 1 (.aload 0) := ⟨rfl, rfl⟩
theorem fModel_send_1 : w_fe am_c184 1 2 (.iload 1) := ⟨rfl, rfl⟩
theorem fModel_send_2 : w_fe am_c184 2 3 (.invokestatic 181) := ⟨rfl, rfl⟩
theorem fModel_send_3 : w_if am_c184 3 4 .eq 19 := ⟨rfl, rfl⟩
theorem fModel_send_4 : w_fe am_c184 4 5 (.aload 0) := ⟨rfl, rfl⟩
theorem fModel_send_5 : w_fe am_c184 5 6 (.iload 2) := ⟨rfl, rfl⟩
theorem fModel_send_6 : w_fe am_c184 6 7 (.invokestatic 177) := ⟨rfl, rfl⟩
theorem fModel_send_7 : w_if am_c184 7 8 .eq 19 := ⟨rfl, rfl⟩
theorem fModel_send_8 : w_fe am_c184 8 9 (.aload 0) := ⟨rfl, rfl⟩
theorem fModel_send_9 : w_fe am_c184 9 10 (.bipush 21) := ⟨rfl, rfl⟩
theorem fModel_send_10 : w_fe am_c184 10 11 (.bipush 5) := ⟨rfl, rfl⟩
theorem fModel_send_11 : w_fe am_c184 11 12 (.iload 1) := ⟨rfl, rfl⟩
theorem fModel_send_12 : w_fe am_c184 12 13 (.imul) := ⟨rfl, rfl⟩
theorem fModel_send_13 : w_fe am_c184 13 14 (.iadd) := ⟨rfl, rfl⟩
theorem fModel_send_14 : w_fe am_c184 14 15 (.bipush 3) := ⟨rfl, rfl⟩
theorem fModel_send_15 : w_fe am_c184 15 16 (.iadd) := ⟨rfl, rfl⟩
theorem fModel_send_16 : w_fe am_c184 16 17 (.iload 2) := ⟨rfl, rfl⟩
theorem fModel_send_17 : w_fe am_c184 17 18 (.invokestatic 185) := ⟨rfl, rfl⟩
theorem fModel_send_18 : w_gt am_c184 18 20 := rfl
theorem fModel_send_19 : w_fe am_c184 19 20 (.bipush (-1)) := ⟨rfl, rfl⟩
theorem fModel_send_20 : w_fe am_c184 20 21 (.ireturn) := ⟨rfl, rfl⟩
set_option maxRecDepth 20000 in
theorem bModel_send_0 {xs : List Int} {d : Nat} {Q : Option w_V → w_M → Prop} {x1 : Int} {x2 : Int} {σ : w_M}
    (h : p_Model_isReaper x1 σ ∧ ((¬ (0 ≤ x1 ∧ x1 < σ 122 5) → Q (some (.inl (-1))) σ) ∧ ((0 ≤ x1 ∧ x1 < σ 122 5) → (p_Model_isStrip x2 σ ∧ ((¬ (0 ≤ x2 ∧ x2 < σ 122 4) → Q (some (.inl (-1))) σ) ∧ ((0 ≤ x2 ∧ x2 < σ 122 4) → (w_in (5 * x1) ∧ w_in (21 + (5 * x1)) ∧ w_in ((21 + (5 * x1)) + 3) ∧ p_Model_becomes ((21 + (5 * x1)) + 3) x2 σ ∧ (∀ (y1 : Int) (τ2 : w_M), q_Model_becomes ((21 + (5 * x1)) + 3) x2 σ y1 τ2 → Q (some (.inl y1)) τ2)))))))) : w_Call (xs, (d + 2)) 184 [.inr (.inr (9, 122)), .inl x1, .inl x2] σ Q :=
  (w_mk (mid := 184) (by decide) rfl rfl rfl rfl rfl (Nat.le_of_ble_eq_true rfl) ⟨rfl, Or.inl (by decide)⟩ (wi_aload0 fModel_send_0 (wi_iload1 fModel_send_1 (wi_call2 fModel_send_2 (Nat.le_of_ble_eq_true rfl) (k_Model_isReaper h.1 (wi_ifb_eq fModel_send_3 (fun c4 => (wi_bipush fModel_send_19 (wi_ret1 fModel_send_20 (h.2.1 c4)))) (fun c4 => (wi_aload0 fModel_send_4 (wi_iload2 fModel_send_5 (wi_call2 fModel_send_6 (Nat.le_of_ble_eq_true rfl) (k_Model_isStrip (h.2.2 c4).1 (wi_ifb_eq fModel_send_7 (fun c3 => (wi_bipush fModel_send_19 (wi_ret1 fModel_send_20 ((h.2.2 c4).2.1 c3)))) (fun c3 => (wi_aload0 fModel_send_8 (wi_bipush fModel_send_9 (wi_bipush fModel_send_10 (wi_iload1 fModel_send_11 (wi_imul fModel_send_12 ((h.2.2 c4).2.2 c3).1 (wi_iadd fModel_send_13 ((h.2.2 c4).2.2 c3).2.1 (wi_bipush fModel_send_14 (wi_iadd fModel_send_15 ((h.2.2 c4).2.2 c3).2.2.1 (wi_iload2 fModel_send_16 (wi_call3 fModel_send_17 (Nat.le_of_ble_eq_true rfl) (k_Model_becomes ((h.2.2 c4).2.2 c3).2.2.2.1 (fun y1 τ2 eτ2 => (wi_goto fModel_send_18 (wi_ret1 fModel_send_20 (((h.2.2 c4).2.2 c3).2.2.2.2 y1 τ2 eτ2))))))))))))))))))))))))))))
theorem fModel_whet_0 : w_fe am_c187 0 1 (.aload 0) := ⟨rfl, rfl⟩
theorem fModel_whet_1 : w_fe am_c187 1 2 (.iload 1) := ⟨rfl, rfl⟩
theorem fModel_whet_2 : w_fe am_c187 2 3 (.invokestatic 181) := ⟨rfl, rfl⟩
theorem fModel_whet_3 : w_if am_c187 3 4 .eq 21 := ⟨rfl, rfl⟩
theorem fModel_whet_4 : w_fe am_c187 4 5 (.iload 2) := ⟨rfl, rfl⟩
theorem fModel_whet_5 : w_fe am_c187 5 6 (.i2l) := ⟨rfl, rfl⟩
theorem fModel_whet_6 : w_fe am_c187 6 7 (.sipush 0) := ⟨rfl, rfl⟩
theorem fModel_whet_7 : w_fe am_c187 7 8 (.sipush 3) := ⟨rfl, rfl⟩
theorem fModel_whet_8 : w_fe am_c187 8 9 (.invokestatic 157) := ⟨rfl, rfl⟩
theorem fModel_whet_9 : w_if am_c187 9 10 .eq 21 := ⟨rfl, rfl⟩
theorem fModel_whet_10 : w_fe am_c187 10 11 (.aload 0) := ⟨rfl, rfl⟩
theorem fModel_whet_11 : w_fe am_c187 11 12 (.bipush 21) := ⟨rfl, rfl⟩
theorem fModel_whet_12 : w_fe am_c187 12 13 (.bipush 5) := ⟨rfl, rfl⟩
theorem fModel_whet_13 : w_fe am_c187 13 14 (.iload 1) := ⟨rfl, rfl⟩
theorem fModel_whet_14 : w_fe am_c187 14 15 (.imul) := ⟨rfl, rfl⟩
theorem fModel_whet_15 : w_fe am_c187 15 16 (.iadd) := ⟨rfl, rfl⟩
theorem fModel_whet_16 : w_fe am_c187 16 17 (.bipush 2) := ⟨rfl, rfl⟩
theorem fModel_whet_17 : w_fe am_c187 17 18 (.iadd) := ⟨rfl, rfl⟩
theorem fModel_whet_18 : w_fe am_c187 18 19 (.iload 2) := ⟨rfl, rfl⟩
theorem fModel_whet_19 : w_fe am_c187 19 20 (.invokestatic 185) := ⟨rfl, rfl⟩
theorem fModel_whet_20 : w_gt am_c187 20 22 := rfl
theorem fModel_whet_21 : w_fe am_c187 21 22 (.bipush (-1)) := ⟨rfl, rfl⟩
theorem fModel_whet_22 : w_fe am_c187 22 23 (.ireturn) := ⟨rfl, rfl⟩
set_option maxRecDepth 20000 in
theorem bModel_whet_0 {xs : List Int} {d : Nat} {Q : Option w_V → w_M → Prop} {x1 : Int} {x2 : Int} {σ : w_M}
    (h : p_Model_isReaper x1 σ ∧ ((¬ (0 ≤ x1 ∧ x1 < σ 122 5) → Q (some (.inl (-1))) σ) ∧ ((0 ≤ x1 ∧ x1 < σ 122 5) → ((¬ (0 ≤ x2 ∧ x2 ≤ 3) → Q (some (.inl (-1))) σ) ∧ ((0 ≤ x2 ∧ x2 ≤ 3) → (w_in (5 * x1) ∧ w_in (21 + (5 * x1)) ∧ w_in ((21 + (5 * x1)) + 2) ∧ p_Model_becomes ((21 + (5 * x1)) + 2) x2 σ ∧ (∀ (y1 : Int) (τ2 : w_M), q_Model_becomes ((21 + (5 * x1)) + 2) x2 σ y1 τ2 → Q (some (.inl y1)) τ2))))))) : w_Call (xs, (d + 2)) 187 [.inr (.inr (9, 122)), .inl x1, .inl x2] σ Q :=
  (w_mk (mid := 187) (by decide) rfl rfl rfl rfl rfl (Nat.le_of_ble_eq_true rfl) ⟨rfl, Or.inl (by decide)⟩ (wi_aload0 fModel_whet_0 (wi_iload1 fModel_whet_1 (wi_call2 fModel_whet_2 (Nat.le_of_ble_eq_true rfl) (k_Model_isReaper h.1 (wi_ifb_eq fModel_whet_3 (fun c4 => (wi_bipush fModel_whet_21 (wi_ret1 fModel_whet_22 (h.2.1 c4)))) (fun c4 => (wi_iload2 fModel_whet_4 (wi_i2l fModel_whet_5 (wi_sipush fModel_whet_6 (wi_sipush fModel_whet_7 (wi_call3 fModel_whet_8 (Nat.le_of_ble_eq_true rfl) (k_Model_in (wi_ifb_eq fModel_whet_9 (fun c3 => (wi_bipush fModel_whet_21 (wi_ret1 fModel_whet_22 ((h.2.2 c4).1 c3)))) (fun c3 => (wi_aload0 fModel_whet_10 (wi_bipush fModel_whet_11 (wi_bipush fModel_whet_12 (wi_iload1 fModel_whet_13 (wi_imul fModel_whet_14 ((h.2.2 c4).2 c3).1 (wi_iadd fModel_whet_15 ((h.2.2 c4).2 c3).2.1 (wi_bipush fModel_whet_16 (wi_iadd fModel_whet_17 ((h.2.2 c4).2 c3).2.2.1 (wi_iload2 fModel_whet_18 (wi_call3 fModel_whet_19 (Nat.le_of_ble_eq_true rfl) (k_Model_becomes ((h.2.2 c4).2 c3).2.2.2.1 (fun y1 τ2 eτ2 => (wi_goto fModel_whet_20 (wi_ret1 fModel_whet_22 (((h.2.2 c4).2 c3).2.2.2.2 y1 τ2 eτ2))))))))))))))))))))))))))))))
theorem fModel_fill_0 : w_fe am_c188 0 1 (.aload 0) := ⟨rfl, rfl⟩
theorem fModel_fill_1 : w_fe am_c188 1 2 (.iload 1) := ⟨rfl, rfl⟩
theorem fModel_fill_2 : w_fe am_c188 2 3 (.invokestatic 181) := ⟨rfl, rfl⟩
theorem fModel_fill_3 : w_if am_c188 3 4 .eq 21 := ⟨rfl, rfl⟩
theorem fModel_fill_4 : w_fe am_c188 4 5 (.iload 2) := ⟨rfl, rfl⟩
theorem fModel_fill_5 : w_fe am_c188 5 6 (.i2l) := ⟨rfl, rfl⟩
theorem fModel_fill_6 : w_fe am_c188 6 7 (.sipush 0) := ⟨rfl, rfl⟩
theorem fModel_fill_7 : w_fe am_c188 7 8 (.sipush 9) := ⟨rfl, rfl⟩
theorem fModel_fill_8 : w_fe am_c188 8 9 (.invokestatic 157) := ⟨rfl, rfl⟩
theorem fModel_fill_9 : w_if am_c188 9 10 .eq 21 := ⟨rfl, rfl⟩
theorem fModel_fill_10 : w_fe am_c188 10 11 (.aload 0) := ⟨rfl, rfl⟩
theorem fModel_fill_11 : w_fe am_c188 11 12 (.bipush 21) := ⟨rfl, rfl⟩
theorem fModel_fill_12 : w_fe am_c188 12 13 (.bipush 5) := ⟨rfl, rfl⟩
theorem fModel_fill_13 : w_fe am_c188 13 14 (.iload 1) := ⟨rfl, rfl⟩
theorem fModel_fill_14 : w_fe am_c188 14 15 (.imul) := ⟨rfl, rfl⟩
theorem fModel_fill_15 : w_fe am_c188 15 16 (.iadd) := ⟨rfl, rfl⟩
theorem fModel_fill_16 : w_fe am_c188 16 17 (.bipush 1) := ⟨rfl, rfl⟩
theorem fModel_fill_17 : w_fe am_c188 17 18 (.iadd) := ⟨rfl, rfl⟩
theorem fModel_fill_18 : w_fe am_c188 18 19 (.iload 2) := ⟨rfl, rfl⟩
theorem fModel_fill_19 : w_fe am_c188 19 20 (.invokestatic 185) := ⟨rfl, rfl⟩
theorem fModel_fill_20 : w_gt am_c188 20 22 := rfl
theorem fModel_fill_21 : w_fe am_c188 21 22 (.bipush (-1)) := ⟨rfl, rfl⟩
theorem fModel_fill_22 : w_fe am_c188 22 23 (.ireturn) := ⟨rfl, rfl⟩
set_option maxRecDepth 20000 in
theorem bModel_fill_0 {xs : List Int} {d : Nat} {Q : Option w_V → w_M → Prop} {x1 : Int} {x2 : Int} {σ : w_M}
    (h : p_Model_isReaper x1 σ ∧ ((¬ (0 ≤ x1 ∧ x1 < σ 122 5) → Q (some (.inl (-1))) σ) ∧ ((0 ≤ x1 ∧ x1 < σ 122 5) → ((¬ (0 ≤ x2 ∧ x2 ≤ 9) → Q (some (.inl (-1))) σ) ∧ ((0 ≤ x2 ∧ x2 ≤ 9) → (w_in (5 * x1) ∧ w_in (21 + (5 * x1)) ∧ w_in ((21 + (5 * x1)) + 1) ∧ p_Model_becomes ((21 + (5 * x1)) + 1) x2 σ ∧ (∀ (y1 : Int) (τ2 : w_M), q_Model_becomes ((21 + (5 * x1)) + 1) x2 σ y1 τ2 → Q (some (.inl y1)) τ2))))))) : w_Call (xs, (d + 2)) 188 [.inr (.inr (9, 122)), .inl x1, .inl x2] σ Q :=
  (w_mk (mid := 188) (by decide) rfl rfl rfl rfl rfl (Nat.le_of_ble_eq_true rfl) ⟨rfl, Or.inl (by decide)⟩ (wi_aload0 fModel_fill_0 (wi_iload1 fModel_fill_1 (wi_call2 fModel_fill_2 (Nat.le_of_ble_eq_true rfl) (k_Model_isReaper h.1 (wi_ifb_eq fModel_fill_3 (fun c4 => (wi_bipush fModel_fill_21 (wi_ret1 fModel_fill_22 (h.2.1 c4)))) (fun c4 => (wi_iload2 fModel_fill_4 (wi_i2l fModel_fill_5 (wi_sipush fModel_fill_6 (wi_sipush fModel_fill_7 (wi_call3 fModel_fill_8 (Nat.le_of_ble_eq_true rfl) (k_Model_in (wi_ifb_eq fModel_fill_9 (fun c3 => (wi_bipush fModel_fill_21 (wi_ret1 fModel_fill_22 ((h.2.2 c4).1 c3)))) (fun c3 => (wi_aload0 fModel_fill_10 (wi_bipush fModel_fill_11 (wi_bipush fModel_fill_12 (wi_iload1 fModel_fill_13 (wi_imul fModel_fill_14 ((h.2.2 c4).2 c3).1 (wi_iadd fModel_fill_15 ((h.2.2 c4).2 c3).2.1 (wi_bipush fModel_fill_16 (wi_iadd fModel_fill_17 ((h.2.2 c4).2 c3).2.2.1 (wi_iload2 fModel_fill_18 (wi_call3 fModel_fill_19 (Nat.le_of_ble_eq_true rfl) (k_Model_becomes ((h.2.2 c4).2 c3).2.2.2.1 (fun y1 τ2 eτ2 => (wi_goto fModel_fill_20 (wi_ret1 fModel_fill_22 (((h.2.2 c4).2 c3).2.2.2.2 y1 τ2 eτ2))))))))))))))))))))))))))))))
theorem fModel_own_0 : w_fe am_c191 0 1 (.aload 0) := ⟨rfl, rfl⟩
theorem fModel_own_1 : w_fe am_c191 1 2 (.iload 1) := ⟨rfl, rfl⟩
theorem fModel_own_2 : w_fe am_c191 2 3 (.invokestatic 177) := ⟨rfl, rfl⟩
theorem fModel_own_3 : w_if am_c191 3 4 .eq 14 := ⟨rfl, rfl⟩
theorem fModel_own_4 : w_fe am_c191 4 5 (.iload 2) := ⟨rfl, rfl⟩
theorem fModel_own_5 : w_fe am_c191 5 6 (.invokestatic 183) := ⟨rfl, rfl⟩
theorem fModel_own_6 : w_if am_c191 6 7 .eq 14 := ⟨rfl, rfl⟩
theorem fModel_own_7 : w_fe am_c191 7 8 (.aload 0) := ⟨rfl, rfl⟩
theorem fModel_own_8 : w_fe am_c191 8 9 (.bipush 7) := ⟨rfl, rfl⟩
theorem fModel_own_9 : w_fe am_c191 9 10 (.iload 1) := ⟨rfl, rfl⟩
theorem fModel_own_10 : w_fe am_c191 10 11 (.iadd) := ⟨rfl, rfl⟩
theorem fModel_own_11 : w_fe am_c191 11 12 (.iload 2) := ⟨rfl, rfl⟩
theorem fModel_own_12 : w_fe am_c191 12 13 (.invokestatic 185) := ⟨rfl, rfl⟩
theorem fModel_own_13 : w_gt am_c191 13 15 := rfl
theorem fModel_own_14 : w_fe am_c191 14 15 (.bipush (-1)) := ⟨rfl, rfl⟩
theorem fModel_own_15 : w_fe am_c191 15 16 (.ireturn) := ⟨rfl, rfl⟩
set_option maxRecDepth 20000 in
theorem bModel_own_0 {xs : List Int} {d : Nat} {Q : Option w_V → w_M → Prop} {x1 : Int} {x2 : Int} {σ : w_M}
    (h : p_Model_isStrip x1 σ ∧ ((¬ (0 ≤ x1 ∧ x1 < σ 122 4) → Q (some (.inl (-1))) σ) ∧ ((0 ≤ x1 ∧ x1 < σ 122 4) → ((¬ (0 ≤ x2 ∧ x2 ≤ 3) → Q (some (.inl (-1))) σ) ∧ ((0 ≤ x2 ∧ x2 ≤ 3) → (w_in (7 + x1) ∧ p_Model_becomes (7 + x1) x2 σ ∧ (∀ (y1 : Int) (τ2 : w_M), q_Model_becomes (7 + x1) x2 σ y1 τ2 → Q (some (.inl y1)) τ2))))))) : w_Call (xs, (d + 2)) 191 [.inr (.inr (9, 122)), .inl x1, .inl x2] σ Q :=
  (w_mk (mid := 191) (by decide) rfl rfl rfl rfl rfl (Nat.le_of_ble_eq_true rfl) ⟨rfl, Or.inl (by decide)⟩ (wi_aload0 fModel_own_0 (wi_iload1 fModel_own_1 (wi_call2 fModel_own_2 (Nat.le_of_ble_eq_true rfl) (k_Model_isStrip h.1 (wi_ifb_eq fModel_own_3 (fun c4 => (wi_bipush fModel_own_14 (wi_ret1 fModel_own_15 (h.2.1 c4)))) (fun c4 => (wi_iload2 fModel_own_4 (wi_call1 fModel_own_5 (Nat.le_of_ble_eq_true rfl) (k_Model_isOwner (wi_ifb_eq fModel_own_6 (fun c3 => (wi_bipush fModel_own_14 (wi_ret1 fModel_own_15 ((h.2.2 c4).1 c3)))) (fun c3 => (wi_aload0 fModel_own_7 (wi_bipush fModel_own_8 (wi_iload1 fModel_own_9 (wi_iadd fModel_own_10 ((h.2.2 c4).2 c3).1 (wi_iload2 fModel_own_11 (wi_call3 fModel_own_12 (Nat.le_of_ble_eq_true rfl) (k_Model_becomes ((h.2.2 c4).2 c3).2.1 (fun y1 τ2 eτ2 => (wi_goto fModel_own_13 (wi_ret1 fModel_own_15 (((h.2.2 c4).2 c3).2.2 y1 τ2 eτ2)))))))))))))))))))))))
theorem fModel_grow_0 : w_fe am_c192 0 1 (.aload 0) := ⟨rfl, rfl⟩
theorem fModel_grow_1 : w_fe am_c192 1 2 (.iload 1) := ⟨rfl, rfl⟩
theorem fModel_grow_2 : w_fe am_c192 2 3 (.invokestatic 177) := ⟨rfl, rfl⟩
theorem fModel_grow_3 : w_if am_c192 3 4 .eq 17 := ⟨rfl, rfl⟩
theorem fModel_grow_4 : w_fe am_c192 4 5 (.iload 2) := ⟨rfl, rfl⟩
theorem fModel_grow_5 : w_fe am_c192 5 6 (.i2l) := ⟨rfl, rfl⟩
theorem fModel_grow_6 : w_fe am_c192 6 7 (.sipush 0) := ⟨rfl, rfl⟩
theorem fModel_grow_7 : w_fe am_c192 7 8 (.sipush 40) := ⟨rfl, rfl⟩
theorem fModel_grow_8 : w_fe am_c192 8 9 (.invokestatic 157) := ⟨rfl, rfl⟩
theorem fModel_grow_9 : w_if am_c192 9 10 .eq 17 := ⟨rfl, rfl⟩
theorem fModel_grow_10 : w_fe am_c192 10 11 (.aload 0) := ⟨rfl, rfl⟩
theorem fModel_grow_11 : w_fe am_c192 11 12 (.bipush 0) := ⟨rfl, rfl⟩
theorem fModel_grow_12 : w_fe am_c192 12 13 (.iload 1) := ⟨rfl, rfl⟩
theorem fModel_grow_13 : w_fe am_c192 13 14 (.iadd) := ⟨rfl, rfl⟩
theorem fModel_grow_14 : w_fe am_c192 14 15 (.iload 2) := ⟨rfl, rfl⟩
theorem fModel_grow_15 : w_fe am_c192 15 16 (.invokestatic 185) := ⟨rfl, rfl⟩
theorem fModel_grow_16 : w_gt am_c192 16 18 := rfl
theorem fModel_grow_17 : w_fe am_c192 17 18 (.bipush (-1)) := ⟨rfl, rfl⟩
theorem fModel_grow_18 : w_fe am_c192 18 19 (.ireturn) := ⟨rfl, rfl⟩
set_option maxRecDepth 20000 in
theorem bModel_grow_0 {xs : List Int} {d : Nat} {Q : Option w_V → w_M → Prop} {x1 : Int} {x2 : Int} {σ : w_M}
    (h : p_Model_isStrip x1 σ ∧ ((¬ (0 ≤ x1 ∧ x1 < σ 122 4) → Q (some (.inl (-1))) σ) ∧ ((0 ≤ x1 ∧ x1 < σ 122 4) → ((¬ (0 ≤ x2 ∧ x2 ≤ 40) → Q (some (.inl (-1))) σ) ∧ ((0 ≤ x2 ∧ x2 ≤ 40) → (w_in (0 + x1) ∧ p_Model_becomes (0 + x1) x2 σ ∧ (∀ (y1 : Int) (τ2 : w_M), q_Model_becomes (0 + x1) x2 σ y1 τ2 → Q (some (.inl y1)) τ2))))))) : w_Call (xs, (d + 2)) 192 [.inr (.inr (9, 122)), .inl x1, .inl x2] σ Q :=
  (w_mk (mid := 192) (by decide) rfl rfl rfl rfl rfl (Nat.le_of_ble_eq_true rfl) ⟨rfl, Or.inl (by decide)⟩ (wi_aload0 fModel_grow_0 (wi_iload1 fModel_grow_1 (wi_call2 fModel_grow_2 (Nat.le_of_ble_eq_true rfl) (k_Model_isStrip h.1 (wi_ifb_eq fModel_grow_3 (fun c4 => (wi_bipush fModel_grow_17 (wi_ret1 fModel_grow_18 (h.2.1 c4)))) (fun c4 => (wi_iload2 fModel_grow_4 (wi_i2l fModel_grow_5 (wi_sipush fModel_grow_6 (wi_sipush fModel_grow_7 (wi_call3 fModel_grow_8 (Nat.le_of_ble_eq_true rfl) (k_Model_in (wi_ifb_eq fModel_grow_9 (fun c3 => (wi_bipush fModel_grow_17 (wi_ret1 fModel_grow_18 ((h.2.2 c4).1 c3)))) (fun c3 => (wi_aload0 fModel_grow_10 (wi_bipush fModel_grow_11 (wi_iload1 fModel_grow_12 (wi_iadd fModel_grow_13 ((h.2.2 c4).2 c3).1 (wi_iload2 fModel_grow_14 (wi_call3 fModel_grow_15 (Nat.le_of_ble_eq_true rfl) (k_Model_becomes ((h.2.2 c4).2 c3).2.1 (fun y1 τ2 eτ2 => (wi_goto fModel_grow_16 (wi_ret1 fModel_grow_18 (((h.2.2 c4).2 c3).2.2 y1 τ2 eτ2))))))))))))))))))))))))))
theorem fModel_thistle_0 : w_fe am_c190 0 1 (.aload 0) := ⟨rfl, rfl⟩
theorem fModel_thistle_1 : w_fe am_c190 1 2 (.iload 1) := ⟨rfl, rfl⟩
theorem fModel_thistle_2 : w_fe am_c190 2 3 (.invokestatic 177) := ⟨rfl, rfl⟩
theorem fModel_thistle_3 : w_if am_c190 3 4 .eq 12 := ⟨rfl, rfl⟩
theorem fModel_thistle_4 : w_fe am_c190 4 5 (.aload 0) := ⟨rfl, rfl⟩
theorem fModel_thistle_5 : w_fe am_c190 5 6 (.bipush 14) := ⟨rfl, rfl⟩
theorem fModel_thistle_6 : w_fe am_c190 6 7 (.iload 1) := ⟨rfl, rfl⟩
theorem fModel_thistle_7 : w_fe am_c190 7 8 (.iadd) := ⟨rfl, rfl⟩
theorem fModel_thistle_8 : w_fe am_c190 8 9 (.iload 2) := ⟨rfl, rfl⟩
theorem fModel_thistle_9 : w_fe am_c190 9 10 (.invokestatic 179) := ⟨rfl, rfl⟩
theorem fModel_thistle_10 : w_fe am_c190 10 11 (.invokestatic 185) := ⟨rfl, rfl⟩
theorem fModel_thistle_11 : w_gt am_c190 11 13 := rfl
theorem fModel_thistle_12 : w_fe am_c190 12 13 (.bipush (-1)) := ⟨rfl, rfl⟩
theorem fModel_thistle_13 : w_fe am_c190 13 14 (.ireturn) := ⟨rfl, rfl⟩
set_option maxRecDepth 20000 in
theorem bModel_thistle_0 {xs : List Int} {d : Nat} {Q : Option w_V → w_M → Prop} {x1 : Int} {x2 : Int} {σ : w_M}
    (h : p_Model_isStrip x1 σ ∧ ((¬ (0 ≤ x1 ∧ x1 < σ 122 4) → Q (some (.inl (-1))) σ) ∧ ((0 ≤ x1 ∧ x1 < σ 122 4) → (w_in (14 + x1) ∧ (∀ (y1 : Int), y1 = v_Model_flag x2 → (p_Model_becomes (14 + x1) y1 σ ∧ (∀ (y2 : Int) (τ3 : w_M), q_Model_becomes (14 + x1) y1 σ y2 τ3 → Q (some (.inl y2)) τ3))))))) : w_Call (xs, (d + 2)) 190 [.inr (.inr (9, 122)), .inl x1, .inl x2] σ Q :=
  (w_mk (mid := 190) (by decide) rfl rfl rfl rfl rfl (Nat.le_of_ble_eq_true rfl) ⟨rfl, Or.inl (by decide)⟩ (wi_aload0 fModel_thistle_0 (wi_iload1 fModel_thistle_1 (wi_call2 fModel_thistle_2 (Nat.le_of_ble_eq_true rfl) (k_Model_isStrip h.1 (wi_ifb_eq fModel_thistle_3 (fun c4 => (wi_bipush fModel_thistle_12 (wi_ret1 fModel_thistle_13 (h.2.1 c4)))) (fun c4 => (wi_aload0 fModel_thistle_4 (wi_bipush fModel_thistle_5 (wi_iload1 fModel_thistle_6 (wi_iadd fModel_thistle_7 (h.2.2 c4).1 (wi_iload2 fModel_thistle_8 (wi_call1 fModel_thistle_9 (Nat.le_of_ble_eq_true rfl) (k_Model_flag (wi_call3 fModel_thistle_10 (Nat.le_of_ble_eq_true rfl) (k_Model_becomes ((h.2.2 c4).2 _ rfl).1 (fun y2 τ3 eτ3 => (wi_goto fModel_thistle_11 (wi_ret1 fModel_thistle_13 (((h.2.2 c4).2 _ rfl).2 y2 τ3 eτ3))))))))))))))))))))
theorem k_Model_send {xs : List Int} {d : Nat} {Q : Option w_V → w_M → Prop} {x1 : Int} {x2 : Int} {σ : w_M} (hp : p_Model_send x1 x2 σ) (hQ : ∀ (x : Int) (σ' : w_M), q_Model_send x1 x2 σ x σ' → Q (some (.inl x)) σ') : w_Call (xs, d + 2) 184 [.inr (.inr (9, 122)), .inl x1, .inl x2] σ Q := by
  have hM : MI σ := hp
  have hn := hM.n
  have h04 : w_am σ 123 0 0 4 = σ 122 4 := rfl
  unfold q_Model_send F_send G_send at hQ
  refine bModel_send_0 ⟨hn, fun c => hQ _ _ ⟨m_no hM (fun q => c q.1), Or.inl rfl⟩, fun c => ⟨hM.s, fun c2 => hQ _ _ ⟨m_no hM (fun q => c2 q.2), Or.inl rfl⟩, fun c2 => ⟨⟨by omega, by omega⟩, ⟨by omega, by omega⟩, ⟨by omega, by omega⟩, ⟨by omega, by omega⟩, fun y τ hq => hQ _ _ ?_⟩⟩⟩
  refine ⟨?_, Or.inr ⟨by omega, by rw [hq.2]; exact congrArg (fun k => w_up σ 123 k x2) (by omega)⟩⟩
  refine m_set hM ⟨c, c2⟩ (by rw [m_rl37 (by decide) (by decide)]; omega) (by show _ = 0 + (24 + 5 * x1.toNat); omega) ?_ hq.2 hq.1
  refine n_WF_up hM.ok ?_ ?_ ?_ ?_ ?_ ?_ ?_ ?_ <;> (intros; omega)
theorem k_Model_whet {xs : List Int} {d : Nat} {Q : Option w_V → w_M → Prop} {x1 : Int} {x2 : Int} {σ : w_M} (hp : p_Model_whet x1 x2 σ) (hQ : ∀ (x : Int) (σ' : w_M), q_Model_whet x1 x2 σ x σ' → Q (some (.inl x)) σ') : w_Call (xs, d + 2) 187 [.inr (.inr (9, 122)), .inl x1, .inl x2] σ Q := by
  have hM : MI σ := hp
  have hn := hM.n
  unfold q_Model_whet F_whet G_whet at hQ
  refine bModel_whet_0 ⟨hn, fun c => hQ _ _ (m_no hM (fun q => c q.1)), fun c => ⟨fun c2 => hQ _ _ (m_no hM (fun q => c2 q.2)), fun c2 => ⟨⟨by omega, by omega⟩, ⟨by omega, by omega⟩, ⟨by omega, by omega⟩, ⟨by omega, by omega⟩, fun y τ hq => hQ _ _ ?_⟩⟩⟩
  refine m_set hM ⟨c, c2⟩ (by rw [m_rl37 (by decide) (by decide)]; omega) (by show _ = 0 + (23 + 5 * x1.toNat); omega) ?_ hq.2 hq.1
  refine n_WF_up hM.ok ?_ ?_ ?_ ?_ ?_ ?_ ?_ ?_ <;> (intros; omega)
theorem k_Model_fill {xs : List Int} {d : Nat} {Q : Option w_V → w_M → Prop} {x1 : Int} {x2 : Int} {σ : w_M} (hp : p_Model_fill x1 x2 σ) (hQ : ∀ (x : Int) (σ' : w_M), q_Model_fill x1 x2 σ x σ' → Q (some (.inl x)) σ') : w_Call (xs, d + 2) 188 [.inr (.inr (9, 122)), .inl x1, .inl x2] σ Q := by
  have hM : MI σ := hp
  have hn := hM.n
  unfold q_Model_fill F_fill G_fill at hQ
  refine bModel_fill_0 ⟨hn, fun c => hQ _ _ (m_no hM (fun q => c q.1)), fun c => ⟨fun c2 => hQ _ _ (m_no hM (fun q => c2 q.2)), fun c2 => ⟨⟨by omega, by omega⟩, ⟨by omega, by omega⟩, ⟨by omega, by omega⟩, ⟨by omega, by omega⟩, fun y τ hq => hQ _ _ ?_⟩⟩⟩
  refine m_set hM ⟨c, c2⟩ (by rw [m_rl37 (by decide) (by decide)]; omega) (by show _ = 0 + (22 + 5 * x1.toNat); omega) ?_ hq.2 hq.1
  refine n_WF_up hM.ok ?_ ?_ ?_ ?_ ?_ ?_ ?_ ?_ <;> (intros; omega)
theorem k_Model_own {xs : List Int} {d : Nat} {Q : Option w_V → w_M → Prop} {x1 : Int} {x2 : Int} {σ : w_M} (hp : p_Model_own x1 x2 σ) (hQ : ∀ (x : Int) (σ' : w_M), q_Model_own x1 x2 σ x σ' → Q (some (.inl x)) σ') : w_Call (xs, d + 2) 191 [.inr (.inr (9, 122)), .inl x1, .inl x2] σ Q := by
  have hM : MI σ := hp
  have hn := hM.s
  unfold q_Model_own F_own G_own at hQ
  refine bModel_own_0 ⟨hn, fun c => hQ _ _ (m_no hM (fun q => c q.1)), fun c => ⟨fun c2 => hQ _ _ (m_no hM (fun q => c2 q.2)), fun c2 => ⟨⟨by omega, by omega⟩, ⟨by omega, by omega⟩, fun y τ hq => hQ _ _ ?_⟩⟩⟩
  refine m_set hM ⟨c, c2⟩ (by rw [m_rl12 (by decide) (by decide)]; omega) (by show _ = 0 + (7 + x1.toNat); omega) ?_ hq.2 hq.1
  refine n_WF_up hM.ok ?_ ?_ ?_ ?_ ?_ ?_ ?_ ?_ <;> (intros; omega)
theorem k_Model_grow {xs : List Int} {d : Nat} {Q : Option w_V → w_M → Prop} {x1 : Int} {x2 : Int} {σ : w_M} (hp : p_Model_grow x1 x2 σ) (hQ : ∀ (x : Int) (σ' : w_M), q_Model_grow x1 x2 σ x σ' → Q (some (.inl x)) σ') : w_Call (xs, d + 2) 192 [.inr (.inr (9, 122)), .inl x1, .inl x2] σ Q := by
  have hM : MI σ := hp
  have hn := hM.s
  unfold q_Model_grow F_grow G_grow at hQ
  refine bModel_grow_0 ⟨hn, fun c => hQ _ _ (m_no hM (fun q => c q.1)), fun c => ⟨fun c2 => hQ _ _ (m_no hM (fun q => c2 q.2)), fun c2 => ⟨⟨by omega, by omega⟩, ⟨by omega, by omega⟩, fun y τ hq => hQ _ _ ?_⟩⟩⟩
  refine m_set hM ⟨c, c2⟩ (by rw [m_rl12 (by decide) (by decide)]; omega) (by show _ = 0 + x1.toNat; omega) ?_ hq.2 hq.1
  refine n_WF_up hM.ok ?_ ?_ ?_ ?_ ?_ ?_ ?_ ?_ <;> (intros; omega)
theorem k_Model_thistle {xs : List Int} {d : Nat} {Q : Option w_V → w_M → Prop} {x1 : Int} {x2 : Int} {σ : w_M} (hp : p_Model_thistle x1 x2 σ) (hQ : ∀ (x : Int) (σ' : w_M), q_Model_thistle x1 x2 σ x σ' → Q (some (.inl x)) σ') : w_Call (xs, d + 2) 190 [.inr (.inr (9, 122)), .inl x1, .inl x2] σ Q := by
  obtain ⟨hM, hb⟩ := hp
  have hn := hM.s
  unfold q_Model_thistle F_thistle G_thistle at hQ
  refine bModel_thistle_0 ⟨hn, fun c => hQ _ _ (m_no hM c), fun c => ⟨⟨by omega, by omega⟩, fun y ey => ⟨⟨by omega, by omega⟩, fun z τ hq => hQ _ _ ?_⟩⟩⟩
  have e : y = x2 := by rw [ey]; unfold v_Model_flag; rcases hb with rfl | rfl <;> rfl
  rw [e] at hq
  refine m_set hM c (by rw [m_rl9]; omega) (by show _ = 0 + (14 + x1.toNat); omega) ?_ hq.2 hq.1
  refine n_WF_up hM.ok ?_ ?_ ?_ ?_ ?_ ?_ ?_ ?_ <;> (intros; omega)
end
section
/-! The reference's calls: lend, cloud, hours -/
noncomputable def p_Model_lend (_x1 : Int) (_x2 : Int) (_x3 : Int) (σ : w_M) : Prop := MI σ
noncomputable def q_Model_lend (x1 : Int) (x2 : Int) (x3 : Int) (σ : w_M) (x : Int) (σ' : w_M) : Prop := m_q (F_lend (mS σ) x1 x2 x3) (G_lend (mS σ) x1 x2 x3) σ x σ'
theorem fModel_lend_0 : w_fe am_c186 0 1 (.aload 0) := ⟨rfl, rfl⟩
theorem fModel_lend_1 : w_fe am_c186 1 2 (.iload 1) := ⟨rfl, rfl⟩
theorem fModel_lend_2 : w_fe am_c186 2 3 (.invokestatic 181) := ⟨rfl, rfl⟩
theorem fModel_lend_3 : w_if am_c186 3 4 .eq 17 := ⟨rfl, rfl⟩
theorem fModel_lend_4 : w_fe am_c186 4 5 (.aload 0) := ⟨rfl, rfl⟩
theorem fModel_lend_5 : w_fe am_c186 5 6 (.iload 2) := ⟨rfl, rfl⟩
theorem fModel_lend_6 : w_fe am_c186 6 7 (.invokestatic 181) := ⟨rfl, rfl⟩
theorem fModel_lend_7 : w_if am_c186 7 8 .eq 17 := ⟨rfl, rfl⟩
theorem fModel_lend_8 : w_fe am_c186 8 9 (.iload 1) := ⟨rfl, rfl⟩
theorem fModel_lend_9 : w_fe am_c186 9 10 (.iload 2) := ⟨rfl, rfl⟩
theorem fModel_lend_10 : w_ic am_c186 10 11 .eq 17 := ⟨rfl, rfl⟩
theorem fModel_lend_11 : w_fe am_c186 11 12 (.iload 3) := ⟨rfl, rfl⟩
theorem fModel_lend_12 : w_fe am_c186 12 13 (.i2l) := ⟨rfl, rfl⟩
theorem fModel_lend_13 : w_fe am_c186 13 14 (.sipush 0) := ⟨rfl, rfl⟩
theorem fModel_lend_14 : w_fe am_c186 14 15 (.sipush 9) := ⟨rfl, rfl⟩
theorem fModel_lend_15 : w_fe am_c186 15 16 (.invokestatic 157) := ⟨rfl, rfl⟩
theorem fModel_lend_16 : w_if am_c186 16 17 .ne 19 := ⟨rfl, rfl⟩
theorem fModel_lend_17 : w_fe am_c186 17 18 (.bipush (-1)) := ⟨rfl, rfl⟩
theorem fModel_lend_18 : w_fe am_c186 18 19 (.ireturn) := ⟨rfl, rfl⟩
theorem fModel_lend_19 : w_fe am_c186 19 20 (.bipush 21) := ⟨rfl, rfl⟩
theorem fModel_lend_20 : w_fe am_c186 20 21 (.bipush 5) := ⟨rfl, rfl⟩
theorem fModel_lend_21 : w_fe am_c186 21 22 (.iload 1) := ⟨rfl, rfl⟩
theorem fModel_lend_22 : w_fe am_c186 22 23 (.imul) := ⟨rfl, rfl⟩
theorem fModel_lend_23 : w_fe am_c186 23 24 (.iadd) := ⟨rfl, rfl⟩
theorem fModel_lend_24 : w_fe am_c186 24 25 (.istore 4) := ⟨rfl, rfl⟩
theorem fModel_lend_25 : w_fe am_c186 25 26 (.bipush 21) := ⟨rfl, rfl⟩
theorem fModel_lend_26 : w_fe am_c186 26 27 (.bipush 5) := ⟨rfl, rfl⟩
theorem fModel_lend_27 : w_fe am_c186 27 28 (.iload 2) := ⟨rfl, rfl⟩
theorem fModel_lend_28 : w_fe am_c186 28 29 (.imul) := ⟨rfl, rfl⟩
theorem fModel_lend_29 : w_fe am_c186 29 30 (.iadd) := ⟨rfl, rfl⟩
theorem fModel_lend_30 : w_fe am_c186 30 31 (.istore 5) := ⟨rfl, rfl⟩
theorem fModel_lend_31 : w_fe am_c186 31 32 (.aload 0) := ⟨rfl, rfl⟩
theorem fModel_lend_32 : w_fe am_c186 32 33 (.getfield 900) := ⟨rfl, rfl⟩
theorem fModel_lend_33 : w_fe am_c186 33 34 (.iload 4) := ⟨rfl, rfl⟩
theorem fModel_lend_34 : w_fe am_c186 34 35 (.bipush 3) := ⟨rfl, rfl⟩
theorem fModel_lend_35 : w_fe am_c186 35 36 (.iadd) := ⟨rfl, rfl⟩
theorem fModel_lend_36 : w_fe am_c186 36 37 (.iaload) := ⟨rfl, rfl⟩
theorem fModel_lend_37 : w_fe am_c186 37 38 (.aload 0) := ⟨rfl, rfl⟩
theorem fModel_lend_38 : w_fe am_c186 38 39 (.getfield 900) := ⟨rfl, rfl⟩
theorem fModel_lend_39 : w_fe am_c186 39 40 (.iload 5) := ⟨rfl, rfl⟩
theorem fModel_lend_40 : w_fe am_c186 40 41 (.bipush 3) := ⟨rfl, rfl⟩
theorem fModel_lend_41 : w_fe am_c186 41 42 (.iadd) := ⟨rfl, rfl⟩
theorem fModel_lend_42 : w_fe am_c186 42 43 (.iaload) := ⟨rfl, rfl⟩
theorem fModel_lend_43 : w_fe am_c186 43 44 (.isub) := ⟨rfl, rfl⟩
theorem fModel_lend_44 : w_fe am_c186 44 45 (.i2l) := ⟨rfl, rfl⟩
theorem fModel_lend_45 : w_fe am_c186 45 46 (.sipush (-1)) := ⟨rfl, rfl⟩
theorem fModel_lend_46 : w_fe am_c186 46 47 (.sipush 1) := ⟨rfl, rfl⟩
theorem fModel_lend_47 : w_fe am_c186 47 48 (.invokestatic 157) := ⟨rfl, rfl⟩
theorem fModel_lend_48 : w_if am_c186 48 49 .eq 57 := ⟨rfl, rfl⟩
theorem fModel_lend_49 : w_fe am_c186 49 50 (.aload 0) := ⟨rfl, rfl⟩
theorem fModel_lend_50 : w_fe am_c186 50 51 (.getfield 900) := ⟨rfl, rfl⟩
theorem fModel_lend_51 : w_fe am_c186 51 52 (.iload 4) := ⟨rfl, rfl⟩
theorem fModel_lend_52 : w_fe am_c186 52 53 (.bipush 1) := ⟨rfl, rfl⟩
theorem fModel_lend_53 : w_fe am_c186 53 54 (.iadd) := ⟨rfl, rfl⟩
theorem fModel_lend_54 : w_fe am_c186 54 55 (.iaload) := ⟨rfl, rfl⟩
theorem fModel_lend_55 : w_fe am_c186 55 56 (.iload 3) := ⟨rfl, rfl⟩
theorem fModel_lend_56 : w_ic am_c186 56 57 .ge 59 := ⟨rfl, rfl⟩
theorem fModel_lend_57 : w_fe am_c186 57 58 (.bipush (-2)) := ⟨rfl, rfl⟩
theorem fModel_lend_58 : w_fe am_c186 58 59 (.ireturn) := ⟨rfl, rfl⟩
theorem fModel_lend_59 : w_fe am_c186 59 60 (.aload 0) := ⟨rfl, rfl⟩
theorem fModel_lend_60 : w_fe am_c186 60 61 (.getfield 900) := ⟨rfl, rfl⟩
theorem fModel_lend_61 : w_fe am_c186 61 62 (.iload 5) := ⟨rfl, rfl⟩
theorem fModel_lend_62 : w_fe am_c186 62 63 (.bipush 1) := ⟨rfl, rfl⟩
theorem fModel_lend_63 : w_fe am_c186 63 64 (.iadd) := ⟨rfl, rfl⟩
theorem fModel_lend_64 : w_fe am_c186 64 65 (.iaload) := ⟨rfl, rfl⟩
theorem fModel_lend_65 : w_fe am_c186 65 66 (.iload 3) := ⟨rfl, rfl⟩
theorem fModel_lend_66 : w_fe am_c186 66 67 (.iadd) := ⟨rfl, rfl⟩
theorem fModel_lend_67 : w_fe am_c186 67 68 (.bipush 9) := ⟨rfl, rfl⟩
theorem fModel_lend_68 : w_ic am_c186 68 69 .le 71 := ⟨rfl, rfl⟩
theorem fModel_lend_69 : w_fe am_c186 69 70 (.bipush (-3)) := ⟨rfl, rfl⟩
theorem fModel_lend_70 : w_fe am_c186 70 71 (.ireturn) := ⟨rfl, rfl⟩
theorem fModel_lend_71 : w_fe am_c186 71 72 (.aload 0) := ⟨rfl, rfl⟩
theorem fModel_lend_72 : w_fe am_c186 72 73 (.getfield 900) := ⟨rfl, rfl⟩
theorem fModel_lend_73 : w_fe am_c186 73 74 (.iload 4) := ⟨rfl, rfl⟩
theorem fModel_lend_74 : w_fe am_c186 74 75 (.bipush 1) := ⟨rfl, rfl⟩
theorem fModel_lend_75 : w_fe am_c186 75 76 (.iadd) := ⟨rfl, rfl⟩
theorem fModel_lend_76 : w_fe am_c186 76 77 (.dup2) := ⟨rfl, rfl⟩
theorem fModel_lend_77 : w_fe am_c186 77 78 (.iaload) := ⟨rfl, rfl⟩
theorem fModel_lend_78 : w_fe am_c186 78 79 (.iload 3) := ⟨rfl, rfl⟩
theorem fModel_lend_79 : w_fe am_c186 79 80 (.isub) := ⟨rfl, rfl⟩
theorem fModel_lend_80 : w_fe am_c186 80 81 (.iastore) := ⟨rfl, rfl⟩
theorem fModel_lend_81 : w_fe am_c186 81 82 (.aload 0) := ⟨rfl, rfl⟩
theorem fModel_lend_82 : w_fe am_c186 82 83 (.getfield 900) := ⟨rfl, rfl⟩
theorem fModel_lend_83 : w_fe am_c186 83 84 (.iload 5) := ⟨rfl, rfl⟩
theorem fModel_lend_84 : w_fe am_c186 84 85 (.bipush 1) := ⟨rfl, rfl⟩
theorem fModel_lend_85 : w_fe am_c186 85 86 (.iadd) := ⟨rfl, rfl⟩
theorem fModel_lend_86 : w_fe am_c186 86 87 (.dup2) := ⟨rfl, rfl⟩
theorem fModel_lend_87 : w_fe am_c186 87 88 (.iaload) := ⟨rfl, rfl⟩
theorem fModel_lend_88 : w_fe am_c186 88 89 (.iload 3) := ⟨rfl, rfl⟩
theorem fModel_lend_89 : w_fe am_c186 89 90 (.iadd) := ⟨rfl, rfl⟩
theorem fModel_lend_90 : w_fe am_c186 90 91 (.iastore) := ⟨rfl, rfl⟩
theorem fModel_lend_91 : w_fe am_c186 91 92 (.aload 0) := ⟨rfl, rfl⟩
theorem fModel_lend_92 : w_fe am_c186 92 93 (.getfield 900) := ⟨rfl, rfl⟩
theorem fModel_lend_93 : w_fe am_c186 93 94 (.iload 5) := ⟨rfl, rfl⟩
theorem fModel_lend_94 : w_fe am_c186 94 95 (.bipush 1) := ⟨rfl, rfl⟩
theorem fModel_lend_95 : w_fe am_c186 95 96 (.iadd) := ⟨rfl, rfl⟩
theorem fModel_lend_96 : w_fe am_c186 96 97 (.iaload) := ⟨rfl, rfl⟩
theorem fModel_lend_97 : w_fe am_c186 97 98 (.ireturn) := ⟨rfl, rfl⟩
set_option maxRecDepth 20000 in
theorem bModel_lend_0 {xs : List Int} {d : Nat} {Q : Option w_V → w_M → Prop} {x1 : Int} {x2 : Int} {x3 : Int} {σ : w_M}
    (h : p_Model_isReaper x1 σ ∧ ((¬ (0 ≤ x1 ∧ x1 < σ 122 5) → Q (some (.inl (-1))) σ) ∧ ((0 ≤ x1 ∧ x1 < σ 122 5) → (p_Model_isReaper x2 σ ∧ ((¬ (0 ≤ x2 ∧ x2 < σ 122 5) → Q (some (.inl (-1))) σ) ∧ ((0 ≤ x2 ∧ x2 < σ 122 5) → ((x1 = x2 → Q (some (.inl (-1))) σ) ∧ (¬ x1 = x2 → (((0 ≤ x3 ∧ x3 ≤ 9) → (w_in (5 * x1) ∧ w_in (21 + (5 * x1)) ∧ (∀ (y1 : Int), y1 = (21 + (5 * x1)) → (w_in (5 * x2) ∧ w_in (21 + (5 * x2)) ∧ (∀ (y2 : Int), y2 = (21 + (5 * x2)) → (w_in (y1 + 3) ∧ 0 ≤ (y1 + 3) ∧ (y1 + 3) < 246 ∧ w_in (y2 + 3) ∧ 0 ≤ (y2 + 3) ∧ (y2 + 3) < 246 ∧ w_in ((σ 123 (y1 + 3).toNat) - (σ 123 (y2 + 3).toNat)) ∧ ((¬ ((-1) ≤ ((σ 123 (y1 + 3).toNat) - (σ 123 (y2 + 3).toNat)) ∧ ((σ 123 (y1 + 3).toNat) - (σ 123 (y2 + 3).toNat)) ≤ 1) → Q (some (.inl (-2))) σ) ∧ (((-1) ≤ ((σ 123 (y1 + 3).toNat) - (σ 123 (y2 + 3).toNat)) ∧ ((σ 123 (y1 + 3).toNat) - (σ 123 (y2 + 3).toNat)) ≤ 1) → (w_in (y1 + 1) ∧ 0 ≤ (y1 + 1) ∧ (y1 + 1) < 246 ∧ ((x3 ≤ (σ 123 (y1 + 1).toNat) → (w_in (y2 + 1) ∧ 0 ≤ (y2 + 1) ∧ (y2 + 1) < 246 ∧ w_in ((σ 123 (y2 + 1).toNat) + x3) ∧ ((((σ 123 (y2 + 1).toNat) + x3) ≤ 9 → (w_in ((σ 123 (y1 + 1).toNat) - x3) ∧ (∀ (τ3 : w_M), τ3 = w_up σ 123 (y1 + 1).toNat ((σ 123 (y1 + 1).toNat) - x3) → (w_in ((τ3 123 (y2 + 1).toNat) + x3) ∧ (∀ (τ4 : w_M), τ4 = w_up τ3 123 (y2 + 1).toNat ((τ3 123 (y2 + 1).toNat) + x3) → Q (some (.inl (τ4 123 (y2 + 1).toNat))) τ4))))) ∧ (9 < ((σ 123 (y2 + 1).toNat) + x3) → Q (some (.inl (-3))) σ)))) ∧ ((σ 123 (y1 + 1).toNat) < x3 → Q (some (.inl (-2))) σ))))))))))) ∧ (¬ (0 ≤ x3 ∧ x3 ≤ 9) → Q (some (.inl (-1))) σ)))))))))) : w_Call (xs, (d + 2)) 186 [.inr (.inr (9, 122)), .inl x1, .inl x2, .inl x3] σ Q :=
  (w_mk (mid := 186) (by decide) rfl rfl rfl rfl rfl (Nat.le_of_ble_eq_true rfl) ⟨rfl, Or.inl (by decide)⟩ (wi_aload0 fModel_lend_0 (wi_iload1 fModel_lend_1 (wi_call2 fModel_lend_2 (Nat.le_of_ble_eq_true rfl) (k_Model_isReaper h.1 (wi_ifb_eq fModel_lend_3 (fun c11 => (wi_bipush fModel_lend_17 (wi_ret1 fModel_lend_18 (h.2.1 c11)))) (fun c11 => (wi_aload0 fModel_lend_4 (wi_iload2 fModel_lend_5 (wi_call2 fModel_lend_6 (Nat.le_of_ble_eq_true rfl) (k_Model_isReaper (h.2.2 c11).1 (wi_ifb_eq fModel_lend_7 (fun c10 => (wi_bipush fModel_lend_17 (wi_ret1 fModel_lend_18 ((h.2.2 c11).2.1 c10)))) (fun c10 => (wi_iload1 fModel_lend_8 (wi_iload2 fModel_lend_9 (wi_ic_eq fModel_lend_10 (fun c9 => (wi_bipush fModel_lend_17 (wi_ret1 fModel_lend_18 (((h.2.2 c11).2.2 c10).1 c9)))) (fun c9 => (wi_iload3 fModel_lend_11 (wi_i2l fModel_lend_12 (wi_sipush fModel_lend_13 (wi_sipush fModel_lend_14 (wi_call3 fModel_lend_15 (Nat.le_of_ble_eq_true rfl) (k_Model_in (wi_ifb_ne fModel_lend_16 (fun c8 => (wi_bipush fModel_lend_19 (wi_bipush fModel_lend_20 (wi_iload1 fModel_lend_21 (wi_imul fModel_lend_22 ((((h.2.2 c11).2.2 c10).2 c9).1 c8).1 (wi_iadd fModel_lend_23 ((((h.2.2 c11).2.2 c10).2 c9).1 c8).2.1 (wi_istore4 fModel_lend_24 trivial (wi_bipush fModel_lend_25 (wi_bipush fModel_lend_26 (wi_iload2 fModel_lend_27 (wi_imul fModel_lend_28 (((((h.2.2 c11).2.2 c10).2 c9).1 c8).2.2 _ rfl).1 (wi_iadd fModel_lend_29 (((((h.2.2 c11).2.2 c10).2 c9).1 c8).2.2 _ rfl).2.1 (wi_istore5 fModel_lend_30 trivial (wi_aload0 fModel_lend_31 (wi_getf900 fModel_lend_32 (wi_iload4 fModel_lend_33 (wi_bipush fModel_lend_34 (wi_iadd fModel_lend_35 ((((((h.2.2 c11).2.2 c10).2 c9).1 c8).2.2 _ rfl).2.2 _ rfl).1 (wi_iald1246 fModel_lend_36 ((((((h.2.2 c11).2.2 c10).2 c9).1 c8).2.2 _ rfl).2.2 _ rfl).2.1 ((((((h.2.2 c11).2.2 c10).2 c9).1 c8).2.2 _ rfl).2.2 _ rfl).2.2.1 (wi_aload0 fModel_lend_37 (wi_getf900 fModel_lend_38 (wi_iload5 fModel_lend_39 (wi_bipush fModel_lend_40 (wi_iadd fModel_lend_41 ((((((h.2.2 c11).2.2 c10).2 c9).1 c8).2.2 _ rfl).2.2 _ rfl).2.2.2.1 (wi_iald1246 fModel_lend_42 ((((((h.2.2 c11).2.2 c10).2 c9).1 c8).2.2 _ rfl).2.2 _ rfl).2.2.2.2.1 ((((((h.2.2 c11).2.2 c10).2 c9).1 c8).2.2 _ rfl).2.2 _ rfl).2.2.2.2.2.1 (wi_isub fModel_lend_43 ((((((h.2.2 c11).2.2 c10).2 c9).1 c8).2.2 _ rfl).2.2 _ rfl).2.2.2.2.2.2.1 (wi_i2l fModel_lend_44 (wi_sipush fModel_lend_45 (wi_sipush fModel_lend_46 (wi_call3 fModel_lend_47 (Nat.le_of_ble_eq_true rfl) (k_Model_in (wi_ifb_eq fModel_lend_48 (fun c7 => (wi_bipush fModel_lend_57 (wi_ret1 fModel_lend_58 (((((((h.2.2 c11).2.2 c10).2 c9).1 c8).2.2 _ rfl).2.2 _ rfl).2.2.2.2.2.2.2.1 c7)))) (fun c7 => (wi_aload0 fModel_lend_49 (wi_getf900 fModel_lend_50 (wi_iload4 fModel_lend_51 (wi_bipush fModel_lend_52 (wi_iadd fModel_lend_53 (((((((h.2.2 c11).2.2 c10).2 c9).1 c8).2.2 _ rfl).2.2 _ rfl).2.2.2.2.2.2.2.2 c7).1 (wi_iald1246 fModel_lend_54 (((((((h.2.2 c11).2.2 c10).2 c9).1 c8).2.2 _ rfl).2.2 _ rfl).2.2.2.2.2.2.2.2 c7).2.1 (((((((h.2.2 c11).2.2 c10).2 c9).1 c8).2.2 _ rfl).2.2 _ rfl).2.2.2.2.2.2.2.2 c7).2.2.1 (wi_iload3 fModel_lend_55 (wi_ic_ge fModel_lend_56 (fun c6 => (wi_aload0 fModel_lend_59 (wi_getf900 fModel_lend_60 (wi_iload5 fModel_lend_61 (wi_bipush fModel_lend_62 (wi_iadd fModel_lend_63 ((((((((h.2.2 c11).2.2 c10).2 c9).1 c8).2.2 _ rfl).2.2 _ rfl).2.2.2.2.2.2.2.2 c7).2.2.2.1 c6).1 (wi_iald1246 fModel_lend_64 ((((((((h.2.2 c11).2.2 c10).2 c9).1 c8).2.2 _ rfl).2.2 _ rfl).2.2.2.2.2.2.2.2 c7).2.2.2.1 c6).2.1 ((((((((h.2.2 c11).2.2 c10).2 c9).1 c8).2.2 _ rfl).2.2 _ rfl).2.2.2.2.2.2.2.2 c7).2.2.2.1 c6).2.2.1 (wi_iload3 fModel_lend_65 (wi_iadd fModel_lend_66 ((((((((h.2.2 c11).2.2 c10).2 c9).1 c8).2.2 _ rfl).2.2 _ rfl).2.2.2.2.2.2.2.2 c7).2.2.2.1 c6).2.2.2.1 (wi_bipush fModel_lend_67 (wi_ic_le fModel_lend_68 (fun c5 => (wi_aload0 fModel_lend_71 (wi_getf900 fModel_lend_72 (wi_iload4 fModel_lend_73 (wi_bipush fModel_lend_74 (wi_iadd fModel_lend_75 (((((((h.2.2 c11).2.2 c10).2 c9).1 c8).2.2 _ rfl).2.2 _ rfl).2.2.2.2.2.2.2.2 c7).1 (wi_dup2 fModel_lend_76 (wi_iald1246 fModel_lend_77 (((((((h.2.2 c11).2.2 c10).2 c9).1 c8).2.2 _ rfl).2.2 _ rfl).2.2.2.2.2.2.2.2 c7).2.1 (((((((h.2.2 c11).2.2 c10).2 c9).1 c8).2.2 _ rfl).2.2 _ rfl).2.2.2.2.2.2.2.2 c7).2.2.1 (wi_iload3 fModel_lend_78 (wi_isub fModel_lend_79 (((((((((h.2.2 c11).2.2 c10).2 c9).1 c8).2.2 _ rfl).2.2 _ rfl).2.2.2.2.2.2.2.2 c7).2.2.2.1 c6).2.2.2.2.1 c5).1 (wi_iast1246 fModel_lend_80 (((((((h.2.2 c11).2.2 c10).2 c9).1 c8).2.2 _ rfl).2.2 _ rfl).2.2.2.2.2.2.2.2 c7).2.1 (((((((h.2.2 c11).2.2 c10).2 c9).1 c8).2.2 _ rfl).2.2 _ rfl).2.2.2.2.2.2.2.2 c7).2.2.1 (wi_aload0 fModel_lend_81 (wi_getf900 fModel_lend_82 (wi_iload5 fModel_lend_83 (wi_bipush fModel_lend_84 (wi_iadd fModel_lend_85 ((((((((h.2.2 c11).2.2 c10).2 c9).1 c8).2.2 _ rfl).2.2 _ rfl).2.2.2.2.2.2.2.2 c7).2.2.2.1 c6).1 (wi_dup2 fModel_lend_86 (wi_iald1246 fModel_lend_87 ((((((((h.2.2 c11).2.2 c10).2 c9).1 c8).2.2 _ rfl).2.2 _ rfl).2.2.2.2.2.2.2.2 c7).2.2.2.1 c6).2.1 ((((((((h.2.2 c11).2.2 c10).2 c9).1 c8).2.2 _ rfl).2.2 _ rfl).2.2.2.2.2.2.2.2 c7).2.2.2.1 c6).2.2.1 (wi_iload3 fModel_lend_88 (wi_iadd fModel_lend_89 ((((((((((h.2.2 c11).2.2 c10).2 c9).1 c8).2.2 _ rfl).2.2 _ rfl).2.2.2.2.2.2.2.2 c7).2.2.2.1 c6).2.2.2.2.1 c5).2 _ rfl).1 (wi_iast1246 fModel_lend_90 ((((((((h.2.2 c11).2.2 c10).2 c9).1 c8).2.2 _ rfl).2.2 _ rfl).2.2.2.2.2.2.2.2 c7).2.2.2.1 c6).2.1 ((((((((h.2.2 c11).2.2 c10).2 c9).1 c8).2.2 _ rfl).2.2 _ rfl).2.2.2.2.2.2.2.2 c7).2.2.2.1 c6).2.2.1 (wi_aload0 fModel_lend_91 (wi_getf900 fModel_lend_92 (wi_iload5 fModel_lend_93 (wi_bipush fModel_lend_94 (wi_iadd fModel_lend_95 ((((((((h.2.2 c11).2.2 c10).2 c9).1 c8).2.2 _ rfl).2.2 _ rfl).2.2.2.2.2.2.2.2 c7).2.2.2.1 c6).1 (wi_iald1246 fModel_lend_96 ((((((((h.2.2 c11).2.2 c10).2 c9).1 c8).2.2 _ rfl).2.2 _ rfl).2.2.2.2.2.2.2.2 c7).2.2.2.1 c6).2.1 ((((((((h.2.2 c11).2.2 c10).2 c9).1 c8).2.2 _ rfl).2.2 _ rfl).2.2.2.2.2.2.2.2 c7).2.2.2.1 c6).2.2.1 (wi_ret1 fModel_lend_97 (((((((((((h.2.2 c11).2.2 c10).2 c9).1 c8).2.2 _ rfl).2.2 _ rfl).2.2.2.2.2.2.2.2 c7).2.2.2.1 c6).2.2.2.2.1 c5).2 _ rfl).2 _ rfl))))))))))))))))))))))))))))) (fun c5 => (wi_bipush fModel_lend_69 (wi_ret1 fModel_lend_70 (((((((((h.2.2 c11).2.2 c10).2 c9).1 c8).2.2 _ rfl).2.2 _ rfl).2.2.2.2.2.2.2.2 c7).2.2.2.1 c6).2.2.2.2.2 c5))))))))))))))) (fun c6 => (wi_bipush fModel_lend_57 (wi_ret1 fModel_lend_58 ((((((((h.2.2 c11).2.2 c10).2 c9).1 c8).2.2 _ rfl).2.2 _ rfl).2.2.2.2.2.2.2.2 c7).2.2.2.2 c6))))))))))))))))))))))))))))))))))))))))))))) (fun c8 => (wi_bipush fModel_lend_17 (wi_ret1 fModel_lend_18 ((((h.2.2 c11).2.2 c10).2 c9).2 c8))))))))))))))))))))))))))))
set_option maxHeartbeats 1000000 in
theorem k_Model_lend {xs : List Int} {d : Nat} {Q : Option w_V → w_M → Prop} {x1 : Int} {x2 : Int} {x3 : Int} {σ : w_M} (hp : p_Model_lend x1 x2 x3 σ) (hQ : ∀ (x : Int) (σ' : w_M), q_Model_lend x1 x2 x3 σ x σ' → Q (some (.inl x)) σ') : w_Call (xs, d + 2) 186 [.inr (.inr (9, 122)), .inl x1, .inl x2, .inl x3] σ Q := by
  have hM : MI σ := hp
  have hok := hM.ok
  have hn := hM.n
  unfold q_Model_lend at hQ
  have bad : ¬ P_lend (mS σ) x1 x2 x3 → Q (some (.inl (-1))) σ := fun h => by
    obtain ⟨e1, e2⟩ := F_lend_bad h
    rw [e1, e2] at hQ
    exact hQ _ _ (m_qr hM rfl)
  refine bModel_lend_0 ⟨hn, fun c => bad (fun q => c q.1.1), fun c => ⟨hn, fun c2 => bad (fun q => c2 q.1.2.1), fun c2 => ⟨fun c3 => bad (fun q => q.1.2.2 c3), fun c3 => ⟨fun c4 => ?_, fun c4 => bad (fun q => c4 q.2)⟩⟩⟩⟩
  have hL : P_lend (mS σ) x1 x2 x3 := ⟨⟨c, c2, c3⟩, c4⟩
  have r1 := n_WF.r hok (show x1.toNat < n_n (w_am σ 123 0) by rw [n_n_am]; omega)
  have r2 := n_WF.r hok (show x2.toNat < n_n (w_am σ 123 0) by rw [n_n_am]; omega)
  have h04 : w_am σ 123 0 0 4 = σ 122 4 := rfl
  have hs := hM.s
  have hne : x2.toNat ≠ x1.toNat := by omega
  refine ⟨⟨by omega, by omega⟩, ⟨by omega, by omega⟩, fun y1 ey1 => ⟨⟨by omega, by omega⟩, ⟨by omega, by omega⟩, fun y2 ey2 => ?_⟩⟩
  have a1 : σ 123 (y1 + 3).toNat = w_am σ 123 0 6 x1.toNat := m_rdr (by decide) (by decide) c (by show _ = 24 + 5 * x1.toNat; omega)
  have a2 : σ 123 (y2 + 3).toNat = w_am σ 123 0 6 x2.toNat := m_rdr (by decide) (by decide) c2 (by show _ = 24 + 5 * x2.toNat; omega)
  have o1 : σ 123 (y1 + 1).toNat = w_am σ 123 0 4 x1.toNat := m_rdr (by decide) (by decide) c (by show _ = 22 + 5 * x1.toNat; omega)
  have o2 : σ 123 (y2 + 1).toNat = w_am σ 123 0 4 x2.toNat := m_rdr (by decide) (by decide) c2 (by show _ = 22 + 5 * x2.toNat; omega)
  rw [a1, a2, o1, o2]
  refine ⟨⟨by omega, by omega⟩, by omega, by omega, ⟨by omega, by omega⟩, by omega, by omega, ⟨by omega, by omega⟩, fun d1 => ?_, fun d1 => ⟨⟨by omega, by omega⟩, by omega, by omega, fun d2 => ⟨⟨by omega, by omega⟩, by omega, by omega, ⟨by omega, by omega⟩, fun d3 => ⟨⟨by omega, by omega⟩, fun τ2 t2 => ?_⟩, fun d3 => ?_⟩, fun d2 => ?_⟩⟩
  · obtain ⟨e1, e2⟩ := F_lend_state hL (fun q => d1 q.1)
    rw [e1, e2] at hQ
    exact hQ _ _ (m_qr hM rfl)
  · have hN : P_near (mS σ) x1 x2 x3 := ⟨d1, d2⟩
    obtain ⟨e1, e2⟩ := F_lend_ok hL hN d3
    rw [e1, e2] at hQ
    have v2 : τ2 123 (y2 + 1).toNat = w_am σ 123 0 4 x2.toNat := by rw [t2, w_up_j (by omega)]; exact o2
    rw [v2]
    refine ⟨⟨by omega, by omega⟩, fun τ3 t3 => hQ _ _ ?_⟩
    have F2 : w_f1 σ τ2 123 := by rw [t2]; exact w_f1.up0
    have z2 : τ2 122 = σ 122 := F2 122 (by decide)
    have m2 : m_sm τ2 := by unfold m_sm; rw [z2]; exact hM.sm
    have A2 : w_am τ2 123 0 = w_up (w_am σ 123 0) 4 x1.toNat (w_am σ 123 0 4 x1.toNat - x3) := by
      rw [t2]
      exact w_am_up hM.sm (by decide) (by rw [m_rl37 (by decide) (by decide)]; omega) (by show _ = 0 + (22 + 5 * x1.toNat); omega)
    have A3 : w_am τ3 123 0 = w_up (w_am τ2 123 0) 4 x2.toNat (w_am σ 123 0 4 x2.toNat + x3) := by
      rw [t3]
      exact w_am_up m2 (by decide) (by rw [m_rl37 (by decide) (by decide), z2]; omega) (by show _ = 0 + (22 + 5 * x2.toNat); omega)
    refine m_q0 hM (by rw [t3]; exact F2.up) (fun x hx => by rw [t3, w_up_j (by omega), t2, w_up_j (by omega)]) (by rw [A3, A2]; rfl) (n_WF_lend hok (by rw [n_n_am]; omega) (by rw [n_n_am]; omega) c4.1 d2 d3) ?_ ?_ ?_ ?_
    · show w_up (w_up (w_am σ 123 0) 4 _ _) 4 _ _ 0 0 = σ 122 3; rw [w_up_ne (by decide), w_up_ne (by decide)]; rfl
    · show w_up (w_up (w_am σ 123 0) 4 _ _) 4 _ _ 0 4 = σ 122 4; rw [w_up_ne (by decide), w_up_ne (by decide)]; rfl
    · show w_up (w_up (w_am σ 123 0) 4 _ _) 4 _ _ 0 5 = σ 122 5; rw [w_up_ne (by decide), w_up_ne (by decide)]; rfl
    · rw [t3, w_up_at]; rfl
  · obtain ⟨e1, e2⟩ := F_lend_full hL ⟨d1, d2⟩ (fun q => by have q' : w_am σ 123 0 4 x2.toNat + x3 ≤ 9 := q; omega)
    rw [e1, e2] at hQ
    exact hQ _ _ (m_qr hM rfl)
  · obtain ⟨e1, e2⟩ := F_lend_state hL (fun q => by have q' : x3 ≤ w_am σ 123 0 4 x1.toNat := q.2; omega)
    rw [e1, e2] at hQ
    exact hQ _ _ (m_qr hM rfl)
noncomputable def p_Model_cloud (_x1 : Int) (x2 : Int) (σ : w_M) : Prop := MI σ ∧ (x2 = 0 ∨ x2 = 1)
noncomputable def q_Model_cloud (x1 : Int) (x2 : Int) (σ : w_M) (x : Int) (σ' : w_M) : Prop := m_q (F_cloud (mS σ) x1 x2) (G_cloud (mS σ) x1 x2) σ x σ'
theorem fModel_cloud_0 : w_fe am_c189 0 1 (.iload 1) := ⟨rfl, rfl⟩
theorem fModel_cloud_1 : w_fe am_c189 1 2 (.i2l) := ⟨rfl, rfl⟩
theorem fModel_cloud_2 : w_fe am_c189 2 3 (.sipush 0) := ⟨rfl, rfl⟩
theorem fModel_cloud_3 : w_fe am_c189 3 4 (.aload 0) := ⟨rfl, rfl⟩
theorem fModel_cloud_4 : w_fe am_c189 4 5 (.getfield 903) := ⟨rfl, rfl⟩
theorem fModel_cloud_5 : w_fe am_c189 5 6 (.bipush 1) := ⟨rfl, rfl⟩
theorem fModel_cloud_6 : w_fe am_c189 6 7 (.isub) := ⟨rfl, rfl⟩
theorem fModel_cloud_7 : w_fe am_c189 7 8 (.i2l) := ⟨rfl, rfl⟩
theorem fModel_cloud_8 : w_fe am_c189 8 9 (.invokestatic 157) := ⟨rfl, rfl⟩
theorem fModel_cloud_9 : w_if am_c189 9 10 .ne 12 := ⟨rfl, rfl⟩
theorem fModel_cloud_10 : w_fe am_c189 10 11 (.bipush (-1)) := ⟨rfl, rfl⟩
theorem fModel_cloud_11 : w_fe am_c189 11 12 (.ireturn) := ⟨rfl, rfl⟩
theorem fModel_cloud_12 : w_fe am_c189 12 13 (.aload 0) := ⟨rfl, rfl⟩
theorem fModel_cloud_13 : w_fe am_c189 13 14 (.getfield 900) := ⟨rfl, rfl⟩
theorem fModel_cloud_14 : w_fe am_c189 14 15 (.bipush 41) := ⟨rfl, rfl⟩
theorem fModel_cloud_15 : w_fe am_c189 15 16 (.iaload) := ⟨rfl, rfl⟩
theorem fModel_cloud_16 : w_fe am_c189 16 17 (.iload 1) := ⟨rfl, rfl⟩
theorem fModel_cloud_17 : w_fe am_c189 17 18 (.ishr) := ⟨rfl, rfl⟩
theorem fModel_cloud_18 : w_fe am_c189 18 19 (.bipush 1) := ⟨rfl, rfl⟩
theorem fModel_cloud_19 : w_fe am_c189 19 20 (.iand) := ⟨rfl, rfl⟩
theorem fModel_cloud_20 : w_fe am_c189 20 21 (.istore 3) := ⟨rfl, rfl⟩
theorem fModel_cloud_21 : w_fe am_c189 21 22 (.aload 0) := ⟨rfl, rfl⟩
theorem fModel_cloud_22 : w_fe am_c189 22 23 (.getfield 900) := ⟨rfl, rfl⟩
theorem fModel_cloud_23 : w_fe am_c189 23 24 (.bipush 41) := ⟨rfl, rfl⟩
theorem fModel_cloud_24 : w_fe am_c189 24 25 (.iload 2) := ⟨rfl, rfl⟩
theorem fModel_cloud_25 : w_if am_c189 25 26 .eq 35 := ⟨rfl, rfl⟩
theorem fModel_cloud_26 : w_fe am_c189 26 27 (.aload 0) := ⟨rfl, rfl⟩
theorem fModel_cloud_27 : w_fe am_c189 27 28 (.getfield 900) := ⟨rfl, rfl⟩
theorem fModel_cloud_28 : w_fe am_c189 28 29 (.bipush 41) := ⟨rfl, rfl⟩
theorem fModel_cloud_29 : w_fe am_c189 29 30 (.iaload) := ⟨rfl, rfl⟩
theorem fModel_cloud_30 : w_fe am_c189 30 31 (.bipush 1) := ⟨rfl, rfl⟩
theorem fModel_cloud_31 : w_fe am_c189 31 32 (.iload 1) := ⟨rfl, rfl⟩
theorem fModel_cloud_32 : w_fe am_c189 32 33 (.ishl) := ⟨rfl, rfl⟩
theorem fModel_cloud_33 : w_fe am_c189 33 34 (.ior) := ⟨rfl, rfl⟩
theorem fModel_cloud_34 : w_gt am_c189 34 45 := rfl
theorem fModel_cloud_35 : w_fe am_c189 35 36 (.aload 0) := ⟨rfl, rfl⟩
theorem fModel_cloud_36 : w_fe am_c189 36 37 (.getfield 900) := ⟨rfl, rfl⟩
theorem fModel_cloud_37 : w_fe am_c189 37 38 (.bipush 41) := ⟨rfl, rfl⟩
theorem fModel_cloud_38 : w_fe am_c189 38 39 (.iaload) := ⟨rfl, rfl⟩
theorem fModel_cloud_39 : w_fe am_c189 39 40 (.bipush 1) := ⟨rfl, rfl⟩
theorem fModel_cloud_40 : w_fe am_c189 40 41 (.iload 1) := ⟨rfl, rfl⟩
theorem fModel_cloud_41 : w_fe am_c189 41 42 (.ishl) := ⟨rfl, rfl⟩
theorem fModel_cloud_42 : w_fe am_c189 42 43 (.bipush (-1)) := ⟨rfl, rfl⟩
theorem fModel_cloud_43 : w_fe am_c189 43 44 (.ixor) := ⟨rfl, rfl⟩
theorem fModel_cloud_44 : w_fe am_c189 44 45 (.iand) := ⟨rfl, rfl⟩
theorem fModel_cloud_45 : w_fe am_c189 45 46 (.iastore) := ⟨rfl, rfl⟩
theorem fModel_cloud_46 : w_fe am_c189 46 47 (.iload 3) := ⟨rfl, rfl⟩
theorem fModel_cloud_47 : w_fe am_c189 47 48 (.ireturn) := ⟨rfl, rfl⟩
set_option maxRecDepth 20000 in
theorem bModel_cloud_0 {xs : List Int} {d : Nat} {Q : Option w_V → w_M → Prop} {x1 : Int} {x2 : Int} {σ : w_M}
    (h : w_in ((σ 122 3) - 1) ∧ (((0 ≤ x1 ∧ x1 ≤ ((σ 122 3) - 1)) → ∀ (y1 : Int), y1 = (w_and (w_shr (σ 123 41) x1) 1) → ((x2 = 0 → ∀ (τ2 : w_M), τ2 = w_up σ 123 41 (w_and (σ 123 41) (w_xor (w_shl 1 x1) (-1))) → Q (some (.inl y1)) τ2) ∧ (¬ x2 = 0 → ∀ (τ3 : w_M), τ3 = w_up σ 123 41 (w_or (σ 123 41) (w_shl 1 x1)) → Q (some (.inl y1)) τ3))) ∧ (¬ (0 ≤ x1 ∧ x1 ≤ ((σ 122 3) - 1)) → Q (some (.inl (-1))) σ))) : w_Call (xs, (d + 1)) 189 [.inr (.inr (9, 122)), .inl x1, .inl x2] σ Q :=
  (w_mk (mid := 189) (by decide) rfl rfl rfl rfl rfl (Nat.le_of_ble_eq_true rfl) ⟨rfl, Or.inl (by decide)⟩ (wi_iload1 fModel_cloud_0 (wi_i2l fModel_cloud_1 (wi_sipush fModel_cloud_2 (wi_aload0 fModel_cloud_3 (wi_getf903 fModel_cloud_4 (wi_bipush fModel_cloud_5 (wi_isub fModel_cloud_6 h.1 (wi_i2l fModel_cloud_7 (wi_call3 fModel_cloud_8 (Nat.le_of_ble_eq_true rfl) (k_Model_in (wi_ifb_ne fModel_cloud_9 (fun c5 => (wi_aload0 fModel_cloud_12 (wi_getf900 fModel_cloud_13 (wi_bipush fModel_cloud_14 (wi_iald1246 fModel_cloud_15 (by decide) (by decide) (wi_iload1 fModel_cloud_16 (wi_ishr fModel_cloud_17 (wi_bipush fModel_cloud_18 (wi_iand fModel_cloud_19 (wi_istore3 fModel_cloud_20 trivial (wi_aload0 fModel_cloud_21 (wi_getf900 fModel_cloud_22 (wi_bipush fModel_cloud_23 (wi_iload2 fModel_cloud_24 (wi_if_eq fModel_cloud_25 (fun c4 => (wi_aload0 fModel_cloud_35 (wi_getf900 fModel_cloud_36 (wi_bipush fModel_cloud_37 (wi_iald1246 fModel_cloud_38 (by decide) (by decide) (wi_bipush fModel_cloud_39 (wi_iload1 fModel_cloud_40 (wi_ishl fModel_cloud_41 (wi_bipush fModel_cloud_42 (wi_ixor fModel_cloud_43 (wi_iand fModel_cloud_44 (wi_iast1246 fModel_cloud_45 (by decide) (by decide) (wi_iload3 fModel_cloud_46 (wi_ret1 fModel_cloud_47 ((((h.2.1 c5) _ rfl).1 c4) _ rfl))))))))))))))) (fun c4 => (wi_aload0 fModel_cloud_26 (wi_getf900 fModel_cloud_27 (wi_bipush fModel_cloud_28 (wi_iald1246 fModel_cloud_29 (by decide) (by decide) (wi_bipush fModel_cloud_30 (wi_iload1 fModel_cloud_31 (wi_ishl fModel_cloud_32 (wi_ior fModel_cloud_33 (wi_goto fModel_cloud_34 (wi_iast1246 fModel_cloud_45 (by decide) (by decide) (wi_iload3 fModel_cloud_46 (wi_ret1 fModel_cloud_47 ((((h.2.1 c5) _ rfl).2 c4) _ rfl))))))))))))))))))))))))))))) (fun c5 => (wi_bipush fModel_cloud_10 (wi_ret1 fModel_cloud_11 (h.2.2 c5))))))))))))))))
theorem k_Model_cloud {xs : List Int} {d : Nat} {Q : Option w_V → w_M → Prop} {x1 : Int} {x2 : Int} {σ : w_M} (hp : p_Model_cloud x1 x2 σ) (hQ : ∀ (x : Int) (σ' : w_M), q_Model_cloud x1 x2 σ x σ' → Q (some (.inl x)) σ') : w_Call (xs, d + 1) 189 [.inr (.inr (9, 122)), .inl x1, .inl x2] σ Q := by
  obtain ⟨hM, hb⟩ := hp
  have hok := hM.ok
  have hrs := m_ok.hrs hok
  have hcl : 0 ≤ σ 123 41 ∧ σ 123 41 ≤ 4095 := hok.2.2.1
  unfold q_Model_cloud F_cloud G_cloud at hQ
  have e0 : mS σ 0 0 0 = σ 122 3 := rfl
  have e2 : mS σ 0 0 2 = σ 123 41 := rfl
  have ec : n_cl (mS σ 0) x1 = w_and (w_shr (σ 123 41) x1) 1 := rfl
  rw [e0, e2, ec] at hQ
  have main : 0 ≤ x1 ∧ x1 < σ 122 3 → ∀ (x : Int), x = w_and (w_shr (σ 123 41) x1) 1 → ∀ y : Int, y = v_Moon_withBit (σ 123 41) x1 x2 → ∀ τ : w_M, τ = w_up σ 123 41 y → Q (some (.inl x)) τ := by
    intro c x ex y ey τ t
    have hb2 := w_cl_bits (is := x2) hcl (show 0 ≤ x1 ∧ x1 < 12 by omega)
    rw [if_pos c, if_pos c] at hQ
    refine hQ _ _ (m_q0 hM (by rw [t]; exact w_f1.up0) (fun z hz => by rw [t, w_up_j (by omega)]) (by rw [t, ey]; exact w_am_up0 hM.sm (by decide) (Or.inr (Or.inl ⟨rfl, rfl⟩))) ?_ ?_ ?_ ?_ ex)
    · refine n_WF_up hok ?_ ?_ ?_ ?_ ?_ ?_ ?_ ?_ <;> (intros; omega)
    · show w_up (w_am σ 123 0) 0 2 _ 0 0 = σ 122 3; rw [w_up_j (by decide)]; rfl
    · show w_up (w_am σ 123 0) 0 2 _ 0 4 = σ 122 4; rw [w_up_j (by decide)]; rfl
    · show w_up (w_am σ 123 0) 0 2 _ 0 5 = σ 122 5; rw [w_up_j (by decide)]; rfl
  refine bModel_cloud_0 ⟨⟨by omega, by omega⟩, fun c => fun y ey => ⟨fun z τ t => ?_, fun z τ t => ?_⟩, fun c => ?_⟩
  · exact main (by omega) y ey _ (by unfold v_Moon_withBit; rw [if_pos z]) τ t
  · exact main (by omega) y ey _ (by unfold v_Moon_withBit; rw [if_neg z]) τ t
  · rw [if_neg (by omega), if_neg (by omega)] at hQ
    exact hQ _ _ (m_qr hM rfl)
theorem w_am_cp {σ τ : w_M} {c c' : Nat} (hsm : m_sm σ) (h122 : τ 122 = σ 122) (h : ∀ x, x < 48 → τ c x = σ c' x) : w_am τ c 0 = w_am σ c' 0 := by
  have hr : ∀ k, m_rl τ k = m_rl σ k := fun k => by unfold m_rl; rw [h122]
  funext k j
  unfold w_am
  rw [h122, hr, h (0 + 42) (by decide), h (0 + 41) (by decide), h (0 + 47) (by decide)]
  by_cases hj : j < m_rl σ k
  · obtain ⟨k10, j7, jL⟩ := m_rl_d hsm hj
    have := (m_ix_sc k k10 j j7 jL).2.2.2
    rw [if_pos hj, if_pos hj, h _ (by omega)]
  · rw [if_neg hj, if_neg hj]
noncomputable def p_Model_go (_x1 : Int) (σ : w_M) : Prop := MI σ
noncomputable def q_Model_go (x1 : Int) (σ : w_M) (x : Int) (σ' : w_M) : Prop := m_q (F_go (mS σ) x1) (G_go (mS σ) x1) σ x σ'
theorem fModel_go_0 : w_fe am_c193 0 1 (.iload 1) := ⟨rfl, rfl⟩
theorem fModel_go_1 : w_fe am_c193 1 2 (.i2l) := ⟨rfl, rfl⟩
theorem fModel_go_2 : w_fe am_c193 2 3 (.sipush 0) := ⟨rfl, rfl⟩
theorem fModel_go_3 : w_fe am_c193 3 4 (.sipush 12) := ⟨rfl, rfl⟩
theorem fModel_go_4 : w_fe am_c193 4 5 (.invokestatic 157) := ⟨rfl, rfl⟩
theorem fModel_go_5 : w_if am_c193 5 6 .ne 8 := ⟨rfl, rfl⟩
theorem fModel_go_6 : w_fe am_c193 6 7 (.bipush (-1)) := ⟨rfl, rfl⟩
theorem fModel_go_7 : w_fe am_c193 7 8 (.ireturn) := ⟨rfl, rfl⟩
theorem fModel_go_8 : w_fe am_c193 8 9 (.aload 0) := ⟨rfl, rfl⟩
theorem fModel_go_9 : w_fe am_c193 9 10 (.getfield 900) := ⟨rfl, rfl⟩
theorem fModel_go_10 : w_fe am_c193 10 11 (.bipush 42) := ⟨rfl, rfl⟩
theorem fModel_go_11 : w_fe am_c193 11 12 (.iaload) := ⟨rfl, rfl⟩
theorem fModel_go_12 : w_fe am_c193 12 13 (.iload 1) := ⟨rfl, rfl⟩
theorem fModel_go_13 : w_fe am_c193 13 14 (.iadd) := ⟨rfl, rfl⟩
theorem fModel_go_14 : w_fe am_c193 14 15 (.aload 0) := ⟨rfl, rfl⟩
theorem fModel_go_15 : w_fe am_c193 15 16 (.getfield 903) := ⟨rfl, rfl⟩
theorem fModel_go_16 : w_ic am_c193 16 17 .le 19 := ⟨rfl, rfl⟩
theorem fModel_go_17 : w_fe am_c193 17 18 (.bipush (-3)) := ⟨rfl, rfl⟩
theorem fModel_go_18 : w_fe am_c193 18 19 (.ireturn) := ⟨rfl, rfl⟩
theorem fModel_go_19 : w_fe am_c193 19 20 (.aload 0) := ⟨rfl, rfl⟩
theorem fModel_go_20 : w_fe am_c193 20 21 (.invokestatic 174) := ⟨rfl, rfl⟩
theorem fModel_go_21 : w_fe am_c193 21 22 (.aload 0) := ⟨rfl, rfl⟩
theorem fModel_go_22 : w_fe am_c193 22 23 (.invokestatic 175) := ⟨rfl, rfl⟩
theorem fModel_go_23 : w_fe am_c193 23 24 (.istore 2) := ⟨rfl, rfl⟩
theorem fModel_go_24 : w_fe am_c193 24 25 (.aload 0) := ⟨rfl, rfl⟩
theorem fModel_go_25 : w_fe am_c193 25 26 (.iload 1) := ⟨rfl, rfl⟩
theorem fModel_go_26 : w_fe am_c193 26 27 (.invokestatic 194) := ⟨rfl, rfl⟩
theorem fModel_go_27 : w_fe am_c193 27 28 (.bipush 0) := ⟨rfl, rfl⟩
theorem fModel_go_28 : w_fe am_c193 28 29 (.istore 3) := ⟨rfl, rfl⟩
theorem fModel_go_29 : w_fe am_c193 29 30 (.iload 3) := ⟨rfl, rfl⟩
theorem fModel_go_30 : w_fe am_c193 30 31 (.bipush 82) := ⟨rfl, rfl⟩
theorem fModel_go_31 : w_ic am_c193 31 32 .ge 42 := ⟨rfl, rfl⟩
theorem fModel_go_32 : w_fe am_c193 32 33 (.aload 0) := ⟨rfl, rfl⟩
theorem fModel_go_33 : w_fe am_c193 33 34 (.getfield 900) := ⟨rfl, rfl⟩
theorem fModel_go_34 : w_fe am_c193 34 35 (.iload 3) := ⟨rfl, rfl⟩
theorem fModel_go_35 : w_fe am_c193 35 36 (.aload 0) := ⟨rfl, rfl⟩
theorem fModel_go_36 : w_fe am_c193 36 37 (.getfield 901) := ⟨rfl, rfl⟩
theorem fModel_go_37 : w_fe am_c193 37 38 (.iload 3) := ⟨rfl, rfl⟩
theorem fModel_go_38 : w_fe am_c193 38 39 (.iaload) := ⟨rfl, rfl⟩
theorem fModel_go_39 : w_fe am_c193 39 40 (.iastore) := ⟨rfl, rfl⟩
theorem fModel_go_40 : w_fe am_c193 40 41 (.iinc 3 1) := ⟨rfl, rfl⟩
theorem fModel_go_41 : w_gt am_c193 41 29 := rfl
theorem fModel_go_42 : w_fe am_c193 42 43 (.iload 2) := ⟨rfl, rfl⟩
theorem fModel_go_43 : w_fe am_c193 43 44 (.aload 0) := ⟨rfl, rfl⟩
theorem fModel_go_44 : w_fe am_c193 44 45 (.invokestatic 175) := ⟨rfl, rfl⟩
theorem fModel_go_45 : w_fe am_c193 45 46 (.isub) := ⟨rfl, rfl⟩
theorem fModel_go_46 : w_fe am_c193 46 47 (.ireturn) := ⟨rfl, rfl⟩
noncomputable def LModel_go_29 (xs : List Int) (d : Nat) (Q : Option w_V → w_M → Prop) (v2 : Int) (v3 : Int) (σ : w_M) : Prop := ∀ l1, w_nl l1 → w_Ex (xs, d) 1 am_c193 Q 29 [some (.inr (.inr (9, 122))), l1, some (.inl v2), some (.inl v3)] [] σ
set_option maxRecDepth 20000 in
theorem bModel_go_0 {xs : List Int} {d : Nat} {Q : Option w_V → w_M → Prop} {x1 : Int} {σ : w_M}
    (h : ((0 ≤ x1 ∧ x1 ≤ 12) → (w_in ((σ 123 42) + x1) ∧ ((((σ 123 42) + x1) ≤ (σ 122 3) → (p_Model_starts σ ∧ (∀ (τ1 : w_M), q_Model_starts σ τ1 → (p_Model_standing τ1 ∧ (∀ (y2 : Int), y2 = v_Model_standing τ1 → (p_Model_goesTo x1 τ1 ∧ (∀ (τ3 : w_M), q_Model_goesTo x1 τ1 τ3 → LModel_go_29 xs (d + 6) Q y2 0 τ3))))))) ∧ ((σ 122 3) < ((σ 123 42) + x1) → Q (some (.inl (-3))) σ)))) ∧ (¬ (0 ≤ x1 ∧ x1 ≤ 12) → Q (some (.inl (-1))) σ)) : w_Call (xs, (d + 6)) 193 [.inr (.inr (9, 122)), .inl x1] σ Q :=
  (w_mk (mid := 193) (by decide) rfl rfl rfl rfl rfl (Nat.le_of_ble_eq_true rfl) ⟨rfl, Or.inl (by decide)⟩ (wi_iload1 fModel_go_0 (wi_i2l fModel_go_1 (wi_sipush fModel_go_2 (wi_sipush fModel_go_3 (wi_call3 fModel_go_4 (Nat.le_of_ble_eq_true rfl) (k_Model_in (wi_ifb_ne fModel_go_5 (fun c5 => (wi_aload0 fModel_go_8 (wi_getf900 fModel_go_9 (wi_bipush fModel_go_10 (wi_iald1246 fModel_go_11 (by decide) (by decide) (wi_iload1 fModel_go_12 (wi_iadd fModel_go_13 (h.1 c5).1 (wi_aload0 fModel_go_14 (wi_getf903 fModel_go_15 (wi_ic_le fModel_go_16 (fun c4 => (wi_aload0 fModel_go_19 (wi_call1 fModel_go_20 (Nat.le_of_ble_eq_true rfl) (k_Model_starts ((h.1 c5).2.1 c4).1 (fun τ1 eτ1 => (wi_aload0 fModel_go_21 (wi_call1 fModel_go_22 (Nat.le_of_ble_eq_true rfl) (k_Model_standing (((h.1 c5).2.1 c4).2 τ1 eτ1).1 (wi_istore2 fModel_go_23 trivial (wi_aload0 fModel_go_24 (wi_iload1 fModel_go_25 (wi_call2 fModel_go_26 (Nat.le_of_ble_eq_true rfl) (k_Model_goesTo ((((h.1 c5).2.1 c4).2 τ1 eτ1).2 _ rfl).1 (fun τ3 eτ3 => (wi_bipush fModel_go_27 (wi_istore3 fModel_go_28 trivial ((((((h.1 c5).2.1 c4).2 τ1 eτ1).2 _ rfl).2 τ3 eτ3) _ (by exact trivial)))))))))))))))))) (fun c4 => (wi_bipush fModel_go_17 (wi_ret1 fModel_go_18 ((h.1 c5).2.2 c4)))))))))))))) (fun c5 => (wi_bipush fModel_go_6 (wi_ret1 fModel_go_7 (h.2 c5))))))))))))
set_option maxRecDepth 20000 in
theorem bModel_go_29 {xs : List Int} {d : Nat} {Q : Option w_V → w_M → Prop} {v2 : Int} {v3 : Int} {σ : w_M}
    (h : (82 ≤ v3 → (p_Model_standing σ ∧ (∀ (y1 : Int), y1 = v_Model_standing σ → (w_in (v2 - y1) ∧ Q (some (.inl (v2 - y1))) σ)))) ∧ (v3 < 82 → (0 ≤ v3 ∧ v3 < 246 ∧ (∀ (τ2 : w_M), τ2 = w_up σ 123 v3.toNat (σ 124 v3.toNat) → (w_in (v3 + 1) ∧ LModel_go_29 xs (d + 6) Q v2 (v3 + 1) τ2))))) : LModel_go_29 xs (d + 6) Q v2 v3 σ :=
  fun l1 nl1 => (wi_iload3 fModel_go_29 (wi_bipush fModel_go_30 (wi_ic_ge fModel_go_31 (fun c3 => (wi_iload2 fModel_go_42 (wi_aload0 fModel_go_43 (wi_call1 fModel_go_44 (Nat.le_of_ble_eq_true rfl) (k_Model_standing (h.1 c3).1 (wi_isub fModel_go_45 ((h.1 c3).2 _ rfl).1 (wi_ret1 fModel_go_46 ((h.1 c3).2 _ rfl).2))))))) (fun c3 => (wi_aload0 fModel_go_32 (wi_getf900 fModel_go_33 (wi_iload3 fModel_go_34 (wi_aload0 fModel_go_35 (wi_getf901 fModel_go_36 (wi_iload3 fModel_go_37 (wi_iald1082 fModel_go_38 (h.2 c3).1 c3 (wi_iast1246 fModel_go_39 (h.2 c3).1 (h.2 c3).2.1 (wi_iinc3 fModel_go_40 trivial ((h.2 c3).2.2 _ rfl).1 (wi_goto fModel_go_41 (((h.2 c3).2.2 _ rfl).2 _ nl1)))))))))))))))
theorem k_Model_go {xs : List Int} {d : Nat} {Q : Option w_V → w_M → Prop} {x1 : Int} {σ : w_M} (hp : p_Model_go x1 σ) (hQ : ∀ (x : Int) (σ' : w_M), q_Model_go x1 σ x σ' → Q (some (.inl x)) σ') : w_Call (xs, d + 6) 193 [.inr (.inr (9, 122)), .inl x1] σ Q := by
  have hM : MI σ := hp
  have hok := hM.ok
  have hrs := m_ok.hrs hok
  have hr : 0 ≤ σ 123 42 ∧ σ 123 42 ≤ σ 122 3 := m_ok.hr hok
  unfold q_Model_go F_go G_go at hQ
  have e0 : mS σ 0 0 0 = σ 122 3 := rfl
  have e1 : mS σ 0 0 1 = σ 123 42 := rfl
  have eA : mS σ 0 = w_am σ 123 0 := rfl
  rw [e0, e1, eA] at hQ
  refine bModel_go_0 ⟨fun c => ⟨⟨by omega, by omega⟩, fun c2 => ⟨hM.sm, fun τ1 hq1 => ?_⟩, fun c2 => ?_⟩, fun c => ?_⟩
  · have c3 : x1 ≤ σ 122 3 - σ 123 42 := by omega
    rw [if_pos c, if_pos c3, if_pos ⟨c, c3⟩] at hQ
    obtain ⟨q1, q2, q3⟩ := hq1
    have W1 : m_ok τ1 124 0 := by unfold m_ok; rw [q1]; exact hok
    refine ⟨W1, fun y2 e2 => ⟨⟨W1, c⟩, fun τ3 hq3 => ?_⟩⟩
    obtain ⟨p1, p2⟩ := hq3
    rw [q1] at p1
    have G := n_goes_all hok x1.toNat
    have W3 : m_ok τ3 124 0 := by unfold m_ok; rw [p1]; exact G.1
    have b1 := n_sd_le hok
    have b3 := n_sd_le G.1
    unfold v_Model_standing at e2
    rw [q1] at e2
    have z3 : ∀ b, b ≠ 124 → τ3 b = σ b := fun b hb => by rw [p2.1 b hb, q2 b hb]
    have h48 : ∀ x, 48 ≤ x → x < 82 → τ3 124 x = σ 123 x := fun x h1 h2 => by rw [p2.2 x h1, q3 x h2]
    refine (w_loop (n := 82) (P := fun k => ∀ τ : w_M, (∀ b, b ≠ 123 → τ b = τ3 b) → (∀ x, x < k → τ 123 x = τ3 124 x) → (∀ x, k ≤ x → τ 123 x = σ 123 x) → LModel_go_29 xs (d + 6) Q y2 (k : Int) τ) ?_ ?_) τ3 (fun b hb => rfl) (fun x hx => by omega) (fun x hx => by rw [z3 123 (by decide)])
    · intro τ F h1 h2
      have A4 : w_am τ 124 0 = w_am τ3 124 0 := w_am_fr (by rw [F 122 (by decide)]; exact ⟨rfl, rfl, rfl⟩) (F 124 (by decide))
      have A5 : w_am τ 123 0 = w_am τ3 124 0 := w_am_cp W3.sm (F 122 (by decide)) (fun x hx => h1 x (by omega))
      refine bModel_go_29 ⟨fun _ => ⟨by show n_WF _; rw [A4]; exact W3, fun y ey => ?_⟩, fun h => by omega⟩
      unfold v_Model_standing at ey
      rw [A4, p1] at ey
      refine ⟨⟨by omega, by omega⟩, hQ _ _ ?_⟩
      obtain ⟨g0, g4, g5⟩ := n_goes_hd hok x1.toNat
      have hMS : mS τ = w_sp (mS σ) 0 (n_goes (w_am σ 123 0) x1.toNat) := by
        have hz : ∀ b, b ≠ 123 → b ≠ 124 → τ b = σ b := fun b h1 h2 => by rw [F b h1, z3 b h2]
        have hx : ∀ x, 48 ≤ x → τ 123 x = σ 123 x := fun x hx => by
          by_cases h82 : x < 82
          · rw [h1 x h82, h48 x hx h82]
          · exact h2 x (by omega)
        have e122 : τ 122 3 = σ 122 3 ∧ τ 122 4 = σ 122 4 ∧ τ 122 5 = σ 122 5 := by rw [hz 122 (by decide) (by decide)]; exact ⟨rfl, rfl, rfl⟩
        exact cS_ext (by show w_am τ 123 0 = _; rw [A5, p1]; rfl) (s_am_fr (fun x h1 h2 => hx x (by omega)) hM.se.2) (c_am_fr (fun x h1 h2 => hx x (by omega)) hM.pa.2) (t_am_fr (by rw [hz 122 (by decide) (by decide)]) (by rw [hz 122 (by decide) (by decide)]) (hz 127 (by decide) (by decide))) (h_am_fr (fun b h1 h2 => hz b (by omega) (by omega))) (fun p hp => by rw [w_sp_ne (by omega)]; exact mS_im hM e122 (hz 125 (by decide) (by decide)) (fun x hx2 => hx x (by omega)) p hp)
      refine ⟨by omega, ?_, hMS, fun b hb => by rw [F b (by omega), z3 b (by omega)], by rw [F 122 (by decide), z3 122 (by decide)]⟩
      unfold MI
      rw [hMS]
      exact sWF_0 hM G.1 g0 g4 g5
    · intro k hk ih τ F h1 h2
      refine bModel_go_29 ⟨fun h => by omega, fun h => ⟨by omega, by omega, fun τ2 t2 => ⟨⟨by omega, by omega⟩, ?_⟩⟩⟩
      rw [← w_cs1]
      rw [Int.toNat_natCast, F 124 (by decide)] at t2
      refine ih τ2 (fun b hb => by rw [t2, w_up_ne hb]; exact F b hb) (fun x hx => ?_) (fun x hx => by rw [t2, w_up_j (by omega)]; exact h2 x (by omega))
      rw [t2, w_up_eq]
      by_cases hxk : x = k
      · rw [if_pos ⟨rfl, hxk⟩, hxk]
      · rw [if_neg (fun e => hxk e.2)]
        exact h1 x (by omega)
  · rw [if_pos c, if_neg (by omega), if_neg (by omega)] at hQ
    exact hQ _ _ (m_qr hM rfl)
  · rw [if_neg c, if_neg (fun q => c q.1)] at hQ
    exact hQ _ _ (m_qr hM rfl)
noncomputable def p_Model_ahead (_x1 : Int) (_x2 : Int) (_x3 : Int) (σ : w_M) : Prop := MI σ
noncomputable def q_Model_ahead (x1 : Int) (x2 : Int) (x3 : Int) (σ : w_M) (x : Int) (σ' : w_M) : Prop := m_q (F_ahead (mS σ) x1 x2 x3) (mS σ) σ x σ'
noncomputable def p_Model_stands (_x1 : Int) (_x2 : Int) (σ : w_M) : Prop := MI σ
noncomputable def q_Model_stands (x1 : Int) (x2 : Int) (σ : w_M) (x : Int) (σ' : w_M) : Prop := m_q (F_stands (mS σ) x1 x2) (mS σ) σ x σ'
noncomputable def p_Model_done (_x1 : Int) (σ : w_M) : Prop := MI σ
noncomputable def q_Model_done (x1 : Int) (σ : w_M) (x : Int) (σ' : w_M) : Prop := m_q (F_done (mS σ) x1) (mS σ) σ x σ'
noncomputable def p_Model_left  (σ : w_M) : Prop := MI σ
noncomputable def q_Model_left  (σ : w_M) (x : Int) (σ' : w_M) : Prop := m_q (F_left (mS σ)) (mS σ) σ x σ'
theorem fModel_ahead_0 : w_fe am_c201 0 1 (.aload 0) := ⟨rfl, rfl⟩
theorem fModel_ahead_1 : w_fe am_c201 1 2 (.iload 1) := ⟨rfl, rfl⟩
theorem fModel_ahead_2 : w_fe am_c201 2 3 (.invokestatic 181) := ⟨rfl, rfl⟩
theorem fModel_ahead_3 : w_if am_c201 3 4 .eq 16 := ⟨rfl, rfl⟩
theorem fModel_ahead_4 : w_fe am_c201 4 5 (.iload 2) := ⟨rfl, rfl⟩
theorem fModel_ahead_5 : w_fe am_c201 5 6 (.i2l) := ⟨rfl, rfl⟩
theorem fModel_ahead_6 : w_fe am_c201 6 7 (.sipush 0) := ⟨rfl, rfl⟩
theorem fModel_ahead_7 : w_fe am_c201 7 8 (.sipush 12) := ⟨rfl, rfl⟩
theorem fModel_ahead_8 : w_fe am_c201 8 9 (.invokestatic 157) := ⟨rfl, rfl⟩
theorem fModel_ahead_9 : w_if am_c201 9 10 .eq 16 := ⟨rfl, rfl⟩
theorem fModel_ahead_10 : w_fe am_c201 10 11 (.iload 3) := ⟨rfl, rfl⟩
theorem fModel_ahead_11 : w_fe am_c201 11 12 (.i2l) := ⟨rfl, rfl⟩
theorem fModel_ahead_12 : w_fe am_c201 12 13 (.sipush 0) := ⟨rfl, rfl⟩
theorem fModel_ahead_13 : w_fe am_c201 13 14 (.sipush 4) := ⟨rfl, rfl⟩
theorem fModel_ahead_14 : w_fe am_c201 14 15 (.invokestatic 157) := ⟨rfl, rfl⟩
theorem fModel_ahead_15 : w_if am_c201 15 16 .ne 18 := ⟨rfl, rfl⟩
theorem fModel_ahead_16 : w_fe am_c201 16 17 (.bipush (-1)) := ⟨rfl, rfl⟩
theorem fModel_ahead_17 : w_fe am_c201 17 18 (.ireturn) := ⟨rfl, rfl⟩
theorem fModel_ahead_18 : w_fe am_c201 18 19 (.aload 0) := ⟨rfl, rfl⟩
theorem fModel_ahead_19 : w_fe am_c201 19 20 (.invokestatic 174) := ⟨rfl, rfl⟩
theorem fModel_ahead_20 : w_fe am_c201 20 21 (.aload 0) := ⟨rfl, rfl⟩
theorem fModel_ahead_21 : w_fe am_c201 21 22 (.iload 2) := ⟨rfl, rfl⟩
theorem fModel_ahead_22 : w_fe am_c201 22 23 (.invokestatic 194) := ⟨rfl, rfl⟩
theorem fModel_ahead_23 : w_fe am_c201 23 24 (.aload 0) := ⟨rfl, rfl⟩
theorem fModel_ahead_24 : w_fe am_c201 24 25 (.iload 1) := ⟨rfl, rfl⟩
theorem fModel_ahead_25 : w_fe am_c201 25 26 (.iload 3) := ⟨rfl, rfl⟩
theorem fModel_ahead_26 : w_fe am_c201 26 27 (.invokestatic 178) := ⟨rfl, rfl⟩
theorem fModel_ahead_27 : w_fe am_c201 27 28 (.ireturn) := ⟨rfl, rfl⟩
set_option maxRecDepth 20000 in
theorem bModel_ahead_0 {xs : List Int} {d : Nat} {Q : Option w_V → w_M → Prop} {x1 : Int} {x2 : Int} {x3 : Int} {σ : w_M}
    (h : p_Model_isReaper x1 σ ∧ ((¬ (0 ≤ x1 ∧ x1 < σ 122 5) → Q (some (.inl (-1))) σ) ∧ ((0 ≤ x1 ∧ x1 < σ 122 5) → ((¬ (0 ≤ x2 ∧ x2 ≤ 12) → Q (some (.inl (-1))) σ) ∧ ((0 ≤ x2 ∧ x2 ≤ 12) → (((0 ≤ x3 ∧ x3 ≤ 4) → (p_Model_starts σ ∧ (∀ (τ1 : w_M), q_Model_starts σ τ1 → (p_Model_goesTo x2 τ1 ∧ (∀ (τ2 : w_M), q_Model_goesTo x2 τ1 τ2 → (p_Model_of x1 x3 τ2 ∧ Q (some (.inl (τ2 124 (21 + 5 * x1 + x3).toNat))) τ2)))))) ∧ (¬ (0 ≤ x3 ∧ x3 ≤ 4) → Q (some (.inl (-1))) σ))))))) : w_Call (xs, (d + 6)) 201 [.inr (.inr (9, 122)), .inl x1, .inl x2, .inl x3] σ Q :=
  (w_mk (mid := 201) (by decide) rfl rfl rfl rfl rfl (Nat.le_of_ble_eq_true rfl) ⟨rfl, Or.inl (by decide)⟩ (wi_aload0 fModel_ahead_0 (wi_iload1 fModel_ahead_1 (wi_call2 fModel_ahead_2 (Nat.le_of_ble_eq_true rfl) (k_Model_isReaper h.1 (wi_ifb_eq fModel_ahead_3 (fun c5 => (wi_bipush fModel_ahead_16 (wi_ret1 fModel_ahead_17 (h.2.1 c5)))) (fun c5 => (wi_iload2 fModel_ahead_4 (wi_i2l fModel_ahead_5 (wi_sipush fModel_ahead_6 (wi_sipush fModel_ahead_7 (wi_call3 fModel_ahead_8 (Nat.le_of_ble_eq_true rfl) (k_Model_in (wi_ifb_eq fModel_ahead_9 (fun c4 => (wi_bipush fModel_ahead_16 (wi_ret1 fModel_ahead_17 ((h.2.2 c5).1 c4)))) (fun c4 => (wi_iload3 fModel_ahead_10 (wi_i2l fModel_ahead_11 (wi_sipush fModel_ahead_12 (wi_sipush fModel_ahead_13 (wi_call3 fModel_ahead_14 (Nat.le_of_ble_eq_true rfl) (k_Model_in (wi_ifb_ne fModel_ahead_15 (fun c3 => (wi_aload0 fModel_ahead_18 (wi_call1 fModel_ahead_19 (Nat.le_of_ble_eq_true rfl) (k_Model_starts (((h.2.2 c5).2 c4).1 c3).1 (fun τ1 eτ1 => (wi_aload0 fModel_ahead_20 (wi_iload2 fModel_ahead_21 (wi_call2 fModel_ahead_22 (Nat.le_of_ble_eq_true rfl) (k_Model_goesTo ((((h.2.2 c5).2 c4).1 c3).2 τ1 eτ1).1 (fun τ2 eτ2 => (wi_aload0 fModel_ahead_23 (wi_iload1 fModel_ahead_24 (wi_iload3 fModel_ahead_25 (wi_call3 fModel_ahead_26 (Nat.le_of_ble_eq_true rfl) (k_Model_of (((((h.2.2 c5).2 c4).1 c3).2 τ1 eτ1).2 τ2 eτ2).1 (wi_ret1 fModel_ahead_27 (((((h.2.2 c5).2 c4).1 c3).2 τ1 eτ1).2 τ2 eτ2).2)))))))))))))))) (fun c3 => (wi_bipush fModel_ahead_16 (wi_ret1 fModel_ahead_17 (((h.2.2 c5).2 c4).2 c3))))))))))))))))))))))))))
theorem fModel_stands_0 : w_fe am_c202 0 1 (.aload 0) := ⟨rfl, rfl⟩
theorem fModel_stands_1 : w_fe am_c202 1 2 (.iload 1) := ⟨rfl, rfl⟩
theorem fModel_stands_2 : w_fe am_c202 2 3 (.invokestatic 177) := ⟨rfl, rfl⟩
theorem fModel_stands_3 : w_if am_c202 3 4 .eq 10 := ⟨rfl, rfl⟩
theorem fModel_stands_4 : w_fe am_c202 4 5 (.iload 2) := ⟨rfl, rfl⟩
theorem fModel_stands_5 : w_fe am_c202 5 6 (.i2l) := ⟨rfl, rfl⟩
theorem fModel_stands_6 : w_fe am_c202 6 7 (.sipush 0) := ⟨rfl, rfl⟩
theorem fModel_stands_7 : w_fe am_c202 7 8 (.sipush 12) := ⟨rfl, rfl⟩
theorem fModel_stands_8 : w_fe am_c202 8 9 (.invokestatic 157) := ⟨rfl, rfl⟩
theorem fModel_stands_9 : w_if am_c202 9 10 .ne 12 := ⟨rfl, rfl⟩
theorem fModel_stands_10 : w_fe am_c202 10 11 (.bipush (-1)) := ⟨rfl, rfl⟩
theorem fModel_stands_11 : w_fe am_c202 11 12 (.ireturn) := ⟨rfl, rfl⟩
theorem fModel_stands_12 : w_fe am_c202 12 13 (.aload 0) := ⟨rfl, rfl⟩
theorem fModel_stands_13 : w_fe am_c202 13 14 (.invokestatic 174) := ⟨rfl, rfl⟩
theorem fModel_stands_14 : w_fe am_c202 14 15 (.aload 0) := ⟨rfl, rfl⟩
theorem fModel_stands_15 : w_fe am_c202 15 16 (.iload 2) := ⟨rfl, rfl⟩
theorem fModel_stands_16 : w_fe am_c202 16 17 (.invokestatic 194) := ⟨rfl, rfl⟩
theorem fModel_stands_17 : w_fe am_c202 17 18 (.aload 0) := ⟨rfl, rfl⟩
theorem fModel_stands_18 : w_fe am_c202 18 19 (.getfield 901) := ⟨rfl, rfl⟩
theorem fModel_stands_19 : w_fe am_c202 19 20 (.bipush 0) := ⟨rfl, rfl⟩
theorem fModel_stands_20 : w_fe am_c202 20 21 (.iload 1) := ⟨rfl, rfl⟩
theorem fModel_stands_21 : w_fe am_c202 21 22 (.iadd) := ⟨rfl, rfl⟩
theorem fModel_stands_22 : w_fe am_c202 22 23 (.iaload) := ⟨rfl, rfl⟩
theorem fModel_stands_23 : w_fe am_c202 23 24 (.ireturn) := ⟨rfl, rfl⟩
set_option maxRecDepth 20000 in
theorem bModel_stands_0 {xs : List Int} {d : Nat} {Q : Option w_V → w_M → Prop} {x1 : Int} {x2 : Int} {σ : w_M}
    (h : p_Model_isStrip x1 σ ∧ ((¬ (0 ≤ x1 ∧ x1 < σ 122 4) → Q (some (.inl (-1))) σ) ∧ ((0 ≤ x1 ∧ x1 < σ 122 4) → (((0 ≤ x2 ∧ x2 ≤ 12) → (p_Model_starts σ ∧ (∀ (τ1 : w_M), q_Model_starts σ τ1 → (p_Model_goesTo x2 τ1 ∧ (∀ (τ2 : w_M), q_Model_goesTo x2 τ1 τ2 → (w_in (0 + x1) ∧ 0 ≤ (0 + x1) ∧ (0 + x1) < 82 ∧ Q (some (.inl (τ2 124 (0 + x1).toNat))) τ2)))))) ∧ (¬ (0 ≤ x2 ∧ x2 ≤ 12) → Q (some (.inl (-1))) σ))))) : w_Call (xs, (d + 6)) 202 [.inr (.inr (9, 122)), .inl x1, .inl x2] σ Q :=
  (w_mk (mid := 202) (by decide) rfl rfl rfl rfl rfl (Nat.le_of_ble_eq_true rfl) ⟨rfl, Or.inl (by decide)⟩ (wi_aload0 fModel_stands_0 (wi_iload1 fModel_stands_1 (wi_call2 fModel_stands_2 (Nat.le_of_ble_eq_true rfl) (k_Model_isStrip h.1 (wi_ifb_eq fModel_stands_3 (fun c4 => (wi_bipush fModel_stands_10 (wi_ret1 fModel_stands_11 (h.2.1 c4)))) (fun c4 => (wi_iload2 fModel_stands_4 (wi_i2l fModel_stands_5 (wi_sipush fModel_stands_6 (wi_sipush fModel_stands_7 (wi_call3 fModel_stands_8 (Nat.le_of_ble_eq_true rfl) (k_Model_in (wi_ifb_ne fModel_stands_9 (fun c3 => (wi_aload0 fModel_stands_12 (wi_call1 fModel_stands_13 (Nat.le_of_ble_eq_true rfl) (k_Model_starts ((h.2.2 c4).1 c3).1 (fun τ1 eτ1 => (wi_aload0 fModel_stands_14 (wi_iload2 fModel_stands_15 (wi_call2 fModel_stands_16 (Nat.le_of_ble_eq_true rfl) (k_Model_goesTo (((h.2.2 c4).1 c3).2 τ1 eτ1).1 (fun τ2 eτ2 => (wi_aload0 fModel_stands_17 (wi_getf901 fModel_stands_18 (wi_bipush fModel_stands_19 (wi_iload1 fModel_stands_20 (wi_iadd fModel_stands_21 ((((h.2.2 c4).1 c3).2 τ1 eτ1).2 τ2 eτ2).1 (wi_iald1082 fModel_stands_22 ((((h.2.2 c4).1 c3).2 τ1 eτ1).2 τ2 eτ2).2.1 ((((h.2.2 c4).1 c3).2 τ1 eτ1).2 τ2 eτ2).2.2.1 (wi_ret1 fModel_stands_23 ((((h.2.2 c4).1 c3).2 τ1 eτ1).2 τ2 eτ2).2.2.2))))))))))))))))) (fun c3 => (wi_bipush fModel_stands_10 (wi_ret1 fModel_stands_11 ((h.2.2 c4).2 c3))))))))))))))))))
theorem fModel_done_0 : w_fe am_c203 0 1 (.iload 1) := ⟨rfl, rfl⟩
theorem fModel_done_1 : w_fe am_c203 1 2 (.i2l) := ⟨rfl, rfl⟩
theorem fModel_done_2 : w_fe am_c203 2 3 (.sipush 0) := ⟨rfl, rfl⟩
theorem fModel_done_3 : w_fe am_c203 3 4 (.sipush 1) := ⟨rfl, rfl⟩
theorem fModel_done_4 : w_fe am_c203 4 5 (.invokestatic 157) := ⟨rfl, rfl⟩
theorem fModel_done_5 : w_if am_c203 5 6 .ne 8 := ⟨rfl, rfl⟩
theorem fModel_done_6 : w_fe am_c203 6 7 (.bipush (-1)) := ⟨rfl, rfl⟩
theorem fModel_done_7 : w_fe am_c203 7 8 (.ireturn) := ⟨rfl, rfl⟩
theorem fModel_done_8 : w_fe am_c203 8 9 (.aload 0) := ⟨rfl, rfl⟩
theorem fModel_done_9 : w_fe am_c203 9 10 (.invokestatic 174) := ⟨rfl, rfl⟩
theorem fModel_done_10 : w_fe am_c203 10 11 (.aload 0) := ⟨rfl, rfl⟩
theorem fModel_done_11 : w_fe am_c203 11 12 (.invokestatic 204) := ⟨rfl, rfl⟩
theorem fModel_done_12 : w_fe am_c203 12 13 (.istore 2) := ⟨rfl, rfl⟩
theorem fModel_done_13 : w_fe am_c203 13 14 (.iload 1) := ⟨rfl, rfl⟩
theorem fModel_done_14 : w_if am_c203 14 15 .ne 17 := ⟨rfl, rfl⟩
theorem fModel_done_15 : w_fe am_c203 15 16 (.iload 2) := ⟨rfl, rfl⟩
theorem fModel_done_16 : w_gt am_c203 16 21 := rfl
theorem fModel_done_17 : w_fe am_c203 17 18 (.aload 0) := ⟨rfl, rfl⟩
theorem fModel_done_18 : w_fe am_c203 18 19 (.getfield 901) := ⟨rfl, rfl⟩
theorem fModel_done_19 : w_fe am_c203 19 20 (.bipush 47) := ⟨rfl, rfl⟩
theorem fModel_done_20 : w_fe am_c203 20 21 (.iaload) := ⟨rfl, rfl⟩
theorem fModel_done_21 : w_fe am_c203 21 22 (.ireturn) := ⟨rfl, rfl⟩
set_option maxRecDepth 20000 in
theorem bModel_done_0 {xs : List Int} {d : Nat} {Q : Option w_V → w_M → Prop} {x1 : Int} {σ : w_M}
    (h : ((0 ≤ x1 ∧ x1 ≤ 1) → (p_Model_starts σ ∧ (∀ (τ1 : w_M), q_Model_starts σ τ1 → (p_Model_doneBehind τ1 ∧ (∀ (y2 : Int) (τ3 : w_M), q_Model_doneBehind τ1 y2 τ3 → ((¬ x1 = 0 → Q (some (.inl (τ3 124 47))) τ3) ∧ (x1 = 0 → Q (some (.inl y2)) τ3))))))) ∧ (¬ (0 ≤ x1 ∧ x1 ≤ 1) → Q (some (.inl (-1))) σ)) : w_Call (xs, (d + 6)) 203 [.inr (.inr (9, 122)), .inl x1] σ Q :=
  (w_mk (mid := 203) (by decide) rfl rfl rfl rfl rfl (Nat.le_of_ble_eq_true rfl) ⟨rfl, Or.inl (by decide)⟩ (wi_iload1 fModel_done_0 (wi_i2l fModel_done_1 (wi_sipush fModel_done_2 (wi_sipush fModel_done_3 (wi_call3 fModel_done_4 (Nat.le_of_ble_eq_true rfl) (k_Model_in (wi_ifb_ne fModel_done_5 (fun c5 => (wi_aload0 fModel_done_8 (wi_call1 fModel_done_9 (Nat.le_of_ble_eq_true rfl) (k_Model_starts (h.1 c5).1 (fun τ1 eτ1 => (wi_aload0 fModel_done_10 (wi_call1 fModel_done_11 (Nat.le_of_ble_eq_true rfl) (k_Model_doneBehind ((h.1 c5).2 τ1 eτ1).1 (fun y2 τ3 eτ3 => (wi_istore2 fModel_done_12 trivial (wi_iload1 fModel_done_13 (wi_if_ne fModel_done_14 (fun c4 => (wi_aload0 fModel_done_17 (wi_getf901 fModel_done_18 (wi_bipush fModel_done_19 (wi_iald1082 fModel_done_20 (by decide) (by decide) (wi_ret1 fModel_done_21 ((((h.1 c5).2 τ1 eτ1).2 y2 τ3 eτ3).1 c4))))))) (fun c4 => (wi_iload2 fModel_done_15 (wi_goto fModel_done_16 (wi_ret1 fModel_done_21 ((((h.1 c5).2 τ1 eτ1).2 y2 τ3 eτ3).2 c4))))))))))))))))) (fun c5 => (wi_bipush fModel_done_6 (wi_ret1 fModel_done_7 (h.2 c5))))))))))))
theorem fModel_left_0 : w_fe am_c205 0 1 (.aload 0) := ⟨rfl, rfl⟩
theorem fModel_left_1 : w_fe am_c205 1 2 (.invokestatic 174) := ⟨rfl, rfl⟩
theorem fModel_left_2 : w_fe am_c205 2 3 (.aload 0) := ⟨rfl, rfl⟩
theorem fModel_left_3 : w_fe am_c205 3 4 (.bipush 12) := ⟨rfl, rfl⟩
theorem fModel_left_4 : w_fe am_c205 4 5 (.invokestatic 194) := ⟨rfl, rfl⟩
theorem fModel_left_5 : w_fe am_c205 5 6 (.aload 0) := ⟨rfl, rfl⟩
theorem fModel_left_6 : w_fe am_c205 6 7 (.invokestatic 175) := ⟨rfl, rfl⟩
theorem fModel_left_7 : w_fe am_c205 7 8 (.ireturn) := ⟨rfl, rfl⟩
set_option maxRecDepth 20000 in
theorem bModel_left_0 {xs : List Int} {d : Nat} {Q : Option w_V → w_M → Prop}  {σ : w_M}
    (h : p_Model_starts σ ∧ (∀ (τ1 : w_M), q_Model_starts σ τ1 → (p_Model_goesTo 12 τ1 ∧ (∀ (τ2 : w_M), q_Model_goesTo 12 τ1 τ2 → (p_Model_standing τ2 ∧ (∀ (y3 : Int), y3 = v_Model_standing τ2 → Q (some (.inl y3)) τ2)))))) : w_Call (xs, (d + 6)) 205 [.inr (.inr (9, 122))] σ Q :=
  (w_mk (mid := 205) (by decide) rfl rfl rfl rfl rfl (Nat.le_of_ble_eq_true rfl) ⟨rfl, Or.inl (by decide)⟩ (wi_aload0 fModel_left_0 (wi_call1 fModel_left_1 (Nat.le_of_ble_eq_true rfl) (k_Model_starts h.1 (fun τ1 eτ1 => (wi_aload0 fModel_left_2 (wi_bipush fModel_left_3 (wi_call2 fModel_left_4 (Nat.le_of_ble_eq_true rfl) (k_Model_goesTo (h.2 τ1 eτ1).1 (fun τ2 eτ2 => (wi_aload0 fModel_left_5 (wi_call1 fModel_left_6 (Nat.le_of_ble_eq_true rfl) (k_Model_standing ((h.2 τ1 eτ1).2 τ2 eτ2).1 (wi_ret1 fModel_left_7 (((h.2 τ1 eτ1).2 τ2 eτ2).2 _ rfl)))))))))))))))
theorem k_Model_ahead {xs : List Int} {d : Nat} {Q : Option w_V → w_M → Prop} {x1 : Int} {x2 : Int} {x3 : Int} {σ : w_M} (hp : p_Model_ahead x1 x2 x3 σ) (hQ : ∀ (x : Int) (σ' : w_M), q_Model_ahead x1 x2 x3 σ x σ' → Q (some (.inl x)) σ') : w_Call (xs, d + 6) 201 [.inr (.inr (9, 122)), .inl x1, .inl x2, .inl x3] σ Q := by
  have hM : MI σ := hp
  have hok := hM.ok
  have hn := hM.n
  unfold q_Model_ahead F_ahead at hQ
  have eA : mS σ 0 = w_am σ 123 0 := rfl
  rw [eA] at hQ
  obtain ⟨g0, g4, g5⟩ := n_goes_hd hok x2.toNat
  have e5 : w_am σ 123 0 0 5 = σ 122 5 := rfl
  have bad : ¬ ((0 ≤ x1 ∧ x1 < σ 122 5) ∧ (0 ≤ x2 ∧ x2 ≤ 12) ∧ (0 ≤ x3 ∧ x3 ≤ 4)) → Q (some (.inl (-1))) σ := fun h => by
    refine hQ _ _ (m_qr hM ?_)
    split
    · rename_i h2
      exact (n_tell_bad (fun q => h ⟨by rw [← e5, ← g5]; exact q.1, h2, q.2⟩)).symm
    · rfl
  refine bModel_ahead_0 ⟨hn, fun c => bad (fun q => c q.1), fun c => ⟨fun c2 => bad (fun q => c2 q.2.1), fun c2 => ⟨fun c3 => ⟨hM.sm, fun τ1 hq1 => ?_⟩, fun c3 => bad (fun q => c3 q.2.2)⟩⟩⟩
  obtain ⟨q1, q2, q3⟩ := hq1
  rw [if_pos c2] at hQ
  refine ⟨⟨by show n_WF _; rw [q1]; exact hok, c2⟩, fun τ2 hq2 => ?_⟩
  obtain ⟨p1, p2⟩ := hq2
  rw [q1] at p1
  have z : τ2 122 = σ 122 := by rw [p2.1 122 (by decide), q2 122 (by decide)]
  refine ⟨⟨by omega, by omega⟩, hQ _ _ (m_qs hM (q2.tr p2.1) ?_)⟩
  rw [← p1]
  exact m_tell (by rw [z]; exact c) c3 (by omega)
theorem k_Model_stands {xs : List Int} {d : Nat} {Q : Option w_V → w_M → Prop} {x1 : Int} {x2 : Int} {σ : w_M} (hp : p_Model_stands x1 x2 σ) (hQ : ∀ (x : Int) (σ' : w_M), q_Model_stands x1 x2 σ x σ' → Q (some (.inl x)) σ') : w_Call (xs, d + 6) 202 [.inr (.inr (9, 122)), .inl x1, .inl x2] σ Q := by
  have hM : MI σ := hp
  have hok := hM.ok
  have hs := hM.s
  unfold q_Model_stands F_stands at hQ
  have eA : mS σ 0 = w_am σ 123 0 := rfl
  have e4 : w_am σ 123 0 0 4 = σ 122 4 := rfl
  rw [eA, e4] at hQ
  refine bModel_stands_0 ⟨hs, fun c => ?_, fun c => ⟨fun c2 => ⟨hM.sm, fun τ1 hq1 => ?_⟩, fun c2 => ?_⟩⟩
  · rw [if_neg (fun q => c q.1)] at hQ
    exact hQ _ _ (m_qr hM rfl)
  · obtain ⟨q1, q2, q3⟩ := hq1
    rw [if_pos ⟨c, c2⟩] at hQ
    refine ⟨⟨by show n_WF _; rw [q1]; exact hok, c2⟩, fun τ2 hq2 => ?_⟩
    obtain ⟨p1, p2⟩ := hq2
    rw [q1] at p1
    have z : τ2 122 = σ 122 := by rw [p2.1 122 (by decide), q2 122 (by decide)]
    refine ⟨⟨by omega, by omega⟩, by omega, by omega, hQ _ _ (m_qs hM (q2.tr p2.1) ?_)⟩
    rw [← p1]
    exact m_rdi (by decide) (Or.inl (by decide)) (by rw [z]; exact c) (by show _ = x1.toNat; omega)
  · rw [if_neg (fun q => c2 q.2)] at hQ
    exact hQ _ _ (m_qr hM rfl)
/-- behind the end of it only the hour goes on -/
theorem n_goes_fin {A : w_M} (h : n_WF A) : ∀ j : Nat, ∃ x : Int, n_goes A (n_fin A + j) = w_up (n_goes A (n_fin A)) 0 1 x := by
  obtain ⟨g1, g2, g3⟩ := n_st_spec A h (n_left A)
  have hall := n_goes_all h (n_fin A)
  by_cases hd : n_sd (n_goes A (n_fin A)) = 0
  · intro j
    induction j with
    | zero => exact ⟨_, (w_up_same rfl).symm⟩
    | succ j ih =>
      obtain ⟨x, hx⟩ := ih
      have hj := n_goes_all h (n_fin A + j)
      have hd2 : n_sd (n_goes A (n_fin A + j)) = 0 := by rw [hx, n_sd_up (by decide) (by decide)]; exact hd
      show ∃ y, (if (n_goes A (n_fin A + j)) 0 1 < (n_goes A (n_fin A + j)) 0 0 then n_on (n_goes A (n_fin A + j)) else n_goes A (n_fin A + j)) = _
      split
      · unfold n_on
        rw [n_hour_done hj.1 hd2, hx, w_up_up]
        exact ⟨_, rfl⟩
      · exact ⟨x, hx⟩
  · have hl : n_fin A = n_left A := g3.resolve_left hd
    intro j
    refine ⟨(n_goes A (n_fin A)) 0 1, ?_⟩
    rw [w_up_same rfl]
    refine n_goes_end ?_ j
    have e0 := hall.2.1.1 0 (by decide) (by decide)
    have hr := h.hr
    rw [hall.2.2.1, e0, hl]
    unfold n_left
    split <;> omega
theorem n_fin_le {A : w_M} (h : n_WF A) : n_fin A ≤ n_left A ∧ n_left A ≤ 12 := by
  obtain ⟨g1, -, -⟩ := n_st_spec A h (n_left A)
  have hrs := h.hrs
  have hr := h.hr
  refine ⟨g1, ?_⟩
  unfold n_left
  omega
theorem n_goes12 {A : w_M} (h : n_WF A) : ∃ x : Int, n_goes A 12 = w_up (n_goes A (n_fin A)) 0 1 x := by
  have hl := n_fin_le h
  obtain ⟨x, hx⟩ := n_goes_fin h (12 - n_fin A)
  rw [show n_fin A + (12 - n_fin A) = 12 by omega] at hx
  exact ⟨x, hx⟩
theorem k_Model_done {xs : List Int} {d : Nat} {Q : Option w_V → w_M → Prop} {x1 : Int} {σ : w_M} (hp : p_Model_done x1 σ) (hQ : ∀ (x : Int) (σ' : w_M), q_Model_done x1 σ x σ' → Q (some (.inl x)) σ') : w_Call (xs, d + 6) 203 [.inr (.inr (9, 122)), .inl x1] σ Q := by
  have hM : MI σ := hp
  have hok := hM.ok
  unfold q_Model_done F_done at hQ
  have eA : mS σ 0 = w_am σ 123 0 := rfl
  rw [eA] at hQ
  refine bModel_done_0 ⟨fun c => ⟨hM.sm, fun τ1 hq1 => ?_⟩, fun c => ?_⟩
  · obtain ⟨q1, q2, q3⟩ := hq1
    refine ⟨by show n_WF _; rw [q1]; exact hok, fun y τ2 hq2 => ?_⟩
    obtain ⟨p1, p2, p3⟩ := hq2
    rw [q1] at p1 p2
    refine ⟨fun c2 => ?_, fun c2 => ?_⟩
    · rw [if_neg c2, if_pos (by omega)] at hQ
      refine hQ _ _ (m_qs hM (q2.tr p3) ?_)
      obtain ⟨x, hx⟩ := n_goes12 hok
      rw [hx, w_up_j (by decide), ← p1]
      rfl
    · rw [if_pos c2] at hQ
      exact hQ _ _ (m_qs hM (q2.tr p3) p2)
  · rw [if_neg (by omega), if_neg (by omega)] at hQ
    exact hQ _ _ (m_qr hM rfl)
theorem k_Model_left {xs : List Int} {d : Nat} {Q : Option w_V → w_M → Prop}  {σ : w_M} (hp : p_Model_left σ) (hQ : ∀ (x : Int) (σ' : w_M), q_Model_left σ x σ' → Q (some (.inl x)) σ') : w_Call (xs, d + 6) 205 [.inr (.inr (9, 122))] σ Q := by
  have hM : MI σ := hp
  have hok := hM.ok
  unfold q_Model_left F_left at hQ
  have eA : mS σ 0 = w_am σ 123 0 := rfl
  rw [eA] at hQ
  refine bModel_left_0 ⟨hM.sm, fun τ1 hq1 => ?_⟩
  obtain ⟨q1, q2, q3⟩ := hq1
  refine ⟨⟨by show n_WF _; rw [q1]; exact hok, by decide, by decide⟩, fun τ2 hq2 => ?_⟩
  obtain ⟨p1, p2⟩ := hq2
  rw [q1] at p1
  refine ⟨by show n_WF _; rw [p1]; exact (n_goes_all hok _).1, fun y ey => hQ _ _ (m_qs hM (q2.tr p2.1) ?_)⟩
  rw [ey]
  unfold v_Model_standing
  rw [p1]
  rfl
end
section
/-! What is seen, paid, kept, counted: the class -/
noncomputable def seAdd (B : w_M) (x y z : Int) : w_M := w_up (w_up (w_up (w_up B 1 (B 0 0).toNat x) 2 (B 0 0).toNat y) 3 (B 0 0).toNat z) 0 0 (B 0 0 + 1)
noncomputable def paAdd (C : w_M) (x y : Int) : w_M := w_up (w_up (w_up C 1 (C 0 0).toNat x) 2 (C 0 0).toNat y) 0 0 (C 0 0 + 1)
noncomputable def r_cut (B : w_M) (n : Int) : w_M := fun d i => if d = 0 then (if i = 0 then n else B 0 i) else if i < n.toNat then B d i else 0
noncomputable def F_see (S : w_S) (n i _is : Int) : Int := if (0 ≤ n ∧ n ≤ 6) ∧ (0 ≤ i ∧ i < S 0 0 4) then (if S 1 0 0 < 8 then S 1 0 0 + 1 else -3) else -1
noncomputable def G_see (S : w_S) (n i is : Int) : w_S := if ((0 ≤ n ∧ n ≤ 6) ∧ (0 ≤ i ∧ i < S 0 0 4)) ∧ S 1 0 0 < 8 then w_sp S 1 (seAdd (S 1) n i is) else S
noncomputable def F_forget (S : w_S) (n : Int) : Int := if 0 ≤ n ∧ n ≤ S 1 0 0 then S 1 0 0 else -1
noncomputable def G_forget (S : w_S) (n : Int) : w_S := if 0 ≤ n ∧ n ≤ S 1 0 0 then w_sp S 1 (r_cut (S 1) n) else S
noncomputable def F_pay (S : w_S) (r w : Int) : Int := if (0 ≤ r ∧ r < S 0 0 5) ∧ (0 ≤ w ∧ w ≤ 99) then (if S 2 0 0 < 4 then S 2 0 0 + 1 else -3) else -1
noncomputable def G_pay (S : w_S) (r w : Int) : w_S := if ((0 ≤ r ∧ r < S 0 0 5) ∧ (0 ≤ w ∧ w ≤ 99)) ∧ S 2 0 0 < 4 then w_sp S 2 (paAdd (S 2) r w) else S
noncomputable def F_owe (S : w_S) (n : Int) : Int := if 0 ≤ n ∧ n ≤ S 2 0 0 then S 2 0 0 else -1
noncomputable def G_owe (S : w_S) (n : Int) : w_S := if 0 ≤ n ∧ n ≤ S 2 0 0 then w_sp S 2 (r_cut (S 2) n) else S
noncomputable def F_count (S : w_S) (w : Int) : Int := if w = 0 then n_swy (S 0) else if w = 1 then n_wgs (S 0) else if w = 2 then n_oils (S 0) else if w = 3 then S 1 0 0 else if w = 4 then S 2 0 0 else if w = 5 then S 11 0 0 + S 11 0 1 else if w = 6 then S 3 0 0 else if w = 7 then S 4 0 0 else -1
noncomputable def F_keep (S : w_S) (k : Int) : Int := if 0 ≤ k ∧ k ≤ 1 then S 11 0 k.toNat else -1
noncomputable def im_set (S : w_S) (k : Nat) : w_S := w_sp (w_sp (w_sp (w_sp S (5 + 3 * k) (S 0)) (6 + 3 * k) (S 1)) (7 + 3 * k) (S 2)) 11 (w_up (S 11) 0 k 1)
noncomputable def im_get (S : w_S) (k : Nat) : w_S := w_sp (w_sp (w_sp S 0 (S (5 + 3 * k))) 1 (S (6 + 3 * k))) 2 (S (7 + 3 * k))
noncomputable def G_keep (S : w_S) (k : Int) : w_S := if 0 ≤ k ∧ k ≤ 1 then im_set S k.toNat else S
noncomputable def F_back (S : w_S) (k : Int) : Int := if 0 ≤ k ∧ k ≤ 1 then (if S 11 0 k.toNat = 1 then S (5 + 3 * k.toNat) 0 1 else -2) else -1
noncomputable def G_back (S : w_S) (k : Int) : w_S := if (0 ≤ k ∧ k ≤ 1) ∧ S 11 0 k.toNat = 1 then im_get S k.toNat else S
theorem seAdd_WF {B : w_M} (h : seWF B) {x y z : Int} (hn : B 0 0 < 8) (hx : 0 ≤ x ∧ x ≤ 6) (hy : 0 ≤ y ∧ y ≤ 6) (hz : z = 0 ∨ z = 1) : seWF (seAdd B x y z) := by
  obtain ⟨h1, h2⟩ := h
  have e : seAdd B x y z 0 0 = B 0 0 + 1 := w_up_at
  refine ⟨by rw [e]; omega, fun k hk => ?_⟩
  rw [e] at hk
  unfold seAdd
  rw [w_up_ne (show 1 ≠ 0 by decide), w_up_ne (show 2 ≠ 0 by decide), w_up_ne (show 3 ≠ 0 by decide), w_up_ne (show 1 ≠ 3 by decide), w_up_ne (show 2 ≠ 3 by decide), w_up_ne (show 1 ≠ 2 by decide)]
  by_cases hkn : k = (B 0 0).toNat
  · subst hkn
    rw [w_up_at, w_up_at, w_up_at]
    exact ⟨hx, hy, hz⟩
  · have := h2 k (by omega)
    rw [w_up_j hkn, w_up_j hkn, w_up_j hkn, w_up_ne (show 2 ≠ 1 by decide), w_up_ne (show 3 ≠ 2 by decide), w_up_ne (show 3 ≠ 1 by decide)]
    exact this
theorem paAdd_WF {A C : w_M} (h : paWF A C) {x y : Int} (hn : C 0 0 < 4) (hx : 0 ≤ x ∧ x < A 0 5) (hy : 0 ≤ y ∧ y ≤ 99) : paWF A (paAdd C x y) := by
  obtain ⟨h1, h2⟩ := h
  have e : paAdd C x y 0 0 = C 0 0 + 1 := w_up_at
  refine ⟨by rw [e]; omega, fun k hk => ?_⟩
  rw [e] at hk
  unfold paAdd
  rw [w_up_ne (show 1 ≠ 0 by decide), w_up_ne (show 2 ≠ 0 by decide), w_up_ne (show 1 ≠ 2 by decide)]
  by_cases hkn : k = (C 0 0).toNat
  · subst hkn
    rw [w_up_at, w_up_at]
    exact ⟨hx, hy⟩
  · have := h2 k (by omega)
    rw [w_up_j hkn, w_up_j hkn, w_up_ne (show 2 ≠ 1 by decide)]
    exact this
theorem r_cut_se {B : w_M} (h : seWF B) {n : Int} (hn : 0 ≤ n ∧ n ≤ B 0 0) : seWF (r_cut B n) := by
  obtain ⟨h1, h2⟩ := h
  have e : r_cut B n 0 0 = n := rfl
  refine ⟨by rw [e]; omega, fun k hk => ?_⟩
  rw [e] at hk
  have r : ∀ d, 1 ≤ d → r_cut B n d k = B d k := fun d hd => by unfold r_cut; rw [if_neg (by omega), if_pos hk]
  rw [r 1 (by decide), r 2 (by decide), r 3 (by decide)]
  exact h2 k (by omega)
theorem r_cut_pa {A B : w_M} (h : paWF A B) {n : Int} (hn : 0 ≤ n ∧ n ≤ B 0 0) : paWF A (r_cut B n) := by
  obtain ⟨h1, h2⟩ := h
  have e : r_cut B n 0 0 = n := rfl
  refine ⟨by rw [e]; omega, fun k hk => ?_⟩
  rw [e] at hk
  have r : ∀ d, 1 ≤ d → r_cut B n d k = B d k := fun d hd => by unfold r_cut; rw [if_neg (by omega), if_pos hk]
  rw [r 1 (by decide), r 2 (by decide)]
  exact h2 k (by omega)
/-- a row of entries, told by where each lies -/
noncomputable def g_ab (N : Nat) (cnt : Int) (f : Nat → Nat → Int) : w_M := fun d i => if d = 0 then (if i = 0 then cnt else 0) else if d < N then (if i < cnt.toNat then f d i else 0) else 0
theorem g_ab_congr {N : Nat} {c c' : Int} {f f' : Nat → Nat → Int} (hc : c' = c) (h : ∀ d i, 1 ≤ d → d < N → i < c.toNat → f' d i = f d i) : g_ab N c' f' = g_ab N c f := by
  funext d i
  unfold g_ab
  rw [hc]
  by_cases hd : d = 0
  · rw [if_pos hd, if_pos hd]
  · rw [if_neg hd, if_neg hd]
    by_cases hN : d < N
    · rw [if_pos hN, if_pos hN]
      by_cases hi : i < c.toNat
      · rw [if_pos hi, if_pos hi, h d i (by omega) hN hi]
      · rw [if_neg hi, if_neg hi]
    · rw [if_neg hN, if_neg hN]
theorem g_ab_cut {N : Nat} {c n : Int} {f f' : Nat → Nat → Int} (hn : 0 ≤ n ∧ n ≤ c) (h : ∀ d i, 1 ≤ d → d < N → i < n.toNat → f' d i = f d i) : g_ab N n f' = r_cut (g_ab N c f) n := by
  funext d i
  unfold g_ab r_cut
  by_cases hd : d = 0
  · rw [if_pos hd, if_pos hd]
    subst hd
    by_cases hi : i = 0
    · rw [if_pos hi, if_pos hi]
    · rw [if_neg hi, if_neg hi]
      show 0 = (if i = 0 then c else 0)
      rw [if_neg hi]
  · rw [if_neg hd, if_neg hd]
    by_cases hi : i < n.toNat
    · rw [if_pos hi, if_pos hi]
      by_cases hN : d < N
      · rw [if_pos hN]
        show _ = (if d = 0 then (if i = 0 then c else 0) else if d < N then (if i < c.toNat then f d i else 0) else 0)
        rw [if_neg hd, if_pos hN, if_pos (by omega), h d i (by omega) hN hi]
      · rw [if_neg hN]
        show _ = (if d = 0 then (if i = 0 then c else 0) else if d < N then (if i < c.toNat then f d i else 0) else 0)
        rw [if_neg hd, if_neg hN]
    · rw [if_neg hi, if_neg hi]
      split <;> rfl
theorem g_ab_se {c : Int} {f f' : Nat → Nat → Int} {x y z : Int} (hc : 0 ≤ c) (h : ∀ d i, 1 ≤ d → d < 4 → i < c.toNat → f' d i = f d i) (h1 : f' 1 c.toNat = x) (h2 : f' 2 c.toNat = y) (h3 : f' 3 c.toNat = z) : g_ab 4 (c + 1) f' = seAdd (g_ab 4 c f) x y z := by
  have e0 : g_ab 4 c f 0 0 = c := rfl
  funext d i
  unfold seAdd
  rw [e0]
  by_cases hd0 : d = 0
  · subst hd0
    by_cases hi : i = 0
    · subst hi; rw [w_up_at]; rfl
    · rw [w_up_j hi, w_up_ne (by decide), w_up_ne (by decide), w_up_ne (by decide)]
      show (if i = 0 then c + 1 else 0) = (if i = 0 then c else 0)
      rw [if_neg hi, if_neg hi]
  · rw [w_up_ne hd0]
    have key : ∀ v, 1 ≤ d → d < 4 → f' d c.toNat = v → g_ab 4 (c + 1) f' d i = if i = c.toNat then v else g_ab 4 c f d i := by
      intro v a b e
      unfold g_ab
      rw [if_neg hd0, if_pos b, if_neg hd0, if_pos b]
      by_cases hi : i = c.toNat
      · rw [if_pos hi, if_pos (by omega), hi, e]
      · rw [if_neg hi]
        by_cases hlt : i < c.toNat
        · rw [if_pos (by omega), if_pos hlt, h d i a b hlt]
        · rw [if_neg (by omega), if_neg hlt]
    by_cases hd3 : d = 3
    · subst hd3
      rw [key z (by decide) (by decide) h3, w_up_eq]
      by_cases hi : i = c.toNat
      · rw [if_pos hi, if_pos ⟨rfl, hi⟩]
      · rw [if_neg hi, if_neg (fun e => hi e.2), w_up_ne (by decide), w_up_ne (by decide)]
    · rw [w_up_ne hd3]
      by_cases hd2 : d = 2
      · subst hd2
        rw [key y (by decide) (by decide) h2, w_up_eq]
        by_cases hi : i = c.toNat
        · rw [if_pos hi, if_pos ⟨rfl, hi⟩]
        · rw [if_neg hi, if_neg (fun e => hi e.2), w_up_ne (by decide)]
      · rw [w_up_ne hd2]
        by_cases hd1 : d = 1
        · subst hd1
          rw [key x (by decide) (by decide) h1, w_up_eq]
          by_cases hi : i = c.toNat
          · rw [if_pos hi, if_pos ⟨rfl, hi⟩]
          · rw [if_neg hi, if_neg (fun e => hi e.2)]
        · rw [w_up_ne hd1]
          unfold g_ab
          rw [if_neg hd0, if_neg (by omega), if_neg hd0, if_neg (by omega)]
theorem g_ab_pa {c : Int} {f f' : Nat → Nat → Int} {x y : Int} (hc : 0 ≤ c) (h : ∀ d i, 1 ≤ d → d < 3 → i < c.toNat → f' d i = f d i) (h1 : f' 1 c.toNat = x) (h2 : f' 2 c.toNat = y) : g_ab 3 (c + 1) f' = paAdd (g_ab 3 c f) x y := by
  have e0 : g_ab 3 c f 0 0 = c := rfl
  funext d i
  unfold paAdd
  rw [e0]
  by_cases hd0 : d = 0
  · subst hd0
    by_cases hi : i = 0
    · subst hi; rw [w_up_at]; rfl
    · rw [w_up_j hi, w_up_ne (by decide), w_up_ne (by decide)]
      show (if i = 0 then c + 1 else 0) = (if i = 0 then c else 0)
      rw [if_neg hi, if_neg hi]
  · rw [w_up_ne hd0]
    have key : ∀ v, 1 ≤ d → d < 3 → f' d c.toNat = v → g_ab 3 (c + 1) f' d i = if i = c.toNat then v else g_ab 3 c f d i := by
      intro v a b e
      unfold g_ab
      rw [if_neg hd0, if_pos b, if_neg hd0, if_pos b]
      by_cases hi : i = c.toNat
      · rw [if_pos hi, if_pos (by omega), hi, e]
      · rw [if_neg hi]
        by_cases hlt : i < c.toNat
        · rw [if_pos (by omega), if_pos hlt, h d i a b hlt]
        · rw [if_neg (by omega), if_neg hlt]
    by_cases hd2 : d = 2
    · subst hd2
      rw [key y (by decide) (by decide) h2, w_up_eq]
      by_cases hi : i = c.toNat
      · rw [if_pos hi, if_pos ⟨rfl, hi⟩]
      · rw [if_neg hi, if_neg (fun e => hi e.2), w_up_ne (by decide)]
    · rw [w_up_ne hd2]
      by_cases hd1 : d = 1
      · subst hd1
        rw [key x (by decide) (by decide) h1, w_up_eq]
        by_cases hi : i = c.toNat
        · rw [if_pos hi, if_pos ⟨rfl, hi⟩]
        · rw [if_neg hi, if_neg (fun e => hi e.2)]
      · rw [w_up_ne hd1]
        unfold g_ab
        rw [if_neg hd0, if_neg (by omega), if_neg hd0, if_neg (by omega)]
theorem s_ab_g (σ : w_M) (a : Nat) : s_ab σ a = g_ab 4 (σ a 0) (fun d i => σ (a + d) i) := rfl
theorem c_ab_g (σ : w_M) (a : Nat) : c_ab σ a = g_ab 3 (σ a 0) (fun d i => σ (a + d) i) := rfl
theorem s_am_g (σ : w_M) (o : Nat) : s_am σ o = g_ab 4 (σ 123 (o + 48)) (fun d i => σ 123 (o + 49 + 3 * i + (d - 1))) := rfl
theorem c_am_g (σ : w_M) (o : Nat) : c_am σ o = g_ab 3 (σ 123 (o + 73)) (fun d i => σ 123 (o + 74 + 2 * i + (d - 1))) := rfl
theorem CI.se {σ : w_M} (h : CI σ) : 0 ≤ σ 23 0 ∧ σ 23 0 ≤ 8 := h.1.2.1.1
theorem CI.pa {σ : w_M} (h : CI σ) : 0 ≤ σ 27 0 ∧ σ 27 0 ≤ 4 := h.1.2.2.1.1
noncomputable def p_Seen_add (a : Nat) (_ _ z : Int) (σ : w_M) : Prop := (0 ≤ σ a 0 ∧ σ a 0 ≤ 8) ∧ (z = 0 ∨ z = 1)
noncomputable def q_Seen_add (a : Nat) (x y z : Int) (σ : w_M) (r : Int) (σ' : w_M) : Prop := (σ a 0 < 8 → r = σ a 0 + 1 ∧ s_ab σ' a = seAdd (s_ab σ a) x y z) ∧ (¬ σ a 0 < 8 → r = -3 ∧ σ' = σ) ∧ w_fr σ σ' a (a + 4)
theorem fSeen_add_0 : w_fe am_c56 0 1 (.aload 0) := ⟨rfl, rfl⟩
theorem fSeen_add_1 : w_fe am_c56 1 2 (.getfield 400) := ⟨rfl, rfl⟩
theorem fSeen_add_2 : w_fe am_c56 2 3 (.bipush 8) := ⟨rfl, rfl⟩
theorem fSeen_add_3 : w_ic am_c56 3 4 .lt 6 := ⟨rfl, rfl⟩
theorem fSeen_add_4 : w_fe am_c56 4 5 (.bipush (-3)) := ⟨rfl, rfl⟩
theorem fSeen_add_5 : w_fe am_c56 5 6 (.ireturn) := ⟨rfl, rfl⟩
theorem fSeen_add_6 : w_fe am_c56 6 7 (.aload 0) := ⟨rfl, rfl⟩
theorem fSeen_add_7 : w_fe am_c56 7 8 (.getfield 401) := ⟨rfl, rfl⟩
theorem fSeen_add_8 : w_fe am_c56 8 9 (.aload 0) := ⟨rfl, rfl⟩
theorem fSeen_add_9 : w_fe am_c56 9 10 (.getfield 400) := ⟨rfl, rfl⟩
theorem fSeen_add_10 : w_fe am_c56 10 11 (.iload 1) := ⟨rfl, rfl⟩
theorem fSeen_add_11 : w_fe am_c56 11 12 (.iastore) := ⟨rfl, rfl⟩
theorem fSeen_add_12 : w_fe am_c56 12 13 (.aload 0) := ⟨rfl, rfl⟩
theorem fSeen_add_13 : w_fe am_c56 13 14 (.getfield 402) := ⟨rfl, rfl⟩
theorem fSeen_add_14 : w_fe am_c56 14 15 (.aload 0) := ⟨rfl, rfl⟩
theorem fSeen_add_15 : w_fe am_c56 15 16 (.getfield 400) := ⟨rfl, rfl⟩
theorem fSeen_add_16 : w_fe am_c56 16 17 (.iload 2) := ⟨rfl, rfl⟩
theorem fSeen_add_17 : w_fe am_c56 17 18 (.iastore) := ⟨rfl, rfl⟩
theorem fSeen_add_18 : w_fe am_c56 18 19 (.aload 0) := ⟨rfl, rfl⟩
theorem fSeen_add_19 : w_fe am_c56 19 20 (.getfield 403) := ⟨rfl, rfl⟩
theorem fSeen_add_20 : w_fe am_c56 20 21 (.aload 0) := ⟨rfl, rfl⟩
theorem fSeen_add_21 : w_fe am_c56 21 22 (.getfield 400) := ⟨rfl, rfl⟩
theorem fSeen_add_22 : w_fe am_c56 22 23 (.iload 3) := ⟨rfl, rfl⟩
theorem fSeen_add_23 : w_if am_c56 23 24 .eq 26 := ⟨rfl, rfl⟩
theorem fSeen_add_24 : w_fe am_c56 24 25 (.bipush 1) := ⟨rfl, rfl⟩
theorem fSeen_add_25 : w_gt am_c56 25 27 := rfl
theorem fSeen_add_26 : w_fe am_c56 26 27 (.bipush 0) := ⟨rfl, rfl⟩
theorem fSeen_add_27 : w_fe am_c56 27 28 (.iastore) := ⟨rfl, rfl⟩
theorem fSeen_add_28 : w_fe am_c56 28 29 (.aload 0) := ⟨rfl, rfl⟩
theorem fSeen_add_29 : w_fe am_c56 29 30 (.dup) := ⟨rfl, rfl⟩
theorem fSeen_add_30 : w_fe am_c56 30 31 (.getfield 400) := ⟨rfl, rfl⟩
theorem fSeen_add_31 : w_fe am_c56 31 32 (.bipush 1) := ⟨rfl, rfl⟩
theorem fSeen_add_32 : w_fe am_c56 32 33 (.iadd) := ⟨rfl, rfl⟩
theorem fSeen_add_33 : w_fe am_c56 33 34 (.putfield 400) := ⟨rfl, rfl⟩
theorem fSeen_add_34 : w_fe am_c56 34 35 (.aload 0) := ⟨rfl, rfl⟩
theorem fSeen_add_35 : w_fe am_c56 35 36 (.getfield 400) := ⟨rfl, rfl⟩
theorem fSeen_add_36 : w_fe am_c56 36 37 (.ireturn) := ⟨rfl, rfl⟩
set_option maxRecDepth 20000 in
theorem bSeen_add_0 {xs : List Int} {d : Nat} {Q : Option w_V → w_M → Prop} {a : Nat} {x1 : Int} {x2 : Int} {x3 : Int} {σ : w_M}
    (h : ((σ a 0) < 8 → (0 ≤ (σ a 0) ∧ (∀ (τ1 : w_M), τ1 = w_up σ (a + 1) (σ a 0).toNat x1 → (0 ≤ (τ1 a 0) ∧ (τ1 a 0) < 8 ∧ (∀ (τ2 : w_M), τ2 = w_up τ1 (a + 2) (τ1 a 0).toNat x2 → ((x3 = 0 → (0 ≤ (τ2 a 0) ∧ (τ2 a 0) < 8 ∧ (∀ (τ3 : w_M), τ3 = w_up τ2 (a + 3) (τ2 a 0).toNat 0 → (w_in ((τ3 a 0) + 1) ∧ (∀ (τ4 : w_M), τ4 = w_up τ3 a 0 ((τ3 a 0) + 1) → Q (some (.inl (τ4 a 0))) τ4))))) ∧ (¬ x3 = 0 → (0 ≤ (τ2 a 0) ∧ (τ2 a 0) < 8 ∧ (∀ (τ5 : w_M), τ5 = w_up τ2 (a + 3) (τ2 a 0).toNat 1 → (w_in ((τ5 a 0) + 1) ∧ (∀ (τ6 : w_M), τ6 = w_up τ5 a 0 ((τ5 a 0) + 1) → Q (some (.inl (τ6 a 0))) τ6))))))))))) ∧ (8 ≤ (σ a 0) → Q (some (.inl (-3))) σ)) : w_Call (xs, d) 56 [.inr (.inr (4, a)), .inl x1, .inl x2, .inl x3] σ Q :=
  (w_mk (mid := 56) (by decide) rfl rfl rfl rfl rfl (Nat.le_of_ble_eq_true rfl) ⟨rfl, Or.inl (by decide)⟩ (wi_aload0 fSeen_add_0 (wi_getf400 fSeen_add_1 (wi_bipush fSeen_add_2 (wi_ic_lt fSeen_add_3 (fun c8 => (wi_aload0 fSeen_add_6 (wi_getf401 fSeen_add_7 (wi_aload0 fSeen_add_8 (wi_getf400 fSeen_add_9 (wi_iload1 fSeen_add_10 (wi_iast1008 fSeen_add_11 (h.1 c8).1 c8 (wi_aload0 fSeen_add_12 (wi_getf402 fSeen_add_13 (wi_aload0 fSeen_add_14 (wi_getf400 fSeen_add_15 (wi_iload2 fSeen_add_16 (wi_iast1008 fSeen_add_17 ((h.1 c8).2 _ rfl).1 ((h.1 c8).2 _ rfl).2.1 (wi_aload0 fSeen_add_18 (wi_getf403 fSeen_add_19 (wi_aload0 fSeen_add_20 (wi_getf400 fSeen_add_21 (wi_iload3 fSeen_add_22 (wi_if_eq fSeen_add_23 (fun c7 => (wi_bipush fSeen_add_26 (wi_iast1008 fSeen_add_27 ((((h.1 c8).2 _ rfl).2.2 _ rfl).1 c7).1 ((((h.1 c8).2 _ rfl).2.2 _ rfl).1 c7).2.1 (wi_aload0 fSeen_add_28 (wi_dup_a fSeen_add_29 (wi_getf400 fSeen_add_30 (wi_bipush fSeen_add_31 (wi_iadd fSeen_add_32 (((((h.1 c8).2 _ rfl).2.2 _ rfl).1 c7).2.2 _ rfl).1 (wi_putf400 fSeen_add_33 (wi_aload0 fSeen_add_34 (wi_getf400 fSeen_add_35 (wi_ret1 fSeen_add_36 ((((((h.1 c8).2 _ rfl).2.2 _ rfl).1 c7).2.2 _ rfl).2 _ rfl))))))))))))) (fun c7 => (wi_bipush fSeen_add_24 (wi_goto fSeen_add_25 (wi_iast1008 fSeen_add_27 ((((h.1 c8).2 _ rfl).2.2 _ rfl).2 c7).1 ((((h.1 c8).2 _ rfl).2.2 _ rfl).2 c7).2.1 (wi_aload0 fSeen_add_28 (wi_dup_a fSeen_add_29 (wi_getf400 fSeen_add_30 (wi_bipush fSeen_add_31 (wi_iadd fSeen_add_32 (((((h.1 c8).2 _ rfl).2.2 _ rfl).2 c7).2.2 _ rfl).1 (wi_putf400 fSeen_add_33 (wi_aload0 fSeen_add_34 (wi_getf400 fSeen_add_35 (wi_ret1 fSeen_add_36 ((((((h.1 c8).2 _ rfl).2.2 _ rfl).2 c7).2.2 _ rfl).2 _ rfl))))))))))))))))))))))))))))))))) (fun c8 => (wi_bipush fSeen_add_4 (wi_ret1 fSeen_add_5 (h.2 c8)))))))))
theorem k_Seen_add {xs : List Int} {d : Nat} {Q : Option w_V → w_M → Prop} {a : Nat} {x1 : Int} {x2 : Int} {x3 : Int} {σ : w_M} (hp : p_Seen_add a x1 x2 x3 σ) (hQ : ∀ (x : Int) (σ' : w_M), q_Seen_add a x1 x2 x3 σ x σ' → Q (some (.inl x)) σ') : w_Call (xs, d) 56 [.inr (.inr (4, a)), .inl x1, .inl x2, .inl x3] σ Q := by
  obtain ⟨h0, hz⟩ := hp
  have main : σ a 0 < 8 → ∀ τ1, τ1 = w_up σ (a + 1) (σ a 0).toNat x1 → ∀ τ2, τ2 = w_up τ1 (a + 2) (σ a 0).toNat x2 → ∀ τ3, τ3 = w_up τ2 (a + 3) (σ a 0).toNat x3 → ∀ τ4, τ4 = w_up τ3 a 0 (σ a 0 + 1) → Q (some (.inl (τ4 a 0))) τ4 := by
    intro c τ1 t1 τ2 t2 τ3 t3 τ4 t4
    have e0 : τ4 a 0 = σ a 0 + 1 := by rw [t4]; exact w_up_at
    refine hQ _ _ ⟨fun _ => ⟨e0, ?_⟩, fun c2 => absurd c c2, by rw [t4, t3, t2, t1]; exact (((w_fr.up0 (by omega) (by omega)).up (by omega) (by omega)).up (by omega) (by omega)).up (by omega) (by omega)⟩
    rw [s_ab_g, s_ab_g, e0]
    refine g_ab_se h0.1 (fun d i h1 h2 h3 => ?_) ?_ ?_ ?_
    · show τ4 (a + d) i = σ (a + d) i
      have hi : i ≠ (σ a 0).toNat := by omega
      rw [t4, w_up_ne (by omega), t3, w_up_eq, if_neg (by omega), t2, w_up_eq, if_neg (by omega), t1, w_up_eq, if_neg (by omega)]
    · show τ4 (a + 1) _ = _
      rw [t4, w_up_ne (by omega), t3, w_up_ne (by omega), t2, w_up_ne (by omega), t1, w_up_at]
    · show τ4 (a + 2) _ = _
      rw [t4, w_up_ne (by omega), t3, w_up_ne (by omega), t2, w_up_at]
    · show τ4 (a + 3) _ = _
      rw [t4, w_up_ne (by omega), t3, w_up_at]
  refine bSeen_add_0 ⟨fun c => ⟨h0.1, fun τ1 t1 => ?_⟩, fun c => hQ _ _ ⟨fun c2 => by omega, fun _ => ⟨rfl, rfl⟩, w_fr.rfl'⟩⟩
  have z1 : τ1 a = σ a := by rw [t1]; exact w_up_ne (by omega)
  rw [z1]
  refine ⟨h0.1, c, fun τ2 t2 => ?_⟩
  have z2 : τ2 a = σ a := by rw [t2, w_up_ne (by omega)]; exact z1
  rw [z2]
  refine ⟨fun hx => ⟨h0.1, c, fun τ3 t3 => ?_⟩, fun hx => ⟨h0.1, c, fun τ3 t3 => ?_⟩⟩
  · have z3 : τ3 a = σ a := by rw [t3, w_up_ne (by omega)]; exact z2
    rw [z3]
    exact ⟨⟨by omega, by omega⟩, fun τ4 t4 => main c τ1 t1 τ2 t2 τ3 (by rw [hx]; exact t3) τ4 t4⟩
  · have z3 : τ3 a = σ a := by rw [t3, w_up_ne (by omega)]; exact z2
    rw [z3]
    exact ⟨⟨by omega, by omega⟩, fun τ4 t4 => main c τ1 t1 τ2 t2 τ3 (by rw [hz.resolve_left hx]; exact t3) τ4 t4⟩
noncomputable def p_Paid_add (a : Nat) (_ _ : Int) (σ : w_M) : Prop := 0 ≤ σ a 0 ∧ σ a 0 ≤ 4
noncomputable def q_Paid_add (a : Nat) (x y : Int) (σ : w_M) (r : Int) (σ' : w_M) : Prop := (σ a 0 < 4 → r = σ a 0 + 1 ∧ c_ab σ' a = paAdd (c_ab σ a) x y) ∧ (¬ σ a 0 < 4 → r = -3 ∧ σ' = σ) ∧ w_fr σ σ' a (a + 3)
theorem fPaid_add_0 : w_fe am_c60 0 1 (.aload 0) := ⟨rfl, rfl⟩
theorem fPaid_add_1 : w_fe am_c60 1 2 (.getfield 500) := ⟨rfl, rfl⟩
theorem fPaid_add_2 : w_fe am_c60 2 3 (.bipush 4) := ⟨rfl, rfl⟩
theorem fPaid_add_3 : w_ic am_c60 3 4 .lt 6 := ⟨rfl, rfl⟩
theorem fPaid_add_4 : w_fe am_c60 4 5 (.bipush (-3)) := ⟨rfl, rfl⟩
theorem fPaid_add_5 : w_fe am_c60 5 6 (.ireturn) := ⟨rfl, rfl⟩
theorem fPaid_add_6 : w_fe am_c60 6 7 (.aload 0) := ⟨rfl, rfl⟩
theorem fPaid_add_7 : w_fe am_c60 7 8 (.getfield 501) := ⟨rfl, rfl⟩
theorem fPaid_add_8 : w_fe am_c60 8 9 (.aload 0) := ⟨rfl, rfl⟩
theorem fPaid_add_9 : w_fe am_c60 9 10 (.getfield 500) := ⟨rfl, rfl⟩
theorem fPaid_add_10 : w_fe am_c60 10 11 (.iload 1) := ⟨rfl, rfl⟩
theorem fPaid_add_11 : w_fe am_c60 11 12 (.iastore) := ⟨rfl, rfl⟩
theorem fPaid_add_12 : w_fe am_c60 12 13 (.aload 0) := ⟨rfl, rfl⟩
theorem fPaid_add_13 : w_fe am_c60 13 14 (.getfield 502) := ⟨rfl, rfl⟩
theorem fPaid_add_14 : w_fe am_c60 14 15 (.aload 0) := ⟨rfl, rfl⟩
theorem fPaid_add_15 : w_fe am_c60 15 16 (.getfield 500) := ⟨rfl, rfl⟩
theorem fPaid_add_16 : w_fe am_c60 16 17 (.iload 2) := ⟨rfl, rfl⟩
theorem fPaid_add_17 : w_fe am_c60 17 18 (.iastore) := ⟨rfl, rfl⟩
theorem fPaid_add_18 : w_fe am_c60 18 19 (.aload 0) := ⟨rfl, rfl⟩
theorem fPaid_add_19 : w_fe am_c60 19 20 (.dup) := ⟨rfl, rfl⟩
theorem fPaid_add_20 : w_fe am_c60 20 21 (.getfield 500) := ⟨rfl, rfl⟩
theorem fPaid_add_21 : w_fe am_c60 21 22 (.bipush 1) := ⟨rfl, rfl⟩
theorem fPaid_add_22 : w_fe am_c60 22 23 (.iadd) := ⟨rfl, rfl⟩
theorem fPaid_add_23 : w_fe am_c60 23 24 (.putfield 500) := ⟨rfl, rfl⟩
theorem fPaid_add_24 : w_fe am_c60 24 25 (.aload 0) := ⟨rfl, rfl⟩
theorem fPaid_add_25 : w_fe am_c60 25 26 (.getfield 500) := ⟨rfl, rfl⟩
theorem fPaid_add_26 : w_fe am_c60 26 27 (.ireturn) := ⟨rfl, rfl⟩
set_option maxRecDepth 20000 in
theorem bPaid_add_0 {xs : List Int} {d : Nat} {Q : Option w_V → w_M → Prop} {a : Nat} {x1 : Int} {x2 : Int} {σ : w_M}
    (h : ((σ a 0) < 4 → (0 ≤ (σ a 0) ∧ (∀ (τ1 : w_M), τ1 = w_up σ (a + 1) (σ a 0).toNat x1 → (0 ≤ (τ1 a 0) ∧ (τ1 a 0) < 4 ∧ (∀ (τ2 : w_M), τ2 = w_up τ1 (a + 2) (τ1 a 0).toNat x2 → (w_in ((τ2 a 0) + 1) ∧ (∀ (τ3 : w_M), τ3 = w_up τ2 a 0 ((τ2 a 0) + 1) → Q (some (.inl (τ3 a 0))) τ3))))))) ∧ (4 ≤ (σ a 0) → Q (some (.inl (-3))) σ)) : w_Call (xs, d) 60 [.inr (.inr (5, a)), .inl x1, .inl x2] σ Q :=
  (w_mk (mid := 60) (by decide) rfl rfl rfl rfl rfl (Nat.le_of_ble_eq_true rfl) ⟨rfl, Or.inl (by decide)⟩ (wi_aload0 fPaid_add_0 (wi_getf500 fPaid_add_1 (wi_bipush fPaid_add_2 (wi_ic_lt fPaid_add_3 (fun c4 => (wi_aload0 fPaid_add_6 (wi_getf501 fPaid_add_7 (wi_aload0 fPaid_add_8 (wi_getf500 fPaid_add_9 (wi_iload1 fPaid_add_10 (wi_iast1004 fPaid_add_11 (h.1 c4).1 c4 (wi_aload0 fPaid_add_12 (wi_getf502 fPaid_add_13 (wi_aload0 fPaid_add_14 (wi_getf500 fPaid_add_15 (wi_iload2 fPaid_add_16 (wi_iast1004 fPaid_add_17 ((h.1 c4).2 _ rfl).1 ((h.1 c4).2 _ rfl).2.1 (wi_aload0 fPaid_add_18 (wi_dup_a fPaid_add_19 (wi_getf500 fPaid_add_20 (wi_bipush fPaid_add_21 (wi_iadd fPaid_add_22 (((h.1 c4).2 _ rfl).2.2 _ rfl).1 (wi_putf500 fPaid_add_23 (wi_aload0 fPaid_add_24 (wi_getf500 fPaid_add_25 (wi_ret1 fPaid_add_26 ((((h.1 c4).2 _ rfl).2.2 _ rfl).2 _ rfl))))))))))))))))))))))) (fun c4 => (wi_bipush fPaid_add_4 (wi_ret1 fPaid_add_5 (h.2 c4)))))))))
theorem k_Paid_add {xs : List Int} {d : Nat} {Q : Option w_V → w_M → Prop} {a : Nat} {x1 : Int} {x2 : Int} {σ : w_M} (hp : p_Paid_add a x1 x2 σ) (hQ : ∀ (x : Int) (σ' : w_M), q_Paid_add a x1 x2 σ x σ' → Q (some (.inl x)) σ') : w_Call (xs, d) 60 [.inr (.inr (5, a)), .inl x1, .inl x2] σ Q := by
  have h0 : 0 ≤ σ a 0 ∧ σ a 0 ≤ 4 := hp
  refine bPaid_add_0 ⟨fun c => ⟨h0.1, fun τ1 t1 => ?_⟩, fun c => hQ _ _ ⟨fun c2 => by omega, fun _ => ⟨rfl, rfl⟩, w_fr.rfl'⟩⟩
  have z1 : τ1 a = σ a := by rw [t1]; exact w_up_ne (by omega)
  rw [z1]
  refine ⟨h0.1, c, fun τ2 t2 => ?_⟩
  have z2 : τ2 a = σ a := by rw [t2, w_up_ne (by omega)]; exact z1
  rw [z2]
  refine ⟨⟨by omega, by omega⟩, fun τ4 t4 => ?_⟩
  have e0 : τ4 a 0 = σ a 0 + 1 := by rw [t4]; exact w_up_at
  refine hQ _ _ ⟨fun _ => ⟨e0, ?_⟩, fun c2 => absurd c c2, by rw [t4, t2, t1]; exact ((w_fr.up0 (by omega) (by omega)).up (by omega) (by omega)).up (by omega) (by omega)⟩
  rw [c_ab_g, c_ab_g, e0]
  refine g_ab_pa h0.1 (fun d i h1 h2 h3 => ?_) ?_ ?_
  · show τ4 (a + d) i = σ (a + d) i
    have hi : i ≠ (σ a 0).toNat := by omega
    rw [t4, w_up_ne (by omega), t2, w_up_eq, if_neg (by omega), t1, w_up_eq, if_neg (by omega)]
  · show τ4 (a + 1) _ = _
    rw [t4, w_up_ne (by omega), t2, w_up_ne (by omega), t1, w_up_at]
  · show τ4 (a + 2) _ = _
    rw [t4, w_up_ne (by omega), t2, w_up_at]
noncomputable def p_Moon_see (_x1 : Int) (_x2 : Int) (x3 : Int) (σ : w_M) : Prop := CI σ ∧ (x3 = 0 ∨ x3 = 1)
noncomputable def q_Moon_see (x1 : Int) (x2 : Int) (x3 : Int) (σ : w_M) (x : Int) (σ' : w_M) : Prop := c_q (F_see (cS σ) x1 x2 x3) (G_see (cS σ) x1 x2 x3) σ x σ'
noncomputable def p_Moon_forget (_x1 : Int) (σ : w_M) : Prop := CI σ
noncomputable def q_Moon_forget (x1 : Int) (σ : w_M) (x : Int) (σ' : w_M) : Prop := c_q (F_forget (cS σ) x1) (G_forget (cS σ) x1) σ x σ'
noncomputable def p_Moon_pay (_x1 : Int) (_x2 : Int) (σ : w_M) : Prop := CI σ
noncomputable def q_Moon_pay (x1 : Int) (x2 : Int) (σ : w_M) (x : Int) (σ' : w_M) : Prop := c_q (F_pay (cS σ) x1 x2) (G_pay (cS σ) x1 x2) σ x σ'
noncomputable def p_Moon_owe (_x1 : Int) (σ : w_M) : Prop := CI σ
noncomputable def q_Moon_owe (x1 : Int) (σ : w_M) (x : Int) (σ' : w_M) : Prop := c_q (F_owe (cS σ) x1) (G_owe (cS σ) x1) σ x σ'
theorem fMoon_see_0 : w_fe am_c137 0 1 (.iload 1) := ⟨rfl, rfl⟩
theorem fMoon_see_1 : w_fe am_c137 1 2 (.bipush 0) := ⟨rfl, rfl⟩
theorem fMoon_see_2 : w_fe am_c137 2 3 (.bipush 6) := ⟨rfl, rfl⟩
theorem fMoon_see_3 : w_fe am_c137 3 4 (.invokestatic 107) := ⟨rfl, rfl⟩
theorem fMoon_see_4 : w_if am_c137 4 5 .eq 10 := ⟨rfl, rfl⟩
theorem fMoon_see_5 : w_fe am_c137 5 6 (.aload 0) := ⟨rfl, rfl⟩
theorem fMoon_see_6 : w_fe am_c137 6 7 (.getfield 2) := ⟨rfl, rfl⟩
theorem fMoon_see_7 : w_fe am_c137 7 8 (.iload 2) := ⟨rfl, rfl⟩
theorem fMoon_see_8 : w_fe am_c137 8 9 (.invokestatic 33) := ⟨rfl, rfl⟩
theorem fMoon_see_9 : w_if am_c137 9 10 .ne 12 := ⟨rfl, rfl⟩
theorem fMoon_see_10 : w_fe am_c137 10 11 (.bipush (-1)) := ⟨rfl, rfl⟩
theorem fMoon_see_11 : w_fe am_c137 11 12 (.ireturn) := ⟨rfl, rfl⟩
theorem fMoon_see_12 : w_fe am_c137 12 13 (.aload 0) := ⟨rfl, rfl⟩
theorem fMoon_see_13 : w_fe am_c137 13 14 (.getfield 1) := ⟨rfl, rfl⟩
theorem fMoon_see_14 : w_fe am_c137 14 15 (.getfield 301) := ⟨rfl, rfl⟩
theorem fMoon_see_15 : w_fe am_c137 15 16 (.iload 1) := ⟨rfl, rfl⟩
theorem fMoon_see_16 : w_fe am_c137 16 17 (.iload 2) := ⟨rfl, rfl⟩
theorem fMoon_see_17 : w_fe am_c137 17 18 (.iload 3) := ⟨rfl, rfl⟩
theorem fMoon_see_18 : w_fe am_c137 18 19 (.invokestatic 56) := ⟨rfl, rfl⟩
theorem fMoon_see_19 : w_fe am_c137 19 20 (.ireturn) := ⟨rfl, rfl⟩
set_option maxRecDepth 20000 in
theorem bMoon_see_0 {xs : List Int} {d : Nat} {Q : Option w_V → w_M → Prop} {x1 : Int} {x2 : Int} {x3 : Int} {σ : w_M}
    (h : (¬ (0 ≤ x1 ∧ x1 ≤ 6) → Q (some (.inl (-1))) σ) ∧ ((0 ≤ x1 ∧ x1 ≤ 6) → (((0 ≤ x2 ∧ x2 < σ 14 4) → (p_Seen_add 23 x1 x2 x3 σ ∧ (∀ (y1 : Int) (τ2 : w_M), q_Seen_add 23 x1 x2 x3 σ y1 τ2 → Q (some (.inl y1)) τ2))) ∧ (¬ (0 ≤ x2 ∧ x2 < σ 14 4) → Q (some (.inl (-1))) σ)))) : w_Call (xs, (d + 1)) 137 [.inr (.inr (0, 0)), .inl x1, .inl x2, .inl x3] σ Q :=
  (w_mk (mid := 137) (by decide) rfl rfl rfl rfl rfl (Nat.le_of_ble_eq_true rfl) ⟨rfl, Or.inl (by decide)⟩ (wi_iload1 fMoon_see_0 (wi_bipush fMoon_see_1 (wi_bipush fMoon_see_2 (wi_call3 fMoon_see_3 (Nat.le_of_ble_eq_true rfl) (k_Moon_isWithin (wi_ifb_eq fMoon_see_4 (fun c4 => (wi_bipush fMoon_see_10 (wi_ret1 fMoon_see_11 (h.1 c4)))) (fun c4 => (wi_aload0 fMoon_see_5 (wi_getf2 fMoon_see_6 (wi_iload2 fMoon_see_7 (wi_call2 fMoon_see_8 (Nat.le_of_ble_eq_true rfl) (k_Field_isStrip (wi_ifb_ne fMoon_see_9 (fun c3 => (wi_aload0 fMoon_see_12 (wi_getf1 fMoon_see_13 (wi_getf301 fMoon_see_14 (wi_iload1 fMoon_see_15 (wi_iload2 fMoon_see_16 (wi_iload3 fMoon_see_17 (wi_call4 fMoon_see_18 (Nat.le_of_ble_eq_true rfl) (k_Seen_add ((h.2 c4).1 c3).1 (fun y1 τ2 eτ2 => (wi_ret1 fMoon_see_19 (((h.2 c4).1 c3).2 y1 τ2 eτ2)))))))))))) (fun c3 => (wi_bipush fMoon_see_10 (wi_ret1 fMoon_see_11 ((h.2 c4).2 c3))))))))))))))))))
theorem fMoon_forget_0 : w_fe am_c138 0 1 (.aload 0) := ⟨rfl, rfl⟩
theorem fMoon_forget_1 : w_fe am_c138 1 2 (.getfield 1) := ⟨rfl, rfl⟩
theorem fMoon_forget_2 : w_fe am_c138 2 3 (.getfield 301) := ⟨rfl, rfl⟩
theorem fMoon_forget_3 : w_fe am_c138 3 4 (.getfield 400) := ⟨rfl, rfl⟩
theorem fMoon_forget_4 : w_fe am_c138 4 5 (.istore 2) := ⟨rfl, rfl⟩
theorem fMoon_forget_5 : w_fe am_c138 5 6 (.iload 1) := ⟨rfl, rfl⟩
theorem fMoon_forget_6 : w_fe am_c138 6 7 (.bipush 0) := ⟨rfl, rfl⟩
theorem fMoon_forget_7 : w_fe am_c138 7 8 (.iload 2) := ⟨rfl, rfl⟩
theorem fMoon_forget_8 : w_fe am_c138 8 9 (.invokestatic 107) := ⟨rfl, rfl⟩
theorem fMoon_forget_9 : w_if am_c138 9 10 .ne 12 := ⟨rfl, rfl⟩
theorem fMoon_forget_10 : w_fe am_c138 10 11 (.bipush (-1)) := ⟨rfl, rfl⟩
theorem fMoon_forget_11 : w_fe am_c138 11 12 (.ireturn) := ⟨rfl, rfl⟩
theorem fMoon_forget_12 : w_fe am_c138 12 13 (.aload 0) := ⟨rfl, rfl⟩
theorem fMoon_forget_13 : w_fe am_c138 13 14 (.getfield 1) := ⟨rfl, rfl⟩
theorem fMoon_forget_14 : w_fe am_c138 14 15 (.getfield 301) := ⟨rfl, rfl⟩
theorem fMoon_forget_15 : w_fe am_c138 15 16 (.iload 1) := ⟨rfl, rfl⟩
theorem fMoon_forget_16 : w_fe am_c138 16 17 (.putfield 400) := ⟨rfl, rfl⟩
theorem fMoon_forget_17 : w_fe am_c138 17 18 (.iload 2) := ⟨rfl, rfl⟩
theorem fMoon_forget_18 : w_fe am_c138 18 19 (.ireturn) := ⟨rfl, rfl⟩
set_option maxRecDepth 20000 in
theorem bMoon_forget_0 {xs : List Int} {d : Nat} {Q : Option w_V → w_M → Prop} {x1 : Int} {σ : w_M}
    (h : ∀ (y1 : Int), y1 = (σ 23 0) → (((0 ≤ x1 ∧ x1 ≤ y1) → ∀ (τ2 : w_M), τ2 = w_up σ 23 0 x1 → Q (some (.inl y1)) τ2) ∧ (¬ (0 ≤ x1 ∧ x1 ≤ y1) → Q (some (.inl (-1))) σ))) : w_Call (xs, (d + 1)) 138 [.inr (.inr (0, 0)), .inl x1] σ Q :=
  (w_mk (mid := 138) (by decide) rfl rfl rfl rfl rfl (Nat.le_of_ble_eq_true rfl) ⟨rfl, Or.inl (by decide)⟩ (wi_aload0 fMoon_forget_0 (wi_getf1 fMoon_forget_1 (wi_getf301 fMoon_forget_2 (wi_getf400 fMoon_forget_3 (wi_istore2 fMoon_forget_4 trivial (wi_iload1 fMoon_forget_5 (wi_bipush fMoon_forget_6 (wi_iload2 fMoon_forget_7 (wi_call3 fMoon_forget_8 (Nat.le_of_ble_eq_true rfl) (k_Moon_isWithin (wi_ifb_ne fMoon_forget_9 (fun c3 => (wi_aload0 fMoon_forget_12 (wi_getf1 fMoon_forget_13 (wi_getf301 fMoon_forget_14 (wi_iload1 fMoon_forget_15 (wi_putf400 fMoon_forget_16 (wi_iload2 fMoon_forget_17 (wi_ret1 fMoon_forget_18 (((h _ rfl).1 c3) _ rfl))))))))) (fun c3 => (wi_bipush fMoon_forget_10 (wi_ret1 fMoon_forget_11 ((h _ rfl).2 c3))))))))))))))))
theorem fMoon_pay_0 : w_fe am_c142 0 1 (.aload 0) := ⟨rfl, rfl⟩
theorem fMoon_pay_1 : w_fe am_c142 1 2 (.getfield 2) := ⟨rfl, rfl⟩
theorem fMoon_pay_2 : w_fe am_c142 2 3 (.iload 1) := ⟨rfl, rfl⟩
theorem fMoon_pay_3 : w_fe am_c142 3 4 (.invokestatic 38) := ⟨rfl, rfl⟩
theorem fMoon_pay_4 : w_if am_c142 4 5 .eq 10 := ⟨rfl, rfl⟩
theorem fMoon_pay_5 : w_fe am_c142 5 6 (.iload 2) := ⟨rfl, rfl⟩
theorem fMoon_pay_6 : w_fe am_c142 6 7 (.bipush 0) := ⟨rfl, rfl⟩
theorem fMoon_pay_7 : w_fe am_c142 7 8 (.bipush 99) := ⟨rfl, rfl⟩
theorem fMoon_pay_8 : w_fe am_c142 8 9 (.invokestatic 107) := ⟨rfl, rfl⟩
theorem fMoon_pay_9 : w_if am_c142 9 10 .ne 12 := ⟨rfl, rfl⟩
theorem fMoon_pay_10 : w_fe am_c142 10 11 (.bipush (-1)) := ⟨rfl, rfl⟩
theorem fMoon_pay_11 : w_fe am_c142 11 12 (.ireturn) := ⟨rfl, rfl⟩
theorem fMoon_pay_12 : w_fe am_c142 12 13 (.aload 0) := ⟨rfl, rfl⟩
theorem fMoon_pay_13 : w_fe am_c142 13 14 (.getfield 1) := ⟨rfl, rfl⟩
theorem fMoon_pay_14 : w_fe am_c142 14 15 (.getfield 302) := ⟨rfl, rfl⟩
theorem fMoon_pay_15 : w_fe am_c142 15 16 (.iload 1) := ⟨rfl, rfl⟩
theorem fMoon_pay_16 : w_fe am_c142 16 17 (.iload 2) := ⟨rfl, rfl⟩
theorem fMoon_pay_17 : w_fe am_c142 17 18 (.invokestatic 60) := ⟨rfl, rfl⟩
theorem fMoon_pay_18 : w_fe am_c142 18 19 (.ireturn) := ⟨rfl, rfl⟩
set_option maxRecDepth 20000 in
theorem bMoon_pay_0 {xs : List Int} {d : Nat} {Q : Option w_V → w_M → Prop} {x1 : Int} {x2 : Int} {σ : w_M}
    (h : (¬ (0 ≤ x1 ∧ x1 < σ 14 5) → Q (some (.inl (-1))) σ) ∧ ((0 ≤ x1 ∧ x1 < σ 14 5) → (((0 ≤ x2 ∧ x2 ≤ 99) → (p_Paid_add 27 x1 x2 σ ∧ (∀ (y1 : Int) (τ2 : w_M), q_Paid_add 27 x1 x2 σ y1 τ2 → Q (some (.inl y1)) τ2))) ∧ (¬ (0 ≤ x2 ∧ x2 ≤ 99) → Q (some (.inl (-1))) σ)))) : w_Call (xs, (d + 1)) 142 [.inr (.inr (0, 0)), .inl x1, .inl x2] σ Q :=
  (w_mk (mid := 142) (by decide) rfl rfl rfl rfl rfl (Nat.le_of_ble_eq_true rfl) ⟨rfl, Or.inl (by decide)⟩ (wi_aload0 fMoon_pay_0 (wi_getf2 fMoon_pay_1 (wi_iload1 fMoon_pay_2 (wi_call2 fMoon_pay_3 (Nat.le_of_ble_eq_true rfl) (k_Field_isReaper (wi_ifb_eq fMoon_pay_4 (fun c4 => (wi_bipush fMoon_pay_10 (wi_ret1 fMoon_pay_11 (h.1 c4)))) (fun c4 => (wi_iload2 fMoon_pay_5 (wi_bipush fMoon_pay_6 (wi_bipush fMoon_pay_7 (wi_call3 fMoon_pay_8 (Nat.le_of_ble_eq_true rfl) (k_Moon_isWithin (wi_ifb_ne fMoon_pay_9 (fun c3 => (wi_aload0 fMoon_pay_12 (wi_getf1 fMoon_pay_13 (wi_getf302 fMoon_pay_14 (wi_iload1 fMoon_pay_15 (wi_iload2 fMoon_pay_16 (wi_call3 fMoon_pay_17 (Nat.le_of_ble_eq_true rfl) (k_Paid_add ((h.2 c4).1 c3).1 (fun y1 τ2 eτ2 => (wi_ret1 fMoon_pay_18 (((h.2 c4).1 c3).2 y1 τ2 eτ2))))))))))) (fun c3 => (wi_bipush fMoon_pay_10 (wi_ret1 fMoon_pay_11 ((h.2 c4).2 c3))))))))))))))))))
theorem fMoon_owe_0 : w_fe am_c143 0 1 (.aload 0) := ⟨rfl, rfl⟩
theorem fMoon_owe_1 : w_fe am_c143 1 2 (.getfield 1) := ⟨rfl, rfl⟩
theorem fMoon_owe_2 : w_fe am_c143 2 3 (.getfield 302) := ⟨rfl, rfl⟩
theorem fMoon_owe_3 : w_fe am_c143 3 4 (.getfield 500) := ⟨rfl, rfl⟩
theorem fMoon_owe_4 : w_fe am_c143 4 5 (.istore 2) := ⟨rfl, rfl⟩
theorem fMoon_owe_5 : w_fe am_c143 5 6 (.iload 1) := ⟨rfl, rfl⟩
theorem fMoon_owe_6 : w_fe am_c143 6 7 (.bipush 0) := ⟨rfl, rfl⟩
theorem fMoon_owe_7 : w_fe am_c143 7 8 (.iload 2) := ⟨rfl, rfl⟩
theorem fMoon_owe_8 : w_fe am_c143 8 9 (.invokestatic 107) := ⟨rfl, rfl⟩
theorem fMoon_owe_9 : w_if am_c143 9 10 .ne 12 := ⟨rfl, rfl⟩
theorem fMoon_owe_10 : w_fe am_c143 10 11 (.bipush (-1)) := ⟨rfl, rfl⟩
theorem fMoon_owe_11 : w_fe am_c143 11 12 (.ireturn) := ⟨rfl, rfl⟩
theorem fMoon_owe_12 : w_fe am_c143 12 13 (.aload 0) := ⟨rfl, rfl⟩
theorem fMoon_owe_13 : w_fe am_c143 13 14 (.getfield 1) := ⟨rfl, rfl⟩
theorem fMoon_owe_14 : w_fe am_c143 14 15 (.getfield 302) := ⟨rfl, rfl⟩
theorem fMoon_owe_15 : w_fe am_c143 15 16 (.iload 1) := ⟨rfl, rfl⟩
theorem fMoon_owe_16 : w_fe am_c143 16 17 (.putfield 500) := ⟨rfl, rfl⟩
theorem fMoon_owe_17 : w_fe am_c143 17 18 (.iload 2) := ⟨rfl, rfl⟩
theorem fMoon_owe_18 : w_fe am_c143 18 19 (.ireturn) := ⟨rfl, rfl⟩
set_option maxRecDepth 20000 in
theorem bMoon_owe_0 {xs : List Int} {d : Nat} {Q : Option w_V → w_M → Prop} {x1 : Int} {σ : w_M}
    (h : ∀ (y1 : Int), y1 = (σ 27 0) → (((0 ≤ x1 ∧ x1 ≤ y1) → ∀ (τ2 : w_M), τ2 = w_up σ 27 0 x1 → Q (some (.inl y1)) τ2) ∧ (¬ (0 ≤ x1 ∧ x1 ≤ y1) → Q (some (.inl (-1))) σ))) : w_Call (xs, (d + 1)) 143 [.inr (.inr (0, 0)), .inl x1] σ Q :=
  (w_mk (mid := 143) (by decide) rfl rfl rfl rfl rfl (Nat.le_of_ble_eq_true rfl) ⟨rfl, Or.inl (by decide)⟩ (wi_aload0 fMoon_owe_0 (wi_getf1 fMoon_owe_1 (wi_getf302 fMoon_owe_2 (wi_getf500 fMoon_owe_3 (wi_istore2 fMoon_owe_4 trivial (wi_iload1 fMoon_owe_5 (wi_bipush fMoon_owe_6 (wi_iload2 fMoon_owe_7 (wi_call3 fMoon_owe_8 (Nat.le_of_ble_eq_true rfl) (k_Moon_isWithin (wi_ifb_ne fMoon_owe_9 (fun c3 => (wi_aload0 fMoon_owe_12 (wi_getf1 fMoon_owe_13 (wi_getf302 fMoon_owe_14 (wi_iload1 fMoon_owe_15 (wi_putf500 fMoon_owe_16 (wi_iload2 fMoon_owe_17 (wi_ret1 fMoon_owe_18 (((h _ rfl).1 c3) _ rfl))))))))) (fun c3 => (wi_bipush fMoon_owe_10 (wi_ret1 fMoon_owe_11 ((h _ rfl).2 c3))))))))))))))))
theorem k_Moon_see {xs : List Int} {d : Nat} {Q : Option w_V → w_M → Prop} {x1 : Int} {x2 : Int} {x3 : Int} {σ : w_M} (hp : p_Moon_see x1 x2 x3 σ) (hQ : ∀ (x : Int) (σ' : w_M), q_Moon_see x1 x2 x3 σ x σ' → Q (some (.inl x)) σ') : w_Call (xs, d + 1) 137 [.inr (.inr (0, 0)), .inl x1, .inl x2, .inl x3] σ Q := by
  obtain ⟨hC, hb⟩ := hp
  have hs := n_ok.s hC.ok
  unfold q_Moon_see F_see G_see at hQ
  have e4 : cS σ 0 0 4 = σ 14 4 := rfl
  have e1 : cS σ 1 0 0 = σ 23 0 := rfl
  rw [e4, e1] at hQ
  have bad : ¬ ((0 ≤ x1 ∧ x1 ≤ 6) ∧ (0 ≤ x2 ∧ x2 < σ 14 4)) → Q (some (.inl (-1))) σ := fun h => by
    rw [if_neg h, if_neg (fun q => h q.1)] at hQ
    exact hQ _ _ (c_qr hC rfl)
  refine bMoon_see_0 ⟨fun c => bad (fun q => c q.1), fun c => ⟨fun c2 => ⟨⟨hC.se, hb⟩, fun y τ hq => ?_⟩, fun c2 => bad (fun q => c2 q.2)⟩⟩
  obtain ⟨q1, q2, q3⟩ := hq
  rw [if_pos ⟨c, c2⟩] at hQ
  by_cases hlt : σ 23 0 < 8
  · rw [if_pos hlt, if_pos ⟨⟨c, c2⟩, hlt⟩] at hQ
    exact hQ _ _ (c_q1 hC q3 (q1 hlt).2 (seAdd_WF hC.1.2.1 hlt c (by omega) hb) (q1 hlt).1)
  · rw [if_neg hlt, if_neg (fun q => hlt q.2)] at hQ
    obtain ⟨r1, r2⟩ := q2 hlt
    rw [r2]
    exact hQ _ _ (c_qr hC r1)
theorem k_Moon_forget {xs : List Int} {d : Nat} {Q : Option w_V → w_M → Prop} {x1 : Int} {σ : w_M} (hp : p_Moon_forget x1 σ) (hQ : ∀ (x : Int) (σ' : w_M), q_Moon_forget x1 σ x σ' → Q (some (.inl x)) σ') : w_Call (xs, d + 1) 138 [.inr (.inr (0, 0)), .inl x1] σ Q := by
  have hC : CI σ := hp
  have h0 := hC.se
  unfold q_Moon_forget F_forget G_forget at hQ
  have e1 : cS σ 1 0 0 = σ 23 0 := rfl
  rw [e1] at hQ
  refine bMoon_forget_0 (fun y e => ?_)
  rw [e]
  refine ⟨fun c τ t => ?_, fun c => ?_⟩
  · rw [if_pos c, if_pos c] at hQ
    refine hQ _ _ (c_q1 hC (by rw [t]; exact w_fr.up0 (by omega) (by omega)) ?_ (r_cut_se hC.1.2.1 c) rfl)
    show _ = r_cut (s_ab σ 23) x1
    rw [s_ab_g, s_ab_g, show τ 23 0 = x1 by rw [t]; exact w_up_at]
    exact g_ab_cut c (fun d i h1 h2 h3 => by show τ (23 + d) i = σ (23 + d) i; rw [t, w_up_ne (by omega)])
  · rw [if_neg c, if_neg c] at hQ
    exact hQ _ _ (c_qr hC rfl)
theorem k_Moon_pay {xs : List Int} {d : Nat} {Q : Option w_V → w_M → Prop} {x1 : Int} {x2 : Int} {σ : w_M} (hp : p_Moon_pay x1 x2 σ) (hQ : ∀ (x : Int) (σ' : w_M), q_Moon_pay x1 x2 σ x σ' → Q (some (.inl x)) σ') : w_Call (xs, d + 1) 142 [.inr (.inr (0, 0)), .inl x1, .inl x2] σ Q := by
  have hC : CI σ := hp
  unfold q_Moon_pay F_pay G_pay at hQ
  have e5 : cS σ 0 0 5 = σ 14 5 := rfl
  have e1 : cS σ 2 0 0 = σ 27 0 := rfl
  rw [e5, e1] at hQ
  have bad : ¬ ((0 ≤ x1 ∧ x1 < σ 14 5) ∧ (0 ≤ x2 ∧ x2 ≤ 99)) → Q (some (.inl (-1))) σ := fun h => by
    rw [if_neg h, if_neg (fun q => h q.1)] at hQ
    exact hQ _ _ (c_qr hC rfl)
  refine bMoon_pay_0 ⟨fun c => bad (fun q => c q.1), fun c => ⟨fun c2 => ⟨hC.pa, fun y τ hq => ?_⟩, fun c2 => bad (fun q => c2 q.2)⟩⟩
  obtain ⟨q1, q2, q3⟩ := hq
  rw [if_pos ⟨c, c2⟩] at hQ
  by_cases hlt : σ 27 0 < 4
  · rw [if_pos hlt, if_pos ⟨⟨c, c2⟩, hlt⟩] at hQ
    exact hQ _ _ (c_q2 hC q3 (q1 hlt).2 (paAdd_WF hC.1.2.2.1 hlt c c2) (q1 hlt).1)
  · rw [if_neg hlt, if_neg (fun q => hlt q.2)] at hQ
    obtain ⟨r1, r2⟩ := q2 hlt
    rw [r2]
    exact hQ _ _ (c_qr hC r1)
theorem k_Moon_owe {xs : List Int} {d : Nat} {Q : Option w_V → w_M → Prop} {x1 : Int} {σ : w_M} (hp : p_Moon_owe x1 σ) (hQ : ∀ (x : Int) (σ' : w_M), q_Moon_owe x1 σ x σ' → Q (some (.inl x)) σ') : w_Call (xs, d + 1) 143 [.inr (.inr (0, 0)), .inl x1] σ Q := by
  have hC : CI σ := hp
  have h0 := hC.pa
  unfold q_Moon_owe F_owe G_owe at hQ
  have e1 : cS σ 2 0 0 = σ 27 0 := rfl
  rw [e1] at hQ
  refine bMoon_owe_0 (fun y e => ?_)
  rw [e]
  refine ⟨fun c τ t => ?_, fun c => ?_⟩
  · rw [if_pos c, if_pos c] at hQ
    refine hQ _ _ (c_q2 hC (by rw [t]; exact w_fr.up0 (by omega) (by omega)) ?_ (r_cut_pa hC.1.2.2.1 c) rfl)
    show _ = r_cut (c_ab σ 27) x1
    rw [c_ab_g, c_ab_g, show τ 27 0 = x1 by rw [t]; exact w_up_at]
    exact g_ab_cut c (fun d i h1 h2 h3 => by show τ (27 + d) i = σ (27 + d) i; rw [t, w_up_ne (by omega)])
  · rw [if_neg c, if_neg c] at hQ
    exact hQ _ _ (c_qr hC rfl)
end
section
/-! Images, counts: the class -/
noncomputable def p_Seen_copyFrom (a b : Nat) (σ : w_M) : Prop := (0 ≤ σ b 0 ∧ σ b 0 ≤ 8) ∧ (a + 4 ≤ b ∨ b + 4 ≤ a)
noncomputable def q_Seen_copyFrom (a b : Nat) (σ σ' : w_M) : Prop := s_ab σ' a = s_ab σ b ∧ w_fr σ σ' a (a + 4)
theorem fSeen_copyFrom_0 : w_fe am_c58 0 1 (.aload 0) := ⟨rfl, rfl⟩
theorem fSeen_copyFrom_1 : w_fe am_c58 1 2 (.aload 1) := ⟨rfl, rfl⟩
theorem fSeen_copyFrom_2 : w_fe am_c58 2 3 (.getfield 400) := ⟨rfl, rfl⟩
theorem fSeen_copyFrom_3 : w_fe am_c58 3 4 (.putfield 400) := ⟨rfl, rfl⟩
theorem fSeen_copyFrom_4 : w_fe am_c58 4 5 (.aload 1) := ⟨rfl, rfl⟩
theorem fSeen_copyFrom_5 : w_fe am_c58 5 6 (.getfield 401) := ⟨rfl, rfl⟩
theorem fSeen_copyFrom_6 : w_fe am_c58 6 7 (.bipush 0) := ⟨rfl, rfl⟩
theorem fSeen_copyFrom_7 : w_fe am_c58 7 8 (.aload 0) := ⟨rfl, rfl⟩
theorem fSeen_copyFrom_8 : w_fe am_c58 8 9 (.getfield 401) := ⟨rfl, rfl⟩
theorem fSeen_copyFrom_9 : w_fe am_c58 9 10 (.bipush 0) := ⟨rfl, rfl⟩
theorem fSeen_copyFrom_10 : w_fe am_c58 10 11 (.bipush 8) := ⟨rfl, rfl⟩
theorem fSeen_copyFrom_11 : w_fe am_c58 11 12 (.invokedynamic 0) := ⟨rfl, rfl⟩
theorem fSeen_copyFrom_12 : w_fe am_c58 12 13 (.aload 1) := ⟨rfl, rfl⟩
theorem fSeen_copyFrom_13 : w_fe am_c58 13 14 (.getfield 402) := ⟨rfl, rfl⟩
theorem fSeen_copyFrom_14 : w_fe am_c58 14 15 (.bipush 0) := ⟨rfl, rfl⟩
theorem fSeen_copyFrom_15 : w_fe am_c58 15 16 (.aload 0) := ⟨rfl, rfl⟩
theorem fSeen_copyFrom_16 : w_fe am_c58 16 17 (.getfield 402) := ⟨rfl, rfl⟩
theorem fSeen_copyFrom_17 : w_fe am_c58 17 18 (.bipush 0) := ⟨rfl, rfl⟩
theorem fSeen_copyFrom_18 : w_fe am_c58 18 19 (.bipush 8) := ⟨rfl, rfl⟩
theorem fSeen_copyFrom_19 : w_fe am_c58 19 20 (.invokedynamic 0) := ⟨rfl, rfl⟩
theorem fSeen_copyFrom_20 : w_fe am_c58 20 21 (.aload 1) := ⟨rfl, rfl⟩
theorem fSeen_copyFrom_21 : w_fe am_c58 21 22 (.getfield 403) := ⟨rfl, rfl⟩
theorem fSeen_copyFrom_22 : w_fe am_c58 22 23 (.bipush 0) := ⟨rfl, rfl⟩
theorem fSeen_copyFrom_23 : w_fe am_c58 23 24 (.aload 0) := ⟨rfl, rfl⟩
theorem fSeen_copyFrom_24 : w_fe am_c58 24 25 (.getfield 403) := ⟨rfl, rfl⟩
theorem fSeen_copyFrom_25 : w_fe am_c58 25 26 (.bipush 0) := ⟨rfl, rfl⟩
theorem fSeen_copyFrom_26 : w_fe am_c58 26 27 (.bipush 8) := ⟨rfl, rfl⟩
theorem fSeen_copyFrom_27 : w_fe am_c58 27 28 (.invokedynamic 0) := ⟨rfl, rfl⟩
theorem fSeen_copyFrom_28 : w_fe am_c58 28 29 (.return_) := ⟨rfl, rfl⟩
set_option maxRecDepth 20000 in
theorem bSeen_copyFrom_0 {xs : List Int} {d : Nat} {Q : Option w_V → w_M → Prop} {a : Nat} {b : Nat} {σ : w_M}
    (h : ∀ (τ1 : w_M), τ1 = w_up σ a 0 (σ b 0) → ∀ (τ2 : w_M), τ2 = w_cpy τ1 (b + 1) (a + 1) 0 0 8 → ∀ (τ3 : w_M), τ3 = w_cpy τ2 (b + 2) (a + 2) 0 0 8 → ∀ (τ4 : w_M), τ4 = w_cpy τ3 (b + 3) (a + 3) 0 0 8 → Q none τ4) : w_Call (xs, d) 58 [.inr (.inr (4, a)), .inr (.inr (4, b))] σ Q :=
  (w_mk (mid := 58) (by decide) rfl rfl rfl rfl rfl (Nat.le_of_ble_eq_true rfl) ⟨rfl, Or.inl (by decide)⟩ (wi_aload0 fSeen_copyFrom_0 (wi_aload1 fSeen_copyFrom_1 (wi_getf400 fSeen_copyFrom_2 (wi_putf400 fSeen_copyFrom_3 (wi_aload1 fSeen_copyFrom_4 (wi_getf401 fSeen_copyFrom_5 (wi_bipush fSeen_copyFrom_6 (wi_aload0 fSeen_copyFrom_7 (wi_getf401 fSeen_copyFrom_8 (wi_bipush fSeen_copyFrom_9 (wi_bipush fSeen_copyFrom_10 (wi_acopy fSeen_copyFrom_11 (by decide) (Nat.le_of_ble_eq_true rfl) (by decide) (by decide) (by decide) (by decide) (by decide) (wi_aload1 fSeen_copyFrom_12 (wi_getf402 fSeen_copyFrom_13 (wi_bipush fSeen_copyFrom_14 (wi_aload0 fSeen_copyFrom_15 (wi_getf402 fSeen_copyFrom_16 (wi_bipush fSeen_copyFrom_17 (wi_bipush fSeen_copyFrom_18 (wi_acopy fSeen_copyFrom_19 (by decide) (Nat.le_of_ble_eq_true rfl) (by decide) (by decide) (by decide) (by decide) (by decide) (wi_aload1 fSeen_copyFrom_20 (wi_getf403 fSeen_copyFrom_21 (wi_bipush fSeen_copyFrom_22 (wi_aload0 fSeen_copyFrom_23 (wi_getf403 fSeen_copyFrom_24 (wi_bipush fSeen_copyFrom_25 (wi_bipush fSeen_copyFrom_26 (wi_acopy fSeen_copyFrom_27 (by decide) (Nat.le_of_ble_eq_true rfl) (by decide) (by decide) (by decide) (by decide) (by decide) (wi_ret0 fSeen_copyFrom_28 ((((h _ rfl) _ rfl) _ rfl) _ rfl)))))))))))))))))))))))))))))))
theorem k_Seen_copyFrom {xs : List Int} {d : Nat} {Q : Option w_V → w_M → Prop} {a : Nat} {b : Nat} {σ : w_M} (hp : p_Seen_copyFrom a b σ) (hQ : ∀ σ' : w_M, q_Seen_copyFrom a b σ σ' → Q none σ') : w_Call (xs, d) 58 [.inr (.inr (4, a)), .inr (.inr (4, b))] σ Q := by
  obtain ⟨h0, hab⟩ := hp
  refine bSeen_copyFrom_0 ?_
  intro τ1 t1 τ2 t2 τ3 t3 τ4 t4
  have f1 : w_fr σ τ1 a (a + 4) := by rw [t1]; exact w_fr.up0 (by omega) (by omega)
  have f2 : w_fr σ τ2 a (a + 4) := by rw [t2]; exact f1.cpy (by omega) (by omega)
  have f3 : w_fr σ τ3 a (a + 4) := by rw [t3]; exact f2.cpy (by omega) (by omega)
  have f4 : w_fr σ τ4 a (a + 4) := by rw [t4]; exact f3.cpy (by omega) (by omega)
  refine hQ _ ⟨?_, f4⟩
  rw [s_ab_g, s_ab_g]
  have e0 : τ4 a 0 = σ b 0 := by rw [t4, w_cpy_ne (by omega), t3, w_cpy_ne (by omega), t2, w_cpy_ne (by omega), t1, w_up_at]
  refine g_ab_congr e0 (fun d i h1 h2 h3 => ?_)
  show τ4 (a + d) i = σ (b + d) i
  have hi : i < 8 := by omega
  rcases (show d = 1 ∨ d = 2 ∨ d = 3 by omega) with rfl | rfl | rfl
  · rw [t4, w_cpy_ne (by omega), t3, w_cpy_ne (by omega), t2, w_cpy_at hi, f1 _ (by omega)]
  · rw [t4, w_cpy_ne (by omega), t3, w_cpy_at hi, f2 _ (by omega)]
  · rw [t4, w_cpy_at hi, f3 _ (by omega)]
noncomputable def p_Paid_copyFrom (a b : Nat) (σ : w_M) : Prop := (0 ≤ σ b 0 ∧ σ b 0 ≤ 4) ∧ (a + 3 ≤ b ∨ b + 3 ≤ a)
noncomputable def q_Paid_copyFrom (a b : Nat) (σ σ' : w_M) : Prop := c_ab σ' a = c_ab σ b ∧ w_fr σ σ' a (a + 3)
theorem fPaid_copyFrom_0 : w_fe am_c62 0 1 (.aload 0) := ⟨rfl, rfl⟩
theorem fPaid_copyFrom_1 : w_fe am_c62 1 2 (.aload 1) := ⟨rfl, rfl⟩
theorem fPaid_copyFrom_2 : w_fe am_c62 2 3 (.getfield 500) := ⟨rfl, rfl⟩
theorem fPaid_copyFrom_3 : w_fe am_c62 3 4 (.putfield 500) := ⟨rfl, rfl⟩
theorem fPaid_copyFrom_4 : w_fe am_c62 4 5 (.aload 1) := ⟨rfl, rfl⟩
theorem fPaid_copyFrom_5 : w_fe am_c62 5 6 (.getfield 501) := ⟨rfl, rfl⟩
theorem fPaid_copyFrom_6 : w_fe am_c62 6 7 (.bipush 0) := ⟨rfl, rfl⟩
theorem fPaid_copyFrom_7 : w_fe am_c62 7 8 (.aload 0) := ⟨rfl, rfl⟩
theorem fPaid_copyFrom_8 : w_fe am_c62 8 9 (.getfield 501) := ⟨rfl, rfl⟩
theorem fPaid_copyFrom_9 : w_fe am_c62 9 10 (.bipush 0) := ⟨rfl, rfl⟩
theorem fPaid_copyFrom_10 : w_fe am_c62 10 11 (.bipush 4) := ⟨rfl, rfl⟩
theorem fPaid_copyFrom_11 : w_fe am_c62 11 12 (.invokedynamic 0) := ⟨rfl, rfl⟩
theorem fPaid_copyFrom_12 : w_fe am_c62 12 13 (.aload 1) := ⟨rfl, rfl⟩
theorem fPaid_copyFrom_13 : w_fe am_c62 13 14 (.getfield 502) := ⟨rfl, rfl⟩
theorem fPaid_copyFrom_14 : w_fe am_c62 14 15 (.bipush 0) := ⟨rfl, rfl⟩
theorem fPaid_copyFrom_15 : w_fe am_c62 15 16 (.aload 0) := ⟨rfl, rfl⟩
theorem fPaid_copyFrom_16 : w_fe am_c62 16 17 (.getfield 502) := ⟨rfl, rfl⟩
theorem fPaid_copyFrom_17 : w_fe am_c62 17 18 (.bipush 0) := ⟨rfl, rfl⟩
theorem fPaid_copyFrom_18 : w_fe am_c62 18 19 (.bipush 4) := ⟨rfl, rfl⟩
theorem fPaid_copyFrom_19 : w_fe am_c62 19 20 (.invokedynamic 0) := ⟨rfl, rfl⟩
theorem fPaid_copyFrom_20 : w_fe am_c62 20 21 (.return_) := ⟨rfl, rfl⟩
set_option maxRecDepth 20000 in
theorem bPaid_copyFrom_0 {xs : List Int} {d : Nat} {Q : Option w_V → w_M → Prop} {a : Nat} {b : Nat} {σ : w_M}
    (h : ∀ (τ1 : w_M), τ1 = w_up σ a 0 (σ b 0) → ∀ (τ2 : w_M), τ2 = w_cpy τ1 (b + 1) (a + 1) 0 0 4 → ∀ (τ3 : w_M), τ3 = w_cpy τ2 (b + 2) (a + 2) 0 0 4 → Q none τ3) : w_Call (xs, d) 62 [.inr (.inr (5, a)), .inr (.inr (5, b))] σ Q :=
  (w_mk (mid := 62) (by decide) rfl rfl rfl rfl rfl (Nat.le_of_ble_eq_true rfl) ⟨rfl, Or.inl (by decide)⟩ (wi_aload0 fPaid_copyFrom_0 (wi_aload1 fPaid_copyFrom_1 (wi_getf500 fPaid_copyFrom_2 (wi_putf500 fPaid_copyFrom_3 (wi_aload1 fPaid_copyFrom_4 (wi_getf501 fPaid_copyFrom_5 (wi_bipush fPaid_copyFrom_6 (wi_aload0 fPaid_copyFrom_7 (wi_getf501 fPaid_copyFrom_8 (wi_bipush fPaid_copyFrom_9 (wi_bipush fPaid_copyFrom_10 (wi_acopy fPaid_copyFrom_11 (by decide) (Nat.le_of_ble_eq_true rfl) (by decide) (by decide) (by decide) (by decide) (by decide) (wi_aload1 fPaid_copyFrom_12 (wi_getf502 fPaid_copyFrom_13 (wi_bipush fPaid_copyFrom_14 (wi_aload0 fPaid_copyFrom_15 (wi_getf502 fPaid_copyFrom_16 (wi_bipush fPaid_copyFrom_17 (wi_bipush fPaid_copyFrom_18 (wi_acopy fPaid_copyFrom_19 (by decide) (Nat.le_of_ble_eq_true rfl) (by decide) (by decide) (by decide) (by decide) (by decide) (wi_ret0 fPaid_copyFrom_20 (((h _ rfl) _ rfl) _ rfl)))))))))))))))))))))))
theorem k_Paid_copyFrom {xs : List Int} {d : Nat} {Q : Option w_V → w_M → Prop} {a : Nat} {b : Nat} {σ : w_M} (hp : p_Paid_copyFrom a b σ) (hQ : ∀ σ' : w_M, q_Paid_copyFrom a b σ σ' → Q none σ') : w_Call (xs, d) 62 [.inr (.inr (5, a)), .inr (.inr (5, b))] σ Q := by
  obtain ⟨h0, hab⟩ := hp
  refine bPaid_copyFrom_0 ?_
  intro τ1 t1 τ2 t2 τ3 t3
  have f1 : w_fr σ τ1 a (a + 3) := by rw [t1]; exact w_fr.up0 (by omega) (by omega)
  have f2 : w_fr σ τ2 a (a + 3) := by rw [t2]; exact f1.cpy (by omega) (by omega)
  have f3 : w_fr σ τ3 a (a + 3) := by rw [t3]; exact f2.cpy (by omega) (by omega)
  refine hQ _ ⟨?_, f3⟩
  rw [c_ab_g, c_ab_g]
  have e0 : τ3 a 0 = σ b 0 := by rw [t3, w_cpy_ne (by omega), t2, w_cpy_ne (by omega), t1, w_up_at]
  refine g_ab_congr e0 (fun d i h1 h2 h3 => ?_)
  show τ3 (a + d) i = σ (b + d) i
  have hi : i < 4 := by omega
  rcases (show d = 1 ∨ d = 2 by omega) with rfl | rfl
  · rw [t3, w_cpy_ne (by omega), t2, w_cpy_at hi, f1 _ (by omega)]
  · rw [t3, w_cpy_at hi, f2 _ (by omega)]
noncomputable def p_State_copyFrom (a b : Nat) (σ : w_M) : Prop := n_ok σ (b + 1) ∧ (0 ≤ σ (b + 10) 0 ∧ σ (b + 10) 0 ≤ 8) ∧ (0 ≤ σ (b + 14) 0 ∧ σ (b + 14) 0 ≤ 4) ∧ (a + 17 ≤ b ∨ b + 17 ≤ a)
noncomputable def q_State_copyFrom (a b : Nat) (σ σ' : w_M) : Prop := w_ab σ' (a + 1) = w_ab σ (b + 1) ∧ σ' (a + 1) 6 = σ (b + 1) 6 ∧ s_ab σ' (a + 10) = s_ab σ (b + 10) ∧ c_ab σ' (a + 14) = c_ab σ (b + 14) ∧ w_fr σ σ' (a + 1) (a + 17)
theorem fState_copyFrom_0 : w_fe am_c54 0 1 (.aload 0) := ⟨rfl, rfl⟩
theorem fState_copyFrom_1 : w_fe am_c54 1 2 (.getfield 300) := ⟨rfl, rfl⟩
theorem fState_copyFrom_2 : w_fe am_c54 2 3 (.aload 1) := ⟨rfl, rfl⟩
theorem fState_copyFrom_3 : w_fe am_c54 3 4 (.getfield 300) := ⟨rfl, rfl⟩
theorem fState_copyFrom_4 : w_fe am_c54 4 5 (.invokestatic 34) := ⟨rfl, rfl⟩
theorem fState_copyFrom_5 : w_fe am_c54 5 6 (.aload 0) := ⟨rfl, rfl⟩
theorem fState_copyFrom_6 : w_fe am_c54 6 7 (.getfield 301) := ⟨rfl, rfl⟩
theorem fState_copyFrom_7 : w_fe am_c54 7 8 (.aload 1) := ⟨rfl, rfl⟩
theorem fState_copyFrom_8 : w_fe am_c54 8 9 (.getfield 301) := ⟨rfl, rfl⟩
theorem fState_copyFrom_9 : w_fe am_c54 9 10 (.invokestatic 58) := ⟨rfl, rfl⟩
theorem fState_copyFrom_10 : w_fe am_c54 10 11 (.aload 0) := ⟨rfl, rfl⟩
theorem fState_copyFrom_11 : w_fe am_c54 11 12 (.getfield 302) := ⟨rfl, rfl⟩
theorem fState_copyFrom_12 : w_fe am_c54 12 13 (.aload 1) := ⟨rfl, rfl⟩
theorem fState_copyFrom_13 : w_fe am_c54 13 14 (.getfield 302) := ⟨rfl, rfl⟩
theorem fState_copyFrom_14 : w_fe am_c54 14 15 (.invokestatic 62) := ⟨rfl, rfl⟩
theorem fState_copyFrom_15 : w_fe am_c54 15 16 (.return_) := ⟨rfl, rfl⟩
set_option maxRecDepth 20000 in
theorem bState_copyFrom_0 {xs : List Int} {d : Nat} {Q : Option w_V → w_M → Prop} {a : Nat} {b : Nat} {σ : w_M}
    (h : p_Field_copyFrom (a + 1) (b + 1) σ ∧ (∀ (τ1 : w_M), q_Field_copyFrom (a + 1) (b + 1) σ τ1 → (p_Seen_copyFrom (a + 10) (b + 10) τ1 ∧ (∀ (τ2 : w_M), q_Seen_copyFrom (a + 10) (b + 10) τ1 τ2 → (p_Paid_copyFrom (a + 14) (b + 14) τ2 ∧ (∀ (τ3 : w_M), q_Paid_copyFrom (a + 14) (b + 14) τ2 τ3 → Q none τ3)))))) : w_Call (xs, (d + 1)) 54 [.inr (.inr (3, a)), .inr (.inr (3, b))] σ Q :=
  (w_mk (mid := 54) (by decide) rfl rfl rfl rfl rfl (Nat.le_of_ble_eq_true rfl) ⟨rfl, Or.inl (by decide)⟩ (wi_aload0 fState_copyFrom_0 (wi_getf300 fState_copyFrom_1 (wi_aload1 fState_copyFrom_2 (wi_getf300 fState_copyFrom_3 (wi_call2 fState_copyFrom_4 (Nat.le_of_ble_eq_true rfl) (k_Field_copyFrom h.1 (fun τ1 eτ1 => (wi_aload0 fState_copyFrom_5 (wi_getf301 fState_copyFrom_6 (wi_aload1 fState_copyFrom_7 (wi_getf301 fState_copyFrom_8 (wi_call2 fState_copyFrom_9 (Nat.le_of_ble_eq_true rfl) (k_Seen_copyFrom (h.2 τ1 eτ1).1 (fun τ2 eτ2 => (wi_aload0 fState_copyFrom_10 (wi_getf302 fState_copyFrom_11 (wi_aload1 fState_copyFrom_12 (wi_getf302 fState_copyFrom_13 (wi_call2 fState_copyFrom_14 (Nat.le_of_ble_eq_true rfl) (k_Paid_copyFrom ((h.2 τ1 eτ1).2 τ2 eτ2).1 (fun τ3 eτ3 => (wi_ret0 fState_copyFrom_15 (((h.2 τ1 eτ1).2 τ2 eτ2).2 τ3 eτ3))))))))))))))))))))))))
theorem k_State_copyFrom {xs : List Int} {d : Nat} {Q : Option w_V → w_M → Prop} {a : Nat} {b : Nat} {σ : w_M} (hp : p_State_copyFrom a b σ) (hQ : ∀ σ' : w_M, q_State_copyFrom a b σ σ' → Q none σ') : w_Call (xs, d + 1) 54 [.inr (.inr (3, a)), .inr (.inr (3, b))] σ Q := by
  obtain ⟨h1, h2, h3, hab⟩ := hp
  refine bState_copyFrom_0 ⟨⟨h1, by omega⟩, fun τ1 q1 => ?_⟩
  obtain ⟨a1, a2, a3⟩ := q1
  refine ⟨⟨by rw [a3 (b + 10) (by omega)]; exact h2, by omega⟩, fun τ2 q2 => ?_⟩
  obtain ⟨b1, b2⟩ := q2
  refine ⟨⟨by rw [b2 (b + 14) (by omega), a3 (b + 14) (by omega)]; exact h3, by omega⟩, fun τ3 q3 => ?_⟩
  obtain ⟨c1, c2⟩ := q3
  have g2 : ∀ d, d < 9 → τ3 (a + 1 + d) = τ1 (a + 1 + d) := fun d hd => by rw [c2 _ (by omega), b2 _ (by omega)]
  refine hQ _ ⟨?_, ?_, ?_, ?_, fun x hx => ?_⟩
  · rw [← a1]; exact w_ab_fr g2
  · rw [show τ3 (a + 1) = τ1 (a + 1) from g2 0 (by decide)]; exact a2
  · rw [s_ab_fr (σ := τ2) (fun d hd => c2 _ (by omega)), b1]
    exact s_ab_fr (fun d hd => a3 _ (by omega))
  · rw [c1]
    exact c_ab_fr (fun d hd => by rw [b2 _ (by omega), a3 _ (by omega)])
  · rw [c2 x (by omega), b2 x (by omega), a3 x (by omega)]
theorem sWF_im {S : w_S} (h : sWF S) {k : Nat} (hk : k = 0 ∨ k = 1) : sWF (im_set S k) := by
  obtain ⟨h0, h1, h2, h3, h4, h5, h6, h7, h8⟩ := h
  have im0 : imWF (S 0) (S 0) (S 1) (S 2) := ⟨h0, ⟨rfl, rfl, rfl⟩, h1, h2⟩
  rcases hk with rfl | rfl
  · exact ⟨h0, h1, h2, h3, h4, Or.inr rfl, h6, fun _ => im0, h8⟩
  · exact ⟨h0, h1, h2, h3, h4, h5, Or.inr rfl, h7, fun _ => im0⟩
theorem sWF_bk {S : w_S} (h : sWF S) {k : Nat} (hk : k = 0 ∨ k = 1) (h1k : S 11 0 k = 1) : sWF (im_get S k) := by
  obtain ⟨h0, h1, h2, h3, h4, h5, h6, h7, h8⟩ := h
  rcases hk with rfl | rfl
  · obtain ⟨i1, ⟨i2, i3, i4⟩, i5, i6⟩ := h7 h1k
    refine ⟨i1, i5, i6, h3, h4, h5, h6, fun _ => ⟨i1, ⟨rfl, rfl, rfl⟩, i5, i6⟩, fun hk => ?_⟩
    obtain ⟨j1, ⟨j2, j3, j4⟩, j5, j6⟩ := h8 hk
    exact ⟨j1, ⟨j2.trans i2.symm, j3.trans i3.symm, j4.trans i4.symm⟩, j5, j6⟩
  · obtain ⟨i1, ⟨i2, i3, i4⟩, i5, i6⟩ := h8 h1k
    refine ⟨i1, i5, i6, h3, h4, h5, h6, fun hk => ?_, fun _ => ⟨i1, ⟨rfl, rfl, rfl⟩, i5, i6⟩⟩
    obtain ⟨j1, ⟨j2, j3, j4⟩, j5, j6⟩ := h7 hk
    exact ⟨j1, ⟨j2.trans i2.symm, j3.trans i3.symm, j4.trans i4.symm⟩, j5, j6⟩
theorem w_kp_bits : ∀ m, m < 4 → ∀ k, k < 2 → (0 ≤ v_Moon_withBit (m : Nat) (k : Nat) 1 ∧ v_Moon_withBit (m : Nat) (k : Nat) 1 ≤ 3) ∧ ∀ j, j < 2 → w_and (w_shr (v_Moon_withBit (m : Nat) (k : Nat) 1) ((j : Nat) : Int)) 1 = if j = k then 1 else w_and (w_shr ((m : Nat) : Int) ((j : Nat) : Int)) 1 := by decide +kernel
noncomputable def p_Moon_keep (_x1 : Int) (σ : w_M) : Prop := CI σ
noncomputable def q_Moon_keep (x1 : Int) (σ : w_M) (x : Int) (σ' : w_M) : Prop := c_q (F_keep (cS σ) x1) (G_keep (cS σ) x1) σ x σ'
theorem fMoon_keep_0 : w_fe am_c146 0 1 (.iload 1) := ⟨rfl, rfl⟩
theorem fMoon_keep_1 : w_fe am_c146 1 2 (.bipush 0) := ⟨rfl, rfl⟩
theorem fMoon_keep_2 : w_fe am_c146 2 3 (.bipush 1) := ⟨rfl, rfl⟩
theorem fMoon_keep_3 : w_fe am_c146 3 4 (.invokestatic 107) := ⟨rfl, rfl⟩
theorem fMoon_keep_4 : w_if am_c146 4 5 .ne 7 := ⟨rfl, rfl⟩
theorem fMoon_keep_5 : w_fe am_c146 5 6 (.bipush (-1)) := ⟨rfl, rfl⟩
theorem fMoon_keep_6 : w_fe am_c146 6 7 (.ireturn) := ⟨rfl, rfl⟩
theorem fMoon_keep_7 : w_fe am_c146 7 8 (.aload 0) := ⟨rfl, rfl⟩
theorem fMoon_keep_8 : w_fe am_c146 8 9 (.getfield 7) := ⟨rfl, rfl⟩
theorem fMoon_keep_9 : w_fe am_c146 9 10 (.iload 1) := ⟨rfl, rfl⟩
theorem fMoon_keep_10 : w_fe am_c146 10 11 (.ishr) := ⟨rfl, rfl⟩
theorem fMoon_keep_11 : w_fe am_c146 11 12 (.bipush 1) := ⟨rfl, rfl⟩
theorem fMoon_keep_12 : w_fe am_c146 12 13 (.iand) := ⟨rfl, rfl⟩
theorem fMoon_keep_13 : w_fe am_c146 13 14 (.istore 2) := ⟨rfl, rfl⟩
theorem fMoon_keep_14 : w_fe am_c146 14 15 (.aload 0) := ⟨rfl, rfl⟩
theorem fMoon_keep_15 : w_fe am_c146 15 16 (.getfield 3) := ⟨rfl, rfl⟩
theorem fMoon_keep_16 : w_fe am_c146 16 17 (.iload 1) := ⟨rfl, rfl⟩
theorem fMoon_keep_17 : w_fe am_c146 17 18 (.aaload) := ⟨rfl, rfl⟩
theorem fMoon_keep_18 : w_fe am_c146 18 19 (.aload 0) := ⟨rfl, rfl⟩
theorem fMoon_keep_19 : w_fe am_c146 19 20 (.getfield 1) := ⟨rfl, rfl⟩
theorem fMoon_keep_20 : w_fe am_c146 20 21 (.invokestatic 54) := ⟨rfl, rfl⟩
theorem fMoon_keep_21 : w_fe am_c146 21 22 (.aload 0) := ⟨rfl, rfl⟩
theorem fMoon_keep_22 : w_fe am_c146 22 23 (.aload 0) := ⟨rfl, rfl⟩
theorem fMoon_keep_23 : w_fe am_c146 23 24 (.getfield 7) := ⟨rfl, rfl⟩
theorem fMoon_keep_24 : w_fe am_c146 24 25 (.iload 1) := ⟨rfl, rfl⟩
theorem fMoon_keep_25 : w_fe am_c146 25 26 (.bipush 1) := ⟨rfl, rfl⟩
theorem fMoon_keep_26 : w_fe am_c146 26 27 (.invokestatic 110) := ⟨rfl, rfl⟩
theorem fMoon_keep_27 : w_fe am_c146 27 28 (.putfield 7) := ⟨rfl, rfl⟩
theorem fMoon_keep_28 : w_fe am_c146 28 29 (.iload 2) := ⟨rfl, rfl⟩
theorem fMoon_keep_29 : w_fe am_c146 29 30 (.ireturn) := ⟨rfl, rfl⟩
set_option maxRecDepth 20000 in
theorem bMoon_keep_0 {xs : List Int} {d : Nat} {Q : Option w_V → w_M → Prop} {x1 : Int} {σ : w_M}
    (h : ((0 ≤ x1 ∧ x1 ≤ 1) → ∀ (y1 : Int), y1 = (w_and (w_shr (σ 0 7) x1) 1) → (0 ≤ x1 ∧ x1 < 2 ∧ p_State_copyFrom (88 + 17 * x1.toNat) 13 σ ∧ (∀ (τ2 : w_M), q_State_copyFrom (88 + 17 * x1.toNat) 13 σ τ2 → ∀ (y3 : Int), y3 = v_Moon_withBit (τ2 0 7) x1 1 → ∀ (τ4 : w_M), τ4 = w_up τ2 0 7 y3 → Q (some (.inl y1)) τ4))) ∧ (¬ (0 ≤ x1 ∧ x1 ≤ 1) → Q (some (.inl (-1))) σ)) : w_Call (xs, (d + 2)) 146 [.inr (.inr (0, 0)), .inl x1] σ Q :=
  (w_mk (mid := 146) (by decide) rfl rfl rfl rfl rfl (Nat.le_of_ble_eq_true rfl) ⟨rfl, Or.inl (by decide)⟩ (wi_iload1 fMoon_keep_0 (wi_bipush fMoon_keep_1 (wi_bipush fMoon_keep_2 (wi_call3 fMoon_keep_3 (Nat.le_of_ble_eq_true rfl) (k_Moon_isWithin (wi_ifb_ne fMoon_keep_4 (fun c5 => (wi_aload0 fMoon_keep_7 (wi_getf7 fMoon_keep_8 (wi_iload1 fMoon_keep_9 (wi_ishr fMoon_keep_10 (wi_bipush fMoon_keep_11 (wi_iand fMoon_keep_12 (wi_istore2 fMoon_keep_13 trivial (wi_aload0 fMoon_keep_14 (wi_getf3 fMoon_keep_15 (wi_iload1 fMoon_keep_16 (wi_aald4002 fMoon_keep_17 ((h.1 c5) _ rfl).1 ((h.1 c5) _ rfl).2.1 (wi_aload0 fMoon_keep_18 (wi_getf1 fMoon_keep_19 (wi_call2 fMoon_keep_20 (Nat.le_of_ble_eq_true rfl) (k_State_copyFrom ((h.1 c5) _ rfl).2.2.1 (fun τ2 eτ2 => (wi_aload0 fMoon_keep_21 (wi_aload0 fMoon_keep_22 (wi_getf7 fMoon_keep_23 (wi_iload1 fMoon_keep_24 (wi_bipush fMoon_keep_25 (wi_call3 fMoon_keep_26 (Nat.le_of_ble_eq_true rfl) (k_Moon_withBit (wi_putf7 fMoon_keep_27 (wi_iload2 fMoon_keep_28 (wi_ret1 fMoon_keep_29 (((((h.1 c5) _ rfl).2.2.2 τ2 eτ2) _ rfl) _ rfl)))))))))))))))))))))))))))) (fun c5 => (wi_bipush fMoon_keep_5 (wi_ret1 fMoon_keep_6 (h.2 c5)))))))))))
theorem cS_11 {σ : w_M} {k : Nat} (hk : k < 2) : cS σ 11 0 k = k_ab σ k := by
  show (if 0 = 0 ∧ k < 2 then k_ab σ k else 0) = _
  rw [if_pos ⟨rfl, hk⟩]
set_option maxHeartbeats 1000000 in
theorem k_Moon_keep {xs : List Int} {d : Nat} {Q : Option w_V → w_M → Prop} {x1 : Int} {σ : w_M} (hp : p_Moon_keep x1 σ) (hQ : ∀ (x : Int) (σ' : w_M), q_Moon_keep x1 σ x σ' → Q (some (.inl x)) σ') : w_Call (xs, d + 2) 146 [.inr (.inr (0, 0)), .inl x1] σ Q := by
  have hC : CI σ := hp
  have hok := hC.ok
  unfold q_Moon_keep F_keep G_keep at hQ
  refine bMoon_keep_0 ⟨fun c => fun y1 e1 => ⟨c.1, by omega, ?_⟩, fun c => ?_⟩
  · rw [if_pos c, if_pos c] at hQ
    obtain ⟨k, rfl⟩ := Int.eq_ofNat_of_zero_le c.1
    have hk : k = 0 ∨ k = 1 := by omega
    rw [Int.toNat_natCast] at hQ ⊢
    refine ⟨⟨hok, hC.se, hC.pa, by omega⟩, fun τ2 q2 y3 e3 τ4 t4 => ?_⟩
    obtain ⟨a1, a2, a3, a4, a5⟩ := q2
    have z0 : τ2 0 = σ 0 := a5 0 (by omega)
    rw [z0] at e3
    have hX := hC.2
    have h7 := hX.2.1
    obtain ⟨m, em⟩ := Int.eq_ofNat_of_zero_le h7.1
    have hb := w_kp_bits m (by omega) k (by omega)
    rw [← em, ← e3] at hb
    have e7 : τ4 0 7 = y3 := by rw [t4]; exact w_up_at
    have z4 : ∀ b, b ≠ 0 → τ4 b = τ2 b := fun b hb => by rw [t4]; exact w_up_ne hb
    have kb : ∀ j, j < 2 → k_ab τ4 j = if j = k then 1 else k_ab σ j := fun j hj => by
      unfold k_ab
      rw [e7]
      exact hb.2 j hj
    have lo : ∀ b, b ≠ 0 → (b < 89 + 17 * k ∨ 105 + 17 * k ≤ b) → τ4 b = σ b := fun b h1 h2 => by rw [z4 b h1]; exact a5 b (by omega)
    have hS : cS τ4 = im_set (cS σ) k := by
      refine cS_ext ?_ ?_ ?_ ?_ ?_ (fun p hp => ?_)
      · show w_ab τ4 14 = _
        rw [w_ab_fr (fun d hd => lo _ (by omega) (by omega))]
        rcases hk with rfl | rfl <;> rfl
      · show s_ab τ4 23 = _
        rw [s_ab_fr (fun d hd => lo _ (by omega) (by omega))]
        rcases hk with rfl | rfl <;> rfl
      · show c_ab τ4 27 = _
        rw [c_ab_fr (fun d hd => lo _ (by omega) (by omega))]
        rcases hk with rfl | rfl <;> rfl
      · show t_ab τ4 = _
        rw [t_ab_fr (by rw [lo 1 (by decide) (by omega)]) (by rw [t4, w_up_j (by decide), z0]) (lo 2 (by decide) (by omega))]
        rcases hk with rfl | rfl <;> rfl
      · show h_ab τ4 = _
        rw [h_ab_fr (fun b h1 h2 => lo b (by omega) (by omega))]
        rcases hk with rfl | rfl <;> rfl
      · have kb0 := kb 0 (by decide)
        have kb1 := kb 1 (by decide)
        have A1 : w_ab τ4 (89 + 17 * k) = w_ab σ 14 := by
          rw [w_ab_fr (σ := τ2) (fun d hd => z4 _ (by omega))]
          rw [show 89 + 17 * k = 88 + 17 * k + 1 by omega]
          exact a1
        have A2 : s_ab τ4 (98 + 17 * k) = s_ab σ 23 := by
          rw [s_ab_fr (σ := τ2) (fun d hd => z4 _ (by omega))]
          rw [show 98 + 17 * k = 88 + 17 * k + 10 by omega]
          exact a3
        have A3 : c_ab τ4 (102 + 17 * k) = c_ab σ 27 := by
          rw [c_ab_fr (σ := τ2) (fun d hd => z4 _ (by omega))]
          rw [show 102 + 17 * k = 88 + 17 * k + 14 by omega]
          exact a4
        rcases hk with rfl | rfl
        · rw [if_pos rfl] at kb0
          rw [if_neg (by decide)] at kb1
          match p, hp with
          | 5, _ => simp only [cS]; rw [kb0, if_pos rfl]; exact A1
          | 6, _ => simp only [cS]; rw [kb0, if_pos rfl]; exact A2
          | 7, _ => simp only [cS]; rw [kb0, if_pos rfl]; exact A3
          | 8, _ => simp only [cS]; rw [kb1, w_ab_fr (σ := σ) (fun d hd => lo _ (by omega) (by omega))]; rfl
          | 9, _ => simp only [cS]; rw [kb1, s_ab_fr (σ := σ) (fun d hd => lo _ (by omega) (by omega))]; rfl
          | 10, _ => simp only [cS]; rw [kb1, c_ab_fr (σ := σ) (fun d hd => lo _ (by omega) (by omega))]; rfl
          | 11, _ =>
            show (fun d i => if d = 0 ∧ i < 2 then k_ab τ4 i else 0) = w_up (fun d i => if d = 0 ∧ i < 2 then k_ab σ i else 0) 0 0 1
            funext d i
            rw [w_up_eq]
            by_cases hd : d = 0 ∧ i < 2
            · rw [if_pos hd, if_pos hd, kb i hd.2]
              by_cases hi : i = 0
              · rw [if_pos hi, if_pos ⟨hd.1, hi⟩]
              · rw [if_neg hi, if_neg (fun e => hi e.2)]
            · rw [if_neg hd, if_neg hd, if_neg (fun e => hd ⟨e.1, by omega⟩)]
          | p + 12, _ => exact (show cS τ4 (p + 12) = w_0 from rfl).trans (show im_set (cS σ) 0 (p + 12) = w_0 by unfold im_set; rw [w_sp_ne (by omega), w_sp_ne (by omega), w_sp_ne (by omega), w_sp_ne (by omega)]; rfl).symm
        · rw [if_neg (by decide)] at kb0
          rw [if_pos rfl] at kb1
          match p, hp with
          | 5, _ => simp only [cS]; rw [kb0, w_ab_fr (σ := σ) (fun d hd => lo _ (by omega) (by omega))]; rfl
          | 6, _ => simp only [cS]; rw [kb0, s_ab_fr (σ := σ) (fun d hd => lo _ (by omega) (by omega))]; rfl
          | 7, _ => simp only [cS]; rw [kb0, c_ab_fr (σ := σ) (fun d hd => lo _ (by omega) (by omega))]; rfl
          | 8, _ => simp only [cS]; rw [kb1, if_pos rfl]; exact A1
          | 9, _ => simp only [cS]; rw [kb1, if_pos rfl]; exact A2
          | 10, _ => simp only [cS]; rw [kb1, if_pos rfl]; exact A3
          | 11, _ =>
            show (fun d i => if d = 0 ∧ i < 2 then k_ab τ4 i else 0) = w_up (fun d i => if d = 0 ∧ i < 2 then k_ab σ i else 0) 0 1 1
            funext d i
            rw [w_up_eq]
            by_cases hd : d = 0 ∧ i < 2
            · rw [if_pos hd, if_pos hd, kb i hd.2]
              by_cases hi : i = 1
              · rw [if_pos hi, if_pos ⟨hd.1, hi⟩]
              · rw [if_neg hi, if_neg (fun e => hi e.2)]
            · rw [if_neg hd, if_neg hd, if_neg (fun e => hd ⟨e.1, by omega⟩)]
          | p + 12, _ => exact (show cS τ4 (p + 12) = w_0 from rfl).trans (show im_set (cS σ) 1 (p + 12) = w_0 by unfold im_set; rw [w_sp_ne (by omega), w_sp_ne (by omega), w_sp_ne (by omega), w_sp_ne (by omega)]; rfl).symm
    have hm : τ2 (89 + 17 * k) 6 = σ 14 6 := by
      rw [show 89 + 17 * k = 88 + 17 * k + 1 by omega]
      exact a2
    refine hQ _ _ ⟨?_, ⟨by rw [hS]; exact sWF_im hC.1 hk, ?_⟩, hS, fun b hb => lo b (by omega) (by omega), by rw [t4, w_up_j (by decide), z0]⟩
    · rw [e1]; exact (cS_11 (by omega)).symm
    · refine ⟨by rw [lo 14 (by decide) (by omega)]; exact hX.1, by rw [e7]; exact hb.1, fun h => ?_, fun h => ?_⟩
      · rcases hk with rfl | rfl
        · rw [z4 89 (by decide)]
          rw [show τ2 89 6 = σ 14 6 from hm]
          exact hX.1
        · rw [lo 89 (by decide) (by omega)]
          rw [kb 0 (by decide), if_neg (by decide)] at h
          exact hX.2.2.1 h
      · rcases hk with rfl | rfl
        · rw [lo 106 (by decide) (by omega)]
          rw [kb 1 (by decide), if_neg (by decide)] at h
          exact hX.2.2.2 h
        · rw [z4 106 (by decide)]
          rw [show τ2 106 6 = σ 14 6 from hm]
          exact hX.1
  · rw [if_neg c, if_neg c] at hQ
    exact hQ _ _ (c_qr hC rfl)
noncomputable def p_Moon_back (_x1 : Int) (σ : w_M) : Prop := CI σ
noncomputable def q_Moon_back (x1 : Int) (σ : w_M) (x : Int) (σ' : w_M) : Prop := c_q (F_back (cS σ) x1) (G_back (cS σ) x1) σ x σ'
theorem fMoon_back_0 : w_fe am_c147 0 1 (.iload 1) := ⟨rfl, rfl⟩
theorem fMoon_back_1 : w_fe am_c147 1 2 (.bipush 0) := ⟨rfl, rfl⟩
theorem fMoon_back_2 : w_fe am_c147 2 3 (.bipush 1) := ⟨rfl, rfl⟩
theorem fMoon_back_3 : w_fe am_c147 3 4 (.invokestatic 107) := ⟨rfl, rfl⟩
theorem fMoon_back_4 : w_if am_c147 4 5 .ne 7 := ⟨rfl, rfl⟩
theorem fMoon_back_5 : w_fe am_c147 5 6 (.bipush (-1)) := ⟨rfl, rfl⟩
theorem fMoon_back_6 : w_fe am_c147 6 7 (.ireturn) := ⟨rfl, rfl⟩
theorem fMoon_back_7 : w_fe am_c147 7 8 (.aload 0) := ⟨rfl, rfl⟩
theorem fMoon_back_8 : w_fe am_c147 8 9 (.getfield 7) := ⟨rfl, rfl⟩
theorem fMoon_back_9 : w_fe am_c147 9 10 (.iload 1) := ⟨rfl, rfl⟩
theorem fMoon_back_10 : w_fe am_c147 10 11 (.ishr) := ⟨rfl, rfl⟩
theorem fMoon_back_11 : w_fe am_c147 11 12 (.bipush 1) := ⟨rfl, rfl⟩
theorem fMoon_back_12 : w_fe am_c147 12 13 (.iand) := ⟨rfl, rfl⟩
theorem fMoon_back_13 : w_if am_c147 13 14 .ne 16 := ⟨rfl, rfl⟩
theorem fMoon_back_14 : w_fe am_c147 14 15 (.bipush (-2)) := ⟨rfl, rfl⟩
theorem fMoon_back_15 : w_fe am_c147 15 16 (.ireturn) := ⟨rfl, rfl⟩
theorem fMoon_back_16 : w_fe am_c147 16 17 (.aload 0) := ⟨rfl, rfl⟩
theorem fMoon_back_17 : w_fe am_c147 17 18 (.getfield 1) := ⟨rfl, rfl⟩
theorem fMoon_back_18 : w_fe am_c147 18 19 (.aload 0) := ⟨rfl, rfl⟩
theorem fMoon_back_19 : w_fe am_c147 19 20 (.getfield 3) := ⟨rfl, rfl⟩
theorem fMoon_back_20 : w_fe am_c147 20 21 (.iload 1) := ⟨rfl, rfl⟩
theorem fMoon_back_21 : w_fe am_c147 21 22 (.aaload) := ⟨rfl, rfl⟩
theorem fMoon_back_22 : w_fe am_c147 22 23 (.invokestatic 54) := ⟨rfl, rfl⟩
theorem fMoon_back_23 : w_fe am_c147 23 24 (.aload 0) := ⟨rfl, rfl⟩
theorem fMoon_back_24 : w_fe am_c147 24 25 (.getfield 2) := ⟨rfl, rfl⟩
theorem fMoon_back_25 : w_fe am_c147 25 26 (.getfield 201) := ⟨rfl, rfl⟩
theorem fMoon_back_26 : w_fe am_c147 26 27 (.ireturn) := ⟨rfl, rfl⟩
set_option maxRecDepth 20000 in
theorem bMoon_back_0 {xs : List Int} {d : Nat} {Q : Option w_V → w_M → Prop} {x1 : Int} {σ : w_M}
    (h : ((0 ≤ x1 ∧ x1 ≤ 1) → ((¬ (w_and (w_shr (σ 0 7) x1) 1) = 0 → (0 ≤ x1 ∧ x1 < 2 ∧ p_State_copyFrom 13 (88 + 17 * x1.toNat) σ ∧ (∀ (τ1 : w_M), q_State_copyFrom 13 (88 + 17 * x1.toNat) σ τ1 → Q (some (.inl (τ1 14 1))) τ1))) ∧ ((w_and (w_shr (σ 0 7) x1) 1) = 0 → Q (some (.inl (-2))) σ))) ∧ (¬ (0 ≤ x1 ∧ x1 ≤ 1) → Q (some (.inl (-1))) σ)) : w_Call (xs, (d + 2)) 147 [.inr (.inr (0, 0)), .inl x1] σ Q :=
  (w_mk (mid := 147) (by decide) rfl rfl rfl rfl rfl (Nat.le_of_ble_eq_true rfl) ⟨rfl, Or.inl (by decide)⟩ (wi_iload1 fMoon_back_0 (wi_bipush fMoon_back_1 (wi_bipush fMoon_back_2 (wi_call3 fMoon_back_3 (Nat.le_of_ble_eq_true rfl) (k_Moon_isWithin (wi_ifb_ne fMoon_back_4 (fun c3 => (wi_aload0 fMoon_back_7 (wi_getf7 fMoon_back_8 (wi_iload1 fMoon_back_9 (wi_ishr fMoon_back_10 (wi_bipush fMoon_back_11 (wi_iand fMoon_back_12 (wi_if_ne fMoon_back_13 (fun c2 => (wi_aload0 fMoon_back_16 (wi_getf1 fMoon_back_17 (wi_aload0 fMoon_back_18 (wi_getf3 fMoon_back_19 (wi_iload1 fMoon_back_20 (wi_aald4002 fMoon_back_21 ((h.1 c3).1 c2).1 ((h.1 c3).1 c2).2.1 (wi_call2 fMoon_back_22 (Nat.le_of_ble_eq_true rfl) (k_State_copyFrom ((h.1 c3).1 c2).2.2.1 (fun τ1 eτ1 => (wi_aload0 fMoon_back_23 (wi_getf2 fMoon_back_24 (wi_getf201 fMoon_back_25 (wi_ret1 fMoon_back_26 (((h.1 c3).1 c2).2.2.2 τ1 eτ1))))))))))))))) (fun c2 => (wi_bipush fMoon_back_14 (wi_ret1 fMoon_back_15 ((h.1 c3).2 c2)))))))))))) (fun c3 => (wi_bipush fMoon_back_5 (wi_ret1 fMoon_back_6 (h.2 c3)))))))))))
set_option maxHeartbeats 1000000 in
theorem k_Moon_back {xs : List Int} {d : Nat} {Q : Option w_V → w_M → Prop} {x1 : Int} {σ : w_M} (hp : p_Moon_back x1 σ) (hQ : ∀ (x : Int) (σ' : w_M), q_Moon_back x1 σ x σ' → Q (some (.inl x)) σ') : w_Call (xs, d + 2) 147 [.inr (.inr (0, 0)), .inl x1] σ Q := by
  have hC : CI σ := hp
  unfold q_Moon_back F_back G_back at hQ
  have bits : ∀ k : Nat, k_ab σ k = 0 ∨ k_ab σ k = 1 := fun k => w_and1 _
  refine bMoon_back_0 ⟨fun c => ?_, fun c => ?_⟩
  · obtain ⟨k, rfl⟩ := Int.eq_ofNat_of_zero_le c.1
    have hk : k = 0 ∨ k = 1 := by omega
    have e11 : cS σ 11 0 k = k_ab σ k := cS_11 (by omega)
    rw [Int.toNat_natCast, if_pos c, e11] at hQ
    refine ⟨fun c2 => ⟨c.1, by omega, ?_⟩, fun c2 => ?_⟩
    · have h1 : k_ab σ k = 1 := (bits k).resolve_left c2
      rw [if_pos h1, if_pos ⟨c, h1⟩] at hQ
      rw [Int.toNat_natCast]
      have him : imWF (cS σ 0) (w_ab σ (89 + 17 * k)) (s_ab σ (98 + 17 * k)) (c_ab σ (102 + 17 * k)) ∧ (0 ≤ σ (89 + 17 * k) 6 ∧ σ (89 + 17 * k) 6 ≤ 127) ∧ cS σ (5 + 3 * k) = w_ab σ (89 + 17 * k) ∧ cS σ (6 + 3 * k) = s_ab σ (98 + 17 * k) ∧ cS σ (7 + 3 * k) = c_ab σ (102 + 17 * k) := by
        rcases hk with rfl | rfl
        · have e5 : cS σ 5 = w_ab σ 89 := by simp only [cS]; rw [if_pos h1]
          have e6 : cS σ 6 = s_ab σ 98 := by simp only [cS]; rw [if_pos h1]
          have e7 : cS σ 7 = c_ab σ 102 := by simp only [cS]; rw [if_pos h1]
          have := hC.1.2.2.2.2.2.2.2.1 (e11.trans h1)
          rw [e5, e6, e7] at this
          exact ⟨this, hC.2.2.2.1 h1, e5, e6, e7⟩
        · have e5 : cS σ 8 = w_ab σ 106 := by simp only [cS]; rw [if_pos h1]
          have e6 : cS σ 9 = s_ab σ 115 := by simp only [cS]; rw [if_pos h1]
          have e7 : cS σ 10 = c_ab σ 119 := by simp only [cS]; rw [if_pos h1]
          have := hC.1.2.2.2.2.2.2.2.2 (e11.trans h1)
          rw [e5, e6, e7] at this
          exact ⟨this, hC.2.2.2.2 h1, e5, e6, e7⟩
      obtain ⟨⟨i1, i2, i3, i4⟩, im, g5, g6, g7⟩ := him
      refine ⟨⟨by rw [show 88 + 17 * k + 1 = 89 + 17 * k by omega]; exact i1, by rw [show 88 + 17 * k + 10 = 98 + 17 * k by omega]; exact i3.1, by rw [show 88 + 17 * k + 14 = 102 + 17 * k by omega]; exact i4.1, by omega⟩, fun τ q => ?_⟩
      obtain ⟨a1, a2, a3, a4, a5⟩ := q
      rw [show 88 + 17 * k + 1 = 89 + 17 * k by omega] at a1 a2
      rw [show 88 + 17 * k + 10 = 98 + 17 * k by omega] at a3
      rw [show 88 + 17 * k + 14 = 102 + 17 * k by omega] at a4
      have hS : cS τ = im_get (cS σ) k := by
        refine cS_ext ?_ ?_ ?_ ?_ ?_ (fun p hp => ?_)
        · show w_ab τ 14 = cS σ (5 + 3 * k); rw [g5]; exact a1
        · show s_ab τ 23 = cS σ (6 + 3 * k); rw [g6]; exact a3
        · show c_ab τ 27 = cS σ (7 + 3 * k); rw [g7]; exact a4
        · show t_ab τ = t_ab σ; exact t_ab_fr (by rw [a5 1 (by omega)]) (by rw [a5 0 (by omega)]) (a5 2 (by omega))
        · show h_ab τ = h_ab σ; exact h_ab_fr (fun b h1 h2 => a5 b (by omega))
        · unfold im_get
          rw [w_sp_ne (by omega), w_sp_ne (by omega), w_sp_ne (by omega)]
          exact cS_im (by rw [a5 0 (by omega)]) (fun b h1 h2 => a5 b (by omega)) p hp
      refine hQ _ _ ⟨?_, ⟨by rw [hS]; exact sWF_bk hC.1 hk (e11.trans h1), ?_⟩, hS, fun b hb => a5 b (by omega), by rw [a5 0 (by omega)]⟩
      · show w_ab τ 14 0 1 = _
        rw [g5]
        exact congrFun (congrFun a1 0) 1
      · have hX := hC.2
        unfold cX k_ab at hX ⊢
        rw [a5 0 (by omega), a5 89 (by omega), a5 106 (by omega)]
        exact ⟨by rw [show τ 14 6 = σ (89 + 17 * k) 6 from a2]; exact im, hX.2⟩
    · have h0 : k_ab σ k = 0 := c2
      rw [h0, if_neg (by decide), if_neg (by omega)] at hQ
      exact hQ _ _ (c_qr hC rfl)
  · rw [if_neg c, if_neg (fun q => c q.1)] at hQ
    exact hQ _ _ (c_qr hC rfl)
end
section
/-! What is seen, paid, kept: the reference -/
theorem m_q1 {σ σ' : w_M} {B : w_M} {F x : Int} (hM : MI σ) (hf : w_f1 σ σ' 123) (hx3 : ∀ x, x < 48 ∨ 73 ≤ x → σ' 123 x = σ 123 x) (hB : s_am σ' 0 = B) (hW : seWF B) (hx : x = F) : m_q F (w_sp (mS σ) 1 B) σ x σ' := by
  have e : mS σ' = w_sp (mS σ) 1 B := by rw [mS_part1 hM hf hx3, hB]
  exact ⟨hx, by unfold MI; rw [e]; exact sWF_1 hM hW, e, fun b hb => hf b (by omega), by rw [hf 122 (by decide)]⟩
theorem m_q2 {σ σ' : w_M} {B : w_M} {F x : Int} (hM : MI σ) (hf : w_f1 σ σ' 123) (hx3 : ∀ x, x < 73 ∨ 82 ≤ x → σ' 123 x = σ 123 x) (hB : c_am σ' 0 = B) (hW : paWF (w_am σ 123 0) B) (hx : x = F) : m_q F (w_sp (mS σ) 2 B) σ x σ' := by
  have e : mS σ' = w_sp (mS σ) 2 B := by rw [mS_part2 hM hf hx3, hB]
  exact ⟨hx, by unfold MI; rw [e]; exact sWF_2 hM hW, e, fun b hb => hf b (by omega), by rw [hf 122 (by decide)]⟩
noncomputable def p_Model_see (_x1 : Int) (_x2 : Int) (x3 : Int) (σ : w_M) : Prop := MI σ ∧ (x3 = 0 ∨ x3 = 1)
noncomputable def q_Model_see (x1 : Int) (x2 : Int) (x3 : Int) (σ : w_M) (x : Int) (σ' : w_M) : Prop := m_q (F_see (mS σ) x1 x2 x3) (G_see (mS σ) x1 x2 x3) σ x σ'
noncomputable def p_Model_forget (_x1 : Int) (σ : w_M) : Prop := MI σ
noncomputable def q_Model_forget (x1 : Int) (σ : w_M) (x : Int) (σ' : w_M) : Prop := m_q (F_forget (mS σ) x1) (G_forget (mS σ) x1) σ x σ'
noncomputable def p_Model_pay (_x1 : Int) (_x2 : Int) (σ : w_M) : Prop := MI σ
noncomputable def q_Model_pay (x1 : Int) (x2 : Int) (σ : w_M) (x : Int) (σ' : w_M) : Prop := m_q (F_pay (mS σ) x1 x2) (G_pay (mS σ) x1 x2) σ x σ'
noncomputable def p_Model_owe (_x1 : Int) (σ : w_M) : Prop := MI σ
noncomputable def q_Model_owe (x1 : Int) (σ : w_M) (x : Int) (σ' : w_M) : Prop := m_q (F_owe (mS σ) x1) (G_owe (mS σ) x1) σ x σ'
theorem fModel_see_0 : w_fe am_c215 0 1 (.iload 1) := ⟨rfl, rfl⟩
theorem fModel_see_1 : w_fe am_c215 1 2 (.i2l) := ⟨rfl, rfl⟩
theorem fModel_see_2 : w_fe am_c215 2 3 (.sipush 0) := ⟨rfl, rfl⟩
theorem fModel_see_3 : w_fe am_c215 3 4 (.sipush 6) := ⟨rfl, rfl⟩
theorem fModel_see_4 : w_fe am_c215 4 5 (.invokestatic 157) := ⟨rfl, rfl⟩
theorem fModel_see_5 : w_if am_c215 5 6 .eq 10 := ⟨rfl, rfl⟩
theorem fModel_see_6 : w_fe am_c215 6 7 (.aload 0) := ⟨rfl, rfl⟩
theorem fModel_see_7 : w_fe am_c215 7 8 (.iload 2) := ⟨rfl, rfl⟩
theorem fModel_see_8 : w_fe am_c215 8 9 (.invokestatic 177) := ⟨rfl, rfl⟩
theorem fModel_see_9 : w_if am_c215 9 10 .ne 12 := ⟨rfl, rfl⟩
theorem fModel_see_10 : w_fe am_c215 10 11 (.bipush (-1)) := ⟨rfl, rfl⟩
theorem fModel_see_11 : w_fe am_c215 11 12 (.ireturn) := ⟨rfl, rfl⟩
theorem fModel_see_12 : w_fe am_c215 12 13 (.aload 0) := ⟨rfl, rfl⟩
theorem fModel_see_13 : w_fe am_c215 13 14 (.getfield 900) := ⟨rfl, rfl⟩
theorem fModel_see_14 : w_fe am_c215 14 15 (.bipush 48) := ⟨rfl, rfl⟩
theorem fModel_see_15 : w_fe am_c215 15 16 (.iaload) := ⟨rfl, rfl⟩
theorem fModel_see_16 : w_fe am_c215 16 17 (.bipush 8) := ⟨rfl, rfl⟩
theorem fModel_see_17 : w_ic am_c215 17 18 .ne 20 := ⟨rfl, rfl⟩
theorem fModel_see_18 : w_fe am_c215 18 19 (.bipush (-3)) := ⟨rfl, rfl⟩
theorem fModel_see_19 : w_fe am_c215 19 20 (.ireturn) := ⟨rfl, rfl⟩
theorem fModel_see_20 : w_fe am_c215 20 21 (.bipush 49) := ⟨rfl, rfl⟩
theorem fModel_see_21 : w_fe am_c215 21 22 (.bipush 3) := ⟨rfl, rfl⟩
theorem fModel_see_22 : w_fe am_c215 22 23 (.aload 0) := ⟨rfl, rfl⟩
theorem fModel_see_23 : w_fe am_c215 23 24 (.getfield 900) := ⟨rfl, rfl⟩
theorem fModel_see_24 : w_fe am_c215 24 25 (.bipush 48) := ⟨rfl, rfl⟩
theorem fModel_see_25 : w_fe am_c215 25 26 (.iaload) := ⟨rfl, rfl⟩
theorem fModel_see_26 : w_fe am_c215 26 27 (.imul) := ⟨rfl, rfl⟩
theorem fModel_see_27 : w_fe am_c215 27 28 (.iadd) := ⟨rfl, rfl⟩
theorem fModel_see_28 : w_fe am_c215 28 29 (.istore 4) := ⟨rfl, rfl⟩
theorem fModel_see_29 : w_fe am_c215 29 30 (.aload 0) := ⟨rfl, rfl⟩
theorem fModel_see_30 : w_fe am_c215 30 31 (.getfield 900) := ⟨rfl, rfl⟩
theorem fModel_see_31 : w_fe am_c215 31 32 (.iload 4) := ⟨rfl, rfl⟩
theorem fModel_see_32 : w_fe am_c215 32 33 (.iload 1) := ⟨rfl, rfl⟩
theorem fModel_see_33 : w_fe am_c215 33 34 (.iastore) := ⟨rfl, rfl⟩
theorem fModel_see_34 : w_fe am_c215 34 35 (.aload 0) := ⟨rfl, rfl⟩
theorem fModel_see_35 : w_fe am_c215 35 36 (.getfield 900) := ⟨rfl, rfl⟩
theorem fModel_see_36 : w_fe am_c215 36 37 (.iload 4) := ⟨rfl, rfl⟩
theorem fModel_see_37 : w_fe am_c215 37 38 (.bipush 1) := ⟨rfl, rfl⟩
theorem fModel_see_38 : w_fe am_c215 38 39 (.iadd) := ⟨rfl, rfl⟩
theorem fModel_see_39 : w_fe am_c215 39 40 (.iload 2) := ⟨rfl, rfl⟩
theorem fModel_see_40 : w_fe am_c215 40 41 (.iastore) := ⟨rfl, rfl⟩
theorem fModel_see_41 : w_fe am_c215 41 42 (.aload 0) := ⟨rfl, rfl⟩
theorem fModel_see_42 : w_fe am_c215 42 43 (.getfield 900) := ⟨rfl, rfl⟩
theorem fModel_see_43 : w_fe am_c215 43 44 (.iload 4) := ⟨rfl, rfl⟩
theorem fModel_see_44 : w_fe am_c215 44 45 (.bipush 2) := ⟨rfl, rfl⟩
theorem fModel_see_45 : w_fe am_c215 45 46 (.iadd) := ⟨rfl, rfl⟩
theorem fModel_see_46 : w_fe am_c215 46 47 (.iload 3) := ⟨rfl, rfl⟩
theorem fModel_see_47 : w_fe am_c215 47 48 (.invokestatic 179) := ⟨rfl, rfl⟩
theorem fModel_see_48 : w_fe am_c215 48 49 (.iastore) := ⟨rfl, rfl⟩
theorem fModel_see_49 : w_fe am_c215 49 50 (.aload 0) := ⟨rfl, rfl⟩
theorem fModel_see_50 : w_fe am_c215 50 51 (.getfield 900) := ⟨rfl, rfl⟩
theorem fModel_see_51 : w_fe am_c215 51 52 (.bipush 48) := ⟨rfl, rfl⟩
theorem fModel_see_52 : w_fe am_c215 52 53 (.dup2) := ⟨rfl, rfl⟩
theorem fModel_see_53 : w_fe am_c215 53 54 (.iaload) := ⟨rfl, rfl⟩
theorem fModel_see_54 : w_fe am_c215 54 55 (.bipush 1) := ⟨rfl, rfl⟩
theorem fModel_see_55 : w_fe am_c215 55 56 (.iadd) := ⟨rfl, rfl⟩
theorem fModel_see_56 : w_fe am_c215 56 57 (.iastore) := ⟨rfl, rfl⟩
theorem fModel_see_57 : w_fe am_c215 57 58 (.aload 0) := ⟨rfl, rfl⟩
theorem fModel_see_58 : w_fe am_c215 58 59 (.getfield 900) := ⟨rfl, rfl⟩
theorem fModel_see_59 : w_fe am_c215 59 60 (.bipush 48) := ⟨rfl, rfl⟩
theorem fModel_see_60 : w_fe am_c215 60 61 (.iaload) := ⟨rfl, rfl⟩
theorem fModel_see_61 : w_fe am_c215 61 62 (.ireturn) := ⟨rfl, rfl⟩
set_option maxRecDepth 20000 in
theorem bModel_see_0 {xs : List Int} {d : Nat} {Q : Option w_V → w_M → Prop} {x1 : Int} {x2 : Int} {x3 : Int} {σ : w_M}
    (h : (¬ (0 ≤ x1 ∧ x1 ≤ 6) → Q (some (.inl (-1))) σ) ∧ ((0 ≤ x1 ∧ x1 ≤ 6) → (p_Model_isStrip x2 σ ∧ (((0 ≤ x2 ∧ x2 < σ 122 4) → ((¬ (σ 123 48) = 8 → (w_in (3 * (σ 123 48)) ∧ w_in (49 + (3 * (σ 123 48))) ∧ (∀ (y1 : Int), y1 = (49 + (3 * (σ 123 48))) → (0 ≤ y1 ∧ y1 < 246 ∧ (∀ (τ2 : w_M), τ2 = w_up σ 123 y1.toNat x1 → (w_in (y1 + 1) ∧ 0 ≤ (y1 + 1) ∧ (y1 + 1) < 246 ∧ (∀ (τ3 : w_M), τ3 = w_up τ2 123 (y1 + 1).toNat x2 → (w_in (y1 + 2) ∧ (∀ (y4 : Int), y4 = v_Model_flag x3 → (0 ≤ (y1 + 2) ∧ (y1 + 2) < 246 ∧ (∀ (τ5 : w_M), τ5 = w_up τ3 123 (y1 + 2).toNat y4 → (w_in ((τ5 123 48) + 1) ∧ (∀ (τ6 : w_M), τ6 = w_up τ5 123 48 ((τ5 123 48) + 1) → Q (some (.inl (τ6 123 48))) τ6))))))))))))) ∧ ((σ 123 48) = 8 → Q (some (.inl (-3))) σ))) ∧ (¬ (0 ≤ x2 ∧ x2 < σ 122 4) → Q (some (.inl (-1))) σ))))) : w_Call (xs, (d + 2)) 215 [.inr (.inr (9, 122)), .inl x1, .inl x2, .inl x3] σ Q :=
  (w_mk (mid := 215) (by decide) rfl rfl rfl rfl rfl (Nat.le_of_ble_eq_true rfl) ⟨rfl, Or.inl (by decide)⟩ (wi_iload1 fModel_see_0 (wi_i2l fModel_see_1 (wi_sipush fModel_see_2 (wi_sipush fModel_see_3 (wi_call3 fModel_see_4 (Nat.le_of_ble_eq_true rfl) (k_Model_in (wi_ifb_eq fModel_see_5 (fun c9 => (wi_bipush fModel_see_10 (wi_ret1 fModel_see_11 (h.1 c9)))) (fun c9 => (wi_aload0 fModel_see_6 (wi_iload2 fModel_see_7 (wi_call2 fModel_see_8 (Nat.le_of_ble_eq_true rfl) (k_Model_isStrip (h.2 c9).1 (wi_ifb_ne fModel_see_9 (fun c8 => (wi_aload0 fModel_see_12 (wi_getf900 fModel_see_13 (wi_bipush fModel_see_14 (wi_iald1246 fModel_see_15 (by decide) (by decide) (wi_bipush fModel_see_16 (wi_ic_ne fModel_see_17 (fun c7 => (wi_bipush fModel_see_20 (wi_bipush fModel_see_21 (wi_aload0 fModel_see_22 (wi_getf900 fModel_see_23 (wi_bipush fModel_see_24 (wi_iald1246 fModel_see_25 (by decide) (by decide) (wi_imul fModel_see_26 (((h.2 c9).2.1 c8).1 c7).1 (wi_iadd fModel_see_27 (((h.2 c9).2.1 c8).1 c7).2.1 (wi_istore4 fModel_see_28 trivial (wi_aload0 fModel_see_29 (wi_getf900 fModel_see_30 (wi_iload4 fModel_see_31 (wi_iload1 fModel_see_32 (wi_iast1246 fModel_see_33 ((((h.2 c9).2.1 c8).1 c7).2.2 _ rfl).1 ((((h.2 c9).2.1 c8).1 c7).2.2 _ rfl).2.1 (wi_aload0 fModel_see_34 (wi_getf900 fModel_see_35 (wi_iload4 fModel_see_36 (wi_bipush fModel_see_37 (wi_iadd fModel_see_38 (((((h.2 c9).2.1 c8).1 c7).2.2 _ rfl).2.2 _ rfl).1 (wi_iload2 fModel_see_39 (wi_iast1246 fModel_see_40 (((((h.2 c9).2.1 c8).1 c7).2.2 _ rfl).2.2 _ rfl).2.1 (((((h.2 c9).2.1 c8).1 c7).2.2 _ rfl).2.2 _ rfl).2.2.1 (wi_aload0 fModel_see_41 (wi_getf900 fModel_see_42 (wi_iload4 fModel_see_43 (wi_bipush fModel_see_44 (wi_iadd fModel_see_45 ((((((h.2 c9).2.1 c8).1 c7).2.2 _ rfl).2.2 _ rfl).2.2.2 _ rfl).1 (wi_iload3 fModel_see_46 (wi_call1 fModel_see_47 (Nat.le_of_ble_eq_true rfl) (k_Model_flag (wi_iast1246 fModel_see_48 (((((((h.2 c9).2.1 c8).1 c7).2.2 _ rfl).2.2 _ rfl).2.2.2 _ rfl).2 _ rfl).1 (((((((h.2 c9).2.1 c8).1 c7).2.2 _ rfl).2.2 _ rfl).2.2.2 _ rfl).2 _ rfl).2.1 (wi_aload0 fModel_see_49 (wi_getf900 fModel_see_50 (wi_bipush fModel_see_51 (wi_dup2 fModel_see_52 (wi_iald1246 fModel_see_53 (by decide) (by decide) (wi_bipush fModel_see_54 (wi_iadd fModel_see_55 ((((((((h.2 c9).2.1 c8).1 c7).2.2 _ rfl).2.2 _ rfl).2.2.2 _ rfl).2 _ rfl).2.2 _ rfl).1 (wi_iast1246 fModel_see_56 (by decide) (by decide) (wi_aload0 fModel_see_57 (wi_getf900 fModel_see_58 (wi_bipush fModel_see_59 (wi_iald1246 fModel_see_60 (by decide) (by decide) (wi_ret1 fModel_see_61 (((((((((h.2 c9).2.1 c8).1 c7).2.2 _ rfl).2.2 _ rfl).2.2.2 _ rfl).2 _ rfl).2.2 _ rfl).2 _ rfl))))))))))))))))))))))))))))))))))))))))))))) (fun c7 => (wi_bipush fModel_see_18 (wi_ret1 fModel_see_19 (((h.2 c9).2.1 c8).2 c7))))))))))) (fun c8 => (wi_bipush fModel_see_10 (wi_ret1 fModel_see_11 ((h.2 c9).2.2 c8))))))))))))))))))
theorem fModel_forget_0 : w_fe am_c216 0 1 (.iload 1) := ⟨rfl, rfl⟩
theorem fModel_forget_1 : w_fe am_c216 1 2 (.i2l) := ⟨rfl, rfl⟩
theorem fModel_forget_2 : w_fe am_c216 2 3 (.sipush 0) := ⟨rfl, rfl⟩
theorem fModel_forget_3 : w_fe am_c216 3 4 (.aload 0) := ⟨rfl, rfl⟩
theorem fModel_forget_4 : w_fe am_c216 4 5 (.getfield 900) := ⟨rfl, rfl⟩
theorem fModel_forget_5 : w_fe am_c216 5 6 (.bipush 48) := ⟨rfl, rfl⟩
theorem fModel_forget_6 : w_fe am_c216 6 7 (.iaload) := ⟨rfl, rfl⟩
theorem fModel_forget_7 : w_fe am_c216 7 8 (.i2l) := ⟨rfl, rfl⟩
theorem fModel_forget_8 : w_fe am_c216 8 9 (.invokestatic 157) := ⟨rfl, rfl⟩
theorem fModel_forget_9 : w_if am_c216 9 10 .eq 15 := ⟨rfl, rfl⟩
theorem fModel_forget_10 : w_fe am_c216 10 11 (.aload 0) := ⟨rfl, rfl⟩
theorem fModel_forget_11 : w_fe am_c216 11 12 (.bipush 48) := ⟨rfl, rfl⟩
theorem fModel_forget_12 : w_fe am_c216 12 13 (.iload 1) := ⟨rfl, rfl⟩
theorem fModel_forget_13 : w_fe am_c216 13 14 (.invokestatic 185) := ⟨rfl, rfl⟩
theorem fModel_forget_14 : w_gt am_c216 14 16 := rfl
theorem fModel_forget_15 : w_fe am_c216 15 16 (.bipush (-1)) := ⟨rfl, rfl⟩
theorem fModel_forget_16 : w_fe am_c216 16 17 (.ireturn) := ⟨rfl, rfl⟩
set_option maxRecDepth 20000 in
theorem bModel_forget_0 {xs : List Int} {d : Nat} {Q : Option w_V → w_M → Prop} {x1 : Int} {σ : w_M}
    (h : (¬ (0 ≤ x1 ∧ x1 ≤ (σ 123 48)) → Q (some (.inl (-1))) σ) ∧ ((0 ≤ x1 ∧ x1 ≤ (σ 123 48)) → (p_Model_becomes 48 x1 σ ∧ (∀ (y1 : Int) (τ2 : w_M), q_Model_becomes 48 x1 σ y1 τ2 → Q (some (.inl y1)) τ2)))) : w_Call (xs, (d + 1)) 216 [.inr (.inr (9, 122)), .inl x1] σ Q :=
  (w_mk (mid := 216) (by decide) rfl rfl rfl rfl rfl (Nat.le_of_ble_eq_true rfl) ⟨rfl, Or.inl (by decide)⟩ (wi_iload1 fModel_forget_0 (wi_i2l fModel_forget_1 (wi_sipush fModel_forget_2 (wi_aload0 fModel_forget_3 (wi_getf900 fModel_forget_4 (wi_bipush fModel_forget_5 (wi_iald1246 fModel_forget_6 (by decide) (by decide) (wi_i2l fModel_forget_7 (wi_call3 fModel_forget_8 (Nat.le_of_ble_eq_true rfl) (k_Model_in (wi_ifb_eq fModel_forget_9 (fun c3 => (wi_bipush fModel_forget_15 (wi_ret1 fModel_forget_16 (h.1 c3)))) (fun c3 => (wi_aload0 fModel_forget_10 (wi_bipush fModel_forget_11 (wi_iload1 fModel_forget_12 (wi_call3 fModel_forget_13 (Nat.le_of_ble_eq_true rfl) (k_Model_becomes (h.2 c3).1 (fun y1 τ2 eτ2 => (wi_goto fModel_forget_14 (wi_ret1 fModel_forget_16 ((h.2 c3).2 y1 τ2 eτ2))))))))))))))))))))))
theorem fModel_pay_0 : w_fe am_c226 0 1 (.aload 0) := ⟨rfl, rfl⟩
theorem fModel_pay_1 : w_fe am_c226 1 2 (.iload 1) := ⟨rfl, rfl⟩
theorem fModel_pay_2 : w_fe am_c226 2 3 (.invokestatic 181) := ⟨rfl, rfl⟩
theorem fModel_pay_3 : w_if am_c226 3 4 .eq 10 := ⟨rfl, rfl⟩
theorem fModel_pay_4 : w_fe am_c226 4 5 (.iload 2) := ⟨rfl, rfl⟩
theorem fModel_pay_5 : w_fe am_c226 5 6 (.i2l) := ⟨rfl, rfl⟩
theorem fModel_pay_6 : w_fe am_c226 6 7 (.sipush 0) := ⟨rfl, rfl⟩
theorem fModel_pay_7 : w_fe am_c226 7 8 (.sipush 99) := ⟨rfl, rfl⟩
theorem fModel_pay_8 : w_fe am_c226 8 9 (.invokestatic 157) := ⟨rfl, rfl⟩
theorem fModel_pay_9 : w_if am_c226 9 10 .ne 12 := ⟨rfl, rfl⟩
theorem fModel_pay_10 : w_fe am_c226 10 11 (.bipush (-1)) := ⟨rfl, rfl⟩
theorem fModel_pay_11 : w_fe am_c226 11 12 (.ireturn) := ⟨rfl, rfl⟩
theorem fModel_pay_12 : w_fe am_c226 12 13 (.aload 0) := ⟨rfl, rfl⟩
theorem fModel_pay_13 : w_fe am_c226 13 14 (.getfield 900) := ⟨rfl, rfl⟩
theorem fModel_pay_14 : w_fe am_c226 14 15 (.bipush 73) := ⟨rfl, rfl⟩
theorem fModel_pay_15 : w_fe am_c226 15 16 (.iaload) := ⟨rfl, rfl⟩
theorem fModel_pay_16 : w_fe am_c226 16 17 (.bipush 4) := ⟨rfl, rfl⟩
theorem fModel_pay_17 : w_ic am_c226 17 18 .ne 20 := ⟨rfl, rfl⟩
theorem fModel_pay_18 : w_fe am_c226 18 19 (.bipush (-3)) := ⟨rfl, rfl⟩
theorem fModel_pay_19 : w_fe am_c226 19 20 (.ireturn) := ⟨rfl, rfl⟩
theorem fModel_pay_20 : w_fe am_c226 20 21 (.aload 0) := ⟨rfl, rfl⟩
theorem fModel_pay_21 : w_fe am_c226 21 22 (.getfield 900) := ⟨rfl, rfl⟩
theorem fModel_pay_22 : w_fe am_c226 22 23 (.bipush 74) := ⟨rfl, rfl⟩
theorem fModel_pay_23 : w_fe am_c226 23 24 (.bipush 2) := ⟨rfl, rfl⟩
theorem fModel_pay_24 : w_fe am_c226 24 25 (.aload 0) := ⟨rfl, rfl⟩
theorem fModel_pay_25 : w_fe am_c226 25 26 (.getfield 900) := ⟨rfl, rfl⟩
theorem fModel_pay_26 : w_fe am_c226 26 27 (.bipush 73) := ⟨rfl, rfl⟩
theorem fModel_pay_27 : w_fe am_c226 27 28 (.iaload) := ⟨rfl, rfl⟩
theorem fModel_pay_28 : w_fe am_c226 28 29 (.imul) := ⟨rfl, rfl⟩
theorem fModel_pay_29 : w_fe am_c226 29 30 (.iadd) := ⟨rfl, rfl⟩
theorem fModel_pay_30 : w_fe am_c226 30 31 (.iload 1) := ⟨rfl, rfl⟩
theorem fModel_pay_31 : w_fe am_c226 31 32 (.iastore) := ⟨rfl, rfl⟩
theorem fModel_pay_32 : w_fe am_c226 32 33 (.aload 0) := ⟨rfl, rfl⟩
theorem fModel_pay_33 : w_fe am_c226 33 34 (.getfield 900) := ⟨rfl, rfl⟩
theorem fModel_pay_34 : w_fe am_c226 34 35 (.bipush 74) := ⟨rfl, rfl⟩
theorem fModel_pay_35 : w_fe am_c226 35 36 (.bipush 2) := ⟨rfl, rfl⟩
theorem fModel_pay_36 : w_fe am_c226 36 37 (.aload 0) := ⟨rfl, rfl⟩
theorem fModel_pay_37 : w_fe am_c226 37 38 (.getfield 900) := ⟨rfl, rfl⟩
theorem fModel_pay_38 : w_fe am_c226 38 39 (.bipush 73) := ⟨rfl, rfl⟩
theorem fModel_pay_39 : w_fe am_c226 39 40 (.iaload) := ⟨rfl, rfl⟩
theorem fModel_pay_40 : w_fe am_c226 40 41 (.imul) := ⟨rfl, rfl⟩
theorem fModel_pay_41 : w_fe am_c226 41 42 (.iadd) := ⟨rfl, rfl⟩
theorem fModel_pay_42 : w_fe am_c226 42 43 (.bipush 1) := ⟨rfl, rfl⟩
theorem fModel_pay_43 : w_fe am_c226 43 44 (.iadd) := ⟨rfl, rfl⟩
theorem fModel_pay_44 : w_fe am_c226 44 45 (.iload 2) := ⟨rfl, rfl⟩
theorem fModel_pay_45 : w_fe am_c226 45 46 (.iastore) := ⟨rfl, rfl⟩
theorem fModel_pay_46 : w_fe am_c226 46 47 (.aload 0) := ⟨rfl, rfl⟩
theorem fModel_pay_47 : w_fe am_c226 47 48 (.getfield 900) := ⟨rfl, rfl⟩
theorem fModel_pay_48 : w_fe am_c226 48 49 (.bipush 73) := ⟨rfl, rfl⟩
theorem fModel_pay_49 : w_fe am_c226 49 50 (.dup2) := ⟨rfl, rfl⟩
theorem fModel_pay_50 : w_fe am_c226 50 51 (.iaload) := ⟨rfl, rfl⟩
theorem fModel_pay_51 : w_fe am_c226 51 52 (.bipush 1) := ⟨rfl, rfl⟩
theorem fModel_pay_52 : w_fe am_c226 52 53 (.iadd) := ⟨rfl, rfl⟩
theorem fModel_pay_53 : w_fe am_c226 53 54 (.iastore) := ⟨rfl, rfl⟩
theorem fModel_pay_54 : w_fe am_c226 54 55 (.aload 0) := ⟨rfl, rfl⟩
theorem fModel_pay_55 : w_fe am_c226 55 56 (.getfield 900) := ⟨rfl, rfl⟩
theorem fModel_pay_56 : w_fe am_c226 56 57 (.bipush 73) := ⟨rfl, rfl⟩
theorem fModel_pay_57 : w_fe am_c226 57 58 (.iaload) := ⟨rfl, rfl⟩
theorem fModel_pay_58 : w_fe am_c226 58 59 (.ireturn) := ⟨rfl, rfl⟩
set_option maxRecDepth 20000 in
theorem bModel_pay_0 {xs : List Int} {d : Nat} {Q : Option w_V → w_M → Prop} {x1 : Int} {x2 : Int} {σ : w_M}
    (h : p_Model_isReaper x1 σ ∧ ((¬ (0 ≤ x1 ∧ x1 < σ 122 5) → Q (some (.inl (-1))) σ) ∧ ((0 ≤ x1 ∧ x1 < σ 122 5) → (((0 ≤ x2 ∧ x2 ≤ 99) → ((¬ (σ 123 73) = 4 → (w_in (2 * (σ 123 73)) ∧ w_in (74 + (2 * (σ 123 73))) ∧ 0 ≤ (74 + (2 * (σ 123 73))) ∧ (74 + (2 * (σ 123 73))) < 246 ∧ (∀ (τ1 : w_M), τ1 = w_up σ 123 (74 + (2 * (σ 123 73))).toNat x1 → (w_in (2 * (τ1 123 73)) ∧ w_in (74 + (2 * (τ1 123 73))) ∧ w_in ((74 + (2 * (τ1 123 73))) + 1) ∧ 0 ≤ ((74 + (2 * (τ1 123 73))) + 1) ∧ ((74 + (2 * (τ1 123 73))) + 1) < 246 ∧ (∀ (τ2 : w_M), τ2 = w_up τ1 123 ((74 + (2 * (τ1 123 73))) + 1).toNat x2 → (w_in ((τ2 123 73) + 1) ∧ (∀ (τ3 : w_M), τ3 = w_up τ2 123 73 ((τ2 123 73) + 1) → Q (some (.inl (τ3 123 73))) τ3))))))) ∧ ((σ 123 73) = 4 → Q (some (.inl (-3))) σ))) ∧ (¬ (0 ≤ x2 ∧ x2 ≤ 99) → Q (some (.inl (-1))) σ))))) : w_Call (xs, (d + 2)) 226 [.inr (.inr (9, 122)), .inl x1, .inl x2] σ Q :=
  (w_mk (mid := 226) (by decide) rfl rfl rfl rfl rfl (Nat.le_of_ble_eq_true rfl) ⟨rfl, Or.inl (by decide)⟩ (wi_aload0 fModel_pay_0 (wi_iload1 fModel_pay_1 (wi_call2 fModel_pay_2 (Nat.le_of_ble_eq_true rfl) (k_Model_isReaper h.1 (wi_ifb_eq fModel_pay_3 (fun c6 => (wi_bipush fModel_pay_10 (wi_ret1 fModel_pay_11 (h.2.1 c6)))) (fun c6 => (wi_iload2 fModel_pay_4 (wi_i2l fModel_pay_5 (wi_sipush fModel_pay_6 (wi_sipush fModel_pay_7 (wi_call3 fModel_pay_8 (Nat.le_of_ble_eq_true rfl) (k_Model_in (wi_ifb_ne fModel_pay_9 (fun c5 => (wi_aload0 fModel_pay_12 (wi_getf900 fModel_pay_13 (wi_bipush fModel_pay_14 (wi_iald1246 fModel_pay_15 (by decide) (by decide) (wi_bipush fModel_pay_16 (wi_ic_ne fModel_pay_17 (fun c4 => (wi_aload0 fModel_pay_20 (wi_getf900 fModel_pay_21 (wi_bipush fModel_pay_22 (wi_bipush fModel_pay_23 (wi_aload0 fModel_pay_24 (wi_getf900 fModel_pay_25 (wi_bipush fModel_pay_26 (wi_iald1246 fModel_pay_27 (by decide) (by decide) (wi_imul fModel_pay_28 (((h.2.2 c6).1 c5).1 c4).1 (wi_iadd fModel_pay_29 (((h.2.2 c6).1 c5).1 c4).2.1 (wi_iload1 fModel_pay_30 (wi_iast1246 fModel_pay_31 (((h.2.2 c6).1 c5).1 c4).2.2.1 (((h.2.2 c6).1 c5).1 c4).2.2.2.1 (wi_aload0 fModel_pay_32 (wi_getf900 fModel_pay_33 (wi_bipush fModel_pay_34 (wi_bipush fModel_pay_35 (wi_aload0 fModel_pay_36 (wi_getf900 fModel_pay_37 (wi_bipush fModel_pay_38 (wi_iald1246 fModel_pay_39 (by decide) (by decide) (wi_imul fModel_pay_40 ((((h.2.2 c6).1 c5).1 c4).2.2.2.2 _ rfl).1 (wi_iadd fModel_pay_41 ((((h.2.2 c6).1 c5).1 c4).2.2.2.2 _ rfl).2.1 (wi_bipush fModel_pay_42 (wi_iadd fModel_pay_43 ((((h.2.2 c6).1 c5).1 c4).2.2.2.2 _ rfl).2.2.1 (wi_iload2 fModel_pay_44 (wi_iast1246 fModel_pay_45 ((((h.2.2 c6).1 c5).1 c4).2.2.2.2 _ rfl).2.2.2.1 ((((h.2.2 c6).1 c5).1 c4).2.2.2.2 _ rfl).2.2.2.2.1 (wi_aload0 fModel_pay_46 (wi_getf900 fModel_pay_47 (wi_bipush fModel_pay_48 (wi_dup2 fModel_pay_49 (wi_iald1246 fModel_pay_50 (by decide) (by decide) (wi_bipush fModel_pay_51 (wi_iadd fModel_pay_52 (((((h.2.2 c6).1 c5).1 c4).2.2.2.2 _ rfl).2.2.2.2.2 _ rfl).1 (wi_iast1246 fModel_pay_53 (by decide) (by decide) (wi_aload0 fModel_pay_54 (wi_getf900 fModel_pay_55 (wi_bipush fModel_pay_56 (wi_iald1246 fModel_pay_57 (by decide) (by decide) (wi_ret1 fModel_pay_58 ((((((h.2.2 c6).1 c5).1 c4).2.2.2.2 _ rfl).2.2.2.2.2 _ rfl).2 _ rfl))))))))))))))))))))))))))))))))))))))))) (fun c4 => (wi_bipush fModel_pay_18 (wi_ret1 fModel_pay_19 (((h.2.2 c6).1 c5).2 c4))))))))))) (fun c5 => (wi_bipush fModel_pay_10 (wi_ret1 fModel_pay_11 ((h.2.2 c6).2 c5))))))))))))))))))
theorem fModel_owe_0 : w_fe am_c227 0 1 (.iload 1) := ⟨rfl, rfl⟩
theorem fModel_owe_1 : w_fe am_c227 1 2 (.i2l) := ⟨rfl, rfl⟩
theorem fModel_owe_2 : w_fe am_c227 2 3 (.sipush 0) := ⟨rfl, rfl⟩
theorem fModel_owe_3 : w_fe am_c227 3 4 (.aload 0) := ⟨rfl, rfl⟩
theorem fModel_owe_4 : w_fe am_c227 4 5 (.getfield 900) := ⟨rfl, rfl⟩
theorem fModel_owe_5 : w_fe am_c227 5 6 (.bipush 73) := ⟨rfl, rfl⟩
theorem fModel_owe_6 : w_fe am_c227 6 7 (.iaload) := ⟨rfl, rfl⟩
theorem fModel_owe_7 : w_fe am_c227 7 8 (.i2l) := ⟨rfl, rfl⟩
theorem fModel_owe_8 : w_fe am_c227 8 9 (.invokestatic 157) := ⟨rfl, rfl⟩
theorem fModel_owe_9 : w_if am_c227 9 10 .eq 15 := ⟨rfl, rfl⟩
theorem fModel_owe_10 : w_fe am_c227 10 11 (.aload 0) := ⟨rfl, rfl⟩
theorem fModel_owe_11 : w_fe am_c227 11 12 (.bipush 73) := ⟨rfl, rfl⟩
theorem fModel_owe_12 : w_fe am_c227 12 13 (.iload 1) := ⟨rfl, rfl⟩
theorem fModel_owe_13 : w_fe am_c227 13 14 (.invokestatic 185) := ⟨rfl, rfl⟩
theorem fModel_owe_14 : w_gt am_c227 14 16 := rfl
theorem fModel_owe_15 : w_fe am_c227 15 16 (.bipush (-1)) := ⟨rfl, rfl⟩
theorem fModel_owe_16 : w_fe am_c227 16 17 (.ireturn) := ⟨rfl, rfl⟩
set_option maxRecDepth 20000 in
theorem bModel_owe_0 {xs : List Int} {d : Nat} {Q : Option w_V → w_M → Prop} {x1 : Int} {σ : w_M}
    (h : (¬ (0 ≤ x1 ∧ x1 ≤ (σ 123 73)) → Q (some (.inl (-1))) σ) ∧ ((0 ≤ x1 ∧ x1 ≤ (σ 123 73)) → (p_Model_becomes 73 x1 σ ∧ (∀ (y1 : Int) (τ2 : w_M), q_Model_becomes 73 x1 σ y1 τ2 → Q (some (.inl y1)) τ2)))) : w_Call (xs, (d + 1)) 227 [.inr (.inr (9, 122)), .inl x1] σ Q :=
  (w_mk (mid := 227) (by decide) rfl rfl rfl rfl rfl (Nat.le_of_ble_eq_true rfl) ⟨rfl, Or.inl (by decide)⟩ (wi_iload1 fModel_owe_0 (wi_i2l fModel_owe_1 (wi_sipush fModel_owe_2 (wi_aload0 fModel_owe_3 (wi_getf900 fModel_owe_4 (wi_bipush fModel_owe_5 (wi_iald1246 fModel_owe_6 (by decide) (by decide) (wi_i2l fModel_owe_7 (wi_call3 fModel_owe_8 (Nat.le_of_ble_eq_true rfl) (k_Model_in (wi_ifb_eq fModel_owe_9 (fun c3 => (wi_bipush fModel_owe_15 (wi_ret1 fModel_owe_16 (h.1 c3)))) (fun c3 => (wi_aload0 fModel_owe_10 (wi_bipush fModel_owe_11 (wi_iload1 fModel_owe_12 (wi_call3 fModel_owe_13 (Nat.le_of_ble_eq_true rfl) (k_Model_becomes (h.2 c3).1 (fun y1 τ2 eτ2 => (wi_goto fModel_owe_14 (wi_ret1 fModel_owe_16 ((h.2 c3).2 y1 τ2 eτ2))))))))))))))))))))))
theorem k_Model_see {xs : List Int} {d : Nat} {Q : Option w_V → w_M → Prop} {x1 : Int} {x2 : Int} {x3 : Int} {σ : w_M} (hp : p_Model_see x1 x2 x3 σ) (hQ : ∀ (x : Int) (σ' : w_M), q_Model_see x1 x2 x3 σ x σ' → Q (some (.inl x)) σ') : w_Call (xs, d + 2) 215 [.inr (.inr (9, 122)), .inl x1, .inl x2, .inl x3] σ Q := by
  obtain ⟨hM, hb⟩ := hp
  have hs := hM.s
  have h0 := hM.se
  unfold q_Model_see F_see G_see at hQ
  have e4 : mS σ 0 0 4 = σ 122 4 := rfl
  have e1 : mS σ 1 0 0 = σ 123 48 := rfl
  rw [e4, e1] at hQ
  have bad : ¬ ((0 ≤ x1 ∧ x1 ≤ 6) ∧ (0 ≤ x2 ∧ x2 < σ 122 4)) → Q (some (.inl (-1))) σ := fun h => by
    rw [if_neg h, if_neg (fun q => h q.1)] at hQ
    exact hQ _ _ (m_qr hM rfl)
  refine bModel_see_0 ⟨fun c => bad (fun q => c q.1), fun c => ⟨hs, fun c2 => ⟨fun c3 => ⟨⟨by omega, by omega⟩, ⟨by omega, by omega⟩, fun y1 ey => ⟨by omega, by omega, fun τ2 t2 => ⟨⟨by omega, by omega⟩, by omega, by omega, fun τ3 t3 => ⟨⟨by omega, by omega⟩, fun y4 e4 => ⟨by omega, by omega, fun τ5 t5 => ?_⟩⟩⟩⟩⟩, fun c3 => ?_⟩, fun c2 => bad (fun q => c2 q.2)⟩⟩
  · have c4 : σ 123 48 < 8 := by omega
    rw [if_pos ⟨c, c2⟩, if_pos c4, if_pos ⟨⟨c, c2⟩, c4⟩] at hQ
    have e4' : y4 = x3 := by rw [e4]; unfold v_Model_flag; rcases hb with rfl | rfl <;> rfl
    have z48 : τ5 123 48 = σ 123 48 := by rw [t5, w_up_j (by omega), t3, w_up_j (by omega), t2, w_up_j (by omega)]
    rw [z48]
    refine ⟨⟨by omega, by omega⟩, fun τ6 t6 => ?_⟩
    have e48 : τ6 123 48 = σ 123 48 + 1 := by rw [t6]; exact w_up_at
    refine hQ _ _ (m_q1 hM (by rw [t6, t5, t3, t2]; exact w_f1.up0.up.up.up) (fun x hx => ?_) ?_ (seAdd_WF hM.2.1 c4 c (by omega) hb) e48)
    · rw [t6, w_up_j (by omega), t5, w_up_j (by omega), t3, w_up_j (by omega), t2, w_up_j (by omega)]
    · show _ = seAdd (s_am σ 0) x1 x2 x3
      rw [s_am_g, s_am_g, show τ6 123 (0 + 48) = σ 123 48 + 1 from e48]
      refine g_ab_se h0.1 (fun d i h1 h2 h3 => ?_) ?_ ?_ ?_
      · have h3' : i < (σ 123 48).toNat := h3
        show τ6 123 (0 + 49 + 3 * i + (d - 1)) = σ 123 (0 + 49 + 3 * i + (d - 1))
        rw [t6, w_up_j (by omega), t5, w_up_j (by omega), t3, w_up_j (by omega), t2, w_up_j (by omega)]
      · show τ6 123 (0 + 49 + 3 * (σ 123 48).toNat + (1 - 1)) = x1
        rw [t6, w_up_j (by omega), t5, w_up_j (by omega), t3, w_up_j (by omega), t2, show 0 + 49 + 3 * (σ 123 48).toNat + (1 - 1) = y1.toNat by omega, w_up_at]
      · show τ6 123 (0 + 49 + 3 * (σ 123 48).toNat + (2 - 1)) = x2
        rw [t6, w_up_j (by omega), t5, w_up_j (by omega), t3, show 0 + 49 + 3 * (σ 123 48).toNat + (2 - 1) = (y1 + 1).toNat by omega, w_up_at]
      · show τ6 123 (0 + 49 + 3 * (σ 123 48).toNat + (3 - 1)) = x3
        rw [t6, w_up_j (by omega), t5, show 0 + 49 + 3 * (σ 123 48).toNat + (3 - 1) = (y1 + 2).toNat by omega, w_up_at, e4']
  · rw [if_pos ⟨c, c2⟩, if_neg (by omega), if_neg (by omega)] at hQ
    exact hQ _ _ (m_qr hM rfl)
theorem k_Model_forget {xs : List Int} {d : Nat} {Q : Option w_V → w_M → Prop} {x1 : Int} {σ : w_M} (hp : p_Model_forget x1 σ) (hQ : ∀ (x : Int) (σ' : w_M), q_Model_forget x1 σ x σ' → Q (some (.inl x)) σ') : w_Call (xs, d + 1) 216 [.inr (.inr (9, 122)), .inl x1] σ Q := by
  have hM : MI σ := hp
  have h0 := hM.se
  unfold q_Model_forget F_forget G_forget at hQ
  have e1 : mS σ 1 0 0 = σ 123 48 := rfl
  rw [e1] at hQ
  refine bModel_forget_0 ⟨fun c => ?_, fun c => ⟨⟨by decide, by decide⟩, fun y τ hq => ?_⟩⟩
  · rw [if_neg c, if_neg c] at hQ
    exact hQ _ _ (m_qr hM rfl)
  · rw [if_pos c, if_pos c] at hQ
    have t : τ = w_up σ 123 48 x1 := hq.2
    refine hQ _ _ (m_q1 hM (by rw [t]; exact w_f1.up0) (fun x hx => by rw [t, w_up_j (by omega)]) ?_ (r_cut_se hM.2.1 c) hq.1)
    show _ = r_cut (s_am σ 0) x1
    rw [s_am_g, s_am_g, show τ 123 (0 + 48) = x1 by rw [t]; exact w_up_at]
    exact g_ab_cut c (fun d i h1 h2 h3 => by show τ 123 (0 + 49 + 3 * i + (d - 1)) = σ 123 (0 + 49 + 3 * i + (d - 1)); rw [t, w_up_j (by omega)])
theorem k_Model_pay {xs : List Int} {d : Nat} {Q : Option w_V → w_M → Prop} {x1 : Int} {x2 : Int} {σ : w_M} (hp : p_Model_pay x1 x2 σ) (hQ : ∀ (x : Int) (σ' : w_M), q_Model_pay x1 x2 σ x σ' → Q (some (.inl x)) σ') : w_Call (xs, d + 2) 226 [.inr (.inr (9, 122)), .inl x1, .inl x2] σ Q := by
  have hM : MI σ := hp
  have h0 := hM.pa
  unfold q_Model_pay F_pay G_pay at hQ
  have e5 : mS σ 0 0 5 = σ 122 5 := rfl
  have e1 : mS σ 2 0 0 = σ 123 73 := rfl
  rw [e5, e1] at hQ
  have bad : ¬ ((0 ≤ x1 ∧ x1 < σ 122 5) ∧ (0 ≤ x2 ∧ x2 ≤ 99)) → Q (some (.inl (-1))) σ := fun h => by
    rw [if_neg h, if_neg (fun q => h q.1)] at hQ
    exact hQ _ _ (m_qr hM rfl)
  refine bModel_pay_0 ⟨hM.n, fun c => bad (fun q => c q.1), fun c => ⟨fun c2 => ⟨fun c3 => ⟨⟨by omega, by omega⟩, ⟨by omega, by omega⟩, by omega, by omega, fun τ1 t1 => ?_⟩, fun c3 => ?_⟩, fun c2 => bad (fun q => c2 q.2)⟩⟩
  · have c4 : σ 123 73 < 4 := by omega
    rw [if_pos ⟨c, c2⟩, if_pos c4, if_pos ⟨⟨c, c2⟩, c4⟩] at hQ
    have z1 : τ1 123 73 = σ 123 73 := by rw [t1, w_up_j (by omega)]
    rw [z1]
    refine ⟨⟨by omega, by omega⟩, ⟨by omega, by omega⟩, ⟨by omega, by omega⟩, by omega, by omega, fun τ2 t2 => ?_⟩
    have z2 : τ2 123 73 = σ 123 73 := by rw [t2, w_up_j (by omega)]; exact z1
    rw [z2]
    refine ⟨⟨by omega, by omega⟩, fun τ3 t3 => ?_⟩
    have e73 : τ3 123 73 = σ 123 73 + 1 := by rw [t3]; exact w_up_at
    refine hQ _ _ (m_q2 hM (by rw [t3, t2, t1]; exact w_f1.up0.up.up) (fun x hx => ?_) ?_ (paAdd_WF hM.2.2.1 c4 c c2) e73)
    · rw [t3, w_up_j (by omega), t2, w_up_j (by omega), t1, w_up_j (by omega)]
    · show _ = paAdd (c_am σ 0) x1 x2
      rw [c_am_g, c_am_g, show τ3 123 (0 + 73) = σ 123 73 + 1 from e73]
      refine g_ab_pa h0.1 (fun d i h1 h2 h3 => ?_) ?_ ?_
      · have h3' : i < (σ 123 73).toNat := h3
        show τ3 123 (0 + 74 + 2 * i + (d - 1)) = σ 123 (0 + 74 + 2 * i + (d - 1))
        rw [t3, w_up_j (by omega), t2, w_up_j (by omega), t1, w_up_j (by omega)]
      · show τ3 123 (0 + 74 + 2 * (σ 123 73).toNat + (1 - 1)) = x1
        rw [t3, w_up_j (by omega), t2, w_up_j (by omega), t1, show 0 + 74 + 2 * (σ 123 73).toNat + (1 - 1) = (74 + 2 * σ 123 73).toNat by omega, w_up_at]
      · show τ3 123 (0 + 74 + 2 * (σ 123 73).toNat + (2 - 1)) = x2
        rw [t3, w_up_j (by omega), t2, show 0 + 74 + 2 * (σ 123 73).toNat + (2 - 1) = (74 + 2 * σ 123 73 + 1).toNat by omega, w_up_at]
  · rw [if_pos ⟨c, c2⟩, if_neg (by omega), if_neg (by omega)] at hQ
    exact hQ _ _ (m_qr hM rfl)
theorem k_Model_owe {xs : List Int} {d : Nat} {Q : Option w_V → w_M → Prop} {x1 : Int} {σ : w_M} (hp : p_Model_owe x1 σ) (hQ : ∀ (x : Int) (σ' : w_M), q_Model_owe x1 σ x σ' → Q (some (.inl x)) σ') : w_Call (xs, d + 1) 227 [.inr (.inr (9, 122)), .inl x1] σ Q := by
  have hM : MI σ := hp
  have h0 := hM.pa
  unfold q_Model_owe F_owe G_owe at hQ
  have e1 : mS σ 2 0 0 = σ 123 73 := rfl
  rw [e1] at hQ
  refine bModel_owe_0 ⟨fun c => ?_, fun c => ⟨⟨by decide, by decide⟩, fun y τ hq => ?_⟩⟩
  · rw [if_neg c, if_neg c] at hQ
    exact hQ _ _ (m_qr hM rfl)
  · rw [if_pos c, if_pos c] at hQ
    have t : τ = w_up σ 123 73 x1 := hq.2
    refine hQ _ _ (m_q2 hM (by rw [t]; exact w_f1.up0) (fun x hx => by rw [t, w_up_j (by omega)]) ?_ (r_cut_pa hM.2.2.1 c) hq.1)
    show _ = r_cut (c_am σ 0) x1
    rw [c_am_g, c_am_g, show τ 123 (0 + 73) = x1 by rw [t]; exact w_up_at]
    exact g_ab_cut c (fun d i h1 h2 h3 => by show τ 123 (0 + 74 + 2 * i + (d - 1)) = σ 123 (0 + 74 + 2 * i + (d - 1)); rw [t, w_up_j (by omega)])
noncomputable def p_Model_copies (a b : Int) (_ : w_M) : Prop := (a = 0 ∧ (b = 82 ∨ b = 164)) ∨ (b = 0 ∧ (a = 82 ∨ a = 164))
noncomputable def q_Model_copies (a b : Int) (σ σ' : w_M) : Prop := w_f1 σ σ' 123 ∧ (∀ k, k < 82 → σ' 123 (a.toNat + k) = σ 123 (b.toNat + k)) ∧ (∀ x, x < a.toNat ∨ a.toNat + 82 ≤ x → σ' 123 x = σ 123 x)
theorem fModel_copies_0 : w_fe am_c231 0 1 (.bipush 0) := ⟨rfl, rfl⟩
theorem fModel_copies_1 : w_fe am_c231 1 2 (.istore 3) := ⟨rfl, rfl⟩
theorem fModel_copies_2 : w_fe am_c231 2 3 (.iload 3) := ⟨rfl, rfl⟩
theorem fModel_copies_3 : w_fe am_c231 3 4 (.bipush 82) := ⟨rfl, rfl⟩
theorem fModel_copies_4 : w_ic am_c231 4 5 .ge 19 := ⟨rfl, rfl⟩
theorem fModel_copies_5 : w_fe am_c231 5 6 (.aload 0) := ⟨rfl, rfl⟩
theorem fModel_copies_6 : w_fe am_c231 6 7 (.getfield 900) := ⟨rfl, rfl⟩
theorem fModel_copies_7 : w_fe am_c231 7 8 (.iload 1) := ⟨rfl, rfl⟩
theorem fModel_copies_8 : w_fe am_c231 8 9 (.iload 3) := ⟨rfl, rfl⟩
theorem fModel_copies_9 : w_fe am_c231 9 10 (.iadd) := ⟨rfl, rfl⟩
theorem fModel_copies_10 : w_fe am_c231 10 11 (.aload 0) := ⟨rfl, rfl⟩
theorem fModel_copies_11 : w_fe am_c231 11 12 (.getfield 900) := ⟨rfl, rfl⟩
theorem fModel_copies_12 : w_fe am_c231 12 13 (.iload 2) := ⟨rfl, rfl⟩
theorem fModel_copies_13 : w_fe am_c231 13 14 (.iload 3) := ⟨rfl, rfl⟩
theorem fModel_copies_14 : w_fe am_c231 14 15 (.iadd) := ⟨rfl, rfl⟩
theorem fModel_copies_15 : w_fe am_c231 15 16 (.iaload) := ⟨rfl, rfl⟩
theorem fModel_copies_16 : w_fe am_c231 16 17 (.iastore) := ⟨rfl, rfl⟩
theorem fModel_copies_17 : w_fe am_c231 17 18 (.iinc 3 1) := ⟨rfl, rfl⟩
theorem fModel_copies_18 : w_gt am_c231 18 2 := rfl
theorem fModel_copies_19 : w_fe am_c231 19 20 (.return_) := ⟨rfl, rfl⟩
noncomputable def LModel_copies_2 (xs : List Int) (d : Nat) (Q : Option w_V → w_M → Prop) (v1 : Int) (v2 : Int) (v3 : Int) (σ : w_M) : Prop := w_Ex (xs, d) 0 am_c231 Q 2 [some (.inr (.inr (9, 122))), some (.inl v1), some (.inl v2), some (.inl v3)] [] σ
set_option maxRecDepth 20000 in
theorem bModel_copies_0 {xs : List Int} {d : Nat} {Q : Option w_V → w_M → Prop} {x1 : Int} {x2 : Int} {σ : w_M}
    (h : LModel_copies_2 xs d Q x1 x2 0 σ) : w_Call (xs, d) 231 [.inr (.inr (9, 122)), .inl x1, .inl x2] σ Q :=
  (w_mk (mid := 231) (by decide) rfl rfl rfl rfl rfl (Nat.le_of_ble_eq_true rfl) ⟨rfl, Or.inl (by decide)⟩ (wi_bipush fModel_copies_0 (wi_istore3 fModel_copies_1 trivial h)))
set_option maxRecDepth 20000 in
theorem bModel_copies_2 {xs : List Int} {d : Nat} {Q : Option w_V → w_M → Prop} {v1 : Int} {v2 : Int} {v3 : Int} {σ : w_M}
    (h : (82 ≤ v3 → Q none σ) ∧ (v3 < 82 → (w_in (v1 + v3) ∧ w_in (v2 + v3) ∧ 0 ≤ (v2 + v3) ∧ (v2 + v3) < 246 ∧ 0 ≤ (v1 + v3) ∧ (v1 + v3) < 246 ∧ (∀ (τ1 : w_M), τ1 = w_up σ 123 (v1 + v3).toNat (σ 123 (v2 + v3).toNat) → (w_in (v3 + 1) ∧ LModel_copies_2 xs d Q v1 v2 (v3 + 1) τ1))))) : LModel_copies_2 xs d Q v1 v2 v3 σ :=
  (wi_iload3 fModel_copies_2 (wi_bipush fModel_copies_3 (wi_ic_ge fModel_copies_4 (fun c2 => (wi_ret0 fModel_copies_19 (h.1 c2))) (fun c2 => (wi_aload0 fModel_copies_5 (wi_getf900 fModel_copies_6 (wi_iload1 fModel_copies_7 (wi_iload3 fModel_copies_8 (wi_iadd fModel_copies_9 (h.2 c2).1 (wi_aload0 fModel_copies_10 (wi_getf900 fModel_copies_11 (wi_iload2 fModel_copies_12 (wi_iload3 fModel_copies_13 (wi_iadd fModel_copies_14 (h.2 c2).2.1 (wi_iald1246 fModel_copies_15 (h.2 c2).2.2.1 (h.2 c2).2.2.2.1 (wi_iast1246 fModel_copies_16 (h.2 c2).2.2.2.2.1 (h.2 c2).2.2.2.2.2.1 (wi_iinc3 fModel_copies_17 trivial ((h.2 c2).2.2.2.2.2.2 _ rfl).1 (wi_goto fModel_copies_18 ((h.2 c2).2.2.2.2.2.2 _ rfl).2))))))))))))))))))
theorem k_Model_copies {xs : List Int} {d : Nat} {Q : Option w_V → w_M → Prop} {x1 : Int} {x2 : Int} {σ : w_M} (hp : p_Model_copies x1 x2 σ) (hQ : ∀ σ' : w_M, q_Model_copies x1 x2 σ σ' → Q none σ') : w_Call (xs, d) 231 [.inr (.inr (9, 122)), .inl x1, .inl x2] σ Q := by
  unfold p_Model_copies at hp
  refine bModel_copies_0 ?_
  refine (w_loop (n := 82) (P := fun k => ∀ τ : w_M, w_f1 σ τ 123 → (∀ j, j < k → τ 123 (x1.toNat + j) = σ 123 (x2.toNat + j)) → (∀ x, x < x1.toNat ∨ x1.toNat + k ≤ x → τ 123 x = σ 123 x) → LModel_copies_2 xs d Q x1 x2 (k : Int) τ) ?_ ?_) σ w_f1.rfl' (fun j hj => by omega) (fun x hx => rfl)
  · intro τ F h1 h2
    exact bModel_copies_2 ⟨fun _ => hQ _ ⟨F, h1, h2⟩, fun h => by omega⟩
  · intro k hk ih τ F h1 h2
    refine bModel_copies_2 ⟨fun h => by omega, fun h => ⟨⟨by omega, by omega⟩, ⟨by omega, by omega⟩, by omega, by omega, by omega, by omega, fun τ1 t1 => ⟨⟨by omega, by omega⟩, ?_⟩⟩⟩
    rw [← w_cs1]
    have ea : (x1 + (k : Int)).toNat = x1.toNat + k := by omega
    have eb : (x2 + (k : Int)).toNat = x2.toNat + k := by omega
    rw [ea, eb, h2 (x2.toNat + k) (by omega)] at t1
    refine ih τ1 (by rw [t1]; exact F.up) (fun j hj => ?_) (fun x hx => by rw [t1, w_up_j (by omega)]; exact h2 x (by omega))
    by_cases hjk : j = k
    · rw [hjk, t1, w_up_at]
    · rw [t1, w_up_j (by omega)]
      exact h1 j (by omega)
theorem w_am_sh {σ τ : w_M} {o o' : Nat} (hsm : m_sm σ) (h122 : τ 122 = σ 122) (h : ∀ x, x < 48 → τ 123 (o + x) = σ 123 (o' + x)) : w_am τ 123 o = w_am σ 123 o' := by
  have hr : ∀ k, m_rl τ k = m_rl σ k := fun k => by unfold m_rl; rw [h122]
  funext k j
  unfold w_am
  rw [h122, hr, h 42 (by decide), h 41 (by decide), h 47 (by decide)]
  by_cases hj : j < m_rl σ k
  · obtain ⟨k10, j7, jL⟩ := m_rl_d hsm hj
    have := (m_ix_sc k k10 j j7 jL).2.2.2
    rw [if_pos hj, if_pos hj, h _ (by omega)]
  · rw [if_neg hj, if_neg hj]
theorem s_am_sh {σ τ : w_M} {o o' : Nat} (hc : σ 123 (o' + 48) ≤ 8) (h : ∀ x, x < 82 → τ 123 (o + x) = σ 123 (o' + x)) : s_am τ o = s_am σ o' := by
  rw [s_am_g, s_am_g]
  refine g_ab_congr (h 48 (by decide)) (fun d i h1 h2 h3 => ?_)
  have := h (49 + 3 * i + (d - 1)) (by omega)
  show τ 123 (o + 49 + 3 * i + (d - 1)) = σ 123 (o' + 49 + 3 * i + (d - 1))
  rw [show o + 49 + 3 * i + (d - 1) = o + (49 + 3 * i + (d - 1)) by omega, show o' + 49 + 3 * i + (d - 1) = o' + (49 + 3 * i + (d - 1)) by omega]
  exact this
theorem c_am_sh {σ τ : w_M} {o o' : Nat} (hc : σ 123 (o' + 73) ≤ 4) (h : ∀ x, x < 82 → τ 123 (o + x) = σ 123 (o' + x)) : c_am τ o = c_am σ o' := by
  rw [c_am_g, c_am_g]
  refine g_ab_congr (h 73 (by decide)) (fun d i h1 h2 h3 => ?_)
  have := h (74 + 2 * i + (d - 1)) (by omega)
  show τ 123 (o + 74 + 2 * i + (d - 1)) = σ 123 (o' + 74 + 2 * i + (d - 1))
  rw [show o + 74 + 2 * i + (d - 1) = o + (74 + 2 * i + (d - 1)) by omega, show o' + 74 + 2 * i + (d - 1) = o' + (74 + 2 * i + (d - 1)) by omega]
  exact this
theorem mS_11 {σ : w_M} {k : Nat} (hk : k < 2) : mS σ 11 0 k = σ 125 k := by
  show (if 0 = 0 ∧ k < 2 then σ 125 k else 0) = _
  rw [if_pos ⟨rfl, hk⟩]
theorem MI.k01 {σ : w_M} (h : MI σ) {k : Nat} (hk : k = 0 ∨ k = 1) : σ 125 k = 0 ∨ σ 125 k = 1 := by
  rcases hk with rfl | rfl
  · exact h.2.2.2.2.2.1
  · exact h.2.2.2.2.2.2.1
noncomputable def p_Model_keep (_x1 : Int) (σ : w_M) : Prop := MI σ
noncomputable def q_Model_keep (x1 : Int) (σ : w_M) (x : Int) (σ' : w_M) : Prop := m_q (F_keep (mS σ) x1) (G_keep (mS σ) x1) σ x σ'
theorem fModel_keep_0 : w_fe am_c230 0 1 (.iload 1) := ⟨rfl, rfl⟩
theorem fModel_keep_1 : w_fe am_c230 1 2 (.i2l) := ⟨rfl, rfl⟩
theorem fModel_keep_2 : w_fe am_c230 2 3 (.sipush 0) := ⟨rfl, rfl⟩
theorem fModel_keep_3 : w_fe am_c230 3 4 (.sipush 1) := ⟨rfl, rfl⟩
theorem fModel_keep_4 : w_fe am_c230 4 5 (.invokestatic 157) := ⟨rfl, rfl⟩
theorem fModel_keep_5 : w_if am_c230 5 6 .ne 8 := ⟨rfl, rfl⟩
theorem fModel_keep_6 : w_fe am_c230 6 7 (.bipush (-1)) := ⟨rfl, rfl⟩
theorem fModel_keep_7 : w_fe am_c230 7 8 (.ireturn) := ⟨rfl, rfl⟩
theorem fModel_keep_8 : w_fe am_c230 8 9 (.aload 0) := ⟨rfl, rfl⟩
theorem fModel_keep_9 : w_fe am_c230 9 10 (.getfield 902) := ⟨rfl, rfl⟩
theorem fModel_keep_10 : w_fe am_c230 10 11 (.iload 1) := ⟨rfl, rfl⟩
theorem fModel_keep_11 : w_fe am_c230 11 12 (.baload) := ⟨rfl, rfl⟩
theorem fModel_keep_12 : w_fe am_c230 12 13 (.invokestatic 179) := ⟨rfl, rfl⟩
theorem fModel_keep_13 : w_fe am_c230 13 14 (.istore 2) := ⟨rfl, rfl⟩
theorem fModel_keep_14 : w_fe am_c230 14 15 (.aload 0) := ⟨rfl, rfl⟩
theorem fModel_keep_15 : w_fe am_c230 15 16 (.getfield 902) := ⟨rfl, rfl⟩
theorem fModel_keep_16 : w_fe am_c230 16 17 (.iload 1) := ⟨rfl, rfl⟩
theorem fModel_keep_17 : w_fe am_c230 17 18 (.bipush 1) := ⟨rfl, rfl⟩
theorem fModel_keep_18 : w_fe am_c230 18 19 (.bastore) := ⟨rfl, rfl⟩
theorem fModel_keep_19 : w_fe am_c230 19 20 (.aload 0) := ⟨rfl, rfl⟩
theorem fModel_keep_20 : w_fe am_c230 20 21 (.bipush 82) := ⟨rfl, rfl⟩
theorem fModel_keep_21 : w_fe am_c230 21 22 (.iload 1) := ⟨rfl, rfl⟩
theorem fModel_keep_22 : w_fe am_c230 22 23 (.bipush 1) := ⟨rfl, rfl⟩
theorem fModel_keep_23 : w_fe am_c230 23 24 (.iadd) := ⟨rfl, rfl⟩
theorem fModel_keep_24 : w_fe am_c230 24 25 (.imul) := ⟨rfl, rfl⟩
theorem fModel_keep_25 : w_fe am_c230 25 26 (.bipush 0) := ⟨rfl, rfl⟩
theorem fModel_keep_26 : w_fe am_c230 26 27 (.invokestatic 231) := ⟨rfl, rfl⟩
theorem fModel_keep_27 : w_fe am_c230 27 28 (.iload 2) := ⟨rfl, rfl⟩
theorem fModel_keep_28 : w_fe am_c230 28 29 (.ireturn) := ⟨rfl, rfl⟩
set_option maxRecDepth 20000 in
theorem bModel_keep_0 {xs : List Int} {d : Nat} {Q : Option w_V → w_M → Prop} {x1 : Int} {σ : w_M}
    (h : ((0 ≤ x1 ∧ x1 ≤ 1) → (0 ≤ x1 ∧ x1 < 2 ∧ (∀ (y1 : Int), y1 = v_Model_flag (σ 125 x1.toNat) → ∀ (τ2 : w_M), τ2 = w_up σ 125 x1.toNat 1 → (w_in (x1 + 1) ∧ w_in (82 * (x1 + 1)) ∧ p_Model_copies (82 * (x1 + 1)) 0 τ2 ∧ (∀ (τ3 : w_M), q_Model_copies (82 * (x1 + 1)) 0 τ2 τ3 → Q (some (.inl y1)) τ3))))) ∧ (¬ (0 ≤ x1 ∧ x1 ≤ 1) → Q (some (.inl (-1))) σ)) : w_Call (xs, (d + 1)) 230 [.inr (.inr (9, 122)), .inl x1] σ Q :=
  (w_mk (mid := 230) (by decide) rfl rfl rfl rfl rfl (Nat.le_of_ble_eq_true rfl) ⟨rfl, Or.inl (by decide)⟩ (wi_iload1 fModel_keep_0 (wi_i2l fModel_keep_1 (wi_sipush fModel_keep_2 (wi_sipush fModel_keep_3 (wi_call3 fModel_keep_4 (Nat.le_of_ble_eq_true rfl) (k_Model_in (wi_ifb_ne fModel_keep_5 (fun c4 => (wi_aload0 fModel_keep_8 (wi_getf902 fModel_keep_9 (wi_iload1 fModel_keep_10 (wi_bald3002 fModel_keep_11 (h.1 c4).1 (h.1 c4).2.1 (wi_call1 fModel_keep_12 (Nat.le_of_ble_eq_true rfl) (k_Model_flag (wi_istore2 fModel_keep_13 trivial (wi_aload0 fModel_keep_14 (wi_getf902 fModel_keep_15 (wi_iload1 fModel_keep_16 (wi_bipush fModel_keep_17 (wi_bast3002 fModel_keep_18 (by decide) (h.1 c4).1 (h.1 c4).2.1 (wi_aload0 fModel_keep_19 (wi_bipush fModel_keep_20 (wi_iload1 fModel_keep_21 (wi_bipush fModel_keep_22 (wi_iadd fModel_keep_23 (((h.1 c4).2.2 _ rfl) _ rfl).1 (wi_imul fModel_keep_24 (((h.1 c4).2.2 _ rfl) _ rfl).2.1 (wi_bipush fModel_keep_25 (wi_call3 fModel_keep_26 (Nat.le_of_ble_eq_true rfl) (k_Model_copies (((h.1 c4).2.2 _ rfl) _ rfl).2.2.1 (fun τ3 eτ3 => (wi_iload2 fModel_keep_27 (wi_ret1 fModel_keep_28 ((((h.1 c4).2.2 _ rfl) _ rfl).2.2.2 τ3 eτ3)))))))))))))))))))))))))) (fun c4 => (wi_bipush fModel_keep_6 (wi_ret1 fModel_keep_7 (h.2 c4))))))))))))
set_option maxHeartbeats 1000000 in
theorem k_Model_keep {xs : List Int} {d : Nat} {Q : Option w_V → w_M → Prop} {x1 : Int} {σ : w_M} (hp : p_Model_keep x1 σ) (hQ : ∀ (x : Int) (σ' : w_M), q_Model_keep x1 σ x σ' → Q (some (.inl x)) σ') : w_Call (xs, d + 1) 230 [.inr (.inr (9, 122)), .inl x1] σ Q := by
  have hM : MI σ := hp
  unfold q_Model_keep F_keep G_keep at hQ
  refine bModel_keep_0 ⟨fun c => ⟨c.1, by omega, fun y1 e1 τ2 t2 => ⟨⟨by omega, by omega⟩, ⟨by omega, by omega⟩, ?_, fun τ3 q3 => ?_⟩⟩, fun c => ?_⟩
  · unfold p_Model_copies; omega
  · rw [if_pos c, if_pos c] at hQ
    obtain ⟨k, rfl⟩ := Int.eq_ofNat_of_zero_le c.1
    have hk : k = 0 ∨ k = 1 := by omega
    rw [Int.toNat_natCast] at hQ e1 t2
    obtain ⟨F, h1, h2⟩ := q3
    have ek : (82 * ((k : Int) + 1)).toNat = 82 + 82 * k := by omega
    have e0 : (0 : Int).toNat = 0 := rfl
    rw [ek, e0] at h1
    rw [ek] at h2
    have z2 : ∀ b, b ≠ 125 → τ2 b = σ b := fun b hb => by rw [t2, w_up_ne hb]
    have z3 : ∀ b, b ≠ 123 → b ≠ 125 → τ3 b = σ b := fun b h1 h2 => by rw [F b h1, z2 b h2]
    have h123 := z2 123 (by decide)
    rw [h123] at h1 h2
    have kb : ∀ j, τ3 125 j = if j = k then 1 else σ 125 j := fun j => by
      rw [F 125 (by decide), t2, w_up_eq]
      by_cases hj : j = k
      · rw [if_pos ⟨rfl, hj⟩, if_pos hj]
      · rw [if_neg (fun e => hj e.2), if_neg hj]
    have z122 := z3 122 (by decide) (by decide)
    have e122 : τ3 122 3 = σ 122 3 ∧ τ3 122 4 = σ 122 4 ∧ τ3 122 5 = σ 122 5 := by rw [z122]; exact ⟨rfl, rfl, rfl⟩
    have lo : ∀ x, x < 82 → τ3 123 x = σ 123 x := fun x hx => h2 x (by omega)
    have A1 : w_am τ3 123 (82 + 82 * k) = w_am σ 123 0 := w_am_sh hM.sm z122 (fun x hx => h1 x (by omega))
    have A2 : s_am τ3 (82 + 82 * k) = s_am σ 0 := s_am_sh hM.se.2 h1
    have A3 : c_am τ3 (82 + 82 * k) = c_am σ 0 := c_am_sh hM.pa.2 h1
    have kb0 := kb 0
    have kb1 := kb 1
    have hS : mS τ3 = im_set (mS σ) k := by
      refine cS_ext ?_ ?_ ?_ ?_ ?_ (fun p hp => ?_)
      · show w_am τ3 123 0 = _
        rw [w_am_frx hM.sm e122 (fun x _ hx => lo x (by omega))]
        rcases hk with rfl | rfl <;> rfl
      · show s_am τ3 0 = _
        rw [s_am_fr (fun x _ hx => lo x (by omega)) hM.se.2]
        rcases hk with rfl | rfl <;> rfl
      · show c_am τ3 0 = _
        rw [c_am_fr (fun x _ hx => lo x (by omega)) hM.pa.2]
        rcases hk with rfl | rfl <;> rfl
      · show t_am τ3 = _
        rw [t_am_fr (by rw [z122]) (by rw [z122]) (z3 127 (by decide) (by decide))]
        rcases hk with rfl | rfl <;> rfl
      · show h_am τ3 = _
        rw [h_am_fr (fun b h1 h2 => z3 b (by omega) (by omega))]
        rcases hk with rfl | rfl <;> rfl
      · have i0 := hM.2.2.2.2.2.2.2.1
        have i1 := hM.2.2.2.2.2.2.2.2
        rcases hk with rfl | rfl
        · rw [if_pos rfl] at kb0
          rw [if_neg (by decide)] at kb1
          have hi : ∀ x, 164 ≤ x → τ3 123 x = σ 123 x := fun x hx => h2 x (by omega)
          match p, hp with
          | 5, _ => simp only [mS]; rw [kb0, if_pos rfl]; exact A1
          | 6, _ => simp only [mS]; rw [kb0, if_pos rfl]; exact A2
          | 7, _ => simp only [mS]; rw [kb0, if_pos rfl]; exact A3
          | 8, _ =>
            show (if τ3 125 1 = 1 then w_am τ3 123 164 else w_0) = (if σ 125 1 = 1 then w_am σ 123 164 else w_0)
            rw [kb1, w_am_frx hM.sm e122 (fun x h1 _ => hi x h1)]
          | 9, _ =>
            show (if τ3 125 1 = 1 then s_am τ3 164 else w_0) = (if σ 125 1 = 1 then s_am σ 164 else w_0)
            rw [kb1]
            by_cases hkk : σ 125 1 = 1
            · have hw := (i1 hkk).2.2.1.1.2
              simp only [mS] at hw
              rw [if_pos hkk] at hw
              rw [if_pos hkk, if_pos hkk, s_am_fr (fun x h1 _ => hi x (by omega)) hw]
            · rw [if_neg hkk, if_neg hkk]
          | 10, _ =>
            show (if τ3 125 1 = 1 then c_am τ3 164 else w_0) = (if σ 125 1 = 1 then c_am σ 164 else w_0)
            rw [kb1]
            by_cases hkk : σ 125 1 = 1
            · have hw := (i1 hkk).2.2.2.1.2
              simp only [mS] at hw
              rw [if_pos hkk] at hw
              rw [if_pos hkk, if_pos hkk, c_am_fr (fun x h1 _ => hi x (by omega)) hw]
            · rw [if_neg hkk, if_neg hkk]
          | 11, _ =>
            show (fun d i => if d = 0 ∧ i < 2 then τ3 125 i else 0) = w_up (fun d i => if d = 0 ∧ i < 2 then σ 125 i else 0) 0 0 1
            funext d i
            rw [w_up_eq]
            by_cases hd : d = 0 ∧ i < 2
            · rw [if_pos hd, if_pos hd, kb i]
              by_cases hi : i = 0
              · rw [if_pos hi, if_pos ⟨hd.1, hi⟩]
              · rw [if_neg hi, if_neg (fun e => hi e.2)]
            · rw [if_neg hd, if_neg hd, if_neg (fun e => hd ⟨e.1, by omega⟩)]
          | p + 12, _ => exact (show mS τ3 (p + 12) = w_0 from rfl).trans (show im_set (mS σ) 0 (p + 12) = w_0 by unfold im_set; rw [w_sp_ne (by omega), w_sp_ne (by omega), w_sp_ne (by omega), w_sp_ne (by omega)]; rfl).symm
        · rw [if_neg (by decide)] at kb0
          rw [if_pos rfl] at kb1
          have hi : ∀ x, x < 164 → τ3 123 x = σ 123 x := fun x hx => h2 x (by omega)
          match p, hp with
          | 5, _ =>
            show (if τ3 125 0 = 1 then w_am τ3 123 82 else w_0) = (if σ 125 0 = 1 then w_am σ 123 82 else w_0)
            rw [kb0, w_am_frx hM.sm e122 (fun x _ h1 => hi x (by omega))]
          | 6, _ =>
            show (if τ3 125 0 = 1 then s_am τ3 82 else w_0) = (if σ 125 0 = 1 then s_am σ 82 else w_0)
            rw [kb0]
            by_cases hkk : σ 125 0 = 1
            · have hw := (i0 hkk).2.2.1.1.2
              simp only [mS] at hw
              rw [if_pos hkk] at hw
              rw [if_pos hkk, if_pos hkk, s_am_fr (fun x _ h1 => hi x (by omega)) hw]
            · rw [if_neg hkk, if_neg hkk]
          | 7, _ =>
            show (if τ3 125 0 = 1 then c_am τ3 82 else w_0) = (if σ 125 0 = 1 then c_am σ 82 else w_0)
            rw [kb0]
            by_cases hkk : σ 125 0 = 1
            · have hw := (i0 hkk).2.2.2.1.2
              simp only [mS] at hw
              rw [if_pos hkk] at hw
              rw [if_pos hkk, if_pos hkk, c_am_fr (fun x _ h1 => hi x (by omega)) hw]
            · rw [if_neg hkk, if_neg hkk]
          | 8, _ => simp only [mS]; rw [kb1, if_pos rfl]; exact A1
          | 9, _ => simp only [mS]; rw [kb1, if_pos rfl]; exact A2
          | 10, _ => simp only [mS]; rw [kb1, if_pos rfl]; exact A3
          | 11, _ =>
            show (fun d i => if d = 0 ∧ i < 2 then τ3 125 i else 0) = w_up (fun d i => if d = 0 ∧ i < 2 then σ 125 i else 0) 0 1 1
            funext d i
            rw [w_up_eq]
            by_cases hd : d = 0 ∧ i < 2
            · rw [if_pos hd, if_pos hd, kb i]
              by_cases hi : i = 1
              · rw [if_pos hi, if_pos ⟨hd.1, hi⟩]
              · rw [if_neg hi, if_neg (fun e => hi e.2)]
            · rw [if_neg hd, if_neg hd, if_neg (fun e => hd ⟨e.1, by omega⟩)]
          | p + 12, _ => exact (show mS τ3 (p + 12) = w_0 from rfl).trans (show im_set (mS σ) 1 (p + 12) = w_0 by unfold im_set; rw [w_sp_ne (by omega), w_sp_ne (by omega), w_sp_ne (by omega), w_sp_ne (by omega)]; rfl).symm
    refine hQ _ _ ⟨?_, by unfold MI; rw [hS]; exact sWF_im hM hk, hS, fun b hb => z3 b (by omega) (by omega), by rw [z122]⟩
    rw [e1, mS_11 (by omega)]
    unfold v_Model_flag
    rcases hM.k01 hk with h | h <;> rw [h] <;> rfl
  · rw [if_neg c, if_neg c] at hQ
    exact hQ _ _ (m_qr hM rfl)
noncomputable def p_Model_back (_x1 : Int) (σ : w_M) : Prop := MI σ
noncomputable def q_Model_back (x1 : Int) (σ : w_M) (x : Int) (σ' : w_M) : Prop := m_q (F_back (mS σ) x1) (G_back (mS σ) x1) σ x σ'
theorem fModel_back_0 : w_fe am_c232 0 1 (.iload 1) := ⟨rfl, rfl⟩
theorem fModel_back_1 : w_fe am_c232 1 2 (.i2l) := ⟨rfl, rfl⟩
theorem fModel_back_2 : w_fe am_c232 2 3 (.sipush 0) := ⟨rfl, rfl⟩
theorem fModel_back_3 : w_fe am_c232 3 4 (.sipush 1) := ⟨rfl, rfl⟩
theorem fModel_back_4 : w_fe am_c232 4 5 (.invokestatic 157) := ⟨rfl, rfl⟩
theorem fModel_back_5 : w_if am_c232 5 6 .ne 8 := ⟨rfl, rfl⟩
theorem fModel_back_6 : w_fe am_c232 6 7 (.bipush (-1)) := ⟨rfl, rfl⟩
theorem fModel_back_7 : w_fe am_c232 7 8 (.ireturn) := ⟨rfl, rfl⟩
theorem fModel_back_8 : w_fe am_c232 8 9 (.aload 0) := ⟨rfl, rfl⟩
theorem fModel_back_9 : w_fe am_c232 9 10 (.getfield 902) := ⟨rfl, rfl⟩
theorem fModel_back_10 : w_fe am_c232 10 11 (.iload 1) := ⟨rfl, rfl⟩
theorem fModel_back_11 : w_fe am_c232 11 12 (.baload) := ⟨rfl, rfl⟩
theorem fModel_back_12 : w_if am_c232 12 13 .ne 15 := ⟨rfl, rfl⟩
theorem fModel_back_13 : w_fe am_c232 13 14 (.bipush (-2)) := ⟨rfl, rfl⟩
theorem fModel_back_14 : w_fe am_c232 14 15 (.ireturn) := ⟨rfl, rfl⟩
theorem fModel_back_15 : w_fe am_c232 15 16 (.aload 0) := ⟨rfl, rfl⟩
theorem fModel_back_16 : w_fe am_c232 16 17 (.bipush 0) := ⟨rfl, rfl⟩
theorem fModel_back_17 : w_fe am_c232 17 18 (.bipush 82) := ⟨rfl, rfl⟩
theorem fModel_back_18 : w_fe am_c232 18 19 (.iload 1) := ⟨rfl, rfl⟩
theorem fModel_back_19 : w_fe am_c232 19 20 (.bipush 1) := ⟨rfl, rfl⟩
theorem fModel_back_20 : w_fe am_c232 20 21 (.iadd) := ⟨rfl, rfl⟩
theorem fModel_back_21 : w_fe am_c232 21 22 (.imul) := ⟨rfl, rfl⟩
theorem fModel_back_22 : w_fe am_c232 22 23 (.invokestatic 231) := ⟨rfl, rfl⟩
theorem fModel_back_23 : w_fe am_c232 23 24 (.aload 0) := ⟨rfl, rfl⟩
theorem fModel_back_24 : w_fe am_c232 24 25 (.getfield 900) := ⟨rfl, rfl⟩
theorem fModel_back_25 : w_fe am_c232 25 26 (.bipush 42) := ⟨rfl, rfl⟩
theorem fModel_back_26 : w_fe am_c232 26 27 (.iaload) := ⟨rfl, rfl⟩
theorem fModel_back_27 : w_fe am_c232 27 28 (.ireturn) := ⟨rfl, rfl⟩
set_option maxRecDepth 20000 in
theorem bModel_back_0 {xs : List Int} {d : Nat} {Q : Option w_V → w_M → Prop} {x1 : Int} {σ : w_M}
    (h : ((0 ≤ x1 ∧ x1 ≤ 1) → (0 ≤ x1 ∧ x1 < 2 ∧ ((¬ (σ 125 x1.toNat) = 0 → (w_in (x1 + 1) ∧ w_in (82 * (x1 + 1)) ∧ p_Model_copies 0 (82 * (x1 + 1)) σ ∧ (∀ (τ1 : w_M), q_Model_copies 0 (82 * (x1 + 1)) σ τ1 → Q (some (.inl (τ1 123 42))) τ1))) ∧ ((σ 125 x1.toNat) = 0 → Q (some (.inl (-2))) σ)))) ∧ (¬ (0 ≤ x1 ∧ x1 ≤ 1) → Q (some (.inl (-1))) σ)) : w_Call (xs, (d + 1)) 232 [.inr (.inr (9, 122)), .inl x1] σ Q :=
  (w_mk (mid := 232) (by decide) rfl rfl rfl rfl rfl (Nat.le_of_ble_eq_true rfl) ⟨rfl, Or.inl (by decide)⟩ (wi_iload1 fModel_back_0 (wi_i2l fModel_back_1 (wi_sipush fModel_back_2 (wi_sipush fModel_back_3 (wi_call3 fModel_back_4 (Nat.le_of_ble_eq_true rfl) (k_Model_in (wi_ifb_ne fModel_back_5 (fun c3 => (wi_aload0 fModel_back_8 (wi_getf902 fModel_back_9 (wi_iload1 fModel_back_10 (wi_bald3002 fModel_back_11 (h.1 c3).1 (h.1 c3).2.1 (wi_if_ne fModel_back_12 (fun c2 => (wi_aload0 fModel_back_15 (wi_bipush fModel_back_16 (wi_bipush fModel_back_17 (wi_iload1 fModel_back_18 (wi_bipush fModel_back_19 (wi_iadd fModel_back_20 ((h.1 c3).2.2.1 c2).1 (wi_imul fModel_back_21 ((h.1 c3).2.2.1 c2).2.1 (wi_call3 fModel_back_22 (Nat.le_of_ble_eq_true rfl) (k_Model_copies ((h.1 c3).2.2.1 c2).2.2.1 (fun τ1 eτ1 => (wi_aload0 fModel_back_23 (wi_getf900 fModel_back_24 (wi_bipush fModel_back_25 (wi_iald1246 fModel_back_26 (by decide) (by decide) (wi_ret1 fModel_back_27 (((h.1 c3).2.2.1 c2).2.2.2 τ1 eτ1))))))))))))))))) (fun c2 => (wi_bipush fModel_back_13 (wi_ret1 fModel_back_14 ((h.1 c3).2.2.2 c2)))))))))) (fun c3 => (wi_bipush fModel_back_6 (wi_ret1 fModel_back_7 (h.2 c3))))))))))))
set_option maxHeartbeats 1000000 in
theorem k_Model_back {xs : List Int} {d : Nat} {Q : Option w_V → w_M → Prop} {x1 : Int} {σ : w_M} (hp : p_Model_back x1 σ) (hQ : ∀ (x : Int) (σ' : w_M), q_Model_back x1 σ x σ' → Q (some (.inl x)) σ') : w_Call (xs, d + 1) 232 [.inr (.inr (9, 122)), .inl x1] σ Q := by
  have hM : MI σ := hp
  unfold q_Model_back F_back G_back at hQ
  refine bModel_back_0 ⟨fun c => ⟨c.1, by omega, fun c2 => ⟨⟨by omega, by omega⟩, ⟨by omega, by omega⟩, ?_, fun τ q => ?_⟩, fun c2 => ?_⟩, fun c => ?_⟩
  · unfold p_Model_copies; omega
  · obtain ⟨k, rfl⟩ := Int.eq_ofNat_of_zero_le c.1
    have hk : k = 0 ∨ k = 1 := by omega
    rw [Int.toNat_natCast] at hQ c2
    have h1k : σ 125 k = 1 := (hM.k01 hk).resolve_left c2
    have e11 : mS σ 11 0 k = σ 125 k := mS_11 (by omega)
    rw [e11, if_pos c, if_pos h1k, if_pos ⟨c, h1k⟩] at hQ
    obtain ⟨F, h1, h2⟩ := q
    have ek : (82 * ((k : Int) + 1)).toNat = 82 + 82 * k := by omega
    have e0 : (0 : Int).toNat = 0 := rfl
    rw [ek, e0] at h1
    rw [e0] at h2
    have z122 := F 122 (by decide)
    have e122 : τ 122 3 = σ 122 3 ∧ τ 122 4 = σ 122 4 ∧ τ 122 5 = σ 122 5 := by rw [z122]; exact ⟨rfl, rfl, rfl⟩
    have him : imWF (mS σ 0) (w_am σ 123 (82 + 82 * k)) (s_am σ (82 + 82 * k)) (c_am σ (82 + 82 * k)) ∧ mS σ (5 + 3 * k) = w_am σ 123 (82 + 82 * k) ∧ mS σ (6 + 3 * k) = s_am σ (82 + 82 * k) ∧ mS σ (7 + 3 * k) = c_am σ (82 + 82 * k) := by
      rcases hk with rfl | rfl
      · have e5 : mS σ 5 = w_am σ 123 82 := by simp only [mS]; rw [if_pos h1k]
        have e6 : mS σ 6 = s_am σ 82 := by simp only [mS]; rw [if_pos h1k]
        have e7 : mS σ 7 = c_am σ 82 := by simp only [mS]; rw [if_pos h1k]
        have := hM.2.2.2.2.2.2.2.1 (e11.trans h1k)
        rw [e5, e6, e7] at this
        exact ⟨this, e5, e6, e7⟩
      · have e5 : mS σ 8 = w_am σ 123 164 := by simp only [mS]; rw [if_pos h1k]
        have e6 : mS σ 9 = s_am σ 164 := by simp only [mS]; rw [if_pos h1k]
        have e7 : mS σ 10 = c_am σ 164 := by simp only [mS]; rw [if_pos h1k]
        have := hM.2.2.2.2.2.2.2.2 (e11.trans h1k)
        rw [e5, e6, e7] at this
        exact ⟨this, e5, e6, e7⟩
    obtain ⟨⟨i1, i2, i3, i4⟩, g5, g6, g7⟩ := him
    have h1' : ∀ x, x < 82 → τ 123 (0 + x) = σ 123 (82 + 82 * k + x) := fun x hx => h1 x hx
    have hS : mS τ = im_get (mS σ) k := by
      refine cS_ext ?_ ?_ ?_ ?_ ?_ (fun p hp => ?_)
      · show w_am τ 123 0 = mS σ (5 + 3 * k); rw [g5]; exact w_am_sh hM.sm z122 (fun x hx => h1' x (by omega))
      · show s_am τ 0 = mS σ (6 + 3 * k); rw [g6]; exact s_am_sh i3.1.2 h1'
      · show c_am τ 0 = mS σ (7 + 3 * k); rw [g7]; exact c_am_sh i4.1.2 h1'
      · show t_am τ = t_am σ; exact t_am_fr (by rw [z122]) (by rw [z122]) (F 127 (by decide))
      · show h_am τ = h_am σ; exact h_am_fr (fun b h1 h2 => F b (by omega))
      · unfold im_get
        rw [w_sp_ne (by omega), w_sp_ne (by omega), w_sp_ne (by omega)]
        exact mS_im hM e122 (F 125 (by decide)) (fun x hx => h2 x (by omega)) p hp
    refine hQ _ _ ⟨?_, by unfold MI; rw [hS]; exact sWF_bk hM hk (e11.trans h1k), hS, fun b hb => F b (by omega), by rw [z122]⟩
    rw [g5]
    exact h1' 42 (by decide)
  · obtain ⟨k, rfl⟩ := Int.eq_ofNat_of_zero_le c.1
    have hk : k = 0 ∨ k = 1 := by omega
    rw [Int.toNat_natCast] at hQ c2
    have e11 : mS σ 11 0 k = σ 125 k := mS_11 (by omega)
    rw [e11, if_pos c, c2, if_neg (by decide), if_neg (by omega)] at hQ
    exact hQ _ _ (m_qr hM rfl)
  · rw [if_neg c, if_neg (fun q => c q.1)] at hQ
    exact hQ _ _ (m_qr hM rfl)
end
section
/-! Sheets, counts: the class -/
noncomputable def shNew (H : w_M) (k : Nat) (lane n : Int) : w_M := fun q j => if q = k then (if j = 0 then n else if j = 1 then lane else 0) else H q j
noncomputable def shVal (lane v : Int) : Int := if lane = 0 then Int.bmod v 256 else if lane = 1 then Int.bmod v 65536 else v
noncomputable def P_sheet (k lane n : Int) : Prop := ((0 ≤ k ∧ k ≤ 3) ∧ (0 ≤ lane ∧ lane ≤ 2)) ∧ n ≤ 40
noncomputable def F_sheet (_ : w_S) (k lane n : Int) : Int := @ite _ (P_sheet k lane n) (Classical.propDecidable _) (if n < 0 then -14 else 1) (-1)
noncomputable def G_sheet (S : w_S) (k lane n : Int) : w_S := @ite _ (P_sheet k lane n ∧ 0 ≤ n) (Classical.propDecidable _) (w_sp S 4 (shNew (S 4) k.toNat lane n)) S
noncomputable def F_lay (S : w_S) (k i _v : Int) : Int := if 0 ≤ k ∧ k ≤ 3 then (if S 4 k.toNat 0 = -4 then -11 else if 0 ≤ i ∧ i < S 4 k.toNat 0 then 1 else -12) else -1
noncomputable def G_lay (S : w_S) (k i v : Int) : w_S := if (0 ≤ k ∧ k ≤ 3) ∧ ¬ S 4 k.toNat 0 = -4 ∧ (0 ≤ i ∧ i < S 4 k.toNat 0) then w_sp S 4 (w_up (S 4) k.toNat (2 + i.toNat) (shVal (S 4 k.toNat 1) v)) else S
theorem shNew_WF {H : w_M} (h : shWF H) {k : Nat} {lane n : Int} (hl : 0 ≤ lane ∧ lane ≤ 2) (hn : 0 ≤ n ∧ n ≤ 40) : shWF (shNew H k lane n) := by
  intro q hq
  unfold shNew
  by_cases hk : q = k
  · rw [if_pos hk, if_pos hk]
    exact Or.inr ⟨hn, hl⟩
  · rw [if_neg hk, if_neg hk]
    exact h q hq
theorem shLay_WF {H : w_M} (h : shWF H) {k i : Nat} {v : Int} : shWF (w_up H k (2 + i) v) := by
  intro q hq
  rw [w_up_eq, if_neg (by omega), w_up_eq, if_neg (by omega)]
  exact h q hq
theorem CI.sh {σ : w_M} (h : CI σ) {k : Nat} (hk : k < 4) : h_ab σ k 0 = -4 ∨ ((0 ≤ h_ab σ k 0 ∧ h_ab σ k 0 ≤ 40) ∧ (0 ≤ h_ab σ k 1 ∧ h_ab σ k 1 ≤ 2)) := h.1.2.2.2.2.1 k hk
theorem h_ab_no {σ : w_M} {k : Nat} (hk : k < 4) (h : σ 87 k < 0) : h_ab σ k 0 = -4 := by
  unfold h_ab
  rw [if_pos hk, if_pos h, if_pos rfl]
theorem h_ab_yes {σ : w_M} {k : Nat} (hk : k < 4) (h : ¬ σ 87 k < 0) : h_ab σ k 0 = σ 87 k ∧ h_ab σ k 1 = σ 86 k ∧ ∀ j, j < 40 → h_ab σ k (2 + j) = σ (82 + k) j := by
  unfold h_ab
  refine ⟨?_, ?_, fun j hj => ?_⟩
  · rw [if_pos hk, if_neg h, if_pos rfl]
  · rw [if_pos hk, if_neg h, if_neg (by decide), if_pos rfl]
  · rw [if_pos hk, if_neg h, if_neg (by omega), if_neg (by omega), if_pos (by omega), show 2 + j - 2 = j by omega]
theorem h_ab_no_iff {σ : w_M} {k : Nat} (hk : k < 4) : h_ab σ k 0 = -4 ↔ σ 87 k < 0 := by
  constructor
  · intro h
    by_cases hn : σ 87 k < 0
    · exact hn
    · rw [(h_ab_yes hk hn).1] at h
      omega
  · exact h_ab_no hk
noncomputable def v_Sheets_sizeOf (k : Int) (σ : w_M) : Int := if (0 ≤ k ∧ k < 4) ∧ ¬ σ 87 k.toNat < 0 then σ 87 k.toNat else 0
noncomputable def P_Sheets_hasCell (k i : Int) (σ : w_M) : Prop := 0 ≤ i ∧ i < v_Sheets_sizeOf k σ ∧ i < 40
noncomputable def P_Sheets_isOfLane (k lane : Int) (σ : w_M) : Prop := (0 ≤ k ∧ k < 4) ∧ ¬ σ 87 k.toNat < 0 ∧ σ 86 k.toNat = lane
theorem fSheets_isSheet_0 : w_fe am_c96 0 1 (.iload 0) := ⟨rfl, rfl⟩
theorem fSheets_isSheet_1 : w_if am_c96 1 2 .lt 7 := ⟨rfl, rfl⟩
theorem fSheets_isSheet_2 : w_fe am_c96 2 3 (.iload 0) := ⟨rfl, rfl⟩
theorem fSheets_isSheet_3 : w_fe am_c96 3 4 (.bipush 4) := ⟨rfl, rfl⟩
theorem fSheets_isSheet_4 : w_ic am_c96 4 5 .ge 7 := ⟨rfl, rfl⟩
theorem fSheets_isSheet_5 : w_fe am_c96 5 6 (.bipush 1) := ⟨rfl, rfl⟩
theorem fSheets_isSheet_6 : w_gt am_c96 6 8 := rfl
theorem fSheets_isSheet_7 : w_fe am_c96 7 8 (.bipush 0) := ⟨rfl, rfl⟩
theorem fSheets_isSheet_8 : w_fe am_c96 8 9 (.ireturn) := ⟨rfl, rfl⟩
set_option maxRecDepth 20000 in
theorem bSheets_isSheet_0 {xs : List Int} {d : Nat} {Q : Option w_V → w_M → Prop} {x0 : Int} {σ : w_M}
    (h : (x0 < 0 → Q (some (.inl 0)) σ) ∧ (0 ≤ x0 → ((4 ≤ x0 → Q (some (.inl 0)) σ) ∧ (x0 < 4 → Q (some (.inl 1)) σ)))) : w_Call (xs, d) 96 [.inl x0] σ Q :=
  (w_mk (mid := 96) (by decide) rfl rfl rfl rfl rfl (Nat.le_of_ble_eq_true rfl) trivial (wi_iload0 fSheets_isSheet_0 (wi_if_lt fSheets_isSheet_1 (fun c2 => (wi_bipush fSheets_isSheet_7 (wi_ret2 fSheets_isSheet_8 (by decide) (h.1 c2)))) (fun c2 => (wi_iload0 fSheets_isSheet_2 (wi_bipush fSheets_isSheet_3 (wi_ic_ge fSheets_isSheet_4 (fun c1 => (wi_bipush fSheets_isSheet_7 (wi_ret2 fSheets_isSheet_8 (by decide) ((h.2 c2).1 c1)))) (fun c1 => (wi_bipush fSheets_isSheet_5 (wi_goto fSheets_isSheet_6 (wi_ret2 fSheets_isSheet_8 (by decide) ((h.2 c2).2 c1))))))))))))
theorem k_Sheets_isSheet {xs : List Int} {d : Nat} {Q : Option w_V → w_M → Prop} {x0 : Int} {σ : w_M} (hQ : Q (some (.inl (w_bi (0 ≤ x0 ∧ x0 < 4)))) σ) : w_Call (xs, d) 96 [.inl x0] σ Q := by
  refine bSheets_isSheet_0 ⟨fun h => ?_, fun h => ⟨fun h2 => ?_, fun h2 => ?_⟩⟩
  · rw [w_bi_f (by omega)] at hQ; exact hQ
  · rw [w_bi_f (by omega)] at hQ; exact hQ
  · rw [w_bi_t (by omega)] at hQ; exact hQ
theorem fSheets_isNothing_0 : w_fe am_c97 0 1 (.iload 1) := ⟨rfl, rfl⟩
theorem fSheets_isNothing_1 : w_fe am_c97 1 2 (.invokestatic 96) := ⟨rfl, rfl⟩
theorem fSheets_isNothing_2 : w_if am_c97 2 3 .eq 8 := ⟨rfl, rfl⟩
theorem fSheets_isNothing_3 : w_fe am_c97 3 4 (.aload 0) := ⟨rfl, rfl⟩
theorem fSheets_isNothing_4 : w_fe am_c97 4 5 (.getfield 802) := ⟨rfl, rfl⟩
theorem fSheets_isNothing_5 : w_fe am_c97 5 6 (.iload 1) := ⟨rfl, rfl⟩
theorem fSheets_isNothing_6 : w_fe am_c97 6 7 (.iaload) := ⟨rfl, rfl⟩
theorem fSheets_isNothing_7 : w_if am_c97 7 8 .ge 10 := ⟨rfl, rfl⟩
theorem fSheets_isNothing_8 : w_fe am_c97 8 9 (.bipush 1) := ⟨rfl, rfl⟩
theorem fSheets_isNothing_9 : w_gt am_c97 9 11 := rfl
theorem fSheets_isNothing_10 : w_fe am_c97 10 11 (.bipush 0) := ⟨rfl, rfl⟩
theorem fSheets_isNothing_11 : w_fe am_c97 11 12 (.ireturn) := ⟨rfl, rfl⟩
set_option maxRecDepth 20000 in
theorem bSheets_isNothing_0 {xs : List Int} {d : Nat} {Q : Option w_V → w_M → Prop} {x1 : Int} {σ : w_M}
    (h : (¬ (0 ≤ x1 ∧ x1 < 4) → Q (some (.inl 1)) σ) ∧ ((0 ≤ x1 ∧ x1 < 4) → (0 ≤ x1 ∧ x1 < 4 ∧ ((0 ≤ (σ 87 x1.toNat) → Q (some (.inl 0)) σ) ∧ ((σ 87 x1.toNat) < 0 → Q (some (.inl 1)) σ))))) : w_Call (xs, (d + 1)) 97 [.inr (.inr (8, 80)), .inl x1] σ Q :=
  (w_mk (mid := 97) (by decide) rfl rfl rfl rfl rfl (Nat.le_of_ble_eq_true rfl) ⟨rfl, Or.inl (by decide)⟩ (wi_iload1 fSheets_isNothing_0 (wi_call1 fSheets_isNothing_1 (Nat.le_of_ble_eq_true rfl) (k_Sheets_isSheet (wi_ifb_eq fSheets_isNothing_2 (fun c2 => (wi_bipush fSheets_isNothing_8 (wi_goto fSheets_isNothing_9 (wi_ret2 fSheets_isNothing_11 (by decide) (h.1 c2))))) (fun c2 => (wi_aload0 fSheets_isNothing_3 (wi_getf802 fSheets_isNothing_4 (wi_iload1 fSheets_isNothing_5 (wi_iald1004 fSheets_isNothing_6 (h.2 c2).1 (h.2 c2).2.1 (wi_if_ge fSheets_isNothing_7 (fun c1 => (wi_bipush fSheets_isNothing_10 (wi_ret2 fSheets_isNothing_11 (by decide) ((h.2 c2).2.2.1 c1)))) (fun c1 => (wi_bipush fSheets_isNothing_8 (wi_goto fSheets_isNothing_9 (wi_ret2 fSheets_isNothing_11 (by decide) ((h.2 c2).2.2.2 c1))))))))))))))))
theorem k_Sheets_isNothing {xs : List Int} {d : Nat} {Q : Option w_V → w_M → Prop} {x1 : Int} {σ : w_M} (hQ : Q (some (.inl (w_bi (¬ ((0 : Int) ≤ x1 ∧ x1 < (4 : Int)) ∨ σ 87 (Int.toNat x1) < 0)))) σ) : w_Call (xs, d + 1) 97 [.inr (.inr (8, 80)), .inl x1] σ Q := by
  refine bSheets_isNothing_0 ⟨fun h => ?_, fun h => ⟨h.1, h.2, fun h2 => ?_, fun h2 => ?_⟩⟩
  · rw [w_bi_t (Or.inl h)] at hQ; exact hQ
  · rw [w_bi_f (fun q => by rcases q with q | q <;> omega)] at hQ; exact hQ
  · rw [w_bi_t (Or.inr h2)] at hQ; exact hQ
theorem fSheets_sizeOf_0 : w_fe am_c99 0 1 (.aload 0) := ⟨rfl, rfl⟩
theorem fSheets_sizeOf_1 : w_fe am_c99 1 2 (.iload 1) := ⟨rfl, rfl⟩
theorem fSheets_sizeOf_2 : w_fe am_c99 2 3 (.invokestatic 97) := ⟨rfl, rfl⟩
theorem fSheets_sizeOf_3 : w_if am_c99 3 4 .eq 6 := ⟨rfl, rfl⟩
theorem fSheets_sizeOf_4 : w_fe am_c99 4 5 (.bipush 0) := ⟨rfl, rfl⟩
theorem fSheets_sizeOf_5 : w_gt am_c99 5 10 := rfl
theorem fSheets_sizeOf_6 : w_fe am_c99 6 7 (.aload 0) := ⟨rfl, rfl⟩
theorem fSheets_sizeOf_7 : w_fe am_c99 7 8 (.getfield 802) := ⟨rfl, rfl⟩
theorem fSheets_sizeOf_8 : w_fe am_c99 8 9 (.iload 1) := ⟨rfl, rfl⟩
theorem fSheets_sizeOf_9 : w_fe am_c99 9 10 (.iaload) := ⟨rfl, rfl⟩
theorem fSheets_sizeOf_10 : w_fe am_c99 10 11 (.ireturn) := ⟨rfl, rfl⟩
set_option maxRecDepth 20000 in
theorem bSheets_sizeOf_0 {xs : List Int} {d : Nat} {Q : Option w_V → w_M → Prop} {x1 : Int} {σ : w_M}
    (h : (¬ (¬ ((0 : Int) ≤ x1 ∧ x1 < (4 : Int)) ∨ σ 87 (Int.toNat x1) < 0) → (0 ≤ x1 ∧ x1 < 4 ∧ Q (some (.inl (σ 87 x1.toNat))) σ)) ∧ ((¬ ((0 : Int) ≤ x1 ∧ x1 < (4 : Int)) ∨ σ 87 (Int.toNat x1) < 0) → Q (some (.inl 0)) σ)) : w_Call (xs, (d + 2)) 99 [.inr (.inr (8, 80)), .inl x1] σ Q :=
  (w_mk (mid := 99) (by decide) rfl rfl rfl rfl rfl (Nat.le_of_ble_eq_true rfl) ⟨rfl, Or.inl (by decide)⟩ (wi_aload0 fSheets_sizeOf_0 (wi_iload1 fSheets_sizeOf_1 (wi_call2 fSheets_sizeOf_2 (Nat.le_of_ble_eq_true rfl) (k_Sheets_isNothing (wi_ifb_eq fSheets_sizeOf_3 (fun c1 => (wi_aload0 fSheets_sizeOf_6 (wi_getf802 fSheets_sizeOf_7 (wi_iload1 fSheets_sizeOf_8 (wi_iald1004 fSheets_sizeOf_9 (h.1 c1).1 (h.1 c1).2.1 (wi_ret1 fSheets_sizeOf_10 (h.1 c1).2.2)))))) (fun c1 => (wi_bipush fSheets_sizeOf_4 (wi_goto fSheets_sizeOf_5 (wi_ret1 fSheets_sizeOf_10 (h.2 c1)))))))))))
theorem fSheets_isOfLane_0 : w_fe am_c101 0 1 (.aload 0) := ⟨rfl, rfl⟩
theorem fSheets_isOfLane_1 : w_fe am_c101 1 2 (.iload 1) := ⟨rfl, rfl⟩
theorem fSheets_isOfLane_2 : w_fe am_c101 2 3 (.invokestatic 97) := ⟨rfl, rfl⟩
theorem fSheets_isOfLane_3 : w_if am_c101 3 4 .ne 12 := ⟨rfl, rfl⟩
theorem fSheets_isOfLane_4 : w_fe am_c101 4 5 (.aload 0) := ⟨rfl, rfl⟩
theorem fSheets_isOfLane_5 : w_fe am_c101 5 6 (.getfield 801) := ⟨rfl, rfl⟩
theorem fSheets_isOfLane_6 : w_fe am_c101 6 7 (.iload 1) := ⟨rfl, rfl⟩
theorem fSheets_isOfLane_7 : w_fe am_c101 7 8 (.iaload) := ⟨rfl, rfl⟩
theorem fSheets_isOfLane_8 : w_fe am_c101 8 9 (.iload 2) := ⟨rfl, rfl⟩
theorem fSheets_isOfLane_9 : w_ic am_c101 9 10 .ne 12 := ⟨rfl, rfl⟩
theorem fSheets_isOfLane_10 : w_fe am_c101 10 11 (.bipush 1) := ⟨rfl, rfl⟩
theorem fSheets_isOfLane_11 : w_gt am_c101 11 13 := rfl
theorem fSheets_isOfLane_12 : w_fe am_c101 12 13 (.bipush 0) := ⟨rfl, rfl⟩
theorem fSheets_isOfLane_13 : w_fe am_c101 13 14 (.ireturn) := ⟨rfl, rfl⟩
set_option maxRecDepth 20000 in
theorem bSheets_isOfLane_0 {xs : List Int} {d : Nat} {Q : Option w_V → w_M → Prop} {x1 : Int} {x2 : Int} {σ : w_M}
    (h : ((¬ ((0 : Int) ≤ x1 ∧ x1 < (4 : Int)) ∨ σ 87 (Int.toNat x1) < 0) → Q (some (.inl 0)) σ) ∧ (¬ (¬ ((0 : Int) ≤ x1 ∧ x1 < (4 : Int)) ∨ σ 87 (Int.toNat x1) < 0) → (0 ≤ x1 ∧ x1 < 4 ∧ ((¬ (σ 86 x1.toNat) = x2 → Q (some (.inl 0)) σ) ∧ ((σ 86 x1.toNat) = x2 → Q (some (.inl 1)) σ))))) : w_Call (xs, (d + 2)) 101 [.inr (.inr (8, 80)), .inl x1, .inl x2] σ Q :=
  (w_mk (mid := 101) (by decide) rfl rfl rfl rfl rfl (Nat.le_of_ble_eq_true rfl) ⟨rfl, Or.inl (by decide)⟩ (wi_aload0 fSheets_isOfLane_0 (wi_iload1 fSheets_isOfLane_1 (wi_call2 fSheets_isOfLane_2 (Nat.le_of_ble_eq_true rfl) (k_Sheets_isNothing (wi_ifb_ne fSheets_isOfLane_3 (fun c2 => (wi_bipush fSheets_isOfLane_12 (wi_ret2 fSheets_isOfLane_13 (by decide) (h.1 c2)))) (fun c2 => (wi_aload0 fSheets_isOfLane_4 (wi_getf801 fSheets_isOfLane_5 (wi_iload1 fSheets_isOfLane_6 (wi_iald1004 fSheets_isOfLane_7 (h.2 c2).1 (h.2 c2).2.1 (wi_iload2 fSheets_isOfLane_8 (wi_ic_ne fSheets_isOfLane_9 (fun c1 => (wi_bipush fSheets_isOfLane_12 (wi_ret2 fSheets_isOfLane_13 (by decide) ((h.2 c2).2.2.1 c1)))) (fun c1 => (wi_bipush fSheets_isOfLane_10 (wi_goto fSheets_isOfLane_11 (wi_ret2 fSheets_isOfLane_13 (by decide) ((h.2 c2).2.2.2 c1))))))))))))))))))
theorem k_Sheets_sizeOf {xs : List Int} {d : Nat} {Q : Option w_V → w_M → Prop} {x1 : Int} {σ : w_M} (hQ : Q (some (.inl (v_Sheets_sizeOf x1 σ))) σ) : w_Call (xs, d + 2) 99 [.inr (.inr (8, 80)), .inl x1] σ Q := by
  unfold v_Sheets_sizeOf at hQ
  refine bSheets_sizeOf_0 ⟨fun h => ?_, fun h => ?_⟩
  · have h1 : 0 ≤ x1 ∧ x1 < 4 := Classical.byContradiction (fun q => h (Or.inl q))
    have h2 : ¬ σ 87 x1.toNat < 0 := fun q => h (Or.inr q)
    rw [if_pos ⟨h1, h2⟩] at hQ
    exact ⟨h1.1, h1.2, hQ⟩
  · rw [if_neg (fun q => by rcases h with h | h; exact h q.1; exact q.2 h)] at hQ
    exact hQ
theorem k_Sheets_isOfLane {xs : List Int} {d : Nat} {Q : Option w_V → w_M → Prop} {x1 : Int} {x2 : Int} {σ : w_M} (hQ : Q (some (.inl (w_bi (P_Sheets_isOfLane x1 x2 σ)))) σ) : w_Call (xs, d + 2) 101 [.inr (.inr (8, 80)), .inl x1, .inl x2] σ Q := by
  refine bSheets_isOfLane_0 ⟨fun h => ?_, fun h => ?_⟩
  · rw [w_bi_f (fun q => by rcases h with h | h; exact h q.1; exact q.2.1 h)] at hQ
    exact hQ
  · have h1 : 0 ≤ x1 ∧ x1 < 4 := Classical.byContradiction (fun q => h (Or.inl q))
    have h2 : ¬ σ 87 x1.toNat < 0 := fun q => h (Or.inr q)
    refine ⟨h1.1, h1.2, fun h3 => ?_, fun h3 => ?_⟩
    · rw [w_bi_f (fun q => h3 q.2.2)] at hQ; exact hQ
    · rw [w_bi_t ⟨h1, h2, h3⟩] at hQ; exact hQ
theorem fSheets_hasCell_0 : w_fe am_c98 0 1 (.iload 2) := ⟨rfl, rfl⟩
theorem fSheets_hasCell_1 : w_if am_c98 1 2 .lt 12 := ⟨rfl, rfl⟩
theorem fSheets_hasCell_2 : w_fe am_c98 2 3 (.iload 2) := ⟨rfl, rfl⟩
theorem fSheets_hasCell_3 : w_fe am_c98 3 4 (.aload 0) := ⟨rfl, rfl⟩
theorem fSheets_hasCell_4 : w_fe am_c98 4 5 (.iload 1) := ⟨rfl, rfl⟩
theorem fSheets_hasCell_5 : w_fe am_c98 5 6 (.invokestatic 99) := ⟨rfl, rfl⟩
theorem fSheets_hasCell_6 : w_ic am_c98 6 7 .ge 12 := ⟨rfl, rfl⟩
theorem fSheets_hasCell_7 : w_fe am_c98 7 8 (.iload 2) := ⟨rfl, rfl⟩
theorem fSheets_hasCell_8 : w_fe am_c98 8 9 (.bipush 40) := ⟨rfl, rfl⟩
theorem fSheets_hasCell_9 : w_ic am_c98 9 10 .ge 12 := ⟨rfl, rfl⟩
theorem fSheets_hasCell_10 : w_fe am_c98 10 11 (.bipush 1) := ⟨rfl, rfl⟩
theorem fSheets_hasCell_11 : w_gt am_c98 11 13 := rfl
theorem fSheets_hasCell_12 : w_fe am_c98 12 13 (.bipush 0) := ⟨rfl, rfl⟩
theorem fSheets_hasCell_13 : w_fe am_c98 13 14 (.ireturn) := ⟨rfl, rfl⟩
set_option maxRecDepth 20000 in
theorem bSheets_hasCell_0 {xs : List Int} {d : Nat} {Q : Option w_V → w_M → Prop} {x1 : Int} {x2 : Int} {σ : w_M}
    (h : (x2 < 0 → Q (some (.inl 0)) σ) ∧ (0 ≤ x2 → ∀ (y1 : Int), y1 = v_Sheets_sizeOf x1 σ → ((y1 ≤ x2 → Q (some (.inl 0)) σ) ∧ (x2 < y1 → ((40 ≤ x2 → Q (some (.inl 0)) σ) ∧ (x2 < 40 → Q (some (.inl 1)) σ)))))) : w_Call (xs, (d + 3)) 98 [.inr (.inr (8, 80)), .inl x1, .inl x2] σ Q :=
  (w_mk (mid := 98) (by decide) rfl rfl rfl rfl rfl (Nat.le_of_ble_eq_true rfl) ⟨rfl, Or.inl (by decide)⟩ (wi_iload2 fSheets_hasCell_0 (wi_if_lt fSheets_hasCell_1 (fun c4 => (wi_bipush fSheets_hasCell_12 (wi_ret2 fSheets_hasCell_13 (by decide) (h.1 c4)))) (fun c4 => (wi_iload2 fSheets_hasCell_2 (wi_aload0 fSheets_hasCell_3 (wi_iload1 fSheets_hasCell_4 (wi_call2 fSheets_hasCell_5 (Nat.le_of_ble_eq_true rfl) (k_Sheets_sizeOf (wi_ic_ge fSheets_hasCell_6 (fun c3 => (wi_bipush fSheets_hasCell_12 (wi_ret2 fSheets_hasCell_13 (by decide) (((h.2 c4) _ rfl).1 c3)))) (fun c3 => (wi_iload2 fSheets_hasCell_7 (wi_bipush fSheets_hasCell_8 (wi_ic_ge fSheets_hasCell_9 (fun c2 => (wi_bipush fSheets_hasCell_12 (wi_ret2 fSheets_hasCell_13 (by decide) ((((h.2 c4) _ rfl).2 c3).1 c2)))) (fun c2 => (wi_bipush fSheets_hasCell_10 (wi_goto fSheets_hasCell_11 (wi_ret2 fSheets_hasCell_13 (by decide) ((((h.2 c4) _ rfl).2 c3).2 c2)))))))))))))))))))
theorem k_Sheets_hasCell {xs : List Int} {d : Nat} {Q : Option w_V → w_M → Prop} {x1 : Int} {x2 : Int} {σ : w_M} (hQ : Q (some (.inl (w_bi (P_Sheets_hasCell x1 x2 σ)))) σ) : w_Call (xs, d + 3) 98 [.inr (.inr (8, 80)), .inl x1, .inl x2] σ Q := by
  unfold P_Sheets_hasCell at hQ
  refine bSheets_hasCell_0 ⟨fun h => ?_, fun h => fun y e => ⟨fun h2 => ?_, fun h2 => ⟨fun h3 => ?_, fun h3 => ?_⟩⟩⟩
  · rw [w_bi_f (by omega)] at hQ; exact hQ
  · rw [w_bi_f (by omega)] at hQ; exact hQ
  · rw [w_bi_f (by omega)] at hQ; exact hQ
  · rw [w_bi_t (by omega)] at hQ; exact hQ
noncomputable def p_Sheets_renew (k _lane _n : Int) (_ : w_M) : Prop := 0 ≤ k ∧ k < 4
noncomputable def q_Sheets_renew (k lane n : Int) (σ σ' : w_M) : Prop := σ' = f_fill (w_up (w_up σ 86 k.toNat lane) 87 k.toNat n) (82 + k.toNat) 40 0
theorem fSheets_renew_0 : w_fe am_c95 0 1 (.iload 1) := ⟨rfl, rfl⟩
theorem fSheets_renew_1 : w_fe am_c95 1 2 (.invokestatic 96) := ⟨rfl, rfl⟩
theorem fSheets_renew_2 : w_if am_c95 2 3 .eq 19 := ⟨rfl, rfl⟩
theorem fSheets_renew_3 : w_fe am_c95 3 4 (.aload 0) := ⟨rfl, rfl⟩
theorem fSheets_renew_4 : w_fe am_c95 4 5 (.getfield 801) := ⟨rfl, rfl⟩
theorem fSheets_renew_5 : w_fe am_c95 5 6 (.iload 1) := ⟨rfl, rfl⟩
theorem fSheets_renew_6 : w_fe am_c95 6 7 (.iload 2) := ⟨rfl, rfl⟩
theorem fSheets_renew_7 : w_fe am_c95 7 8 (.iastore) := ⟨rfl, rfl⟩
theorem fSheets_renew_8 : w_fe am_c95 8 9 (.aload 0) := ⟨rfl, rfl⟩
theorem fSheets_renew_9 : w_fe am_c95 9 10 (.getfield 802) := ⟨rfl, rfl⟩
theorem fSheets_renew_10 : w_fe am_c95 10 11 (.iload 1) := ⟨rfl, rfl⟩
theorem fSheets_renew_11 : w_fe am_c95 11 12 (.iload 3) := ⟨rfl, rfl⟩
theorem fSheets_renew_12 : w_fe am_c95 12 13 (.iastore) := ⟨rfl, rfl⟩
theorem fSheets_renew_13 : w_fe am_c95 13 14 (.aload 0) := ⟨rfl, rfl⟩
theorem fSheets_renew_14 : w_fe am_c95 14 15 (.getfield 800) := ⟨rfl, rfl⟩
theorem fSheets_renew_15 : w_fe am_c95 15 16 (.iload 1) := ⟨rfl, rfl⟩
theorem fSheets_renew_16 : w_fe am_c95 16 17 (.aaload) := ⟨rfl, rfl⟩
theorem fSheets_renew_17 : w_fe am_c95 17 18 (.bipush 0) := ⟨rfl, rfl⟩
theorem fSheets_renew_18 : w_fe am_c95 18 19 (.invokestatic 4) := ⟨rfl, rfl⟩
theorem fSheets_renew_19 : w_fe am_c95 19 20 (.return_) := ⟨rfl, rfl⟩
set_option maxRecDepth 20000 in
theorem bSheets_renew_0 {xs : List Int} {d : Nat} {Q : Option w_V → w_M → Prop} {x1 : Int} {x2 : Int} {x3 : Int} {σ : w_M}
    (h : (¬ (0 ≤ x1 ∧ x1 < 4) → Q none σ) ∧ ((0 ≤ x1 ∧ x1 < 4) → (0 ≤ x1 ∧ x1 < 4 ∧ (∀ (τ1 : w_M), τ1 = w_up σ 86 x1.toNat x2 → ∀ (τ2 : w_M), τ2 = w_up τ1 87 x1.toNat x3 → ∀ (τ3 : w_M), q_Arrays_fill40 (82 + x1.toNat) 0 τ2 τ3 → Q none τ3)))) : w_Call (xs, (d + 1)) 95 [.inr (.inr (8, 80)), .inl x1, .inl x2, .inl x3] σ Q :=
  (w_mk (mid := 95) (by decide) rfl rfl rfl rfl rfl (Nat.le_of_ble_eq_true rfl) ⟨rfl, Or.inl (by decide)⟩ (wi_iload1 fSheets_renew_0 (wi_call1 fSheets_renew_1 (Nat.le_of_ble_eq_true rfl) (k_Sheets_isSheet (wi_ifb_eq fSheets_renew_2 (fun c4 => (wi_ret0 fSheets_renew_19 (h.1 c4))) (fun c4 => (wi_aload0 fSheets_renew_3 (wi_getf801 fSheets_renew_4 (wi_iload1 fSheets_renew_5 (wi_iload2 fSheets_renew_6 (wi_iast1004 fSheets_renew_7 (h.2 c4).1 (h.2 c4).2.1 (wi_aload0 fSheets_renew_8 (wi_getf802 fSheets_renew_9 (wi_iload1 fSheets_renew_10 (wi_iload3 fSheets_renew_11 (wi_iast1004 fSheets_renew_12 (h.2 c4).1 (h.2 c4).2.1 (wi_aload0 fSheets_renew_13 (wi_getf800 fSheets_renew_14 (wi_iload1 fSheets_renew_15 (wi_aald10440 fSheets_renew_16 (h.2 c4).1 (h.2 c4).2.1 (wi_bipush fSheets_renew_17 (wi_call2 fSheets_renew_18 (Nat.le_of_ble_eq_true rfl) (k_Arrays_fill40 (fun τ3 eτ3 => (wi_ret0 fSheets_renew_19 ((((h.2 c4).2.2 _ rfl) _ rfl) τ3 eτ3))))))))))))))))))))))))))
theorem k_Sheets_renew {xs : List Int} {d : Nat} {Q : Option w_V → w_M → Prop} {x1 : Int} {x2 : Int} {x3 : Int} {σ : w_M} (hp : p_Sheets_renew x1 x2 x3 σ) (hQ : ∀ σ' : w_M, q_Sheets_renew x1 x2 x3 σ σ' → Q none σ') : w_Call (xs, d + 1) 95 [.inr (.inr (8, 80)), .inl x1, .inl x2, .inl x3] σ Q := by
  have h : 0 ≤ x1 ∧ x1 < 4 := hp
  refine bSheets_renew_0 ⟨fun c => absurd h c, fun c => ⟨c.1, c.2, fun τ1 t1 τ2 t2 τ3 q3 => hQ _ ?_⟩⟩
  show τ3 = _
  rw [q3, t2, t1]
noncomputable def p_Sheets_put (k i _v : Int) (σ : w_M) : Prop := (0 ≤ k ∧ k < 4) ∧ P_Sheets_hasCell k i σ
noncomputable def q_Sheets_put (k i v : Int) (σ σ' : w_M) : Prop := σ' = w_up σ (82 + k.toNat) i.toNat (shVal (σ 86 k.toNat) v)
theorem fSheets_put_0 : w_fe am_c100 0 1 (.aload 0) := ⟨rfl, rfl⟩
theorem fSheets_put_1 : w_fe am_c100 1 2 (.iload 1) := ⟨rfl, rfl⟩
theorem fSheets_put_2 : w_fe am_c100 2 3 (.iload 2) := ⟨rfl, rfl⟩
theorem fSheets_put_3 : w_fe am_c100 3 4 (.invokestatic 98) := ⟨rfl, rfl⟩
theorem fSheets_put_4 : w_if am_c100 4 5 .ne 6 := ⟨rfl, rfl⟩
theorem fSheets_put_5 : w_fe am_c100 5 6 (.return_) := ⟨rfl, rfl⟩
theorem fSheets_put_6 : w_fe am_c100 6 7 (.aload 0) := ⟨rfl, rfl⟩
theorem fSheets_put_7 : w_fe am_c100 7 8 (.getfield 801) := ⟨rfl, rfl⟩
theorem fSheets_put_8 : w_fe am_c100 8 9 (.iload 1) := ⟨rfl, rfl⟩
theorem fSheets_put_9 : w_fe am_c100 9 10 (.iaload) := ⟨rfl, rfl⟩
theorem fSheets_put_10 : w_if am_c100 10 11 .ne 20 := ⟨rfl, rfl⟩
theorem fSheets_put_11 : w_fe am_c100 11 12 (.aload 0) := ⟨rfl, rfl⟩
theorem fSheets_put_12 : w_fe am_c100 12 13 (.getfield 800) := ⟨rfl, rfl⟩
theorem fSheets_put_13 : w_fe am_c100 13 14 (.iload 1) := ⟨rfl, rfl⟩
theorem fSheets_put_14 : w_fe am_c100 14 15 (.aaload) := ⟨rfl, rfl⟩
theorem fSheets_put_15 : w_fe am_c100 15 16 (.iload 2) := ⟨rfl, rfl⟩
theorem fSheets_put_16 : w_fe am_c100 16 17 (.iload 3) := ⟨rfl, rfl⟩
theorem fSheets_put_17 : w_fe am_c100 17 18 (.i2b) := ⟨rfl, rfl⟩
theorem fSheets_put_18 : w_fe am_c100 18 19 (.iastore) := ⟨rfl, rfl⟩
theorem fSheets_put_19 : w_gt am_c100 19 42 := rfl
theorem fSheets_put_20 : w_fe am_c100 20 21 (.aload 0) := ⟨rfl, rfl⟩
theorem fSheets_put_21 : w_fe am_c100 21 22 (.getfield 801) := ⟨rfl, rfl⟩
theorem fSheets_put_22 : w_fe am_c100 22 23 (.iload 1) := ⟨rfl, rfl⟩
theorem fSheets_put_23 : w_fe am_c100 23 24 (.iaload) := ⟨rfl, rfl⟩
theorem fSheets_put_24 : w_fe am_c100 24 25 (.bipush 1) := ⟨rfl, rfl⟩
theorem fSheets_put_25 : w_ic am_c100 25 26 .ne 35 := ⟨rfl, rfl⟩
theorem fSheets_put_26 : w_fe am_c100 26 27 (.aload 0) := ⟨rfl, rfl⟩
theorem fSheets_put_27 : w_fe am_c100 27 28 (.getfield 800) := ⟨rfl, rfl⟩
theorem fSheets_put_28 : w_fe am_c100 28 29 (.iload 1) := ⟨rfl, rfl⟩
theorem fSheets_put_29 : w_fe am_c100 29 30 (.aaload) := ⟨rfl, rfl⟩
theorem fSheets_put_30 : w_fe am_c100 30 31 (.iload 2) := ⟨rfl, rfl⟩
theorem fSheets_put_31 : w_fe am_c100 31 32 (.iload 3) := ⟨rfl, rfl⟩
theorem fSheets_put_32 : w_fe am_c100 32 33 (.i2s) := ⟨rfl, rfl⟩
theorem fSheets_put_33 : w_fe am_c100 33 34 (.iastore) := ⟨rfl, rfl⟩
theorem fSheets_put_34 : w_gt am_c100 34 42 := rfl
theorem fSheets_put_35 : w_fe am_c100 35 36 (.aload 0) := ⟨rfl, rfl⟩
theorem fSheets_put_36 : w_fe am_c100 36 37 (.getfield 800) := ⟨rfl, rfl⟩
theorem fSheets_put_37 : w_fe am_c100 37 38 (.iload 1) := ⟨rfl, rfl⟩
theorem fSheets_put_38 : w_fe am_c100 38 39 (.aaload) := ⟨rfl, rfl⟩
theorem fSheets_put_39 : w_fe am_c100 39 40 (.iload 2) := ⟨rfl, rfl⟩
theorem fSheets_put_40 : w_fe am_c100 40 41 (.iload 3) := ⟨rfl, rfl⟩
theorem fSheets_put_41 : w_fe am_c100 41 42 (.iastore) := ⟨rfl, rfl⟩
theorem fSheets_put_42 : w_fe am_c100 42 43 (.return_) := ⟨rfl, rfl⟩
set_option maxRecDepth 20000 in
theorem bSheets_put_0 {xs : List Int} {d : Nat} {Q : Option w_V → w_M → Prop} {x1 : Int} {x2 : Int} {x3 : Int} {σ : w_M}
    (h : ((P_Sheets_hasCell x1 x2 σ) → (0 ≤ x1 ∧ x1 < 4 ∧ ((¬ (σ 86 x1.toNat) = 0 → ((¬ (σ 86 x1.toNat) = 1 → (0 ≤ x2 ∧ x2 < 40 ∧ (∀ (τ1 : w_M), τ1 = w_up σ (82 + x1.toNat) x2.toNat x3 → Q none τ1))) ∧ ((σ 86 x1.toNat) = 1 → (0 ≤ x2 ∧ x2 < 40 ∧ (∀ (τ2 : w_M), τ2 = w_up σ (82 + x1.toNat) x2.toNat (Int.bmod x3 65536) → Q none τ2))))) ∧ ((σ 86 x1.toNat) = 0 → (0 ≤ x2 ∧ x2 < 40 ∧ (∀ (τ4 : w_M), τ4 = w_up σ (82 + x1.toNat) x2.toNat (Int.bmod x3 256) → Q none τ4)))))) ∧ (¬ (P_Sheets_hasCell x1 x2 σ) → Q none σ)) : w_Call (xs, (d + 4)) 100 [.inr (.inr (8, 80)), .inl x1, .inl x2, .inl x3] σ Q :=
  (w_mk (mid := 100) (by decide) rfl rfl rfl rfl rfl (Nat.le_of_ble_eq_true rfl) ⟨rfl, Or.inl (by decide)⟩ (wi_aload0 fSheets_put_0 (wi_iload1 fSheets_put_1 (wi_iload2 fSheets_put_2 (wi_call3 fSheets_put_3 (Nat.le_of_ble_eq_true rfl) (k_Sheets_hasCell (wi_ifb_ne fSheets_put_4 (fun c6 => (wi_aload0 fSheets_put_6 (wi_getf801 fSheets_put_7 (wi_iload1 fSheets_put_8 (wi_iald1004 fSheets_put_9 (h.1 c6).1 (h.1 c6).2.1 (wi_if_ne fSheets_put_10 (fun c5 => (wi_aload0 fSheets_put_20 (wi_getf801 fSheets_put_21 (wi_iload1 fSheets_put_22 (wi_iald1004 fSheets_put_23 (h.1 c6).1 (h.1 c6).2.1 (wi_bipush fSheets_put_24 (wi_ic_ne fSheets_put_25 (fun c3 => (wi_aload0 fSheets_put_35 (wi_getf800 fSheets_put_36 (wi_iload1 fSheets_put_37 (wi_aald10440 fSheets_put_38 (h.1 c6).1 (h.1 c6).2.1 (wi_iload2 fSheets_put_39 (wi_iload3 fSheets_put_40 (wi_iast1040 fSheets_put_41 (((h.1 c6).2.2.1 c5).1 c3).1 (((h.1 c6).2.2.1 c5).1 c3).2.1 (wi_ret0 fSheets_put_42 ((((h.1 c6).2.2.1 c5).1 c3).2.2 _ rfl)))))))))) (fun c3 => (wi_aload0 fSheets_put_26 (wi_getf800 fSheets_put_27 (wi_iload1 fSheets_put_28 (wi_aald10440 fSheets_put_29 (h.1 c6).1 (h.1 c6).2.1 (wi_iload2 fSheets_put_30 (wi_iload3 fSheets_put_31 (wi_i2s fSheets_put_32 (wi_iast1040 fSheets_put_33 (((h.1 c6).2.2.1 c5).2 c3).1 (((h.1 c6).2.2.1 c5).2 c3).2.1 (wi_goto fSheets_put_34 (wi_ret0 fSheets_put_42 ((((h.1 c6).2.2.1 c5).2 c3).2.2 _ rfl))))))))))))))))))) (fun c5 => (wi_aload0 fSheets_put_11 (wi_getf800 fSheets_put_12 (wi_iload1 fSheets_put_13 (wi_aald10440 fSheets_put_14 (h.1 c6).1 (h.1 c6).2.1 (wi_iload2 fSheets_put_15 (wi_iload3 fSheets_put_16 (wi_i2b fSheets_put_17 (wi_iast1040 fSheets_put_18 ((h.1 c6).2.2.2 c5).1 ((h.1 c6).2.2.2 c5).2.1 (wi_goto fSheets_put_19 (wi_ret0 fSheets_put_42 (((h.1 c6).2.2.2 c5).2.2 _ rfl)))))))))))))))))) (fun c6 => (wi_ret0 fSheets_put_5 (h.2 c6))))))))))
theorem k_Sheets_put {xs : List Int} {d : Nat} {Q : Option w_V → w_M → Prop} {x1 : Int} {x2 : Int} {x3 : Int} {σ : w_M} (hp : p_Sheets_put x1 x2 x3 σ) (hQ : ∀ σ' : w_M, q_Sheets_put x1 x2 x3 σ σ' → Q none σ') : w_Call (xs, d + 4) 100 [.inr (.inr (8, 80)), .inl x1, .inl x2, .inl x3] σ Q := by
  obtain ⟨hk, hc⟩ := hp
  refine bSheets_put_0 ⟨fun c => ⟨hk.1, hk.2, fun h0 => ⟨fun h1 => ⟨c.1, c.2.2, fun τ t => hQ _ ?_⟩, fun h1 => ⟨c.1, c.2.2, fun τ t => hQ _ ?_⟩⟩, fun h0 => ⟨c.1, c.2.2, fun τ t => hQ _ ?_⟩⟩, fun c => absurd hc c⟩
  · show τ = _; rw [t]; unfold shVal; rw [if_neg h0, if_neg h1]
  · show τ = _; rw [t]; unfold shVal; rw [if_neg h0, if_pos h1]
  · show τ = _; rw [t]; unfold shVal; rw [if_pos h0]
noncomputable def p_Sheets_cell (k _i : Int) (_ : w_M) : Prop := 0 ≤ k ∧ k < 4
noncomputable def v_Sheets_cell (k i : Int) (σ : w_M) : Int := @ite _ (P_Sheets_hasCell k i σ) (Classical.propDecidable _) (σ (82 + k.toNat) i.toNat) (-1)
theorem fSheets_cell_0 : w_fe am_c103 0 1 (.aload 0) := ⟨rfl, rfl⟩
theorem fSheets_cell_1 : w_fe am_c103 1 2 (.iload 1) := ⟨rfl, rfl⟩
theorem fSheets_cell_2 : w_fe am_c103 2 3 (.iload 2) := ⟨rfl, rfl⟩
theorem fSheets_cell_3 : w_fe am_c103 3 4 (.invokestatic 98) := ⟨rfl, rfl⟩
theorem fSheets_cell_4 : w_if am_c103 4 5 .eq 12 := ⟨rfl, rfl⟩
theorem fSheets_cell_5 : w_fe am_c103 5 6 (.aload 0) := ⟨rfl, rfl⟩
theorem fSheets_cell_6 : w_fe am_c103 6 7 (.getfield 800) := ⟨rfl, rfl⟩
theorem fSheets_cell_7 : w_fe am_c103 7 8 (.iload 1) := ⟨rfl, rfl⟩
theorem fSheets_cell_8 : w_fe am_c103 8 9 (.aaload) := ⟨rfl, rfl⟩
theorem fSheets_cell_9 : w_fe am_c103 9 10 (.iload 2) := ⟨rfl, rfl⟩
theorem fSheets_cell_10 : w_fe am_c103 10 11 (.iaload) := ⟨rfl, rfl⟩
theorem fSheets_cell_11 : w_gt am_c103 11 13 := rfl
theorem fSheets_cell_12 : w_fe am_c103 12 13 (.bipush (-1)) := ⟨rfl, rfl⟩
theorem fSheets_cell_13 : w_fe am_c103 13 14 (.ireturn) := ⟨rfl, rfl⟩
set_option maxRecDepth 20000 in
theorem bSheets_cell_0 {xs : List Int} {d : Nat} {Q : Option w_V → w_M → Prop} {x1 : Int} {x2 : Int} {σ : w_M}
    (h : (¬ (P_Sheets_hasCell x1 x2 σ) → Q (some (.inl (-1))) σ) ∧ ((P_Sheets_hasCell x1 x2 σ) → (0 ≤ x1 ∧ x1 < 4 ∧ 0 ≤ x2 ∧ x2 < 40 ∧ Q (some (.inl (σ (82 + x1.toNat) x2.toNat))) σ))) : w_Call (xs, (d + 4)) 103 [.inr (.inr (8, 80)), .inl x1, .inl x2] σ Q :=
  (w_mk (mid := 103) (by decide) rfl rfl rfl rfl rfl (Nat.le_of_ble_eq_true rfl) ⟨rfl, Or.inl (by decide)⟩ (wi_aload0 fSheets_cell_0 (wi_iload1 fSheets_cell_1 (wi_iload2 fSheets_cell_2 (wi_call3 fSheets_cell_3 (Nat.le_of_ble_eq_true rfl) (k_Sheets_hasCell (wi_ifb_eq fSheets_cell_4 (fun c1 => (wi_bipush fSheets_cell_12 (wi_ret1 fSheets_cell_13 (h.1 c1)))) (fun c1 => (wi_aload0 fSheets_cell_5 (wi_getf800 fSheets_cell_6 (wi_iload1 fSheets_cell_7 (wi_aald10440 fSheets_cell_8 (h.2 c1).1 (h.2 c1).2.1 (wi_iload2 fSheets_cell_9 (wi_iald1040 fSheets_cell_10 (h.2 c1).2.2.1 (h.2 c1).2.2.2.1 (wi_goto fSheets_cell_11 (wi_ret1 fSheets_cell_13 (h.2 c1).2.2.2.2))))))))))))))))
theorem k_Sheets_cell {xs : List Int} {d : Nat} {Q : Option w_V → w_M → Prop} {x1 : Int} {x2 : Int} {σ : w_M} (hp : p_Sheets_cell x1 x2 σ) (hQ : Q (some (.inl (v_Sheets_cell x1 x2 σ))) σ) : w_Call (xs, d + 4) 103 [.inr (.inr (8, 80)), .inl x1, .inl x2] σ Q := by
  have hk : 0 ≤ x1 ∧ x1 < 4 := hp
  refine bSheets_cell_0 ⟨fun c => ?_, fun c => ⟨hk.1, hk.2, c.1, c.2.2, ?_⟩⟩
  · exact w_Qe hQ (if_neg c)
  · exact w_Qe hQ (if_pos c)
noncomputable def p_Moon_sheet (_x1 : Int) (_x2 : Int) (_x3 : Int) (σ : w_M) : Prop := CI σ
noncomputable def q_Moon_sheet (x1 : Int) (x2 : Int) (x3 : Int) (σ : w_M) (x : Int) (σ' : w_M) : Prop := c_q (F_sheet (cS σ) x1 x2 x3) (G_sheet (cS σ) x1 x2 x3) σ x σ'
theorem fMoon_sheet_0 : w_fe am_c148 0 1 (.iload 1) := ⟨rfl, rfl⟩
theorem fMoon_sheet_1 : w_fe am_c148 1 2 (.bipush 0) := ⟨rfl, rfl⟩
theorem fMoon_sheet_2 : w_fe am_c148 2 3 (.bipush 3) := ⟨rfl, rfl⟩
theorem fMoon_sheet_3 : w_fe am_c148 3 4 (.invokestatic 107) := ⟨rfl, rfl⟩
theorem fMoon_sheet_4 : w_if am_c148 4 5 .eq 13 := ⟨rfl, rfl⟩
theorem fMoon_sheet_5 : w_fe am_c148 5 6 (.iload 2) := ⟨rfl, rfl⟩
theorem fMoon_sheet_6 : w_fe am_c148 6 7 (.bipush 0) := ⟨rfl, rfl⟩
theorem fMoon_sheet_7 : w_fe am_c148 7 8 (.bipush 2) := ⟨rfl, rfl⟩
theorem fMoon_sheet_8 : w_fe am_c148 8 9 (.invokestatic 107) := ⟨rfl, rfl⟩
theorem fMoon_sheet_9 : w_if am_c148 9 10 .eq 13 := ⟨rfl, rfl⟩
theorem fMoon_sheet_10 : w_fe am_c148 10 11 (.iload 3) := ⟨rfl, rfl⟩
theorem fMoon_sheet_11 : w_fe am_c148 11 12 (.bipush 40) := ⟨rfl, rfl⟩
theorem fMoon_sheet_12 : w_ic am_c148 12 13 .le 15 := ⟨rfl, rfl⟩
theorem fMoon_sheet_13 : w_fe am_c148 13 14 (.bipush (-1)) := ⟨rfl, rfl⟩
theorem fMoon_sheet_14 : w_fe am_c148 14 15 (.ireturn) := ⟨rfl, rfl⟩
theorem fMoon_sheet_15 : w_fe am_c148 15 16 (.iload 3) := ⟨rfl, rfl⟩
theorem fMoon_sheet_16 : w_if am_c148 16 17 .ge 19 := ⟨rfl, rfl⟩
theorem fMoon_sheet_17 : w_fe am_c148 17 18 (.bipush (-14)) := ⟨rfl, rfl⟩
theorem fMoon_sheet_18 : w_fe am_c148 18 19 (.ireturn) := ⟨rfl, rfl⟩
theorem fMoon_sheet_19 : w_fe am_c148 19 20 (.aload 0) := ⟨rfl, rfl⟩
theorem fMoon_sheet_20 : w_fe am_c148 20 21 (.getfield 6) := ⟨rfl, rfl⟩
theorem fMoon_sheet_21 : w_fe am_c148 21 22 (.iload 1) := ⟨rfl, rfl⟩
theorem fMoon_sheet_22 : w_fe am_c148 22 23 (.iload 2) := ⟨rfl, rfl⟩
theorem fMoon_sheet_23 : w_fe am_c148 23 24 (.iload 3) := ⟨rfl, rfl⟩
theorem fMoon_sheet_24 : w_fe am_c148 24 25 (.invokestatic 95) := ⟨rfl, rfl⟩
theorem fMoon_sheet_25 : w_fe am_c148 25 26 (.bipush 1) := ⟨rfl, rfl⟩
theorem fMoon_sheet_26 : w_fe am_c148 26 27 (.ireturn) := ⟨rfl, rfl⟩
set_option maxRecDepth 20000 in
theorem bMoon_sheet_0 {xs : List Int} {d : Nat} {Q : Option w_V → w_M → Prop} {x1 : Int} {x2 : Int} {x3 : Int} {σ : w_M}
    (h : (¬ (0 ≤ x1 ∧ x1 ≤ 3) → Q (some (.inl (-1))) σ) ∧ ((0 ≤ x1 ∧ x1 ≤ 3) → ((¬ (0 ≤ x2 ∧ x2 ≤ 2) → Q (some (.inl (-1))) σ) ∧ ((0 ≤ x2 ∧ x2 ≤ 2) → ((x3 ≤ 40 → ((0 ≤ x3 → (p_Sheets_renew x1 x2 x3 σ ∧ (∀ (τ1 : w_M), q_Sheets_renew x1 x2 x3 σ τ1 → Q (some (.inl 1)) τ1))) ∧ (x3 < 0 → Q (some (.inl (-14))) σ))) ∧ (40 < x3 → Q (some (.inl (-1))) σ)))))) : w_Call (xs, (d + 2)) 148 [.inr (.inr (0, 0)), .inl x1, .inl x2, .inl x3] σ Q :=
  (w_mk (mid := 148) (by decide) rfl rfl rfl rfl rfl (Nat.le_of_ble_eq_true rfl) ⟨rfl, Or.inl (by decide)⟩ (wi_iload1 fMoon_sheet_0 (wi_bipush fMoon_sheet_1 (wi_bipush fMoon_sheet_2 (wi_call3 fMoon_sheet_3 (Nat.le_of_ble_eq_true rfl) (k_Moon_isWithin (wi_ifb_eq fMoon_sheet_4 (fun c5 => (wi_bipush fMoon_sheet_13 (wi_ret1 fMoon_sheet_14 (h.1 c5)))) (fun c5 => (wi_iload2 fMoon_sheet_5 (wi_bipush fMoon_sheet_6 (wi_bipush fMoon_sheet_7 (wi_call3 fMoon_sheet_8 (Nat.le_of_ble_eq_true rfl) (k_Moon_isWithin (wi_ifb_eq fMoon_sheet_9 (fun c4 => (wi_bipush fMoon_sheet_13 (wi_ret1 fMoon_sheet_14 ((h.2 c5).1 c4)))) (fun c4 => (wi_iload3 fMoon_sheet_10 (wi_bipush fMoon_sheet_11 (wi_ic_le fMoon_sheet_12 (fun c3 => (wi_iload3 fMoon_sheet_15 (wi_if_ge fMoon_sheet_16 (fun c2 => (wi_aload0 fMoon_sheet_19 (wi_getf6 fMoon_sheet_20 (wi_iload1 fMoon_sheet_21 (wi_iload2 fMoon_sheet_22 (wi_iload3 fMoon_sheet_23 (wi_call4 fMoon_sheet_24 (Nat.le_of_ble_eq_true rfl) (k_Sheets_renew ((((h.2 c5).2 c4).1 c3).1 c2).1 (fun τ1 eτ1 => (wi_bipush fMoon_sheet_25 (wi_ret1 fMoon_sheet_26 (((((h.2 c5).2 c4).1 c3).1 c2).2 τ1 eτ1)))))))))))) (fun c2 => (wi_bipush fMoon_sheet_17 (wi_ret1 fMoon_sheet_18 ((((h.2 c5).2 c4).1 c3).2 c2))))))) (fun c3 => (wi_bipush fMoon_sheet_13 (wi_ret1 fMoon_sheet_14 (((h.2 c5).2 c4).2 c3))))))))))))))))))))))
theorem k_Moon_sheet {xs : List Int} {d : Nat} {Q : Option w_V → w_M → Prop} {x1 : Int} {x2 : Int} {x3 : Int} {σ : w_M} (hp : p_Moon_sheet x1 x2 x3 σ) (hQ : ∀ (x : Int) (σ' : w_M), q_Moon_sheet x1 x2 x3 σ x σ' → Q (some (.inl x)) σ') : w_Call (xs, d + 2) 148 [.inr (.inr (0, 0)), .inl x1, .inl x2, .inl x3] σ Q := by
  have hC : CI σ := hp
  unfold q_Moon_sheet at hQ
  have bad : ¬ P_sheet x1 x2 x3 → Q (some (.inl (-1))) σ := fun h => by
    have e1 : F_sheet (cS σ) x1 x2 x3 = -1 := if_neg h
    have e2 : G_sheet (cS σ) x1 x2 x3 = cS σ := if_neg (fun q => h q.1)
    rw [e1, e2] at hQ
    exact hQ _ _ (c_qr hC rfl)
  refine bMoon_sheet_0 ⟨fun c => bad (fun q => c q.1.1), fun c => ⟨fun c2 => bad (fun q => c2 q.1.2), fun c2 => ⟨fun c3 => ⟨fun c4 => ⟨⟨c.1, by omega⟩, fun τ hq => ?_⟩, fun c4 => ?_⟩, fun c3 => bad (fun q => by have := q.2; omega)⟩⟩⟩
  · have hP : P_sheet x1 x2 x3 := ⟨⟨c, c2⟩, c3⟩
    have e1 : F_sheet (cS σ) x1 x2 x3 = 1 := (if_pos hP).trans (if_neg (by omega))
    have e2 : G_sheet (cS σ) x1 x2 x3 = w_sp (cS σ) 4 (shNew (h_ab σ) x1.toNat x2 x3) := if_pos ⟨hP, c4⟩
    rw [e1, e2] at hQ
    have t : τ = f_fill (w_up (w_up σ 86 x1.toNat x2) 87 x1.toNat x3) (82 + x1.toNat) 40 0 := hq
    have hk4 : x1.toNat < 4 := by omega
    refine hQ _ _ (c_q4 hC (fun b hb => ?_) ?_ (shNew_WF hC.1.2.2.2.2.1 c2 ⟨c4, c3⟩) rfl)
    · rw [t, f_fill_ne (by omega), w_up_ne (by omega), w_up_ne (by omega)]
    · have t87 : τ 87 = w_up σ 87 x1.toNat x3 87 := by
        rw [t, f_fill_ne (by omega)]
        funext j
        show (if 87 = 87 ∧ j = x1.toNat then x3 else w_up σ 86 x1.toNat x2 87 j) = (if 87 = 87 ∧ j = x1.toNat then x3 else σ 87 j)
        rw [w_up_ne (show 87 ≠ 86 by decide)]
      have t86 : τ 86 = w_up σ 86 x1.toNat x2 86 := by rw [t, f_fill_ne (by omega), w_up_ne (by decide)]
      funext q j
      unfold h_ab shNew
      by_cases hq4 : q < 4
      · rw [if_pos hq4]
        by_cases hqk : q = x1.toNat
        · rw [if_pos hqk, t87, t86, hqk, w_up_at, w_up_at, if_neg (by omega)]
          by_cases hj0 : j = 0
          · rw [if_pos hj0, if_pos hj0]
          · rw [if_neg hj0, if_neg hj0]
            by_cases hj1 : j = 1
            · rw [if_pos hj1, if_pos hj1]
            · rw [if_neg hj1, if_neg hj1]
              by_cases hj : j < 42
              · rw [if_pos hj, t, f_fill_at (by omega)]
              · rw [if_neg hj]
        · rw [if_neg hqk, t87, t86, w_up_j hqk, w_up_j hqk]
          show _ = h_ab σ q j
          unfold h_ab
          rw [if_pos hq4, t, f_fill_ne (by omega), w_up_ne (by omega), w_up_ne (by omega)]
      · rw [if_neg hq4, if_neg (by omega)]
        show 0 = h_ab σ q j
        unfold h_ab
        rw [if_neg hq4]
  · have hP : P_sheet x1 x2 x3 := ⟨⟨c, c2⟩, c3⟩
    have e1 : F_sheet (cS σ) x1 x2 x3 = -14 := (if_pos hP).trans (if_pos c4)
    have e2 : G_sheet (cS σ) x1 x2 x3 = cS σ := if_neg (fun q => by have := q.2; omega)
    rw [e1, e2] at hQ
    exact hQ _ _ (c_qr hC rfl)
theorem c_has {σ : w_M} {k i : Int} (hC : CI σ) (hk : 0 ≤ k ∧ k ≤ 3) (hn : ¬ h_ab σ k.toNat 0 = -4) : P_Sheets_hasCell k i σ ↔ 0 ≤ i ∧ i < h_ab σ k.toNat 0 := by
  have h4 : k.toNat < 4 := by omega
  have h87 : ¬ σ 87 k.toNat < 0 := fun q => hn (h_ab_no h4 q)
  have e := (h_ab_yes h4 h87).1
  have hw := (hC.sh h4).resolve_left hn
  have es : v_Sheets_sizeOf k σ = σ 87 k.toNat := by unfold v_Sheets_sizeOf; rw [if_pos ⟨by omega, h87⟩]
  unfold P_Sheets_hasCell
  rw [es, ← e]
  omega
noncomputable def p_Moon_lay (_x1 : Int) (_x2 : Int) (_x3 : Int) (σ : w_M) : Prop := CI σ
noncomputable def q_Moon_lay (x1 : Int) (x2 : Int) (x3 : Int) (σ : w_M) (x : Int) (σ' : w_M) : Prop := c_q (F_lay (cS σ) x1 x2 x3) (G_lay (cS σ) x1 x2 x3) σ x σ'
theorem fMoon_lay_0 : w_fe am_c149 0 1 (.iload 1) := ⟨rfl, rfl⟩
theorem fMoon_lay_1 : w_fe am_c149 1 2 (.bipush 0) := ⟨rfl, rfl⟩
theorem fMoon_lay_2 : w_fe am_c149 2 3 (.bipush 3) := ⟨rfl, rfl⟩
theorem fMoon_lay_3 : w_fe am_c149 3 4 (.invokestatic 107) := ⟨rfl, rfl⟩
theorem fMoon_lay_4 : w_if am_c149 4 5 .ne 7 := ⟨rfl, rfl⟩
theorem fMoon_lay_5 : w_fe am_c149 5 6 (.bipush (-1)) := ⟨rfl, rfl⟩
theorem fMoon_lay_6 : w_fe am_c149 6 7 (.ireturn) := ⟨rfl, rfl⟩
theorem fMoon_lay_7 : w_fe am_c149 7 8 (.aload 0) := ⟨rfl, rfl⟩
theorem fMoon_lay_8 : w_fe am_c149 8 9 (.getfield 6) := ⟨rfl, rfl⟩
theorem fMoon_lay_9 : w_fe am_c149 9 10 (.iload 1) := ⟨rfl, rfl⟩
theorem fMoon_lay_10 : w_fe am_c149 10 11 (.invokestatic 97) := ⟨rfl, rfl⟩
theorem fMoon_lay_11 : w_if am_c149 11 12 .eq 14 := ⟨rfl, rfl⟩
theorem fMoon_lay_12 : w_fe am_c149 12 13 (.bipush (-11)) := ⟨rfl, rfl⟩
theorem fMoon_lay_13 : w_fe am_c149 13 14 (.ireturn) := ⟨rfl, rfl⟩
theorem fMoon_lay_14 : w_fe am_c149 14 15 (.aload 0) := ⟨rfl, rfl⟩
theorem fMoon_lay_15 : w_fe am_c149 15 16 (.getfield 6) := ⟨rfl, rfl⟩
theorem fMoon_lay_16 : w_fe am_c149 16 17 (.iload 1) := ⟨rfl, rfl⟩
theorem fMoon_lay_17 : w_fe am_c149 17 18 (.iload 2) := ⟨rfl, rfl⟩
theorem fMoon_lay_18 : w_fe am_c149 18 19 (.invokestatic 98) := ⟨rfl, rfl⟩
theorem fMoon_lay_19 : w_if am_c149 19 20 .ne 22 := ⟨rfl, rfl⟩
theorem fMoon_lay_20 : w_fe am_c149 20 21 (.bipush (-12)) := ⟨rfl, rfl⟩
theorem fMoon_lay_21 : w_fe am_c149 21 22 (.ireturn) := ⟨rfl, rfl⟩
theorem fMoon_lay_22 : w_fe am_c149 22 23 (.aload 0) := ⟨rfl, rfl⟩
theorem fMoon_lay_23 : w_fe am_c149 23 24 (.getfield 6) := ⟨rfl, rfl⟩
theorem fMoon_lay_24 : w_fe am_c149 24 25 (.iload 1) := ⟨rfl, rfl⟩
theorem fMoon_lay_25 : w_fe am_c149 25 26 (.iload 2) := ⟨rfl, rfl⟩
theorem fMoon_lay_26 : w_fe am_c149 26 27 (.iload 3) := ⟨rfl, rfl⟩
theorem fMoon_lay_27 : w_fe am_c149 27 28 (.invokestatic 100) := ⟨rfl, rfl⟩
theorem fMoon_lay_28 : w_fe am_c149 28 29 (.bipush 1) := ⟨rfl, rfl⟩
theorem fMoon_lay_29 : w_fe am_c149 29 30 (.ireturn) := ⟨rfl, rfl⟩
set_option maxRecDepth 20000 in
theorem bMoon_lay_0 {xs : List Int} {d : Nat} {Q : Option w_V → w_M → Prop} {x1 : Int} {x2 : Int} {x3 : Int} {σ : w_M}
    (h : ((0 ≤ x1 ∧ x1 ≤ 3) → ((¬ (¬ ((0 : Int) ≤ x1 ∧ x1 < (4 : Int)) ∨ σ 87 (Int.toNat x1) < 0) → (((P_Sheets_hasCell x1 x2 σ) → (p_Sheets_put x1 x2 x3 σ ∧ (∀ (τ1 : w_M), q_Sheets_put x1 x2 x3 σ τ1 → Q (some (.inl 1)) τ1))) ∧ (¬ (P_Sheets_hasCell x1 x2 σ) → Q (some (.inl (-12))) σ))) ∧ ((¬ ((0 : Int) ≤ x1 ∧ x1 < (4 : Int)) ∨ σ 87 (Int.toNat x1) < 0) → Q (some (.inl (-11))) σ))) ∧ (¬ (0 ≤ x1 ∧ x1 ≤ 3) → Q (some (.inl (-1))) σ)) : w_Call (xs, (d + 5)) 149 [.inr (.inr (0, 0)), .inl x1, .inl x2, .inl x3] σ Q :=
  (w_mk (mid := 149) (by decide) rfl rfl rfl rfl rfl (Nat.le_of_ble_eq_true rfl) ⟨rfl, Or.inl (by decide)⟩ (wi_iload1 fMoon_lay_0 (wi_bipush fMoon_lay_1 (wi_bipush fMoon_lay_2 (wi_call3 fMoon_lay_3 (Nat.le_of_ble_eq_true rfl) (k_Moon_isWithin (wi_ifb_ne fMoon_lay_4 (fun c4 => (wi_aload0 fMoon_lay_7 (wi_getf6 fMoon_lay_8 (wi_iload1 fMoon_lay_9 (wi_call2 fMoon_lay_10 (Nat.le_of_ble_eq_true rfl) (k_Sheets_isNothing (wi_ifb_eq fMoon_lay_11 (fun c3 => (wi_aload0 fMoon_lay_14 (wi_getf6 fMoon_lay_15 (wi_iload1 fMoon_lay_16 (wi_iload2 fMoon_lay_17 (wi_call3 fMoon_lay_18 (Nat.le_of_ble_eq_true rfl) (k_Sheets_hasCell (wi_ifb_ne fMoon_lay_19 (fun c2 => (wi_aload0 fMoon_lay_22 (wi_getf6 fMoon_lay_23 (wi_iload1 fMoon_lay_24 (wi_iload2 fMoon_lay_25 (wi_iload3 fMoon_lay_26 (wi_call4 fMoon_lay_27 (Nat.le_of_ble_eq_true rfl) (k_Sheets_put (((h.1 c4).1 c3).1 c2).1 (fun τ1 eτ1 => (wi_bipush fMoon_lay_28 (wi_ret1 fMoon_lay_29 ((((h.1 c4).1 c3).1 c2).2 τ1 eτ1)))))))))))) (fun c2 => (wi_bipush fMoon_lay_20 (wi_ret1 fMoon_lay_21 (((h.1 c4).1 c3).2 c2)))))))))))) (fun c3 => (wi_bipush fMoon_lay_12 (wi_ret1 fMoon_lay_13 ((h.1 c4).2 c3))))))))))) (fun c4 => (wi_bipush fMoon_lay_5 (wi_ret1 fMoon_lay_6 (h.2 c4)))))))))))
theorem k_Moon_lay {xs : List Int} {d : Nat} {Q : Option w_V → w_M → Prop} {x1 : Int} {x2 : Int} {x3 : Int} {σ : w_M} (hp : p_Moon_lay x1 x2 x3 σ) (hQ : ∀ (x : Int) (σ' : w_M), q_Moon_lay x1 x2 x3 σ x σ' → Q (some (.inl x)) σ') : w_Call (xs, d + 5) 149 [.inr (.inr (0, 0)), .inl x1, .inl x2, .inl x3] σ Q := by
  have hC : CI σ := hp
  unfold q_Moon_lay F_lay G_lay at hQ
  have e4 : cS σ 4 = h_ab σ := rfl
  rw [e4] at hQ
  refine bMoon_lay_0 ⟨fun c => ?_, fun c => ?_⟩
  · have h4 : x1.toNat < 4 := by omega
    rw [if_pos c] at hQ
    refine ⟨fun c2 => ?_, fun c2 => ?_⟩
    · have h87 : ¬ σ 87 x1.toNat < 0 := fun q => c2 (Or.inr q)
      have hn : ¬ h_ab σ x1.toNat 0 = -4 := fun q => h87 ((h_ab_no_iff h4).mp q)
      obtain ⟨e0, e1, e2⟩ := h_ab_yes h4 h87
      have hw := (hC.sh h4).resolve_left hn
      rw [if_neg hn] at hQ
      refine ⟨fun c3 => ⟨⟨by omega, c3⟩, fun τ t => ?_⟩, fun c3 => ?_⟩
      · have c3' := (c_has hC c hn).mp c3
        rw [if_pos c3', if_pos ⟨c, hn, c3'⟩] at hQ
        have t' : τ = w_up σ (82 + x1.toNat) x2.toNat (shVal (σ 86 x1.toNat) x3) := t
        refine hQ _ _ (c_q4 hC (by rw [t']; exact w_fr.up0 (by omega) (by omega)) ?_ (shLay_WF hC.1.2.2.2.2.1) rfl)
        funext q j
        have f87 : τ 87 = σ 87 := by rw [t', w_up_ne (by omega)]
        have f86 : τ 86 = σ 86 := by rw [t', w_up_ne (by omega)]
        rw [w_up_eq]
        show _ = if q = x1.toNat ∧ j = 2 + x2.toNat then shVal (h_ab σ x1.toNat 1) x3 else h_ab σ q j
        by_cases hq : q = x1.toNat
        · subst hq
          have h87t : ¬ τ 87 x1.toNat < 0 := by rw [f87]; exact h87
          obtain ⟨d0, d1, d2⟩ := h_ab_yes h4 h87t
          by_cases hj : j = 2 + x2.toNat
          · rw [if_pos ⟨rfl, hj⟩, hj, d2 _ (by omega), t', w_up_at, e1]
          · rw [if_neg (fun e => hj e.2)]
            unfold h_ab
            rw [f87, f86, t', w_up_eq]
            by_cases hj0 : j = 0
            · rw [hj0]; rfl
            · by_cases hj1 : j = 1
              · rw [hj1]; rfl
              · rw [if_neg (show ¬ (82 + x1.toNat = 82 + x1.toNat ∧ j - 2 = x2.toNat) by omega)]
        · rw [if_neg (fun e => hq e.1)]
          unfold h_ab
          rw [f87, f86, t', w_up_ne (by omega)]
      · rw [if_neg (fun q => c3 ((c_has hC c hn).mpr q)), if_neg (fun q => c3 ((c_has hC c hn).mpr q.2.2))] at hQ
        exact hQ _ _ (c_qr hC rfl)
    · have h87 : σ 87 x1.toNat < 0 := by
        rcases c2 with h | h
        · exact absurd (show 0 ≤ x1 ∧ x1 < 4 by omega) h
        · exact h
      have hn := h_ab_no h4 h87
      rw [if_pos hn, if_neg (fun q => q.2.1 hn)] at hQ
      exact hQ _ _ (c_qr hC rfl)
  · rw [if_neg c, if_neg (fun q => c q.1)] at hQ
    exact hQ _ _ (c_qr hC rfl)
theorem w_bc : ∀ m, m < 4 → v_Integer_bitCount (m : Nat) = w_and (w_shr ((m : Nat) : Int) ((0 : Nat) : Int)) 1 + w_and (w_shr ((m : Nat) : Int) ((1 : Nat) : Int)) 1 := by decide +kernel
noncomputable def p_Moon_count (_x1 : Int) (σ : w_M) : Prop := CI σ
noncomputable def q_Moon_count (x1 : Int) (σ : w_M) (x : Int) (σ' : w_M) : Prop := c_q (F_count (cS σ) x1) (cS σ) σ x σ'
theorem fMoon_count_0 : w_fe am_c152 0 1 (.iload 1) := ⟨rfl, rfl⟩
theorem fMoon_count_1 {E : w_C} {rt : Nat} {Q : Option w_V → w_M → Prop} {ls : w_L} {st : List w_V} {σ : w_M} {x : Int} (h0 : x = 0 → w_Ex E rt am_c152 Q 2 ls st σ) (h1 : x = 1 → w_Ex E rt am_c152 Q 6 ls st σ) (h2 : x = 2 → w_Ex E rt am_c152 Q 10 ls st σ) (h3 : x = 3 → w_Ex E rt am_c152 Q 14 ls st σ) (h4 : x = 4 → w_Ex E rt am_c152 Q 19 ls st σ) (h5 : x = 5 → w_Ex E rt am_c152 Q 24 ls st σ) (h6 : x = 6 → w_Ex E rt am_c152 Q 28 ls st σ) (h7 : x = 7 → w_Ex E rt am_c152 Q 32 ls st σ) (hd : x < 0 ∨ 7 < x → w_Ex E rt am_c152 Q 44 ls st σ) : w_Ex E rt am_c152 Q 1 ls (.inl x :: st) σ :=
  w_Ex_in (op := .tableswitch 44 0 7 #[2, 6, 10, 14, 19, 24, 28, 32]) rfl ⟨rfl, hd, And.intro h0 (And.intro h1 (And.intro h2 (And.intro h3 (And.intro h4 (And.intro h5 (And.intro h6 (And.intro h7 ( trivial))))))))⟩
theorem fMoon_count_2 : w_fe am_c152 2 3 (.aload 0) := ⟨rfl, rfl⟩
theorem fMoon_count_3 : w_fe am_c152 3 4 (.getfield 2) := ⟨rfl, rfl⟩
theorem fMoon_count_4 : w_fe am_c152 4 5 (.invokestatic 51) := ⟨rfl, rfl⟩
theorem fMoon_count_5 : w_fe am_c152 5 6 (.ireturn) := ⟨rfl, rfl⟩
theorem fMoon_count_6 : w_fe am_c152 6 7 (.aload 0) := ⟨rfl, rfl⟩
theorem fMoon_count_7 : w_fe am_c152 7 8 (.getfield 2) := ⟨rfl, rfl⟩
theorem fMoon_count_8 : w_fe am_c152 8 9 (.invokestatic 52) := ⟨rfl, rfl⟩
theorem fMoon_count_9 : w_fe am_c152 9 10 (.ireturn) := ⟨rfl, rfl⟩
theorem fMoon_count_10 : w_fe am_c152 10 11 (.aload 0) := ⟨rfl, rfl⟩
theorem fMoon_count_11 : w_fe am_c152 11 12 (.getfield 2) := ⟨rfl, rfl⟩
theorem fMoon_count_12 : w_fe am_c152 12 13 (.invokestatic 50) := ⟨rfl, rfl⟩
theorem fMoon_count_13 : w_fe am_c152 13 14 (.ireturn) := ⟨rfl, rfl⟩
theorem fMoon_count_14 : w_fe am_c152 14 15 (.aload 0) := ⟨rfl, rfl⟩
theorem fMoon_count_15 : w_fe am_c152 15 16 (.getfield 1) := ⟨rfl, rfl⟩
theorem fMoon_count_16 : w_fe am_c152 16 17 (.getfield 301) := ⟨rfl, rfl⟩
theorem fMoon_count_17 : w_fe am_c152 17 18 (.getfield 400) := ⟨rfl, rfl⟩
theorem fMoon_count_18 : w_fe am_c152 18 19 (.ireturn) := ⟨rfl, rfl⟩
theorem fMoon_count_19 : w_fe am_c152 19 20 (.aload 0) := ⟨rfl, rfl⟩
theorem fMoon_count_20 : w_fe am_c152 20 21 (.getfield 1) := ⟨rfl, rfl⟩
theorem fMoon_count_21 : w_fe am_c152 21 22 (.getfield 302) := ⟨rfl, rfl⟩
theorem fMoon_count_22 : w_fe am_c152 22 23 (.getfield 500) := ⟨rfl, rfl⟩
theorem fMoon_count_23 : w_fe am_c152 23 24 (.ireturn) := ⟨rfl, rfl⟩
theorem fMoon_count_24 : w_fe am_c152 24 25 (.aload 0) := ⟨rfl, rfl⟩
theorem fMoon_count_25 : w_fe am_c152 25 26 (.getfield 7) := ⟨rfl, rfl⟩
theorem fMoon_count_26 : w_fe am_c152 26 27 (.invokestatic 3) := ⟨rfl, rfl⟩
theorem fMoon_count_27 : w_fe am_c152 27 28 (.ireturn) := ⟨rfl, rfl⟩
theorem fMoon_count_28 : w_fe am_c152 28 29 (.aload 0) := ⟨rfl, rfl⟩
theorem fMoon_count_29 : w_fe am_c152 29 30 (.getfield 0) := ⟨rfl, rfl⟩
theorem fMoon_count_30 : w_fe am_c152 30 31 (.getfield 101) := ⟨rfl, rfl⟩
theorem fMoon_count_31 : w_fe am_c152 31 32 (.ireturn) := ⟨rfl, rfl⟩
theorem fMoon_count_32 : w_fe am_c152 32 33 (.aload 0) := ⟨rfl, rfl⟩
theorem fMoon_count_33 : w_fe am_c152 33 34 (.getfield 6) := ⟨rfl, rfl⟩
theorem fMoon_count_34 : w_fe am_c152 34 35 (.bipush 0) := ⟨rfl, rfl⟩
theorem fMoon_count_35 : w_fe am_c152 35 36 (.invokestatic 97) := ⟨rfl, rfl⟩
theorem fMoon_count_36 : w_if am_c152 36 37 .eq 39 := ⟨rfl, rfl⟩
theorem fMoon_count_37 : w_fe am_c152 37 38 (.bipush (-4)) := ⟨rfl, rfl⟩
theorem fMoon_count_38 : w_gt am_c152 38 43 := rfl
theorem fMoon_count_39 : w_fe am_c152 39 40 (.aload 0) := ⟨rfl, rfl⟩
theorem fMoon_count_40 : w_fe am_c152 40 41 (.getfield 6) := ⟨rfl, rfl⟩
theorem fMoon_count_41 : w_fe am_c152 41 42 (.bipush 0) := ⟨rfl, rfl⟩
theorem fMoon_count_42 : w_fe am_c152 42 43 (.invokestatic 99) := ⟨rfl, rfl⟩
theorem fMoon_count_43 : w_fe am_c152 43 44 (.ireturn) := ⟨rfl, rfl⟩
theorem fMoon_count_44 : w_fe am_c152 44 45 (.bipush (-1)) := ⟨rfl, rfl⟩
theorem fMoon_count_45 : w_fe am_c152 45 46 (.ireturn) := ⟨rfl, rfl⟩
set_option maxRecDepth 20000 in
theorem bMoon_count_0 {xs : List Int} {d : Nat} {Q : Option w_V → w_M → Prop} {x1 : Int} {σ : w_M}
    (h : (x1 = 0 → (p_Field_stripsWithYards 14 σ ∧ (∀ (y1 : Int), y1 = v_Field_stripsWithYards 14 σ → Q (some (.inl y1)) σ))) ∧ (x1 = 1 → (p_Field_allWages 14 σ ∧ (∀ (y2 : Int), y2 = v_Field_allWages 14 σ → Q (some (.inl y2)) σ))) ∧ (x1 = 2 → (p_Field_allOil 14 σ ∧ (∀ (y3 : Int), y3 = v_Field_allOil 14 σ → Q (some (.inl y3)) σ))) ∧ (x1 = 3 → Q (some (.inl (σ 23 0))) σ) ∧ (x1 = 4 → Q (some (.inl (σ 27 0))) σ) ∧ (x1 = 5 → (p_Integer_bitCount (σ 0 7) ∧ (∀ (y4 : Int), y4 = v_Integer_bitCount (σ 0 7) → Q (some (.inl y4)) σ))) ∧ (x1 = 6 → Q (some (.inl (σ 1 1))) σ) ∧ (x1 = 7 → ((¬ (¬ ((0 : Int) ≤ 0 ∧ 0 < (4 : Int)) ∨ σ 87 (Int.toNat 0) < 0) → ∀ (y5 : Int), y5 = v_Sheets_sizeOf 0 σ → Q (some (.inl y5)) σ) ∧ ((¬ ((0 : Int) ≤ 0 ∧ 0 < (4 : Int)) ∨ σ 87 (Int.toNat 0) < 0) → Q (some (.inl (-4))) σ))) ∧ (x1 < 0 ∨ 7 < x1 → Q (some (.inl (-1))) σ)) : w_Call (xs, (d + 3)) 152 [.inr (.inr (0, 0)), .inl x1] σ Q :=
  (w_mk (mid := 152) (by decide) rfl rfl rfl rfl rfl (Nat.le_of_ble_eq_true rfl) ⟨rfl, Or.inl (by decide)⟩ (wi_iload1 fMoon_count_0 (fMoon_count_1 (fun c => (wi_aload0 fMoon_count_2 (wi_getf2 fMoon_count_3 (wi_call1 fMoon_count_4 (Nat.le_of_ble_eq_true rfl) (k_Field_stripsWithYards (h.1 c).1 (wi_ret1 fMoon_count_5 ((h.1 c).2 _ rfl))))))) (fun c => (wi_aload0 fMoon_count_6 (wi_getf2 fMoon_count_7 (wi_call1 fMoon_count_8 (Nat.le_of_ble_eq_true rfl) (k_Field_allWages (h.2.1 c).1 (wi_ret1 fMoon_count_9 ((h.2.1 c).2 _ rfl))))))) (fun c => (wi_aload0 fMoon_count_10 (wi_getf2 fMoon_count_11 (wi_call1 fMoon_count_12 (Nat.le_of_ble_eq_true rfl) (k_Field_allOil (h.2.2.1 c).1 (wi_ret1 fMoon_count_13 ((h.2.2.1 c).2 _ rfl))))))) (fun c => (wi_aload0 fMoon_count_14 (wi_getf1 fMoon_count_15 (wi_getf301 fMoon_count_16 (wi_getf400 fMoon_count_17 (wi_ret1 fMoon_count_18 (h.2.2.2.1 c))))))) (fun c => (wi_aload0 fMoon_count_19 (wi_getf1 fMoon_count_20 (wi_getf302 fMoon_count_21 (wi_getf500 fMoon_count_22 (wi_ret1 fMoon_count_23 (h.2.2.2.2.1 c))))))) (fun c => (wi_aload0 fMoon_count_24 (wi_getf7 fMoon_count_25 (wi_call1 fMoon_count_26 (Nat.le_of_ble_eq_true rfl) (k_Integer_bitCount (h.2.2.2.2.2.1 c).1 (wi_ret1 fMoon_count_27 ((h.2.2.2.2.2.1 c).2 _ rfl))))))) (fun c => (wi_aload0 fMoon_count_28 (wi_getf0 fMoon_count_29 (wi_getf101 fMoon_count_30 (wi_ret1 fMoon_count_31 (h.2.2.2.2.2.2.1 c)))))) (fun c => (wi_aload0 fMoon_count_32 (wi_getf6 fMoon_count_33 (wi_bipush fMoon_count_34 (wi_call2 fMoon_count_35 (Nat.le_of_ble_eq_true rfl) (k_Sheets_isNothing (wi_ifb_eq fMoon_count_36 (fun c6 => (wi_aload0 fMoon_count_39 (wi_getf6 fMoon_count_40 (wi_bipush fMoon_count_41 (wi_call2 fMoon_count_42 (Nat.le_of_ble_eq_true rfl) (k_Sheets_sizeOf (wi_ret1 fMoon_count_43 (((h.2.2.2.2.2.2.2.1 c).1 c6) _ rfl)))))))) (fun c6 => (wi_bipush fMoon_count_37 (wi_goto fMoon_count_38 (wi_ret1 fMoon_count_43 ((h.2.2.2.2.2.2.2.1 c).2 c6)))))))))))) (fun c => (wi_bipush fMoon_count_44 (wi_ret1 fMoon_count_45 (h.2.2.2.2.2.2.2.2 c)))))))
theorem k_Moon_count {xs : List Int} {d : Nat} {Q : Option w_V → w_M → Prop} {x1 : Int} {σ : w_M} (hp : p_Moon_count x1 σ) (hQ : ∀ (x : Int) (σ' : w_M), q_Moon_count x1 σ x σ' → Q (some (.inl x)) σ') : w_Call (xs, d + 3) 152 [.inr (.inr (0, 0)), .inl x1] σ Q := by
  have hC : CI σ := hp
  have hok := hC.ok
  unfold q_Moon_count F_count at hQ
  refine bMoon_count_0 ⟨fun c => ⟨hok, fun y e => ?_⟩, fun c => ⟨hok, fun y e => ?_⟩, fun c => ⟨hok, fun y e => ?_⟩, fun c => ?_, fun c => ?_, fun c => ⟨hC.2.2.1, fun y e => ?_⟩, fun c => ?_, fun c => ⟨fun c2 => fun y e => ?_, fun c2 => ?_⟩, fun c => ?_⟩
  · rw [if_pos c] at hQ; exact hQ _ _ (c_qr hC e)
  · rw [if_neg (by omega), if_pos c] at hQ; exact hQ _ _ (c_qr hC e)
  · rw [if_neg (by omega), if_neg (by omega), if_pos c] at hQ; exact hQ _ _ (c_qr hC e)
  · rw [if_neg (by omega), if_neg (by omega), if_neg (by omega), if_pos c] at hQ; exact hQ _ _ (c_qr hC rfl)
  · rw [if_neg (by omega), if_neg (by omega), if_neg (by omega), if_neg (by omega), if_pos c] at hQ; exact hQ _ _ (c_qr hC rfl)
  · rw [if_neg (by omega), if_neg (by omega), if_neg (by omega), if_neg (by omega), if_neg (by omega), if_pos c] at hQ
    refine hQ _ _ (c_qr hC ?_)
    rw [e, cS_11 (by decide), cS_11 (by decide)]
    obtain ⟨m, em⟩ := Int.eq_ofNat_of_zero_le hC.2.2.1.1
    unfold k_ab
    rw [em]
    exact w_bc m (by have := hC.2.2.1.2; omega)
  · rw [if_neg (by omega), if_neg (by omega), if_neg (by omega), if_neg (by omega), if_neg (by omega), if_neg (by omega), if_pos c] at hQ; exact hQ _ _ (c_qr hC rfl)
  · rw [if_neg (by omega), if_neg (by omega), if_neg (by omega), if_neg (by omega), if_neg (by omega), if_neg (by omega), if_neg (by omega), if_pos c] at hQ
    have h87 : ¬ σ 87 0 < 0 := fun q => c2 (Or.inr q)
    refine hQ _ _ (c_qr hC ?_)
    show y = h_ab σ 0 0
    rw [e, (h_ab_yes (by decide) h87).1]
    unfold v_Sheets_sizeOf
    rw [if_pos ⟨by decide, h87⟩]
    rfl
  · rw [if_neg (by omega), if_neg (by omega), if_neg (by omega), if_neg (by omega), if_neg (by omega), if_neg (by omega), if_neg (by omega), if_pos c] at hQ
    have h87 : σ 87 0 < 0 := by
      rcases c2 with h | h
      · exact absurd (by decide) h
      · exact h
    exact hQ _ _ (c_qr hC (h_ab_no (by decide) h87).symm)
  · rw [if_neg (by omega), if_neg (by omega), if_neg (by omega), if_neg (by omega), if_neg (by omega), if_neg (by omega), if_neg (by omega), if_neg (by omega)] at hQ; exact hQ _ _ (c_qr hC rfl)
end
section
/-! Sheets, counts: the reference -/
theorem m_q4 {σ σ' : w_M} {H : w_M} {F x : Int} (hM : MI σ) (h : ∀ b, b < 130 ∨ 132 < b → σ' b = σ b) (hH : h_am σ' = H) (hW : shWF H) (hx : x = F) : m_q F (w_sp (mS σ) 4 H) σ x σ' := by
  have e : mS σ' = w_sp (mS σ) 4 H := by rw [mS_part4 hM (h 122 (by omega)) (fun b hb => h b (by omega)), hH]
  exact ⟨hx, by unfold MI; rw [e]; exact sWF_4 hM hW, e, fun b hb => h b (by omega), by rw [h 122 (by omega)]⟩
theorem MI.sh {σ : w_M} (h : MI σ) {k : Nat} (hk : k < 4) : h_am σ k 0 = -4 ∨ ((0 ≤ h_am σ k 0 ∧ h_am σ k 0 ≤ 40) ∧ (0 ≤ h_am σ k 1 ∧ h_am σ k 1 ≤ 2)) := h.2.2.2.2.1 k hk
theorem h_am_no {σ : w_M} {k : Nat} (hk : k < 4) (h : σ 130 k = -4) : h_am σ k 0 = -4 := by
  unfold h_am
  rw [if_pos hk, if_pos h, if_pos rfl]
theorem h_am_yes {σ : w_M} {k : Nat} (hM : MI σ) (hk : k < 4) (h : ¬ σ 130 k = -4) : h_am σ k 0 = σ 131 k ∧ h_am σ k 1 = σ 130 k ∧ (0 ≤ σ 131 k ∧ σ 131 k ≤ 40) ∧ (0 ≤ σ 130 k ∧ σ 130 k ≤ 2) ∧ ∀ j, j < 40 → h_am σ k (2 + j) = σ 132 (40 * k + j) := by
  have e0 : h_am σ k 0 = if σ 131 k < 0 then -5 else σ 131 k := by unfold h_am; rw [if_pos hk, if_neg h, if_pos rfl]
  have e1 : h_am σ k 1 = σ 130 k := by unfold h_am; rw [if_pos hk, if_neg h, if_neg (by decide), if_pos rfl]
  have hw := hM.sh hk
  rw [e0, e1] at hw
  have hn : ¬ σ 131 k < 0 := fun q => by rw [if_pos q] at hw; omega
  rw [if_neg hn] at hw e0
  have hw2 := hw.resolve_left (by omega)
  refine ⟨e0, e1, hw2.1, hw2.2, fun j hj => ?_⟩
  unfold h_am
  rw [if_pos hk, if_neg h, if_neg (by omega), if_neg (by omega), if_pos (by omega), show 2 + j - 2 = j by omega]
theorem fModel_isSheet_0 : w_fe am_c234 0 1 (.iload 0) := ⟨rfl, rfl⟩
theorem fModel_isSheet_1 : w_fe am_c234 1 2 (.i2l) := ⟨rfl, rfl⟩
theorem fModel_isSheet_2 : w_fe am_c234 2 3 (.sipush 0) := ⟨rfl, rfl⟩
theorem fModel_isSheet_3 : w_fe am_c234 3 4 (.sipush 3) := ⟨rfl, rfl⟩
theorem fModel_isSheet_4 : w_fe am_c234 4 5 (.invokestatic 157) := ⟨rfl, rfl⟩
theorem fModel_isSheet_5 : w_if am_c234 5 6 .eq 14 := ⟨rfl, rfl⟩
theorem fModel_isSheet_6 : w_fe am_c234 6 7 (.iload 1) := ⟨rfl, rfl⟩
theorem fModel_isSheet_7 : w_fe am_c234 7 8 (.i2l) := ⟨rfl, rfl⟩
theorem fModel_isSheet_8 : w_fe am_c234 8 9 (.sipush 0) := ⟨rfl, rfl⟩
theorem fModel_isSheet_9 : w_fe am_c234 9 10 (.sipush 2) := ⟨rfl, rfl⟩
theorem fModel_isSheet_10 : w_fe am_c234 10 11 (.invokestatic 157) := ⟨rfl, rfl⟩
theorem fModel_isSheet_11 : w_if am_c234 11 12 .eq 14 := ⟨rfl, rfl⟩
theorem fModel_isSheet_12 : w_fe am_c234 12 13 (.bipush 1) := ⟨rfl, rfl⟩
theorem fModel_isSheet_13 : w_gt am_c234 13 15 := rfl
theorem fModel_isSheet_14 : w_fe am_c234 14 15 (.bipush 0) := ⟨rfl, rfl⟩
theorem fModel_isSheet_15 : w_fe am_c234 15 16 (.ireturn) := ⟨rfl, rfl⟩
set_option maxRecDepth 20000 in
theorem bModel_isSheet_0 {xs : List Int} {d : Nat} {Q : Option w_V → w_M → Prop} {x0 : Int} {x1 : Int} {σ : w_M}
    (h : (¬ (0 ≤ x0 ∧ x0 ≤ 3) → Q (some (.inl 0)) σ) ∧ ((0 ≤ x0 ∧ x0 ≤ 3) → ((¬ (0 ≤ x1 ∧ x1 ≤ 2) → Q (some (.inl 0)) σ) ∧ ((0 ≤ x1 ∧ x1 ≤ 2) → Q (some (.inl 1)) σ)))) : w_Call (xs, (d + 1)) 234 [.inl x0, .inl x1] σ Q :=
  (w_mk (mid := 234) (by decide) rfl rfl rfl rfl rfl (Nat.le_of_ble_eq_true rfl) trivial (wi_iload0 fModel_isSheet_0 (wi_i2l fModel_isSheet_1 (wi_sipush fModel_isSheet_2 (wi_sipush fModel_isSheet_3 (wi_call3 fModel_isSheet_4 (Nat.le_of_ble_eq_true rfl) (k_Model_in (wi_ifb_eq fModel_isSheet_5 (fun c2 => (wi_bipush fModel_isSheet_14 (wi_ret2 fModel_isSheet_15 (by decide) (h.1 c2)))) (fun c2 => (wi_iload1 fModel_isSheet_6 (wi_i2l fModel_isSheet_7 (wi_sipush fModel_isSheet_8 (wi_sipush fModel_isSheet_9 (wi_call3 fModel_isSheet_10 (Nat.le_of_ble_eq_true rfl) (k_Model_in (wi_ifb_eq fModel_isSheet_11 (fun c1 => (wi_bipush fModel_isSheet_14 (wi_ret2 fModel_isSheet_15 (by decide) ((h.2 c2).1 c1)))) (fun c1 => (wi_bipush fModel_isSheet_12 (wi_goto fModel_isSheet_13 (wi_ret2 fModel_isSheet_15 (by decide) ((h.2 c2).2 c1)))))))))))))))))))))
theorem k_Model_isSheet {xs : List Int} {d : Nat} {Q : Option w_V → w_M → Prop} {x0 : Int} {x1 : Int} {σ : w_M} (hQ : Q (some (.inl (w_bi ((0 ≤ x0 ∧ x0 ≤ 3) ∧ ((0 : Int) ≤ x1 ∧ x1 ≤ (2 : Int)))))) σ) : w_Call (xs, d + 1) 234 [.inl x0, .inl x1] σ Q := by
  refine bModel_isSheet_0 ⟨fun c => ?_, fun c => ⟨fun c2 => ?_, fun c2 => ?_⟩⟩
  · rw [w_bi_f (fun q => c q.1)] at hQ; exact hQ
  · rw [w_bi_f (fun q => c2 q.2)] at hQ; exact hQ
  · rw [w_bi_t ⟨c, c2⟩] at hQ; exact hQ
noncomputable def p_Model_sheet (_x1 : Int) (_x2 : Int) (_x3 : Int) (σ : w_M) : Prop := MI σ
noncomputable def q_Model_sheet (x1 : Int) (x2 : Int) (x3 : Int) (σ : w_M) (x : Int) (σ' : w_M) : Prop := m_q (F_sheet (mS σ) x1 x2 x3) (G_sheet (mS σ) x1 x2 x3) σ x σ'
theorem fModel_sheet_0 : w_fe am_c233 0 1 (.iload 1) := ⟨rfl, rfl⟩
theorem fModel_sheet_1 : w_fe am_c233 1 2 (.iload 2) := ⟨rfl, rfl⟩
theorem fModel_sheet_2 : w_fe am_c233 2 3 (.invokestatic 234) := ⟨rfl, rfl⟩
theorem fModel_sheet_3 : w_if am_c233 3 4 .eq 7 := ⟨rfl, rfl⟩
theorem fModel_sheet_4 : w_fe am_c233 4 5 (.iload 3) := ⟨rfl, rfl⟩
theorem fModel_sheet_5 : w_fe am_c233 5 6 (.bipush 40) := ⟨rfl, rfl⟩
theorem fModel_sheet_6 : w_ic am_c233 6 7 .le 9 := ⟨rfl, rfl⟩
theorem fModel_sheet_7 : w_fe am_c233 7 8 (.bipush (-1)) := ⟨rfl, rfl⟩
theorem fModel_sheet_8 : w_fe am_c233 8 9 (.ireturn) := ⟨rfl, rfl⟩
theorem fModel_sheet_9 : w_fe am_c233 9 10 (.iload 3) := ⟨rfl, rfl⟩
theorem fModel_sheet_10 : w_if am_c233 10 11 .ge 13 := ⟨rfl, rfl⟩
theorem fModel_sheet_11 : w_fe am_c233 11 12 (.bipush (-14)) := ⟨rfl, rfl⟩
theorem fModel_sheet_12 : w_fe am_c233 12 13 (.ireturn) := ⟨rfl, rfl⟩
theorem fModel_sheet_13 : w_fe am_c233 13 14 (.aload 0) := ⟨rfl, rfl⟩
theorem fModel_sheet_14 : w_fe am_c233 14 15 (.getfield 924) := ⟨rfl, rfl⟩
theorem fModel_sheet_15 : w_fe am_c233 15 16 (.iload 1) := ⟨rfl, rfl⟩
theorem fModel_sheet_16 : w_fe am_c233 16 17 (.iload 2) := ⟨rfl, rfl⟩
theorem fModel_sheet_17 : w_fe am_c233 17 18 (.iastore) := ⟨rfl, rfl⟩
theorem fModel_sheet_18 : w_fe am_c233 18 19 (.aload 0) := ⟨rfl, rfl⟩
theorem fModel_sheet_19 : w_fe am_c233 19 20 (.getfield 925) := ⟨rfl, rfl⟩
theorem fModel_sheet_20 : w_fe am_c233 20 21 (.iload 1) := ⟨rfl, rfl⟩
theorem fModel_sheet_21 : w_fe am_c233 21 22 (.iload 3) := ⟨rfl, rfl⟩
theorem fModel_sheet_22 : w_fe am_c233 22 23 (.iastore) := ⟨rfl, rfl⟩
theorem fModel_sheet_23 : w_fe am_c233 23 24 (.bipush 0) := ⟨rfl, rfl⟩
theorem fModel_sheet_24 : w_fe am_c233 24 25 (.istore 4) := ⟨rfl, rfl⟩
theorem fModel_sheet_25 : w_fe am_c233 25 26 (.iload 4) := ⟨rfl, rfl⟩
theorem fModel_sheet_26 : w_fe am_c233 26 27 (.bipush 40) := ⟨rfl, rfl⟩
theorem fModel_sheet_27 : w_ic am_c233 27 28 .ge 39 := ⟨rfl, rfl⟩
theorem fModel_sheet_28 : w_fe am_c233 28 29 (.aload 0) := ⟨rfl, rfl⟩
theorem fModel_sheet_29 : w_fe am_c233 29 30 (.getfield 926) := ⟨rfl, rfl⟩
theorem fModel_sheet_30 : w_fe am_c233 30 31 (.bipush 40) := ⟨rfl, rfl⟩
theorem fModel_sheet_31 : w_fe am_c233 31 32 (.iload 1) := ⟨rfl, rfl⟩
theorem fModel_sheet_32 : w_fe am_c233 32 33 (.imul) := ⟨rfl, rfl⟩
theorem fModel_sheet_33 : w_fe am_c233 33 34 (.iload 4) := ⟨rfl, rfl⟩
theorem fModel_sheet_34 : w_fe am_c233 34 35 (.iadd) := ⟨rfl, rfl⟩
theorem fModel_sheet_35 : w_fe am_c233 35 36 (.bipush 0) := ⟨rfl, rfl⟩
theorem fModel_sheet_36 : w_fe am_c233 36 37 (.iastore) := ⟨rfl, rfl⟩
theorem fModel_sheet_37 : w_fe am_c233 37 38 (.iinc 4 1) := ⟨rfl, rfl⟩
theorem fModel_sheet_38 : w_gt am_c233 38 25 := rfl
theorem fModel_sheet_39 : w_fe am_c233 39 40 (.bipush 1) := ⟨rfl, rfl⟩
theorem fModel_sheet_40 : w_fe am_c233 40 41 (.ireturn) := ⟨rfl, rfl⟩
noncomputable def LModel_sheet_25 (xs : List Int) (d : Nat) (Q : Option w_V → w_M → Prop) (v1 : Int) (v4 : Int) (σ : w_M) : Prop := ∀ l2, w_nl l2 → ∀ l3, w_nl l3 → w_Ex (xs, d) 1 am_c233 Q 25 [some (.inr (.inr (9, 122))), some (.inl v1), l2, l3, some (.inl v4)] [] σ
set_option maxRecDepth 20000 in
theorem bModel_sheet_0 {xs : List Int} {d : Nat} {Q : Option w_V → w_M → Prop} {x1 : Int} {x2 : Int} {x3 : Int} {σ : w_M}
    (h : (¬ ((0 ≤ x1 ∧ x1 ≤ 3) ∧ ((0 : Int) ≤ x2 ∧ x2 ≤ (2 : Int))) → Q (some (.inl (-1))) σ) ∧ (((0 ≤ x1 ∧ x1 ≤ 3) ∧ ((0 : Int) ≤ x2 ∧ x2 ≤ (2 : Int))) → ((x3 ≤ 40 → ((0 ≤ x3 → (0 ≤ x1 ∧ x1 < 4 ∧ (∀ (τ1 : w_M), τ1 = w_up σ 130 x1.toNat x2 → ∀ (τ2 : w_M), τ2 = w_up τ1 131 x1.toNat x3 → LModel_sheet_25 xs (d + 2) Q x1 0 τ2))) ∧ (x3 < 0 → Q (some (.inl (-14))) σ))) ∧ (40 < x3 → Q (some (.inl (-1))) σ)))) : w_Call (xs, (d + 2)) 233 [.inr (.inr (9, 122)), .inl x1, .inl x2, .inl x3] σ Q :=
  (w_mk (mid := 233) (by decide) rfl rfl rfl rfl rfl (Nat.le_of_ble_eq_true rfl) ⟨rfl, Or.inl (by decide)⟩ (wi_iload1 fModel_sheet_0 (wi_iload2 fModel_sheet_1 (wi_call2 fModel_sheet_2 (Nat.le_of_ble_eq_true rfl) (k_Model_isSheet (wi_ifb_eq fModel_sheet_3 (fun c5 => (wi_bipush fModel_sheet_7 (wi_ret1 fModel_sheet_8 (h.1 c5)))) (fun c5 => (wi_iload3 fModel_sheet_4 (wi_bipush fModel_sheet_5 (wi_ic_le fModel_sheet_6 (fun c4 => (wi_iload3 fModel_sheet_9 (wi_if_ge fModel_sheet_10 (fun c3 => (wi_aload0 fModel_sheet_13 (wi_getf924 fModel_sheet_14 (wi_iload1 fModel_sheet_15 (wi_iload2 fModel_sheet_16 (wi_iast1004 fModel_sheet_17 (((h.2 c5).1 c4).1 c3).1 (((h.2 c5).1 c4).1 c3).2.1 (wi_aload0 fModel_sheet_18 (wi_getf925 fModel_sheet_19 (wi_iload1 fModel_sheet_20 (wi_iload3 fModel_sheet_21 (wi_iast1004 fModel_sheet_22 (((h.2 c5).1 c4).1 c3).1 (((h.2 c5).1 c4).1 c3).2.1 (wi_bipush fModel_sheet_23 (wi_istore4 fModel_sheet_24 trivial ((((((h.2 c5).1 c4).1 c3).2.2 _ rfl) _ rfl) _ (by exact trivial) _ (by exact trivial))))))))))))))) (fun c3 => (wi_bipush fModel_sheet_11 (wi_ret1 fModel_sheet_12 (((h.2 c5).1 c4).2 c3))))))) (fun c4 => (wi_bipush fModel_sheet_7 (wi_ret1 fModel_sheet_8 ((h.2 c5).2 c4))))))))))))))
set_option maxRecDepth 20000 in
theorem bModel_sheet_25 {xs : List Int} {d : Nat} {Q : Option w_V → w_M → Prop} {v1 : Int} {v4 : Int} {σ : w_M}
    (h : (40 ≤ v4 → Q (some (.inl 1)) σ) ∧ (v4 < 40 → (w_in (40 * v1) ∧ w_in ((40 * v1) + v4) ∧ 0 ≤ ((40 * v1) + v4) ∧ ((40 * v1) + v4) < 160 ∧ (∀ (τ1 : w_M), τ1 = w_up σ 132 ((40 * v1) + v4).toNat 0 → (w_in (v4 + 1) ∧ LModel_sheet_25 xs (d + 2) Q v1 (v4 + 1) τ1))))) : LModel_sheet_25 xs (d + 2) Q v1 v4 σ :=
  fun l2 nl2 => fun l3 nl3 => (wi_iload4 fModel_sheet_25 (wi_bipush fModel_sheet_26 (wi_ic_ge fModel_sheet_27 (fun c2 => (wi_bipush fModel_sheet_39 (wi_ret1 fModel_sheet_40 (h.1 c2)))) (fun c2 => (wi_aload0 fModel_sheet_28 (wi_getf926 fModel_sheet_29 (wi_bipush fModel_sheet_30 (wi_iload1 fModel_sheet_31 (wi_imul fModel_sheet_32 (h.2 c2).1 (wi_iload4 fModel_sheet_33 (wi_iadd fModel_sheet_34 (h.2 c2).2.1 (wi_bipush fModel_sheet_35 (wi_iast1160 fModel_sheet_36 (h.2 c2).2.2.1 (h.2 c2).2.2.2.1 (wi_iinc4 fModel_sheet_37 nl3 ((h.2 c2).2.2.2.2 _ rfl).1 (wi_goto fModel_sheet_38 (((h.2 c2).2.2.2.2 _ rfl).2 _ nl2 _ nl3))))))))))))))))
theorem k_Model_sheet {xs : List Int} {d : Nat} {Q : Option w_V → w_M → Prop} {x1 : Int} {x2 : Int} {x3 : Int} {σ : w_M} (hp : p_Model_sheet x1 x2 x3 σ) (hQ : ∀ (x : Int) (σ' : w_M), q_Model_sheet x1 x2 x3 σ x σ' → Q (some (.inl x)) σ') : w_Call (xs, d + 2) 233 [.inr (.inr (9, 122)), .inl x1, .inl x2, .inl x3] σ Q := by
  have hM : MI σ := hp
  unfold q_Model_sheet at hQ
  have bad : ¬ P_sheet x1 x2 x3 → Q (some (.inl (-1))) σ := fun h => by
    have e1 : F_sheet (mS σ) x1 x2 x3 = -1 := if_neg h
    have e2 : G_sheet (mS σ) x1 x2 x3 = mS σ := if_neg (fun q => h q.1)
    rw [e1, e2] at hQ
    exact hQ _ _ (m_qr hM rfl)
  refine bModel_sheet_0 ⟨fun c => bad (fun q => c q.1), fun c => ⟨fun c3 => ⟨fun c4 => ⟨c.1.1, by omega, fun τ1 t1 τ2 t2 => ?_⟩, fun c4 => ?_⟩, fun c3 => bad (fun q => by have := q.2; omega)⟩⟩
  · have hP : P_sheet x1 x2 x3 := ⟨c, c3⟩
    have e1 : F_sheet (mS σ) x1 x2 x3 = 1 := (if_pos hP).trans (if_neg (by omega))
    have e2 : G_sheet (mS σ) x1 x2 x3 = w_sp (mS σ) 4 (shNew (h_am σ) x1.toNat x2 x3) := if_pos ⟨hP, c4⟩
    rw [e1, e2] at hQ
    have hk4 : x1.toNat < 4 := by omega
    refine (w_loop (n := 40) (P := fun k => ∀ τ : w_M, w_f1 τ2 τ 132 → (∀ j, j < k → τ 132 (40 * x1.toNat + j) = 0) → (∀ x, x < 40 * x1.toNat ∨ 40 * x1.toNat + k ≤ x → τ 132 x = σ 132 x) → LModel_sheet_25 xs (d + 2) Q x1 (k : Int) τ) ?_ ?_) τ2 w_f1.rfl' (fun j hj => by omega) (fun x hx => by rw [t2, w_up_ne (by decide), t1, w_up_ne (by decide)])
    · intro τ F h1 h2
      refine bModel_sheet_25 ⟨fun _ => hQ _ _ (m_q4 hM (fun b hb => ?_) ?_ (shNew_WF hM.2.2.2.2.1 c.2 ⟨c4, c3⟩) rfl), fun h => by omega⟩
      · rw [F b (by omega), t2, w_up_ne (by omega), t1, w_up_ne (by omega)]
      · have z131 : τ 131 = w_up σ 131 x1.toNat x3 131 := by
          rw [F 131 (by decide), t2]
          funext j
          show (if 131 = 131 ∧ j = x1.toNat then x3 else τ1 131 j) = (if 131 = 131 ∧ j = x1.toNat then x3 else σ 131 j)
          rw [t1, w_up_ne (by decide)]
        have z130 : τ 130 = w_up σ 130 x1.toNat x2 130 := by rw [F 130 (by decide), t2, w_up_ne (by decide), t1]
        funext q j
        unfold shNew
        by_cases hq4 : q < 4
        · by_cases hqk : q = x1.toNat
          · rw [if_pos hqk]
            unfold h_am
            rw [if_pos hq4, z131, z130, hqk, w_up_at, w_up_at, if_neg (show ¬ x2 = -4 by omega), if_neg (show ¬ x3 < 0 by omega)]
            by_cases hj0 : j = 0
            · rw [if_pos hj0, if_pos hj0]
            · rw [if_neg hj0, if_neg hj0]
              by_cases hj1 : j = 1
              · rw [if_pos hj1, if_pos hj1]
              · rw [if_neg hj1, if_neg hj1]
                by_cases hj : j < 42
                · rw [if_pos hj, h1 (j - 2) (by omega)]
                · rw [if_neg hj]
          · rw [if_neg hqk]
            show h_am τ q j = h_am σ q j
            unfold h_am
            rw [z131, z130, w_up_j hqk, w_up_j hqk]
            by_cases hj : j < 42
            · rw [h2 (40 * q + (j - 2)) (by omega)]
            · rw [if_neg hj, if_neg hj]
        · rw [if_neg (by omega)]
          show h_am τ q j = h_am σ q j
          unfold h_am
          rw [if_neg hq4, if_neg hq4]
    · intro k hk ih τ F h1 h2
      refine bModel_sheet_25 ⟨fun h => by omega, fun h => ⟨⟨by omega, by omega⟩, ⟨by omega, by omega⟩, by omega, by omega, fun τ3 t3 => ⟨⟨by omega, by omega⟩, ?_⟩⟩⟩
      rw [← w_cs1]
      have ea : (40 * x1 + (k : Int)).toNat = 40 * x1.toNat + k := by omega
      rw [ea] at t3
      refine ih τ3 (by rw [t3]; exact F.up) (fun j hj => ?_) (fun x hx => by rw [t3, w_up_j (by omega)]; exact h2 x (by omega))
      by_cases hjk : j = k
      · rw [hjk, t3, w_up_at]
      · rw [t3, w_up_j (by omega)]
        exact h1 j (by omega)
  · have hP : P_sheet x1 x2 x3 := ⟨c, c3⟩
    have e1 : F_sheet (mS σ) x1 x2 x3 = -14 := (if_pos hP).trans (if_pos c4)
    have e2 : G_sheet (mS σ) x1 x2 x3 = mS σ := if_neg (fun q => by have := q.2; omega)
    rw [e1, e2] at hQ
    exact hQ _ _ (m_qr hM rfl)
noncomputable def p_Model_lay (_x1 : Int) (_x2 : Int) (_x3 : Int) (σ : w_M) : Prop := MI σ
noncomputable def q_Model_lay (x1 : Int) (x2 : Int) (x3 : Int) (σ : w_M) (x : Int) (σ' : w_M) : Prop := m_q (F_lay (mS σ) x1 x2 x3) (G_lay (mS σ) x1 x2 x3) σ x σ'
theorem fModel_lay_0 : w_fe am_c235 0 1 (.iload 1) := ⟨rfl, rfl⟩
theorem fModel_lay_1 : w_fe am_c235 1 2 (.bipush 0) := ⟨rfl, rfl⟩
theorem fModel_lay_2 : w_fe am_c235 2 3 (.invokestatic 234) := ⟨rfl, rfl⟩
theorem fModel_lay_3 : w_if am_c235 3 4 .ne 6 := ⟨rfl, rfl⟩
theorem fModel_lay_4 : w_fe am_c235 4 5 (.bipush (-1)) := ⟨rfl, rfl⟩
theorem fModel_lay_5 : w_fe am_c235 5 6 (.ireturn) := ⟨rfl, rfl⟩
theorem fModel_lay_6 : w_fe am_c235 6 7 (.aload 0) := ⟨rfl, rfl⟩
theorem fModel_lay_7 : w_fe am_c235 7 8 (.getfield 924) := ⟨rfl, rfl⟩
theorem fModel_lay_8 : w_fe am_c235 8 9 (.iload 1) := ⟨rfl, rfl⟩
theorem fModel_lay_9 : w_fe am_c235 9 10 (.iaload) := ⟨rfl, rfl⟩
theorem fModel_lay_10 : w_fe am_c235 10 11 (.bipush (-4)) := ⟨rfl, rfl⟩
theorem fModel_lay_11 : w_ic am_c235 11 12 .ne 14 := ⟨rfl, rfl⟩
theorem fModel_lay_12 : w_fe am_c235 12 13 (.bipush (-11)) := ⟨rfl, rfl⟩
theorem fModel_lay_13 : w_fe am_c235 13 14 (.ireturn) := ⟨rfl, rfl⟩
theorem fModel_lay_14 : w_fe am_c235 14 15 (.iload 2) := ⟨rfl, rfl⟩
theorem fModel_lay_15 : w_fe am_c235 15 16 (.i2l) := ⟨rfl, rfl⟩
theorem fModel_lay_16 : w_fe am_c235 16 17 (.sipush 0) := ⟨rfl, rfl⟩
theorem fModel_lay_17 : w_fe am_c235 17 18 (.aload 0) := ⟨rfl, rfl⟩
theorem fModel_lay_18 : w_fe am_c235 18 19 (.getfield 925) := ⟨rfl, rfl⟩
theorem fModel_lay_19 : w_fe am_c235 19 20 (.iload 1) := ⟨rfl, rfl⟩
theorem fModel_lay_20 : w_fe am_c235 20 21 (.iaload) := ⟨rfl, rfl⟩
theorem fModel_lay_21 : w_fe am_c235 21 22 (.bipush 1) := ⟨rfl, rfl⟩
theorem fModel_lay_22 : w_fe am_c235 22 23 (.isub) := ⟨rfl, rfl⟩
theorem fModel_lay_23 : w_fe am_c235 23 24 (.i2l) := ⟨rfl, rfl⟩
theorem fModel_lay_24 : w_fe am_c235 24 25 (.invokestatic 157) := ⟨rfl, rfl⟩
theorem fModel_lay_25 : w_if am_c235 25 26 .ne 28 := ⟨rfl, rfl⟩
theorem fModel_lay_26 : w_fe am_c235 26 27 (.bipush (-12)) := ⟨rfl, rfl⟩
theorem fModel_lay_27 : w_fe am_c235 27 28 (.ireturn) := ⟨rfl, rfl⟩
theorem fModel_lay_28 : w_fe am_c235 28 29 (.aload 0) := ⟨rfl, rfl⟩
theorem fModel_lay_29 : w_fe am_c235 29 30 (.getfield 926) := ⟨rfl, rfl⟩
theorem fModel_lay_30 : w_fe am_c235 30 31 (.bipush 40) := ⟨rfl, rfl⟩
theorem fModel_lay_31 : w_fe am_c235 31 32 (.iload 1) := ⟨rfl, rfl⟩
theorem fModel_lay_32 : w_fe am_c235 32 33 (.imul) := ⟨rfl, rfl⟩
theorem fModel_lay_33 : w_fe am_c235 33 34 (.iload 2) := ⟨rfl, rfl⟩
theorem fModel_lay_34 : w_fe am_c235 34 35 (.iadd) := ⟨rfl, rfl⟩
theorem fModel_lay_35 : w_fe am_c235 35 36 (.aload 0) := ⟨rfl, rfl⟩
theorem fModel_lay_36 : w_fe am_c235 36 37 (.getfield 924) := ⟨rfl, rfl⟩
theorem fModel_lay_37 : w_fe am_c235 37 38 (.iload 1) := ⟨rfl, rfl⟩
theorem fModel_lay_38 : w_fe am_c235 38 39 (.iaload) := ⟨rfl, rfl⟩
theorem fModel_lay_39 : w_if am_c235 39 40 .ne 43 := ⟨rfl, rfl⟩
theorem fModel_lay_40 : w_fe am_c235 40 41 (.iload 3) := ⟨rfl, rfl⟩
theorem fModel_lay_41 : w_fe am_c235 41 42 (.i2b) := ⟨rfl, rfl⟩
theorem fModel_lay_42 : w_gt am_c235 42 53 := rfl
theorem fModel_lay_43 : w_fe am_c235 43 44 (.aload 0) := ⟨rfl, rfl⟩
theorem fModel_lay_44 : w_fe am_c235 44 45 (.getfield 924) := ⟨rfl, rfl⟩
theorem fModel_lay_45 : w_fe am_c235 45 46 (.iload 1) := ⟨rfl, rfl⟩
theorem fModel_lay_46 : w_fe am_c235 46 47 (.iaload) := ⟨rfl, rfl⟩
theorem fModel_lay_47 : w_fe am_c235 47 48 (.bipush 1) := ⟨rfl, rfl⟩
theorem fModel_lay_48 : w_ic am_c235 48 49 .ne 52 := ⟨rfl, rfl⟩
theorem fModel_lay_49 : w_fe am_c235 49 50 (.iload 3) := ⟨rfl, rfl⟩
theorem fModel_lay_50 : w_fe am_c235 50 51 (.i2s) := ⟨rfl, rfl⟩
theorem fModel_lay_51 : w_gt am_c235 51 53 := rfl
theorem fModel_lay_52 : w_fe am_c235 52 53 (.iload 3) := ⟨rfl, rfl⟩
theorem fModel_lay_53 : w_fe am_c235 53 54 (.iastore) := ⟨rfl, rfl⟩
theorem fModel_lay_54 : w_fe am_c235 54 55 (.bipush 1) := ⟨rfl, rfl⟩
theorem fModel_lay_55 : w_fe am_c235 55 56 (.ireturn) := ⟨rfl, rfl⟩
set_option maxRecDepth 20000 in
theorem bModel_lay_0 {xs : List Int} {d : Nat} {Q : Option w_V → w_M → Prop} {x1 : Int} {x2 : Int} {x3 : Int} {σ : w_M}
    (h : (((0 ≤ x1 ∧ x1 ≤ 3) ∧ ((0 : Int) ≤ 0 ∧ 0 ≤ (2 : Int))) → (0 ≤ x1 ∧ x1 < 4 ∧ ((¬ (σ 130 x1.toNat) = (-4) → (w_in ((σ 131 x1.toNat) - 1) ∧ (((0 ≤ x2 ∧ x2 ≤ ((σ 131 x1.toNat) - 1)) → (w_in (40 * x1) ∧ w_in ((40 * x1) + x2) ∧ ((¬ (σ 130 x1.toNat) = 0 → ((¬ (σ 130 x1.toNat) = 1 → (0 ≤ ((40 * x1) + x2) ∧ ((40 * x1) + x2) < 160 ∧ (∀ (τ1 : w_M), τ1 = w_up σ 132 ((40 * x1) + x2).toNat x3 → Q (some (.inl 1)) τ1))) ∧ ((σ 130 x1.toNat) = 1 → (0 ≤ ((40 * x1) + x2) ∧ ((40 * x1) + x2) < 160 ∧ (∀ (τ2 : w_M), τ2 = w_up σ 132 ((40 * x1) + x2).toNat (Int.bmod x3 65536) → Q (some (.inl 1)) τ2))))) ∧ ((σ 130 x1.toNat) = 0 → (0 ≤ ((40 * x1) + x2) ∧ ((40 * x1) + x2) < 160 ∧ (∀ (τ4 : w_M), τ4 = w_up σ 132 ((40 * x1) + x2).toNat (Int.bmod x3 256) → Q (some (.inl 1)) τ4)))))) ∧ (¬ (0 ≤ x2 ∧ x2 ≤ ((σ 131 x1.toNat) - 1)) → Q (some (.inl (-12))) σ)))) ∧ ((σ 130 x1.toNat) = (-4) → Q (some (.inl (-11))) σ)))) ∧ (¬ ((0 ≤ x1 ∧ x1 ≤ 3) ∧ ((0 : Int) ≤ 0 ∧ 0 ≤ (2 : Int))) → Q (some (.inl (-1))) σ)) : w_Call (xs, (d + 2)) 235 [.inr (.inr (9, 122)), .inl x1, .inl x2, .inl x3] σ Q :=
  (w_mk (mid := 235) (by decide) rfl rfl rfl rfl rfl (Nat.le_of_ble_eq_true rfl) ⟨rfl, Or.inl (by decide)⟩ (wi_iload1 fModel_lay_0 (wi_bipush fModel_lay_1 (wi_call2 fModel_lay_2 (Nat.le_of_ble_eq_true rfl) (k_Model_isSheet (wi_ifb_ne fModel_lay_3 (fun c8 => (wi_aload0 fModel_lay_6 (wi_getf924 fModel_lay_7 (wi_iload1 fModel_lay_8 (wi_iald1004 fModel_lay_9 (h.1 c8).1 (h.1 c8).2.1 (wi_bipush fModel_lay_10 (wi_ic_ne fModel_lay_11 (fun c7 => (wi_iload2 fModel_lay_14 (wi_i2l fModel_lay_15 (wi_sipush fModel_lay_16 (wi_aload0 fModel_lay_17 (wi_getf925 fModel_lay_18 (wi_iload1 fModel_lay_19 (wi_iald1004 fModel_lay_20 (h.1 c8).1 (h.1 c8).2.1 (wi_bipush fModel_lay_21 (wi_isub fModel_lay_22 ((h.1 c8).2.2.1 c7).1 (wi_i2l fModel_lay_23 (wi_call3 fModel_lay_24 (Nat.le_of_ble_eq_true rfl) (k_Model_in (wi_ifb_ne fModel_lay_25 (fun c6 => (wi_aload0 fModel_lay_28 (wi_getf926 fModel_lay_29 (wi_bipush fModel_lay_30 (wi_iload1 fModel_lay_31 (wi_imul fModel_lay_32 (((h.1 c8).2.2.1 c7).2.1 c6).1 (wi_iload2 fModel_lay_33 (wi_iadd fModel_lay_34 (((h.1 c8).2.2.1 c7).2.1 c6).2.1 (wi_aload0 fModel_lay_35 (wi_getf924 fModel_lay_36 (wi_iload1 fModel_lay_37 (wi_iald1004 fModel_lay_38 (h.1 c8).1 (h.1 c8).2.1 (wi_if_ne fModel_lay_39 (fun c5 => (wi_aload0 fModel_lay_43 (wi_getf924 fModel_lay_44 (wi_iload1 fModel_lay_45 (wi_iald1004 fModel_lay_46 (h.1 c8).1 (h.1 c8).2.1 (wi_bipush fModel_lay_47 (wi_ic_ne fModel_lay_48 (fun c3 => (wi_iload3 fModel_lay_52 (wi_iast1160 fModel_lay_53 (((((h.1 c8).2.2.1 c7).2.1 c6).2.2.1 c5).1 c3).1 (((((h.1 c8).2.2.1 c7).2.1 c6).2.2.1 c5).1 c3).2.1 (wi_bipush fModel_lay_54 (wi_ret1 fModel_lay_55 ((((((h.1 c8).2.2.1 c7).2.1 c6).2.2.1 c5).1 c3).2.2 _ rfl)))))) (fun c3 => (wi_iload3 fModel_lay_49 (wi_i2s fModel_lay_50 (wi_goto fModel_lay_51 (wi_iast1160 fModel_lay_53 (((((h.1 c8).2.2.1 c7).2.1 c6).2.2.1 c5).2 c3).1 (((((h.1 c8).2.2.1 c7).2.1 c6).2.2.1 c5).2 c3).2.1 (wi_bipush fModel_lay_54 (wi_ret1 fModel_lay_55 ((((((h.1 c8).2.2.1 c7).2.1 c6).2.2.1 c5).2 c3).2.2 _ rfl))))))))))))))) (fun c5 => (wi_iload3 fModel_lay_40 (wi_i2b fModel_lay_41 (wi_goto fModel_lay_42 (wi_iast1160 fModel_lay_53 ((((h.1 c8).2.2.1 c7).2.1 c6).2.2.2 c5).1 ((((h.1 c8).2.2.1 c7).2.1 c6).2.2.2 c5).2.1 (wi_bipush fModel_lay_54 (wi_ret1 fModel_lay_55 (((((h.1 c8).2.2.1 c7).2.1 c6).2.2.2 c5).2.2 _ rfl))))))))))))))))))))) (fun c6 => (wi_bipush fModel_lay_26 (wi_ret1 fModel_lay_27 (((h.1 c8).2.2.1 c7).2.2 c6)))))))))))))))))) (fun c7 => (wi_bipush fModel_lay_12 (wi_ret1 fModel_lay_13 ((h.1 c8).2.2.2 c7))))))))))) (fun c8 => (wi_bipush fModel_lay_4 (wi_ret1 fModel_lay_5 (h.2 c8))))))))))
theorem k_Model_lay {xs : List Int} {d : Nat} {Q : Option w_V → w_M → Prop} {x1 : Int} {x2 : Int} {x3 : Int} {σ : w_M} (hp : p_Model_lay x1 x2 x3 σ) (hQ : ∀ (x : Int) (σ' : w_M), q_Model_lay x1 x2 x3 σ x σ' → Q (some (.inl x)) σ') : w_Call (xs, d + 2) 235 [.inr (.inr (9, 122)), .inl x1, .inl x2, .inl x3] σ Q := by
  have hM : MI σ := hp
  unfold q_Model_lay F_lay G_lay at hQ
  have e4 : mS σ 4 = h_am σ := rfl
  rw [e4] at hQ
  refine bModel_lay_0 ⟨fun c => ⟨c.1.1, by omega, fun c2 => ?_, fun c2 => ?_⟩, fun c => ?_⟩
  · have h4 : x1.toNat < 4 := by omega
    obtain ⟨e0, e1, w0, w1, e2⟩ := h_am_yes hM h4 c2
    have hn : ¬ σ 131 x1.toNat = -4 := by omega
    rw [e0, if_pos c.1, if_neg hn] at hQ
    have fin : 0 ≤ x2 ∧ x2 < σ 131 x1.toNat → ∀ (v : Int) (τ : w_M), v = shVal (σ 130 x1.toNat) x3 → τ = w_up σ 132 (40 * x1 + x2).toNat v → Q (some (.inl 1)) τ := by
      intro h v τ hv t
      rw [show (40 * x1 + x2).toNat = 40 * x1.toNat + x2.toNat by omega] at t
      rw [if_pos h, if_pos ⟨c.1, hn, h⟩] at hQ
      refine hQ _ _ (m_q4 hM (fun b hb => by rw [t, w_up_ne (by omega)]) ?_ (shLay_WF hM.2.2.2.2.1) rfl)
      have f131 : τ 131 = σ 131 := by rw [t, w_up_ne (by decide)]
      have f130 : τ 130 = σ 130 := by rw [t, w_up_ne (by decide)]
      funext q j
      rw [w_up_eq]
      show _ = if q = x1.toNat ∧ j = 2 + x2.toNat then shVal (h_am σ x1.toNat 1) x3 else h_am σ q j
      rw [e1, ← hv]
      by_cases hq : q = x1.toNat ∧ j = 2 + x2.toNat
      · rw [if_pos hq, hq.1, hq.2]
        unfold h_am
        rw [f130, if_pos h4, if_neg c2, if_neg (by omega), if_neg (by omega), if_pos (by omega), show 2 + x2.toNat - 2 = x2.toNat by omega, t, w_up_at]
      · rw [if_neg hq]
        unfold h_am
        rw [f131, f130]
        by_cases hj0 : j = 0
        · rw [hj0]; rfl
        · by_cases hj1 : j = 1
          · rw [hj1]; rfl
          · by_cases hj : j < 42
            · by_cases hq4 : q < 4
              · rw [t, w_up_j (show 40 * q + (j - 2) ≠ 40 * x1.toNat + x2.toNat by omega)]
              · rw [if_neg hq4, if_neg hq4]
            · rw [if_neg hj, if_neg hj]
    refine ⟨⟨by omega, by omega⟩, fun c3 => ⟨⟨by omega, by omega⟩, ⟨by omega, by omega⟩, fun c4 => ⟨fun c5 => ⟨by omega, by omega, fun τ t => fin (by omega) _ _ ?_ t⟩, fun c5 => ⟨by omega, by omega, fun τ t => fin (by omega) _ _ ?_ t⟩⟩, fun c4 => ⟨by omega, by omega, fun τ t => fin (by omega) _ _ ?_ t⟩⟩, fun c3 => ?_⟩
    · unfold shVal; rw [if_neg c4, if_neg c5]
    · unfold shVal; rw [if_neg c4, if_pos c5]
    · unfold shVal; rw [if_pos c4]
    · rw [if_neg (by omega), if_neg (fun q => c3 (by have := q.2.2; omega))] at hQ
      exact hQ _ _ (m_qr hM rfl)
  · have h4 : x1.toNat < 4 := by omega
    have hn := h_am_no h4 c2
    rw [if_pos c.1, if_pos hn, if_neg (fun q => q.2.1 hn)] at hQ
    exact hQ _ _ (m_qr hM rfl)
  · have c1 : ¬ (0 ≤ x1 ∧ x1 ≤ 3) := fun q => c ⟨q, by decide⟩
    rw [if_neg c1, if_neg (fun q => c1 q.1)] at hQ
    exact hQ _ _ (m_qr hM rfl)
noncomputable def p_Model_count (_x1 : Int) (σ : w_M) : Prop := MI σ
noncomputable def q_Model_count (x1 : Int) (σ : w_M) (x : Int) (σ' : w_M) : Prop := m_q (F_count (mS σ) x1) (mS σ) σ x σ'
noncomputable def w_c238 : List Instr := [.bipush 0, .istore 2, .bipush 0, .istore 3, .bipush 0, .istore 4, .aload 0, .invokestatic 174, .bipush 0, .istore 5, .iload 5, .aload 0, .getfield 904, .if_icmp .ge 30, .iload 2, .aload 0, .getfield 900, .bipush 0, .iload 5, .iadd, .iaload, .ifCond .le 24, .bipush 1, .goto 25, .bipush 0, .invokestatic 179, .iadd, .istore 2, .iinc 5 1, .goto 10, .bipush 0, .istore 5, .iload 5, .aload 0, .getfield 905, .if_icmp .ge 52, .iload 3, .aload 0, .iload 5, .bipush 4, .invokestatic 178, .fadd, .istore 3, .iload 4, .aload 0, .iload 5, .bipush 1, .invokestatic 178, .iadd, .istore 4, .iinc 5 1, .goto 32, .iload 1, .tableswitch 98 0 7 #[54, 56, 58, 60, 65, 70, 82, 85], .iload 2, .ireturn, .iload 3, .ireturn, .iload 4, .ireturn, .aload 0, .getfield 900, .bipush 48, .iaload, .ireturn, .aload 0, .getfield 900, .bipush 73, .iaload, .ireturn, .aload 0, .getfield 902, .bipush 0, .baload, .invokestatic 179, .aload 0, .getfield 902, .bipush 1, .baload, .invokestatic 179, .iadd, .ireturn, .aload 0, .getfield 915, .ireturn, .aload 0, .getfield 924, .bipush 0, .iaload, .bipush (-4), .if_icmp .ne 93, .bipush (-4), .goto 97, .aload 0, .getfield 925, .bipush 0, .iaload, .ireturn, .bipush (-1), .ireturn]
theorem fModel_count_0 : w_fe w_c238 0 1 (.bipush 0) := ⟨rfl, rfl⟩
theorem fModel_count_1 : w_fe w_c238 1 2 (.istore 2) := ⟨rfl, rfl⟩
theorem fModel_count_2 : w_fe w_c238 2 3 (.bipush 0) := ⟨rfl, rfl⟩
theorem fModel_count_3 : w_fe w_c238 3 4 (.istore 3) := ⟨rfl, rfl⟩
theorem fModel_count_4 : w_fe w_c238 4 5 (.bipush 0) := ⟨rfl, rfl⟩
theorem fModel_count_5 : w_fe w_c238 5 6 (.istore 4) := ⟨rfl, rfl⟩
theorem fModel_count_6 : w_fe w_c238 6 7 (.aload 0) := ⟨rfl, rfl⟩
theorem fModel_count_7 : w_fe w_c238 7 8 (.invokestatic 174) := ⟨rfl, rfl⟩
theorem fModel_count_8 : w_fe w_c238 8 9 (.bipush 0) := ⟨rfl, rfl⟩
theorem fModel_count_9 : w_fe w_c238 9 10 (.istore 5) := ⟨rfl, rfl⟩
theorem fModel_count_10 : w_fe w_c238 10 11 (.iload 5) := ⟨rfl, rfl⟩
theorem fModel_count_11 : w_fe w_c238 11 12 (.aload 0) := ⟨rfl, rfl⟩
theorem fModel_count_12 : w_fe w_c238 12 13 (.getfield 904) := ⟨rfl, rfl⟩
theorem fModel_count_13 : w_ic w_c238 13 14 .ge 30 := ⟨rfl, rfl⟩
theorem fModel_count_14 : w_fe w_c238 14 15 (.iload 2) := ⟨rfl, rfl⟩
theorem fModel_count_15 : w_fe w_c238 15 16 (.aload 0) := ⟨rfl, rfl⟩
theorem fModel_count_16 : w_fe w_c238 16 17 (.getfield 900) := ⟨rfl, rfl⟩
theorem fModel_count_17 : w_fe w_c238 17 18 (.bipush 0) := ⟨rfl, rfl⟩
theorem fModel_count_18 : w_fe w_c238 18 19 (.iload 5) := ⟨rfl, rfl⟩
theorem fModel_count_19 : w_fe w_c238 19 20 (.iadd) := ⟨rfl, rfl⟩
theorem fModel_count_20 : w_fe w_c238 20 21 (.iaload) := ⟨rfl, rfl⟩
theorem fModel_count_21 : w_if w_c238 21 22 .le 24 := ⟨rfl, rfl⟩
theorem fModel_count_22 : w_fe w_c238 22 23 (.bipush 1) := ⟨rfl, rfl⟩
theorem fModel_count_23 : w_gt w_c238 23 25 := rfl
theorem fModel_count_24 : w_fe w_c238 24 25 (.bipush 0) := ⟨rfl, rfl⟩
theorem fModel_count_25 : w_fe w_c238 25 26 (.invokestatic 179) := ⟨rfl, rfl⟩
theorem fModel_count_26 : w_fe w_c238 26 27 (.iadd) := ⟨rfl, rfl⟩
theorem fModel_count_27 : w_fe w_c238 27 28 (.istore 2) := ⟨rfl, rfl⟩
theorem fModel_count_28 : w_fe w_c238 28 29 (.iinc 5 1) := ⟨rfl, rfl⟩
theorem fModel_count_29 : w_gt w_c238 29 10 := rfl
theorem fModel_count_30 : w_fe w_c238 30 31 (.bipush 0) := ⟨rfl, rfl⟩
theorem fModel_count_31 : w_fe w_c238 31 32 (.istore 5) := ⟨rfl, rfl⟩
theorem fModel_count_32 : w_fe w_c238 32 33 (.iload 5) := ⟨rfl, rfl⟩
theorem fModel_count_33 : w_fe w_c238 33 34 (.aload 0) := ⟨rfl, rfl⟩
theorem fModel_count_34 : w_fe w_c238 34 35 (.getfield 905) := ⟨rfl, rfl⟩
theorem fModel_count_35 : w_ic w_c238 35 36 .ge 52 := ⟨rfl, rfl⟩
theorem fModel_count_36 : w_fe w_c238 36 37 (.iload 3) := ⟨rfl, rfl⟩
theorem fModel_count_37 : w_fe w_c238 37 38 (.aload 0) := ⟨rfl, rfl⟩
theorem fModel_count_38 : w_fe w_c238 38 39 (.iload 5) := ⟨rfl, rfl⟩
theorem fModel_count_39 : w_fe w_c238 39 40 (.bipush 4) := ⟨rfl, rfl⟩
theorem fModel_count_40 : w_fe w_c238 40 41 (.invokestatic 178) := ⟨rfl, rfl⟩
theorem fModel_count_41 : w_fe w_c238 41 42 (.fadd) := ⟨rfl, rfl⟩
theorem fModel_count_42 : w_fe w_c238 42 43 (.istore 3) := ⟨rfl, rfl⟩
theorem fModel_count_43 : w_fe w_c238 43 44 (.iload 4) := ⟨rfl, rfl⟩
theorem fModel_count_44 : w_fe w_c238 44 45 (.aload 0) := ⟨rfl, rfl⟩
theorem fModel_count_45 : w_fe w_c238 45 46 (.iload 5) := ⟨rfl, rfl⟩
theorem fModel_count_46 : w_fe w_c238 46 47 (.bipush 1) := ⟨rfl, rfl⟩
theorem fModel_count_47 : w_fe w_c238 47 48 (.invokestatic 178) := ⟨rfl, rfl⟩
theorem fModel_count_48 : w_fe w_c238 48 49 (.iadd) := ⟨rfl, rfl⟩
theorem fModel_count_49 : w_fe w_c238 49 50 (.istore 4) := ⟨rfl, rfl⟩
theorem fModel_count_50 : w_fe w_c238 50 51 (.iinc 5 1) := ⟨rfl, rfl⟩
theorem fModel_count_51 : w_gt w_c238 51 32 := rfl
theorem fModel_count_52 : w_fe w_c238 52 53 (.iload 1) := ⟨rfl, rfl⟩
theorem fModel_count_53 {E : w_C} {rt : Nat} {Q : Option w_V → w_M → Prop} {ls : w_L} {st : List w_V} {σ : w_M} {x : Int} (h0 : x = 0 → w_Ex E rt w_c238 Q 54 ls st σ) (h1 : x = 1 → w_Ex E rt w_c238 Q 56 ls st σ) (h2 : x = 2 → w_Ex E rt w_c238 Q 58 ls st σ) (h3 : x = 3 → w_Ex E rt w_c238 Q 60 ls st σ) (h4 : x = 4 → w_Ex E rt w_c238 Q 65 ls st σ) (h5 : x = 5 → w_Ex E rt w_c238 Q 70 ls st σ) (h6 : x = 6 → w_Ex E rt w_c238 Q 82 ls st σ) (h7 : x = 7 → w_Ex E rt w_c238 Q 85 ls st σ) (hd : x < 0 ∨ 7 < x → w_Ex E rt w_c238 Q 98 ls st σ) : w_Ex E rt w_c238 Q 53 ls (.inl x :: st) σ :=
  w_Ex_in (op := .tableswitch 98 0 7 #[54, 56, 58, 60, 65, 70, 82, 85]) rfl ⟨rfl, hd, And.intro h0 (And.intro h1 (And.intro h2 (And.intro h3 (And.intro h4 (And.intro h5 (And.intro h6 (And.intro h7 ( trivial))))))))⟩
theorem fModel_count_54 : w_fe w_c238 54 55 (.iload 2) := ⟨rfl, rfl⟩
theorem fModel_count_55 : w_fe w_c238 55 56 (.ireturn) := ⟨rfl, rfl⟩
theorem fModel_count_56 : w_fe w_c238 56 57 (.iload 3) := ⟨rfl, rfl⟩
theorem fModel_count_57 : w_fe w_c238 57 58 (.ireturn) := ⟨rfl, rfl⟩
theorem fModel_count_58 : w_fe w_c238 58 59 (.iload 4) := ⟨rfl, rfl⟩
theorem fModel_count_59 : w_fe w_c238 59 60 (.ireturn) := ⟨rfl, rfl⟩
theorem fModel_count_60 : w_fe w_c238 60 61 (.aload 0) := ⟨rfl, rfl⟩
theorem fModel_count_61 : w_fe w_c238 61 62 (.getfield 900) := ⟨rfl, rfl⟩
theorem fModel_count_62 : w_fe w_c238 62 63 (.bipush 48) := ⟨rfl, rfl⟩
theorem fModel_count_63 : w_fe w_c238 63 64 (.iaload) := ⟨rfl, rfl⟩
theorem fModel_count_64 : w_fe w_c238 64 65 (.ireturn) := ⟨rfl, rfl⟩
theorem fModel_count_65 : w_fe w_c238 65 66 (.aload 0) := ⟨rfl, rfl⟩
theorem fModel_count_66 : w_fe w_c238 66 67 (.getfield 900) := ⟨rfl, rfl⟩
theorem fModel_count_67 : w_fe w_c238 67 68 (.bipush 73) := ⟨rfl, rfl⟩
theorem fModel_count_68 : w_fe w_c238 68 69 (.iaload) := ⟨rfl, rfl⟩
theorem fModel_count_69 : w_fe w_c238 69 70 (.ireturn) := ⟨rfl, rfl⟩
theorem fModel_count_70 : w_fe w_c238 70 71 (.aload 0) := ⟨rfl, rfl⟩
theorem fModel_count_71 : w_fe w_c238 71 72 (.getfield 902) := ⟨rfl, rfl⟩
theorem fModel_count_72 : w_fe w_c238 72 73 (.bipush 0) := ⟨rfl, rfl⟩
theorem fModel_count_73 : w_fe w_c238 73 74 (.baload) := ⟨rfl, rfl⟩
theorem fModel_count_74 : w_fe w_c238 74 75 (.invokestatic 179) := ⟨rfl, rfl⟩
theorem fModel_count_75 : w_fe w_c238 75 76 (.aload 0) := ⟨rfl, rfl⟩
theorem fModel_count_76 : w_fe w_c238 76 77 (.getfield 902) := ⟨rfl, rfl⟩
theorem fModel_count_77 : w_fe w_c238 77 78 (.bipush 1) := ⟨rfl, rfl⟩
theorem fModel_count_78 : w_fe w_c238 78 79 (.baload) := ⟨rfl, rfl⟩
theorem fModel_count_79 : w_fe w_c238 79 80 (.invokestatic 179) := ⟨rfl, rfl⟩
theorem fModel_count_80 : w_fe w_c238 80 81 (.iadd) := ⟨rfl, rfl⟩
theorem fModel_count_81 : w_fe w_c238 81 82 (.ireturn) := ⟨rfl, rfl⟩
theorem fModel_count_82 : w_fe w_c238 82 83 (.aload 0) := ⟨rfl, rfl⟩
theorem fModel_count_83 : w_fe w_c238 83 84 (.getfield 915) := ⟨rfl, rfl⟩
theorem fModel_count_84 : w_fe w_c238 84 85 (.ireturn) := ⟨rfl, rfl⟩
theorem fModel_count_85 : w_fe w_c238 85 86 (.aload 0) := ⟨rfl, rfl⟩
theorem fModel_count_86 : w_fe w_c238 86 87 (.getfield 924) := ⟨rfl, rfl⟩
theorem fModel_count_87 : w_fe w_c238 87 88 (.bipush 0) := ⟨rfl, rfl⟩
theorem fModel_count_88 : w_fe w_c238 88 89 (.iaload) := ⟨rfl, rfl⟩
theorem fModel_count_89 : w_fe w_c238 89 90 (.bipush (-4)) := ⟨rfl, rfl⟩
theorem fModel_count_90 : w_ic w_c238 90 91 .ne 93 := ⟨rfl, rfl⟩
theorem fModel_count_91 : w_fe w_c238 91 92 (.bipush (-4)) := ⟨rfl, rfl⟩
theorem fModel_count_92 : w_gt w_c238 92 97 := rfl
theorem fModel_count_93 : w_fe w_c238 93 94 (.aload 0) := ⟨rfl, rfl⟩
theorem fModel_count_94 : w_fe w_c238 94 95 (.getfield 925) := ⟨rfl, rfl⟩
theorem fModel_count_95 : w_fe w_c238 95 96 (.bipush 0) := ⟨rfl, rfl⟩
theorem fModel_count_96 : w_fe w_c238 96 97 (.iaload) := ⟨rfl, rfl⟩
theorem fModel_count_97 : w_fe w_c238 97 98 (.ireturn) := ⟨rfl, rfl⟩
theorem fModel_count_98 : w_fe w_c238 98 99 (.bipush (-1)) := ⟨rfl, rfl⟩
theorem fModel_count_99 : w_fe w_c238 99 100 (.ireturn) := ⟨rfl, rfl⟩
noncomputable def LModel_count_10 (xs : List Int) (d : Nat) (Q : Option w_V → w_M → Prop) (v1 : Int) (v2 : Int) (v3 : Int) (v4 : Int) (v5 : Int) (σ : w_M) : Prop := w_Ex (xs, d) 1 w_c238 Q 10 [some (.inr (.inr (9, 122))), some (.inl v1), some (.inl v2), some (.inl v3), some (.inl v4), some (.inl v5)] [] σ
noncomputable def LModel_count_32 (xs : List Int) (d : Nat) (Q : Option w_V → w_M → Prop) (v1 : Int) (v2 : Int) (v3 : Int) (v4 : Int) (v5 : Int) (σ : w_M) : Prop := w_Ex (xs, d) 1 w_c238 Q 32 [some (.inr (.inr (9, 122))), some (.inl v1), some (.inl v2), some (.inl v3), some (.inl v4), some (.inl v5)] [] σ
set_option maxRecDepth 20000 in
theorem bModel_count_0 {xs : List Int} {d : Nat} {Q : Option w_V → w_M → Prop} {x1 : Int} {σ : w_M}
    (h : p_Model_starts σ ∧ (∀ (τ1 : w_M), q_Model_starts σ τ1 → LModel_count_10 xs (d + 1) Q x1 0 0 0 0 τ1)) : w_Call (xs, (d + 1)) 238 [.inr (.inr (9, 122)), .inl x1] σ Q :=
  (w_mk (mid := 238) (by decide) rfl rfl rfl rfl rfl (Nat.le_of_ble_eq_true rfl) ⟨rfl, Or.inl (by decide)⟩ (wi_bipush fModel_count_0 (wi_istore2 fModel_count_1 trivial (wi_bipush fModel_count_2 (wi_istore3 fModel_count_3 trivial (wi_bipush fModel_count_4 (wi_istore4 fModel_count_5 trivial (wi_aload0 fModel_count_6 (wi_call1 fModel_count_7 (Nat.le_of_ble_eq_true rfl) (k_Model_starts h.1 (fun τ1 eτ1 => (wi_bipush fModel_count_8 (wi_istore5 fModel_count_9 trivial (h.2 τ1 eτ1))))))))))))))
set_option maxRecDepth 20000 in
theorem bModel_count_10 {xs : List Int} {d : Nat} {Q : Option w_V → w_M → Prop} {v1 : Int} {v2 : Int} {v3 : Int} {v4 : Int} {v5 : Int} {σ : w_M}
    (h : ((σ 122 4) ≤ v5 → LModel_count_32 xs (d + 1) Q v1 v2 v3 v4 0 σ) ∧ (v5 < (σ 122 4) → (w_in (0 + v5) ∧ 0 ≤ (0 + v5) ∧ (0 + v5) < 246 ∧ (((σ 123 (0 + v5).toNat) ≤ 0 → (w_in (v2 + 0) ∧ (∀ (y1 : Int), y1 = (v2 + 0) → (w_in (v5 + 1) ∧ LModel_count_10 xs (d + 1) Q v1 y1 v3 v4 (v5 + 1) σ)))) ∧ (0 < (σ 123 (0 + v5).toNat) → (w_in (v2 + 1) ∧ (∀ (y2 : Int), y2 = (v2 + 1) → (w_in (v5 + 1) ∧ LModel_count_10 xs (d + 1) Q v1 y2 v3 v4 (v5 + 1) σ)))))))) : LModel_count_10 xs (d + 1) Q v1 v2 v3 v4 v5 σ :=
  (wi_iload5 fModel_count_10 (wi_aload0 fModel_count_11 (wi_getf904 fModel_count_12 (wi_ic_ge fModel_count_13 (fun c4 => (wi_bipush fModel_count_30 (wi_istore5 fModel_count_31 trivial (h.1 c4)))) (fun c4 => (wi_iload2 fModel_count_14 (wi_aload0 fModel_count_15 (wi_getf900 fModel_count_16 (wi_bipush fModel_count_17 (wi_iload5 fModel_count_18 (wi_iadd fModel_count_19 (h.2 c4).1 (wi_iald1246 fModel_count_20 (h.2 c4).2.1 (h.2 c4).2.2.1 (wi_if_le fModel_count_21 (fun c3 => (wi_bipush fModel_count_24 (wi_call1 fModel_count_25 (Nat.le_of_ble_eq_true rfl) (k_Model_flag (wi_iadd fModel_count_26 ((h.2 c4).2.2.2.1 c3).1 (wi_istore2 fModel_count_27 trivial (wi_iinc5 fModel_count_28 trivial (((h.2 c4).2.2.2.1 c3).2 _ rfl).1 (wi_goto fModel_count_29 (((h.2 c4).2.2.2.1 c3).2 _ rfl).2)))))))) (fun c3 => (wi_bipush fModel_count_22 (wi_goto fModel_count_23 (wi_call1 fModel_count_25 (Nat.le_of_ble_eq_true rfl) (k_Model_flag (wi_iadd fModel_count_26 ((h.2 c4).2.2.2.2 c3).1 (wi_istore2 fModel_count_27 trivial (wi_iinc5 fModel_count_28 trivial (((h.2 c4).2.2.2.2 c3).2 _ rfl).1 (wi_goto fModel_count_29 (((h.2 c4).2.2.2.2 c3).2 _ rfl).2))))))))))))))))))))))
set_option maxRecDepth 20000 in
theorem bModel_count_32 {xs : List Int} {d : Nat} {Q : Option w_V → w_M → Prop} {v1 : Int} {v2 : Int} {v3 : Int} {v4 : Int} {v5 : Int} {σ : w_M}
    (h : ((σ 122 5) ≤ v5 → ((v1 = 0 → Q (some (.inl v2)) σ) ∧ (v1 = 1 → Q (some (.inl v3)) σ) ∧ (v1 = 2 → Q (some (.inl v4)) σ) ∧ (v1 = 3 → Q (some (.inl (σ 123 48))) σ) ∧ (v1 = 4 → Q (some (.inl (σ 123 73))) σ) ∧ (v1 = 5 → ∀ (y1 : Int), y1 = v_Model_flag (σ 125 0) → ∀ (y2 : Int), y2 = v_Model_flag (σ 125 1) → (w_in (y1 + y2) ∧ Q (some (.inl (y1 + y2))) σ)) ∧ (v1 = 6 → Q (some (.inl (σ 122 15))) σ) ∧ (v1 = 7 → ((¬ (σ 130 0) = (-4) → Q (some (.inl (σ 131 0))) σ) ∧ ((σ 130 0) = (-4) → Q (some (.inl (-4))) σ))) ∧ (v1 < 0 ∨ 7 < v1 → Q (some (.inl (-1))) σ))) ∧ (v5 < (σ 122 5) → (p_Model_of v5 4 σ ∧ (∀ (y4 : Int), y4 = (w_wr (v3 + (σ 124 (21 + 5 * v5 + 4).toNat))) → (p_Model_of v5 1 σ ∧ w_in (v4 + (σ 124 (21 + 5 * v5 + 1).toNat)) ∧ (∀ (y5 : Int), y5 = (v4 + (σ 124 (21 + 5 * v5 + 1).toNat)) → (w_in (v5 + 1) ∧ LModel_count_32 xs (d + 1) Q v1 v2 y4 y5 (v5 + 1) σ))))))) : LModel_count_32 xs (d + 1) Q v1 v2 v3 v4 v5 σ :=
  (wi_iload5 fModel_count_32 (wi_aload0 fModel_count_33 (wi_getf905 fModel_count_34 (wi_ic_ge fModel_count_35 (fun c6 => (wi_iload1 fModel_count_52 (fModel_count_53 (fun c => (wi_iload2 fModel_count_54 (wi_ret1 fModel_count_55 ((h.1 c6).1 c)))) (fun c => (wi_iload3 fModel_count_56 (wi_ret1 fModel_count_57 ((h.1 c6).2.1 c)))) (fun c => (wi_iload4 fModel_count_58 (wi_ret1 fModel_count_59 ((h.1 c6).2.2.1 c)))) (fun c => (wi_aload0 fModel_count_60 (wi_getf900 fModel_count_61 (wi_bipush fModel_count_62 (wi_iald1246 fModel_count_63 (by decide) (by decide) (wi_ret1 fModel_count_64 ((h.1 c6).2.2.2.1 c))))))) (fun c => (wi_aload0 fModel_count_65 (wi_getf900 fModel_count_66 (wi_bipush fModel_count_67 (wi_iald1246 fModel_count_68 (by decide) (by decide) (wi_ret1 fModel_count_69 ((h.1 c6).2.2.2.2.1 c))))))) (fun c => (wi_aload0 fModel_count_70 (wi_getf902 fModel_count_71 (wi_bipush fModel_count_72 (wi_bald3002 fModel_count_73 (by decide) (by decide) (wi_call1 fModel_count_74 (Nat.le_of_ble_eq_true rfl) (k_Model_flag (wi_aload0 fModel_count_75 (wi_getf902 fModel_count_76 (wi_bipush fModel_count_77 (wi_bald3002 fModel_count_78 (by decide) (by decide) (wi_call1 fModel_count_79 (Nat.le_of_ble_eq_true rfl) (k_Model_flag (wi_iadd fModel_count_80 ((((h.1 c6).2.2.2.2.2.1 c) _ rfl) _ rfl).1 (wi_ret1 fModel_count_81 ((((h.1 c6).2.2.2.2.2.1 c) _ rfl) _ rfl).2))))))))))))))) (fun c => (wi_aload0 fModel_count_82 (wi_getf915 fModel_count_83 (wi_ret1 fModel_count_84 ((h.1 c6).2.2.2.2.2.2.1 c))))) (fun c => (wi_aload0 fModel_count_85 (wi_getf924 fModel_count_86 (wi_bipush fModel_count_87 (wi_iald1004 fModel_count_88 (by decide) (by decide) (wi_bipush fModel_count_89 (wi_ic_ne fModel_count_90 (fun c3 => (wi_aload0 fModel_count_93 (wi_getf925 fModel_count_94 (wi_bipush fModel_count_95 (wi_iald1004 fModel_count_96 (by decide) (by decide) (wi_ret1 fModel_count_97 (((h.1 c6).2.2.2.2.2.2.2.1 c).1 c3))))))) (fun c3 => (wi_bipush fModel_count_91 (wi_goto fModel_count_92 (wi_ret1 fModel_count_97 (((h.1 c6).2.2.2.2.2.2.2.1 c).2 c3)))))))))))) (fun c => (wi_bipush fModel_count_98 (wi_ret1 fModel_count_99 ((h.1 c6).2.2.2.2.2.2.2.2 c))))))) (fun c6 => (wi_iload3 fModel_count_36 (wi_aload0 fModel_count_37 (wi_iload5 fModel_count_38 (wi_bipush fModel_count_39 (wi_call3 fModel_count_40 (Nat.le_of_ble_eq_true rfl) (k_Model_of (h.2 c6).1 (wi_fadd fModel_count_41 (wi_istore3 fModel_count_42 trivial (wi_iload4 fModel_count_43 (wi_aload0 fModel_count_44 (wi_iload5 fModel_count_45 (wi_bipush fModel_count_46 (wi_call3 fModel_count_47 (Nat.le_of_ble_eq_true rfl) (k_Model_of ((h.2 c6).2 _ rfl).1 (wi_iadd fModel_count_48 ((h.2 c6).2 _ rfl).2.1 (wi_istore4 fModel_count_49 trivial (wi_iinc5 fModel_count_50 trivial (((h.2 c6).2 _ rfl).2.2 _ rfl).1 (wi_goto fModel_count_51 (((h.2 c6).2 _ rfl).2.2 _ rfl).2)))))))))))))))))))))))
theorem k_Model_count {xs : List Int} {d : Nat} {Q : Option w_V → w_M → Prop} {x1 : Int} {σ : w_M} (hp : p_Model_count x1 σ) (hQ : ∀ (x : Int) (σ' : w_M), q_Model_count x1 σ x σ' → Q (some (.inl x)) σ') : w_Call (xs, d + 1) 238 [.inr (.inr (9, 122)), .inl x1] σ Q := by
  have hM : MI σ := hp
  have hok : n_WF (w_am σ 123 0) := hM.ok
  have hs := hM.s
  have hnn := hM.n
  unfold q_Model_count F_count at hQ
  refine bModel_count_0 ⟨hM.sm, fun τ hq => ?_⟩
  obtain ⟨q1, F, q3⟩ := hq
  have z : ∀ b, b ≠ 124 → τ b = σ b := fun b hb => F b hb
  have z4 : τ 122 4 = σ 122 4 := by rw [z 122 (by decide)]
  have z5 : τ 122 5 = σ 122 5 := by rw [z 122 (by decide)]
  refine w_loop (n := (σ 122 4).toNat) (P := fun i => LModel_count_10 xs (d + 1) Q x1 (f_sum (fun i => if 0 < w_am σ 123 0 1 i then 1 else 0) i) 0 0 (i : Int) τ) ?_ ?_
  · refine bModel_count_10 ⟨fun _ => ?_, fun h => by omega⟩
    refine w_loop (n := (σ 122 5).toNat) (P := fun i => LModel_count_32 xs (d + 1) Q x1 (n_swy (w_am σ 123 0)) (f_ws (w_am σ 123 0 7) i) (f_sum (w_am σ 123 0 4) i) (i : Int) τ) ?_ ?_
    · refine bModel_count_32 ⟨fun _ => ⟨fun c => ?_, fun c => ?_, fun c => ?_, fun c => ?_, fun c => ?_, fun c => fun y1 ey1 y2 ey2 => ?_, fun c => ?_, fun c => ⟨fun c2 => ?_, fun c2 => ?_⟩, fun c => ?_⟩, fun h => by omega⟩
      · rw [if_pos c] at hQ; exact hQ _ _ (m_qs hM F rfl)
      · rw [if_neg (by omega), if_pos c] at hQ; exact hQ _ _ (m_qs hM F rfl)
      · rw [if_neg (by omega), if_neg (by omega), if_pos c] at hQ; exact hQ _ _ (m_qs hM F rfl)
      · rw [if_neg (by omega), if_neg (by omega), if_neg (by omega), if_pos c] at hQ; exact hQ _ _ (m_qs hM F (by rw [z 123 (by decide)]; rfl))
      · rw [if_neg (by omega), if_neg (by omega), if_neg (by omega), if_neg (by omega), if_pos c] at hQ; exact hQ _ _ (m_qs hM F (by rw [z 123 (by decide)]; rfl))
      · rw [if_neg (by omega), if_neg (by omega), if_neg (by omega), if_neg (by omega), if_neg (by omega), if_pos c] at hQ
        have k0 := hM.k01 (k := 0) (Or.inl rfl)
        have k1 := hM.k01 (k := 1) (Or.inr rfl)
        rw [z 125 (by decide)] at ey1 ey2
        have f0 : y1 = σ 125 0 := by rw [ey1]; unfold v_Model_flag; rcases k0 with h | h <;> rw [h] <;> rfl
        have f1 : y2 = σ 125 1 := by rw [ey2]; unfold v_Model_flag; rcases k1 with h | h <;> rw [h] <;> rfl
        refine ⟨⟨by omega, by omega⟩, hQ _ _ (m_qs hM F ?_)⟩
        rw [mS_11 (by decide), mS_11 (by decide), f0, f1]
      · rw [if_neg (by omega), if_neg (by omega), if_neg (by omega), if_neg (by omega), if_neg (by omega), if_neg (by omega), if_pos c] at hQ; exact hQ _ _ (m_qs hM F (by rw [z 122 (by decide)]; rfl))
      · rw [if_neg (by omega), if_neg (by omega), if_neg (by omega), if_neg (by omega), if_neg (by omega), if_neg (by omega), if_neg (by omega), if_pos c] at hQ
        rw [z 130 (by decide)] at c2
        refine hQ _ _ (m_qs hM F ?_)
        show _ = h_am σ 0 0
        rw [(h_am_yes hM (by decide) c2).1, z 131 (by decide)]
      · rw [if_neg (by omega), if_neg (by omega), if_neg (by omega), if_neg (by omega), if_neg (by omega), if_neg (by omega), if_neg (by omega), if_pos c] at hQ
        rw [z 130 (by decide)] at c2
        exact hQ _ _ (m_qs hM F (h_am_no (by decide) c2).symm)
      · rw [if_neg (by omega), if_neg (by omega), if_neg (by omega), if_neg (by omega), if_neg (by omega), if_neg (by omega), if_neg (by omega), if_neg (by omega)] at hQ; exact hQ _ _ (m_qs hM F rfl)
    · intro i hi ih
      have hrl : ∀ d, 3 ≤ d → d ≤ 7 → m_rl σ d = (σ 122 5).toNat := fun d h1 h2 => by
        unfold m_rl
        rw [if_neg (by omega), if_neg (by omega), if_pos (by omega)]
      have e7 : τ 124 (21 + 5 * (i : Int) + 4).toNat = w_am σ 123 0 7 i := by
        rw [q3 _ (by omega)]
        exact m_rd (by decide) (by rw [hrl 7 (by decide) (by decide)]; exact hi) (by show _ = 0 + (25 + 5 * i); omega)
      have e4 : τ 124 (21 + 5 * (i : Int) + 1).toNat = w_am σ 123 0 4 i := by
        rw [q3 _ (by omega)]
        exact m_rd (by decide) (by rw [hrl 4 (by decide) (by decide)]; exact hi) (by show _ = 0 + (22 + 5 * i); omega)
      have hi4 : i < n_n (w_am σ 123 0) := hi
      have h2 := f_sum_le (f := w_am σ 123 0 4) (B := 9) (m := (σ 122 5).toNat) (fun i hi => by have := (n_WF.r hok hi).2.1; omega) (Nat.le_of_lt hi)
      have h3 := (n_WF.r hok hi4).2.1
      simp only [f_ws, f_sum] at ih
      rw [w_cs1] at ih
      refine bModel_count_32 ⟨fun h => by omega, fun h => ⟨⟨by omega, by omega⟩, fun y4 ey4 => ⟨⟨by omega, by omega⟩, ?_⟩⟩⟩
      rw [e4]
      refine ⟨⟨by omega, by omega⟩, fun y5 ey5 => ⟨⟨by omega, by omega⟩, ?_⟩⟩
      rw [e7] at ey4
      rw [ey4, ey5]
      exact ih
  · intro i hi ih
    have e : τ 123 (0 + (i : Int)).toNat = w_am σ 123 0 1 i := by
      rw [z 123 (by decide)]
      exact m_rd (by decide) (by unfold m_rl; rw [if_neg (by decide), if_pos (by decide)]; exact hi) (by show _ = 0 + i; omega)
    have h2 := f_sum_le (f := fun i => if 0 < w_am σ 123 0 1 i then 1 else 0) (B := 1) (m := i) (fun i hi => by split <;> omega) (Nat.le_refl _)
    simp only [f_sum] at ih
    rw [w_cs1] at ih
    refine bModel_count_10 ⟨fun h => by omega, fun h => ⟨⟨by omega, by omega⟩, by omega, by omega, fun c => ?_, fun c => ?_⟩⟩
    · rw [e] at c
      rw [if_neg (by omega)] at ih
      exact ⟨⟨by omega, by omega⟩, fun y ey => ⟨⟨by omega, by omega⟩, by rw [ey]; exact ih⟩⟩
    · rw [e] at c
      rw [if_pos c] at ih
      exact ⟨⟨by omega, by omega⟩, fun y ey => ⟨⟨by omega, by omega⟩, by rw [ey]; exact ih⟩⟩
end
section
/-! Reading sheets: the class -/
noncomputable def rd_ok (S : w_S) (k lane f j : Int) : Prop := S 4 k.toNat 1 = lane ∧ (0 ≤ f + 2 * j ∧ f + 2 * j + 1 < S 4 k.toNat 0)
noncomputable def rd_a (S : w_S) (k f j : Int) : Int := S 4 k.toNat (2 + (f + 2 * j).toNat)
noncomputable def rd_b (S : w_S) (k f j : Int) : Int := S 4 k.toNat (2 + (f + 2 * j + 1).toNat)
noncomputable def rd_gd (S : w_S) (k f j : Int) : Prop := P_send S (rd_a S k f j) (rd_b S k f j)
noncomputable def rd_sd (S : w_S) (k f : Int) : Nat → w_S
  | 0 => S
  | j + 1 => G_send (rd_sd S k f j) (rd_a S k f j) (rd_b S k f j)
noncomputable def rd_in (k lane n : Int) : Prop := (0 ≤ k ∧ k ≤ 3) ∧ (0 ≤ lane ∧ lane ≤ 2) ∧ (0 ≤ n ∧ n ≤ 20)
noncomputable def R_read (S : w_S) (k lane f n x : Int) (T : w_S) : Prop :=
  (¬ rd_in k lane n ∧ x = -1 ∧ T = S) ∨
  (rd_in k lane n ∧ ∃ b : Nat, (∀ i : Nat, i < b → rd_ok S k lane f i ∧ rd_gd S k f i) ∧
    (((b : Int) < n ∧ rd_ok S k lane f b ∧ ¬ rd_gd S k f b ∧ x = -20 - (b : Int) ∧ T = S) ∨ ((b : Int) ≤ n ∧ ((b : Int) = n ∨ ¬ rd_ok S k lane f b) ∧ x = (b : Int) ∧ T = rd_sd S k f b)))
theorem R_read_det {S : w_S} {k lane f n x y : Int} {T U : w_S} (h1 : R_read S k lane f n x T) (h2 : R_read S k lane f n y U) : x = y ∧ T = U := by
  rcases h1 with ⟨a0, a1, a2⟩ | ⟨a0, b, a1, a2⟩
  · rcases h2 with ⟨b0, b1, b2⟩ | ⟨b0, _⟩
    · exact ⟨a1.trans b1.symm, a2.trans b2.symm⟩
    · exact absurd b0 a0
  · rcases h2 with ⟨b0, _⟩ | ⟨b0, c, c1, c2⟩
    · exact absurd a0 b0
    · have e : b = c := by
        rcases Nat.lt_trichotomy b c with h | h | h
        · have hc := c1 b h
          rcases a2 with ⟨_, _, g, _⟩ | ⟨g1, g2, _⟩
          · exact absurd hc.2 g
          · rcases g2 with g2 | g2
            · rcases c2 with ⟨g3, _⟩ | ⟨g3, _⟩ <;> omega
            · exact absurd hc.1 g2
        · exact h
        · have hc := a1 c h
          rcases c2 with ⟨_, _, g, _⟩ | ⟨g1, g2, _⟩
          · exact absurd hc.2 g
          · rcases g2 with g2 | g2
            · rcases a2 with ⟨g3, _⟩ | ⟨g3, _⟩ <;> omega
            · exact absurd hc.1 g2
      subst e
      rcases a2 with ⟨g0, g1, g2, g3, g4⟩ | ⟨g0, g1, g2, g3⟩
      · rcases c2 with ⟨_, _, _, i3, i4⟩ | ⟨_, i1, _⟩
        · exact ⟨g3.trans i3.symm, g4.trans i4.symm⟩
        · rcases i1 with i1 | i1
          · omega
          · exact absurd g1 i1
      · rcases c2 with ⟨i0, i1, _⟩ | ⟨_, _, i2, i3⟩
        · rcases g1 with g1 | g1
          · omega
          · exact absurd i1 g1
        · exact ⟨g2.trans i2.symm, g3.trans i3.symm⟩
theorem G_send_4 {S : w_S} {r i : Int} : G_send S r i 4 = S 4 := by
  unfold G_send
  by_cases h : P_send S r i
  · rw [G_set_t h, w_sp_ne (by decide)]
  · rw [G_set_f h]
theorem G_send_0 {S : w_S} {r i : Int} : G_send S r i 0 0 = S 0 0 := by
  unfold G_send
  by_cases h : P_send S r i
  · rw [G_set_t h, w_sp_at, w_up_ne (by decide)]
  · rw [G_set_f h]
theorem rd_sd_4 {S : w_S} {k f : Int} (j : Nat) : rd_sd S k f j 4 = S 4 := by
  induction j with
  | zero => rfl
  | succ j ih => exact G_send_4.trans ih
theorem rd_sd_0 {S : w_S} {k f : Int} (j : Nat) : rd_sd S k f j 0 0 = S 0 0 := by
  induction j with
  | zero => rfl
  | succ j ih => exact G_send_0.trans ih
noncomputable def torn_c (S : w_S) (k lane n x : Int) : Int := if S 4 k.toNat 0 = -4 then (if x = n then 0 else 1) else if S 4 k.toNat 1 = lane then (if x = n then 0 else 2) else 3
noncomputable def torn_m (S : w_S) (k lane n x : Int) : Int := if x = n then 0 else if S 4 k.toNat 0 = -4 then 1 else if S 4 k.toNat 1 = lane then 2 else 3
noncomputable def p_Sheets_wholePairs (k f n : Int) (_ : w_M) : Prop := (0 ≤ k ∧ k < 4) ∧ w_in f ∧ (0 ≤ n ∧ n ≤ 20)
noncomputable def q_Sheets_wholePairs (k f n : Int) (σ : w_M) (x : Int) (σ' : w_M) : Prop := σ' = σ ∧ (0 ≤ x ∧ x ≤ n) ∧ (∀ i : Nat, (i : Int) < x → P_Sheets_hasCell k (f + 2 * i) σ ∧ P_Sheets_hasCell k (f + 2 * i + 1) σ) ∧ (x = n ∨ ¬ (P_Sheets_hasCell k (f + 2 * x) σ ∧ P_Sheets_hasCell k (f + 2 * x + 1) σ))
theorem fSheets_wholePairs_0 : w_fe am_c102 0 1 (.bipush 0) := ⟨rfl, rfl⟩
theorem fSheets_wholePairs_1 : w_fe am_c102 1 2 (.istore 4) := ⟨rfl, rfl⟩
theorem fSheets_wholePairs_2 : w_fe am_c102 2 3 (.iload 4) := ⟨rfl, rfl⟩
theorem fSheets_wholePairs_3 : w_fe am_c102 3 4 (.iload 3) := ⟨rfl, rfl⟩
theorem fSheets_wholePairs_4 : w_ic am_c102 4 5 .ge 29 := ⟨rfl, rfl⟩
theorem fSheets_wholePairs_5 : w_fe am_c102 5 6 (.aload 0) := ⟨rfl, rfl⟩
theorem fSheets_wholePairs_6 : w_fe am_c102 6 7 (.iload 1) := ⟨rfl, rfl⟩
theorem fSheets_wholePairs_7 : w_fe am_c102 7 8 (.iload 2) := ⟨rfl, rfl⟩
theorem fSheets_wholePairs_8 : w_fe am_c102 8 9 (.bipush 2) := ⟨rfl, rfl⟩
theorem fSheets_wholePairs_9 : w_fe am_c102 9 10 (.iload 4) := ⟨rfl, rfl⟩
theorem fSheets_wholePairs_10 : w_fe am_c102 10 11 (.imul) := ⟨rfl, rfl⟩
theorem fSheets_wholePairs_11 : w_fe am_c102 11 12 (.iadd) := ⟨rfl, rfl⟩
theorem fSheets_wholePairs_12 : w_fe am_c102 12 13 (.invokestatic 98) := ⟨rfl, rfl⟩
theorem fSheets_wholePairs_13 : w_if am_c102 13 14 .eq 25 := ⟨rfl, rfl⟩
theorem fSheets_wholePairs_14 : w_fe am_c102 14 15 (.aload 0) := ⟨rfl, rfl⟩
theorem fSheets_wholePairs_15 : w_fe am_c102 15 16 (.iload 1) := ⟨rfl, rfl⟩
theorem fSheets_wholePairs_16 : w_fe am_c102 16 17 (.iload 2) := ⟨rfl, rfl⟩
theorem fSheets_wholePairs_17 : w_fe am_c102 17 18 (.bipush 2) := ⟨rfl, rfl⟩
theorem fSheets_wholePairs_18 : w_fe am_c102 18 19 (.iload 4) := ⟨rfl, rfl⟩
theorem fSheets_wholePairs_19 : w_fe am_c102 19 20 (.imul) := ⟨rfl, rfl⟩
theorem fSheets_wholePairs_20 : w_fe am_c102 20 21 (.iadd) := ⟨rfl, rfl⟩
theorem fSheets_wholePairs_21 : w_fe am_c102 21 22 (.bipush 1) := ⟨rfl, rfl⟩
theorem fSheets_wholePairs_22 : w_fe am_c102 22 23 (.iadd) := ⟨rfl, rfl⟩
theorem fSheets_wholePairs_23 : w_fe am_c102 23 24 (.invokestatic 98) := ⟨rfl, rfl⟩
theorem fSheets_wholePairs_24 : w_if am_c102 24 25 .ne 27 := ⟨rfl, rfl⟩
theorem fSheets_wholePairs_25 : w_fe am_c102 25 26 (.iload 4) := ⟨rfl, rfl⟩
theorem fSheets_wholePairs_26 : w_fe am_c102 26 27 (.ireturn) := ⟨rfl, rfl⟩
theorem fSheets_wholePairs_27 : w_fe am_c102 27 28 (.iinc 4 1) := ⟨rfl, rfl⟩
theorem fSheets_wholePairs_28 : w_gt am_c102 28 2 := rfl
theorem fSheets_wholePairs_29 : w_fe am_c102 29 30 (.iload 3) := ⟨rfl, rfl⟩
theorem fSheets_wholePairs_30 : w_fe am_c102 30 31 (.ireturn) := ⟨rfl, rfl⟩
noncomputable def LSheets_wholePairs_2 (xs : List Int) (d : Nat) (Q : Option w_V → w_M → Prop) (v1 : Int) (v2 : Int) (v3 : Int) (v4 : Int) (σ : w_M) : Prop := w_Ex (xs, d) 1 am_c102 Q 2 [some (.inr (.inr (8, 80))), some (.inl v1), some (.inl v2), some (.inl v3), some (.inl v4)] [] σ
set_option maxRecDepth 20000 in
theorem bSheets_wholePairs_0 {xs : List Int} {d : Nat} {Q : Option w_V → w_M → Prop} {x1 : Int} {x2 : Int} {x3 : Int} {σ : w_M}
    (h : LSheets_wholePairs_2 xs (d + 4) Q x1 x2 x3 0 σ) : w_Call (xs, (d + 4)) 102 [.inr (.inr (8, 80)), .inl x1, .inl x2, .inl x3] σ Q :=
  (w_mk (mid := 102) (by decide) rfl rfl rfl rfl rfl (Nat.le_of_ble_eq_true rfl) ⟨rfl, Or.inl (by decide)⟩ (wi_bipush fSheets_wholePairs_0 (wi_istore4 fSheets_wholePairs_1 trivial h)))
set_option maxRecDepth 20000 in
theorem bSheets_wholePairs_2 {xs : List Int} {d : Nat} {Q : Option w_V → w_M → Prop} {v1 : Int} {v2 : Int} {v3 : Int} {v4 : Int} {σ : w_M}
    (h : (v3 ≤ v4 → Q (some (.inl v3)) σ) ∧ (v4 < v3 → (w_in (2 * v4) ∧ w_in (v2 + (2 * v4)) ∧ ((¬ (P_Sheets_hasCell v1 (v2 + (2 * v4)) σ) → Q (some (.inl v4)) σ) ∧ ((P_Sheets_hasCell v1 (v2 + (2 * v4)) σ) → (w_in ((v2 + (2 * v4)) + 1) ∧ (((P_Sheets_hasCell v1 ((v2 + (2 * v4)) + 1) σ) → (w_in (v4 + 1) ∧ LSheets_wholePairs_2 xs (d + 4) Q v1 v2 v3 (v4 + 1) σ)) ∧ (¬ (P_Sheets_hasCell v1 ((v2 + (2 * v4)) + 1) σ) → Q (some (.inl v4)) σ)))))))) : LSheets_wholePairs_2 xs (d + 4) Q v1 v2 v3 v4 σ :=
  (wi_iload4 fSheets_wholePairs_2 (wi_iload3 fSheets_wholePairs_3 (wi_ic_ge fSheets_wholePairs_4 (fun c3 => (wi_iload3 fSheets_wholePairs_29 (wi_ret1 fSheets_wholePairs_30 (h.1 c3)))) (fun c3 => (wi_aload0 fSheets_wholePairs_5 (wi_iload1 fSheets_wholePairs_6 (wi_iload2 fSheets_wholePairs_7 (wi_bipush fSheets_wholePairs_8 (wi_iload4 fSheets_wholePairs_9 (wi_imul fSheets_wholePairs_10 (h.2 c3).1 (wi_iadd fSheets_wholePairs_11 (h.2 c3).2.1 (wi_call3 fSheets_wholePairs_12 (Nat.le_of_ble_eq_true rfl) (k_Sheets_hasCell (wi_ifb_eq fSheets_wholePairs_13 (fun c2 => (wi_iload4 fSheets_wholePairs_25 (wi_ret1 fSheets_wholePairs_26 ((h.2 c3).2.2.1 c2)))) (fun c2 => (wi_aload0 fSheets_wholePairs_14 (wi_iload1 fSheets_wholePairs_15 (wi_iload2 fSheets_wholePairs_16 (wi_bipush fSheets_wholePairs_17 (wi_iload4 fSheets_wholePairs_18 (wi_imul fSheets_wholePairs_19 (h.2 c3).1 (wi_iadd fSheets_wholePairs_20 (h.2 c3).2.1 (wi_bipush fSheets_wholePairs_21 (wi_iadd fSheets_wholePairs_22 ((h.2 c3).2.2.2 c2).1 (wi_call3 fSheets_wholePairs_23 (Nat.le_of_ble_eq_true rfl) (k_Sheets_hasCell (wi_ifb_ne fSheets_wholePairs_24 (fun c1 => (wi_iinc4 fSheets_wholePairs_27 trivial (((h.2 c3).2.2.2 c2).2.1 c1).1 (wi_goto fSheets_wholePairs_28 (((h.2 c3).2.2.2 c2).2.1 c1).2))) (fun c1 => (wi_iload4 fSheets_wholePairs_25 (wi_ret1 fSheets_wholePairs_26 (((h.2 c3).2.2.2 c2).2.2 c1)))))))))))))))))))))))))))))))
theorem k_Sheets_wholePairs {xs : List Int} {d : Nat} {Q : Option w_V → w_M → Prop} {x1 : Int} {x2 : Int} {x3 : Int} {σ : w_M} (hp : p_Sheets_wholePairs x1 x2 x3 σ) (hQ : ∀ (x : Int) (σ' : w_M), q_Sheets_wholePairs x1 x2 x3 σ x σ' → Q (some (.inl x)) σ') : w_Call (xs, d + 4) 102 [.inr (.inr (8, 80)), .inl x1, .inl x2, .inl x3] σ Q := by
  obtain ⟨hk, hf, hn⟩ := hp
  unfold w_in at hf
  refine bSheets_wholePairs_0 ?_
  refine (w_loop (n := x3.toNat) (P := fun j => (∀ i : Nat, i < j → P_Sheets_hasCell x1 (x2 + 2 * i) σ ∧ P_Sheets_hasCell x1 (x2 + 2 * i + 1) σ) → LSheets_wholePairs_2 xs (d + 4) Q x1 x2 x3 (j : Int) σ) ?_ ?_) (fun i hi => by omega)
  · intro h
    exact bSheets_wholePairs_2 ⟨fun _ => hQ _ _ ⟨rfl, ⟨hn.1, by omega⟩, fun i hi => h i (by omega), Or.inl rfl⟩, fun h => by omega⟩
  · intro j hj ih h
    have hb : w_in (x2 + 2 * (j : Int)) := by
      unfold w_in
      by_cases h0 : j = 0
      · subst h0; constructor <;> omega
      · have hq := h (j - 1) (by omega)
        unfold P_Sheets_hasCell at hq
        constructor <;> omega
    refine bSheets_wholePairs_2 ⟨fun h => by omega, fun _ => ⟨⟨by omega, by omega⟩, hb, fun c => ?_, fun c => ⟨?_, fun c2 => ⟨⟨by omega, by omega⟩, ?_⟩, fun c2 => ?_⟩⟩⟩
    · exact hQ _ _ ⟨rfl, ⟨by omega, by omega⟩, fun i hi => h i (by omega), Or.inr (fun q => c q.1)⟩
    · have := c
      unfold P_Sheets_hasCell at this
      constructor <;> omega
    · rw [← w_cs1]
      refine ih (fun i hi => ?_)
      by_cases hij : i = j
      · rw [hij]; exact ⟨c, c2⟩
      · exact h i (by omega)
    · exact hQ _ _ ⟨rfl, ⟨by omega, by omega⟩, fun i hi => h i (by omega), Or.inr (fun q => c2 q.2)⟩
noncomputable def v_Sheets_faultOfReading (k lane n w : Int) (σ : w_M) : Int := if ¬ ((0 : Int) ≤ k ∧ k < (4 : Int)) ∨ σ 87 (Int.toNat k) < 0 then (if w = n then 0 else 1) else @ite _ (P_Sheets_isOfLane k lane σ) (Classical.propDecidable _) (if w = n then 0 else 2) 3
theorem fSheets_faultOfReading_0 : w_fe am_c104 0 1 (.aload 0) := ⟨rfl, rfl⟩
theorem fSheets_faultOfReading_1 : w_fe am_c104 1 2 (.iload 1) := ⟨rfl, rfl⟩
theorem fSheets_faultOfReading_2 : w_fe am_c104 2 3 (.invokestatic 97) := ⟨rfl, rfl⟩
theorem fSheets_faultOfReading_3 : w_if am_c104 3 4 .ne 11 := ⟨rfl, rfl⟩
theorem fSheets_faultOfReading_4 : w_fe am_c104 4 5 (.aload 0) := ⟨rfl, rfl⟩
theorem fSheets_faultOfReading_5 : w_fe am_c104 5 6 (.iload 1) := ⟨rfl, rfl⟩
theorem fSheets_faultOfReading_6 : w_fe am_c104 6 7 (.iload 2) := ⟨rfl, rfl⟩
theorem fSheets_faultOfReading_7 : w_fe am_c104 7 8 (.invokestatic 101) := ⟨rfl, rfl⟩
theorem fSheets_faultOfReading_8 : w_if am_c104 8 9 .ne 11 := ⟨rfl, rfl⟩
theorem fSheets_faultOfReading_9 : w_fe am_c104 9 10 (.bipush 3) := ⟨rfl, rfl⟩
theorem fSheets_faultOfReading_10 : w_fe am_c104 10 11 (.ireturn) := ⟨rfl, rfl⟩
theorem fSheets_faultOfReading_11 : w_fe am_c104 11 12 (.iload 4) := ⟨rfl, rfl⟩
theorem fSheets_faultOfReading_12 : w_fe am_c104 12 13 (.iload 3) := ⟨rfl, rfl⟩
theorem fSheets_faultOfReading_13 : w_ic am_c104 13 14 .ne 16 := ⟨rfl, rfl⟩
theorem fSheets_faultOfReading_14 : w_fe am_c104 14 15 (.bipush 0) := ⟨rfl, rfl⟩
theorem fSheets_faultOfReading_15 : w_fe am_c104 15 16 (.ireturn) := ⟨rfl, rfl⟩
theorem fSheets_faultOfReading_16 : w_fe am_c104 16 17 (.aload 0) := ⟨rfl, rfl⟩
theorem fSheets_faultOfReading_17 : w_fe am_c104 17 18 (.iload 1) := ⟨rfl, rfl⟩
theorem fSheets_faultOfReading_18 : w_fe am_c104 18 19 (.invokestatic 97) := ⟨rfl, rfl⟩
theorem fSheets_faultOfReading_19 : w_if am_c104 19 20 .eq 22 := ⟨rfl, rfl⟩
theorem fSheets_faultOfReading_20 : w_fe am_c104 20 21 (.bipush 1) := ⟨rfl, rfl⟩
theorem fSheets_faultOfReading_21 : w_gt am_c104 21 23 := rfl
theorem fSheets_faultOfReading_22 : w_fe am_c104 22 23 (.bipush 2) := ⟨rfl, rfl⟩
theorem fSheets_faultOfReading_23 : w_fe am_c104 23 24 (.ireturn) := ⟨rfl, rfl⟩
set_option maxRecDepth 20000 in
theorem bSheets_faultOfReading_0 {xs : List Int} {d : Nat} {Q : Option w_V → w_M → Prop} {x1 : Int} {x2 : Int} {x3 : Int} {x4 : Int} {σ : w_M}
    (h : ((¬ ((0 : Int) ≤ x1 ∧ x1 < (4 : Int)) ∨ σ 87 (Int.toNat x1) < 0) → ((¬ x4 = x3 → Q (some (.inl 1)) σ) ∧ (x4 = x3 → Q (some (.inl 0)) σ))) ∧ (¬ (¬ ((0 : Int) ≤ x1 ∧ x1 < (4 : Int)) ∨ σ 87 (Int.toNat x1) < 0) → (((P_Sheets_isOfLane x1 x2 σ) → ((¬ x4 = x3 → Q (some (.inl 2)) σ) ∧ (x4 = x3 → Q (some (.inl 0)) σ))) ∧ (¬ (P_Sheets_isOfLane x1 x2 σ) → Q (some (.inl 3)) σ)))) : w_Call (xs, (d + 3)) 104 [.inr (.inr (8, 80)), .inl x1, .inl x2, .inl x3, .inl x4] σ Q :=
  (w_mk (mid := 104) (by decide) rfl rfl rfl rfl rfl (Nat.le_of_ble_eq_true rfl) ⟨rfl, Or.inl (by decide)⟩ (wi_aload0 fSheets_faultOfReading_0 (wi_iload1 fSheets_faultOfReading_1 (wi_call2 fSheets_faultOfReading_2 (Nat.le_of_ble_eq_true rfl) (k_Sheets_isNothing (wi_ifb_ne fSheets_faultOfReading_3 (fun c4 => (wi_iload4 fSheets_faultOfReading_11 (wi_iload3 fSheets_faultOfReading_12 (wi_ic_ne fSheets_faultOfReading_13 (fun c1 => (wi_aload0 fSheets_faultOfReading_16 (wi_iload1 fSheets_faultOfReading_17 (wi_call2 fSheets_faultOfReading_18 (Nat.le_of_ble_eq_true rfl) (k_Sheets_isNothing (wi_ifb_eq fSheets_faultOfReading_19 (fun e => absurd c4 (w_m_eqb e)) (fun _ => (wi_bipush fSheets_faultOfReading_20 (wi_goto fSheets_faultOfReading_21 (wi_ret1 fSheets_faultOfReading_23 ((h.1 c4).1 c1))))))))))) (fun c1 => (wi_bipush fSheets_faultOfReading_14 (wi_ret1 fSheets_faultOfReading_15 ((h.1 c4).2 c1)))))))) (fun c4 => (wi_aload0 fSheets_faultOfReading_4 (wi_iload1 fSheets_faultOfReading_5 (wi_iload2 fSheets_faultOfReading_6 (wi_call3 fSheets_faultOfReading_7 (Nat.le_of_ble_eq_true rfl) (k_Sheets_isOfLane (wi_ifb_ne fSheets_faultOfReading_8 (fun c3 => (wi_iload4 fSheets_faultOfReading_11 (wi_iload3 fSheets_faultOfReading_12 (wi_ic_ne fSheets_faultOfReading_13 (fun c2 => (wi_aload0 fSheets_faultOfReading_16 (wi_iload1 fSheets_faultOfReading_17 (wi_call2 fSheets_faultOfReading_18 (Nat.le_of_ble_eq_true rfl) (k_Sheets_isNothing (wi_ifb_eq fSheets_faultOfReading_19 (fun _ => (wi_bipush fSheets_faultOfReading_22 (wi_ret1 fSheets_faultOfReading_23 (((h.2 c4).1 c3).1 c2)))) (fun e => absurd c4 (w_n_eqb e)))))))) (fun c2 => (wi_bipush fSheets_faultOfReading_14 (wi_ret1 fSheets_faultOfReading_15 (((h.2 c4).1 c3).2 c2)))))))) (fun c3 => (wi_bipush fSheets_faultOfReading_9 (wi_ret1 fSheets_faultOfReading_10 ((h.2 c4).2 c3)))))))))))))))))
theorem k_Sheets_faultOfReading {xs : List Int} {d : Nat} {Q : Option w_V → w_M → Prop} {x1 : Int} {x2 : Int} {x3 : Int} {x4 : Int} {σ : w_M} (hQ : Q (some (.inl (v_Sheets_faultOfReading x1 x2 x3 x4 σ))) σ) : w_Call (xs, d + 3) 104 [.inr (.inr (8, 80)), .inl x1, .inl x2, .inl x3, .inl x4] σ Q := by
  unfold v_Sheets_faultOfReading at hQ
  refine bSheets_faultOfReading_0 ⟨fun c => ⟨fun c2 => ?_, fun c2 => ?_⟩, fun c => ⟨fun c2 => ⟨fun c3 => ?_, fun c3 => ?_⟩, fun c2 => ?_⟩⟩
  · rw [if_pos c, if_neg c2] at hQ; exact hQ
  · rw [if_pos c, if_pos c2] at hQ; exact hQ
  · rw [if_neg c, if_pos c2, if_neg c3] at hQ; exact hQ
  · rw [if_neg c, if_pos c2, if_pos c3] at hQ; exact hQ
  · rw [if_neg c, if_neg c2] at hQ; exact hQ
theorem cS_t9 {σ : w_M} {y : Int} : cS (w_up σ 0 9 y) = cS σ :=
  cS_ext (w_ab_fr (fun d hd => w_up_ne (by omega))) (s_ab_fr (fun d hd => w_up_ne (by omega))) (c_ab_fr (fun d hd => w_up_ne (by omega))) (t_ab_fr (by rw [w_up_ne (by decide)]) (w_up_j (by decide)) (w_up_ne (by decide))) (h_ab_fr (fun b h1 h2 => w_up_ne (by omega))) (cS_im (w_up_j (by decide)) (fun b h1 h2 => w_up_ne (by omega)))
theorem CI_t9 {σ : w_M} {y : Int} (h : CI σ) : CI (w_up σ 0 9 y) :=
  ⟨by rw [cS_t9]; exact h.1, cX_fr h.2 (by rw [w_up_ne (by decide)]) (w_up_j (by decide)) (by rw [w_up_ne (by decide)]) (by rw [w_up_ne (by decide)])⟩
theorem c_ok {σ : w_M} {k lane f j : Int} (hC : CI σ) (hk : 0 ≤ k ∧ k ≤ 3) (hl : 0 ≤ lane) : rd_ok (cS σ) k lane f j ↔ P_Sheets_isOfLane k lane σ ∧ P_Sheets_hasCell k (f + 2 * j) σ ∧ P_Sheets_hasCell k (f + 2 * j + 1) σ := by
  have h4 : k.toNat < 4 := by omega
  have e4 : cS σ 4 = h_ab σ := rfl
  unfold rd_ok P_Sheets_isOfLane
  rw [e4]
  by_cases h87 : σ 87 k.toNat < 0
  · rw [h_ab_no h4 h87]
    constructor
    · intro h; omega
    · intro h; exact absurd h87 h.1.2.1
  · obtain ⟨e0, e1, _⟩ := h_ab_yes h4 h87
    have hn : ¬ h_ab σ k.toNat 0 = -4 := fun q => h87 ((h_ab_no_iff h4).mp q)
    rw [c_has hC hk hn, c_has hC hk hn, e1]
    constructor
    · intro h; exact ⟨⟨by omega, h87, h.1⟩, by omega, by omega⟩
    · intro h; exact ⟨h.1.2.2, by omega, by omega⟩
theorem c_cell {σ : w_M} {k i : Int} (hC : CI σ) (hk : 0 ≤ k ∧ k ≤ 3) (h : P_Sheets_hasCell k i σ) : v_Sheets_cell k i σ = cS σ 4 k.toNat (2 + i.toNat) := by
  have h4 : k.toNat < 4 := by omega
  have h87 : ¬ σ 87 k.toNat < 0 := fun q => by
    unfold P_Sheets_hasCell v_Sheets_sizeOf at h
    rw [if_neg (fun z => z.2 q)] at h
    omega
  have hi : i < 40 := h.2.2
  have h0 := h.1
  show v_Sheets_cell k i σ = h_ab σ k.toNat (2 + i.toNat)
  rw [(h_ab_yes h4 h87).2.2 _ (by omega)]
  exact if_pos h
noncomputable def p_Moon_read (_ _ f _ : Int) (σ : w_M) : Prop := CI σ ∧ w_in f
noncomputable def q_Moon_read (k lane f n : Int) (σ : w_M) (x : Int) (σ' : w_M) : Prop := R_read (cS σ) k lane f n x (cS σ') ∧ CI σ' ∧ (∀ b, 122 ≤ b → σ' b = σ b) ∧ (x < 0 → σ' 0 9 = σ 0 9) ∧ (0 ≤ x → σ' 0 9 = torn_c (cS σ) k lane n x)
theorem fMoon_read_0 : w_fe am_c150 0 1 (.iload 1) := ⟨rfl, rfl⟩
theorem fMoon_read_1 : w_fe am_c150 1 2 (.bipush 0) := ⟨rfl, rfl⟩
theorem fMoon_read_2 : w_fe am_c150 2 3 (.bipush 3) := ⟨rfl, rfl⟩
theorem fMoon_read_3 : w_fe am_c150 3 4 (.invokestatic 107) := ⟨rfl, rfl⟩
theorem fMoon_read_4 : w_if am_c150 4 5 .eq 15 := ⟨rfl, rfl⟩
theorem fMoon_read_5 : w_fe am_c150 5 6 (.iload 2) := ⟨rfl, rfl⟩
theorem fMoon_read_6 : w_fe am_c150 6 7 (.bipush 0) := ⟨rfl, rfl⟩
theorem fMoon_read_7 : w_fe am_c150 7 8 (.bipush 2) := ⟨rfl, rfl⟩
theorem fMoon_read_8 : w_fe am_c150 8 9 (.invokestatic 107) := ⟨rfl, rfl⟩
theorem fMoon_read_9 : w_if am_c150 9 10 .eq 15 := ⟨rfl, rfl⟩
theorem fMoon_read_10 : w_fe am_c150 10 11 (.iload 4) := ⟨rfl, rfl⟩
theorem fMoon_read_11 : w_fe am_c150 11 12 (.bipush 0) := ⟨rfl, rfl⟩
theorem fMoon_read_12 : w_fe am_c150 12 13 (.bipush 20) := ⟨rfl, rfl⟩
theorem fMoon_read_13 : w_fe am_c150 13 14 (.invokestatic 107) := ⟨rfl, rfl⟩
theorem fMoon_read_14 : w_if am_c150 14 15 .ne 17 := ⟨rfl, rfl⟩
theorem fMoon_read_15 : w_fe am_c150 15 16 (.bipush (-1)) := ⟨rfl, rfl⟩
theorem fMoon_read_16 : w_fe am_c150 16 17 (.ireturn) := ⟨rfl, rfl⟩
theorem fMoon_read_17 : w_fe am_c150 17 18 (.aload 0) := ⟨rfl, rfl⟩
theorem fMoon_read_18 : w_fe am_c150 18 19 (.getfield 6) := ⟨rfl, rfl⟩
theorem fMoon_read_19 : w_fe am_c150 19 20 (.iload 1) := ⟨rfl, rfl⟩
theorem fMoon_read_20 : w_fe am_c150 20 21 (.iload 2) := ⟨rfl, rfl⟩
theorem fMoon_read_21 : w_fe am_c150 21 22 (.invokestatic 101) := ⟨rfl, rfl⟩
theorem fMoon_read_22 : w_if am_c150 22 23 .eq 30 := ⟨rfl, rfl⟩
theorem fMoon_read_23 : w_fe am_c150 23 24 (.aload 0) := ⟨rfl, rfl⟩
theorem fMoon_read_24 : w_fe am_c150 24 25 (.getfield 6) := ⟨rfl, rfl⟩
theorem fMoon_read_25 : w_fe am_c150 25 26 (.iload 1) := ⟨rfl, rfl⟩
theorem fMoon_read_26 : w_fe am_c150 26 27 (.iload 3) := ⟨rfl, rfl⟩
theorem fMoon_read_27 : w_fe am_c150 27 28 (.iload 4) := ⟨rfl, rfl⟩
theorem fMoon_read_28 : w_fe am_c150 28 29 (.invokestatic 102) := ⟨rfl, rfl⟩
theorem fMoon_read_29 : w_gt am_c150 29 31 := rfl
theorem fMoon_read_30 : w_fe am_c150 30 31 (.bipush 0) := ⟨rfl, rfl⟩
theorem fMoon_read_31 : w_fe am_c150 31 32 (.istore 5) := ⟨rfl, rfl⟩
theorem fMoon_read_32 : w_fe am_c150 32 33 (.bipush 0) := ⟨rfl, rfl⟩
theorem fMoon_read_33 : w_fe am_c150 33 34 (.istore 6) := ⟨rfl, rfl⟩
theorem fMoon_read_34 : w_fe am_c150 34 35 (.iload 6) := ⟨rfl, rfl⟩
theorem fMoon_read_35 : w_fe am_c150 35 36 (.iload 5) := ⟨rfl, rfl⟩
theorem fMoon_read_36 : w_ic am_c150 36 37 .ge 71 := ⟨rfl, rfl⟩
theorem fMoon_read_37 : w_fe am_c150 37 38 (.aload 0) := ⟨rfl, rfl⟩
theorem fMoon_read_38 : w_fe am_c150 38 39 (.getfield 2) := ⟨rfl, rfl⟩
theorem fMoon_read_39 : w_fe am_c150 39 40 (.aload 0) := ⟨rfl, rfl⟩
theorem fMoon_read_40 : w_fe am_c150 40 41 (.getfield 6) := ⟨rfl, rfl⟩
theorem fMoon_read_41 : w_fe am_c150 41 42 (.iload 1) := ⟨rfl, rfl⟩
theorem fMoon_read_42 : w_fe am_c150 42 43 (.iload 3) := ⟨rfl, rfl⟩
theorem fMoon_read_43 : w_fe am_c150 43 44 (.bipush 2) := ⟨rfl, rfl⟩
theorem fMoon_read_44 : w_fe am_c150 44 45 (.iload 6) := ⟨rfl, rfl⟩
theorem fMoon_read_45 : w_fe am_c150 45 46 (.imul) := ⟨rfl, rfl⟩
theorem fMoon_read_46 : w_fe am_c150 46 47 (.iadd) := ⟨rfl, rfl⟩
theorem fMoon_read_47 : w_fe am_c150 47 48 (.invokestatic 103) := ⟨rfl, rfl⟩
theorem fMoon_read_48 : w_fe am_c150 48 49 (.invokestatic 38) := ⟨rfl, rfl⟩
theorem fMoon_read_49 : w_if am_c150 49 50 .eq 65 := ⟨rfl, rfl⟩
theorem fMoon_read_50 : w_fe am_c150 50 51 (.aload 0) := ⟨rfl, rfl⟩
theorem fMoon_read_51 : w_fe am_c150 51 52 (.getfield 2) := ⟨rfl, rfl⟩
theorem fMoon_read_52 : w_fe am_c150 52 53 (.aload 0) := ⟨rfl, rfl⟩
theorem fMoon_read_53 : w_fe am_c150 53 54 (.getfield 6) := ⟨rfl, rfl⟩
theorem fMoon_read_54 : w_fe am_c150 54 55 (.iload 1) := ⟨rfl, rfl⟩
theorem fMoon_read_55 : w_fe am_c150 55 56 (.iload 3) := ⟨rfl, rfl⟩
theorem fMoon_read_56 : w_fe am_c150 56 57 (.bipush 2) := ⟨rfl, rfl⟩
theorem fMoon_read_57 : w_fe am_c150 57 58 (.iload 6) := ⟨rfl, rfl⟩
theorem fMoon_read_58 : w_fe am_c150 58 59 (.imul) := ⟨rfl, rfl⟩
theorem fMoon_read_59 : w_fe am_c150 59 60 (.iadd) := ⟨rfl, rfl⟩
theorem fMoon_read_60 : w_fe am_c150 60 61 (.bipush 1) := ⟨rfl, rfl⟩
theorem fMoon_read_61 : w_fe am_c150 61 62 (.iadd) := ⟨rfl, rfl⟩
theorem fMoon_read_62 : w_fe am_c150 62 63 (.invokestatic 103) := ⟨rfl, rfl⟩
theorem fMoon_read_63 : w_fe am_c150 63 64 (.invokestatic 33) := ⟨rfl, rfl⟩
theorem fMoon_read_64 : w_if am_c150 64 65 .ne 69 := ⟨rfl, rfl⟩
theorem fMoon_read_65 : w_fe am_c150 65 66 (.bipush (-20)) := ⟨rfl, rfl⟩
theorem fMoon_read_66 : w_fe am_c150 66 67 (.iload 6) := ⟨rfl, rfl⟩
theorem fMoon_read_67 : w_fe am_c150 67 68 (.isub) := ⟨rfl, rfl⟩
theorem fMoon_read_68 : w_fe am_c150 68 69 (.ireturn) := ⟨rfl, rfl⟩
theorem fMoon_read_69 : w_fe am_c150 69 70 (.iinc 6 1) := ⟨rfl, rfl⟩
theorem fMoon_read_70 : w_gt am_c150 70 34 := rfl
theorem fMoon_read_71 : w_fe am_c150 71 72 (.bipush 0) := ⟨rfl, rfl⟩
theorem fMoon_read_72 : w_fe am_c150 72 73 (.istore 6) := ⟨rfl, rfl⟩
theorem fMoon_read_73 : w_fe am_c150 73 74 (.iload 6) := ⟨rfl, rfl⟩
theorem fMoon_read_74 : w_fe am_c150 74 75 (.iload 5) := ⟨rfl, rfl⟩
theorem fMoon_read_75 : w_ic am_c150 75 76 .ge 101 := ⟨rfl, rfl⟩
theorem fMoon_read_76 : w_fe am_c150 76 77 (.aload 0) := ⟨rfl, rfl⟩
theorem fMoon_read_77 : w_fe am_c150 77 78 (.aload 0) := ⟨rfl, rfl⟩
theorem fMoon_read_78 : w_fe am_c150 78 79 (.getfield 6) := ⟨rfl, rfl⟩
theorem fMoon_read_79 : w_fe am_c150 79 80 (.iload 1) := ⟨rfl, rfl⟩
theorem fMoon_read_80 : w_fe am_c150 80 81 (.iload 3) := ⟨rfl, rfl⟩
theorem fMoon_read_81 : w_fe am_c150 81 82 (.bipush 2) := ⟨rfl, rfl⟩
theorem fMoon_read_82 : w_fe am_c150 82 83 (.iload 6) := ⟨rfl, rfl⟩
theorem fMoon_read_83 : w_fe am_c150 83 84 (.imul) := ⟨rfl, rfl⟩
theorem fMoon_read_84 : w_fe am_c150 84 85 (.iadd) := ⟨rfl, rfl⟩
theorem fMoon_read_85 : w_fe am_c150 85 86 (.invokestatic 103) := ⟨rfl, rfl⟩
theorem fMoon_read_86 : w_fe am_c150 86 87 (.aload 0) := ⟨rfl, rfl⟩
theorem fMoon_read_87 : w_fe am_c150 87 88 (.getfield 6) := ⟨rfl, rfl⟩
theorem fMoon_read_88 : w_fe am_c150 88 89 (.iload 1) := ⟨rfl, rfl⟩
theorem fMoon_read_89 : w_fe am_c150 89 90 (.iload 3) := ⟨rfl, rfl⟩
theorem fMoon_read_90 : w_fe am_c150 90 91 (.bipush 2) := ⟨rfl, rfl⟩
theorem fMoon_read_91 : w_fe am_c150 91 92 (.iload 6) := ⟨rfl, rfl⟩
theorem fMoon_read_92 : w_fe am_c150 92 93 (.imul) := ⟨rfl, rfl⟩
theorem fMoon_read_93 : w_fe am_c150 93 94 (.iadd) := ⟨rfl, rfl⟩
theorem fMoon_read_94 : w_fe am_c150 94 95 (.bipush 1) := ⟨rfl, rfl⟩
theorem fMoon_read_95 : w_fe am_c150 95 96 (.iadd) := ⟨rfl, rfl⟩
theorem fMoon_read_96 : w_fe am_c150 96 97 (.invokestatic 103) := ⟨rfl, rfl⟩
theorem fMoon_read_97 : w_fe am_c150 97 98 (.invokestatic 116) := ⟨rfl, rfl⟩
theorem fMoon_read_98 : w_fe am_c150 98 99 (.pop) := ⟨rfl, rfl⟩
theorem fMoon_read_99 : w_fe am_c150 99 100 (.iinc 6 1) := ⟨rfl, rfl⟩
theorem fMoon_read_100 : w_gt am_c150 100 73 := rfl
theorem fMoon_read_101 : w_fe am_c150 101 102 (.aload 0) := ⟨rfl, rfl⟩
theorem fMoon_read_102 : w_fe am_c150 102 103 (.aload 0) := ⟨rfl, rfl⟩
theorem fMoon_read_103 : w_fe am_c150 103 104 (.getfield 6) := ⟨rfl, rfl⟩
theorem fMoon_read_104 : w_fe am_c150 104 105 (.iload 1) := ⟨rfl, rfl⟩
theorem fMoon_read_105 : w_fe am_c150 105 106 (.iload 2) := ⟨rfl, rfl⟩
theorem fMoon_read_106 : w_fe am_c150 106 107 (.iload 4) := ⟨rfl, rfl⟩
theorem fMoon_read_107 : w_fe am_c150 107 108 (.iload 5) := ⟨rfl, rfl⟩
theorem fMoon_read_108 : w_fe am_c150 108 109 (.invokestatic 104) := ⟨rfl, rfl⟩
theorem fMoon_read_109 : w_fe am_c150 109 110 (.putfield 9) := ⟨rfl, rfl⟩
theorem fMoon_read_110 : w_fe am_c150 110 111 (.iload 5) := ⟨rfl, rfl⟩
theorem fMoon_read_111 : w_fe am_c150 111 112 (.ireturn) := ⟨rfl, rfl⟩
noncomputable def LMoon_read_34 (xs : List Int) (d : Nat) (Q : Option w_V → w_M → Prop) (v1 : Int) (v2 : Int) (v3 : Int) (v4 : Int) (v5 : Int) (v6 : Int) (σ : w_M) : Prop := w_Ex (xs, d) 1 am_c150 Q 34 [some (.inr (.inr (0, 0))), some (.inl v1), some (.inl v2), some (.inl v3), some (.inl v4), some (.inl v5), some (.inl v6)] [] σ
noncomputable def LMoon_read_73 (xs : List Int) (d : Nat) (Q : Option w_V → w_M → Prop) (v1 : Int) (v2 : Int) (v3 : Int) (v4 : Int) (v5 : Int) (v6 : Int) (σ : w_M) : Prop := w_Ex (xs, d) 1 am_c150 Q 73 [some (.inr (.inr (0, 0))), some (.inl v1), some (.inl v2), some (.inl v3), some (.inl v4), some (.inl v5), some (.inl v6)] [] σ
set_option maxRecDepth 20000 in
theorem bMoon_read_0 {xs : List Int} {d : Nat} {Q : Option w_V → w_M → Prop} {x1 : Int} {x2 : Int} {x3 : Int} {x4 : Int} {σ : w_M}
    (h : (¬ (0 ≤ x1 ∧ x1 ≤ 3) → Q (some (.inl (-1))) σ) ∧ ((0 ≤ x1 ∧ x1 ≤ 3) → ((¬ (0 ≤ x2 ∧ x2 ≤ 2) → Q (some (.inl (-1))) σ) ∧ ((0 ≤ x2 ∧ x2 ≤ 2) → (((0 ≤ x4 ∧ x4 ≤ 20) → ((¬ (P_Sheets_isOfLane x1 x2 σ) → LMoon_read_34 xs (d + 5) Q x1 x2 x3 x4 0 0 σ) ∧ ((P_Sheets_isOfLane x1 x2 σ) → (p_Sheets_wholePairs x1 x3 x4 σ ∧ (∀ (y1 : Int) (τ2 : w_M), q_Sheets_wholePairs x1 x3 x4 σ y1 τ2 → LMoon_read_34 xs (d + 5) Q x1 x2 x3 x4 y1 0 τ2))))) ∧ (¬ (0 ≤ x4 ∧ x4 ≤ 20) → Q (some (.inl (-1))) σ)))))) : w_Call (xs, (d + 5)) 150 [.inr (.inr (0, 0)), .inl x1, .inl x2, .inl x3, .inl x4] σ Q :=
  (w_mk (mid := 150) (by decide) rfl rfl rfl rfl rfl (Nat.le_of_ble_eq_true rfl) ⟨rfl, Or.inl (by decide)⟩ (wi_iload1 fMoon_read_0 (wi_bipush fMoon_read_1 (wi_bipush fMoon_read_2 (wi_call3 fMoon_read_3 (Nat.le_of_ble_eq_true rfl) (k_Moon_isWithin (wi_ifb_eq fMoon_read_4 (fun c6 => (wi_bipush fMoon_read_15 (wi_ret1 fMoon_read_16 (h.1 c6)))) (fun c6 => (wi_iload2 fMoon_read_5 (wi_bipush fMoon_read_6 (wi_bipush fMoon_read_7 (wi_call3 fMoon_read_8 (Nat.le_of_ble_eq_true rfl) (k_Moon_isWithin (wi_ifb_eq fMoon_read_9 (fun c5 => (wi_bipush fMoon_read_15 (wi_ret1 fMoon_read_16 ((h.2 c6).1 c5)))) (fun c5 => (wi_iload4 fMoon_read_10 (wi_bipush fMoon_read_11 (wi_bipush fMoon_read_12 (wi_call3 fMoon_read_13 (Nat.le_of_ble_eq_true rfl) (k_Moon_isWithin (wi_ifb_ne fMoon_read_14 (fun c4 => (wi_aload0 fMoon_read_17 (wi_getf6 fMoon_read_18 (wi_iload1 fMoon_read_19 (wi_iload2 fMoon_read_20 (wi_call3 fMoon_read_21 (Nat.le_of_ble_eq_true rfl) (k_Sheets_isOfLane (wi_ifb_eq fMoon_read_22 (fun c3 => (wi_bipush fMoon_read_30 (wi_istore5 fMoon_read_31 trivial (wi_bipush fMoon_read_32 (wi_istore6 fMoon_read_33 trivial ((((h.2 c6).2 c5).1 c4).1 c3)))))) (fun c3 => (wi_aload0 fMoon_read_23 (wi_getf6 fMoon_read_24 (wi_iload1 fMoon_read_25 (wi_iload3 fMoon_read_26 (wi_iload4 fMoon_read_27 (wi_call4 fMoon_read_28 (Nat.le_of_ble_eq_true rfl) (k_Sheets_wholePairs ((((h.2 c6).2 c5).1 c4).2 c3).1 (fun y1 τ2 eτ2 => (wi_goto fMoon_read_29 (wi_istore5 fMoon_read_31 trivial (wi_bipush fMoon_read_32 (wi_istore6 fMoon_read_33 trivial (((((h.2 c6).2 c5).1 c4).2 c3).2 y1 τ2 eτ2)))))))))))))))))))))) (fun c4 => (wi_bipush fMoon_read_15 (wi_ret1 fMoon_read_16 (((h.2 c6).2 c5).2 c4)))))))))))))))))))))))))
set_option maxRecDepth 20000 in
theorem bMoon_read_34 {xs : List Int} {d : Nat} {Q : Option w_V → w_M → Prop} {v1 : Int} {v2 : Int} {v3 : Int} {v4 : Int} {v5 : Int} {v6 : Int} {σ : w_M}
    (h : (v5 ≤ v6 → LMoon_read_73 xs (d + 5) Q v1 v2 v3 v4 v5 0 σ) ∧ (v6 < v5 → (w_in (2 * v6) ∧ w_in (v3 + (2 * v6)) ∧ p_Sheets_cell v1 (v3 + (2 * v6)) σ ∧ (∀ (y1 : Int), y1 = v_Sheets_cell v1 (v3 + (2 * v6)) σ → ((¬ (0 ≤ y1 ∧ y1 < σ 14 5) → (w_in ((-20) - v6) ∧ Q (some (.inl ((-20) - v6))) σ)) ∧ ((0 ≤ y1 ∧ y1 < σ 14 5) → (w_in ((v3 + (2 * v6)) + 1) ∧ p_Sheets_cell v1 ((v3 + (2 * v6)) + 1) σ ∧ (∀ (y2 : Int), y2 = v_Sheets_cell v1 ((v3 + (2 * v6)) + 1) σ → (((0 ≤ y2 ∧ y2 < σ 14 4) → (w_in (v6 + 1) ∧ LMoon_read_34 xs (d + 5) Q v1 v2 v3 v4 v5 (v6 + 1) σ)) ∧ (¬ (0 ≤ y2 ∧ y2 < σ 14 4) → (w_in ((-20) - v6) ∧ Q (some (.inl ((-20) - v6))) σ))))))))))) : LMoon_read_34 xs (d + 5) Q v1 v2 v3 v4 v5 v6 σ :=
  (wi_iload6 fMoon_read_34 (wi_iload5 fMoon_read_35 (wi_ic_ge fMoon_read_36 (fun c5 => (wi_bipush fMoon_read_71 (wi_istore6 fMoon_read_72 trivial (h.1 c5)))) (fun c5 => (wi_aload0 fMoon_read_37 (wi_getf2 fMoon_read_38 (wi_aload0 fMoon_read_39 (wi_getf6 fMoon_read_40 (wi_iload1 fMoon_read_41 (wi_iload3 fMoon_read_42 (wi_bipush fMoon_read_43 (wi_iload6 fMoon_read_44 (wi_imul fMoon_read_45 (h.2 c5).1 (wi_iadd fMoon_read_46 (h.2 c5).2.1 (wi_call3 fMoon_read_47 (Nat.le_of_ble_eq_true rfl) (k_Sheets_cell (h.2 c5).2.2.1 (wi_call2 fMoon_read_48 (Nat.le_of_ble_eq_true rfl) (k_Field_isReaper (wi_ifb_eq fMoon_read_49 (fun c4 => (wi_bipush fMoon_read_65 (wi_iload6 fMoon_read_66 (wi_isub fMoon_read_67 (((h.2 c5).2.2.2 _ rfl).1 c4).1 (wi_ret1 fMoon_read_68 (((h.2 c5).2.2.2 _ rfl).1 c4).2))))) (fun c4 => (wi_aload0 fMoon_read_50 (wi_getf2 fMoon_read_51 (wi_aload0 fMoon_read_52 (wi_getf6 fMoon_read_53 (wi_iload1 fMoon_read_54 (wi_iload3 fMoon_read_55 (wi_bipush fMoon_read_56 (wi_iload6 fMoon_read_57 (wi_imul fMoon_read_58 (h.2 c5).1 (wi_iadd fMoon_read_59 (h.2 c5).2.1 (wi_bipush fMoon_read_60 (wi_iadd fMoon_read_61 (((h.2 c5).2.2.2 _ rfl).2 c4).1 (wi_call3 fMoon_read_62 (Nat.le_of_ble_eq_true rfl) (k_Sheets_cell (((h.2 c5).2.2.2 _ rfl).2 c4).2.1 (wi_call2 fMoon_read_63 (Nat.le_of_ble_eq_true rfl) (k_Field_isStrip (wi_ifb_ne fMoon_read_64 (fun c3 => (wi_iinc6 fMoon_read_69 trivial (((((h.2 c5).2.2.2 _ rfl).2 c4).2.2 _ rfl).1 c3).1 (wi_goto fMoon_read_70 (((((h.2 c5).2.2.2 _ rfl).2 c4).2.2 _ rfl).1 c3).2))) (fun c3 => (wi_bipush fMoon_read_65 (wi_iload6 fMoon_read_66 (wi_isub fMoon_read_67 (((((h.2 c5).2.2.2 _ rfl).2 c4).2.2 _ rfl).2 c3).1 (wi_ret1 fMoon_read_68 (((((h.2 c5).2.2.2 _ rfl).2 c4).2.2 _ rfl).2 c3).2))))))))))))))))))))))))))))))))))))))))))
set_option maxRecDepth 20000 in
theorem bMoon_read_73 {xs : List Int} {d : Nat} {Q : Option w_V → w_M → Prop} {v1 : Int} {v2 : Int} {v3 : Int} {v4 : Int} {v5 : Int} {v6 : Int} {σ : w_M}
    (h : (v5 ≤ v6 → ∀ (y1 : Int), y1 = v_Sheets_faultOfReading v1 v2 v4 v5 σ → ∀ (τ2 : w_M), τ2 = w_up σ 0 9 y1 → Q (some (.inl v5)) τ2) ∧ (v6 < v5 → (w_in (2 * v6) ∧ w_in (v3 + (2 * v6)) ∧ p_Sheets_cell v1 (v3 + (2 * v6)) σ ∧ (∀ (y3 : Int), y3 = v_Sheets_cell v1 (v3 + (2 * v6)) σ → (w_in ((v3 + (2 * v6)) + 1) ∧ p_Sheets_cell v1 ((v3 + (2 * v6)) + 1) σ ∧ (∀ (y4 : Int), y4 = v_Sheets_cell v1 ((v3 + (2 * v6)) + 1) σ → (p_Moon_send y3 y4 σ ∧ (∀ (y5 : Int) (τ6 : w_M), q_Moon_send y3 y4 σ y5 τ6 → (w_in (v6 + 1) ∧ LMoon_read_73 xs (d + 5) Q v1 v2 v3 v4 v5 (v6 + 1) τ6))))))))) : LMoon_read_73 xs (d + 5) Q v1 v2 v3 v4 v5 v6 σ :=
  (wi_iload6 fMoon_read_73 (wi_iload5 fMoon_read_74 (wi_ic_ge fMoon_read_75 (fun c7 => (wi_aload0 fMoon_read_101 (wi_aload0 fMoon_read_102 (wi_getf6 fMoon_read_103 (wi_iload1 fMoon_read_104 (wi_iload2 fMoon_read_105 (wi_iload4 fMoon_read_106 (wi_iload5 fMoon_read_107 (wi_call5 fMoon_read_108 (Nat.le_of_ble_eq_true rfl) (k_Sheets_faultOfReading (wi_putf9 fMoon_read_109 (wi_iload5 fMoon_read_110 (wi_ret1 fMoon_read_111 (((h.1 c7) _ rfl) _ rfl)))))))))))))) (fun c7 => (wi_aload0 fMoon_read_76 (wi_aload0 fMoon_read_77 (wi_getf6 fMoon_read_78 (wi_iload1 fMoon_read_79 (wi_iload3 fMoon_read_80 (wi_bipush fMoon_read_81 (wi_iload6 fMoon_read_82 (wi_imul fMoon_read_83 (h.2 c7).1 (wi_iadd fMoon_read_84 (h.2 c7).2.1 (wi_call3 fMoon_read_85 (Nat.le_of_ble_eq_true rfl) (k_Sheets_cell (h.2 c7).2.2.1 (wi_aload0 fMoon_read_86 (wi_getf6 fMoon_read_87 (wi_iload1 fMoon_read_88 (wi_iload3 fMoon_read_89 (wi_bipush fMoon_read_90 (wi_iload6 fMoon_read_91 (wi_imul fMoon_read_92 (h.2 c7).1 (wi_iadd fMoon_read_93 (h.2 c7).2.1 (wi_bipush fMoon_read_94 (wi_iadd fMoon_read_95 ((h.2 c7).2.2.2 _ rfl).1 (wi_call3 fMoon_read_96 (Nat.le_of_ble_eq_true rfl) (k_Sheets_cell ((h.2 c7).2.2.2 _ rfl).2.1 (wi_call3 fMoon_read_97 (Nat.le_of_ble_eq_true rfl) (k_Moon_send (((h.2 c7).2.2.2 _ rfl).2.2 _ rfl).1 (fun y5 τ6 eτ6 => (wi_pop_i fMoon_read_98 (wi_iinc6 fMoon_read_99 trivial ((((h.2 c7).2.2.2 _ rfl).2.2 _ rfl).2 y5 τ6 eτ6).1 (wi_goto fMoon_read_100 ((((h.2 c7).2.2.2 _ rfl).2.2 _ rfl).2 y5 τ6 eτ6).2)))))))))))))))))))))))))))))))))
theorem k_Moon_read {xs : List Int} {d : Nat} {Q : Option w_V → w_M → Prop} {x1 : Int} {x2 : Int} {x3 : Int} {x4 : Int} {σ : w_M} (hp : p_Moon_read x1 x2 x3 x4 σ) (hQ : ∀ (x : Int) (σ' : w_M), q_Moon_read x1 x2 x3 x4 σ x σ' → Q (some (.inl x)) σ') : w_Call (xs, d + 5) 150 [.inr (.inr (0, 0)), .inl x1, .inl x2, .inl x3, .inl x4] σ Q := by
  obtain ⟨hC, hf⟩ := hp
  unfold w_in at hf
  have bad : ¬ rd_in x1 x2 x4 → Q (some (.inl (-1))) σ := fun h => hQ _ _ ⟨Or.inl ⟨h, rfl, rfl⟩, hC, fun _ _ => rfl, fun _ => rfl, fun h => by omega⟩
  have main : rd_in x1 x2 x4 → ∀ w : Nat, (w : Int) ≤ x4 → (∀ i : Nat, i < w → rd_ok (cS σ) x1 x2 x3 i) → ((w : Int) = x4 ∨ ¬ rd_ok (cS σ) x1 x2 x3 w) → LMoon_read_34 xs (d + 5) Q x1 x2 x3 x4 (w : Int) 0 σ := by
    intro hin w hw h1 h2
    have hk := hin.1
    have hl := hin.2.1
    have hn := hin.2.2
    have hok : ∀ i : Nat, i < w → P_Sheets_isOfLane x1 x2 σ ∧ P_Sheets_hasCell x1 (x3 + 2 * i) σ ∧ P_Sheets_hasCell x1 (x3 + 2 * i + 1) σ := fun i hi => (c_ok hC hk hl.1).mp (h1 i hi)
    refine (w_loop (n := w) (P := fun j => (∀ i : Nat, i < j → rd_gd (cS σ) x1 x3 i) → LMoon_read_34 xs (d + 5) Q x1 x2 x3 x4 (w : Int) (j : Int) σ) ?_ ?_) (fun i hi => by omega)
    · intro hg
      refine bMoon_read_34 ⟨fun _ => ?_, fun h => by omega⟩
      refine (w_loop (n := w) (P := fun j => ∀ τ : w_M, CI τ → cS τ = rd_sd (cS σ) x1 x3 j → (∀ b, 122 ≤ b → τ b = σ b) → LMoon_read_73 xs (d + 5) Q x1 x2 x3 x4 (w : Int) (j : Int) τ) ?_ ?_) σ hC rfl (fun _ _ => rfl)
      · intro τ hT eT fT
        refine bMoon_read_73 ⟨fun _ => fun y ey τ2 t2 => ?_, fun h => by omega⟩
        have e4 : h_ab τ = cS σ 4 := by
          show cS τ 4 = _
          rw [eT, rd_sd_4]
        have h4 : x1.toNat < 4 := by omega
        refine hQ _ _ ⟨Or.inr ⟨hin, w, fun i hi => ⟨h1 i hi, hg i hi⟩, Or.inr ⟨hw, h2, rfl, ?_⟩⟩, ?_, fun b hb => ?_, fun h => by omega, fun _ => ?_⟩
        · rw [t2, cS_t9, eT]
        · rw [t2]; exact CI_t9 hT
        · rw [t2, w_up_ne (by omega), fT b hb]
        · rw [t2, w_up_at, ey]
          unfold v_Sheets_faultOfReading torn_c
          rw [← e4]
          by_cases h87 : τ 87 x1.toNat < 0
          · rw [if_pos (Or.inr h87), if_pos (h_ab_no h4 h87)]
          · rw [if_neg (fun q => by rcases q with q | q; exact q (by omega); exact h87 q), if_neg (fun q => h87 ((h_ab_no_iff h4).mp q)), (h_ab_yes h4 h87).2.1]
            by_cases hla : τ 86 x1.toNat = x2
            · rw [if_pos (show P_Sheets_isOfLane x1 x2 τ from ⟨by omega, h87, hla⟩), if_pos hla]
            · rw [if_neg (fun q : P_Sheets_isOfLane x1 x2 τ => hla q.2.2), if_neg hla]
      · intro j hj ih τ hT eT fT
        have e4 : cS τ 4 = cS σ 4 := by rw [eT, rd_sd_4]
        obtain ⟨_, g1, g2⟩ := (c_ok hT hk hl.1).mp (show rd_ok (cS τ) x1 x2 x3 j by unfold rd_ok; rw [e4]; exact h1 j hj)
        have hb1 := g1
        have hb2 := g2
        unfold P_Sheets_hasCell at hb1 hb2
        refine bMoon_read_73 ⟨fun h => by omega, fun _ => ⟨⟨by omega, by omega⟩, ⟨by omega, by omega⟩, ⟨hk.1, by omega⟩, fun y3 e3 => ⟨⟨by omega, by omega⟩, ⟨hk.1, by omega⟩, fun y4' e4' => ⟨hT, fun y5 τ6 hq => ⟨⟨by omega, by omega⟩, ?_⟩⟩⟩⟩⟩
        rw [c_cell hT hk g1, e4] at e3
        rw [c_cell hT hk g2, e4] at e4'
        obtain ⟨_, s2, s3, s4, _⟩ := hq
        rw [← w_cs1]
        refine ih τ6 s2 ?_ (fun b hb => by rw [s4 b hb, fT b hb])
        rw [s3, eT, e3, e4']
        rfl
    · intro j hj ih hg
      obtain ⟨_, g1, g2⟩ := hok j hj
      have hb1 := g1
      have hb2 := g2
      unfold P_Sheets_hasCell at hb1 hb2
      have bj : ¬ rd_gd (cS σ) x1 x3 j → Q (some (.inl (-20 - (j : Int)))) σ := fun h => hQ _ _ ⟨Or.inr ⟨hin, j, fun i hi => ⟨h1 i (by omega), hg i hi⟩, Or.inl ⟨by omega, h1 j hj, h, rfl, rfl⟩⟩, hC, fun _ _ => rfl, fun _ => rfl, fun h => by omega⟩
      refine bMoon_read_34 ⟨fun h => by omega, fun _ => ⟨⟨by omega, by omega⟩, ⟨by omega, by omega⟩, ⟨hk.1, by omega⟩, fun y1 e1 => ?_⟩⟩
      rw [c_cell hC hk g1] at e1
      refine ⟨fun c => ⟨⟨by omega, by omega⟩, bj (fun q => c (by rw [e1]; exact q.1))⟩, fun c => ⟨⟨by omega, by omega⟩, ⟨hk.1, by omega⟩, fun y2 e2 => ?_⟩⟩
      rw [c_cell hC hk g2] at e2
      refine ⟨fun c2 => ⟨⟨by omega, by omega⟩, ?_⟩, fun c2 => ⟨⟨by omega, by omega⟩, bj (fun q => c2 (by rw [e2]; exact q.2))⟩⟩
      rw [← w_cs1]
      refine ih (fun i hi => ?_)
      by_cases hij : i = j
      · rw [hij]
        refine ⟨?_, ?_⟩
        · rw [e1] at c; exact c
        · rw [e2] at c2; exact c2
      · exact hg i (by omega)
  refine bMoon_read_0 ⟨fun c => bad (fun q => c q.1), fun c => ⟨fun c2 => bad (fun q => c2 q.2.1), fun c2 => ⟨fun c3 => ⟨fun c4 => ?_, fun c4 => ⟨⟨⟨c.1, by omega⟩, hf, c3⟩, fun y1 τ hq => ?_⟩⟩, fun c3 => bad (fun q => c3 q.2.2)⟩⟩⟩
  · exact main ⟨c, c2, c3⟩ 0 c3.1 (fun i hi => by omega) (Or.inr (fun q => c4 ((c_ok hC c c2.1).mp q).1))
  · obtain ⟨q1, q2, q3, q4⟩ := hq
    rw [q1]
    obtain ⟨m, em⟩ := Int.eq_ofNat_of_zero_le q2.1
    rw [em] at q2 q3 q4 ⊢
    refine main ⟨c, c2, c3⟩ m q2.2 (fun i hi => (c_ok hC c c2.1).mpr ⟨c4, q3 i (by omega)⟩) ?_
    rcases q4 with q4 | q4
    · exact Or.inl q4
    · exact Or.inr (fun q => q4 ((c_ok hC c c2.1).mp q).2)
end
section
/-! Reading sheets: the reference -/
theorem m_rdok {σ : w_M} {k lane f j : Int} (hM : MI σ) (hk : 0 ≤ k ∧ k ≤ 3) : rd_ok (mS σ) k lane f j ↔ ¬ σ 130 k.toNat = -4 ∧ σ 130 k.toNat = lane ∧ (0 ≤ f + 2 * j ∧ f + 2 * j + 1 < σ 131 k.toNat) := by
  have h4 : k.toNat < 4 := by omega
  have e4 : mS σ 4 = h_am σ := rfl
  unfold rd_ok
  rw [e4]
  by_cases h : σ 130 k.toNat = -4
  · rw [h_am_no h4 h]
    constructor
    · intro q; omega
    · intro q; exact absurd h q.1
  · obtain ⟨e0, e1, _⟩ := h_am_yes hM h4 h
    rw [e0, e1]
    exact ⟨fun q => ⟨h, q⟩, fun q => q.2⟩
noncomputable def p_Model_read (_ _ f _ : Int) (σ : w_M) : Prop := MI σ ∧ w_in f
noncomputable def q_Model_read (k lane f n : Int) (σ : w_M) (x : Int) (σ' : w_M) : Prop := R_read (mS σ) k lane f n x (mS σ') ∧ MI σ' ∧ (∀ b, b < 122 → σ' b = σ b) ∧ (x < 0 → σ' 122 27 = σ 122 27) ∧ (0 ≤ x → σ' 122 27 = torn_m (mS σ) k lane n x)
theorem fModel_read_0 : w_fe am_c236 0 1 (.iload 1) := ⟨rfl, rfl⟩
theorem fModel_read_1 : w_fe am_c236 1 2 (.iload 2) := ⟨rfl, rfl⟩
theorem fModel_read_2 : w_fe am_c236 2 3 (.invokestatic 234) := ⟨rfl, rfl⟩
theorem fModel_read_3 : w_if am_c236 3 4 .eq 10 := ⟨rfl, rfl⟩
theorem fModel_read_4 : w_fe am_c236 4 5 (.iload 4) := ⟨rfl, rfl⟩
theorem fModel_read_5 : w_fe am_c236 5 6 (.i2l) := ⟨rfl, rfl⟩
theorem fModel_read_6 : w_fe am_c236 6 7 (.sipush 0) := ⟨rfl, rfl⟩
theorem fModel_read_7 : w_fe am_c236 7 8 (.sipush 20) := ⟨rfl, rfl⟩
theorem fModel_read_8 : w_fe am_c236 8 9 (.invokestatic 157) := ⟨rfl, rfl⟩
theorem fModel_read_9 : w_if am_c236 9 10 .ne 12 := ⟨rfl, rfl⟩
theorem fModel_read_10 : w_fe am_c236 10 11 (.bipush (-1)) := ⟨rfl, rfl⟩
theorem fModel_read_11 : w_fe am_c236 11 12 (.ireturn) := ⟨rfl, rfl⟩
theorem fModel_read_12 : w_fe am_c236 12 13 (.bipush 0) := ⟨rfl, rfl⟩
theorem fModel_read_13 : w_fe am_c236 13 14 (.istore 5) := ⟨rfl, rfl⟩
theorem fModel_read_14 : w_fe am_c236 14 15 (.iload 5) := ⟨rfl, rfl⟩
theorem fModel_read_15 : w_fe am_c236 15 16 (.bipush 4) := ⟨rfl, rfl⟩
theorem fModel_read_16 : w_ic am_c236 16 17 .ge 33 := ⟨rfl, rfl⟩
theorem fModel_read_17 : w_fe am_c236 17 18 (.aload 0) := ⟨rfl, rfl⟩
theorem fModel_read_18 : w_fe am_c236 18 19 (.getfield 928) := ⟨rfl, rfl⟩
theorem fModel_read_19 : w_fe am_c236 19 20 (.iload 5) := ⟨rfl, rfl⟩
theorem fModel_read_20 : w_fe am_c236 20 21 (.aload 0) := ⟨rfl, rfl⟩
theorem fModel_read_21 : w_fe am_c236 21 22 (.getfield 900) := ⟨rfl, rfl⟩
theorem fModel_read_22 : w_fe am_c236 22 23 (.bipush 21) := ⟨rfl, rfl⟩
theorem fModel_read_23 : w_fe am_c236 23 24 (.bipush 5) := ⟨rfl, rfl⟩
theorem fModel_read_24 : w_fe am_c236 24 25 (.iload 5) := ⟨rfl, rfl⟩
theorem fModel_read_25 : w_fe am_c236 25 26 (.imul) := ⟨rfl, rfl⟩
theorem fModel_read_26 : w_fe am_c236 26 27 (.iadd) := ⟨rfl, rfl⟩
theorem fModel_read_27 : w_fe am_c236 27 28 (.bipush 3) := ⟨rfl, rfl⟩
theorem fModel_read_28 : w_fe am_c236 28 29 (.iadd) := ⟨rfl, rfl⟩
theorem fModel_read_29 : w_fe am_c236 29 30 (.iaload) := ⟨rfl, rfl⟩
theorem fModel_read_30 : w_fe am_c236 30 31 (.iastore) := ⟨rfl, rfl⟩
theorem fModel_read_31 : w_fe am_c236 31 32 (.iinc 5 1) := ⟨rfl, rfl⟩
theorem fModel_read_32 : w_gt am_c236 32 14 := rfl
theorem fModel_read_33 : w_fe am_c236 33 34 (.bipush 0) := ⟨rfl, rfl⟩
theorem fModel_read_34 : w_fe am_c236 34 35 (.istore 5) := ⟨rfl, rfl⟩
theorem fModel_read_35 : w_fe am_c236 35 36 (.bipush 0) := ⟨rfl, rfl⟩
theorem fModel_read_36 : w_fe am_c236 36 37 (.istore 6) := ⟨rfl, rfl⟩
theorem fModel_read_37 : w_fe am_c236 37 38 (.bipush 0) := ⟨rfl, rfl⟩
theorem fModel_read_38 : w_fe am_c236 38 39 (.istore 7) := ⟨rfl, rfl⟩
theorem fModel_read_39 : w_fe am_c236 39 40 (.iload 7) := ⟨rfl, rfl⟩
theorem fModel_read_40 : w_fe am_c236 40 41 (.iload 4) := ⟨rfl, rfl⟩
theorem fModel_read_41 : w_ic am_c236 41 42 .ge 149 := ⟨rfl, rfl⟩
theorem fModel_read_42 : w_fe am_c236 42 43 (.iload 5) := ⟨rfl, rfl⟩
theorem fModel_read_43 : w_if am_c236 43 44 .ne 149 := ⟨rfl, rfl⟩
theorem fModel_read_44 : w_fe am_c236 44 45 (.bipush 0) := ⟨rfl, rfl⟩
theorem fModel_read_45 : w_fe am_c236 45 46 (.istore 8) := ⟨rfl, rfl⟩
theorem fModel_read_46 : w_fe am_c236 46 47 (.iload 8) := ⟨rfl, rfl⟩
theorem fModel_read_47 : w_fe am_c236 47 48 (.bipush 2) := ⟨rfl, rfl⟩
theorem fModel_read_48 : w_ic am_c236 48 49 .ge 96 := ⟨rfl, rfl⟩
theorem fModel_read_49 : w_fe am_c236 49 50 (.iload 5) := ⟨rfl, rfl⟩
theorem fModel_read_50 : w_if am_c236 50 51 .ne 96 := ⟨rfl, rfl⟩
theorem fModel_read_51 : w_fe am_c236 51 52 (.iload 3) := ⟨rfl, rfl⟩
theorem fModel_read_52 : w_fe am_c236 52 53 (.i2l) := ⟨rfl, rfl⟩
theorem fModel_read_53 : w_fe am_c236 53 54 (.bipush 2) := ⟨rfl, rfl⟩
theorem fModel_read_54 : w_fe am_c236 54 55 (.iload 7) := ⟨rfl, rfl⟩
theorem fModel_read_55 : w_fe am_c236 55 56 (.imul) := ⟨rfl, rfl⟩
theorem fModel_read_56 : w_fe am_c236 56 57 (.i2l) := ⟨rfl, rfl⟩
theorem fModel_read_57 : w_fe am_c236 57 58 (.ladd) := ⟨rfl, rfl⟩
theorem fModel_read_58 : w_fe am_c236 58 59 (.iload 8) := ⟨rfl, rfl⟩
theorem fModel_read_59 : w_fe am_c236 59 60 (.i2l) := ⟨rfl, rfl⟩
theorem fModel_read_60 : w_fe am_c236 60 61 (.ladd) := ⟨rfl, rfl⟩
theorem fModel_read_61 : w_fe am_c236 61 62 (.lstore 9) := ⟨rfl, rfl⟩
theorem fModel_read_62 : w_fe am_c236 62 63 (.aload 0) := ⟨rfl, rfl⟩
theorem fModel_read_63 : w_fe am_c236 63 64 (.getfield 924) := ⟨rfl, rfl⟩
theorem fModel_read_64 : w_fe am_c236 64 65 (.iload 1) := ⟨rfl, rfl⟩
theorem fModel_read_65 : w_fe am_c236 65 66 (.iaload) := ⟨rfl, rfl⟩
theorem fModel_read_66 : w_fe am_c236 66 67 (.bipush (-4)) := ⟨rfl, rfl⟩
theorem fModel_read_67 : w_ic am_c236 67 68 .ne 70 := ⟨rfl, rfl⟩
theorem fModel_read_68 : w_fe am_c236 68 69 (.bipush 1) := ⟨rfl, rfl⟩
theorem fModel_read_69 : w_gt am_c236 69 93 := rfl
theorem fModel_read_70 : w_fe am_c236 70 71 (.aload 0) := ⟨rfl, rfl⟩
theorem fModel_read_71 : w_fe am_c236 71 72 (.getfield 924) := ⟨rfl, rfl⟩
theorem fModel_read_72 : w_fe am_c236 72 73 (.iload 1) := ⟨rfl, rfl⟩
theorem fModel_read_73 : w_fe am_c236 73 74 (.iaload) := ⟨rfl, rfl⟩
theorem fModel_read_74 : w_fe am_c236 74 75 (.iload 2) := ⟨rfl, rfl⟩
theorem fModel_read_75 : w_ic am_c236 75 76 .eq 78 := ⟨rfl, rfl⟩
theorem fModel_read_76 : w_fe am_c236 76 77 (.bipush 3) := ⟨rfl, rfl⟩
theorem fModel_read_77 : w_gt am_c236 77 93 := rfl
theorem fModel_read_78 : w_fe am_c236 78 79 (.lload 9) := ⟨rfl, rfl⟩
theorem fModel_read_79 : w_fe am_c236 79 80 (.sipush 0) := ⟨rfl, rfl⟩
theorem fModel_read_80 : w_fe am_c236 80 81 (.lcmp) := ⟨rfl, rfl⟩
theorem fModel_read_81 : w_if am_c236 81 82 .lt 90 := ⟨rfl, rfl⟩
theorem fModel_read_82 : w_fe am_c236 82 83 (.lload 9) := ⟨rfl, rfl⟩
theorem fModel_read_83 : w_fe am_c236 83 84 (.aload 0) := ⟨rfl, rfl⟩
theorem fModel_read_84 : w_fe am_c236 84 85 (.getfield 925) := ⟨rfl, rfl⟩
theorem fModel_read_85 : w_fe am_c236 85 86 (.iload 1) := ⟨rfl, rfl⟩
theorem fModel_read_86 : w_fe am_c236 86 87 (.iaload) := ⟨rfl, rfl⟩
theorem fModel_read_87 : w_fe am_c236 87 88 (.i2l) := ⟨rfl, rfl⟩
theorem fModel_read_88 : w_fe am_c236 88 89 (.lcmp) := ⟨rfl, rfl⟩
theorem fModel_read_89 : w_if am_c236 89 90 .lt 92 := ⟨rfl, rfl⟩
theorem fModel_read_90 : w_fe am_c236 90 91 (.bipush 2) := ⟨rfl, rfl⟩
theorem fModel_read_91 : w_gt am_c236 91 93 := rfl
theorem fModel_read_92 : w_fe am_c236 92 93 (.bipush 0) := ⟨rfl, rfl⟩
theorem fModel_read_93 : w_fe am_c236 93 94 (.istore 5) := ⟨rfl, rfl⟩
theorem fModel_read_94 : w_fe am_c236 94 95 (.iinc 8 1) := ⟨rfl, rfl⟩
theorem fModel_read_95 : w_gt am_c236 95 46 := rfl
theorem fModel_read_96 : w_fe am_c236 96 97 (.iload 5) := ⟨rfl, rfl⟩
theorem fModel_read_97 : w_if am_c236 97 98 .ne 147 := ⟨rfl, rfl⟩
theorem fModel_read_98 : w_fe am_c236 98 99 (.bipush 40) := ⟨rfl, rfl⟩
theorem fModel_read_99 : w_fe am_c236 99 100 (.iload 1) := ⟨rfl, rfl⟩
theorem fModel_read_100 : w_fe am_c236 100 101 (.imul) := ⟨rfl, rfl⟩
theorem fModel_read_101 : w_fe am_c236 101 102 (.iload 3) := ⟨rfl, rfl⟩
theorem fModel_read_102 : w_fe am_c236 102 103 (.iadd) := ⟨rfl, rfl⟩
theorem fModel_read_103 : w_fe am_c236 103 104 (.bipush 2) := ⟨rfl, rfl⟩
theorem fModel_read_104 : w_fe am_c236 104 105 (.iload 7) := ⟨rfl, rfl⟩
theorem fModel_read_105 : w_fe am_c236 105 106 (.imul) := ⟨rfl, rfl⟩
theorem fModel_read_106 : w_fe am_c236 106 107 (.iadd) := ⟨rfl, rfl⟩
theorem fModel_read_107 : w_fe am_c236 107 108 (.istore 8) := ⟨rfl, rfl⟩
theorem fModel_read_108 : w_fe am_c236 108 109 (.aload 0) := ⟨rfl, rfl⟩
theorem fModel_read_109 : w_fe am_c236 109 110 (.aload 0) := ⟨rfl, rfl⟩
theorem fModel_read_110 : w_fe am_c236 110 111 (.getfield 926) := ⟨rfl, rfl⟩
theorem fModel_read_111 : w_fe am_c236 111 112 (.iload 8) := ⟨rfl, rfl⟩
theorem fModel_read_112 : w_fe am_c236 112 113 (.iaload) := ⟨rfl, rfl⟩
theorem fModel_read_113 : w_fe am_c236 113 114 (.aload 0) := ⟨rfl, rfl⟩
theorem fModel_read_114 : w_fe am_c236 114 115 (.getfield 926) := ⟨rfl, rfl⟩
theorem fModel_read_115 : w_fe am_c236 115 116 (.iload 8) := ⟨rfl, rfl⟩
theorem fModel_read_116 : w_fe am_c236 116 117 (.bipush 1) := ⟨rfl, rfl⟩
theorem fModel_read_117 : w_fe am_c236 117 118 (.iadd) := ⟨rfl, rfl⟩
theorem fModel_read_118 : w_fe am_c236 118 119 (.iaload) := ⟨rfl, rfl⟩
theorem fModel_read_119 : w_fe am_c236 119 120 (.invokestatic 184) := ⟨rfl, rfl⟩
theorem fModel_read_120 : w_if am_c236 120 121 .ge 146 := ⟨rfl, rfl⟩
theorem fModel_read_121 : w_fe am_c236 121 122 (.bipush 0) := ⟨rfl, rfl⟩
theorem fModel_read_122 : w_fe am_c236 122 123 (.istore 9) := ⟨rfl, rfl⟩
theorem fModel_read_123 : w_fe am_c236 123 124 (.iload 9) := ⟨rfl, rfl⟩
theorem fModel_read_124 : w_fe am_c236 124 125 (.bipush 4) := ⟨rfl, rfl⟩
theorem fModel_read_125 : w_ic am_c236 125 126 .ge 142 := ⟨rfl, rfl⟩
theorem fModel_read_126 : w_fe am_c236 126 127 (.aload 0) := ⟨rfl, rfl⟩
theorem fModel_read_127 : w_fe am_c236 127 128 (.getfield 900) := ⟨rfl, rfl⟩
theorem fModel_read_128 : w_fe am_c236 128 129 (.bipush 21) := ⟨rfl, rfl⟩
theorem fModel_read_129 : w_fe am_c236 129 130 (.bipush 5) := ⟨rfl, rfl⟩
theorem fModel_read_130 : w_fe am_c236 130 131 (.iload 9) := ⟨rfl, rfl⟩
theorem fModel_read_131 : w_fe am_c236 131 132 (.imul) := ⟨rfl, rfl⟩
theorem fModel_read_132 : w_fe am_c236 132 133 (.iadd) := ⟨rfl, rfl⟩
theorem fModel_read_133 : w_fe am_c236 133 134 (.bipush 3) := ⟨rfl, rfl⟩
theorem fModel_read_134 : w_fe am_c236 134 135 (.iadd) := ⟨rfl, rfl⟩
theorem fModel_read_135 : w_fe am_c236 135 136 (.aload 0) := ⟨rfl, rfl⟩
theorem fModel_read_136 : w_fe am_c236 136 137 (.getfield 928) := ⟨rfl, rfl⟩
theorem fModel_read_137 : w_fe am_c236 137 138 (.iload 9) := ⟨rfl, rfl⟩
theorem fModel_read_138 : w_fe am_c236 138 139 (.iaload) := ⟨rfl, rfl⟩
theorem fModel_read_139 : w_fe am_c236 139 140 (.iastore) := ⟨rfl, rfl⟩
theorem fModel_read_140 : w_fe am_c236 140 141 (.iinc 9 1) := ⟨rfl, rfl⟩
theorem fModel_read_141 : w_gt am_c236 141 123 := rfl
theorem fModel_read_142 : w_fe am_c236 142 143 (.bipush (-20)) := ⟨rfl, rfl⟩
theorem fModel_read_143 : w_fe am_c236 143 144 (.iload 7) := ⟨rfl, rfl⟩
theorem fModel_read_144 : w_fe am_c236 144 145 (.isub) := ⟨rfl, rfl⟩
theorem fModel_read_145 : w_fe am_c236 145 146 (.ireturn) := ⟨rfl, rfl⟩
theorem fModel_read_146 : w_fe am_c236 146 147 (.iinc 6 1) := ⟨rfl, rfl⟩
theorem fModel_read_147 : w_fe am_c236 147 148 (.iinc 7 1) := ⟨rfl, rfl⟩
theorem fModel_read_148 : w_gt am_c236 148 39 := rfl
theorem fModel_read_149 : w_fe am_c236 149 150 (.aload 0) := ⟨rfl, rfl⟩
theorem fModel_read_150 : w_fe am_c236 150 151 (.iload 5) := ⟨rfl, rfl⟩
theorem fModel_read_151 : w_fe am_c236 151 152 (.putfield 927) := ⟨rfl, rfl⟩
theorem fModel_read_152 : w_fe am_c236 152 153 (.iload 6) := ⟨rfl, rfl⟩
theorem fModel_read_153 : w_fe am_c236 153 154 (.ireturn) := ⟨rfl, rfl⟩
noncomputable def LModel_read_14 (xs : List Int) (d : Nat) (Q : Option w_V → w_M → Prop) (v1 : Int) (v2 : Int) (v3 : Int) (v4 : Int) (v5 : Int) (σ : w_M) : Prop := ∀ l6, w_nl l6 → ∀ l7, w_nl l7 → ∀ l8, w_nl l8 → ∀ l9, w_nl l9 → ∀ l10, w_nl l10 → w_Ex (xs, d) 1 am_c236 Q 14 [some (.inr (.inr (9, 122))), some (.inl v1), some (.inl v2), some (.inl v3), some (.inl v4), some (.inl v5), l6, l7, l8, l9, l10] [] σ
noncomputable def LModel_read_39 (xs : List Int) (d : Nat) (Q : Option w_V → w_M → Prop) (v1 : Int) (v2 : Int) (v3 : Int) (v4 : Int) (v5 : Int) (v6 : Int) (v7 : Int) (σ : w_M) : Prop := ∀ l8, w_nl l8 → ∀ L9 : Option w_V, ∀ l10, w_nl l10 → w_Ex (xs, d) 1 am_c236 Q 39 [some (.inr (.inr (9, 122))), some (.inl v1), some (.inl v2), some (.inl v3), some (.inl v4), some (.inl v5), some (.inl v6), some (.inl v7), l8, L9, l10] [] σ
noncomputable def LModel_read_46 (xs : List Int) (d : Nat) (Q : Option w_V → w_M → Prop) (v1 : Int) (v2 : Int) (v3 : Int) (v4 : Int) (v5 : Int) (v6 : Int) (v7 : Int) (v8 : Int) (σ : w_M) : Prop := ∀ L9 : Option w_V, ∀ l10, w_nl l10 → w_Ex (xs, d) 1 am_c236 Q 46 [some (.inr (.inr (9, 122))), some (.inl v1), some (.inl v2), some (.inl v3), some (.inl v4), some (.inl v5), some (.inl v6), some (.inl v7), some (.inl v8), L9, l10] [] σ
noncomputable def LModel_read_123 (xs : List Int) (d : Nat) (Q : Option w_V → w_M → Prop) (v7 : Int) (v9 : Int) (σ : w_M) : Prop := ∀ l1, w_nl l1 → ∀ l2, w_nl l2 → ∀ l3, w_nl l3 → ∀ l4, w_nl l4 → ∀ l5, w_nl l5 → ∀ l6, w_nl l6 → ∀ l8, w_nl l8 → ∀ l10, w_nl l10 → w_Ex (xs, d) 1 am_c236 Q 123 [some (.inr (.inr (9, 122))), l1, l2, l3, l4, l5, l6, some (.inl v7), l8, some (.inl v9), l10] [] σ
set_option maxRecDepth 20000 in
theorem bModel_read_0 {xs : List Int} {d : Nat} {Q : Option w_V → w_M → Prop} {x1 : Int} {x2 : Int} {x3 : Int} {x4 : Int} {σ : w_M}
    (h : (¬ ((0 ≤ x1 ∧ x1 ≤ 3) ∧ ((0 : Int) ≤ x2 ∧ x2 ≤ (2 : Int))) → Q (some (.inl (-1))) σ) ∧ (((0 ≤ x1 ∧ x1 ≤ 3) ∧ ((0 : Int) ≤ x2 ∧ x2 ≤ (2 : Int))) → (((0 ≤ x4 ∧ x4 ≤ 20) → LModel_read_14 xs (d + 3) Q x1 x2 x3 x4 0 σ) ∧ (¬ (0 ≤ x4 ∧ x4 ≤ 20) → Q (some (.inl (-1))) σ)))) : w_Call (xs, (d + 3)) 236 [.inr (.inr (9, 122)), .inl x1, .inl x2, .inl x3, .inl x4] σ Q :=
  (w_mk (mid := 236) (by decide) rfl rfl rfl rfl rfl (Nat.le_of_ble_eq_true rfl) ⟨rfl, Or.inl (by decide)⟩ (wi_iload1 fModel_read_0 (wi_iload2 fModel_read_1 (wi_call2 fModel_read_2 (Nat.le_of_ble_eq_true rfl) (k_Model_isSheet (wi_ifb_eq fModel_read_3 (fun c2 => (wi_bipush fModel_read_10 (wi_ret1 fModel_read_11 (h.1 c2)))) (fun c2 => (wi_iload4 fModel_read_4 (wi_i2l fModel_read_5 (wi_sipush fModel_read_6 (wi_sipush fModel_read_7 (wi_call3 fModel_read_8 (Nat.le_of_ble_eq_true rfl) (k_Model_in (wi_ifb_ne fModel_read_9 (fun c1 => (wi_bipush fModel_read_12 (wi_istore5 fModel_read_13 trivial (((h.2 c2).1 c1) _ (by exact trivial) _ (by exact trivial) _ (by exact trivial) _ (by exact trivial) _ (by exact trivial))))) (fun c1 => (wi_bipush fModel_read_10 (wi_ret1 fModel_read_11 ((h.2 c2).2 c1))))))))))))))))))
set_option maxRecDepth 20000 in
theorem bModel_read_14 {xs : List Int} {d : Nat} {Q : Option w_V → w_M → Prop} {v1 : Int} {v2 : Int} {v3 : Int} {v4 : Int} {v5 : Int} {σ : w_M}
    (h : (4 ≤ v5 → LModel_read_39 xs (d + 3) Q v1 v2 v3 v4 0 0 0 σ) ∧ (v5 < 4 → (w_in (5 * v5) ∧ w_in (21 + (5 * v5)) ∧ w_in ((21 + (5 * v5)) + 3) ∧ 0 ≤ ((21 + (5 * v5)) + 3) ∧ ((21 + (5 * v5)) + 3) < 246 ∧ 0 ≤ v5 ∧ (∀ (τ1 : w_M), τ1 = w_up σ 133 v5.toNat (σ 123 ((21 + (5 * v5)) + 3).toNat) → (w_in (v5 + 1) ∧ LModel_read_14 xs (d + 3) Q v1 v2 v3 v4 (v5 + 1) τ1))))) : LModel_read_14 xs (d + 3) Q v1 v2 v3 v4 v5 σ :=
  fun l6 nl6 => fun l7 nl7 => fun l8 nl8 => fun l9 nl9 => fun l10 nl10 => (wi_iload5 fModel_read_14 (wi_bipush fModel_read_15 (wi_ic_ge fModel_read_16 (fun c2 => (wi_bipush fModel_read_33 (wi_istore5 fModel_read_34 trivial (wi_bipush fModel_read_35 (wi_istore6 fModel_read_36 trivial (wi_bipush fModel_read_37 (wi_istore7 fModel_read_38 trivial ((h.1 c2) _ nl8 _ _ nl10)))))))) (fun c2 => (wi_aload0 fModel_read_17 (wi_getf928 fModel_read_18 (wi_iload5 fModel_read_19 (wi_aload0 fModel_read_20 (wi_getf900 fModel_read_21 (wi_bipush fModel_read_22 (wi_bipush fModel_read_23 (wi_iload5 fModel_read_24 (wi_imul fModel_read_25 (h.2 c2).1 (wi_iadd fModel_read_26 (h.2 c2).2.1 (wi_bipush fModel_read_27 (wi_iadd fModel_read_28 (h.2 c2).2.2.1 (wi_iald1246 fModel_read_29 (h.2 c2).2.2.2.1 (h.2 c2).2.2.2.2.1 (wi_iast1004 fModel_read_30 (h.2 c2).2.2.2.2.2.1 c2 (wi_iinc5 fModel_read_31 trivial ((h.2 c2).2.2.2.2.2.2 _ rfl).1 (wi_goto fModel_read_32 (((h.2 c2).2.2.2.2.2.2 _ rfl).2 _ nl6 _ nl7 _ nl8 _ nl9 _ nl10)))))))))))))))))))))
set_option maxRecDepth 20000 in
theorem bModel_read_39 {xs : List Int} {d : Nat} {Q : Option w_V → w_M → Prop} {v1 : Int} {v2 : Int} {v3 : Int} {v4 : Int} {v5 : Int} {v6 : Int} {v7 : Int} {σ : w_M}
    (h : (v4 ≤ v7 → ∀ (τ1 : w_M), τ1 = w_up σ 122 27 v5 → Q (some (.inl v6)) τ1) ∧ (v7 < v4 → ((¬ v5 = 0 → ∀ (τ2 : w_M), τ2 = w_up σ 122 27 v5 → Q (some (.inl v6)) τ2) ∧ (v5 = 0 → LModel_read_46 xs (d + 3) Q v1 v2 v3 v4 v5 v6 v7 0 σ)))) : LModel_read_39 xs (d + 3) Q v1 v2 v3 v4 v5 v6 v7 σ :=
  fun l8 nl8 => fun L9 => fun l10 nl10 => (wi_iload7 fModel_read_39 (wi_iload4 fModel_read_40 (wi_ic_ge fModel_read_41 (fun c4 => (wi_aload0 fModel_read_149 (wi_iload5 fModel_read_150 (wi_putf927 fModel_read_151 (wi_iload6 fModel_read_152 (wi_ret1 fModel_read_153 ((h.1 c4) _ rfl))))))) (fun c4 => (wi_iload5 fModel_read_42 (wi_if_ne fModel_read_43 (fun c3 => (wi_aload0 fModel_read_149 (wi_iload5 fModel_read_150 (wi_putf927 fModel_read_151 (wi_iload6 fModel_read_152 (wi_ret1 fModel_read_153 (((h.2 c4).1 c3) _ rfl))))))) (fun c3 => (wi_bipush fModel_read_44 (wi_istore8 fModel_read_45 trivial (((h.2 c4).2 c3) _ _ nl10))))))))))
set_option maxRecDepth 20000 in
theorem bModel_read_46 {xs : List Int} {d : Nat} {Q : Option w_V → w_M → Prop} {v1 : Int} {v2 : Int} {v3 : Int} {v4 : Int} {v5 : Int} {v6 : Int} {v7 : Int} {v8 : Int} {σ : w_M}
    (h : (2 ≤ v8 → ((¬ v5 = 0 → (w_in (v7 + 1) ∧ LModel_read_39 xs (d + 3) Q v1 v2 v3 v4 v5 v6 (v7 + 1) σ)) ∧ (v5 = 0 → (w_in (40 * v1) ∧ w_in ((40 * v1) + v3) ∧ w_in (2 * v7) ∧ w_in (((40 * v1) + v3) + (2 * v7)) ∧ (∀ (y1 : Int), y1 = (((40 * v1) + v3) + (2 * v7)) → (0 ≤ y1 ∧ y1 < 160 ∧ w_in (y1 + 1) ∧ 0 ≤ (y1 + 1) ∧ (y1 + 1) < 160 ∧ p_Model_send (σ 132 y1.toNat) (σ 132 (y1 + 1).toNat) σ ∧ (∀ (y2 : Int) (τ3 : w_M), q_Model_send (σ 132 y1.toNat) (σ 132 (y1 + 1).toNat) σ y2 τ3 → ((0 ≤ y2 → (w_in (v6 + 1) ∧ w_in (v7 + 1) ∧ LModel_read_39 xs (d + 3) Q v1 v2 v3 v4 v5 (v6 + 1) (v7 + 1) τ3)) ∧ (y2 < 0 → LModel_read_123 xs (d + 3) Q v7 0 τ3))))))))) ∧ (v8 < 2 → ((¬ v5 = 0 → (w_in (v7 + 1) ∧ LModel_read_39 xs (d + 3) Q v1 v2 v3 v4 v5 v6 (v7 + 1) σ)) ∧ (v5 = 0 → (w_in (2 * v7) ∧ w_inl (v3 + (2 * v7)) ∧ w_inl ((v3 + (2 * v7)) + v8) ∧ (∀ (y6 : Int), y6 = ((v3 + (2 * v7)) + v8) → (0 ≤ v1 ∧ v1 < 4 ∧ ((¬ (σ 130 v1.toNat) = (-4) → (((σ 130 v1.toNat) = v2 → ((y6 < 0 → (w_in (v8 + 1) ∧ LModel_read_46 xs (d + 3) Q v1 v2 v3 v4 2 v6 v7 (v8 + 1) σ)) ∧ (0 ≤ y6 → ((y6 < (σ 131 v1.toNat) → (w_in (v8 + 1) ∧ LModel_read_46 xs (d + 3) Q v1 v2 v3 v4 0 v6 v7 (v8 + 1) σ)) ∧ ((σ 131 v1.toNat) ≤ y6 → (w_in (v8 + 1) ∧ LModel_read_46 xs (d + 3) Q v1 v2 v3 v4 2 v6 v7 (v8 + 1) σ)))))) ∧ (¬ (σ 130 v1.toNat) = v2 → (w_in (v8 + 1) ∧ LModel_read_46 xs (d + 3) Q v1 v2 v3 v4 3 v6 v7 (v8 + 1) σ)))) ∧ ((σ 130 v1.toNat) = (-4) → (w_in (v8 + 1) ∧ LModel_read_46 xs (d + 3) Q v1 v2 v3 v4 1 v6 v7 (v8 + 1) σ)))))))))) : LModel_read_46 xs (d + 3) Q v1 v2 v3 v4 v5 v6 v7 v8 σ :=
  fun L9 => fun l10 nl10 => (wi_iload8 fModel_read_46 (wi_bipush fModel_read_47 (wi_ic_ge fModel_read_48 (fun c12 => (wi_iload5 fModel_read_96 (wi_if_ne fModel_read_97 (fun c5 => (wi_iinc7 fModel_read_147 trivial ((h.1 c12).1 c5).1 (wi_goto fModel_read_148 (((h.1 c12).1 c5).2 _ (by exact trivial) _ _ nl10)))) (fun c5 => (wi_bipush fModel_read_98 (wi_iload1 fModel_read_99 (wi_imul fModel_read_100 ((h.1 c12).2 c5).1 (wi_iload3 fModel_read_101 (wi_iadd fModel_read_102 ((h.1 c12).2 c5).2.1 (wi_bipush fModel_read_103 (wi_iload7 fModel_read_104 (wi_imul fModel_read_105 ((h.1 c12).2 c5).2.2.1 (wi_iadd fModel_read_106 ((h.1 c12).2 c5).2.2.2.1 (wi_istore8 fModel_read_107 trivial (wi_aload0 fModel_read_108 (wi_aload0 fModel_read_109 (wi_getf926 fModel_read_110 (wi_iload8 fModel_read_111 (wi_iald1160 fModel_read_112 (((h.1 c12).2 c5).2.2.2.2 _ rfl).1 (((h.1 c12).2 c5).2.2.2.2 _ rfl).2.1 (wi_aload0 fModel_read_113 (wi_getf926 fModel_read_114 (wi_iload8 fModel_read_115 (wi_bipush fModel_read_116 (wi_iadd fModel_read_117 (((h.1 c12).2 c5).2.2.2.2 _ rfl).2.2.1 (wi_iald1160 fModel_read_118 (((h.1 c12).2 c5).2.2.2.2 _ rfl).2.2.2.1 (((h.1 c12).2 c5).2.2.2.2 _ rfl).2.2.2.2.1 (wi_call3 fModel_read_119 (Nat.le_of_ble_eq_true rfl) (k_Model_send (((h.1 c12).2 c5).2.2.2.2 _ rfl).2.2.2.2.2.1 (fun y2 τ3 eτ3 => (wi_if_ge fModel_read_120 (fun c4 => (wi_iinc6 fModel_read_146 trivial (((((h.1 c12).2 c5).2.2.2.2 _ rfl).2.2.2.2.2.2 y2 τ3 eτ3).1 c4).1 (wi_iinc7 fModel_read_147 trivial (((((h.1 c12).2 c5).2.2.2.2 _ rfl).2.2.2.2.2.2 y2 τ3 eτ3).1 c4).2.1 (wi_goto fModel_read_148 ((((((h.1 c12).2 c5).2.2.2.2 _ rfl).2.2.2.2.2.2 y2 τ3 eτ3).1 c4).2.2 _ (by exact trivial) _ _ nl10))))) (fun c4 => (wi_bipush fModel_read_121 (wi_istore9 fModel_read_122 trivial ((((((h.1 c12).2 c5).2.2.2.2 _ rfl).2.2.2.2.2.2 y2 τ3 eτ3).2 c4) _ (by exact trivial) _ (by exact trivial) _ (by exact trivial) _ (by exact trivial) _ (by exact trivial) _ (by exact trivial) _ (by exact trivial) _ nl10))))))))))))))))))))))))))))))))) (fun c12 => (wi_iload5 fModel_read_49 (wi_if_ne fModel_read_50 (fun c11 => (wi_iload5 fModel_read_96 (wi_if_ne fModel_read_97 (fun _ => (wi_iinc7 fModel_read_147 trivial ((h.2 c12).1 c11).1 (wi_goto fModel_read_148 (((h.2 c12).1 c11).2 _ (by exact trivial) _ _ nl10)))) (fun e => absurd c11 (w_n_ne e))))) (fun c11 => (wi_iload3 fModel_read_51 (wi_i2l fModel_read_52 (wi_bipush fModel_read_53 (wi_iload7 fModel_read_54 (wi_imul fModel_read_55 ((h.2 c12).2 c11).1 (wi_i2l fModel_read_56 (wi_ladd fModel_read_57 ((h.2 c12).2 c11).2.1 (wi_iload8 fModel_read_58 (wi_i2l fModel_read_59 (wi_ladd fModel_read_60 ((h.2 c12).2 c11).2.2.1 (wi_lstore9 fModel_read_61 trivial (wi_aload0 fModel_read_62 (wi_getf924 fModel_read_63 (wi_iload1 fModel_read_64 (wi_iald1004 fModel_read_65 (((h.2 c12).2 c11).2.2.2 _ rfl).1 (((h.2 c12).2 c11).2.2.2 _ rfl).2.1 (wi_bipush fModel_read_66 (wi_ic_ne fModel_read_67 (fun c10 => (wi_aload0 fModel_read_70 (wi_getf924 fModel_read_71 (wi_iload1 fModel_read_72 (wi_iald1004 fModel_read_73 (((h.2 c12).2 c11).2.2.2 _ rfl).1 (((h.2 c12).2 c11).2.2.2 _ rfl).2.1 (wi_iload2 fModel_read_74 (wi_ic_eq fModel_read_75 (fun c9 => (wi_lload9 fModel_read_78 (wi_sipush fModel_read_79 (wi_lcmp_lt fModel_read_80 fModel_read_81 (fun c8 => (wi_bipush fModel_read_90 (wi_goto fModel_read_91 (wi_istore5 fModel_read_93 trivial (wi_iinc8 fModel_read_94 trivial ((((((h.2 c12).2 c11).2.2.2 _ rfl).2.2.1 c10).1 c9).1 c8).1 (wi_goto fModel_read_95 (((((((h.2 c12).2 c11).2.2.2 _ rfl).2.2.1 c10).1 c9).1 c8).2 _ _ (by exact trivial)))))))) (fun c8 => (wi_lload9 fModel_read_82 (wi_aload0 fModel_read_83 (wi_getf925 fModel_read_84 (wi_iload1 fModel_read_85 (wi_iald1004 fModel_read_86 (((h.2 c12).2 c11).2.2.2 _ rfl).1 (((h.2 c12).2 c11).2.2.2 _ rfl).2.1 (wi_i2l fModel_read_87 (wi_lcmp_lt fModel_read_88 fModel_read_89 (fun c7 => (wi_bipush fModel_read_92 (wi_istore5 fModel_read_93 trivial (wi_iinc8 fModel_read_94 trivial (((((((h.2 c12).2 c11).2.2.2 _ rfl).2.2.1 c10).1 c9).2 c8).1 c7).1 (wi_goto fModel_read_95 ((((((((h.2 c12).2 c11).2.2.2 _ rfl).2.2.1 c10).1 c9).2 c8).1 c7).2 _ _ (by exact trivial))))))) (fun c7 => (wi_bipush fModel_read_90 (wi_goto fModel_read_91 (wi_istore5 fModel_read_93 trivial (wi_iinc8 fModel_read_94 trivial (((((((h.2 c12).2 c11).2.2.2 _ rfl).2.2.1 c10).1 c9).2 c8).2 c7).1 (wi_goto fModel_read_95 ((((((((h.2 c12).2 c11).2.2.2 _ rfl).2.2.1 c10).1 c9).2 c8).2 c7).2 _ _ (by exact trivial)))))))))))))))))))) (fun c9 => (wi_bipush fModel_read_76 (wi_goto fModel_read_77 (wi_istore5 fModel_read_93 trivial (wi_iinc8 fModel_read_94 trivial (((((h.2 c12).2 c11).2.2.2 _ rfl).2.2.1 c10).2 c9).1 (wi_goto fModel_read_95 ((((((h.2 c12).2 c11).2.2.2 _ rfl).2.2.1 c10).2 c9).2 _ _ (by exact trivial))))))))))))))) (fun c10 => (wi_bipush fModel_read_68 (wi_goto fModel_read_69 (wi_istore5 fModel_read_93 trivial (wi_iinc8 fModel_read_94 trivial ((((h.2 c12).2 c11).2.2.2 _ rfl).2.2.2 c10).1 (wi_goto fModel_read_95 (((((h.2 c12).2 c11).2.2.2 _ rfl).2.2.2 c10).2 _ _ (by exact trivial))))))))))))))))))))))))))))))))
set_option maxRecDepth 20000 in
theorem bModel_read_123 {xs : List Int} {d : Nat} {Q : Option w_V → w_M → Prop} {v7 : Int} {v9 : Int} {σ : w_M}
    (h : (4 ≤ v9 → (w_in ((-20) - v7) ∧ Q (some (.inl ((-20) - v7))) σ)) ∧ (v9 < 4 → (w_in (5 * v9) ∧ w_in (21 + (5 * v9)) ∧ w_in ((21 + (5 * v9)) + 3) ∧ 0 ≤ v9 ∧ 0 ≤ ((21 + (5 * v9)) + 3) ∧ ((21 + (5 * v9)) + 3) < 246 ∧ (∀ (τ1 : w_M), τ1 = w_up σ 123 ((21 + (5 * v9)) + 3).toNat (σ 133 v9.toNat) → (w_in (v9 + 1) ∧ LModel_read_123 xs (d + 3) Q v7 (v9 + 1) τ1))))) : LModel_read_123 xs (d + 3) Q v7 v9 σ :=
  fun l1 nl1 => fun l2 nl2 => fun l3 nl3 => fun l4 nl4 => fun l5 nl5 => fun l6 nl6 => fun l8 nl8 => fun l10 nl10 => (wi_iload9 fModel_read_123 (wi_bipush fModel_read_124 (wi_ic_ge fModel_read_125 (fun c2 => (wi_bipush fModel_read_142 (wi_iload7 fModel_read_143 (wi_isub fModel_read_144 (h.1 c2).1 (wi_ret1 fModel_read_145 (h.1 c2).2))))) (fun c2 => (wi_aload0 fModel_read_126 (wi_getf900 fModel_read_127 (wi_bipush fModel_read_128 (wi_bipush fModel_read_129 (wi_iload9 fModel_read_130 (wi_imul fModel_read_131 (h.2 c2).1 (wi_iadd fModel_read_132 (h.2 c2).2.1 (wi_bipush fModel_read_133 (wi_iadd fModel_read_134 (h.2 c2).2.2.1 (wi_aload0 fModel_read_135 (wi_getf928 fModel_read_136 (wi_iload9 fModel_read_137 (wi_iald1004 fModel_read_138 (h.2 c2).2.2.2.1 c2 (wi_iast1246 fModel_read_139 (h.2 c2).2.2.2.2.1 (h.2 c2).2.2.2.2.2.1 (wi_iinc9 fModel_read_140 nl8 ((h.2 c2).2.2.2.2.2.2 _ rfl).1 (wi_goto fModel_read_141 (((h.2 c2).2.2.2.2.2.2 _ rfl).2 _ nl1 _ nl2 _ nl3 _ nl4 _ nl5 _ nl6 _ nl8 _ nl10)))))))))))))))))))))
theorem k_Model_read {xs : List Int} {d : Nat} {Q : Option w_V → w_M → Prop} {x1 : Int} {x2 : Int} {x3 : Int} {x4 : Int} {σ : w_M} (hp : p_Model_read x1 x2 x3 x4 σ) (hQ : ∀ (x : Int) (σ' : w_M), q_Model_read x1 x2 x3 x4 σ x σ' → Q (some (.inl x)) σ') : w_Call (xs, d + 3) 236 [.inr (.inr (9, 122)), .inl x1, .inl x2, .inl x3, .inl x4] σ Q := by
  obtain ⟨hM, hf⟩ := hp
  unfold w_in at hf
  have bad : ¬ rd_in x1 x2 x4 → Q (some (.inl (-1))) σ := fun h => hQ _ _ ⟨Or.inl ⟨h, rfl, rfl⟩, hM, fun _ _ => rfl, fun _ => rfl, fun h => by omega⟩
  refine bModel_read_0 ⟨fun c => bad (fun q => c ⟨q.1, q.2.1⟩), fun c => ⟨fun c3 => ?_, fun c3 => bad (fun q => c3 q.2.2)⟩⟩
  have hin : rd_in x1 x2 x4 := ⟨c.1, c.2, c3⟩
  have hk := c.1
  have h4 : x1.toNat < 4 := by omega
  refine (w_loop (n := 4) (P := fun r => ∀ τ : w_M, w_f1 σ τ 133 → (∀ i, i < r → τ 133 i = σ 123 (24 + 5 * i)) → LModel_read_14 xs (d + 3) Q x1 x2 x3 x4 (r : Int) τ) ?_ ?_) σ w_f1.rfl' (fun i hi => by omega)
  · intro τ0 F0 H0
    refine bModel_read_14 ⟨fun _ => ?_, fun h => by omega⟩
    have roll : ∀ j : Nat, (j : Int) < x4 → (∀ i : Nat, i < j → rd_ok (mS σ) x1 x2 x3 i ∧ rd_gd (mS σ) x1 x3 i) → rd_ok (mS σ) x1 x2 x3 j → ¬ rd_gd (mS σ) x1 x3 j → ∀ τ : w_M, (∀ b, b ≠ 123 → τ b = τ0 b) → (∀ x, (∀ r, r < 4 → x ≠ 24 + 5 * r) → τ 123 x = σ 123 x) → LModel_read_123 xs (d + 3) Q (j : Int) 0 τ := by
      intro j hj a1 a2 a3 τ F G
      refine (w_loop (n := 4) (P := fun r => ∀ τ : w_M, (∀ b, b ≠ 123 → τ b = τ0 b) → (∀ x, (∀ q, q < 4 → r ≤ q → x ≠ 24 + 5 * q) → τ 123 x = σ 123 x) → LModel_read_123 xs (d + 3) Q (j : Int) (r : Int) τ) ?_ ?_) τ F (fun x hx => G x (fun q h => hx q h (by omega)))
      · intro τ F G
        refine bModel_read_123 ⟨fun _ => ⟨⟨by omega, by omega⟩, ?_⟩, fun h => by omega⟩
        have e123 : τ 123 = σ 123 := by
          funext x
          exact G x (fun q h1 h2 => by omega)
        have E : ∀ b, b ≠ 133 → τ b = σ b := fun b hb => by
          by_cases hb2 : b = 123
          · rw [hb2, e123]
          · rw [F b hb2, F0 b hb]
        have eS : mS τ = mS σ := mS_scratch hM (fun i _ => by rw [E 122 (by decide)]) (fun b hb => E b (by omega))
        exact hQ _ _ ⟨by rw [eS]; exact Or.inr ⟨hin, j, a1, Or.inl ⟨hj, a2, a3, rfl, rfl⟩⟩, by unfold MI; rw [eS]; exact hM, fun b hb => E b (by omega), fun _ => by rw [E 122 (by decide)], fun h => by omega⟩
      · intro r hr ih τ F G
        refine bModel_read_123 ⟨fun h => by omega, fun _ => ⟨⟨by omega, by omega⟩, ⟨by omega, by omega⟩, ⟨by omega, by omega⟩, by omega, by omega, by omega, fun τ1 t1 => ⟨⟨by omega, by omega⟩, ?_⟩⟩⟩
        rw [← w_cs1]
        have ea : (21 + 5 * (r : Int) + 3).toNat = 24 + 5 * r := by omega
        rw [ea, Int.toNat_natCast, F 133 (by decide), H0 r hr] at t1
        refine ih τ1 (fun b hb => by rw [t1, w_up_ne hb]; exact F b hb) (fun x hx => ?_)
        by_cases hxr : x = 24 + 5 * r
        · rw [hxr, t1, w_up_at]
        · rw [t1, w_up_j hxr]
          refine G x (fun q h1 h2 => ?_)
          by_cases hqr : q = r
          · rw [hqr]; exact hxr
          · exact hx q h1 (by omega)
    have fin : ∀ (j : Nat) (re : Int), (j : Int) ≤ x4 → (∀ i : Nat, i < j → rd_ok (mS σ) x1 x2 x3 i ∧ rd_gd (mS σ) x1 x3 i) → ((j : Int) = x4 ∨ ¬ rd_ok (mS σ) x1 x2 x3 j) → re = torn_m (mS σ) x1 x2 x4 j → ∀ τ : w_M, MI τ → mS τ = rd_sd (mS σ) x1 x3 j → (∀ b, b < 122 → τ b = σ b) → ∀ τ1, τ1 = w_up τ 122 27 re → Q (some (.inl (j : Int))) τ1 := by
      intro j re hj a1 a2 a3 τ hT eT fT τ1 t1
      have eS : mS τ1 = mS τ := mS_scratch hT (fun i hi => by rw [t1, w_up_j (by omega)]) (fun b hb => by rw [t1, w_up_ne (by omega)])
      exact hQ _ _ ⟨Or.inr ⟨hin, j, a1, Or.inr ⟨hj, a2, rfl, by rw [eS, eT]⟩⟩, by unfold MI; rw [eS]; exact hT, fun b hb => by rw [t1, w_up_ne (by omega), fT b hb], fun h => by omega, fun _ => by rw [t1, w_up_at, a3]⟩
    have S0 : mS τ0 = mS σ := mS_scratch hM (fun i _ => by rw [F0 122 (by decide)]) (fun b hb => F0 b (by omega))
    refine (w_loop (n := x4.toNat) (P := fun j => ∀ τ : w_M, MI τ → mS τ = rd_sd (mS σ) x1 x3 j → (∀ b, b ≠ 123 → τ b = τ0 b) → (∀ x, (∀ r, r < 4 → x ≠ 24 + 5 * r) → τ 123 x = σ 123 x) → (∀ i : Nat, i < j → rd_ok (mS σ) x1 x2 x3 i ∧ rd_gd (mS σ) x1 x3 i) → LModel_read_39 xs (d + 3) Q x1 x2 x3 x4 0 (j : Int) (j : Int) τ) ?_ ?_) τ0 (by unfold MI; rw [S0]; exact hM) S0 (fun b _ => rfl) (fun x _ => by rw [F0 123 (by decide)]) (fun i hi => by omega)
    · intro τ hT eT F G a1
      have ej : ((x4.toNat : Nat) : Int) = x4 := by omega
      refine bModel_read_39 ⟨fun _ => fun τ1 t1 => fin x4.toNat 0 (by omega) a1 (Or.inl ej) ?_ τ hT eT (fun b hb => by rw [F b (by omega), F0 b (by omega)]) τ1 t1, fun h => by omega⟩
      unfold torn_m
      rw [if_pos ej]
    · intro j hj ih τ hT eT F G a1
      have hjn : (j : Int) < x4 := by omega
      have E : ∀ b, b ≠ 123 → b ≠ 133 → τ b = σ b := fun b h1 h2 => by rw [F b h1, F0 b h2]
      have fT : ∀ b, b < 122 → τ b = σ b := fun b hb => E b (by omega) (by omega)
      have stop : ∀ re v8 : Int, v8 ≤ 2 → ¬ re = 0 → ¬ rd_ok (mS σ) x1 x2 x3 j → re = torn_m (mS σ) x1 x2 x4 j → LModel_read_46 xs (d + 3) Q x1 x2 x3 x4 re (j : Int) (j : Int) v8 τ := by
        intro re v8 hv h0 h1 h2
        have nx : LModel_read_39 xs (d + 3) Q x1 x2 x3 x4 re (j : Int) ((j : Int) + 1) τ :=
          bModel_read_39 ⟨fun _ => fun τ1 t1 => fin j re (by omega) a1 (Or.inr h1) h2 τ hT eT fT τ1 t1, fun _ => ⟨fun _ => fun τ1 t1 => fin j re (by omega) a1 (Or.inr h1) h2 τ hT eT fT τ1 t1, fun h => absurd h h0⟩⟩
        exact bModel_read_46 ⟨fun _ => ⟨fun _ => ⟨⟨by omega, by omega⟩, nx⟩, fun h => absurd h h0⟩, fun _ => ⟨fun _ => ⟨⟨by omega, by omega⟩, nx⟩, fun h => absurd h h0⟩⟩
      have e4 : mS σ 4 = h_am σ := rfl
      have one : ∀ v8 : Int, v8 = 0 ∨ v8 = 1 → (¬ σ 130 x1.toNat = -4 → σ 130 x1.toNat = x2 → 0 ≤ x3 + 2 * (j : Int) + v8 → x3 + 2 * (j : Int) + v8 < σ 131 x1.toNat → LModel_read_46 xs (d + 3) Q x1 x2 x3 x4 0 (j : Int) (j : Int) (v8 + 1) τ) → LModel_read_46 xs (d + 3) Q x1 x2 x3 x4 0 (j : Int) (j : Int) v8 τ := by
        intro v8 h8 nxt
        have two : ¬ σ 130 x1.toNat = -4 → σ 130 x1.toNat = x2 → ¬ rd_ok (mS σ) x1 x2 x3 j → LModel_read_46 xs (d + 3) Q x1 x2 x3 x4 2 (j : Int) (j : Int) (v8 + 1) τ := fun c1 c2 h => by
          obtain ⟨e0, e1, w0, w1, _⟩ := h_am_yes hM h4 c1
          refine stop 2 _ (by omega) (by decide) h ?_
          unfold torn_m
          rw [e4, e0, e1, if_neg (by omega), if_neg (by omega), if_pos c2]
        refine bModel_read_46 ⟨fun h => by omega, fun _ => ⟨fun h => absurd rfl h, fun _ => ⟨⟨by omega, by omega⟩, ⟨by omega, by omega⟩, ⟨by omega, by omega⟩, fun y6 e6 => ⟨hk.1, by omega, ?_⟩⟩⟩⟩
        rw [E 130 (by decide) (by decide), E 131 (by decide) (by decide)]
        refine ⟨fun c1 => ⟨fun c2 => ⟨fun c5 => ⟨⟨by omega, by omega⟩, two c1 c2 (fun q => ?_)⟩, fun c5 => ⟨fun c6 => ⟨⟨by omega, by omega⟩, nxt c1 c2 (by omega) (by omega)⟩, fun c6 => ⟨⟨by omega, by omega⟩, two c1 c2 (fun q => ?_)⟩⟩⟩, fun c2 => ⟨⟨by omega, by omega⟩, stop 3 _ (by omega) (by decide) (fun q => c2 ((m_rdok hM hk).mp q).2.1) ?_⟩⟩, fun c1 => ⟨⟨by omega, by omega⟩, stop 1 _ (by omega) (by decide) (fun q => ((m_rdok hM hk).mp q).1 c1) ?_⟩⟩
        · have := ((m_rdok hM hk).mp q).2.2; omega
        · have := ((m_rdok hM hk).mp q).2.2; omega
        · obtain ⟨e0, e1, w0, w1, _⟩ := h_am_yes hM h4 c1
          unfold torn_m
          rw [e4, e0, e1, if_neg (by omega), if_neg (by omega), if_neg c2]
        · unfold torn_m
          rw [e4, h_am_no h4 c1, if_neg (by omega), if_pos rfl]
      refine bModel_read_39 ⟨fun h => by omega, fun _ => ⟨fun h => absurd rfl h, fun _ => ?_⟩⟩
      refine one 0 (Or.inl rfl) (fun b1 b2 b3 b4 => one 1 (Or.inr rfl) (fun _ _ b5 b6 => ?_))
      obtain ⟨g0, g1, w0, w1, g2⟩ := h_am_yes hM h4 b1
      have okj : rd_ok (mS σ) x1 x2 x3 j := (m_rdok hM hk).mpr ⟨b1, b2, by omega, by omega⟩
      refine bModel_read_46 ⟨fun _ => ⟨fun h => absurd rfl h, fun _ => ⟨⟨by omega, by omega⟩, ⟨by omega, by omega⟩, ⟨by omega, by omega⟩, ⟨by omega, by omega⟩, fun y1 ey => ⟨by omega, by omega, ⟨by omega, by omega⟩, by omega, by omega, hT, fun y2 τ3 hq => ?_⟩⟩⟩, fun h => by omega⟩
      have ea : τ 132 y1.toNat = rd_a (mS σ) x1 x3 j := by
        show _ = h_am σ x1.toNat (2 + (x3 + 2 * (j : Int)).toNat)
        rw [g2 _ (by omega), E 132 (by decide) (by decide), show y1.toNat = 40 * x1.toNat + (x3 + 2 * (j : Int)).toNat by omega]
      have eb : τ 132 (y1 + 1).toNat = rd_b (mS σ) x1 x3 j := by
        show _ = h_am σ x1.toNat (2 + (x3 + 2 * (j : Int) + 1).toNat)
        rw [g2 _ (by omega), E 132 (by decide) (by decide), show (y1 + 1).toNat = 40 * x1.toNat + (x3 + 2 * (j : Int) + 1).toNat by omega]
      rw [ea, eb] at hq
      obtain ⟨⟨s1, s2, s3, s4, s5⟩, raw⟩ := hq
      have hPs : P_send (mS τ) (rd_a (mS σ) x1 x3 j) (rd_b (mS σ) x1 x3 j) ↔ rd_gd (mS σ) x1 x3 j := by
        unfold rd_gd P_send
        rw [eT, rd_sd_0]
      have F' : ∀ b, b ≠ 123 → τ3 b = τ0 b := fun b hb => by
        rcases raw with raw | ⟨_, raw⟩
        · rw [raw]; exact F b hb
        · rw [raw, w_up_ne hb]; exact F b hb
      have G' : ∀ x, (∀ r, r < 4 → x ≠ 24 + 5 * r) → τ3 123 x = σ 123 x := fun x hx => by
        rcases raw with raw | ⟨hr, raw⟩
        · rw [raw]; exact G x hx
        · rw [raw, w_up_j (hx _ (by omega))]; exact G x hx
      unfold F_send at s1
      refine ⟨fun c1 => ⟨⟨by omega, by omega⟩, ⟨by omega, by omega⟩, ?_⟩, fun c1 => ?_⟩
      · have hg : rd_gd (mS σ) x1 x3 j := Classical.byContradiction (fun h => by
          rw [F_set_f (fun q => h (hPs.mp q))] at s1
          omega)
        rw [← w_cs1]
        refine ih τ3 s2 (by rw [s3, eT]; rfl) F' G' (fun i hi => ?_)
        by_cases hij : i = j
        · rw [hij]; exact ⟨okj, hg⟩
        · exact a1 i (by omega)
      · have hg : ¬ rd_gd (mS σ) x1 x3 j := fun h => by
          have hP := hPs.mpr h
          rw [F_set_t hP] at s1
          have hA : n_WF (mS τ 0) := hT.1
          have := hP.1
          have := n_WF.r hA (r := (rd_a (mS σ) x1 x3 j).toNat) (by show _ < (mS τ 0 0 5).toNat; omega)
          omega
        exact roll j hjn a1 okj hg τ3 F' G'
  · intro r hr ih τ F H
    refine bModel_read_14 ⟨fun h => by omega, fun _ => ⟨⟨by omega, by omega⟩, ⟨by omega, by omega⟩, ⟨by omega, by omega⟩, by omega, by omega, by omega, fun τ1 t1 => ⟨⟨by omega, by omega⟩, ?_⟩⟩⟩
    rw [← w_cs1]
    have ea : (21 + 5 * (r : Int) + 3).toNat = 24 + 5 * r := by omega
    rw [ea, Int.toNat_natCast, F 123 (by decide)] at t1
    refine ih τ1 (by rw [t1]; exact F.up) (fun i hi => ?_)
    by_cases hir : i = r
    · rw [hir, t1, w_up_at]
    · rw [t1, w_up_j hir]; exact H i (by omega)
end
section
/-! Where the hare can stand -/
noncomputable def se_1 (B : w_M) (n i : Int) (k : Nat) : Prop := B 1 k = n → (if B 2 k = i then (1 : Int) else 0) = B 3 k
noncomputable def se_al (B : w_M) (n i : Int) : Prop := ∀ k, k < (B 0 0).toNat → se_1 B n i k
theorem s_ab_rd {σ : w_M} {a d i : Nat} (h1 : 1 ≤ d) (h2 : d < 4) (hi : i < (σ a 0).toNat) : σ (a + d) i = s_ab σ a d i := by
  unfold s_ab
  rw [if_neg (by omega), if_pos h2, if_pos hi]
theorem s_am_rd {σ : w_M} {d i x : Nat} (h1 : 1 ≤ d) (h2 : d < 4) (hi : i < (σ 123 48).toNat) (hx : x = 49 + 3 * i + (d - 1)) : σ 123 x = s_am σ 0 d i := by
  unfold s_am
  rw [Nat.zero_add, if_neg (by omega), if_pos h2, if_pos hi, hx, Nat.zero_add]
noncomputable def p_Seen_allows (a : Nat) (_ _ : Int) (σ : w_M) : Prop := 0 ≤ σ a 0 ∧ σ a 0 ≤ 8
noncomputable def P_Seen_allows (a : Nat) (n i : Int) (σ : w_M) : Prop := se_al (s_ab σ a) n i
theorem fSeen_allows_0 : w_fe am_c57 0 1 (.bipush 0) := ⟨rfl, rfl⟩
theorem fSeen_allows_1 : w_fe am_c57 1 2 (.istore 3) := ⟨rfl, rfl⟩
theorem fSeen_allows_2 : w_fe am_c57 2 3 (.iload 3) := ⟨rfl, rfl⟩
theorem fSeen_allows_3 : w_fe am_c57 3 4 (.aload 0) := ⟨rfl, rfl⟩
theorem fSeen_allows_4 : w_fe am_c57 4 5 (.getfield 400) := ⟨rfl, rfl⟩
theorem fSeen_allows_5 : w_ic am_c57 5 6 .ge 32 := ⟨rfl, rfl⟩
theorem fSeen_allows_6 : w_fe am_c57 6 7 (.aload 0) := ⟨rfl, rfl⟩
theorem fSeen_allows_7 : w_fe am_c57 7 8 (.getfield 402) := ⟨rfl, rfl⟩
theorem fSeen_allows_8 : w_fe am_c57 8 9 (.iload 3) := ⟨rfl, rfl⟩
theorem fSeen_allows_9 : w_fe am_c57 9 10 (.iaload) := ⟨rfl, rfl⟩
theorem fSeen_allows_10 : w_fe am_c57 10 11 (.iload 2) := ⟨rfl, rfl⟩
theorem fSeen_allows_11 : w_ic am_c57 11 12 .ne 14 := ⟨rfl, rfl⟩
theorem fSeen_allows_12 : w_fe am_c57 12 13 (.bipush 1) := ⟨rfl, rfl⟩
theorem fSeen_allows_13 : w_gt am_c57 13 15 := rfl
theorem fSeen_allows_14 : w_fe am_c57 14 15 (.bipush 0) := ⟨rfl, rfl⟩
theorem fSeen_allows_15 : w_fe am_c57 15 16 (.istore 4) := ⟨rfl, rfl⟩
theorem fSeen_allows_16 : w_fe am_c57 16 17 (.aload 0) := ⟨rfl, rfl⟩
theorem fSeen_allows_17 : w_fe am_c57 17 18 (.getfield 401) := ⟨rfl, rfl⟩
theorem fSeen_allows_18 : w_fe am_c57 18 19 (.iload 3) := ⟨rfl, rfl⟩
theorem fSeen_allows_19 : w_fe am_c57 19 20 (.iaload) := ⟨rfl, rfl⟩
theorem fSeen_allows_20 : w_fe am_c57 20 21 (.iload 1) := ⟨rfl, rfl⟩
theorem fSeen_allows_21 : w_ic am_c57 21 22 .ne 30 := ⟨rfl, rfl⟩
theorem fSeen_allows_22 : w_fe am_c57 22 23 (.iload 4) := ⟨rfl, rfl⟩
theorem fSeen_allows_23 : w_fe am_c57 23 24 (.aload 0) := ⟨rfl, rfl⟩
theorem fSeen_allows_24 : w_fe am_c57 24 25 (.getfield 403) := ⟨rfl, rfl⟩
theorem fSeen_allows_25 : w_fe am_c57 25 26 (.iload 3) := ⟨rfl, rfl⟩
theorem fSeen_allows_26 : w_fe am_c57 26 27 (.iaload) := ⟨rfl, rfl⟩
theorem fSeen_allows_27 : w_ic am_c57 27 28 .eq 30 := ⟨rfl, rfl⟩
theorem fSeen_allows_28 : w_fe am_c57 28 29 (.bipush 0) := ⟨rfl, rfl⟩
theorem fSeen_allows_29 : w_fe am_c57 29 30 (.ireturn) := ⟨rfl, rfl⟩
theorem fSeen_allows_30 : w_fe am_c57 30 31 (.iinc 3 1) := ⟨rfl, rfl⟩
theorem fSeen_allows_31 : w_gt am_c57 31 2 := rfl
theorem fSeen_allows_32 : w_fe am_c57 32 33 (.bipush 1) := ⟨rfl, rfl⟩
theorem fSeen_allows_33 : w_fe am_c57 33 34 (.ireturn) := ⟨rfl, rfl⟩
noncomputable def LSeen_allows_2 (xs : List Int) (d : Nat) (Q : Option w_V → w_M → Prop) (r0 : Nat) (v1 : Int) (v2 : Int) (v3 : Int) (σ : w_M) : Prop := ∀ l4, w_nl l4 → w_Ex (xs, d) 2 am_c57 Q 2 [some (.inr (.inr (4, r0))), some (.inl v1), some (.inl v2), some (.inl v3), l4] [] σ
set_option maxRecDepth 20000 in
theorem bSeen_allows_0 {xs : List Int} {d : Nat} {Q : Option w_V → w_M → Prop} {a : Nat} {x1 : Int} {x2 : Int} {σ : w_M}
    (h : LSeen_allows_2 xs d Q a x1 x2 0 σ) : w_Call (xs, d) 57 [.inr (.inr (4, a)), .inl x1, .inl x2] σ Q :=
  (w_mk (mid := 57) (by decide) rfl rfl rfl rfl rfl (Nat.le_of_ble_eq_true rfl) ⟨rfl, Or.inl (by decide)⟩ (wi_bipush fSeen_allows_0 (wi_istore3 fSeen_allows_1 trivial (h _ (by exact trivial)))))
set_option maxRecDepth 20000 in
theorem bSeen_allows_2 {xs : List Int} {d : Nat} {Q : Option w_V → w_M → Prop} {r0 : Nat} {v1 : Int} {v2 : Int} {v3 : Int} {σ : w_M}
    (h : ((σ r0 0) ≤ v3 → Q (some (.inl 1)) σ) ∧ (v3 < (σ r0 0) → (0 ≤ v3 ∧ v3 < 8 ∧ ((¬ (σ (r0 + 2) v3.toNat) = v2 → ((¬ (σ (r0 + 1) v3.toNat) = v1 → (w_in (v3 + 1) ∧ LSeen_allows_2 xs d Q r0 v1 v2 (v3 + 1) σ)) ∧ ((σ (r0 + 1) v3.toNat) = v1 → (((0 : Int) = (σ (r0 + 3) v3.toNat) → (w_in (v3 + 1) ∧ LSeen_allows_2 xs d Q r0 v1 v2 (v3 + 1) σ)) ∧ (¬ (0 : Int) = (σ (r0 + 3) v3.toNat) → Q (some (.inl 0)) σ))))) ∧ ((σ (r0 + 2) v3.toNat) = v2 → ((¬ (σ (r0 + 1) v3.toNat) = v1 → (w_in (v3 + 1) ∧ LSeen_allows_2 xs d Q r0 v1 v2 (v3 + 1) σ)) ∧ ((σ (r0 + 1) v3.toNat) = v1 → (((1 : Int) = (σ (r0 + 3) v3.toNat) → (w_in (v3 + 1) ∧ LSeen_allows_2 xs d Q r0 v1 v2 (v3 + 1) σ)) ∧ (¬ (1 : Int) = (σ (r0 + 3) v3.toNat) → Q (some (.inl 0)) σ))))))))) : LSeen_allows_2 xs d Q r0 v1 v2 v3 σ :=
  fun l4 nl4 => (wi_iload3 fSeen_allows_2 (wi_aload0 fSeen_allows_3 (wi_getf400 fSeen_allows_4 (wi_ic_ge fSeen_allows_5 (fun c6 => (wi_bipush fSeen_allows_32 (wi_ret2 fSeen_allows_33 (by decide) (h.1 c6)))) (fun c6 => (wi_aload0 fSeen_allows_6 (wi_getf402 fSeen_allows_7 (wi_iload3 fSeen_allows_8 (wi_iald1008 fSeen_allows_9 (h.2 c6).1 (h.2 c6).2.1 (wi_iload2 fSeen_allows_10 (wi_ic_ne fSeen_allows_11 (fun c5 => (wi_bipush fSeen_allows_14 (wi_istore4 fSeen_allows_15 trivial (wi_aload0 fSeen_allows_16 (wi_getf401 fSeen_allows_17 (wi_iload3 fSeen_allows_18 (wi_iald1008 fSeen_allows_19 (h.2 c6).1 (h.2 c6).2.1 (wi_iload1 fSeen_allows_20 (wi_ic_ne fSeen_allows_21 (fun c2 => (wi_iinc3 fSeen_allows_30 trivial (((h.2 c6).2.2.1 c5).1 c2).1 (wi_goto fSeen_allows_31 ((((h.2 c6).2.2.1 c5).1 c2).2 _ (by exact trivial))))) (fun c2 => (wi_iload4 fSeen_allows_22 (wi_aload0 fSeen_allows_23 (wi_getf403 fSeen_allows_24 (wi_iload3 fSeen_allows_25 (wi_iald1008 fSeen_allows_26 (h.2 c6).1 (h.2 c6).2.1 (wi_ic_eq fSeen_allows_27 (fun c1 => (wi_iinc3 fSeen_allows_30 trivial ((((h.2 c6).2.2.1 c5).2 c2).1 c1).1 (wi_goto fSeen_allows_31 (((((h.2 c6).2.2.1 c5).2 c2).1 c1).2 _ (by exact trivial))))) (fun c1 => (wi_bipush fSeen_allows_28 (wi_ret2 fSeen_allows_29 (by decide) ((((h.2 c6).2.2.1 c5).2 c2).2 c1)))))))))))))))))))) (fun c5 => (wi_bipush fSeen_allows_12 (wi_goto fSeen_allows_13 (wi_istore4 fSeen_allows_15 trivial (wi_aload0 fSeen_allows_16 (wi_getf401 fSeen_allows_17 (wi_iload3 fSeen_allows_18 (wi_iald1008 fSeen_allows_19 (h.2 c6).1 (h.2 c6).2.1 (wi_iload1 fSeen_allows_20 (wi_ic_ne fSeen_allows_21 (fun c4 => (wi_iinc3 fSeen_allows_30 trivial (((h.2 c6).2.2.2 c5).1 c4).1 (wi_goto fSeen_allows_31 ((((h.2 c6).2.2.2 c5).1 c4).2 _ (by exact trivial))))) (fun c4 => (wi_iload4 fSeen_allows_22 (wi_aload0 fSeen_allows_23 (wi_getf403 fSeen_allows_24 (wi_iload3 fSeen_allows_25 (wi_iald1008 fSeen_allows_26 (h.2 c6).1 (h.2 c6).2.1 (wi_ic_eq fSeen_allows_27 (fun c3 => (wi_iinc3 fSeen_allows_30 trivial ((((h.2 c6).2.2.2 c5).2 c4).1 c3).1 (wi_goto fSeen_allows_31 (((((h.2 c6).2.2.2 c5).2 c4).1 c3).2 _ (by exact trivial))))) (fun c3 => (wi_bipush fSeen_allows_28 (wi_ret2 fSeen_allows_29 (by decide) ((((h.2 c6).2.2.2 c5).2 c4).2 c3))))))))))))))))))))))))))))))))
theorem k_Seen_allows {xs : List Int} {d : Nat} {Q : Option w_V → w_M → Prop} {a : Nat} {x1 : Int} {x2 : Int} {σ : w_M} (hp : p_Seen_allows a x1 x2 σ) (hQ : Q (some (.inl (w_bi (P_Seen_allows a x1 x2 σ)))) σ) : w_Call (xs, d) 57 [.inr (.inr (4, a)), .inl x1, .inl x2] σ Q := by
  have h8 : 0 ≤ σ a 0 ∧ σ a 0 ≤ 8 := hp
  refine bSeen_allows_0 ?_
  refine (w_loop (n := (σ a 0).toNat) (P := fun k => (∀ q, q < k → se_1 (s_ab σ a) x1 x2 q) → LSeen_allows_2 xs d Q a x1 x2 (k : Int) σ) ?_ ?_) (fun q hq => by omega)
  · intro h
    refine bSeen_allows_2 ⟨fun _ => ?_, fun h => by omega⟩
    rw [w_bi_t (show P_Seen_allows a x1 x2 σ from h)] at hQ
    exact hQ
  · intro k hk ih h
    have no : ¬ se_1 (s_ab σ a) x1 x2 k → Q (some (.inl 0)) σ := fun q => by
      rw [w_bi_f (fun z : P_Seen_allows a x1 x2 σ => q (z k hk))] at hQ
      exact hQ
    have yes : se_1 (s_ab σ a) x1 x2 k → LSeen_allows_2 xs d Q a x1 x2 ((k : Int) + 1) σ := fun q => by
      rw [← w_cs1]
      refine ih (fun m hm => ?_)
      by_cases hmk : m = k
      · rw [hmk]; exact q
      · exact h m (by omega)
    refine bSeen_allows_2 ⟨fun h => by omega, fun _ => ⟨by omega, by omega, ?_⟩⟩
    rw [Int.toNat_natCast, s_ab_rd (d := 1) (by decide) (by decide) hk, s_ab_rd (d := 2) (by decide) (by decide) hk, s_ab_rd (d := 3) (by decide) (by decide) hk]
    refine ⟨fun c2 => ⟨fun c1 => ⟨⟨by omega, by omega⟩, yes (fun z => absurd z c1)⟩, fun c1 => ⟨fun c3 => ⟨⟨by omega, by omega⟩, yes (fun _ => (if_neg c2).trans c3)⟩, fun c3 => no (fun z => c3 ((if_neg c2).symm.trans (z c1)))⟩⟩, fun c2 => ⟨fun c1 => ⟨⟨by omega, by omega⟩, yes (fun z => absurd z c1)⟩, fun c1 => ⟨fun c3 => ⟨⟨by omega, by omega⟩, yes (fun _ => (if_pos c2).trans c3)⟩, fun c3 => no (fun z => c3 ((if_pos c2).symm.trans (z c1)))⟩⟩⟩
noncomputable def p_Model_canStand (_ _ : Int) (σ : w_M) : Prop := 0 ≤ σ 123 48 ∧ σ 123 48 ≤ 8
noncomputable def P_Model_canStand (n i : Int) (σ : w_M) : Prop := se_al (s_am σ 0) n i
theorem fModel_canStand_0 : w_fe am_c221 0 1 (.bipush 1) := ⟨rfl, rfl⟩
theorem fModel_canStand_1 : w_fe am_c221 1 2 (.istore 3) := ⟨rfl, rfl⟩
theorem fModel_canStand_2 : w_fe am_c221 2 3 (.bipush 0) := ⟨rfl, rfl⟩
theorem fModel_canStand_3 : w_fe am_c221 3 4 (.istore 4) := ⟨rfl, rfl⟩
theorem fModel_canStand_4 : w_fe am_c221 4 5 (.iload 4) := ⟨rfl, rfl⟩
theorem fModel_canStand_5 : w_fe am_c221 5 6 (.aload 0) := ⟨rfl, rfl⟩
theorem fModel_canStand_6 : w_fe am_c221 6 7 (.getfield 900) := ⟨rfl, rfl⟩
theorem fModel_canStand_7 : w_fe am_c221 7 8 (.bipush 48) := ⟨rfl, rfl⟩
theorem fModel_canStand_8 : w_fe am_c221 8 9 (.iaload) := ⟨rfl, rfl⟩
theorem fModel_canStand_9 : w_ic am_c221 9 10 .ge 49 := ⟨rfl, rfl⟩
theorem fModel_canStand_10 : w_fe am_c221 10 11 (.bipush 49) := ⟨rfl, rfl⟩
theorem fModel_canStand_11 : w_fe am_c221 11 12 (.bipush 3) := ⟨rfl, rfl⟩
theorem fModel_canStand_12 : w_fe am_c221 12 13 (.iload 4) := ⟨rfl, rfl⟩
theorem fModel_canStand_13 : w_fe am_c221 13 14 (.imul) := ⟨rfl, rfl⟩
theorem fModel_canStand_14 : w_fe am_c221 14 15 (.iadd) := ⟨rfl, rfl⟩
theorem fModel_canStand_15 : w_fe am_c221 15 16 (.istore 5) := ⟨rfl, rfl⟩
theorem fModel_canStand_16 : w_fe am_c221 16 17 (.iload 3) := ⟨rfl, rfl⟩
theorem fModel_canStand_17 : w_if am_c221 17 18 .eq 45 := ⟨rfl, rfl⟩
theorem fModel_canStand_18 : w_fe am_c221 18 19 (.aload 0) := ⟨rfl, rfl⟩
theorem fModel_canStand_19 : w_fe am_c221 19 20 (.getfield 900) := ⟨rfl, rfl⟩
theorem fModel_canStand_20 : w_fe am_c221 20 21 (.iload 5) := ⟨rfl, rfl⟩
theorem fModel_canStand_21 : w_fe am_c221 21 22 (.iaload) := ⟨rfl, rfl⟩
theorem fModel_canStand_22 : w_fe am_c221 22 23 (.iload 1) := ⟨rfl, rfl⟩
theorem fModel_canStand_23 : w_ic am_c221 23 24 .ne 43 := ⟨rfl, rfl⟩
theorem fModel_canStand_24 : w_fe am_c221 24 25 (.aload 0) := ⟨rfl, rfl⟩
theorem fModel_canStand_25 : w_fe am_c221 25 26 (.getfield 900) := ⟨rfl, rfl⟩
theorem fModel_canStand_26 : w_fe am_c221 26 27 (.iload 5) := ⟨rfl, rfl⟩
theorem fModel_canStand_27 : w_fe am_c221 27 28 (.bipush 1) := ⟨rfl, rfl⟩
theorem fModel_canStand_28 : w_fe am_c221 28 29 (.iadd) := ⟨rfl, rfl⟩
theorem fModel_canStand_29 : w_fe am_c221 29 30 (.iaload) := ⟨rfl, rfl⟩
theorem fModel_canStand_30 : w_fe am_c221 30 31 (.iload 2) := ⟨rfl, rfl⟩
theorem fModel_canStand_31 : w_ic am_c221 31 32 .ne 34 := ⟨rfl, rfl⟩
theorem fModel_canStand_32 : w_fe am_c221 32 33 (.bipush 1) := ⟨rfl, rfl⟩
theorem fModel_canStand_33 : w_gt am_c221 33 35 := rfl
theorem fModel_canStand_34 : w_fe am_c221 34 35 (.bipush 0) := ⟨rfl, rfl⟩
theorem fModel_canStand_35 : w_fe am_c221 35 36 (.invokestatic 179) := ⟨rfl, rfl⟩
theorem fModel_canStand_36 : w_fe am_c221 36 37 (.aload 0) := ⟨rfl, rfl⟩
theorem fModel_canStand_37 : w_fe am_c221 37 38 (.getfield 900) := ⟨rfl, rfl⟩
theorem fModel_canStand_38 : w_fe am_c221 38 39 (.iload 5) := ⟨rfl, rfl⟩
theorem fModel_canStand_39 : w_fe am_c221 39 40 (.bipush 2) := ⟨rfl, rfl⟩
theorem fModel_canStand_40 : w_fe am_c221 40 41 (.iadd) := ⟨rfl, rfl⟩
theorem fModel_canStand_41 : w_fe am_c221 41 42 (.iaload) := ⟨rfl, rfl⟩
theorem fModel_canStand_42 : w_ic am_c221 42 43 .ne 45 := ⟨rfl, rfl⟩
theorem fModel_canStand_43 : w_fe am_c221 43 44 (.bipush 1) := ⟨rfl, rfl⟩
theorem fModel_canStand_44 : w_gt am_c221 44 46 := rfl
theorem fModel_canStand_45 : w_fe am_c221 45 46 (.bipush 0) := ⟨rfl, rfl⟩
theorem fModel_canStand_46 : w_fe am_c221 46 47 (.istore 3) := ⟨rfl, rfl⟩
theorem fModel_canStand_47 : w_fe am_c221 47 48 (.iinc 4 1) := ⟨rfl, rfl⟩
theorem fModel_canStand_48 : w_gt am_c221 48 4 := rfl
theorem fModel_canStand_49 : w_fe am_c221 49 50 (.iload 3) := ⟨rfl, rfl⟩
theorem fModel_canStand_50 : w_fe am_c221 50 51 (.ireturn) := ⟨rfl, rfl⟩
noncomputable def LModel_canStand_4 (xs : List Int) (d : Nat) (Q : Option w_V → w_M → Prop) (v1 : Int) (v2 : Int) (v3 : Int) (v4 : Int) (σ : w_M) : Prop := ∀ l5, w_nl l5 → w_Ex (xs, d) 2 am_c221 Q 4 [some (.inr (.inr (9, 122))), some (.inl v1), some (.inl v2), some (.inl v3), some (.inl v4), l5] [] σ
set_option maxRecDepth 20000 in
theorem bModel_canStand_0 {xs : List Int} {d : Nat} {Q : Option w_V → w_M → Prop} {x1 : Int} {x2 : Int} {σ : w_M}
    (h : LModel_canStand_4 xs (d + 1) Q x1 x2 1 0 σ) : w_Call (xs, (d + 1)) 221 [.inr (.inr (9, 122)), .inl x1, .inl x2] σ Q :=
  (w_mk (mid := 221) (by decide) rfl rfl rfl rfl rfl (Nat.le_of_ble_eq_true rfl) ⟨rfl, Or.inl (by decide)⟩ (wi_bipush fModel_canStand_0 (wi_istore3 fModel_canStand_1 trivial (wi_bipush fModel_canStand_2 (wi_istore4 fModel_canStand_3 trivial (h _ (by exact trivial)))))))
set_option maxRecDepth 20000 in
theorem bModel_canStand_4 {xs : List Int} {d : Nat} {Q : Option w_V → w_M → Prop} {v1 : Int} {v2 : Int} {v3 : Int} {v4 : Int} {σ : w_M}
    (h : ((σ 123 48) ≤ v4 → ((v3 = 0 ∨ v3 = 1) ∧ Q (some (.inl v3)) σ)) ∧ (v4 < (σ 123 48) → (w_in (3 * v4) ∧ w_in (49 + (3 * v4)) ∧ (∀ (y1 : Int), y1 = (49 + (3 * v4)) → ((v3 = 0 → (w_in (v4 + 1) ∧ LModel_canStand_4 xs (d + 1) Q v1 v2 0 (v4 + 1) σ)) ∧ (¬ v3 = 0 → (0 ≤ y1 ∧ y1 < 246 ∧ ((¬ (σ 123 y1.toNat) = v1 → (w_in (v4 + 1) ∧ LModel_canStand_4 xs (d + 1) Q v1 v2 1 (v4 + 1) σ)) ∧ ((σ 123 y1.toNat) = v1 → (w_in (y1 + 1) ∧ 0 ≤ (y1 + 1) ∧ (y1 + 1) < 246 ∧ ((¬ (σ 123 (y1 + 1).toNat) = v2 → (w_in (y1 + 2) ∧ 0 ≤ (y1 + 2) ∧ (y1 + 2) < 246 ∧ ((¬ (0 : Int) = (σ 123 (y1 + 2).toNat) → (w_in (v4 + 1) ∧ LModel_canStand_4 xs (d + 1) Q v1 v2 0 (v4 + 1) σ)) ∧ ((0 : Int) = (σ 123 (y1 + 2).toNat) → (w_in (v4 + 1) ∧ LModel_canStand_4 xs (d + 1) Q v1 v2 1 (v4 + 1) σ))))) ∧ ((σ 123 (y1 + 1).toNat) = v2 → (w_in (y1 + 2) ∧ 0 ≤ (y1 + 2) ∧ (y1 + 2) < 246 ∧ ((¬ (1 : Int) = (σ 123 (y1 + 2).toNat) → (w_in (v4 + 1) ∧ LModel_canStand_4 xs (d + 1) Q v1 v2 0 (v4 + 1) σ)) ∧ ((1 : Int) = (σ 123 (y1 + 2).toNat) → (w_in (v4 + 1) ∧ LModel_canStand_4 xs (d + 1) Q v1 v2 1 (v4 + 1) σ)))))))))))))))) : LModel_canStand_4 xs (d + 1) Q v1 v2 v3 v4 σ :=
  fun l5 nl5 => (wi_iload4 fModel_canStand_4 (wi_aload0 fModel_canStand_5 (wi_getf900 fModel_canStand_6 (wi_bipush fModel_canStand_7 (wi_iald1246 fModel_canStand_8 (by decide) (by decide) (wi_ic_ge fModel_canStand_9 (fun c7 => (wi_iload3 fModel_canStand_49 (wi_ret2 fModel_canStand_50 (h.1 c7).1 (h.1 c7).2))) (fun c7 => (wi_bipush fModel_canStand_10 (wi_bipush fModel_canStand_11 (wi_iload4 fModel_canStand_12 (wi_imul fModel_canStand_13 (h.2 c7).1 (wi_iadd fModel_canStand_14 (h.2 c7).2.1 (wi_istore5 fModel_canStand_15 trivial (wi_iload3 fModel_canStand_16 (wi_if_eq fModel_canStand_17 (fun c6 => (wi_bipush fModel_canStand_45 (wi_istore3 fModel_canStand_46 trivial (wi_iinc4 fModel_canStand_47 trivial (((h.2 c7).2.2 _ rfl).1 c6).1 (wi_goto fModel_canStand_48 ((((h.2 c7).2.2 _ rfl).1 c6).2 _ (by exact trivial))))))) (fun c6 => (wi_aload0 fModel_canStand_18 (wi_getf900 fModel_canStand_19 (wi_iload5 fModel_canStand_20 (wi_iald1246 fModel_canStand_21 (((h.2 c7).2.2 _ rfl).2 c6).1 (((h.2 c7).2.2 _ rfl).2 c6).2.1 (wi_iload1 fModel_canStand_22 (wi_ic_ne fModel_canStand_23 (fun c5 => (wi_bipush fModel_canStand_43 (wi_goto fModel_canStand_44 (wi_istore3 fModel_canStand_46 trivial (wi_iinc4 fModel_canStand_47 trivial ((((h.2 c7).2.2 _ rfl).2 c6).2.2.1 c5).1 (wi_goto fModel_canStand_48 (((((h.2 c7).2.2 _ rfl).2 c6).2.2.1 c5).2 _ (by exact trivial)))))))) (fun c5 => (wi_aload0 fModel_canStand_24 (wi_getf900 fModel_canStand_25 (wi_iload5 fModel_canStand_26 (wi_bipush fModel_canStand_27 (wi_iadd fModel_canStand_28 ((((h.2 c7).2.2 _ rfl).2 c6).2.2.2 c5).1 (wi_iald1246 fModel_canStand_29 ((((h.2 c7).2.2 _ rfl).2 c6).2.2.2 c5).2.1 ((((h.2 c7).2.2 _ rfl).2 c6).2.2.2 c5).2.2.1 (wi_iload2 fModel_canStand_30 (wi_ic_ne fModel_canStand_31 (fun c4 => (wi_bipush fModel_canStand_34 (wi_call1 fModel_canStand_35 (Nat.le_of_ble_eq_true rfl) (k_Model_flag (wi_aload0 fModel_canStand_36 (wi_getf900 fModel_canStand_37 (wi_iload5 fModel_canStand_38 (wi_bipush fModel_canStand_39 (wi_iadd fModel_canStand_40 (((((h.2 c7).2.2 _ rfl).2 c6).2.2.2 c5).2.2.2.1 c4).1 (wi_iald1246 fModel_canStand_41 (((((h.2 c7).2.2 _ rfl).2 c6).2.2.2 c5).2.2.2.1 c4).2.1 (((((h.2 c7).2.2 _ rfl).2 c6).2.2.2 c5).2.2.2.1 c4).2.2.1 (wi_ic_ne fModel_canStand_42 (fun c2 => (wi_bipush fModel_canStand_45 (wi_istore3 fModel_canStand_46 trivial (wi_iinc4 fModel_canStand_47 trivial ((((((h.2 c7).2.2 _ rfl).2 c6).2.2.2 c5).2.2.2.1 c4).2.2.2.1 c2).1 (wi_goto fModel_canStand_48 (((((((h.2 c7).2.2 _ rfl).2 c6).2.2.2 c5).2.2.2.1 c4).2.2.2.1 c2).2 _ (by exact trivial))))))) (fun c2 => (wi_bipush fModel_canStand_43 (wi_goto fModel_canStand_44 (wi_istore3 fModel_canStand_46 trivial (wi_iinc4 fModel_canStand_47 trivial ((((((h.2 c7).2.2 _ rfl).2 c6).2.2.2 c5).2.2.2.1 c4).2.2.2.2 c2).1 (wi_goto fModel_canStand_48 (((((((h.2 c7).2.2 _ rfl).2 c6).2.2.2 c5).2.2.2.1 c4).2.2.2.2 c2).2 _ (by exact trivial))))))))))))))))))) (fun c4 => (wi_bipush fModel_canStand_32 (wi_goto fModel_canStand_33 (wi_call1 fModel_canStand_35 (Nat.le_of_ble_eq_true rfl) (k_Model_flag (wi_aload0 fModel_canStand_36 (wi_getf900 fModel_canStand_37 (wi_iload5 fModel_canStand_38 (wi_bipush fModel_canStand_39 (wi_iadd fModel_canStand_40 (((((h.2 c7).2.2 _ rfl).2 c6).2.2.2 c5).2.2.2.2 c4).1 (wi_iald1246 fModel_canStand_41 (((((h.2 c7).2.2 _ rfl).2 c6).2.2.2 c5).2.2.2.2 c4).2.1 (((((h.2 c7).2.2 _ rfl).2 c6).2.2.2 c5).2.2.2.2 c4).2.2.1 (wi_ic_ne fModel_canStand_42 (fun c3 => (wi_bipush fModel_canStand_45 (wi_istore3 fModel_canStand_46 trivial (wi_iinc4 fModel_canStand_47 trivial ((((((h.2 c7).2.2 _ rfl).2 c6).2.2.2 c5).2.2.2.2 c4).2.2.2.1 c3).1 (wi_goto fModel_canStand_48 (((((((h.2 c7).2.2 _ rfl).2 c6).2.2.2 c5).2.2.2.2 c4).2.2.2.1 c3).2 _ (by exact trivial))))))) (fun c3 => (wi_bipush fModel_canStand_43 (wi_goto fModel_canStand_44 (wi_istore3 fModel_canStand_46 trivial (wi_iinc4 fModel_canStand_47 trivial ((((((h.2 c7).2.2 _ rfl).2 c6).2.2.2 c5).2.2.2.2 c4).2.2.2.2 c3).1 (wi_goto fModel_canStand_48 (((((((h.2 c7).2.2 _ rfl).2 c6).2.2.2 c5).2.2.2.2 c4).2.2.2.2 c3).2 _ (by exact trivial)))))))))))))))))))))))))))))))))))))))))))))))))))
theorem k_Model_canStand {xs : List Int} {d : Nat} {Q : Option w_V → w_M → Prop} {x1 : Int} {x2 : Int} {σ : w_M} (hp : p_Model_canStand x1 x2 σ) (hQ : Q (some (.inl (w_bi (P_Model_canStand x1 x2 σ)))) σ) : w_Call (xs, d + 1) 221 [.inr (.inr (9, 122)), .inl x1, .inl x2] σ Q := by
  have h8 : 0 ≤ σ 123 48 ∧ σ 123 48 ≤ 8 := hp
  refine bModel_canStand_0 ?_
  refine (w_loop (n := (σ 123 48).toNat) (P := fun k => ∀ b : Int, (b = 1 ∧ (∀ q, q < k → se_1 (s_am σ 0) x1 x2 q)) ∨ (b = 0 ∧ ¬ (∀ q, q < k → se_1 (s_am σ 0) x1 x2 q)) → LModel_canStand_4 xs (d + 1) Q x1 x2 b (k : Int) σ) ?_ ?_) 1 (Or.inl ⟨rfl, fun q hq => by omega⟩)
  · intro b h
    refine bModel_canStand_4 ⟨fun _ => ?_, fun h => by omega⟩
    rcases h with ⟨rfl, h⟩ | ⟨rfl, h⟩
    · rw [w_bi_t (show P_Model_canStand x1 x2 σ from h)] at hQ
      exact ⟨Or.inr rfl, hQ⟩
    · rw [w_bi_f (show ¬ P_Model_canStand x1 x2 σ from h)] at hQ
      exact ⟨Or.inl rfl, hQ⟩
  · intro k hk ih b h
    refine bModel_canStand_4 ⟨fun h => by omega, fun _ => ⟨⟨by omega, by omega⟩, ⟨by omega, by omega⟩, fun y ey => ⟨fun c0 => ⟨⟨by omega, by omega⟩, ?_⟩, fun c0 => ⟨by omega, by omega, ?_⟩⟩⟩⟩
    · rcases h with ⟨rfl, h⟩ | ⟨rfl, h⟩
      · omega
      · rw [← w_cs1]
        exact ih 0 (Or.inr ⟨rfl, fun q => h (fun m hm => q m (by omega))⟩)
    · have hh : ∀ q, q < k → se_1 (s_am σ 0) x1 x2 q := by
        rcases h with ⟨_, h⟩ | ⟨h0, _⟩
        · exact h
        · exact absurd h0 c0
      have no : ¬ se_1 (s_am σ 0) x1 x2 k → LModel_canStand_4 xs (d + 1) Q x1 x2 0 ((k : Int) + 1) σ := fun q => by
        rw [← w_cs1]
        exact ih 0 (Or.inr ⟨rfl, fun z => q (z k (by omega))⟩)
      have yes : se_1 (s_am σ 0) x1 x2 k → LModel_canStand_4 xs (d + 1) Q x1 x2 1 ((k : Int) + 1) σ := fun q => by
        rw [← w_cs1]
        refine ih 1 (Or.inl ⟨rfl, fun m hm => ?_⟩)
        by_cases hmk : m = k
        · rw [hmk]; exact q
        · exact hh m (by omega)
      rw [s_am_rd (d := 1) (by decide) (by decide) hk (show y.toNat = _ by omega), s_am_rd (d := 2) (by decide) (by decide) hk (show (y + 1).toNat = _ by omega), s_am_rd (d := 3) (by decide) (by decide) hk (show (y + 2).toNat = _ by omega)]
      refine ⟨fun c1 => ⟨⟨by omega, by omega⟩, yes (fun z => absurd z c1)⟩, fun c1 => ⟨⟨by omega, by omega⟩, by omega, by omega, fun c2 => ⟨⟨by omega, by omega⟩, by omega, by omega, fun c3 => ⟨⟨by omega, by omega⟩, no (fun z => c3 ((if_neg c2).symm.trans (z c1)))⟩, fun c3 => ⟨⟨by omega, by omega⟩, yes (fun _ => (if_neg c2).trans c3)⟩⟩, fun c2 => ⟨⟨by omega, by omega⟩, by omega, by omega, fun c3 => ⟨⟨by omega, by omega⟩, no (fun z => c3 ((if_pos c2).symm.trans (z c1)))⟩, fun c3 => ⟨⟨by omega, by omega⟩, yes (fun _ => (if_pos c2).trans c3)⟩⟩⟩⟩
end
section
/-! The hare's runs: how many come to a strip, how many go on from there -/
noncomputable def r_bes (s : Nat) (f : Nat → Int) (i : Nat) : Int := (if 0 < i then f (i - 1) else 0) + f i + (if i + 1 < s then f (i + 1) else 0)
noncomputable def r_if (B : w_M) (n i : Nat) (v : Int) : Int := @ite _ (se_al B n i) (Classical.propDecidable _) v 0
noncomputable def r_c (B : w_M) (s : Nat) : Nat → Nat → Int
  | 0, i => r_if B 0 i 1
  | n + 1, i => r_if B (n + 1) i (r_bes s (r_c B s n) i)
/-- m hours before the last, hour 6 - m -/
noncomputable def r_g (B : w_M) (s : Nat) : Nat → Nat → Int
  | 0, i => r_if B 6 i 1
  | m + 1, i => r_if B (6 - (m + 1)) i (r_bes s (r_g B s m) i)
noncomputable def r_h (B : w_M) (s : Nat) : Nat → Nat → Int
  | 0, _ => 1
  | m + 1, i => r_bes s (r_g B s m) i
theorem r_g_h {B : w_M} {s : Nat} (m i : Nat) : r_g B s m i = r_if B (6 - m) i (r_h B s m i) := by
  cases m <;> rfl
theorem r_if_l {B : w_M} {n i : Nat} {v w : Int} : v * r_if B n i w = r_if B n i (v * w) := by
  unfold r_if
  by_cases h : se_al B n i
  · rw [if_pos h, if_pos h]
  · rw [if_neg h, if_neg h, Int.mul_zero]
theorem r_if_r {B : w_M} {n i : Nat} {v w : Int} : r_if B n i v * w = r_if B n i (v * w) := by
  unfold r_if
  by_cases h : se_al B n i
  · rw [if_pos h, if_pos h]
  · rw [if_neg h, if_neg h, Int.zero_mul]
theorem r_bes_sym {s : Nat} (hs : s ≤ 7) (f g : Nat → Int) : f_sum (fun i => r_bes s f i * g i) s = f_sum (fun i => f i * r_bes s g i) s := by
  have : s = 0 ∨ s = 1 ∨ s = 2 ∨ s = 3 ∨ s = 4 ∨ s = 5 ∨ s = 6 ∨ s = 7 := by omega
  rcases this with rfl | rfl | rfl | rfl | rfl | rfl | rfl | rfl <;> simp [f_sum, r_bes] <;> grind
/-- at whatever hour they are counted, there are as many runs -/
theorem r_all {B : w_M} {s : Nat} (hs : s ≤ 7) : ∀ m, m ≤ 6 → f_sum (fun i => r_c B s (6 - m) i * r_h B s m i) s = f_sum (r_c B s 6) s := by
  intro m
  induction m with
  | zero =>
    intro _
    refine f_sum_congr (fun i hi => ?_)
    show r_c B s 6 i * 1 = _
    rw [Int.mul_one]
  | succ m ih =>
    intro hm
    rw [← ih (by omega)]
    show f_sum (fun i => r_c B s (6 - (m + 1)) i * r_bes s (r_g B s m) i) s = _
    rw [← r_bes_sym hs]
    refine f_sum_congr (fun i hi => ?_)
    show r_bes s (r_c B s (6 - (m + 1))) i * r_g B s m i = r_c B s (6 - m) i * r_h B s m i
    obtain ⟨n, hn⟩ : ∃ n, n = 6 - (m + 1) := ⟨_, rfl⟩
    have e : 6 - m = n + 1 := by omega
    rw [r_g_h, ← hn, e]
    show _ = r_if B (n + 1) i (r_bes s (r_c B s n) i) * _
    rw [r_if_l, r_if_r]
/-- the class's number of runs through a strip, and the reference's -/
theorem r_thr {B : w_M} {s n i : Nat} (hn : n ≤ 6) : r_c B s n i * r_g B s (6 - n) i = r_if B n i (r_c B s n i * r_h B s (6 - n) i) := by
  rw [r_g_h, r_if_l, show 6 - (6 - n) = n by omega]
/-- the class's sum, and the reference's -/
theorem r_sum {B : w_M} {s : Nat} (hs : s ≤ 7) : f_sum (fun i => r_if B 0 i (r_c B s 0 i * r_h B s 6 i)) s = f_sum (r_c B s 6) s := by
  rw [← r_all hs 6 (Nat.le_refl _)]
  refine f_sum_congr (fun i hi => ?_)
  show r_if B 0 i (r_if B 0 i 1 * _) = r_if B 0 i 1 * _
  rw [r_if_r]
  unfold r_if
  by_cases h : se_al B (0 : Nat) i
  · rw [if_pos h, if_pos h]
  · rw [if_neg h, if_neg h]
theorem r_bes_le {s : Nat} {f : Nat → Int} {M : Int} (h : ∀ i, i < s → 0 ≤ f i ∧ f i ≤ M) {i : Nat} (hi : i < s) : 0 ≤ r_bes s f i ∧ r_bes s f i ≤ 3 * M := by
  unfold r_bes
  have h1 := h i hi
  have h2 : 0 < i → 0 ≤ f (i - 1) ∧ f (i - 1) ≤ M := fun _ => h _ (by omega)
  have h3 : i + 1 < s → 0 ≤ f (i + 1) ∧ f (i + 1) ≤ M := fun q => h _ q
  by_cases c1 : 0 < i
  · by_cases c2 : i + 1 < s
    · rw [if_pos c1, if_pos c2]; have := h2 c1; have := h3 c2; omega
    · rw [if_pos c1, if_neg c2]; have := h2 c1; omega
  · by_cases c2 : i + 1 < s
    · rw [if_neg c1, if_pos c2]; have := h3 c2; omega
    · rw [if_neg c1, if_neg c2]; omega
theorem r_if_le {B : w_M} {n i : Nat} {v M : Int} (h : 0 ≤ v ∧ v ≤ M) : 0 ≤ r_if B n i v ∧ r_if B n i v ≤ M := by
  unfold r_if
  by_cases c : se_al B n i
  · rw [if_pos c]; exact h
  · rw [if_neg c]; omega
theorem r_c_le {B : w_M} {s : Nat} : ∀ n, ∀ i, i < s → 0 ≤ r_c B s n i ∧ r_c B s n i ≤ 3 ^ n := by
  intro n
  induction n with
  | zero => intro i _; exact r_if_le (by decide)
  | succ n ih =>
    intro i hi
    refine r_if_le ?_
    have := r_bes_le ih hi
    rw [Int.pow_succ]
    omega
theorem r_g_le {B : w_M} {s : Nat} : ∀ n, ∀ i, i < s → 0 ≤ r_g B s n i ∧ r_g B s n i ≤ 3 ^ n := by
  intro n
  induction n with
  | zero => intro i _; exact r_if_le (by decide)
  | succ n ih =>
    intro i hi
    refine r_if_le ?_
    have := r_bes_le ih hi
    rw [Int.pow_succ]
    omega
end
section
/-! The ways beside a strip -/
noncomputable def p_Hare_besides (b : Nat) (i : Int) (σ : w_M) : Prop := (0 ≤ i ∧ i < σ 63 0) ∧ σ 63 0 ≤ 7 ∧ ∀ j, j < (σ 63 0).toNat → 0 ≤ σ b j ∧ σ b j ≤ 729
noncomputable def v_Hare_besides (b : Nat) (i : Int) (σ : w_M) : Int := r_bes (σ 63 0).toNat (σ b) i.toNat
theorem fHare_besides_0 : w_fe am_c90 0 1 (.bipush 0) := ⟨rfl, rfl⟩
theorem fHare_besides_1 : w_fe am_c90 1 2 (.istore 3) := ⟨rfl, rfl⟩
theorem fHare_besides_2 : w_fe am_c90 2 3 (.bipush 0) := ⟨rfl, rfl⟩
theorem fHare_besides_3 : w_fe am_c90 3 4 (.iload 2) := ⟨rfl, rfl⟩
theorem fHare_besides_4 : w_fe am_c90 4 5 (.bipush 1) := ⟨rfl, rfl⟩
theorem fHare_besides_5 : w_fe am_c90 5 6 (.isub) := ⟨rfl, rfl⟩
theorem fHare_besides_6 : w_fe am_c90 6 7 (.invokestatic 2) := ⟨rfl, rfl⟩
theorem fHare_besides_7 : w_fe am_c90 7 8 (.istore 4) := ⟨rfl, rfl⟩
theorem fHare_besides_8 : w_fe am_c90 8 9 (.iload 4) := ⟨rfl, rfl⟩
theorem fHare_besides_9 : w_fe am_c90 9 10 (.iload 2) := ⟨rfl, rfl⟩
theorem fHare_besides_10 : w_fe am_c90 10 11 (.bipush 1) := ⟨rfl, rfl⟩
theorem fHare_besides_11 : w_fe am_c90 11 12 (.iadd) := ⟨rfl, rfl⟩
theorem fHare_besides_12 : w_ic am_c90 12 13 .gt 25 := ⟨rfl, rfl⟩
theorem fHare_besides_13 : w_fe am_c90 13 14 (.iload 4) := ⟨rfl, rfl⟩
theorem fHare_besides_14 : w_fe am_c90 14 15 (.aload 0) := ⟨rfl, rfl⟩
theorem fHare_besides_15 : w_fe am_c90 15 16 (.getfield 700) := ⟨rfl, rfl⟩
theorem fHare_besides_16 : w_ic am_c90 16 17 .ge 25 := ⟨rfl, rfl⟩
theorem fHare_besides_17 : w_fe am_c90 17 18 (.iload 3) := ⟨rfl, rfl⟩
theorem fHare_besides_18 : w_fe am_c90 18 19 (.aload 1) := ⟨rfl, rfl⟩
theorem fHare_besides_19 : w_fe am_c90 19 20 (.iload 4) := ⟨rfl, rfl⟩
theorem fHare_besides_20 : w_fe am_c90 20 21 (.iaload) := ⟨rfl, rfl⟩
theorem fHare_besides_21 : w_fe am_c90 21 22 (.iadd) := ⟨rfl, rfl⟩
theorem fHare_besides_22 : w_fe am_c90 22 23 (.istore 3) := ⟨rfl, rfl⟩
theorem fHare_besides_23 : w_fe am_c90 23 24 (.iinc 4 1) := ⟨rfl, rfl⟩
theorem fHare_besides_24 : w_gt am_c90 24 8 := rfl
theorem fHare_besides_25 : w_fe am_c90 25 26 (.iload 3) := ⟨rfl, rfl⟩
theorem fHare_besides_26 : w_fe am_c90 26 27 (.ireturn) := ⟨rfl, rfl⟩
noncomputable def LHare_besides_8 (xs : List Int) (d : Nat) (Q : Option w_V → w_M → Prop) (r1 : Nat) (v2 : Int) (v3 : Int) (v4 : Int) (σ : w_M) : Prop := w_Ex (xs, d) 1 am_c90 Q 8 [some (.inr (.inr (7, 63))), some (.inr (.inr (1007, r1))), some (.inl v2), some (.inl v3), some (.inl v4)] [] σ
set_option maxRecDepth 20000 in
theorem bHare_besides_0 {xs : List Int} {d : Nat} {Q : Option w_V → w_M → Prop} {b : Nat} {x2 : Int} {σ : w_M}
    (h : w_in (x2 - 1) ∧ (∀ (y1 : Int), y1 = v_Math_max 0 (x2 - 1) → LHare_besides_8 xs (d + 1) Q b x2 0 y1 σ)) : w_Call (xs, (d + 1)) 90 [.inr (.inr (7, 63)), .inr (.inr (1007, b)), .inl x2] σ Q :=
  (w_mk (mid := 90) (by decide) rfl rfl rfl rfl rfl (Nat.le_of_ble_eq_true rfl) ⟨rfl, Or.inl (by decide)⟩ (wi_bipush fHare_besides_0 (wi_istore3 fHare_besides_1 trivial (wi_bipush fHare_besides_2 (wi_iload2 fHare_besides_3 (wi_bipush fHare_besides_4 (wi_isub fHare_besides_5 h.1 (wi_call2 fHare_besides_6 (Nat.le_of_ble_eq_true rfl) (k_Math_max (wi_istore4 fHare_besides_7 trivial (h.2 _ rfl)))))))))))
set_option maxRecDepth 20000 in
theorem bHare_besides_8 {xs : List Int} {d : Nat} {Q : Option w_V → w_M → Prop} {r1 : Nat} {v2 : Int} {v3 : Int} {v4 : Int} {σ : w_M}
    (h : w_in (v2 + 1) ∧ (((v2 + 1) < v4 → Q (some (.inl v3)) σ) ∧ (v4 ≤ (v2 + 1) → (((σ 63 0) ≤ v4 → Q (some (.inl v3)) σ) ∧ (v4 < (σ 63 0) → (0 ≤ v4 ∧ v4 < 7 ∧ w_in (v3 + (σ r1 v4.toNat)) ∧ (∀ (y1 : Int), y1 = (v3 + (σ r1 v4.toNat)) → (w_in (v4 + 1) ∧ LHare_besides_8 xs (d + 1) Q r1 v2 y1 (v4 + 1) σ)))))))) : LHare_besides_8 xs (d + 1) Q r1 v2 v3 v4 σ :=
  (wi_iload4 fHare_besides_8 (wi_iload2 fHare_besides_9 (wi_bipush fHare_besides_10 (wi_iadd fHare_besides_11 h.1 (wi_ic_gt fHare_besides_12 (fun c3 => (wi_iload3 fHare_besides_25 (wi_ret1 fHare_besides_26 (h.2.1 c3)))) (fun c3 => (wi_iload4 fHare_besides_13 (wi_aload0 fHare_besides_14 (wi_getf700 fHare_besides_15 (wi_ic_ge fHare_besides_16 (fun c2 => (wi_iload3 fHare_besides_25 (wi_ret1 fHare_besides_26 ((h.2.2 c3).1 c2)))) (fun c2 => (wi_iload3 fHare_besides_17 (wi_aload1 fHare_besides_18 (wi_iload4 fHare_besides_19 (wi_iald1007 fHare_besides_20 ((h.2.2 c3).2 c2).1 ((h.2.2 c3).2 c2).2.1 (wi_iadd fHare_besides_21 ((h.2.2 c3).2 c2).2.2.1 (wi_istore3 fHare_besides_22 trivial (wi_iinc4 fHare_besides_23 trivial (((h.2.2 c3).2 c2).2.2.2 _ rfl).1 (wi_goto fHare_besides_24 (((h.2.2 c3).2 c2).2.2.2 _ rfl).2)))))))))))))))))))
theorem k_Hare_besides {xs : List Int} {d : Nat} {Q : Option w_V → w_M → Prop} {b : Nat} {x2 : Int} {σ : w_M} (hp : p_Hare_besides b x2 σ) (hQ : Q (some (.inl (v_Hare_besides b x2 σ))) σ) : w_Call (xs, d + 1) 90 [.inr (.inr (7, 63)), .inr (.inr (1007, b)), .inl x2] σ Q := by
  obtain ⟨hi, hs, hb⟩ := hp
  have stop : ∀ v3 v4 : Int, x2 + 1 < v4 ∨ σ 63 0 ≤ v4 → Q (some (.inl v3)) σ → LHare_besides_8 xs (d + 1) Q b x2 v3 v4 σ := fun v3 v4 h q =>
    bHare_besides_8 ⟨⟨by omega, by omega⟩, fun _ => q, fun h1 => ⟨fun _ => q, fun h2 => by omega⟩⟩
  have stp : ∀ v3 : Int, ∀ j : Nat, 0 ≤ v3 ∧ v3 ≤ 2000 → (j : Int) ≤ x2 + 1 → (j : Int) < σ 63 0 → LHare_besides_8 xs (d + 1) Q b x2 (v3 + σ b j) ((j : Int) + 1) σ → LHare_besides_8 xs (d + 1) Q b x2 v3 (j : Int) σ := fun v3 j h3 h4 h5 nx => by
    have hj := hb j (by omega)
    refine bHare_besides_8 ⟨⟨by omega, by omega⟩, fun h => by omega, fun _ => ⟨fun h => by omega, fun _ => ⟨by omega, by omega, ?_⟩⟩⟩
    rw [Int.toNat_natCast]
    exact ⟨⟨by omega, by omega⟩, fun y ey => ⟨⟨by omega, by omega⟩, by rw [ey]; exact nx⟩⟩
  obtain ⟨k, ek⟩ := Int.eq_ofNat_of_zero_le hi.1
  subst ek
  have hk := hb k (by omega)
  unfold v_Hare_besides r_bes at hQ
  rw [Int.toNat_natCast] at hQ
  refine bHare_besides_0 ⟨⟨by omega, by omega⟩, fun y ey => ?_⟩
  have fin : ∀ v : Int, 0 ≤ v ∧ v ≤ 729 → v = (if 0 < k then σ b (k - 1) else 0) → LHare_besides_8 xs (d + 1) Q b (k : Int) v (k : Int) σ := by
    intro v hv e
    refine stp v k (by omega) (by omega) hi.2 ?_
    rw [← e] at hQ
    by_cases c : k + 1 < (σ 63 0).toNat
    · rw [if_pos c] at hQ
      have := stp (v + σ b k) (k + 1) (by omega) (by omega) (by omega) (stop _ _ (Or.inl (by omega)) hQ)
      rw [w_cs1] at this
      exact this
    · rw [if_neg c, Int.add_zero] at hQ
      exact stop _ _ (Or.inr (by omega)) hQ
  by_cases c : 0 < k
  · have e : y = ((k - 1 : Nat) : Int) := by rw [ey]; unfold v_Math_max; split <;> omega
    have hk1 := hb (k - 1) (by omega)
    rw [e]
    refine stp 0 (k - 1) (by decide) (by omega) (by omega) ?_
    rw [Int.zero_add, show ((k - 1 : Nat) : Int) + 1 = (k : Int) by omega]
    exact fin _ hk1 (if_pos c).symm
  · have e : y = (k : Int) := by rw [ey]; unfold v_Math_max; split <;> omega
    rw [e]
    exact fin 0 (by decide) (if_neg c).symm
noncomputable def p_Model_inRow (_ : Nat) (n i : Int) (_ : w_M) : Prop := (0 ≤ n ∧ n ≤ 6) ∧ (0 ≤ i ∧ i ≤ 6)
noncomputable def v_Model_inRow (b : Nat) (n i : Int) (σ : w_M) : Int := σ b (7 * n.toNat + i.toNat)
theorem fModel_inRow_0 : w_fe am_c220 0 1 (.aload 0) := ⟨rfl, rfl⟩
theorem fModel_inRow_1 : w_fe am_c220 1 2 (.bipush 7) := ⟨rfl, rfl⟩
theorem fModel_inRow_2 : w_fe am_c220 2 3 (.iload 1) := ⟨rfl, rfl⟩
theorem fModel_inRow_3 : w_fe am_c220 3 4 (.imul) := ⟨rfl, rfl⟩
theorem fModel_inRow_4 : w_fe am_c220 4 5 (.iload 2) := ⟨rfl, rfl⟩
theorem fModel_inRow_5 : w_fe am_c220 5 6 (.iadd) := ⟨rfl, rfl⟩
theorem fModel_inRow_6 : w_fe am_c220 6 7 (.iaload) := ⟨rfl, rfl⟩
theorem fModel_inRow_7 : w_fe am_c220 7 8 (.ireturn) := ⟨rfl, rfl⟩
set_option maxRecDepth 20000 in
theorem bModel_inRow_0 {xs : List Int} {d : Nat} {Q : Option w_V → w_M → Prop} {b : Nat} {x1 : Int} {x2 : Int} {σ : w_M}
    (h : w_in (7 * x1) ∧ w_in ((7 * x1) + x2) ∧ 0 ≤ ((7 * x1) + x2) ∧ ((7 * x1) + x2) < 49 ∧ Q (some (.inl (σ b ((7 * x1) + x2).toNat))) σ) : w_Call (xs, d) 220 [.inr (.inr (1049, b)), .inl x1, .inl x2] σ Q :=
  (w_mk (mid := 220) (by decide) rfl rfl rfl rfl rfl (Nat.le_of_ble_eq_true rfl) trivial (wi_aload0 fModel_inRow_0 (wi_bipush fModel_inRow_1 (wi_iload1 fModel_inRow_2 (wi_imul fModel_inRow_3 h.1 (wi_iload2 fModel_inRow_4 (wi_iadd fModel_inRow_5 h.2.1 (wi_iald1049 fModel_inRow_6 h.2.2.1 h.2.2.2.1 (wi_ret1 fModel_inRow_7 h.2.2.2.2)))))))))
theorem k_Model_inRow {xs : List Int} {d : Nat} {Q : Option w_V → w_M → Prop} {b : Nat} {x1 : Int} {x2 : Int} {σ : w_M} (hp : p_Model_inRow b x1 x2 σ) (hQ : Q (some (.inl (v_Model_inRow b x1 x2 σ))) σ) : w_Call (xs, d) 220 [.inr (.inr (1049, b)), .inl x1, .inl x2] σ Q := by
  obtain ⟨h1, h2⟩ := hp
  unfold v_Model_inRow at hQ
  refine bModel_inRow_0 ⟨⟨by omega, by omega⟩, ⟨by omega, by omega⟩, by omega, by omega, ?_⟩
  rw [show (7 * x1 + x2).toNat = 7 * x1.toNat + x2.toNat by omega]
  exact hQ
noncomputable def p_Model_besides (b : Nat) (n i : Int) (σ : w_M) : Prop := (0 ≤ n ∧ n ≤ 6) ∧ (0 ≤ i ∧ i < σ 122 4) ∧ σ 122 4 ≤ 7 ∧ ∀ j, j < (σ 122 4).toNat → 0 ≤ σ b (7 * n.toNat + j) ∧ σ b (7 * n.toNat + j) ≤ 729
noncomputable def v_Model_besides (b : Nat) (n i : Int) (σ : w_M) : Int := r_bes (σ 122 4).toNat (fun j => σ b (7 * n.toNat + j)) i.toNat
theorem fModel_besides_0 : w_fe am_c219 0 1 (.aload 1) := ⟨rfl, rfl⟩
theorem fModel_besides_1 : w_fe am_c219 1 2 (.iload 2) := ⟨rfl, rfl⟩
theorem fModel_besides_2 : w_fe am_c219 2 3 (.iload 3) := ⟨rfl, rfl⟩
theorem fModel_besides_3 : w_fe am_c219 3 4 (.invokestatic 220) := ⟨rfl, rfl⟩
theorem fModel_besides_4 : w_fe am_c219 4 5 (.istore 4) := ⟨rfl, rfl⟩
theorem fModel_besides_5 : w_fe am_c219 5 6 (.iload 4) := ⟨rfl, rfl⟩
theorem fModel_besides_6 : w_fe am_c219 6 7 (.iload 3) := ⟨rfl, rfl⟩
theorem fModel_besides_7 : w_if am_c219 7 8 .le 15 := ⟨rfl, rfl⟩
theorem fModel_besides_8 : w_fe am_c219 8 9 (.aload 1) := ⟨rfl, rfl⟩
theorem fModel_besides_9 : w_fe am_c219 9 10 (.iload 2) := ⟨rfl, rfl⟩
theorem fModel_besides_10 : w_fe am_c219 10 11 (.iload 3) := ⟨rfl, rfl⟩
theorem fModel_besides_11 : w_fe am_c219 11 12 (.bipush 1) := ⟨rfl, rfl⟩
theorem fModel_besides_12 : w_fe am_c219 12 13 (.isub) := ⟨rfl, rfl⟩
theorem fModel_besides_13 : w_fe am_c219 13 14 (.invokestatic 220) := ⟨rfl, rfl⟩
theorem fModel_besides_14 : w_gt am_c219 14 16 := rfl
theorem fModel_besides_15 : w_fe am_c219 15 16 (.bipush 0) := ⟨rfl, rfl⟩
theorem fModel_besides_16 : w_fe am_c219 16 17 (.iadd) := ⟨rfl, rfl⟩
theorem fModel_besides_17 : w_fe am_c219 17 18 (.istore 4) := ⟨rfl, rfl⟩
theorem fModel_besides_18 : w_fe am_c219 18 19 (.iload 4) := ⟨rfl, rfl⟩
theorem fModel_besides_19 : w_fe am_c219 19 20 (.iload 3) := ⟨rfl, rfl⟩
theorem fModel_besides_20 : w_fe am_c219 20 21 (.bipush 1) := ⟨rfl, rfl⟩
theorem fModel_besides_21 : w_fe am_c219 21 22 (.iadd) := ⟨rfl, rfl⟩
theorem fModel_besides_22 : w_fe am_c219 22 23 (.aload 0) := ⟨rfl, rfl⟩
theorem fModel_besides_23 : w_fe am_c219 23 24 (.getfield 904) := ⟨rfl, rfl⟩
theorem fModel_besides_24 : w_ic am_c219 24 25 .ge 32 := ⟨rfl, rfl⟩
theorem fModel_besides_25 : w_fe am_c219 25 26 (.aload 1) := ⟨rfl, rfl⟩
theorem fModel_besides_26 : w_fe am_c219 26 27 (.iload 2) := ⟨rfl, rfl⟩
theorem fModel_besides_27 : w_fe am_c219 27 28 (.iload 3) := ⟨rfl, rfl⟩
theorem fModel_besides_28 : w_fe am_c219 28 29 (.bipush 1) := ⟨rfl, rfl⟩
theorem fModel_besides_29 : w_fe am_c219 29 30 (.iadd) := ⟨rfl, rfl⟩
theorem fModel_besides_30 : w_fe am_c219 30 31 (.invokestatic 220) := ⟨rfl, rfl⟩
theorem fModel_besides_31 : w_gt am_c219 31 33 := rfl
theorem fModel_besides_32 : w_fe am_c219 32 33 (.bipush 0) := ⟨rfl, rfl⟩
theorem fModel_besides_33 : w_fe am_c219 33 34 (.iadd) := ⟨rfl, rfl⟩
theorem fModel_besides_34 : w_fe am_c219 34 35 (.ireturn) := ⟨rfl, rfl⟩
set_option maxRecDepth 20000 in
theorem bModel_besides_0 {xs : List Int} {d : Nat} {Q : Option w_V → w_M → Prop} {b : Nat} {x2 : Int} {x3 : Int} {σ : w_M}
    (h : p_Model_inRow b x2 x3 σ ∧ (∀ (y1 : Int), y1 = v_Model_inRow b x2 x3 σ → ((x3 ≤ 0 → (w_in (y1 + 0) ∧ (∀ (y2 : Int), y2 = (y1 + 0) → (w_in (x3 + 1) ∧ (((σ 122 4) ≤ (x3 + 1) → (w_in (y2 + 0) ∧ Q (some (.inl (y2 + 0))) σ)) ∧ ((x3 + 1) < (σ 122 4) → (p_Model_inRow b x2 (x3 + 1) σ ∧ (∀ (y3 : Int), y3 = v_Model_inRow b x2 (x3 + 1) σ → (w_in (y2 + y3) ∧ Q (some (.inl (y2 + y3))) σ))))))))) ∧ (0 < x3 → (w_in (x3 - 1) ∧ p_Model_inRow b x2 (x3 - 1) σ ∧ (∀ (y5 : Int), y5 = v_Model_inRow b x2 (x3 - 1) σ → (w_in (y1 + y5) ∧ (∀ (y6 : Int), y6 = (y1 + y5) → (w_in (x3 + 1) ∧ (((σ 122 4) ≤ (x3 + 1) → (w_in (y6 + 0) ∧ Q (some (.inl (y6 + 0))) σ)) ∧ ((x3 + 1) < (σ 122 4) → (p_Model_inRow b x2 (x3 + 1) σ ∧ (∀ (y7 : Int), y7 = v_Model_inRow b x2 (x3 + 1) σ → (w_in (y6 + y7) ∧ Q (some (.inl (y6 + y7))) σ)))))))))))))) : w_Call (xs, (d + 1)) 219 [.inr (.inr (9, 122)), .inr (.inr (1049, b)), .inl x2, .inl x3] σ Q :=
  (w_mk (mid := 219) (by decide) rfl rfl rfl rfl rfl (Nat.le_of_ble_eq_true rfl) ⟨rfl, Or.inl (by decide)⟩ (wi_aload1 fModel_besides_0 (wi_iload2 fModel_besides_1 (wi_iload3 fModel_besides_2 (wi_call3 fModel_besides_3 (Nat.le_of_ble_eq_true rfl) (k_Model_inRow h.1 (wi_istore4 fModel_besides_4 trivial (wi_iload4 fModel_besides_5 (wi_iload3 fModel_besides_6 (wi_if_le fModel_besides_7 (fun c9 => (wi_bipush fModel_besides_15 (wi_iadd fModel_besides_16 ((h.2 _ rfl).1 c9).1 (wi_istore4 fModel_besides_17 trivial (wi_iload4 fModel_besides_18 (wi_iload3 fModel_besides_19 (wi_bipush fModel_besides_20 (wi_iadd fModel_besides_21 (((h.2 _ rfl).1 c9).2 _ rfl).1 (wi_aload0 fModel_besides_22 (wi_getf904 fModel_besides_23 (wi_ic_ge fModel_besides_24 (fun c4 => (wi_bipush fModel_besides_32 (wi_iadd fModel_besides_33 ((((h.2 _ rfl).1 c9).2 _ rfl).2.1 c4).1 (wi_ret1 fModel_besides_34 ((((h.2 _ rfl).1 c9).2 _ rfl).2.1 c4).2)))) (fun c4 => (wi_aload1 fModel_besides_25 (wi_iload2 fModel_besides_26 (wi_iload3 fModel_besides_27 (wi_bipush fModel_besides_28 (wi_iadd fModel_besides_29 (((h.2 _ rfl).1 c9).2 _ rfl).1 (wi_call3 fModel_besides_30 (Nat.le_of_ble_eq_true rfl) (k_Model_inRow ((((h.2 _ rfl).1 c9).2 _ rfl).2.2 c4).1 (wi_goto fModel_besides_31 (wi_iadd fModel_besides_33 (((((h.2 _ rfl).1 c9).2 _ rfl).2.2 c4).2 _ rfl).1 (wi_ret1 fModel_besides_34 (((((h.2 _ rfl).1 c9).2 _ rfl).2.2 c4).2 _ rfl).2)))))))))))))))))))))) (fun c9 => (wi_aload1 fModel_besides_8 (wi_iload2 fModel_besides_9 (wi_iload3 fModel_besides_10 (wi_bipush fModel_besides_11 (wi_isub fModel_besides_12 ((h.2 _ rfl).2 c9).1 (wi_call3 fModel_besides_13 (Nat.le_of_ble_eq_true rfl) (k_Model_inRow ((h.2 _ rfl).2 c9).2.1 (wi_goto fModel_besides_14 (wi_iadd fModel_besides_16 (((h.2 _ rfl).2 c9).2.2 _ rfl).1 (wi_istore4 fModel_besides_17 trivial (wi_iload4 fModel_besides_18 (wi_iload3 fModel_besides_19 (wi_bipush fModel_besides_20 (wi_iadd fModel_besides_21 ((((h.2 _ rfl).2 c9).2.2 _ rfl).2 _ rfl).1 (wi_aload0 fModel_besides_22 (wi_getf904 fModel_besides_23 (wi_ic_ge fModel_besides_24 (fun c8 => (wi_bipush fModel_besides_32 (wi_iadd fModel_besides_33 (((((h.2 _ rfl).2 c9).2.2 _ rfl).2 _ rfl).2.1 c8).1 (wi_ret1 fModel_besides_34 (((((h.2 _ rfl).2 c9).2.2 _ rfl).2 _ rfl).2.1 c8).2)))) (fun c8 => (wi_aload1 fModel_besides_25 (wi_iload2 fModel_besides_26 (wi_iload3 fModel_besides_27 (wi_bipush fModel_besides_28 (wi_iadd fModel_besides_29 ((((h.2 _ rfl).2 c9).2.2 _ rfl).2 _ rfl).1 (wi_call3 fModel_besides_30 (Nat.le_of_ble_eq_true rfl) (k_Model_inRow (((((h.2 _ rfl).2 c9).2.2 _ rfl).2 _ rfl).2.2 c8).1 (wi_goto fModel_besides_31 (wi_iadd fModel_besides_33 ((((((h.2 _ rfl).2 c9).2.2 _ rfl).2 _ rfl).2.2 c8).2 _ rfl).1 (wi_ret1 fModel_besides_34 ((((((h.2 _ rfl).2 c9).2.2 _ rfl).2 _ rfl).2.2 c8).2 _ rfl).2)))))))))))))))))))))))))))))))))))))))
theorem k_Model_besides {xs : List Int} {d : Nat} {Q : Option w_V → w_M → Prop} {b : Nat} {x2 : Int} {x3 : Int} {σ : w_M} (hp : p_Model_besides b x2 x3 σ) (hQ : Q (some (.inl (v_Model_besides b x2 x3 σ))) σ) : w_Call (xs, d + 1) 219 [.inr (.inr (9, 122)), .inr (.inr (1049, b)), .inl x2, .inl x3] σ Q := by
  obtain ⟨hn, hi, hs, hb⟩ := hp
  have h0 := hb x3.toNat (by omega)
  unfold v_Model_besides r_bes at hQ
  simp only [] at hQ
  refine bModel_besides_0 ⟨⟨hn, by omega⟩, fun y1 e1 => ?_⟩
  unfold v_Model_inRow at e1
  refine ⟨fun c => ⟨⟨by omega, by omega⟩, fun y2 e2 => ⟨⟨by omega, by omega⟩, fun c2 => ⟨⟨by omega, by omega⟩, ?_⟩, fun c2 => ⟨⟨hn, by omega⟩, fun y3 e3 => ?_⟩⟩⟩, fun c => ⟨⟨by omega, by omega⟩, ⟨hn, by omega⟩, fun y5 e5 => ?_⟩⟩
  · rw [if_neg (by omega), if_neg (by omega)] at hQ
    exact w_Qe hQ (by omega)
  · have h3 := hb (x3.toNat + 1) (by omega)
    unfold v_Model_inRow at e3
    rw [show (x3 + 1).toNat = x3.toNat + 1 by omega] at e3
    rw [if_neg (by omega), if_pos (by omega)] at hQ
    exact ⟨⟨by omega, by omega⟩, w_Qe hQ (by omega)⟩
  · have h5 := hb (x3.toNat - 1) (by omega)
    unfold v_Model_inRow at e5
    rw [show (x3 - 1).toNat = x3.toNat - 1 by omega] at e5
    rw [if_pos (by omega)] at hQ
    refine ⟨⟨by omega, by omega⟩, fun y6 e6 => ⟨⟨by omega, by omega⟩, fun c2 => ⟨⟨by omega, by omega⟩, ?_⟩, fun c2 => ⟨⟨hn, by omega⟩, fun y7 e7 => ?_⟩⟩⟩
    · rw [if_neg (by omega)] at hQ
      exact w_Qe hQ (by omega)
    · have h3 := hb (x3.toNat + 1) (by omega)
      unfold v_Model_inRow at e7
      rw [show (x3 + 1).toNat = x3.toNat + 1 by omega] at e7
      rw [if_pos (by omega)] at hQ
      exact ⟨⟨by omega, by omega⟩, w_Qe hQ (by omega)⟩
end
