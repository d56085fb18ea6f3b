/-! The class's calls: the text, what is told, what is changed, hours -/
theorem CI.ok {σ : w_M} (h : CI σ) : n_ok σ 14 := h.1.1
theorem CI.ta {σ : w_M} (h : CI σ) : 0 ≤ σ 1 1 ∧ σ 1 1 ≤ 160 := h.1.2.2.2.1.1
theorem t_ab_len {σ : w_M} : t_ab σ 0 0 = σ 1 1 := rfl
theorem ta_up {T : w_M} {c : Int} (h : taWF T) (hc : 0 ≤ c ∧ c ≤ 127) (hl : T 0 0 < 160) : taWF (w_up (w_up T 1 (T 0 0).toNat c) 0 0 (T 0 0 + 1)) := by
  obtain ⟨h1, h2⟩ := h
  have e : (w_up (w_up T 1 (T 0 0).toNat c) 0 0 (T 0 0 + 1)) 0 0 = T 0 0 + 1 := w_up_at
  refine ⟨by rw [e]; omega, fun i hi => ?_⟩
  rw [e] at hi
  rw [w_up_ne (by decide), w_up_eq]
  split
  · exact hc
  · exact h2 i (by omega)
theorem t_cut_WF {T : w_M} (h : taWF T) {n : Int} (hn : 0 ≤ n ∧ n ≤ T 0 0) : taWF (t_cut T n) := by
  obtain ⟨h1, h2⟩ := h
  have e : t_cut T n 0 0 = n := rfl
  refine ⟨by rw [e]; omega, fun i hi => ?_⟩
  rw [e] at hi
  show 0 ≤ (if i < n.toNat then T 1 i else 0) ∧ (if i < n.toNat then T 1 i else 0) ≤ 127
  rw [if_pos hi]
  exact h2 i (by omega)
noncomputable def p_Reader_put (c : Int) (σ : w_M) : Prop := (0 ≤ σ 1 1 ∧ σ 1 1 < 160) ∧ (0 ≤ c ∧ c ≤ 127)
noncomputable def q_Reader_put (c : Int) (σ : w_M) (x : Int) (σ' : w_M) : Prop := x = σ 1 1 + 1 ∧ σ' = w_up (w_up σ 2 (σ 1 1).toNat c) 1 1 (σ 1 1 + 1)
theorem fReader_put_0 : w_fe am_c11 0 1 (.aload 0) := ⟨rfl, rfl⟩
theorem fReader_put_1 : w_fe am_c11 1 2 (.getfield 101) := ⟨rfl, rfl⟩
theorem fReader_put_2 : w_fe am_c11 2 3 (.bipush 160) := ⟨rfl, rfl⟩
theorem fReader_put_3 : w_ic am_c11 3 4 .ge 17 := ⟨rfl, rfl⟩
theorem fReader_put_4 : w_fe am_c11 4 5 (.aload 0) := ⟨rfl, rfl⟩
theorem fReader_put_5 : w_fe am_c11 5 6 (.getfield 100) := ⟨rfl, rfl⟩
theorem fReader_put_6 : w_fe am_c11 6 7 (.aload 0) := ⟨rfl, rfl⟩
theorem fReader_put_7 : w_fe am_c11 7 8 (.getfield 101) := ⟨rfl, rfl⟩
theorem fReader_put_8 : w_fe am_c11 8 9 (.iload 1) := ⟨rfl, rfl⟩
theorem fReader_put_9 : w_fe am_c11 9 10 (.i2b) := ⟨rfl, rfl⟩
theorem fReader_put_10 : w_fe am_c11 10 11 (.bastore) := ⟨rfl, rfl⟩
theorem fReader_put_11 : w_fe am_c11 11 12 (.aload 0) := ⟨rfl, rfl⟩
theorem fReader_put_12 : w_fe am_c11 12 13 (.dup) := ⟨rfl, rfl⟩
theorem fReader_put_13 : w_fe am_c11 13 14 (.getfield 101) := ⟨rfl, rfl⟩
theorem fReader_put_14 : w_fe am_c11 14 15 (.bipush 1) := ⟨rfl, rfl⟩
theorem fReader_put_15 : w_fe am_c11 15 16 (.iadd) := ⟨rfl, rfl⟩
theorem fReader_put_16 : w_fe am_c11 16 17 (.putfield 101) := ⟨rfl, rfl⟩
theorem fReader_put_17 : w_fe am_c11 17 18 (.aload 0) := ⟨rfl, rfl⟩
theorem fReader_put_18 : w_fe am_c11 18 19 (.getfield 101) := ⟨rfl, rfl⟩
theorem fReader_put_19 : w_fe am_c11 19 20 (.ireturn) := ⟨rfl, rfl⟩
set_option maxRecDepth 20000 in
theorem bReader_put_0 {xs : List Int} {d : Nat} {Q : Option w_V → w_M → Prop} {x1 : Int} {σ : w_M}
    (h : (160 ≤ (σ 1 1) → Q (some (.inl (σ 1 1))) σ) ∧ ((σ 1 1) < 160 → ((-128 ≤ (Int.bmod x1 256) ∧ (Int.bmod x1 256) ≤ 127) ∧ 0 ≤ (σ 1 1) ∧ (∀ (τ1 : w_M), τ1 = w_up σ 2 (σ 1 1).toNat (Int.bmod x1 256) → (w_in ((τ1 1 1) + 1) ∧ (∀ (τ2 : w_M), τ2 = w_up τ1 1 1 ((τ1 1 1) + 1) → Q (some (.inl (τ2 1 1))) τ2)))))) : w_Call (xs, d) 11 [.inr (.inr (1, 1)), .inl x1] σ Q :=
  (w_mk (mid := 11) (by decide) rfl rfl rfl rfl rfl (Nat.le_of_ble_eq_true rfl) ⟨rfl, Or.inl (by decide)⟩ (wi_aload0 fReader_put_0 (wi_getf101 fReader_put_1 (wi_bipush fReader_put_2 (wi_ic_ge fReader_put_3 (fun c3 => (wi_aload0 fReader_put_17 (wi_getf101 fReader_put_18 (wi_ret1 fReader_put_19 (h.1 c3))))) (fun c3 => (wi_aload0 fReader_put_4 (wi_getf100 fReader_put_5 (wi_aload0 fReader_put_6 (wi_getf101 fReader_put_7 (wi_iload1 fReader_put_8 (wi_i2b fReader_put_9 (wi_bast2160 fReader_put_10 (h.2 c3).1 (h.2 c3).2.1 c3 (wi_aload0 fReader_put_11 (wi_dup_a fReader_put_12 (wi_getf101 fReader_put_13 (wi_bipush fReader_put_14 (wi_iadd fReader_put_15 ((h.2 c3).2.2 _ rfl).1 (wi_putf101 fReader_put_16 (wi_aload0 fReader_put_17 (wi_getf101 fReader_put_18 (wi_ret1 fReader_put_19 (((h.2 c3).2.2 _ rfl).2 _ rfl)))))))))))))))))))))))
theorem k_Reader_put {xs : List Int} {d : Nat} {Q : Option w_V → w_M → Prop} {x1 : Int} {σ : w_M} (hp : p_Reader_put x1 σ) (hQ : ∀ (x : Int) (σ' : w_M), q_Reader_put x1 σ x σ' → Q (some (.inl x)) σ') : w_Call (xs, d) 11 [.inr (.inr (1, 1)), .inl x1] σ Q := by
  obtain ⟨h1, h2⟩ := hp
  have hb : Int.bmod x1 256 = x1 := Int.bmod_eq_of_le (by omega) (by omega)
  refine bReader_put_0 ⟨fun c => by omega, fun c => ?_⟩
  rw [hb]
  refine ⟨by omega, by omega, fun τ1 t1 => ?_⟩
  have z : τ1 1 = σ 1 := by rw [t1]; exact w_up_ne (by decide)
  rw [z]
  refine ⟨⟨by omega, by omega⟩, fun τ2 t2 => hQ _ _ ⟨by rw [t2]; exact w_up_at, by rw [t2, t1]⟩⟩
noncomputable def p_Moon_feed (_x1 : Int) (σ : w_M) : Prop := CI σ
noncomputable def q_Moon_feed (x1 : Int) (σ : w_M) (x : Int) (σ' : w_M) : Prop := c_q (F_feed (cS σ) x1) (G_feed (cS σ) x1) σ x σ'
theorem fMoon_feed_0 : w_fe am_c106 0 1 (.iload 1) := ⟨rfl, rfl⟩
theorem fMoon_feed_1 : w_fe am_c106 1 2 (.bipush 0) := ⟨rfl, rfl⟩
theorem fMoon_feed_2 : w_fe am_c106 2 3 (.bipush 127) := ⟨rfl, rfl⟩
theorem fMoon_feed_3 : w_fe am_c106 3 4 (.invokestatic 107) := ⟨rfl, rfl⟩
theorem fMoon_feed_4 : w_if am_c106 4 5 .ne 7 := ⟨rfl, rfl⟩
theorem fMoon_feed_5 : w_fe am_c106 5 6 (.bipush (-1)) := ⟨rfl, rfl⟩
theorem fMoon_feed_6 : w_fe am_c106 6 7 (.ireturn) := ⟨rfl, rfl⟩
theorem fMoon_feed_7 : w_fe am_c106 7 8 (.aload 0) := ⟨rfl, rfl⟩
theorem fMoon_feed_8 : w_fe am_c106 8 9 (.getfield 0) := ⟨rfl, rfl⟩
theorem fMoon_feed_9 : w_fe am_c106 9 10 (.getfield 101) := ⟨rfl, rfl⟩
theorem fMoon_feed_10 : w_fe am_c106 10 11 (.bipush 160) := ⟨rfl, rfl⟩
theorem fMoon_feed_11 : w_ic am_c106 11 12 .lt 14 := ⟨rfl, rfl⟩
theorem fMoon_feed_12 : w_fe am_c106 12 13 (.bipush (-3)) := ⟨rfl, rfl⟩
theorem fMoon_feed_13 : w_fe am_c106 13 14 (.ireturn) := ⟨rfl, rfl⟩
theorem fMoon_feed_14 : w_fe am_c106 14 15 (.aload 0) := ⟨rfl, rfl⟩
theorem fMoon_feed_15 : w_fe am_c106 15 16 (.getfield 0) := ⟨rfl, rfl⟩
theorem fMoon_feed_16 : w_fe am_c106 16 17 (.iload 1) := ⟨rfl, rfl⟩
theorem fMoon_feed_17 : w_fe am_c106 17 18 (.invokestatic 11) := ⟨rfl, rfl⟩
theorem fMoon_feed_18 : w_fe am_c106 18 19 (.ireturn) := ⟨rfl, rfl⟩
set_option maxRecDepth 20000 in
theorem bMoon_feed_0 {xs : List Int} {d : Nat} {Q : Option w_V → w_M → Prop} {x1 : Int} {σ : w_M}
    (h : ((0 ≤ x1 ∧ x1 ≤ 127) → (((σ 1 1) < 160 → (p_Reader_put x1 σ ∧ (∀ (y1 : Int) (τ2 : w_M), q_Reader_put x1 σ y1 τ2 → Q (some (.inl y1)) τ2))) ∧ (160 ≤ (σ 1 1) → Q (some (.inl (-3))) σ))) ∧ (¬ (0 ≤ x1 ∧ x1 ≤ 127) → Q (some (.inl (-1))) σ)) : w_Call (xs, (d + 1)) 106 [.inr (.inr (0, 0)), .inl x1] σ Q :=
  (w_mk (mid := 106) (by decide) rfl rfl rfl rfl rfl (Nat.le_of_ble_eq_true rfl) ⟨rfl, Or.inl (by decide)⟩ (wi_iload1 fMoon_feed_0 (wi_bipush fMoon_feed_1 (wi_bipush fMoon_feed_2 (wi_call3 fMoon_feed_3 (Nat.le_of_ble_eq_true rfl) (k_Moon_isWithin (wi_ifb_ne fMoon_feed_4 (fun c4 => (wi_aload0 fMoon_feed_7 (wi_getf0 fMoon_feed_8 (wi_getf101 fMoon_feed_9 (wi_bipush fMoon_feed_10 (wi_ic_lt fMoon_feed_11 (fun c3 => (wi_aload0 fMoon_feed_14 (wi_getf0 fMoon_feed_15 (wi_iload1 fMoon_feed_16 (wi_call2 fMoon_feed_17 (Nat.le_of_ble_eq_true rfl) (k_Reader_put ((h.1 c4).1 c3).1 (fun y1 τ2 eτ2 => (wi_ret1 fMoon_feed_18 (((h.1 c4).1 c3).2 y1 τ2 eτ2))))))))) (fun c3 => (wi_bipush fMoon_feed_12 (wi_ret1 fMoon_feed_13 ((h.1 c4).2 c3)))))))))) (fun c4 => (wi_bipush fMoon_feed_5 (wi_ret1 fMoon_feed_6 (h.2 c4)))))))))))
theorem k_Moon_feed {xs : List Int} {d : Nat} {Q : Option w_V → w_M → Prop} {x1 : Int} {σ : w_M} (hp : p_Moon_feed x1 σ) (hQ : ∀ (x : Int) (σ' : w_M), q_Moon_feed x1 σ x σ' → Q (some (.inl x)) σ') : w_Call (xs, d + 1) 106 [.inr (.inr (0, 0)), .inl x1] σ Q := by
  have hC : CI σ := hp
  have hl := hC.ta
  unfold q_Moon_feed F_feed G_feed at hQ
  have el : cS σ 3 0 0 = σ 1 1 := rfl
  rw [el] at hQ
  refine bMoon_feed_0 ⟨fun c => ⟨fun c2 => ⟨⟨by omega, c⟩, fun y τ hq => ?_⟩, fun c2 => ?_⟩, fun c => ?_⟩
  · obtain ⟨q1, q2⟩ := hq
    rw [if_pos c, if_pos c2, if_pos ⟨c, c2⟩] at hQ
    refine hQ _ _ (c_q3 hC (fun b hb => ?_) ?_ ?_ ?_ (ta_up hC.1.2.2.2.1 c c2) q1)
    · rw [q2, w_up_ne (by omega), w_up_ne (by omega)]
    · rw [q2, w_up_ne (by decide), w_up_ne (by decide)]
    · rw [q2, w_up_ne (by decide), w_up_ne (by decide)]
    · have e1 : τ 1 1 = σ 1 1 + 1 := by rw [q2]; exact w_up_at
      have e2 : τ 2 = w_up σ 2 (σ 1 1).toNat x1 2 := by rw [q2]; exact w_up_ne (by decide)
      have e0 : τ 0 = σ 0 := by rw [q2, w_up_ne (by decide), w_up_ne (by decide)]
      funext d i
      by_cases hd0 : d = 0
      · subst hd0
        by_cases hi : i = 0
        · subst hi
          show τ 1 1 = _
          rw [e1]
          exact w_up_at.symm
        · show (if i = 0 then τ 1 1 else if i = 1 then τ 0 8 else 0) = w_up _ 0 0 _ 0 i
          rw [if_neg hi, e0, w_up_j hi, w_up_ne (by decide)]
          show _ = (if i = 0 then σ 1 1 else if i = 1 then σ 0 8 else 0)
          rw [if_neg hi]
      · rw [w_up_ne (show d ≠ 0 from hd0)]
        by_cases hd1 : d = 1
        · subst hd1
          show (if i < (τ 1 1).toNat then τ 2 i else 0) = _
          rw [e1, e2, w_up_eq, w_up_eq]
          show _ = if 1 = 1 ∧ i = (σ 1 1).toNat then x1 else if i < (σ 1 1).toNat then σ 2 i else 0
          by_cases hi : i = (σ 1 1).toNat
          · rw [if_pos (by omega), if_pos ⟨rfl, hi⟩, if_pos ⟨rfl, hi⟩]
          · rw [if_neg (show ¬ (2 = 2 ∧ i = (σ 1 1).toNat) from fun e => hi e.2), if_neg (show ¬ (1 = 1 ∧ i = (σ 1 1).toNat) from fun e => hi e.2)]
            by_cases hlt : i < (σ 1 1).toNat
            · rw [if_pos (by omega), if_pos hlt]
            · rw [if_neg (by omega), if_neg hlt]
        · rw [w_up_ne (show d ≠ 1 from hd1)]
          show (if d = 0 then _ else if d = 1 then _ else 0) = (if d = 0 then _ else if d = 1 then _ else 0)
          rw [if_neg hd0, if_neg hd1, if_neg hd0, if_neg hd1]
  · rw [if_pos c, if_neg (by omega), if_neg (by omega)] at hQ
    exact hQ _ _ (c_qr hC rfl)
  · rw [if_neg c, if_neg (fun q => c q.1)] at hQ
    exact hQ _ _ (c_qr hC rfl)
noncomputable def p_Moon_end (_x1 : Int) (σ : w_M) : Prop := CI σ
noncomputable def q_Moon_end (x1 : Int) (σ : w_M) (x : Int) (σ' : w_M) : Prop := c_q (F_end (cS σ) x1) (G_end (cS σ) x1) σ x σ'
theorem fMoon_end_0 : w_fe am_c108 0 1 (.aload 0) := ⟨rfl, rfl⟩
theorem fMoon_end_1 : w_fe am_c108 1 2 (.getfield 0) := ⟨rfl, rfl⟩
theorem fMoon_end_2 : w_fe am_c108 2 3 (.getfield 101) := ⟨rfl, rfl⟩
theorem fMoon_end_3 : w_fe am_c108 3 4 (.istore 2) := ⟨rfl, rfl⟩
theorem fMoon_end_4 : w_fe am_c108 4 5 (.iload 1) := ⟨rfl, rfl⟩
theorem fMoon_end_5 : w_fe am_c108 5 6 (.bipush 0) := ⟨rfl, rfl⟩
theorem fMoon_end_6 : w_fe am_c108 6 7 (.iload 2) := ⟨rfl, rfl⟩
theorem fMoon_end_7 : w_fe am_c108 7 8 (.invokestatic 107) := ⟨rfl, rfl⟩
theorem fMoon_end_8 : w_if am_c108 8 9 .ne 11 := ⟨rfl, rfl⟩
theorem fMoon_end_9 : w_fe am_c108 9 10 (.bipush (-1)) := ⟨rfl, rfl⟩
theorem fMoon_end_10 : w_fe am_c108 10 11 (.ireturn) := ⟨rfl, rfl⟩
theorem fMoon_end_11 : w_fe am_c108 11 12 (.aload 0) := ⟨rfl, rfl⟩
theorem fMoon_end_12 : w_fe am_c108 12 13 (.getfield 0) := ⟨rfl, rfl⟩
theorem fMoon_end_13 : w_fe am_c108 13 14 (.iload 1) := ⟨rfl, rfl⟩
theorem fMoon_end_14 : w_fe am_c108 14 15 (.putfield 101) := ⟨rfl, rfl⟩
theorem fMoon_end_15 : w_fe am_c108 15 16 (.iload 2) := ⟨rfl, rfl⟩
theorem fMoon_end_16 : w_fe am_c108 16 17 (.ireturn) := ⟨rfl, rfl⟩
set_option maxRecDepth 20000 in
theorem bMoon_end_0 {xs : List Int} {d : Nat} {Q : Option w_V → w_M → Prop} {x1 : Int} {σ : w_M}
    (h : ∀ (y1 : Int), y1 = (σ 1 1) → (((0 ≤ x1 ∧ x1 ≤ y1) → ∀ (τ2 : w_M), τ2 = w_up σ 1 1 x1 → Q (some (.inl y1)) τ2) ∧ (¬ (0 ≤ x1 ∧ x1 ≤ y1) → Q (some (.inl (-1))) σ))) : w_Call (xs, (d + 1)) 108 [.inr (.inr (0, 0)), .inl x1] σ Q :=
  (w_mk (mid := 108) (by decide) rfl rfl rfl rfl rfl (Nat.le_of_ble_eq_true rfl) ⟨rfl, Or.inl (by decide)⟩ (wi_aload0 fMoon_end_0 (wi_getf0 fMoon_end_1 (wi_getf101 fMoon_end_2 (wi_istore2 fMoon_end_3 trivial (wi_iload1 fMoon_end_4 (wi_bipush fMoon_end_5 (wi_iload2 fMoon_end_6 (wi_call3 fMoon_end_7 (Nat.le_of_ble_eq_true rfl) (k_Moon_isWithin (wi_ifb_ne fMoon_end_8 (fun c3 => (wi_aload0 fMoon_end_11 (wi_getf0 fMoon_end_12 (wi_iload1 fMoon_end_13 (wi_putf101 fMoon_end_14 (wi_iload2 fMoon_end_15 (wi_ret1 fMoon_end_16 (((h _ rfl).1 c3) _ rfl)))))))) (fun c3 => (wi_bipush fMoon_end_9 (wi_ret1 fMoon_end_10 ((h _ rfl).2 c3)))))))))))))))
theorem k_Moon_end {xs : List Int} {d : Nat} {Q : Option w_V → w_M → Prop} {x1 : Int} {σ : w_M} (hp : p_Moon_end x1 σ) (hQ : ∀ (x : Int) (σ' : w_M), q_Moon_end x1 σ x σ' → Q (some (.inl x)) σ') : w_Call (xs, d + 1) 108 [.inr (.inr (0, 0)), .inl x1] σ Q := by
  have hC : CI σ := hp
  have hl := hC.ta
  unfold q_Moon_end F_end G_end at hQ
  have el : cS σ 3 0 0 = σ 1 1 := rfl
  rw [el] at hQ
  refine bMoon_end_0 (fun y e => ?_)
  rw [e]
  refine ⟨fun c τ t => ?_, fun c => ?_⟩
  · rw [if_pos c, if_pos c] at hQ
    refine hQ _ _ (c_q3 hC (fun b hb => by rw [t, w_up_ne (by omega)]) (by rw [t, w_up_ne (by decide)]) (by rw [t, w_up_ne (by decide)]) ?_ (t_cut_WF hC.1.2.2.2.1 c) rfl)
    funext d i
    have e1 : τ 1 1 = x1 := by rw [t]; exact w_up_at
    have e0 : τ 0 = σ 0 := by rw [t, w_up_ne (by decide)]
    have e2 : τ 2 = σ 2 := by rw [t, w_up_ne (by decide)]
    unfold t_ab t_cut
    rw [e1, e0, e2]
    by_cases hd1 : d = 1
    · subst hd1
      show (if i < x1.toNat then σ 2 i else 0) = if i < x1.toNat then (if i < (σ 1 1).toNat then σ 2 i else 0) else 0
      by_cases hi : i < x1.toNat
      · rw [if_pos hi, if_pos hi, if_pos (by omega)]
      · rw [if_neg hi, if_neg hi]
    · rw [if_neg hd1, if_neg hd1]
      by_cases hd0 : d = 0
      · subst hd0
        by_cases hi : i = 0
        · subst hi; rfl
        · rw [if_pos rfl, if_neg hi, if_neg (show ¬ ((0 : Nat) = 0 ∧ i = 0) from fun q => hi q.2)]
          show _ = (if i = 0 then σ 1 1 else if i = 1 then σ 0 8 else 0)
          rw [if_neg hi]
      · rw [if_neg hd0, if_neg (fun q => hd0 q.1)]
        show 0 = if d = 0 then _ else if d = 1 then _ else 0
        rw [if_neg hd0, if_neg hd1]
  · rw [if_neg c, if_neg c] at hQ
    exact hQ _ _ (c_qr hC rfl)
noncomputable def p_Moon_fault  (σ : w_M) : Prop := CI σ
noncomputable def q_Moon_fault  (σ : w_M) (x : Int) (σ' : w_M) : Prop := c_q (F_fault (cS σ)) (cS σ) σ x σ'
noncomputable def p_Moon_torn (_ : w_M) : Prop := True
noncomputable def q_Moon_torn (σ : w_M) (x : Int) (σ' : w_M) : Prop := x = σ 0 9 ∧ σ' = σ
theorem fMoon_fault_0 : w_fe am_c111 0 1 (.aload 0) := ⟨rfl, rfl⟩
theorem fMoon_fault_1 : w_fe am_c111 1 2 (.getfield 8) := ⟨rfl, rfl⟩
theorem fMoon_fault_2 : w_fe am_c111 2 3 (.ireturn) := ⟨rfl, rfl⟩
set_option maxRecDepth 20000 in
theorem bMoon_fault_0 {xs : List Int} {d : Nat} {Q : Option w_V → w_M → Prop}  {σ : w_M}
    (h : Q (some (.inl (σ 0 8))) σ) : w_Call (xs, d) 111 [.inr (.inr (0, 0))] σ Q :=
  (w_mk (mid := 111) (by decide) rfl rfl rfl rfl rfl (Nat.le_of_ble_eq_true rfl) ⟨rfl, Or.inl (by decide)⟩ (wi_aload0 fMoon_fault_0 (wi_getf8 fMoon_fault_1 (wi_ret1 fMoon_fault_2 h))))
theorem fMoon_torn_0 : w_fe am_c151 0 1 (.aload 0) := ⟨rfl, rfl⟩
theorem fMoon_torn_1 : w_fe am_c151 1 2 (.getfield 9) := ⟨rfl, rfl⟩
theorem fMoon_torn_2 : w_fe am_c151 2 3 (.ireturn) := ⟨rfl, rfl⟩
set_option maxRecDepth 20000 in
theorem bMoon_torn_0 {xs : List Int} {d : Nat} {Q : Option w_V → w_M → Prop}  {σ : w_M}
    (h : Q (some (.inl (σ 0 9))) σ) : w_Call (xs, d) 151 [.inr (.inr (0, 0))] σ Q :=
  (w_mk (mid := 151) (by decide) rfl rfl rfl rfl rfl (Nat.le_of_ble_eq_true rfl) ⟨rfl, Or.inl (by decide)⟩ (wi_aload0 fMoon_torn_0 (wi_getf9 fMoon_torn_1 (wi_ret1 fMoon_torn_2 h))))
theorem k_Moon_fault {xs : List Int} {d : Nat} {Q : Option w_V → w_M → Prop}  {σ : w_M} (hp : p_Moon_fault σ) (hQ : ∀ (x : Int) (σ' : w_M), q_Moon_fault σ x σ' → Q (some (.inl x)) σ') : w_Call (xs, d) 111 [.inr (.inr (0, 0))] σ Q := bMoon_fault_0 (hQ _ _ (c_qr hp rfl))
theorem k_Moon_torn {xs : List Int} {d : Nat} {Q : Option w_V → w_M → Prop}  {σ : w_M} (hp : p_Moon_torn σ) (hQ : ∀ (x : Int) (σ' : w_M), q_Moon_torn σ x σ' → Q (some (.inl x)) σ') : w_Call (xs, d) 151 [.inr (.inr (0, 0))] σ Q := bMoon_torn_0 (hQ _ _ ⟨rfl, rfl⟩)
noncomputable def p_Moon_rule (_x1 : Int) (σ : w_M) : Prop := CI σ
noncomputable def q_Moon_rule (x1 : Int) (σ : w_M) (x : Int) (σ' : w_M) : Prop := c_q (F_rule (cS σ) x1) (cS σ) σ x σ'
theorem fMoon_rule_0 : w_fe am_c112 0 1 (.iload 1) := ⟨rfl, rfl⟩
theorem fMoon_rule_1 {E : w_C} {rt : Nat} {Q : Option w_V → w_M → Prop} {ls : w_L} {st : List w_V} {σ : w_M} {x : Int} (h0 : x = 0 → w_Ex E rt am_c112 Q 2 ls st σ) (h1 : x = 1 → w_Ex E rt am_c112 Q 6 ls st σ) (h2 : x = 2 → w_Ex E rt am_c112 Q 10 ls st σ) (h3 : x = 3 → w_Ex E rt am_c112 Q 14 ls st σ) (h4 : x = 4 → w_Ex E rt am_c112 Q 18 ls st σ) (h5 : x = 5 → w_Ex E rt am_c112 Q 22 ls st σ) (h6 : x = 6 → w_Ex E rt am_c112 Q 26 ls st σ) (hd : x < 0 ∨ 6 < x → w_Ex E rt am_c112 Q 30 ls st σ) : w_Ex E rt am_c112 Q 1 ls (.inl x :: st) σ :=
  w_Ex_in (op := .tableswitch 30 0 6 #[2, 6, 10, 14, 18, 22, 26]) rfl ⟨rfl, hd, And.intro h0 (And.intro h1 (And.intro h2 (And.intro h3 (And.intro h4 (And.intro h5 (And.intro h6 ( trivial)))))))⟩
theorem fMoon_rule_2 : w_fe am_c112 2 3 (.aload 0) := ⟨rfl, rfl⟩
theorem fMoon_rule_3 : w_fe am_c112 3 4 (.getfield 2) := ⟨rfl, rfl⟩
theorem fMoon_rule_4 : w_fe am_c112 4 5 (.getfield 200) := ⟨rfl, rfl⟩
theorem fMoon_rule_5 : w_fe am_c112 5 6 (.ireturn) := ⟨rfl, rfl⟩
theorem fMoon_rule_6 : w_fe am_c112 6 7 (.aload 0) := ⟨rfl, rfl⟩
theorem fMoon_rule_7 : w_fe am_c112 7 8 (.getfield 2) := ⟨rfl, rfl⟩
theorem fMoon_rule_8 : w_fe am_c112 8 9 (.getfield 201) := ⟨rfl, rfl⟩
theorem fMoon_rule_9 : w_fe am_c112 9 10 (.ireturn) := ⟨rfl, rfl⟩
theorem fMoon_rule_10 : w_fe am_c112 10 11 (.aload 0) := ⟨rfl, rfl⟩
theorem fMoon_rule_11 : w_fe am_c112 11 12 (.getfield 2) := ⟨rfl, rfl⟩
theorem fMoon_rule_12 : w_fe am_c112 12 13 (.getfield 202) := ⟨rfl, rfl⟩
theorem fMoon_rule_13 : w_fe am_c112 13 14 (.ireturn) := ⟨rfl, rfl⟩
theorem fMoon_rule_14 : w_fe am_c112 14 15 (.aload 0) := ⟨rfl, rfl⟩
theorem fMoon_rule_15 : w_fe am_c112 15 16 (.getfield 2) := ⟨rfl, rfl⟩
theorem fMoon_rule_16 : w_fe am_c112 16 17 (.getfield 204) := ⟨rfl, rfl⟩
theorem fMoon_rule_17 : w_fe am_c112 17 18 (.ireturn) := ⟨rfl, rfl⟩
theorem fMoon_rule_18 : w_fe am_c112 18 19 (.aload 0) := ⟨rfl, rfl⟩
theorem fMoon_rule_19 : w_fe am_c112 19 20 (.getfield 2) := ⟨rfl, rfl⟩
theorem fMoon_rule_20 : w_fe am_c112 20 21 (.getfield 205) := ⟨rfl, rfl⟩
theorem fMoon_rule_21 : w_fe am_c112 21 22 (.ireturn) := ⟨rfl, rfl⟩
theorem fMoon_rule_22 : w_fe am_c112 22 23 (.aload 0) := ⟨rfl, rfl⟩
theorem fMoon_rule_23 : w_fe am_c112 23 24 (.getfield 2) := ⟨rfl, rfl⟩
theorem fMoon_rule_24 : w_fe am_c112 24 25 (.getfield 203) := ⟨rfl, rfl⟩
theorem fMoon_rule_25 : w_fe am_c112 25 26 (.ireturn) := ⟨rfl, rfl⟩
theorem fMoon_rule_26 : w_fe am_c112 26 27 (.aload 0) := ⟨rfl, rfl⟩
theorem fMoon_rule_27 : w_fe am_c112 27 28 (.getfield 2) := ⟨rfl, rfl⟩
theorem fMoon_rule_28 : w_fe am_c112 28 29 (.invokestatic 35) := ⟨rfl, rfl⟩
theorem fMoon_rule_29 : w_fe am_c112 29 30 (.ireturn) := ⟨rfl, rfl⟩
theorem fMoon_rule_30 : w_fe am_c112 30 31 (.bipush (-1)) := ⟨rfl, rfl⟩
theorem fMoon_rule_31 : w_fe am_c112 31 32 (.ireturn) := ⟨rfl, rfl⟩
set_option maxRecDepth 20000 in
theorem bMoon_rule_0 {xs : List Int} {d : Nat} {Q : Option w_V → w_M → Prop} {x1 : Int} {σ : w_M}
    (h : (x1 = 0 → Q (some (.inl (σ 14 0))) σ) ∧ (x1 = 1 → Q (some (.inl (σ 14 1))) σ) ∧ (x1 = 2 → Q (some (.inl (σ 14 2))) σ) ∧ (x1 = 3 → Q (some (.inl (σ 14 4))) σ) ∧ (x1 = 4 → Q (some (.inl (σ 14 5))) σ) ∧ (x1 = 5 → Q (some (.inl (σ 14 3))) σ) ∧ (x1 = 6 → (p_Field_standing 14 σ ∧ (∀ (y1 : Int), y1 = v_Field_standing 14 σ → Q (some (.inl y1)) σ))) ∧ (x1 < 0 ∨ 6 < x1 → Q (some (.inl (-1))) σ)) : w_Call (xs, (d + 1)) 112 [.inr (.inr (0, 0)), .inl x1] σ Q :=
  (w_mk (mid := 112) (by decide) rfl rfl rfl rfl rfl (Nat.le_of_ble_eq_true rfl) ⟨rfl, Or.inl (by decide)⟩ (wi_iload1 fMoon_rule_0 (fMoon_rule_1 (fun c => (wi_aload0 fMoon_rule_2 (wi_getf2 fMoon_rule_3 (wi_getf200 fMoon_rule_4 (wi_ret1 fMoon_rule_5 (h.1 c)))))) (fun c => (wi_aload0 fMoon_rule_6 (wi_getf2 fMoon_rule_7 (wi_getf201 fMoon_rule_8 (wi_ret1 fMoon_rule_9 (h.2.1 c)))))) (fun c => (wi_aload0 fMoon_rule_10 (wi_getf2 fMoon_rule_11 (wi_getf202 fMoon_rule_12 (wi_ret1 fMoon_rule_13 (h.2.2.1 c)))))) (fun c => (wi_aload0 fMoon_rule_14 (wi_getf2 fMoon_rule_15 (wi_getf204 fMoon_rule_16 (wi_ret1 fMoon_rule_17 (h.2.2.2.1 c)))))) (fun c => (wi_aload0 fMoon_rule_18 (wi_getf2 fMoon_rule_19 (wi_getf205 fMoon_rule_20 (wi_ret1 fMoon_rule_21 (h.2.2.2.2.1 c)))))) (fun c => (wi_aload0 fMoon_rule_22 (wi_getf2 fMoon_rule_23 (wi_getf203 fMoon_rule_24 (wi_ret1 fMoon_rule_25 (h.2.2.2.2.2.1 c)))))) (fun c => (wi_aload0 fMoon_rule_26 (wi_getf2 fMoon_rule_27 (wi_call1 fMoon_rule_28 (Nat.le_of_ble_eq_true rfl) (k_Field_standing (h.2.2.2.2.2.2.1 c).1 (wi_ret1 fMoon_rule_29 ((h.2.2.2.2.2.2.1 c).2 _ rfl))))))) (fun c => (wi_bipush fMoon_rule_30 (wi_ret1 fMoon_rule_31 (h.2.2.2.2.2.2.2 c)))))))
theorem k_Moon_rule {xs : List Int} {d : Nat} {Q : Option w_V → w_M → Prop} {x1 : Int} {σ : w_M} (hp : p_Moon_rule x1 σ) (hQ : ∀ (x : Int) (σ' : w_M), q_Moon_rule x1 σ x σ' → Q (some (.inl x)) σ') : w_Call (xs, d + 1) 112 [.inr (.inr (0, 0)), .inl x1] σ Q := by
  have hC : CI σ := hp
  unfold q_Moon_rule F_rule at hQ
  refine bMoon_rule_0 ⟨fun c => ?_, fun c => ?_, fun c => ?_, fun c => ?_, fun c => ?_, fun c => ?_, fun c => ⟨hC.ok, fun y e => ?_⟩, fun c => ?_⟩
  · rw [if_pos c] at hQ; exact hQ _ _ (c_qr hC rfl)
  · rw [if_neg (by omega), if_pos c] at hQ; exact hQ _ _ (c_qr hC rfl)
  · rw [if_neg (by omega), if_neg (by omega), if_pos c] at hQ; exact hQ _ _ (c_qr hC rfl)
  · rw [if_neg (by omega), if_neg (by omega), if_neg (by omega), if_pos c] at hQ; exact hQ _ _ (c_qr hC rfl)
  · rw [if_neg (by omega), if_neg (by omega), if_neg (by omega), if_neg (by omega), if_pos c] at hQ; exact hQ _ _ (c_qr hC rfl)
  · rw [if_neg (by omega), if_neg (by omega), if_neg (by omega), if_neg (by omega), if_neg (by omega), if_pos c] at hQ; exact hQ _ _ (c_qr hC rfl)
  · rw [if_neg (by omega), if_neg (by omega), if_neg (by omega), if_neg (by omega), if_neg (by omega), if_neg (by omega), if_pos c] at hQ; exact hQ _ _ (c_qr hC e)
  · rw [if_neg (by omega), if_neg (by omega), if_neg (by omega), if_neg (by omega), if_neg (by omega), if_neg (by omega), if_neg (by omega)] at hQ; exact hQ _ _ (c_qr hC rfl)
theorem c_rd {σ : w_M} {a d : Nat} {i : Int} (h : n_ok σ a) (h1 : 1 ≤ d) (h2 : d ≤ 2) (hi : 0 ≤ i ∧ i < σ a 4) : σ (a + d) i.toNat = w_ab σ a d i.toNat := w_rd (by omega) (by rw [w_rl12 h1 h2]; omega)
theorem c_rdr {σ : w_M} {a d : Nat} {r : Int} (h : n_ok σ a) (h1 : 3 ≤ d) (h2 : d ≤ 7) (hr : 0 ≤ r ∧ r < σ a 5) : σ (a + d) r.toNat = w_ab σ a d r.toNat := w_rd (by omega) (by rw [w_rl37 h1 h2]; omega)
theorem c_rd9 {σ : w_M} {a : Nat} {i : Int} (hi : 0 ≤ i ∧ i < σ a 4) : w_ab σ a 9 i.toNat = w_and (w_shr (σ a 6) i) 1 := by
  show (if i.toNat < (σ a 4).toNat then w_and (w_shr (σ a 6) ((i.toNat : Nat) : Int)) 1 else 0) = _
  rw [if_pos (by omega), Int.toNat_of_nonneg hi.1]
noncomputable def p_Moon_strip (_x1 : Int) (_x2 : Int) (σ : w_M) : Prop := CI σ
noncomputable def q_Moon_strip (x1 : Int) (x2 : Int) (σ : w_M) (x : Int) (σ' : w_M) : Prop := c_q (F_strip (cS σ) x1 x2) (cS σ) σ x σ'
theorem fMoon_strip_0 : w_fe am_c113 0 1 (.aload 0) := ⟨rfl, rfl⟩
theorem fMoon_strip_1 : w_fe am_c113 1 2 (.getfield 2) := ⟨rfl, rfl⟩
theorem fMoon_strip_2 : w_fe am_c113 2 3 (.iload 1) := ⟨rfl, rfl⟩
theorem fMoon_strip_3 : w_fe am_c113 3 4 (.invokestatic 33) := ⟨rfl, rfl⟩
theorem fMoon_strip_4 : w_if am_c113 4 5 .ne 7 := ⟨rfl, rfl⟩
theorem fMoon_strip_5 : w_fe am_c113 5 6 (.bipush (-1)) := ⟨rfl, rfl⟩
theorem fMoon_strip_6 : w_fe am_c113 6 7 (.ireturn) := ⟨rfl, rfl⟩
theorem fMoon_strip_7 : w_fe am_c113 7 8 (.iload 2) := ⟨rfl, rfl⟩
theorem fMoon_strip_8 {E : w_C} {rt : Nat} {Q : Option w_V → w_M → Prop} {ls : w_L} {st : List w_V} {σ : w_M} {x : Int} (h0 : x = 0 → w_Ex E rt am_c113 Q 9 ls st σ) (h1 : x = 1 → w_Ex E rt am_c113 Q 15 ls st σ) (h2 : x = 2 → w_Ex E rt am_c113 Q 21 ls st σ) (h3 : x = 3 → w_Ex E rt am_c113 Q 30 ls st σ) (hd : x < 0 ∨ 3 < x → w_Ex E rt am_c113 Q 35 ls st σ) : w_Ex E rt am_c113 Q 8 ls (.inl x :: st) σ :=
  w_Ex_in (op := .tableswitch 35 0 3 #[9, 15, 21, 30]) rfl ⟨rfl, hd, And.intro h0 (And.intro h1 (And.intro h2 (And.intro h3 ( trivial))))⟩
theorem fMoon_strip_9 : w_fe am_c113 9 10 (.aload 0) := ⟨rfl, rfl⟩
theorem fMoon_strip_10 : w_fe am_c113 10 11 (.getfield 2) := ⟨rfl, rfl⟩
theorem fMoon_strip_11 : w_fe am_c113 11 12 (.getfield 207) := ⟨rfl, rfl⟩
theorem fMoon_strip_12 : w_fe am_c113 12 13 (.iload 1) := ⟨rfl, rfl⟩
theorem fMoon_strip_13 : w_fe am_c113 13 14 (.iaload) := ⟨rfl, rfl⟩
theorem fMoon_strip_14 : w_fe am_c113 14 15 (.ireturn) := ⟨rfl, rfl⟩
theorem fMoon_strip_15 : w_fe am_c113 15 16 (.aload 0) := ⟨rfl, rfl⟩
theorem fMoon_strip_16 : w_fe am_c113 16 17 (.getfield 2) := ⟨rfl, rfl⟩
theorem fMoon_strip_17 : w_fe am_c113 17 18 (.getfield 208) := ⟨rfl, rfl⟩
theorem fMoon_strip_18 : w_fe am_c113 18 19 (.iload 1) := ⟨rfl, rfl⟩
theorem fMoon_strip_19 : w_fe am_c113 19 20 (.iaload) := ⟨rfl, rfl⟩
theorem fMoon_strip_20 : w_fe am_c113 20 21 (.ireturn) := ⟨rfl, rfl⟩
theorem fMoon_strip_21 : w_fe am_c113 21 22 (.aload 0) := ⟨rfl, rfl⟩
theorem fMoon_strip_22 : w_fe am_c113 22 23 (.getfield 2) := ⟨rfl, rfl⟩
theorem fMoon_strip_23 : w_fe am_c113 23 24 (.iload 1) := ⟨rfl, rfl⟩
theorem fMoon_strip_24 : w_fe am_c113 24 25 (.invokestatic 30) := ⟨rfl, rfl⟩
theorem fMoon_strip_25 : w_if am_c113 25 26 .eq 28 := ⟨rfl, rfl⟩
theorem fMoon_strip_26 : w_fe am_c113 26 27 (.bipush 1) := ⟨rfl, rfl⟩
theorem fMoon_strip_27 : w_gt am_c113 27 29 := rfl
theorem fMoon_strip_28 : w_fe am_c113 28 29 (.bipush 0) := ⟨rfl, rfl⟩
theorem fMoon_strip_29 : w_fe am_c113 29 30 (.ireturn) := ⟨rfl, rfl⟩
theorem fMoon_strip_30 : w_fe am_c113 30 31 (.aload 0) := ⟨rfl, rfl⟩
theorem fMoon_strip_31 : w_fe am_c113 31 32 (.getfield 2) := ⟨rfl, rfl⟩
theorem fMoon_strip_32 : w_fe am_c113 32 33 (.iload 1) := ⟨rfl, rfl⟩
theorem fMoon_strip_33 : w_fe am_c113 33 34 (.invokestatic 36) := ⟨rfl, rfl⟩
theorem fMoon_strip_34 : w_fe am_c113 34 35 (.ireturn) := ⟨rfl, rfl⟩
theorem fMoon_strip_35 : w_fe am_c113 35 36 (.bipush (-1)) := ⟨rfl, rfl⟩
theorem fMoon_strip_36 : w_fe am_c113 36 37 (.ireturn) := ⟨rfl, rfl⟩
set_option maxRecDepth 20000 in
theorem bMoon_strip_0 {xs : List Int} {d : Nat} {Q : Option w_V → w_M → Prop} {x1 : Int} {x2 : Int} {σ : w_M}
    (h : ((0 ≤ x1 ∧ x1 < σ 14 4) → ((x2 = 0 → (0 ≤ x1 ∧ x1 < 7 ∧ Q (some (.inl (σ 15 x1.toNat))) σ)) ∧ (x2 = 1 → (0 ≤ x1 ∧ x1 < 7 ∧ Q (some (.inl (σ 16 x1.toNat))) σ)) ∧ (x2 = 2 → ((¬ (¬ w_and (w_shr (σ 14 6) x1) 1 = 0) → Q (some (.inl 0)) σ) ∧ ((¬ w_and (w_shr (σ 14 6) x1) 1 = 0) → Q (some (.inl 1)) σ))) ∧ (x2 = 3 → (p_Field_reapersAt 14 x1 σ ∧ (∀ (y2 : Int), y2 = v_Field_reapersAt 14 x1 σ → Q (some (.inl y2)) σ))) ∧ (x2 < 0 ∨ 3 < x2 → Q (some (.inl (-1))) σ))) ∧ (¬ (0 ≤ x1 ∧ x1 < σ 14 4) → Q (some (.inl (-1))) σ)) : w_Call (xs, (d + 2)) 113 [.inr (.inr (0, 0)), .inl x1, .inl x2] σ Q :=
  (w_mk (mid := 113) (by decide) rfl rfl rfl rfl rfl (Nat.le_of_ble_eq_true rfl) ⟨rfl, Or.inl (by decide)⟩ (wi_aload0 fMoon_strip_0 (wi_getf2 fMoon_strip_1 (wi_iload1 fMoon_strip_2 (wi_call2 fMoon_strip_3 (Nat.le_of_ble_eq_true rfl) (k_Field_isStrip (wi_ifb_ne fMoon_strip_4 (fun c3 => (wi_iload2 fMoon_strip_7 (fMoon_strip_8 (fun c => (wi_aload0 fMoon_strip_9 (wi_getf2 fMoon_strip_10 (wi_getf207 fMoon_strip_11 (wi_iload1 fMoon_strip_12 (wi_iald1007 fMoon_strip_13 ((h.1 c3).1 c).1 ((h.1 c3).1 c).2.1 (wi_ret1 fMoon_strip_14 ((h.1 c3).1 c).2.2))))))) (fun c => (wi_aload0 fMoon_strip_15 (wi_getf2 fMoon_strip_16 (wi_getf208 fMoon_strip_17 (wi_iload1 fMoon_strip_18 (wi_iald1007 fMoon_strip_19 ((h.1 c3).2.1 c).1 ((h.1 c3).2.1 c).2.1 (wi_ret1 fMoon_strip_20 ((h.1 c3).2.1 c).2.2))))))) (fun c => (wi_aload0 fMoon_strip_21 (wi_getf2 fMoon_strip_22 (wi_iload1 fMoon_strip_23 (wi_call2 fMoon_strip_24 (Nat.le_of_ble_eq_true rfl) (k_Field_isThistly (wi_ifb_eq fMoon_strip_25 (fun c1 => (wi_bipush fMoon_strip_28 (wi_ret1 fMoon_strip_29 (((h.1 c3).2.2.1 c).1 c1)))) (fun c1 => (wi_bipush fMoon_strip_26 (wi_goto fMoon_strip_27 (wi_ret1 fMoon_strip_29 (((h.1 c3).2.2.1 c).2 c1)))))))))))) (fun c => (wi_aload0 fMoon_strip_30 (wi_getf2 fMoon_strip_31 (wi_iload1 fMoon_strip_32 (wi_call2 fMoon_strip_33 (Nat.le_of_ble_eq_true rfl) (k_Field_reapersAt ((h.1 c3).2.2.2.1 c).1 (wi_ret1 fMoon_strip_34 (((h.1 c3).2.2.2.1 c).2 _ rfl)))))))) (fun c => (wi_bipush fMoon_strip_35 (wi_ret1 fMoon_strip_36 ((h.1 c3).2.2.2.2 c))))))) (fun c3 => (wi_bipush fMoon_strip_5 (wi_ret1 fMoon_strip_6 (h.2 c3)))))))))))
theorem k_Moon_strip {xs : List Int} {d : Nat} {Q : Option w_V → w_M → Prop} {x1 : Int} {x2 : Int} {σ : w_M} (hp : p_Moon_strip x1 x2 σ) (hQ : ∀ (x : Int) (σ' : w_M), q_Moon_strip x1 x2 σ x σ' → Q (some (.inl x)) σ') : w_Call (xs, d + 2) 113 [.inr (.inr (0, 0)), .inl x1, .inl x2] σ Q := by
  have hC : CI σ := hp
  have hs := n_ok.s hC.ok
  unfold q_Moon_strip F_strip at hQ
  have e4 : cS σ 0 0 4 = σ 14 4 := rfl
  rw [e4] at hQ
  refine bMoon_strip_0 ⟨fun c => ?_, fun c => ?_⟩
  · rw [if_pos c] at hQ
    have e9 := c_rd9 (σ := σ) (a := 14) c
    have h01 := w_and1 (w_shr (σ 14 6) x1)
    refine ⟨fun w => ⟨c.1, by omega, ?_⟩, fun w => ⟨c.1, by omega, ?_⟩, fun w => ⟨fun z => ?_, fun z => ?_⟩, fun w => ⟨hC.ok, fun y e => ?_⟩, fun w => ?_⟩
    · rw [if_pos w] at hQ; exact hQ _ _ (c_qr hC (c_rd (a := 14) (d := 1) hC.ok (by decide) (by decide) c))
    · rw [if_neg (by omega), if_pos w] at hQ; exact hQ _ _ (c_qr hC (c_rd (a := 14) (d := 2) hC.ok (by decide) (by decide) c))
    · rw [if_neg (by omega), if_neg (by omega), if_pos w] at hQ; exact hQ _ _ (c_qr hC ((Classical.not_not.mp z).symm.trans e9.symm))
    · rw [if_neg (by omega), if_neg (by omega), if_pos w] at hQ; exact hQ _ _ (c_qr hC ((h01.resolve_left z).symm.trans e9.symm))
    · rw [if_neg (by omega), if_neg (by omega), if_neg (by omega), if_pos w] at hQ; exact hQ _ _ (c_qr hC e)
    · rw [if_neg (by omega), if_neg (by omega), if_neg (by omega), if_neg (by omega)] at hQ; exact hQ _ _ (c_qr hC rfl)
  · rw [if_neg c] at hQ; exact hQ _ _ (c_qr hC rfl)
noncomputable def p_Moon_reaper (_x1 : Int) (_x2 : Int) (σ : w_M) : Prop := CI σ
noncomputable def q_Moon_reaper (x1 : Int) (x2 : Int) (σ : w_M) (x : Int) (σ' : w_M) : Prop := c_q (F_reaper (cS σ) x1 x2) (cS σ) σ x σ'
theorem fMoon_reaper_0 : w_fe am_c114 0 1 (.aload 0) := ⟨rfl, rfl⟩
theorem fMoon_reaper_1 : w_fe am_c114 1 2 (.getfield 2) := ⟨rfl, rfl⟩
theorem fMoon_reaper_2 : w_fe am_c114 2 3 (.iload 1) := ⟨rfl, rfl⟩
theorem fMoon_reaper_3 : w_fe am_c114 3 4 (.iload 2) := ⟨rfl, rfl⟩
theorem fMoon_reaper_4 : w_fe am_c114 4 5 (.invokestatic 37) := ⟨rfl, rfl⟩
theorem fMoon_reaper_5 : w_fe am_c114 5 6 (.ireturn) := ⟨rfl, rfl⟩
set_option maxRecDepth 20000 in
theorem bMoon_reaper_0 {xs : List Int} {d : Nat} {Q : Option w_V → w_M → Prop} {x1 : Int} {x2 : Int} {σ : w_M}
    (h : p_Field_tellOf 14 x1 x2 σ ∧ (∀ (y1 : Int), y1 = v_Field_tellOf 14 x1 x2 σ → Q (some (.inl y1)) σ)) : w_Call (xs, (d + 2)) 114 [.inr (.inr (0, 0)), .inl x1, .inl x2] σ Q :=
  (w_mk (mid := 114) (by decide) rfl rfl rfl rfl rfl (Nat.le_of_ble_eq_true rfl) ⟨rfl, Or.inl (by decide)⟩ (wi_aload0 fMoon_reaper_0 (wi_getf2 fMoon_reaper_1 (wi_iload1 fMoon_reaper_2 (wi_iload2 fMoon_reaper_3 (wi_call3 fMoon_reaper_4 (Nat.le_of_ble_eq_true rfl) (k_Field_tellOf h.1 (wi_ret1 fMoon_reaper_5 (h.2 _ rfl)))))))))
theorem k_Moon_reaper {xs : List Int} {d : Nat} {Q : Option w_V → w_M → Prop} {x1 : Int} {x2 : Int} {σ : w_M} (hp : p_Moon_reaper x1 x2 σ) (hQ : ∀ (x : Int) (σ' : w_M), q_Moon_reaper x1 x2 σ x σ' → Q (some (.inl x)) σ') : w_Call (xs, d + 2) 114 [.inr (.inr (0, 0)), .inl x1, .inl x2] σ Q := bMoon_reaper_0 ⟨CI.ok hp, fun y e => hQ _ _ (c_qr hp e)⟩
noncomputable def p_Moon_harvest (_x1 : Int) (σ : w_M) : Prop := CI σ
noncomputable def q_Moon_harvest (x1 : Int) (σ : w_M) (x : Int) (σ' : w_M) : Prop := c_q (F_harvest (cS σ) x1) (cS σ) σ x σ'
theorem fMoon_harvest_0 : w_fe am_c115 0 1 (.iload 1) := ⟨rfl, rfl⟩
theorem fMoon_harvest_1 : w_fe am_c115 1 2 (.bipush 0) := ⟨rfl, rfl⟩
theorem fMoon_harvest_2 : w_fe am_c115 2 3 (.bipush 3) := ⟨rfl, rfl⟩
theorem fMoon_harvest_3 : w_fe am_c115 3 4 (.invokestatic 107) := ⟨rfl, rfl⟩
theorem fMoon_harvest_4 : w_if am_c115 4 5 .eq 11 := ⟨rfl, rfl⟩
theorem fMoon_harvest_5 : w_fe am_c115 5 6 (.aload 0) := ⟨rfl, rfl⟩
theorem fMoon_harvest_6 : w_fe am_c115 6 7 (.getfield 2) := ⟨rfl, rfl⟩
theorem fMoon_harvest_7 : w_fe am_c115 7 8 (.getfield 214) := ⟨rfl, rfl⟩
theorem fMoon_harvest_8 : w_fe am_c115 8 9 (.iload 1) := ⟨rfl, rfl⟩
theorem fMoon_harvest_9 : w_fe am_c115 9 10 (.iaload) := ⟨rfl, rfl⟩
theorem fMoon_harvest_10 : w_gt am_c115 10 12 := rfl
theorem fMoon_harvest_11 : w_fe am_c115 11 12 (.bipush (-1)) := ⟨rfl, rfl⟩
theorem fMoon_harvest_12 : w_fe am_c115 12 13 (.ireturn) := ⟨rfl, rfl⟩
set_option maxRecDepth 20000 in
theorem bMoon_harvest_0 {xs : List Int} {d : Nat} {Q : Option w_V → w_M → Prop} {x1 : Int} {σ : w_M}
    (h : (¬ (0 ≤ x1 ∧ x1 ≤ 3) → Q (some (.inl (-1))) σ) ∧ ((0 ≤ x1 ∧ x1 ≤ 3) → (0 ≤ x1 ∧ x1 < 4 ∧ Q (some (.inl (σ 22 x1.toNat))) σ))) : w_Call (xs, (d + 1)) 115 [.inr (.inr (0, 0)), .inl x1] σ Q :=
  (w_mk (mid := 115) (by decide) rfl rfl rfl rfl rfl (Nat.le_of_ble_eq_true rfl) ⟨rfl, Or.inl (by decide)⟩ (wi_iload1 fMoon_harvest_0 (wi_bipush fMoon_harvest_1 (wi_bipush fMoon_harvest_2 (wi_call3 fMoon_harvest_3 (Nat.le_of_ble_eq_true rfl) (k_Moon_isWithin (wi_ifb_eq fMoon_harvest_4 (fun c1 => (wi_bipush fMoon_harvest_11 (wi_ret1 fMoon_harvest_12 (h.1 c1)))) (fun c1 => (wi_aload0 fMoon_harvest_5 (wi_getf2 fMoon_harvest_6 (wi_getf214 fMoon_harvest_7 (wi_iload1 fMoon_harvest_8 (wi_iald1004 fMoon_harvest_9 (h.2 c1).1 (h.2 c1).2.1 (wi_goto fMoon_harvest_10 (wi_ret1 fMoon_harvest_12 (h.2 c1).2.2)))))))))))))))
theorem k_Moon_harvest {xs : List Int} {d : Nat} {Q : Option w_V → w_M → Prop} {x1 : Int} {σ : w_M} (hp : p_Moon_harvest x1 σ) (hQ : ∀ (x : Int) (σ' : w_M), q_Moon_harvest x1 σ x σ' → Q (some (.inl x)) σ') : w_Call (xs, d + 1) 115 [.inr (.inr (0, 0)), .inl x1] σ Q := by
  have hC : CI σ := hp
  unfold q_Moon_harvest F_harvest at hQ
  refine bMoon_harvest_0 ⟨fun c => ?_, fun c => ⟨c.1, by omega, ?_⟩⟩
  · rw [if_neg c] at hQ; exact hQ _ _ (c_qr hC rfl)
  · rw [if_pos c] at hQ; exact hQ _ _ (c_qr hC (w_rd (a := 14) (d := 8) (by decide) (show x1.toNat < 4 by omega)))
/-- one number of the night is changed -/
theorem c_set {σ τ : w_M} {P : Prop} {d j : Nat} {v x : Int} {Q : Option w_V → w_M → Prop} (hC : CI σ) (hP : P) (h1 : 1 ≤ d) (h9 : d < 9) (hj : j < w_rl σ 14 d) (hW : n_WF (w_up (w_ab σ 14) d j v)) (ht : τ = w_up σ (14 + d) j v) (hx : x = σ (14 + d) j) : c_q (F_set (cS σ) P d j) (G_set (cS σ) P d j v) σ x τ := by
  rw [F_set_t hP, G_set_t hP]
  refine c_q0 hC (by rw [ht]; exact w_fr.up0 (by omega) (by omega)) ?_ hW ?_ ?_ ?_ ?_ ?_
  · rw [ht]; exact w_ab_up h1 h9 hj
  · show w_up (w_ab σ 14) d j v 0 0 = σ 14 0; rw [w_up_ne (by omega)]; rfl
  · show w_up (w_ab σ 14) d j v 0 4 = σ 14 4; rw [w_up_ne (by omega)]; rfl
  · show w_up (w_ab σ 14) d j v 0 5 = σ 14 5; rw [w_up_ne (by omega)]; rfl
  · rw [ht, w_up_ne (by omega)]; exact hC.2.1
  · rw [hx]; exact w_rd h9 hj
theorem c_no {σ : w_M} {P : Prop} {d j : Nat} {v : Int} (hC : CI σ) (hP : ¬ P) : c_q (F_set (cS σ) P d j) (G_set (cS σ) P d j v) σ (-1) σ := by
  rw [F_set_f hP, G_set_f hP]
  exact c_qr hC rfl
noncomputable def p_Moon_send (_x1 : Int) (_x2 : Int) (σ : w_M) : Prop := CI σ
noncomputable def q_Moon_send (x1 : Int) (x2 : Int) (σ : w_M) (x : Int) (σ' : w_M) : Prop := c_q (F_send (cS σ) x1 x2) (G_send (cS σ) x1 x2) σ x σ'
noncomputable def p_Moon_whet (_x1 : Int) (_x2 : Int) (σ : w_M) : Prop := CI σ
noncomputable def q_Moon_whet (x1 : Int) (x2 : Int) (σ : w_M) (x : Int) (σ' : w_M) : Prop := c_q (F_whet (cS σ) x1 x2) (G_whet (cS σ) x1 x2) σ x σ'
noncomputable def p_Moon_fill (_x1 : Int) (_x2 : Int) (σ : w_M) : Prop := CI σ
noncomputable def q_Moon_fill (x1 : Int) (x2 : Int) (σ : w_M) (x : Int) (σ' : w_M) : Prop := c_q (F_fill (cS σ) x1 x2) (G_fill (cS σ) x1 x2) σ x σ'
noncomputable def p_Moon_own (_x1 : Int) (_x2 : Int) (σ : w_M) : Prop := CI σ
noncomputable def q_Moon_own (x1 : Int) (x2 : Int) (σ : w_M) (x : Int) (σ' : w_M) : Prop := c_q (F_own (cS σ) x1 x2) (G_own (cS σ) x1 x2) σ x σ'
noncomputable def p_Moon_grow (_x1 : Int) (_x2 : Int) (σ : w_M) : Prop := CI σ
noncomputable def q_Moon_grow (x1 : Int) (x2 : Int) (σ : w_M) (x : Int) (σ' : w_M) : Prop := c_q (F_grow (cS σ) x1 x2) (G_grow (cS σ) x1 x2) σ x σ'
theorem fMoon_send_0 : w_fe am_c116 0 1 (.aload 0) := ⟨rfl, rfl⟩
theorem fMoon_send_1 : w_fe am_c116 1 2 (.getfield 2) := ⟨rfl, rfl⟩
theorem fMoon_send_2 : w_fe am_c116 2 3 (.iload 1) := ⟨rfl, rfl⟩
theorem fMoon_send_3 : w_fe am_c116 3 4 (.invokestatic 38) := ⟨rfl, rfl⟩
theorem fMoon_send_4 : w_if am_c116 4 5 .eq 10 := ⟨rfl, rfl⟩
theorem fMoon_send_5 : w_fe am_c116 5 6 (.aload 0) := ⟨rfl, rfl⟩
theorem fMoon_send_6 : w_fe am_c116 6 7 (.getfield 2) := ⟨rfl, rfl⟩
theorem fMoon_send_7 : w_fe am_c116 7 8 (.iload 2) := ⟨rfl, rfl⟩
theorem fMoon_send_8 : w_fe am_c116 8 9 (.invokestatic 33) := ⟨rfl, rfl⟩
theorem fMoon_send_9 : w_if am_c116 9 10 .ne 12 := ⟨rfl, rfl⟩
theorem fMoon_send_10 : w_fe am_c116 10 11 (.bipush (-1)) := ⟨rfl, rfl⟩
theorem fMoon_send_11 : w_fe am_c116 11 12 (.ireturn) := ⟨rfl, rfl⟩
theorem fMoon_send_12 : w_fe am_c116 12 13 (.aload 0) := ⟨rfl, rfl⟩
theorem fMoon_send_13 : w_fe am_c116 13 14 (.getfield 2) := ⟨rfl, rfl⟩
theorem fMoon_send_14 : w_fe am_c116 14 15 (.getfield 212) := ⟨rfl, rfl⟩
theorem fMoon_send_15 : w_fe am_c116 15 16 (.iload 1) := ⟨rfl, rfl⟩
theorem fMoon_send_16 : w_fe am_c116 16 17 (.iaload) := ⟨rfl, rfl⟩
theorem fMoon_send_17 : w_fe am_c116 17 18 (.istore 3) := ⟨rfl, rfl⟩
theorem fMoon_send_18 : w_fe am_c116 18 19 (.aload 0) := ⟨rfl, rfl⟩
theorem fMoon_send_19 : w_fe am_c116 19 20 (.getfield 2) := ⟨rfl, rfl⟩
theorem fMoon_send_20 : w_fe am_c116 20 21 (.getfield 212) := ⟨rfl, rfl⟩
theorem fMoon_send_21 : w_fe am_c116 21 22 (.iload 1) := ⟨rfl, rfl⟩
theorem fMoon_send_22 : w_fe am_c116 22 23 (.iload 2) := ⟨rfl, rfl⟩
theorem fMoon_send_23 : w_fe am_c116 23 24 (.iastore) := ⟨rfl, rfl⟩
theorem fMoon_send_24 : w_fe am_c116 24 25 (.iload 3) := ⟨rfl, rfl⟩
theorem fMoon_send_25 : w_fe am_c116 25 26 (.ireturn) := ⟨rfl, rfl⟩
set_option maxRecDepth 20000 in
theorem bMoon_send_0 {xs : List Int} {d : Nat} {Q : Option w_V → w_M → Prop} {x1 : Int} {x2 : Int} {σ : w_M}
    (h : (¬ (0 ≤ x1 ∧ x1 < σ 14 5) → Q (some (.inl (-1))) σ) ∧ ((0 ≤ x1 ∧ x1 < σ 14 5) → (((0 ≤ x2 ∧ x2 < σ 14 4) → (0 ≤ x1 ∧ x1 < 4 ∧ (∀ (y1 : Int), y1 = (σ 20 x1.toNat) → ∀ (τ2 : w_M), τ2 = w_up σ 20 x1.toNat x2 → Q (some (.inl y1)) τ2))) ∧ (¬ (0 ≤ x2 ∧ x2 < σ 14 4) → Q (some (.inl (-1))) σ)))) : w_Call (xs, (d + 1)) 116 [.inr (.inr (0, 0)), .inl x1, .inl x2] σ Q :=
  (w_mk (mid := 116) (by decide) rfl rfl rfl rfl rfl (Nat.le_of_ble_eq_true rfl) ⟨rfl, Or.inl (by decide)⟩ (wi_aload0 fMoon_send_0 (wi_getf2 fMoon_send_1 (wi_iload1 fMoon_send_2 (wi_call2 fMoon_send_3 (Nat.le_of_ble_eq_true rfl) (k_Field_isReaper (wi_ifb_eq fMoon_send_4 (fun c4 => (wi_bipush fMoon_send_10 (wi_ret1 fMoon_send_11 (h.1 c4)))) (fun c4 => (wi_aload0 fMoon_send_5 (wi_getf2 fMoon_send_6 (wi_iload2 fMoon_send_7 (wi_call2 fMoon_send_8 (Nat.le_of_ble_eq_true rfl) (k_Field_isStrip (wi_ifb_ne fMoon_send_9 (fun c3 => (wi_aload0 fMoon_send_12 (wi_getf2 fMoon_send_13 (wi_getf212 fMoon_send_14 (wi_iload1 fMoon_send_15 (wi_iald1004 fMoon_send_16 ((h.2 c4).1 c3).1 ((h.2 c4).1 c3).2.1 (wi_istore3 fMoon_send_17 trivial (wi_aload0 fMoon_send_18 (wi_getf2 fMoon_send_19 (wi_getf212 fMoon_send_20 (wi_iload1 fMoon_send_21 (wi_iload2 fMoon_send_22 (wi_iast1004 fMoon_send_23 ((h.2 c4).1 c3).1 ((h.2 c4).1 c3).2.1 (wi_iload3 fMoon_send_24 (wi_ret1 fMoon_send_25 ((((h.2 c4).1 c3).2.2 _ rfl) _ rfl)))))))))))))))) (fun c3 => (wi_bipush fMoon_send_10 (wi_ret1 fMoon_send_11 ((h.2 c4).2 c3))))))))))))))))))
theorem fMoon_whet_0 : w_fe am_c118 0 1 (.aload 0) := ⟨rfl, rfl⟩
theorem fMoon_whet_1 : w_fe am_c118 1 2 (.getfield 2) := ⟨rfl, rfl⟩
theorem fMoon_whet_2 : w_fe am_c118 2 3 (.iload 1) := ⟨rfl, rfl⟩
theorem fMoon_whet_3 : w_fe am_c118 3 4 (.invokestatic 38) := ⟨rfl, rfl⟩
theorem fMoon_whet_4 : w_if am_c118 4 5 .eq 10 := ⟨rfl, rfl⟩
theorem fMoon_whet_5 : w_fe am_c118 5 6 (.iload 2) := ⟨rfl, rfl⟩
theorem fMoon_whet_6 : w_fe am_c118 6 7 (.bipush 0) := ⟨rfl, rfl⟩
theorem fMoon_whet_7 : w_fe am_c118 7 8 (.bipush 3) := ⟨rfl, rfl⟩
theorem fMoon_whet_8 : w_fe am_c118 8 9 (.invokestatic 107) := ⟨rfl, rfl⟩
theorem fMoon_whet_9 : w_if am_c118 9 10 .ne 12 := ⟨rfl, rfl⟩
theorem fMoon_whet_10 : w_fe am_c118 10 11 (.bipush (-1)) := ⟨rfl, rfl⟩
theorem fMoon_whet_11 : w_fe am_c118 11 12 (.ireturn) := ⟨rfl, rfl⟩
theorem fMoon_whet_12 : w_fe am_c118 12 13 (.aload 0) := ⟨rfl, rfl⟩
theorem fMoon_whet_13 : w_fe am_c118 13 14 (.getfield 2) := ⟨rfl, rfl⟩
theorem fMoon_whet_14 : w_fe am_c118 14 15 (.getfield 211) := ⟨rfl, rfl⟩
theorem fMoon_whet_15 : w_fe am_c118 15 16 (.iload 1) := ⟨rfl, rfl⟩
theorem fMoon_whet_16 : w_fe am_c118 16 17 (.iaload) := ⟨rfl, rfl⟩
theorem fMoon_whet_17 : w_fe am_c118 17 18 (.istore 3) := ⟨rfl, rfl⟩
theorem fMoon_whet_18 : w_fe am_c118 18 19 (.aload 0) := ⟨rfl, rfl⟩
theorem fMoon_whet_19 : w_fe am_c118 19 20 (.getfield 2) := ⟨rfl, rfl⟩
theorem fMoon_whet_20 : w_fe am_c118 20 21 (.getfield 211) := ⟨rfl, rfl⟩
theorem fMoon_whet_21 : w_fe am_c118 21 22 (.iload 1) := ⟨rfl, rfl⟩
theorem fMoon_whet_22 : w_fe am_c118 22 23 (.iload 2) := ⟨rfl, rfl⟩
theorem fMoon_whet_23 : w_fe am_c118 23 24 (.iastore) := ⟨rfl, rfl⟩
theorem fMoon_whet_24 : w_fe am_c118 24 25 (.iload 3) := ⟨rfl, rfl⟩
theorem fMoon_whet_25 : w_fe am_c118 25 26 (.ireturn) := ⟨rfl, rfl⟩
set_option maxRecDepth 20000 in
theorem bMoon_whet_0 {xs : List Int} {d : Nat} {Q : Option w_V → w_M → Prop} {x1 : Int} {x2 : Int} {σ : w_M}
    (h : (¬ (0 ≤ x1 ∧ x1 < σ 14 5) → Q (some (.inl (-1))) σ) ∧ ((0 ≤ x1 ∧ x1 < σ 14 5) → (((0 ≤ x2 ∧ x2 ≤ 3) → (0 ≤ x1 ∧ x1 < 4 ∧ (∀ (y1 : Int), y1 = (σ 19 x1.toNat) → ∀ (τ2 : w_M), τ2 = w_up σ 19 x1.toNat x2 → Q (some (.inl y1)) τ2))) ∧ (¬ (0 ≤ x2 ∧ x2 ≤ 3) → Q (some (.inl (-1))) σ)))) : w_Call (xs, (d + 1)) 118 [.inr (.inr (0, 0)), .inl x1, .inl x2] σ Q :=
  (w_mk (mid := 118) (by decide) rfl rfl rfl rfl rfl (Nat.le_of_ble_eq_true rfl) ⟨rfl, Or.inl (by decide)⟩ (wi_aload0 fMoon_whet_0 (wi_getf2 fMoon_whet_1 (wi_iload1 fMoon_whet_2 (wi_call2 fMoon_whet_3 (Nat.le_of_ble_eq_true rfl) (k_Field_isReaper (wi_ifb_eq fMoon_whet_4 (fun c4 => (wi_bipush fMoon_whet_10 (wi_ret1 fMoon_whet_11 (h.1 c4)))) (fun c4 => (wi_iload2 fMoon_whet_5 (wi_bipush fMoon_whet_6 (wi_bipush fMoon_whet_7 (wi_call3 fMoon_whet_8 (Nat.le_of_ble_eq_true rfl) (k_Moon_isWithin (wi_ifb_ne fMoon_whet_9 (fun c3 => (wi_aload0 fMoon_whet_12 (wi_getf2 fMoon_whet_13 (wi_getf211 fMoon_whet_14 (wi_iload1 fMoon_whet_15 (wi_iald1004 fMoon_whet_16 ((h.2 c4).1 c3).1 ((h.2 c4).1 c3).2.1 (wi_istore3 fMoon_whet_17 trivial (wi_aload0 fMoon_whet_18 (wi_getf2 fMoon_whet_19 (wi_getf211 fMoon_whet_20 (wi_iload1 fMoon_whet_21 (wi_iload2 fMoon_whet_22 (wi_iast1004 fMoon_whet_23 ((h.2 c4).1 c3).1 ((h.2 c4).1 c3).2.1 (wi_iload3 fMoon_whet_24 (wi_ret1 fMoon_whet_25 ((((h.2 c4).1 c3).2.2 _ rfl) _ rfl)))))))))))))))) (fun c3 => (wi_bipush fMoon_whet_10 (wi_ret1 fMoon_whet_11 ((h.2 c4).2 c3))))))))))))))))))
theorem fMoon_fill_0 : w_fe am_c119 0 1 (.aload 0) := ⟨rfl, rfl⟩
theorem fMoon_fill_1 : w_fe am_c119 1 2 (.getfield 2) := ⟨rfl, rfl⟩
theorem fMoon_fill_2 : w_fe am_c119 2 3 (.iload 1) := ⟨rfl, rfl⟩
theorem fMoon_fill_3 : w_fe am_c119 3 4 (.invokestatic 38) := ⟨rfl, rfl⟩
theorem fMoon_fill_4 : w_if am_c119 4 5 .eq 10 := ⟨rfl, rfl⟩
theorem fMoon_fill_5 : w_fe am_c119 5 6 (.iload 2) := ⟨rfl, rfl⟩
theorem fMoon_fill_6 : w_fe am_c119 6 7 (.bipush 0) := ⟨rfl, rfl⟩
theorem fMoon_fill_7 : w_fe am_c119 7 8 (.bipush 9) := ⟨rfl, rfl⟩
theorem fMoon_fill_8 : w_fe am_c119 8 9 (.invokestatic 107) := ⟨rfl, rfl⟩
theorem fMoon_fill_9 : w_if am_c119 9 10 .ne 12 := ⟨rfl, rfl⟩
theorem fMoon_fill_10 : w_fe am_c119 10 11 (.bipush (-1)) := ⟨rfl, rfl⟩
theorem fMoon_fill_11 : w_fe am_c119 11 12 (.ireturn) := ⟨rfl, rfl⟩
theorem fMoon_fill_12 : w_fe am_c119 12 13 (.aload 0) := ⟨rfl, rfl⟩
theorem fMoon_fill_13 : w_fe am_c119 13 14 (.getfield 2) := ⟨rfl, rfl⟩
theorem fMoon_fill_14 : w_fe am_c119 14 15 (.getfield 210) := ⟨rfl, rfl⟩
theorem fMoon_fill_15 : w_fe am_c119 15 16 (.iload 1) := ⟨rfl, rfl⟩
theorem fMoon_fill_16 : w_fe am_c119 16 17 (.iaload) := ⟨rfl, rfl⟩
theorem fMoon_fill_17 : w_fe am_c119 17 18 (.istore 3) := ⟨rfl, rfl⟩
theorem fMoon_fill_18 : w_fe am_c119 18 19 (.aload 0) := ⟨rfl, rfl⟩
theorem fMoon_fill_19 : w_fe am_c119 19 20 (.getfield 2) := ⟨rfl, rfl⟩
theorem fMoon_fill_20 : w_fe am_c119 20 21 (.getfield 210) := ⟨rfl, rfl⟩
theorem fMoon_fill_21 : w_fe am_c119 21 22 (.iload 1) := ⟨rfl, rfl⟩
theorem fMoon_fill_22 : w_fe am_c119 22 23 (.iload 2) := ⟨rfl, rfl⟩
theorem fMoon_fill_23 : w_fe am_c119 23 24 (.iastore) := ⟨rfl, rfl⟩
theorem fMoon_fill_24 : w_fe am_c119 24 25 (.iload 3) := ⟨rfl, rfl⟩
theorem fMoon_fill_25 : w_fe am_c119 25 26 (.ireturn) := ⟨rfl, rfl⟩
set_option maxRecDepth 20000 in
theorem bMoon_fill_0 {xs : List Int} {d : Nat} {Q : Option w_V → w_M → Prop} {x1 : Int} {x2 : Int} {σ : w_M}
    (h : (¬ (0 ≤ x1 ∧ x1 < σ 14 5) → Q (some (.inl (-1))) σ) ∧ ((0 ≤ x1 ∧ x1 < σ 14 5) → (((0 ≤ x2 ∧ x2 ≤ 9) → (0 ≤ x1 ∧ x1 < 4 ∧ (∀ (y1 : Int), y1 = (σ 18 x1.toNat) → ∀ (τ2 : w_M), τ2 = w_up σ 18 x1.toNat x2 → Q (some (.inl y1)) τ2))) ∧ (¬ (0 ≤ x2 ∧ x2 ≤ 9) → Q (some (.inl (-1))) σ)))) : w_Call (xs, (d + 1)) 119 [.inr (.inr (0, 0)), .inl x1, .inl x2] σ Q :=
  (w_mk (mid := 119) (by decide) rfl rfl rfl rfl rfl (Nat.le_of_ble_eq_true rfl) ⟨rfl, Or.inl (by decide)⟩ (wi_aload0 fMoon_fill_0 (wi_getf2 fMoon_fill_1 (wi_iload1 fMoon_fill_2 (wi_call2 fMoon_fill_3 (Nat.le_of_ble_eq_true rfl) (k_Field_isReaper (wi_ifb_eq fMoon_fill_4 (fun c4 => (wi_bipush fMoon_fill_10 (wi_ret1 fMoon_fill_11 (h.1 c4)))) (fun c4 => (wi_iload2 fMoon_fill_5 (wi_bipush fMoon_fill_6 (wi_bipush fMoon_fill_7 (wi_call3 fMoon_fill_8 (Nat.le_of_ble_eq_true rfl) (k_Moon_isWithin (wi_ifb_ne fMoon_fill_9 (fun c3 => (wi_aload0 fMoon_fill_12 (wi_getf2 fMoon_fill_13 (wi_getf210 fMoon_fill_14 (wi_iload1 fMoon_fill_15 (wi_iald1004 fMoon_fill_16 ((h.2 c4).1 c3).1 ((h.2 c4).1 c3).2.1 (wi_istore3 fMoon_fill_17 trivial (wi_aload0 fMoon_fill_18 (wi_getf2 fMoon_fill_19 (wi_getf210 fMoon_fill_20 (wi_iload1 fMoon_fill_21 (wi_iload2 fMoon_fill_22 (wi_iast1004 fMoon_fill_23 ((h.2 c4).1 c3).1 ((h.2 c4).1 c3).2.1 (wi_iload3 fMoon_fill_24 (wi_ret1 fMoon_fill_25 ((((h.2 c4).1 c3).2.2 _ rfl) _ rfl)))))))))))))))) (fun c3 => (wi_bipush fMoon_fill_10 (wi_ret1 fMoon_fill_11 ((h.2 c4).2 c3))))))))))))))))))
theorem fMoon_own_0 : w_fe am_c122 0 1 (.aload 0) := ⟨rfl, rfl⟩
theorem fMoon_own_1 : w_fe am_c122 1 2 (.getfield 2) := ⟨rfl, rfl⟩
theorem fMoon_own_2 : w_fe am_c122 2 3 (.iload 1) := ⟨rfl, rfl⟩
theorem fMoon_own_3 : w_fe am_c122 3 4 (.invokestatic 33) := ⟨rfl, rfl⟩
theorem fMoon_own_4 : w_if am_c122 4 5 .eq 10 := ⟨rfl, rfl⟩
theorem fMoon_own_5 : w_fe am_c122 5 6 (.iload 2) := ⟨rfl, rfl⟩
theorem fMoon_own_6 : w_fe am_c122 6 7 (.bipush 0) := ⟨rfl, rfl⟩
theorem fMoon_own_7 : w_fe am_c122 7 8 (.bipush 3) := ⟨rfl, rfl⟩
theorem fMoon_own_8 : w_fe am_c122 8 9 (.invokestatic 107) := ⟨rfl, rfl⟩
theorem fMoon_own_9 : w_if am_c122 9 10 .ne 12 := ⟨rfl, rfl⟩
theorem fMoon_own_10 : w_fe am_c122 10 11 (.bipush (-1)) := ⟨rfl, rfl⟩
theorem fMoon_own_11 : w_fe am_c122 11 12 (.ireturn) := ⟨rfl, rfl⟩
theorem fMoon_own_12 : w_fe am_c122 12 13 (.aload 0) := ⟨rfl, rfl⟩
theorem fMoon_own_13 : w_fe am_c122 13 14 (.getfield 2) := ⟨rfl, rfl⟩
theorem fMoon_own_14 : w_fe am_c122 14 15 (.getfield 208) := ⟨rfl, rfl⟩
theorem fMoon_own_15 : w_fe am_c122 15 16 (.iload 1) := ⟨rfl, rfl⟩
theorem fMoon_own_16 : w_fe am_c122 16 17 (.iaload) := ⟨rfl, rfl⟩
theorem fMoon_own_17 : w_fe am_c122 17 18 (.istore 3) := ⟨rfl, rfl⟩
theorem fMoon_own_18 : w_fe am_c122 18 19 (.aload 0) := ⟨rfl, rfl⟩
theorem fMoon_own_19 : w_fe am_c122 19 20 (.getfield 2) := ⟨rfl, rfl⟩
theorem fMoon_own_20 : w_fe am_c122 20 21 (.getfield 208) := ⟨rfl, rfl⟩
theorem fMoon_own_21 : w_fe am_c122 21 22 (.iload 1) := ⟨rfl, rfl⟩
theorem fMoon_own_22 : w_fe am_c122 22 23 (.iload 2) := ⟨rfl, rfl⟩
theorem fMoon_own_23 : w_fe am_c122 23 24 (.iastore) := ⟨rfl, rfl⟩
theorem fMoon_own_24 : w_fe am_c122 24 25 (.iload 3) := ⟨rfl, rfl⟩
theorem fMoon_own_25 : w_fe am_c122 25 26 (.ireturn) := ⟨rfl, rfl⟩
set_option maxRecDepth 20000 in
theorem bMoon_own_0 {xs : List Int} {d : Nat} {Q : Option w_V → w_M → Prop} {x1 : Int} {x2 : Int} {σ : w_M}
    (h : (¬ (0 ≤ x1 ∧ x1 < σ 14 4) → Q (some (.inl (-1))) σ) ∧ ((0 ≤ x1 ∧ x1 < σ 14 4) → (((0 ≤ x2 ∧ x2 ≤ 3) → (0 ≤ x1 ∧ x1 < 7 ∧ (∀ (y1 : Int), y1 = (σ 16 x1.toNat) → ∀ (τ2 : w_M), τ2 = w_up σ 16 x1.toNat x2 → Q (some (.inl y1)) τ2))) ∧ (¬ (0 ≤ x2 ∧ x2 ≤ 3) → Q (some (.inl (-1))) σ)))) : w_Call (xs, (d + 1)) 122 [.inr (.inr (0, 0)), .inl x1, .inl x2] σ Q :=
  (w_mk (mid := 122) (by decide) rfl rfl rfl rfl rfl (Nat.le_of_ble_eq_true rfl) ⟨rfl, Or.inl (by decide)⟩ (wi_aload0 fMoon_own_0 (wi_getf2 fMoon_own_1 (wi_iload1 fMoon_own_2 (wi_call2 fMoon_own_3 (Nat.le_of_ble_eq_true rfl) (k_Field_isStrip (wi_ifb_eq fMoon_own_4 (fun c4 => (wi_bipush fMoon_own_10 (wi_ret1 fMoon_own_11 (h.1 c4)))) (fun c4 => (wi_iload2 fMoon_own_5 (wi_bipush fMoon_own_6 (wi_bipush fMoon_own_7 (wi_call3 fMoon_own_8 (Nat.le_of_ble_eq_true rfl) (k_Moon_isWithin (wi_ifb_ne fMoon_own_9 (fun c3 => (wi_aload0 fMoon_own_12 (wi_getf2 fMoon_own_13 (wi_getf208 fMoon_own_14 (wi_iload1 fMoon_own_15 (wi_iald1007 fMoon_own_16 ((h.2 c4).1 c3).1 ((h.2 c4).1 c3).2.1 (wi_istore3 fMoon_own_17 trivial (wi_aload0 fMoon_own_18 (wi_getf2 fMoon_own_19 (wi_getf208 fMoon_own_20 (wi_iload1 fMoon_own_21 (wi_iload2 fMoon_own_22 (wi_iast1007 fMoon_own_23 ((h.2 c4).1 c3).1 ((h.2 c4).1 c3).2.1 (wi_iload3 fMoon_own_24 (wi_ret1 fMoon_own_25 ((((h.2 c4).1 c3).2.2 _ rfl) _ rfl)))))))))))))))) (fun c3 => (wi_bipush fMoon_own_10 (wi_ret1 fMoon_own_11 ((h.2 c4).2 c3))))))))))))))))))
theorem fMoon_grow_0 : w_fe am_c123 0 1 (.aload 0) := ⟨rfl, rfl⟩
theorem fMoon_grow_1 : w_fe am_c123 1 2 (.getfield 2) := ⟨rfl, rfl⟩
theorem fMoon_grow_2 : w_fe am_c123 2 3 (.iload 1) := ⟨rfl, rfl⟩
theorem fMoon_grow_3 : w_fe am_c123 3 4 (.invokestatic 33) := ⟨rfl, rfl⟩
theorem fMoon_grow_4 : w_if am_c123 4 5 .eq 10 := ⟨rfl, rfl⟩
theorem fMoon_grow_5 : w_fe am_c123 5 6 (.iload 2) := ⟨rfl, rfl⟩
theorem fMoon_grow_6 : w_fe am_c123 6 7 (.bipush 0) := ⟨rfl, rfl⟩
theorem fMoon_grow_7 : w_fe am_c123 7 8 (.bipush 40) := ⟨rfl, rfl⟩
theorem fMoon_grow_8 : w_fe am_c123 8 9 (.invokestatic 107) := ⟨rfl, rfl⟩
theorem fMoon_grow_9 : w_if am_c123 9 10 .ne 12 := ⟨rfl, rfl⟩
theorem fMoon_grow_10 : w_fe am_c123 10 11 (.bipush (-1)) := ⟨rfl, rfl⟩
theorem fMoon_grow_11 : w_fe am_c123 11 12 (.ireturn) := ⟨rfl, rfl⟩
theorem fMoon_grow_12 : w_fe am_c123 12 13 (.aload 0) := ⟨rfl, rfl⟩
theorem fMoon_grow_13 : w_fe am_c123 13 14 (.getfield 2) := ⟨rfl, rfl⟩
theorem fMoon_grow_14 : w_fe am_c123 14 15 (.getfield 207) := ⟨rfl, rfl⟩
theorem fMoon_grow_15 : w_fe am_c123 15 16 (.iload 1) := ⟨rfl, rfl⟩
theorem fMoon_grow_16 : w_fe am_c123 16 17 (.iaload) := ⟨rfl, rfl⟩
theorem fMoon_grow_17 : w_fe am_c123 17 18 (.istore 3) := ⟨rfl, rfl⟩
theorem fMoon_grow_18 : w_fe am_c123 18 19 (.aload 0) := ⟨rfl, rfl⟩
theorem fMoon_grow_19 : w_fe am_c123 19 20 (.getfield 2) := ⟨rfl, rfl⟩
theorem fMoon_grow_20 : w_fe am_c123 20 21 (.getfield 207) := ⟨rfl, rfl⟩
theorem fMoon_grow_21 : w_fe am_c123 21 22 (.iload 1) := ⟨rfl, rfl⟩
theorem fMoon_grow_22 : w_fe am_c123 22 23 (.iload 2) := ⟨rfl, rfl⟩
theorem fMoon_grow_23 : w_fe am_c123 23 24 (.iastore) := ⟨rfl, rfl⟩
theorem fMoon_grow_24 : w_fe am_c123 24 25 (.iload 3) := ⟨rfl, rfl⟩
theorem fMoon_grow_25 : w_fe am_c123 25 26 (.ireturn) := ⟨rfl, rfl⟩
set_option maxRecDepth 20000 in
theorem bMoon_grow_0 {xs : List Int} {d : Nat} {Q : Option w_V → w_M → Prop} {x1 : Int} {x2 : Int} {σ : w_M}
    (h : (¬ (0 ≤ x1 ∧ x1 < σ 14 4) → Q (some (.inl (-1))) σ) ∧ ((0 ≤ x1 ∧ x1 < σ 14 4) → (((0 ≤ x2 ∧ x2 ≤ 40) → (0 ≤ x1 ∧ x1 < 7 ∧ (∀ (y1 : Int), y1 = (σ 15 x1.toNat) → ∀ (τ2 : w_M), τ2 = w_up σ 15 x1.toNat x2 → Q (some (.inl y1)) τ2))) ∧ (¬ (0 ≤ x2 ∧ x2 ≤ 40) → Q (some (.inl (-1))) σ)))) : w_Call (xs, (d + 1)) 123 [.inr (.inr (0, 0)), .inl x1, .inl x2] σ Q :=
  (w_mk (mid := 123) (by decide) rfl rfl rfl rfl rfl (Nat.le_of_ble_eq_true rfl) ⟨rfl, Or.inl (by decide)⟩ (wi_aload0 fMoon_grow_0 (wi_getf2 fMoon_grow_1 (wi_iload1 fMoon_grow_2 (wi_call2 fMoon_grow_3 (Nat.le_of_ble_eq_true rfl) (k_Field_isStrip (wi_ifb_eq fMoon_grow_4 (fun c4 => (wi_bipush fMoon_grow_10 (wi_ret1 fMoon_grow_11 (h.1 c4)))) (fun c4 => (wi_iload2 fMoon_grow_5 (wi_bipush fMoon_grow_6 (wi_bipush fMoon_grow_7 (wi_call3 fMoon_grow_8 (Nat.le_of_ble_eq_true rfl) (k_Moon_isWithin (wi_ifb_ne fMoon_grow_9 (fun c3 => (wi_aload0 fMoon_grow_12 (wi_getf2 fMoon_grow_13 (wi_getf207 fMoon_grow_14 (wi_iload1 fMoon_grow_15 (wi_iald1007 fMoon_grow_16 ((h.2 c4).1 c3).1 ((h.2 c4).1 c3).2.1 (wi_istore3 fMoon_grow_17 trivial (wi_aload0 fMoon_grow_18 (wi_getf2 fMoon_grow_19 (wi_getf207 fMoon_grow_20 (wi_iload1 fMoon_grow_21 (wi_iload2 fMoon_grow_22 (wi_iast1007 fMoon_grow_23 ((h.2 c4).1 c3).1 ((h.2 c4).1 c3).2.1 (wi_iload3 fMoon_grow_24 (wi_ret1 fMoon_grow_25 ((((h.2 c4).1 c3).2.2 _ rfl) _ rfl)))))))))))))))) (fun c3 => (wi_bipush fMoon_grow_10 (wi_ret1 fMoon_grow_11 ((h.2 c4).2 c3))))))))))))))))))
theorem k_Moon_send {xs : List Int} {d : Nat} {Q : Option w_V → w_M → Prop} {x1 : Int} {x2 : Int} {σ : w_M} (hp : p_Moon_send x1 x2 σ) (hQ : ∀ (x : Int) (σ' : w_M), q_Moon_send x1 x2 σ x σ' → Q (some (.inl x)) σ') : w_Call (xs, d + 1) 116 [.inr (.inr (0, 0)), .inl x1, .inl x2] σ Q := by
  have hC : CI σ := hp
  have hn := n_ok.n hC.ok
  have h04 : w_ab σ 14 0 4 = σ 14 4 := rfl
  unfold q_Moon_send F_send G_send at hQ
  refine bMoon_send_0 ⟨fun c => hQ _ _ (c_no hC (fun q => c q.1)), fun c => ⟨fun c2 => ⟨c.1, by omega, fun y e τ t => hQ _ _ ?_⟩, fun c2 => hQ _ _ (c_no hC (fun q => c2 q.2))⟩⟩
  refine c_set (Q := Q) hC ⟨c, c2⟩ (by decide) (by decide) (by rw [w_rl37 (by decide) (by decide)]; omega) ?_ t e
  refine n_WF_up hC.ok ?_ ?_ ?_ ?_ ?_ ?_ ?_ ?_ <;> (intros; omega)
theorem k_Moon_whet {xs : List Int} {d : Nat} {Q : Option w_V → w_M → Prop} {x1 : Int} {x2 : Int} {σ : w_M} (hp : p_Moon_whet x1 x2 σ) (hQ : ∀ (x : Int) (σ' : w_M), q_Moon_whet x1 x2 σ x σ' → Q (some (.inl x)) σ') : w_Call (xs, d + 1) 118 [.inr (.inr (0, 0)), .inl x1, .inl x2] σ Q := by
  have hC : CI σ := hp
  have hn := n_ok.n hC.ok
  unfold q_Moon_whet F_whet G_whet at hQ
  refine bMoon_whet_0 ⟨fun c => hQ _ _ (c_no hC (fun q => c q.1)), fun c => ⟨fun c2 => ⟨c.1, by omega, fun y e τ t => hQ _ _ ?_⟩, fun c2 => hQ _ _ (c_no hC (fun q => c2 q.2))⟩⟩
  refine c_set (Q := Q) hC ⟨c, c2⟩ (by decide) (by decide) (by rw [w_rl37 (by decide) (by decide)]; omega) ?_ t e
  refine n_WF_up hC.ok ?_ ?_ ?_ ?_ ?_ ?_ ?_ ?_ <;> (intros; omega)
theorem k_Moon_fill {xs : List Int} {d : Nat} {Q : Option w_V → w_M → Prop} {x1 : Int} {x2 : Int} {σ : w_M} (hp : p_Moon_fill x1 x2 σ) (hQ : ∀ (x : Int) (σ' : w_M), q_Moon_fill x1 x2 σ x σ' → Q (some (.inl x)) σ') : w_Call (xs, d + 1) 119 [.inr (.inr (0, 0)), .inl x1, .inl x2] σ Q := by
  have hC : CI σ := hp
  have hn := n_ok.n hC.ok
  unfold q_Moon_fill F_fill G_fill at hQ
  refine bMoon_fill_0 ⟨fun c => hQ _ _ (c_no hC (fun q => c q.1)), fun c => ⟨fun c2 => ⟨c.1, by omega, fun y e τ t => hQ _ _ ?_⟩, fun c2 => hQ _ _ (c_no hC (fun q => c2 q.2))⟩⟩
  refine c_set (Q := Q) hC ⟨c, c2⟩ (by decide) (by decide) (by rw [w_rl37 (by decide) (by decide)]; omega) ?_ t e
  refine n_WF_up hC.ok ?_ ?_ ?_ ?_ ?_ ?_ ?_ ?_ <;> (intros; omega)
theorem k_Moon_own {xs : List Int} {d : Nat} {Q : Option w_V → w_M → Prop} {x1 : Int} {x2 : Int} {σ : w_M} (hp : p_Moon_own x1 x2 σ) (hQ : ∀ (x : Int) (σ' : w_M), q_Moon_own x1 x2 σ x σ' → Q (some (.inl x)) σ') : w_Call (xs, d + 1) 122 [.inr (.inr (0, 0)), .inl x1, .inl x2] σ Q := by
  have hC : CI σ := hp
  have hn := n_ok.s hC.ok
  unfold q_Moon_own F_own G_own at hQ
  refine bMoon_own_0 ⟨fun c => hQ _ _ (c_no hC (fun q => c q.1)), fun c => ⟨fun c2 => ⟨c.1, by omega, fun y e τ t => hQ _ _ ?_⟩, fun c2 => hQ _ _ (c_no hC (fun q => c2 q.2))⟩⟩
  refine c_set (Q := Q) hC ⟨c, c2⟩ (by decide) (by decide) (by rw [w_rl12 (by decide) (by decide)]; omega) ?_ t e
  refine n_WF_up hC.ok ?_ ?_ ?_ ?_ ?_ ?_ ?_ ?_ <;> (intros; omega)
theorem k_Moon_grow {xs : List Int} {d : Nat} {Q : Option w_V → w_M → Prop} {x1 : Int} {x2 : Int} {σ : w_M} (hp : p_Moon_grow x1 x2 σ) (hQ : ∀ (x : Int) (σ' : w_M), q_Moon_grow x1 x2 σ x σ' → Q (some (.inl x)) σ') : w_Call (xs, d + 1) 123 [.inr (.inr (0, 0)), .inl x1, .inl x2] σ Q := by
  have hC : CI σ := hp
  have hn := n_ok.s hC.ok
  unfold q_Moon_grow F_grow G_grow at hQ
  refine bMoon_grow_0 ⟨fun c => hQ _ _ (c_no hC (fun q => c q.1)), fun c => ⟨fun c2 => ⟨c.1, by omega, fun y e τ t => hQ _ _ ?_⟩, fun c2 => hQ _ _ (c_no hC (fun q => c2 q.2))⟩⟩
  refine c_set (Q := Q) hC ⟨c, c2⟩ (by decide) (by decide) (by rw [w_rl12 (by decide) (by decide)]; omega) ?_ t e
  refine n_WF_up hC.ok ?_ ?_ ?_ ?_ ?_ ?_ ?_ ?_ <;> (intros; omega)
