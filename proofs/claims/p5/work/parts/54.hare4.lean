/-! The hare, as the class counts -/
theorem r_bes_congr {s : Nat} {f g : Nat → Int} {i : Nat} (hi : i < s) (h : ∀ j, j < s → f j = g j) : r_bes s f i = r_bes s g i := by
  unfold r_bes
  rw [h i hi]
  congr 1
  · congr 1
    split
    · exact h _ (by omega)
    · rfl
  · split
    · exact h _ (by omega)
    · rfl
theorem r_cs {B : w_M} {s n i : Nat} : r_c B s n i = r_if B n i (if n = 0 then 1 else r_bes s (r_c B s (n - 1)) i) := by
  cases n with
  | zero => rfl
  | succ n => rw [if_neg (by omega)]; rfl
theorem r_gs {B : w_M} {s n i : Nat} (hn : n ≤ 6) : r_g B s (6 - n) i = r_if B n i (if n = 6 then 1 else r_bes s (r_g B s (6 - (n + 1))) i) := by
  by_cases h : n = 6
  · subst h; rfl
  · rw [if_neg h]
    obtain ⟨m, hm⟩ : ∃ m, 6 - n = m + 1 := ⟨5 - n, by omega⟩
    rw [hm, show 6 - (n + 1) = m by omega]
    show r_if B (6 - (m + 1)) i _ = _
    rw [show 6 - (m + 1) = n by omega]
theorem r_if_t {B : w_M} {n i : Nat} {v : Int} (h : se_al B n i) : r_if B n i v = v := by unfold r_if; rw [if_pos h]
theorem r_if_f {B : w_M} {n i : Nat} {v : Int} (h : ¬ se_al B n i) : r_if B n i v = 0 := by unfold r_if; rw [if_neg h]
theorem p3_le {n : Nat} (h : n ≤ 6) : (3 : Int) ^ n ≤ 729 := by
  have : ∀ n, n < 7 → (3 : Int) ^ n ≤ 729 := by decide
  exact this n (by omega)
theorem r_c_le6 {B : w_M} {s n i : Nat} (hn : n ≤ 6) (hi : i < s) : 0 ≤ r_c B s n i ∧ r_c B s n i ≤ 729 := by
  have := r_c_le (B := B) n i hi
  have := p3_le hn
  omega
theorem r_g_le6 {B : w_M} {s n i : Nat} (hn : n ≤ 6) (hi : i < s) : 0 ≤ r_g B s n i ∧ r_g B s n i ≤ 729 := by
  have := r_g_le (B := B) n i hi
  have := p3_le hn
  omega
noncomputable def p_Hare_countRuns (b : Nat) (x : Int) (σ : w_M) : Prop := (0 ≤ x ∧ x ≤ 7) ∧ (0 ≤ σ b 0 ∧ σ b 0 ≤ 8) ∧ b + 4 ≤ 63
noncomputable def q_Hare_countRuns (b : Nat) (x : Int) (σ σ' : w_M) : Prop := σ' 63 0 = x ∧ (∀ n, n ≤ 6 → ∀ i, i < x.toNat → σ' (65 + n) i = r_c (s_ab σ b) x.toNat n i ∧ σ' (73 + n) i = r_g (s_ab σ b) x.toNat (6 - n) i) ∧ w_fr σ σ' 63 80
noncomputable def hc_1 (σ : w_M) (B : w_M) (x : Int) (τ : w_M) (n : Nat) : Prop := w_fr σ τ 63 80 ∧ τ 63 0 = x ∧ ∀ m, m < n → ∀ i, i < x.toNat → τ (65 + m) i = r_c B x.toNat m i
noncomputable def hc_2 (σ : w_M) (B : w_M) (x : Int) (τ : w_M) (k : Nat) : Prop := hc_1 σ B x τ 7 ∧ ∀ m, m ≤ 6 → 7 ≤ m + k → ∀ i, i < x.toNat → τ (73 + m) i = r_g B x.toNat (6 - m) i
theorem fHare_countRuns_0 : w_fe am_c89 0 1 (.aload 0) := ⟨rfl, rfl⟩
theorem fHare_countRuns_1 : w_fe am_c89 1 2 (.iload 2) := ⟨rfl, rfl⟩
theorem fHare_countRuns_2 : w_fe am_c89 2 3 (.bipush 7) := ⟨rfl, rfl⟩
theorem fHare_countRuns_3 : w_fe am_c89 3 4 (.invokestatic 1) := ⟨rfl, rfl⟩
theorem fHare_countRuns_4 : w_fe am_c89 4 5 (.putfield 700) := ⟨rfl, rfl⟩
theorem fHare_countRuns_5 : w_fe am_c89 5 6 (.bipush 0) := ⟨rfl, rfl⟩
theorem fHare_countRuns_6 : w_fe am_c89 6 7 (.istore 3) := ⟨rfl, rfl⟩
theorem fHare_countRuns_7 : w_fe am_c89 7 8 (.iload 3) := ⟨rfl, rfl⟩
theorem fHare_countRuns_8 : w_fe am_c89 8 9 (.bipush 6) := ⟨rfl, rfl⟩
theorem fHare_countRuns_9 : w_ic am_c89 9 10 .gt 46 := ⟨rfl, rfl⟩
theorem fHare_countRuns_10 : w_fe am_c89 10 11 (.bipush 0) := ⟨rfl, rfl⟩
theorem fHare_countRuns_11 : w_fe am_c89 11 12 (.istore 4) := ⟨rfl, rfl⟩
theorem fHare_countRuns_12 : w_fe am_c89 12 13 (.iload 4) := ⟨rfl, rfl⟩
theorem fHare_countRuns_13 : w_fe am_c89 13 14 (.aload 0) := ⟨rfl, rfl⟩
theorem fHare_countRuns_14 : w_fe am_c89 14 15 (.getfield 700) := ⟨rfl, rfl⟩
theorem fHare_countRuns_15 : w_ic am_c89 15 16 .ge 44 := ⟨rfl, rfl⟩
theorem fHare_countRuns_16 : w_fe am_c89 16 17 (.aload 0) := ⟨rfl, rfl⟩
theorem fHare_countRuns_17 : w_fe am_c89 17 18 (.getfield 701) := ⟨rfl, rfl⟩
theorem fHare_countRuns_18 : w_fe am_c89 18 19 (.iload 3) := ⟨rfl, rfl⟩
theorem fHare_countRuns_19 : w_fe am_c89 19 20 (.aaload) := ⟨rfl, rfl⟩
theorem fHare_countRuns_20 : w_fe am_c89 20 21 (.iload 4) := ⟨rfl, rfl⟩
theorem fHare_countRuns_21 : w_fe am_c89 21 22 (.aload 1) := ⟨rfl, rfl⟩
theorem fHare_countRuns_22 : w_fe am_c89 22 23 (.iload 3) := ⟨rfl, rfl⟩
theorem fHare_countRuns_23 : w_fe am_c89 23 24 (.iload 4) := ⟨rfl, rfl⟩
theorem fHare_countRuns_24 : w_fe am_c89 24 25 (.invokestatic 57) := ⟨rfl, rfl⟩
theorem fHare_countRuns_25 : w_if am_c89 25 26 .ne 28 := ⟨rfl, rfl⟩
theorem fHare_countRuns_26 : w_fe am_c89 26 27 (.bipush 0) := ⟨rfl, rfl⟩
theorem fHare_countRuns_27 : w_gt am_c89 27 41 := rfl
theorem fHare_countRuns_28 : w_fe am_c89 28 29 (.iload 3) := ⟨rfl, rfl⟩
theorem fHare_countRuns_29 : w_if am_c89 29 30 .ne 32 := ⟨rfl, rfl⟩
theorem fHare_countRuns_30 : w_fe am_c89 30 31 (.bipush 1) := ⟨rfl, rfl⟩
theorem fHare_countRuns_31 : w_gt am_c89 31 41 := rfl
theorem fHare_countRuns_32 : w_fe am_c89 32 33 (.aload 0) := ⟨rfl, rfl⟩
theorem fHare_countRuns_33 : w_fe am_c89 33 34 (.aload 0) := ⟨rfl, rfl⟩
theorem fHare_countRuns_34 : w_fe am_c89 34 35 (.getfield 701) := ⟨rfl, rfl⟩
theorem fHare_countRuns_35 : w_fe am_c89 35 36 (.iload 3) := ⟨rfl, rfl⟩
theorem fHare_countRuns_36 : w_fe am_c89 36 37 (.bipush 1) := ⟨rfl, rfl⟩
theorem fHare_countRuns_37 : w_fe am_c89 37 38 (.isub) := ⟨rfl, rfl⟩
theorem fHare_countRuns_38 : w_fe am_c89 38 39 (.aaload) := ⟨rfl, rfl⟩
theorem fHare_countRuns_39 : w_fe am_c89 39 40 (.iload 4) := ⟨rfl, rfl⟩
theorem fHare_countRuns_40 : w_fe am_c89 40 41 (.invokestatic 90) := ⟨rfl, rfl⟩
theorem fHare_countRuns_41 : w_fe am_c89 41 42 (.iastore) := ⟨rfl, rfl⟩
theorem fHare_countRuns_42 : w_fe am_c89 42 43 (.iinc 4 1) := ⟨rfl, rfl⟩
theorem fHare_countRuns_43 : w_gt am_c89 43 12 := rfl
theorem fHare_countRuns_44 : w_fe am_c89 44 45 (.iinc 3 1) := ⟨rfl, rfl⟩
theorem fHare_countRuns_45 : w_gt am_c89 45 7 := rfl
theorem fHare_countRuns_46 : w_fe am_c89 46 47 (.bipush 6) := ⟨rfl, rfl⟩
theorem fHare_countRuns_47 : w_fe am_c89 47 48 (.istore 3) := ⟨rfl, rfl⟩
theorem fHare_countRuns_48 : w_fe am_c89 48 49 (.iload 3) := ⟨rfl, rfl⟩
theorem fHare_countRuns_49 : w_if am_c89 49 50 .lt 87 := ⟨rfl, rfl⟩
theorem fHare_countRuns_50 : w_fe am_c89 50 51 (.bipush 0) := ⟨rfl, rfl⟩
theorem fHare_countRuns_51 : w_fe am_c89 51 52 (.istore 4) := ⟨rfl, rfl⟩
theorem fHare_countRuns_52 : w_fe am_c89 52 53 (.iload 4) := ⟨rfl, rfl⟩
theorem fHare_countRuns_53 : w_fe am_c89 53 54 (.aload 0) := ⟨rfl, rfl⟩
theorem fHare_countRuns_54 : w_fe am_c89 54 55 (.getfield 700) := ⟨rfl, rfl⟩
theorem fHare_countRuns_55 : w_ic am_c89 55 56 .ge 85 := ⟨rfl, rfl⟩
theorem fHare_countRuns_56 : w_fe am_c89 56 57 (.aload 0) := ⟨rfl, rfl⟩
theorem fHare_countRuns_57 : w_fe am_c89 57 58 (.getfield 702) := ⟨rfl, rfl⟩
theorem fHare_countRuns_58 : w_fe am_c89 58 59 (.iload 3) := ⟨rfl, rfl⟩
theorem fHare_countRuns_59 : w_fe am_c89 59 60 (.aaload) := ⟨rfl, rfl⟩
theorem fHare_countRuns_60 : w_fe am_c89 60 61 (.iload 4) := ⟨rfl, rfl⟩
theorem fHare_countRuns_61 : w_fe am_c89 61 62 (.aload 1) := ⟨rfl, rfl⟩
theorem fHare_countRuns_62 : w_fe am_c89 62 63 (.iload 3) := ⟨rfl, rfl⟩
theorem fHare_countRuns_63 : w_fe am_c89 63 64 (.iload 4) := ⟨rfl, rfl⟩
theorem fHare_countRuns_64 : w_fe am_c89 64 65 (.invokestatic 57) := ⟨rfl, rfl⟩
theorem fHare_countRuns_65 : w_if am_c89 65 66 .ne 68 := ⟨rfl, rfl⟩
theorem fHare_countRuns_66 : w_fe am_c89 66 67 (.bipush 0) := ⟨rfl, rfl⟩
theorem fHare_countRuns_67 : w_gt am_c89 67 82 := rfl
theorem fHare_countRuns_68 : w_fe am_c89 68 69 (.iload 3) := ⟨rfl, rfl⟩
theorem fHare_countRuns_69 : w_fe am_c89 69 70 (.bipush 6) := ⟨rfl, rfl⟩
theorem fHare_countRuns_70 : w_ic am_c89 70 71 .ne 73 := ⟨rfl, rfl⟩
theorem fHare_countRuns_71 : w_fe am_c89 71 72 (.bipush 1) := ⟨rfl, rfl⟩
theorem fHare_countRuns_72 : w_gt am_c89 72 82 := rfl
theorem fHare_countRuns_73 : w_fe am_c89 73 74 (.aload 0) := ⟨rfl, rfl⟩
theorem fHare_countRuns_74 : w_fe am_c89 74 75 (.aload 0) := ⟨rfl, rfl⟩
theorem fHare_countRuns_75 : w_fe am_c89 75 76 (.getfield 702) := ⟨rfl, rfl⟩
theorem fHare_countRuns_76 : w_fe am_c89 76 77 (.iload 3) := ⟨rfl, rfl⟩
theorem fHare_countRuns_77 : w_fe am_c89 77 78 (.bipush 1) := ⟨rfl, rfl⟩
theorem fHare_countRuns_78 : w_fe am_c89 78 79 (.iadd) := ⟨rfl, rfl⟩
theorem fHare_countRuns_79 : w_fe am_c89 79 80 (.aaload) := ⟨rfl, rfl⟩
theorem fHare_countRuns_80 : w_fe am_c89 80 81 (.iload 4) := ⟨rfl, rfl⟩
theorem fHare_countRuns_81 : w_fe am_c89 81 82 (.invokestatic 90) := ⟨rfl, rfl⟩
theorem fHare_countRuns_82 : w_fe am_c89 82 83 (.iastore) := ⟨rfl, rfl⟩
theorem fHare_countRuns_83 : w_fe am_c89 83 84 (.iinc 4 1) := ⟨rfl, rfl⟩
theorem fHare_countRuns_84 : w_gt am_c89 84 52 := rfl
theorem fHare_countRuns_85 : w_fe am_c89 85 86 (.iinc 3 (-1)) := ⟨rfl, rfl⟩
theorem fHare_countRuns_86 : w_gt am_c89 86 48 := rfl
theorem fHare_countRuns_87 : w_fe am_c89 87 88 (.return_) := ⟨rfl, rfl⟩
noncomputable def LHare_countRuns_7 (xs : List Int) (d : Nat) (Q : Option w_V → w_M → Prop) (r1 : Nat) (v3 : Int) (σ : w_M) : Prop := ∀ l2, w_nl l2 → ∀ l4, w_nl l4 → w_Ex (xs, d) 0 am_c89 Q 7 [some (.inr (.inr (7, 63))), some (.inr (.inr (4, r1))), l2, some (.inl v3), l4] [] σ
noncomputable def LHare_countRuns_48 (xs : List Int) (d : Nat) (Q : Option w_V → w_M → Prop) (r1 : Nat) (v3 : Int) (σ : w_M) : Prop := ∀ l2, w_nl l2 → ∀ l4, w_nl l4 → w_Ex (xs, d) 0 am_c89 Q 48 [some (.inr (.inr (7, 63))), some (.inr (.inr (4, r1))), l2, some (.inl v3), l4] [] σ
noncomputable def LHare_countRuns_12 (xs : List Int) (d : Nat) (Q : Option w_V → w_M → Prop) (r1 : Nat) (v3 : Int) (v4 : Int) (σ : w_M) : Prop := ∀ l2, w_nl l2 → w_Ex (xs, d) 0 am_c89 Q 12 [some (.inr (.inr (7, 63))), some (.inr (.inr (4, r1))), l2, some (.inl v3), some (.inl v4)] [] σ
noncomputable def LHare_countRuns_52 (xs : List Int) (d : Nat) (Q : Option w_V → w_M → Prop) (r1 : Nat) (v3 : Int) (v4 : Int) (σ : w_M) : Prop := ∀ l2, w_nl l2 → w_Ex (xs, d) 0 am_c89 Q 52 [some (.inr (.inr (7, 63))), some (.inr (.inr (4, r1))), l2, some (.inl v3), some (.inl v4)] [] σ
set_option maxRecDepth 20000 in
theorem bHare_countRuns_0 {xs : List Int} {d : Nat} {Q : Option w_V → w_M → Prop} {b : Nat} {x2 : Int} {σ : w_M}
    (h : ∀ (y1 : Int), y1 = v_Math_min x2 7 → ∀ (τ2 : w_M), τ2 = w_up σ 63 0 y1 → LHare_countRuns_7 xs (d + 2) Q b 0 τ2) : w_Call (xs, (d + 2)) 89 [.inr (.inr (7, 63)), .inr (.inr (4, b)), .inl x2] σ Q :=
  (w_mk (mid := 89) (by decide) rfl rfl rfl rfl rfl (Nat.le_of_ble_eq_true rfl) ⟨rfl, Or.inl (by decide)⟩ (wi_aload0 fHare_countRuns_0 (wi_iload2 fHare_countRuns_1 (wi_bipush fHare_countRuns_2 (wi_call2 fHare_countRuns_3 (Nat.le_of_ble_eq_true rfl) (k_Math_min (wi_putf700 fHare_countRuns_4 (wi_bipush fHare_countRuns_5 (wi_istore3 fHare_countRuns_6 trivial (((h _ rfl) _ rfl) _ (by exact trivial) _ (by exact trivial)))))))))))
set_option maxRecDepth 20000 in
theorem bHare_countRuns_7 {xs : List Int} {d : Nat} {Q : Option w_V → w_M → Prop} {r1 : Nat} {v3 : Int} {σ : w_M}
    (h : (6 < v3 → LHare_countRuns_48 xs (d + 2) Q r1 6 σ) ∧ (v3 ≤ 6 → LHare_countRuns_12 xs (d + 2) Q r1 v3 0 σ)) : LHare_countRuns_7 xs (d + 2) Q r1 v3 σ :=
  fun l2 nl2 => fun l4 nl4 => (wi_iload3 fHare_countRuns_7 (wi_bipush fHare_countRuns_8 (wi_ic_gt fHare_countRuns_9 (fun c1 => (wi_bipush fHare_countRuns_46 (wi_istore3 fHare_countRuns_47 nl2 ((h.1 c1) _ nl2 _ nl4)))) (fun c1 => (wi_bipush fHare_countRuns_10 (wi_istore4 fHare_countRuns_11 trivial ((h.2 c1) _ nl2)))))))
set_option maxRecDepth 20000 in
theorem bHare_countRuns_48 {xs : List Int} {d : Nat} {Q : Option w_V → w_M → Prop} {r1 : Nat} {v3 : Int} {σ : w_M}
    (h : (v3 < 0 → Q none σ) ∧ (0 ≤ v3 → LHare_countRuns_52 xs (d + 2) Q r1 v3 0 σ)) : LHare_countRuns_48 xs (d + 2) Q r1 v3 σ :=
  fun l2 nl2 => fun l4 nl4 => (wi_iload3 fHare_countRuns_48 (wi_if_lt fHare_countRuns_49 (fun c1 => (wi_ret0 fHare_countRuns_87 (h.1 c1))) (fun c1 => (wi_bipush fHare_countRuns_50 (wi_istore4 fHare_countRuns_51 trivial ((h.2 c1) _ nl2))))))
set_option maxRecDepth 20000 in
theorem bHare_countRuns_12 {xs : List Int} {d : Nat} {Q : Option w_V → w_M → Prop} {r1 : Nat} {v3 : Int} {v4 : Int} {σ : w_M}
    (h : ((σ 63 0) ≤ v4 → (w_in (v3 + 1) ∧ LHare_countRuns_7 xs (d + 2) Q r1 (v3 + 1) σ)) ∧ (v4 < (σ 63 0) → (0 ≤ v3 ∧ v3 < 7 ∧ p_Seen_allows r1 v3 v4 σ ∧ (((P_Seen_allows r1 v3 v4 σ) → ((¬ v3 = 0 → (w_in (v3 - 1) ∧ 0 ≤ (v3 - 1) ∧ (v3 - 1) < 7 ∧ p_Hare_besides (65 + (v3 - 1).toNat) v4 σ ∧ (∀ (y1 : Int), y1 = v_Hare_besides (65 + (v3 - 1).toNat) v4 σ → (0 ≤ v4 ∧ v4 < 7 ∧ (∀ (τ2 : w_M), τ2 = w_up σ (65 + v3.toNat) v4.toNat y1 → (w_in (v4 + 1) ∧ LHare_countRuns_12 xs (d + 2) Q r1 v3 (v4 + 1) τ2)))))) ∧ (v3 = 0 → (0 ≤ v4 ∧ v4 < 7 ∧ (∀ (τ3 : w_M), τ3 = w_up σ (65 + v3.toNat) v4.toNat 1 → (w_in (v4 + 1) ∧ LHare_countRuns_12 xs (d + 2) Q r1 v3 (v4 + 1) τ3)))))) ∧ (¬ (P_Seen_allows r1 v3 v4 σ) → (0 ≤ v4 ∧ v4 < 7 ∧ (∀ (τ5 : w_M), τ5 = w_up σ (65 + v3.toNat) v4.toNat 0 → (w_in (v4 + 1) ∧ LHare_countRuns_12 xs (d + 2) Q r1 v3 (v4 + 1) τ5)))))))) : LHare_countRuns_12 xs (d + 2) Q r1 v3 v4 σ :=
  fun l2 nl2 => (wi_iload4 fHare_countRuns_12 (wi_aload0 fHare_countRuns_13 (wi_getf700 fHare_countRuns_14 (wi_ic_ge fHare_countRuns_15 (fun c7 => (wi_iinc3 fHare_countRuns_44 nl2 (h.1 c7).1 (wi_goto fHare_countRuns_45 ((h.1 c7).2 _ nl2 _ (by exact trivial))))) (fun c7 => (wi_aload0 fHare_countRuns_16 (wi_getf701 fHare_countRuns_17 (wi_iload3 fHare_countRuns_18 (wi_aald10707 fHare_countRuns_19 (h.2 c7).1 (h.2 c7).2.1 (wi_iload4 fHare_countRuns_20 (wi_aload1 fHare_countRuns_21 (wi_iload3 fHare_countRuns_22 (wi_iload4 fHare_countRuns_23 (wi_call3 fHare_countRuns_24 (Nat.le_of_ble_eq_true rfl) (k_Seen_allows (h.2 c7).2.2.1 (wi_ifb_ne fHare_countRuns_25 (fun c6 => (wi_iload3 fHare_countRuns_28 (wi_if_ne fHare_countRuns_29 (fun c4 => (wi_aload0 fHare_countRuns_32 (wi_aload0 fHare_countRuns_33 (wi_getf701 fHare_countRuns_34 (wi_iload3 fHare_countRuns_35 (wi_bipush fHare_countRuns_36 (wi_isub fHare_countRuns_37 (((h.2 c7).2.2.2.1 c6).1 c4).1 (wi_aald10707 fHare_countRuns_38 (((h.2 c7).2.2.2.1 c6).1 c4).2.1 (((h.2 c7).2.2.2.1 c6).1 c4).2.2.1 (wi_iload4 fHare_countRuns_39 (wi_call3 fHare_countRuns_40 (Nat.le_of_ble_eq_true rfl) (k_Hare_besides (((h.2 c7).2.2.2.1 c6).1 c4).2.2.2.1 (wi_iast1007 fHare_countRuns_41 ((((h.2 c7).2.2.2.1 c6).1 c4).2.2.2.2 _ rfl).1 ((((h.2 c7).2.2.2.1 c6).1 c4).2.2.2.2 _ rfl).2.1 (wi_iinc4 fHare_countRuns_42 trivial (((((h.2 c7).2.2.2.1 c6).1 c4).2.2.2.2 _ rfl).2.2 _ rfl).1 (wi_goto fHare_countRuns_43 ((((((h.2 c7).2.2.2.1 c6).1 c4).2.2.2.2 _ rfl).2.2 _ rfl).2 _ nl2))))))))))))))) (fun c4 => (wi_bipush fHare_countRuns_30 (wi_goto fHare_countRuns_31 (wi_iast1007 fHare_countRuns_41 (((h.2 c7).2.2.2.1 c6).2 c4).1 (((h.2 c7).2.2.2.1 c6).2 c4).2.1 (wi_iinc4 fHare_countRuns_42 trivial ((((h.2 c7).2.2.2.1 c6).2 c4).2.2 _ rfl).1 (wi_goto fHare_countRuns_43 (((((h.2 c7).2.2.2.1 c6).2 c4).2.2 _ rfl).2 _ nl2)))))))))) (fun c6 => (wi_bipush fHare_countRuns_26 (wi_goto fHare_countRuns_27 (wi_iast1007 fHare_countRuns_41 ((h.2 c7).2.2.2.2 c6).1 ((h.2 c7).2.2.2.2 c6).2.1 (wi_iinc4 fHare_countRuns_42 trivial (((h.2 c7).2.2.2.2 c6).2.2 _ rfl).1 (wi_goto fHare_countRuns_43 ((((h.2 c7).2.2.2.2 c6).2.2 _ rfl).2 _ nl2)))))))))))))))))))))))
set_option maxRecDepth 20000 in
theorem bHare_countRuns_52 {xs : List Int} {d : Nat} {Q : Option w_V → w_M → Prop} {r1 : Nat} {v3 : Int} {v4 : Int} {σ : w_M}
    (h : ((σ 63 0) ≤ v4 → (w_in (v3 + (-1)) ∧ LHare_countRuns_48 xs (d + 2) Q r1 (v3 + (-1)) σ)) ∧ (v4 < (σ 63 0) → (0 ≤ v3 ∧ v3 < 7 ∧ p_Seen_allows r1 v3 v4 σ ∧ (((P_Seen_allows r1 v3 v4 σ) → ((¬ v3 = 6 → (w_in (v3 + 1) ∧ 0 ≤ (v3 + 1) ∧ (v3 + 1) < 7 ∧ p_Hare_besides (73 + (v3 + 1).toNat) v4 σ ∧ (∀ (y1 : Int), y1 = v_Hare_besides (73 + (v3 + 1).toNat) v4 σ → (0 ≤ v4 ∧ v4 < 7 ∧ (∀ (τ2 : w_M), τ2 = w_up σ (73 + v3.toNat) v4.toNat y1 → (w_in (v4 + 1) ∧ LHare_countRuns_52 xs (d + 2) Q r1 v3 (v4 + 1) τ2)))))) ∧ (v3 = 6 → (0 ≤ v4 ∧ v4 < 7 ∧ (∀ (τ3 : w_M), τ3 = w_up σ (73 + v3.toNat) v4.toNat 1 → (w_in (v4 + 1) ∧ LHare_countRuns_52 xs (d + 2) Q r1 v3 (v4 + 1) τ3)))))) ∧ (¬ (P_Seen_allows r1 v3 v4 σ) → (0 ≤ v4 ∧ v4 < 7 ∧ (∀ (τ5 : w_M), τ5 = w_up σ (73 + v3.toNat) v4.toNat 0 → (w_in (v4 + 1) ∧ LHare_countRuns_52 xs (d + 2) Q r1 v3 (v4 + 1) τ5)))))))) : LHare_countRuns_52 xs (d + 2) Q r1 v3 v4 σ :=
  fun l2 nl2 => (wi_iload4 fHare_countRuns_52 (wi_aload0 fHare_countRuns_53 (wi_getf700 fHare_countRuns_54 (wi_ic_ge fHare_countRuns_55 (fun c7 => (wi_iinc3 fHare_countRuns_85 nl2 (h.1 c7).1 (wi_goto fHare_countRuns_86 ((h.1 c7).2 _ nl2 _ (by exact trivial))))) (fun c7 => (wi_aload0 fHare_countRuns_56 (wi_getf702 fHare_countRuns_57 (wi_iload3 fHare_countRuns_58 (wi_aald10707 fHare_countRuns_59 (h.2 c7).1 (h.2 c7).2.1 (wi_iload4 fHare_countRuns_60 (wi_aload1 fHare_countRuns_61 (wi_iload3 fHare_countRuns_62 (wi_iload4 fHare_countRuns_63 (wi_call3 fHare_countRuns_64 (Nat.le_of_ble_eq_true rfl) (k_Seen_allows (h.2 c7).2.2.1 (wi_ifb_ne fHare_countRuns_65 (fun c6 => (wi_iload3 fHare_countRuns_68 (wi_bipush fHare_countRuns_69 (wi_ic_ne fHare_countRuns_70 (fun c4 => (wi_aload0 fHare_countRuns_73 (wi_aload0 fHare_countRuns_74 (wi_getf702 fHare_countRuns_75 (wi_iload3 fHare_countRuns_76 (wi_bipush fHare_countRuns_77 (wi_iadd fHare_countRuns_78 (((h.2 c7).2.2.2.1 c6).1 c4).1 (wi_aald10707 fHare_countRuns_79 (((h.2 c7).2.2.2.1 c6).1 c4).2.1 (((h.2 c7).2.2.2.1 c6).1 c4).2.2.1 (wi_iload4 fHare_countRuns_80 (wi_call3 fHare_countRuns_81 (Nat.le_of_ble_eq_true rfl) (k_Hare_besides (((h.2 c7).2.2.2.1 c6).1 c4).2.2.2.1 (wi_iast1007 fHare_countRuns_82 ((((h.2 c7).2.2.2.1 c6).1 c4).2.2.2.2 _ rfl).1 ((((h.2 c7).2.2.2.1 c6).1 c4).2.2.2.2 _ rfl).2.1 (wi_iinc4 fHare_countRuns_83 trivial (((((h.2 c7).2.2.2.1 c6).1 c4).2.2.2.2 _ rfl).2.2 _ rfl).1 (wi_goto fHare_countRuns_84 ((((((h.2 c7).2.2.2.1 c6).1 c4).2.2.2.2 _ rfl).2.2 _ rfl).2 _ nl2))))))))))))))) (fun c4 => (wi_bipush fHare_countRuns_71 (wi_goto fHare_countRuns_72 (wi_iast1007 fHare_countRuns_82 (((h.2 c7).2.2.2.1 c6).2 c4).1 (((h.2 c7).2.2.2.1 c6).2 c4).2.1 (wi_iinc4 fHare_countRuns_83 trivial ((((h.2 c7).2.2.2.1 c6).2 c4).2.2 _ rfl).1 (wi_goto fHare_countRuns_84 (((((h.2 c7).2.2.2.1 c6).2 c4).2.2 _ rfl).2 _ nl2))))))))))) (fun c6 => (wi_bipush fHare_countRuns_66 (wi_goto fHare_countRuns_67 (wi_iast1007 fHare_countRuns_82 ((h.2 c7).2.2.2.2 c6).1 ((h.2 c7).2.2.2.2 c6).2.1 (wi_iinc4 fHare_countRuns_83 trivial (((h.2 c7).2.2.2.2 c6).2.2 _ rfl).1 (wi_goto fHare_countRuns_84 ((((h.2 c7).2.2.2.2 c6).2.2 _ rfl).2 _ nl2)))))))))))))))))))))))
set_option maxHeartbeats 2000000 in
theorem k_Hare_countRuns {xs : List Int} {d : Nat} {Q : Option w_V → w_M → Prop} {b : Nat} {x2 : Int} {σ : w_M} (hp : p_Hare_countRuns b x2 σ) (hQ : ∀ σ' : w_M, q_Hare_countRuns b x2 σ σ' → Q none σ') : w_Call (xs, d + 2) 89 [.inr (.inr (7, 63)), .inr (.inr (4, b)), .inl x2] σ Q := by
  obtain ⟨hx, hs8, hb⟩ := hp
  generalize hB : s_ab σ b = B at *
  have hsB : ∀ τ : w_M, w_fr σ τ 63 80 → s_ab τ b = B ∧ τ b 0 = σ b 0 := fun τ F => ⟨by rw [← hB]; exact s_ab_fr (fun d hd => F _ (by omega)), by rw [F b (by omega)]⟩
  refine bHare_countRuns_0 (fun y1 e1 τ2 t2 => ?_)
  have ey : y1 = x2 := by rw [e1]; unfold v_Math_min; split <;> omega
  subst ey
  unfold q_Hare_countRuns at hQ
  rw [hB] at hQ
  have back : ∀ τ : w_M, hc_1 σ B y1 τ 7 → LHare_countRuns_48 xs (d + 2) Q b 6 τ := by
    intro τ0 h0
    refine (w_loop (n := 7) (P := fun k => ∀ τ : w_M, hc_2 σ B y1 τ k → LHare_countRuns_48 xs (d + 2) Q b (6 - (k : Int)) τ) ?_ ?_) τ0 ⟨h0, fun m h1 h2 => by omega⟩
    · intro τ h
      refine bHare_countRuns_48 ⟨fun _ => hQ _ ⟨h.1.2.1, fun n hn i hi => ⟨h.1.2.2 n (by omega) i hi, h.2 n hn (by omega) i hi⟩, h.1.1⟩, fun h => by omega⟩
    · intro k hk nx τ h
      refine bHare_countRuns_48 ⟨fun h => by omega, fun _ => ?_⟩
      obtain ⟨n, hn⟩ : ∃ n : Nat, n = 6 - k := ⟨_, rfl⟩
      rw [show (6 : Int) - (k : Int) = (n : Int) by omega]
      refine (w_loop (n := y1.toNat) (P := fun i => ∀ τ : w_M, hc_2 σ B y1 τ k → (∀ j, j < i → τ (73 + n) j = r_g B y1.toNat (6 - n) j) → LHare_countRuns_52 xs (d + 2) Q b (n : Int) (i : Int) τ) ?_ ?_) τ h (fun j hj => by omega)
      · intro τ h hj
        have h63 := h.1.2.1
        refine bHare_countRuns_52 ⟨fun _ => ⟨⟨by omega, by omega⟩, ?_⟩, fun h => by omega⟩
        rw [show (n : Int) + (-1) = 6 - ((k + 1 : Nat) : Int) by omega]
        refine nx τ ⟨h.1, fun m h1 h2 i hi => ?_⟩
        by_cases hm : m = n
        · rw [hm]; exact hj i hi
        · exact h.2 m h1 (by omega) i hi
      · intro i hi ih τ h hj
        have h63 := h.1.2.1
        obtain ⟨eB, e0⟩ := hsB τ h.1.1
        have wr : ∀ v : Int, v = r_g B y1.toNat (6 - n) i → LHare_countRuns_52 xs (d + 2) Q b (n : Int) ((i : Int) + 1) (w_up τ (73 + n) i v) := fun v ev => by
          rw [← w_cs1]
          refine ih _ ⟨⟨h.1.1.up (by omega) (by omega), by rw [w_up_ne (by omega)]; exact h63, fun m hm q hq => by rw [w_up_ne (by omega)]; exact h.1.2.2 m hm q hq⟩, fun m h1 h2 q hq => by rw [w_up_ne (by omega)]; exact h.2 m h1 h2 q hq⟩ (fun j hj2 => ?_)
          by_cases hji : j = i
          · rw [hji, w_up_at]; exact ev
          · rw [w_up_j hji]; exact hj j (by omega)
        rw [r_gs (by omega)] at wr
        refine bHare_countRuns_52 ⟨fun h => by omega, fun _ => ⟨by omega, by omega, ⟨by omega, by omega⟩, fun c => ⟨fun c2 => ⟨⟨by omega, by omega⟩, by omega, by omega, ⟨⟨by omega, by omega⟩, by omega, fun j hj2 => ?_⟩, fun y ey => ⟨by omega, by omega, fun τ3 t3 => ⟨⟨by omega, by omega⟩, ?_⟩⟩⟩, fun c2 => ⟨by omega, by omega, fun τ3 t3 => ⟨⟨by omega, by omega⟩, ?_⟩⟩⟩, fun c => ⟨by omega, by omega, fun τ3 t3 => ⟨⟨by omega, by omega⟩, ?_⟩⟩⟩⟩
        · rw [h63] at hj2
          rw [show ((n : Int) + 1).toNat = n + 1 by omega, h.2 (n + 1) (by omega) (by omega) j hj2]
          exact r_g_le6 (by omega) hj2
        · rw [t3, Int.toNat_natCast, Int.toNat_natCast]
          refine wr _ ?_
          unfold P_Seen_allows at c
          rw [eB] at c
          rw [r_if_t c, if_neg (by omega), ey]
          unfold v_Hare_besides
          rw [h63, Int.toNat_natCast, show ((n : Int) + 1).toNat = n + 1 by omega]
          exact r_bes_congr hi (fun j hj2 => h.2 (n + 1) (by omega) (by omega) j hj2)
        · rw [t3, Int.toNat_natCast, Int.toNat_natCast]
          refine wr _ ?_
          unfold P_Seen_allows at c
          rw [eB] at c
          rw [r_if_t c, if_pos (by omega)]
        · rw [t3, Int.toNat_natCast, Int.toNat_natCast]
          refine wr _ ?_
          unfold P_Seen_allows at c
          rw [eB] at c
          rw [r_if_f c]
  refine (w_loop (n := 7) (P := fun n => ∀ τ : w_M, hc_1 σ B y1 τ n → LHare_countRuns_7 xs (d + 2) Q b (n : Int) τ) ?_ ?_) τ2 ⟨by rw [t2]; exact w_fr.up0 (by decide) (by decide), by rw [t2, w_up_at], fun m hm => by omega⟩
  · intro τ h
    exact bHare_countRuns_7 ⟨fun _ => back τ h, fun h => by omega⟩
  · intro n hn nx τ h
    refine bHare_countRuns_7 ⟨fun h => by omega, fun _ => ?_⟩
    refine (w_loop (n := y1.toNat) (P := fun i => ∀ τ : w_M, hc_1 σ B y1 τ n → (∀ j, j < i → τ (65 + n) j = r_c B y1.toNat n j) → LHare_countRuns_12 xs (d + 2) Q b (n : Int) (i : Int) τ) ?_ ?_) τ h (fun j hj => by omega)
    · intro τ h hj
      have h63 := h.2.1
      refine bHare_countRuns_12 ⟨fun _ => ⟨⟨by omega, by omega⟩, ?_⟩, fun h => by omega⟩
      rw [← w_cs1]
      refine nx τ ⟨h.1, h.2.1, fun m h1 i hi => ?_⟩
      by_cases hm : m = n
      · rw [hm]; exact hj i hi
      · exact h.2.2 m (by omega) i hi
    · intro i hi ih τ h hj
      have h63 := h.2.1
      obtain ⟨eB, e0⟩ := hsB τ h.1
      have wr : ∀ v : Int, v = r_c B y1.toNat n i → LHare_countRuns_12 xs (d + 2) Q b (n : Int) ((i : Int) + 1) (w_up τ (65 + n) i v) := fun v ev => by
        rw [← w_cs1]
        refine ih _ ⟨h.1.up (by omega) (by omega), by rw [w_up_ne (by omega)]; exact h63, fun m hm q hq => by rw [w_up_ne (by omega)]; exact h.2.2 m hm q hq⟩ (fun j hj2 => ?_)
        by_cases hji : j = i
        · rw [hji, w_up_at]; exact ev
        · rw [w_up_j hji]; exact hj j (by omega)
      rw [r_cs] at wr
      refine bHare_countRuns_12 ⟨fun h => by omega, fun _ => ⟨by omega, by omega, ⟨by omega, by omega⟩, fun c => ⟨fun c2 => ⟨⟨by omega, by omega⟩, by omega, by omega, ⟨⟨by omega, by omega⟩, by omega, fun j hj2 => ?_⟩, fun y ey => ⟨by omega, by omega, fun τ3 t3 => ⟨⟨by omega, by omega⟩, ?_⟩⟩⟩, fun c2 => ⟨by omega, by omega, fun τ3 t3 => ⟨⟨by omega, by omega⟩, ?_⟩⟩⟩, fun c => ⟨by omega, by omega, fun τ3 t3 => ⟨⟨by omega, by omega⟩, ?_⟩⟩⟩⟩
      · rw [h63] at hj2
        rw [show ((n : Int) - 1).toNat = n - 1 by omega, h.2.2 (n - 1) (by omega) j hj2]
        exact r_c_le6 (by omega) hj2
      · rw [t3, Int.toNat_natCast, Int.toNat_natCast]
        refine wr _ ?_
        unfold P_Seen_allows at c
        rw [eB] at c
        rw [r_if_t c, if_neg (by omega), ey]
        unfold v_Hare_besides
        rw [h63, Int.toNat_natCast, show ((n : Int) - 1).toNat = n - 1 by omega]
        exact r_bes_congr hi (fun j hj2 => h.2.2 (n - 1) (by omega) j hj2)
      · rw [t3, Int.toNat_natCast, Int.toNat_natCast]
        refine wr _ ?_
        unfold P_Seen_allows at c
        rw [eB] at c
        rw [r_if_t c, if_pos (by omega)]
      · rw [t3, Int.toNat_natCast, Int.toNat_natCast]
        refine wr _ ?_
        unfold P_Seen_allows at c
        rw [eB] at c
        rw [r_if_f c]
noncomputable def hr_ok (σ : w_M) : Prop := (0 ≤ σ 63 0 ∧ σ 63 0 ≤ 7) ∧ ∀ n, n ≤ 6 → ∀ i, i < (σ 63 0).toNat → (0 ≤ σ (65 + n) i ∧ σ (65 + n) i ≤ 729) ∧ (0 ≤ σ (73 + n) i ∧ σ (73 + n) i ≤ 729)
noncomputable def p_Hare_runsThrough (_ _ : Int) (σ : w_M) : Prop := hr_ok σ
noncomputable def v_Hare_runsThrough (n i : Int) (σ : w_M) : Int := if (0 ≤ n ∧ n ≤ 6) ∧ (0 ≤ i ∧ i < σ 63 0) then σ (65 + n.toNat) i.toNat * σ (73 + n.toNat) i.toNat else 0
theorem mul729 {a b : Int} (ha : 0 ≤ a ∧ a ≤ 729) (hb : 0 ≤ b ∧ b ≤ 729) : 0 ≤ a * b ∧ a * b ≤ 531441 := ⟨Int.mul_nonneg ha.1 hb.1, by have := Int.mul_le_mul ha.2 hb.2 hb.1 (by decide); omega⟩
theorem fHare_runsThrough_0 : w_fe am_c91 0 1 (.iload 1) := ⟨rfl, rfl⟩
theorem fHare_runsThrough_1 : w_if am_c91 1 2 .lt 11 := ⟨rfl, rfl⟩
theorem fHare_runsThrough_2 : w_fe am_c91 2 3 (.iload 1) := ⟨rfl, rfl⟩
theorem fHare_runsThrough_3 : w_fe am_c91 3 4 (.bipush 6) := ⟨rfl, rfl⟩
theorem fHare_runsThrough_4 : w_ic am_c91 4 5 .gt 11 := ⟨rfl, rfl⟩
theorem fHare_runsThrough_5 : w_fe am_c91 5 6 (.iload 2) := ⟨rfl, rfl⟩
theorem fHare_runsThrough_6 : w_if am_c91 6 7 .lt 11 := ⟨rfl, rfl⟩
theorem fHare_runsThrough_7 : w_fe am_c91 7 8 (.iload 2) := ⟨rfl, rfl⟩
theorem fHare_runsThrough_8 : w_fe am_c91 8 9 (.aload 0) := ⟨rfl, rfl⟩
theorem fHare_runsThrough_9 : w_fe am_c91 9 10 (.getfield 700) := ⟨rfl, rfl⟩
theorem fHare_runsThrough_10 : w_ic am_c91 10 11 .lt 13 := ⟨rfl, rfl⟩
theorem fHare_runsThrough_11 : w_fe am_c91 11 12 (.bipush 0) := ⟨rfl, rfl⟩
theorem fHare_runsThrough_12 : w_fe am_c91 12 13 (.ireturn) := ⟨rfl, rfl⟩
theorem fHare_runsThrough_13 : w_fe am_c91 13 14 (.aload 0) := ⟨rfl, rfl⟩
theorem fHare_runsThrough_14 : w_fe am_c91 14 15 (.getfield 701) := ⟨rfl, rfl⟩
theorem fHare_runsThrough_15 : w_fe am_c91 15 16 (.iload 1) := ⟨rfl, rfl⟩
theorem fHare_runsThrough_16 : w_fe am_c91 16 17 (.aaload) := ⟨rfl, rfl⟩
theorem fHare_runsThrough_17 : w_fe am_c91 17 18 (.iload 2) := ⟨rfl, rfl⟩
theorem fHare_runsThrough_18 : w_fe am_c91 18 19 (.iaload) := ⟨rfl, rfl⟩
theorem fHare_runsThrough_19 : w_fe am_c91 19 20 (.aload 0) := ⟨rfl, rfl⟩
theorem fHare_runsThrough_20 : w_fe am_c91 20 21 (.getfield 702) := ⟨rfl, rfl⟩
theorem fHare_runsThrough_21 : w_fe am_c91 21 22 (.iload 1) := ⟨rfl, rfl⟩
theorem fHare_runsThrough_22 : w_fe am_c91 22 23 (.aaload) := ⟨rfl, rfl⟩
theorem fHare_runsThrough_23 : w_fe am_c91 23 24 (.iload 2) := ⟨rfl, rfl⟩
theorem fHare_runsThrough_24 : w_fe am_c91 24 25 (.iaload) := ⟨rfl, rfl⟩
theorem fHare_runsThrough_25 : w_fe am_c91 25 26 (.imul) := ⟨rfl, rfl⟩
theorem fHare_runsThrough_26 : w_fe am_c91 26 27 (.ireturn) := ⟨rfl, rfl⟩
set_option maxRecDepth 20000 in
theorem bHare_runsThrough_0 {xs : List Int} {d : Nat} {Q : Option w_V → w_M → Prop} {x1 : Int} {x2 : Int} {σ : w_M}
    (h : (x1 < 0 → Q (some (.inl 0)) σ) ∧ (0 ≤ x1 → ((6 < x1 → Q (some (.inl 0)) σ) ∧ (x1 ≤ 6 → ((x2 < 0 → Q (some (.inl 0)) σ) ∧ (0 ≤ x2 → ((x2 < (σ 63 0) → (x1 < 7 ∧ x2 < 7 ∧ w_in ((σ (65 + x1.toNat) x2.toNat) * (σ (73 + x1.toNat) x2.toNat)) ∧ Q (some (.inl ((σ (65 + x1.toNat) x2.toNat) * (σ (73 + x1.toNat) x2.toNat)))) σ)) ∧ ((σ 63 0) ≤ x2 → Q (some (.inl 0)) σ)))))))) : w_Call (xs, d) 91 [.inr (.inr (7, 63)), .inl x1, .inl x2] σ Q :=
  (w_mk (mid := 91) (by decide) rfl rfl rfl rfl rfl (Nat.le_of_ble_eq_true rfl) ⟨rfl, Or.inl (by decide)⟩ (wi_iload1 fHare_runsThrough_0 (wi_if_lt fHare_runsThrough_1 (fun c4 => (wi_bipush fHare_runsThrough_11 (wi_ret1 fHare_runsThrough_12 (h.1 c4)))) (fun c4 => (wi_iload1 fHare_runsThrough_2 (wi_bipush fHare_runsThrough_3 (wi_ic_gt fHare_runsThrough_4 (fun c3 => (wi_bipush fHare_runsThrough_11 (wi_ret1 fHare_runsThrough_12 ((h.2 c4).1 c3)))) (fun c3 => (wi_iload2 fHare_runsThrough_5 (wi_if_lt fHare_runsThrough_6 (fun c2 => (wi_bipush fHare_runsThrough_11 (wi_ret1 fHare_runsThrough_12 (((h.2 c4).2 c3).1 c2)))) (fun c2 => (wi_iload2 fHare_runsThrough_7 (wi_aload0 fHare_runsThrough_8 (wi_getf700 fHare_runsThrough_9 (wi_ic_lt fHare_runsThrough_10 (fun c1 => (wi_aload0 fHare_runsThrough_13 (wi_getf701 fHare_runsThrough_14 (wi_iload1 fHare_runsThrough_15 (wi_aald10707 fHare_runsThrough_16 c4 ((((h.2 c4).2 c3).2 c2).1 c1).1 (wi_iload2 fHare_runsThrough_17 (wi_iald1007 fHare_runsThrough_18 c2 ((((h.2 c4).2 c3).2 c2).1 c1).2.1 (wi_aload0 fHare_runsThrough_19 (wi_getf702 fHare_runsThrough_20 (wi_iload1 fHare_runsThrough_21 (wi_aald10707 fHare_runsThrough_22 c4 ((((h.2 c4).2 c3).2 c2).1 c1).1 (wi_iload2 fHare_runsThrough_23 (wi_iald1007 fHare_runsThrough_24 c2 ((((h.2 c4).2 c3).2 c2).1 c1).2.1 (wi_imul fHare_runsThrough_25 ((((h.2 c4).2 c3).2 c2).1 c1).2.2.1 (wi_ret1 fHare_runsThrough_26 ((((h.2 c4).2 c3).2 c2).1 c1).2.2.2))))))))))))))) (fun c1 => (wi_bipush fHare_runsThrough_11 (wi_ret1 fHare_runsThrough_12 ((((h.2 c4).2 c3).2 c2).2 c1)))))))))))))))))))
theorem k_Hare_runsThrough {xs : List Int} {d : Nat} {Q : Option w_V → w_M → Prop} {x1 : Int} {x2 : Int} {σ : w_M} (hp : p_Hare_runsThrough x1 x2 σ) (hQ : Q (some (.inl (v_Hare_runsThrough x1 x2 σ))) σ) : w_Call (xs, d) 91 [.inr (.inr (7, 63)), .inl x1, .inl x2] σ Q := by
  have hp' : hr_ok σ := hp
  have hs := hp'.1
  unfold v_Hare_runsThrough at hQ
  have no : ¬ ((0 ≤ x1 ∧ x1 ≤ 6) ∧ (0 ≤ x2 ∧ x2 < σ 63 0)) → Q (some (.inl 0)) σ := fun h => by rw [if_neg h] at hQ; exact hQ
  refine bHare_runsThrough_0 ⟨fun c => no (by omega), fun c => ⟨fun c2 => no (by omega), fun c2 => ⟨fun c3 => no (by omega), fun c3 => ⟨fun c4 => ⟨by omega, by omega, ?_, ?_⟩, fun c4 => no (by omega)⟩⟩⟩⟩
  · have h := hp'.2 x1.toNat (by omega) x2.toNat (by omega)
    have := mul729 h.1 h.2
    exact ⟨by omega, by omega⟩
  · rw [if_pos (by omega)] at hQ
    exact hQ
noncomputable def p_Hare_allRuns (σ : w_M) : Prop := hr_ok σ
noncomputable def v_Hare_allRuns (σ : w_M) : Int := f_sum (σ 71) (σ 63 0).toNat
theorem fHare_allRuns_0 : w_fe am_c92 0 1 (.bipush 0) := ⟨rfl, rfl⟩
theorem fHare_allRuns_1 : w_fe am_c92 1 2 (.istore 1) := ⟨rfl, rfl⟩
theorem fHare_allRuns_2 : w_fe am_c92 2 3 (.bipush 0) := ⟨rfl, rfl⟩
theorem fHare_allRuns_3 : w_fe am_c92 3 4 (.istore 2) := ⟨rfl, rfl⟩
theorem fHare_allRuns_4 : w_fe am_c92 4 5 (.iload 2) := ⟨rfl, rfl⟩
theorem fHare_allRuns_5 : w_fe am_c92 5 6 (.aload 0) := ⟨rfl, rfl⟩
theorem fHare_allRuns_6 : w_fe am_c92 6 7 (.getfield 700) := ⟨rfl, rfl⟩
theorem fHare_allRuns_7 : w_ic am_c92 7 8 .ge 19 := ⟨rfl, rfl⟩
theorem fHare_allRuns_8 : w_fe am_c92 8 9 (.iload 1) := ⟨rfl, rfl⟩
theorem fHare_allRuns_9 : w_fe am_c92 9 10 (.aload 0) := ⟨rfl, rfl⟩
theorem fHare_allRuns_10 : w_fe am_c92 10 11 (.getfield 701) := ⟨rfl, rfl⟩
theorem fHare_allRuns_11 : w_fe am_c92 11 12 (.bipush 6) := ⟨rfl, rfl⟩
theorem fHare_allRuns_12 : w_fe am_c92 12 13 (.aaload) := ⟨rfl, rfl⟩
theorem fHare_allRuns_13 : w_fe am_c92 13 14 (.iload 2) := ⟨rfl, rfl⟩
theorem fHare_allRuns_14 : w_fe am_c92 14 15 (.iaload) := ⟨rfl, rfl⟩
theorem fHare_allRuns_15 : w_fe am_c92 15 16 (.iadd) := ⟨rfl, rfl⟩
theorem fHare_allRuns_16 : w_fe am_c92 16 17 (.istore 1) := ⟨rfl, rfl⟩
theorem fHare_allRuns_17 : w_fe am_c92 17 18 (.iinc 2 1) := ⟨rfl, rfl⟩
theorem fHare_allRuns_18 : w_gt am_c92 18 4 := rfl
theorem fHare_allRuns_19 : w_fe am_c92 19 20 (.iload 1) := ⟨rfl, rfl⟩
theorem fHare_allRuns_20 : w_fe am_c92 20 21 (.ireturn) := ⟨rfl, rfl⟩
noncomputable def LHare_allRuns_4 (xs : List Int) (d : Nat) (Q : Option w_V → w_M → Prop) (v1 : Int) (v2 : Int) (σ : w_M) : Prop := w_Ex (xs, d) 1 am_c92 Q 4 [some (.inr (.inr (7, 63))), some (.inl v1), some (.inl v2)] [] σ
set_option maxRecDepth 20000 in
theorem bHare_allRuns_0 {xs : List Int} {d : Nat} {Q : Option w_V → w_M → Prop}  {σ : w_M}
    (h : LHare_allRuns_4 xs d Q 0 0 σ) : w_Call (xs, d) 92 [.inr (.inr (7, 63))] σ Q :=
  (w_mk (mid := 92) (by decide) rfl rfl rfl rfl rfl (Nat.le_of_ble_eq_true rfl) ⟨rfl, Or.inl (by decide)⟩ (wi_bipush fHare_allRuns_0 (wi_istore1 fHare_allRuns_1 trivial (wi_bipush fHare_allRuns_2 (wi_istore2 fHare_allRuns_3 trivial h)))))
set_option maxRecDepth 20000 in
theorem bHare_allRuns_4 {xs : List Int} {d : Nat} {Q : Option w_V → w_M → Prop} {v1 : Int} {v2 : Int} {σ : w_M}
    (h : ((σ 63 0) ≤ v2 → Q (some (.inl v1)) σ) ∧ (v2 < (σ 63 0) → (0 ≤ v2 ∧ v2 < 7 ∧ w_in (v1 + (σ 71 v2.toNat)) ∧ (∀ (y1 : Int), y1 = (v1 + (σ 71 v2.toNat)) → (w_in (v2 + 1) ∧ LHare_allRuns_4 xs d Q y1 (v2 + 1) σ))))) : LHare_allRuns_4 xs d Q v1 v2 σ :=
  (wi_iload2 fHare_allRuns_4 (wi_aload0 fHare_allRuns_5 (wi_getf700 fHare_allRuns_6 (wi_ic_ge fHare_allRuns_7 (fun c2 => (wi_iload1 fHare_allRuns_19 (wi_ret1 fHare_allRuns_20 (h.1 c2)))) (fun c2 => (wi_iload1 fHare_allRuns_8 (wi_aload0 fHare_allRuns_9 (wi_getf701 fHare_allRuns_10 (wi_bipush fHare_allRuns_11 (wi_aald10707 fHare_allRuns_12 (by decide) (by decide) (wi_iload2 fHare_allRuns_13 (wi_iald1007 fHare_allRuns_14 (h.2 c2).1 (h.2 c2).2.1 (wi_iadd fHare_allRuns_15 (h.2 c2).2.2.1 (wi_istore1 fHare_allRuns_16 trivial (wi_iinc2 fHare_allRuns_17 trivial ((h.2 c2).2.2.2 _ rfl).1 (wi_goto fHare_allRuns_18 ((h.2 c2).2.2.2 _ rfl).2))))))))))))))))
theorem k_Hare_allRuns {xs : List Int} {d : Nat} {Q : Option w_V → w_M → Prop}  {σ : w_M} (hp : p_Hare_allRuns σ) (hQ : Q (some (.inl (v_Hare_allRuns σ))) σ) : w_Call (xs, d) 92 [.inr (.inr (7, 63))] σ Q := by
  have hp' : hr_ok σ := hp
  have hs := hp'.1
  refine bHare_allRuns_0 ?_
  refine w_loop (n := (σ 63 0).toNat) (P := fun i => LHare_allRuns_4 xs d Q (f_sum (σ 71) i) (i : Int) σ) ?_ ?_
  · exact bHare_allRuns_4 ⟨fun _ => hQ, fun h => by omega⟩
  · intro i hi ih
    have h1 := (hp'.2 6 (by decide) i hi).1
    have h2 := f_sum_le (f := σ 71) (B := 729) (m := (σ 63 0).toNat) (fun i hi => (hp'.2 6 (by decide) i hi).1) (Nat.le_of_lt hi)
    have h3 : 0 ≤ σ 71 i ∧ σ 71 i ≤ 729 := h1
    simp only [f_sum] at ih
    rw [w_cs1] at ih
    refine bHare_allRuns_4 ⟨fun h => by omega, fun _ => ⟨by omega, by omega, ?_⟩⟩
    rw [Int.toNat_natCast]
    exact ⟨⟨by omega, by omega⟩, fun y ey => ⟨⟨by omega, by omega⟩, by rw [ey]; exact ih⟩⟩
/-- where to look: the first strip by which fewest are left at the worst -/
noncomputable def r_wst (all f : Int) : Int := if f ≤ all - f then all - f else f
noncomputable def r_best (f : Nat → Int) (all : Int) : Nat → Int × Int
  | 0 => (-4, all)
  | k + 1 => if r_wst all (f k) < (r_best f all k).2 then ((k : Int), r_wst all (f k)) else r_best f all k
theorem r_best_congr {f g : Nat → Int} {all : Int} : ∀ n, (∀ i, i < n → f i = g i) → r_best f all n = r_best g all n := by
  intro n
  induction n with
  | zero => intro _; rfl
  | succ n ih => intro h; simp only [r_best]; rw [ih (fun i hi => h i (by omega)), h n (by omega)]
noncomputable def r_ans (p : Int × Int) (w : Int) : Int := if p.1 = -4 then -4 else if w = 0 then p.1 else p.2
noncomputable def p_Hare_bestLook (n w : Int) (σ : w_M) : Prop := hr_ok σ ∧ (0 ≤ n ∧ n ≤ 6) ∧ (w = 0 ∨ w = 1)
noncomputable def v_Hare_bestLook (n w : Int) (σ : w_M) : Int := r_ans (r_best (fun i => σ (65 + n.toNat) i * σ (73 + n.toNat) i) (f_sum (σ 71) (σ 63 0).toNat) (σ 63 0).toNat) (1 - w)
theorem fHare_bestLook_0 : w_fe am_c93 0 1 (.aload 0) := ⟨rfl, rfl⟩
theorem fHare_bestLook_1 : w_fe am_c93 1 2 (.invokestatic 92) := ⟨rfl, rfl⟩
theorem fHare_bestLook_2 : w_fe am_c93 2 3 (.istore 3) := ⟨rfl, rfl⟩
theorem fHare_bestLook_3 : w_fe am_c93 3 4 (.bipush (-4)) := ⟨rfl, rfl⟩
theorem fHare_bestLook_4 : w_fe am_c93 4 5 (.istore 4) := ⟨rfl, rfl⟩
theorem fHare_bestLook_5 : w_fe am_c93 5 6 (.iload 3) := ⟨rfl, rfl⟩
theorem fHare_bestLook_6 : w_fe am_c93 6 7 (.istore 5) := ⟨rfl, rfl⟩
theorem fHare_bestLook_7 : w_fe am_c93 7 8 (.bipush 0) := ⟨rfl, rfl⟩
theorem fHare_bestLook_8 : w_fe am_c93 8 9 (.istore 6) := ⟨rfl, rfl⟩
theorem fHare_bestLook_9 : w_fe am_c93 9 10 (.iload 6) := ⟨rfl, rfl⟩
theorem fHare_bestLook_10 : w_fe am_c93 10 11 (.aload 0) := ⟨rfl, rfl⟩
theorem fHare_bestLook_11 : w_fe am_c93 11 12 (.getfield 700) := ⟨rfl, rfl⟩
theorem fHare_bestLook_12 : w_ic am_c93 12 13 .ge 33 := ⟨rfl, rfl⟩
theorem fHare_bestLook_13 : w_fe am_c93 13 14 (.aload 0) := ⟨rfl, rfl⟩
theorem fHare_bestLook_14 : w_fe am_c93 14 15 (.iload 1) := ⟨rfl, rfl⟩
theorem fHare_bestLook_15 : w_fe am_c93 15 16 (.iload 6) := ⟨rfl, rfl⟩
theorem fHare_bestLook_16 : w_fe am_c93 16 17 (.invokestatic 91) := ⟨rfl, rfl⟩
theorem fHare_bestLook_17 : w_fe am_c93 17 18 (.istore 7) := ⟨rfl, rfl⟩
theorem fHare_bestLook_18 : w_fe am_c93 18 19 (.iload 7) := ⟨rfl, rfl⟩
theorem fHare_bestLook_19 : w_fe am_c93 19 20 (.iload 3) := ⟨rfl, rfl⟩
theorem fHare_bestLook_20 : w_fe am_c93 20 21 (.iload 7) := ⟨rfl, rfl⟩
theorem fHare_bestLook_21 : w_fe am_c93 21 22 (.isub) := ⟨rfl, rfl⟩
theorem fHare_bestLook_22 : w_fe am_c93 22 23 (.invokestatic 2) := ⟨rfl, rfl⟩
theorem fHare_bestLook_23 : w_fe am_c93 23 24 (.istore 8) := ⟨rfl, rfl⟩
theorem fHare_bestLook_24 : w_fe am_c93 24 25 (.iload 8) := ⟨rfl, rfl⟩
theorem fHare_bestLook_25 : w_fe am_c93 25 26 (.iload 5) := ⟨rfl, rfl⟩
theorem fHare_bestLook_26 : w_ic am_c93 26 27 .ge 31 := ⟨rfl, rfl⟩
theorem fHare_bestLook_27 : w_fe am_c93 27 28 (.iload 6) := ⟨rfl, rfl⟩
theorem fHare_bestLook_28 : w_fe am_c93 28 29 (.istore 4) := ⟨rfl, rfl⟩
theorem fHare_bestLook_29 : w_fe am_c93 29 30 (.iload 8) := ⟨rfl, rfl⟩
theorem fHare_bestLook_30 : w_fe am_c93 30 31 (.istore 5) := ⟨rfl, rfl⟩
theorem fHare_bestLook_31 : w_fe am_c93 31 32 (.iinc 6 1) := ⟨rfl, rfl⟩
theorem fHare_bestLook_32 : w_gt am_c93 32 9 := rfl
theorem fHare_bestLook_33 : w_fe am_c93 33 34 (.iload 2) := ⟨rfl, rfl⟩
theorem fHare_bestLook_34 : w_if am_c93 34 35 .ne 38 := ⟨rfl, rfl⟩
theorem fHare_bestLook_35 : w_fe am_c93 35 36 (.iload 4) := ⟨rfl, rfl⟩
theorem fHare_bestLook_36 : w_fe am_c93 36 37 (.bipush (-4)) := ⟨rfl, rfl⟩
theorem fHare_bestLook_37 : w_ic am_c93 37 38 .ne 40 := ⟨rfl, rfl⟩
theorem fHare_bestLook_38 : w_fe am_c93 38 39 (.iload 4) := ⟨rfl, rfl⟩
theorem fHare_bestLook_39 : w_gt am_c93 39 41 := rfl
theorem fHare_bestLook_40 : w_fe am_c93 40 41 (.iload 5) := ⟨rfl, rfl⟩
theorem fHare_bestLook_41 : w_fe am_c93 41 42 (.ireturn) := ⟨rfl, rfl⟩
noncomputable def LHare_bestLook_9 (xs : List Int) (d : Nat) (Q : Option w_V → w_M → Prop) (v1 : Int) (v2 : Int) (v3 : Int) (v4 : Int) (v5 : Int) (v6 : Int) (σ : w_M) : Prop := ∀ l7, w_nl l7 → ∀ l8, w_nl l8 → w_Ex (xs, d) 1 am_c93 Q 9 [some (.inr (.inr (7, 63))), some (.inl v1), some (.inl v2), some (.inl v3), some (.inl v4), some (.inl v5), some (.inl v6), l7, l8] [] σ
set_option maxRecDepth 20000 in
theorem bHare_bestLook_0 {xs : List Int} {d : Nat} {Q : Option w_V → w_M → Prop} {x1 : Int} {x2 : Int} {σ : w_M}
    (h : p_Hare_allRuns σ ∧ (∀ (y1 : Int), y1 = v_Hare_allRuns σ → LHare_bestLook_9 xs (d + 1) Q x1 x2 y1 (-4) y1 0 σ)) : w_Call (xs, (d + 1)) 93 [.inr (.inr (7, 63)), .inl x1, .inl x2] σ Q :=
  (w_mk (mid := 93) (by decide) rfl rfl rfl rfl rfl (Nat.le_of_ble_eq_true rfl) ⟨rfl, Or.inl (by decide)⟩ (wi_aload0 fHare_bestLook_0 (wi_call1 fHare_bestLook_1 (Nat.le_of_ble_eq_true rfl) (k_Hare_allRuns h.1 (wi_istore3 fHare_bestLook_2 trivial (wi_bipush fHare_bestLook_3 (wi_istore4 fHare_bestLook_4 trivial (wi_iload3 fHare_bestLook_5 (wi_istore5 fHare_bestLook_6 trivial (wi_bipush fHare_bestLook_7 (wi_istore6 fHare_bestLook_8 trivial ((h.2 _ rfl) _ (by exact trivial) _ (by exact trivial)))))))))))))
set_option maxRecDepth 20000 in
theorem bHare_bestLook_9 {xs : List Int} {d : Nat} {Q : Option w_V → w_M → Prop} {v1 : Int} {v2 : Int} {v3 : Int} {v4 : Int} {v5 : Int} {v6 : Int} {σ : w_M}
    (h : ((σ 63 0) ≤ v6 → ((¬ v2 = 0 → Q (some (.inl v4)) σ) ∧ (v2 = 0 → ((¬ v4 = (-4) → Q (some (.inl v5)) σ) ∧ (v4 = (-4) → Q (some (.inl v4)) σ))))) ∧ (v6 < (σ 63 0) → (p_Hare_runsThrough v1 v6 σ ∧ (∀ (y3 : Int), y3 = v_Hare_runsThrough v1 v6 σ → (w_in (v3 - y3) ∧ (∀ (y4 : Int), y4 = v_Math_max y3 (v3 - y3) → ((v5 ≤ y4 → (w_in (v6 + 1) ∧ LHare_bestLook_9 xs (d + 1) Q v1 v2 v3 v4 v5 (v6 + 1) σ)) ∧ (y4 < v5 → (w_in (v6 + 1) ∧ LHare_bestLook_9 xs (d + 1) Q v1 v2 v3 v6 y4 (v6 + 1) σ))))))))) : LHare_bestLook_9 xs (d + 1) Q v1 v2 v3 v4 v5 v6 σ :=
  fun l7 nl7 => fun l8 nl8 => (wi_iload6 fHare_bestLook_9 (wi_aload0 fHare_bestLook_10 (wi_getf700 fHare_bestLook_11 (wi_ic_ge fHare_bestLook_12 (fun c6 => (wi_iload2 fHare_bestLook_33 (wi_if_ne fHare_bestLook_34 (fun c2 => (wi_iload4 fHare_bestLook_38 (wi_goto fHare_bestLook_39 (wi_ret1 fHare_bestLook_41 ((h.1 c6).1 c2))))) (fun c2 => (wi_iload4 fHare_bestLook_35 (wi_bipush fHare_bestLook_36 (wi_ic_ne fHare_bestLook_37 (fun c1 => (wi_iload5 fHare_bestLook_40 (wi_ret1 fHare_bestLook_41 (((h.1 c6).2 c2).1 c1)))) (fun c1 => (wi_iload4 fHare_bestLook_38 (wi_goto fHare_bestLook_39 (wi_ret1 fHare_bestLook_41 (((h.1 c6).2 c2).2 c1)))))))))))) (fun c6 => (wi_aload0 fHare_bestLook_13 (wi_iload1 fHare_bestLook_14 (wi_iload6 fHare_bestLook_15 (wi_call3 fHare_bestLook_16 (Nat.le_of_ble_eq_true rfl) (k_Hare_runsThrough (h.2 c6).1 (wi_istore7 fHare_bestLook_17 trivial (wi_iload7 fHare_bestLook_18 (wi_iload3 fHare_bestLook_19 (wi_iload7 fHare_bestLook_20 (wi_isub fHare_bestLook_21 ((h.2 c6).2 _ rfl).1 (wi_call2 fHare_bestLook_22 (Nat.le_of_ble_eq_true rfl) (k_Math_max (wi_istore8 fHare_bestLook_23 trivial (wi_iload8 fHare_bestLook_24 (wi_iload5 fHare_bestLook_25 (wi_ic_ge fHare_bestLook_26 (fun c5 => (wi_iinc6 fHare_bestLook_31 trivial ((((h.2 c6).2 _ rfl).2 _ rfl).1 c5).1 (wi_goto fHare_bestLook_32 (((((h.2 c6).2 _ rfl).2 _ rfl).1 c5).2 _ (by exact trivial) _ (by exact trivial))))) (fun c5 => (wi_iload6 fHare_bestLook_27 (wi_istore4 fHare_bestLook_28 trivial (wi_iload8 fHare_bestLook_29 (wi_istore5 fHare_bestLook_30 trivial (wi_iinc6 fHare_bestLook_31 trivial ((((h.2 c6).2 _ rfl).2 _ rfl).2 c5).1 (wi_goto fHare_bestLook_32 (((((h.2 c6).2 _ rfl).2 _ rfl).2 c5).2 _ (by exact trivial) _ (by exact trivial))))))))))))))))))))))))))))))
theorem k_Hare_bestLook {xs : List Int} {d : Nat} {Q : Option w_V → w_M → Prop} {x1 : Int} {x2 : Int} {σ : w_M} (hp : p_Hare_bestLook x1 x2 σ) (hQ : Q (some (.inl (v_Hare_bestLook x1 x2 σ))) σ) : w_Call (xs, d + 1) 93 [.inr (.inr (7, 63)), .inl x1, .inl x2] σ Q := by
  obtain ⟨hp', hn, hw⟩ := hp
  have hs := hp'.1
  have hall := f_sum_le (f := σ 71) (B := 729) (m := (σ 63 0).toNat) (fun i hi => (hp'.2 6 (by decide) i hi).1) (Nat.le_refl _)
  have hall2 : 0 ≤ f_sum (σ 71) (σ 63 0).toNat ∧ f_sum (σ 71) (σ 63 0).toNat ≤ 5103 := by omega
  unfold v_Hare_bestLook at hQ
  refine bHare_bestLook_0 ⟨hp', fun y1 e1 => ?_⟩
  unfold v_Hare_allRuns at e1
  rw [← e1] at hQ hall2
  generalize hf : (fun i => σ (65 + x1.toNat) i * σ (73 + x1.toNat) i) = f at hQ
  refine w_loop (n := (σ 63 0).toNat) (P := fun i => LHare_bestLook_9 xs (d + 1) Q x1 x2 y1 (r_best f y1 i).1 (r_best f y1 i).2 (i : Int) σ) ?_ ?_
  · unfold r_ans at hQ
    refine bHare_bestLook_9 ⟨fun _ => ⟨fun c => ?_, fun c => ⟨fun c2 => ?_, fun c2 => ?_⟩⟩, fun h => by omega⟩
    · by_cases c2 : (r_best f y1 (σ 63 0).toNat).1 = -4
      · rw [if_pos c2] at hQ; rw [c2]; exact hQ
      · rw [if_neg c2, if_pos (by omega)] at hQ; exact hQ
    · rw [if_neg c2, if_neg (by omega)] at hQ; exact hQ
    · rw [if_pos c2] at hQ; rw [c2]; exact hQ
  · intro i hi ih
    have hm := hp'.2 x1.toNat (by omega) i hi
    have hm2 := mul729 hm.1 hm.2
    have ef : v_Hare_runsThrough x1 (i : Int) σ = f i := by
      unfold v_Hare_runsThrough
      rw [if_pos (by omega), Int.toNat_natCast, ← hf]
    have hfi : 0 ≤ f i ∧ f i ≤ 531441 := by rw [← hf]; exact hm2
    simp only [r_best] at ih
    rw [w_cs1] at ih
    refine bHare_bestLook_9 ⟨fun h => by omega, fun _ => ⟨hp', fun y3 e3 => ?_⟩⟩
    rw [ef] at e3
    refine ⟨⟨by omega, by omega⟩, fun y4 e4 => ?_⟩
    have e4' : y4 = r_wst y1 (f i) := by
      rw [e4, e3]
      unfold v_Math_max r_wst
      split <;> split <;> omega
    rw [← e4'] at ih
    refine ⟨fun c => ⟨⟨by omega, by omega⟩, ?_⟩, fun c => ⟨⟨by omega, by omega⟩, ?_⟩⟩
    · rw [if_neg (by omega)] at ih; exact ih
    · rw [if_pos c] at ih; exact ih
noncomputable def r_t (S : w_S) (n i : Nat) : Int := r_if (S 1) n i (r_c (S 1) (n_s (S 0)) n i * r_h (S 1) (n_s (S 0)) (6 - n) i)
noncomputable def r_msk (f : Nat → Int) : Nat → Nat
  | 0 => 0
  | k + 1 => r_msk f k + (if 0 < f k then 2 ^ k else 0)
theorem r_msk_lt (f : Nat → Int) : ∀ k, r_msk f k < 2 ^ k := by
  intro k
  induction k with
  | zero => simp [r_msk]
  | succ k ih =>
    simp only [r_msk, Nat.pow_succ]
    split <;> omega
noncomputable def r_alls (S : w_S) : Int := f_sum (r_c (S 1) (n_s (S 0)) 6) (n_s (S 0))
noncomputable def F_hare (S : w_S) (n : Int) : Int := if 0 ≤ n ∧ n ≤ 6 then ((r_msk (r_t S n.toNat) (n_s (S 0)) : Nat) : Int) else -1
noncomputable def F_runs (S : w_S) : Int := r_alls S
noncomputable def F_look (S : w_S) (n w : Int) : Int := if (0 ≤ n ∧ n ≤ 6) ∧ (0 ≤ w ∧ w ≤ 1) then r_ans (r_best (r_t S n.toNat) (r_alls S) (n_s (S 0))) w else -1
theorem hc_fin {σ τ : w_M} (hC : CI σ) (h : q_Hare_countRuns 23 (σ 14 4) σ τ) : hr_ok τ ∧ τ 14 = σ 14 ∧ w_fr σ τ 31 80 ∧ (τ 63 0).toNat = n_s (cS σ 0) ∧ f_sum (τ 71) (τ 63 0).toNat = r_alls (cS σ) ∧ (∀ n, n ≤ 6 → ∀ i, i < n_s (cS σ 0) → τ (65 + n) i * τ (73 + n) i = r_t (cS σ) n i) := by
  obtain ⟨h1, h2, h3⟩ := h
  have hs := n_ok.s hC.ok
  have eS : cS σ 1 = s_ab σ 23 := rfl
  have en : n_s (cS σ 0) = (σ 14 4).toNat := rfl
  refine ⟨⟨by omega, fun n hn i hi => ?_⟩, h3 14 (by omega), h3.wide (by decide) (by decide), by rw [h1, en], ?_, fun n hn i hi => ?_⟩
  · rw [h1] at hi
    obtain ⟨a, b⟩ := h2 n hn i hi
    rw [a, b]
    exact ⟨r_c_le6 hn hi, r_g_le6 (by omega) hi⟩
  · unfold r_alls
    rw [h1, en, eS]
    exact f_sum_congr (fun i hi => (h2 6 (by decide) i hi).1)
  · rw [en] at hi
    obtain ⟨a, b⟩ := h2 n hn i hi
    unfold r_t
    rw [a, b, r_thr hn, eS, en]
theorem hc_pre {σ : w_M} (hC : CI σ) : p_Hare_countRuns 23 (σ 14 4) σ := ⟨n_ok.s hC.ok, hC.se, by decide⟩
noncomputable def p_Moon_hare (_x1 : Int) (σ : w_M) : Prop := CI σ
noncomputable def q_Moon_hare (x1 : Int) (σ : w_M) (x : Int) (σ' : w_M) : Prop := c_q (F_hare (cS σ) x1) (cS σ) σ x σ'
noncomputable def p_Moon_runs  (σ : w_M) : Prop := CI σ
noncomputable def q_Moon_runs  (σ : w_M) (x : Int) (σ' : w_M) : Prop := c_q (F_runs (cS σ)) (cS σ) σ x σ'
noncomputable def p_Moon_look (_x1 : Int) (_x2 : Int) (σ : w_M) : Prop := CI σ
noncomputable def q_Moon_look (x1 : Int) (x2 : Int) (σ : w_M) (x : Int) (σ' : w_M) : Prop := c_q (F_look (cS σ) x1 x2) (cS σ) σ x σ'
theorem fMoon_hare_0 : w_fe am_c139 0 1 (.iload 1) := ⟨rfl, rfl⟩
theorem fMoon_hare_1 : w_fe am_c139 1 2 (.bipush 0) := ⟨rfl, rfl⟩
theorem fMoon_hare_2 : w_fe am_c139 2 3 (.bipush 6) := ⟨rfl, rfl⟩
theorem fMoon_hare_3 : w_fe am_c139 3 4 (.invokestatic 107) := ⟨rfl, rfl⟩
theorem fMoon_hare_4 : w_if am_c139 4 5 .ne 7 := ⟨rfl, rfl⟩
theorem fMoon_hare_5 : w_fe am_c139 5 6 (.bipush (-1)) := ⟨rfl, rfl⟩
theorem fMoon_hare_6 : w_fe am_c139 6 7 (.ireturn) := ⟨rfl, rfl⟩
theorem fMoon_hare_7 : w_fe am_c139 7 8 (.aload 0) := ⟨rfl, rfl⟩
theorem fMoon_hare_8 : w_fe am_c139 8 9 (.getfield 5) := ⟨rfl, rfl⟩
theorem fMoon_hare_9 : w_fe am_c139 9 10 (.aload 0) := ⟨rfl, rfl⟩
theorem fMoon_hare_10 : w_fe am_c139 10 11 (.getfield 1) := ⟨rfl, rfl⟩
theorem fMoon_hare_11 : w_fe am_c139 11 12 (.getfield 301) := ⟨rfl, rfl⟩
theorem fMoon_hare_12 : w_fe am_c139 12 13 (.aload 0) := ⟨rfl, rfl⟩
theorem fMoon_hare_13 : w_fe am_c139 13 14 (.getfield 2) := ⟨rfl, rfl⟩
theorem fMoon_hare_14 : w_fe am_c139 14 15 (.getfield 204) := ⟨rfl, rfl⟩
theorem fMoon_hare_15 : w_fe am_c139 15 16 (.invokestatic 89) := ⟨rfl, rfl⟩
theorem fMoon_hare_16 : w_fe am_c139 16 17 (.bipush 0) := ⟨rfl, rfl⟩
theorem fMoon_hare_17 : w_fe am_c139 17 18 (.istore 2) := ⟨rfl, rfl⟩
theorem fMoon_hare_18 : w_fe am_c139 18 19 (.bipush 0) := ⟨rfl, rfl⟩
theorem fMoon_hare_19 : w_fe am_c139 19 20 (.istore 3) := ⟨rfl, rfl⟩
theorem fMoon_hare_20 : w_fe am_c139 20 21 (.iload 3) := ⟨rfl, rfl⟩
theorem fMoon_hare_21 : w_fe am_c139 21 22 (.aload 0) := ⟨rfl, rfl⟩
theorem fMoon_hare_22 : w_fe am_c139 22 23 (.getfield 2) := ⟨rfl, rfl⟩
theorem fMoon_hare_23 : w_fe am_c139 23 24 (.getfield 204) := ⟨rfl, rfl⟩
theorem fMoon_hare_24 : w_ic am_c139 24 25 .ge 40 := ⟨rfl, rfl⟩
theorem fMoon_hare_25 : w_fe am_c139 25 26 (.iload 2) := ⟨rfl, rfl⟩
theorem fMoon_hare_26 : w_fe am_c139 26 27 (.iload 3) := ⟨rfl, rfl⟩
theorem fMoon_hare_27 : w_fe am_c139 27 28 (.aload 0) := ⟨rfl, rfl⟩
theorem fMoon_hare_28 : w_fe am_c139 28 29 (.getfield 5) := ⟨rfl, rfl⟩
theorem fMoon_hare_29 : w_fe am_c139 29 30 (.iload 1) := ⟨rfl, rfl⟩
theorem fMoon_hare_30 : w_fe am_c139 30 31 (.iload 3) := ⟨rfl, rfl⟩
theorem fMoon_hare_31 : w_fe am_c139 31 32 (.invokestatic 91) := ⟨rfl, rfl⟩
theorem fMoon_hare_32 : w_if am_c139 32 33 .le 35 := ⟨rfl, rfl⟩
theorem fMoon_hare_33 : w_fe am_c139 33 34 (.bipush 1) := ⟨rfl, rfl⟩
theorem fMoon_hare_34 : w_gt am_c139 34 36 := rfl
theorem fMoon_hare_35 : w_fe am_c139 35 36 (.bipush 0) := ⟨rfl, rfl⟩
theorem fMoon_hare_36 : w_fe am_c139 36 37 (.invokestatic 110) := ⟨rfl, rfl⟩
theorem fMoon_hare_37 : w_fe am_c139 37 38 (.istore 2) := ⟨rfl, rfl⟩
theorem fMoon_hare_38 : w_fe am_c139 38 39 (.iinc 3 1) := ⟨rfl, rfl⟩
theorem fMoon_hare_39 : w_gt am_c139 39 20 := rfl
theorem fMoon_hare_40 : w_fe am_c139 40 41 (.iload 2) := ⟨rfl, rfl⟩
theorem fMoon_hare_41 : w_fe am_c139 41 42 (.ireturn) := ⟨rfl, rfl⟩
noncomputable def LMoon_hare_20 (xs : List Int) (d : Nat) (Q : Option w_V → w_M → Prop) (v1 : Int) (v2 : Int) (v3 : Int) (σ : w_M) : Prop := w_Ex (xs, d) 1 am_c139 Q 20 [some (.inr (.inr (0, 0))), some (.inl v1), some (.inl v2), some (.inl v3)] [] σ
set_option maxRecDepth 20000 in
theorem bMoon_hare_0 {xs : List Int} {d : Nat} {Q : Option w_V → w_M → Prop} {x1 : Int} {σ : w_M}
    (h : ((0 ≤ x1 ∧ x1 ≤ 6) → (p_Hare_countRuns 23 (σ 14 4) σ ∧ (∀ (τ1 : w_M), q_Hare_countRuns 23 (σ 14 4) σ τ1 → LMoon_hare_20 xs (d + 3) Q x1 0 0 τ1))) ∧ (¬ (0 ≤ x1 ∧ x1 ≤ 6) → Q (some (.inl (-1))) σ)) : w_Call (xs, (d + 3)) 139 [.inr (.inr (0, 0)), .inl x1] σ Q :=
  (w_mk (mid := 139) (by decide) rfl rfl rfl rfl rfl (Nat.le_of_ble_eq_true rfl) ⟨rfl, Or.inl (by decide)⟩ (wi_iload1 fMoon_hare_0 (wi_bipush fMoon_hare_1 (wi_bipush fMoon_hare_2 (wi_call3 fMoon_hare_3 (Nat.le_of_ble_eq_true rfl) (k_Moon_isWithin (wi_ifb_ne fMoon_hare_4 (fun c2 => (wi_aload0 fMoon_hare_7 (wi_getf5 fMoon_hare_8 (wi_aload0 fMoon_hare_9 (wi_getf1 fMoon_hare_10 (wi_getf301 fMoon_hare_11 (wi_aload0 fMoon_hare_12 (wi_getf2 fMoon_hare_13 (wi_getf204 fMoon_hare_14 (wi_call3 fMoon_hare_15 (Nat.le_of_ble_eq_true rfl) (k_Hare_countRuns (h.1 c2).1 (fun τ1 eτ1 => (wi_bipush fMoon_hare_16 (wi_istore2 fMoon_hare_17 trivial (wi_bipush fMoon_hare_18 (wi_istore3 fMoon_hare_19 trivial ((h.1 c2).2 τ1 eτ1))))))))))))))))) (fun c2 => (wi_bipush fMoon_hare_5 (wi_ret1 fMoon_hare_6 (h.2 c2)))))))))))
set_option maxRecDepth 20000 in
theorem bMoon_hare_20 {xs : List Int} {d : Nat} {Q : Option w_V → w_M → Prop} {v1 : Int} {v2 : Int} {v3 : Int} {σ : w_M}
    (h : ((σ 14 4) ≤ v3 → Q (some (.inl v2)) σ) ∧ (v3 < (σ 14 4) → (p_Hare_runsThrough v1 v3 σ ∧ (∀ (y1 : Int), y1 = v_Hare_runsThrough v1 v3 σ → ((y1 ≤ 0 → ∀ (y2 : Int), y2 = v_Moon_withBit v2 v3 0 → (w_in (v3 + 1) ∧ LMoon_hare_20 xs (d + 3) Q v1 y2 (v3 + 1) σ)) ∧ (0 < y1 → ∀ (y3 : Int), y3 = v_Moon_withBit v2 v3 1 → (w_in (v3 + 1) ∧ LMoon_hare_20 xs (d + 3) Q v1 y3 (v3 + 1) σ))))))) : LMoon_hare_20 xs (d + 3) Q v1 v2 v3 σ :=
  (wi_iload3 fMoon_hare_20 (wi_aload0 fMoon_hare_21 (wi_getf2 fMoon_hare_22 (wi_getf204 fMoon_hare_23 (wi_ic_ge fMoon_hare_24 (fun c5 => (wi_iload2 fMoon_hare_40 (wi_ret1 fMoon_hare_41 (h.1 c5)))) (fun c5 => (wi_iload2 fMoon_hare_25 (wi_iload3 fMoon_hare_26 (wi_aload0 fMoon_hare_27 (wi_getf5 fMoon_hare_28 (wi_iload1 fMoon_hare_29 (wi_iload3 fMoon_hare_30 (wi_call3 fMoon_hare_31 (Nat.le_of_ble_eq_true rfl) (k_Hare_runsThrough (h.2 c5).1 (wi_if_le fMoon_hare_32 (fun c4 => (wi_bipush fMoon_hare_35 (wi_call3 fMoon_hare_36 (Nat.le_of_ble_eq_true rfl) (k_Moon_withBit (wi_istore2 fMoon_hare_37 trivial (wi_iinc3 fMoon_hare_38 trivial ((((h.2 c5).2 _ rfl).1 c4) _ rfl).1 (wi_goto fMoon_hare_39 ((((h.2 c5).2 _ rfl).1 c4) _ rfl).2))))))) (fun c4 => (wi_bipush fMoon_hare_33 (wi_goto fMoon_hare_34 (wi_call3 fMoon_hare_36 (Nat.le_of_ble_eq_true rfl) (k_Moon_withBit (wi_istore2 fMoon_hare_37 trivial (wi_iinc3 fMoon_hare_38 trivial ((((h.2 c5).2 _ rfl).2 c4) _ rfl).1 (wi_goto fMoon_hare_39 ((((h.2 c5).2 _ rfl).2 c4) _ rfl).2)))))))))))))))))))))))
theorem fMoon_runs_0 : w_fe am_c140 0 1 (.aload 0) := ⟨rfl, rfl⟩
theorem fMoon_runs_1 : w_fe am_c140 1 2 (.getfield 5) := ⟨rfl, rfl⟩
theorem fMoon_runs_2 : w_fe am_c140 2 3 (.aload 0) := ⟨rfl, rfl⟩
theorem fMoon_runs_3 : w_fe am_c140 3 4 (.getfield 1) := ⟨rfl, rfl⟩
theorem fMoon_runs_4 : w_fe am_c140 4 5 (.getfield 301) := ⟨rfl, rfl⟩
theorem fMoon_runs_5 : w_fe am_c140 5 6 (.aload 0) := ⟨rfl, rfl⟩
theorem fMoon_runs_6 : w_fe am_c140 6 7 (.getfield 2) := ⟨rfl, rfl⟩
theorem fMoon_runs_7 : w_fe am_c140 7 8 (.getfield 204) := ⟨rfl, rfl⟩
theorem fMoon_runs_8 : w_fe am_c140 8 9 (.invokestatic 89) := ⟨rfl, rfl⟩
theorem fMoon_runs_9 : w_fe am_c140 9 10 (.aload 0) := ⟨rfl, rfl⟩
theorem fMoon_runs_10 : w_fe am_c140 10 11 (.getfield 5) := ⟨rfl, rfl⟩
theorem fMoon_runs_11 : w_fe am_c140 11 12 (.invokestatic 92) := ⟨rfl, rfl⟩
theorem fMoon_runs_12 : w_fe am_c140 12 13 (.ireturn) := ⟨rfl, rfl⟩
set_option maxRecDepth 20000 in
theorem bMoon_runs_0 {xs : List Int} {d : Nat} {Q : Option w_V → w_M → Prop}  {σ : w_M}
    (h : p_Hare_countRuns 23 (σ 14 4) σ ∧ (∀ (τ1 : w_M), q_Hare_countRuns 23 (σ 14 4) σ τ1 → (p_Hare_allRuns τ1 ∧ (∀ (y2 : Int), y2 = v_Hare_allRuns τ1 → Q (some (.inl y2)) τ1)))) : w_Call (xs, (d + 3)) 140 [.inr (.inr (0, 0))] σ Q :=
  (w_mk (mid := 140) (by decide) rfl rfl rfl rfl rfl (Nat.le_of_ble_eq_true rfl) ⟨rfl, Or.inl (by decide)⟩ (wi_aload0 fMoon_runs_0 (wi_getf5 fMoon_runs_1 (wi_aload0 fMoon_runs_2 (wi_getf1 fMoon_runs_3 (wi_getf301 fMoon_runs_4 (wi_aload0 fMoon_runs_5 (wi_getf2 fMoon_runs_6 (wi_getf204 fMoon_runs_7 (wi_call3 fMoon_runs_8 (Nat.le_of_ble_eq_true rfl) (k_Hare_countRuns h.1 (fun τ1 eτ1 => (wi_aload0 fMoon_runs_9 (wi_getf5 fMoon_runs_10 (wi_call1 fMoon_runs_11 (Nat.le_of_ble_eq_true rfl) (k_Hare_allRuns (h.2 τ1 eτ1).1 (wi_ret1 fMoon_runs_12 ((h.2 τ1 eτ1).2 _ rfl))))))))))))))))))
theorem fMoon_look_0 : w_fe am_c141 0 1 (.iload 1) := ⟨rfl, rfl⟩
theorem fMoon_look_1 : w_fe am_c141 1 2 (.bipush 0) := ⟨rfl, rfl⟩
theorem fMoon_look_2 : w_fe am_c141 2 3 (.bipush 6) := ⟨rfl, rfl⟩
theorem fMoon_look_3 : w_fe am_c141 3 4 (.invokestatic 107) := ⟨rfl, rfl⟩
theorem fMoon_look_4 : w_if am_c141 4 5 .eq 10 := ⟨rfl, rfl⟩
theorem fMoon_look_5 : w_fe am_c141 5 6 (.iload 2) := ⟨rfl, rfl⟩
theorem fMoon_look_6 : w_fe am_c141 6 7 (.bipush 0) := ⟨rfl, rfl⟩
theorem fMoon_look_7 : w_fe am_c141 7 8 (.bipush 1) := ⟨rfl, rfl⟩
theorem fMoon_look_8 : w_fe am_c141 8 9 (.invokestatic 107) := ⟨rfl, rfl⟩
theorem fMoon_look_9 : w_if am_c141 9 10 .ne 12 := ⟨rfl, rfl⟩
theorem fMoon_look_10 : w_fe am_c141 10 11 (.bipush (-1)) := ⟨rfl, rfl⟩
theorem fMoon_look_11 : w_fe am_c141 11 12 (.ireturn) := ⟨rfl, rfl⟩
theorem fMoon_look_12 : w_fe am_c141 12 13 (.aload 0) := ⟨rfl, rfl⟩
theorem fMoon_look_13 : w_fe am_c141 13 14 (.getfield 5) := ⟨rfl, rfl⟩
theorem fMoon_look_14 : w_fe am_c141 14 15 (.aload 0) := ⟨rfl, rfl⟩
theorem fMoon_look_15 : w_fe am_c141 15 16 (.getfield 1) := ⟨rfl, rfl⟩
theorem fMoon_look_16 : w_fe am_c141 16 17 (.getfield 301) := ⟨rfl, rfl⟩
theorem fMoon_look_17 : w_fe am_c141 17 18 (.aload 0) := ⟨rfl, rfl⟩
theorem fMoon_look_18 : w_fe am_c141 18 19 (.getfield 2) := ⟨rfl, rfl⟩
theorem fMoon_look_19 : w_fe am_c141 19 20 (.getfield 204) := ⟨rfl, rfl⟩
theorem fMoon_look_20 : w_fe am_c141 20 21 (.invokestatic 89) := ⟨rfl, rfl⟩
theorem fMoon_look_21 : w_fe am_c141 21 22 (.aload 0) := ⟨rfl, rfl⟩
theorem fMoon_look_22 : w_fe am_c141 22 23 (.getfield 5) := ⟨rfl, rfl⟩
theorem fMoon_look_23 : w_fe am_c141 23 24 (.iload 1) := ⟨rfl, rfl⟩
theorem fMoon_look_24 : w_fe am_c141 24 25 (.iload 2) := ⟨rfl, rfl⟩
theorem fMoon_look_25 : w_if am_c141 25 26 .ne 28 := ⟨rfl, rfl⟩
theorem fMoon_look_26 : w_fe am_c141 26 27 (.bipush 1) := ⟨rfl, rfl⟩
theorem fMoon_look_27 : w_gt am_c141 27 29 := rfl
theorem fMoon_look_28 : w_fe am_c141 28 29 (.bipush 0) := ⟨rfl, rfl⟩
theorem fMoon_look_29 : w_fe am_c141 29 30 (.invokestatic 93) := ⟨rfl, rfl⟩
theorem fMoon_look_30 : w_fe am_c141 30 31 (.ireturn) := ⟨rfl, rfl⟩
set_option maxRecDepth 20000 in
theorem bMoon_look_0 {xs : List Int} {d : Nat} {Q : Option w_V → w_M → Prop} {x1 : Int} {x2 : Int} {σ : w_M}
    (h : (¬ (0 ≤ x1 ∧ x1 ≤ 6) → Q (some (.inl (-1))) σ) ∧ ((0 ≤ x1 ∧ x1 ≤ 6) → (((0 ≤ x2 ∧ x2 ≤ 1) → (p_Hare_countRuns 23 (σ 14 4) σ ∧ (∀ (τ1 : w_M), q_Hare_countRuns 23 (σ 14 4) σ τ1 → ((¬ x2 = 0 → (p_Hare_bestLook x1 0 τ1 ∧ (∀ (y2 : Int), y2 = v_Hare_bestLook x1 0 τ1 → Q (some (.inl y2)) τ1))) ∧ (x2 = 0 → (p_Hare_bestLook x1 1 τ1 ∧ (∀ (y3 : Int), y3 = v_Hare_bestLook x1 1 τ1 → Q (some (.inl y3)) τ1))))))) ∧ (¬ (0 ≤ x2 ∧ x2 ≤ 1) → Q (some (.inl (-1))) σ)))) : w_Call (xs, (d + 3)) 141 [.inr (.inr (0, 0)), .inl x1, .inl x2] σ Q :=
  (w_mk (mid := 141) (by decide) rfl rfl rfl rfl rfl (Nat.le_of_ble_eq_true rfl) ⟨rfl, Or.inl (by decide)⟩ (wi_iload1 fMoon_look_0 (wi_bipush fMoon_look_1 (wi_bipush fMoon_look_2 (wi_call3 fMoon_look_3 (Nat.le_of_ble_eq_true rfl) (k_Moon_isWithin (wi_ifb_eq fMoon_look_4 (fun c6 => (wi_bipush fMoon_look_10 (wi_ret1 fMoon_look_11 (h.1 c6)))) (fun c6 => (wi_iload2 fMoon_look_5 (wi_bipush fMoon_look_6 (wi_bipush fMoon_look_7 (wi_call3 fMoon_look_8 (Nat.le_of_ble_eq_true rfl) (k_Moon_isWithin (wi_ifb_ne fMoon_look_9 (fun c5 => (wi_aload0 fMoon_look_12 (wi_getf5 fMoon_look_13 (wi_aload0 fMoon_look_14 (wi_getf1 fMoon_look_15 (wi_getf301 fMoon_look_16 (wi_aload0 fMoon_look_17 (wi_getf2 fMoon_look_18 (wi_getf204 fMoon_look_19 (wi_call3 fMoon_look_20 (Nat.le_of_ble_eq_true rfl) (k_Hare_countRuns ((h.2 c6).1 c5).1 (fun τ1 eτ1 => (wi_aload0 fMoon_look_21 (wi_getf5 fMoon_look_22 (wi_iload1 fMoon_look_23 (wi_iload2 fMoon_look_24 (wi_if_ne fMoon_look_25 (fun c4 => (wi_bipush fMoon_look_28 (wi_call3 fMoon_look_29 (Nat.le_of_ble_eq_true rfl) (k_Hare_bestLook ((((h.2 c6).1 c5).2 τ1 eτ1).1 c4).1 (wi_ret1 fMoon_look_30 (((((h.2 c6).1 c5).2 τ1 eτ1).1 c4).2 _ rfl)))))) (fun c4 => (wi_bipush fMoon_look_26 (wi_goto fMoon_look_27 (wi_call3 fMoon_look_29 (Nat.le_of_ble_eq_true rfl) (k_Hare_bestLook ((((h.2 c6).1 c5).2 τ1 eτ1).2 c4).1 (wi_ret1 fMoon_look_30 (((((h.2 c6).1 c5).2 τ1 eτ1).2 c4).2 _ rfl)))))))))))))))))))))))) (fun c5 => (wi_bipush fMoon_look_10 (wi_ret1 fMoon_look_11 ((h.2 c6).2 c5))))))))))))))))))
theorem k_Moon_hare {xs : List Int} {d : Nat} {Q : Option w_V → w_M → Prop} {x1 : Int} {σ : w_M} (hp : p_Moon_hare x1 σ) (hQ : ∀ (x : Int) (σ' : w_M), q_Moon_hare x1 σ x σ' → Q (some (.inl x)) σ') : w_Call (xs, d + 3) 139 [.inr (.inr (0, 0)), .inl x1] σ Q := by
  have hC : CI σ := hp
  have hs := n_ok.s hC.ok
  unfold q_Moon_hare F_hare at hQ
  refine bMoon_hare_0 ⟨fun c => ⟨hc_pre hC, fun τ hq => ?_⟩, fun c => ?_⟩
  · obtain ⟨g1, g2, g3, g4, g5, g6⟩ := hc_fin hC hq
    have h63 := hq.1
    have en : n_s (cS σ 0) = (σ 14 4).toNat := rfl
    rw [if_pos c] at hQ
    refine w_loop (n := (σ 14 4).toNat) (P := fun i => LMoon_hare_20 xs (d + 3) Q x1 ((r_msk (r_t (cS σ) x1.toNat) i : Nat) : Int) (i : Int) τ) ?_ ?_
    · refine bMoon_hare_20 ⟨fun _ => hQ _ _ (c_qs hC g3 (by rw [en])), fun h => by rw [g2] at h; omega⟩
    · intro i hi ih
      have hb := w_bit_set i (by omega) _ (r_msk_lt (r_t (cS σ) x1.toNat) i)
      have et := g6 x1.toNat (by omega) i hi
      simp only [r_msk] at ih
      rw [w_cs1] at ih
      refine bMoon_hare_20 ⟨fun h => by rw [g2] at h; omega, fun _ => ⟨g1, fun y ey => ?_⟩⟩
      have ey2 : y = r_t (cS σ) x1.toNat i := by
        rw [ey]
        unfold v_Hare_runsThrough
        rw [if_pos (by omega), Int.toNat_natCast]
        exact et
      refine ⟨fun c2 y2 e2 => ⟨⟨by omega, by omega⟩, ?_⟩, fun c2 y2 e2 => ⟨⟨by omega, by omega⟩, ?_⟩⟩
      · rw [if_neg (by rw [← ey2]; omega), Nat.add_zero] at ih
        rw [e2, hb.2]
        exact ih
      · rw [if_pos (by rw [← ey2]; exact c2)] at ih
        rw [e2, hb.1]
        exact ih
  · rw [if_neg c] at hQ
    exact hQ _ _ (c_qr hC rfl)
theorem k_Moon_runs {xs : List Int} {d : Nat} {Q : Option w_V → w_M → Prop}  {σ : w_M} (hp : p_Moon_runs σ) (hQ : ∀ (x : Int) (σ' : w_M), q_Moon_runs σ x σ' → Q (some (.inl x)) σ') : w_Call (xs, d + 3) 140 [.inr (.inr (0, 0))] σ Q := by
  have hC : CI σ := hp
  unfold q_Moon_runs F_runs at hQ
  refine bMoon_runs_0 ⟨hc_pre hC, fun τ hq => ?_⟩
  obtain ⟨g1, g2, g3, g4, g5, g6⟩ := hc_fin hC hq
  refine ⟨g1, fun y ey => hQ _ _ (c_qs hC g3 ?_)⟩
  rw [ey]
  exact g5
theorem k_Moon_look {xs : List Int} {d : Nat} {Q : Option w_V → w_M → Prop} {x1 : Int} {x2 : Int} {σ : w_M} (hp : p_Moon_look x1 x2 σ) (hQ : ∀ (x : Int) (σ' : w_M), q_Moon_look x1 x2 σ x σ' → Q (some (.inl x)) σ') : w_Call (xs, d + 3) 141 [.inr (.inr (0, 0)), .inl x1, .inl x2] σ Q := by
  have hC : CI σ := hp
  unfold q_Moon_look F_look at hQ
  refine bMoon_look_0 ⟨fun c => ?_, fun c => ⟨fun c2 => ⟨hc_pre hC, fun τ hq => ?_⟩, fun c2 => ?_⟩⟩
  · rw [if_neg (fun q => c q.1)] at hQ
    exact hQ _ _ (c_qr hC rfl)
  · obtain ⟨g1, g2, g3, g4, g5, g6⟩ := hc_fin hC hq
    rw [if_pos ⟨c, c2⟩] at hQ
    have key : ∀ w : Int, v_Hare_bestLook x1 w τ = r_ans (r_best (r_t (cS σ) x1.toNat) (r_alls (cS σ)) (n_s (cS σ 0))) (1 - w) := fun w => by
      unfold v_Hare_bestLook
      rw [g5, g4, r_best_congr (n_s (cS σ 0)) (fun i hi => g6 x1.toNat (by omega) i hi)]
    refine ⟨fun c3 => ⟨⟨g1, c, Or.inl rfl⟩, fun y ey => hQ _ _ (c_qs hC g3 ?_)⟩, fun c3 => ⟨⟨g1, c, Or.inr rfl⟩, fun y ey => hQ _ _ (c_qs hC g3 ?_)⟩⟩
    · rw [ey, key, show x2 = 1 by omega]; rfl
    · rw [ey, key, c3]; rfl
  · rw [if_neg (fun q => c2 q.2)] at hQ
    exact hQ _ _ (c_qr hC rfl)
