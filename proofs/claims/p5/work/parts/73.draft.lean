/-! The reference: what the draft tells -/
noncomputable def d_am (σ : w_M) : w_M := fun d i => if d = 0 then (if i = 0 then σ 122 7 else if i = 2 then σ 126 41 else if i = 4 then σ 122 8 else if i = 5 then σ 122 9 else if i = 6 then σ 122 11 else if i = 7 then σ 122 10 else 0)
  else if d ≤ 2 then (if i < (σ 122 8).toNat then σ 126 (m_ix d i) else 0) else if d = 3 ∨ d = 4 ∨ d = 6 then (if i < (σ 122 9).toNat then σ 126 (m_ix d i) else 0) else 0
noncomputable def m_cn (σ : w_M) : Prop := (σ 126 42 = 0 ∧ σ 126 47 = -4) ∧ (σ 126 48 = 0 ∧ σ 126 73 = 0) ∧ (∀ o, o < 4 → σ 126 (43 + o) = 0) ∧ (∀ r, r < 4 → σ 126 (25 + 5 * r) = 0) ∧ ∀ r, r < (σ 122 9).toNat → σ 126 (23 + 5 * r) = 3
noncomputable def m_hi (D : w_M) (a b : Int) : Prop := (∀ s : Nat, s ≤ 7 → (a < s ↔ (∀ r, r < (D 0 5).toNat → D 6 r < s) ∧ (D 0 6).toNat < 2 ^ s)) ∧ ∀ h : Nat, h ≤ 12 → (b < h ↔ (D 0 2).toNat < 2 ^ h)
noncomputable def dm (σ : w_M) : Prop := d_WF (d_am σ) ∧ m_cn σ ∧ m_hi (d_am σ) (σ 122 12) (σ 122 13)
theorem d_am_0 {σ : w_M} {i : Nat} : d_am σ 0 i = if i = 0 then σ 122 7 else if i = 2 then σ 126 41 else if i = 4 then σ 122 8 else if i = 5 then σ 122 9 else if i = 6 then σ 122 11 else if i = 7 then σ 122 10 else 0 := rfl
theorem d_am_12 {σ : w_M} {d i : Nat} (h1 : 1 ≤ d) (h2 : d ≤ 2) : d_am σ d i = if i < (σ 122 8).toNat then σ 126 (m_ix d i) else 0 := by unfold d_am; rw [if_neg (by omega), if_pos h2]
theorem d_am_346 {σ : w_M} {d i : Nat} (h : d = 3 ∨ d = 4 ∨ d = 6) : d_am σ d i = if i < (σ 122 9).toNat then σ 126 (m_ix d i) else 0 := by unfold d_am; rw [if_neg (by omega), if_neg (by omega), if_pos h]
theorem d_am_no {σ : w_M} {d i : Nat} (h : d = 5 ∨ 7 ≤ d) : d_am σ d i = 0 := by unfold d_am; rw [if_neg (by omega), if_neg (by omega), if_neg (by omega)]
theorem d_am_eq {σ : w_M} {X : w_M} (h0 : ∀ i, d_am σ 0 i = X 0 i) (h12 : ∀ d i, 1 ≤ d → d ≤ 2 → (if i < (σ 122 8).toNat then σ 126 (m_ix d i) else 0) = X d i) (h346 : ∀ d i, (d = 3 ∨ d = 4 ∨ d = 6) → (if i < (σ 122 9).toNat then σ 126 (m_ix d i) else 0) = X d i) (hno : ∀ d i, (d = 5 ∨ 7 ≤ d) → X d i = 0) : d_am σ = X := by
  funext d i
  by_cases e0 : d = 0
  · rw [e0]; exact h0 i
  · by_cases e2 : d ≤ 2
    · rw [d_am_12 (by omega) e2]; exact h12 d i (by omega) e2
    · by_cases e3 : d = 3 ∨ d = 4 ∨ d = 6
      · rw [d_am_346 e3]; exact h346 d i e3
      · rw [d_am_no (by omega)]; exact (hno d i (by omega)).symm
theorem d_am_fr {σ τ : w_M} (e6 : τ 126 = σ 126) (e2 : ∀ j, 7 ≤ j → j < 12 → τ 122 j = σ 122 j) : d_am τ = d_am σ := by
  funext d i
  unfold d_am
  rw [e6, e2 7 (by decide) (by decide), e2 8 (by decide) (by decide), e2 9 (by decide) (by decide), e2 10 (by decide) (by decide), e2 11 (by decide) (by decide)]
theorem m_cn_fr {σ τ : w_M} (h : m_cn σ) (e6 : τ 126 = σ 126) (e2 : τ 122 9 = σ 122 9) : m_cn τ := by
  unfold m_cn at h ⊢
  rw [e6, e2]
  exact h
theorem mk_or {m v s : Nat} : m ||| 2 ^ v < 2 ^ s ↔ m < 2 ^ s ∧ v < s := by
  constructor
  · intro h
    have h1 : m ≤ m ||| 2 ^ v := Nat.left_le_or
    have h2 : 2 ^ v ≤ m ||| 2 ^ v := Nat.right_le_or
    exact ⟨Nat.lt_of_le_of_lt h1 h, (Nat.pow_lt_pow_iff_right (by decide)).mp (Nat.lt_of_le_of_lt h2 h)⟩
  · rintro ⟨h1, h2⟩
    exact Nat.or_lt_two_pow h1 (Nat.pow_lt_pow_right (by decide) h2)
theorem mx_lt {b v h : Int} : (if b < v then v else b) < h ↔ b < h ∧ v < h := by
  split <;> omega
theorem m_hi_fr {D D' : w_M} {a b : Int} (h : m_hi D a b) (h5 : D' 0 5 = D 0 5) (h6 : D' 0 6 = D 0 6) (h2 : D' 0 2 = D 0 2) (hr : ∀ r, r < (D 0 5).toNat → D' 6 r = D 6 r) : m_hi D' a b := by
  unfold m_hi at h ⊢
  rw [h5, h6, h2]
  refine ⟨fun s hs => ?_, h.2⟩
  rw [h.1 s hs]
  exact ⟨fun ⟨x, y⟩ => ⟨fun r q => by rw [hr r q]; exact x r q, y⟩, fun ⟨x, y⟩ => ⟨fun r q => by rw [← hr r q]; exact x r q, y⟩⟩
theorem m_or_n {D v : Int} {n : Nat} (hD : 0 ≤ D ∧ D < 2 ^ n) (hv : 0 ≤ v ∧ v < n) (hn : n ≤ 12) : (w_or D (w_shl 1 v)).toNat = D.toNat ||| 2 ^ v.toNat := by
  obtain ⟨m, hm⟩ := Int.eq_ofNat_of_zero_le hD.1
  obtain ⟨w, hw⟩ := Int.eq_ofNat_of_zero_le hv.1
  have h1 : m < 2 ^ n := by
    have := hD.2
    rw [hm] at this
    exact_mod_cast this
  rw [hm, hw, (w_or_mask h1 (by omega) hn).1, Int.toNat_natCast, Int.toNat_natCast, Int.toNat_natCast]
set_option maxHeartbeats 2000000 in
theorem le_D {σ τ τ' : w_M} {k : Nat} {v0 v1 v2 : Int} (hk : k < 5) (hd : dm σ) (hb : ln_b (d_am σ) k = 0) (a6 : τ 126 = σ 126) (a2 : ∀ j, j < 16 → j ≠ 10 → τ 122 j = σ 122 j) (a10 : τ 122 10 = if k = 0 then 1 else σ 122 10) (hq : le_q k v0 v1 v2 τ τ') (hv : ln_lo k 0 ≤ v0 ∧ v0 ≤ ln_hi k 0) : d_am τ' = ln_D (d_am σ) k v0 v1 v2 ∧ m_cn τ' ∧ m_hi (d_am τ') (τ' 122 12) (τ' 122 13) := by
  obtain ⟨hW, hc, hh⟩ := hd
  obtain ⟨q0, q1, q2, q3, q4⟩ := hq
  have w4 : 0 ≤ σ 122 8 ∧ σ 122 8 ≤ 7 := hW.2.2.1
  have w5 : 0 ≤ σ 122 9 ∧ σ 122 9 ≤ 4 := hW.2.2.2.1
  have ix1 : ∀ i, m_ix 1 i = i := fun i => rfl
  have ix2 : ∀ i, m_ix 2 i = 7 + i := fun i => rfl
  have ix3 : ∀ i, m_ix 3 i = 21 + 5 * i := fun i => rfl
  have ix4 : ∀ i, m_ix 4 i = 22 + 5 * i := fun i => rfl
  have ix6 : ∀ i, m_ix 6 i = 24 + 5 * i := fun i => rfl
  have ix12 : ∀ d i, 1 ≤ d → d ≤ 2 → i < (σ 122 8).toNat → m_ix d i < 21 := fun d i h1 h2 h3 => by
    rcases (show d = 1 ∨ d = 2 by omega) with rfl | rfl
    · rw [ix1]; omega
    · rw [ix2]; omega
  have ix346 : ∀ d i, (d = 3 ∨ d = 4 ∨ d = 6) → i < (σ 122 9).toNat → 21 ≤ m_ix d i ∧ m_ix d i < 41 := fun d i h1 h3 => by
    rcases h1 with rfl | rfl | rfl
    · rw [ix3]; omega
    · rw [ix4]; omega
    · rw [ix6]; omega
  unfold ln_b at hb
  rcases (show k = 0 ∨ k = 1 ∨ k = 2 ∨ k = 3 ∨ k = 4 by omega) with rfl | rfl | rfl | rfl | rfl
  · obtain ⟨u6, u7, u2⟩ := q0 rfl
    have e6 : τ' 126 = σ 126 := u6.trans a6
    have e2 : ∀ j, j < 16 → j ≠ 7 → j ≠ 10 → τ' 122 j = σ 122 j := fun j h1 h2 h3 => (u2 j h1 h2).trans (a2 j h1 h3)
    have e10 : τ' 122 10 = 1 := by rw [u2 10 (by decide) (by decide), a10, if_pos rfl]
    have eD : d_am τ' = ln_D (d_am σ) 0 v0 v1 v2 := by
      show _ = w_up (w_up (d_am σ) 0 0 v0) 0 7 1
      refine d_am_eq (fun i => ?_) (fun d i h1 h2 => ?_) (fun d i h => ?_) (fun d i h => ?_)
      · rw [w_up_v, w_up_v, d_am_0, d_am_0, e6, u7, e10, e2 8 (by decide) (by decide) (by decide), e2 9 (by decide) (by decide) (by decide), e2 11 (by decide) (by decide) (by decide)]
        by_cases h7 : i = 7
        · simp [h7]
        · by_cases h0 : i = 0
          · simp [h0]
          · simp [h7, h0]
      · rw [w_up_ne (by omega), w_up_ne (by omega), d_am_12 h1 h2, e6, e2 8 (by decide) (by decide) (by decide)]
      · rw [w_up_ne (by omega), w_up_ne (by omega), d_am_346 h, e6, e2 9 (by decide) (by decide) (by decide)]
      · rw [w_up_ne (by omega), w_up_ne (by omega), d_am_no h]
    refine ⟨eD, m_cn_fr hc e6 (e2 9 (by decide) (by decide) (by decide)), ?_⟩
    rw [eD, e2 12 (by decide) (by decide) (by decide), e2 13 (by decide) (by decide) (by decide)]
    exact m_hi_fr hh rfl rfl rfl (fun r _ => rfl)
  · obtain ⟨u6, u8, u2⟩ := q1 rfl
    rw [if_neg (by omega)] at hb
    have hs : σ 122 8 < 7 := by
      by_cases q : 7 ≤ d_am σ 0 4
      · rw [if_pos (Or.inl ⟨rfl, q⟩)] at hb; omega
      · have q' : ¬ 7 ≤ σ 122 8 := q
        omega
    obtain ⟨n, hn⟩ : ∃ n : Nat, σ 122 8 = (n : Int) := ⟨(σ 122 8).toNat, by omega⟩
    rw [if_neg (by decide)] at a10
    have e2 : ∀ j, j < 16 → j ≠ 8 → τ' 122 j = σ 122 j := fun j h1 h2 => by
      rw [u2 j h1 h2]
      by_cases h3 : j = 10
      · rw [h3]; exact a10
      · exact a2 j h1 h3
    have t8 : τ 122 8 = (n : Int) := by rw [a2 8 (by decide) (by decide)]; exact hn
    rw [t8, Int.toNat_natCast, a6] at u6
    rw [t8] at u8
    have ln : (d_am σ 0 4).toNat = n := by show (σ 122 8).toNat = n; omega
    have e6 : ∀ x, 21 ≤ x → τ' 126 x = σ 126 x := fun x hx => by rw [u6, if_neg (by omega), if_neg (by omega)]
    have eD : d_am τ' = ln_D (d_am σ) 1 v0 v1 v2 := by
      show _ = w_up (w_up (w_up (d_am σ) 1 (d_am σ 0 4).toNat v0) 2 (d_am σ 0 4).toNat v1) 0 4 (d_am σ 0 4 + 1)
      rw [ln]
      refine d_am_eq (fun i => ?_) (fun d i h1 h2 => ?_) (fun d i h => ?_) (fun d i h => ?_)
      · have e4 : d_am σ 0 4 = (n : Int) := hn
        rw [w_up_v, e4, w_up_ne (by decide), w_up_ne (by decide), d_am_0, d_am_0, e6 41 (by decide), e2 7 (by decide) (by decide), e2 9 (by decide) (by decide), e2 10 (by decide) (by decide), e2 11 (by decide) (by decide), u8]
        by_cases h4 : i = 4
        · simp [h4]
        · simp [h4]
      · rw [w_up_ne (by omega), u8, show ((n : Int) + 1).toNat = n + 1 by omega, u6]
        rcases (show d = 1 ∨ d = 2 by omega) with rfl | rfl
        · rw [w_up_ne (by decide), w_up_v, d_am_12 (by decide) (by decide), hn, Int.toNat_natCast, ix1]
          by_cases hi : i = n
          · rw [if_pos (by omega), if_neg (by omega), if_pos hi, if_pos hi]
          · by_cases hi2 : i < n
            · rw [if_pos (by omega), if_neg (by omega), if_neg hi, if_neg hi, if_pos hi2]
            · rw [if_neg (by omega), if_neg hi, if_neg hi2]
        · rw [w_up_v, w_up_ne (by decide), d_am_12 (by decide) (by decide), hn, Int.toNat_natCast, ix2]
          by_cases hi : i = n
          · rw [if_pos (by omega), if_pos (by omega), if_pos hi]
          · by_cases hi2 : i < n
            · rw [if_pos (by omega), if_neg (by omega), if_neg (by omega), if_neg hi, if_pos hi2]
            · rw [if_neg (by omega), if_neg hi, if_neg hi2]
      · rw [w_up_ne (by omega), w_up_ne (by omega), w_up_ne (by omega), d_am_346 h, e2 9 (by decide) (by decide)]
        by_cases hi : i < (σ 122 9).toNat
        · rw [if_pos hi, if_pos hi, e6 _ (ix346 d i h hi).1]
        · rw [if_neg hi, if_neg hi]
      · rw [w_up_ne (by omega), w_up_ne (by omega), w_up_ne (by omega), d_am_no h]
    refine ⟨eD, ?_, ?_⟩
    · obtain ⟨⟨c1, c2⟩, ⟨c3, c4⟩, c5, c6, c7⟩ := hc
      refine ⟨⟨(e6 _ (by omega)).trans c1, (e6 _ (by omega)).trans c2⟩, ⟨(e6 _ (by omega)).trans c3, (e6 _ (by omega)).trans c4⟩, fun o ho => (e6 _ (by omega)).trans (c5 o ho), fun r hr => (e6 _ (by omega)).trans (c6 r hr), fun r hr => ?_⟩
      rw [e2 9 (by decide) (by decide)] at hr
      exact (e6 _ (by omega)).trans (c7 r hr)
    · rw [eD, e2 12 (by decide) (by decide), e2 13 (by decide) (by decide)]
      exact m_hi_fr hh rfl rfl rfl (fun r _ => rfl)
  · obtain ⟨u6, u9, u12, u2⟩ := q2 rfl
    rw [if_neg (by omega)] at hb
    have hs : σ 122 9 < 4 := by
      by_cases q : 4 ≤ d_am σ 0 5
      · rw [if_pos (Or.inr ⟨rfl, q⟩)] at hb; omega
      · have q' : ¬ 4 ≤ σ 122 9 := q
        omega
    obtain ⟨n, hn⟩ : ∃ n : Nat, σ 122 9 = (n : Int) := ⟨(σ 122 9).toNat, by omega⟩
    rw [if_neg (by decide)] at a10
    have e2 : ∀ j, j < 16 → j ≠ 9 → j ≠ 12 → τ' 122 j = σ 122 j := fun j h1 h2 h4 => by
      rw [u2 j h1 h2 h4]
      by_cases h3 : j = 10
      · rw [h3]; exact a10
      · exact a2 j h1 h3
    have t9 : τ 122 9 = (n : Int) := by rw [a2 9 (by decide) (by decide)]; exact hn
    rw [t9, Int.toNat_natCast, a6] at u6
    rw [t9] at u9
    rw [a2 12 (by decide) (by decide)] at u12
    have ln : (d_am σ 0 5).toNat = n := by show (σ 122 9).toNat = n; omega
    have e6 : ∀ x, x < 21 ∨ 41 ≤ x → τ' 126 x = σ 126 x := fun x hx => by rw [u6, if_neg (by omega), if_neg (by omega), if_neg (by omega), if_neg (by omega)]
    have eD : d_am τ' = ln_D (d_am σ) 2 v0 v1 v2 := by
      show _ = w_up (w_up (w_up (w_up (d_am σ) 3 (d_am σ 0 5).toNat v0) 4 (d_am σ 0 5).toNat v1) 6 (d_am σ 0 5).toNat v2) 0 5 (d_am σ 0 5 + 1)
      rw [ln]
      refine d_am_eq (fun i => ?_) (fun d i h1 h2 => ?_) (fun d i h => ?_) (fun d i h => ?_)
      · have e5 : d_am σ 0 5 = (n : Int) := hn
        rw [w_up_v, e5, w_up_ne (by decide), w_up_ne (by decide), w_up_ne (by decide), d_am_0, d_am_0, e6 41 (by decide), e2 7 (by decide) (by decide) (by decide), e2 8 (by decide) (by decide) (by decide), e2 10 (by decide) (by decide) (by decide), e2 11 (by decide) (by decide) (by decide), u9]
        by_cases h5 : i = 5
        · simp [h5]
        · simp [h5]
      · rw [w_up_ne (by omega), w_up_ne (by omega), w_up_ne (by omega), w_up_ne (by omega), d_am_12 h1 h2, e2 8 (by decide) (by decide) (by decide)]
        by_cases hi : i < (σ 122 8).toNat
        · rw [if_pos hi, if_pos hi, e6 _ (Or.inl (ix12 d i h1 h2 hi))]
        · rw [if_neg hi, if_neg hi]
      · rw [w_up_ne (by omega), u9, show ((n : Int) + 1).toNat = n + 1 by omega, u6]
        rcases h with rfl | rfl | rfl
        · rw [w_up_ne (by decide), w_up_ne (by decide), w_up_v, d_am_346 (by omega), hn, Int.toNat_natCast, ix3]
          by_cases hi : i = n
          · rw [if_pos (by omega), if_neg (by omega), if_neg (by omega), if_neg (by omega), if_pos (by omega), if_pos hi]
          · by_cases hi2 : i < n
            · rw [if_pos (by omega), if_neg (by omega), if_neg (by omega), if_neg (by omega), if_neg (by omega), if_neg hi, if_pos hi2]
            · rw [if_neg (by omega), if_neg hi, if_neg hi2]
        · rw [w_up_ne (by decide), w_up_v, w_up_ne (by decide), d_am_346 (by omega), hn, Int.toNat_natCast, ix4]
          by_cases hi : i = n
          · rw [if_pos (by omega), if_neg (by omega), if_neg (by omega), if_pos (by omega), if_pos hi]
          · by_cases hi2 : i < n
            · rw [if_pos (by omega), if_neg (by omega), if_neg (by omega), if_neg (by omega), if_neg (by omega), if_neg hi, if_pos hi2]
            · rw [if_neg (by omega), if_neg hi, if_neg hi2]
        · rw [w_up_v, w_up_ne (by decide), w_up_ne (by decide), d_am_346 (by omega), hn, Int.toNat_natCast, ix6]
          by_cases hi : i = n
          · rw [if_pos (by omega), if_pos (by omega), if_pos hi]
          · by_cases hi2 : i < n
            · rw [if_pos (by omega), if_neg (by omega), if_neg (by omega), if_neg (by omega), if_neg (by omega), if_neg hi, if_pos hi2]
            · rw [if_neg (by omega), if_neg hi, if_neg hi2]
      · rw [w_up_ne (by omega), w_up_ne (by omega), w_up_ne (by omega), w_up_ne (by omega), d_am_no h]
    refine ⟨eD, ?_, ?_⟩
    · obtain ⟨⟨c1, c2⟩, ⟨c3, c4⟩, c5, c6, c7⟩ := hc
      refine ⟨⟨(e6 _ (by omega)).trans c1, (e6 _ (by omega)).trans c2⟩, ⟨(e6 _ (by omega)).trans c3, (e6 _ (by omega)).trans c4⟩, fun o ho => (e6 _ (by omega)).trans (c5 o ho), fun r hr => ?_, fun r hr => ?_⟩
      · rw [u6, if_neg (by omega), if_neg (by omega), if_neg (by omega), if_neg (by omega)]
        exact c6 r hr
      · rw [u9] at hr
        by_cases er : r = n
        · rw [u6, if_neg (by omega), if_pos (by omega)]
        · rw [u6, if_neg (by omega), if_neg (by omega), if_neg (by omega), if_neg (by omega)]
          exact c7 r (by omega)
    · rw [eD, u12, e2 13 (by decide) (by decide) (by decide)]
      refine ⟨fun s hs7 => ?_, hh.2⟩
      rw [mx_lt, hh.1 s hs7]
      have f5 : (ln_D (d_am σ) 2 v0 v1 v2 0 5).toNat = n + 1 := by
        show (d_am σ 0 5 + 1).toNat = n + 1
        have e5 : d_am σ 0 5 = (n : Int) := hn
        omega
      have f6 : ∀ r, ln_D (d_am σ) 2 v0 v1 v2 6 r = if r = n then v2 else d_am σ 6 r := fun r => by
        show w_up (w_up (w_up (w_up (d_am σ) 3 (d_am σ 0 5).toNat v0) 4 (d_am σ 0 5).toNat v1) 6 (d_am σ 0 5).toNat v2) 0 5 (d_am σ 0 5 + 1) 6 r = _
        rw [ln, w_up_ne (by decide), w_up_v, w_up_ne (by decide), w_up_ne (by decide)]
      rw [f5, ln]
      have g6 : ln_D (d_am σ) 2 v0 v1 v2 0 6 = d_am σ 0 6 := rfl
      rw [g6]
      constructor
      · rintro ⟨⟨x1, x2⟩, x3⟩
        refine ⟨fun r hr => ?_, x2⟩
        rw [f6]
        by_cases er : r = n
        · rw [if_pos er]; exact x3
        · rw [if_neg er]; exact x1 r (by omega)
      · rintro ⟨x1, x2⟩
        refine ⟨⟨fun r hr => ?_, x2⟩, ?_⟩
        · have := x1 r (by omega)
          rw [f6, if_neg (by omega)] at this
          exact this
        · have := x1 n (by omega)
          rw [f6, if_pos rfl] at this
          exact this
  · obtain ⟨u6, u13, u2⟩ := q3 rfl
    have e0 : (0 : Int) ≤ v0 ∧ v0 ≤ 11 := hv
    rw [if_neg (by decide)] at a10
    rw [a6] at u6
    rw [a2 13 (by decide) (by decide)] at u13
    have e2 : ∀ j, j < 16 → j ≠ 13 → τ' 122 j = σ 122 j := fun j h1 h2 => by
      rw [u2 j h1 h2]
      by_cases h3 : j = 10
      · rw [h3]; exact a10
      · exact a2 j h1 h3
    have e6 : ∀ x, x ≠ 41 → τ' 126 x = σ 126 x := fun x hx => by rw [u6, if_neg hx]
    have eD : d_am τ' = ln_D (d_am σ) 3 v0 v1 v2 := by
      show _ = w_up (d_am σ) 0 2 (w_or (σ 126 41) (w_shl 1 v0))
      refine d_am_eq (fun i => ?_) (fun d i h1 h2 => ?_) (fun d i h => ?_) (fun d i h => ?_)
      · rw [w_up_v, d_am_0, d_am_0, u6, if_pos rfl, e2 7 (by decide) (by decide), e2 8 (by decide) (by decide), e2 9 (by decide) (by decide), e2 10 (by decide) (by decide), e2 11 (by decide) (by decide)]
        by_cases h2 : i = 2
        · simp [h2]
        · simp [h2]
      · rw [w_up_ne (by omega), d_am_12 h1 h2, e2 8 (by decide) (by decide)]
        by_cases hi : i < (σ 122 8).toNat
        · have := ix12 d i h1 h2 hi
          rw [if_pos hi, if_pos hi, e6 _ (by omega)]
        · rw [if_neg hi, if_neg hi]
      · rw [w_up_ne (by omega), d_am_346 h, e2 9 (by decide) (by decide)]
        by_cases hi : i < (σ 122 9).toNat
        · have := ix346 d i h hi
          rw [if_pos hi, if_pos hi, e6 _ (by omega)]
        · rw [if_neg hi, if_neg hi]
      · rw [w_up_ne (by omega), d_am_no h]
    refine ⟨eD, ?_, ?_⟩
    · obtain ⟨⟨c1, c2⟩, ⟨c3, c4⟩, c5, c6, c7⟩ := hc
      refine ⟨⟨(e6 _ (by omega)).trans c1, (e6 _ (by omega)).trans c2⟩, ⟨(e6 _ (by omega)).trans c3, (e6 _ (by omega)).trans c4⟩, fun o ho => (e6 _ (by omega)).trans (c5 o ho), fun r hr => (e6 _ (by omega)).trans (c6 r hr), fun r hr => ?_⟩
      rw [e2 9 (by decide) (by decide)] at hr
      exact (e6 _ (by omega)).trans (c7 r hr)
    · rw [eD, u13, e2 12 (by decide) (by decide)]
      refine ⟨hh.1, fun h h12 => ?_⟩
      rw [mx_lt, hh.2 h h12]
      show _ ↔ (w_or (d_am σ 0 2) (w_shl 1 v0)).toNat < 2 ^ h
      have wD := hW.2.1
      rw [m_or_n (n := 12) ⟨wD.1, by have := wD.2; omega⟩ ⟨e0.1, by omega⟩ (by decide), mk_or]
      omega
  · obtain ⟨u6, u11, u12, u2⟩ := q4 rfl
    have e0 : (0 : Int) ≤ v0 ∧ v0 ≤ 6 := hv
    rw [if_neg (by decide)] at a10
    have e6 : τ' 126 = σ 126 := u6.trans a6
    rw [a2 11 (by decide) (by decide)] at u11
    rw [a2 12 (by decide) (by decide)] at u12
    have e2 : ∀ j, j < 16 → j ≠ 11 → j ≠ 12 → τ' 122 j = σ 122 j := fun j h1 h2 h4 => by
      rw [u2 j h1 h2 h4]
      by_cases h3 : j = 10
      · rw [h3]; exact a10
      · exact a2 j h1 h3
    have eD : d_am τ' = ln_D (d_am σ) 4 v0 v1 v2 := by
      show _ = w_up (d_am σ) 0 6 (w_or (σ 122 11) (w_shl 1 v0))
      refine d_am_eq (fun i => ?_) (fun d i h1 h2 => ?_) (fun d i h => ?_) (fun d i h => ?_)
      · rw [w_up_v, d_am_0, d_am_0, e6, u11, e2 7 (by decide) (by decide) (by decide), e2 8 (by decide) (by decide) (by decide), e2 9 (by decide) (by decide) (by decide), e2 10 (by decide) (by decide) (by decide)]
        by_cases h6 : i = 6
        · simp [h6]
        · simp [h6]
      · rw [w_up_ne (by omega), d_am_12 h1 h2, e6, e2 8 (by decide) (by decide) (by decide)]
      · rw [w_up_ne (by omega), d_am_346 h, e6, e2 9 (by decide) (by decide) (by decide)]
      · rw [w_up_ne (by omega), d_am_no h]
    refine ⟨eD, m_cn_fr hc e6 (e2 9 (by decide) (by decide) (by decide)), ?_⟩
    rw [eD, u12, e2 13 (by decide) (by decide) (by decide)]
    refine ⟨fun s hs => ?_, hh.2⟩
    rw [mx_lt, hh.1 s hs]
    show _ ↔ (∀ r, r < (d_am σ 0 5).toNat → d_am σ 6 r < s) ∧ (w_or (d_am σ 0 6) (w_shl 1 v0)).toNat < 2 ^ s
    have wD := hW.2.2.2.2.1
    rw [m_or_n (n := 7) ⟨wD.1, by have := wD.2; omega⟩ ⟨e0.1, by omega⟩ (by decide), mk_or]
    constructor
    · rintro ⟨⟨x1, x2⟩, x3⟩
      exact ⟨x1, x2, by omega⟩
    · rintro ⟨x1, x2, x3⟩
      exact ⟨⟨x1, x2⟩, by omega⟩
