section
/-! The reference: what the draft tells -/
noncomputable def d_am (σ : w_M) : w_M := fun d i => if d = 0 then (if i = 0 then σ 122 7 else if i = 2 then σ 126 41 else if i = 4 then σ 122 8 else if i = 5 then σ 122 9 else if i = 6 then σ 122 11 else if i = 7 then σ 122 10 else 0)
  else if d ≤ 2 then (if i < (σ 122 8).toNat then σ 126 (m_ix d i) else 0) else if d = 3 ∨ d = 4 ∨ d = 6 then (if i < (σ 122 9).toNat then σ 126 (m_ix d i) else 0) else 0
noncomputable def m_cn (σ : w_M) : Prop := (σ 126 42 = 0 ∧ σ 126 47 = -4) ∧ (σ 126 48 = 0 ∧ σ 126 73 = 0) ∧ (∀ o, o < 4 → σ 126 (43 + o) = 0) ∧ (∀ r, r < 4 → σ 126 (25 + 5 * r) = 0) ∧ ∀ r, r < (σ 122 9).toNat → σ 126 (23 + 5 * r) = 3
noncomputable def m_hi (D : w_M) (a b : Int) : Prop := (∀ s : Nat, s ≤ 7 → (a < s ↔ (∀ r, r < (D 0 5).toNat → D 6 r < s) ∧ (D 0 6).toNat < 2 ^ s)) ∧ ∀ h : Nat, h ≤ 12 → (b < h ↔ (D 0 2).toNat < 2 ^ h)
noncomputable def dm (σ : w_M) : Prop := d_WF (d_am σ) ∧ m_cn σ ∧ m_hi (d_am σ) (σ 122 12) (σ 122 13)
theorem d_am_0 {σ : w_M} {i : Nat} : d_am σ 0 i = if i = 0 then σ 122 7 else if i = 2 then σ 126 41 else if i = 4 then σ 122 8 else if i = 5 then σ 122 9 else if i = 6 then σ 122 11 else if i = 7 then σ 122 10 else 0 := rfl
theorem d_am_12 {σ : w_M} {d i : Nat} (h1 : 1 ≤ d) (h2 : d ≤ 2) : d_am σ d i = if i < (σ 122 8).toNat then σ 126 (m_ix d i) else 0 := by unfold d_am; rw [if_neg (by omega), if_pos h2]
theorem d_am_346 {σ : w_M} {d i : Nat} (h : d = 3 ∨ d = 4 ∨ d = 6) : d_am σ d i = if i < (σ 122 9).toNat then σ 126 (m_ix d i) else 0 := by unfold d_am; rw [if_neg (by omega), if_neg (by omega), if_pos h]
theorem d_am_no {σ : w_M} {d i : Nat} (h : d = 5 ∨ 7 ≤ d) : d_am σ d i = 0 := by unfold d_am; rw [if_neg (by omega), if_neg (by omega), if_neg (by omega)]
theorem d_am_eq {σ : w_M} {X : w_M} (h0 : ∀ i, d_am σ 0 i = X 0 i) (h12 : ∀ d i, 1 ≤ d → d ≤ 2 → (if i < (σ 122 8).toNat then σ 126 (m_ix d i) else 0) = X d i) (h346 : ∀ d i, (d = 3 ∨ d = 4 ∨ d = 6) → (if i < (σ 122 9).toNat then σ 126 (m_ix d i) else 0) = X d i) (hno : ∀ d i, (d = 5 ∨ 7 ≤ d) → X d i = 0) : d_am σ = X := by
  funext d i
  by_cases e0 : d = 0
  · rw [e0]; exact h0 i
  · by_cases e2 : d ≤ 2
    · rw [d_am_12 (by omega) e2]; exact h12 d i (by omega) e2
    · by_cases e3 : d = 3 ∨ d = 4 ∨ d = 6
      · rw [d_am_346 e3]; exact h346 d i e3
      · rw [d_am_no (by omega)]; exact (hno d i (by omega)).symm
theorem d_am_fr {σ τ : w_M} (e6 : τ 126 = σ 126) (e2 : ∀ j, 7 ≤ j → j < 12 → τ 122 j = σ 122 j) : d_am τ = d_am σ := by
  funext d i
  unfold d_am
  rw [e6, e2 7 (by decide) (by decide), e2 8 (by decide) (by decide), e2 9 (by decide) (by decide), e2 10 (by decide) (by decide), e2 11 (by decide) (by decide)]
theorem m_cn_fr {σ τ : w_M} (h : m_cn σ) (e6 : τ 126 = σ 126) (e2 : τ 122 9 = σ 122 9) : m_cn τ := by
  unfold m_cn at h ⊢
  rw [e6, e2]
  exact h
theorem mk_or {m v s : Nat} : m ||| 2 ^ v < 2 ^ s ↔ m < 2 ^ s ∧ v < s := by
  constructor
  · intro h
    have h1 : m ≤ m ||| 2 ^ v := Nat.left_le_or
    have h2 : 2 ^ v ≤ m ||| 2 ^ v := Nat.right_le_or
    exact ⟨Nat.lt_of_le_of_lt h1 h, (Nat.pow_lt_pow_iff_right (by decide)).mp (Nat.lt_of_le_of_lt h2 h)⟩
  · rintro ⟨h1, h2⟩
    exact Nat.or_lt_two_pow h1 (Nat.pow_lt_pow_right (by decide) h2)
theorem mx_lt {b v h : Int} : (if b < v then v else b) < h ↔ b < h ∧ v < h := by
  split <;> omega
theorem m_hi_fr {D D' : w_M} {a b : Int} (h : m_hi D a b) (h5 : D' 0 5 = D 0 5) (h6 : D' 0 6 = D 0 6) (h2 : D' 0 2 = D 0 2) (hr : ∀ r, r < (D 0 5).toNat → D' 6 r = D 6 r) : m_hi D' a b := by
  unfold m_hi at h ⊢
  rw [h5, h6, h2]
  refine ⟨fun s hs => ?_, h.2⟩
  rw [h.1 s hs]
  exact ⟨fun ⟨x, y⟩ => ⟨fun r q => by rw [hr r q]; exact x r q, y⟩, fun ⟨x, y⟩ => ⟨fun r q => by rw [← hr r q]; exact x r q, y⟩⟩
theorem m_or_n {D v : Int} {n : Nat} (hD : 0 ≤ D ∧ D < 2 ^ n) (hv : 0 ≤ v ∧ v < n) (hn : n ≤ 12) : (w_or D (w_shl 1 v)).toNat = D.toNat ||| 2 ^ v.toNat := by
  obtain ⟨m, hm⟩ := Int.eq_ofNat_of_zero_le hD.1
  obtain ⟨w, hw⟩ := Int.eq_ofNat_of_zero_le hv.1
  have h1 : m < 2 ^ n := by
    have := hD.2
    rw [hm] at this
    exact_mod_cast this
  rw [hm, hw, (w_or_mask h1 (by omega) hn).1, Int.toNat_natCast, Int.toNat_natCast, Int.toNat_natCast]
set_option maxHeartbeats 2000000 in
theorem le_D {σ τ τ' : w_M} {k : Nat} {v0 v1 v2 : Int} (hk : k < 5) (hd : dm σ) (hb : ln_b (d_am σ) k = 0) (a6 : τ 126 = σ 126) (a2 : ∀ j, j < 16 → j ≠ 10 → τ 122 j = σ 122 j) (a10 : τ 122 10 = if k = 0 then 1 else σ 122 10) (hq : le_q k v0 v1 v2 τ τ') (hv : ln_lo k 0 ≤ v0 ∧ v0 ≤ ln_hi k 0) : d_am τ' = ln_D (d_am σ) k v0 v1 v2 ∧ m_cn τ' ∧ m_hi (d_am τ') (τ' 122 12) (τ' 122 13) := by
  obtain ⟨hW, hc, hh⟩ := hd
  obtain ⟨q0, q1, q2, q3, q4⟩ := hq
  have w4 : 0 ≤ σ 122 8 ∧ σ 122 8 ≤ 7 := hW.2.2.1
  have w5 : 0 ≤ σ 122 9 ∧ σ 122 9 ≤ 4 := hW.2.2.2.1
  have ix1 : ∀ i, m_ix 1 i = i := fun i => rfl
  have ix2 : ∀ i, m_ix 2 i = 7 + i := fun i => rfl
  have ix3 : ∀ i, m_ix 3 i = 21 + 5 * i := fun i => rfl
  have ix4 : ∀ i, m_ix 4 i = 22 + 5 * i := fun i => rfl
  have ix6 : ∀ i, m_ix 6 i = 24 + 5 * i := fun i => rfl
  have ix12 : ∀ d i, 1 ≤ d → d ≤ 2 → i < (σ 122 8).toNat → m_ix d i < 21 := fun d i h1 h2 h3 => by
    rcases (show d = 1 ∨ d = 2 by omega) with rfl | rfl
    · rw [ix1]; omega
    · rw [ix2]; omega
  have ix346 : ∀ d i, (d = 3 ∨ d = 4 ∨ d = 6) → i < (σ 122 9).toNat → 21 ≤ m_ix d i ∧ m_ix d i < 41 := fun d i h1 h3 => by
    rcases h1 with rfl | rfl | rfl
    · rw [ix3]; omega
    · rw [ix4]; omega
    · rw [ix6]; omega
  unfold ln_b at hb
  rcases (show k = 0 ∨ k = 1 ∨ k = 2 ∨ k = 3 ∨ k = 4 by omega) with rfl | rfl | rfl | rfl | rfl
  · obtain ⟨u6, u7, u2⟩ := q0 rfl
    have e6 : τ' 126 = σ 126 := u6.trans a6
    have e2 : ∀ j, j < 16 → j ≠ 7 → j ≠ 10 → τ' 122 j = σ 122 j := fun j h1 h2 h3 => (u2 j h1 h2).trans (a2 j h1 h3)
    have e10 : τ' 122 10 = 1 := by rw [u2 10 (by decide) (by decide), a10, if_pos rfl]
    have eD : d_am τ' = ln_D (d_am σ) 0 v0 v1 v2 := by
      show _ = w_up (w_up (d_am σ) 0 0 v0) 0 7 1
      refine d_am_eq (fun i => ?_) (fun d i h1 h2 => ?_) (fun d i h => ?_) (fun d i h => ?_)
      · rw [w_up_v, w_up_v, d_am_0, d_am_0, e6, u7, e10, e2 8 (by decide) (by decide) (by decide), e2 9 (by decide) (by decide) (by decide), e2 11 (by decide) (by decide) (by decide)]
        by_cases h7 : i = 7
        · simp [h7]
        · by_cases h0 : i = 0
          · simp [h0]
          · simp [h7, h0]
      · rw [w_up_ne (by omega), w_up_ne (by omega), d_am_12 h1 h2, e6, e2 8 (by decide) (by decide) (by decide)]
      · rw [w_up_ne (by omega), w_up_ne (by omega), d_am_346 h, e6, e2 9 (by decide) (by decide) (by decide)]
      · rw [w_up_ne (by omega), w_up_ne (by omega), d_am_no h]
    refine ⟨eD, m_cn_fr hc e6 (e2 9 (by decide) (by decide) (by decide)), ?_⟩
    rw [eD, e2 12 (by decide) (by decide) (by decide), e2 13 (by decide) (by decide) (by decide)]
    exact m_hi_fr hh rfl rfl rfl (fun r _ => rfl)
  · obtain ⟨u6, u8, u2⟩ := q1 rfl
    rw [if_neg (by omega)] at hb
    have hs : σ 122 8 < 7 := by
      by_cases q : 7 ≤ d_am σ 0 4
      · rw [if_pos (Or.inl ⟨rfl, q⟩)] at hb; omega
      · have q' : ¬ 7 ≤ σ 122 8 := q
        omega
    obtain ⟨n, hn⟩ : ∃ n : Nat, σ 122 8 = (n : Int) := ⟨(σ 122 8).toNat, by omega⟩
    rw [if_neg (by decide)] at a10
    have e2 : ∀ j, j < 16 → j ≠ 8 → τ' 122 j = σ 122 j := fun j h1 h2 => by
      rw [u2 j h1 h2]
      by_cases h3 : j = 10
      · rw [h3]; exact a10
      · exact a2 j h1 h3
    have t8 : τ 122 8 = (n : Int) := by rw [a2 8 (by decide) (by decide)]; exact hn
    rw [t8, Int.toNat_natCast, a6] at u6
    rw [t8] at u8
    have ln : (d_am σ 0 4).toNat = n := by show (σ 122 8).toNat = n; omega
    have e6 : ∀ x, 21 ≤ x → τ' 126 x = σ 126 x := fun x hx => by rw [u6, if_neg (by omega), if_neg (by omega)]
    have eD : d_am τ' = ln_D (d_am σ) 1 v0 v1 v2 := by
      show _ = w_up (w_up (w_up (d_am σ) 1 (d_am σ 0 4).toNat v0) 2 (d_am σ 0 4).toNat v1) 0 4 (d_am σ 0 4 + 1)
      rw [ln]
      refine d_am_eq (fun i => ?_) (fun d i h1 h2 => ?_) (fun d i h => ?_) (fun d i h => ?_)
      · have e4 : d_am σ 0 4 = (n : Int) := hn
        rw [w_up_v, e4, w_up_ne (by decide), w_up_ne (by decide), d_am_0, d_am_0, e6 41 (by decide), e2 7 (by decide) (by decide), e2 9 (by decide) (by decide), e2 10 (by decide) (by decide), e2 11 (by decide) (by decide), u8]
        by_cases h4 : i = 4
        · simp [h4]
        · simp [h4]
      · rw [w_up_ne (by omega), u8, show ((n : Int) + 1).toNat = n + 1 by omega, u6]
        rcases (show d = 1 ∨ d = 2 by omega) with rfl | rfl
        · rw [w_up_ne (by decide), w_up_v, d_am_12 (by decide) (by decide), hn, Int.toNat_natCast, ix1]
          by_cases hi : i = n
          · rw [if_pos (by omega), if_neg (by omega), if_pos hi, if_pos hi]
          · by_cases hi2 : i < n
            · rw [if_pos (by omega), if_neg (by omega), if_neg hi, if_neg hi, if_pos hi2]
            · rw [if_neg (by omega), if_neg hi, if_neg hi2]
        · rw [w_up_v, w_up_ne (by decide), d_am_12 (by decide) (by decide), hn, Int.toNat_natCast, ix2]
          by_cases hi : i = n
          · rw [if_pos (by omega), if_pos (by omega), if_pos hi]
          · by_cases hi2 : i < n
            · rw [if_pos (by omega), if_neg (by omega), if_neg (by omega), if_neg hi, if_pos hi2]
            · rw [if_neg (by omega), if_neg hi, if_neg hi2]
      · rw [w_up_ne (by omega), w_up_ne (by omega), w_up_ne (by omega), d_am_346 h, e2 9 (by decide) (by decide)]
        by_cases hi : i < (σ 122 9).toNat
        · rw [if_pos hi, if_pos hi, e6 _ (ix346 d i h hi).1]
        · rw [if_neg hi, if_neg hi]
      · rw [w_up_ne (by omega), w_up_ne (by omega), w_up_ne (by omega), d_am_no h]
    refine ⟨eD, ?_, ?_⟩
    · obtain ⟨⟨c1, c2⟩, ⟨c3, c4⟩, c5, c6, c7⟩ := hc
      refine ⟨⟨(e6 _ (by omega)).trans c1, (e6 _ (by omega)).trans c2⟩, ⟨(e6 _ (by omega)).trans c3, (e6 _ (by omega)).trans c4⟩, fun o ho => (e6 _ (by omega)).trans (c5 o ho), fun r hr => (e6 _ (by omega)).trans (c6 r hr), fun r hr => ?_⟩
      rw [e2 9 (by decide) (by decide)] at hr
      exact (e6 _ (by omega)).trans (c7 r hr)
    · rw [eD, e2 12 (by decide) (by decide), e2 13 (by decide) (by decide)]
      exact m_hi_fr hh rfl rfl rfl (fun r _ => rfl)
  · obtain ⟨u6, u9, u12, u2⟩ := q2 rfl
    rw [if_neg (by omega)] at hb
    have hs : σ 122 9 < 4 := by
      by_cases q : 4 ≤ d_am σ 0 5
      · rw [if_pos (Or.inr ⟨rfl, q⟩)] at hb; omega
      · have q' : ¬ 4 ≤ σ 122 9 := q
        omega
    obtain ⟨n, hn⟩ : ∃ n : Nat, σ 122 9 = (n : Int) := ⟨(σ 122 9).toNat, by omega⟩
    rw [if_neg (by decide)] at a10
    have e2 : ∀ j, j < 16 → j ≠ 9 → j ≠ 12 → τ' 122 j = σ 122 j := fun j h1 h2 h4 => by
      rw [u2 j h1 h2 h4]
      by_cases h3 : j = 10
      · rw [h3]; exact a10
      · exact a2 j h1 h3
    have t9 : τ 122 9 = (n : Int) := by rw [a2 9 (by decide) (by decide)]; exact hn
    rw [t9, Int.toNat_natCast, a6] at u6
    rw [t9] at u9
    rw [a2 12 (by decide) (by decide)] at u12
    have ln : (d_am σ 0 5).toNat = n := by show (σ 122 9).toNat = n; omega
    have e6 : ∀ x, x < 21 ∨ 41 ≤ x → τ' 126 x = σ 126 x := fun x hx => by rw [u6, if_neg (by omega), if_neg (by omega), if_neg (by omega), if_neg (by omega)]
    have eD : d_am τ' = ln_D (d_am σ) 2 v0 v1 v2 := by
      show _ = w_up (w_up (w_up (w_up (d_am σ) 3 (d_am σ 0 5).toNat v0) 4 (d_am σ 0 5).toNat v1) 6 (d_am σ 0 5).toNat v2) 0 5 (d_am σ 0 5 + 1)
      rw [ln]
      refine d_am_eq (fun i => ?_) (fun d i h1 h2 => ?_) (fun d i h => ?_) (fun d i h => ?_)
      · have e5 : d_am σ 0 5 = (n : Int) := hn
        rw [w_up_v, e5, w_up_ne (by decide), w_up_ne (by decide), w_up_ne (by decide), d_am_0, d_am_0, e6 41 (by decide), e2 7 (by decide) (by decide) (by decide), e2 8 (by decide) (by decide) (by decide), e2 10 (by decide) (by decide) (by decide), e2 11 (by decide) (by decide) (by decide), u9]
        by_cases h5 : i = 5
        · simp [h5]
        · simp [h5]
      · rw [w_up_ne (by omega), w_up_ne (by omega), w_up_ne (by omega), w_up_ne (by omega), d_am_12 h1 h2, e2 8 (by decide) (by decide) (by decide)]
        by_cases hi : i < (σ 122 8).toNat
        · rw [if_pos hi, if_pos hi, e6 _ (Or.inl (ix12 d i h1 h2 hi))]
        · rw [if_neg hi, if_neg hi]
      · rw [w_up_ne (by omega), u9, show ((n : Int) + 1).toNat = n + 1 by omega, u6]
        rcases h with rfl | rfl | rfl
        · rw [w_up_ne (by decide), w_up_ne (by decide), w_up_v, d_am_346 (by omega), hn, Int.toNat_natCast, ix3]
          by_cases hi : i = n
          · rw [if_pos (by omega), if_neg (by omega), if_neg (by omega), if_neg (by omega), if_pos (by omega), if_pos hi]
          · by_cases hi2 : i < n
            · rw [if_pos (by omega), if_neg (by omega), if_neg (by omega), if_neg (by omega), if_neg (by omega), if_neg hi, if_pos hi2]
            · rw [if_neg (by omega), if_neg hi, if_neg hi2]
        · rw [w_up_ne (by decide), w_up_v, w_up_ne (by decide), d_am_346 (by omega), hn, Int.toNat_natCast, ix4]
          by_cases hi : i = n
          · rw [if_pos (by omega), if_neg (by omega), if_neg (by omega), if_pos (by omega), if_pos hi]
          · by_cases hi2 : i < n
            · rw [if_pos (by omega), if_neg (by omega), if_neg (by omega), if_neg (by omega), if_neg (by omega), if_neg hi, if_pos hi2]
            · rw [if_neg (by omega), if_neg hi, if_neg hi2]
        · rw [w_up_v, w_up_ne (by decide), w_up_ne (by decide), d_am_346 (by omega), hn, Int.toNat_natCast, ix6]
          by_cases hi : i = n
          · rw [if_pos (by omega), if_pos (by omega), if_pos hi]
          · by_cases hi2 : i < n
            · rw [if_pos (by omega), if_neg (by omega), if_neg (by omega), if_neg (by omega), if_neg (by omega), if_neg hi, if_pos hi2]
            · rw [if_neg (by omega), if_neg hi, if_neg hi2]
      · rw [w_up_ne (by omega), w_up_ne (by omega), w_up_ne (by omega), w_up_ne (by omega), d_am_no h]
    refine ⟨eD, ?_, ?_⟩
    · obtain ⟨⟨c1, c2⟩, ⟨c3, c4⟩, c5, c6, c7⟩ := hc
      refine ⟨⟨(e6 _ (by omega)).trans c1, (e6 _ (by omega)).trans c2⟩, ⟨(e6 _ (by omega)).trans c3, (e6 _ (by omega)).trans c4⟩, fun o ho => (e6 _ (by omega)).trans (c5 o ho), fun r hr => ?_, fun r hr => ?_⟩
      · rw [u6, if_neg (by omega), if_neg (by omega), if_neg (by omega), if_neg (by omega)]
        exact c6 r hr
      · rw [u9] at hr
        by_cases er : r = n
        · rw [u6, if_neg (by omega), if_pos (by omega)]
        · rw [u6, if_neg (by omega), if_neg (by omega), if_neg (by omega), if_neg (by omega)]
          exact c7 r (by omega)
    · rw [eD, u12, e2 13 (by decide) (by decide) (by decide)]
      refine ⟨fun s hs7 => ?_, hh.2⟩
      rw [mx_lt, hh.1 s hs7]
      have f5 : (ln_D (d_am σ) 2 v0 v1 v2 0 5).toNat = n + 1 := by
        show (d_am σ 0 5 + 1).toNat = n + 1
        have e5 : d_am σ 0 5 = (n : Int) := hn
        omega
      have f6 : ∀ r, ln_D (d_am σ) 2 v0 v1 v2 6 r = if r = n then v2 else d_am σ 6 r := fun r => by
        show w_up (w_up (w_up (w_up (d_am σ) 3 (d_am σ 0 5).toNat v0) 4 (d_am σ 0 5).toNat v1) 6 (d_am σ 0 5).toNat v2) 0 5 (d_am σ 0 5 + 1) 6 r = _
        rw [ln, w_up_ne (by decide), w_up_v, w_up_ne (by decide), w_up_ne (by decide)]
      rw [f5, ln]
      have g6 : ln_D (d_am σ) 2 v0 v1 v2 0 6 = d_am σ 0 6 := rfl
      rw [g6]
      constructor
      · rintro ⟨⟨x1, x2⟩, x3⟩
        refine ⟨fun r hr => ?_, x2⟩
        rw [f6]
        by_cases er : r = n
        · rw [if_pos er]; exact x3
        · rw [if_neg er]; exact x1 r (by omega)
      · rintro ⟨x1, x2⟩
        refine ⟨⟨fun r hr => ?_, x2⟩, ?_⟩
        · have := x1 r (by omega)
          rw [f6, if_neg (by omega)] at this
          exact this
        · have := x1 n (by omega)
          rw [f6, if_pos rfl] at this
          exact this
  · obtain ⟨u6, u13, u2⟩ := q3 rfl
    have e0 : (0 : Int) ≤ v0 ∧ v0 ≤ 11 := hv
    rw [if_neg (by decide)] at a10
    rw [a6] at u6
    rw [a2 13 (by decide) (by decide)] at u13
    have e2 : ∀ j, j < 16 → j ≠ 13 → τ' 122 j = σ 122 j := fun j h1 h2 => by
      rw [u2 j h1 h2]
      by_cases h3 : j = 10
      · rw [h3]; exact a10
      · exact a2 j h1 h3
    have e6 : ∀ x, x ≠ 41 → τ' 126 x = σ 126 x := fun x hx => by rw [u6, if_neg hx]
    have eD : d_am τ' = ln_D (d_am σ) 3 v0 v1 v2 := by
      show _ = w_up (d_am σ) 0 2 (w_or (σ 126 41) (w_shl 1 v0))
      refine d_am_eq (fun i => ?_) (fun d i h1 h2 => ?_) (fun d i h => ?_) (fun d i h => ?_)
      · rw [w_up_v, d_am_0, d_am_0, u6, if_pos rfl, e2 7 (by decide) (by decide), e2 8 (by decide) (by decide), e2 9 (by decide) (by decide), e2 10 (by decide) (by decide), e2 11 (by decide) (by decide)]
        by_cases h2 : i = 2
        · simp [h2]
        · simp [h2]
      · rw [w_up_ne (by omega), d_am_12 h1 h2, e2 8 (by decide) (by decide)]
        by_cases hi : i < (σ 122 8).toNat
        · have := ix12 d i h1 h2 hi
          rw [if_pos hi, if_pos hi, e6 _ (by omega)]
        · rw [if_neg hi, if_neg hi]
      · rw [w_up_ne (by omega), d_am_346 h, e2 9 (by decide) (by decide)]
        by_cases hi : i < (σ 122 9).toNat
        · have := ix346 d i h hi
          rw [if_pos hi, if_pos hi, e6 _ (by omega)]
        · rw [if_neg hi, if_neg hi]
      · rw [w_up_ne (by omega), d_am_no h]
    refine ⟨eD, ?_, ?_⟩
    · obtain ⟨⟨c1, c2⟩, ⟨c3, c4⟩, c5, c6, c7⟩ := hc
      refine ⟨⟨(e6 _ (by omega)).trans c1, (e6 _ (by omega)).trans c2⟩, ⟨(e6 _ (by omega)).trans c3, (e6 _ (by omega)).trans c4⟩, fun o ho => (e6 _ (by omega)).trans (c5 o ho), fun r hr => (e6 _ (by omega)).trans (c6 r hr), fun r hr => ?_⟩
      rw [e2 9 (by decide) (by decide)] at hr
      exact (e6 _ (by omega)).trans (c7 r hr)
    · rw [eD, u13, e2 12 (by decide) (by decide)]
      refine ⟨hh.1, fun h h12 => ?_⟩
      rw [mx_lt, hh.2 h h12]
      show _ ↔ (w_or (d_am σ 0 2) (w_shl 1 v0)).toNat < 2 ^ h
      have wD := hW.2.1
      rw [m_or_n (n := 12) ⟨wD.1, by have := wD.2; omega⟩ ⟨e0.1, by omega⟩ (by decide), mk_or]
      omega
  · obtain ⟨u6, u11, u12, u2⟩ := q4 rfl
    have e0 : (0 : Int) ≤ v0 ∧ v0 ≤ 6 := hv
    rw [if_neg (by decide)] at a10
    have e6 : τ' 126 = σ 126 := u6.trans a6
    rw [a2 11 (by decide) (by decide)] at u11
    rw [a2 12 (by decide) (by decide)] at u12
    have e2 : ∀ j, j < 16 → j ≠ 11 → j ≠ 12 → τ' 122 j = σ 122 j := fun j h1 h2 h4 => by
      rw [u2 j h1 h2 h4]
      by_cases h3 : j = 10
      · rw [h3]; exact a10
      · exact a2 j h1 h3
    have eD : d_am τ' = ln_D (d_am σ) 4 v0 v1 v2 := by
      show _ = w_up (d_am σ) 0 6 (w_or (σ 122 11) (w_shl 1 v0))
      refine d_am_eq (fun i => ?_) (fun d i h1 h2 => ?_) (fun d i h => ?_) (fun d i h => ?_)
      · rw [w_up_v, d_am_0, d_am_0, e6, u11, e2 7 (by decide) (by decide) (by decide), e2 8 (by decide) (by decide) (by decide), e2 9 (by decide) (by decide) (by decide), e2 10 (by decide) (by decide) (by decide)]
        by_cases h6 : i = 6
        · simp [h6]
        · simp [h6]
      · rw [w_up_ne (by omega), d_am_12 h1 h2, e6, e2 8 (by decide) (by decide) (by decide)]
      · rw [w_up_ne (by omega), d_am_346 h, e6, e2 9 (by decide) (by decide) (by decide)]
      · rw [w_up_ne (by omega), d_am_no h]
    refine ⟨eD, m_cn_fr hc e6 (e2 9 (by decide) (by decide) (by decide)), ?_⟩
    rw [eD, u12, e2 13 (by decide) (by decide) (by decide)]
    refine ⟨fun s hs => ?_, hh.2⟩
    rw [mx_lt, hh.1 s hs]
    show _ ↔ (∀ r, r < (d_am σ 0 5).toNat → d_am σ 6 r < s) ∧ (w_or (d_am σ 0 6) (w_shl 1 v0)).toNat < 2 ^ s
    have wD := hW.2.2.2.2.1
    rw [m_or_n (n := 7) ⟨wD.1, by have := wD.2; omega⟩ ⟨e0.1, by omega⟩ (by decide), mk_or]
    constructor
    · rintro ⟨⟨x1, x2⟩, x3⟩
      exact ⟨x1, x2, by omega⟩
    · rintro ⟨x1, x2, x3⟩
      exact ⟨⟨x1, x2⟩, by omega⟩
end
section
/-! The reference reads a line -/
noncomputable def rl_e (T : Nat → Int) (L k f b : Nat) (σ σ' : w_M) : Prop := (¬ (ln_f T L (d_am σ) k f b).1 = 0 → σ' 122 20 = (ln_f T L (d_am σ) k f b).1 ∧ σ' 122 21 = (((ln_f T L (d_am σ) k f b).2 : Nat) : Int)) ∧
  ((ln_f T L (d_am σ) k f b).1 = 0 → m_cur T L (tk_b T L (pp T L b (ln_m k))) σ' ∧ d_am σ' = ln_D (d_am σ) k (tk_v T L b) (tk_v T L (pp T L b 1)) (tk_v T L (pp T L b 2)) ∧ dm σ')
noncomputable def rl_m (T : Nat → Int) (L p : Nat) (σ σ' : w_M) : Prop := (¬ tk_k T L p = 1 ∨ ln_n T L (tk_f T L p) (tk_b T L p) = -1 → σ' 122 20 = 2 ∧ σ' 122 21 = ((tk_f T L p : Nat) : Int)) ∧
  (tk_k T L p = 1 → ¬ ln_n T L (tk_f T L p) (tk_b T L p) = -1 → rl_e T L (ln_n T L (tk_f T L p) (tk_b T L p)).toNat (tk_f T L p) (tk_b T L p) σ σ')
noncomputable def p_Model_readLine (σ : w_M) : Prop := σ 122 20 = 0 ∧ (∃ p, m_at (mT σ) (mL σ) p σ ∧ ¬ tk_k (mT σ) (mL σ) p = 0) ∧ dm σ
noncomputable def q_Model_readLine (σ σ' : w_M) : Prop := mo_h σ σ' ∧ ∀ p, m_at (mT σ) (mL σ) p σ → ¬ tk_k (mT σ) (mL σ) p = 0 → rl_m (mT σ) (mL σ) p σ σ'
theorem fModel_readLine_0 : w_fe am_c163 0 1 (.aload 0) := ⟨rfl, rfl⟩
theorem fModel_readLine_1 : w_fe am_c163 1 2 (.getfield 918) := ⟨rfl, rfl⟩
theorem fModel_readLine_2 : w_fe am_c163 2 3 (.bipush 1) := ⟨rfl, rfl⟩
theorem fModel_readLine_3 : w_ic am_c163 3 4 .ne 7 := ⟨rfl, rfl⟩
theorem fModel_readLine_4 : w_fe am_c163 4 5 (.aload 0) := ⟨rfl, rfl⟩
theorem fModel_readLine_5 : w_fe am_c163 5 6 (.invokestatic 164) := ⟨rfl, rfl⟩
theorem fModel_readLine_6 : w_gt am_c163 6 8 := rfl
theorem fModel_readLine_7 : w_fe am_c163 7 8 (.bipush (-4)) := ⟨rfl, rfl⟩
theorem fModel_readLine_8 : w_fe am_c163 8 9 (.istore 1) := ⟨rfl, rfl⟩
theorem fModel_readLine_9 : w_fe am_c163 9 10 (.aload 0) := ⟨rfl, rfl⟩
theorem fModel_readLine_10 : w_fe am_c163 10 11 (.iload 1) := ⟨rfl, rfl⟩
theorem fModel_readLine_11 : w_fe am_c163 11 12 (.bipush (-4)) := ⟨rfl, rfl⟩
theorem fModel_readLine_12 : w_ic am_c163 12 13 .eq 15 := ⟨rfl, rfl⟩
theorem fModel_readLine_13 : w_fe am_c163 13 14 (.bipush 1) := ⟨rfl, rfl⟩
theorem fModel_readLine_14 : w_gt am_c163 14 16 := rfl
theorem fModel_readLine_15 : w_fe am_c163 15 16 (.bipush 0) := ⟨rfl, rfl⟩
theorem fModel_readLine_16 : w_fe am_c163 16 17 (.bipush 2) := ⟨rfl, rfl⟩
theorem fModel_readLine_17 : w_fe am_c163 17 18 (.invokestatic 162) := ⟨rfl, rfl⟩
theorem fModel_readLine_18 : w_fe am_c163 18 19 (.aload 0) := ⟨rfl, rfl⟩
theorem fModel_readLine_19 : w_fe am_c163 19 20 (.iload 1) := ⟨rfl, rfl⟩
theorem fModel_readLine_20 : w_fe am_c163 20 21 (.bipush 1) := ⟨rfl, rfl⟩
theorem fModel_readLine_21 : w_ic am_c163 21 22 .ne 26 := ⟨rfl, rfl⟩
theorem fModel_readLine_22 : w_fe am_c163 22 23 (.aload 0) := ⟨rfl, rfl⟩
theorem fModel_readLine_23 : w_fe am_c163 23 24 (.getfield 908) := ⟨rfl, rfl⟩
theorem fModel_readLine_24 : w_fe am_c163 24 25 (.bipush 7) := ⟨rfl, rfl⟩
theorem fModel_readLine_25 : w_ic am_c163 25 26 .ge 35 := ⟨rfl, rfl⟩
theorem fModel_readLine_26 : w_fe am_c163 26 27 (.iload 1) := ⟨rfl, rfl⟩
theorem fModel_readLine_27 : w_fe am_c163 27 28 (.bipush 2) := ⟨rfl, rfl⟩
theorem fModel_readLine_28 : w_ic am_c163 28 29 .ne 33 := ⟨rfl, rfl⟩
theorem fModel_readLine_29 : w_fe am_c163 29 30 (.aload 0) := ⟨rfl, rfl⟩
theorem fModel_readLine_30 : w_fe am_c163 30 31 (.getfield 909) := ⟨rfl, rfl⟩
theorem fModel_readLine_31 : w_fe am_c163 31 32 (.bipush 4) := ⟨rfl, rfl⟩
theorem fModel_readLine_32 : w_ic am_c163 32 33 .ge 35 := ⟨rfl, rfl⟩
theorem fModel_readLine_33 : w_fe am_c163 33 34 (.bipush 1) := ⟨rfl, rfl⟩
theorem fModel_readLine_34 : w_gt am_c163 34 36 := rfl
theorem fModel_readLine_35 : w_fe am_c163 35 36 (.bipush 0) := ⟨rfl, rfl⟩
theorem fModel_readLine_36 : w_fe am_c163 36 37 (.bipush 5) := ⟨rfl, rfl⟩
theorem fModel_readLine_37 : w_fe am_c163 37 38 (.invokestatic 162) := ⟨rfl, rfl⟩
theorem fModel_readLine_38 : w_fe am_c163 38 39 (.aload 0) := ⟨rfl, rfl⟩
theorem fModel_readLine_39 : w_fe am_c163 39 40 (.iload 1) := ⟨rfl, rfl⟩
theorem fModel_readLine_40 : w_if am_c163 40 41 .ne 44 := ⟨rfl, rfl⟩
theorem fModel_readLine_41 : w_fe am_c163 41 42 (.aload 0) := ⟨rfl, rfl⟩
theorem fModel_readLine_42 : w_fe am_c163 42 43 (.getfield 910) := ⟨rfl, rfl⟩
theorem fModel_readLine_43 : w_if am_c163 43 44 .ne 46 := ⟨rfl, rfl⟩
theorem fModel_readLine_44 : w_fe am_c163 44 45 (.bipush 1) := ⟨rfl, rfl⟩
theorem fModel_readLine_45 : w_gt am_c163 45 47 := rfl
theorem fModel_readLine_46 : w_fe am_c163 46 47 (.bipush 0) := ⟨rfl, rfl⟩
theorem fModel_readLine_47 : w_fe am_c163 47 48 (.bipush 4) := ⟨rfl, rfl⟩
theorem fModel_readLine_48 : w_fe am_c163 48 49 (.invokestatic 162) := ⟨rfl, rfl⟩
theorem fModel_readLine_49 : w_fe am_c163 49 50 (.aload 0) := ⟨rfl, rfl⟩
theorem fModel_readLine_50 : w_fe am_c163 50 51 (.aload 0) := ⟨rfl, rfl⟩
theorem fModel_readLine_51 : w_fe am_c163 51 52 (.getfield 910) := ⟨rfl, rfl⟩
theorem fModel_readLine_52 : w_if am_c163 52 53 .ne 55 := ⟨rfl, rfl⟩
theorem fModel_readLine_53 : w_fe am_c163 53 54 (.iload 1) := ⟨rfl, rfl⟩
theorem fModel_readLine_54 : w_if am_c163 54 55 .ne 57 := ⟨rfl, rfl⟩
theorem fModel_readLine_55 : w_fe am_c163 55 56 (.bipush 1) := ⟨rfl, rfl⟩
theorem fModel_readLine_56 : w_gt am_c163 56 58 := rfl
theorem fModel_readLine_57 : w_fe am_c163 57 58 (.bipush 0) := ⟨rfl, rfl⟩
theorem fModel_readLine_58 : w_fe am_c163 58 59 (.putfield 910) := ⟨rfl, rfl⟩
theorem fModel_readLine_59 : w_fe am_c163 59 60 (.aload 0) := ⟨rfl, rfl⟩
theorem fModel_readLine_60 : w_fe am_c163 60 61 (.invokestatic 160) := ⟨rfl, rfl⟩
theorem fModel_readLine_61 : w_fe am_c163 61 62 (.aload 0) := ⟨rfl, rfl⟩
theorem fModel_readLine_62 : w_fe am_c163 62 63 (.getfield 920) := ⟨rfl, rfl⟩
theorem fModel_readLine_63 : w_if am_c163 63 64 .le 65 := ⟨rfl, rfl⟩
theorem fModel_readLine_64 : w_fe am_c163 64 65 (.return_) := ⟨rfl, rfl⟩
theorem fModel_readLine_65 : w_fe am_c163 65 66 (.aload 0) := ⟨rfl, rfl⟩
theorem fModel_readLine_66 : w_fe am_c163 66 67 (.iload 1) := ⟨rfl, rfl⟩
theorem fModel_readLine_67 : w_fe am_c163 67 68 (.invokestatic 167) := ⟨rfl, rfl⟩
theorem fModel_readLine_68 : w_fe am_c163 68 69 (.aload 0) := ⟨rfl, rfl⟩
theorem fModel_readLine_69 : w_fe am_c163 69 70 (.getfield 920) := ⟨rfl, rfl⟩
theorem fModel_readLine_70 : w_if am_c163 70 71 .ne 81 := ⟨rfl, rfl⟩
theorem fModel_readLine_71 : w_fe am_c163 71 72 (.aload 0) := ⟨rfl, rfl⟩
theorem fModel_readLine_72 : w_fe am_c163 72 73 (.aload 0) := ⟨rfl, rfl⟩
theorem fModel_readLine_73 : w_fe am_c163 73 74 (.getfield 918) := ⟨rfl, rfl⟩
theorem fModel_readLine_74 : w_fe am_c163 74 75 (.bipush 3) := ⟨rfl, rfl⟩
theorem fModel_readLine_75 : w_ic am_c163 75 76 .ne 78 := ⟨rfl, rfl⟩
theorem fModel_readLine_76 : w_fe am_c163 76 77 (.bipush 1) := ⟨rfl, rfl⟩
theorem fModel_readLine_77 : w_gt am_c163 77 79 := rfl
theorem fModel_readLine_78 : w_fe am_c163 78 79 (.bipush 0) := ⟨rfl, rfl⟩
theorem fModel_readLine_79 : w_fe am_c163 79 80 (.bipush 2) := ⟨rfl, rfl⟩
theorem fModel_readLine_80 : w_fe am_c163 80 81 (.invokestatic 162) := ⟨rfl, rfl⟩
theorem fModel_readLine_81 : w_fe am_c163 81 82 (.aload 0) := ⟨rfl, rfl⟩
theorem fModel_readLine_82 : w_fe am_c163 82 83 (.invokestatic 160) := ⟨rfl, rfl⟩
theorem fModel_readLine_83 : w_fe am_c163 83 84 (.return_) := ⟨rfl, rfl⟩
noncomputable def LModel_readLine_8 (xs : List Int) (d : Nat) (Q : Option w_V → w_M → Prop) (s0 : Int) (σ : w_M) : Prop := ∀ l1, w_nl l1 → w_Ex (xs, d) 0 am_c163 Q 8 [some (.inr (.inr (9, 122))), l1] [.inl s0] σ
noncomputable def LModel_readLine_16 (xs : List Int) (d : Nat) (Q : Option w_V → w_M → Prop) (v1 : Int) (s0 : Int) (σ : w_M) : Prop := w_Ex (xs, d) 0 am_c163 Q 16 [some (.inr (.inr (9, 122))), some (.inl v1)] [.inl s0, .inr (.inr (9, 122))] σ
noncomputable def LModel_readLine_36 (xs : List Int) (d : Nat) (Q : Option w_V → w_M → Prop) (v1 : Int) (s0 : Int) (σ : w_M) : Prop := w_Ex (xs, d) 0 am_c163 Q 36 [some (.inr (.inr (9, 122))), some (.inl v1)] [.inl s0, .inr (.inr (9, 122))] σ
noncomputable def LModel_readLine_47 (xs : List Int) (d : Nat) (Q : Option w_V → w_M → Prop) (v1 : Int) (s0 : Int) (σ : w_M) : Prop := w_Ex (xs, d) 0 am_c163 Q 47 [some (.inr (.inr (9, 122))), some (.inl v1)] [.inl s0, .inr (.inr (9, 122))] σ
noncomputable def LModel_readLine_58 (xs : List Int) (d : Nat) (Q : Option w_V → w_M → Prop) (v1 : Int) (s0 : Int) (σ : w_M) : Prop := w_Ex (xs, d) 0 am_c163 Q 58 [some (.inr (.inr (9, 122))), some (.inl v1)] [.inl s0, .inr (.inr (9, 122))] σ
noncomputable def LModel_readLine_81 (xs : List Int) (d : Nat) (Q : Option w_V → w_M → Prop)  (σ : w_M) : Prop := ∀ l1, w_nl l1 → w_Ex (xs, d) 0 am_c163 Q 81 [some (.inr (.inr (9, 122))), l1] [] σ
set_option maxRecDepth 20000 in
theorem bModel_readLine_0 {xs : List Int} {d : Nat} {Q : Option w_V → w_M → Prop}  {σ : w_M}
    (h : (¬ (σ 122 18) = 1 → LModel_readLine_8 xs (d + 5) Q (-4) σ) ∧ ((σ 122 18) = 1 → (p_Model_lineNow σ ∧ (∀ (y1 : Int), y1 = v_Model_lineNow σ → LModel_readLine_8 xs (d + 5) Q y1 σ)))) : w_Call (xs, (d + 5)) 163 [.inr (.inr (9, 122))] σ Q :=
  (w_mk (mid := 163) (by decide) rfl rfl rfl rfl rfl (Nat.le_of_ble_eq_true rfl) ⟨rfl, Or.inl (by decide)⟩ (wi_aload0 fModel_readLine_0 (wi_getf918 fModel_readLine_1 (wi_bipush fModel_readLine_2 (wi_ic_ne fModel_readLine_3 (fun c2 => (wi_bipush fModel_readLine_7 ((h.1 c2) _ (by exact trivial)))) (fun c2 => (wi_aload0 fModel_readLine_4 (wi_call1 fModel_readLine_5 (Nat.le_of_ble_eq_true rfl) (k_Model_lineNow (h.2 c2).1 (wi_goto fModel_readLine_6 (((h.2 c2).2 _ rfl) _ (by exact trivial))))))))))))
set_option maxRecDepth 20000 in
theorem bModel_readLine_8 {xs : List Int} {d : Nat} {Q : Option w_V → w_M → Prop} {s0 : Int} {σ : w_M}
    (h : (s0 = (-4) → LModel_readLine_16 xs (d + 5) Q s0 0 σ) ∧ (¬ s0 = (-4) → LModel_readLine_16 xs (d + 5) Q s0 1 σ)) : LModel_readLine_8 xs (d + 5) Q s0 σ :=
  fun l1 nl1 => (wi_istore1 fModel_readLine_8 trivial (wi_aload0 fModel_readLine_9 (wi_iload1 fModel_readLine_10 (wi_bipush fModel_readLine_11 (wi_ic_eq fModel_readLine_12 (fun c1 => (wi_bipush fModel_readLine_15 (h.1 c1))) (fun c1 => (wi_bipush fModel_readLine_13 (wi_goto fModel_readLine_14 (h.2 c1)))))))))
set_option maxRecDepth 20000 in
theorem bModel_readLine_16 {xs : List Int} {d : Nat} {Q : Option w_V → w_M → Prop} {v1 : Int} {s0 : Int} {σ : w_M}
    (h : ∀ (τ1 : w_M), q_Model_needs s0 2 σ τ1 → ((¬ v1 = 1 → ((¬ v1 = 2 → LModel_readLine_36 xs (d + 5) Q v1 1 τ1) ∧ (v1 = 2 → ((4 ≤ (τ1 122 9) → LModel_readLine_36 xs (d + 5) Q v1 0 τ1) ∧ ((τ1 122 9) < 4 → LModel_readLine_36 xs (d + 5) Q v1 1 τ1))))) ∧ (v1 = 1 → ((7 ≤ (τ1 122 8) → LModel_readLine_36 xs (d + 5) Q v1 0 τ1) ∧ ((τ1 122 8) < 7 → ((¬ v1 = 2 → LModel_readLine_36 xs (d + 5) Q v1 1 τ1) ∧ (v1 = 2 → ((4 ≤ (τ1 122 9) → LModel_readLine_36 xs (d + 5) Q v1 0 τ1) ∧ ((τ1 122 9) < 4 → LModel_readLine_36 xs (d + 5) Q v1 1 τ1))))))))) : LModel_readLine_16 xs (d + 5) Q v1 s0 σ :=
  (wi_bipush fModel_readLine_16 (wi_call3 fModel_readLine_17 (Nat.le_of_ble_eq_true rfl) (k_Model_needs (fun τ1 eτ1 => (wi_aload0 fModel_readLine_18 (wi_iload1 fModel_readLine_19 (wi_bipush fModel_readLine_20 (wi_ic_ne fModel_readLine_21 (fun c7 => (wi_iload1 fModel_readLine_26 (wi_bipush fModel_readLine_27 (wi_ic_ne fModel_readLine_28 (fun c3 => (wi_bipush fModel_readLine_33 (wi_goto fModel_readLine_34 (((h τ1 eτ1).1 c7).1 c3)))) (fun c3 => (wi_aload0 fModel_readLine_29 (wi_getf909 fModel_readLine_30 (wi_bipush fModel_readLine_31 (wi_ic_ge fModel_readLine_32 (fun c2 => (wi_bipush fModel_readLine_35 ((((h τ1 eτ1).1 c7).2 c3).1 c2))) (fun c2 => (wi_bipush fModel_readLine_33 (wi_goto fModel_readLine_34 ((((h τ1 eτ1).1 c7).2 c3).2 c2))))))))))))) (fun c7 => (wi_aload0 fModel_readLine_22 (wi_getf908 fModel_readLine_23 (wi_bipush fModel_readLine_24 (wi_ic_ge fModel_readLine_25 (fun c6 => (wi_bipush fModel_readLine_35 (((h τ1 eτ1).2 c7).1 c6))) (fun c6 => (wi_iload1 fModel_readLine_26 (wi_bipush fModel_readLine_27 (wi_ic_ne fModel_readLine_28 (fun c5 => (wi_bipush fModel_readLine_33 (wi_goto fModel_readLine_34 ((((h τ1 eτ1).2 c7).2 c6).1 c5)))) (fun c5 => (wi_aload0 fModel_readLine_29 (wi_getf909 fModel_readLine_30 (wi_bipush fModel_readLine_31 (wi_ic_ge fModel_readLine_32 (fun c4 => (wi_bipush fModel_readLine_35 (((((h τ1 eτ1).2 c7).2 c6).2 c5).1 c4))) (fun c4 => (wi_bipush fModel_readLine_33 (wi_goto fModel_readLine_34 (((((h τ1 eτ1).2 c7).2 c6).2 c5).2 c4))))))))))))))))))))))))))
set_option maxRecDepth 20000 in
theorem bModel_readLine_36 {xs : List Int} {d : Nat} {Q : Option w_V → w_M → Prop} {v1 : Int} {s0 : Int} {σ : w_M}
    (h : ∀ (τ1 : w_M), q_Model_needs s0 5 σ τ1 → ((¬ v1 = 0 → LModel_readLine_47 xs (d + 5) Q v1 1 τ1) ∧ (v1 = 0 → ((¬ (τ1 122 10) = 0 → LModel_readLine_47 xs (d + 5) Q v1 0 τ1) ∧ ((τ1 122 10) = 0 → LModel_readLine_47 xs (d + 5) Q v1 1 τ1))))) : LModel_readLine_36 xs (d + 5) Q v1 s0 σ :=
  (wi_bipush fModel_readLine_36 (wi_call3 fModel_readLine_37 (Nat.le_of_ble_eq_true rfl) (k_Model_needs (fun τ1 eτ1 => (wi_aload0 fModel_readLine_38 (wi_iload1 fModel_readLine_39 (wi_if_ne fModel_readLine_40 (fun c3 => (wi_bipush fModel_readLine_44 (wi_goto fModel_readLine_45 ((h τ1 eτ1).1 c3)))) (fun c3 => (wi_aload0 fModel_readLine_41 (wi_getf910 fModel_readLine_42 (wi_if_ne fModel_readLine_43 (fun c2 => (wi_bipush fModel_readLine_46 (((h τ1 eτ1).2 c3).1 c2))) (fun c2 => (wi_bipush fModel_readLine_44 (wi_goto fModel_readLine_45 (((h τ1 eτ1).2 c3).2 c2)))))))))))))))
set_option maxRecDepth 20000 in
theorem bModel_readLine_47 {xs : List Int} {d : Nat} {Q : Option w_V → w_M → Prop} {v1 : Int} {s0 : Int} {σ : w_M}
    (h : ∀ (τ1 : w_M), q_Model_needs s0 4 σ τ1 → ((¬ (τ1 122 10) = 0 → LModel_readLine_58 xs (d + 5) Q v1 1 τ1) ∧ ((τ1 122 10) = 0 → ((¬ v1 = 0 → LModel_readLine_58 xs (d + 5) Q v1 0 τ1) ∧ (v1 = 0 → LModel_readLine_58 xs (d + 5) Q v1 1 τ1))))) : LModel_readLine_47 xs (d + 5) Q v1 s0 σ :=
  (wi_bipush fModel_readLine_47 (wi_call3 fModel_readLine_48 (Nat.le_of_ble_eq_true rfl) (k_Model_needs (fun τ1 eτ1 => (wi_aload0 fModel_readLine_49 (wi_aload0 fModel_readLine_50 (wi_getf910 fModel_readLine_51 (wi_if_ne fModel_readLine_52 (fun c3 => (wi_bipush fModel_readLine_55 (wi_goto fModel_readLine_56 ((h τ1 eτ1).1 c3)))) (fun c3 => (wi_iload1 fModel_readLine_53 (wi_if_ne fModel_readLine_54 (fun c2 => (wi_bipush fModel_readLine_57 (((h τ1 eτ1).2 c3).1 c2))) (fun c2 => (wi_bipush fModel_readLine_55 (wi_goto fModel_readLine_56 (((h τ1 eτ1).2 c3).2 c2)))))))))))))))
set_option maxRecDepth 20000 in
theorem bModel_readLine_58 {xs : List Int} {d : Nat} {Q : Option w_V → w_M → Prop} {v1 : Int} {s0 : Int} {σ : w_M}
    (h : (s0 = 0 ∨ s0 = 1) ∧ (∀ (τ1 : w_M), τ1 = w_up σ 122 10 s0 → (p_Model_next τ1 ∧ (∀ (τ2 : w_M), q_Model_next τ1 τ2 → (((τ2 122 20) ≤ 0 → (p_Model_readLineOf v1 τ2 ∧ (∀ (τ3 : w_M), q_Model_readLineOf v1 τ2 τ3 → ((¬ (τ3 122 20) = 0 → LModel_readLine_81 xs (d + 5) Q τ3) ∧ ((τ3 122 20) = 0 → ((¬ (τ3 122 18) = 3 → ∀ (τ4 : w_M), q_Model_needs 0 2 τ3 τ4 → LModel_readLine_81 xs (d + 5) Q τ4) ∧ ((τ3 122 18) = 3 → ∀ (τ5 : w_M), q_Model_needs 1 2 τ3 τ5 → LModel_readLine_81 xs (d + 5) Q τ5))))))) ∧ (0 < (τ2 122 20) → Q none τ2)))))) : LModel_readLine_58 xs (d + 5) Q v1 s0 σ :=
  (wi_putf910 fModel_readLine_58 h.1 (wi_aload0 fModel_readLine_59 (wi_call1 fModel_readLine_60 (Nat.le_of_ble_eq_true rfl) (k_Model_next (h.2 _ rfl).1 (fun τ2 eτ2 => (wi_aload0 fModel_readLine_61 (wi_getf920 fModel_readLine_62 (wi_if_le fModel_readLine_63 (fun c8 => (wi_aload0 fModel_readLine_65 (wi_iload1 fModel_readLine_66 (wi_call2 fModel_readLine_67 (Nat.le_of_ble_eq_true rfl) (k_Model_readLineOf (((h.2 _ rfl).2 τ2 eτ2).1 c8).1 (fun τ3 eτ3 => (wi_aload0 fModel_readLine_68 (wi_getf920 fModel_readLine_69 (wi_if_ne fModel_readLine_70 (fun c7 => ((((((h.2 _ rfl).2 τ2 eτ2).1 c8).2 τ3 eτ3).1 c7) _ (by exact trivial))) (fun c7 => (wi_aload0 fModel_readLine_71 (wi_aload0 fModel_readLine_72 (wi_getf918 fModel_readLine_73 (wi_bipush fModel_readLine_74 (wi_ic_ne fModel_readLine_75 (fun c6 => (wi_bipush fModel_readLine_78 (wi_bipush fModel_readLine_79 (wi_call3 fModel_readLine_80 (Nat.le_of_ble_eq_true rfl) (k_Model_needs (fun τ4 eτ4 => ((((((((h.2 _ rfl).2 τ2 eτ2).1 c8).2 τ3 eτ3).2 c7).1 c6) τ4 eτ4) _ (by exact trivial)))))))) (fun c6 => (wi_bipush fModel_readLine_76 (wi_goto fModel_readLine_77 (wi_bipush fModel_readLine_79 (wi_call3 fModel_readLine_80 (Nat.le_of_ble_eq_true rfl) (k_Model_needs (fun τ5 eτ5 => ((((((((h.2 _ rfl).2 τ2 eτ2).1 c8).2 τ3 eτ3).2 c7).2 c6) τ5 eτ5) _ (by exact trivial)))))))))))))))))))))))) (fun c8 => (wi_ret0 fModel_readLine_64 (((h.2 _ rfl).2 τ2 eτ2).2 c8)))))))))))
set_option maxRecDepth 20000 in
theorem bModel_readLine_81 {xs : List Int} {d : Nat} {Q : Option w_V → w_M → Prop}  {σ : w_M}
    (h : p_Model_next σ ∧ (∀ (τ1 : w_M), q_Model_next σ τ1 → Q none τ1)) : LModel_readLine_81 xs (d + 5) Q  σ :=
  fun l1 nl1 => (wi_aload0 fModel_readLine_81 (wi_call1 fModel_readLine_82 (Nat.le_of_ble_eq_true rfl) (k_Model_next h.1 (fun τ1 eτ1 => (wi_ret0 fModel_readLine_83 (h.2 τ1 eτ1))))))
theorem need_f {g n : Int} {σ σ' : w_M} (h : q_Model_needs g n σ σ') (h0 : ¬ σ 122 20 = 0) : σ' = σ := h.2 (fun q => h0 q.2)
set_option maxHeartbeats 2000000 in
theorem k_Model_readLine {xs : List Int} {d : Nat} {Q : Option w_V → w_M → Prop}  {σ : w_M} (hp : p_Model_readLine σ) (hQ : ∀ σ' : w_M, q_Model_readLine σ σ' → Q none σ') : w_Call (xs, d + 5) 163 [.inr (.inr (9, 122))] σ Q := by
  obtain ⟨h20, ⟨p, ⟨⟨-, -, hk⟩, hpL, hcur⟩, hp0⟩, hd⟩ := hp
  unfold q_Model_readLine at hQ
  have hLe : mL σ = (σ 122 15).toNat := rfl
  have hk1 := hk.1
  have tpT : ∀ τ : w_M, mo_tp σ τ → mT τ = mT σ ∧ mL τ = mL σ ∧ m_rk τ := fun τ F => ⟨F.T, F.L, F.ok hk⟩
  have hln : tk_k (mT σ) (mL σ) p = 1 → p_Model_lineNow σ ∧ v_Model_lineNow σ = (if ln_n (mT σ) (mL σ) (tk_f (mT σ) (mL σ) p) (tk_b (mT σ) (mL σ) p) = -1 then -4 else ln_n (mT σ) (mL σ) (tk_f (mT σ) (mL σ) p) (tk_b (mT σ) (mL σ) p)) := fun k1 => by
    have hb := tk_b_le (T := mT σ) (L := mL σ) (p := p) (tk_k0 hp0)
    have e17 := hcur.1
    have e16 := hcur.2.1 hp0
    refine ⟨⟨hk, by omega, by omega⟩, ?_⟩
    unfold v_Model_lineNow
    rw [e17, e16, Int.toNat_natCast, Int.toNat_natCast]
  generalize hT : mT σ = T at *
  generalize hL : mL σ = L at *
  have hb := tk_b_le (T := T) (L := L) (p := p) (tk_k0 hp0)
  have hfL := tk_f_le (T := T) hpL
  have k4 : ¬ tk_k T L p = 4 := hcur.f.2.mp h20
  have e18 : σ 122 18 = tk_k T L p := (hcur.2.2.2.1 k4).2
  have e17 := hcur.1
  have e16 := hcur.2.1 hp0
  have fin : ∀ σ' : w_M, mo_h σ σ' → rl_m T L p σ σ' → Q none σ' := fun σ' F a => by
    refine hQ _ ⟨F, fun p' hp2 _ => ?_⟩
    have e : tk_f T L p' = tk_f T L p := by
      have a1 := hp2.2.2.1
      omega
    obtain ⟨e1, e2, e3⟩ := tk_same e
    unfold rl_m
    rw [e, e1, e2]
    exact a
  -- once it has failed
  have bad58 : ∀ (v s0 : Int) (τ : w_M), (s0 = 0 ∨ s0 = 1) → 0 < τ 122 20 → Q none (w_up τ 122 10 s0) → LModel_readLine_58 xs (d + 5) Q v s0 τ := fun v s0 τ hs h hq => by
    refine bModel_readLine_58 ⟨hs, fun τ1 t1 => ?_⟩
    have z : 0 < τ1 122 20 := by rw [t1, w_up_j (by decide)]; exact h
    refine ⟨⟨by omega, fun q => by omega⟩, fun τ2 q2 => ?_⟩
    rw [q2.1 (by omega)]
    exact ⟨fun q => by omega, fun _ => by rw [t1]; exact hq⟩
  have bad47 : ∀ (v s0 : Int) (τ : w_M), 0 < τ 122 20 → (∀ s, Q none (w_up τ 122 10 s)) → LModel_readLine_47 xs (d + 5) Q v s0 τ := fun v s0 τ h hq => by
    refine bModel_readLine_47 (fun τ1 q1 => ?_)
    rw [need_f q1 (by omega)]
    exact ⟨fun _ => bad58 _ _ τ (Or.inr rfl) h (hq _), fun _ => ⟨fun _ => bad58 _ _ τ (Or.inl rfl) h (hq _), fun _ => bad58 _ _ τ (Or.inr rfl) h (hq _)⟩⟩
  have bad36 : ∀ (v s0 : Int) (τ : w_M), 0 < τ 122 20 → (∀ s, Q none (w_up τ 122 10 s)) → LModel_readLine_36 xs (d + 5) Q v s0 τ := fun v s0 τ h hq => by
    refine bModel_readLine_36 (fun τ1 q1 => ?_)
    rw [need_f q1 (by omega)]
    exact ⟨fun _ => bad47 _ _ τ h hq, fun _ => ⟨fun _ => bad47 _ _ τ h hq, fun _ => bad47 _ _ τ h hq⟩⟩
  have none' : (¬ tk_k T L p = 1 ∨ ln_n T L (tk_f T L p) (tk_b T L p) = -1) → LModel_readLine_8 xs (d + 5) Q (-4) σ := fun hno => by
    refine bModel_readLine_8 ⟨fun _ => bModel_readLine_16 (fun τ1 q1 => ?_), fun h => absurd rfl h⟩
    obtain ⟨n1, n2, n3, n4⟩ := need_n q1 rfl h20
    have hq : ∀ s, Q none (w_up τ1 122 10 s) := fun s => by
      refine fin _ (n3.h.up2 (by decide) (by decide)) ⟨fun _ => ⟨by rw [w_up_j (by decide)]; exact n1, by rw [w_up_j (by decide), n2]; exact e17⟩, fun a b => absurd hno (fun z => z.elim (fun z => z a) b)⟩
    exact ⟨fun _ => ⟨fun _ => bad36 _ _ τ1 (by omega) hq, fun h => absurd h (by decide)⟩, fun h => absurd h (by decide)⟩
  refine bModel_readLine_0 ⟨fun c => none' (Or.inl (by rw [← e18]; exact c)), fun c => ?_⟩
  have k1 : tk_k T L p = 1 := by rw [← e18]; exact c
  obtain ⟨l1, l2⟩ := hln k1
  refine ⟨l1, fun y1 ey => ?_⟩
  rw [l2] at ey
  by_cases hn : ln_n T L (tk_f T L p) (tk_b T L p) = -1
  · rw [if_pos hn] at ey
    rw [ey]
    exact none' (Or.inr hn)
  · rw [if_neg hn] at ey
    have hle := ln_k_le (T := T) (L := L) (f := tk_f T L p) (b := tk_b T L p) 5
    have hle' : ln_n T L (tk_f T L p) (tk_b T L p) = -1 ∨ (0 ≤ ln_n T L (tk_f T L p) (tk_b T L p) ∧ ln_n T L (tk_f T L p) (tk_b T L p) < 5) := hle
    obtain ⟨k, hkk⟩ : ∃ k : Nat, ln_n T L (tk_f T L p) (tk_b T L p) = (k : Int) := ⟨(ln_n T L (tk_f T L p) (tk_b T L p)).toNat, by omega⟩
    have hk5 : k < 5 := by omega
    have ek : (ln_n T L (tk_f T L p) (tk_b T L p)).toNat = k := by omega
    rw [hkk] at ey
    rw [ey]
    have fin2 : ∀ σ' : w_M, mo_h σ σ' → rl_e T L k (tk_f T L p) (tk_b T L p) σ σ' → Q none σ' := fun σ' F a => by
      refine fin σ' F ⟨fun z => z.elim (fun z => absurd k1 z) (fun z => absurd z hn), fun _ _ => ?_⟩
      rw [ek]
      exact a
    have ef : ((tk_f T L p : Nat) : Int) = σ 122 17 := e17.symm
    generalize hf : tk_f T L p = f at *
    generalize hbb : tk_b T L p = b at *
    have done_f : ∀ τ : w_M, mo_h σ τ → ¬ (ln_f T L (d_am σ) k f b).1 = 0 → τ 122 20 = (ln_f T L (d_am σ) k f b).1 → τ 122 21 = (((ln_f T L (d_am σ) k f b).2 : Nat) : Int) → Q none τ := fun τ F h1 h2 h3 => fin2 τ F ⟨fun _ => ⟨h2, h3⟩, fun h => absurd h h1⟩
    have D4 : d_am σ 0 4 = σ 122 8 := rfl
    have D5 : d_am σ 0 5 = σ 122 9 := rfl
    have D7 : d_am σ 0 7 = σ 122 10 := rfl
    have w4 : 0 ≤ σ 122 8 ∧ σ 122 8 ≤ 7 := hd.1.2.2.1
    have w5 : 0 ≤ σ 122 9 ∧ σ 122 9 ≤ 4 := hd.1.2.2.2.1
    have w7 : σ 122 10 = 0 ∨ σ 122 10 = 1 := hd.1.2.2.2.2.2.1
    have hm := ln_m_le k hk5
    -- a line that may begin
    have good58 : ln_b (d_am σ) k = 0 → ∀ s0 : Int, s0 = (if k = 0 then 1 else σ 122 10) → LModel_readLine_58 xs (d + 5) Q (k : Int) s0 σ := fun hbl s0 hs => by
      have s01 : s0 = 0 ∨ s0 = 1 := by
        rw [hs]
        split
        · exact Or.inr rfl
        · exact w7
      refine bModel_readLine_58 ⟨s01, fun τ1 t1 => ?_⟩
      have z : ∀ j, j ≠ 10 → τ1 122 j = σ 122 j := fun j h => by rw [t1, w_up_j h]
      have zb : ∀ b, b ≠ 122 → τ1 b = σ b := fun b hb => by rw [t1, w_up_ne hb]
      have z20 : τ1 122 20 = 0 := by rw [z 20 (by decide)]; exact h20
      have z16 : τ1 122 16 = (b : Int) := by rw [z 16 (by decide)]; exact e16
      have z15 := z 15 (by decide)
      obtain ⟨g1, g2, g3⟩ := tpT τ1 ⟨zb 127 (by decide), z15⟩
      refine ⟨⟨by omega, fun _ => ⟨g3, by omega, by omega⟩⟩, fun τ2 q2 => ?_⟩
      have t := q2.2 z20
      rw [z16, Int.toNat_natCast, g1, g2] at t
      have F2 : mo_fr τ1 τ2 := t.1
      have H2 : mo_h σ τ2 := mo_h.tr (by rw [t1]; exact mo_h.rfl'.up2 (by decide) (by decide)) F2.h
      obtain ⟨f1, f2, f3⟩ := tpT τ2 H2.tp
      have R2 : rs T L (d_am σ) k b 0 τ2 := ⟨⟨f1, f2, f3⟩, fun _ => ⟨hb.2, t.cur⟩, fun h => absurd rfl h⟩
      have elf : ln_f T L (d_am σ) k f b = if ¬ (nf T L (d_am σ) k b (ln_m k)).1 = 0 then nf T L (d_am σ) k b (ln_m k) else (ln_s T L (pp T L b (ln_m k)), tk_f T L (pp T L b (ln_m k))) := by unfold ln_f; rw [if_neg (fun q => q hbl)]
      have z2 : ∀ j, j < 16 → j ≠ 10 → τ2 122 j = σ 122 j := fun j h1 h2 => (F2.2 j (by omega)).trans (z j h2)
      have z26 : τ2 126 = σ 126 := (F2.1 126 (by decide)).trans (zb 126 (by decide))
      have z210 : τ2 122 10 = if k = 0 then 1 else σ 122 10 := by rw [F2.2 10 (by omega), t1, w_up_at]; exact hs
      refine ⟨fun c2 => ⟨⟨⟨by omega, by omega⟩, fun h => ?_, fun h => ?_, d_am σ, b, by rw [f1, f2, Int.toNat_natCast]; exact R2⟩, fun τ3 q3 => ?_⟩, fun c2 => ?_⟩
      · have h1 : k = 1 := by omega
        rw [z2 8 (by decide) (by decide)]
        unfold ln_b at hbl
        rw [if_neg (by omega)] at hbl
        by_cases q : 7 ≤ d_am σ 0 4
        · rw [if_pos (Or.inl ⟨h1, q⟩)] at hbl; omega
        · omega
      · have h1 : k = 2 := by omega
        rw [z2 9 (by decide) (by decide)]
        unfold ln_b at hbl
        rw [if_neg (by omega)] at hbl
        by_cases q : 4 ≤ d_am σ 0 5
        · rw [if_pos (Or.inr ⟨h1, q⟩)] at hbl; omega
        · omega
      · unfold q_Model_readLineOf at q3
        rw [f1, f2, Int.toNat_natCast] at q3
        obtain ⟨F3, q3'⟩ := q3
        obtain ⟨R3, le⟩ := q3' (d_am σ) b R2 (by rw [z26]; rfl) (by rw [z2 11 (by decide) (by decide)]; rfl)
        have H3 : mo_h σ τ3 := H2.tr F3
        obtain ⟨⟨g31, g32, g33⟩, r1, r2⟩ := R3
        have stay : ¬ τ3 122 20 = 0 → 0 ≤ τ3 122 20 → Q none τ3 → LModel_readLine_81 xs (d + 5) Q τ3 := fun h h' hq => bModel_readLine_81 ⟨⟨h', fun q => absurd q h⟩, fun τ4 q4 => by rw [q4.1 h]; exact hq⟩
        by_cases hz : (nf T L (d_am σ) k b (ln_m k)).1 = 0
        · rw [if_neg (fun q => q hz)] at elf
          obtain ⟨ppL, cur3⟩ := r1 hz
          by_cases h4 : tk_k T L (pp T L b (ln_m k)) = 4
          · obtain ⟨c1, c2⟩ := cur3.2.2.1 h4
            have hs' : ln_s T L (pp T L b (ln_m k)) = 1 := by unfold ln_s; rw [if_pos h4]
            refine ⟨fun c3 => stay c3 (by omega) (done_f τ3 H3 (by rw [elf]; show ¬ ln_s T L (pp T L b (ln_m k)) = 0; omega) (by rw [elf]; show _ = ln_s T L (pp T L b (ln_m k)); omega) (by rw [elf]; exact c2)), fun c3 => by omega⟩
          · obtain ⟨c1, c2⟩ := cur3.2.2.2.1 h4
            refine ⟨fun c3 => absurd c1 c3, fun _ => ⟨fun c3 τ4 q4 => ?_, fun c3 τ5 q5 => ?_⟩⟩
            · obtain ⟨n1, n2, n3, n4⟩ := need_n q4 rfl c1
              have hs' : ln_s T L (pp T L b (ln_m k)) = 2 := by unfold ln_s; rw [if_neg h4, if_pos (by rw [← c2]; exact c3)]
              refine bModel_readLine_81 ⟨⟨by omega, fun q => by omega⟩, fun τ5 q5 => ?_⟩
              rw [q5.1 (by omega)]
              exact done_f τ4 (H3.tr n3.h) (by rw [elf]; show ¬ ln_s T L (pp T L b (ln_m k)) = 0; omega) (by rw [elf]; show _ = ln_s T L (pp T L b (ln_m k)); omega) (by rw [elf, n2]; exact cur3.1)
            · rw [need_y q5]
              have k3 : tk_k T L (pp T L b (ln_m k)) = 3 := by rw [← c2]; exact c3
              have hs' : ln_s T L (pp T L b (ln_m k)) = 0 := by unfold ln_s; rw [if_neg h4, if_neg (fun q => q k3)]
              have hlf : (ln_f T L (d_am σ) k f b).1 = 0 := by rw [elf]; exact hs'
              have x16 := cur3.2.1 (by omega)
              have hb3 := tk_b_le (T := T) (L := L) (p := pp T L b (ln_m k)) (tk_k0 (by omega))
              have x15 : τ3 122 15 = σ 122 15 := H3.2 15 (by omega)
              refine bModel_readLine_81 ⟨⟨by omega, fun _ => ⟨g33, by omega, by omega⟩⟩, fun τ6 q6 => ?_⟩
              have t6 := q6.2 c1
              rw [x16, Int.toNat_natCast, g31, g32] at t6
              have F6 : mo_fr τ3 τ6 := t6.1
              obtain ⟨o1, o2, o3⟩ := le_D hk5 hd hbl z26 z2 z210 (le hz c1) (nt_f_0 (nf_0 _ hz 0 (by omega))).2.1
              have eD : d_am τ6 = d_am τ3 := d_am_fr (F6.1 126 (by decide)) (fun j h1 h2 => F6.2 j (by omega))
              refine fin2 τ6 (H3.tr F6.h) ⟨fun h => absurd hlf h, fun _ => ⟨t6.cur, eD.trans o1, ?_, m_cn_fr o2 (F6.1 126 (by decide)) (F6.2 9 (by omega)), ?_⟩⟩
              · rw [eD, o1]
                exact ln_D_ok hd.1 hk5 hb.2 hlf
              · rw [eD, F6.2 12 (by omega), F6.2 13 (by omega)]
                exact o3
        · rw [if_pos hz] at elf
          obtain ⟨c1, c2⟩ := r2 hz
          have hnn := nf_nn (T := T) (L := L) (D := d_am σ) (k := k) (b := b) (ln_m k)
          exact ⟨fun c3 => stay c3 (by omega) (done_f τ3 H3 (by rw [elf]; exact hz) (by rw [elf]; exact c1) (by rw [elf]; exact c2)), fun c3 => absurd (c1.symm.trans c3) hz⟩
      · have h4 : tk_k T L b = 4 := by
          by_cases q : tk_k T L b = 4
          · exact q
          · have := (t.cur.2.2.2.1 q).1
            omega
        obtain ⟨c3, c4⟩ := t.cur.2.2.1 h4
        have ent : nt_f T L (d_am σ) k 0 b = 1 := by unfold nt_f; rw [if_pos h4]
        have en1 : nf T L (d_am σ) k b 1 = (1, tk_f T L b) := by
          show (nt_f T L (d_am σ) k 0 b, tk_f T L b) = _
          rw [ent]
        have enm : nf T L (d_am σ) k b (ln_m k) = (1, tk_f T L b) := by
          have := nf_stay (T := T) (L := L) (D := d_am σ) (k := k) (b := b) (j := 1) (by rw [en1]; exact (by decide : ¬ (1 : Int) = 0)) (ln_m k - 1)
          rw [show 1 + (ln_m k - 1) = ln_m k by omega, en1] at this
          exact this
        rw [enm, if_pos (show ¬ ((1, tk_f T L b) : Int × Nat).1 = 0 from (by decide : ¬ (1 : Int) = 0))] at elf
        exact done_f τ2 H2 (by rw [elf]; exact (by decide : ¬ (1 : Int) = 0)) (by rw [elf]; exact c3) (by rw [elf]; exact c4)
    -- a line that may not begin
    have elb : ¬ ln_b (d_am σ) k = 0 → ln_f T L (d_am σ) k f b = (ln_b (d_am σ) k, f) := fun h => by unfold ln_f; rw [if_pos h]
    have badq : ∀ (τ : w_M) (n : Int), ¬ n = 0 → ln_b (d_am σ) k = n → τ 122 20 = n → τ 122 21 = σ 122 17 → mo_fr σ τ → ∀ s, Q none (w_up τ 122 10 s) := fun τ n hn0 hb1 h1 h2 h3 s => by
      have hnz : ¬ ln_b (d_am σ) k = 0 := by rw [hb1]; exact hn0
      have e := elb hnz
      refine done_f _ (h3.h.up2 (by decide) (by decide)) (by rw [e]; exact hnz) (by rw [e, w_up_j (by decide), h1]; exact hb1.symm) (by rw [e, w_up_j (by decide), h2]; exact e17)
    have s47 : ∀ s0 : Int, ((k = 1 → σ 122 8 < 7) ∧ (k = 2 → σ 122 9 < 4)) → (s0 = 0 ∧ k = 0 ∧ ¬ σ 122 10 = 0) ∨ (s0 = 1 ∧ (k = 0 → σ 122 10 = 0)) → LModel_readLine_47 xs (d + 5) Q (k : Int) s0 σ := fun s0 h12 hs => by
      refine bModel_readLine_47 (fun τ1 q1 => ?_)
      rcases hs with ⟨rfl, hk0, h10⟩ | ⟨rfl, h0⟩
      · obtain ⟨n1, n2, n3, n4⟩ := need_n q1 rfl h20
        have hbl : ln_b (d_am σ) k = 4 := by unfold ln_b; rw [if_pos ⟨hk0, h10⟩]
        have hq := badq τ1 4 (by decide) hbl n1 n2 n3
        exact ⟨fun _ => bad58 _ _ τ1 (Or.inr rfl) (by omega) (hq _), fun _ => ⟨fun _ => bad58 _ _ τ1 (Or.inl rfl) (by omega) (hq _), fun _ => bad58 _ _ τ1 (Or.inr rfl) (by omega) (hq _)⟩⟩
      · rw [need_y q1]
        have hbl : ln_b (d_am σ) k = 0 := by
          unfold ln_b
          rw [if_neg (fun q => q.2 (h0 q.1)), if_neg]
          rintro (⟨q1, q2⟩ | ⟨q1, q2⟩)
          · have := h12.1 q1
            omega
          · have := h12.2 q1
            omega
        refine ⟨fun c3 => good58 hbl 1 ?_, fun c3 => ⟨fun c4 => good58 hbl 0 ?_, fun c4 => good58 hbl 1 ?_⟩⟩
        · split
          · rfl
          · omega
        · rw [if_neg (by omega)]; exact c3.symm
        · rw [if_pos (by omega)]
    have s36 : ∀ s0 : Int, (s0 = 0 ∧ ((k = 1 ∧ 7 ≤ σ 122 8) ∨ (k = 2 ∧ 4 ≤ σ 122 9))) ∨ (s0 = 1 ∧ ((k = 1 → σ 122 8 < 7) ∧ (k = 2 → σ 122 9 < 4))) → LModel_readLine_36 xs (d + 5) Q (k : Int) s0 σ := fun s0 hs => by
      refine bModel_readLine_36 (fun τ1 q1 => ?_)
      rcases hs with ⟨rfl, h1⟩ | ⟨rfl, h1⟩
      · obtain ⟨n1, n2, n3, n4⟩ := need_n q1 rfl h20
        have hbl : ln_b (d_am σ) k = 5 := by unfold ln_b; rw [if_neg (by omega), D4, D5, if_pos h1]
        have hq := badq τ1 5 (by decide) hbl n1 n2 n3
        exact ⟨fun _ => bad47 _ _ τ1 (by omega) hq, fun _ => ⟨fun _ => bad47 _ _ τ1 (by omega) hq, fun _ => bad47 _ _ τ1 (by omega) hq⟩⟩
      · rw [need_y q1]
        exact ⟨fun c3 => s47 1 h1 (Or.inr ⟨rfl, fun q => by omega⟩), fun c3 => ⟨fun c4 => s47 0 h1 (Or.inl ⟨rfl, by omega, c4⟩), fun c4 => s47 1 h1 (Or.inr ⟨rfl, fun _ => c4⟩)⟩⟩
    refine bModel_readLine_8 ⟨fun h => by omega, fun _ => bModel_readLine_16 (fun τ1 q1 => ?_)⟩
    rw [need_y q1]
    refine ⟨fun c1 => ⟨fun c2 => s36 1 (Or.inr ⟨rfl, fun q => by omega, fun q => by omega⟩), fun c2 => ⟨fun c3 => s36 0 (Or.inl ⟨rfl, Or.inr ⟨by omega, c3⟩⟩), fun c3 => s36 1 (Or.inr ⟨rfl, fun q => by omega, fun _ => c3⟩)⟩⟩, fun c1 => ⟨fun c2 => s36 0 (Or.inl ⟨rfl, Or.inl ⟨by omega, c2⟩⟩), fun c2 => ⟨fun c3 => s36 1 (Or.inr ⟨rfl, fun _ => c2, fun q => by omega⟩), fun c3 => by omega⟩⟩⟩
end
section
/-! The reference and the whole text -/
noncomputable def q_Model_firstDraft (σ σ' : w_M) : Prop := mo_h σ σ' ∧ (∀ j, 14 ≤ j → σ' 122 j = σ 122 j) ∧ (∀ x, x < 82 → σ' 126 x = if x = 47 then -4 else 0) ∧ σ' 122 7 = 8 ∧ σ' 122 8 = 0 ∧ σ' 122 9 = 0 ∧ σ' 122 10 = 0 ∧ σ' 122 11 = 0 ∧ σ' 122 12 = -4 ∧ σ' 122 13 = -4
theorem fModel_firstDraft_0 : w_fe am_c154 0 1 (.bipush 0) := ⟨rfl, rfl⟩
theorem fModel_firstDraft_1 : w_fe am_c154 1 2 (.istore 1) := ⟨rfl, rfl⟩
theorem fModel_firstDraft_2 : w_fe am_c154 2 3 (.iload 1) := ⟨rfl, rfl⟩
theorem fModel_firstDraft_3 : w_fe am_c154 3 4 (.bipush 82) := ⟨rfl, rfl⟩
theorem fModel_firstDraft_4 : w_ic am_c154 4 5 .ge 12 := ⟨rfl, rfl⟩
theorem fModel_firstDraft_5 : w_fe am_c154 5 6 (.aload 0) := ⟨rfl, rfl⟩
theorem fModel_firstDraft_6 : w_fe am_c154 6 7 (.getfield 906) := ⟨rfl, rfl⟩
theorem fModel_firstDraft_7 : w_fe am_c154 7 8 (.iload 1) := ⟨rfl, rfl⟩
theorem fModel_firstDraft_8 : w_fe am_c154 8 9 (.bipush 0) := ⟨rfl, rfl⟩
theorem fModel_firstDraft_9 : w_fe am_c154 9 10 (.iastore) := ⟨rfl, rfl⟩
theorem fModel_firstDraft_10 : w_fe am_c154 10 11 (.iinc 1 1) := ⟨rfl, rfl⟩
theorem fModel_firstDraft_11 : w_gt am_c154 11 2 := rfl
theorem fModel_firstDraft_12 : w_fe am_c154 12 13 (.aload 0) := ⟨rfl, rfl⟩
theorem fModel_firstDraft_13 : w_fe am_c154 13 14 (.getfield 906) := ⟨rfl, rfl⟩
theorem fModel_firstDraft_14 : w_fe am_c154 14 15 (.bipush 47) := ⟨rfl, rfl⟩
theorem fModel_firstDraft_15 : w_fe am_c154 15 16 (.bipush (-4)) := ⟨rfl, rfl⟩
theorem fModel_firstDraft_16 : w_fe am_c154 16 17 (.iastore) := ⟨rfl, rfl⟩
theorem fModel_firstDraft_17 : w_fe am_c154 17 18 (.aload 0) := ⟨rfl, rfl⟩
theorem fModel_firstDraft_18 : w_fe am_c154 18 19 (.bipush 8) := ⟨rfl, rfl⟩
theorem fModel_firstDraft_19 : w_fe am_c154 19 20 (.putfield 907) := ⟨rfl, rfl⟩
theorem fModel_firstDraft_20 : w_fe am_c154 20 21 (.aload 0) := ⟨rfl, rfl⟩
theorem fModel_firstDraft_21 : w_fe am_c154 21 22 (.bipush 0) := ⟨rfl, rfl⟩
theorem fModel_firstDraft_22 : w_fe am_c154 22 23 (.putfield 908) := ⟨rfl, rfl⟩
theorem fModel_firstDraft_23 : w_fe am_c154 23 24 (.aload 0) := ⟨rfl, rfl⟩
theorem fModel_firstDraft_24 : w_fe am_c154 24 25 (.bipush 0) := ⟨rfl, rfl⟩
theorem fModel_firstDraft_25 : w_fe am_c154 25 26 (.putfield 909) := ⟨rfl, rfl⟩
theorem fModel_firstDraft_26 : w_fe am_c154 26 27 (.aload 0) := ⟨rfl, rfl⟩
theorem fModel_firstDraft_27 : w_fe am_c154 27 28 (.bipush 0) := ⟨rfl, rfl⟩
theorem fModel_firstDraft_28 : w_fe am_c154 28 29 (.putfield 910) := ⟨rfl, rfl⟩
theorem fModel_firstDraft_29 : w_fe am_c154 29 30 (.aload 0) := ⟨rfl, rfl⟩
theorem fModel_firstDraft_30 : w_fe am_c154 30 31 (.bipush 0) := ⟨rfl, rfl⟩
theorem fModel_firstDraft_31 : w_fe am_c154 31 32 (.putfield 911) := ⟨rfl, rfl⟩
theorem fModel_firstDraft_32 : w_fe am_c154 32 33 (.aload 0) := ⟨rfl, rfl⟩
theorem fModel_firstDraft_33 : w_fe am_c154 33 34 (.bipush (-4)) := ⟨rfl, rfl⟩
theorem fModel_firstDraft_34 : w_fe am_c154 34 35 (.putfield 912) := ⟨rfl, rfl⟩
theorem fModel_firstDraft_35 : w_fe am_c154 35 36 (.aload 0) := ⟨rfl, rfl⟩
theorem fModel_firstDraft_36 : w_fe am_c154 36 37 (.bipush (-4)) := ⟨rfl, rfl⟩
theorem fModel_firstDraft_37 : w_fe am_c154 37 38 (.putfield 913) := ⟨rfl, rfl⟩
theorem fModel_firstDraft_38 : w_fe am_c154 38 39 (.return_) := ⟨rfl, rfl⟩
noncomputable def LModel_firstDraft_2 (xs : List Int) (d : Nat) (Q : Option w_V → w_M → Prop) (v1 : Int) (σ : w_M) : Prop := w_Ex (xs, d) 0 am_c154 Q 2 [some (.inr (.inr (9, 122))), some (.inl v1)] [] σ
set_option maxRecDepth 20000 in
theorem bModel_firstDraft_0 {xs : List Int} {d : Nat} {Q : Option w_V → w_M → Prop}  {σ : w_M}
    (h : LModel_firstDraft_2 xs d Q 0 σ) : w_Call (xs, d) 154 [.inr (.inr (9, 122))] σ Q :=
  (w_mk (mid := 154) (by decide) rfl rfl rfl rfl rfl (Nat.le_of_ble_eq_true rfl) ⟨rfl, Or.inl (by decide)⟩ (wi_bipush fModel_firstDraft_0 (wi_istore1 fModel_firstDraft_1 trivial h)))
set_option maxRecDepth 20000 in
theorem bModel_firstDraft_2 {xs : List Int} {d : Nat} {Q : Option w_V → w_M → Prop} {v1 : Int} {σ : w_M}
    (h : (82 ≤ v1 → ∀ (τ1 : w_M), τ1 = w_up σ 126 47 (-4) → ∀ (τ2 : w_M), τ2 = w_up τ1 122 7 8 → ∀ (τ3 : w_M), τ3 = w_up τ2 122 8 0 → ∀ (τ4 : w_M), τ4 = w_up τ3 122 9 0 → ∀ (τ5 : w_M), τ5 = w_up τ4 122 10 0 → ∀ (τ6 : w_M), τ6 = w_up τ5 122 11 0 → ∀ (τ7 : w_M), τ7 = w_up τ6 122 12 (-4) → ∀ (τ8 : w_M), τ8 = w_up τ7 122 13 (-4) → Q none τ8) ∧ (v1 < 82 → (0 ≤ v1 ∧ (∀ (τ9 : w_M), τ9 = w_up σ 126 v1.toNat 0 → (w_in (v1 + 1) ∧ LModel_firstDraft_2 xs d Q (v1 + 1) τ9))))) : LModel_firstDraft_2 xs d Q v1 σ :=
  (wi_iload1 fModel_firstDraft_2 (wi_bipush fModel_firstDraft_3 (wi_ic_ge fModel_firstDraft_4 (fun c10 => (wi_aload0 fModel_firstDraft_12 (wi_getf906 fModel_firstDraft_13 (wi_bipush fModel_firstDraft_14 (wi_bipush fModel_firstDraft_15 (wi_iast1082 fModel_firstDraft_16 (by decide) (by decide) (wi_aload0 fModel_firstDraft_17 (wi_bipush fModel_firstDraft_18 (wi_putf907 fModel_firstDraft_19 (wi_aload0 fModel_firstDraft_20 (wi_bipush fModel_firstDraft_21 (wi_putf908 fModel_firstDraft_22 (wi_aload0 fModel_firstDraft_23 (wi_bipush fModel_firstDraft_24 (wi_putf909 fModel_firstDraft_25 (wi_aload0 fModel_firstDraft_26 (wi_bipush fModel_firstDraft_27 (wi_putf910 fModel_firstDraft_28 (by decide) (wi_aload0 fModel_firstDraft_29 (wi_bipush fModel_firstDraft_30 (wi_putf911 fModel_firstDraft_31 (wi_aload0 fModel_firstDraft_32 (wi_bipush fModel_firstDraft_33 (wi_putf912 fModel_firstDraft_34 (wi_aload0 fModel_firstDraft_35 (wi_bipush fModel_firstDraft_36 (wi_putf913 fModel_firstDraft_37 (wi_ret0 fModel_firstDraft_38 (((((((((h.1 c10) _ rfl) _ rfl) _ rfl) _ rfl) _ rfl) _ rfl) _ rfl) _ rfl))))))))))))))))))))))))))))) (fun c10 => (wi_aload0 fModel_firstDraft_5 (wi_getf906 fModel_firstDraft_6 (wi_iload1 fModel_firstDraft_7 (wi_bipush fModel_firstDraft_8 (wi_iast1082 fModel_firstDraft_9 (h.2 c10).1 c10 (wi_iinc1 fModel_firstDraft_10 trivial ((h.2 c10).2 _ rfl).1 (wi_goto fModel_firstDraft_11 ((h.2 c10).2 _ rfl).2)))))))))))
theorem k_Model_firstDraft {xs : List Int} {d : Nat} {Q : Option w_V → w_M → Prop}  {σ : w_M} (hQ : ∀ σ' : w_M, q_Model_firstDraft σ σ' → Q none σ') : w_Call (xs, d) 154 [.inr (.inr (9, 122))] σ Q := by
  refine bModel_firstDraft_0 ?_
  refine (w_loop (n := 82) (P := fun k => ∀ τ : w_M, (∀ b, b ≠ 126 → τ b = σ b) → (∀ x, x < k → τ 126 x = 0) → LModel_firstDraft_2 xs d Q (k : Int) τ) ?_ ?_) σ (fun _ _ => rfl) (fun x hx => by omega)
  · intro τ hb hx
    refine bModel_firstDraft_2 ⟨fun _ τ1 t1 τ2 t2 τ3 t3 τ4 t4 τ5 t5 τ6 t6 τ7 t7 τ8 t8 => hQ _ ?_, fun h => by omega⟩
    have e : τ8 = w_up (w_up (w_up (w_up (w_up (w_up (w_up (w_up τ 126 47 (-4)) 122 7 8) 122 8 0) 122 9 0) 122 10 0) 122 11 0) 122 12 (-4)) 122 13 (-4) := by rw [t8, t7, t6, t5, t4, t3, t2, t1]
    have H : mo_h σ τ := ⟨fun b _ h => hb b h, fun j _ => by rw [hb 122 (by decide)]⟩
    rw [e]
    refine ⟨(((((((H.up6).up2 (by decide) (by decide)).up2 (by decide) (by decide)).up2 (by decide) (by decide)).up2 (by decide) (by decide)).up2 (by decide) (by decide)).up2 (by decide) (by decide)).up2 (by decide) (by decide), fun j hj => ?_, fun x hx2 => ?_, ?_, ?_, ?_, ?_, ?_, ?_, ?_⟩
    · rw [w_up_j (by omega), w_up_j (by omega), w_up_j (by omega), w_up_j (by omega), w_up_j (by omega), w_up_j (by omega), w_up_j (by omega), w_up_ne (by decide), hb 122 (by decide)]
    · rw [w_up_ne (by decide), w_up_ne (by decide), w_up_ne (by decide), w_up_ne (by decide), w_up_ne (by decide), w_up_ne (by decide), w_up_ne (by decide), w_up_v, hx x hx2]
    · rw [w_up_j (by decide), w_up_j (by decide), w_up_j (by decide), w_up_j (by decide), w_up_j (by decide), w_up_j (by decide), w_up_at]
    · rw [w_up_j (by decide), w_up_j (by decide), w_up_j (by decide), w_up_j (by decide), w_up_j (by decide), w_up_at]
    · rw [w_up_j (by decide), w_up_j (by decide), w_up_j (by decide), w_up_j (by decide), w_up_at]
    · rw [w_up_j (by decide), w_up_j (by decide), w_up_j (by decide), w_up_at]
    · rw [w_up_j (by decide), w_up_j (by decide), w_up_at]
    · rw [w_up_j (by decide), w_up_at]
    · rw [w_up_at]
  · intro k hk ih τ hb hx
    refine bModel_firstDraft_2 ⟨fun h => by omega, fun _ => ⟨by omega, fun τ9 t9 => ⟨⟨by omega, by omega⟩, ?_⟩⟩⟩
    rw [Int.toNat_natCast] at t9
    rw [← w_cs1]
    refine ih τ9 (fun b h => by rw [t9, w_up_ne h]; exact hb b h) (fun x h => ?_)
    rw [t9, w_up_v]
    by_cases e : x = k
    · rw [if_pos e]
    · rw [if_neg e]; exact hx x (by omega)
noncomputable def p_Model_keepDraft (_ : w_M) : Prop := True
noncomputable def q_Model_keepDraft (σ σ' : w_M) : Prop := (∀ b, b ≠ 122 → b ≠ 123 → b ≠ 125 → σ' b = σ b) ∧ (∀ x, x < 82 → σ' 123 x = if 14 ≤ x ∧ x < 21 then w_and (w_shr (σ 122 11) ((x - 14 : Nat) : Int)) 1 else σ 126 x) ∧ (σ' 122 3 = σ 122 7 ∧ σ' 122 4 = σ 122 8 ∧ σ' 122 5 = σ 122 9) ∧ (∀ j, j ≠ 3 → j ≠ 4 → j ≠ 5 → σ' 122 j = σ 122 j) ∧ σ' 125 0 = 0 ∧ σ' 125 1 = 0
theorem fModel_keepDraft_0 : w_fe am_c155 0 1 (.bipush 0) := ⟨rfl, rfl⟩
theorem fModel_keepDraft_1 : w_fe am_c155 1 2 (.istore 1) := ⟨rfl, rfl⟩
theorem fModel_keepDraft_2 : w_fe am_c155 2 3 (.iload 1) := ⟨rfl, rfl⟩
theorem fModel_keepDraft_3 : w_fe am_c155 3 4 (.bipush 82) := ⟨rfl, rfl⟩
theorem fModel_keepDraft_4 : w_ic am_c155 4 5 .ge 15 := ⟨rfl, rfl⟩
theorem fModel_keepDraft_5 : w_fe am_c155 5 6 (.aload 0) := ⟨rfl, rfl⟩
theorem fModel_keepDraft_6 : w_fe am_c155 6 7 (.getfield 900) := ⟨rfl, rfl⟩
theorem fModel_keepDraft_7 : w_fe am_c155 7 8 (.iload 1) := ⟨rfl, rfl⟩
theorem fModel_keepDraft_8 : w_fe am_c155 8 9 (.aload 0) := ⟨rfl, rfl⟩
theorem fModel_keepDraft_9 : w_fe am_c155 9 10 (.getfield 906) := ⟨rfl, rfl⟩
theorem fModel_keepDraft_10 : w_fe am_c155 10 11 (.iload 1) := ⟨rfl, rfl⟩
theorem fModel_keepDraft_11 : w_fe am_c155 11 12 (.iaload) := ⟨rfl, rfl⟩
theorem fModel_keepDraft_12 : w_fe am_c155 12 13 (.iastore) := ⟨rfl, rfl⟩
theorem fModel_keepDraft_13 : w_fe am_c155 13 14 (.iinc 1 1) := ⟨rfl, rfl⟩
theorem fModel_keepDraft_14 : w_gt am_c155 14 2 := rfl
theorem fModel_keepDraft_15 : w_fe am_c155 15 16 (.bipush 0) := ⟨rfl, rfl⟩
theorem fModel_keepDraft_16 : w_fe am_c155 16 17 (.istore 1) := ⟨rfl, rfl⟩
theorem fModel_keepDraft_17 : w_fe am_c155 17 18 (.iload 1) := ⟨rfl, rfl⟩
theorem fModel_keepDraft_18 : w_fe am_c155 18 19 (.bipush 7) := ⟨rfl, rfl⟩
theorem fModel_keepDraft_19 : w_ic am_c155 19 20 .ge 34 := ⟨rfl, rfl⟩
theorem fModel_keepDraft_20 : w_fe am_c155 20 21 (.aload 0) := ⟨rfl, rfl⟩
theorem fModel_keepDraft_21 : w_fe am_c155 21 22 (.getfield 900) := ⟨rfl, rfl⟩
theorem fModel_keepDraft_22 : w_fe am_c155 22 23 (.bipush 14) := ⟨rfl, rfl⟩
theorem fModel_keepDraft_23 : w_fe am_c155 23 24 (.iload 1) := ⟨rfl, rfl⟩
theorem fModel_keepDraft_24 : w_fe am_c155 24 25 (.iadd) := ⟨rfl, rfl⟩
theorem fModel_keepDraft_25 : w_fe am_c155 25 26 (.aload 0) := ⟨rfl, rfl⟩
theorem fModel_keepDraft_26 : w_fe am_c155 26 27 (.getfield 911) := ⟨rfl, rfl⟩
theorem fModel_keepDraft_27 : w_fe am_c155 27 28 (.iload 1) := ⟨rfl, rfl⟩
theorem fModel_keepDraft_28 : w_fe am_c155 28 29 (.ishr) := ⟨rfl, rfl⟩
theorem fModel_keepDraft_29 : w_fe am_c155 29 30 (.bipush 1) := ⟨rfl, rfl⟩
theorem fModel_keepDraft_30 : w_fe am_c155 30 31 (.iand) := ⟨rfl, rfl⟩
theorem fModel_keepDraft_31 : w_fe am_c155 31 32 (.iastore) := ⟨rfl, rfl⟩
theorem fModel_keepDraft_32 : w_fe am_c155 32 33 (.iinc 1 1) := ⟨rfl, rfl⟩
theorem fModel_keepDraft_33 : w_gt am_c155 33 17 := rfl
theorem fModel_keepDraft_34 : w_fe am_c155 34 35 (.aload 0) := ⟨rfl, rfl⟩
theorem fModel_keepDraft_35 : w_fe am_c155 35 36 (.aload 0) := ⟨rfl, rfl⟩
theorem fModel_keepDraft_36 : w_fe am_c155 36 37 (.getfield 907) := ⟨rfl, rfl⟩
theorem fModel_keepDraft_37 : w_fe am_c155 37 38 (.putfield 903) := ⟨rfl, rfl⟩
theorem fModel_keepDraft_38 : w_fe am_c155 38 39 (.aload 0) := ⟨rfl, rfl⟩
theorem fModel_keepDraft_39 : w_fe am_c155 39 40 (.aload 0) := ⟨rfl, rfl⟩
theorem fModel_keepDraft_40 : w_fe am_c155 40 41 (.getfield 908) := ⟨rfl, rfl⟩
theorem fModel_keepDraft_41 : w_fe am_c155 41 42 (.putfield 904) := ⟨rfl, rfl⟩
theorem fModel_keepDraft_42 : w_fe am_c155 42 43 (.aload 0) := ⟨rfl, rfl⟩
theorem fModel_keepDraft_43 : w_fe am_c155 43 44 (.aload 0) := ⟨rfl, rfl⟩
theorem fModel_keepDraft_44 : w_fe am_c155 44 45 (.getfield 909) := ⟨rfl, rfl⟩
theorem fModel_keepDraft_45 : w_fe am_c155 45 46 (.putfield 905) := ⟨rfl, rfl⟩
theorem fModel_keepDraft_46 : w_fe am_c155 46 47 (.aload 0) := ⟨rfl, rfl⟩
theorem fModel_keepDraft_47 : w_fe am_c155 47 48 (.getfield 902) := ⟨rfl, rfl⟩
theorem fModel_keepDraft_48 : w_fe am_c155 48 49 (.bipush 0) := ⟨rfl, rfl⟩
theorem fModel_keepDraft_49 : w_fe am_c155 49 50 (.bipush 0) := ⟨rfl, rfl⟩
theorem fModel_keepDraft_50 : w_fe am_c155 50 51 (.bastore) := ⟨rfl, rfl⟩
theorem fModel_keepDraft_51 : w_fe am_c155 51 52 (.aload 0) := ⟨rfl, rfl⟩
theorem fModel_keepDraft_52 : w_fe am_c155 52 53 (.getfield 902) := ⟨rfl, rfl⟩
theorem fModel_keepDraft_53 : w_fe am_c155 53 54 (.bipush 1) := ⟨rfl, rfl⟩
theorem fModel_keepDraft_54 : w_fe am_c155 54 55 (.bipush 0) := ⟨rfl, rfl⟩
theorem fModel_keepDraft_55 : w_fe am_c155 55 56 (.bastore) := ⟨rfl, rfl⟩
theorem fModel_keepDraft_56 : w_fe am_c155 56 57 (.return_) := ⟨rfl, rfl⟩
noncomputable def LModel_keepDraft_2 (xs : List Int) (d : Nat) (Q : Option w_V → w_M → Prop) (v1 : Int) (σ : w_M) : Prop := w_Ex (xs, d) 0 am_c155 Q 2 [some (.inr (.inr (9, 122))), some (.inl v1)] [] σ
noncomputable def LModel_keepDraft_17 (xs : List Int) (d : Nat) (Q : Option w_V → w_M → Prop) (v1 : Int) (σ : w_M) : Prop := w_Ex (xs, d) 0 am_c155 Q 17 [some (.inr (.inr (9, 122))), some (.inl v1)] [] σ
set_option maxRecDepth 20000 in
theorem bModel_keepDraft_0 {xs : List Int} {d : Nat} {Q : Option w_V → w_M → Prop}  {σ : w_M}
    (h : LModel_keepDraft_2 xs d Q 0 σ) : w_Call (xs, d) 155 [.inr (.inr (9, 122))] σ Q :=
  (w_mk (mid := 155) (by decide) rfl rfl rfl rfl rfl (Nat.le_of_ble_eq_true rfl) ⟨rfl, Or.inl (by decide)⟩ (wi_bipush fModel_keepDraft_0 (wi_istore1 fModel_keepDraft_1 trivial h)))
set_option maxRecDepth 20000 in
theorem bModel_keepDraft_2 {xs : List Int} {d : Nat} {Q : Option w_V → w_M → Prop} {v1 : Int} {σ : w_M}
    (h : (82 ≤ v1 → LModel_keepDraft_17 xs d Q 0 σ) ∧ (v1 < 82 → (0 ≤ v1 ∧ v1 < 246 ∧ (∀ (τ1 : w_M), τ1 = w_up σ 123 v1.toNat (σ 126 v1.toNat) → (w_in (v1 + 1) ∧ LModel_keepDraft_2 xs d Q (v1 + 1) τ1))))) : LModel_keepDraft_2 xs d Q v1 σ :=
  (wi_iload1 fModel_keepDraft_2 (wi_bipush fModel_keepDraft_3 (wi_ic_ge fModel_keepDraft_4 (fun c2 => (wi_bipush fModel_keepDraft_15 (wi_istore1 fModel_keepDraft_16 trivial (h.1 c2)))) (fun c2 => (wi_aload0 fModel_keepDraft_5 (wi_getf900 fModel_keepDraft_6 (wi_iload1 fModel_keepDraft_7 (wi_aload0 fModel_keepDraft_8 (wi_getf906 fModel_keepDraft_9 (wi_iload1 fModel_keepDraft_10 (wi_iald1082 fModel_keepDraft_11 (h.2 c2).1 c2 (wi_iast1246 fModel_keepDraft_12 (h.2 c2).1 (h.2 c2).2.1 (wi_iinc1 fModel_keepDraft_13 trivial ((h.2 c2).2.2 _ rfl).1 (wi_goto fModel_keepDraft_14 ((h.2 c2).2.2 _ rfl).2))))))))))))))
set_option maxRecDepth 20000 in
theorem bModel_keepDraft_17 {xs : List Int} {d : Nat} {Q : Option w_V → w_M → Prop} {v1 : Int} {σ : w_M}
    (h : (7 ≤ v1 → ∀ (τ1 : w_M), τ1 = w_up σ 122 3 (σ 122 7) → ∀ (τ2 : w_M), τ2 = w_up τ1 122 4 (τ1 122 8) → ∀ (τ3 : w_M), τ3 = w_up τ2 122 5 (τ2 122 9) → ∀ (τ4 : w_M), τ4 = w_up τ3 125 0 0 → ∀ (τ5 : w_M), τ5 = w_up τ4 125 1 0 → Q none τ5) ∧ (v1 < 7 → (w_in (14 + v1) ∧ 0 ≤ (14 + v1) ∧ (14 + v1) < 246 ∧ (∀ (τ6 : w_M), τ6 = w_up σ 123 (14 + v1).toNat (w_and (w_shr (σ 122 11) v1) 1) → (w_in (v1 + 1) ∧ LModel_keepDraft_17 xs d Q (v1 + 1) τ6))))) : LModel_keepDraft_17 xs d Q v1 σ :=
  (wi_iload1 fModel_keepDraft_17 (wi_bipush fModel_keepDraft_18 (wi_ic_ge fModel_keepDraft_19 (fun c7 => (wi_aload0 fModel_keepDraft_34 (wi_aload0 fModel_keepDraft_35 (wi_getf907 fModel_keepDraft_36 (wi_putf903 fModel_keepDraft_37 (wi_aload0 fModel_keepDraft_38 (wi_aload0 fModel_keepDraft_39 (wi_getf908 fModel_keepDraft_40 (wi_putf904 fModel_keepDraft_41 (wi_aload0 fModel_keepDraft_42 (wi_aload0 fModel_keepDraft_43 (wi_getf909 fModel_keepDraft_44 (wi_putf905 fModel_keepDraft_45 (wi_aload0 fModel_keepDraft_46 (wi_getf902 fModel_keepDraft_47 (wi_bipush fModel_keepDraft_48 (wi_bipush fModel_keepDraft_49 (wi_bast3002 fModel_keepDraft_50 (by decide) (by decide) (by decide) (wi_aload0 fModel_keepDraft_51 (wi_getf902 fModel_keepDraft_52 (wi_bipush fModel_keepDraft_53 (wi_bipush fModel_keepDraft_54 (wi_bast3002 fModel_keepDraft_55 (by decide) (by decide) (by decide) (wi_ret0 fModel_keepDraft_56 ((((((h.1 c7) _ rfl) _ rfl) _ rfl) _ rfl) _ rfl))))))))))))))))))))))))) (fun c7 => (wi_aload0 fModel_keepDraft_20 (wi_getf900 fModel_keepDraft_21 (wi_bipush fModel_keepDraft_22 (wi_iload1 fModel_keepDraft_23 (wi_iadd fModel_keepDraft_24 (h.2 c7).1 (wi_aload0 fModel_keepDraft_25 (wi_getf911 fModel_keepDraft_26 (wi_iload1 fModel_keepDraft_27 (wi_ishr fModel_keepDraft_28 (wi_bipush fModel_keepDraft_29 (wi_iand fModel_keepDraft_30 (wi_iast1246 fModel_keepDraft_31 (h.2 c7).2.1 (h.2 c7).2.2.1 (wi_iinc1 fModel_keepDraft_32 trivial ((h.2 c7).2.2.2 _ rfl).1 (wi_goto fModel_keepDraft_33 ((h.2 c7).2.2.2 _ rfl).2))))))))))))))))))
theorem k_Model_keepDraft {xs : List Int} {d : Nat} {Q : Option w_V → w_M → Prop}  {σ : w_M} (hp : p_Model_keepDraft σ) (hQ : ∀ σ' : w_M, q_Model_keepDraft σ σ' → Q none σ') : w_Call (xs, d) 155 [.inr (.inr (9, 122))] σ Q := by
  refine bModel_keepDraft_0 ?_
  refine (w_loop (n := 82) (P := fun k => ∀ τ : w_M, (∀ b, b ≠ 123 → τ b = σ b) → (∀ x, x < k → τ 123 x = σ 126 x) → LModel_keepDraft_2 xs d Q (k : Int) τ) ?_ ?_) σ (fun _ _ => rfl) (fun x hx => by omega)
  · intro τ hb hx
    refine bModel_keepDraft_2 ⟨fun _ => ?_, fun h => by omega⟩
    refine (w_loop (n := 7) (P := fun k => ∀ τ : w_M, (∀ b, b ≠ 123 → τ b = σ b) → (∀ x, x < 82 → τ 123 x = if 14 ≤ x ∧ x < 14 + k then w_and (w_shr (σ 122 11) ((x - 14 : Nat) : Int)) 1 else σ 126 x) → LModel_keepDraft_17 xs d Q (k : Int) τ) ?_ ?_) τ hb (fun x h => by rw [if_neg (by omega)]; exact hx x h)
    · intro τ hb hx
      refine bModel_keepDraft_17 ⟨fun _ τ1 t1 τ2 t2 τ3 t3 τ4 t4 τ5 t5 => hQ _ ?_, fun h => by omega⟩
      have h2 : τ 122 = σ 122 := hb 122 (by decide)
      have e1 : ∀ j, j ≠ 3 → τ1 122 j = σ 122 j := fun j h => by rw [t1, w_up_j h, h2]
      have e2 : ∀ j, j ≠ 3 → j ≠ 4 → τ2 122 j = σ 122 j := fun j h h' => by rw [t2, w_up_j h']; exact e1 j h
      have e5 : τ5 122 = w_up τ2 122 5 (τ2 122 9) 122 := by rw [t5, w_up_ne (by decide), t4, w_up_ne (by decide), t3]
      refine ⟨fun b h1 h3 h4 => ?_, fun x h => ?_, ⟨?_, ?_, ?_⟩, fun j h3 h4 h5 => ?_, ?_, ?_⟩
      · rw [t5, w_up_ne h4, t4, w_up_ne h4, t3, w_up_ne h1, t2, w_up_ne h1, t1, w_up_ne h1]; exact hb b h3
      · rw [t5, w_up_ne (by decide), t4, w_up_ne (by decide), t3, w_up_ne (by decide), t2, w_up_ne (by decide), t1, w_up_ne (by decide)]; exact hx x h
      · rw [e5, w_up_j (by decide), t2, w_up_j (by decide), t1, w_up_at, h2]
      · rw [e5, w_up_j (by decide), t2, w_up_at]; exact e1 8 (by decide)
      · rw [e5, w_up_at]; exact e2 9 (by decide) (by decide)
      · rw [e5, w_up_j h5]; exact e2 j h3 h4
      · rw [t5, w_up_j (by decide), t4, w_up_at]
      · rw [t5, w_up_at]
    · intro k hk ih τ hb hx
      refine bModel_keepDraft_17 ⟨fun h => by omega, fun _ => ⟨⟨by omega, by omega⟩, by omega, by omega, fun τ6 t6 => ⟨⟨by omega, by omega⟩, ?_⟩⟩⟩
      rw [show (14 + (k : Int)).toNat = 14 + k by omega, hb 122 (by decide)] at t6
      rw [← w_cs1]
      refine ih τ6 (fun b h => by rw [t6, w_up_ne h]; exact hb b h) (fun x h => ?_)
      rw [t6, w_up_v, hx x h]
      by_cases e : x = 14 + k
      · rw [if_pos e, if_pos (by omega), e, show 14 + k - 14 = k by omega]
      · rw [if_neg e]
        by_cases g : 14 ≤ x ∧ x < 14 + k
        · rw [if_pos g, if_pos (by omega)]
        · rw [if_neg g, if_neg (by omega)]
  · intro k hk ih τ hb hx
    refine bModel_keepDraft_2 ⟨fun h => by omega, fun _ => ⟨by omega, by omega, fun τ1 t1 => ⟨⟨by omega, by omega⟩, ?_⟩⟩⟩
    rw [Int.toNat_natCast, hb 126 (by decide)] at t1
    rw [← w_cs1]
    refine ih τ1 (fun b h => by rw [t1, w_up_ne h]; exact hb b h) (fun x h => ?_)
    rw [t1, w_up_v]
    by_cases e : x = k
    · rw [if_pos e, e]
    · rw [if_neg e]; exact hx x (by omega)
/-- what is kept is what was told -/
theorem d_am_A {σ τ : w_M} (hd : dm σ) (q : q_Model_keepDraft σ τ) : w_am τ 123 0 = d_A (d_am σ) := by
  obtain ⟨hW, ⟨⟨c1, c2⟩, ⟨c3, c4⟩, c5, c6, c7⟩, -⟩ := hd
  obtain ⟨-, qx, ⟨q3, q4, q5⟩, -, -, -⟩ := q
  have w4 : 0 ≤ σ 122 8 ∧ σ 122 8 ≤ 7 := hW.2.2.1
  have w5 : 0 ≤ σ 122 9 ∧ σ 122 9 ≤ 4 := hW.2.2.2.1
  have hx : ∀ x, x < 82 → ¬ (14 ≤ x ∧ x < 21) → τ 123 x = σ 126 x := fun x h1 h2 => by rw [qx x h1, if_neg h2]
  have eA4 : (d_am σ 0 4).toNat = (σ 122 8).toNat := rfl
  have eA5 : (d_am σ 0 5).toNat = (σ 122 9).toNat := rfl
  funext d i
  by_cases e0 : d = 0
  · subst e0
    unfold w_am d_A
    rw [if_pos rfl, if_pos rfl, q3, q4, q5, hx (0 + 42) (by decide) (by decide), hx (0 + 41) (by decide) (by decide), hx (0 + 47) (by decide) (by decide)]
    show (if i = 0 then σ 122 7 else if i = 1 then σ 126 42 else if i = 2 then σ 126 41 else if i = 3 then σ 126 47 else if i = 4 then σ 122 8 else if i = 5 then σ 122 9 else 0) = if i = 0 then σ 122 7 else if i = 2 then σ 126 41 else if i = 3 then -4 else if i = 4 then σ 122 8 else if i = 5 then σ 122 9 else 0
    rw [c1, c2]
    by_cases h1 : i = 1
    · simp [h1]
    · simp [h1]
  · unfold w_am
    rw [if_neg e0, Nat.zero_add]
    by_cases e2 : d ≤ 2
    · have el : m_rl τ d = (σ 122 8).toNat := by unfold m_rl; rw [if_neg e0, if_pos e2, q4]
      unfold d_A
      rw [el, if_neg e0, if_pos e2, eA4]
      by_cases hi : i < (σ 122 8).toNat
      · rw [if_pos hi, if_pos hi, d_am_12 (by omega) e2, if_pos hi]
        rcases (show d = 1 ∨ d = 2 by omega) with rfl | rfl
        · exact hx i (by omega) (by omega)
        · exact hx (7 + i) (by omega) (by omega)
      · rw [if_neg hi, if_neg hi]
    · by_cases e7 : d ≤ 7
      · have el : m_rl τ d = (σ 122 9).toNat := by unfold m_rl; rw [if_neg e0, if_neg e2, if_pos e7, q5]
        rw [el]
        by_cases e5 : d = 5
        · subst e5
          show (if i < (σ 122 9).toNat then τ 123 (23 + 5 * i) else 0) = if i < (σ 122 9).toNat then 3 else 0
          by_cases hi : i < (σ 122 9).toNat
          · rw [if_pos hi, if_pos hi, hx _ (by omega) (by omega)]; exact c7 i hi
          · rw [if_neg hi, if_neg hi]
        · by_cases e7' : d = 7
          · subst e7'
            show (if i < (σ 122 9).toNat then τ 123 (25 + 5 * i) else 0) = 0
            by_cases hi : i < (σ 122 9).toNat
            · rw [if_pos hi, hx _ (by omega) (by omega)]; exact c6 i (by omega)
            · rw [if_neg hi]
          · unfold d_A
            rw [if_neg e0, if_neg e2, if_neg e5, if_pos (show d ≤ 6 by omega), eA5, d_am_346 (by omega)]
            by_cases hi : i < (σ 122 9).toNat
            · rw [if_pos hi, if_pos hi, if_pos hi]
              rcases (show d = 3 ∨ d = 4 ∨ d = 6 by omega) with rfl | rfl | rfl
              · exact hx (21 + 5 * i) (by omega) (by omega)
              · exact hx (22 + 5 * i) (by omega) (by omega)
              · exact hx (24 + 5 * i) (by omega) (by omega)
            · rw [if_neg hi, if_neg hi]
      · by_cases e8 : d = 8
        · subst e8
          show (if i < 4 then τ 123 (43 + i) else 0) = 0
          by_cases hi : i < 4
          · rw [if_pos hi, hx _ (by omega) (by omega)]; exact c5 i hi
          · rw [if_neg hi]
        · by_cases e9 : d = 9
          · subst e9
            have el : m_rl τ 9 = (σ 122 8).toNat := by unfold m_rl; rw [if_neg (by decide), if_neg (by decide), if_neg (by decide), if_neg (by decide), if_pos rfl, q4]
            rw [el]
            show (if i < (σ 122 8).toNat then τ 123 (14 + i) else 0) = if i < (σ 122 8).toNat then w_and (w_shr (σ 122 11) (i : Int)) 1 else 0
            by_cases hi : i < (σ 122 8).toNat
            · rw [if_pos hi, if_pos hi, qx _ (by omega), if_pos (by omega), show 14 + i - 14 = i by omega]
            · rw [if_neg hi, if_neg hi]
          · have el : m_rl τ d = 0 := by unfold m_rl; rw [if_neg e0, if_neg e2, if_neg e7, if_neg e8, if_neg e9]
            unfold d_A
            rw [el, if_neg (Nat.not_lt_zero i), if_neg e0, if_neg e2, if_neg (by omega), if_neg (by omega), if_neg e9]
theorem ln_f_nn {T : Nat → Int} {L : Nat} {D : w_M} {k f b : Nat} : 0 ≤ (ln_f T L D k f b).1 := by
  unfold ln_f
  split
  · show 0 ≤ ln_b D k
    unfold ln_b
    repeat' split
    all_goals omega
  · split
    · exact nf_nn _
    · show 0 ≤ ln_s T L (pp T L b (ln_m k))
      unfold ln_s
      repeat' split
      all_goals omega
theorem shr_0 {m s : Nat} (hm : m < 2147483648) (hs : s ≤ 12) : w_shr (m : Int) (s : Int) = 0 ↔ m < 2 ^ s := by
  rw [w_shr_nat hm (by omega)]
  have h2 : 0 < 2 ^ s := Nat.pos_of_ne_zero (by simp)
  constructor
  · intro h
    have h' : m / 2 ^ s = 0 := by omega
    exact (Nat.div_eq_zero_iff_lt h2).mp h'
  · intro h
    rw [Nat.div_eq_of_lt h]
    rfl
theorem bad_m {σ : w_M} (hd : dm σ) : d_bad (d_am σ) ↔ ¬ (σ 122 12 < σ 122 8 ∧ σ 122 13 < σ 122 7) := by
  obtain ⟨hW, -, h1, h2⟩ := hd
  have w0 : 1 ≤ σ 122 7 ∧ σ 122 7 ≤ 12 := hW.1
  have w2 : 0 ≤ d_am σ 0 2 ∧ d_am σ 0 2 ≤ 4095 := hW.2.1
  have w4 : 0 ≤ σ 122 8 ∧ σ 122 8 ≤ 7 := hW.2.2.1
  have w6 : 0 ≤ d_am σ 0 6 ∧ d_am σ 0 6 ≤ 127 := hW.2.2.2.2.1
  obtain ⟨s, hs⟩ : ∃ s : Nat, σ 122 8 = (s : Int) := ⟨(σ 122 8).toNat, by omega⟩
  obtain ⟨h, hh⟩ : ∃ h : Nat, σ 122 7 = (h : Int) := ⟨(σ 122 7).toNat, by omega⟩
  have e4 : d_am σ 0 4 = (s : Int) := hs
  have e0 : d_am σ 0 0 = (h : Int) := hh
  unfold d_bad
  rw [hs, hh, h1 s (by omega), h2 h (by omega), e4, e0]
  obtain ⟨a, ha⟩ := Int.eq_ofNat_of_zero_le w2.1
  obtain ⟨b, hb⟩ := Int.eq_ofNat_of_zero_le w6.1
  rw [ha, hb, shr_0 (by omega) (by omega), shr_0 (by omega) (by omega), Int.toNat_natCast, Int.toNat_natCast]
  constructor
  · intro z q
    exact z ⟨q.1.1, q.2, q.1.2⟩
  · intro z q
    exact z ⟨⟨q.1, q.2.2⟩, q.2.1⟩
end
section
/-! The reference and the whole text -/
noncomputable def p_Model_text (σ : w_M) : Prop := MI σ
noncomputable def q_Model_text (σ : w_M) (x : Int) (σ' : w_M) : Prop := m_q (F_text (mS σ)) (G_text (mS σ)) σ x σ'
theorem fModel_text_0 : w_fe am_c159 0 1 (.bipush 0) := ⟨rfl, rfl⟩
theorem fModel_text_1 : w_fe am_c159 1 2 (.istore 1) := ⟨rfl, rfl⟩
theorem fModel_text_2 : w_fe am_c159 2 3 (.aload 0) := ⟨rfl, rfl⟩
theorem fModel_text_3 : w_fe am_c159 3 4 (.bipush 0) := ⟨rfl, rfl⟩
theorem fModel_text_4 : w_fe am_c159 4 5 (.putfield 920) := ⟨rfl, rfl⟩
theorem fModel_text_5 : w_fe am_c159 5 6 (.aload 0) := ⟨rfl, rfl⟩
theorem fModel_text_6 : w_fe am_c159 6 7 (.bipush 0) := ⟨rfl, rfl⟩
theorem fModel_text_7 : w_fe am_c159 7 8 (.putfield 916) := ⟨rfl, rfl⟩
theorem fModel_text_8 : w_fe am_c159 8 9 (.aload 0) := ⟨rfl, rfl⟩
theorem fModel_text_9 : w_fe am_c159 9 10 (.invokestatic 154) := ⟨rfl, rfl⟩
theorem fModel_text_10 : w_fe am_c159 10 11 (.aload 0) := ⟨rfl, rfl⟩
theorem fModel_text_11 : w_fe am_c159 11 12 (.invokestatic 160) := ⟨rfl, rfl⟩
theorem fModel_text_12 : w_fe am_c159 12 13 (.aload 0) := ⟨rfl, rfl⟩
theorem fModel_text_13 : w_fe am_c159 13 14 (.getfield 920) := ⟨rfl, rfl⟩
theorem fModel_text_14 : w_if am_c159 14 15 .ne 22 := ⟨rfl, rfl⟩
theorem fModel_text_15 : w_fe am_c159 15 16 (.aload 0) := ⟨rfl, rfl⟩
theorem fModel_text_16 : w_fe am_c159 16 17 (.getfield 918) := ⟨rfl, rfl⟩
theorem fModel_text_17 : w_if am_c159 17 18 .eq 22 := ⟨rfl, rfl⟩
theorem fModel_text_18 : w_fe am_c159 18 19 (.aload 0) := ⟨rfl, rfl⟩
theorem fModel_text_19 : w_fe am_c159 19 20 (.invokestatic 163) := ⟨rfl, rfl⟩
theorem fModel_text_20 : w_fe am_c159 20 21 (.iinc 1 1) := ⟨rfl, rfl⟩
theorem fModel_text_21 : w_gt am_c159 21 12 := rfl
theorem fModel_text_22 : w_fe am_c159 22 23 (.aload 0) := ⟨rfl, rfl⟩
theorem fModel_text_23 : w_fe am_c159 23 24 (.getfield 920) := ⟨rfl, rfl⟩
theorem fModel_text_24 : w_if am_c159 24 25 .ne 41 := ⟨rfl, rfl⟩
theorem fModel_text_25 : w_fe am_c159 25 26 (.aload 0) := ⟨rfl, rfl⟩
theorem fModel_text_26 : w_fe am_c159 26 27 (.aload 0) := ⟨rfl, rfl⟩
theorem fModel_text_27 : w_fe am_c159 27 28 (.getfield 912) := ⟨rfl, rfl⟩
theorem fModel_text_28 : w_fe am_c159 28 29 (.aload 0) := ⟨rfl, rfl⟩
theorem fModel_text_29 : w_fe am_c159 29 30 (.getfield 908) := ⟨rfl, rfl⟩
theorem fModel_text_30 : w_ic am_c159 30 31 .ge 38 := ⟨rfl, rfl⟩
theorem fModel_text_31 : w_fe am_c159 31 32 (.aload 0) := ⟨rfl, rfl⟩
theorem fModel_text_32 : w_fe am_c159 32 33 (.getfield 913) := ⟨rfl, rfl⟩
theorem fModel_text_33 : w_fe am_c159 33 34 (.aload 0) := ⟨rfl, rfl⟩
theorem fModel_text_34 : w_fe am_c159 34 35 (.getfield 907) := ⟨rfl, rfl⟩
theorem fModel_text_35 : w_ic am_c159 35 36 .ge 38 := ⟨rfl, rfl⟩
theorem fModel_text_36 : w_fe am_c159 36 37 (.bipush 1) := ⟨rfl, rfl⟩
theorem fModel_text_37 : w_gt am_c159 37 39 := rfl
theorem fModel_text_38 : w_fe am_c159 38 39 (.bipush 0) := ⟨rfl, rfl⟩
theorem fModel_text_39 : w_fe am_c159 39 40 (.bipush 6) := ⟨rfl, rfl⟩
theorem fModel_text_40 : w_fe am_c159 40 41 (.invokestatic 162) := ⟨rfl, rfl⟩
theorem fModel_text_41 : w_fe am_c159 41 42 (.aload 0) := ⟨rfl, rfl⟩
theorem fModel_text_42 : w_fe am_c159 42 43 (.bipush 0) := ⟨rfl, rfl⟩
theorem fModel_text_43 : w_fe am_c159 43 44 (.putfield 915) := ⟨rfl, rfl⟩
theorem fModel_text_44 : w_fe am_c159 44 45 (.aload 0) := ⟨rfl, rfl⟩
theorem fModel_text_45 : w_fe am_c159 45 46 (.getfield 920) := ⟨rfl, rfl⟩
theorem fModel_text_46 : w_if am_c159 46 47 .le 52 := ⟨rfl, rfl⟩
theorem fModel_text_47 : w_fe am_c159 47 48 (.bipush (-10)) := ⟨rfl, rfl⟩
theorem fModel_text_48 : w_fe am_c159 48 49 (.aload 0) := ⟨rfl, rfl⟩
theorem fModel_text_49 : w_fe am_c159 49 50 (.getfield 921) := ⟨rfl, rfl⟩
theorem fModel_text_50 : w_fe am_c159 50 51 (.isub) := ⟨rfl, rfl⟩
theorem fModel_text_51 : w_fe am_c159 51 52 (.ireturn) := ⟨rfl, rfl⟩
theorem fModel_text_52 : w_fe am_c159 52 53 (.aload 0) := ⟨rfl, rfl⟩
theorem fModel_text_53 : w_fe am_c159 53 54 (.invokestatic 155) := ⟨rfl, rfl⟩
theorem fModel_text_54 : w_fe am_c159 54 55 (.iload 1) := ⟨rfl, rfl⟩
theorem fModel_text_55 : w_fe am_c159 55 56 (.ireturn) := ⟨rfl, rfl⟩
noncomputable def LModel_text_12 (xs : List Int) (d : Nat) (Q : Option w_V → w_M → Prop) (v1 : Int) (σ : w_M) : Prop := w_Ex (xs, d) 1 am_c159 Q 12 [some (.inr (.inr (9, 122))), some (.inl v1)] [] σ
set_option maxRecDepth 20000 in
theorem bModel_text_0 {xs : List Int} {d : Nat} {Q : Option w_V → w_M → Prop}  {σ : w_M}
    (h : ∀ (τ1 : w_M), τ1 = w_up σ 122 20 0 → ∀ (τ2 : w_M), τ2 = w_up τ1 122 16 0 → ∀ (τ3 : w_M), q_Model_firstDraft τ2 τ3 → (p_Model_next τ3 ∧ (∀ (τ4 : w_M), q_Model_next τ3 τ4 → LModel_text_12 xs (d + 6) Q 0 τ4))) : w_Call (xs, (d + 6)) 159 [.inr (.inr (9, 122))] σ Q :=
  (w_mk (mid := 159) (by decide) rfl rfl rfl rfl rfl (Nat.le_of_ble_eq_true rfl) ⟨rfl, Or.inl (by decide)⟩ (wi_bipush fModel_text_0 (wi_istore1 fModel_text_1 trivial (wi_aload0 fModel_text_2 (wi_bipush fModel_text_3 (wi_putf920 fModel_text_4 (wi_aload0 fModel_text_5 (wi_bipush fModel_text_6 (wi_putf916 fModel_text_7 (wi_aload0 fModel_text_8 (wi_call1 fModel_text_9 (Nat.le_of_ble_eq_true rfl) (k_Model_firstDraft (fun τ3 eτ3 => (wi_aload0 fModel_text_10 (wi_call1 fModel_text_11 (Nat.le_of_ble_eq_true rfl) (k_Model_next (((h _ rfl) _ rfl) τ3 eτ3).1 (fun τ4 eτ4 => ((((h _ rfl) _ rfl) τ3 eτ3).2 τ4 eτ4))))))))))))))))))
set_option maxRecDepth 20000 in
theorem bModel_text_12 {xs : List Int} {d : Nat} {Q : Option w_V → w_M → Prop} {v1 : Int} {σ : w_M}
    (h : (¬ (σ 122 20) = 0 → ∀ (τ1 : w_M), τ1 = w_up σ 122 15 0 → (((τ1 122 20) ≤ 0 → (p_Model_keepDraft τ1 ∧ (∀ (τ2 : w_M), q_Model_keepDraft τ1 τ2 → Q (some (.inl v1)) τ2))) ∧ (0 < (τ1 122 20) → (w_in ((-10) - (τ1 122 21)) ∧ Q (some (.inl ((-10) - (τ1 122 21)))) τ1)))) ∧ ((σ 122 20) = 0 → (((σ 122 18) = 0 → (((σ 122 8) ≤ (σ 122 12) → ∀ (τ4 : w_M), q_Model_needs 0 6 σ τ4 → ∀ (τ5 : w_M), τ5 = w_up τ4 122 15 0 → (((τ5 122 20) ≤ 0 → (p_Model_keepDraft τ5 ∧ (∀ (τ6 : w_M), q_Model_keepDraft τ5 τ6 → Q (some (.inl v1)) τ6))) ∧ (0 < (τ5 122 20) → (w_in ((-10) - (τ5 122 21)) ∧ Q (some (.inl ((-10) - (τ5 122 21)))) τ5)))) ∧ ((σ 122 12) < (σ 122 8) → (((σ 122 7) ≤ (σ 122 13) → ∀ (τ8 : w_M), q_Model_needs 0 6 σ τ8 → ∀ (τ9 : w_M), τ9 = w_up τ8 122 15 0 → (((τ9 122 20) ≤ 0 → (p_Model_keepDraft τ9 ∧ (∀ (τ10 : w_M), q_Model_keepDraft τ9 τ10 → Q (some (.inl v1)) τ10))) ∧ (0 < (τ9 122 20) → (w_in ((-10) - (τ9 122 21)) ∧ Q (some (.inl ((-10) - (τ9 122 21)))) τ9)))) ∧ ((σ 122 13) < (σ 122 7) → ∀ (τ12 : w_M), q_Model_needs 1 6 σ τ12 → ∀ (τ13 : w_M), τ13 = w_up τ12 122 15 0 → (((τ13 122 20) ≤ 0 → (p_Model_keepDraft τ13 ∧ (∀ (τ14 : w_M), q_Model_keepDraft τ13 τ14 → Q (some (.inl v1)) τ14))) ∧ (0 < (τ13 122 20) → (w_in ((-10) - (τ13 122 21)) ∧ Q (some (.inl ((-10) - (τ13 122 21)))) τ13)))))))) ∧ (¬ (σ 122 18) = 0 → (p_Model_readLine σ ∧ (∀ (τ18 : w_M), q_Model_readLine σ τ18 → (w_in (v1 + 1) ∧ LModel_text_12 xs (d + 6) Q (v1 + 1) τ18))))))) : LModel_text_12 xs (d + 6) Q v1 σ :=
  (wi_aload0 fModel_text_12 (wi_getf920 fModel_text_13 (wi_if_ne fModel_text_14 (fun c20 => (wi_aload0 fModel_text_22 (wi_getf920 fModel_text_23 (wi_if_ne fModel_text_24 (fun _ => (wi_aload0 fModel_text_41 (wi_bipush fModel_text_42 (wi_putf915 fModel_text_43 (wi_aload0 fModel_text_44 (wi_getf920 fModel_text_45 (wi_if_le fModel_text_46 (fun c3 => (wi_aload0 fModel_text_52 (wi_call1 fModel_text_53 (Nat.le_of_ble_eq_true rfl) (k_Model_keepDraft (((h.1 c20) _ rfl).1 c3).1 (fun τ2 eτ2 => (wi_iload1 fModel_text_54 (wi_ret1 fModel_text_55 ((((h.1 c20) _ rfl).1 c3).2 τ2 eτ2)))))))) (fun c3 => (wi_bipush fModel_text_47 (wi_aload0 fModel_text_48 (wi_getf921 fModel_text_49 (wi_isub fModel_text_50 (((h.1 c20) _ rfl).2 c3).1 (wi_ret1 fModel_text_51 (((h.1 c20) _ rfl).2 c3).2))))))))))))) (fun e => absurd c20 (w_n_ne e)))))) (fun c20 => (wi_aload0 fModel_text_15 (wi_getf918 fModel_text_16 (wi_if_eq fModel_text_17 (fun c19 => (wi_aload0 fModel_text_22 (wi_getf920 fModel_text_23 (wi_if_ne fModel_text_24 (fun e => absurd c20 (w_m_ne e)) (fun _ => (wi_aload0 fModel_text_25 (wi_aload0 fModel_text_26 (wi_getf912 fModel_text_27 (wi_aload0 fModel_text_28 (wi_getf908 fModel_text_29 (wi_ic_ge fModel_text_30 (fun c17 => (wi_bipush fModel_text_38 (wi_bipush fModel_text_39 (wi_call3 fModel_text_40 (Nat.le_of_ble_eq_true rfl) (k_Model_needs (fun τ4 eτ4 => (wi_aload0 fModel_text_41 (wi_bipush fModel_text_42 (wi_putf915 fModel_text_43 (wi_aload0 fModel_text_44 (wi_getf920 fModel_text_45 (wi_if_le fModel_text_46 (fun c7 => (wi_aload0 fModel_text_52 (wi_call1 fModel_text_53 (Nat.le_of_ble_eq_true rfl) (k_Model_keepDraft ((((((h.2 c20).1 c19).1 c17) τ4 eτ4) _ rfl).1 c7).1 (fun τ6 eτ6 => (wi_iload1 fModel_text_54 (wi_ret1 fModel_text_55 (((((((h.2 c20).1 c19).1 c17) τ4 eτ4) _ rfl).1 c7).2 τ6 eτ6)))))))) (fun c7 => (wi_bipush fModel_text_47 (wi_aload0 fModel_text_48 (wi_getf921 fModel_text_49 (wi_isub fModel_text_50 ((((((h.2 c20).1 c19).1 c17) τ4 eτ4) _ rfl).2 c7).1 (wi_ret1 fModel_text_51 ((((((h.2 c20).1 c19).1 c17) τ4 eτ4) _ rfl).2 c7).2)))))))))))))))))) (fun c17 => (wi_aload0 fModel_text_31 (wi_getf913 fModel_text_32 (wi_aload0 fModel_text_33 (wi_getf907 fModel_text_34 (wi_ic_ge fModel_text_35 (fun c16 => (wi_bipush fModel_text_38 (wi_bipush fModel_text_39 (wi_call3 fModel_text_40 (Nat.le_of_ble_eq_true rfl) (k_Model_needs (fun τ8 eτ8 => (wi_aload0 fModel_text_41 (wi_bipush fModel_text_42 (wi_putf915 fModel_text_43 (wi_aload0 fModel_text_44 (wi_getf920 fModel_text_45 (wi_if_le fModel_text_46 (fun c11 => (wi_aload0 fModel_text_52 (wi_call1 fModel_text_53 (Nat.le_of_ble_eq_true rfl) (k_Model_keepDraft (((((((h.2 c20).1 c19).2 c17).1 c16) τ8 eτ8) _ rfl).1 c11).1 (fun τ10 eτ10 => (wi_iload1 fModel_text_54 (wi_ret1 fModel_text_55 ((((((((h.2 c20).1 c19).2 c17).1 c16) τ8 eτ8) _ rfl).1 c11).2 τ10 eτ10)))))))) (fun c11 => (wi_bipush fModel_text_47 (wi_aload0 fModel_text_48 (wi_getf921 fModel_text_49 (wi_isub fModel_text_50 (((((((h.2 c20).1 c19).2 c17).1 c16) τ8 eτ8) _ rfl).2 c11).1 (wi_ret1 fModel_text_51 (((((((h.2 c20).1 c19).2 c17).1 c16) τ8 eτ8) _ rfl).2 c11).2)))))))))))))))))) (fun c16 => (wi_bipush fModel_text_36 (wi_goto fModel_text_37 (wi_bipush fModel_text_39 (wi_call3 fModel_text_40 (Nat.le_of_ble_eq_true rfl) (k_Model_needs (fun τ12 eτ12 => (wi_aload0 fModel_text_41 (wi_bipush fModel_text_42 (wi_putf915 fModel_text_43 (wi_aload0 fModel_text_44 (wi_getf920 fModel_text_45 (wi_if_le fModel_text_46 (fun c15 => (wi_aload0 fModel_text_52 (wi_call1 fModel_text_53 (Nat.le_of_ble_eq_true rfl) (k_Model_keepDraft (((((((h.2 c20).1 c19).2 c17).2 c16) τ12 eτ12) _ rfl).1 c15).1 (fun τ14 eτ14 => (wi_iload1 fModel_text_54 (wi_ret1 fModel_text_55 ((((((((h.2 c20).1 c19).2 c17).2 c16) τ12 eτ12) _ rfl).1 c15).2 τ14 eτ14)))))))) (fun c15 => (wi_bipush fModel_text_47 (wi_aload0 fModel_text_48 (wi_getf921 fModel_text_49 (wi_isub fModel_text_50 (((((((h.2 c20).1 c19).2 c17).2 c16) τ12 eτ12) _ rfl).2 c15).1 (wi_ret1 fModel_text_51 (((((((h.2 c20).1 c19).2 c17).2 c16) τ12 eτ12) _ rfl).2 c15).2)))))))))))))))))))))))))))))))))))) (fun c19 => (wi_aload0 fModel_text_18 (wi_call1 fModel_text_19 (Nat.le_of_ble_eq_true rfl) (k_Model_readLine ((h.2 c20).2 c19).1 (fun τ18 eτ18 => (wi_iinc1 fModel_text_20 trivial (((h.2 c20).2 c19).2 τ18 eτ18).1 (wi_goto fModel_text_21 (((h.2 c20).2 c19).2 τ18 eτ18).2))))))))))))))
set_option maxHeartbeats 2000000 in
theorem k_Model_text {xs : List Int} {d : Nat} {Q : Option w_V → w_M → Prop}  {σ : w_M} (hp : p_Model_text σ) (hQ : ∀ (x : Int) (σ' : w_M), q_Model_text σ x σ' → Q (some (.inl x)) σ') : w_Call (xs, d + 6) 159 [.inr (.inr (9, 122))] σ Q := by
  have hM : MI σ := hp
  have hta := hM.2.2.2.1
  have hk : m_rk σ := by
    refine ⟨hta.1, fun i hi => ?_⟩
    have := hta.2 i hi
    have e : mS σ 3 1 i = σ 127 i := by
      show (if i < (σ 122 15).toNat then σ 127 i else 0) = _
      rw [if_pos hi]
    rw [e] at this
    exact this
  have hk1 := hk.1
  have hLe : mL σ = (σ 122 15).toNat := rfl
  have hL160 : mL σ ≤ 160 := by omega
  have eR : tx_R (mS σ) = rd_R (mT σ) (mL σ) 161 0 0 d_0 := rfl
  have pl := rd_pl (T := mT σ) (L := mL σ) 161 0 0 d_0 (Nat.zero_le _)
  have rl := rd_L (T := mT σ) hL160
  unfold q_Model_text F_text G_text at hQ
  rw [eR] at hQ
  have tpT : ∀ τ : w_M, mo_tp σ τ → mT τ = mT σ ∧ mL τ = mL σ ∧ m_rk τ := fun τ F => ⟨F.T, F.L, F.ok hk⟩
  generalize hT : mT σ = T at *
  generalize hL : mL σ = L at *
  generalize hR : rd_R T L 161 0 0 d_0 = R at *
  -- it ends with a fault
  have done_f : ∀ (v : Int) (τ : w_M), mo_h σ τ → 0 < R.1.1 → τ 122 20 = R.1.1 → τ 122 21 = ((R.1.2 : Nat) : Int) → ∀ τ1, τ1 = w_up τ 122 15 0 → (τ1 122 20 ≤ 0 → p_Model_keepDraft τ1 ∧ ∀ τ2, q_Model_keepDraft τ1 τ2 → Q (some (.inl v)) τ2) ∧ (0 < τ1 122 20 → w_in (-10 - τ1 122 21) ∧ Q (some (.inl (-10 - τ1 122 21))) τ1) := fun v τ F h1 h2 h3 τ1 t1 => by
    have z20 : τ1 122 20 = R.1.1 := by rw [t1, w_up_j (by decide)]; exact h2
    have z21 : τ1 122 21 = ((R.1.2 : Nat) : Int) := by rw [t1, w_up_j (by decide)]; exact h3
    have z15 : τ1 122 15 = 0 := by rw [t1, w_up_at]
    have zb : ∀ b, b ≠ 122 → b ≠ 126 → τ1 b = σ b := fun b hb hb2 => by rw [t1, w_up_ne hb]; exact F.1 b hb hb2
    have z2 : ∀ j, j < 7 ∨ 22 ≤ j → τ1 122 j = σ 122 j := fun j hj => by rw [t1, w_up_j (by omega)]; exact F.2 j (by omega)
    refine ⟨fun c => by omega, fun _ => ⟨by rw [z21]; exact ⟨by omega, by omega⟩, ?_⟩⟩
    rw [if_neg (by omega), if_neg (by omega)] at hQ
    rw [z21]
    refine hQ _ _ (m_q3 hM (fun j hj => z2 j (by omega)) (fun b hb => zb b (by omega) (by omega)) (fun b hb => zb b (by omega) (by omega)) (z2 27 (by omega)) ?_ tz_WF rfl)
    funext d i
    unfold t_am tz
    rw [z15, z20]
    by_cases h0 : d = 0
    · subst h0
      by_cases h1 : i = 1
      · subst h1; simp
      · simp [h1]
    · simp [h0]
  -- it ends well
  have done_k : ∀ (v : Int) (τ : w_M), mo_h σ τ → R.1.1 = 0 → τ 122 20 = 0 → dm τ → d_am τ = R.2.2 → v = ((R.2.1 : Nat) : Int) → ∀ τ1, τ1 = w_up τ 122 15 0 → (τ1 122 20 ≤ 0 → p_Model_keepDraft τ1 ∧ ∀ τ2, q_Model_keepDraft τ1 τ2 → Q (some (.inl v)) τ2) ∧ (0 < τ1 122 20 → w_in (-10 - τ1 122 21) ∧ Q (some (.inl (-10 - τ1 122 21))) τ1) := fun v τ F h1 h20 hd hD hv τ1 t1 => by
    have z20 : τ1 122 20 = 0 := by rw [t1, w_up_j (by decide)]; exact h20
    refine ⟨fun _ => ⟨trivial, fun τ2 q2 => ?_⟩, fun c => by omega⟩
    have z6 : τ1 126 = τ 126 := by rw [t1, w_up_ne (by decide)]
    have eD : d_am τ1 = d_am τ := d_am_fr z6 (fun j h1 h2 => by rw [t1, w_up_j (by omega)])
    have hd1 : dm τ1 := by
      refine ⟨by rw [eD]; exact hd.1, m_cn_fr hd.2.1 z6 (by rw [t1, w_up_j (by decide)]), ?_⟩
      rw [eD, t1, w_up_j (by decide), w_up_j (by decide)]
      exact hd.2.2
    have eA : w_am τ2 123 0 = d_A R.2.2 := by rw [d_am_A hd1 q2, eD, hD]
    obtain ⟨l1, l2⟩ := rl h1
    rw [if_pos h1, if_pos h1] at hQ
    obtain ⟨qb, qx, q345, qj, q0, q1⟩ := q2
    have zb : ∀ b, b ≠ 122 → b ≠ 123 → b ≠ 125 → b ≠ 126 → τ2 b = σ b := fun b hb1 hb2 hb3 hb4 => by rw [qb b hb1 hb2 hb3, t1, w_up_ne hb1]; exact F.1 b hb1 hb4
    have z15 : τ2 122 15 = 0 := by rw [qj 15 (by decide) (by decide) (by decide), t1, w_up_at]
    have z220 : τ2 122 20 = 0 := by rw [qj 20 (by decide) (by decide) (by decide)]; exact z20
    have z48 : τ2 123 (0 + 48) = 0 := by rw [qx _ (by decide), if_neg (by decide)]; exact hd1.2.1.2.1.1
    have z73 : τ2 123 (0 + 73) = 0 := by rw [qx _ (by decide), if_neg (by decide)]; exact hd1.2.1.2.1.2
    have eS : mS τ2 = tx_G (mS σ) R.2.2 := by
      refine cS_ext eA ?_ ?_ ?_ ?_ ?_
      · funext d i
        show s_am τ2 0 d i = 0
        unfold s_am
        rw [z48]
        simp
      · funext d i
        show c_am τ2 0 d i = 0
        unfold c_am
        rw [z73]
        simp
      · funext d i
        show t_am τ2 d i = 0
        unfold t_am
        rw [z15, z220]
        simp
      · exact h_am_fr (fun b h1 h2 => zb b (by omega) (by omega) (by omega) (by omega))
      · intro p hp5
        match p, hp5 with
        | 5, _ => simp only [mS]; rw [q0, if_neg (by decide)]; rfl
        | 6, _ => simp only [mS]; rw [q0, if_neg (by decide)]; rfl
        | 7, _ => simp only [mS]; rw [q0, if_neg (by decide)]; rfl
        | 8, _ => simp only [mS]; rw [q1, if_neg (by decide)]; rfl
        | 9, _ => simp only [mS]; rw [q1, if_neg (by decide)]; rfl
        | 10, _ => simp only [mS]; rw [q1, if_neg (by decide)]; rfl
        | 11, _ =>
          simp only [mS]
          funext d i
          show (if d = 0 ∧ i < 2 then τ2 125 i else 0) = 0
          by_cases h : d = 0 ∧ i < 2
          · rw [if_pos h]
            rcases (show i = 0 ∨ i = 1 by omega) with rfl | rfl
            · exact q0
            · exact q1
          · rw [if_neg h]
        | p + 12, _ => rfl
    refine hQ _ _ ⟨hv, by unfold MI; rw [eS]; exact tx_WF hM l1, eS, fun b hb => zb b (by omega) (by omega) (by omega) (by omega), ?_⟩
    rw [qj 27 (by decide) (by decide) (by decide), t1, w_up_j (by decide)]
    exact F.2 27 (by omega)
  refine bModel_text_0 (fun τ1 t1 τ2 t2 τ3 q3 => ?_)
  obtain ⟨F3, fj, fx, f7, f8, f9, f10, f11, f12, f13⟩ := q3
  have z20 : τ3 122 20 = 0 := by rw [fj 20 (by decide), t2, w_up_j (by decide), t1, w_up_at]
  have z16 : τ3 122 16 = ((0 : Nat) : Int) := by rw [fj 16 (by decide), t2, w_up_at]; rfl
  have H2 : mo_h σ τ2 := by
    rw [t2, t1]
    exact ⟨fun b h1 h2 => by rw [w_up_ne h1, w_up_ne h1], fun j hj => by rw [w_up_j (by omega), w_up_j (by omega)]⟩
  have H3 : mo_h σ τ3 := H2.tr F3
  have z15 : τ3 122 15 = σ 122 15 := H3.2 15 (by omega)
  obtain ⟨g1, g2, g3⟩ := tpT τ3 H3.tp
  have D3 : d_am τ3 = d_0 := by
    refine d_am_eq (fun i => ?_) (fun d i h1 h2 => ?_) (fun d i h => ?_) (fun d i h => ?_)
    · rw [d_am_0, f7, f8, f9, f10, f11, fx 41 (by decide), if_neg (show ¬ (41 : Nat) = 47 by decide)]
      show _ = if (0 : Nat) = 0 ∧ i = 0 then (8 : Int) else 0
      by_cases h : i = 0
      · simp [h]
      · simp [h]
    · rw [f8]
      show (if i < 0 then _ else (0 : Int)) = if d = 0 ∧ i = 0 then 8 else 0
      rw [if_neg (Nat.not_lt_zero i), if_neg (by omega)]
    · rw [f9]
      show (if i < 0 then _ else (0 : Int)) = if d = 0 ∧ i = 0 then 8 else 0
      rw [if_neg (Nat.not_lt_zero i), if_neg (by omega)]
    · show (if d = 0 ∧ i = 0 then (8 : Int) else 0) = 0
      rw [if_neg (by omega)]
  have N3 : dm τ3 := by
    refine ⟨by rw [D3]; exact d_0_WF, ⟨⟨?_, ?_⟩, ⟨?_, ?_⟩, fun o ho => ?_, fun r hr => ?_, fun r hr => ?_⟩, ?_⟩
    · rw [fx 42 (by decide), if_neg (by decide)]
    · rw [fx 47 (by decide), if_pos rfl]
    · rw [fx 48 (by decide), if_neg (by decide)]
    · rw [fx 73 (by decide), if_neg (by decide)]
    · rw [fx _ (by omega), if_neg (by omega)]
    · rw [fx _ (by omega), if_neg (by omega)]
    · rw [f9] at hr; exact absurd hr (Nat.not_lt_zero r)
    · rw [D3, f12, f13]
      refine ⟨fun s hs => ⟨fun _ => ⟨fun r hr => absurd hr (Nat.not_lt_zero r), ?_⟩, fun _ => by omega⟩, fun h hh => ⟨fun _ => ?_, fun _ => by omega⟩⟩
      · show 0 < 2 ^ s
        exact Nat.pos_of_ne_zero (by simp)
      · show 0 < 2 ^ h
        exact Nat.pos_of_ne_zero (by simp)
  refine ⟨⟨by omega, fun _ => ⟨g3, by omega, by omega⟩⟩, fun τ4 q4 => ?_⟩
  have t4 := q4.2 z20
  rw [z16, Int.toNat_natCast, g1, g2] at t4
  have F4 : mo_fr τ3 τ4 := t4.1
  have D4 : d_am τ4 = d_am τ3 := d_am_fr (F4.1 126 (by decide)) (fun j h1 h2 => F4.2 j (by omega))
  have N4 : dm τ4 := by
    refine ⟨by rw [D4]; exact N3.1, m_cn_fr N3.2.1 (F4.1 126 (by decide)) (F4.2 9 (by omega)), ?_⟩
    rw [D4, F4.2 12 (by omega), F4.2 13 (by omega)]
    exact N3.2.2
  refine (w_loop (n := 161) (P := fun k => ∀ (τ : w_M) (p : Nat), mo_h σ τ → m_cur T L p τ → k ≤ p → p ≤ L → dm τ → rd_R T L (161 - k) k p (d_am τ) = R → LModel_text_12 xs (d + 6) Q (k : Int) τ) ?_ ?_) τ4 0 (H3.tr F4.h) t4.cur (Nat.le_refl _) (Nat.zero_le _) N4 (by rw [D4, D3]; exact hR)
  · intro τ p F hc hkp hpL
    omega
  · intro k hk161 ih τ p F hc hkp hpL hd hr
    obtain ⟨g1', g2', g3'⟩ := tpT τ F.tp
    obtain ⟨n, hn⟩ : ∃ n, 161 - k = n + 1 := ⟨160 - k, by omega⟩
    rw [hn] at hr
    simp only [rd_R] at hr
    have hfl := tk_f_le (T := T) hpL
    by_cases k4 : tk_k T L p = 4
    · obtain ⟨c1, c2⟩ := hc.2.2.1 k4
      rw [if_neg (by omega), if_pos k4] at hr
      rw [← hr] at done_f
      exact bModel_text_12 ⟨fun _ => done_f _ τ F (show (0 : Int) < 1 by decide) c1 c2, fun h => by omega⟩
    · obtain ⟨c1, c2⟩ := hc.2.2.2.1 k4
      refine bModel_text_12 ⟨fun h => absurd c1 h, fun _ => ⟨fun c3 => ?_, fun c3 => ?_⟩⟩
      · have k0 : tk_k T L p = 0 := by rw [← c2]; exact c3
        rw [if_pos k0] at hr
        have hbad := bad_m hd
        have eL : tk_f T L p = L := by
          unfold tk_k at k0
          by_cases e : L ≤ tk_f T L p
          · omega
          · rw [if_neg e] at k0
            repeat' split at k0
            all_goals omega
        have bad : d_bad (d_am τ) → ∀ τ4, q_Model_needs 0 6 τ τ4 → ∀ τ5, τ5 = w_up τ4 122 15 0 → (τ5 122 20 ≤ 0 → p_Model_keepDraft τ5 ∧ ∀ τ2, q_Model_keepDraft τ5 τ2 → Q (some (.inl (k : Int))) τ2) ∧ (0 < τ5 122 20 → w_in (-10 - τ5 122 21) ∧ Q (some (.inl (-10 - τ5 122 21))) τ5) := fun hb τ4 q4 => by
          rw [if_pos hb] at hr
          obtain ⟨n1, n2, n3, n4⟩ := need_n q4 rfl c1
          rw [← hr] at done_f
          exact done_f _ τ4 (F.tr n3.h) (show (0 : Int) < 6 by decide) n1 (by rw [n2, hc.1, eL])
        refine ⟨fun c4 => bad (hbad.mpr (fun q => by omega)), fun c4 => ⟨fun c5 => bad (hbad.mpr (fun q => by omega)), fun c5 τ12 q12 => ?_⟩⟩
        have hb : ¬ d_bad (d_am τ) := fun q => hbad.mp q ⟨c4, c5⟩
        rw [if_neg hb] at hr
        rw [← hr] at done_k
        rw [need_y q12]
        exact done_k _ τ F rfl c1 hd rfl rfl
      · have hk0 : ¬ tk_k T L p = 0 := by rw [← c2]; exact c3
        rw [if_neg hk0, if_neg k4] at hr
        have hb := tk_b_le (T := T) (L := L) (p := p) (tk_k0 hk0)
        have hat : m_at T L p τ := ⟨⟨g1', g2', g3'⟩, hpL, hc⟩
        refine ⟨⟨c1, ⟨p, by rw [g1', g2']; exact hat, by rw [g1', g2']; exact hk0⟩, hd⟩, fun τ18 q18 => ⟨⟨by omega, by omega⟩, ?_⟩⟩
        unfold q_Model_readLine at q18
        rw [g1', g2'] at q18
        obtain ⟨F18, q⟩ := q18
        obtain ⟨r1, r2⟩ := q p hat hk0
        have F18' : mo_h σ τ18 := F.tr F18
        have stop : 0 < R.1.1 → τ18 122 20 = R.1.1 → τ18 122 21 = ((R.1.2 : Nat) : Int) → LModel_text_12 xs (d + 6) Q ((k : Int) + 1) τ18 := fun h1 h2 h4 => bModel_text_12 ⟨fun _ => done_f _ τ18 F18' h1 h2 h4, fun h => by omega⟩
        by_cases hno : ¬ tk_k T L p = 1 ∨ ln_n T L (tk_f T L p) (tk_b T L p) = -1
        · rw [if_pos hno] at hr
          rw [← hr] at stop
          exact stop (show (0 : Int) < 2 by decide) (r1 hno).1 (r1 hno).2
        · rw [if_neg hno] at hr
          have k1 : tk_k T L p = 1 := Classical.byContradiction (fun z => hno (Or.inl z))
          have kn : ¬ ln_n T L (tk_f T L p) (tk_b T L p) = -1 := fun z => hno (Or.inr z)
          obtain ⟨r3, r4⟩ := r2 k1 kn
          by_cases kf : (ln_f T L (d_am τ) (ln_n T L (tk_f T L p) (tk_b T L p)).toNat (tk_f T L p) (tk_b T L p)).1 = 0
          · rw [if_neg (fun q => q kf)] at hr
            obtain ⟨o1, o2, o3⟩ := r4 kf
            have adv := ln_adv hpL hk0 kf
            rw [← w_cs1]
            refine ih τ18 _ F18' o1 (by omega) adv.2 o3 ?_
            rw [show 161 - (k + 1) = n by omega, o2]
            exact hr
          · rw [if_pos kf] at hr
            have hnn := ln_f_nn (T := T) (L := L) (D := d_am τ) (k := (ln_n T L (tk_f T L p) (tk_b T L p)).toNat) (f := tk_f T L p) (b := tk_b T L p)
            rw [← hr] at stop
            exact stop (by show 0 < (ln_f T L (d_am τ) (ln_n T L (tk_f T L p) (tk_b T L p)).toNat (tk_f T L p) (tk_b T L p)).1; omega) (r3 kf).1 (r3 kf).2
end
section
/-! Class and reference beside each other, call by call -/
noncomputable def INV (σ : w_M) : Prop := CI σ ∧ MI σ ∧ cS σ = mS σ
theorem CI_lo {σ σ' : w_M} (hC : CI σ) (h : ∀ b, b < 122 → σ' b = σ b) : CI σ' := ⟨by rw [cS_lo h]; exact hC.1, cX_fr hC.2 (by rw [h 14 (by omega)]) (by rw [h 0 (by omega)]) (by rw [h 89 (by omega)]) (by rw [h 106 (by omega)])⟩
theorem e_pair {F : w_S → Int} {G : w_S → w_S} {σ τ : w_M} {y : Int} (h : INV σ) (hc : c_q (F (cS σ)) (G (cS σ)) σ y τ) : MI τ ∧ ∀ (y' : Int) (τ' : w_M), m_q (F (mS τ)) (G (mS τ)) τ y' τ' → y = y' ∧ INV τ' := by
  obtain ⟨hC, hM, hS⟩ := h
  obtain ⟨e1, c1, c2, c3, -⟩ := hc
  have eM : mS τ = mS σ := mS_hi c3
  refine ⟨by unfold MI; rw [eM]; exact hM, fun y' τ' hm => ?_⟩
  obtain ⟨f1, m1, m2, m3, -⟩ := hm
  rw [eM] at f1 m2
  refine ⟨by rw [e1, f1, hS], CI_lo c1 m3, m1, ?_⟩
  rw [cS_lo m3, c2, m2, hS]
theorem i_feed {x1 : Int} {σ : w_M} (hI : INV σ) : p_Moon_feed x1 σ := hI.1
theorem e_feed {x1 : Int} {σ τ : w_M} {y : Int} (hI : INV σ) (hq : q_Moon_feed x1 σ y τ) : p_Model_feed x1 τ ∧ ∀ (y' : Int) (τ' : w_M), q_Model_feed x1 τ y' τ' → y = y' ∧ INV τ' := by
  have g := e_pair (F := fun S => F_feed S x1) (G := fun S => G_feed S x1) hI hq
  exact ⟨g.1, g.2⟩
theorem i_end {x1 : Int} {σ : w_M} (hI : INV σ) : p_Moon_end x1 σ := hI.1
theorem e_end {x1 : Int} {σ τ : w_M} {y : Int} (hI : INV σ) (hq : q_Moon_end x1 σ y τ) : p_Model_end x1 τ ∧ ∀ (y' : Int) (τ' : w_M), q_Model_end x1 τ y' τ' → y = y' ∧ INV τ' := by
  have g := e_pair (F := fun S => F_end S x1) (G := fun S => G_end S x1) hI hq
  exact ⟨g.1, g.2⟩
theorem i_fault  {σ : w_M} (hI : INV σ) : p_Moon_fault σ := hI.1
theorem e_fault  {σ τ : w_M} {y : Int} (hI : INV σ) (hq : q_Moon_fault σ y τ) : p_Model_fault τ ∧ ∀ (y' : Int) (τ' : w_M), q_Model_fault τ y' τ' → y = y' ∧ INV τ' := by
  have g := e_pair (F := fun S => F_fault S) (G := fun S => S) hI hq
  exact ⟨g.1, g.2⟩
theorem i_rule {x1 : Int} {σ : w_M} (hI : INV σ) : p_Moon_rule x1 σ := hI.1
theorem e_rule {x1 : Int} {σ τ : w_M} {y : Int} (hI : INV σ) (hq : q_Moon_rule x1 σ y τ) : p_Model_rule x1 τ ∧ ∀ (y' : Int) (τ' : w_M), q_Model_rule x1 τ y' τ' → y = y' ∧ INV τ' := by
  have g := e_pair (F := fun S => F_rule S x1) (G := fun S => S) hI hq
  exact ⟨g.1, g.2⟩
theorem i_strip {x1 : Int} {x2 : Int} {σ : w_M} (hI : INV σ) : p_Moon_strip x1 x2 σ := hI.1
theorem e_strip {x1 : Int} {x2 : Int} {σ τ : w_M} {y : Int} (hI : INV σ) (hq : q_Moon_strip x1 x2 σ y τ) : p_Model_strip x1 x2 τ ∧ ∀ (y' : Int) (τ' : w_M), q_Model_strip x1 x2 τ y' τ' → y = y' ∧ INV τ' := by
  have g := e_pair (F := fun S => F_strip S x1 x2) (G := fun S => S) hI hq
  exact ⟨g.1, g.2⟩
theorem i_reaper {x1 : Int} {x2 : Int} {σ : w_M} (hI : INV σ) : p_Moon_reaper x1 x2 σ := hI.1
theorem e_reaper {x1 : Int} {x2 : Int} {σ τ : w_M} {y : Int} (hI : INV σ) (hq : q_Moon_reaper x1 x2 σ y τ) : p_Model_reaper x1 x2 τ ∧ ∀ (y' : Int) (τ' : w_M), q_Model_reaper x1 x2 τ y' τ' → y = y' ∧ INV τ' := by
  have g := e_pair (F := fun S => F_reaper S x1 x2) (G := fun S => S) hI hq
  exact ⟨g.1, g.2⟩
theorem i_harvest {x1 : Int} {σ : w_M} (hI : INV σ) : p_Moon_harvest x1 σ := hI.1
theorem e_harvest {x1 : Int} {σ τ : w_M} {y : Int} (hI : INV σ) (hq : q_Moon_harvest x1 σ y τ) : p_Model_harvest x1 τ ∧ ∀ (y' : Int) (τ' : w_M), q_Model_harvest x1 τ y' τ' → y = y' ∧ INV τ' := by
  have g := e_pair (F := fun S => F_harvest S x1) (G := fun S => S) hI hq
  exact ⟨g.1, g.2⟩
theorem i_send {x1 : Int} {x2 : Int} {σ : w_M} (hI : INV σ) : p_Moon_send x1 x2 σ := hI.1
theorem e_send {x1 : Int} {x2 : Int} {σ τ : w_M} {y : Int} (hI : INV σ) (hq : q_Moon_send x1 x2 σ y τ) : p_Model_send x1 x2 τ ∧ ∀ (y' : Int) (τ' : w_M), q_Model_send x1 x2 τ y' τ' → y = y' ∧ INV τ' := by
  have g := e_pair (F := fun S => F_send S x1 x2) (G := fun S => G_send S x1 x2) hI hq
  exact ⟨g.1, fun y' τ' hm => g.2 y' τ' hm.1⟩
theorem i_lend {x1 : Int} {x2 : Int} {x3 : Int} {σ : w_M} (hI : INV σ) : p_Moon_lend x1 x2 x3 σ := hI.1
theorem e_lend {x1 : Int} {x2 : Int} {x3 : Int} {σ τ : w_M} {y : Int} (hI : INV σ) (hq : q_Moon_lend x1 x2 x3 σ y τ) : p_Model_lend x1 x2 x3 τ ∧ ∀ (y' : Int) (τ' : w_M), q_Model_lend x1 x2 x3 τ y' τ' → y = y' ∧ INV τ' := by
  have g := e_pair (F := fun S => F_lend S x1 x2 x3) (G := fun S => G_lend S x1 x2 x3) hI hq
  exact ⟨g.1, g.2⟩
theorem i_whet {x1 : Int} {x2 : Int} {σ : w_M} (hI : INV σ) : p_Moon_whet x1 x2 σ := hI.1
theorem e_whet {x1 : Int} {x2 : Int} {σ τ : w_M} {y : Int} (hI : INV σ) (hq : q_Moon_whet x1 x2 σ y τ) : p_Model_whet x1 x2 τ ∧ ∀ (y' : Int) (τ' : w_M), q_Model_whet x1 x2 τ y' τ' → y = y' ∧ INV τ' := by
  have g := e_pair (F := fun S => F_whet S x1 x2) (G := fun S => G_whet S x1 x2) hI hq
  exact ⟨g.1, g.2⟩
theorem i_fill {x1 : Int} {x2 : Int} {σ : w_M} (hI : INV σ) : p_Moon_fill x1 x2 σ := hI.1
theorem e_fill {x1 : Int} {x2 : Int} {σ τ : w_M} {y : Int} (hI : INV σ) (hq : q_Moon_fill x1 x2 σ y τ) : p_Model_fill x1 x2 τ ∧ ∀ (y' : Int) (τ' : w_M), q_Model_fill x1 x2 τ y' τ' → y = y' ∧ INV τ' := by
  have g := e_pair (F := fun S => F_fill S x1 x2) (G := fun S => G_fill S x1 x2) hI hq
  exact ⟨g.1, g.2⟩
theorem i_cloud {x1 : Int} {x2 : Int} {σ : w_M} (hI : INV σ) (hx2 : x2 = 0 ∨ x2 = 1) : p_Moon_cloud x1 x2 σ := ⟨hI.1, hx2⟩
theorem e_cloud {x1 : Int} {x2 : Int} {σ τ : w_M} {y : Int} (hI : INV σ) (hx2 : x2 = 0 ∨ x2 = 1) (hq : q_Moon_cloud x1 x2 σ y τ) : p_Model_cloud x1 x2 τ ∧ ∀ (y' : Int) (τ' : w_M), q_Model_cloud x1 x2 τ y' τ' → y = y' ∧ INV τ' := by
  have g := e_pair (F := fun S => F_cloud S x1 x2) (G := fun S => G_cloud S x1 x2) hI hq
  exact ⟨⟨g.1, hx2⟩, g.2⟩
theorem i_thistle {x1 : Int} {x2 : Int} {σ : w_M} (hI : INV σ) (hx2 : x2 = 0 ∨ x2 = 1) : p_Moon_thistle x1 x2 σ := ⟨hI.1, hx2⟩
theorem e_thistle {x1 : Int} {x2 : Int} {σ τ : w_M} {y : Int} (hI : INV σ) (hx2 : x2 = 0 ∨ x2 = 1) (hq : q_Moon_thistle x1 x2 σ y τ) : p_Model_thistle x1 x2 τ ∧ ∀ (y' : Int) (τ' : w_M), q_Model_thistle x1 x2 τ y' τ' → y = y' ∧ INV τ' := by
  have g := e_pair (F := fun S => F_thistle S x1 x2) (G := fun S => G_thistle S x1 x2) hI hq
  exact ⟨⟨g.1, hx2⟩, g.2⟩
theorem i_own {x1 : Int} {x2 : Int} {σ : w_M} (hI : INV σ) : p_Moon_own x1 x2 σ := hI.1
theorem e_own {x1 : Int} {x2 : Int} {σ τ : w_M} {y : Int} (hI : INV σ) (hq : q_Moon_own x1 x2 σ y τ) : p_Model_own x1 x2 τ ∧ ∀ (y' : Int) (τ' : w_M), q_Model_own x1 x2 τ y' τ' → y = y' ∧ INV τ' := by
  have g := e_pair (F := fun S => F_own S x1 x2) (G := fun S => G_own S x1 x2) hI hq
  exact ⟨g.1, g.2⟩
theorem i_grow {x1 : Int} {x2 : Int} {σ : w_M} (hI : INV σ) : p_Moon_grow x1 x2 σ := hI.1
theorem e_grow {x1 : Int} {x2 : Int} {σ τ : w_M} {y : Int} (hI : INV σ) (hq : q_Moon_grow x1 x2 σ y τ) : p_Model_grow x1 x2 τ ∧ ∀ (y' : Int) (τ' : w_M), q_Model_grow x1 x2 τ y' τ' → y = y' ∧ INV τ' := by
  have g := e_pair (F := fun S => F_grow S x1 x2) (G := fun S => G_grow S x1 x2) hI hq
  exact ⟨g.1, g.2⟩
theorem i_go {x1 : Int} {σ : w_M} (hI : INV σ) : p_Moon_go x1 σ := hI.1
theorem e_go {x1 : Int} {σ τ : w_M} {y : Int} (hI : INV σ) (hq : q_Moon_go x1 σ y τ) : p_Model_go x1 τ ∧ ∀ (y' : Int) (τ' : w_M), q_Model_go x1 τ y' τ' → y = y' ∧ INV τ' := by
  have g := e_pair (F := fun S => F_go S x1) (G := fun S => G_go S x1) hI hq
  exact ⟨g.1, g.2⟩
theorem i_ahead {x1 : Int} {x2 : Int} {x3 : Int} {σ : w_M} (hI : INV σ) : p_Moon_ahead x1 x2 x3 σ := hI.1
theorem e_ahead {x1 : Int} {x2 : Int} {x3 : Int} {σ τ : w_M} {y : Int} (hI : INV σ) (hq : q_Moon_ahead x1 x2 x3 σ y τ) : p_Model_ahead x1 x2 x3 τ ∧ ∀ (y' : Int) (τ' : w_M), q_Model_ahead x1 x2 x3 τ y' τ' → y = y' ∧ INV τ' := by
  have g := e_pair (F := fun S => F_ahead S x1 x2 x3) (G := fun S => S) hI hq
  exact ⟨g.1, g.2⟩
theorem i_stands {x1 : Int} {x2 : Int} {σ : w_M} (hI : INV σ) : p_Moon_stands x1 x2 σ := hI.1
theorem e_stands {x1 : Int} {x2 : Int} {σ τ : w_M} {y : Int} (hI : INV σ) (hq : q_Moon_stands x1 x2 σ y τ) : p_Model_stands x1 x2 τ ∧ ∀ (y' : Int) (τ' : w_M), q_Model_stands x1 x2 τ y' τ' → y = y' ∧ INV τ' := by
  have g := e_pair (F := fun S => F_stands S x1 x2) (G := fun S => S) hI hq
  exact ⟨g.1, g.2⟩
theorem i_done {x1 : Int} {σ : w_M} (hI : INV σ) : p_Moon_done x1 σ := hI.1
theorem e_done {x1 : Int} {σ τ : w_M} {y : Int} (hI : INV σ) (hq : q_Moon_done x1 σ y τ) : p_Model_done x1 τ ∧ ∀ (y' : Int) (τ' : w_M), q_Model_done x1 τ y' τ' → y = y' ∧ INV τ' := by
  have g := e_pair (F := fun S => F_done S x1) (G := fun S => S) hI hq
  exact ⟨g.1, g.2⟩
theorem i_left  {σ : w_M} (hI : INV σ) : p_Moon_left σ := hI.1
theorem e_left  {σ τ : w_M} {y : Int} (hI : INV σ) (hq : q_Moon_left σ y τ) : p_Model_left τ ∧ ∀ (y' : Int) (τ' : w_M), q_Model_left τ y' τ' → y = y' ∧ INV τ' := by
  have g := e_pair (F := fun S => F_left S) (G := fun S => S) hI hq
  exact ⟨g.1, g.2⟩
theorem i_begin {x1 : Int} {σ : w_M} (hI : INV σ) : p_Moon_begin x1 σ := hI.1
theorem e_begin {x1 : Int} {σ τ : w_M} {y : Int} (hI : INV σ) (hq : q_Moon_begin x1 σ y τ) : p_Model_begin x1 τ ∧ ∀ (y' : Int) (τ' : w_M), q_Model_begin x1 τ y' τ' → y = y' ∧ INV τ' := by
  have g := e_pair (F := fun S => F_begin S x1) (G := fun S => S) hI hq
  exact ⟨g.1, g.2⟩
theorem i_best {x1 : Int} {x2 : Int} {σ : w_M} (hI : INV σ) : p_Moon_best x1 x2 σ := hI.1
theorem e_best {x1 : Int} {x2 : Int} {σ τ : w_M} {y : Int} (hI : INV σ) (hq : q_Moon_best x1 x2 σ y τ) : p_Model_best x1 x2 τ ∧ ∀ (y' : Int) (τ' : w_M), q_Model_best x1 x2 τ y' τ' → y = y' ∧ INV τ' := by
  have g := e_pair (F := fun S => F_best S x1 x2) (G := fun S => S) hI hq
  exact ⟨g.1, g.2⟩
theorem i_oil {x1 : Int} {σ : w_M} (hI : INV σ) : p_Moon_oil x1 σ := hI.1
theorem e_oil {x1 : Int} {σ τ : w_M} {y : Int} (hI : INV σ) (hq : q_Moon_oil x1 σ y τ) : p_Model_oil x1 τ ∧ ∀ (y' : Int) (τ' : w_M), q_Model_oil x1 τ y' τ' → y = y' ∧ INV τ' := by
  have g := e_pair (F := fun S => F_oil S x1) (G := fun S => S) hI hq
  exact ⟨g.1, g.2⟩
theorem i_least {x1 : Int} {σ : w_M} (hI : INV σ) : p_Moon_least x1 σ := hI.1
theorem e_least {x1 : Int} {σ τ : w_M} {y : Int} (hI : INV σ) (hq : q_Moon_least x1 σ y τ) : p_Model_least x1 τ ∧ ∀ (y' : Int) (τ' : w_M), q_Model_least x1 τ y' τ' → y = y' ∧ INV τ' := by
  have g := e_pair (F := fun S => F_least S x1) (G := fun S => S) hI hq
  exact ⟨g.1, g.2⟩
theorem i_luck {x1 : Int} {x2 : Int} {σ : w_M} (hI : INV σ) : p_Moon_luck x1 x2 σ := hI.1
theorem e_luck {x1 : Int} {x2 : Int} {σ τ : w_M} {y : Int} (hI : INV σ) (hq : q_Moon_luck x1 x2 σ y τ) : p_Model_luck x1 x2 τ ∧ ∀ (y' : Int) (τ' : w_M), q_Model_luck x1 x2 τ y' τ' → y = y' ∧ INV τ' := by
  have g := e_pair (F := fun S => F_luck S x1 x2) (G := fun S => S) hI hq
  exact ⟨g.1, g.2⟩
theorem i_see {x1 : Int} {x2 : Int} {x3 : Int} {σ : w_M} (hI : INV σ) (hx3 : x3 = 0 ∨ x3 = 1) : p_Moon_see x1 x2 x3 σ := ⟨hI.1, hx3⟩
theorem e_see {x1 : Int} {x2 : Int} {x3 : Int} {σ τ : w_M} {y : Int} (hI : INV σ) (hx3 : x3 = 0 ∨ x3 = 1) (hq : q_Moon_see x1 x2 x3 σ y τ) : p_Model_see x1 x2 x3 τ ∧ ∀ (y' : Int) (τ' : w_M), q_Model_see x1 x2 x3 τ y' τ' → y = y' ∧ INV τ' := by
  have g := e_pair (F := fun S => F_see S x1 x2 x3) (G := fun S => G_see S x1 x2 x3) hI hq
  exact ⟨⟨g.1, hx3⟩, g.2⟩
theorem i_forget {x1 : Int} {σ : w_M} (hI : INV σ) : p_Moon_forget x1 σ := hI.1
theorem e_forget {x1 : Int} {σ τ : w_M} {y : Int} (hI : INV σ) (hq : q_Moon_forget x1 σ y τ) : p_Model_forget x1 τ ∧ ∀ (y' : Int) (τ' : w_M), q_Model_forget x1 τ y' τ' → y = y' ∧ INV τ' := by
  have g := e_pair (F := fun S => F_forget S x1) (G := fun S => G_forget S x1) hI hq
  exact ⟨g.1, g.2⟩
theorem i_hare {x1 : Int} {σ : w_M} (hI : INV σ) : p_Moon_hare x1 σ := hI.1
theorem e_hare {x1 : Int} {σ τ : w_M} {y : Int} (hI : INV σ) (hq : q_Moon_hare x1 σ y τ) : p_Model_hare x1 τ ∧ ∀ (y' : Int) (τ' : w_M), q_Model_hare x1 τ y' τ' → y = y' ∧ INV τ' := by
  have g := e_pair (F := fun S => F_hare S x1) (G := fun S => S) hI hq
  exact ⟨g.1, g.2⟩
theorem i_runs  {σ : w_M} (hI : INV σ) : p_Moon_runs σ := hI.1
theorem e_runs  {σ τ : w_M} {y : Int} (hI : INV σ) (hq : q_Moon_runs σ y τ) : p_Model_runs τ ∧ ∀ (y' : Int) (τ' : w_M), q_Model_runs τ y' τ' → y = y' ∧ INV τ' := by
  have g := e_pair (F := fun S => F_runs S) (G := fun S => S) hI hq
  exact ⟨g.1, g.2⟩
theorem i_look {x1 : Int} {x2 : Int} {σ : w_M} (hI : INV σ) : p_Moon_look x1 x2 σ := hI.1
theorem e_look {x1 : Int} {x2 : Int} {σ τ : w_M} {y : Int} (hI : INV σ) (hq : q_Moon_look x1 x2 σ y τ) : p_Model_look x1 x2 τ ∧ ∀ (y' : Int) (τ' : w_M), q_Model_look x1 x2 τ y' τ' → y = y' ∧ INV τ' := by
  have g := e_pair (F := fun S => F_look S x1 x2) (G := fun S => S) hI hq
  exact ⟨g.1, g.2⟩
theorem i_pay {x1 : Int} {x2 : Int} {σ : w_M} (hI : INV σ) : p_Moon_pay x1 x2 σ := hI.1
theorem e_pay {x1 : Int} {x2 : Int} {σ τ : w_M} {y : Int} (hI : INV σ) (hq : q_Moon_pay x1 x2 σ y τ) : p_Model_pay x1 x2 τ ∧ ∀ (y' : Int) (τ' : w_M), q_Model_pay x1 x2 τ y' τ' → y = y' ∧ INV τ' := by
  have g := e_pair (F := fun S => F_pay S x1 x2) (G := fun S => G_pay S x1 x2) hI hq
  exact ⟨g.1, g.2⟩
theorem i_owe {x1 : Int} {σ : w_M} (hI : INV σ) : p_Moon_owe x1 σ := hI.1
theorem e_owe {x1 : Int} {σ τ : w_M} {y : Int} (hI : INV σ) (hq : q_Moon_owe x1 σ y τ) : p_Model_owe x1 τ ∧ ∀ (y' : Int) (τ' : w_M), q_Model_owe x1 τ y' τ' → y = y' ∧ INV τ' := by
  have g := e_pair (F := fun S => F_owe S x1) (G := fun S => G_owe S x1) hI hq
  exact ⟨g.1, g.2⟩
theorem i_fits {x1 : Int} {σ : w_M} (hI : INV σ) : p_Moon_fits x1 σ := hI.1
theorem e_fits {x1 : Int} {σ τ : w_M} {y : Int} (hI : INV σ) (hq : q_Moon_fits x1 σ y τ) : p_Model_fits x1 τ ∧ ∀ (y' : Int) (τ' : w_M), q_Model_fits x1 τ y' τ' → y = y' ∧ INV τ' := by
  have g := e_pair (F := fun S => F_fits S x1) (G := fun S => S) hI hq
  exact ⟨g.1, g.2⟩
theorem i_drift {x1 : Int} {x2 : Int} {x3 : Int} {σ : w_M} (hI : INV σ) : p_Moon_drift x1 x2 x3 σ := hI.1
theorem e_drift {x1 : Int} {x2 : Int} {x3 : Int} {σ τ : w_M} {y : Int} (hI : INV σ) (hq : q_Moon_drift x1 x2 x3 σ y τ) : p_Model_drift x1 x2 x3 τ ∧ ∀ (y' : Int) (τ' : w_M), q_Model_drift x1 x2 x3 τ y' τ' → y = y' ∧ INV τ' := by
  have g := e_pair (F := fun S => F_drift S x1 x2 x3) (G := fun S => S) hI hq
  exact ⟨g.1, g.2⟩
theorem i_keep {x1 : Int} {σ : w_M} (hI : INV σ) : p_Moon_keep x1 σ := hI.1
theorem e_keep {x1 : Int} {σ τ : w_M} {y : Int} (hI : INV σ) (hq : q_Moon_keep x1 σ y τ) : p_Model_keep x1 τ ∧ ∀ (y' : Int) (τ' : w_M), q_Model_keep x1 τ y' τ' → y = y' ∧ INV τ' := by
  have g := e_pair (F := fun S => F_keep S x1) (G := fun S => G_keep S x1) hI hq
  exact ⟨g.1, g.2⟩
theorem i_back {x1 : Int} {σ : w_M} (hI : INV σ) : p_Moon_back x1 σ := hI.1
theorem e_back {x1 : Int} {σ τ : w_M} {y : Int} (hI : INV σ) (hq : q_Moon_back x1 σ y τ) : p_Model_back x1 τ ∧ ∀ (y' : Int) (τ' : w_M), q_Model_back x1 τ y' τ' → y = y' ∧ INV τ' := by
  have g := e_pair (F := fun S => F_back S x1) (G := fun S => G_back S x1) hI hq
  exact ⟨g.1, g.2⟩
theorem i_sheet {x1 : Int} {x2 : Int} {x3 : Int} {σ : w_M} (hI : INV σ) : p_Moon_sheet x1 x2 x3 σ := hI.1
theorem e_sheet {x1 : Int} {x2 : Int} {x3 : Int} {σ τ : w_M} {y : Int} (hI : INV σ) (hq : q_Moon_sheet x1 x2 x3 σ y τ) : p_Model_sheet x1 x2 x3 τ ∧ ∀ (y' : Int) (τ' : w_M), q_Model_sheet x1 x2 x3 τ y' τ' → y = y' ∧ INV τ' := by
  have g := e_pair (F := fun S => F_sheet S x1 x2 x3) (G := fun S => G_sheet S x1 x2 x3) hI hq
  exact ⟨g.1, g.2⟩
theorem i_lay {x1 : Int} {x2 : Int} {x3 : Int} {σ : w_M} (hI : INV σ) : p_Moon_lay x1 x2 x3 σ := hI.1
theorem e_lay {x1 : Int} {x2 : Int} {x3 : Int} {σ τ : w_M} {y : Int} (hI : INV σ) (hq : q_Moon_lay x1 x2 x3 σ y τ) : p_Model_lay x1 x2 x3 τ ∧ ∀ (y' : Int) (τ' : w_M), q_Model_lay x1 x2 x3 τ y' τ' → y = y' ∧ INV τ' := by
  have g := e_pair (F := fun S => F_lay S x1 x2 x3) (G := fun S => G_lay S x1 x2 x3) hI hq
  exact ⟨g.1, g.2⟩
theorem i_count {x1 : Int} {σ : w_M} (hI : INV σ) : p_Moon_count x1 σ := hI.1
theorem e_count {x1 : Int} {σ τ : w_M} {y : Int} (hI : INV σ) (hq : q_Moon_count x1 σ y τ) : p_Model_count x1 τ ∧ ∀ (y' : Int) (τ' : w_M), q_Model_count x1 τ y' τ' → y = y' ∧ INV τ' := by
  have g := e_pair (F := fun S => F_count S x1) (G := fun S => S) hI hq
  exact ⟨g.1, g.2⟩
theorem i_text {σ : w_M} (hI : INV σ) : p_Moon_text σ := hI.1
theorem e_text {σ τ : w_M} {y : Int} (hI : INV σ) (hq : q_Moon_text σ y τ) : p_Model_text τ ∧ ∀ (y' : Int) (τ' : w_M), q_Model_text τ y' τ' → y = y' ∧ INV τ' := e_pair (F := F_text) (G := G_text) hI hq
theorem i_read {x1 x2 x3 x4 : Int} {σ : w_M} (hI : INV σ) (hf : w_in x3) : p_Moon_read x1 x2 x3 x4 σ := ⟨hI.1, hf⟩
theorem e_read {x1 x2 x3 x4 : Int} {σ τ : w_M} {y : Int} (hI : INV σ) (hf : w_in x3) (hq : q_Moon_read x1 x2 x3 x4 σ y τ) : p_Model_read x1 x2 x3 x4 τ ∧ ∀ (y' : Int) (τ' : w_M), q_Model_read x1 x2 x3 x4 τ y' τ' → y = y' ∧ INV τ' := by
  obtain ⟨hC, hM, hS⟩ := hI
  obtain ⟨r1, c1, c3, -⟩ := hq
  have eM : mS τ = mS σ := mS_hi c3
  refine ⟨⟨by unfold MI; rw [eM]; exact hM, hf⟩, fun y' τ' hm => ?_⟩
  obtain ⟨r2, m1, m3, -⟩ := hm
  rw [eM, ← hS] at r2
  obtain ⟨e1, e2⟩ := R_read_det r1 r2
  exact ⟨e1, CI_lo c1 m3, m1, by rw [cS_lo m3]; exact e2⟩
theorem i_torn {σ : w_M} (_ : INV σ) : p_Moon_torn σ := trivial
theorem e_torn {σ τ : w_M} {y : Int} (hI : INV σ) (hq : q_Moon_torn σ y τ) : p_Model_torn τ ∧ ∀ (y' : Int) (τ' : w_M), q_Model_torn τ y' τ' → INV τ' := ⟨trivial, fun y' τ' hm => by rw [hm.2, hq.2]; exact hI⟩
end
