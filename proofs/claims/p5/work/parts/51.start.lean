/-! The start: class and reference hold the same, and both are well -/
theorem s0_rl {d : Nat} (h0 : d ≠ 0) (h8 : d < 8) : w_rl w_s0 14 d = 0 := by
  unfold w_rl
  rw [if_neg h0]
  by_cases h2 : d ≤ 2
  · rw [if_pos h2]; rfl
  · rw [if_neg h2, if_pos (by omega)]; rfl
theorem s0_mrl {d : Nat} (h8 : d ≠ 8) : m_rl w_s0 d = 0 := by
  have e4 : (w_s0 122 4).toNat = 0 := rfl
  have e5 : (w_s0 122 5).toNat = 0 := rfl
  unfold m_rl
  rw [e4, e5]
  repeat' split
  all_goals first | rfl | omega
theorem s0_A : w_ab w_s0 14 = w_am w_s0 123 0 := by
  funext d i
  by_cases h0 : d = 0
  · subst h0
    by_cases hi : i < 6
    · rcases (show i = 0 ∨ i = 1 ∨ i = 2 ∨ i = 3 ∨ i = 4 ∨ i = 5 by omega) with rfl | rfl | rfl | rfl | rfl | rfl <;> rfl
    · have e1 : w_ab w_s0 14 0 i = 0 := by
        unfold w_ab
        rw [if_pos (by decide)]
        exact if_neg (show ¬ i < 6 from hi)
      have e2 : w_am w_s0 123 0 0 i = 0 := by
        unfold w_am
        rw [if_pos rfl, if_neg (by omega), if_neg (by omega), if_neg (by omega), if_neg (by omega), if_neg (by omega), if_neg (by omega)]
      rw [e1, e2]
  · by_cases h8 : d = 8
    · subst h8
      by_cases hi : i < 4
      · rcases (show i = 0 ∨ i = 1 ∨ i = 2 ∨ i = 3 by omega) with rfl | rfl | rfl | rfl <;> rfl
      · have e1 : w_ab w_s0 14 8 i = 0 := by
          unfold w_ab
          rw [if_pos (by decide)]
          exact if_neg (show ¬ i < 4 from hi)
        have e2 : w_am w_s0 123 0 8 i = 0 := by
          unfold w_am
          rw [if_neg (by decide)]
          exact if_neg (show ¬ i < 4 from hi)
        rw [e1, e2]
    · have e2 : w_am w_s0 123 0 d i = 0 := by
        unfold w_am
        rw [if_neg h0, s0_mrl h8, if_neg (Nat.not_lt_zero _)]
      rw [e2]
      unfold w_ab
      by_cases h9 : d < 9
      · rw [if_pos h9, s0_rl h0 (by omega), if_neg (Nat.not_lt_zero _)]
      · rw [if_neg h9]
        split
        · exact if_neg (show ¬ i < 0 from Nat.not_lt_zero _)
        · rfl
theorem s0_k : k_ab w_s0 0 = 0 ∧ k_ab w_s0 1 = 0 := by
  have : w_s0 0 7 = 0 := rfl
  unfold k_ab
  rw [this]
  decide +kernel
theorem s0_S : cS w_s0 = mS w_s0 := by
  refine cS_ext s0_A ?_ ?_ ?_ ?_ ?_
  · funext d i
    have a : w_s0 23 0 = 0 := rfl
    have b : w_s0 123 (0 + 48) = 0 := rfl
    show s_ab w_s0 23 d i = s_am w_s0 0 d i
    unfold s_ab s_am
    rw [a, b]
    simp
  · funext d i
    have a : w_s0 27 0 = 0 := rfl
    have b : w_s0 123 (0 + 73) = 0 := rfl
    show c_ab w_s0 27 d i = c_am w_s0 0 d i
    unfold c_ab c_am
    rw [a, b]
    simp
  · funext d i
    have a : w_s0 1 1 = 0 := rfl
    have a2 : w_s0 0 8 = 0 := rfl
    have b : w_s0 122 15 = 0 := rfl
    have b2 : w_s0 122 20 = 0 := rfl
    show t_ab w_s0 d i = t_am w_s0 d i
    unfold t_ab t_am
    rw [a, b, a2, b2]
    simp
  · funext k j
    show h_ab w_s0 k j = h_am w_s0 k j
    unfold h_ab h_am
    by_cases hk : k < 4
    · have a : w_s0 87 k = -4 := by rcases (show k = 0 ∨ k = 1 ∨ k = 2 ∨ k = 3 by omega) with rfl | rfl | rfl | rfl <;> rfl
      have b : w_s0 130 k = -4 := by rcases (show k = 0 ∨ k = 1 ∨ k = 2 ∨ k = 3 by omega) with rfl | rfl | rfl | rfl <;> rfl
      rw [if_pos hk, if_pos hk, a, b, if_pos (by decide), if_pos rfl]
    · rw [if_neg hk, if_neg hk]
  · have e0 : w_s0 125 0 = 0 := rfl
    have e1 : w_s0 125 1 = 0 := rfl
    obtain ⟨k0, k1⟩ := s0_k
    intro p hp
    match p, hp with
    | 5, _ => simp only [cS, mS]; rw [k0, e0, if_neg (by decide), if_neg (by decide)]
    | 6, _ => simp only [cS, mS]; rw [k0, e0, if_neg (by decide), if_neg (by decide)]
    | 7, _ => simp only [cS, mS]; rw [k0, e0, if_neg (by decide), if_neg (by decide)]
    | 8, _ => simp only [cS, mS]; rw [k1, e1, if_neg (by decide), if_neg (by decide)]
    | 9, _ => simp only [cS, mS]; rw [k1, e1, if_neg (by decide), if_neg (by decide)]
    | 10, _ => simp only [cS, mS]; rw [k1, e1, if_neg (by decide), if_neg (by decide)]
    | 11, _ =>
      simp only [cS, mS]
      funext d i
      by_cases hd : d = 0 ∧ i < 2
      · rw [if_pos hd, if_pos hd]
        rcases (show i = 0 ∨ i = 1 by omega) with rfl | rfl
        · rw [k0, e0]
        · rw [k1, e1]
      · rw [if_neg hd, if_neg hd]
    | p + 12, _ => exact (show cS w_s0 (p + 12) = w_0 from rfl).trans (show mS w_s0 (p + 12) = w_0 from rfl).symm
theorem s0_CI : CI w_s0 := by
  obtain ⟨k0, k1⟩ := s0_k
  have e0 : cS w_s0 11 0 0 = 0 := k0
  have e1 : cS w_s0 11 0 1 = 0 := k1
  refine ⟨⟨?_, ?_, ?_, ?_, ?_, Or.inl e0, Or.inl e1, fun h => ?_, fun h => ?_⟩, ⟨by decide, by decide⟩, ⟨by decide, by decide⟩, fun h => ?_, fun h => ?_⟩
  · exact ⟨by decide, by decide, by decide, by decide, by decide, fun i hi => absurd hi (Nat.not_lt_zero i), fun i hi => absurd hi (Nat.not_lt_zero i)⟩
  · exact ⟨by decide, fun i hi => absurd hi (Nat.not_lt_zero i)⟩
  · exact ⟨by decide, fun i hi => absurd hi (Nat.not_lt_zero i)⟩
  · exact ⟨by decide, fun i hi => absurd hi (Nat.not_lt_zero i)⟩
  · intro k hk
    refine Or.inl ?_
    rcases (show k = 0 ∨ k = 1 ∨ k = 2 ∨ k = 3 by omega) with rfl | rfl | rfl | rfl <;> rfl
  · rw [e0] at h; exact absurd h (by decide)
  · rw [e1] at h; exact absurd h (by decide)
  · rw [k0] at h; exact absurd h (by decide)
  · rw [k1] at h; exact absurd h (by decide)
theorem s0_MI : MI w_s0 := by
  unfold MI
  rw [← s0_S]
  exact s0_CI.1
