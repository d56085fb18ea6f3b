/-! The text, pure: tokens, lines, what they tell -/
noncomputable def tb (T : Nat → Int) (L p : Nat) : Int := if p < L then T p else -1
noncomputable def rn (P : Int → Bool) (T : Nat → Int) (L : Nat) : Nat → Nat → Nat
  | 0, p => p
  | n + 1, p => if P (tb T L p) = true then rn P T L n (p + 1) else p
theorem rn_of {P : Int → Bool} {T : Nat → Int} {L q : Nat} (h3 : P (tb T L q) = false) : ∀ (n p : Nat), p ≤ q → (∀ i, p ≤ i → i < q → P (tb T L i) = true) → q ≤ p + n → rn P T L n p = q := by
  intro n
  induction n with
  | zero => intro p h1 _ hn; simp only [rn]; omega
  | succ n ih =>
    intro p h1 h2 hn
    simp only [rn]
    by_cases e : p = q
    · rw [e, h3]
      rfl
    · rw [if_pos (h2 p (Nat.le_refl _) (by omega))]
      exact ih (p + 1) (by omega) (fun i a b => h2 i (by omega) b) (by omega)
theorem rn_ge {P : Int → Bool} {T : Nat → Int} {L : Nat} : ∀ (n p : Nat), p ≤ rn P T L n p := by
  intro n
  induction n with
  | zero => intro p; exact Nat.le_refl _
  | succ n ih =>
    intro p
    simp only [rn]
    split
    · exact Nat.le_trans (Nat.le_succ p) (ih (p + 1))
    · exact Nat.le_refl _
theorem rn_le {P : Int → Bool} {T : Nat → Int} {L : Nat} (h : P (-1) = false) : ∀ (n p : Nat), p ≤ L → rn P T L n p ≤ L := by
  intro n
  induction n with
  | zero => intro p hp; exact hp
  | succ n ih =>
    intro p hp
    simp only [rn]
    split
    · rename_i hb
      by_cases e : p < L
      · exact ih (p + 1) (by omega)
      · unfold tb at hb
        rw [if_neg e, h] at hb
        cases hb
    · exact hp
theorem rn_stop {P : Int → Bool} {T : Nat → Int} {L : Nat} (h : P (-1) = false) : ∀ (n p : Nat), L ≤ p + n → P (tb T L (rn P T L n p)) = false := by
  intro n
  induction n with
  | zero => intro p hp; simp only [rn]; unfold tb; rw [if_neg (by omega)]; exact h
  | succ n ih =>
    intro p hp
    simp only [rn]
    split
    · exact ih (p + 1) (by omega)
    · rename_i hb
      cases hh : P (tb T L p) with
      | false => rfl
      | true => exact absurd hh hb
noncomputable def tP_s (c : Int) : Bool := decide (c = 32)
noncomputable def tP_l (c : Int) : Bool := decide (97 ≤ c) && decide (c ≤ 122)
noncomputable def tP_f (c : Int) : Bool := decide (48 ≤ c) && decide (c ≤ 57)
theorem tP_lt {c : Int} : tP_l c = true ↔ (97 ≤ c ∧ c ≤ 122) := by unfold tP_l; simp
theorem tP_ft {c : Int} : tP_f c = true ↔ (48 ≤ c ∧ c ≤ 57) := by unfold tP_f; simp
theorem tP_lf {c : Int} (h : ¬ (97 ≤ c ∧ c ≤ 122)) : tP_l c = false := by
  cases e : tP_l c with
  | false => rfl
  | true => exact absurd (tP_lt.mp e) h
theorem tP_ff {c : Int} (h : ¬ (48 ≤ c ∧ c ≤ 57)) : tP_f c = false := by
  cases e : tP_f c with
  | false => rfl
  | true => exact absurd (tP_ft.mp e) h
theorem tP_st {c : Int} (h : c = 32) : tP_s c = true := by unfold tP_s; simp [h]
theorem tP_sf {c : Int} (h : ¬ c = 32) : tP_s c = false := by unfold tP_s; simp [h]
/-- the token from p on: its first place, its end, its kind (0 the end, 1 a name, 2 a number, 3 a stop, 4 a flaw), its value -/
noncomputable def tk_f (T : Nat → Int) (L p : Nat) : Nat := rn tP_s T L 160 p
noncomputable def tk_c (T : Nat → Int) (L p : Nat) : Int := tb T L (tk_f T L p)
noncomputable def tk_d (T : Nat → Int) (L p : Nat) : Nat := rn tP_f T L 160 (tk_f T L p + 1)
noncomputable def tk_k (T : Nat → Int) (L p : Nat) : Int := if L ≤ tk_f T L p then 0 else if 97 ≤ tk_c T L p ∧ tk_c T L p ≤ 122 then 1 else if 48 ≤ tk_c T L p ∧ tk_c T L p ≤ 57 then (if tk_d T L p ≤ tk_f T L p + 2 then 2 else 4) else if tk_c T L p = 59 then 3 else 4
noncomputable def tk_b (T : Nat → Int) (L p : Nat) : Nat := if 97 ≤ tk_c T L p ∧ tk_c T L p ≤ 122 then rn tP_l T L 160 (tk_f T L p + 1) else if 48 ≤ tk_c T L p ∧ tk_c T L p ≤ 57 then tk_d T L p else tk_f T L p + 1
noncomputable def tk_v (T : Nat → Int) (L p : Nat) : Int := if tk_d T L p = tk_f T L p + 1 then tk_c T L p - 48 else (tk_c T L p - 48) * 10 + tb T L (tk_f T L p + 1) - 48
theorem tk_f_le {T : Nat → Int} {L p : Nat} (h : p ≤ L) : p ≤ tk_f T L p ∧ tk_f T L p ≤ L := ⟨rn_ge _ _, rn_le (by decide) _ _ h⟩
theorem tk_k0 {T : Nat → Int} {L p : Nat} (h : ¬ tk_k T L p = 0) : tk_f T L p < L := by
  by_cases e : L ≤ tk_f T L p
  · unfold tk_k at h
    rw [if_pos e] at h
    exact absurd rfl h
  · omega
theorem tk_b_le {T : Nat → Int} {L p : Nat} (h : tk_f T L p < L) : tk_f T L p < tk_b T L p ∧ tk_b T L p ≤ L := by
  unfold tk_b
  split
  · exact ⟨rn_ge _ _, rn_le (by decide) _ _ h⟩
  · split
    · exact ⟨rn_ge _ _, rn_le (by decide) _ _ h⟩
    · omega
theorem tk_v_le {T : Nat → Int} {L p : Nat} (h : tk_k T L p = 2) : 0 ≤ tk_v T L p ∧ tk_v T L p ≤ 99 := by
  unfold tk_k at h
  by_cases e0 : L ≤ tk_f T L p
  · rw [if_pos e0] at h; omega
  · rw [if_neg e0] at h
    by_cases e1 : 97 ≤ tk_c T L p ∧ tk_c T L p ≤ 122
    · rw [if_pos e1] at h; omega
    · rw [if_neg e1] at h
      by_cases e2 : 48 ≤ tk_c T L p ∧ tk_c T L p ≤ 57
      · unfold tk_v
        split
        · omega
        · rename_i hd
          have h1 : tP_f (tb T L (tk_f T L p + 1)) = true := by
            cases hc : tP_f (tb T L (tk_f T L p + 1)) with
            | true => rfl
            | false =>
              refine absurd ?_ hd
              unfold tk_d
              exact rn_of hc _ _ (Nat.le_refl _) (fun i a b => by omega) (by omega)
          have := tP_ft.mp h1
          omega
      · rw [if_neg e2] at h
        split at h <;> omega
noncomputable def nm_len (k : Nat) : Nat := (w_cbyt.getD k []).length
noncomputable def nm_at (k i : Nat) : Int := (w_cbyt.getD k []).getD i 0
noncomputable def nm_is (T : Nat → Int) (L f b k : Nat) : Prop := b = f + nm_len k ∧ ∀ i, i < nm_len k → tb T L (f + i) = nm_at k i
/-- which line a name begins -/
noncomputable def ln_k (T : Nat → Int) (L f b : Nat) : Nat → Int
  | 0 => -1
  | k + 1 => @ite _ (ln_k T L f b k = -1 ∧ nm_is T L f b k) (Classical.propDecidable _) (k : Int) (ln_k T L f b k)
noncomputable def ln_n (T : Nat → Int) (L f b : Nat) : Int := ln_k T L f b 5
theorem ln_k_le {T : Nat → Int} {L f b : Nat} : ∀ k : Nat, ln_k T L f b k = -1 ∨ (0 ≤ ln_k T L f b k ∧ ln_k T L f b k < k) := by
  intro k
  induction k with
  | zero => exact Or.inl rfl
  | succ k ih =>
    simp only [ln_k]
    by_cases h : ln_k T L f b k = -1 ∧ nm_is T L f b k
    · rw [if_pos h]; omega
    · rw [if_neg h]; omega
theorem ln_stay {T : Nat → Int} {L f b k : Nat} (h : ¬ ln_k T L f b k = -1) : ∀ j : Nat, ln_k T L f b (k + j) = ln_k T L f b k := by
  intro j
  induction j with
  | zero => rfl
  | succ j ih =>
    show @ite _ (ln_k T L f b (k + j) = -1 ∧ nm_is T L f b (k + j)) (Classical.propDecidable _) ((k + j : Nat) : Int) (ln_k T L f b (k + j)) = _
    rw [if_neg (fun q => h (ih ▸ q.1)), ih]
theorem ln_hit {T : Nat → Int} {L f b k : Nat} (h0 : ln_k T L f b k = -1) (h : nm_is T L f b k) (hk : k < 5) : ln_n T L f b = k := by
  have e : ln_k T L f b (k + 1) = k := by simp only [ln_k]; rw [if_pos ⟨h0, h⟩]
  have := ln_stay (T := T) (L := L) (f := f) (b := b) (k := k + 1) (by omega) (5 - (k + 1))
  rw [show k + 1 + (5 - (k + 1)) = 5 by omega, e] at this
  exact this
theorem ln_miss {T : Nat → Int} {L f b k : Nat} (h0 : ln_k T L f b k = -1) (h : ¬ nm_is T L f b k) : ln_k T L f b (k + 1) = -1 := by
  simp only [ln_k]
  rw [if_neg (fun q => h q.2)]
  exact h0
/-- the draft: row 0 HOURS, -, clouds, -, strips, reapers, thistles, whether THE NIGHT was told; 1 yards, 2 owners, 3 paces, 4 oil, 6 places -/
noncomputable def d_WF (D : w_M) : Prop := (1 ≤ D 0 0 ∧ D 0 0 ≤ 12) ∧ (0 ≤ D 0 2 ∧ D 0 2 ≤ 4095) ∧ (0 ≤ D 0 4 ∧ D 0 4 ≤ 7) ∧ (0 ≤ D 0 5 ∧ D 0 5 ≤ 4) ∧ (0 ≤ D 0 6 ∧ D 0 6 ≤ 127) ∧ (D 0 7 = 0 ∨ D 0 7 = 1) ∧
  (∀ i, i < (D 0 4).toNat → (0 ≤ D 1 i ∧ D 1 i ≤ 40) ∧ (0 ≤ D 2 i ∧ D 2 i ≤ 3)) ∧ (∀ r, r < (D 0 5).toNat → (1 ≤ D 3 r ∧ D 3 r ≤ 9) ∧ (0 ≤ D 4 r ∧ D 4 r ≤ 9) ∧ (0 ≤ D 6 r ∧ D 6 r ≤ 6))
noncomputable def d_0 : w_M := fun d i => if d = 0 ∧ i = 0 then 8 else 0
theorem d_0_WF : d_WF d_0 := ⟨by decide, by decide, by decide, by decide, by decide, Or.inl rfl, fun i hi => absurd hi (Nat.not_lt_zero i), fun i hi => absurd hi (Nat.not_lt_zero i)⟩
noncomputable def ln_lo (k j : Nat) : Int := w_clow.getD (3 * k + j) 0
noncomputable def ln_hi (k j : Nat) : Int := w_chig.getD (3 * k + j) 0
noncomputable def ln_m (k : Nat) : Nat := (w_cnum.getD k 0).toNat
/-- what is wrong with a number of a line -/
noncomputable def nt_f (T : Nat → Int) (L : Nat) (D : w_M) (k j p : Nat) : Int := if tk_k T L p = 4 then 1 else if ¬ tk_k T L p = 2 then 2 else if tk_v T L p < ln_lo k j ∨ ln_hi k j < tk_v T L p then 3
  else if (k = 3 ∧ ¬ w_and (w_shr (D 0 2) (tk_v T L p)) 1 = 0) ∨ (k = 4 ∧ ¬ w_and (w_shr (D 0 6) (tk_v T L p)) 1 = 0) then 4 else 0
noncomputable def pp (T : Nat → Int) (L b : Nat) : Nat → Nat
  | 0 => b
  | j + 1 => tk_b T L (pp T L b j)
noncomputable def nf (T : Nat → Int) (L : Nat) (D : w_M) (k b : Nat) : Nat → Int × Nat
  | 0 => (0, 0)
  | j + 1 => if (nf T L D k b j).1 = 0 then (nt_f T L D k j (pp T L b j), tk_f T L (pp T L b j)) else nf T L D k b j
/-- what is wrong with a line of sort k whose name is from f to b -/
noncomputable def ln_b (D : w_M) (k : Nat) : Int := if k = 0 ∧ ¬ D 0 7 = 0 then 4 else if (k = 1 ∧ 7 ≤ D 0 4) ∨ (k = 2 ∧ 4 ≤ D 0 5) then 5 else 0
noncomputable def ln_s (T : Nat → Int) (L p : Nat) : Int := if tk_k T L p = 4 then 1 else if ¬ tk_k T L p = 3 then 2 else 0
noncomputable def ln_f (T : Nat → Int) (L : Nat) (D : w_M) (k f b : Nat) : Int × Nat := if ¬ ln_b D k = 0 then (ln_b D k, f) else if ¬ (nf T L D k b (ln_m k)).1 = 0 then nf T L D k b (ln_m k) else (ln_s T L (pp T L b (ln_m k)), tk_f T L (pp T L b (ln_m k)))
/-- what a line tells -/
noncomputable def ln_D (D : w_M) (k : Nat) (v0 v1 v2 : Int) : w_M := match k with
  | 0 => w_up (w_up D 0 0 v0) 0 7 1
  | 1 => w_up (w_up (w_up D 1 (D 0 4).toNat v0) 2 (D 0 4).toNat v1) 0 4 (D 0 4 + 1)
  | 2 => w_up (w_up (w_up (w_up D 3 (D 0 5).toNat v0) 4 (D 0 5).toNat v1) 6 (D 0 5).toNat v2) 0 5 (D 0 5 + 1)
  | 3 => w_up D 0 2 (w_or (D 0 2) (w_shl 1 v0))
  | _ => w_up D 0 6 (w_or (D 0 6) (w_shl 1 v0))
noncomputable def d_bad (D : w_M) : Prop := ¬ ((∀ r, r < (D 0 5).toNat → D 6 r < D 0 4) ∧ w_shr (D 0 2) (D 0 0) = 0 ∧ w_shr (D 0 6) (D 0 4) = 0)
/-- all lines from p on: the fault and its place, how many lines, what is told -/
noncomputable def rd_R (T : Nat → Int) (L : Nat) : Nat → Nat → Nat → w_M → (Int × Nat) × Nat × w_M
  | 0, l, _, D => ((0, 0), l, D)
  | n + 1, l, p, D =>
    if tk_k T L p = 0 then (@ite _ (d_bad D) (Classical.propDecidable _) ((6, L), l, D) ((0, 0), l, D))
    else if tk_k T L p = 4 then ((1, tk_f T L p), l, D)
    else if ¬ tk_k T L p = 1 ∨ ln_n T L (tk_f T L p) (tk_b T L p) = -1 then ((2, tk_f T L p), l, D)
    else if ¬ (ln_f T L D (ln_n T L (tk_f T L p) (tk_b T L p)).toNat (tk_f T L p) (tk_b T L p)).1 = 0 then (ln_f T L D (ln_n T L (tk_f T L p) (tk_b T L p)).toNat (tk_f T L p) (tk_b T L p), l, D)
    else rd_R T L n (l + 1) (tk_b T L (pp T L (tk_b T L p) (ln_m (ln_n T L (tk_f T L p) (tk_b T L p)).toNat))) (ln_D D (ln_n T L (tk_f T L p) (tk_b T L p)).toNat (tk_v T L (tk_b T L p)) (tk_v T L (pp T L (tk_b T L p) 1)) (tk_v T L (pp T L (tk_b T L p) 2)))
theorem nf_0 {T : Nat → Int} {L : Nat} {D : w_M} {k b : Nat} : ∀ n, (nf T L D k b n).1 = 0 → ∀ j, j < n → nt_f T L D k j (pp T L b j) = 0 := by
  intro n
  induction n with
  | zero => intro _ j hj; omega
  | succ n ih =>
    intro h j hj
    simp only [nf] at h
    by_cases e : (nf T L D k b n).1 = 0
    · rw [if_pos e] at h
      by_cases ej : j = n
      · rw [ej]; exact h
      · exact ih e j (by omega)
    · rw [if_neg e] at h
      exact absurd h e
theorem nt_f_0 {T : Nat → Int} {L : Nat} {D : w_M} {k j p : Nat} (h : nt_f T L D k j p = 0) : tk_k T L p = 2 ∧ (ln_lo k j ≤ tk_v T L p ∧ tk_v T L p ≤ ln_hi k j) ∧ (k = 3 → w_and (w_shr (D 0 2) (tk_v T L p)) 1 = 0) ∧ (k = 4 → w_and (w_shr (D 0 6) (tk_v T L p)) 1 = 0) := by
  unfold nt_f at h
  by_cases e4 : tk_k T L p = 4
  · rw [if_pos e4] at h; omega
  · rw [if_neg e4] at h
    by_cases e2 : tk_k T L p = 2
    · rw [if_neg (fun q => q e2)] at h
      by_cases e3 : tk_v T L p < ln_lo k j ∨ ln_hi k j < tk_v T L p
      · rw [if_pos e3] at h; omega
      · rw [if_neg e3] at h
        by_cases e5 : (k = 3 ∧ ¬ w_and (w_shr (D 0 2) (tk_v T L p)) 1 = 0) ∨ (k = 4 ∧ ¬ w_and (w_shr (D 0 6) (tk_v T L p)) 1 = 0)
        · rw [if_pos e5] at h; omega
        · refine ⟨e2, by omega, fun hk => ?_, fun hk => ?_⟩
          · by_cases z : w_and (w_shr (D 0 2) (tk_v T L p)) 1 = 0
            · exact z
            · exact absurd (Or.inl ⟨hk, z⟩) e5
          · by_cases z : w_and (w_shr (D 0 6) (tk_v T L p)) 1 = 0
            · exact z
            · exact absurd (Or.inr ⟨hk, z⟩) e5
    · rw [if_pos e2] at h; omega
theorem nt_f_le {T : Nat → Int} {L : Nat} {D : w_M} {k j p : Nat} : 0 ≤ nt_f T L D k j p ∧ nt_f T L D k j p ≤ 4 := by
  unfold nt_f
  repeat' split
  all_goals omega
theorem w_or_mask {m v n : Nat} (hm : m < 2 ^ n) (hv : v < n) (hn : n ≤ 12) : w_or (m : Int) (w_shl 1 (v : Int)) = ((m ||| 2 ^ v : Nat) : Int) ∧ m ||| 2 ^ v < 2 ^ n := by
  have h1 : 2 ^ v < 2 ^ n := Nat.pow_lt_pow_right (by decide) hv
  have h2 : 2 ^ n ≤ 2 ^ 12 := Nat.pow_le_pow_right (by decide) hn
  rw [w_shl13 v (by omega), w_or_nat (by omega) (by omega)]
  exact ⟨rfl, Nat.or_lt_two_pow hm h1⟩
theorem ln_D_WF {D : w_M} (h : d_WF D) {k : Nat} (hk : k < 5) (hb : ln_b D k = 0) {v0 v1 v2 : Int} (h0 : ln_lo k 0 ≤ v0 ∧ v0 ≤ ln_hi k 0) (h1 : 1 < ln_m k → ln_lo k 1 ≤ v1 ∧ v1 ≤ ln_hi k 1) (h2 : 2 < ln_m k → ln_lo k 2 ≤ v2 ∧ v2 ≤ ln_hi k 2) : d_WF (ln_D D k v0 v1 v2) := by
  obtain ⟨a1, a2, a3, a4, a5, a6, a7, a8⟩ := h
  unfold ln_b at hb
  rcases (show k = 0 ∨ k = 1 ∨ k = 2 ∨ k = 3 ∨ k = 4 by omega) with rfl | rfl | rfl | rfl | rfl
  · have e0 : (1 : Int) ≤ v0 ∧ v0 ≤ 12 := h0
    exact ⟨e0, a2, a3, a4, a5, Or.inr rfl, a7, a8⟩
  · have e0 : (0 : Int) ≤ v0 ∧ v0 ≤ 40 := h0
    have e1 : (0 : Int) ≤ v1 ∧ v1 ≤ 3 := h1 (by decide)
    rw [if_neg (by omega)] at hb
    have hs : D 0 4 < 7 := by
      by_cases q : 7 ≤ D 0 4
      · rw [if_pos (Or.inl ⟨rfl, q⟩)] at hb; omega
      · omega
    have eg : ∀ d i, ln_D D 1 v0 v1 v2 d i = if d = 0 ∧ i = 4 then D 0 4 + 1 else if d = 2 ∧ i = (D 0 4).toNat then v1 else if d = 1 ∧ i = (D 0 4).toNat then v0 else D d i := fun d i => rfl
    have z : ∀ j, j ≠ 4 → ln_D D 1 v0 v1 v2 0 j = D 0 j := fun j hj => by rw [eg, if_neg (by omega), if_neg (by omega), if_neg (by omega)]
    have z4 : ln_D D 1 v0 v1 v2 0 4 = D 0 4 + 1 := rfl
    unfold d_WF
    rw [z 0 (by decide), z 2 (by decide), z 5 (by decide), z 6 (by decide), z 7 (by decide), z4]
    have c1 : ∀ i, ln_D D 1 v0 v1 v2 1 i = if i = (D 0 4).toNat then v0 else D 1 i := fun i => by rw [eg]; simp
    have c2 : ∀ i, ln_D D 1 v0 v1 v2 2 i = if i = (D 0 4).toNat then v1 else D 2 i := fun i => by rw [eg]; simp
    have cz : ∀ d i, d ≠ 0 → d ≠ 1 → d ≠ 2 → ln_D D 1 v0 v1 v2 d i = D d i := fun d i x0 x1 x2 => by rw [eg, if_neg (fun q => x0 q.1), if_neg (fun q => x2 q.1), if_neg (fun q => x1 q.1)]
    refine ⟨a1, a2, by omega, a4, a5, a6, fun i hi => ?_, fun r hr => ?_⟩
    · rw [c1, c2]
      by_cases e : i = (D 0 4).toNat
      · rw [if_pos e, if_pos e]; exact ⟨e0, e1⟩
      · rw [if_neg e, if_neg e]
        exact a7 i (by omega)
    · rw [cz 3 r (by decide) (by decide) (by decide), cz 4 r (by decide) (by decide) (by decide), cz 6 r (by decide) (by decide) (by decide)]
      exact a8 r hr
  · have e0 : (1 : Int) ≤ v0 ∧ v0 ≤ 9 := h0
    have e1 : (0 : Int) ≤ v1 ∧ v1 ≤ 9 := h1 (by decide)
    have e2 : (0 : Int) ≤ v2 ∧ v2 ≤ 6 := h2 (by decide)
    rw [if_neg (by omega)] at hb
    have hs : D 0 5 < 4 := by
      by_cases q : 4 ≤ D 0 5
      · rw [if_pos (Or.inr ⟨rfl, q⟩)] at hb; omega
      · omega
    have eg : ∀ d i, ln_D D 2 v0 v1 v2 d i = if d = 0 ∧ i = 5 then D 0 5 + 1 else if d = 6 ∧ i = (D 0 5).toNat then v2 else if d = 4 ∧ i = (D 0 5).toNat then v1 else if d = 3 ∧ i = (D 0 5).toNat then v0 else D d i := fun d i => rfl
    have z : ∀ j, j ≠ 5 → ln_D D 2 v0 v1 v2 0 j = D 0 j := fun j hj => by rw [eg, if_neg (by omega), if_neg (by omega), if_neg (by omega), if_neg (by omega)]
    have z5 : ln_D D 2 v0 v1 v2 0 5 = D 0 5 + 1 := rfl
    unfold d_WF
    rw [z 0 (by decide), z 2 (by decide), z 4 (by decide), z 6 (by decide), z 7 (by decide), z5]
    have c3 : ∀ i, ln_D D 2 v0 v1 v2 3 i = if i = (D 0 5).toNat then v0 else D 3 i := fun i => by rw [eg]; simp
    have c4 : ∀ i, ln_D D 2 v0 v1 v2 4 i = if i = (D 0 5).toNat then v1 else D 4 i := fun i => by rw [eg]; simp
    have c6 : ∀ i, ln_D D 2 v0 v1 v2 6 i = if i = (D 0 5).toNat then v2 else D 6 i := fun i => by rw [eg]; simp
    have cz : ∀ d i, d ≠ 0 → d ≠ 3 → d ≠ 4 → d ≠ 6 → ln_D D 2 v0 v1 v2 d i = D d i := fun d i x0 x3 x4 x6 => by rw [eg, if_neg (fun q => x0 q.1), if_neg (fun q => x6 q.1), if_neg (fun q => x4 q.1), if_neg (fun q => x3 q.1)]
    refine ⟨a1, a2, a3, by omega, a5, a6, fun i hi => ?_, fun r hr => ?_⟩
    · rw [cz 1 i (by decide) (by decide) (by decide) (by decide), cz 2 i (by decide) (by decide) (by decide) (by decide)]
      exact a7 i hi
    · rw [c3, c4, c6]
      by_cases e : r = (D 0 5).toNat
      · rw [if_pos e, if_pos e, if_pos e]; exact ⟨e0, e1, e2⟩
      · rw [if_neg e, if_neg e, if_neg e]
        exact a8 r (by omega)
  · have e0 : (0 : Int) ≤ v0 ∧ v0 ≤ 11 := h0
    obtain ⟨m, hm⟩ := Int.eq_ofNat_of_zero_le a2.1
    obtain ⟨v, rfl⟩ := Int.eq_ofNat_of_zero_le e0.1
    obtain ⟨w1, w2⟩ := w_or_mask (m := m) (v := v) (n := 12) (by omega) (by omega) (by decide)
    refine ⟨a1, ?_, a3, a4, a5, a6, a7, a8⟩
    show 0 ≤ w_or (D 0 2) (w_shl 1 (v : Int)) ∧ w_or (D 0 2) (w_shl 1 (v : Int)) ≤ 4095
    rw [hm, w1]
    omega
  · have e0 : (0 : Int) ≤ v0 ∧ v0 ≤ 6 := h0
    obtain ⟨m, hm⟩ := Int.eq_ofNat_of_zero_le a5.1
    obtain ⟨v, rfl⟩ := Int.eq_ofNat_of_zero_le e0.1
    obtain ⟨w1, w2⟩ := w_or_mask (m := m) (v := v) (n := 7) (by omega) (by omega) (by decide)
    refine ⟨a1, a2, a3, a4, ?_, a6, a7, a8⟩
    show 0 ≤ w_or (D 0 6) (w_shl 1 (v : Int)) ∧ w_or (D 0 6) (w_shl 1 (v : Int)) ≤ 127
    rw [hm, w1]
    omega
/-- the night that is told -/
noncomputable def d_A (D : w_M) : w_M := fun d i => if d = 0 then (if i = 0 then D 0 0 else if i = 2 then D 0 2 else if i = 3 then -4 else if i = 4 then D 0 4 else if i = 5 then D 0 5 else 0)
  else if d ≤ 2 then (if i < (D 0 4).toNat then D d i else 0) else if d = 5 then (if i < (D 0 5).toNat then 3 else 0) else if d ≤ 6 then (if i < (D 0 5).toNat then D d i else 0)
  else if d = 9 then (if i < (D 0 4).toNat then w_and (w_shr (D 0 6) i) 1 else 0) else 0
theorem d_A_WF {D : w_M} (h : d_WF D) (hb : ¬ d_bad D) : n_WF (d_A D) := by
  obtain ⟨a1, a2, a3, a4, a5, a6, a7, a8⟩ := h
  have hg : (∀ r, r < (D 0 5).toNat → D 6 r < D 0 4) ∧ w_shr (D 0 2) (D 0 0) = 0 ∧ w_shr (D 0 6) (D 0 4) = 0 := Classical.byContradiction hb
  refine ⟨a1, ⟨by show (0 : Int) ≤ 0; omega, by show (0 : Int) ≤ D 0 0; omega⟩, a2, a3, a4, fun i hi => ?_, fun r hr => ?_⟩
  · have hi' : i < (D 0 4).toNat := hi
    have e1 : d_A D 1 i = D 1 i := by unfold d_A; rw [if_neg (by decide), if_pos (by decide), if_pos hi']
    have e2 : d_A D 2 i = D 2 i := by unfold d_A; rw [if_neg (by decide), if_pos (by decide), if_pos hi']
    have e9 : d_A D 9 i = w_and (w_shr (D 0 6) i) 1 := by unfold d_A; rw [if_neg (by decide), if_neg (by decide), if_neg (by decide), if_neg (by decide), if_pos rfl, if_pos hi']
    rw [e1, e2, e9]
    exact ⟨(a7 i hi').1, (a7 i hi').2, w_and1 _⟩
  · have hr' : r < (D 0 5).toNat := hr
    have e3 : d_A D 3 r = D 3 r := by unfold d_A; rw [if_neg (by decide), if_neg (by decide), if_neg (by decide), if_pos (by decide), if_pos hr']
    have e4 : d_A D 4 r = D 4 r := by unfold d_A; rw [if_neg (by decide), if_neg (by decide), if_neg (by decide), if_pos (by decide), if_pos hr']
    have e5 : d_A D 5 r = 3 := by unfold d_A; rw [if_neg (by decide), if_neg (by decide), if_pos (by decide), if_pos hr']
    have e6 : d_A D 6 r = D 6 r := by unfold d_A; rw [if_neg (by decide), if_neg (by decide), if_neg (by decide), if_pos (by decide), if_pos hr']
    have e04 : d_A D 0 4 = D 0 4 := rfl
    rw [e3, e4, e5, e6, e04]
    have w := a8 r hr'
    exact ⟨w.1, w.2.1, by decide, w.2.2.1, hg.1 r hr'⟩
