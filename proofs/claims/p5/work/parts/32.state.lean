/-! What class and reference hold, in one picture: S p d i. Parts: 0 the night, 1 what was seen, 2 what was paid, 3 the tape, the fault, 4 the sheets, 5 6 7 and 8 9 10 the images, 11 which images there are -/
noncomputable def w_0 : w_M := fun _ _ => 0
noncomputable abbrev w_S : Type := Nat → w_M
noncomputable def w_sp (S : w_S) (p : Nat) (X : w_M) : w_S := fun q => if q = p then X else S q
theorem w_sp_at {S : w_S} {p : Nat} {X : w_M} : w_sp S p X p = X := if_pos rfl
theorem w_sp_ne {S : w_S} {p q : Nat} {X : w_M} (h : q ≠ p) : w_sp S p X q = S q := if_neg h
theorem w_sp_self {S : w_S} {p : Nat} : w_sp S p (S p) = S := by
  funext q
  unfold w_sp
  split
  · rename_i h; rw [h]
  · rfl
noncomputable def s_ab (σ : w_M) (a : Nat) : w_M := fun d i => if d = 0 then (if i = 0 then σ a 0 else 0) else if d < 4 then (if i < (σ a 0).toNat then σ (a + d) i else 0) else 0
noncomputable def c_ab (σ : w_M) (a : Nat) : w_M := fun d i => if d = 0 then (if i = 0 then σ a 0 else 0) else if d < 3 then (if i < (σ a 0).toNat then σ (a + d) i else 0) else 0
noncomputable def t_ab (σ : w_M) : w_M := fun d i => if d = 0 then (if i = 0 then σ 1 1 else if i = 1 then σ 0 8 else 0) else if d = 1 then (if i < (σ 1 1).toNat then σ 2 i else 0) else 0
noncomputable def h_ab (σ : w_M) : w_M := fun k j => if k < 4 then (if σ 87 k < 0 then (if j = 0 then -4 else 0) else if j = 0 then σ 87 k else if j = 1 then σ 86 k else if j < 42 then σ (82 + k) (j - 2) else 0) else 0
noncomputable def k_ab (σ : w_M) (k : Nat) : Int := w_and (w_shr (σ 0 7) k) 1
noncomputable def s_am (σ : w_M) (o : Nat) : w_M := fun d i => if d = 0 then (if i = 0 then σ 123 (o + 48) else 0) else if d < 4 then (if i < (σ 123 (o + 48)).toNat then σ 123 (o + 49 + 3 * i + (d - 1)) else 0) else 0
noncomputable def c_am (σ : w_M) (o : Nat) : w_M := fun d i => if d = 0 then (if i = 0 then σ 123 (o + 73) else 0) else if d < 3 then (if i < (σ 123 (o + 73)).toNat then σ 123 (o + 74 + 2 * i + (d - 1)) else 0) else 0
noncomputable def t_am (σ : w_M) : w_M := fun d i => if d = 0 then (if i = 0 then σ 122 15 else if i = 1 then σ 122 20 else 0) else if d = 1 then (if i < (σ 122 15).toNat then σ 127 i else 0) else 0
noncomputable def h_am (σ : w_M) : w_M := fun k j => if k < 4 then (if σ 130 k = -4 then (if j = 0 then -4 else 0) else if j = 0 then (if σ 131 k < 0 then -5 else σ 131 k) else if j = 1 then σ 130 k else if j < 42 then σ 132 (40 * k + (j - 2)) else 0) else 0
noncomputable def cS (σ : w_M) : w_S := fun p => match p with
  | 0 => w_ab σ 14
  | 1 => s_ab σ 23
  | 2 => c_ab σ 27
  | 3 => t_ab σ
  | 4 => h_ab σ
  | 5 => if k_ab σ 0 = 1 then w_ab σ 89 else w_0
  | 6 => if k_ab σ 0 = 1 then s_ab σ 98 else w_0
  | 7 => if k_ab σ 0 = 1 then c_ab σ 102 else w_0
  | 8 => if k_ab σ 1 = 1 then w_ab σ 106 else w_0
  | 9 => if k_ab σ 1 = 1 then s_ab σ 115 else w_0
  | 10 => if k_ab σ 1 = 1 then c_ab σ 119 else w_0
  | 11 => fun d i => if d = 0 ∧ i < 2 then k_ab σ i else 0
  | _ => w_0
noncomputable def mS (σ : w_M) : w_S := fun p => match p with
  | 0 => w_am σ 123 0
  | 1 => s_am σ 0
  | 2 => c_am σ 0
  | 3 => t_am σ
  | 4 => h_am σ
  | 5 => if σ 125 0 = 1 then w_am σ 123 82 else w_0
  | 6 => if σ 125 0 = 1 then s_am σ 82 else w_0
  | 7 => if σ 125 0 = 1 then c_am σ 82 else w_0
  | 8 => if σ 125 1 = 1 then w_am σ 123 164 else w_0
  | 9 => if σ 125 1 = 1 then s_am σ 164 else w_0
  | 10 => if σ 125 1 = 1 then c_am σ 164 else w_0
  | 11 => fun d i => if d = 0 ∧ i < 2 then σ 125 i else 0
  | _ => w_0
noncomputable def seWF (B : w_M) : Prop := (0 ≤ B 0 0 ∧ B 0 0 ≤ 8) ∧ ∀ k, k < (B 0 0).toNat → (0 ≤ B 1 k ∧ B 1 k ≤ 6) ∧ (0 ≤ B 2 k ∧ B 2 k ≤ 6) ∧ (B 3 k = 0 ∨ B 3 k = 1)
noncomputable def paWF (A C : w_M) : Prop := (0 ≤ C 0 0 ∧ C 0 0 ≤ 4) ∧ ∀ k, k < (C 0 0).toNat → (0 ≤ C 1 k ∧ C 1 k < A 0 5) ∧ (0 ≤ C 2 k ∧ C 2 k ≤ 99)
noncomputable def taWF (T : w_M) : Prop := (0 ≤ T 0 0 ∧ T 0 0 ≤ 160) ∧ ∀ i, i < (T 0 0).toNat → 0 ≤ T 1 i ∧ T 1 i ≤ 127
noncomputable def shWF (H : w_M) : Prop := ∀ k, k < 4 → H k 0 = -4 ∨ ((0 ≤ H k 0 ∧ H k 0 ≤ 40) ∧ (0 ≤ H k 1 ∧ H k 1 ≤ 2))
/-- an image: its night is as long, has as many strips and reapers, as the one that is -/
noncomputable def imWF (A A' B C : w_M) : Prop := n_WF A' ∧ (A' 0 0 = A 0 0 ∧ A' 0 4 = A 0 4 ∧ A' 0 5 = A 0 5) ∧ seWF B ∧ paWF A' C
noncomputable def sWF (S : w_S) : Prop := n_WF (S 0) ∧ seWF (S 1) ∧ paWF (S 0) (S 2) ∧ taWF (S 3) ∧ shWF (S 4) ∧ (S 11 0 0 = 0 ∨ S 11 0 0 = 1) ∧ (S 11 0 1 = 0 ∨ S 11 0 1 = 1) ∧ (S 11 0 0 = 1 → imWF (S 0) (S 5) (S 6) (S 7)) ∧ (S 11 0 1 = 1 → imWF (S 0) (S 8) (S 9) (S 10))
/-- the class's own: its masks -/
noncomputable def cX (σ : w_M) : Prop := (0 ≤ σ 14 6 ∧ σ 14 6 ≤ 127) ∧ (0 ≤ σ 0 7 ∧ σ 0 7 ≤ 3) ∧ (k_ab σ 0 = 1 → 0 ≤ σ 89 6 ∧ σ 89 6 ≤ 127) ∧ (k_ab σ 1 = 1 → 0 ≤ σ 106 6 ∧ σ 106 6 ≤ 127)
noncomputable def CI (σ : w_M) : Prop := sWF (cS σ) ∧ cX σ
noncomputable def MI (σ : w_M) : Prop := sWF (mS σ)
theorem s_ab_fr {σ σ' : w_M} {a : Nat} (h : ∀ d, d < 4 → σ' (a + d) = σ (a + d)) : s_ab σ' a = s_ab σ a := by
  have h0 : σ' a = σ a := h 0 (by decide)
  funext d i
  unfold s_ab
  rw [h0]
  by_cases hd : d < 4
  · rw [h d hd]
  · rw [if_neg hd, if_neg hd]
theorem c_ab_fr {σ σ' : w_M} {a : Nat} (h : ∀ d, d < 3 → σ' (a + d) = σ (a + d)) : c_ab σ' a = c_ab σ a := by
  have h0 : σ' a = σ a := h 0 (by decide)
  funext d i
  unfold c_ab
  rw [h0]
  by_cases hd : d < 3
  · rw [h d hd]
  · rw [if_neg hd, if_neg hd]
theorem t_ab_fr {σ σ' : w_M} (h1 : σ' 1 1 = σ 1 1) (h8 : σ' 0 8 = σ 0 8) (h2 : σ' 2 = σ 2) : t_ab σ' = t_ab σ := by
  funext d i
  unfold t_ab
  rw [h1, h8, h2]
theorem h_ab_fr {σ σ' : w_M} (h : ∀ b, 80 ≤ b → b < 88 → σ' b = σ b) : h_ab σ' = h_ab σ := by
  funext k j
  unfold h_ab
  by_cases hk : k < 4
  · rw [h 87 (by decide) (by decide), h 86 (by decide) (by decide), h (82 + k) (by omega) (by omega)]
  · rw [if_neg hk, if_neg hk]
/-- the images, as far as cells 88 .. 121 and the bits tell them -/
theorem cS_im {σ σ' : w_M} (h0 : σ' 0 7 = σ 0 7) (h : ∀ b, 88 ≤ b → b < 122 → σ' b = σ b) : ∀ p, 5 ≤ p → cS σ' p = cS σ p := by
  have hk : ∀ k, k_ab σ' k = k_ab σ k := fun k => by unfold k_ab; rw [h0]
  have a1 : w_ab σ' 89 = w_ab σ 89 := w_ab_fr (fun d hd => h _ (by omega) (by omega))
  have a2 : s_ab σ' 98 = s_ab σ 98 := s_ab_fr (fun d hd => h _ (by omega) (by omega))
  have a3 : c_ab σ' 102 = c_ab σ 102 := c_ab_fr (fun d hd => h _ (by omega) (by omega))
  have b1 : w_ab σ' 106 = w_ab σ 106 := w_ab_fr (fun d hd => h _ (by omega) (by omega))
  have b2 : s_ab σ' 115 = s_ab σ 115 := s_ab_fr (fun d hd => h _ (by omega) (by omega))
  have b3 : c_ab σ' 119 = c_ab σ 119 := c_ab_fr (fun d hd => h _ (by omega) (by omega))
  intro p hp
  match p, hp with
  | 5, _ => simp only [cS]; rw [hk, a1]
  | 6, _ => simp only [cS]; rw [hk, a2]
  | 7, _ => simp only [cS]; rw [hk, a3]
  | 8, _ => simp only [cS]; rw [hk, b1]
  | 9, _ => simp only [cS]; rw [hk, b2]
  | 10, _ => simp only [cS]; rw [hk, b3]
  | 11, _ => simp only [cS]; funext d i; rw [hk]
  | p + 12, _ => exact (show cS σ' (p + 12) = w_0 from rfl).trans (show cS σ (p + 12) = w_0 from rfl).symm
theorem cS_ext {S T : w_S} (h0 : S 0 = T 0) (h1 : S 1 = T 1) (h2 : S 2 = T 2) (h3 : S 3 = T 3) (h4 : S 4 = T 4) (h5 : ∀ p, 5 ≤ p → S p = T p) : S = T := by
  funext p
  match p with
  | 0 => exact h0
  | 1 => exact h1
  | 2 => exact h2
  | 3 => exact h3
  | 4 => exact h4
  | p + 5 => exact h5 _ (by omega)
theorem cS_scratch {σ σ' : w_M} (h : w_fr σ σ' 31 80) : cS σ' = cS σ :=
  cS_ext (w_ab_fr (fun d hd => h _ (by omega))) (s_ab_fr (fun d hd => h _ (by omega))) (c_ab_fr (fun d hd => h _ (by omega))) (t_ab_fr (by rw [h 1 (by omega)]) (by rw [h 0 (by omega)]) (h 2 (by omega))) (h_ab_fr (fun b h1 h2 => h b (by omega))) (cS_im (by rw [h 0 (by omega)]) (fun b h1 h2 => h b (by omega)))
theorem cS_lo {σ σ' : w_M} (h : ∀ b, b < 122 → σ' b = σ b) : cS σ' = cS σ :=
  cS_ext (w_ab_fr (fun d hd => h _ (by omega))) (s_ab_fr (fun d hd => h _ (by omega))) (c_ab_fr (fun d hd => h _ (by omega))) (t_ab_fr (by rw [h 1 (by omega)]) (by rw [h 0 (by omega)]) (h 2 (by omega))) (h_ab_fr (fun b h1 h2 => h b (by omega))) (cS_im (by rw [h 0 (by omega)]) (fun b h1 h2 => h b (by omega)))
theorem cS_part0 {σ σ' : w_M} (h : w_fr σ σ' 14 23) : cS σ' = w_sp (cS σ) 0 (w_ab σ' 14) :=
  cS_ext rfl (s_ab_fr (fun d hd => h _ (by omega))) (c_ab_fr (fun d hd => h _ (by omega))) (t_ab_fr (by rw [h 1 (by omega)]) (by rw [h 0 (by omega)]) (h 2 (by omega))) (h_ab_fr (fun b h1 h2 => h b (by omega))) (fun p hp => by rw [w_sp_ne (by omega)]; exact cS_im (by rw [h 0 (by omega)]) (fun b h1 h2 => h b (by omega)) p hp)
theorem cS_part1 {σ σ' : w_M} (h : w_fr σ σ' 23 27) : cS σ' = w_sp (cS σ) 1 (s_ab σ' 23) :=
  cS_ext (w_ab_fr (fun d hd => h _ (by omega))) rfl (c_ab_fr (fun d hd => h _ (by omega))) (t_ab_fr (by rw [h 1 (by omega)]) (by rw [h 0 (by omega)]) (h 2 (by omega))) (h_ab_fr (fun b h1 h2 => h b (by omega))) (fun p hp => by rw [w_sp_ne (by omega)]; exact cS_im (by rw [h 0 (by omega)]) (fun b h1 h2 => h b (by omega)) p hp)
theorem cS_part2 {σ σ' : w_M} (h : w_fr σ σ' 27 30) : cS σ' = w_sp (cS σ) 2 (c_ab σ' 27) :=
  cS_ext (w_ab_fr (fun d hd => h _ (by omega))) (s_ab_fr (fun d hd => h _ (by omega))) rfl (t_ab_fr (by rw [h 1 (by omega)]) (by rw [h 0 (by omega)]) (h 2 (by omega))) (h_ab_fr (fun b h1 h2 => h b (by omega))) (fun p hp => by rw [w_sp_ne (by omega)]; exact cS_im (by rw [h 0 (by omega)]) (fun b h1 h2 => h b (by omega)) p hp)
theorem cS_part3 {σ σ' : w_M} (h : w_fr σ σ' 0 13) (h7 : σ' 0 7 = σ 0 7) : cS σ' = w_sp (cS σ) 3 (t_ab σ') :=
  cS_ext (w_ab_fr (fun d hd => h _ (by omega))) (s_ab_fr (fun d hd => h _ (by omega))) (c_ab_fr (fun d hd => h _ (by omega))) rfl (h_ab_fr (fun b h1 h2 => h b (by omega))) (fun p hp => by rw [w_sp_ne (by omega)]; exact cS_im h7 (fun b h1 h2 => h b (by omega)) p hp)
theorem cS_part4 {σ σ' : w_M} (h : w_fr σ σ' 80 88) : cS σ' = w_sp (cS σ) 4 (h_ab σ') :=
  cS_ext (w_ab_fr (fun d hd => h _ (by omega))) (s_ab_fr (fun d hd => h _ (by omega))) (c_ab_fr (fun d hd => h _ (by omega))) (t_ab_fr (by rw [h 1 (by omega)]) (by rw [h 0 (by omega)]) (h 2 (by omega))) rfl (fun p hp => by rw [w_sp_ne (by omega)]; exact cS_im (by rw [h 0 (by omega)]) (fun b h1 h2 => h b (by omega)) p hp)
theorem cX_fr {σ σ' : w_M} (h : cX σ) (h14 : σ' 14 6 = σ 14 6) (h0 : σ' 0 7 = σ 0 7) (h1 : σ' 89 6 = σ 89 6) (h2 : σ' 106 6 = σ 106 6) : cX σ' := by
  unfold cX k_ab at h ⊢
  rw [h14, h0, h1, h2]
  exact h
/-- the reference's side -/
theorem s_am_fr {σ σ' : w_M} {o : Nat} (h : ∀ x, o + 48 ≤ x → x < o + 73 → σ' 123 x = σ 123 x) (hc : σ 123 (o + 48) ≤ 8) : s_am σ' o = s_am σ o := by
  funext d i
  unfold s_am
  rw [h (o + 48) (by omega) (by omega)]
  by_cases hd : d < 4
  · by_cases hi : i < (σ 123 (o + 48)).toNat
    · rw [h (o + 49 + 3 * i + (d - 1)) (by omega) (by omega)]
    · rw [if_neg hi, if_neg hi]
  · rw [if_neg hd, if_neg hd]
theorem c_am_fr {σ σ' : w_M} {o : Nat} (h : ∀ x, o + 73 ≤ x → x < o + 82 → σ' 123 x = σ 123 x) (hc : σ 123 (o + 73) ≤ 4) : c_am σ' o = c_am σ o := by
  funext d i
  unfold c_am
  rw [h (o + 73) (by omega) (by omega)]
  by_cases hd : d < 3
  · by_cases hi : i < (σ 123 (o + 73)).toNat
    · rw [h (o + 74 + 2 * i + (d - 1)) (by omega) (by omega)]
    · rw [if_neg hi, if_neg hi]
  · rw [if_neg hd, if_neg hd]
theorem w_am_frx {σ σ' : w_M} {o : Nat} (hsm : m_sm σ) (h0 : σ' 122 3 = σ 122 3 ∧ σ' 122 4 = σ 122 4 ∧ σ' 122 5 = σ 122 5) (h : ∀ x, o ≤ x → x < o + 48 → σ' 123 x = σ 123 x) : w_am σ' 123 o = w_am σ 123 o := by
  have hr : ∀ k, m_rl σ' k = m_rl σ k := fun k => by unfold m_rl; rw [h0.2.1, h0.2.2]
  funext k j
  unfold w_am
  rw [h0.1, h0.2.1, h0.2.2, hr, h (o + 42) (by omega) (by omega), h (o + 41) (by omega) (by omega), h (o + 47) (by omega) (by omega)]
  by_cases hj : j < m_rl σ k
  · obtain ⟨k10, j7, jL⟩ := m_rl_d hsm hj
    have := (m_ix_sc k k10 j j7 jL).2.2.2
    rw [h (o + m_ix k j) (by omega) (by omega)]
  · rw [if_neg hj, if_neg hj]
theorem t_am_fr {σ σ' : w_M} (h1 : σ' 122 15 = σ 122 15) (h8 : σ' 122 20 = σ 122 20) (h2 : σ' 127 = σ 127) : t_am σ' = t_am σ := by
  funext d i
  unfold t_am
  rw [h1, h8, h2]
theorem h_am_fr {σ σ' : w_M} (h : ∀ b, 130 ≤ b → b < 133 → σ' b = σ b) : h_am σ' = h_am σ := by
  funext k j
  unfold h_am
  rw [h 130 (by decide) (by decide), h 131 (by decide) (by decide), h 132 (by decide) (by decide)]
theorem MI.sm {σ : w_M} (h : MI σ) : m_sm σ := m_ok.sm (c := 123) (o := 0) h.1
theorem MI.ok {σ : w_M} (h : MI σ) : m_ok σ 123 0 := h.1
/-- the images of the reference, as far as places 82 .. 245 and the marks tell them -/
theorem mS_im {σ σ' : w_M} (hM : MI σ) (h122 : σ' 122 3 = σ 122 3 ∧ σ' 122 4 = σ 122 4 ∧ σ' 122 5 = σ 122 5) (h125 : σ' 125 = σ 125) (h : ∀ x, 82 ≤ x → σ' 123 x = σ 123 x) : ∀ p, 5 ≤ p → mS σ' p = mS σ p := by
  have hsm := hM.sm
  obtain ⟨-, -, -, -, -, -, -, i0, i1⟩ := hM
  have e0 : mS σ 11 0 0 = σ 125 0 := rfl
  have e1 : mS σ 11 0 1 = σ 125 1 := rfl
  have a1 : w_am σ' 123 82 = w_am σ 123 82 := w_am_frx hsm h122 (fun x h1 h2 => h x (by omega))
  have b1 : w_am σ' 123 164 = w_am σ 123 164 := w_am_frx hsm h122 (fun x h1 h2 => h x (by omega))
  intro p hp
  match p, hp with
  | 5, _ => simp only [mS]; rw [h125, a1]
  | 6, _ =>
    simp only [mS]
    rw [h125]
    by_cases hk : σ 125 0 = 1
    · rw [if_pos hk, if_pos hk]
      have hw := (i0 hk).2.2.1.1.2
      simp only [mS] at hw
      rw [if_pos hk] at hw
      exact s_am_fr (fun x h1 h2 => h x (by omega)) hw
    · rw [if_neg hk, if_neg hk]
  | 7, _ =>
    simp only [mS]
    rw [h125]
    by_cases hk : σ 125 0 = 1
    · rw [if_pos hk, if_pos hk]
      have hw := (i0 hk).2.2.2.1.2
      simp only [mS] at hw
      rw [if_pos hk] at hw
      exact c_am_fr (fun x h1 h2 => h x (by omega)) hw
    · rw [if_neg hk, if_neg hk]
  | 8, _ => simp only [mS]; rw [h125, b1]
  | 9, _ =>
    simp only [mS]
    rw [h125]
    by_cases hk : σ 125 1 = 1
    · rw [if_pos hk, if_pos hk]
      have hw := (i1 hk).2.2.1.1.2
      simp only [mS] at hw
      rw [if_pos hk] at hw
      exact s_am_fr (fun x h1 h2 => h x (by omega)) hw
    · rw [if_neg hk, if_neg hk]
  | 10, _ =>
    simp only [mS]
    rw [h125]
    by_cases hk : σ 125 1 = 1
    · rw [if_pos hk, if_pos hk]
      have hw := (i1 hk).2.2.2.1.2
      simp only [mS] at hw
      rw [if_pos hk] at hw
      exact c_am_fr (fun x h1 h2 => h x (by omega)) hw
    · rw [if_neg hk, if_neg hk]
  | 11, _ => simp only [mS]; funext d i; rw [h125]
  | p + 12, _ => exact (show mS σ' (p + 12) = w_0 from rfl).trans (show mS σ (p + 12) = w_0 from rfl).symm
theorem MI.se {σ : w_M} (h : MI σ) : 0 ≤ σ 123 48 ∧ σ 123 48 ≤ 8 := h.2.1.1
theorem MI.pa {σ : w_M} (h : MI σ) : 0 ≤ σ 123 73 ∧ σ 123 73 ≤ 4 := h.2.2.1.1
/-- nothing of what counts has changed -/
theorem mS_scratch {σ σ' : w_M} (hM : MI σ) (h122 : ∀ j, j = 3 ∨ j = 4 ∨ j = 5 ∨ j = 15 ∨ j = 20 → σ' 122 j = σ 122 j) (h : ∀ b, b = 123 ∨ b = 125 ∨ b = 127 ∨ b = 130 ∨ b = 131 ∨ b = 132 → σ' b = σ b) : mS σ' = mS σ := by
  have e : σ' 122 3 = σ 122 3 ∧ σ' 122 4 = σ 122 4 ∧ σ' 122 5 = σ 122 5 := ⟨h122 3 (by omega), h122 4 (by omega), h122 5 (by omega)⟩
  have h123 := h 123 (by omega)
  exact cS_ext (w_am_frx hM.sm e (fun x _ _ => by rw [h123])) (s_am_fr (fun x _ _ => by rw [h123]) hM.se.2) (c_am_fr (fun x _ _ => by rw [h123]) hM.pa.2) (t_am_fr (h122 15 (by omega)) (h122 20 (by omega)) (h 127 (by omega))) (h_am_fr (fun b h1 h2 => h b (by omega))) (mS_im hM e (h 125 (by omega)) (fun x _ => by rw [h123]))
theorem mS_f1 {σ σ' : w_M} (hM : MI σ) (h : w_f1 σ σ' 124) : mS σ' = mS σ := mS_scratch hM (fun j _ => by rw [h 122 (by decide)]) (fun b hb => h b (by omega))
theorem mS_part0 {σ σ' : w_M} (hM : MI σ) (h : w_f1 σ σ' 123) (hx : ∀ x, 48 ≤ x → σ' 123 x = σ 123 x) : mS σ' = w_sp (mS σ) 0 (w_am σ' 123 0) := by
  have h122 := h 122 (by decide)
  exact cS_ext rfl (s_am_fr (fun x h1 h2 => hx x (by omega)) hM.se.2) (c_am_fr (fun x h1 h2 => hx x (by omega)) hM.pa.2) (t_am_fr (by rw [h122]) (by rw [h122]) (h 127 (by decide))) (h_am_fr (fun b h1 h2 => h b (by omega))) (fun p hp => by rw [w_sp_ne (by omega)]; exact mS_im hM (by rw [h122]; exact ⟨rfl, rfl, rfl⟩) (h 125 (by decide)) (fun x hx2 => hx x (by omega)) p hp)
theorem mS_part1 {σ σ' : w_M} (hM : MI σ) (h : w_f1 σ σ' 123) (hx : ∀ x, x < 48 ∨ 73 ≤ x → σ' 123 x = σ 123 x) : mS σ' = w_sp (mS σ) 1 (s_am σ' 0) := by
  have h122 := h 122 (by decide)
  have e : σ' 122 3 = σ 122 3 ∧ σ' 122 4 = σ 122 4 ∧ σ' 122 5 = σ 122 5 := by rw [h122]; exact ⟨rfl, rfl, rfl⟩
  exact cS_ext (w_am_frx hM.sm e (fun x h1 h2 => hx x (by omega))) rfl (c_am_fr (fun x h1 h2 => hx x (by omega)) hM.pa.2) (t_am_fr (by rw [h122]) (by rw [h122]) (h 127 (by decide))) (h_am_fr (fun b h1 h2 => h b (by omega))) (fun p hp => by rw [w_sp_ne (by omega)]; exact mS_im hM e (h 125 (by decide)) (fun x hx2 => hx x (by omega)) p hp)
theorem mS_part2 {σ σ' : w_M} (hM : MI σ) (h : w_f1 σ σ' 123) (hx : ∀ x, x < 73 ∨ 82 ≤ x → σ' 123 x = σ 123 x) : mS σ' = w_sp (mS σ) 2 (c_am σ' 0) := by
  have h122 := h 122 (by decide)
  have e : σ' 122 3 = σ 122 3 ∧ σ' 122 4 = σ 122 4 ∧ σ' 122 5 = σ 122 5 := by rw [h122]; exact ⟨rfl, rfl, rfl⟩
  exact cS_ext (w_am_frx hM.sm e (fun x h1 h2 => hx x (by omega))) (s_am_fr (fun x h1 h2 => hx x (by omega)) hM.se.2) rfl (t_am_fr (by rw [h122]) (by rw [h122]) (h 127 (by decide))) (h_am_fr (fun b h1 h2 => h b (by omega))) (fun p hp => by rw [w_sp_ne (by omega)]; exact mS_im hM e (h 125 (by decide)) (fun x hx2 => hx x (by omega)) p hp)
theorem mS_part3 {σ σ' : w_M} (hM : MI σ) (h122 : ∀ j, j = 3 ∨ j = 4 ∨ j = 5 → σ' 122 j = σ 122 j) (h : ∀ b, b = 123 ∨ b = 125 ∨ b = 130 ∨ b = 131 ∨ b = 132 → σ' b = σ b) : mS σ' = w_sp (mS σ) 3 (t_am σ') := by
  have e : σ' 122 3 = σ 122 3 ∧ σ' 122 4 = σ 122 4 ∧ σ' 122 5 = σ 122 5 := ⟨h122 3 (by omega), h122 4 (by omega), h122 5 (by omega)⟩
  have h123 := h 123 (by omega)
  exact cS_ext (w_am_frx hM.sm e (fun x _ _ => by rw [h123])) (s_am_fr (fun x _ _ => by rw [h123]) hM.se.2) (c_am_fr (fun x _ _ => by rw [h123]) hM.pa.2) rfl (h_am_fr (fun b h1 h2 => h b (by omega))) (fun p hp => by rw [w_sp_ne (by omega)]; exact mS_im hM e (h 125 (by omega)) (fun x _ => by rw [h123]) p hp)
theorem mS_part4 {σ σ' : w_M} (hM : MI σ) (h122 : σ' 122 = σ 122) (h : ∀ b, b = 123 ∨ b = 125 ∨ b = 127 → σ' b = σ b) : mS σ' = w_sp (mS σ) 4 (h_am σ') := by
  have e : σ' 122 3 = σ 122 3 ∧ σ' 122 4 = σ 122 4 ∧ σ' 122 5 = σ 122 5 := by rw [h122]; exact ⟨rfl, rfl, rfl⟩
  have h123 := h 123 (by omega)
  exact cS_ext (w_am_frx hM.sm e (fun x _ _ => by rw [h123])) (s_am_fr (fun x _ _ => by rw [h123]) hM.se.2) (c_am_fr (fun x _ _ => by rw [h123]) hM.pa.2) (t_am_fr (by rw [h122]) (by rw [h122]) (h 127 (by omega))) rfl (fun p hp => by rw [w_sp_ne (by omega)]; exact mS_im hM e (h 125 (by omega)) (fun x _ => by rw [h123]) p hp)
theorem mS_hi {σ σ' : w_M} (h : ∀ b, 122 ≤ b → σ' b = σ b) : mS σ' = mS σ := by
  have e : ∀ o, w_am σ' 123 o = w_am σ 123 o := fun o => w_am_fr (by rw [h 122 (by decide)]; exact ⟨rfl, rfl, rfl⟩) (h 123 (by decide))
  have e2 : ∀ o, s_am σ' o = s_am σ o := fun o => by funext d i; unfold s_am; rw [h 123 (by decide)]
  have e3 : ∀ o, c_am σ' o = c_am σ o := fun o => by funext d i; unfold c_am; rw [h 123 (by decide)]
  refine cS_ext (e 0) (e2 0) (e3 0) (t_am_fr (by rw [h 122 (by decide)]) (by rw [h 122 (by decide)]) (h 127 (by decide))) (h_am_fr (fun b h1 h2 => h b (by omega))) (fun p hp => ?_)
  match p, hp with
  | 5, _ => simp only [mS]; rw [h 125 (by decide), e]
  | 6, _ => simp only [mS]; rw [h 125 (by decide), e2]
  | 7, _ => simp only [mS]; rw [h 125 (by decide), e3]
  | 8, _ => simp only [mS]; rw [h 125 (by decide), e]
  | 9, _ => simp only [mS]; rw [h 125 (by decide), e2]
  | 10, _ => simp only [mS]; rw [h 125 (by decide), e3]
  | 11, _ => simp only [mS]; funext d i; rw [h 125 (by decide)]
  | p + 12, _ => exact (show mS σ' (p + 12) = w_0 from rfl).trans (show mS σ (p + 12) = w_0 from rfl).symm
