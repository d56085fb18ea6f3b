/-! The least oil of all, pure: rows of choices by their numbers; oil beyond the hours with clouds changes nothing -/
noncomputable def nb (B : Nat) : Nat → (Nat → Nat) → Nat
  | 0, _ => 0
  | n + 1, f => nb B n f * B + f n
theorem nb_congr {B : Nat} {f g : Nat → Nat} : ∀ n, (∀ r, r < n → f r = g r) → nb B n f = nb B n g := by
  intro n
  induction n with
  | zero => intro _; rfl
  | succ n ih => intro h; simp only [nb]; rw [ih (fun r hr => h r (by omega)), h n (by omega)]
theorem dg_s {B n k r : Nat} (hr : r < n) : dg B (n + 1) k r = dg B n (k / B) r := by
  unfold dg
  rw [show n + 1 - 1 - r = (n - 1 - r) + 1 by omega]
  rfl
theorem dg_last {B n k : Nat} : dg B (n + 1) k n = k % B := by
  unfold dg
  rw [show n + 1 - 1 - n = 0 by omega]
  rfl
theorem nb_dg {B : Nat} : ∀ n k, k < B ^ n → nb B n (dg B n k) = k := by
  intro n
  induction n with
  | zero => intro k h; simp at h; simp [nb, h]
  | succ n ih =>
    intro k h
    simp only [nb]
    rw [nb_congr n (fun r hr => dg_s hr), dg_last, ih (k / B) (by rw [Nat.pow_succ, Nat.mul_comm] at h; exact Nat.div_lt_of_lt_mul h)]
    rw [Nat.mul_comm]
    exact Nat.div_add_mod k B
theorem nb_lt {B : Nat} {f : Nat → Nat} : ∀ n, (∀ r, r < n → f r < B) → nb B n f < B ^ n := by
  intro n
  induction n with
  | zero => intro _; simp [nb]
  | succ n ih =>
    intro h
    have h1 := ih (fun r hr => h r (by omega))
    have h2 := h n (by omega)
    simp only [nb]
    rw [Nat.pow_succ]
    have h3 : (nb B n f + 1) * B ≤ B ^ n * B := Nat.mul_le_mul_right B h1
    rw [Nat.add_mul, Nat.one_mul] at h3
    omega
theorem dg_nb {B : Nat} {f : Nat → Nat} : ∀ n, (∀ r, r < n → f r < B) → ∀ r, r < n → dg B n (nb B n f) r = f r := by
  intro n
  induction n with
  | zero => intro _ r hr; omega
  | succ n ih =>
    intro h r hr
    have h2 := h n (by omega)
    have e1 : (nb B n f * B + f n) / B = nb B n f := by
      rw [Nat.mul_comm, Nat.mul_add_div (by omega), Nat.div_eq_of_lt h2, Nat.add_zero]
    have e2 : (nb B n f * B + f n) % B = f n := by
      rw [Nat.mul_comm, Nat.mul_add_mod, Nat.mod_eq_of_lt h2]
    by_cases hn : r = n
    · subst hn
      rw [dg_last]
      exact e2
    · rw [dg_s (by omega)]
      simp only [nb]
      rw [e1]
      exact ih (fun q hq => h q (by omega)) r (by omega)
theorem mul_lex {B a b x y : Nat} (hx : x < B) (hy : y < B) : a * B + x ≤ b * B + y ↔ (a < b ∨ (a = b ∧ x ≤ y)) := by
  constructor
  · intro h
    by_cases h1 : a < b
    · exact Or.inl h1
    · right
      by_cases h2 : a = b
      · subst h2; exact ⟨rfl, by omega⟩
      · exfalso
        have : (b + 1) * B ≤ a * B := Nat.mul_le_mul_right B (by omega)
        rw [Nat.add_mul, Nat.one_mul] at this
        omega
  · rintro (h | ⟨h1, h2⟩)
    · have : (a + 1) * B ≤ b * B := Nat.mul_le_mul_right B h
      rw [Nat.add_mul, Nat.one_mul] at this
      omega
    · subst h1; omega
theorem nb_lex {B D : Nat} {f g : Nat → Nat} : ∀ n, (∀ r, r < n → (f r < B ∧ g r < B) ∧ (f r < D ∧ g r < D)) → (nb B n f ≤ nb B n g ↔ nb D n f ≤ nb D n g) ∧ (nb B n g ≤ nb B n f ↔ nb D n g ≤ nb D n f) := by
  intro n
  induction n with
  | zero => intro _; simp [nb]
  | succ n ih =>
    intro h
    obtain ⟨i1, i2⟩ := ih (fun r hr => h r (by omega))
    obtain ⟨⟨a1, a2⟩, b1, b2⟩ := h n (by omega)
    simp only [nb]
    rw [mul_lex a1 a2, mul_lex b1 b2, mul_lex a2 a1, mul_lex b2 b1]
    omega
theorem nb_inj {B : Nat} {f g : Nat → Nat} (n : Nat) (hf : ∀ r, r < n → f r < B) (hg : ∀ r, r < n → g r < B) (h : nb B n f = nb B n g) : ∀ r, r < n → f r = g r := fun r hr => by
  rw [← dg_nb n hf r hr, ← dg_nb n hg r hr, h]
/-- the least sum of those at which it is done, the first of them -/
noncomputable def ls_F (s d : Nat → Int) : Nat → Int × Int
  | 0 => (1000000, -4)
  | k + 1 => if s k < (ls_F s d k).1 ∧ d k ≠ -4 then (s k, (k : Int)) else ls_F s d k
theorem ls_spec {s d : Nat → Int} (hs : ∀ i, 0 ≤ s i ∧ s i ≤ 36) : ∀ k : Nat, ((ls_F s d k).2 = -4 ∧ (ls_F s d k).1 = 1000000 ∧ ∀ i, i < k → d i = -4) ∨
    (∃ m : Nat, m < k ∧ (ls_F s d k).2 = (m : Int) ∧ (ls_F s d k).1 = s m ∧ d m ≠ -4 ∧ (∀ i, i < k → d i ≠ -4 → s m ≤ s i) ∧ (∀ i, i < m → d i ≠ -4 → s m < s i)) := by
  intro k
  induction k with
  | zero => exact Or.inl ⟨rfl, rfl, fun i hi => by omega⟩
  | succ k ih =>
    have hk := hs k
    simp only [ls_F]
    rcases ih with ⟨h1, h2, h3⟩ | ⟨m, hm, h1, h2, h3, h4, h5⟩
    · by_cases c : s k < (ls_F s d k).1 ∧ d k ≠ -4
      · rw [if_pos c]
        right
        refine ⟨k, by omega, rfl, rfl, c.2, fun i hi hd => ?_, fun i hi hd => absurd (h3 i hi) hd⟩
        by_cases e : i = k
        · rw [e]; exact Int.le_refl _
        · exact absurd (h3 i (by omega)) hd
      · rw [if_neg c]
        left
        refine ⟨h1, h2, fun i hi => ?_⟩
        by_cases e : i = k
        · rw [e]
          by_cases hd : d k = -4
          · exact hd
          · exact absurd ⟨by omega, hd⟩ c
        · exact h3 i (by omega)
    · by_cases c : s k < (ls_F s d k).1 ∧ d k ≠ -4
      · rw [if_pos c]
        right
        rw [h2] at c
        refine ⟨k, by omega, rfl, rfl, c.2, fun i hi hd => ?_, fun i hi hd => ?_⟩
        · by_cases e : i = k
          · rw [e]; exact Int.le_refl _
          · have := h4 i (by omega) hd; omega
        · have := h4 i hi hd; omega
      · rw [if_neg c]
        right
        refine ⟨m, by omega, h1, h2, h3, fun i hi hd => ?_, h5⟩
        by_cases e : i = k
        · rw [e] at hd ⊢
          by_cases hl : s m ≤ s k
          · exact hl
          · exact absurd ⟨by omega, hd⟩ c
        · exact h4 i (by omega) hd
theorem ls_stay {s d : Nat → Int} {k : Nat} : ∀ j : Nat, (∀ i, k ≤ i → i < k + j → ¬ (s i < (ls_F s d k).1 ∧ d i ≠ -4)) → ls_F s d (k + j) = ls_F s d k := by
  intro j
  induction j with
  | zero => intro _; rfl
  | succ j ih =>
    intro h
    have e := ih (fun i h1 h2 => h i h1 (by omega))
    show (if s (k + j) < (ls_F s d (k + j)).1 ∧ d (k + j) ≠ -4 then (s (k + j), ((k + j : Nat) : Int)) else ls_F s d (k + j)) = _
    rw [e, if_neg (h (k + j) (by omega) (by omega))]
/-- a night with other oil -/
noncomputable def n_bo (A : w_M) (f : Nat → Int) : w_M := fun d i => if d = 4 ∧ i < n_n A then f i else A d i
theorem n_bo_ne {A : w_M} {f : Nat → Int} {d : Nat} (h : d ≠ 4) : n_bo A f d = A d := by
  funext i
  unfold n_bo
  rw [if_neg (fun q => h q.1)]
theorem n_bo_4 {A : w_M} {f : Nat → Int} {r : Nat} (h : r < n_n A) : n_bo A f 4 r = f r := if_pos ⟨rfl, h⟩
theorem n_bo_sd {A : w_M} {f : Nat → Int} : n_sd (n_bo A f) = n_sd A := by unfold n_sd n_s; rw [n_bo_ne (by decide), n_bo_ne (by decide)]
theorem n_bo_n {A : w_M} {f : Nat → Int} : n_n (n_bo A f) = n_n A := by unfold n_n; rw [n_bo_ne (by decide)]
theorem n_bo_WF {A : w_M} (h : n_WF A) {f : Nat → Int} (hf : ∀ r, r < n_n A → 0 ≤ f r ∧ f r ≤ 9) : n_WF (n_bo A f) := by
  have e : ∀ d, d ≠ 4 → n_bo A f d = A d := fun d hd => n_bo_ne hd
  have es : n_s (n_bo A f) = n_s A := by unfold n_s; rw [e 0 (by decide)]
  unfold n_WF at h ⊢
  rw [es, n_bo_n, e 0 (by decide), e 1 (by decide), e 2 (by decide), e 3 (by decide), e 6 (by decide), e 5 (by decide), e 9 (by decide)]
  refine ⟨h.1, h.2.1, h.2.2.1, h.2.2.2.1, h.2.2.2.2.1, h.2.2.2.2.2.1, fun r hr => ?_⟩
  have := h.2.2.2.2.2.2 r hr
  rw [n_bo_4 hr]
  exact ⟨this.1, hf r hr, this.2.2.1, this.2.2.2⟩
theorem n_bo_congr {A : w_M} {f g : Nat → Int} (h : ∀ r, r < n_n A → f r = g r) : n_bo A f = n_bo A g := by
  funext d i
  unfold n_bo
  by_cases c : d = 4 ∧ i < n_n A
  · rw [if_pos c, if_pos c, h i c.2]
  · rw [if_neg c, if_neg c]
/-- nights alike but for oil that both have enough of, each reaper by his bound -/
noncomputable def ol_R (g : Nat → Int) (X Y : w_M) : Prop := (∀ d, d ≠ 4 → Y d = X d) ∧ ∀ r, r < n_n X → Y 4 r = X 4 r ∨ (g r ≤ X 4 r ∧ g r ≤ Y 4 r)
theorem ol_R.near {g : Nat → Int} {X Y : w_M} (h : ol_R g X Y) (f : Int) : n_near Y f = n_near X f := by
  have e1 := h.1 1 (by decide)
  have key : ∀ k : Nat, n_nearF Y f k = n_nearF X f k := by
    intro k
    induction k with
    | zero => rfl
    | succ k ih => simp only [n_nearF]; rw [ih, e1]
  unfold n_near n_s
  rw [h.1 0 (by decide), key]
theorem ol_R.up {g : Nat → Int} {X Y : w_M} (h : ol_R g X Y) {d i : Nat} {x : Int} (hd : d ≠ 4) (h0 : ¬ (d = 0 ∧ i = 5)) : ol_R g (w_up X d i x) (w_up Y d i x) := by
  refine ⟨fun e he => ?_, fun r hr => ?_⟩
  · funext j
    rw [w_up_eq, w_up_eq, h.1 e he]
  · rw [w_up_ne (fun q => hd q.symm), w_up_ne (fun q => hd q.symm)]
    refine h.2 r ?_
    unfold n_n at hr ⊢
    rw [w_up_eq, if_neg (fun q => h0 ⟨q.1.symm, q.2.symm⟩)] at hr
    exact hr
theorem ol_R.work {g : Nat → Int} {X Y : w_M} (h : ol_R g X Y) {r : Nat} (hr : r < n_n X) {c : Int} (hc : c = 0 ∨ c = 1) (hg : c ≤ g r) : ol_R (fun q => if q = r then g q - c else g q) (n_work X r c) (n_work Y r c) := by
  have e5 := h.1 5 (by decide)
  have e6 := h.1 6 (by decide)
  have weak : ∀ {X' Y' : w_M}, ol_R g X' Y' → ol_R (fun q => if q = r then g q - c else g q) X' Y' := fun {X' Y'} h' => ⟨h'.1, fun q hq => by
    rcases h'.2 q hq with e | ⟨e1, e2⟩
    · exact Or.inl e
    · refine Or.inr ?_
      simp only []
      split
      · omega
      · exact ⟨e1, e2⟩⟩
  unfold n_work
  rw [e6, h.near, e5]
  split
  · exact weak h
  · split
    · exact weak ((h.up (by decide) (by omega)).up (by decide) (by omega))
    · have hiff : (c = 0 ∨ 0 < Y 4 r) ↔ (c = 0 ∨ 0 < X 4 r) := by
        rcases h.2 r hr with e | ⟨e1, e2⟩
        · rw [e]
        · omega
      have h2 : ol_R g (w_up (w_up X 6 r (n_near X (X 6 r))) 5 r (X 5 r - 1)) (w_up (w_up Y 6 r (n_near X (X 6 r))) 5 r (X 5 r - 1)) := (h.up (by decide) (by omega)).up (by decide) (by omega)
      by_cases ho : c = 0 ∨ 0 < X 4 r
      · rw [if_pos (hiff.mpr ho), if_pos ho]
        have h3 : ol_R (fun q => if q = r then g q - c else g q) (w_up (w_up (w_up X 6 r (n_near X (X 6 r))) 5 r (X 5 r - 1)) 4 r (X 4 r - c)) (w_up (w_up (w_up Y 6 r (n_near X (X 6 r))) 5 r (X 5 r - 1)) 4 r (Y 4 r - c)) := by
          refine ⟨fun d hd => ?_, fun q hq => ?_⟩
          · rw [w_up_ne hd, w_up_ne hd]
            exact h2.1 d hd
          · by_cases e : q = r
            · subst e
              rw [w_up_at, w_up_at]
              simp only [if_pos rfl]
              rcases h.2 q hr with e | ⟨e1, e2⟩
              · exact Or.inl (by rw [e])
              · exact Or.inr (by simp only [if_true]; omega)
            · rw [w_up_j e, w_up_j e]
              simp only [if_neg e]
              refine h2.2 q ?_
              have hq' : q < n_n (w_up (w_up (w_up X 6 r (n_near X (X 6 r))) 5 r (X 5 r - 1)) 4 r (X 4 r - c)) := hq
              unfold n_n at hq' ⊢
              rw [w_up_ne (by decide)] at hq'
              exact hq'
        have ea : ∀ i, n_amt (w_up (w_up (w_up Y 6 r (n_near X (X 6 r))) 5 r (X 5 r - 1)) 4 r (Y 4 r - c)) r i = n_amt (w_up (w_up (w_up X 6 r (n_near X (X 6 r))) 5 r (X 5 r - 1)) 4 r (X 4 r - c)) r i := fun i => n_amt_congr (h3.1 1 (by decide)) (h3.1 3 (by decide)) (h3.1 9 (by decide))
        unfold n_cut
        rw [ea, h3.1 1 (by decide), h3.1 7 (by decide), h3.1 2 (by decide), h3.1 8 (by decide)]
        exact (((h3.up (by decide) (by omega)).up (by decide) (by omega)).up (by decide) (by omega)).up (by decide) (by omega)
      · rw [if_neg (fun q => ho (hiff.mp q)), if_neg ho]
        exact weak (h.up (by decide) (by omega))
theorem ol_R.hour {X Y : w_M} {m c : Int} (hX : n_WF X) (h : ol_R (fun _ => m) X Y) (hc : c = 0 ∨ c = 1) (hm : c ≤ m) : ol_R (fun _ => m - c) (n_hour X c) (n_hour Y c) := by
  have e0 := h.1 0 (by decide)
  have en : n_n Y = n_n X := by unfold n_n; rw [e0]
  have key : ∀ k : Nat, k ≤ n_n X → ol_R (fun q => if q < k then m - c else m) (n_hourF X c k) (n_hourF Y c k) := by
    intro k
    induction k with
    | zero => intro _; exact ⟨h.1, fun r hr => by have := h.2 r hr; simp only [Nat.not_lt_zero, if_false]; exact this⟩
    | succ k ih =>
      intro hk
      have g2 := (n_hourF_all hX hc k (by omega)).2.1
      have w := (ih (by omega)).work (r := k) (by rw [g2.n]; omega) hc (by simp only [Nat.lt_irrefl, if_false]; exact hm)
      refine ⟨w.1, fun r hr => ?_⟩
      have := w.2 r hr
      by_cases e : r = k
      · subst e
        simp only [Nat.lt_irrefl, if_false, if_true, if_pos (Nat.lt_succ_self _)] at this ⊢
        exact this
      · by_cases e2 : r < k
        · simp only [if_neg e, if_pos e2, if_pos (Nat.lt_succ_of_lt e2)] at this ⊢
          exact this
        · simp only [if_neg e, if_neg e2, if_neg (show ¬ r < k + 1 by omega)] at this ⊢
          exact this
  have k1 := key (n_n X) (Nat.le_refl _)
  have g2 := (n_hourF_all hX hc (n_n X) (Nat.le_refl _)).2.1
  unfold n_hour
  rw [en, e0]
  have k2 : ol_R (fun _ => m - c) (n_hourF X c (n_n X)) (n_hourF Y c (n_n X)) := ⟨k1.1, fun r hr => by
    have := k1.2 r hr
    rw [g2.n] at hr
    simp only [if_pos hr] at this
    exact this⟩
  exact k2.up (by decide) (by omega)
/-- the hours with clouds that are left from hour k on -/
noncomputable def ol_m (A : w_M) (k : Nat) : Int := n_cloudy A - f_sum (fun j => n_cl A (A 0 1 + j)) k
theorem ol_m_s {A : w_M} (k : Nat) : ol_m A (k + 1) = ol_m A k - n_cl A (A 0 1 + k) := by
  unfold ol_m
  simp only [f_sum]
  omega
theorem ol_m_le {A : w_M} {k : Nat} : ∀ j : Nat, k + j = n_left A → 0 ≤ ol_m A k := by
  intro j
  induction j generalizing k with
  | zero =>
    intro h
    have e : k = n_left A := h
    unfold ol_m n_cloudy
    rw [e]
    have : n_left A = (A 0 0 - A 0 1).toNat := rfl
    rw [this]
    omega
  | succ j ih =>
    intro h
    have h1 := ih (k := k + 1) (by omega)
    rw [ol_m_s] at h1
    have := n_cl01 A (A 0 1 + k)
    omega
theorem ol_goes {A X Y : w_M} (hX : n_WF X) (hY : n_WF Y) (h0 : X 0 = A 0) (h : ol_R (fun _ => ol_m A 0) X Y) : ∀ k : Nat, k ≤ n_left A → ol_R (fun _ => ol_m A k) (n_goes X k) (n_goes Y k) := by
  intro k
  induction k with
  | zero => intro _; exact h
  | succ k ih =>
    intro hk
    have i1 := ih (by omega)
    have G := n_goes_all hX k
    have hl : n_left A = (A 0 0 - A 0 1).toNat := rfl
    have e1 : (n_goes X k) 0 1 = A 0 1 + k := by rw [G.2.2.1, h0, if_pos (by omega)]
    have e0 : (n_goes X k) 0 0 = A 0 0 := by rw [G.2.1.1 0 (by decide) (by decide), h0]
    have e2 : (n_goes X k) 0 2 = A 0 2 := by rw [G.2.1.1 2 (by decide) (by decide), h0]
    have ey : (n_goes Y k) 0 = (n_goes X k) 0 := i1.1 0 (by decide)
    have ec : n_cl (n_goes X k) ((n_goes X k) 0 1) = n_cl A (A 0 1 + k) := by unfold n_cl; rw [e2, e1]
    have ecy : n_cl (n_goes Y k) ((n_goes Y k) 0 1) = n_cl A (A 0 1 + k) := by unfold n_cl at ec ⊢; rw [ey]; exact ec
    have nn := ol_m_le (A := A) (k := k + 1) (n_left A - (k + 1)) (by omega)
    rw [ol_m_s] at nn
    simp only [n_goes]
    rw [ey, if_pos (by rw [e1, e0]; omega), if_pos (by rw [e1, e0]; omega)]
    unfold n_on
    rw [ec, ecy, ol_m_s]
    exact i1.hour G.1 (n_cl01 _ _) (by omega)
theorem ol_sd {g : Nat → Int} {X Y : w_M} (h : ol_R g X Y) : n_sd Y = n_sd X := by unfold n_sd n_s; rw [h.1 1 (by decide), h.1 0 (by decide)]
theorem n_done_congr {X Y : w_M} (hX : n_WF X) (hY : n_WF Y) (hl : n_left Y = n_left X) (h : ∀ k, k ≤ n_left X → n_sd (n_goes Y k) = n_sd (n_goes X k)) : n_done Y = n_done X := by
  rcases n_done_spec hX with ⟨a1, a2⟩ | ⟨a1, a2, a3, a4⟩
  · rcases n_done_spec hY with ⟨b1, b2⟩ | ⟨b1, b2, b3, b4⟩
    · rw [a1, b1]
    · have := a2 (n_fin Y) (by omega)
      rw [← h _ (by omega)] at this
      omega
  · have hf := n_fin_of hY (j := n_fin X) (by omega) (fun i hi => by rw [h i (by omega)]; exact a4 i hi) (Or.inl (by rw [h _ a2]; exact a3))
    rw [a1]
    unfold n_done
    rw [hf, if_pos (by rw [h _ a2]; exact a3)]
/-- oil beyond the hours with clouds changes nothing -/
theorem ol_cap {A : w_M} (hA : n_WF A) {f g : Nat → Int} (hf : ∀ r, r < n_n A → 0 ≤ f r ∧ f r ≤ 9) (hg : ∀ r, r < n_n A → 0 ≤ g r ∧ g r ≤ 9) (h : ∀ r, r < n_n A → g r = f r ∨ (n_cloudy A ≤ f r ∧ n_cloudy A ≤ g r)) : n_done (n_bo A g) = n_done (n_bo A f) := by
  have WX := n_bo_WF hA hf
  have WY := n_bo_WF hA hg
  have e0 : n_bo A f 0 = A 0 := n_bo_ne (by decide)
  have e0' : n_bo A g 0 = A 0 := n_bo_ne (by decide)
  have lX : n_left (n_bo A f) = n_left A := by unfold n_left; rw [e0]
  have lY : n_left (n_bo A g) = n_left A := by unfold n_left; rw [e0']
  have hR : ol_R (fun _ => ol_m A 0) (n_bo A f) (n_bo A g) := by
    refine ⟨fun d hd => by rw [n_bo_ne hd, n_bo_ne hd], fun r hr => ?_⟩
    rw [n_bo_n] at hr
    rw [n_bo_4 hr, n_bo_4 hr]
    have em : ol_m A 0 = n_cloudy A := by unfold ol_m; simp [f_sum]
    rw [em]
    exact h r hr
  have G := ol_goes WX WY e0 hR
  exact n_done_congr WX WY (by rw [lX, lY]) (fun k hk => ol_sd (G k (by rw [← lX]; exact hk)))
noncomputable def lo_f (A : w_M) (B k : Nat) : Nat → Int := fun r => ((dg B (n_n A) k r : Nat) : Int)
noncomputable def lo_d (A : w_M) (B k : Nat) : Int := n_done (n_bo A (lo_f A B k))
noncomputable def lo_s (A : w_M) (B k : Nat) : Int := f_sum (lo_f A B k) (n_n A)
theorem lo_s_le {A : w_M} (hA : n_WF A) {B : Nat} (h1 : 1 ≤ B) (h10 : B ≤ 10) (k : Nat) : 0 ≤ lo_s A B k ∧ lo_s A B k ≤ 36 := by
  have hn := hA.n
  have := f_sum_le (f := lo_f A B k) (B := 9) (m := n_n A) (fun r _ => by
    have := dg_lt (B := B) (n := n_n A) (k := k) (r := r) h1
    unfold lo_f
    omega) (Nat.le_refl _)
  unfold lo_s
  unfold n_n at this ⊢
  omega
theorem f_sum_mono {f g : Nat → Int} : ∀ n : Nat, (∀ r, r < n → f r ≤ g r) → f_sum f n ≤ f_sum g n := by
  intro n
  induction n with
  | zero => intro _; exact Int.le_refl _
  | succ n ih =>
    intro h
    have := ih (fun r hr => h r (by omega))
    have := h n (by omega)
    simp only [f_sum]
    omega
theorem f_sum_strict {f g : Nat → Int} {n q : Nat} (h : ∀ r, r < n → f r ≤ g r) (hq : q < n) (hl : f q < g q) : f_sum f n < f_sum g n := by
  induction n with
  | zero => omega
  | succ n ih =>
    simp only [f_sum]
    have hn := h n (by omega)
    by_cases e : q = n
    · subst e
      have := f_sum_mono q (fun r hr => h r (by omega))
      omega
    · have := ih (fun r hr => h r (by omega)) (by omega)
      omega
/-- the class's rows, of as many numbers as there are hours with clouds, and the reference's: the same is chosen -/
theorem lo_eq {A : w_M} (hA : n_WF A) {C : Nat} (hC : C ≤ 9) (hcl : C = 9 ∨ n_cloudy A = (C : Int)) :
    ((ls_F (lo_s A (C + 1)) (lo_d A (C + 1)) ((C + 1) ^ n_n A)).2 = -4 ∧ (ls_F (lo_s A 10) (lo_d A 10) (10 ^ n_n A)).2 = -4) ∨
    (¬ (ls_F (lo_s A (C + 1)) (lo_d A (C + 1)) ((C + 1) ^ n_n A)).2 = -4 ∧ ¬ (ls_F (lo_s A 10) (lo_d A 10) (10 ^ n_n A)).2 = -4 ∧
      (ls_F (lo_s A (C + 1)) (lo_d A (C + 1)) ((C + 1) ^ n_n A)).1 = (ls_F (lo_s A 10) (lo_d A 10) (10 ^ n_n A)).1 ∧
      ∀ r, r < n_n A → dg (C + 1) (n_n A) (ls_F (lo_s A (C + 1)) (lo_d A (C + 1)) ((C + 1) ^ n_n A)).2.toNat r = dg 10 (n_n A) (ls_F (lo_s A 10) (lo_d A 10) (10 ^ n_n A)).2.toNat r) := by
  have dB : ∀ k r, dg (C + 1) (n_n A) k r < C + 1 := fun k r => dg_lt (by omega)
  have dT : ∀ k r, dg 10 (n_n A) k r < 10 := fun k r => dg_lt (by decide)
  -- a row of the class among the reference's
  have up : ∀ k, lo_d A 10 (nb 10 (n_n A) (dg (C + 1) (n_n A) k)) = lo_d A (C + 1) k ∧ lo_s A 10 (nb 10 (n_n A) (dg (C + 1) (n_n A) k)) = lo_s A (C + 1) k ∧ nb 10 (n_n A) (dg (C + 1) (n_n A) k) < 10 ^ n_n A := fun k => by
    have h1 : ∀ r, r < n_n A → dg (C + 1) (n_n A) k r < 10 := fun r _ => by have := dB k r; omega
    have e : ∀ r, r < n_n A → lo_f A 10 (nb 10 (n_n A) (dg (C + 1) (n_n A) k)) r = lo_f A (C + 1) k r := fun r hr => by
      unfold lo_f
      rw [dg_nb _ h1 r hr]
    refine ⟨?_, f_sum_congr e, nb_lt _ h1⟩
    unfold lo_d
    rw [n_bo_congr e]
  -- a row of the reference, cut to the hours with clouds, among the class's
  have dn : ∀ k, lo_d A (C + 1) (nb (C + 1) (n_n A) (fun r => min (dg 10 (n_n A) k r) C)) = lo_d A 10 k ∧ lo_s A (C + 1) (nb (C + 1) (n_n A) (fun r => min (dg 10 (n_n A) k r) C)) ≤ lo_s A 10 k ∧ ((∃ r, r < n_n A ∧ C < dg 10 (n_n A) k r) → lo_s A (C + 1) (nb (C + 1) (n_n A) (fun r => min (dg 10 (n_n A) k r) C)) < lo_s A 10 k) ∧ nb (C + 1) (n_n A) (fun r => min (dg 10 (n_n A) k r) C) < (C + 1) ^ n_n A := fun k => by
    have h1 : ∀ r, r < n_n A → min (dg 10 (n_n A) k r) C < C + 1 := fun r _ => by omega
    have e : ∀ r, r < n_n A → lo_f A (C + 1) (nb (C + 1) (n_n A) (fun r => min (dg 10 (n_n A) k r) C)) r = ((min (dg 10 (n_n A) k r) C : Nat) : Int) := fun r hr => by
      unfold lo_f
      rw [dg_nb _ h1 r hr]
    refine ⟨?_, ?_, ?_, nb_lt _ h1⟩
    · unfold lo_d
      refine ol_cap hA (fun r _ => ?_) (fun r hr => ?_) (fun r hr => ?_)
      · have := dT k r; unfold lo_f; omega
      · rw [e r hr]; omega
      · rw [e r hr]
        have := dT k r
        unfold lo_f
        rcases hcl with h | h
        · left; omega
        · rw [h]; omega
    · refine f_sum_mono _ (fun r hr => ?_)
      rw [e r hr]
      unfold lo_f
      omega
    · rintro ⟨q, hq, hl⟩
      refine f_sum_strict (q := q) (fun r hr => ?_) hq ?_
      · rw [e r hr]; unfold lo_f; omega
      · rw [e q hq]; unfold lo_f; omega
  rcases ls_spec (d := lo_d A (C + 1)) (lo_s_le hA (B := C + 1) (by omega) (by omega)) ((C + 1) ^ n_n A) with ⟨a1, -, a3⟩ | ⟨k1, hk1, a1, a2, a3, a4, a5⟩
  · left
    refine ⟨a1, ?_⟩
    rcases ls_spec (d := lo_d A 10) (lo_s_le hA (B := 10) (by decide) (by decide)) (10 ^ n_n A) with ⟨b1, -, -⟩ | ⟨k0, hk0, b1, b2, b3, b4, b5⟩
    · exact b1
    · obtain ⟨c1, -, -, c4⟩ := dn k0
      exact absurd (c1 ▸ a3 _ c4) b3
  · rcases ls_spec (d := lo_d A 10) (lo_s_le hA (B := 10) (by decide) (by decide)) (10 ^ n_n A) with ⟨b1, -, b3⟩ | ⟨k0, hk0, b1, b2, b3, b4, b5⟩
    · obtain ⟨c1, -, c3⟩ := up k1
      exact absurd (c1 ▸ b3 _ c3) a3
    · right
      obtain ⟨u1, u2, u3⟩ := up k1
      obtain ⟨w1, w2, w3, w4⟩ := dn k0
      have s1 : lo_s A 10 k0 ≤ lo_s A (C + 1) k1 := by rw [← u2]; exact b4 _ u3 (by rw [u1]; exact a3)
      have s2 : lo_s A (C + 1) k1 ≤ lo_s A (C + 1) (nb (C + 1) (n_n A) (fun r => min (dg 10 (n_n A) k0 r) C)) := a4 _ w4 (by rw [w1]; exact b3)
      have small : ∀ r, r < n_n A → dg 10 (n_n A) k0 r ≤ C := fun r hr => by
        by_cases h : dg 10 (n_n A) k0 r ≤ C
        · exact h
        · have := w3 ⟨r, hr, by omega⟩; omega
      have ev : nb (C + 1) (n_n A) (fun r => min (dg 10 (n_n A) k0 r) C) = nb (C + 1) (n_n A) (dg 10 (n_n A) k0) := nb_congr _ (fun r hr => by have := small r hr; omega)
      rw [ev] at w1 w2 w4 s2
      have seq : lo_s A (C + 1) k1 = lo_s A 10 k0 := by omega
      have o1 : k1 ≤ nb (C + 1) (n_n A) (dg 10 (n_n A) k0) := by
        by_cases h : k1 ≤ nb (C + 1) (n_n A) (dg 10 (n_n A) k0)
        · exact h
        · have := a5 (nb (C + 1) (n_n A) (dg 10 (n_n A) k0)) (by omega) (by rw [w1]; exact b3); omega
      have o2 : k0 ≤ nb 10 (n_n A) (dg (C + 1) (n_n A) k1) := by
        by_cases h : k0 ≤ nb 10 (n_n A) (dg (C + 1) (n_n A) k1)
        · exact h
        · have := b5 (nb 10 (n_n A) (dg (C + 1) (n_n A) k1)) (by omega) (by rw [u1]; exact a3); omega
      have lex := nb_lex (B := C + 1) (D := 10) (f := dg (C + 1) (n_n A) k1) (g := dg 10 (n_n A) k0) (n_n A) (fun r hr => by
        have h1 := dB k1 r
        have h2 := small r hr
        have h3 := dT k0 r
        omega)
      rw [nb_dg _ k1 hk1, nb_dg _ k0 hk0] at lex
      have e3 : nb 10 (n_n A) (dg (C + 1) (n_n A) k1) = k0 := by
        have := lex.1.mp o1
        omega
      refine ⟨by omega, by omega, by rw [a2, b2]; exact seq, fun r hr => ?_⟩
      rw [a1, b1, Int.toNat_natCast, Int.toNat_natCast]
      refine nb_inj (B := 10) (n_n A) (fun r hr => ?_) (fun r _ => dT k0 r) ?_ r hr
      · have := dB k1 r; omega
      · rw [e3, nb_dg _ k0 hk0]
