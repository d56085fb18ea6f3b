/-! Pure words: sums, nights as they are told by nine rows of numbers; what a Field's cells tell -/
theorem w_loop {P : Nat → Prop} {n : Nat} (last : P n) (step : ∀ i, i < n → P (i + 1) → P i) : P 0 := by
  have h : ∀ k i : Nat, i + k = n → P i := by
    intro k
    induction k with
    | zero => intro i hi; rw [show i = n by omega]; exact last
    | succ k ih => intro i hi; exact step i (by omega) (ih (i + 1) (by omega))
  exact h n 0 (by omega)
noncomputable def f_sum (f : Nat → Int) : Nat → Int
  | 0 => 0
  | n + 1 => f_sum f n + f n
theorem f_sum_le {f : Nat → Int} {m : Nat} {B : Int} (h : ∀ i, i < m → 0 ≤ f i ∧ f i ≤ B) {n : Nat} (hn : n ≤ m) : 0 ≤ f_sum f n ∧ f_sum f n ≤ B * n := by
  induction n with
  | zero => simp [f_sum]
  | succ n ih =>
    have h1 := ih (by omega)
    have h2 := h n (by omega)
    simp only [f_sum]
    refine ⟨by omega, ?_⟩
    have : B * ((n + 1 : Nat) : Int) = B * n + B := by rw [Int.natCast_add, Int.mul_add]; simp
    omega
theorem f_sum_congr {f g : Nat → Int} {n : Nat} (h : ∀ i, i < n → f i = g i) : f_sum f n = f_sum g n := by
  induction n with
  | zero => rfl
  | succ n ih => simp only [f_sum]; rw [ih (fun i hi => h i (by omega)), h n (by omega)]
theorem f_sum_up {f g : Nat → Int} {n j : Nat} (hj : j < n) (h : ∀ i, i < n → i ≠ j → g i = f i) : f_sum g n = f_sum f n + (g j - f j) := by
  induction n with
  | zero => omega
  | succ n ih =>
    simp only [f_sum]
    by_cases hn : j = n
    · subst hn
      rw [f_sum_congr (f := g) (g := f) (fun i hi => h i (by omega) (by omega))]
      omega
    · rw [ih (by omega) (fun i hi => h i (by omega)), h n (by omega) (by omega)]
      omega
theorem f_sum_pos {f : Nat → Int} {n : Nat} (h0 : ∀ i, i < n → 0 ≤ f i) (h : 0 < f_sum f n) : ∃ i, i < n ∧ 0 < f i := by
  induction n with
  | zero => simp [f_sum] at h
  | succ n ih =>
    simp only [f_sum] at h
    by_cases hf : 0 < f n
    · exact ⟨n, by omega, hf⟩
    · obtain ⟨i, h1, h2⟩ := ih (fun i hi => h0 i (by omega)) (by omega)
      exact ⟨i, by omega, h2⟩
theorem f_sum_ge {f : Nat → Int} {n : Nat} (h0 : ∀ i, i < n → 0 ≤ f i) {j : Nat} (hj : j < n) : f j ≤ f_sum f n := by
  induction n with
  | zero => omega
  | succ n ih =>
    simp only [f_sum]
    have h2 : 0 ≤ f_sum f n := by
      have : ∀ m, m ≤ n → 0 ≤ f_sum f m := by
        intro m
        induction m with
        | zero => intro _; simp [f_sum]
        | succ m ih2 => intro hm; simp only [f_sum]; have := ih2 (by omega); have := h0 m (by omega); omega
      exact this n (Nat.le_refl _)
    by_cases hn : j = n
    · subst hn; omega
    · have := ih (fun i hi => h0 i (by omega)) (by omega)
      have := h0 n (by omega)
      omega
/-- cells lo .. hi - 1 alone may have changed -/
noncomputable def w_fr (σ σ' : w_M) (lo hi : Nat) : Prop := ∀ b, b < lo ∨ hi ≤ b → σ' b = σ b
theorem w_fr.rfl' {σ : w_M} {lo hi : Nat} : w_fr σ σ lo hi := fun _ _ => rfl
theorem w_fr.tr {σ σ1 σ2 : w_M} {lo hi : Nat} (h : w_fr σ σ1 lo hi) (h2 : w_fr σ1 σ2 lo hi) : w_fr σ σ2 lo hi := fun b hb => (h2 b hb).trans (h b hb)
theorem w_fr.wide {σ σ' : w_M} {lo hi lo' hi' : Nat} (h : w_fr σ σ' lo hi) (h1 : lo' ≤ lo) (h2 : hi ≤ hi') : w_fr σ σ' lo' hi' := fun b hb => h b (by omega)
theorem w_fr.up {σ σ' : w_M} {lo hi a i : Nat} {x : Int} (h : w_fr σ σ' lo hi) (h1 : lo ≤ a) (h2 : a < hi) : w_fr σ (w_up σ' a i x) lo hi := fun b hb => by
  rw [w_up_ne (by omega)]
  exact h b hb
theorem w_fr.up0 {σ : w_M} {lo hi a i : Nat} {x : Int} (h1 : lo ≤ a) (h2 : a < hi) : w_fr σ (w_up σ a i x) lo hi := w_fr.up w_fr.rfl' h1 h2
theorem w_up_eq {σ : w_M} {a i b j : Nat} {x : Int} : w_up σ a i x b j = if b = a ∧ j = i then x else σ b j := rfl
theorem w_up_same {σ : w_M} {a i : Nat} {x : Int} (h : σ a i = x) : w_up σ a i x = σ := by
  funext b j
  unfold w_up
  split
  · rename_i e; rw [e.1, e.2, h]
  · rfl
theorem w_up_up {σ : w_M} {a i : Nat} {x y : Int} : w_up (w_up σ a i x) a i y = w_up σ a i y := by
  funext b j
  unfold w_up
  split <;> rfl
theorem w_up_comm {σ : w_M} {a i b j : Nat} {x y : Int} (h : a ≠ b ∨ i ≠ j) : w_up (w_up σ a i x) b j y = w_up (w_up σ b j y) a i x := by
  funext c k
  unfold w_up
  by_cases h1 : c = b ∧ k = j
  · by_cases h2 : c = a ∧ k = i
    · omega
    · rw [if_pos h1, if_neg h2, if_pos h1]
  · by_cases h2 : c = a ∧ k = i
    · rw [if_neg h1, if_pos h2, if_pos h2]
    · rw [if_neg h1, if_neg h2, if_neg h2, if_neg h1]
/-- a night: row 0 HOURS, the hour, clouds, bride, strips, reapers; 1 yards, 2 owners, 3 paces, 4 oil, 5 edges, 6 places, 7 wages, 8 harvests, 9 thistles -/
noncomputable def w_rl (σ : w_M) (a d : Nat) : Nat := if d = 0 then 6 else if d ≤ 2 then (σ a 4).toNat else if d ≤ 7 then (σ a 5).toNat else 4
noncomputable def w_ab (σ : w_M) (a : Nat) : w_M := fun d i => if d < 9 then (if i < w_rl σ a d then σ (a + d) i else 0) else if d = 9 then (if i < (σ a 4).toNat then w_and (w_shr (σ a 6) i) 1 else 0) else 0
theorem w_rd {σ : w_M} {a d i : Nat} (hd : d < 9) (hi : i < w_rl σ a d) : σ (a + d) i = w_ab σ a d i := by
  unfold w_ab
  rw [if_pos hd, if_pos hi]
theorem w_ab0 {σ : w_M} {a j : Nat} (h : j < 6) : w_ab σ a 0 j = σ a j := (w_rd (d := 0) (by decide) h).symm
theorem w_ab_up {σ : w_M} {a d i : Nat} {x : Int} (hd : 1 ≤ d) (hd9 : d < 9) (hi : i < w_rl σ a d) : w_ab (w_up σ (a + d) i x) a = w_up (w_ab σ a) d i x := by
  have h0 : w_up σ (a + d) i x a = σ a := w_up_ne (by omega)
  have hr : ∀ k, w_rl (w_up σ (a + d) i x) a k = w_rl σ a k := fun k => by unfold w_rl; rw [h0]
  funext k j
  unfold w_ab
  rw [h0, hr]
  by_cases hk : k = d
  · subst hk
    by_cases hj : j = i
    · subst hj
      simp [w_up, hd9, hi]
    · simp [w_up, hj]
  · have h1 : w_up σ (a + d) i x (a + k) = σ (a + k) := w_up_ne (by omega)
    rw [h1]
    simp [w_up, hk]
theorem w_ab_up0 {σ : w_M} {a j : Nat} {x : Int} (h : j < 4) : w_ab (w_up σ a j x) a = w_up (w_ab σ a) 0 j x := by
  have h4 : ∀ q, 4 ≤ q → w_up σ a j x a q = σ a q := fun q hq => w_up_j (by omega)
  have hr : ∀ k, w_rl (w_up σ a j x) a k = w_rl σ a k := fun k => by unfold w_rl; rw [h4 4 (by decide), h4 5 (by decide)]
  funext k q
  unfold w_ab
  rw [hr, h4 4 (by decide), h4 6 (by decide)]
  by_cases hk : k = 0
  · subst hk
    by_cases hq : q = j
    · subst hq
      simp [w_up, w_rl]
      omega
    · simp [w_up, hq]
  · have h1 : w_up σ a j x (a + k) = σ (a + k) := w_up_ne (by omega)
    rw [h1]
    simp [w_up, hk]
theorem w_ab_lost {σ : w_M} {a : Nat} {x : Int} : w_ab (w_up σ a 15 x) a = w_ab σ a := by
  have h4 : ∀ q, q ≠ 15 → w_up σ a 15 x a q = σ a q := fun q hq => w_up_j hq
  have hr : ∀ k, w_rl (w_up σ a 15 x) a k = w_rl σ a k := fun k => by unfold w_rl; rw [h4 4 (by decide), h4 5 (by decide)]
  funext k q
  unfold w_ab
  rw [hr, h4 4 (by decide), h4 6 (by decide)]
  by_cases hk : k = 0
  · subst hk
    by_cases hq : q < 6
    · rw [Nat.add_zero, h4 q (by omega)]
    · simp [w_rl, hq]
  · rw [w_up_ne (by omega)]
theorem w_ab_fr {σ σ' : w_M} {a : Nat} (h : ∀ d, d < 9 → σ' (a + d) = σ (a + d)) : w_ab σ' a = w_ab σ a := by
  have h0 : σ' a = σ a := h 0 (by decide)
  have hr : ∀ k, w_rl σ' a k = w_rl σ a k := fun k => by unfold w_rl; rw [h0]
  funext k q
  unfold w_ab
  rw [hr, h0]
  by_cases hk : k < 9
  · rw [h k hk]
  · simp [hk]
noncomputable def n_s (A : w_M) : Nat := (A 0 4).toNat
noncomputable def n_n (A : w_M) : Nat := (A 0 5).toNat
theorem n_s_ab {σ : w_M} {a : Nat} : n_s (w_ab σ a) = (σ a 4).toNat := rfl
theorem n_n_ab {σ : w_M} {a : Nat} : n_n (w_ab σ a) = (σ a 5).toNat := rfl
noncomputable def n_WF (A : w_M) : Prop := (1 ≤ A 0 0 ∧ A 0 0 ≤ 12) ∧ (0 ≤ A 0 1 ∧ A 0 1 ≤ A 0 0) ∧ (0 ≤ A 0 2 ∧ A 0 2 ≤ 4095) ∧ (0 ≤ A 0 4 ∧ A 0 4 ≤ 7) ∧ (0 ≤ A 0 5 ∧ A 0 5 ≤ 4) ∧
  (∀ i, i < n_s A → (0 ≤ A 1 i ∧ A 1 i ≤ 40) ∧ (0 ≤ A 2 i ∧ A 2 i ≤ 3) ∧ (A 9 i = 0 ∨ A 9 i = 1)) ∧
  (∀ r, r < n_n A → (1 ≤ A 3 r ∧ A 3 r ≤ 9) ∧ (0 ≤ A 4 r ∧ A 4 r ≤ 9) ∧ (0 ≤ A 5 r ∧ A 5 r ≤ 3) ∧ (0 ≤ A 6 r ∧ A 6 r < A 0 4))
theorem n_WF.s {A : w_M} (h : n_WF A) : 0 ≤ A 0 4 ∧ A 0 4 ≤ 7 := h.2.2.2.1
theorem n_WF.n {A : w_M} (h : n_WF A) : 0 ≤ A 0 5 ∧ A 0 5 ≤ 4 := h.2.2.2.2.1
theorem n_WF.hrs {A : w_M} (h : n_WF A) : 1 ≤ A 0 0 ∧ A 0 0 ≤ 12 := h.1
theorem n_WF.hr {A : w_M} (h : n_WF A) : 0 ≤ A 0 1 ∧ A 0 1 ≤ A 0 0 := h.2.1
theorem n_WF.i {A : w_M} (h : n_WF A) {i : Nat} (hi : i < n_s A) : (0 ≤ A 1 i ∧ A 1 i ≤ 40) ∧ (0 ≤ A 2 i ∧ A 2 i ≤ 3) ∧ (A 9 i = 0 ∨ A 9 i = 1) := h.2.2.2.2.2.1 i hi
theorem n_WF.r {A : w_M} (h : n_WF A) {r : Nat} (hr : r < n_n A) : (1 ≤ A 3 r ∧ A 3 r ≤ 9) ∧ (0 ≤ A 4 r ∧ A 4 r ≤ 9) ∧ (0 ≤ A 5 r ∧ A 5 r ≤ 3) ∧ (0 ≤ A 6 r ∧ A 6 r < A 0 4) := h.2.2.2.2.2.2 r hr
noncomputable def n_sd (A : w_M) : Int := f_sum (A 1) (n_s A)
theorem n_sd_le {A : w_M} (h : n_WF A) : 0 ≤ n_sd A ∧ n_sd A ≤ 280 := by
  have h1 := f_sum_le (f := A 1) (B := 40) (fun i hi => (h.i hi).1) (Nat.le_refl (n_s A))
  have h2 := h.s
  unfold n_sd
  have : (n_s A : Int) ≤ 7 := by unfold n_s; omega
  omega
/-- the nearest strip with yards: -4 if there is none -/
noncomputable def n_nearF (A : w_M) (f : Int) : Nat → Int × Int
  | 0 => (-4, 1000000)
  | k + 1 => if 0 < A 1 k ∧ (if (k : Int) < f then f - k else k - f) < (n_nearF A f k).2 then ((k : Int), (if (k : Int) < f then f - k else k - f)) else n_nearF A f k
noncomputable def n_near (A : w_M) (f : Int) : Int := (n_nearF A f (n_s A)).1
noncomputable def n_dist (k : Nat) (f : Int) : Int := if (k : Int) < f then f - k else k - f
theorem n_dist_nn (k : Nat) (f : Int) : 0 ≤ n_dist k f := by unfold n_dist; split <;> omega
theorem n_nearF_spec {A : w_M} {f : Int} (hf : -1000 < f ∧ f < 1000) : ∀ k : Nat, k ≤ 1000 → ((n_nearF A f k = (-4, 1000000) ∧ ∀ j, j < k → ¬ 0 < A 1 j) ∨ ∃ i : Nat, i < k ∧ n_nearF A f k = ((i : Int), n_dist i f) ∧ 0 < A 1 i ∧ ∀ j, j < k → 0 < A 1 j → n_dist i f < n_dist j f ∨ (n_dist i f = n_dist j f ∧ i ≤ j)) := by
  intro k
  induction k with
  | zero => intro _; exact Or.inl ⟨rfl, fun j hj => by omega⟩
  | succ k ih =>
    intro hk
    have hd : n_dist k f < 1000000 := by unfold n_dist; split <;> omega
    have e : n_nearF A f (k + 1) = if 0 < A 1 k ∧ n_dist k f < (n_nearF A f k).2 then ((k : Int), n_dist k f) else n_nearF A f k := rfl
    rcases ih (by omega) with ⟨h1, h2⟩ | ⟨i, h1, h2, h3, h4⟩
    · rw [h1] at e
      by_cases hy : 0 < A 1 k
      · refine Or.inr ⟨k, by omega, by rw [e, if_pos ⟨hy, hd⟩], hy, fun j hj hj2 => ?_⟩
        by_cases hjk : j = k
        · subst hjk; exact Or.inr ⟨rfl, Nat.le_refl _⟩
        · exact absurd hj2 (h2 j (by omega))
      · refine Or.inl ⟨by rw [e, if_neg (fun q => hy q.1)], fun j hj => ?_⟩
        by_cases hjk : j = k
        · subst hjk; exact hy
        · exact h2 j (by omega)
    · rw [h2] at e
      by_cases hy : 0 < A 1 k ∧ n_dist k f < n_dist i f
      · refine Or.inr ⟨k, by omega, by rw [e, if_pos hy], hy.1, fun j hj hj2 => ?_⟩
        by_cases hjk : j = k
        · subst hjk; exact Or.inr ⟨rfl, Nat.le_refl _⟩
        · rcases h4 j (by omega) hj2 with h | h
          · exact Or.inl (by omega)
          · exact Or.inl (by omega)
      · refine Or.inr ⟨i, by omega, by rw [e, if_neg hy], h3, fun j hj hj2 => ?_⟩
        by_cases hjk : j = k
        · subst hjk
          have : ¬ n_dist j f < n_dist i f := fun q => hy ⟨hj2, q⟩
          omega
        · exact h4 j (by omega) hj2
/-- what tells the nearest one apart -/
theorem n_near_of {A : w_M} {f : Int} (hf : -1000 < f ∧ f < 1000) (hs : n_s A ≤ 1000) {i : Nat} (hi : i < n_s A) (hy : 0 < A 1 i) (h : ∀ j, j < n_s A → 0 < A 1 j → n_dist i f < n_dist j f ∨ (n_dist i f = n_dist j f ∧ i ≤ j)) : n_near A f = i := by
  rcases n_nearF_spec hf (n_s A) hs with ⟨h1, h2⟩ | ⟨i2, h1, h2, h3, h4⟩
  · exact absurd hy (h2 i hi)
  · have a1 := h i2 h1 h3
    have a2 := h4 i hi hy
    have : i2 = i := by omega
    unfold n_near
    rw [h2, this]
theorem n_near_none {A : w_M} {f : Int} (hf : -1000 < f ∧ f < 1000) (hs : n_s A ≤ 1000) (h : ∀ j, j < n_s A → ¬ 0 < A 1 j) : n_near A f = -4 := by
  rcases n_nearF_spec hf (n_s A) hs with ⟨h1, h2⟩ | ⟨i2, h1, h2, h3, h4⟩
  · unfold n_near; rw [h1]
  · exact absurd h3 (h i2 h1)
theorem n_near_cases {A : w_M} {f : Int} (hf : -1000 < f ∧ f < 1000) (hs : n_s A ≤ 1000) : (n_near A f = -4 ∧ ∀ j, j < n_s A → ¬ 0 < A 1 j) ∨ ∃ i : Nat, i < n_s A ∧ n_near A f = i ∧ 0 < A 1 i := by
  rcases n_nearF_spec hf (n_s A) hs with ⟨h1, h2⟩ | ⟨i2, h1, h2, h3, h4⟩
  · exact Or.inl ⟨by unfold n_near; rw [h1], h2⟩
  · exact Or.inr ⟨i2, h1, by unfold n_near; rw [h2], h3⟩
/-- one reaper's work in an hour -/
noncomputable def n_pc (A : w_M) (r i : Nat) : Int := if A 9 i = 1 then (A 3 r + 1).tdiv 2 else A 3 r
noncomputable def n_amt (A : w_M) (r i : Nat) : Int := if n_pc A r i < A 1 i then n_pc A r i else A 1 i
noncomputable def n_cut (A : w_M) (r i : Nat) : w_M := w_up (w_up (w_up (w_up A 1 i (A 1 i - n_amt A r i)) 7 r (w_wr (A 7 r + n_amt A r i))) 0 3 r) 8 (A 2 i).toNat (w_wr (A 8 (A 2 i).toNat + n_amt A r i))
noncomputable def n_work (A : w_M) (r : Nat) (c : Int) : w_M :=
  if n_near A (A 6 r) = -4 then A
  else if A 5 r = 0 then w_up (w_up A 6 r (n_near A (A 6 r))) 5 r 3
  else if c = 0 ∨ 0 < A 4 r then n_cut (w_up (w_up (w_up A 6 r (n_near A (A 6 r))) 5 r (A 5 r - 1)) 4 r (A 4 r - c)) r (n_near A (A 6 r)).toNat
  else w_up A 6 r (n_near A (A 6 r))
/-- how far he falls short of his pace -/
noncomputable def n_lost (A : w_M) (r : Nat) (c : Int) : Int :=
  if n_near A (A 6 r) = -4 then 0 else if A 5 r = 0 then 0 else if c = 0 ∨ 0 < A 4 r then A 3 r - n_amt A r (n_near A (A 6 r)).toNat else 0
noncomputable def n_hourF (A : w_M) (c : Int) : Nat → w_M
  | 0 => A
  | k + 1 => n_work (n_hourF A c k) k c
noncomputable def n_lostF (A : w_M) (c : Int) : Nat → Int
  | 0 => 0
  | k + 1 => n_lostF A c k + n_lost (n_hourF A c k) k c
noncomputable def n_hour (A : w_M) (c : Int) : w_M := w_up (n_hourF A c (n_n A)) 0 1 (A 0 1 + 1)
noncomputable def n_cl (A : w_M) (t : Int) : Int := w_and (w_shr (A 0 2) t) 1
noncomputable def n_on (A : w_M) : w_M := n_hour A (n_cl A (A 0 1))
noncomputable def n_goes (A : w_M) : Nat → w_M
  | 0 => A
  | k + 1 => if (n_goes A k) 0 1 < (n_goes A k) 0 0 then n_on (n_goes A k) else n_goes A k
