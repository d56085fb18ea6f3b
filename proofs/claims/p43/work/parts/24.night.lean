section
/-! Pure words: sums, nights as they are told by nine rows of numbers; what a Field's cells tell -/
theorem w_loop {P : Nat → Prop} {n : Nat} (last : P n) (step : ∀ i, i < n → P (i + 1) → P i) : P 0 := by
  have h : ∀ k i : Nat, i + k = n → P i := by
    intro k
    induction k with
    | zero => intro i hi; rw [show i = n by omega]; exact last
    | succ k ih => intro i hi; exact step i (by omega) (ih (i + 1) (by omega))
  exact h n 0 (by omega)
noncomputable def f_sum (f : Nat → Int) : Nat → Int
  | 0 => 0
  | n + 1 => f_sum f n + f n
theorem f_sum_le {f : Nat → Int} {m : Nat} {B : Int} (h : ∀ i, i < m → 0 ≤ f i ∧ f i ≤ B) {n : Nat} (hn : n ≤ m) : 0 ≤ f_sum f n ∧ f_sum f n ≤ B * n := by
  induction n with
  | zero => simp [f_sum]
  | succ n ih =>
    have h1 := ih (by omega)
    have h2 := h n (by omega)
    simp only [f_sum]
    refine ⟨by omega, ?_⟩
    have : B * ((n + 1 : Nat) : Int) = B * n + B := by rw [Int.natCast_add, Int.mul_add]; simp
    omega
theorem f_sum_congr {f g : Nat → Int} {n : Nat} (h : ∀ i, i < n → f i = g i) : f_sum f n = f_sum g n := by
  induction n with
  | zero => rfl
  | succ n ih => simp only [f_sum]; rw [ih (fun i hi => h i (by omega)), h n (by omega)]
theorem f_sum_up {f g : Nat → Int} {n j : Nat} (hj : j < n) (h : ∀ i, i < n → i ≠ j → g i = f i) : f_sum g n = f_sum f n + (g j - f j) := by
  induction n with
  | zero => omega
  | succ n ih =>
    simp only [f_sum]
    by_cases hn : j = n
    · subst hn
      rw [f_sum_congr (f := g) (g := f) (fun i hi => h i (by omega) (by omega))]
      omega
    · rw [ih (by omega) (fun i hi => h i (by omega)), h n (by omega) (by omega)]
      omega
theorem f_sum_pos {f : Nat → Int} {n : Nat} (h0 : ∀ i, i < n → 0 ≤ f i) (h : 0 < f_sum f n) : ∃ i, i < n ∧ 0 < f i := by
  induction n with
  | zero => simp [f_sum] at h
  | succ n ih =>
    simp only [f_sum] at h
    by_cases hf : 0 < f n
    · exact ⟨n, by omega, hf⟩
    · obtain ⟨i, h1, h2⟩ := ih (fun i hi => h0 i (by omega)) (by omega)
      exact ⟨i, by omega, h2⟩
theorem f_sum_ge {f : Nat → Int} {n : Nat} (h0 : ∀ i, i < n → 0 ≤ f i) {j : Nat} (hj : j < n) : f j ≤ f_sum f n := by
  induction n with
  | zero => omega
  | succ n ih =>
    simp only [f_sum]
    have h2 : 0 ≤ f_sum f n := by
      have : ∀ m, m ≤ n → 0 ≤ f_sum f m := by
        intro m
        induction m with
        | zero => intro _; simp [f_sum]
        | succ m ih2 => intro hm; simp only [f_sum]; have := ih2 (by omega); have := h0 m (by omega); omega
      exact this n (Nat.le_refl _)
    by_cases hn : j = n
    · subst hn; omega
    · have := ih (fun i hi => h0 i (by omega)) (by omega)
      have := h0 n (by omega)
      omega
/-- cells lo .. hi - 1 alone may have changed -/
noncomputable def w_fr (σ σ' : w_M) (lo hi : Nat) : Prop := ∀ b, b < lo ∨ hi ≤ b → σ' b = σ b
theorem w_fr.rfl' {σ : w_M} {lo hi : Nat} : w_fr σ σ lo hi := fun _ _ => rfl
theorem w_fr.tr {σ σ1 σ2 : w_M} {lo hi : Nat} (h : w_fr σ σ1 lo hi) (h2 : w_fr σ1 σ2 lo hi) : w_fr σ σ2 lo hi := fun b hb => (h2 b hb).trans (h b hb)
theorem w_fr.wide {σ σ' : w_M} {lo hi lo' hi' : Nat} (h : w_fr σ σ' lo hi) (h1 : lo' ≤ lo) (h2 : hi ≤ hi') : w_fr σ σ' lo' hi' := fun b hb => h b (by omega)
theorem w_fr.up {σ σ' : w_M} {lo hi a i : Nat} {x : Int} (h : w_fr σ σ' lo hi) (h1 : lo ≤ a) (h2 : a < hi) : w_fr σ (w_up σ' a i x) lo hi := fun b hb => by
  rw [w_up_ne (by omega)]
  exact h b hb
theorem w_fr.up0 {σ : w_M} {lo hi a i : Nat} {x : Int} (h1 : lo ≤ a) (h2 : a < hi) : w_fr σ (w_up σ a i x) lo hi := w_fr.up w_fr.rfl' h1 h2
theorem w_up_eq {σ : w_M} {a i b j : Nat} {x : Int} : w_up σ a i x b j = if b = a ∧ j = i then x else σ b j := rfl
theorem w_up_same {σ : w_M} {a i : Nat} {x : Int} (h : σ a i = x) : w_up σ a i x = σ := by
  funext b j
  unfold w_up
  split
  · rename_i e; rw [e.1, e.2, h]
  · rfl
theorem w_up_up {σ : w_M} {a i : Nat} {x y : Int} : w_up (w_up σ a i x) a i y = w_up σ a i y := by
  funext b j
  unfold w_up
  split <;> rfl
theorem w_up_comm {σ : w_M} {a i b j : Nat} {x y : Int} (h : a ≠ b ∨ i ≠ j) : w_up (w_up σ a i x) b j y = w_up (w_up σ b j y) a i x := by
  funext c k
  unfold w_up
  by_cases h1 : c = b ∧ k = j
  · by_cases h2 : c = a ∧ k = i
    · omega
    · rw [if_pos h1, if_neg h2, if_pos h1]
  · by_cases h2 : c = a ∧ k = i
    · rw [if_neg h1, if_pos h2, if_pos h2]
    · rw [if_neg h1, if_neg h2, if_neg h2, if_neg h1]
/-- a night: row 0 HOURS, the hour, clouds, bride, strips, reapers; 1 yards, 2 owners, 3 paces, 4 oil, 5 edges, 6 places, 7 wages, 8 harvests, 9 thistles -/
noncomputable def w_rl (σ : w_M) (a d : Nat) : Nat := if d = 0 then 6 else if d ≤ 2 then (σ a 4).toNat else if d ≤ 7 then (σ a 5).toNat else 4
noncomputable def w_ab (σ : w_M) (a : Nat) : w_M := fun d i => if d < 9 then (if i < w_rl σ a d then σ (a + d) i else 0) else if d = 9 then (if i < (σ a 4).toNat then w_and (w_shr (σ a 6) i) 1 else 0) else 0
theorem w_rd {σ : w_M} {a d i : Nat} (hd : d < 9) (hi : i < w_rl σ a d) : σ (a + d) i = w_ab σ a d i := by
  unfold w_ab
  rw [if_pos hd, if_pos hi]
theorem w_ab0 {σ : w_M} {a j : Nat} (h : j < 6) : w_ab σ a 0 j = σ a j := (w_rd (d := 0) (by decide) h).symm
theorem w_ab_up {σ : w_M} {a d i : Nat} {x : Int} (hd : 1 ≤ d) (hd9 : d < 9) (hi : i < w_rl σ a d) : w_ab (w_up σ (a + d) i x) a = w_up (w_ab σ a) d i x := by
  have h0 : w_up σ (a + d) i x a = σ a := w_up_ne (by omega)
  have hr : ∀ k, w_rl (w_up σ (a + d) i x) a k = w_rl σ a k := fun k => by unfold w_rl; rw [h0]
  funext k j
  unfold w_ab
  rw [h0, hr]
  by_cases hk : k = d
  · subst hk
    by_cases hj : j = i
    · subst hj
      simp [w_up, hd9, hi]
    · simp [w_up, hj]
  · have h1 : w_up σ (a + d) i x (a + k) = σ (a + k) := w_up_ne (by omega)
    rw [h1]
    simp [w_up, hk]
theorem w_ab_up0 {σ : w_M} {a j : Nat} {x : Int} (h : j < 4) : w_ab (w_up σ a j x) a = w_up (w_ab σ a) 0 j x := by
  have h4 : ∀ q, 4 ≤ q → w_up σ a j x a q = σ a q := fun q hq => w_up_j (by omega)
  have hr : ∀ k, w_rl (w_up σ a j x) a k = w_rl σ a k := fun k => by unfold w_rl; rw [h4 4 (by decide), h4 5 (by decide)]
  funext k q
  unfold w_ab
  rw [hr, h4 4 (by decide), h4 6 (by decide)]
  by_cases hk : k = 0
  · subst hk
    by_cases hq : q = j
    · subst hq
      simp [w_up, w_rl]
      omega
    · simp [w_up, hq]
  · have h1 : w_up σ a j x (a + k) = σ (a + k) := w_up_ne (by omega)
    rw [h1]
    simp [w_up, hk]
theorem w_ab_lost {σ : w_M} {a : Nat} {x : Int} : w_ab (w_up σ a 15 x) a = w_ab σ a := by
  have h4 : ∀ q, q ≠ 15 → w_up σ a 15 x a q = σ a q := fun q hq => w_up_j hq
  have hr : ∀ k, w_rl (w_up σ a 15 x) a k = w_rl σ a k := fun k => by unfold w_rl; rw [h4 4 (by decide), h4 5 (by decide)]
  funext k q
  unfold w_ab
  rw [hr, h4 4 (by decide), h4 6 (by decide)]
  by_cases hk : k = 0
  · subst hk
    by_cases hq : q < 6
    · rw [Nat.add_zero, h4 q (by omega)]
    · simp [w_rl, hq]
  · rw [w_up_ne (by omega)]
theorem w_ab_fr {σ σ' : w_M} {a : Nat} (h : ∀ d, d < 9 → σ' (a + d) = σ (a + d)) : w_ab σ' a = w_ab σ a := by
  have h0 : σ' a = σ a := h 0 (by decide)
  have hr : ∀ k, w_rl σ' a k = w_rl σ a k := fun k => by unfold w_rl; rw [h0]
  funext k q
  unfold w_ab
  rw [hr, h0]
  by_cases hk : k < 9
  · rw [h k hk]
  · simp [hk]
noncomputable def n_s (A : w_M) : Nat := (A 0 4).toNat
noncomputable def n_n (A : w_M) : Nat := (A 0 5).toNat
theorem n_s_ab {σ : w_M} {a : Nat} : n_s (w_ab σ a) = (σ a 4).toNat := rfl
theorem n_n_ab {σ : w_M} {a : Nat} : n_n (w_ab σ a) = (σ a 5).toNat := rfl
noncomputable def n_WF (A : w_M) : Prop := (1 ≤ A 0 0 ∧ A 0 0 ≤ 12) ∧ (0 ≤ A 0 1 ∧ A 0 1 ≤ A 0 0) ∧ (0 ≤ A 0 2 ∧ A 0 2 ≤ 4095) ∧ (0 ≤ A 0 4 ∧ A 0 4 ≤ 7) ∧ (0 ≤ A 0 5 ∧ A 0 5 ≤ 4) ∧
  (∀ i, i < n_s A → (0 ≤ A 1 i ∧ A 1 i ≤ 40) ∧ (0 ≤ A 2 i ∧ A 2 i ≤ 3) ∧ (A 9 i = 0 ∨ A 9 i = 1)) ∧
  (∀ r, r < n_n A → (1 ≤ A 3 r ∧ A 3 r ≤ 9) ∧ (0 ≤ A 4 r ∧ A 4 r ≤ 9) ∧ (0 ≤ A 5 r ∧ A 5 r ≤ 3) ∧ (0 ≤ A 6 r ∧ A 6 r < A 0 4))
theorem n_WF.s {A : w_M} (h : n_WF A) : 0 ≤ A 0 4 ∧ A 0 4 ≤ 7 := h.2.2.2.1
theorem n_WF.n {A : w_M} (h : n_WF A) : 0 ≤ A 0 5 ∧ A 0 5 ≤ 4 := h.2.2.2.2.1
theorem n_WF.hrs {A : w_M} (h : n_WF A) : 1 ≤ A 0 0 ∧ A 0 0 ≤ 12 := h.1
theorem n_WF.hr {A : w_M} (h : n_WF A) : 0 ≤ A 0 1 ∧ A 0 1 ≤ A 0 0 := h.2.1
theorem n_WF.i {A : w_M} (h : n_WF A) {i : Nat} (hi : i < n_s A) : (0 ≤ A 1 i ∧ A 1 i ≤ 40) ∧ (0 ≤ A 2 i ∧ A 2 i ≤ 3) ∧ (A 9 i = 0 ∨ A 9 i = 1) := h.2.2.2.2.2.1 i hi
theorem n_WF.r {A : w_M} (h : n_WF A) {r : Nat} (hr : r < n_n A) : (1 ≤ A 3 r ∧ A 3 r ≤ 9) ∧ (0 ≤ A 4 r ∧ A 4 r ≤ 9) ∧ (0 ≤ A 5 r ∧ A 5 r ≤ 3) ∧ (0 ≤ A 6 r ∧ A 6 r < A 0 4) := h.2.2.2.2.2.2 r hr
noncomputable def n_sd (A : w_M) : Int := f_sum (A 1) (n_s A)
theorem n_sd_le {A : w_M} (h : n_WF A) : 0 ≤ n_sd A ∧ n_sd A ≤ 280 := by
  have h1 := f_sum_le (f := A 1) (B := 40) (fun i hi => (h.i hi).1) (Nat.le_refl (n_s A))
  have h2 := h.s
  unfold n_sd
  have : (n_s A : Int) ≤ 7 := by unfold n_s; omega
  omega
/-- the nearest strip with yards: -4 if there is none -/
noncomputable def n_nearF (A : w_M) (f : Int) : Nat → Int × Int
  | 0 => (-4, 1000000)
  | k + 1 => if 0 < A 1 k ∧ (if (k : Int) < f then f - k else k - f) < (n_nearF A f k).2 then ((k : Int), (if (k : Int) < f then f - k else k - f)) else n_nearF A f k
noncomputable def n_near (A : w_M) (f : Int) : Int := (n_nearF A f (n_s A)).1
noncomputable def n_dist (k : Nat) (f : Int) : Int := if (k : Int) < f then f - k else k - f
theorem n_dist_nn (k : Nat) (f : Int) : 0 ≤ n_dist k f := by unfold n_dist; split <;> omega
theorem n_nearF_spec {A : w_M} {f : Int} (hf : -1000 < f ∧ f < 1000) : ∀ k : Nat, k ≤ 1000 → ((n_nearF A f k = (-4, 1000000) ∧ ∀ j, j < k → ¬ 0 < A 1 j) ∨ ∃ i : Nat, i < k ∧ n_nearF A f k = ((i : Int), n_dist i f) ∧ 0 < A 1 i ∧ ∀ j, j < k → 0 < A 1 j → n_dist i f < n_dist j f ∨ (n_dist i f = n_dist j f ∧ i ≤ j)) := by
  intro k
  induction k with
  | zero => intro _; exact Or.inl ⟨rfl, fun j hj => by omega⟩
  | succ k ih =>
    intro hk
    have hd : n_dist k f < 1000000 := by unfold n_dist; split <;> omega
    have e : n_nearF A f (k + 1) = if 0 < A 1 k ∧ n_dist k f < (n_nearF A f k).2 then ((k : Int), n_dist k f) else n_nearF A f k := rfl
    rcases ih (by omega) with ⟨h1, h2⟩ | ⟨i, h1, h2, h3, h4⟩
    · rw [h1] at e
      by_cases hy : 0 < A 1 k
      · refine Or.inr ⟨k, by omega, by rw [e, if_pos ⟨hy, hd⟩], hy, fun j hj hj2 => ?_⟩
        by_cases hjk : j = k
        · subst hjk; exact Or.inr ⟨rfl, Nat.le_refl _⟩
        · exact absurd hj2 (h2 j (by omega))
      · refine Or.inl ⟨by rw [e, if_neg (fun q => hy q.1)], fun j hj => ?_⟩
        by_cases hjk : j = k
        · subst hjk; exact hy
        · exact h2 j (by omega)
    · rw [h2] at e
      by_cases hy : 0 < A 1 k ∧ n_dist k f < n_dist i f
      · refine Or.inr ⟨k, by omega, by rw [e, if_pos hy], hy.1, fun j hj hj2 => ?_⟩
        by_cases hjk : j = k
        · subst hjk; exact Or.inr ⟨rfl, Nat.le_refl _⟩
        · rcases h4 j (by omega) hj2 with h | h
          · exact Or.inl (by omega)
          · exact Or.inl (by omega)
      · refine Or.inr ⟨i, by omega, by rw [e, if_neg hy], h3, fun j hj hj2 => ?_⟩
        by_cases hjk : j = k
        · subst hjk
          have : ¬ n_dist j f < n_dist i f := fun q => hy ⟨hj2, q⟩
          omega
        · exact h4 j (by omega) hj2
/-- what tells the nearest one apart -/
theorem n_near_of {A : w_M} {f : Int} (hf : -1000 < f ∧ f < 1000) (hs : n_s A ≤ 1000) {i : Nat} (hi : i < n_s A) (hy : 0 < A 1 i) (h : ∀ j, j < n_s A → 0 < A 1 j → n_dist i f < n_dist j f ∨ (n_dist i f = n_dist j f ∧ i ≤ j)) : n_near A f = i := by
  rcases n_nearF_spec hf (n_s A) hs with ⟨h1, h2⟩ | ⟨i2, h1, h2, h3, h4⟩
  · exact absurd hy (h2 i hi)
  · have a1 := h i2 h1 h3
    have a2 := h4 i hi hy
    have : i2 = i := by omega
    unfold n_near
    rw [h2, this]
theorem n_near_none {A : w_M} {f : Int} (hf : -1000 < f ∧ f < 1000) (hs : n_s A ≤ 1000) (h : ∀ j, j < n_s A → ¬ 0 < A 1 j) : n_near A f = -4 := by
  rcases n_nearF_spec hf (n_s A) hs with ⟨h1, h2⟩ | ⟨i2, h1, h2, h3, h4⟩
  · unfold n_near; rw [h1]
  · exact absurd h3 (h i2 h1)
theorem n_near_cases {A : w_M} {f : Int} (hf : -1000 < f ∧ f < 1000) (hs : n_s A ≤ 1000) : (n_near A f = -4 ∧ ∀ j, j < n_s A → ¬ 0 < A 1 j) ∨ ∃ i : Nat, i < n_s A ∧ n_near A f = i ∧ 0 < A 1 i := by
  rcases n_nearF_spec hf (n_s A) hs with ⟨h1, h2⟩ | ⟨i2, h1, h2, h3, h4⟩
  · exact Or.inl ⟨by unfold n_near; rw [h1], h2⟩
  · exact Or.inr ⟨i2, h1, by unfold n_near; rw [h2], h3⟩
/-- one reaper's work in an hour -/
noncomputable def n_pc (A : w_M) (r i : Nat) : Int := if A 9 i = 1 then (A 3 r + 1).tdiv 2 else A 3 r
noncomputable def n_amt (A : w_M) (r i : Nat) : Int := if n_pc A r i < A 1 i then n_pc A r i else A 1 i
noncomputable def n_cut (A : w_M) (r i : Nat) : w_M := w_up (w_up (w_up (w_up A 1 i (A 1 i - n_amt A r i)) 7 r (w_wr (A 7 r + n_amt A r i))) 0 3 r) 8 (A 2 i).toNat (w_wr (A 8 (A 2 i).toNat + n_amt A r i))
noncomputable def n_work (A : w_M) (r : Nat) (c : Int) : w_M :=
  if n_near A (A 6 r) = -4 then A
  else if A 5 r = 0 then w_up (w_up A 6 r (n_near A (A 6 r))) 5 r 3
  else if c = 0 ∨ 0 < A 4 r then n_cut (w_up (w_up (w_up A 6 r (n_near A (A 6 r))) 5 r (A 5 r - 1)) 4 r (A 4 r - c)) r (n_near A (A 6 r)).toNat
  else w_up A 6 r (n_near A (A 6 r))
/-- how far he falls short of his pace -/
noncomputable def n_lost (A : w_M) (r : Nat) (c : Int) : Int :=
  if n_near A (A 6 r) = -4 then 0 else if A 5 r = 0 then 0 else if c = 0 ∨ 0 < A 4 r then A 3 r - n_amt A r (n_near A (A 6 r)).toNat else 0
noncomputable def n_hourF (A : w_M) (c : Int) : Nat → w_M
  | 0 => A
  | k + 1 => n_work (n_hourF A c k) k c
noncomputable def n_lostF (A : w_M) (c : Int) : Nat → Int
  | 0 => 0
  | k + 1 => n_lostF A c k + n_lost (n_hourF A c k) k c
noncomputable def n_hour (A : w_M) (c : Int) : w_M := w_up (n_hourF A c (n_n A)) 0 1 (A 0 1 + 1)
noncomputable def n_cl (A : w_M) (t : Int) : Int := w_and (w_shr (A 0 2) t) 1
noncomputable def n_on (A : w_M) : w_M := n_hour A (n_cl A (A 0 1))
noncomputable def n_goes (A : w_M) : Nat → w_M
  | 0 => A
  | k + 1 => if (n_goes A k) 0 1 < (n_goes A k) 0 0 then n_on (n_goes A k) else n_goes A k
end
section
/-! The JDK's methods; the small ones of the class; a Field's answers -/
theorem w_Qe {Q : Option w_V → w_M → Prop} {x y : Int} {σ : w_M} (h : Q (some (.inl x)) σ) (e : x = y) : Q (some (.inl y)) σ := e ▸ h
theorem w_cs1 (i : Nat) : ((i + 1 : Nat) : Int) = (i : Int) + 1 := by omega
theorem w_and1 (x : Int) : w_and x 1 = 0 ∨ w_and x 1 = 1 := by
  unfold w_and w_b2
  have key : ∀ b : BitVec 32, b &&& 1#32 = 0#32 ∨ b &&& 1#32 = 1#32 := by
    intro b
    have h : (b &&& 1#32).toNat = b.toNat % 2 := by rw [BitVec.toNat_and]; exact Nat.and_one_is_mod _
    rcases Nat.mod_two_eq_zero_or_one b.toNat with h2 | h2
    · exact Or.inl (BitVec.eq_of_toNat_eq (by rw [h, h2]; rfl))
    · exact Or.inr (BitVec.eq_of_toNat_eq (by rw [h, h2]; rfl))
  rcases key (Int32.ofInt x).toBitVec with h | h
  · left
    show (Int32.ofInt x &&& Int32.ofInt 1).toInt = 0
    have : Int32.ofInt x &&& Int32.ofInt 1 = 0 := by
      apply Int32.toBitVec_inj.mp
      rw [Int32.toBitVec_and]
      exact h
    rw [this]
    rfl
  · right
    show (Int32.ofInt x &&& Int32.ofInt 1).toInt = 1
    have : Int32.ofInt x &&& Int32.ofInt 1 = 1 := by
      apply Int32.toBitVec_inj.mp
      rw [Int32.toBitVec_and]
      exact h
    rw [this]
    rfl
theorem w_bi_and1 (x : Int) : w_bi (¬ w_and x 1 = 0) = w_and x 1 := by
  rcases w_and1 x with h | h
  · rw [w_bi_f (by rw [h]; simp), h]
  · rw [w_bi_t (by rw [h]; simp), h]
noncomputable def v_Math_min (x y : Int) : Int := if x ≤ y then x else y
noncomputable def v_Math_max (x y : Int) : Int := if x < y then y else x
noncomputable def v_Math_abs (x : Int) : Int := if 0 ≤ x then x else -x
noncomputable def p_Math_abs (x : Int) : Prop := w_in (-x)
theorem fMath_min_0 : w_fe am_c1 0 1 (.iload 0) := ⟨rfl, rfl⟩
theorem fMath_min_1 : w_fe am_c1 1 2 (.iload 1) := ⟨rfl, rfl⟩
theorem fMath_min_2 : w_ic am_c1 2 3 .gt 5 := ⟨rfl, rfl⟩
theorem fMath_min_3 : w_fe am_c1 3 4 (.iload 0) := ⟨rfl, rfl⟩
theorem fMath_min_4 : w_gt am_c1 4 6 := rfl
theorem fMath_min_5 : w_fe am_c1 5 6 (.iload 1) := ⟨rfl, rfl⟩
theorem fMath_min_6 : w_fe am_c1 6 7 (.ireturn) := ⟨rfl, rfl⟩
set_option maxRecDepth 20000 in
theorem bMath_min_0 {xs : List Int} {d : Nat} {Q : Option w_V → w_M → Prop} {x0 : Int} {x1 : Int} {σ : w_M}
    (h : (x1 < x0 → Q (some (.inl x1)) σ) ∧ (x0 ≤ x1 → Q (some (.inl x0)) σ)) : w_Call (xs, d) 1 [.inl x0, .inl x1] σ Q :=
  (w_mk (mid := 1) (by decide) rfl rfl rfl rfl rfl (Nat.le_of_ble_eq_true rfl) trivial (wi_iload0 fMath_min_0 (wi_iload1 fMath_min_1 (wi_ic_gt fMath_min_2 (fun c1 => (wi_iload1 fMath_min_5 (wi_ret1 fMath_min_6 (h.1 c1)))) (fun c1 => (wi_iload0 fMath_min_3 (wi_goto fMath_min_4 (wi_ret1 fMath_min_6 (h.2 c1)))))))))
theorem fMath_max_0 : w_fe am_c2 0 1 (.iload 0) := ⟨rfl, rfl⟩
theorem fMath_max_1 : w_fe am_c2 1 2 (.iload 1) := ⟨rfl, rfl⟩
theorem fMath_max_2 : w_ic am_c2 2 3 .lt 5 := ⟨rfl, rfl⟩
theorem fMath_max_3 : w_fe am_c2 3 4 (.iload 0) := ⟨rfl, rfl⟩
theorem fMath_max_4 : w_gt am_c2 4 6 := rfl
theorem fMath_max_5 : w_fe am_c2 5 6 (.iload 1) := ⟨rfl, rfl⟩
theorem fMath_max_6 : w_fe am_c2 6 7 (.ireturn) := ⟨rfl, rfl⟩
set_option maxRecDepth 20000 in
theorem bMath_max_0 {xs : List Int} {d : Nat} {Q : Option w_V → w_M → Prop} {x0 : Int} {x1 : Int} {σ : w_M}
    (h : (x0 < x1 → Q (some (.inl x1)) σ) ∧ (x1 ≤ x0 → Q (some (.inl x0)) σ)) : w_Call (xs, d) 2 [.inl x0, .inl x1] σ Q :=
  (w_mk (mid := 2) (by decide) rfl rfl rfl rfl rfl (Nat.le_of_ble_eq_true rfl) trivial (wi_iload0 fMath_max_0 (wi_iload1 fMath_max_1 (wi_ic_lt fMath_max_2 (fun c1 => (wi_iload1 fMath_max_5 (wi_ret1 fMath_max_6 (h.1 c1)))) (fun c1 => (wi_iload0 fMath_max_3 (wi_goto fMath_max_4 (wi_ret1 fMath_max_6 (h.2 c1)))))))))
theorem fMath_abs_0 : w_fe am_c0 0 1 (.iload 0) := ⟨rfl, rfl⟩
theorem fMath_abs_1 : w_if am_c0 1 2 .ge 5 := ⟨rfl, rfl⟩
theorem fMath_abs_2 : w_fe am_c0 2 3 (.iload 0) := ⟨rfl, rfl⟩
theorem fMath_abs_3 : w_fe am_c0 3 4 (.ineg) := ⟨rfl, rfl⟩
theorem fMath_abs_4 : w_gt am_c0 4 6 := rfl
theorem fMath_abs_5 : w_fe am_c0 5 6 (.iload 0) := ⟨rfl, rfl⟩
theorem fMath_abs_6 : w_fe am_c0 6 7 (.ireturn) := ⟨rfl, rfl⟩
set_option maxRecDepth 20000 in
theorem bMath_abs_0 {xs : List Int} {d : Nat} {Q : Option w_V → w_M → Prop} {x0 : Int} {σ : w_M}
    (h : (0 ≤ x0 → Q (some (.inl x0)) σ) ∧ (x0 < 0 → (w_in (-x0) ∧ Q (some (.inl (-x0))) σ))) : w_Call (xs, d) 0 [.inl x0] σ Q :=
  (w_mk (mid := 0) (by decide) rfl rfl rfl rfl rfl (Nat.le_of_ble_eq_true rfl) trivial (wi_iload0 fMath_abs_0 (wi_if_ge fMath_abs_1 (fun c1 => (wi_iload0 fMath_abs_5 (wi_ret1 fMath_abs_6 (h.1 c1)))) (fun c1 => (wi_iload0 fMath_abs_2 (wi_ineg fMath_abs_3 (h.2 c1).1 (wi_goto fMath_abs_4 (wi_ret1 fMath_abs_6 (h.2 c1).2))))))))
theorem k_Math_min {xs : List Int} {d : Nat} {Q : Option w_V → w_M → Prop} {x0 : Int} {x1 : Int} {σ : w_M} (hQ : Q (some (.inl (v_Math_min x0 x1))) σ) : w_Call (xs, d) 1 [.inl x0, .inl x1] σ Q := by
  unfold v_Math_min at hQ
  refine bMath_min_0 ⟨fun h => ?_, fun h => ?_⟩
  · rw [if_neg (by omega)] at hQ; exact hQ
  · rw [if_pos h] at hQ; exact hQ
theorem k_Math_max {xs : List Int} {d : Nat} {Q : Option w_V → w_M → Prop} {x0 : Int} {x1 : Int} {σ : w_M} (hQ : Q (some (.inl (v_Math_max x0 x1))) σ) : w_Call (xs, d) 2 [.inl x0, .inl x1] σ Q := by
  unfold v_Math_max at hQ
  refine bMath_max_0 ⟨fun h => ?_, fun h => ?_⟩
  · rw [if_pos h] at hQ; exact hQ
  · rw [if_neg (by omega)] at hQ; exact hQ
theorem k_Math_abs {xs : List Int} {d : Nat} {Q : Option w_V → w_M → Prop} {x0 : Int} {σ : w_M} (hp : p_Math_abs x0) (hQ : Q (some (.inl (v_Math_abs x0))) σ) : w_Call (xs, d) 0 [.inl x0] σ Q := by
  unfold v_Math_abs at hQ
  refine bMath_abs_0 ⟨fun h => ?_, fun h => ⟨hp, ?_⟩⟩
  · rw [if_pos h] at hQ; exact hQ
  · rw [if_neg (by omega)] at hQ; exact hQ
noncomputable def p_Integer_bitCount (x : Int) : Prop := 0 ≤ x ∧ x ≤ 3
noncomputable def v_Integer_bitCount (x : Int) : Int := if x = 0 then 0 else if x = 3 then 2 else 1
theorem fInteger_bitCount_0 : w_fe am_c3 0 1 (.iload 0) := ⟨rfl, rfl⟩
theorem fInteger_bitCount_1 : w_fe am_c3 1 2 (.iload 0) := ⟨rfl, rfl⟩
theorem fInteger_bitCount_2 : w_fe am_c3 2 3 (.bipush 1) := ⟨rfl, rfl⟩
theorem fInteger_bitCount_3 : w_fe am_c3 3 4 (.iushr) := ⟨rfl, rfl⟩
theorem fInteger_bitCount_4 : w_fe am_c3 4 5 (.bipush 1431655765) := ⟨rfl, rfl⟩
theorem fInteger_bitCount_5 : w_fe am_c3 5 6 (.iand) := ⟨rfl, rfl⟩
theorem fInteger_bitCount_6 : w_fe am_c3 6 7 (.isub) := ⟨rfl, rfl⟩
theorem fInteger_bitCount_7 : w_fe am_c3 7 8 (.istore 0) := ⟨rfl, rfl⟩
theorem fInteger_bitCount_8 : w_fe am_c3 8 9 (.iload 0) := ⟨rfl, rfl⟩
theorem fInteger_bitCount_9 : w_fe am_c3 9 10 (.bipush 858993459) := ⟨rfl, rfl⟩
theorem fInteger_bitCount_10 : w_fe am_c3 10 11 (.iand) := ⟨rfl, rfl⟩
theorem fInteger_bitCount_11 : w_fe am_c3 11 12 (.iload 0) := ⟨rfl, rfl⟩
theorem fInteger_bitCount_12 : w_fe am_c3 12 13 (.bipush 2) := ⟨rfl, rfl⟩
theorem fInteger_bitCount_13 : w_fe am_c3 13 14 (.iushr) := ⟨rfl, rfl⟩
theorem fInteger_bitCount_14 : w_fe am_c3 14 15 (.bipush 858993459) := ⟨rfl, rfl⟩
theorem fInteger_bitCount_15 : w_fe am_c3 15 16 (.iand) := ⟨rfl, rfl⟩
theorem fInteger_bitCount_16 : w_fe am_c3 16 17 (.iadd) := ⟨rfl, rfl⟩
theorem fInteger_bitCount_17 : w_fe am_c3 17 18 (.istore 0) := ⟨rfl, rfl⟩
theorem fInteger_bitCount_18 : w_fe am_c3 18 19 (.iload 0) := ⟨rfl, rfl⟩
theorem fInteger_bitCount_19 : w_fe am_c3 19 20 (.iload 0) := ⟨rfl, rfl⟩
theorem fInteger_bitCount_20 : w_fe am_c3 20 21 (.bipush 4) := ⟨rfl, rfl⟩
theorem fInteger_bitCount_21 : w_fe am_c3 21 22 (.iushr) := ⟨rfl, rfl⟩
theorem fInteger_bitCount_22 : w_fe am_c3 22 23 (.iadd) := ⟨rfl, rfl⟩
theorem fInteger_bitCount_23 : w_fe am_c3 23 24 (.bipush 252645135) := ⟨rfl, rfl⟩
theorem fInteger_bitCount_24 : w_fe am_c3 24 25 (.iand) := ⟨rfl, rfl⟩
theorem fInteger_bitCount_25 : w_fe am_c3 25 26 (.istore 0) := ⟨rfl, rfl⟩
theorem fInteger_bitCount_26 : w_fe am_c3 26 27 (.iload 0) := ⟨rfl, rfl⟩
theorem fInteger_bitCount_27 : w_fe am_c3 27 28 (.iload 0) := ⟨rfl, rfl⟩
theorem fInteger_bitCount_28 : w_fe am_c3 28 29 (.bipush 8) := ⟨rfl, rfl⟩
theorem fInteger_bitCount_29 : w_fe am_c3 29 30 (.iushr) := ⟨rfl, rfl⟩
theorem fInteger_bitCount_30 : w_fe am_c3 30 31 (.iadd) := ⟨rfl, rfl⟩
theorem fInteger_bitCount_31 : w_fe am_c3 31 32 (.istore 0) := ⟨rfl, rfl⟩
theorem fInteger_bitCount_32 : w_fe am_c3 32 33 (.iload 0) := ⟨rfl, rfl⟩
theorem fInteger_bitCount_33 : w_fe am_c3 33 34 (.iload 0) := ⟨rfl, rfl⟩
theorem fInteger_bitCount_34 : w_fe am_c3 34 35 (.bipush 16) := ⟨rfl, rfl⟩
theorem fInteger_bitCount_35 : w_fe am_c3 35 36 (.iushr) := ⟨rfl, rfl⟩
theorem fInteger_bitCount_36 : w_fe am_c3 36 37 (.iadd) := ⟨rfl, rfl⟩
theorem fInteger_bitCount_37 : w_fe am_c3 37 38 (.istore 0) := ⟨rfl, rfl⟩
theorem fInteger_bitCount_38 : w_fe am_c3 38 39 (.iload 0) := ⟨rfl, rfl⟩
theorem fInteger_bitCount_39 : w_fe am_c3 39 40 (.bipush 63) := ⟨rfl, rfl⟩
theorem fInteger_bitCount_40 : w_fe am_c3 40 41 (.iand) := ⟨rfl, rfl⟩
theorem fInteger_bitCount_41 : w_fe am_c3 41 42 (.ireturn) := ⟨rfl, rfl⟩
set_option maxRecDepth 20000 in
theorem bInteger_bitCount_0 {xs : List Int} {d : Nat} {Q : Option w_V → w_M → Prop} {x0 : Int} {σ : w_M}
    (h : w_in (x0 - (w_and (w_ushr x0 1) 1431655765)) ∧ (∀ (y1 : Int), y1 = (x0 - (w_and (w_ushr x0 1) 1431655765)) → (w_in ((w_and y1 858993459) + (w_and (w_ushr y1 2) 858993459)) ∧ (∀ (y2 : Int), y2 = ((w_and y1 858993459) + (w_and (w_ushr y1 2) 858993459)) → (w_in (y2 + (w_ushr y2 4)) ∧ (∀ (y3 : Int), y3 = (w_and (y2 + (w_ushr y2 4)) 252645135) → (w_in (y3 + (w_ushr y3 8)) ∧ (∀ (y4 : Int), y4 = (y3 + (w_ushr y3 8)) → (w_in (y4 + (w_ushr y4 16)) ∧ (∀ (y5 : Int), y5 = (y4 + (w_ushr y4 16)) → Q (some (.inl (w_and y5 63))) σ)))))))))) : w_Call (xs, d) 3 [.inl x0] σ Q :=
  (w_mk (mid := 3) (by decide) rfl rfl rfl rfl rfl (Nat.le_of_ble_eq_true rfl) trivial (wi_iload0 fInteger_bitCount_0 (wi_iload0 fInteger_bitCount_1 (wi_bipush fInteger_bitCount_2 (wi_iushr fInteger_bitCount_3 (wi_bipush fInteger_bitCount_4 (wi_iand fInteger_bitCount_5 (wi_isub fInteger_bitCount_6 h.1 (wi_istore0 fInteger_bitCount_7 (wi_iload0 fInteger_bitCount_8 (wi_bipush fInteger_bitCount_9 (wi_iand fInteger_bitCount_10 (wi_iload0 fInteger_bitCount_11 (wi_bipush fInteger_bitCount_12 (wi_iushr fInteger_bitCount_13 (wi_bipush fInteger_bitCount_14 (wi_iand fInteger_bitCount_15 (wi_iadd fInteger_bitCount_16 (h.2 _ rfl).1 (wi_istore0 fInteger_bitCount_17 (wi_iload0 fInteger_bitCount_18 (wi_iload0 fInteger_bitCount_19 (wi_bipush fInteger_bitCount_20 (wi_iushr fInteger_bitCount_21 (wi_iadd fInteger_bitCount_22 ((h.2 _ rfl).2 _ rfl).1 (wi_bipush fInteger_bitCount_23 (wi_iand fInteger_bitCount_24 (wi_istore0 fInteger_bitCount_25 (wi_iload0 fInteger_bitCount_26 (wi_iload0 fInteger_bitCount_27 (wi_bipush fInteger_bitCount_28 (wi_iushr fInteger_bitCount_29 (wi_iadd fInteger_bitCount_30 (((h.2 _ rfl).2 _ rfl).2 _ rfl).1 (wi_istore0 fInteger_bitCount_31 (wi_iload0 fInteger_bitCount_32 (wi_iload0 fInteger_bitCount_33 (wi_bipush fInteger_bitCount_34 (wi_iushr fInteger_bitCount_35 (wi_iadd fInteger_bitCount_36 ((((h.2 _ rfl).2 _ rfl).2 _ rfl).2 _ rfl).1 (wi_istore0 fInteger_bitCount_37 (wi_iload0 fInteger_bitCount_38 (wi_bipush fInteger_bitCount_39 (wi_iand fInteger_bitCount_40 (wi_ret1 fInteger_bitCount_41 (((((h.2 _ rfl).2 _ rfl).2 _ rfl).2 _ rfl).2 _ rfl))))))))))))))))))))))))))))))))))))))))))))
theorem k_Integer_bitCount {xs : List Int} {d : Nat} {Q : Option w_V → w_M → Prop} {x0 : Int} {σ : w_M} (hp : p_Integer_bitCount x0) (hQ : Q (some (.inl (v_Integer_bitCount x0))) σ) : w_Call (xs, d) 3 [.inl x0] σ Q := by
  have h2 : x0 = 0 ∨ x0 = 1 ∨ x0 = 2 ∨ x0 = 3 := by unfold p_Integer_bitCount at hp; omega
  rcases h2 with rfl | rfl | rfl | rfl
  all_goals
    refine bInteger_bitCount_0 ⟨by unfold w_in; decide +kernel, fun y1 e1 => ⟨?_, fun y2 e2 => ⟨?_, fun y3 e3 => ⟨?_, fun y4 e4 => ⟨?_, fun y5 e5 => ?_⟩⟩⟩⟩⟩
    · rw [e1]; unfold w_in; decide +kernel
    · rw [e2, e1]; unfold w_in; decide +kernel
    · rw [e3, e2, e1]; unfold w_in; decide +kernel
    · rw [e4, e3, e2, e1]; unfold w_in; decide +kernel
    · rw [e5, e4, e3, e2, e1]
      exact w_Qe hQ (by decide +kernel)
noncomputable def f_fill (σ : w_M) (b n : Nat) (x : Int) : w_M := fun c j => if c = b ∧ j < n then x else σ c j
theorem f_fill_0 {σ : w_M} {b : Nat} {x : Int} : f_fill σ b 0 x = σ := by funext c j; simp [f_fill]
theorem f_fill_up {σ : w_M} {b i : Nat} {x : Int} : w_up (f_fill σ b i x) b i x = f_fill σ b (i + 1) x := by
  funext c j
  unfold w_up f_fill
  by_cases h1 : c = b ∧ j = i
  · rw [if_pos h1, if_pos ⟨h1.1, by omega⟩]
  · rw [if_neg h1]
    by_cases h2 : c = b ∧ j < i
    · rw [if_pos h2, if_pos ⟨h2.1, by omega⟩]
    · rw [if_neg h2, if_neg (by omega)]
theorem f_fill_ne {σ : w_M} {b n c : Nat} {x : Int} (h : c ≠ b) : f_fill σ b n x c = σ c := by funext j; simp [f_fill, h]
theorem f_fill_at {σ : w_M} {b n j : Nat} {x : Int} (h : j < n) : f_fill σ b n x b j = x := by simp [f_fill, h]
noncomputable def q_Arrays_fill (b : Nat) (x : Int) (σ σ' : w_M) : Prop := σ' = f_fill σ b 4 x
noncomputable def q_Arrays_fill40 (b : Nat) (x : Int) (σ σ' : w_M) : Prop := σ' = f_fill σ b 40 x
theorem fArrays_fill_0 : w_fe am_c4 0 1 (.bipush 0) := ⟨rfl, rfl⟩
theorem fArrays_fill_1 : w_fe am_c4 1 2 (.istore 2) := ⟨rfl, rfl⟩
theorem fArrays_fill_2 : w_fe am_c4 2 3 (.aload 0) := ⟨rfl, rfl⟩
theorem fArrays_fill_3 : w_fe am_c4 3 4 (.arraylength) := ⟨rfl, rfl⟩
theorem fArrays_fill_4 : w_fe am_c4 4 5 (.istore 3) := ⟨rfl, rfl⟩
theorem fArrays_fill_5 : w_fe am_c4 5 6 (.iload 2) := ⟨rfl, rfl⟩
theorem fArrays_fill_6 : w_fe am_c4 6 7 (.iload 3) := ⟨rfl, rfl⟩
theorem fArrays_fill_7 : w_ic am_c4 7 8 .ge 14 := ⟨rfl, rfl⟩
theorem fArrays_fill_8 : w_fe am_c4 8 9 (.aload 0) := ⟨rfl, rfl⟩
theorem fArrays_fill_9 : w_fe am_c4 9 10 (.iload 2) := ⟨rfl, rfl⟩
theorem fArrays_fill_10 : w_fe am_c4 10 11 (.iload 1) := ⟨rfl, rfl⟩
theorem fArrays_fill_11 : w_fe am_c4 11 12 (.iastore) := ⟨rfl, rfl⟩
theorem fArrays_fill_12 : w_fe am_c4 12 13 (.iinc 2 1) := ⟨rfl, rfl⟩
theorem fArrays_fill_13 : w_gt am_c4 13 5 := rfl
theorem fArrays_fill_14 : w_fe am_c4 14 15 (.return_) := ⟨rfl, rfl⟩
noncomputable def LArrays_fill_5 (xs : List Int) (d : Nat) (Q : Option w_V → w_M → Prop) (r0 : Nat) (v1 : Int) (v2 : Int) (v3 : Int) (σ : w_M) : Prop := w_Ex (xs, d) 0 am_c4 Q 5 [some (.inr (.inr (1004, r0))), some (.inl v1), some (.inl v2), some (.inl v3)] [] σ
set_option maxRecDepth 20000 in
theorem bArrays_fill_0 {xs : List Int} {d : Nat} {Q : Option w_V → w_M → Prop} {b : Nat} {x1 : Int} {σ : w_M}
    (h : LArrays_fill_5 xs d Q b x1 0 4 σ) : w_Call (xs, d) 4 [.inr (.inr (1004, b)), .inl x1] σ Q :=
  (w_mk (mid := 4) (by decide) rfl rfl rfl rfl rfl (Nat.le_of_ble_eq_true rfl) trivial (wi_bipush fArrays_fill_0 (wi_istore2 fArrays_fill_1 trivial (wi_aload0 fArrays_fill_2 (wi_alen1004 fArrays_fill_3 (wi_istore3 fArrays_fill_4 trivial h))))))
set_option maxRecDepth 20000 in
theorem bArrays_fill_5 {xs : List Int} {d : Nat} {Q : Option w_V → w_M → Prop} {r0 : Nat} {v1 : Int} {v2 : Int} {v3 : Int} {σ : w_M}
    (h : (v3 ≤ v2 → Q none σ) ∧ (v2 < v3 → (0 ≤ v2 ∧ v2 < 4 ∧ (∀ (τ1 : w_M), τ1 = w_up σ r0 v2.toNat v1 → (w_in (v2 + 1) ∧ LArrays_fill_5 xs d Q r0 v1 (v2 + 1) v3 τ1))))) : LArrays_fill_5 xs d Q r0 v1 v2 v3 σ :=
  (wi_iload2 fArrays_fill_5 (wi_iload3 fArrays_fill_6 (wi_ic_ge fArrays_fill_7 (fun c2 => (wi_ret0 fArrays_fill_14 (h.1 c2))) (fun c2 => (wi_aload0 fArrays_fill_8 (wi_iload2 fArrays_fill_9 (wi_iload1 fArrays_fill_10 (wi_iast1004 fArrays_fill_11 (h.2 c2).1 (h.2 c2).2.1 (wi_iinc2 fArrays_fill_12 trivial ((h.2 c2).2.2 _ rfl).1 (wi_goto fArrays_fill_13 ((h.2 c2).2.2 _ rfl).2))))))))))
noncomputable def LArrays_fill40_5 (xs : List Int) (d : Nat) (Q : Option w_V → w_M → Prop) (r0 : Nat) (v1 : Int) (v2 : Int) (v3 : Int) (σ : w_M) : Prop := w_Ex (xs, d) 0 am_c4 Q 5 [some (.inr (.inr (1040, r0))), some (.inl v1), some (.inl v2), some (.inl v3)] [] σ
set_option maxRecDepth 20000 in
theorem bArrays_fill40_0 {xs : List Int} {d : Nat} {Q : Option w_V → w_M → Prop} {b : Nat} {x1 : Int} {σ : w_M}
    (h : LArrays_fill40_5 xs d Q b x1 0 40 σ) : w_Call (xs, d) 4 [.inr (.inr (1040, b)), .inl x1] σ Q :=
  (w_mk (mid := 4) (by decide) rfl rfl rfl rfl rfl (Nat.le_of_ble_eq_true rfl) trivial (wi_bipush fArrays_fill_0 (wi_istore2 fArrays_fill_1 trivial (wi_aload0 fArrays_fill_2 (wi_alen1040 fArrays_fill_3 (wi_istore3 fArrays_fill_4 trivial h))))))
set_option maxRecDepth 20000 in
theorem bArrays_fill40_5 {xs : List Int} {d : Nat} {Q : Option w_V → w_M → Prop} {r0 : Nat} {v1 : Int} {v2 : Int} {v3 : Int} {σ : w_M}
    (h : (v3 ≤ v2 → Q none σ) ∧ (v2 < v3 → (0 ≤ v2 ∧ v2 < 40 ∧ (∀ (τ1 : w_M), τ1 = w_up σ r0 v2.toNat v1 → (w_in (v2 + 1) ∧ LArrays_fill40_5 xs d Q r0 v1 (v2 + 1) v3 τ1))))) : LArrays_fill40_5 xs d Q r0 v1 v2 v3 σ :=
  (wi_iload2 fArrays_fill_5 (wi_iload3 fArrays_fill_6 (wi_ic_ge fArrays_fill_7 (fun c2 => (wi_ret0 fArrays_fill_14 (h.1 c2))) (fun c2 => (wi_aload0 fArrays_fill_8 (wi_iload2 fArrays_fill_9 (wi_iload1 fArrays_fill_10 (wi_iast1040 fArrays_fill_11 (h.2 c2).1 (h.2 c2).2.1 (wi_iinc2 fArrays_fill_12 trivial ((h.2 c2).2.2 _ rfl).1 (wi_goto fArrays_fill_13 ((h.2 c2).2.2 _ rfl).2))))))))))
theorem k_Arrays_fill {xs : List Int} {d : Nat} {Q : Option w_V → w_M → Prop} {b : Nat} {x1 : Int} {σ : w_M} (hQ : ∀ σ' : w_M, q_Arrays_fill b x1 σ σ' → Q none σ') : w_Call (xs, d) 4 [.inr (.inr (1004, b)), .inl x1] σ Q := by
  refine bArrays_fill_0 ?_
  have key : LArrays_fill_5 xs d Q b x1 ((0 : Nat) : Int) 4 (f_fill σ b 0 x1) := by
    refine w_loop (n := 4) (P := fun i => LArrays_fill_5 xs d Q b x1 (i : Int) 4 (f_fill σ b i x1)) ?_ ?_
    · exact bArrays_fill_5 ⟨fun _ => hQ _ rfl, fun h => by omega⟩
    · intro i hi ih
      refine bArrays_fill_5 ⟨fun h => by omega, fun h => ⟨by omega, by omega, fun τ e => ⟨⟨by omega, by omega⟩, ?_⟩⟩⟩
      rw [e, Int.toNat_natCast, f_fill_up, ← w_cs1]
      exact ih
  rw [f_fill_0] at key
  exact key
theorem k_Arrays_fill40 {xs : List Int} {d : Nat} {Q : Option w_V → w_M → Prop} {b : Nat} {x1 : Int} {σ : w_M} (hQ : ∀ σ' : w_M, q_Arrays_fill40 b x1 σ σ' → Q none σ') : w_Call (xs, d) 4 [.inr (.inr (1040, b)), .inl x1] σ Q := by
  refine bArrays_fill40_0 ?_
  have key : LArrays_fill40_5 xs d Q b x1 ((0 : Nat) : Int) 40 (f_fill σ b 0 x1) := by
    refine w_loop (n := 40) (P := fun i => LArrays_fill40_5 xs d Q b x1 (i : Int) 40 (f_fill σ b i x1)) ?_ ?_
    · exact bArrays_fill40_5 ⟨fun _ => hQ _ rfl, fun h => by omega⟩
    · intro i hi ih
      refine bArrays_fill40_5 ⟨fun h => by omega, fun h => ⟨by omega, by omega, fun τ e => ⟨⟨by omega, by omega⟩, ?_⟩⟩⟩
      rw [e, Int.toNat_natCast, f_fill_up, ← w_cs1]
      exact ih
  rw [f_fill_0] at key
  exact key
/-- the bytes of a constant text -/
noncomputable def s_isB (b : Nat) : Prop := b = 1001 ∨ b = 1003 ∨ b = 1005 ∨ b = 1007 ∨ b = 1009
theorem s_carr {xs : List Int} {b : Nat} (h : s_isB b) : w_carr xs b = w_carr [] b := by
  rcases h with rfl | rfl | rfl | rfl | rfl <;> rfl
theorem s_byt {b : Nat} (h : s_isB b) {j : Nat} (hj : j < (w_carr [] b).length) : (0 ≤ (w_carr [] b).getD j 0 ∧ (w_carr [] b).getD j 0 ≤ 127) ∧ w_and ((w_carr [] b).getD j 0) 255 = (w_carr [] b).getD j 0 := by
  have key : ∀ l : List Int, (l.all fun y => decide (0 ≤ y) && decide (y ≤ 127) && decide (w_and y 255 = y)) = true → ∀ j, j < l.length → (0 ≤ l.getD j 0 ∧ l.getD j 0 ≤ 127) ∧ w_and (l.getD j 0) 255 = l.getD j 0 := by
    intro l hl j hj
    have hm : l.getD j 0 ∈ l := by
      rw [List.getD_eq_getElem?_getD, List.getElem?_eq_getElem hj]
      exact List.getElem_mem hj
    have := List.all_eq_true.mp hl _ hm
    simp only [Bool.and_eq_true, decide_eq_true_eq] at this
    exact this
  rcases h with rfl | rfl | rfl | rfl | rfl <;> exact key _ (by decide +kernel) j hj
noncomputable def p_StringLatin1_charAt (b : Nat) (x : Int) (_ : w_M) : Prop := s_isB b ∧ 0 ≤ x ∧ x < ((w_carr [] b).length : Int)
noncomputable def v_StringLatin1_charAt (b : Nat) (x : Int) (_ : w_M) : Int := (w_carr [] b).getD x.toNat 0
noncomputable def p_String_length (a : Nat) (_ : w_M) : Prop := s_isB (a + 1)
noncomputable def v_String_length (a : Nat) (_ : w_M) : Int := ((w_carr [] (a + 1)).length : Int)
noncomputable def p_String_charAt (a : Nat) (x : Int) (σ : w_M) : Prop := p_StringLatin1_charAt (a + 1) x σ
noncomputable def v_String_charAt (a : Nat) (x : Int) (σ : w_M) : Int := v_StringLatin1_charAt (a + 1) x σ
theorem fStringLatin1_charAt_0 : w_fe am_c5 0 1 (.iload 1) := ⟨rfl, rfl⟩
theorem fStringLatin1_charAt_1 : w_fe am_c5 1 2 (.aload 0) := ⟨rfl, rfl⟩
theorem fStringLatin1_charAt_2 : w_fe am_c5 2 3 (.arraylength) := ⟨rfl, rfl⟩
theorem fStringLatin1_charAt_3 : w_fe am_c5 3 4 (.monitorexit) := ⟨rfl, rfl⟩
theorem fStringLatin1_charAt_4 : w_fe am_c5 4 5 (.aload 0) := ⟨rfl, rfl⟩
theorem fStringLatin1_charAt_5 : w_fe am_c5 5 6 (.iload 1) := ⟨rfl, rfl⟩
theorem fStringLatin1_charAt_6 : w_fe am_c5 6 7 (.baload) := ⟨rfl, rfl⟩
theorem fStringLatin1_charAt_7 : w_fe am_c5 7 8 (.bipush 255) := ⟨rfl, rfl⟩
theorem fStringLatin1_charAt_8 : w_fe am_c5 8 9 (.iand) := ⟨rfl, rfl⟩
theorem fStringLatin1_charAt_9 : w_fe am_c5 9 10 (.i2c) := ⟨rfl, rfl⟩
theorem fStringLatin1_charAt_10 : w_fe am_c5 10 11 (.ireturn) := ⟨rfl, rfl⟩
set_option maxRecDepth 20000 in
theorem bStringLatin1_charAt_0 {xs : List Int} {d : Nat} {Q : Option w_V → w_M → Prop} {b : Nat} {x1 : Int} {σ : w_M}
    (h : (0 ≤ x1 ∧ x1 < ((w_carr xs b).length : Int)) ∧ 0 ≤ x1 ∧ x1 < ((w_carr xs b).length : Int) ∧ (0 ≤ (w_and ((w_carr xs b).getD x1.toNat 0) 255) ∧ (w_and ((w_carr xs b).getD x1.toNat 0) 255) ≤ 65535) ∧ (0 ≤ (w_and ((w_carr xs b).getD x1.toNat 0) 255) ∧ (w_and ((w_carr xs b).getD x1.toNat 0) 255) ≤ 65535) ∧ Q (some (.inl (w_and ((w_carr xs b).getD x1.toNat 0) 255))) σ) : w_Call (xs, d) 5 [.inr (.inr (7000, b)), .inl x1] σ Q :=
  (w_mk (mid := 5) (by decide) rfl rfl rfl rfl rfl (Nat.le_of_ble_eq_true rfl) trivial (wi_iload1 fStringLatin1_charAt_0 (wi_aload0 fStringLatin1_charAt_1 (wi_alen7000 fStringLatin1_charAt_2 (wi_chk fStringLatin1_charAt_3 h.1 (Nat.le_of_ble_eq_true rfl) (wi_aload0 fStringLatin1_charAt_4 (wi_iload1 fStringLatin1_charAt_5 (wi_bald7000 fStringLatin1_charAt_6 h.2.1 h.2.2.1 (wi_bipush fStringLatin1_charAt_7 (wi_iand fStringLatin1_charAt_8 (wi_i2c fStringLatin1_charAt_9 h.2.2.2.1 (wi_ret5 fStringLatin1_charAt_10 h.2.2.2.2.1 h.2.2.2.2.2))))))))))))
theorem fString_isLatin1_0 : w_fe am_c9 0 1 (.getstatic 0) := ⟨rfl, rfl⟩
theorem fString_isLatin1_1 : w_if am_c9 1 2 .eq 7 := ⟨rfl, rfl⟩
theorem fString_isLatin1_2 : w_fe am_c9 2 3 (.aload 0) := ⟨rfl, rfl⟩
theorem fString_isLatin1_3 : w_fe am_c9 3 4 (.getfield 2001) := ⟨rfl, rfl⟩
theorem fString_isLatin1_4 : w_if am_c9 4 5 .ne 7 := ⟨rfl, rfl⟩
theorem fString_isLatin1_5 : w_fe am_c9 5 6 (.bipush 1) := ⟨rfl, rfl⟩
theorem fString_isLatin1_6 : w_gt am_c9 6 8 := rfl
theorem fString_isLatin1_7 : w_fe am_c9 7 8 (.bipush 0) := ⟨rfl, rfl⟩
theorem fString_isLatin1_8 : w_fe am_c9 8 9 (.ireturn) := ⟨rfl, rfl⟩
set_option maxRecDepth 20000 in
theorem bString_isLatin1_0 {xs : List Int} {d : Nat} {Q : Option w_V → w_M → Prop} {a : Nat} {σ : w_M}
    (h : Q (some (.inl 1)) σ) : w_Call (xs, d) 9 [.inr (.inr (20, a))] σ Q :=
  (w_mk (mid := 9) (by decide) rfl rfl rfl rfl rfl (Nat.le_of_ble_eq_true rfl) ⟨rfl, Or.inr rfl⟩ (wi_getstatic0 fString_isLatin1_0 (wi_if_eq fString_isLatin1_1 (fun e => absurd e (by decide)) (fun _ => (wi_aload0 fString_isLatin1_2 (wi_getf2001 fString_isLatin1_3 (wi_if_ne fString_isLatin1_4 (fun e => absurd e (by decide)) (fun _ => (wi_bipush fString_isLatin1_5 (wi_goto fString_isLatin1_6 (wi_ret2 fString_isLatin1_8 (by decide) h)))))))))))
theorem fString_coder_0 : w_fe am_c7 0 1 (.getstatic 0) := ⟨rfl, rfl⟩
theorem fString_coder_1 : w_if am_c7 1 2 .eq 5 := ⟨rfl, rfl⟩
theorem fString_coder_2 : w_fe am_c7 2 3 (.aload 0) := ⟨rfl, rfl⟩
theorem fString_coder_3 : w_fe am_c7 3 4 (.getfield 2001) := ⟨rfl, rfl⟩
theorem fString_coder_4 : w_gt am_c7 4 6 := rfl
theorem fString_coder_5 : w_fe am_c7 5 6 (.bipush 1) := ⟨rfl, rfl⟩
theorem fString_coder_6 : w_fe am_c7 6 7 (.ireturn) := ⟨rfl, rfl⟩
set_option maxRecDepth 20000 in
theorem bString_coder_0 {xs : List Int} {d : Nat} {Q : Option w_V → w_M → Prop} {a : Nat} {σ : w_M}
    (h : Q (some (.inl 0)) σ) : w_Call (xs, d) 7 [.inr (.inr (20, a))] σ Q :=
  (w_mk (mid := 7) (by decide) rfl rfl rfl rfl rfl (Nat.le_of_ble_eq_true rfl) ⟨rfl, Or.inr rfl⟩ (wi_getstatic0 fString_coder_0 (wi_if_eq fString_coder_1 (fun e => absurd e (by decide)) (fun _ => (wi_aload0 fString_coder_2 (wi_getf2001 fString_coder_3 (wi_goto fString_coder_4 (wi_ret6 fString_coder_6 (by decide) h))))))))
theorem k_StringLatin1_charAt {xs : List Int} {d : Nat} {Q : Option w_V → w_M → Prop} {b : Nat} {x1 : Int} {σ : w_M} (hp : p_StringLatin1_charAt b x1 σ) (hQ : Q (some (.inl (v_StringLatin1_charAt b x1 σ))) σ) : w_Call (xs, d) 5 [.inr (.inr (7000, b)), .inl x1] σ Q := by
  obtain ⟨h1, h2, h3⟩ := hp
  have hj : x1.toNat < (w_carr [] b).length := by omega
  obtain ⟨⟨g1, g2⟩, g3⟩ := s_byt h1 hj
  have e := s_carr (xs := xs) h1
  unfold v_StringLatin1_charAt at hQ
  refine bStringLatin1_charAt_0 ?_
  rw [e, g3]
  exact ⟨⟨h2, h3⟩, h2, h3, ⟨g1, by omega⟩, ⟨g1, by omega⟩, hQ⟩
theorem k_String_isLatin1 {xs : List Int} {d : Nat} {Q : Option w_V → w_M → Prop} {a : Nat} {σ : w_M} (hQ : Q (some (.inl (w_bi (True)))) σ) : w_Call (xs, d) 9 [.inr (.inr (20, a))] σ Q := by
  rw [w_bi_t trivial] at hQ
  exact bString_isLatin1_0 hQ
theorem k_String_coder {xs : List Int} {d : Nat} {Q : Option w_V → w_M → Prop} {a : Nat} {σ : w_M} (hQ : Q (some (.inl (0))) σ) : w_Call (xs, d) 7 [.inr (.inr (20, a))] σ Q := bString_coder_0 hQ
theorem fString_length_0 : w_fe am_c6 0 1 (.aload 0) := ⟨rfl, rfl⟩
theorem fString_length_1 : w_fe am_c6 1 2 (.getfield 2000) := ⟨rfl, rfl⟩
theorem fString_length_2 : w_fe am_c6 2 3 (.arraylength) := ⟨rfl, rfl⟩
theorem fString_length_3 : w_fe am_c6 3 4 (.aload 0) := ⟨rfl, rfl⟩
theorem fString_length_4 : w_fe am_c6 4 5 (.invokestatic 7) := ⟨rfl, rfl⟩
theorem fString_length_5 : w_fe am_c6 5 6 (.ishr) := ⟨rfl, rfl⟩
theorem fString_length_6 : w_fe am_c6 6 7 (.ireturn) := ⟨rfl, rfl⟩
set_option maxRecDepth 20000 in
theorem bString_length_0 {xs : List Int} {d : Nat} {Q : Option w_V → w_M → Prop} {a : Nat} {σ : w_M}
    (h : Q (some (.inl (w_shr ((w_carr xs (a + 1)).length : Int) 0))) σ) : w_Call (xs, (d + 1)) 6 [.inr (.inr (20, a))] σ Q :=
  (w_mk (mid := 6) (by decide) rfl rfl rfl rfl rfl (Nat.le_of_ble_eq_true rfl) ⟨rfl, Or.inr rfl⟩ (wi_aload0 fString_length_0 (wi_getf2000 fString_length_1 (wi_alen7000 fString_length_2 (wi_aload0 fString_length_3 (wi_call1 fString_length_4 (Nat.le_of_ble_eq_true rfl) (k_String_coder (wi_ishr fString_length_5 (wi_ret1 fString_length_6 h)))))))))
theorem fString_charAt_0 : w_fe am_c8 0 1 (.aload 0) := ⟨rfl, rfl⟩
theorem fString_charAt_1 : w_fe am_c8 1 2 (.invokestatic 9) := ⟨rfl, rfl⟩
theorem fString_charAt_2 : w_if am_c8 2 3 .eq 8 := ⟨rfl, rfl⟩
theorem fString_charAt_3 : w_fe am_c8 3 4 (.aload 0) := ⟨rfl, rfl⟩
theorem fString_charAt_4 : w_fe am_c8 4 5 (.getfield 2000) := ⟨rfl, rfl⟩
theorem fString_charAt_5 : w_fe am_c8 5 6 (.iload 1) := ⟨rfl, rfl⟩
theorem fString_charAt_6 : w_fe am_c8 6 7 (.invokestatic 5) := ⟨rfl, rfl⟩
theorem fString_charAt_7 : w_fe am_c8 7 8 (.ireturn) := ⟨rfl, rfl⟩
theorem fString_charAt_8 : w_fe am_c8 8 9 (.aload 0) := ⟨rfl, rfl⟩
theorem fString_charAt_9 : w_fe am_c8 9 10 (.getfield 2000) := ⟨rfl, rfl⟩
theorem fString_charAt_10 : w_fe am_c8 10 11 (.iload 1) := ⟨rfl, rfl⟩
set_option maxRecDepth 20000 in
theorem bString_charAt_0 {xs : List Int} {d : Nat} {Q : Option w_V → w_M → Prop} {a : Nat} {x1 : Int} {σ : w_M}
    (h : (¬ (True) → False) ∧ ((True) → (p_StringLatin1_charAt (a + 1) x1 σ ∧ (∀ (y1 : Int), y1 = v_StringLatin1_charAt (a + 1) x1 σ → ((0 ≤ y1 ∧ y1 ≤ 65535) ∧ Q (some (.inl y1)) σ))))) : w_Call (xs, (d + 1)) 8 [.inr (.inr (20, a)), .inl x1] σ Q :=
  (w_mk (mid := 8) (by decide) rfl rfl rfl rfl rfl (Nat.le_of_ble_eq_true rfl) ⟨rfl, Or.inr rfl⟩ (wi_aload0 fString_charAt_0 (wi_call1 fString_charAt_1 (Nat.le_of_ble_eq_true rfl) (k_String_isLatin1 (wi_ifb_eq fString_charAt_2 (fun c2 => (wi_aload0 fString_charAt_8 (wi_getf2000 fString_charAt_9 (wi_iload1 fString_charAt_10 (h.1 c2).elim)))) (fun c2 => (wi_aload0 fString_charAt_3 (wi_getf2000 fString_charAt_4 (wi_iload1 fString_charAt_5 (wi_call2 fString_charAt_6 (Nat.le_of_ble_eq_true rfl) (k_StringLatin1_charAt (h.2 c2).1 (wi_ret5 fString_charAt_7 ((h.2 c2).2 _ rfl).1 ((h.2 c2).2 _ rfl).2))))))))))))
theorem k_String_length {xs : List Int} {d : Nat} {Q : Option w_V → w_M → Prop} {a : Nat} {σ : w_M} (hp : p_String_length a σ) (hQ : Q (some (.inl (v_String_length a σ))) σ) : w_Call (xs, d + 1) 6 [.inr (.inr (20, a))] σ Q := by
  have e := s_carr (xs := xs) hp
  refine bString_length_0 ?_
  rw [e]
  have key : w_shr ((w_carr [] (a + 1)).length : Int) 0 = ((w_carr [] (a + 1)).length : Int) := by
    have : ∀ b, s_isB b → w_shr ((w_carr [] b).length : Int) 0 = ((w_carr [] b).length : Int) := by
      intro b hb
      rcases hb with rfl | rfl | rfl | rfl | rfl <;> decide +kernel
    exact this _ hp
  rw [key]
  exact hQ
theorem k_String_charAt {xs : List Int} {d : Nat} {Q : Option w_V → w_M → Prop} {a : Nat} {x1 : Int} {σ : w_M} (hp : p_String_charAt a x1 σ) (hQ : Q (some (.inl (v_String_charAt a x1 σ))) σ) : w_Call (xs, d + 1) 8 [.inr (.inr (20, a)), .inl x1] σ Q := by
  obtain ⟨h1, h2, h3⟩ := hp
  have hj : x1.toNat < (w_carr [] (a + 1)).length := by omega
  obtain ⟨⟨g1, g2⟩, g3⟩ := s_byt h1 hj
  refine bString_charAt_0 ⟨fun h => absurd trivial h, fun _ => ⟨⟨h1, h2, h3⟩, fun y1 e => ⟨?_, ?_⟩⟩⟩
  · rw [e]; exact ⟨g1, by unfold v_StringLatin1_charAt; omega⟩
  · rw [e]; exact hQ
noncomputable def v_Moon_withBit (x0 x1 x2 : Int) : Int := if x2 = 0 then w_and x0 (w_xor (w_shl 1 x1) (-1)) else w_or x0 (w_shl 1 x1)
theorem fMoon_withBit_0 : w_fe am_c110 0 1 (.iload 2) := ⟨rfl, rfl⟩
theorem fMoon_withBit_1 : w_if am_c110 1 2 .eq 8 := ⟨rfl, rfl⟩
theorem fMoon_withBit_2 : w_fe am_c110 2 3 (.iload 0) := ⟨rfl, rfl⟩
theorem fMoon_withBit_3 : w_fe am_c110 3 4 (.bipush 1) := ⟨rfl, rfl⟩
theorem fMoon_withBit_4 : w_fe am_c110 4 5 (.iload 1) := ⟨rfl, rfl⟩
theorem fMoon_withBit_5 : w_fe am_c110 5 6 (.ishl) := ⟨rfl, rfl⟩
theorem fMoon_withBit_6 : w_fe am_c110 6 7 (.ior) := ⟨rfl, rfl⟩
theorem fMoon_withBit_7 : w_gt am_c110 7 15 := rfl
theorem fMoon_withBit_8 : w_fe am_c110 8 9 (.iload 0) := ⟨rfl, rfl⟩
theorem fMoon_withBit_9 : w_fe am_c110 9 10 (.bipush 1) := ⟨rfl, rfl⟩
theorem fMoon_withBit_10 : w_fe am_c110 10 11 (.iload 1) := ⟨rfl, rfl⟩
theorem fMoon_withBit_11 : w_fe am_c110 11 12 (.ishl) := ⟨rfl, rfl⟩
theorem fMoon_withBit_12 : w_fe am_c110 12 13 (.bipush (-1)) := ⟨rfl, rfl⟩
theorem fMoon_withBit_13 : w_fe am_c110 13 14 (.ixor) := ⟨rfl, rfl⟩
theorem fMoon_withBit_14 : w_fe am_c110 14 15 (.iand) := ⟨rfl, rfl⟩
theorem fMoon_withBit_15 : w_fe am_c110 15 16 (.ireturn) := ⟨rfl, rfl⟩
set_option maxRecDepth 20000 in
theorem bMoon_withBit_0 {xs : List Int} {d : Nat} {Q : Option w_V → w_M → Prop} {x0 : Int} {x1 : Int} {x2 : Int} {σ : w_M}
    (h : (x2 = 0 → Q (some (.inl (w_and x0 (w_xor (w_shl 1 x1) (-1))))) σ) ∧ (¬ x2 = 0 → Q (some (.inl (w_or x0 (w_shl 1 x1)))) σ)) : w_Call (xs, d) 110 [.inl x0, .inl x1, .inl x2] σ Q :=
  (w_mk (mid := 110) (by decide) rfl rfl rfl rfl rfl (Nat.le_of_ble_eq_true rfl) trivial (wi_iload2 fMoon_withBit_0 (wi_if_eq fMoon_withBit_1 (fun c1 => (wi_iload0 fMoon_withBit_8 (wi_bipush fMoon_withBit_9 (wi_iload1 fMoon_withBit_10 (wi_ishl fMoon_withBit_11 (wi_bipush fMoon_withBit_12 (wi_ixor fMoon_withBit_13 (wi_iand fMoon_withBit_14 (wi_ret1 fMoon_withBit_15 (h.1 c1)))))))))) (fun c1 => (wi_iload0 fMoon_withBit_2 (wi_bipush fMoon_withBit_3 (wi_iload1 fMoon_withBit_4 (wi_ishl fMoon_withBit_5 (wi_ior fMoon_withBit_6 (wi_goto fMoon_withBit_7 (wi_ret1 fMoon_withBit_15 (h.2 c1))))))))))))
theorem fMoon_isWithin_0 : w_fe am_c107 0 1 (.iload 0) := ⟨rfl, rfl⟩
theorem fMoon_isWithin_1 : w_fe am_c107 1 2 (.iload 1) := ⟨rfl, rfl⟩
theorem fMoon_isWithin_2 : w_ic am_c107 2 3 .lt 8 := ⟨rfl, rfl⟩
theorem fMoon_isWithin_3 : w_fe am_c107 3 4 (.iload 0) := ⟨rfl, rfl⟩
theorem fMoon_isWithin_4 : w_fe am_c107 4 5 (.iload 2) := ⟨rfl, rfl⟩
theorem fMoon_isWithin_5 : w_ic am_c107 5 6 .gt 8 := ⟨rfl, rfl⟩
theorem fMoon_isWithin_6 : w_fe am_c107 6 7 (.bipush 1) := ⟨rfl, rfl⟩
theorem fMoon_isWithin_7 : w_gt am_c107 7 9 := rfl
theorem fMoon_isWithin_8 : w_fe am_c107 8 9 (.bipush 0) := ⟨rfl, rfl⟩
theorem fMoon_isWithin_9 : w_fe am_c107 9 10 (.ireturn) := ⟨rfl, rfl⟩
set_option maxRecDepth 20000 in
theorem bMoon_isWithin_0 {xs : List Int} {d : Nat} {Q : Option w_V → w_M → Prop} {x0 : Int} {x1 : Int} {x2 : Int} {σ : w_M}
    (h : (x0 < x1 → Q (some (.inl 0)) σ) ∧ (x1 ≤ x0 → ((x2 < x0 → Q (some (.inl 0)) σ) ∧ (x0 ≤ x2 → Q (some (.inl 1)) σ)))) : w_Call (xs, d) 107 [.inl x0, .inl x1, .inl x2] σ Q :=
  (w_mk (mid := 107) (by decide) rfl rfl rfl rfl rfl (Nat.le_of_ble_eq_true rfl) trivial (wi_iload0 fMoon_isWithin_0 (wi_iload1 fMoon_isWithin_1 (wi_ic_lt fMoon_isWithin_2 (fun c2 => (wi_bipush fMoon_isWithin_8 (wi_ret2 fMoon_isWithin_9 (by decide) (h.1 c2)))) (fun c2 => (wi_iload0 fMoon_isWithin_3 (wi_iload2 fMoon_isWithin_4 (wi_ic_gt fMoon_isWithin_5 (fun c1 => (wi_bipush fMoon_isWithin_8 (wi_ret2 fMoon_isWithin_9 (by decide) ((h.2 c2).1 c1)))) (fun c1 => (wi_bipush fMoon_isWithin_6 (wi_goto fMoon_isWithin_7 (wi_ret2 fMoon_isWithin_9 (by decide) ((h.2 c2).2 c1)))))))))))))
theorem fField_isStrip_0 : w_fe am_c33 0 1 (.iload 1) := ⟨rfl, rfl⟩
theorem fField_isStrip_1 : w_if am_c33 1 2 .lt 8 := ⟨rfl, rfl⟩
theorem fField_isStrip_2 : w_fe am_c33 2 3 (.iload 1) := ⟨rfl, rfl⟩
theorem fField_isStrip_3 : w_fe am_c33 3 4 (.aload 0) := ⟨rfl, rfl⟩
theorem fField_isStrip_4 : w_fe am_c33 4 5 (.getfield 204) := ⟨rfl, rfl⟩
theorem fField_isStrip_5 : w_ic am_c33 5 6 .ge 8 := ⟨rfl, rfl⟩
theorem fField_isStrip_6 : w_fe am_c33 6 7 (.bipush 1) := ⟨rfl, rfl⟩
theorem fField_isStrip_7 : w_gt am_c33 7 9 := rfl
theorem fField_isStrip_8 : w_fe am_c33 8 9 (.bipush 0) := ⟨rfl, rfl⟩
theorem fField_isStrip_9 : w_fe am_c33 9 10 (.ireturn) := ⟨rfl, rfl⟩
set_option maxRecDepth 20000 in
theorem bField_isStrip_0 {xs : List Int} {d : Nat} {Q : Option w_V → w_M → Prop} {a : Nat} {x1 : Int} {σ : w_M}
    (h : (x1 < 0 → Q (some (.inl 0)) σ) ∧ (0 ≤ x1 → (((σ a 4) ≤ x1 → Q (some (.inl 0)) σ) ∧ (x1 < (σ a 4) → Q (some (.inl 1)) σ)))) : w_Call (xs, d) 33 [.inr (.inr (2, a)), .inl x1] σ Q :=
  (w_mk (mid := 33) (by decide) rfl rfl rfl rfl rfl (Nat.le_of_ble_eq_true rfl) ⟨rfl, Or.inl (by decide)⟩ (wi_iload1 fField_isStrip_0 (wi_if_lt fField_isStrip_1 (fun c2 => (wi_bipush fField_isStrip_8 (wi_ret2 fField_isStrip_9 (by decide) (h.1 c2)))) (fun c2 => (wi_iload1 fField_isStrip_2 (wi_aload0 fField_isStrip_3 (wi_getf204 fField_isStrip_4 (wi_ic_ge fField_isStrip_5 (fun c1 => (wi_bipush fField_isStrip_8 (wi_ret2 fField_isStrip_9 (by decide) ((h.2 c2).1 c1)))) (fun c1 => (wi_bipush fField_isStrip_6 (wi_goto fField_isStrip_7 (wi_ret2 fField_isStrip_9 (by decide) ((h.2 c2).2 c1)))))))))))))
theorem fField_isReaper_0 : w_fe am_c38 0 1 (.iload 1) := ⟨rfl, rfl⟩
theorem fField_isReaper_1 : w_if am_c38 1 2 .lt 8 := ⟨rfl, rfl⟩
theorem fField_isReaper_2 : w_fe am_c38 2 3 (.iload 1) := ⟨rfl, rfl⟩
theorem fField_isReaper_3 : w_fe am_c38 3 4 (.aload 0) := ⟨rfl, rfl⟩
theorem fField_isReaper_4 : w_fe am_c38 4 5 (.getfield 205) := ⟨rfl, rfl⟩
theorem fField_isReaper_5 : w_ic am_c38 5 6 .ge 8 := ⟨rfl, rfl⟩
theorem fField_isReaper_6 : w_fe am_c38 6 7 (.bipush 1) := ⟨rfl, rfl⟩
theorem fField_isReaper_7 : w_gt am_c38 7 9 := rfl
theorem fField_isReaper_8 : w_fe am_c38 8 9 (.bipush 0) := ⟨rfl, rfl⟩
theorem fField_isReaper_9 : w_fe am_c38 9 10 (.ireturn) := ⟨rfl, rfl⟩
set_option maxRecDepth 20000 in
theorem bField_isReaper_0 {xs : List Int} {d : Nat} {Q : Option w_V → w_M → Prop} {a : Nat} {x1 : Int} {σ : w_M}
    (h : (x1 < 0 → Q (some (.inl 0)) σ) ∧ (0 ≤ x1 → (((σ a 5) ≤ x1 → Q (some (.inl 0)) σ) ∧ (x1 < (σ a 5) → Q (some (.inl 1)) σ)))) : w_Call (xs, d) 38 [.inr (.inr (2, a)), .inl x1] σ Q :=
  (w_mk (mid := 38) (by decide) rfl rfl rfl rfl rfl (Nat.le_of_ble_eq_true rfl) ⟨rfl, Or.inl (by decide)⟩ (wi_iload1 fField_isReaper_0 (wi_if_lt fField_isReaper_1 (fun c2 => (wi_bipush fField_isReaper_8 (wi_ret2 fField_isReaper_9 (by decide) (h.1 c2)))) (fun c2 => (wi_iload1 fField_isReaper_2 (wi_aload0 fField_isReaper_3 (wi_getf205 fField_isReaper_4 (wi_ic_ge fField_isReaper_5 (fun c1 => (wi_bipush fField_isReaper_8 (wi_ret2 fField_isReaper_9 (by decide) ((h.2 c2).1 c1)))) (fun c1 => (wi_bipush fField_isReaper_6 (wi_goto fField_isReaper_7 (wi_ret2 fField_isReaper_9 (by decide) ((h.2 c2).2 c1)))))))))))))
theorem fField_isCloudy_0 : w_fe am_c29 0 1 (.aload 0) := ⟨rfl, rfl⟩
theorem fField_isCloudy_1 : w_fe am_c29 1 2 (.getfield 202) := ⟨rfl, rfl⟩
theorem fField_isCloudy_2 : w_fe am_c29 2 3 (.iload 1) := ⟨rfl, rfl⟩
theorem fField_isCloudy_3 : w_fe am_c29 3 4 (.ishr) := ⟨rfl, rfl⟩
theorem fField_isCloudy_4 : w_fe am_c29 4 5 (.bipush 1) := ⟨rfl, rfl⟩
theorem fField_isCloudy_5 : w_fe am_c29 5 6 (.iand) := ⟨rfl, rfl⟩
theorem fField_isCloudy_6 : w_if am_c29 6 7 .eq 9 := ⟨rfl, rfl⟩
theorem fField_isCloudy_7 : w_fe am_c29 7 8 (.bipush 1) := ⟨rfl, rfl⟩
theorem fField_isCloudy_8 : w_gt am_c29 8 10 := rfl
theorem fField_isCloudy_9 : w_fe am_c29 9 10 (.bipush 0) := ⟨rfl, rfl⟩
theorem fField_isCloudy_10 : w_fe am_c29 10 11 (.ireturn) := ⟨rfl, rfl⟩
set_option maxRecDepth 20000 in
theorem bField_isCloudy_0 {xs : List Int} {d : Nat} {Q : Option w_V → w_M → Prop} {a : Nat} {x1 : Int} {σ : w_M}
    (h : ((w_and (w_shr (σ a 2) x1) 1) = 0 → Q (some (.inl 0)) σ) ∧ (¬ (w_and (w_shr (σ a 2) x1) 1) = 0 → Q (some (.inl 1)) σ)) : w_Call (xs, d) 29 [.inr (.inr (2, a)), .inl x1] σ Q :=
  (w_mk (mid := 29) (by decide) rfl rfl rfl rfl rfl (Nat.le_of_ble_eq_true rfl) ⟨rfl, Or.inl (by decide)⟩ (wi_aload0 fField_isCloudy_0 (wi_getf202 fField_isCloudy_1 (wi_iload1 fField_isCloudy_2 (wi_ishr fField_isCloudy_3 (wi_bipush fField_isCloudy_4 (wi_iand fField_isCloudy_5 (wi_if_eq fField_isCloudy_6 (fun c1 => (wi_bipush fField_isCloudy_9 (wi_ret2 fField_isCloudy_10 (by decide) (h.1 c1)))) (fun c1 => (wi_bipush fField_isCloudy_7 (wi_goto fField_isCloudy_8 (wi_ret2 fField_isCloudy_10 (by decide) (h.2 c1)))))))))))))
theorem fField_isThistly_0 : w_fe am_c30 0 1 (.aload 0) := ⟨rfl, rfl⟩
theorem fField_isThistly_1 : w_fe am_c30 1 2 (.getfield 206) := ⟨rfl, rfl⟩
theorem fField_isThistly_2 : w_fe am_c30 2 3 (.iload 1) := ⟨rfl, rfl⟩
theorem fField_isThistly_3 : w_fe am_c30 3 4 (.ishr) := ⟨rfl, rfl⟩
theorem fField_isThistly_4 : w_fe am_c30 4 5 (.bipush 1) := ⟨rfl, rfl⟩
theorem fField_isThistly_5 : w_fe am_c30 5 6 (.iand) := ⟨rfl, rfl⟩
theorem fField_isThistly_6 : w_if am_c30 6 7 .eq 9 := ⟨rfl, rfl⟩
theorem fField_isThistly_7 : w_fe am_c30 7 8 (.bipush 1) := ⟨rfl, rfl⟩
theorem fField_isThistly_8 : w_gt am_c30 8 10 := rfl
theorem fField_isThistly_9 : w_fe am_c30 9 10 (.bipush 0) := ⟨rfl, rfl⟩
theorem fField_isThistly_10 : w_fe am_c30 10 11 (.ireturn) := ⟨rfl, rfl⟩
set_option maxRecDepth 20000 in
theorem bField_isThistly_0 {xs : List Int} {d : Nat} {Q : Option w_V → w_M → Prop} {a : Nat} {x1 : Int} {σ : w_M}
    (h : ((w_and (w_shr (σ a 6) x1) 1) = 0 → Q (some (.inl 0)) σ) ∧ (¬ (w_and (w_shr (σ a 6) x1) 1) = 0 → Q (some (.inl 1)) σ)) : w_Call (xs, d) 30 [.inr (.inr (2, a)), .inl x1] σ Q :=
  (w_mk (mid := 30) (by decide) rfl rfl rfl rfl rfl (Nat.le_of_ble_eq_true rfl) ⟨rfl, Or.inl (by decide)⟩ (wi_aload0 fField_isThistly_0 (wi_getf206 fField_isThistly_1 (wi_iload1 fField_isThistly_2 (wi_ishr fField_isThistly_3 (wi_bipush fField_isThistly_4 (wi_iand fField_isThistly_5 (wi_if_eq fField_isThistly_6 (fun c1 => (wi_bipush fField_isThistly_9 (wi_ret2 fField_isThistly_10 (by decide) (h.1 c1)))) (fun c1 => (wi_bipush fField_isThistly_7 (wi_goto fField_isThistly_8 (wi_ret2 fField_isThistly_10 (by decide) (h.2 c1)))))))))))))
theorem fField_hoursLeft_0 : w_fe am_c39 0 1 (.aload 0) := ⟨rfl, rfl⟩
theorem fField_hoursLeft_1 : w_fe am_c39 1 2 (.getfield 200) := ⟨rfl, rfl⟩
theorem fField_hoursLeft_2 : w_fe am_c39 2 3 (.aload 0) := ⟨rfl, rfl⟩
theorem fField_hoursLeft_3 : w_fe am_c39 3 4 (.getfield 201) := ⟨rfl, rfl⟩
theorem fField_hoursLeft_4 : w_fe am_c39 4 5 (.isub) := ⟨rfl, rfl⟩
theorem fField_hoursLeft_5 : w_fe am_c39 5 6 (.ireturn) := ⟨rfl, rfl⟩
set_option maxRecDepth 20000 in
theorem bField_hoursLeft_0 {xs : List Int} {d : Nat} {Q : Option w_V → w_M → Prop} {a : Nat} {σ : w_M}
    (h : w_in ((σ a 0) - (σ a 1)) ∧ Q (some (.inl ((σ a 0) - (σ a 1)))) σ) : w_Call (xs, d) 39 [.inr (.inr (2, a))] σ Q :=
  (w_mk (mid := 39) (by decide) rfl rfl rfl rfl rfl (Nat.le_of_ble_eq_true rfl) ⟨rfl, Or.inl (by decide)⟩ (wi_aload0 fField_hoursLeft_0 (wi_getf200 fField_hoursLeft_1 (wi_aload0 fField_hoursLeft_2 (wi_getf201 fField_hoursLeft_3 (wi_isub fField_hoursLeft_4 h.1 (wi_ret1 fField_hoursLeft_5 h.2)))))))
theorem k_Moon_withBit {xs : List Int} {d : Nat} {Q : Option w_V → w_M → Prop} {x0 : Int} {x1 : Int} {x2 : Int} {σ : w_M} (hQ : Q (some (.inl (v_Moon_withBit x0 x1 x2))) σ) : w_Call (xs, d) 110 [.inl x0, .inl x1, .inl x2] σ Q := by
  unfold v_Moon_withBit at hQ
  refine bMoon_withBit_0 ⟨fun h => ?_, fun h => ?_⟩
  · rw [if_pos h] at hQ; exact hQ
  · rw [if_neg h] at hQ; exact hQ
theorem k_Moon_isWithin {xs : List Int} {d : Nat} {Q : Option w_V → w_M → Prop} {x0 : Int} {x1 : Int} {x2 : Int} {σ : w_M} (hQ : Q (some (.inl (w_bi (x1 ≤ x0 ∧ x0 ≤ x2)))) σ) : w_Call (xs, d) 107 [.inl x0, .inl x1, .inl x2] σ Q := by
  refine bMoon_isWithin_0 ⟨fun h => ?_, fun h => ⟨fun h2 => ?_, fun h2 => ?_⟩⟩
  · rw [w_bi_f (by omega)] at hQ; exact hQ
  · rw [w_bi_f (by omega)] at hQ; exact hQ
  · rw [w_bi_t (by omega)] at hQ; exact hQ
theorem k_Field_isStrip {xs : List Int} {d : Nat} {Q : Option w_V → w_M → Prop} {a : Nat} {x1 : Int} {σ : w_M} (hQ : Q (some (.inl (w_bi (0 ≤ x1 ∧ x1 < σ a 4)))) σ) : w_Call (xs, d) 33 [.inr (.inr (2, a)), .inl x1] σ Q := by
  refine bField_isStrip_0 ⟨fun h => ?_, fun h => ⟨fun h2 => ?_, fun h2 => ?_⟩⟩
  · rw [w_bi_f (by omega)] at hQ; exact hQ
  · rw [w_bi_f (by omega)] at hQ; exact hQ
  · rw [w_bi_t (by omega)] at hQ; exact hQ
theorem k_Field_isReaper {xs : List Int} {d : Nat} {Q : Option w_V → w_M → Prop} {a : Nat} {x1 : Int} {σ : w_M} (hQ : Q (some (.inl (w_bi (0 ≤ x1 ∧ x1 < σ a 5)))) σ) : w_Call (xs, d) 38 [.inr (.inr (2, a)), .inl x1] σ Q := by
  refine bField_isReaper_0 ⟨fun h => ?_, fun h => ⟨fun h2 => ?_, fun h2 => ?_⟩⟩
  · rw [w_bi_f (by omega)] at hQ; exact hQ
  · rw [w_bi_f (by omega)] at hQ; exact hQ
  · rw [w_bi_t (by omega)] at hQ; exact hQ
theorem k_Field_isCloudy {xs : List Int} {d : Nat} {Q : Option w_V → w_M → Prop} {a : Nat} {x1 : Int} {σ : w_M} (hQ : Q (some (.inl (w_bi (¬ w_and (w_shr (σ a 2) x1) 1 = 0)))) σ) : w_Call (xs, d) 29 [.inr (.inr (2, a)), .inl x1] σ Q := by
  refine bField_isCloudy_0 ⟨fun h => ?_, fun h => ?_⟩
  · rw [w_bi_f (fun q => q h)] at hQ; exact hQ
  · rw [w_bi_t h] at hQ; exact hQ
theorem k_Field_isThistly {xs : List Int} {d : Nat} {Q : Option w_V → w_M → Prop} {a : Nat} {x1 : Int} {σ : w_M} (hQ : Q (some (.inl (w_bi (¬ w_and (w_shr (σ a 6) x1) 1 = 0)))) σ) : w_Call (xs, d) 30 [.inr (.inr (2, a)), .inl x1] σ Q := by
  refine bField_isThistly_0 ⟨fun h => ?_, fun h => ?_⟩
  · rw [w_bi_f (fun q => q h)] at hQ; exact hQ
  · rw [w_bi_t h] at hQ; exact hQ
noncomputable def p_Field_hoursLeft (a : Nat) (σ : w_M) : Prop := w_in (σ a 0 - σ a 1)
theorem k_Field_hoursLeft {xs : List Int} {d : Nat} {Q : Option w_V → w_M → Prop} {a : Nat} {σ : w_M} (hp : p_Field_hoursLeft a σ) (hQ : Q (some (.inl (σ a 0 - σ a 1))) σ) : w_Call (xs, d) 39 [.inr (.inr (2, a))] σ Q := bField_hoursLeft_0 ⟨hp, hQ⟩
noncomputable def n_ok (σ : w_M) (a : Nat) : Prop := n_WF (w_ab σ a)
theorem n_ok.rd {σ : w_M} {a d : Nat} {i : Nat} (hd : d < 9) (hi : i < w_rl σ a d) : σ (a + d) i = w_ab σ a d i := w_rd hd hi
theorem n_ok.s {σ : w_M} {a : Nat} (h : n_ok σ a) : 0 ≤ σ a 4 ∧ σ a 4 ≤ 7 := n_WF.s h
theorem n_ok.n {σ : w_M} {a : Nat} (h : n_ok σ a) : 0 ≤ σ a 5 ∧ σ a 5 ≤ 4 := n_WF.n h
theorem n_ok.hrs {σ : w_M} {a : Nat} (h : n_ok σ a) : 1 ≤ σ a 0 ∧ σ a 0 ≤ 12 := n_WF.hrs h
theorem n_ok.hr {σ : w_M} {a : Nat} (h : n_ok σ a) : 0 ≤ σ a 1 ∧ σ a 1 ≤ σ a 0 := n_WF.hr h
noncomputable def p_Field_standing (a : Nat) (σ : w_M) : Prop := n_ok σ a
noncomputable def v_Field_standing (a : Nat) (σ : w_M) : Int := n_sd (w_ab σ a)
theorem fField_standing_0 : w_fe am_c35 0 1 (.bipush 0) := ⟨rfl, rfl⟩
theorem fField_standing_1 : w_fe am_c35 1 2 (.istore 1) := ⟨rfl, rfl⟩
theorem fField_standing_2 : w_fe am_c35 2 3 (.bipush 0) := ⟨rfl, rfl⟩
theorem fField_standing_3 : w_fe am_c35 3 4 (.istore 2) := ⟨rfl, rfl⟩
theorem fField_standing_4 : w_fe am_c35 4 5 (.iload 2) := ⟨rfl, rfl⟩
theorem fField_standing_5 : w_fe am_c35 5 6 (.aload 0) := ⟨rfl, rfl⟩
theorem fField_standing_6 : w_fe am_c35 6 7 (.getfield 204) := ⟨rfl, rfl⟩
theorem fField_standing_7 : w_ic am_c35 7 8 .ge 17 := ⟨rfl, rfl⟩
theorem fField_standing_8 : w_fe am_c35 8 9 (.iload 1) := ⟨rfl, rfl⟩
theorem fField_standing_9 : w_fe am_c35 9 10 (.aload 0) := ⟨rfl, rfl⟩
theorem fField_standing_10 : w_fe am_c35 10 11 (.getfield 207) := ⟨rfl, rfl⟩
theorem fField_standing_11 : w_fe am_c35 11 12 (.iload 2) := ⟨rfl, rfl⟩
theorem fField_standing_12 : w_fe am_c35 12 13 (.iaload) := ⟨rfl, rfl⟩
theorem fField_standing_13 : w_fe am_c35 13 14 (.iadd) := ⟨rfl, rfl⟩
theorem fField_standing_14 : w_fe am_c35 14 15 (.istore 1) := ⟨rfl, rfl⟩
theorem fField_standing_15 : w_fe am_c35 15 16 (.iinc 2 1) := ⟨rfl, rfl⟩
theorem fField_standing_16 : w_gt am_c35 16 4 := rfl
theorem fField_standing_17 : w_fe am_c35 17 18 (.iload 1) := ⟨rfl, rfl⟩
theorem fField_standing_18 : w_fe am_c35 18 19 (.ireturn) := ⟨rfl, rfl⟩
noncomputable def LField_standing_4 (xs : List Int) (d : Nat) (Q : Option w_V → w_M → Prop) (r0 : Nat) (v1 : Int) (v2 : Int) (σ : w_M) : Prop := w_Ex (xs, d) 1 am_c35 Q 4 [some (.inr (.inr (2, r0))), some (.inl v1), some (.inl v2)] [] σ
set_option maxRecDepth 20000 in
theorem bField_standing_0 {xs : List Int} {d : Nat} {Q : Option w_V → w_M → Prop} {a : Nat} {σ : w_M}
    (h : LField_standing_4 xs d Q a 0 0 σ) : w_Call (xs, d) 35 [.inr (.inr (2, a))] σ Q :=
  (w_mk (mid := 35) (by decide) rfl rfl rfl rfl rfl (Nat.le_of_ble_eq_true rfl) ⟨rfl, Or.inl (by decide)⟩ (wi_bipush fField_standing_0 (wi_istore1 fField_standing_1 trivial (wi_bipush fField_standing_2 (wi_istore2 fField_standing_3 trivial h)))))
set_option maxRecDepth 20000 in
theorem bField_standing_4 {xs : List Int} {d : Nat} {Q : Option w_V → w_M → Prop} {r0 : Nat} {v1 : Int} {v2 : Int} {σ : w_M}
    (h : ((σ r0 4) ≤ v2 → Q (some (.inl v1)) σ) ∧ (v2 < (σ r0 4) → (0 ≤ v2 ∧ v2 < 7 ∧ w_in (v1 + (σ (r0 + 1) v2.toNat)) ∧ (∀ (y1 : Int), y1 = (v1 + (σ (r0 + 1) v2.toNat)) → (w_in (v2 + 1) ∧ LField_standing_4 xs d Q r0 y1 (v2 + 1) σ))))) : LField_standing_4 xs d Q r0 v1 v2 σ :=
  (wi_iload2 fField_standing_4 (wi_aload0 fField_standing_5 (wi_getf204 fField_standing_6 (wi_ic_ge fField_standing_7 (fun c2 => (wi_iload1 fField_standing_17 (wi_ret1 fField_standing_18 (h.1 c2)))) (fun c2 => (wi_iload1 fField_standing_8 (wi_aload0 fField_standing_9 (wi_getf207 fField_standing_10 (wi_iload2 fField_standing_11 (wi_iald1007 fField_standing_12 (h.2 c2).1 (h.2 c2).2.1 (wi_iadd fField_standing_13 (h.2 c2).2.2.1 (wi_istore1 fField_standing_14 trivial (wi_iinc2 fField_standing_15 trivial ((h.2 c2).2.2.2 _ rfl).1 (wi_goto fField_standing_16 ((h.2 c2).2.2.2 _ rfl).2))))))))))))))
theorem k_Field_standing {xs : List Int} {d : Nat} {Q : Option w_V → w_M → Prop} {a : Nat} {σ : w_M} (hp : p_Field_standing a σ) (hQ : Q (some (.inl (v_Field_standing a σ))) σ) : w_Call (xs, d) 35 [.inr (.inr (2, a))] σ Q := by
  refine bField_standing_0 ?_
  have hs := n_ok.s hp
  refine w_loop (n := (σ a 4).toNat) (P := fun i => LField_standing_4 xs d Q a (f_sum (w_ab σ a 1) i) (i : Int) σ) ?_ ?_
  · exact bField_standing_4 ⟨fun _ => hQ, fun h => by omega⟩
  · intro i hi ih
    have hi2 : i < n_s (w_ab σ a) := hi
    have e : σ (a + 1) i = w_ab σ a 1 i := w_rd (by decide) hi
    have h1 := (n_WF.i hp hi2).1
    have h2 := f_sum_le (f := w_ab σ a 1) (B := 40) (fun i hi => (n_WF.i hp hi).1) (Nat.le_of_lt hi2)
    refine bField_standing_4 ⟨fun h => by omega, fun h => ⟨by omega, by omega, ?_, fun y e2 => ⟨⟨by omega, by omega⟩, ?_⟩⟩⟩
    · rw [Int.toNat_natCast, e]; exact ⟨by omega, by omega⟩
    · rw [e2, Int.toNat_natCast, e, ← w_cs1]; exact ih
noncomputable def n_tell (A : w_M) (r w : Int) : Int := if 0 ≤ r ∧ r < A 0 5 then (if 0 ≤ w ∧ w ≤ 4 then A (3 + w.toNat) r.toNat else -1) else -1
noncomputable def p_Field_tellOf (a : Nat) (_ _ : Int) (σ : w_M) : Prop := n_ok σ a
noncomputable def v_Field_tellOf (a : Nat) (x1 x2 : Int) (σ : w_M) : Int := n_tell (w_ab σ a) x1 x2
theorem fField_tellOf_0 : w_fe am_c37 0 1 (.aload 0) := ⟨rfl, rfl⟩
theorem fField_tellOf_1 : w_fe am_c37 1 2 (.iload 1) := ⟨rfl, rfl⟩
theorem fField_tellOf_2 : w_fe am_c37 2 3 (.invokestatic 38) := ⟨rfl, rfl⟩
theorem fField_tellOf_3 : w_if am_c37 3 4 .ne 6 := ⟨rfl, rfl⟩
theorem fField_tellOf_4 : w_fe am_c37 4 5 (.bipush (-1)) := ⟨rfl, rfl⟩
theorem fField_tellOf_5 : w_fe am_c37 5 6 (.ireturn) := ⟨rfl, rfl⟩
theorem fField_tellOf_6 : w_fe am_c37 6 7 (.iload 2) := ⟨rfl, rfl⟩
theorem fField_tellOf_7 {E : w_C} {rt : Nat} {Q : Option w_V → w_M → Prop} {ls : w_L} {st : List w_V} {σ : w_M} {x : Int} (h0 : x = 0 → w_Ex E rt am_c37 Q 8 ls st σ) (h1 : x = 1 → w_Ex E rt am_c37 Q 13 ls st σ) (h2 : x = 2 → w_Ex E rt am_c37 Q 18 ls st σ) (h3 : x = 3 → w_Ex E rt am_c37 Q 23 ls st σ) (h4 : x = 4 → w_Ex E rt am_c37 Q 28 ls st σ) (hd : x < 0 ∨ 4 < x → w_Ex E rt am_c37 Q 33 ls st σ) : w_Ex E rt am_c37 Q 7 ls (.inl x :: st) σ :=
  w_Ex_in (op := .tableswitch 33 0 4 #[8, 13, 18, 23, 28]) rfl ⟨rfl, hd, And.intro h0 (And.intro h1 (And.intro h2 (And.intro h3 (And.intro h4 ( trivial)))))⟩
theorem fField_tellOf_8 : w_fe am_c37 8 9 (.aload 0) := ⟨rfl, rfl⟩
theorem fField_tellOf_9 : w_fe am_c37 9 10 (.getfield 209) := ⟨rfl, rfl⟩
theorem fField_tellOf_10 : w_fe am_c37 10 11 (.iload 1) := ⟨rfl, rfl⟩
theorem fField_tellOf_11 : w_fe am_c37 11 12 (.iaload) := ⟨rfl, rfl⟩
theorem fField_tellOf_12 : w_fe am_c37 12 13 (.ireturn) := ⟨rfl, rfl⟩
theorem fField_tellOf_13 : w_fe am_c37 13 14 (.aload 0) := ⟨rfl, rfl⟩
theorem fField_tellOf_14 : w_fe am_c37 14 15 (.getfield 210) := ⟨rfl, rfl⟩
theorem fField_tellOf_15 : w_fe am_c37 15 16 (.iload 1) := ⟨rfl, rfl⟩
theorem fField_tellOf_16 : w_fe am_c37 16 17 (.iaload) := ⟨rfl, rfl⟩
theorem fField_tellOf_17 : w_fe am_c37 17 18 (.ireturn) := ⟨rfl, rfl⟩
theorem fField_tellOf_18 : w_fe am_c37 18 19 (.aload 0) := ⟨rfl, rfl⟩
theorem fField_tellOf_19 : w_fe am_c37 19 20 (.getfield 211) := ⟨rfl, rfl⟩
theorem fField_tellOf_20 : w_fe am_c37 20 21 (.iload 1) := ⟨rfl, rfl⟩
theorem fField_tellOf_21 : w_fe am_c37 21 22 (.iaload) := ⟨rfl, rfl⟩
theorem fField_tellOf_22 : w_fe am_c37 22 23 (.ireturn) := ⟨rfl, rfl⟩
theorem fField_tellOf_23 : w_fe am_c37 23 24 (.aload 0) := ⟨rfl, rfl⟩
theorem fField_tellOf_24 : w_fe am_c37 24 25 (.getfield 212) := ⟨rfl, rfl⟩
theorem fField_tellOf_25 : w_fe am_c37 25 26 (.iload 1) := ⟨rfl, rfl⟩
theorem fField_tellOf_26 : w_fe am_c37 26 27 (.iaload) := ⟨rfl, rfl⟩
theorem fField_tellOf_27 : w_fe am_c37 27 28 (.ireturn) := ⟨rfl, rfl⟩
theorem fField_tellOf_28 : w_fe am_c37 28 29 (.aload 0) := ⟨rfl, rfl⟩
theorem fField_tellOf_29 : w_fe am_c37 29 30 (.getfield 213) := ⟨rfl, rfl⟩
theorem fField_tellOf_30 : w_fe am_c37 30 31 (.iload 1) := ⟨rfl, rfl⟩
theorem fField_tellOf_31 : w_fe am_c37 31 32 (.iaload) := ⟨rfl, rfl⟩
theorem fField_tellOf_32 : w_fe am_c37 32 33 (.ireturn) := ⟨rfl, rfl⟩
theorem fField_tellOf_33 : w_fe am_c37 33 34 (.bipush (-1)) := ⟨rfl, rfl⟩
theorem fField_tellOf_34 : w_fe am_c37 34 35 (.ireturn) := ⟨rfl, rfl⟩
set_option maxRecDepth 20000 in
theorem bField_tellOf_0 {xs : List Int} {d : Nat} {Q : Option w_V → w_M → Prop} {a : Nat} {x1 : Int} {x2 : Int} {σ : w_M}
    (h : ((0 ≤ x1 ∧ x1 < σ a 5) → ((x2 = 0 → (0 ≤ x1 ∧ x1 < 4 ∧ Q (some (.inl (σ (a + 3) x1.toNat))) σ)) ∧ (x2 = 1 → (0 ≤ x1 ∧ x1 < 4 ∧ Q (some (.inl (σ (a + 4) x1.toNat))) σ)) ∧ (x2 = 2 → (0 ≤ x1 ∧ x1 < 4 ∧ Q (some (.inl (σ (a + 5) x1.toNat))) σ)) ∧ (x2 = 3 → (0 ≤ x1 ∧ x1 < 4 ∧ Q (some (.inl (σ (a + 6) x1.toNat))) σ)) ∧ (x2 = 4 → (0 ≤ x1 ∧ x1 < 4 ∧ Q (some (.inl (σ (a + 7) x1.toNat))) σ)) ∧ (x2 < 0 ∨ 4 < x2 → Q (some (.inl (-1))) σ))) ∧ (¬ (0 ≤ x1 ∧ x1 < σ a 5) → Q (some (.inl (-1))) σ)) : w_Call (xs, (d + 1)) 37 [.inr (.inr (2, a)), .inl x1, .inl x2] σ Q :=
  (w_mk (mid := 37) (by decide) rfl rfl rfl rfl rfl (Nat.le_of_ble_eq_true rfl) ⟨rfl, Or.inl (by decide)⟩ (wi_aload0 fField_tellOf_0 (wi_iload1 fField_tellOf_1 (wi_call2 fField_tellOf_2 (Nat.le_of_ble_eq_true rfl) (k_Field_isReaper (wi_ifb_ne fField_tellOf_3 (fun c1 => (wi_iload2 fField_tellOf_6 (fField_tellOf_7 (fun c => (wi_aload0 fField_tellOf_8 (wi_getf209 fField_tellOf_9 (wi_iload1 fField_tellOf_10 (wi_iald1004 fField_tellOf_11 ((h.1 c1).1 c).1 ((h.1 c1).1 c).2.1 (wi_ret1 fField_tellOf_12 ((h.1 c1).1 c).2.2)))))) (fun c => (wi_aload0 fField_tellOf_13 (wi_getf210 fField_tellOf_14 (wi_iload1 fField_tellOf_15 (wi_iald1004 fField_tellOf_16 ((h.1 c1).2.1 c).1 ((h.1 c1).2.1 c).2.1 (wi_ret1 fField_tellOf_17 ((h.1 c1).2.1 c).2.2)))))) (fun c => (wi_aload0 fField_tellOf_18 (wi_getf211 fField_tellOf_19 (wi_iload1 fField_tellOf_20 (wi_iald1004 fField_tellOf_21 ((h.1 c1).2.2.1 c).1 ((h.1 c1).2.2.1 c).2.1 (wi_ret1 fField_tellOf_22 ((h.1 c1).2.2.1 c).2.2)))))) (fun c => (wi_aload0 fField_tellOf_23 (wi_getf212 fField_tellOf_24 (wi_iload1 fField_tellOf_25 (wi_iald1004 fField_tellOf_26 ((h.1 c1).2.2.2.1 c).1 ((h.1 c1).2.2.2.1 c).2.1 (wi_ret1 fField_tellOf_27 ((h.1 c1).2.2.2.1 c).2.2)))))) (fun c => (wi_aload0 fField_tellOf_28 (wi_getf213 fField_tellOf_29 (wi_iload1 fField_tellOf_30 (wi_iald1004 fField_tellOf_31 ((h.1 c1).2.2.2.2.1 c).1 ((h.1 c1).2.2.2.2.1 c).2.1 (wi_ret1 fField_tellOf_32 ((h.1 c1).2.2.2.2.1 c).2.2)))))) (fun c => (wi_bipush fField_tellOf_33 (wi_ret1 fField_tellOf_34 ((h.1 c1).2.2.2.2.2 c))))))) (fun c1 => (wi_bipush fField_tellOf_4 (wi_ret1 fField_tellOf_5 (h.2 c1))))))))))
theorem k_Field_tellOf {xs : List Int} {d : Nat} {Q : Option w_V → w_M → Prop} {a : Nat} {x1 : Int} {x2 : Int} {σ : w_M} (hp : p_Field_tellOf a x1 x2 σ) (hQ : Q (some (.inl (v_Field_tellOf a x1 x2 σ))) σ) : w_Call (xs, d + 1) 37 [.inr (.inr (2, a)), .inl x1, .inl x2] σ Q := by
  have hn := n_ok.n hp
  unfold v_Field_tellOf n_tell at hQ
  have e5 : w_ab σ a 0 5 = σ a 5 := rfl
  rw [e5] at hQ
  have key : ∀ k : Nat, k ≤ 4 → x2 = k → (0 ≤ x1 ∧ x1 < σ a 5) → Q (some (.inl (σ (a + (3 + k)) x1.toNat))) σ := by
    intro k hk e h
    have h3 : x1.toNat < w_rl σ a (3 + k) := by
      unfold w_rl
      rw [if_neg (by omega), if_neg (by omega), if_pos (by omega)]
      omega
    rw [if_pos h, if_pos (by omega), e, Int.toNat_natCast, ← w_rd (by omega) h3] at hQ
    exact hQ
  refine bField_tellOf_0 ⟨fun h => ⟨fun e => ⟨h.1, by omega, key 0 (by decide) e h⟩, fun e => ⟨h.1, by omega, key 1 (by decide) e h⟩, fun e => ⟨h.1, by omega, key 2 (by decide) e h⟩, fun e => ⟨h.1, by omega, key 3 (by decide) e h⟩, fun e => ⟨h.1, by omega, key 4 (by decide) e h⟩, fun e => ?_⟩, fun h => ?_⟩
  · rw [if_pos h, if_neg (by omega)] at hQ; exact hQ
  · rw [if_neg h] at hQ; exact hQ
/-- a sum that may wrap around -/
noncomputable def f_ws (f : Nat → Int) : Nat → Int
  | 0 => 0
  | n + 1 => w_wr (f_ws f n + f n)
theorem w_wr_of {x : Int} (h : w_in x) : w_wr x = x := by
  unfold w_in at h
  unfold w_wr
  rw [Int.bmod_eq_of_le (by omega) (by omega)]
theorem f_ws_eq {f : Nat → Int} {m : Nat} {B : Int} (hB : 0 ≤ B ∧ B ≤ 1000) (hm : m ≤ 100) (h : ∀ i, i < m → 0 ≤ f i ∧ f i ≤ B) {n : Nat} (hn : n ≤ m) : f_ws f n = f_sum f n := by
  induction n with
  | zero => rfl
  | succ n ih =>
    simp only [f_ws, f_sum]
    rw [ih (by omega)]
    apply w_wr_of
    have h1 := f_sum_le h (show n ≤ m by omega)
    have h2 := h n (by omega)
    have h3 : B * n ≤ 1000 * 100 := Int.mul_le_mul hB.2 (by omega) (by omega) (by omega)
    constructor <;> omega
theorem f_ws_congr {f g : Nat → Int} {n : Nat} (h : ∀ i, i < n → f i = g i) : f_ws f n = f_ws g n := by
  induction n with
  | zero => rfl
  | succ n ih => simp only [f_ws]; rw [ih (fun i hi => h i (by omega)), h n (by omega)]
noncomputable def p_Field_sumOfReapers (a _b : Nat) (σ : w_M) : Prop := 0 ≤ σ a 5 ∧ σ a 5 ≤ 4
noncomputable def v_Field_sumOfReapers (a b : Nat) (σ : w_M) : Int := f_ws (σ b) (σ a 5).toNat
noncomputable def w_c49 : List Instr := [.bipush 0, .istore 2, .bipush 0, .istore 3, .iload 3, .aload 0, .getfield 205, .if_icmp .ge 20, .iload 3, .aload 1, .arraylength, .if_icmp .ge 20, .iload 2, .aload 1, .iload 3, .iaload, .fadd, .istore 2, .iinc 3 1, .goto 4, .iload 2, .ireturn]
theorem fField_sumOfReapers_0 : w_fe w_c49 0 1 (.bipush 0) := ⟨rfl, rfl⟩
theorem fField_sumOfReapers_1 : w_fe w_c49 1 2 (.istore 2) := ⟨rfl, rfl⟩
theorem fField_sumOfReapers_2 : w_fe w_c49 2 3 (.bipush 0) := ⟨rfl, rfl⟩
theorem fField_sumOfReapers_3 : w_fe w_c49 3 4 (.istore 3) := ⟨rfl, rfl⟩
theorem fField_sumOfReapers_4 : w_fe w_c49 4 5 (.iload 3) := ⟨rfl, rfl⟩
theorem fField_sumOfReapers_5 : w_fe w_c49 5 6 (.aload 0) := ⟨rfl, rfl⟩
theorem fField_sumOfReapers_6 : w_fe w_c49 6 7 (.getfield 205) := ⟨rfl, rfl⟩
theorem fField_sumOfReapers_7 : w_ic w_c49 7 8 .ge 20 := ⟨rfl, rfl⟩
theorem fField_sumOfReapers_8 : w_fe w_c49 8 9 (.iload 3) := ⟨rfl, rfl⟩
theorem fField_sumOfReapers_9 : w_fe w_c49 9 10 (.aload 1) := ⟨rfl, rfl⟩
theorem fField_sumOfReapers_10 : w_fe w_c49 10 11 (.arraylength) := ⟨rfl, rfl⟩
theorem fField_sumOfReapers_11 : w_ic w_c49 11 12 .ge 20 := ⟨rfl, rfl⟩
theorem fField_sumOfReapers_12 : w_fe w_c49 12 13 (.iload 2) := ⟨rfl, rfl⟩
theorem fField_sumOfReapers_13 : w_fe w_c49 13 14 (.aload 1) := ⟨rfl, rfl⟩
theorem fField_sumOfReapers_14 : w_fe w_c49 14 15 (.iload 3) := ⟨rfl, rfl⟩
theorem fField_sumOfReapers_15 : w_fe w_c49 15 16 (.iaload) := ⟨rfl, rfl⟩
theorem fField_sumOfReapers_16 : w_fe w_c49 16 17 (.fadd) := ⟨rfl, rfl⟩
theorem fField_sumOfReapers_17 : w_fe w_c49 17 18 (.istore 2) := ⟨rfl, rfl⟩
theorem fField_sumOfReapers_18 : w_fe w_c49 18 19 (.iinc 3 1) := ⟨rfl, rfl⟩
theorem fField_sumOfReapers_19 : w_gt w_c49 19 4 := rfl
theorem fField_sumOfReapers_20 : w_fe w_c49 20 21 (.iload 2) := ⟨rfl, rfl⟩
theorem fField_sumOfReapers_21 : w_fe w_c49 21 22 (.ireturn) := ⟨rfl, rfl⟩
noncomputable def LField_sumOfReapers_4 (xs : List Int) (d : Nat) (Q : Option w_V → w_M → Prop) (r0 : Nat) (r1 : Nat) (v2 : Int) (v3 : Int) (σ : w_M) : Prop := w_Ex (xs, d) 1 w_c49 Q 4 [some (.inr (.inr (2, r0))), some (.inr (.inr (1004, r1))), some (.inl v2), some (.inl v3)] [] σ
set_option maxRecDepth 20000 in
theorem bField_sumOfReapers_0 {xs : List Int} {d : Nat} {Q : Option w_V → w_M → Prop} {a : Nat} {b : Nat} {σ : w_M}
    (h : LField_sumOfReapers_4 xs d Q a b 0 0 σ) : w_Call (xs, d) 49 [.inr (.inr (2, a)), .inr (.inr (1004, b))] σ Q :=
  (w_mk (mid := 49) (by decide) rfl rfl rfl rfl rfl (Nat.le_of_ble_eq_true rfl) ⟨rfl, Or.inl (by decide)⟩ (wi_bipush fField_sumOfReapers_0 (wi_istore2 fField_sumOfReapers_1 trivial (wi_bipush fField_sumOfReapers_2 (wi_istore3 fField_sumOfReapers_3 trivial h)))))
set_option maxRecDepth 20000 in
theorem bField_sumOfReapers_4 {xs : List Int} {d : Nat} {Q : Option w_V → w_M → Prop} {r0 : Nat} {r1 : Nat} {v2 : Int} {v3 : Int} {σ : w_M}
    (h : ((σ r0 5) ≤ v3 → Q (some (.inl v2)) σ) ∧ (v3 < (σ r0 5) → ((4 ≤ v3 → Q (some (.inl v2)) σ) ∧ (v3 < 4 → (0 ≤ v3 ∧ (∀ (y1 : Int), y1 = (w_wr (v2 + (σ r1 v3.toNat))) → (w_in (v3 + 1) ∧ LField_sumOfReapers_4 xs d Q r0 r1 y1 (v3 + 1) σ))))))) : LField_sumOfReapers_4 xs d Q r0 r1 v2 v3 σ :=
  (wi_iload3 fField_sumOfReapers_4 (wi_aload0 fField_sumOfReapers_5 (wi_getf205 fField_sumOfReapers_6 (wi_ic_ge fField_sumOfReapers_7 (fun c3 => (wi_iload2 fField_sumOfReapers_20 (wi_ret1 fField_sumOfReapers_21 (h.1 c3)))) (fun c3 => (wi_iload3 fField_sumOfReapers_8 (wi_aload1 fField_sumOfReapers_9 (wi_alen1004 fField_sumOfReapers_10 (wi_ic_ge fField_sumOfReapers_11 (fun c2 => (wi_iload2 fField_sumOfReapers_20 (wi_ret1 fField_sumOfReapers_21 ((h.2 c3).1 c2)))) (fun c2 => (wi_iload2 fField_sumOfReapers_12 (wi_aload1 fField_sumOfReapers_13 (wi_iload3 fField_sumOfReapers_14 (wi_iald1004 fField_sumOfReapers_15 ((h.2 c3).2 c2).1 c2 (wi_fadd fField_sumOfReapers_16 (wi_istore2 fField_sumOfReapers_17 trivial (wi_iinc3 fField_sumOfReapers_18 trivial (((h.2 c3).2 c2).2 _ rfl).1 (wi_goto fField_sumOfReapers_19 (((h.2 c3).2 c2).2 _ rfl).2))))))))))))))))))
theorem k_Field_sumOfReapers {xs : List Int} {d : Nat} {Q : Option w_V → w_M → Prop} {a : Nat} {b : Nat} {σ : w_M} (hp : p_Field_sumOfReapers a b σ) (hQ : Q (some (.inl (v_Field_sumOfReapers a b σ))) σ) : w_Call (xs, d) 49 [.inr (.inr (2, a)), .inr (.inr (1004, b))] σ Q := by
  unfold p_Field_sumOfReapers at hp
  refine bField_sumOfReapers_0 ?_
  refine w_loop (n := (σ a 5).toNat) (P := fun i => LField_sumOfReapers_4 xs d Q a b (f_ws (σ b) i) (i : Int) σ) ?_ ?_
  · exact bField_sumOfReapers_4 ⟨fun _ => hQ, fun h => by omega⟩
  · intro i hi ih
    refine bField_sumOfReapers_4 ⟨fun h => by omega, fun h => ⟨fun h => by omega, fun h => ⟨by omega, fun y e => ⟨⟨by omega, by omega⟩, ?_⟩⟩⟩⟩
    rw [e, Int.toNat_natCast, ← w_cs1]
    exact ih
noncomputable def p_Field_allPaces (a : Nat) (σ : w_M) : Prop := n_ok σ a
noncomputable def p_Field_allOil (a : Nat) (σ : w_M) : Prop := n_ok σ a
noncomputable def p_Field_allWages (a : Nat) (σ : w_M) : Prop := n_ok σ a
noncomputable def n_pcs (A : w_M) : Int := f_sum (A 3) (n_n A)
noncomputable def n_oils (A : w_M) : Int := f_sum (A 4) (n_n A)
noncomputable def n_wgs (A : w_M) : Int := f_ws (A 7) (n_n A)
noncomputable def v_Field_allPaces (a : Nat) (σ : w_M) : Int := n_pcs (w_ab σ a)
noncomputable def v_Field_allOil (a : Nat) (σ : w_M) : Int := n_oils (w_ab σ a)
noncomputable def v_Field_allWages (a : Nat) (σ : w_M) : Int := n_wgs (w_ab σ a)
theorem fField_allPaces_0 : w_fe am_c48 0 1 (.aload 0) := ⟨rfl, rfl⟩
theorem fField_allPaces_1 : w_fe am_c48 1 2 (.aload 0) := ⟨rfl, rfl⟩
theorem fField_allPaces_2 : w_fe am_c48 2 3 (.getfield 209) := ⟨rfl, rfl⟩
theorem fField_allPaces_3 : w_fe am_c48 3 4 (.invokestatic 49) := ⟨rfl, rfl⟩
theorem fField_allPaces_4 : w_fe am_c48 4 5 (.ireturn) := ⟨rfl, rfl⟩
set_option maxRecDepth 20000 in
theorem bField_allPaces_0 {xs : List Int} {d : Nat} {Q : Option w_V → w_M → Prop} {a : Nat} {σ : w_M}
    (h : p_Field_sumOfReapers a (a + 3) σ ∧ (∀ (y1 : Int), y1 = v_Field_sumOfReapers a (a + 3) σ → Q (some (.inl y1)) σ)) : w_Call (xs, (d + 1)) 48 [.inr (.inr (2, a))] σ Q :=
  (w_mk (mid := 48) (by decide) rfl rfl rfl rfl rfl (Nat.le_of_ble_eq_true rfl) ⟨rfl, Or.inl (by decide)⟩ (wi_aload0 fField_allPaces_0 (wi_aload0 fField_allPaces_1 (wi_getf209 fField_allPaces_2 (wi_call2 fField_allPaces_3 (Nat.le_of_ble_eq_true rfl) (k_Field_sumOfReapers h.1 (wi_ret1 fField_allPaces_4 (h.2 _ rfl))))))))
theorem fField_allOil_0 : w_fe am_c50 0 1 (.aload 0) := ⟨rfl, rfl⟩
theorem fField_allOil_1 : w_fe am_c50 1 2 (.aload 0) := ⟨rfl, rfl⟩
theorem fField_allOil_2 : w_fe am_c50 2 3 (.getfield 210) := ⟨rfl, rfl⟩
theorem fField_allOil_3 : w_fe am_c50 3 4 (.invokestatic 49) := ⟨rfl, rfl⟩
theorem fField_allOil_4 : w_fe am_c50 4 5 (.ireturn) := ⟨rfl, rfl⟩
set_option maxRecDepth 20000 in
theorem bField_allOil_0 {xs : List Int} {d : Nat} {Q : Option w_V → w_M → Prop} {a : Nat} {σ : w_M}
    (h : p_Field_sumOfReapers a (a + 4) σ ∧ (∀ (y1 : Int), y1 = v_Field_sumOfReapers a (a + 4) σ → Q (some (.inl y1)) σ)) : w_Call (xs, (d + 1)) 50 [.inr (.inr (2, a))] σ Q :=
  (w_mk (mid := 50) (by decide) rfl rfl rfl rfl rfl (Nat.le_of_ble_eq_true rfl) ⟨rfl, Or.inl (by decide)⟩ (wi_aload0 fField_allOil_0 (wi_aload0 fField_allOil_1 (wi_getf210 fField_allOil_2 (wi_call2 fField_allOil_3 (Nat.le_of_ble_eq_true rfl) (k_Field_sumOfReapers h.1 (wi_ret1 fField_allOil_4 (h.2 _ rfl))))))))
theorem fField_allWages_0 : w_fe am_c52 0 1 (.aload 0) := ⟨rfl, rfl⟩
theorem fField_allWages_1 : w_fe am_c52 1 2 (.aload 0) := ⟨rfl, rfl⟩
theorem fField_allWages_2 : w_fe am_c52 2 3 (.getfield 213) := ⟨rfl, rfl⟩
theorem fField_allWages_3 : w_fe am_c52 3 4 (.invokestatic 49) := ⟨rfl, rfl⟩
theorem fField_allWages_4 : w_fe am_c52 4 5 (.ireturn) := ⟨rfl, rfl⟩
set_option maxRecDepth 20000 in
theorem bField_allWages_0 {xs : List Int} {d : Nat} {Q : Option w_V → w_M → Prop} {a : Nat} {σ : w_M}
    (h : p_Field_sumOfReapers a (a + 7) σ ∧ (∀ (y1 : Int), y1 = v_Field_sumOfReapers a (a + 7) σ → Q (some (.inl y1)) σ)) : w_Call (xs, (d + 1)) 52 [.inr (.inr (2, a))] σ Q :=
  (w_mk (mid := 52) (by decide) rfl rfl rfl rfl rfl (Nat.le_of_ble_eq_true rfl) ⟨rfl, Or.inl (by decide)⟩ (wi_aload0 fField_allWages_0 (wi_aload0 fField_allWages_1 (wi_getf213 fField_allWages_2 (wi_call2 fField_allWages_3 (Nat.le_of_ble_eq_true rfl) (k_Field_sumOfReapers h.1 (wi_ret1 fField_allWages_4 (h.2 _ rfl))))))))
theorem w_rl37 {σ : w_M} {a d : Nat} (h1 : 3 ≤ d) (h2 : d ≤ 7) : w_rl σ a d = (σ a 5).toNat := by
  unfold w_rl
  rw [if_neg (by omega), if_neg (by omega), if_pos (by omega)]
theorem k_Field_allPaces {xs : List Int} {d : Nat} {Q : Option w_V → w_M → Prop} {a : Nat} {σ : w_M} (hp : p_Field_allPaces a σ) (hQ : Q (some (.inl (v_Field_allPaces a σ))) σ) : w_Call (xs, d + 1) 48 [.inr (.inr (2, a))] σ Q := by
  have hn := n_ok.n hp
  refine bField_allPaces_0 ⟨hn, fun y e => ?_⟩
  have : y = n_pcs (w_ab σ a) := by
    rw [e]
    unfold v_Field_sumOfReapers n_pcs
    rw [f_ws_congr (g := w_ab σ a 3) (fun i hi => w_rd (by decide) (by rw [w_rl37 (by decide) (by decide)]; exact hi))]
    exact f_ws_eq (m := (σ a 5).toNat) (B := 9) (by decide) (by omega) (fun i hi => by have := (n_WF.r hp hi).1; omega) (Nat.le_refl _)
  rw [this]
  exact hQ
theorem k_Field_allOil {xs : List Int} {d : Nat} {Q : Option w_V → w_M → Prop} {a : Nat} {σ : w_M} (hp : p_Field_allOil a σ) (hQ : Q (some (.inl (v_Field_allOil a σ))) σ) : w_Call (xs, d + 1) 50 [.inr (.inr (2, a))] σ Q := by
  have hn := n_ok.n hp
  refine bField_allOil_0 ⟨hn, fun y e => ?_⟩
  have : y = n_oils (w_ab σ a) := by
    rw [e]
    unfold v_Field_sumOfReapers n_oils
    rw [f_ws_congr (g := w_ab σ a 4) (fun i hi => w_rd (by decide) (by rw [w_rl37 (by decide) (by decide)]; exact hi))]
    exact f_ws_eq (m := (σ a 5).toNat) (B := 9) (by decide) (by omega) (fun i hi => by have := (n_WF.r hp hi).2.1; omega) (Nat.le_refl _)
  rw [this]
  exact hQ
theorem k_Field_allWages {xs : List Int} {d : Nat} {Q : Option w_V → w_M → Prop} {a : Nat} {σ : w_M} (hp : p_Field_allWages a σ) (hQ : Q (some (.inl (v_Field_allWages a σ))) σ) : w_Call (xs, d + 1) 52 [.inr (.inr (2, a))] σ Q := by
  have hn := n_ok.n hp
  refine bField_allWages_0 ⟨hn, fun y e => ?_⟩
  have : y = n_wgs (w_ab σ a) := by
    rw [e]
    unfold v_Field_sumOfReapers n_wgs
    exact f_ws_congr (g := w_ab σ a 7) (fun i hi => w_rd (by decide) (by rw [w_rl37 (by decide) (by decide)]; exact hi))
  rw [this]
  exact hQ
end
section
/-! A night's hour: what stays, what falls -/
theorem w_Call_in {E : w_C} {c : Nat} {as : List w_V} {σ : w_M} {Q : Option w_V → w_M → Prop} (h : w_ms σ → w_Call E c as σ Q) : w_Call E c as σ Q := fun h1 h2 h3 => h h3 h1 h2 h3
theorem w_Call_vs {E : w_C} {c : Nat} {as : List w_V} {σ : w_M} {Q : Option w_V → w_M → Prop} (h : w_vs as → w_Call E c as σ Q) : w_Call E c as σ Q := fun h1 h2 h3 => h h2 h1 h2 h3
theorem w_wr_wr {x y z : Int} : w_wr (w_wr (x + y) + z) = w_wr (x + (y + z)) := by
  unfold w_wr
  rw [← Int.add_assoc]
  simp
theorem w_wr_0 {x : Int} (h : w_in x) : w_wr (x + 0) = x := by rw [Int.add_zero]; exact w_wr_of h
theorem n_WF_up {A : w_M} {d i : Nat} {x : Int} (h : n_WF A) (h0 : d = 0 → i = 3 ∨ (i = 1 ∧ 0 ≤ x ∧ x ≤ A 0 0) ∨ (i = 2 ∧ 0 ≤ x ∧ x ≤ 4095)) (h1 : d = 1 → 0 ≤ x ∧ x ≤ 40) (h2 : d = 2 → 0 ≤ x ∧ x ≤ 3) (h3 : d ≠ 3) (h4 : d = 4 → 0 ≤ x ∧ x ≤ 9) (h5 : d = 5 → 0 ≤ x ∧ x ≤ 3) (h6 : d = 6 → 0 ≤ x ∧ x < A 0 4) (h9 : d = 9 → x = 0 ∨ x = 1) : n_WF (w_up A d i x) := by
  have e4 : w_up A d i x 0 4 = A 0 4 := by rw [w_up_eq, if_neg (by omega)]
  have e5 : w_up A d i x 0 5 = A 0 5 := by rw [w_up_eq, if_neg (by omega)]
  have e0 : w_up A d i x 0 0 = A 0 0 := by rw [w_up_eq, if_neg (by omega)]
  have es : n_s (w_up A d i x) = n_s A := by unfold n_s; rw [e4]
  have en : n_n (w_up A d i x) = n_n A := by unfold n_n; rw [e5]
  refine ⟨by rw [e0]; exact h.hrs, ?_, ?_, by rw [e4]; exact h.s, by rw [e5]; exact h.n, ?_, ?_⟩
  · rw [e0, w_up_eq]
    have := h.hr
    split <;> omega
  · rw [w_up_eq]
    have := h.2.2.1
    split <;> omega
  · intro j hj
    rw [es] at hj
    have := h.i hj
    refine ⟨?_, ?_, ?_⟩
    · rw [w_up_eq]; split
      · rename_i q; exact h1 q.1.symm
      · exact this.1
    · rw [w_up_eq]; split
      · rename_i q; exact h2 q.1.symm
      · exact this.2.1
    · rw [w_up_eq]; split
      · rename_i q; exact h9 q.1.symm
      · exact this.2.2
  · intro j hj
    rw [en] at hj
    have := h.r hj
    refine ⟨?_, ?_, ?_, ?_⟩
    · rw [w_up_eq, if_neg (by omega)]; exact this.1
    · rw [w_up_eq]; split
      · rename_i q; exact h4 q.1.symm
      · exact this.2.1
    · rw [w_up_eq]; split
      · rename_i q; exact h5 q.1.symm
      · exact this.2.2.1
    · rw [e4, w_up_eq]; split
      · rename_i q; exact h6 q.1.symm
      · exact this.2.2.2
theorem n_pc_le {A : w_M} (h : n_WF A) {r i : Nat} (hr : r < n_n A) : 1 ≤ n_pc A r i ∧ n_pc A r i ≤ A 3 r := by
  have := (h.r hr).1
  unfold n_pc
  split
  · rw [Int.tdiv_eq_ediv_of_nonneg (by omega)]
    omega
  · omega
theorem n_amt_le {A : w_M} (h : n_WF A) {r i : Nat} (hr : r < n_n A) (hi : i < n_s A) : 0 ≤ n_amt A r i ∧ n_amt A r i ≤ A 1 i ∧ n_amt A r i ≤ A 3 r ∧ (0 < A 1 i → 1 ≤ n_amt A r i) := by
  have h1 := n_pc_le (i := i) h hr
  have h2 := (h.i hi).1
  unfold n_amt
  split <;> omega
theorem n_sd_up {A : w_M} {d i : Nat} {x : Int} (hd : d ≠ 1) (h0 : d = 0 → i ≠ 4) : n_sd (w_up A d i x) = n_sd A := by
  have e4 : w_up A d i x 0 4 = A 0 4 := by rw [w_up_eq, if_neg (by omega)]
  unfold n_sd n_s
  rw [e4, w_up_ne (by omega)]
theorem n_sd_up1 {A : w_M} {i : Nat} {x : Int} (hi : i < n_s A) : n_sd (w_up A 1 i x) = n_sd A + (x - A 1 i) := by
  have e4 : w_up A 1 i x 0 4 = A 0 4 := by rw [w_up_eq, if_neg (by omega)]
  unfold n_sd
  have es : n_s (w_up A 1 i x) = n_s A := by unfold n_s; rw [e4]
  rw [es, f_sum_up (f := A 1) hi (fun k _ hk => by rw [w_up_eq, if_neg (by omega)])]
  rw [w_up_at]
theorem n_cut_WF {A : w_M} (h : n_WF A) {r i : Nat} (hr : r < n_n A) (hi : i < n_s A) : n_WF (n_cut A r i) := by
  have h1 := n_amt_le h hr hi
  have h2 := (h.i hi).1
  unfold n_cut
  refine n_WF_up (n_WF_up (n_WF_up (n_WF_up h ?_ ?_ ?_ ?_ ?_ ?_ ?_ ?_) ?_ ?_ ?_ ?_ ?_ ?_ ?_ ?_) ?_ ?_ ?_ ?_ ?_ ?_ ?_ ?_) ?_ ?_ ?_ ?_ ?_ ?_ ?_ ?_
  all_goals (intros; omega)
theorem n_cut_sd {A : w_M} {r i : Nat} (hi : i < n_s A) : n_sd (n_cut A r i) = n_sd A - n_amt A r i := by
  unfold n_cut
  rw [n_sd_up (by decide) (by omega), n_sd_up (by decide) (by omega), n_sd_up (by decide) (by omega), n_sd_up1 hi]
  omega
/-- what no hour changes -/
noncomputable def n_same (A B : w_M) : Prop := (∀ j, j ≠ 1 → j ≠ 3 → B 0 j = A 0 j) ∧ B 2 = A 2 ∧ B 3 = A 3 ∧ B 9 = A 9
theorem n_same.rfl' {A : w_M} : n_same A A := ⟨fun _ _ _ => rfl, rfl, rfl, rfl⟩
theorem n_same.tr {A B C : w_M} (h : n_same A B) (h2 : n_same B C) : n_same A C := ⟨fun j a b => (h2.1 j a b).trans (h.1 j a b), h2.2.1.trans h.2.1, h2.2.2.1.trans h.2.2.1, h2.2.2.2.trans h.2.2.2⟩
theorem n_same.up {A B : w_M} {d i : Nat} {x : Int} (h : n_same A B) (h0 : d = 0 → i = 1 ∨ i = 3) (h2 : d ≠ 2) (h3 : d ≠ 3) (h9 : d ≠ 9) : n_same A (w_up B d i x) :=
  ⟨fun j a b => by rw [w_up_eq, if_neg (by omega)]; exact h.1 j a b, by rw [w_up_ne (by omega)]; exact h.2.1, by rw [w_up_ne (by omega)]; exact h.2.2.1, by rw [w_up_ne (by omega)]; exact h.2.2.2⟩
theorem n_same.s {A B : w_M} (h : n_same A B) : n_s B = n_s A := by unfold n_s; rw [h.1 4 (by decide) (by decide)]
theorem n_same.n {A B : w_M} (h : n_same A B) : n_n B = n_n A := by unfold n_n; rw [h.1 5 (by decide) (by decide)]
theorem n_work_all {A : w_M} (h : n_WF A) {r : Nat} (hr : r < n_n A) {c : Int} (hc : c = 0 ∨ c = 1) : n_WF (n_work A r c) ∧ n_same A (n_work A r c) ∧ (n_work A r c) 0 1 = A 0 1 ∧ n_sd (n_work A r c) ≤ n_sd A ∧ (0 ≤ n_lost A r c ∧ n_lost A r c ≤ 9) := by
  have hR := h.r hr
  have hs := h.s
  have hsn : n_s A ≤ 1000 := by unfold n_s; omega
  rcases n_near_cases (A := A) (f := A 6 r) (by omega) hsn with ⟨h1, h2⟩ | ⟨i, h1, h2, h3⟩
  · unfold n_work n_lost
    rw [if_pos h1, if_pos h1]
    exact ⟨h, n_same.rfl', rfl, Int.le_refl _, by omega, by omega⟩
  · have hne : ¬ n_near A (A 6 r) = -4 := by omega
    have hin : 0 ≤ n_near A (A 6 r) ∧ n_near A (A 6 r) < A 0 4 := by
      rw [h2]
      unfold n_s at h1
      omega
    have W6 : n_WF (w_up A 6 r (n_near A (A 6 r))) := by
      refine n_WF_up h ?_ ?_ ?_ ?_ ?_ ?_ ?_ ?_ <;> (intros; omega)
    unfold n_work n_lost
    rw [if_neg hne, if_neg hne]
    by_cases h5 : A 5 r = 0
    · rw [if_pos h5, if_pos h5]
      refine ⟨n_WF_up W6 ?_ ?_ ?_ ?_ ?_ ?_ ?_ ?_, (n_same.rfl'.up ?_ ?_ ?_ ?_).up ?_ ?_ ?_ ?_, ?_, ?_, by omega, by omega⟩
      all_goals first | (intros; omega) | skip
      · rw [w_up_eq, if_neg (by omega), w_up_eq, if_neg (by omega)]
      · rw [n_sd_up (by decide) (by omega), n_sd_up (by decide) (by omega)]
        exact Int.le_refl _
    · rw [if_neg h5, if_neg h5]
      by_cases ho : c = 0 ∨ 0 < A 4 r
      · rw [if_pos ho, if_pos ho]
        have en : (n_near A (A 6 r)).toNat = i := by rw [h2]; exact Int.toNat_natCast i
        rw [en]
        have W5 : n_WF (w_up (w_up A 6 r (n_near A (A 6 r))) 5 r (A 5 r - 1)) := by
          refine n_WF_up W6 ?_ ?_ ?_ ?_ ?_ ?_ ?_ ?_ <;> (intros; omega)
        have W4 : n_WF (w_up (w_up (w_up A 6 r (n_near A (A 6 r))) 5 r (A 5 r - 1)) 4 r (A 4 r - c)) := by
          refine n_WF_up W5 ?_ ?_ ?_ ?_ ?_ ?_ ?_ ?_ <;> (intros; omega)
        have S4 : n_same A (w_up (w_up (w_up A 6 r (n_near A (A 6 r))) 5 r (A 5 r - 1)) 4 r (A 4 r - c)) := by
          refine ((n_same.rfl'.up ?_ ?_ ?_ ?_).up ?_ ?_ ?_ ?_).up ?_ ?_ ?_ ?_ <;> (intros; omega)
        have y4 : n_sd (w_up (w_up (w_up A 6 r (n_near A (A 6 r))) 5 r (A 5 r - 1)) 4 r (A 4 r - c)) = n_sd A := by
          rw [n_sd_up (by decide) (by omega), n_sd_up (by decide) (by omega), n_sd_up (by decide) (by omega)]
        have z4 : (w_up (w_up (w_up A 6 r (n_near A (A 6 r))) 5 r (A 5 r - 1)) 4 r (A 4 r - c)) 0 1 = A 0 1 := by
          rw [w_up_eq, if_neg (by omega), w_up_eq, if_neg (by omega), w_up_eq, if_neg (by omega)]
        generalize w_up (w_up (w_up A 6 r (n_near A (A 6 r))) 5 r (A 5 r - 1)) 4 r (A 4 r - c) = B at W4 S4 y4 z4
        have hrB : r < n_n B := by rw [S4.n]; exact hr
        have hiB : i < n_s B := by rw [S4.s]; exact h1
        have am := n_amt_le W4 hrB hiB
        have am2 := n_amt_le h hr h1
        refine ⟨n_cut_WF W4 hrB hiB, ?_, ?_, ?_, by omega, by omega⟩
        · unfold n_cut
          refine (((S4.up ?_ ?_ ?_ ?_).up ?_ ?_ ?_ ?_).up ?_ ?_ ?_ ?_).up ?_ ?_ ?_ ?_ <;> (intros; omega)
        · unfold n_cut
          rw [w_up_eq, if_neg (by omega), w_up_eq, if_neg (by omega), w_up_eq, if_neg (by omega), w_up_eq, if_neg (by omega)]
          exact z4
        · rw [n_cut_sd hiB, y4]
          omega
      · rw [if_neg ho, if_neg ho]
        refine ⟨W6, n_same.rfl'.up ?_ ?_ ?_ ?_, ?_, ?_, by omega, by omega⟩
        all_goals first | (intros; omega) | skip
        · rw [w_up_eq, if_neg (by omega)]
        · rw [n_sd_up (by decide) (by omega)]
          exact Int.le_refl _
theorem n_hourF_all {A : w_M} (h : n_WF A) {c : Int} (hc : c = 0 ∨ c = 1) : ∀ k : Nat, k ≤ n_n A → n_WF (n_hourF A c k) ∧ n_same A (n_hourF A c k) ∧ (n_hourF A c k) 0 1 = A 0 1 ∧ n_sd (n_hourF A c k) ≤ n_sd A ∧ (0 ≤ n_lostF A c k ∧ n_lostF A c k ≤ 9 * k) := by
  intro k
  induction k with
  | zero => intro _; exact ⟨h, n_same.rfl', rfl, Int.le_refl _, by simp [n_lostF]⟩
  | succ k ih =>
    intro hk
    obtain ⟨h1, h2, h3, h4, h5⟩ := ih (by omega)
    obtain ⟨g1, g2, g3, g4, g5⟩ := n_work_all h1 (r := k) (by rw [h2.n]; omega) hc
    simp only [n_hourF, n_lostF]
    refine ⟨g1, h2.tr g2, g3.trans h3, by omega, by omega, by omega⟩
theorem n_hour_all {A : w_M} (h : n_WF A) (hh : A 0 1 < A 0 0) {c : Int} (hc : c = 0 ∨ c = 1) : n_WF (n_hour A c) ∧ n_same A (n_hour A c) ∧ (n_hour A c) 0 1 = A 0 1 + 1 ∧ n_sd (n_hour A c) ≤ n_sd A := by
  obtain ⟨h1, h2, h3, h4, h5⟩ := n_hourF_all h hc (n_n A) (Nat.le_refl _)
  have := h.hr
  unfold n_hour
  refine ⟨n_WF_up h1 ?_ ?_ ?_ ?_ ?_ ?_ ?_ ?_, h2.up ?_ ?_ ?_ ?_, w_up_at, ?_⟩
  all_goals first | (intros; omega) | skip
  · intro _
    have e0 := h2.1 0 (by decide) (by decide)
    right; left
    exact ⟨rfl, by omega, by omega⟩
  · rw [n_sd_up (by decide) (by omega)]
    exact h4
theorem n_cl01 (A : w_M) (t : Int) : n_cl A t = 0 ∨ n_cl A t = 1 := w_and1 _
theorem n_on_all {A : w_M} (h : n_WF A) (hh : A 0 1 < A 0 0) : n_WF (n_on A) ∧ n_same A (n_on A) ∧ (n_on A) 0 1 = A 0 1 + 1 ∧ n_sd (n_on A) ≤ n_sd A := n_hour_all h hh (n_cl01 _ _)
theorem n_goes_all {A : w_M} (h : n_WF A) : ∀ k : Nat, n_WF (n_goes A k) ∧ n_same A (n_goes A k) ∧ ((n_goes A k) 0 1 = if A 0 1 + k ≤ A 0 0 then A 0 1 + k else A 0 0) ∧ n_sd (n_goes A k) ≤ n_sd A := by
  intro k
  induction k with
  | zero =>
    have := h.hr
    refine ⟨h, n_same.rfl', ?_, Int.le_refl _⟩
    simp only [n_goes]
    split <;> omega
  | succ k ih =>
    obtain ⟨h1, h2, h3, h4⟩ := ih
    have e0 := h2.1 0 (by decide) (by decide)
    have := h.hr
    simp only [n_goes]
    split
    · rename_i hlt
      obtain ⟨g1, g2, g3, g4⟩ := n_on_all h1 hlt
      refine ⟨g1, h2.tr g2, ?_, by omega⟩
      rw [g3, h3]
      rw [h3, e0] at hlt
      split at hlt
      · rename_i q
        rw [if_pos q, if_pos (by omega)]
        omega
      · omega
    · rename_i hlt
      refine ⟨h1, h2, ?_, h4⟩
      rw [h3]
      rw [h3, e0] at hlt
      split at hlt
      · rename_i q
        rw [if_pos q]
        split <;> omega
      · rename_i q
        rw [if_neg q, if_neg (by omega)]
/-- beyond the night's end nothing more happens -/
theorem n_goes_end {A : w_M} {k : Nat} (h : ¬ (n_goes A k) 0 1 < (n_goes A k) 0 0) : ∀ j : Nat, n_goes A (k + j) = n_goes A k := by
  intro j
  induction j with
  | zero => rfl
  | succ j ih =>
    show (if (n_goes A (k + j)) 0 1 < (n_goes A (k + j)) 0 0 then n_on (n_goes A (k + j)) else n_goes A (k + j)) = n_goes A k
    rw [ih, if_neg h]
/-- with nothing standing nobody does anything -/
theorem n_work_done {A : w_M} (h : n_WF A) (hd : n_sd A = 0) {r : Nat} (hr : r < n_n A) {c : Int} : n_work A r c = A ∧ n_lost A r c = 0 := by
  have hR := h.r hr
  have hs := h.s
  have hsn : n_s A ≤ 1000 := by unfold n_s; omega
  have h0 : ∀ j, j < n_s A → ¬ 0 < A 1 j := fun j hj hy => by
    have := f_sum_ge (f := A 1) (fun i hi => ((h.i hi).1).1) hj
    unfold n_sd at hd
    omega
  have h1 := n_near_none (A := A) (f := A 6 r) (by omega) hsn h0
  unfold n_work n_lost
  rw [if_pos h1, if_pos h1]
  exact ⟨rfl, rfl⟩
theorem n_hour_done {A : w_M} (h : n_WF A) (hd : n_sd A = 0) {c : Int} : n_hour A c = w_up A 0 1 (A 0 1 + 1) := by
  have key : ∀ k : Nat, k ≤ n_n A → n_hourF A c k = A := by
    intro k
    induction k with
    | zero => intro _; rfl
    | succ k ih =>
      intro hk
      simp only [n_hourF]
      rw [ih (by omega)]
      exact (n_work_done h hd (by omega)).1
  unfold n_hour
  rw [key _ (Nat.le_refl _)]
end
section
/-! A Field's methods: counting, the nearest strip, work -/
theorem w_rl12 {σ : w_M} {a d : Nat} (h1 : 1 ≤ d) (h2 : d ≤ 2) : w_rl σ a d = (σ a 4).toNat := by
  unfold w_rl
  rw [if_neg (by omega), if_pos (by omega)]
noncomputable def n_swy (A : w_M) : Int := f_sum (fun i => if 0 < A 1 i then 1 else 0) (n_s A)
noncomputable def p_Field_stripsWithYards (a : Nat) (σ : w_M) : Prop := n_ok σ a
noncomputable def v_Field_stripsWithYards (a : Nat) (σ : w_M) : Int := n_swy (w_ab σ a)
theorem fField_stripsWithYards_0 : w_fe am_c51 0 1 (.bipush 0) := ⟨rfl, rfl⟩
theorem fField_stripsWithYards_1 : w_fe am_c51 1 2 (.istore 1) := ⟨rfl, rfl⟩
theorem fField_stripsWithYards_2 : w_fe am_c51 2 3 (.bipush 0) := ⟨rfl, rfl⟩
theorem fField_stripsWithYards_3 : w_fe am_c51 3 4 (.istore 2) := ⟨rfl, rfl⟩
theorem fField_stripsWithYards_4 : w_fe am_c51 4 5 (.iload 2) := ⟨rfl, rfl⟩
theorem fField_stripsWithYards_5 : w_fe am_c51 5 6 (.aload 0) := ⟨rfl, rfl⟩
theorem fField_stripsWithYards_6 : w_fe am_c51 6 7 (.getfield 204) := ⟨rfl, rfl⟩
theorem fField_stripsWithYards_7 : w_ic am_c51 7 8 .ge 16 := ⟨rfl, rfl⟩
theorem fField_stripsWithYards_8 : w_fe am_c51 8 9 (.aload 0) := ⟨rfl, rfl⟩
theorem fField_stripsWithYards_9 : w_fe am_c51 9 10 (.getfield 207) := ⟨rfl, rfl⟩
theorem fField_stripsWithYards_10 : w_fe am_c51 10 11 (.iload 2) := ⟨rfl, rfl⟩
theorem fField_stripsWithYards_11 : w_fe am_c51 11 12 (.iaload) := ⟨rfl, rfl⟩
theorem fField_stripsWithYards_12 : w_if am_c51 12 13 .le 14 := ⟨rfl, rfl⟩
theorem fField_stripsWithYards_13 : w_fe am_c51 13 14 (.iinc 1 1) := ⟨rfl, rfl⟩
theorem fField_stripsWithYards_14 : w_fe am_c51 14 15 (.iinc 2 1) := ⟨rfl, rfl⟩
theorem fField_stripsWithYards_15 : w_gt am_c51 15 4 := rfl
theorem fField_stripsWithYards_16 : w_fe am_c51 16 17 (.iload 1) := ⟨rfl, rfl⟩
theorem fField_stripsWithYards_17 : w_fe am_c51 17 18 (.ireturn) := ⟨rfl, rfl⟩
noncomputable def LField_stripsWithYards_4 (xs : List Int) (d : Nat) (Q : Option w_V → w_M → Prop) (r0 : Nat) (v1 : Int) (v2 : Int) (σ : w_M) : Prop := w_Ex (xs, d) 1 am_c51 Q 4 [some (.inr (.inr (2, r0))), some (.inl v1), some (.inl v2)] [] σ
set_option maxRecDepth 20000 in
theorem bField_stripsWithYards_0 {xs : List Int} {d : Nat} {Q : Option w_V → w_M → Prop} {a : Nat} {σ : w_M}
    (h : LField_stripsWithYards_4 xs d Q a 0 0 σ) : w_Call (xs, d) 51 [.inr (.inr (2, a))] σ Q :=
  (w_mk (mid := 51) (by decide) rfl rfl rfl rfl rfl (Nat.le_of_ble_eq_true rfl) ⟨rfl, Or.inl (by decide)⟩ (wi_bipush fField_stripsWithYards_0 (wi_istore1 fField_stripsWithYards_1 trivial (wi_bipush fField_stripsWithYards_2 (wi_istore2 fField_stripsWithYards_3 trivial h)))))
set_option maxRecDepth 20000 in
theorem bField_stripsWithYards_4 {xs : List Int} {d : Nat} {Q : Option w_V → w_M → Prop} {r0 : Nat} {v1 : Int} {v2 : Int} {σ : w_M}
    (h : ((σ r0 4) ≤ v2 → Q (some (.inl v1)) σ) ∧ (v2 < (σ r0 4) → (0 ≤ v2 ∧ v2 < 7 ∧ (((σ (r0 + 1) v2.toNat) ≤ 0 → (w_in (v2 + 1) ∧ LField_stripsWithYards_4 xs d Q r0 v1 (v2 + 1) σ)) ∧ (0 < (σ (r0 + 1) v2.toNat) → (w_in (v1 + 1) ∧ w_in (v2 + 1) ∧ LField_stripsWithYards_4 xs d Q r0 (v1 + 1) (v2 + 1) σ)))))) : LField_stripsWithYards_4 xs d Q r0 v1 v2 σ :=
  (wi_iload2 fField_stripsWithYards_4 (wi_aload0 fField_stripsWithYards_5 (wi_getf204 fField_stripsWithYards_6 (wi_ic_ge fField_stripsWithYards_7 (fun c2 => (wi_iload1 fField_stripsWithYards_16 (wi_ret1 fField_stripsWithYards_17 (h.1 c2)))) (fun c2 => (wi_aload0 fField_stripsWithYards_8 (wi_getf207 fField_stripsWithYards_9 (wi_iload2 fField_stripsWithYards_10 (wi_iald1007 fField_stripsWithYards_11 (h.2 c2).1 (h.2 c2).2.1 (wi_if_le fField_stripsWithYards_12 (fun c1 => (wi_iinc2 fField_stripsWithYards_14 trivial ((h.2 c2).2.2.1 c1).1 (wi_goto fField_stripsWithYards_15 ((h.2 c2).2.2.1 c1).2))) (fun c1 => (wi_iinc1 fField_stripsWithYards_13 trivial ((h.2 c2).2.2.2 c1).1 (wi_iinc2 fField_stripsWithYards_14 trivial ((h.2 c2).2.2.2 c1).2.1 (wi_goto fField_stripsWithYards_15 ((h.2 c2).2.2.2 c1).2.2))))))))))))))
theorem k_Field_stripsWithYards {xs : List Int} {d : Nat} {Q : Option w_V → w_M → Prop} {a : Nat} {σ : w_M} (hp : p_Field_stripsWithYards a σ) (hQ : Q (some (.inl (v_Field_stripsWithYards a σ))) σ) : w_Call (xs, d) 51 [.inr (.inr (2, a))] σ Q := by
  have hs := n_ok.s hp
  refine bField_stripsWithYards_0 ?_
  refine w_loop (n := (σ a 4).toNat) (P := fun i => LField_stripsWithYards_4 xs d Q a (f_sum (fun i => if 0 < w_ab σ a 1 i then 1 else 0) i) (i : Int) σ) ?_ ?_
  · exact bField_stripsWithYards_4 ⟨fun _ => hQ, fun h => by omega⟩
  · intro i hi ih
    have e : σ (a + 1) i = w_ab σ a 1 i := w_rd (by decide) hi
    have h2 := f_sum_le (f := fun i => if 0 < w_ab σ a 1 i then 1 else 0) (B := 1) (m := i) (fun i hi => by split <;> omega) (Nat.le_refl _)
    simp only [f_sum] at ih
    refine bField_stripsWithYards_4 ⟨fun h => by omega, fun h => ⟨by omega, by omega, fun c => ?_, fun c => ?_⟩⟩
    · rw [Int.toNat_natCast, e] at c
      rw [if_neg (by omega), Int.add_zero, w_cs1] at ih
      exact ⟨⟨by omega, by omega⟩, ih⟩
    · rw [Int.toNat_natCast, e] at c
      rw [if_pos c, w_cs1] at ih
      exact ⟨⟨by omega, by omega⟩, ⟨by omega, by omega⟩, ih⟩
noncomputable def n_cloudy (A : w_M) : Int := f_sum (fun k => n_cl A (A 0 1 + k)) (A 0 0 - A 0 1).toNat
noncomputable def p_Field_cloudyHoursLeft (a : Nat) (σ : w_M) : Prop := n_ok σ a
noncomputable def v_Field_cloudyHoursLeft (a : Nat) (σ : w_M) : Int := n_cloudy (w_ab σ a)
theorem fField_cloudyHoursLeft_0 : w_fe am_c47 0 1 (.bipush 0) := ⟨rfl, rfl⟩
theorem fField_cloudyHoursLeft_1 : w_fe am_c47 1 2 (.istore 1) := ⟨rfl, rfl⟩
theorem fField_cloudyHoursLeft_2 : w_fe am_c47 2 3 (.aload 0) := ⟨rfl, rfl⟩
theorem fField_cloudyHoursLeft_3 : w_fe am_c47 3 4 (.getfield 201) := ⟨rfl, rfl⟩
theorem fField_cloudyHoursLeft_4 : w_fe am_c47 4 5 (.istore 2) := ⟨rfl, rfl⟩
theorem fField_cloudyHoursLeft_5 : w_fe am_c47 5 6 (.iload 2) := ⟨rfl, rfl⟩
theorem fField_cloudyHoursLeft_6 : w_fe am_c47 6 7 (.aload 0) := ⟨rfl, rfl⟩
theorem fField_cloudyHoursLeft_7 : w_fe am_c47 7 8 (.getfield 200) := ⟨rfl, rfl⟩
theorem fField_cloudyHoursLeft_8 : w_ic am_c47 8 9 .ge 16 := ⟨rfl, rfl⟩
theorem fField_cloudyHoursLeft_9 : w_fe am_c47 9 10 (.aload 0) := ⟨rfl, rfl⟩
theorem fField_cloudyHoursLeft_10 : w_fe am_c47 10 11 (.iload 2) := ⟨rfl, rfl⟩
theorem fField_cloudyHoursLeft_11 : w_fe am_c47 11 12 (.invokestatic 29) := ⟨rfl, rfl⟩
theorem fField_cloudyHoursLeft_12 : w_if am_c47 12 13 .eq 14 := ⟨rfl, rfl⟩
theorem fField_cloudyHoursLeft_13 : w_fe am_c47 13 14 (.iinc 1 1) := ⟨rfl, rfl⟩
theorem fField_cloudyHoursLeft_14 : w_fe am_c47 14 15 (.iinc 2 1) := ⟨rfl, rfl⟩
theorem fField_cloudyHoursLeft_15 : w_gt am_c47 15 5 := rfl
theorem fField_cloudyHoursLeft_16 : w_fe am_c47 16 17 (.iload 1) := ⟨rfl, rfl⟩
theorem fField_cloudyHoursLeft_17 : w_fe am_c47 17 18 (.ireturn) := ⟨rfl, rfl⟩
noncomputable def LField_cloudyHoursLeft_5 (xs : List Int) (d : Nat) (Q : Option w_V → w_M → Prop) (r0 : Nat) (v1 : Int) (v2 : Int) (σ : w_M) : Prop := w_Ex (xs, d) 1 am_c47 Q 5 [some (.inr (.inr (2, r0))), some (.inl v1), some (.inl v2)] [] σ
set_option maxRecDepth 20000 in
theorem bField_cloudyHoursLeft_0 {xs : List Int} {d : Nat} {Q : Option w_V → w_M → Prop} {a : Nat} {σ : w_M}
    (h : ∀ (y1 : Int), y1 = (σ a 1) → LField_cloudyHoursLeft_5 xs (d + 1) Q a 0 y1 σ) : w_Call (xs, (d + 1)) 47 [.inr (.inr (2, a))] σ Q :=
  (w_mk (mid := 47) (by decide) rfl rfl rfl rfl rfl (Nat.le_of_ble_eq_true rfl) ⟨rfl, Or.inl (by decide)⟩ (wi_bipush fField_cloudyHoursLeft_0 (wi_istore1 fField_cloudyHoursLeft_1 trivial (wi_aload0 fField_cloudyHoursLeft_2 (wi_getf201 fField_cloudyHoursLeft_3 (wi_istore2 fField_cloudyHoursLeft_4 trivial (h _ rfl)))))))
set_option maxRecDepth 20000 in
theorem bField_cloudyHoursLeft_5 {xs : List Int} {d : Nat} {Q : Option w_V → w_M → Prop} {r0 : Nat} {v1 : Int} {v2 : Int} {σ : w_M}
    (h : ((σ r0 0) ≤ v2 → Q (some (.inl v1)) σ) ∧ (v2 < (σ r0 0) → ((¬ (¬ w_and (w_shr (σ r0 2) v2) 1 = 0) → (w_in (v2 + 1) ∧ LField_cloudyHoursLeft_5 xs (d + 1) Q r0 v1 (v2 + 1) σ)) ∧ ((¬ w_and (w_shr (σ r0 2) v2) 1 = 0) → (w_in (v1 + 1) ∧ w_in (v2 + 1) ∧ LField_cloudyHoursLeft_5 xs (d + 1) Q r0 (v1 + 1) (v2 + 1) σ))))) : LField_cloudyHoursLeft_5 xs (d + 1) Q r0 v1 v2 σ :=
  (wi_iload2 fField_cloudyHoursLeft_5 (wi_aload0 fField_cloudyHoursLeft_6 (wi_getf200 fField_cloudyHoursLeft_7 (wi_ic_ge fField_cloudyHoursLeft_8 (fun c2 => (wi_iload1 fField_cloudyHoursLeft_16 (wi_ret1 fField_cloudyHoursLeft_17 (h.1 c2)))) (fun c2 => (wi_aload0 fField_cloudyHoursLeft_9 (wi_iload2 fField_cloudyHoursLeft_10 (wi_call2 fField_cloudyHoursLeft_11 (Nat.le_of_ble_eq_true rfl) (k_Field_isCloudy (wi_ifb_eq fField_cloudyHoursLeft_12 (fun c1 => (wi_iinc2 fField_cloudyHoursLeft_14 trivial ((h.2 c2).1 c1).1 (wi_goto fField_cloudyHoursLeft_15 ((h.2 c2).1 c1).2))) (fun c1 => (wi_iinc1 fField_cloudyHoursLeft_13 trivial ((h.2 c2).2 c1).1 (wi_iinc2 fField_cloudyHoursLeft_14 trivial ((h.2 c2).2 c1).2.1 (wi_goto fField_cloudyHoursLeft_15 ((h.2 c2).2 c1).2.2))))))))))))))
theorem k_Field_cloudyHoursLeft {xs : List Int} {d : Nat} {Q : Option w_V → w_M → Prop} {a : Nat} {σ : w_M} (hp : p_Field_cloudyHoursLeft a σ) (hQ : Q (some (.inl (v_Field_cloudyHoursLeft a σ))) σ) : w_Call (xs, d + 1) 47 [.inr (.inr (2, a))] σ Q := by
  have h1 := n_ok.hrs hp
  have h2 := n_ok.hr hp
  refine bField_cloudyHoursLeft_0 (fun y1 e1 => ?_)
  have key : LField_cloudyHoursLeft_5 xs (d + 1) Q a (f_sum (fun k => n_cl (w_ab σ a) (σ a 1 + k)) 0) (σ a 1 + ((0 : Nat) : Int)) σ := by
    refine w_loop (n := (σ a 0 - σ a 1).toNat) (P := fun i => LField_cloudyHoursLeft_5 xs (d + 1) Q a (f_sum (fun k => n_cl (w_ab σ a) (σ a 1 + k)) i) (σ a 1 + (i : Int)) σ) ?_ ?_
    · exact bField_cloudyHoursLeft_5 ⟨fun _ => hQ, fun h => by omega⟩
    · intro i hi ih
      have h3 := f_sum_le (f := fun k => n_cl (w_ab σ a) (σ a 1 + k)) (B := 1) (m := i) (fun i hi => by rcases n_cl01 (w_ab σ a) (σ a 1 + (i : Int)) with h | h <;> omega) (Nat.le_refl _)
      simp only [f_sum] at ih
      rw [w_cs1, ← Int.add_assoc] at ih
      have ec : n_cl (w_ab σ a) (σ a 1 + (i : Int)) = w_and (w_shr (σ a 2) (σ a 1 + (i : Int))) 1 := rfl
      have e01 := n_cl01 (w_ab σ a) (σ a 1 + (i : Int))
      refine bField_cloudyHoursLeft_5 ⟨fun h => by omega, fun h => ⟨fun c => ⟨⟨by omega, by omega⟩, ?_⟩, fun c => ⟨⟨by omega, by omega⟩, ⟨by omega, by omega⟩, ?_⟩⟩⟩
      · rw [show n_cl (w_ab σ a) (σ a 1 + (i : Int)) = 0 from Classical.not_not.mp c, Int.add_zero] at ih
        exact ih
      · rw [show n_cl (w_ab σ a) (σ a 1 + (i : Int)) = 1 from e01.resolve_left c] at ih
        exact ih
  rw [show σ a 1 + ((0 : Nat) : Int) = σ a 1 from Int.add_zero _] at key
  rw [e1]
  exact key
theorem w_bit_set : ∀ k, k < 7 → ∀ x, x < 2 ^ k → v_Moon_withBit (x : Nat) (k : Nat) 1 = ((x + 2 ^ k : Nat) : Int) ∧ v_Moon_withBit (x : Nat) (k : Nat) 0 = ((x : Nat) : Int) := by decide +kernel
/-- who is at a strip, as bits -/
noncomputable def n_rat (A : w_M) (i : Int) : Nat → Nat
  | 0 => 0
  | k + 1 => n_rat A i k + (if A 6 k = i then 2 ^ k else 0)
theorem n_rat_lt (A : w_M) (i : Int) : ∀ k, n_rat A i k < 2 ^ k := by
  intro k
  induction k with
  | zero => simp [n_rat]
  | succ k ih =>
    simp only [n_rat, Nat.pow_succ]
    split <;> omega
noncomputable def p_Field_reapersAt (a : Nat) (_ : Int) (σ : w_M) : Prop := n_ok σ a
noncomputable def v_Field_reapersAt (a : Nat) (x : Int) (σ : w_M) : Int := (n_rat (w_ab σ a) x (n_n (w_ab σ a)) : Nat)
theorem fField_reapersAt_0 : w_fe am_c36 0 1 (.bipush 0) := ⟨rfl, rfl⟩
theorem fField_reapersAt_1 : w_fe am_c36 1 2 (.istore 2) := ⟨rfl, rfl⟩
theorem fField_reapersAt_2 : w_fe am_c36 2 3 (.bipush 0) := ⟨rfl, rfl⟩
theorem fField_reapersAt_3 : w_fe am_c36 3 4 (.istore 3) := ⟨rfl, rfl⟩
theorem fField_reapersAt_4 : w_fe am_c36 4 5 (.iload 3) := ⟨rfl, rfl⟩
theorem fField_reapersAt_5 : w_fe am_c36 5 6 (.aload 0) := ⟨rfl, rfl⟩
theorem fField_reapersAt_6 : w_fe am_c36 6 7 (.getfield 205) := ⟨rfl, rfl⟩
theorem fField_reapersAt_7 : w_ic am_c36 7 8 .ge 23 := ⟨rfl, rfl⟩
theorem fField_reapersAt_8 : w_fe am_c36 8 9 (.iload 2) := ⟨rfl, rfl⟩
theorem fField_reapersAt_9 : w_fe am_c36 9 10 (.iload 3) := ⟨rfl, rfl⟩
theorem fField_reapersAt_10 : w_fe am_c36 10 11 (.aload 0) := ⟨rfl, rfl⟩
theorem fField_reapersAt_11 : w_fe am_c36 11 12 (.getfield 212) := ⟨rfl, rfl⟩
theorem fField_reapersAt_12 : w_fe am_c36 12 13 (.iload 3) := ⟨rfl, rfl⟩
theorem fField_reapersAt_13 : w_fe am_c36 13 14 (.iaload) := ⟨rfl, rfl⟩
theorem fField_reapersAt_14 : w_fe am_c36 14 15 (.iload 1) := ⟨rfl, rfl⟩
theorem fField_reapersAt_15 : w_ic am_c36 15 16 .ne 18 := ⟨rfl, rfl⟩
theorem fField_reapersAt_16 : w_fe am_c36 16 17 (.bipush 1) := ⟨rfl, rfl⟩
theorem fField_reapersAt_17 : w_gt am_c36 17 19 := rfl
theorem fField_reapersAt_18 : w_fe am_c36 18 19 (.bipush 0) := ⟨rfl, rfl⟩
theorem fField_reapersAt_19 : w_fe am_c36 19 20 (.invokestatic 110) := ⟨rfl, rfl⟩
theorem fField_reapersAt_20 : w_fe am_c36 20 21 (.istore 2) := ⟨rfl, rfl⟩
theorem fField_reapersAt_21 : w_fe am_c36 21 22 (.iinc 3 1) := ⟨rfl, rfl⟩
theorem fField_reapersAt_22 : w_gt am_c36 22 4 := rfl
theorem fField_reapersAt_23 : w_fe am_c36 23 24 (.iload 2) := ⟨rfl, rfl⟩
theorem fField_reapersAt_24 : w_fe am_c36 24 25 (.ireturn) := ⟨rfl, rfl⟩
noncomputable def LField_reapersAt_4 (xs : List Int) (d : Nat) (Q : Option w_V → w_M → Prop) (r0 : Nat) (v1 : Int) (v2 : Int) (v3 : Int) (σ : w_M) : Prop := w_Ex (xs, d) 1 am_c36 Q 4 [some (.inr (.inr (2, r0))), some (.inl v1), some (.inl v2), some (.inl v3)] [] σ
set_option maxRecDepth 20000 in
theorem bField_reapersAt_0 {xs : List Int} {d : Nat} {Q : Option w_V → w_M → Prop} {a : Nat} {x1 : Int} {σ : w_M}
    (h : LField_reapersAt_4 xs (d + 1) Q a x1 0 0 σ) : w_Call (xs, (d + 1)) 36 [.inr (.inr (2, a)), .inl x1] σ Q :=
  (w_mk (mid := 36) (by decide) rfl rfl rfl rfl rfl (Nat.le_of_ble_eq_true rfl) ⟨rfl, Or.inl (by decide)⟩ (wi_bipush fField_reapersAt_0 (wi_istore2 fField_reapersAt_1 trivial (wi_bipush fField_reapersAt_2 (wi_istore3 fField_reapersAt_3 trivial h)))))
set_option maxRecDepth 20000 in
theorem bField_reapersAt_4 {xs : List Int} {d : Nat} {Q : Option w_V → w_M → Prop} {r0 : Nat} {v1 : Int} {v2 : Int} {v3 : Int} {σ : w_M}
    (h : ((σ r0 5) ≤ v3 → Q (some (.inl v2)) σ) ∧ (v3 < (σ r0 5) → (0 ≤ v3 ∧ v3 < 4 ∧ ((¬ (σ (r0 + 6) v3.toNat) = v1 → ∀ (y1 : Int), y1 = v_Moon_withBit v2 v3 0 → (w_in (v3 + 1) ∧ LField_reapersAt_4 xs (d + 1) Q r0 v1 y1 (v3 + 1) σ)) ∧ ((σ (r0 + 6) v3.toNat) = v1 → ∀ (y2 : Int), y2 = v_Moon_withBit v2 v3 1 → (w_in (v3 + 1) ∧ LField_reapersAt_4 xs (d + 1) Q r0 v1 y2 (v3 + 1) σ)))))) : LField_reapersAt_4 xs (d + 1) Q r0 v1 v2 v3 σ :=
  (wi_iload3 fField_reapersAt_4 (wi_aload0 fField_reapersAt_5 (wi_getf205 fField_reapersAt_6 (wi_ic_ge fField_reapersAt_7 (fun c4 => (wi_iload2 fField_reapersAt_23 (wi_ret1 fField_reapersAt_24 (h.1 c4)))) (fun c4 => (wi_iload2 fField_reapersAt_8 (wi_iload3 fField_reapersAt_9 (wi_aload0 fField_reapersAt_10 (wi_getf212 fField_reapersAt_11 (wi_iload3 fField_reapersAt_12 (wi_iald1004 fField_reapersAt_13 (h.2 c4).1 (h.2 c4).2.1 (wi_iload1 fField_reapersAt_14 (wi_ic_ne fField_reapersAt_15 (fun c3 => (wi_bipush fField_reapersAt_18 (wi_call3 fField_reapersAt_19 (Nat.le_of_ble_eq_true rfl) (k_Moon_withBit (wi_istore2 fField_reapersAt_20 trivial (wi_iinc3 fField_reapersAt_21 trivial (((h.2 c4).2.2.1 c3) _ rfl).1 (wi_goto fField_reapersAt_22 (((h.2 c4).2.2.1 c3) _ rfl).2))))))) (fun c3 => (wi_bipush fField_reapersAt_16 (wi_goto fField_reapersAt_17 (wi_call3 fField_reapersAt_19 (Nat.le_of_ble_eq_true rfl) (k_Moon_withBit (wi_istore2 fField_reapersAt_20 trivial (wi_iinc3 fField_reapersAt_21 trivial (((h.2 c4).2.2.2 c3) _ rfl).1 (wi_goto fField_reapersAt_22 (((h.2 c4).2.2.2 c3) _ rfl).2)))))))))))))))))))))
theorem k_Field_reapersAt {xs : List Int} {d : Nat} {Q : Option w_V → w_M → Prop} {a : Nat} {x1 : Int} {σ : w_M} (hp : p_Field_reapersAt a x1 σ) (hQ : Q (some (.inl (v_Field_reapersAt a x1 σ))) σ) : w_Call (xs, d + 1) 36 [.inr (.inr (2, a)), .inl x1] σ Q := by
  have hn := n_ok.n hp
  refine bField_reapersAt_0 ?_
  refine w_loop (n := (σ a 5).toNat) (P := fun i => LField_reapersAt_4 xs (d + 1) Q a x1 ((n_rat (w_ab σ a) x1 i : Nat) : Int) (i : Int) σ) ?_ ?_
  · exact bField_reapersAt_4 ⟨fun _ => hQ, fun h => by omega⟩
  · intro i hi ih
    have e : σ (a + 6) i = w_ab σ a 6 i := w_rd (by decide) (by rw [w_rl37 (by decide) (by decide)]; exact hi)
    have hb := w_bit_set i (by omega) _ (n_rat_lt (w_ab σ a) x1 i)
    refine bField_reapersAt_4 ⟨fun h => by omega, fun h => ⟨by omega, by omega, fun c => fun y e1 => ⟨⟨by omega, by omega⟩, ?_⟩, fun c => fun y e1 => ⟨⟨by omega, by omega⟩, ?_⟩⟩⟩
    · rw [Int.toNat_natCast, e] at c
      simp only [n_rat] at ih
      rw [if_neg c, Nat.add_zero, w_cs1] at ih
      rw [e1, hb.2]
      exact ih
    · rw [Int.toNat_natCast, e] at c
      simp only [n_rat] at ih
      rw [if_pos c, w_cs1] at ih
      rw [e1, hb.1]
      exact ih
noncomputable def p_Field_nearestWithYards (a : Nat) (f : Int) (σ : w_M) : Prop := n_ok σ a ∧ 0 ≤ f ∧ f < σ a 4
noncomputable def v_Field_nearestWithYards (a : Nat) (f : Int) (σ : w_M) : Int := n_near (w_ab σ a) f
theorem fField_nearestWithYards_0 : w_fe am_c43 0 1 (.bipush 0) := ⟨rfl, rfl⟩
theorem fField_nearestWithYards_1 : w_fe am_c43 1 2 (.istore 2) := ⟨rfl, rfl⟩
theorem fField_nearestWithYards_2 : w_fe am_c43 2 3 (.iload 2) := ⟨rfl, rfl⟩
theorem fField_nearestWithYards_3 : w_fe am_c43 3 4 (.bipush 7) := ⟨rfl, rfl⟩
theorem fField_nearestWithYards_4 : w_ic am_c43 4 5 .ge 41 := ⟨rfl, rfl⟩
theorem fField_nearestWithYards_5 : w_fe am_c43 5 6 (.iload 1) := ⟨rfl, rfl⟩
theorem fField_nearestWithYards_6 : w_fe am_c43 6 7 (.iload 2) := ⟨rfl, rfl⟩
theorem fField_nearestWithYards_7 : w_fe am_c43 7 8 (.isub) := ⟨rfl, rfl⟩
theorem fField_nearestWithYards_8 : w_fe am_c43 8 9 (.istore 3) := ⟨rfl, rfl⟩
theorem fField_nearestWithYards_9 : w_fe am_c43 9 10 (.iload 3) := ⟨rfl, rfl⟩
theorem fField_nearestWithYards_10 : w_if am_c43 10 11 .lt 22 := ⟨rfl, rfl⟩
theorem fField_nearestWithYards_11 : w_fe am_c43 11 12 (.iload 3) := ⟨rfl, rfl⟩
theorem fField_nearestWithYards_12 : w_fe am_c43 12 13 (.aload 0) := ⟨rfl, rfl⟩
theorem fField_nearestWithYards_13 : w_fe am_c43 13 14 (.getfield 204) := ⟨rfl, rfl⟩
theorem fField_nearestWithYards_14 : w_ic am_c43 14 15 .ge 22 := ⟨rfl, rfl⟩
theorem fField_nearestWithYards_15 : w_fe am_c43 15 16 (.aload 0) := ⟨rfl, rfl⟩
theorem fField_nearestWithYards_16 : w_fe am_c43 16 17 (.getfield 207) := ⟨rfl, rfl⟩
theorem fField_nearestWithYards_17 : w_fe am_c43 17 18 (.iload 3) := ⟨rfl, rfl⟩
theorem fField_nearestWithYards_18 : w_fe am_c43 18 19 (.iaload) := ⟨rfl, rfl⟩
theorem fField_nearestWithYards_19 : w_if am_c43 19 20 .le 22 := ⟨rfl, rfl⟩
theorem fField_nearestWithYards_20 : w_fe am_c43 20 21 (.iload 3) := ⟨rfl, rfl⟩
theorem fField_nearestWithYards_21 : w_fe am_c43 21 22 (.ireturn) := ⟨rfl, rfl⟩
theorem fField_nearestWithYards_22 : w_fe am_c43 22 23 (.iload 1) := ⟨rfl, rfl⟩
theorem fField_nearestWithYards_23 : w_fe am_c43 23 24 (.iload 2) := ⟨rfl, rfl⟩
theorem fField_nearestWithYards_24 : w_fe am_c43 24 25 (.iadd) := ⟨rfl, rfl⟩
theorem fField_nearestWithYards_25 : w_fe am_c43 25 26 (.istore 4) := ⟨rfl, rfl⟩
theorem fField_nearestWithYards_26 : w_fe am_c43 26 27 (.iload 4) := ⟨rfl, rfl⟩
theorem fField_nearestWithYards_27 : w_if am_c43 27 28 .lt 39 := ⟨rfl, rfl⟩
theorem fField_nearestWithYards_28 : w_fe am_c43 28 29 (.iload 4) := ⟨rfl, rfl⟩
theorem fField_nearestWithYards_29 : w_fe am_c43 29 30 (.aload 0) := ⟨rfl, rfl⟩
theorem fField_nearestWithYards_30 : w_fe am_c43 30 31 (.getfield 204) := ⟨rfl, rfl⟩
theorem fField_nearestWithYards_31 : w_ic am_c43 31 32 .ge 39 := ⟨rfl, rfl⟩
theorem fField_nearestWithYards_32 : w_fe am_c43 32 33 (.aload 0) := ⟨rfl, rfl⟩
theorem fField_nearestWithYards_33 : w_fe am_c43 33 34 (.getfield 207) := ⟨rfl, rfl⟩
theorem fField_nearestWithYards_34 : w_fe am_c43 34 35 (.iload 4) := ⟨rfl, rfl⟩
theorem fField_nearestWithYards_35 : w_fe am_c43 35 36 (.iaload) := ⟨rfl, rfl⟩
theorem fField_nearestWithYards_36 : w_if am_c43 36 37 .le 39 := ⟨rfl, rfl⟩
theorem fField_nearestWithYards_37 : w_fe am_c43 37 38 (.iload 4) := ⟨rfl, rfl⟩
theorem fField_nearestWithYards_38 : w_fe am_c43 38 39 (.ireturn) := ⟨rfl, rfl⟩
theorem fField_nearestWithYards_39 : w_fe am_c43 39 40 (.iinc 2 1) := ⟨rfl, rfl⟩
theorem fField_nearestWithYards_40 : w_gt am_c43 40 2 := rfl
theorem fField_nearestWithYards_41 : w_fe am_c43 41 42 (.bipush (-4)) := ⟨rfl, rfl⟩
theorem fField_nearestWithYards_42 : w_fe am_c43 42 43 (.ireturn) := ⟨rfl, rfl⟩
noncomputable def LField_nearestWithYards_2 (xs : List Int) (d : Nat) (Q : Option w_V → w_M → Prop) (r0 : Nat) (v1 : Int) (v2 : Int) (σ : w_M) : Prop := ∀ l3, w_nl l3 → ∀ l4, w_nl l4 → w_Ex (xs, d) 1 am_c43 Q 2 [some (.inr (.inr (2, r0))), some (.inl v1), some (.inl v2), l3, l4] [] σ
set_option maxRecDepth 20000 in
theorem bField_nearestWithYards_0 {xs : List Int} {d : Nat} {Q : Option w_V → w_M → Prop} {a : Nat} {x1 : Int} {σ : w_M}
    (h : LField_nearestWithYards_2 xs d Q a x1 0 σ) : w_Call (xs, d) 43 [.inr (.inr (2, a)), .inl x1] σ Q :=
  (w_mk (mid := 43) (by decide) rfl rfl rfl rfl rfl (Nat.le_of_ble_eq_true rfl) ⟨rfl, Or.inl (by decide)⟩ (wi_bipush fField_nearestWithYards_0 (wi_istore2 fField_nearestWithYards_1 trivial (h _ (by exact trivial) _ (by exact trivial)))))
set_option maxRecDepth 20000 in
theorem bField_nearestWithYards_2 {xs : List Int} {d : Nat} {Q : Option w_V → w_M → Prop} {r0 : Nat} {v1 : Int} {v2 : Int} {σ : w_M}
    (h : (7 ≤ v2 → Q (some (.inl (-4))) σ) ∧ (v2 < 7 → (w_in (v1 - v2) ∧ (∀ (y1 : Int), y1 = (v1 - v2) → ((y1 < 0 → (w_in (v1 + v2) ∧ (∀ (y2 : Int), y2 = (v1 + v2) → ((y2 < 0 → (w_in (v2 + 1) ∧ LField_nearestWithYards_2 xs d Q r0 v1 (v2 + 1) σ)) ∧ (0 ≤ y2 → (((σ r0 4) ≤ y2 → (w_in (v2 + 1) ∧ LField_nearestWithYards_2 xs d Q r0 v1 (v2 + 1) σ)) ∧ (y2 < (σ r0 4) → (y2 < 7 ∧ (((σ (r0 + 1) y2.toNat) ≤ 0 → (w_in (v2 + 1) ∧ LField_nearestWithYards_2 xs d Q r0 v1 (v2 + 1) σ)) ∧ (0 < (σ (r0 + 1) y2.toNat) → Q (some (.inl y2)) σ)))))))))) ∧ (0 ≤ y1 → (((σ r0 4) ≤ y1 → (w_in (v1 + v2) ∧ (∀ (y6 : Int), y6 = (v1 + v2) → ((y6 < 0 → (w_in (v2 + 1) ∧ LField_nearestWithYards_2 xs d Q r0 v1 (v2 + 1) σ)) ∧ (0 ≤ y6 → (((σ r0 4) ≤ y6 → (w_in (v2 + 1) ∧ LField_nearestWithYards_2 xs d Q r0 v1 (v2 + 1) σ)) ∧ (y6 < (σ r0 4) → (y6 < 7 ∧ (((σ (r0 + 1) y6.toNat) ≤ 0 → (w_in (v2 + 1) ∧ LField_nearestWithYards_2 xs d Q r0 v1 (v2 + 1) σ)) ∧ (0 < (σ (r0 + 1) y6.toNat) → Q (some (.inl y6)) σ)))))))))) ∧ (y1 < (σ r0 4) → (y1 < 7 ∧ (((σ (r0 + 1) y1.toNat) ≤ 0 → (w_in (v1 + v2) ∧ (∀ (y10 : Int), y10 = (v1 + v2) → ((y10 < 0 → (w_in (v2 + 1) ∧ LField_nearestWithYards_2 xs d Q r0 v1 (v2 + 1) σ)) ∧ (0 ≤ y10 → (((σ r0 4) ≤ y10 → (w_in (v2 + 1) ∧ LField_nearestWithYards_2 xs d Q r0 v1 (v2 + 1) σ)) ∧ (y10 < (σ r0 4) → (y10 < 7 ∧ (((σ (r0 + 1) y10.toNat) ≤ 0 → (w_in (v2 + 1) ∧ LField_nearestWithYards_2 xs d Q r0 v1 (v2 + 1) σ)) ∧ (0 < (σ (r0 + 1) y10.toNat) → Q (some (.inl y10)) σ)))))))))) ∧ (0 < (σ (r0 + 1) y1.toNat) → Q (some (.inl y1)) σ))))))))))) : LField_nearestWithYards_2 xs d Q r0 v1 v2 σ :=
  fun l3 nl3 => fun l4 nl4 => (wi_iload2 fField_nearestWithYards_2 (wi_bipush fField_nearestWithYards_3 (wi_ic_ge fField_nearestWithYards_4 (fun c17 => (wi_bipush fField_nearestWithYards_41 (wi_ret1 fField_nearestWithYards_42 (h.1 c17)))) (fun c17 => (wi_iload1 fField_nearestWithYards_5 (wi_iload2 fField_nearestWithYards_6 (wi_isub fField_nearestWithYards_7 (h.2 c17).1 (wi_istore3 fField_nearestWithYards_8 trivial (wi_iload3 fField_nearestWithYards_9 (wi_if_lt fField_nearestWithYards_10 (fun c16 => (wi_iload1 fField_nearestWithYards_22 (wi_iload2 fField_nearestWithYards_23 (wi_iadd fField_nearestWithYards_24 (((h.2 c17).2 _ rfl).1 c16).1 (wi_istore4 fField_nearestWithYards_25 trivial (wi_iload4 fField_nearestWithYards_26 (wi_if_lt fField_nearestWithYards_27 (fun c5 => (wi_iinc2 fField_nearestWithYards_39 trivial (((((h.2 c17).2 _ rfl).1 c16).2 _ rfl).1 c5).1 (wi_goto fField_nearestWithYards_40 ((((((h.2 c17).2 _ rfl).1 c16).2 _ rfl).1 c5).2 _ (by exact trivial) _ (by exact trivial))))) (fun c5 => (wi_iload4 fField_nearestWithYards_28 (wi_aload0 fField_nearestWithYards_29 (wi_getf204 fField_nearestWithYards_30 (wi_ic_ge fField_nearestWithYards_31 (fun c4 => (wi_iinc2 fField_nearestWithYards_39 trivial ((((((h.2 c17).2 _ rfl).1 c16).2 _ rfl).2 c5).1 c4).1 (wi_goto fField_nearestWithYards_40 (((((((h.2 c17).2 _ rfl).1 c16).2 _ rfl).2 c5).1 c4).2 _ (by exact trivial) _ (by exact trivial))))) (fun c4 => (wi_aload0 fField_nearestWithYards_32 (wi_getf207 fField_nearestWithYards_33 (wi_iload4 fField_nearestWithYards_34 (wi_iald1007 fField_nearestWithYards_35 c5 ((((((h.2 c17).2 _ rfl).1 c16).2 _ rfl).2 c5).2 c4).1 (wi_if_le fField_nearestWithYards_36 (fun c3 => (wi_iinc2 fField_nearestWithYards_39 trivial (((((((h.2 c17).2 _ rfl).1 c16).2 _ rfl).2 c5).2 c4).2.1 c3).1 (wi_goto fField_nearestWithYards_40 ((((((((h.2 c17).2 _ rfl).1 c16).2 _ rfl).2 c5).2 c4).2.1 c3).2 _ (by exact trivial) _ (by exact trivial))))) (fun c3 => (wi_iload4 fField_nearestWithYards_37 (wi_ret1 fField_nearestWithYards_38 (((((((h.2 c17).2 _ rfl).1 c16).2 _ rfl).2 c5).2 c4).2.2 c3)))))))))))))))))))))) (fun c16 => (wi_iload3 fField_nearestWithYards_11 (wi_aload0 fField_nearestWithYards_12 (wi_getf204 fField_nearestWithYards_13 (wi_ic_ge fField_nearestWithYards_14 (fun c15 => (wi_iload1 fField_nearestWithYards_22 (wi_iload2 fField_nearestWithYards_23 (wi_iadd fField_nearestWithYards_24 ((((h.2 c17).2 _ rfl).2 c16).1 c15).1 (wi_istore4 fField_nearestWithYards_25 trivial (wi_iload4 fField_nearestWithYards_26 (wi_if_lt fField_nearestWithYards_27 (fun c9 => (wi_iinc2 fField_nearestWithYards_39 trivial ((((((h.2 c17).2 _ rfl).2 c16).1 c15).2 _ rfl).1 c9).1 (wi_goto fField_nearestWithYards_40 (((((((h.2 c17).2 _ rfl).2 c16).1 c15).2 _ rfl).1 c9).2 _ (by exact trivial) _ (by exact trivial))))) (fun c9 => (wi_iload4 fField_nearestWithYards_28 (wi_aload0 fField_nearestWithYards_29 (wi_getf204 fField_nearestWithYards_30 (wi_ic_ge fField_nearestWithYards_31 (fun c8 => (wi_iinc2 fField_nearestWithYards_39 trivial (((((((h.2 c17).2 _ rfl).2 c16).1 c15).2 _ rfl).2 c9).1 c8).1 (wi_goto fField_nearestWithYards_40 ((((((((h.2 c17).2 _ rfl).2 c16).1 c15).2 _ rfl).2 c9).1 c8).2 _ (by exact trivial) _ (by exact trivial))))) (fun c8 => (wi_aload0 fField_nearestWithYards_32 (wi_getf207 fField_nearestWithYards_33 (wi_iload4 fField_nearestWithYards_34 (wi_iald1007 fField_nearestWithYards_35 c9 (((((((h.2 c17).2 _ rfl).2 c16).1 c15).2 _ rfl).2 c9).2 c8).1 (wi_if_le fField_nearestWithYards_36 (fun c7 => (wi_iinc2 fField_nearestWithYards_39 trivial ((((((((h.2 c17).2 _ rfl).2 c16).1 c15).2 _ rfl).2 c9).2 c8).2.1 c7).1 (wi_goto fField_nearestWithYards_40 (((((((((h.2 c17).2 _ rfl).2 c16).1 c15).2 _ rfl).2 c9).2 c8).2.1 c7).2 _ (by exact trivial) _ (by exact trivial))))) (fun c7 => (wi_iload4 fField_nearestWithYards_37 (wi_ret1 fField_nearestWithYards_38 ((((((((h.2 c17).2 _ rfl).2 c16).1 c15).2 _ rfl).2 c9).2 c8).2.2 c7)))))))))))))))))))))) (fun c15 => (wi_aload0 fField_nearestWithYards_15 (wi_getf207 fField_nearestWithYards_16 (wi_iload3 fField_nearestWithYards_17 (wi_iald1007 fField_nearestWithYards_18 c16 ((((h.2 c17).2 _ rfl).2 c16).2 c15).1 (wi_if_le fField_nearestWithYards_19 (fun c14 => (wi_iload1 fField_nearestWithYards_22 (wi_iload2 fField_nearestWithYards_23 (wi_iadd fField_nearestWithYards_24 (((((h.2 c17).2 _ rfl).2 c16).2 c15).2.1 c14).1 (wi_istore4 fField_nearestWithYards_25 trivial (wi_iload4 fField_nearestWithYards_26 (wi_if_lt fField_nearestWithYards_27 (fun c13 => (wi_iinc2 fField_nearestWithYards_39 trivial (((((((h.2 c17).2 _ rfl).2 c16).2 c15).2.1 c14).2 _ rfl).1 c13).1 (wi_goto fField_nearestWithYards_40 ((((((((h.2 c17).2 _ rfl).2 c16).2 c15).2.1 c14).2 _ rfl).1 c13).2 _ (by exact trivial) _ (by exact trivial))))) (fun c13 => (wi_iload4 fField_nearestWithYards_28 (wi_aload0 fField_nearestWithYards_29 (wi_getf204 fField_nearestWithYards_30 (wi_ic_ge fField_nearestWithYards_31 (fun c12 => (wi_iinc2 fField_nearestWithYards_39 trivial ((((((((h.2 c17).2 _ rfl).2 c16).2 c15).2.1 c14).2 _ rfl).2 c13).1 c12).1 (wi_goto fField_nearestWithYards_40 (((((((((h.2 c17).2 _ rfl).2 c16).2 c15).2.1 c14).2 _ rfl).2 c13).1 c12).2 _ (by exact trivial) _ (by exact trivial))))) (fun c12 => (wi_aload0 fField_nearestWithYards_32 (wi_getf207 fField_nearestWithYards_33 (wi_iload4 fField_nearestWithYards_34 (wi_iald1007 fField_nearestWithYards_35 c13 ((((((((h.2 c17).2 _ rfl).2 c16).2 c15).2.1 c14).2 _ rfl).2 c13).2 c12).1 (wi_if_le fField_nearestWithYards_36 (fun c11 => (wi_iinc2 fField_nearestWithYards_39 trivial (((((((((h.2 c17).2 _ rfl).2 c16).2 c15).2.1 c14).2 _ rfl).2 c13).2 c12).2.1 c11).1 (wi_goto fField_nearestWithYards_40 ((((((((((h.2 c17).2 _ rfl).2 c16).2 c15).2.1 c14).2 _ rfl).2 c13).2 c12).2.1 c11).2 _ (by exact trivial) _ (by exact trivial))))) (fun c11 => (wi_iload4 fField_nearestWithYards_37 (wi_ret1 fField_nearestWithYards_38 (((((((((h.2 c17).2 _ rfl).2 c16).2 c15).2.1 c14).2 _ rfl).2 c13).2 c12).2.2 c11)))))))))))))))))))))) (fun c14 => (wi_iload3 fField_nearestWithYards_20 (wi_ret1 fField_nearestWithYards_21 (((((h.2 c17).2 _ rfl).2 c16).2 c15).2.2 c14)))))))))))))))))))))))))
set_option maxHeartbeats 1000000 in
theorem k_Field_nearestWithYards {xs : List Int} {d : Nat} {Q : Option w_V → w_M → Prop} {a : Nat} {x1 : Int} {σ : w_M} (hp : p_Field_nearestWithYards a x1 σ) (hQ : Q (some (.inl (v_Field_nearestWithYards a x1 σ))) σ) : w_Call (xs, d) 43 [.inr (.inr (2, a)), .inl x1] σ Q := by
  obtain ⟨hok, f0, f1⟩ := hp
  have hs := n_ok.s hok
  have hsn : n_s (w_ab σ a) ≤ 1000 := by rw [n_s_ab]; omega
  refine bField_nearestWithYards_0 ?_
  have rd : ∀ j : Int, 0 ≤ j → j < σ a 4 → σ (a + 1) j.toNat = w_ab σ a 1 j.toNat := fun j h0 h1 => w_rd (by decide) (by rw [w_rl12 (by decide) (by decide)]; omega)
  refine (w_loop (n := 7) (P := fun e => (∀ j, j < (σ a 4).toNat → 0 < w_ab σ a 1 j → (e : Int) ≤ n_dist j x1) → LField_nearestWithYards_2 xs d Q a x1 (e : Int) σ) ?_ ?_) (fun j _ _ => n_dist_nn j x1)
  · intro hj
    refine bField_nearestWithYards_2 ⟨fun _ => w_Qe hQ ?_, fun h => by omega⟩
    refine n_near_none (by omega) hsn (fun j hj2 hy => ?_)
    rw [n_s_ab] at hj2
    have := hj j hj2 hy
    unfold n_dist at this
    split at this <;> omega
  · intro e he ih hinv
    have nxt : ¬ (0 ≤ x1 - (e : Int) ∧ x1 - (e : Int) < σ a 4 ∧ 0 < w_ab σ a 1 (x1 - (e : Int)).toNat) → ¬ (0 ≤ x1 + (e : Int) ∧ x1 + (e : Int) < σ a 4 ∧ 0 < w_ab σ a 1 (x1 + (e : Int)).toNat) → LField_nearestWithYards_2 xs d Q a x1 ((e : Int) + 1) σ := fun hb ha => by
      rw [← w_cs1]
      refine ih (fun j hj hy => ?_)
      have h1 := hinv j hj hy
      by_cases he2 : n_dist j x1 = e
      · exfalso
        unfold n_dist at he2
        split at he2
        · exact hb ⟨by omega, by omega, by rw [show (x1 - (e : Int)).toNat = j by omega]; exact hy⟩
        · exact ha ⟨by omega, by omega, by rw [show (x1 + (e : Int)).toNat = j by omega]; exact hy⟩
      · omega
    have below : 0 ≤ x1 - (e : Int) → x1 - (e : Int) < σ a 4 → 0 < w_ab σ a 1 (x1 - (e : Int)).toNat → n_near (w_ab σ a) x1 = x1 - (e : Int) := fun h0 h1 hy => by
      have hd : n_dist (x1 - (e : Int)).toNat x1 = e := by unfold n_dist; split <;> omega
      have := n_near_of (A := w_ab σ a) (f := x1) (by omega) hsn (i := (x1 - (e : Int)).toNat) (by rw [n_s_ab]; omega) hy (fun j hj hy2 => by
        have h3 := hinv j hj hy2
        rw [hd]
        by_cases h4 : n_dist j x1 = e
        · right
          refine ⟨h4.symm, ?_⟩
          unfold n_dist at h4
          split at h4 <;> omega
        · left; omega)
      omega
    have above : ¬ (0 ≤ x1 - (e : Int) ∧ x1 - (e : Int) < σ a 4 ∧ 0 < w_ab σ a 1 (x1 - (e : Int)).toNat) → 0 ≤ x1 + (e : Int) → x1 + (e : Int) < σ a 4 → 0 < w_ab σ a 1 (x1 + (e : Int)).toNat → n_near (w_ab σ a) x1 = x1 + (e : Int) := fun hb h0 h1 hy => by
      have hd : n_dist (x1 + (e : Int)).toNat x1 = e := by unfold n_dist; split <;> omega
      have := n_near_of (A := w_ab σ a) (f := x1) (by omega) hsn (i := (x1 + (e : Int)).toNat) (by rw [n_s_ab]; omega) hy (fun j hj hy2 => by
        have h3 := hinv j hj hy2
        rw [hd]
        by_cases h4 : n_dist j x1 = e
        · right
          refine ⟨h4.symm, ?_⟩
          unfold n_dist at h4
          split at h4
          · exfalso
            exact hb ⟨by omega, by omega, by rw [show (x1 - (e : Int)).toNat = j by omega]; exact hy2⟩
          · omega
        · left; omega)
      omega
    have up : ¬ (0 ≤ x1 - (e : Int) ∧ x1 - (e : Int) < σ a 4 ∧ 0 < w_ab σ a 1 (x1 - (e : Int)).toNat) → ∀ y : Int, y = x1 + (e : Int) → ((y < 0 → w_in ((e : Int) + 1) ∧ LField_nearestWithYards_2 xs d Q a x1 ((e : Int) + 1) σ) ∧ (0 ≤ y → ((σ a 4 ≤ y → w_in ((e : Int) + 1) ∧ LField_nearestWithYards_2 xs d Q a x1 ((e : Int) + 1) σ) ∧ (y < σ a 4 → y < 7 ∧ ((σ (a + 1) y.toNat ≤ 0 → w_in ((e : Int) + 1) ∧ LField_nearestWithYards_2 xs d Q a x1 ((e : Int) + 1) σ) ∧ (0 < σ (a + 1) y.toNat → Q (some (.inl y)) σ)))))) := by
      intro hb y ey
      subst ey
      refine ⟨fun c => ⟨⟨by omega, by omega⟩, nxt hb (fun q => by omega)⟩, fun c => ⟨fun c2 => ⟨⟨by omega, by omega⟩, nxt hb (fun q => by omega)⟩, fun c2 => ⟨by omega, fun c3 => ⟨⟨by omega, by omega⟩, nxt hb (fun q => ?_)⟩, fun c3 => ?_⟩⟩⟩
      · rw [rd _ c c2] at c3
        omega
      · rw [rd _ c c2] at c3
        exact w_Qe hQ (above hb c c2 c3)
    refine bField_nearestWithYards_2 ⟨fun h => by omega, fun h => ⟨⟨by omega, by omega⟩, ?_⟩⟩
    intro y1 e1
    subst e1
    refine ⟨fun c1 => ⟨⟨by omega, by omega⟩, up (fun q => by omega)⟩, fun c1 => ⟨fun c2 => ⟨⟨by omega, by omega⟩, up (fun q => by omega)⟩, fun c2 => ⟨by omega, fun c3 => ⟨⟨by omega, by omega⟩, up (fun q => ?_)⟩, fun c3 => ?_⟩⟩⟩
    · rw [rd _ c1 c2] at c3
      omega
    · rw [rd _ c1 c2] at c3
      exact w_Qe hQ (below c1 c2 c3)
noncomputable def p_Field_cut (a : Nat) (r i : Int) (σ : w_M) : Prop := n_ok σ a ∧ (0 ≤ r ∧ r < σ a 5) ∧ (0 ≤ i ∧ i < σ a 4)
noncomputable def q_Field_cut (a : Nat) (r i : Int) (σ : w_M) (x : Int) (σ' : w_M) : Prop := w_ab σ' a = n_cut (w_ab σ a) r.toNat i.toNat ∧ x = n_amt (w_ab σ a) r.toNat i.toNat ∧ w_fr σ σ' a (a + 9) ∧ σ' a 15 = w_wr (σ a 15 + (w_ab σ a 3 r.toNat - n_amt (w_ab σ a) r.toNat i.toNat)) ∧ σ' a 6 = σ a 6
noncomputable def w_c44 : List Instr := [.aload 0, .iload 2, .invokestatic 30, .ifCond .eq 13, .aload 0, .getfield 209, .iload 1, .iaload, .bipush 1, .iadd, .bipush 2, .idiv, .goto 17, .aload 0, .getfield 209, .iload 1, .iaload, .istore 3, .iload 3, .aload 0, .getfield 207, .iload 2, .iaload, .invokestatic 1, .istore 4, .aload 0, .getfield 207, .iload 2, .dup2, .iaload, .iload 4, .isub, .iastore, .aload 0, .getfield 213, .iload 1, .dup2, .iaload, .iload 4, .fadd, .iastore, .aload 0, .dup, .getfield 215, .aload 0, .getfield 209, .iload 1, .iaload, .iload 4, .isub, .fadd, .putfield 215, .aload 0, .iload 1, .putfield 203, .aload 0, .getfield 208, .iload 2, .iaload, .istore 5, .iload 5, .ifCond .lt 73, .iload 5, .bipush 4, .if_icmp .ge 73, .aload 0, .getfield 214, .iload 5, .dup2, .iaload, .iload 4, .fadd, .iastore, .iload 4, .ireturn]
theorem fField_cut_0 : w_fe w_c44 0 1 (.aload 0) := ⟨rfl, rfl⟩
theorem fField_cut_1 : w_fe w_c44 1 2 (.iload 2) := ⟨rfl, rfl⟩
theorem fField_cut_2 : w_fe w_c44 2 3 (.invokestatic 30) := ⟨rfl, rfl⟩
theorem fField_cut_3 : w_if w_c44 3 4 .eq 13 := ⟨rfl, rfl⟩
theorem fField_cut_4 : w_fe w_c44 4 5 (.aload 0) := ⟨rfl, rfl⟩
theorem fField_cut_5 : w_fe w_c44 5 6 (.getfield 209) := ⟨rfl, rfl⟩
theorem fField_cut_6 : w_fe w_c44 6 7 (.iload 1) := ⟨rfl, rfl⟩
theorem fField_cut_7 : w_fe w_c44 7 8 (.iaload) := ⟨rfl, rfl⟩
theorem fField_cut_8 : w_fe w_c44 8 9 (.bipush 1) := ⟨rfl, rfl⟩
theorem fField_cut_9 : w_fe w_c44 9 10 (.iadd) := ⟨rfl, rfl⟩
theorem fField_cut_10 : w_fe w_c44 10 11 (.bipush 2) := ⟨rfl, rfl⟩
theorem fField_cut_11 : w_fe w_c44 11 12 (.idiv) := ⟨rfl, rfl⟩
theorem fField_cut_12 : w_gt w_c44 12 17 := rfl
theorem fField_cut_13 : w_fe w_c44 13 14 (.aload 0) := ⟨rfl, rfl⟩
theorem fField_cut_14 : w_fe w_c44 14 15 (.getfield 209) := ⟨rfl, rfl⟩
theorem fField_cut_15 : w_fe w_c44 15 16 (.iload 1) := ⟨rfl, rfl⟩
theorem fField_cut_16 : w_fe w_c44 16 17 (.iaload) := ⟨rfl, rfl⟩
theorem fField_cut_17 : w_fe w_c44 17 18 (.istore 3) := ⟨rfl, rfl⟩
theorem fField_cut_18 : w_fe w_c44 18 19 (.iload 3) := ⟨rfl, rfl⟩
theorem fField_cut_19 : w_fe w_c44 19 20 (.aload 0) := ⟨rfl, rfl⟩
theorem fField_cut_20 : w_fe w_c44 20 21 (.getfield 207) := ⟨rfl, rfl⟩
theorem fField_cut_21 : w_fe w_c44 21 22 (.iload 2) := ⟨rfl, rfl⟩
theorem fField_cut_22 : w_fe w_c44 22 23 (.iaload) := ⟨rfl, rfl⟩
theorem fField_cut_23 : w_fe w_c44 23 24 (.invokestatic 1) := ⟨rfl, rfl⟩
theorem fField_cut_24 : w_fe w_c44 24 25 (.istore 4) := ⟨rfl, rfl⟩
theorem fField_cut_25 : w_fe w_c44 25 26 (.aload 0) := ⟨rfl, rfl⟩
theorem fField_cut_26 : w_fe w_c44 26 27 (.getfield 207) := ⟨rfl, rfl⟩
theorem fField_cut_27 : w_fe w_c44 27 28 (.iload 2) := ⟨rfl, rfl⟩
theorem fField_cut_28 : w_fe w_c44 28 29 (.dup2) := ⟨rfl, rfl⟩
theorem fField_cut_29 : w_fe w_c44 29 30 (.iaload) := ⟨rfl, rfl⟩
theorem fField_cut_30 : w_fe w_c44 30 31 (.iload 4) := ⟨rfl, rfl⟩
theorem fField_cut_31 : w_fe w_c44 31 32 (.isub) := ⟨rfl, rfl⟩
theorem fField_cut_32 : w_fe w_c44 32 33 (.iastore) := ⟨rfl, rfl⟩
theorem fField_cut_33 : w_fe w_c44 33 34 (.aload 0) := ⟨rfl, rfl⟩
theorem fField_cut_34 : w_fe w_c44 34 35 (.getfield 213) := ⟨rfl, rfl⟩
theorem fField_cut_35 : w_fe w_c44 35 36 (.iload 1) := ⟨rfl, rfl⟩
theorem fField_cut_36 : w_fe w_c44 36 37 (.dup2) := ⟨rfl, rfl⟩
theorem fField_cut_37 : w_fe w_c44 37 38 (.iaload) := ⟨rfl, rfl⟩
theorem fField_cut_38 : w_fe w_c44 38 39 (.iload 4) := ⟨rfl, rfl⟩
theorem fField_cut_39 : w_fe w_c44 39 40 (.fadd) := ⟨rfl, rfl⟩
theorem fField_cut_40 : w_fe w_c44 40 41 (.iastore) := ⟨rfl, rfl⟩
theorem fField_cut_41 : w_fe w_c44 41 42 (.aload 0) := ⟨rfl, rfl⟩
theorem fField_cut_42 : w_fe w_c44 42 43 (.dup) := ⟨rfl, rfl⟩
theorem fField_cut_43 : w_fe w_c44 43 44 (.getfield 215) := ⟨rfl, rfl⟩
theorem fField_cut_44 : w_fe w_c44 44 45 (.aload 0) := ⟨rfl, rfl⟩
theorem fField_cut_45 : w_fe w_c44 45 46 (.getfield 209) := ⟨rfl, rfl⟩
theorem fField_cut_46 : w_fe w_c44 46 47 (.iload 1) := ⟨rfl, rfl⟩
theorem fField_cut_47 : w_fe w_c44 47 48 (.iaload) := ⟨rfl, rfl⟩
theorem fField_cut_48 : w_fe w_c44 48 49 (.iload 4) := ⟨rfl, rfl⟩
theorem fField_cut_49 : w_fe w_c44 49 50 (.isub) := ⟨rfl, rfl⟩
theorem fField_cut_50 : w_fe w_c44 50 51 (.fadd) := ⟨rfl, rfl⟩
theorem fField_cut_51 : w_fe w_c44 51 52 (.putfield 215) := ⟨rfl, rfl⟩
theorem fField_cut_52 : w_fe w_c44 52 53 (.aload 0) := ⟨rfl, rfl⟩
theorem fField_cut_53 : w_fe w_c44 53 54 (.iload 1) := ⟨rfl, rfl⟩
theorem fField_cut_54 : w_fe w_c44 54 55 (.putfield 203) := ⟨rfl, rfl⟩
theorem fField_cut_55 : w_fe w_c44 55 56 (.aload 0) := ⟨rfl, rfl⟩
theorem fField_cut_56 : w_fe w_c44 56 57 (.getfield 208) := ⟨rfl, rfl⟩
theorem fField_cut_57 : w_fe w_c44 57 58 (.iload 2) := ⟨rfl, rfl⟩
theorem fField_cut_58 : w_fe w_c44 58 59 (.iaload) := ⟨rfl, rfl⟩
theorem fField_cut_59 : w_fe w_c44 59 60 (.istore 5) := ⟨rfl, rfl⟩
theorem fField_cut_60 : w_fe w_c44 60 61 (.iload 5) := ⟨rfl, rfl⟩
theorem fField_cut_61 : w_if w_c44 61 62 .lt 73 := ⟨rfl, rfl⟩
theorem fField_cut_62 : w_fe w_c44 62 63 (.iload 5) := ⟨rfl, rfl⟩
theorem fField_cut_63 : w_fe w_c44 63 64 (.bipush 4) := ⟨rfl, rfl⟩
theorem fField_cut_64 : w_ic w_c44 64 65 .ge 73 := ⟨rfl, rfl⟩
theorem fField_cut_65 : w_fe w_c44 65 66 (.aload 0) := ⟨rfl, rfl⟩
theorem fField_cut_66 : w_fe w_c44 66 67 (.getfield 214) := ⟨rfl, rfl⟩
theorem fField_cut_67 : w_fe w_c44 67 68 (.iload 5) := ⟨rfl, rfl⟩
theorem fField_cut_68 : w_fe w_c44 68 69 (.dup2) := ⟨rfl, rfl⟩
theorem fField_cut_69 : w_fe w_c44 69 70 (.iaload) := ⟨rfl, rfl⟩
theorem fField_cut_70 : w_fe w_c44 70 71 (.iload 4) := ⟨rfl, rfl⟩
theorem fField_cut_71 : w_fe w_c44 71 72 (.fadd) := ⟨rfl, rfl⟩
theorem fField_cut_72 : w_fe w_c44 72 73 (.iastore) := ⟨rfl, rfl⟩
theorem fField_cut_73 : w_fe w_c44 73 74 (.iload 4) := ⟨rfl, rfl⟩
theorem fField_cut_74 : w_fe w_c44 74 75 (.ireturn) := ⟨rfl, rfl⟩
noncomputable def LField_cut_18 (xs : List Int) (d : Nat) (Q : Option w_V → w_M → Prop) (r0 : Nat) (v1 : Int) (v2 : Int) (v3 : Int) (σ : w_M) : Prop := ∀ l4, w_nl l4 → ∀ l5, w_nl l5 → w_Ex (xs, d) 1 w_c44 Q 18 [some (.inr (.inr (2, r0))), some (.inl v1), some (.inl v2), some (.inl v3), l4, l5] [] σ
set_option maxRecDepth 20000 in
theorem bField_cut_0 {xs : List Int} {d : Nat} {Q : Option w_V → w_M → Prop} {a : Nat} {x1 : Int} {x2 : Int} {σ : w_M}
    (h : (¬ (¬ w_and (w_shr (σ a 6) x2) 1 = 0) → (0 ≤ x1 ∧ x1 < 4 ∧ (∀ (y1 : Int), y1 = (σ (a + 3) x1.toNat) → LField_cut_18 xs (d + 1) Q a x1 x2 y1 σ))) ∧ ((¬ w_and (w_shr (σ a 6) x2) 1 = 0) → (0 ≤ x1 ∧ x1 < 4 ∧ w_in ((σ (a + 3) x1.toNat) + 1) ∧ w_in (((σ (a + 3) x1.toNat) + 1).tdiv 2) ∧ (∀ (y2 : Int), y2 = (((σ (a + 3) x1.toNat) + 1).tdiv 2) → LField_cut_18 xs (d + 1) Q a x1 x2 y2 σ)))) : w_Call (xs, (d + 1)) 44 [.inr (.inr (2, a)), .inl x1, .inl x2] σ Q :=
  (w_mk (mid := 44) (by decide) rfl rfl rfl rfl rfl (Nat.le_of_ble_eq_true rfl) ⟨rfl, Or.inl (by decide)⟩ (wi_aload0 fField_cut_0 (wi_iload2 fField_cut_1 (wi_call2 fField_cut_2 (Nat.le_of_ble_eq_true rfl) (k_Field_isThistly (wi_ifb_eq fField_cut_3 (fun c3 => (wi_aload0 fField_cut_13 (wi_getf209 fField_cut_14 (wi_iload1 fField_cut_15 (wi_iald1004 fField_cut_16 (h.1 c3).1 (h.1 c3).2.1 (wi_istore3 fField_cut_17 trivial (((h.1 c3).2.2 _ rfl) _ (by exact trivial) _ (by exact trivial)))))))) (fun c3 => (wi_aload0 fField_cut_4 (wi_getf209 fField_cut_5 (wi_iload1 fField_cut_6 (wi_iald1004 fField_cut_7 (h.2 c3).1 (h.2 c3).2.1 (wi_bipush fField_cut_8 (wi_iadd fField_cut_9 (h.2 c3).2.2.1 (wi_bipush fField_cut_10 (wi_idiv fField_cut_11 (by decide) (h.2 c3).2.2.2.1 (wi_goto fField_cut_12 (wi_istore3 fField_cut_17 trivial (((h.2 c3).2.2.2.2 _ rfl) _ (by exact trivial) _ (by exact trivial)))))))))))))))))))
set_option maxRecDepth 20000 in
theorem bField_cut_18 {xs : List Int} {d : Nat} {Q : Option w_V → w_M → Prop} {r0 : Nat} {v1 : Int} {v2 : Int} {v3 : Int} {σ : w_M}
    (h : 0 ≤ v2 ∧ v2 < 7 ∧ (∀ (y1 : Int), y1 = v_Math_min v3 (σ (r0 + 1) v2.toNat) → (w_in ((σ (r0 + 1) v2.toNat) - y1) ∧ (∀ (τ2 : w_M), τ2 = w_up σ (r0 + 1) v2.toNat ((σ (r0 + 1) v2.toNat) - y1) → (0 ≤ v1 ∧ v1 < 4 ∧ (∀ (τ3 : w_M), τ3 = w_up τ2 (r0 + 7) v1.toNat (w_wr ((τ2 (r0 + 7) v1.toNat) + y1)) → (w_in ((τ3 (r0 + 3) v1.toNat) - y1) ∧ (∀ (τ4 : w_M), τ4 = w_up τ3 r0 15 (w_wr ((τ3 r0 15) + ((τ3 (r0 + 3) v1.toNat) - y1))) → ∀ (τ5 : w_M), τ5 = w_up τ4 r0 3 v1 → ∀ (y6 : Int), y6 = (τ5 (r0 + 2) v2.toNat) → ((y6 < 0 → Q (some (.inl y1)) τ5) ∧ (0 ≤ y6 → ((4 ≤ y6 → Q (some (.inl y1)) τ5) ∧ (y6 < 4 → ∀ (τ7 : w_M), τ7 = w_up τ5 (r0 + 8) y6.toNat (w_wr ((τ5 (r0 + 8) y6.toNat) + y1)) → Q (some (.inl y1)) τ7)))))))))))) : LField_cut_18 xs (d + 1) Q r0 v1 v2 v3 σ :=
  fun l4 nl4 => fun l5 nl5 => (wi_iload3 fField_cut_18 (wi_aload0 fField_cut_19 (wi_getf207 fField_cut_20 (wi_iload2 fField_cut_21 (wi_iald1007 fField_cut_22 h.1 h.2.1 (wi_call2 fField_cut_23 (Nat.le_of_ble_eq_true rfl) (k_Math_min (wi_istore4 fField_cut_24 trivial (wi_aload0 fField_cut_25 (wi_getf207 fField_cut_26 (wi_iload2 fField_cut_27 (wi_dup2 fField_cut_28 (wi_iald1007 fField_cut_29 h.1 h.2.1 (wi_iload4 fField_cut_30 (wi_isub fField_cut_31 (h.2.2 _ rfl).1 (wi_iast1007 fField_cut_32 h.1 h.2.1 (wi_aload0 fField_cut_33 (wi_getf213 fField_cut_34 (wi_iload1 fField_cut_35 (wi_dup2 fField_cut_36 (wi_iald1004 fField_cut_37 ((h.2.2 _ rfl).2 _ rfl).1 ((h.2.2 _ rfl).2 _ rfl).2.1 (wi_iload4 fField_cut_38 (wi_fadd fField_cut_39 (wi_iast1004 fField_cut_40 ((h.2.2 _ rfl).2 _ rfl).1 ((h.2.2 _ rfl).2 _ rfl).2.1 (wi_aload0 fField_cut_41 (wi_dup_a fField_cut_42 (wi_getf215 fField_cut_43 (wi_aload0 fField_cut_44 (wi_getf209 fField_cut_45 (wi_iload1 fField_cut_46 (wi_iald1004 fField_cut_47 ((h.2.2 _ rfl).2 _ rfl).1 ((h.2.2 _ rfl).2 _ rfl).2.1 (wi_iload4 fField_cut_48 (wi_isub fField_cut_49 (((h.2.2 _ rfl).2 _ rfl).2.2 _ rfl).1 (wi_fadd fField_cut_50 (wi_putf215 fField_cut_51 (wi_aload0 fField_cut_52 (wi_iload1 fField_cut_53 (wi_putf203 fField_cut_54 (wi_aload0 fField_cut_55 (wi_getf208 fField_cut_56 (wi_iload2 fField_cut_57 (wi_iald1007 fField_cut_58 h.1 h.2.1 (wi_istore5 fField_cut_59 trivial (wi_iload5 fField_cut_60 (wi_if_lt fField_cut_61 (fun c9 => (wi_iload4 fField_cut_73 (wi_ret1 fField_cut_74 (((((((h.2.2 _ rfl).2 _ rfl).2.2 _ rfl).2 _ rfl) _ rfl) _ rfl).1 c9)))) (fun c9 => (wi_iload5 fField_cut_62 (wi_bipush fField_cut_63 (wi_ic_ge fField_cut_64 (fun c8 => (wi_iload4 fField_cut_73 (wi_ret1 fField_cut_74 ((((((((h.2.2 _ rfl).2 _ rfl).2.2 _ rfl).2 _ rfl) _ rfl) _ rfl).2 c9).1 c8)))) (fun c8 => (wi_aload0 fField_cut_65 (wi_getf214 fField_cut_66 (wi_iload5 fField_cut_67 (wi_dup2 fField_cut_68 (wi_iald1004 fField_cut_69 c9 c8 (wi_iload4 fField_cut_70 (wi_fadd fField_cut_71 (wi_iast1004 fField_cut_72 c9 c8 (wi_iload4 fField_cut_73 (wi_ret1 fField_cut_74 (((((((((h.2.2 _ rfl).2 _ rfl).2.2 _ rfl).2 _ rfl) _ rfl) _ rfl).2 c9).2 c8) _ rfl)))))))))))))))))))))))))))))))))))))))))))))))))))))))))))))
set_option maxHeartbeats 1000000 in
theorem k_cut_tail {xs : List Int} {d : Nat} {Q : Option w_V → w_M → Prop} {a r i : Nat} {v : Int} {σ : w_M} (hok : n_ok σ a) (hr : r < (σ a 5).toNat) (hi : i < (σ a 4).toNat) (hv : v = n_pc (w_ab σ a) r i) (hQ : ∀ (x : Int) (σ' : w_M), q_Field_cut a r i σ x σ' → Q (some (.inl x)) σ') : LField_cut_18 xs (d + 1) Q a r i v σ := by
  have hs := n_ok.s hok
  have hn := n_ok.n hok
  have e1 : σ (a + 1) i = w_ab σ a 1 i := w_rd (by decide) (by rw [w_rl12 (by decide) (by decide)]; exact hi)
  have e2 : σ (a + 2) i = w_ab σ a 2 i := w_rd (by decide) (by rw [w_rl12 (by decide) (by decide)]; exact hi)
  have e3 : σ (a + 3) r = w_ab σ a 3 r := w_rd (by decide) (by rw [w_rl37 (by decide) (by decide)]; exact hr)
  have e7 : σ (a + 7) r = w_ab σ a 7 r := w_rd (by decide) (by rw [w_rl37 (by decide) (by decide)]; exact hr)
  have h1 := n_WF.i hok hi
  have h2 := n_WF.r hok hr
  have ham := n_amt_le hok hr hi
  refine bField_cut_18 ⟨by omega, by omega, ?_⟩
  intro y1 ey
  rw [Int.toNat_natCast, e1, hv] at ey
  have hy : y1 = n_amt (w_ab σ a) r i := by
    rw [ey]
    unfold v_Math_min n_amt
    split <;> split <;> omega
  rw [Int.toNat_natCast, Int.toNat_natCast, e1]
  refine ⟨⟨by omega, by omega⟩, ?_⟩
  intro τ2 t2
  have z2 : τ2 a = σ a := by rw [t2]; exact w_up_ne (by omega)
  have A2 : w_ab τ2 a = w_up (w_ab σ a) 1 i (w_ab σ a 1 i - y1) := by rw [t2]; exact w_ab_up (by decide) (by decide) (by rw [w_rl12 (by decide) (by decide)]; exact hi)
  refine ⟨by omega, by omega, ?_⟩
  intro τ3 t3
  have z3 : τ3 a = σ a := by rw [t3, w_up_ne (by omega)]; exact z2
  have A3 : w_ab τ3 a = w_up (w_ab τ2 a) 7 r (w_wr (w_ab σ a 7 r + y1)) := by
    rw [t3, show τ2 (a + 7) r = w_ab σ a 7 r by rw [t2, w_up_ne (by omega)]; exact e7]
    exact w_ab_up (by decide) (by decide) (by rw [w_rl37 (by decide) (by decide), z2]; exact hr)
  have p3 : τ3 (a + 3) r = w_ab σ a 3 r := by rw [t3, w_up_ne (by omega), t2, w_up_ne (by omega)]; exact e3
  rw [p3]
  refine ⟨⟨by omega, by omega⟩, ?_⟩
  intro τ4 t4
  rw [z3] at t4
  have A4 : w_ab τ4 a = w_ab τ3 a := by rw [t4]; exact w_ab_lost
  intro τ5 t5
  have A5 : w_ab τ5 a = w_up (w_ab τ4 a) 0 3 r := by rw [t5]; exact w_ab_up0 (by decide)
  have z5 : τ5 a 4 = σ a 4 := by rw [t5, w_up_j (by decide), t4, w_up_j (by decide), z3]
  have n5 : ∀ b, b ≠ a → b ≠ a + 1 → b ≠ a + 7 → τ5 b = σ b := fun b b1 b2 b3 => by rw [t5, w_up_ne b1, t4, w_up_ne b1, t3, w_up_ne b3, t2, w_up_ne b2]
  intro y6 e6
  rw [n5 _ (by omega) (by omega) (by omega), e2] at e6
  have ho := h1.2.1
  refine ⟨fun c => by omega, fun c => ⟨fun c => by omega, fun c2 => ?_⟩⟩
  intro τ7 t7
  have e8 : τ5 (a + 8) y6.toNat = w_ab σ a 8 y6.toNat := by
    rw [n5 _ (by omega) (by omega) (by omega)]
    exact w_rd (by decide) (show y6.toNat < 4 by omega)
  have A7 : w_ab τ7 a = w_up (w_ab τ5 a) 8 y6.toNat (w_wr (w_ab σ a 8 y6.toNat + y1)) := by
    rw [t7, e8]
    exact w_ab_up (by decide) (by decide) (show y6.toNat < 4 by omega)
  refine hQ _ _ ⟨?_, by rw [hy, Int.toNat_natCast, Int.toNat_natCast], ?_, ?_, by rw [t7, w_up_ne (by omega), t5, w_up_j (by decide), t4, w_up_j (by decide), z3]⟩
  · rw [Int.toNat_natCast, Int.toNat_natCast, A7, A5, A4, A3, A2, hy, e6]
    rfl
  · rw [t7, t5, t4, t3, t2]
    exact ((((w_fr.up0 (by omega) (by omega)).up (by omega) (by omega)).up (by omega) (by omega)).up (by omega) (by omega)).up (by omega) (by omega)
  · rw [t7, w_up_ne (by omega), t5, w_up_j (by decide), t4, w_up_at, Int.toNat_natCast, Int.toNat_natCast, hy]
theorem k_Field_cut {xs : List Int} {d : Nat} {Q : Option w_V → w_M → Prop} {a : Nat} {x1 : Int} {x2 : Int} {σ : w_M} (hp : p_Field_cut a x1 x2 σ) (hQ : ∀ (x : Int) (σ' : w_M), q_Field_cut a x1 x2 σ x σ' → Q (some (.inl x)) σ') : w_Call (xs, d + 1) 44 [.inr (.inr (2, a)), .inl x1, .inl x2] σ Q := by
  obtain ⟨hok, ⟨r0, r1⟩, ⟨i0, i1⟩⟩ := hp
  obtain ⟨r, rfl⟩ := Int.eq_ofNat_of_zero_le r0
  obtain ⟨i, rfl⟩ := Int.eq_ofNat_of_zero_le i0
  have hn := n_ok.n hok
  have hr : r < (σ a 5).toNat := by omega
  have hi : i < (σ a 4).toNat := by omega
  have e3 : σ (a + 3) r = w_ab σ a 3 r := w_rd (by decide) (by rw [w_rl37 (by decide) (by decide)]; exact hr)
  have h2 := n_WF.r hok hr
  have e9 : w_ab σ a 9 i = w_and (w_shr (σ a 6) (i : Int)) 1 := by
    show (if i < (σ a 4).toNat then w_and (w_shr (σ a 6) (i : Int)) 1 else 0) = _
    rw [if_pos hi]
  have h9 := w_and1 (w_shr (σ a 6) (i : Int))
  refine bField_cut_0 ⟨fun c => ⟨r0, by omega, fun y e => k_cut_tail hok hr hi ?_ hQ⟩, fun c => ⟨r0, by omega, ?_⟩⟩
  · rw [e, Int.toNat_natCast, e3]
    unfold n_pc
    rw [e9, if_neg (by omega)]
  · rw [Int.toNat_natCast, e3]
    have hd : ((w_ab σ a 3 r) + 1).tdiv 2 = (w_ab σ a 3 r + 1) / 2 := Int.tdiv_eq_ediv_of_nonneg (by omega)
    refine ⟨⟨by omega, by omega⟩, by rw [hd]; exact ⟨by omega, by omega⟩, fun y e => k_cut_tail hok hr hi ?_ hQ⟩
    rw [e]
    unfold n_pc
    rw [e9, if_pos (by omega)]
noncomputable def p_Field_work (a : Nat) (r c : Int) (σ : w_M) : Prop := n_ok σ a ∧ (0 ≤ r ∧ r < σ a 5) ∧ (c = 0 ∨ c = 1)
noncomputable def q_Field_work (a : Nat) (r c : Int) (σ : w_M) (x : Int) (σ' : w_M) : Prop := w_ab σ' a = n_work (w_ab σ a) r.toNat c ∧ x = n_sd (w_ab σ a) - n_sd (n_work (w_ab σ a) r.toNat c) ∧ w_fr σ σ' a (a + 9) ∧ σ' a 15 = w_wr (σ a 15 + n_lost (w_ab σ a) r.toNat c) ∧ σ' a 6 = σ a 6
theorem fField_work_0 : w_fe am_c42 0 1 (.aload 0) := ⟨rfl, rfl⟩
theorem fField_work_1 : w_fe am_c42 1 2 (.aload 0) := ⟨rfl, rfl⟩
theorem fField_work_2 : w_fe am_c42 2 3 (.getfield 212) := ⟨rfl, rfl⟩
theorem fField_work_3 : w_fe am_c42 3 4 (.iload 1) := ⟨rfl, rfl⟩
theorem fField_work_4 : w_fe am_c42 4 5 (.iaload) := ⟨rfl, rfl⟩
theorem fField_work_5 : w_fe am_c42 5 6 (.invokestatic 43) := ⟨rfl, rfl⟩
theorem fField_work_6 : w_fe am_c42 6 7 (.istore 3) := ⟨rfl, rfl⟩
theorem fField_work_7 : w_fe am_c42 7 8 (.iload 3) := ⟨rfl, rfl⟩
theorem fField_work_8 : w_if am_c42 8 9 .lt 13 := ⟨rfl, rfl⟩
theorem fField_work_9 : w_fe am_c42 9 10 (.iload 3) := ⟨rfl, rfl⟩
theorem fField_work_10 : w_fe am_c42 10 11 (.aload 0) := ⟨rfl, rfl⟩
theorem fField_work_11 : w_fe am_c42 11 12 (.getfield 204) := ⟨rfl, rfl⟩
theorem fField_work_12 : w_ic am_c42 12 13 .lt 15 := ⟨rfl, rfl⟩
theorem fField_work_13 : w_fe am_c42 13 14 (.bipush 0) := ⟨rfl, rfl⟩
theorem fField_work_14 : w_fe am_c42 14 15 (.ireturn) := ⟨rfl, rfl⟩
theorem fField_work_15 : w_fe am_c42 15 16 (.aload 0) := ⟨rfl, rfl⟩
theorem fField_work_16 : w_fe am_c42 16 17 (.getfield 212) := ⟨rfl, rfl⟩
theorem fField_work_17 : w_fe am_c42 17 18 (.iload 1) := ⟨rfl, rfl⟩
theorem fField_work_18 : w_fe am_c42 18 19 (.iload 3) := ⟨rfl, rfl⟩
theorem fField_work_19 : w_fe am_c42 19 20 (.iastore) := ⟨rfl, rfl⟩
theorem fField_work_20 : w_fe am_c42 20 21 (.aload 0) := ⟨rfl, rfl⟩
theorem fField_work_21 : w_fe am_c42 21 22 (.getfield 211) := ⟨rfl, rfl⟩
theorem fField_work_22 : w_fe am_c42 22 23 (.iload 1) := ⟨rfl, rfl⟩
theorem fField_work_23 : w_fe am_c42 23 24 (.iaload) := ⟨rfl, rfl⟩
theorem fField_work_24 : w_if am_c42 24 25 .ne 32 := ⟨rfl, rfl⟩
theorem fField_work_25 : w_fe am_c42 25 26 (.aload 0) := ⟨rfl, rfl⟩
theorem fField_work_26 : w_fe am_c42 26 27 (.getfield 211) := ⟨rfl, rfl⟩
theorem fField_work_27 : w_fe am_c42 27 28 (.iload 1) := ⟨rfl, rfl⟩
theorem fField_work_28 : w_fe am_c42 28 29 (.bipush 3) := ⟨rfl, rfl⟩
theorem fField_work_29 : w_fe am_c42 29 30 (.iastore) := ⟨rfl, rfl⟩
theorem fField_work_30 : w_fe am_c42 30 31 (.bipush 0) := ⟨rfl, rfl⟩
theorem fField_work_31 : w_fe am_c42 31 32 (.ireturn) := ⟨rfl, rfl⟩
theorem fField_work_32 : w_fe am_c42 32 33 (.iload 2) := ⟨rfl, rfl⟩
theorem fField_work_33 : w_if am_c42 33 34 .eq 41 := ⟨rfl, rfl⟩
theorem fField_work_34 : w_fe am_c42 34 35 (.aload 0) := ⟨rfl, rfl⟩
theorem fField_work_35 : w_fe am_c42 35 36 (.getfield 210) := ⟨rfl, rfl⟩
theorem fField_work_36 : w_fe am_c42 36 37 (.iload 1) := ⟨rfl, rfl⟩
theorem fField_work_37 : w_fe am_c42 37 38 (.iaload) := ⟨rfl, rfl⟩
theorem fField_work_38 : w_if am_c42 38 39 .ne 41 := ⟨rfl, rfl⟩
theorem fField_work_39 : w_fe am_c42 39 40 (.bipush 0) := ⟨rfl, rfl⟩
theorem fField_work_40 : w_fe am_c42 40 41 (.ireturn) := ⟨rfl, rfl⟩
theorem fField_work_41 : w_fe am_c42 41 42 (.aload 0) := ⟨rfl, rfl⟩
theorem fField_work_42 : w_fe am_c42 42 43 (.getfield 211) := ⟨rfl, rfl⟩
theorem fField_work_43 : w_fe am_c42 43 44 (.iload 1) := ⟨rfl, rfl⟩
theorem fField_work_44 : w_fe am_c42 44 45 (.dup2) := ⟨rfl, rfl⟩
theorem fField_work_45 : w_fe am_c42 45 46 (.iaload) := ⟨rfl, rfl⟩
theorem fField_work_46 : w_fe am_c42 46 47 (.bipush 1) := ⟨rfl, rfl⟩
theorem fField_work_47 : w_fe am_c42 47 48 (.isub) := ⟨rfl, rfl⟩
theorem fField_work_48 : w_fe am_c42 48 49 (.iastore) := ⟨rfl, rfl⟩
theorem fField_work_49 : w_fe am_c42 49 50 (.iload 2) := ⟨rfl, rfl⟩
theorem fField_work_50 : w_if am_c42 50 51 .eq 59 := ⟨rfl, rfl⟩
theorem fField_work_51 : w_fe am_c42 51 52 (.aload 0) := ⟨rfl, rfl⟩
theorem fField_work_52 : w_fe am_c42 52 53 (.getfield 210) := ⟨rfl, rfl⟩
theorem fField_work_53 : w_fe am_c42 53 54 (.iload 1) := ⟨rfl, rfl⟩
theorem fField_work_54 : w_fe am_c42 54 55 (.dup2) := ⟨rfl, rfl⟩
theorem fField_work_55 : w_fe am_c42 55 56 (.iaload) := ⟨rfl, rfl⟩
theorem fField_work_56 : w_fe am_c42 56 57 (.bipush 1) := ⟨rfl, rfl⟩
theorem fField_work_57 : w_fe am_c42 57 58 (.isub) := ⟨rfl, rfl⟩
theorem fField_work_58 : w_fe am_c42 58 59 (.iastore) := ⟨rfl, rfl⟩
theorem fField_work_59 : w_fe am_c42 59 60 (.aload 0) := ⟨rfl, rfl⟩
theorem fField_work_60 : w_fe am_c42 60 61 (.iload 1) := ⟨rfl, rfl⟩
theorem fField_work_61 : w_fe am_c42 61 62 (.iload 3) := ⟨rfl, rfl⟩
theorem fField_work_62 : w_fe am_c42 62 63 (.invokestatic 44) := ⟨rfl, rfl⟩
theorem fField_work_63 : w_fe am_c42 63 64 (.ireturn) := ⟨rfl, rfl⟩
set_option maxRecDepth 20000 in
theorem bField_work_0 {xs : List Int} {d : Nat} {Q : Option w_V → w_M → Prop} {a : Nat} {x1 : Int} {x2 : Int} {σ : w_M}
    (h : 0 ≤ x1 ∧ x1 < 4 ∧ p_Field_nearestWithYards a (σ (a + 6) x1.toNat) σ ∧ (∀ (y1 : Int), y1 = v_Field_nearestWithYards a (σ (a + 6) x1.toNat) σ → ((y1 < 0 → Q (some (.inl 0)) σ) ∧ (0 ≤ y1 → ((y1 < (σ a 4) → ∀ (τ2 : w_M), τ2 = w_up σ (a + 6) x1.toNat y1 → ((¬ (τ2 (a + 5) x1.toNat) = 0 → ((x2 = 0 → (w_in ((τ2 (a + 5) x1.toNat) - 1) ∧ (∀ (τ3 : w_M), τ3 = w_up τ2 (a + 5) x1.toNat ((τ2 (a + 5) x1.toNat) - 1) → (p_Field_cut a x1 y1 τ3 ∧ (∀ (y4 : Int) (τ5 : w_M), q_Field_cut a x1 y1 τ3 y4 τ5 → Q (some (.inl y4)) τ5))))) ∧ (¬ x2 = 0 → ((¬ (τ2 (a + 4) x1.toNat) = 0 → (w_in ((τ2 (a + 5) x1.toNat) - 1) ∧ (∀ (τ6 : w_M), τ6 = w_up τ2 (a + 5) x1.toNat ((τ2 (a + 5) x1.toNat) - 1) → (w_in ((τ6 (a + 4) x1.toNat) - 1) ∧ (∀ (τ7 : w_M), τ7 = w_up τ6 (a + 4) x1.toNat ((τ6 (a + 4) x1.toNat) - 1) → (p_Field_cut a x1 y1 τ7 ∧ (∀ (y8 : Int) (τ9 : w_M), q_Field_cut a x1 y1 τ7 y8 τ9 → Q (some (.inl y8)) τ9))))))) ∧ ((τ2 (a + 4) x1.toNat) = 0 → Q (some (.inl 0)) τ2))))) ∧ ((τ2 (a + 5) x1.toNat) = 0 → ∀ (τ12 : w_M), τ12 = w_up τ2 (a + 5) x1.toNat 3 → Q (some (.inl 0)) τ12))) ∧ ((σ a 4) ≤ y1 → Q (some (.inl 0)) σ)))))) : w_Call (xs, (d + 2)) 42 [.inr (.inr (2, a)), .inl x1, .inl x2] σ Q :=
  (w_mk (mid := 42) (by decide) rfl rfl rfl rfl rfl (Nat.le_of_ble_eq_true rfl) ⟨rfl, Or.inl (by decide)⟩ (wi_aload0 fField_work_0 (wi_aload0 fField_work_1 (wi_getf212 fField_work_2 (wi_iload1 fField_work_3 (wi_iald1004 fField_work_4 h.1 h.2.1 (wi_call2 fField_work_5 (Nat.le_of_ble_eq_true rfl) (k_Field_nearestWithYards h.2.2.1 (wi_istore3 fField_work_6 trivial (wi_iload3 fField_work_7 (wi_if_lt fField_work_8 (fun c15 => (wi_bipush fField_work_13 (wi_ret1 fField_work_14 ((h.2.2.2 _ rfl).1 c15)))) (fun c15 => (wi_iload3 fField_work_9 (wi_aload0 fField_work_10 (wi_getf204 fField_work_11 (wi_ic_lt fField_work_12 (fun c14 => (wi_aload0 fField_work_15 (wi_getf212 fField_work_16 (wi_iload1 fField_work_17 (wi_iload3 fField_work_18 (wi_iast1004 fField_work_19 h.1 h.2.1 (wi_aload0 fField_work_20 (wi_getf211 fField_work_21 (wi_iload1 fField_work_22 (wi_iald1004 fField_work_23 h.1 h.2.1 (wi_if_ne fField_work_24 (fun c13 => (wi_iload2 fField_work_32 (wi_if_eq fField_work_33 (fun c11 => (wi_aload0 fField_work_41 (wi_getf211 fField_work_42 (wi_iload1 fField_work_43 (wi_dup2 fField_work_44 (wi_iald1004 fField_work_45 h.1 h.2.1 (wi_bipush fField_work_46 (wi_isub fField_work_47 ((((((h.2.2.2 _ rfl).2 c15).1 c14) _ rfl).1 c13).1 c11).1 (wi_iast1004 fField_work_48 h.1 h.2.1 (wi_iload2 fField_work_49 (wi_if_eq fField_work_50 (fun _ => (wi_aload0 fField_work_59 (wi_iload1 fField_work_60 (wi_iload3 fField_work_61 (wi_call3 fField_work_62 (Nat.le_of_ble_eq_true rfl) (k_Field_cut (((((((h.2.2.2 _ rfl).2 c15).1 c14) _ rfl).1 c13).1 c11).2 _ rfl).1 (fun y4 τ5 eτ5 => (wi_ret1 fField_work_63 ((((((((h.2.2.2 _ rfl).2 c15).1 c14) _ rfl).1 c13).1 c11).2 _ rfl).2 y4 τ5 eτ5))))))))) (fun e => absurd c11 (w_n_eq e))))))))))))) (fun c11 => (wi_aload0 fField_work_34 (wi_getf210 fField_work_35 (wi_iload1 fField_work_36 (wi_iald1004 fField_work_37 h.1 h.2.1 (wi_if_ne fField_work_38 (fun c10 => (wi_aload0 fField_work_41 (wi_getf211 fField_work_42 (wi_iload1 fField_work_43 (wi_dup2 fField_work_44 (wi_iald1004 fField_work_45 h.1 h.2.1 (wi_bipush fField_work_46 (wi_isub fField_work_47 (((((((h.2.2.2 _ rfl).2 c15).1 c14) _ rfl).1 c13).2 c11).1 c10).1 (wi_iast1004 fField_work_48 h.1 h.2.1 (wi_iload2 fField_work_49 (wi_if_eq fField_work_50 (fun e => absurd c11 (w_m_eq e)) (fun _ => (wi_aload0 fField_work_51 (wi_getf210 fField_work_52 (wi_iload1 fField_work_53 (wi_dup2 fField_work_54 (wi_iald1004 fField_work_55 h.1 h.2.1 (wi_bipush fField_work_56 (wi_isub fField_work_57 ((((((((h.2.2.2 _ rfl).2 c15).1 c14) _ rfl).1 c13).2 c11).1 c10).2 _ rfl).1 (wi_iast1004 fField_work_58 h.1 h.2.1 (wi_aload0 fField_work_59 (wi_iload1 fField_work_60 (wi_iload3 fField_work_61 (wi_call3 fField_work_62 (Nat.le_of_ble_eq_true rfl) (k_Field_cut (((((((((h.2.2.2 _ rfl).2 c15).1 c14) _ rfl).1 c13).2 c11).1 c10).2 _ rfl).2 _ rfl).1 (fun y8 τ9 eτ9 => (wi_ret1 fField_work_63 ((((((((((h.2.2.2 _ rfl).2 c15).1 c14) _ rfl).1 c13).2 c11).1 c10).2 _ rfl).2 _ rfl).2 y8 τ9 eτ9)))))))))))))))))))))))))))) (fun c10 => (wi_bipush fField_work_39 (wi_ret1 fField_work_40 (((((((h.2.2.2 _ rfl).2 c15).1 c14) _ rfl).1 c13).2 c11).2 c10))))))))))))) (fun c13 => (wi_aload0 fField_work_25 (wi_getf211 fField_work_26 (wi_iload1 fField_work_27 (wi_bipush fField_work_28 (wi_iast1004 fField_work_29 h.1 h.2.1 (wi_bipush fField_work_30 (wi_ret1 fField_work_31 ((((((h.2.2.2 _ rfl).2 c15).1 c14) _ rfl).2 c13) _ rfl)))))))))))))))))))) (fun c14 => (wi_bipush fField_work_13 (wi_ret1 fField_work_14 (((h.2.2.2 _ rfl).2 c15).2 c14))))))))))))))))))))
theorem n_amt_congr {A B : w_M} {r i : Nat} (h1 : B 1 = A 1) (h3 : B 3 = A 3) (h9 : B 9 = A 9) : n_amt B r i = n_amt A r i := by
  unfold n_amt n_pc
  rw [h1, h3, h9]
set_option maxHeartbeats 1000000 in
theorem k_Field_work {xs : List Int} {d : Nat} {Q : Option w_V → w_M → Prop} {a : Nat} {x1 : Int} {x2 : Int} {σ : w_M} (hp : p_Field_work a x1 x2 σ) (hQ : ∀ (x : Int) (σ' : w_M), q_Field_work a x1 x2 σ x σ' → Q (some (.inl x)) σ') : w_Call (xs, d + 2) 42 [.inr (.inr (2, a)), .inl x1, .inl x2] σ Q := by
  refine w_Call_in (fun hms => ?_)
  obtain ⟨hok, ⟨r0, r1⟩, hc⟩ := hp
  obtain ⟨r, rfl⟩ := Int.eq_ofNat_of_zero_le r0
  have hn := n_ok.n hok
  have hs := n_ok.s hok
  have hr : r < (σ a 5).toNat := by omega
  have hrA : r < n_n (w_ab σ a) := hr
  have h2 := n_WF.r hok hr
  have rr : ∀ k, 3 ≤ k → k ≤ 7 → r < w_rl σ a k := fun k k1 k2 => by rw [w_rl37 k1 k2]; exact hr
  have e6 : σ (a + 6) r = w_ab σ a 6 r := w_rd (by decide) (rr 6 (by decide) (by decide))
  have e5 : σ (a + 5) r = w_ab σ a 5 r := w_rd (by decide) (rr 5 (by decide) (by decide))
  have e4 : σ (a + 4) r = w_ab σ a 4 r := w_rd (by decide) (rr 4 (by decide) (by decide))
  have hsn : n_s (w_ab σ a) ≤ 1000 := by rw [n_s_ab]; omega
  have h04 : w_ab σ a 0 4 = σ a 4 := rfl
  unfold q_Field_work at hQ
  rw [Int.toNat_natCast] at hQ
  refine bField_work_0 ⟨r0, by omega, ?_⟩
  rw [Int.toNat_natCast, e6]
  refine ⟨⟨hok, by omega, by omega⟩, ?_⟩
  intro y1 ey
  unfold v_Field_nearestWithYards at ey
  rcases n_near_cases (A := w_ab σ a) (f := w_ab σ a 6 r) (by omega) hsn with ⟨g1, g2⟩ | ⟨i, g1, g2, g3⟩
  · have hw : n_work (w_ab σ a) r x2 = w_ab σ a := by unfold n_work; rw [if_pos g1]
    have hl : n_lost (w_ab σ a) r x2 = 0 := by unfold n_lost; rw [if_pos g1]
    have fin : Q (some (.inl 0)) σ := hQ 0 σ ⟨hw.symm, by rw [hw]; omega, w_fr.rfl', by rw [hl]; exact (w_wr_0 (hms _ _)).symm, rfl⟩
    exact ⟨fun _ => fin, fun c => by omega⟩
  · rw [n_s_ab] at g1
    have hne : ¬ n_near (w_ab σ a) (w_ab σ a 6 r) = -4 := by omega
    have hit : (n_near (w_ab σ a) (w_ab σ a 6 r)).toNat = i := by rw [g2]; exact Int.toNat_natCast i
    refine ⟨fun c => by omega, fun c => ⟨fun c2 => ?_, fun c2 => by omega⟩⟩
    intro τ2 t2
    rw [← ey] at g2 hit hne
    have z2 : τ2 a = σ a := by rw [t2]; exact w_up_ne (by omega)
    have A2 : w_ab τ2 a = w_up (w_ab σ a) 6 r y1 := by rw [t2]; exact w_ab_up (by decide) (by decide) (rr 6 (by decide) (by decide))
    have rr2 : ∀ k, 3 ≤ k → k ≤ 7 → r < w_rl τ2 a k := fun k k1 k2 => by rw [w_rl37 k1 k2, z2]; exact hr
    have f5 : τ2 (a + 5) r = w_ab σ a 5 r := by rw [t2, w_up_ne (by omega)]; exact e5
    have f4 : τ2 (a + 4) r = w_ab σ a 4 r := by rw [t2, w_up_ne (by omega)]; exact e4
    have F2 : w_fr σ τ2 a (a + 9) := by rw [t2]; exact w_fr.up0 (by omega) (by omega)
    rw [f5, f4]
    have cutting : x2 = 0 ∨ 0 < w_ab σ a 4 r → ¬ w_ab σ a 5 r = 0 → ∀ τ, w_ab τ a = w_up (w_up (w_up (w_ab σ a) 6 r y1) 5 r (w_ab σ a 5 r - 1)) 4 r (w_ab σ a 4 r - x2) → w_fr σ τ a (a + 9) → τ a 15 = σ a 15 → τ a 6 = σ a 6 → p_Field_cut a r y1 τ ∧ ∀ (y : Int) (τ' : w_M), q_Field_cut a r y1 τ y τ' → Q (some (.inl y)) τ' := by
      intro ho h5 τ At Ft l15 l6
      have hw : n_work (w_ab σ a) r x2 = n_cut (w_ab τ a) r i := by
        unfold n_work
        rw [← ey, if_neg hne, if_neg h5, if_pos ho, hit, At]
      have hl : n_lost (w_ab σ a) r x2 = w_ab σ a 3 r - n_amt (w_ab σ a) r i := by
        unfold n_lost
        rw [← ey, if_neg hne, if_neg h5, if_pos ho, hit]
      have W : n_WF (w_ab τ a) := by
        rw [At]
        refine n_WF_up (n_WF_up (n_WF_up hok ?_ ?_ ?_ ?_ ?_ ?_ ?_ ?_) ?_ ?_ ?_ ?_ ?_ ?_ ?_ ?_) ?_ ?_ ?_ ?_ ?_ ?_ ?_ ?_ <;> (intros; omega)
      have x04 : τ a 4 = σ a 4 := by
        have : w_ab τ a 0 4 = σ a 4 := by rw [At, w_up_ne (by omega), w_up_ne (by omega), w_up_ne (by omega)]; rfl
        exact this
      have x05 : τ a 5 = σ a 5 := by
        have : w_ab τ a 0 5 = σ a 5 := by rw [At, w_up_ne (by omega), w_up_ne (by omega), w_up_ne (by omega)]; rfl
        exact this
      have ea : n_amt (w_ab τ a) r i = n_amt (w_ab σ a) r i := n_amt_congr (by rw [At, w_up_ne (by omega), w_up_ne (by omega), w_up_ne (by omega)]) (by rw [At, w_up_ne (by omega), w_up_ne (by omega), w_up_ne (by omega)]) (by rw [At, w_up_ne (by omega), w_up_ne (by omega), w_up_ne (by omega)])
      have e3 : w_ab τ a 3 = w_ab σ a 3 := by rw [At, w_up_ne (by omega), w_up_ne (by omega), w_up_ne (by omega)]
      refine ⟨⟨W, by rw [x05]; exact ⟨r0, r1⟩, by rw [x04]; exact ⟨c, c2⟩⟩, fun y τ' hq => ?_⟩
      obtain ⟨q1, q2, q3, q4, q5⟩ := hq
      rw [Int.toNat_natCast, show y1.toNat = i from hit] at q1 q2 q4
      refine hQ y τ' ⟨by rw [hw]; exact q1, ?_, Ft.tr q3, ?_, q5.trans l6⟩
      · rw [hw, n_cut_sd (by show i < (τ a 4).toNat; rw [x04]; exact g1), q2]
        have : n_sd (w_ab τ a) = n_sd (w_ab σ a) := by rw [At, n_sd_up (by decide) (by omega), n_sd_up (by decide) (by omega), n_sd_up (by decide) (by omega)]
        omega
      · rw [q4, hl, l15, ea, e3]
    refine ⟨fun h5 => ⟨fun hx => ⟨⟨by omega, by omega⟩, ?_⟩, fun hx => ⟨fun ho => ⟨⟨by omega, by omega⟩, ?_⟩, fun ho => ?_⟩⟩, fun h5 => ?_⟩
    · intro τ3 t3
      have A3 : w_ab τ3 a = w_up (w_ab τ2 a) 5 r (w_ab σ a 5 r - 1) := by rw [t3]; exact w_ab_up (by decide) (by decide) (rr2 5 (by decide) (by decide))
      refine cutting (Or.inl hx) h5 τ3 ?_ (by rw [t3]; exact F2.up (by omega) (by omega)) (by rw [t3, w_up_ne (by omega), z2]) (by rw [t3, w_up_ne (by omega), z2])
      rw [A3, A2, hx, Int.sub_zero]
      refine (w_up_same ?_).symm
      rw [w_up_ne (by omega), w_up_ne (by omega)]
    · intro τ6 t6
      have A6 : w_ab τ6 a = w_up (w_ab τ2 a) 5 r (w_ab σ a 5 r - 1) := by rw [t6]; exact w_ab_up (by decide) (by decide) (rr2 5 (by decide) (by decide))
      have z6 : τ6 a = σ a := by rw [t6, w_up_ne (by omega)]; exact z2
      have g4 : τ6 (a + 4) r = w_ab σ a 4 r := by rw [t6, w_up_ne (by omega)]; exact f4
      rw [g4]
      refine ⟨⟨by omega, by omega⟩, ?_⟩
      intro τ7 t7
      have hx1 : x2 = 1 := hc.resolve_left hx
      have A7 : w_ab τ7 a = w_up (w_ab τ6 a) 4 r (w_ab σ a 4 r - 1) := by rw [t7]; exact w_ab_up (by decide) (by decide) (by rw [w_rl37 (by decide) (by decide), z6]; exact hr)
      refine cutting (Or.inr (by omega)) h5 τ7 ?_ (by rw [t7, t6]; exact (F2.up (by omega) (by omega)).up (by omega) (by omega)) (by rw [t7, w_up_ne (by omega), z6]) (by rw [t7, w_up_ne (by omega), z6])
      rw [A7, A6, A2, hx1]
    · have hw : n_work (w_ab σ a) r x2 = w_up (w_ab σ a) 6 r y1 := by
        unfold n_work
        rw [← ey, if_neg hne, if_neg h5, if_neg (by omega)]
      have hl : n_lost (w_ab σ a) r x2 = 0 := by
        unfold n_lost
        rw [← ey, if_neg hne, if_neg h5, if_neg (by omega)]
      refine hQ 0 τ2 ⟨by rw [hw]; exact A2, by rw [hw, n_sd_up (by decide) (by omega)]; omega, F2, by rw [hl, z2]; exact (w_wr_0 (hms _ _)).symm, by rw [z2]⟩
    · intro τ12 t12
      have A12 : w_ab τ12 a = w_up (w_ab τ2 a) 5 r 3 := by rw [t12]; exact w_ab_up (by decide) (by decide) (rr2 5 (by decide) (by decide))
      have hw : n_work (w_ab σ a) r x2 = w_up (w_up (w_ab σ a) 6 r y1) 5 r 3 := by
        unfold n_work
        rw [← ey, if_neg hne, if_pos h5]
      have hl : n_lost (w_ab σ a) r x2 = 0 := by
        unfold n_lost
        rw [← ey, if_neg hne, if_pos h5]
      refine hQ 0 τ12 ⟨by rw [hw, A12, A2], by rw [hw, n_sd_up (by decide) (by omega), n_sd_up (by decide) (by omega)]; omega, by rw [t12]; exact F2.up (by omega) (by omega), by rw [hl, t12, w_up_ne (by omega), z2]; exact (w_wr_0 (hms _ _)).symm, by rw [t12, w_up_ne (by omega), z2]⟩
end
section
/-! A Field's hours; copies -/
noncomputable def p_Field_passHour (a : Nat) (c : Int) (σ : w_M) : Prop := n_ok σ a ∧ σ a 1 < σ a 0 ∧ (c = 0 ∨ c = 1)
noncomputable def q_Field_passHour (a : Nat) (c : Int) (σ : w_M) (x : Int) (σ' : w_M) : Prop := w_ab σ' a = n_hour (w_ab σ a) c ∧ x = n_sd (w_ab σ a) - n_sd (n_hour (w_ab σ a) c) ∧ w_fr σ σ' a (a + 9) ∧ σ' a 15 = w_wr (σ a 15 + n_lostF (w_ab σ a) c (n_n (w_ab σ a))) ∧ σ' a 6 = σ a 6
theorem fField_passHour_0 : w_fe am_c41 0 1 (.bipush 0) := ⟨rfl, rfl⟩
theorem fField_passHour_1 : w_fe am_c41 1 2 (.istore 2) := ⟨rfl, rfl⟩
theorem fField_passHour_2 : w_fe am_c41 2 3 (.bipush 0) := ⟨rfl, rfl⟩
theorem fField_passHour_3 : w_fe am_c41 3 4 (.istore 3) := ⟨rfl, rfl⟩
theorem fField_passHour_4 : w_fe am_c41 4 5 (.iload 3) := ⟨rfl, rfl⟩
theorem fField_passHour_5 : w_fe am_c41 5 6 (.aload 0) := ⟨rfl, rfl⟩
theorem fField_passHour_6 : w_fe am_c41 6 7 (.getfield 205) := ⟨rfl, rfl⟩
theorem fField_passHour_7 : w_ic am_c41 7 8 .ge 17 := ⟨rfl, rfl⟩
theorem fField_passHour_8 : w_fe am_c41 8 9 (.iload 2) := ⟨rfl, rfl⟩
theorem fField_passHour_9 : w_fe am_c41 9 10 (.aload 0) := ⟨rfl, rfl⟩
theorem fField_passHour_10 : w_fe am_c41 10 11 (.iload 3) := ⟨rfl, rfl⟩
theorem fField_passHour_11 : w_fe am_c41 11 12 (.iload 1) := ⟨rfl, rfl⟩
theorem fField_passHour_12 : w_fe am_c41 12 13 (.invokestatic 42) := ⟨rfl, rfl⟩
theorem fField_passHour_13 : w_fe am_c41 13 14 (.iadd) := ⟨rfl, rfl⟩
theorem fField_passHour_14 : w_fe am_c41 14 15 (.istore 2) := ⟨rfl, rfl⟩
theorem fField_passHour_15 : w_fe am_c41 15 16 (.iinc 3 1) := ⟨rfl, rfl⟩
theorem fField_passHour_16 : w_gt am_c41 16 4 := rfl
theorem fField_passHour_17 : w_fe am_c41 17 18 (.aload 0) := ⟨rfl, rfl⟩
theorem fField_passHour_18 : w_fe am_c41 18 19 (.dup) := ⟨rfl, rfl⟩
theorem fField_passHour_19 : w_fe am_c41 19 20 (.getfield 201) := ⟨rfl, rfl⟩
theorem fField_passHour_20 : w_fe am_c41 20 21 (.bipush 1) := ⟨rfl, rfl⟩
theorem fField_passHour_21 : w_fe am_c41 21 22 (.iadd) := ⟨rfl, rfl⟩
theorem fField_passHour_22 : w_fe am_c41 22 23 (.putfield 201) := ⟨rfl, rfl⟩
theorem fField_passHour_23 : w_fe am_c41 23 24 (.iload 2) := ⟨rfl, rfl⟩
theorem fField_passHour_24 : w_fe am_c41 24 25 (.ireturn) := ⟨rfl, rfl⟩
noncomputable def LField_passHour_4 (xs : List Int) (d : Nat) (Q : Option w_V → w_M → Prop) (r0 : Nat) (v1 : Int) (v2 : Int) (v3 : Int) (σ : w_M) : Prop := w_Ex (xs, d) 1 am_c41 Q 4 [some (.inr (.inr (2, r0))), some (.inl v1), some (.inl v2), some (.inl v3)] [] σ
set_option maxRecDepth 20000 in
theorem bField_passHour_0 {xs : List Int} {d : Nat} {Q : Option w_V → w_M → Prop} {a : Nat} {x1 : Int} {σ : w_M}
    (h : LField_passHour_4 xs (d + 3) Q a x1 0 0 σ) : w_Call (xs, (d + 3)) 41 [.inr (.inr (2, a)), .inl x1] σ Q :=
  (w_mk (mid := 41) (by decide) rfl rfl rfl rfl rfl (Nat.le_of_ble_eq_true rfl) ⟨rfl, Or.inl (by decide)⟩ (wi_bipush fField_passHour_0 (wi_istore2 fField_passHour_1 trivial (wi_bipush fField_passHour_2 (wi_istore3 fField_passHour_3 trivial h)))))
set_option maxRecDepth 20000 in
theorem bField_passHour_4 {xs : List Int} {d : Nat} {Q : Option w_V → w_M → Prop} {r0 : Nat} {v1 : Int} {v2 : Int} {v3 : Int} {σ : w_M}
    (h : ((σ r0 5) ≤ v3 → (w_in ((σ r0 1) + 1) ∧ (∀ (τ1 : w_M), τ1 = w_up σ r0 1 ((σ r0 1) + 1) → Q (some (.inl v2)) τ1))) ∧ (v3 < (σ r0 5) → (p_Field_work r0 v3 v1 σ ∧ (∀ (y2 : Int) (τ3 : w_M), q_Field_work r0 v3 v1 σ y2 τ3 → (w_in (v2 + y2) ∧ (∀ (y4 : Int), y4 = (v2 + y2) → (w_in (v3 + 1) ∧ LField_passHour_4 xs (d + 3) Q r0 v1 y4 (v3 + 1) τ3))))))) : LField_passHour_4 xs (d + 3) Q r0 v1 v2 v3 σ :=
  (wi_iload3 fField_passHour_4 (wi_aload0 fField_passHour_5 (wi_getf205 fField_passHour_6 (wi_ic_ge fField_passHour_7 (fun c5 => (wi_aload0 fField_passHour_17 (wi_dup_a fField_passHour_18 (wi_getf201 fField_passHour_19 (wi_bipush fField_passHour_20 (wi_iadd fField_passHour_21 (h.1 c5).1 (wi_putf201 fField_passHour_22 (wi_iload2 fField_passHour_23 (wi_ret1 fField_passHour_24 ((h.1 c5).2 _ rfl)))))))))) (fun c5 => (wi_iload2 fField_passHour_8 (wi_aload0 fField_passHour_9 (wi_iload3 fField_passHour_10 (wi_iload1 fField_passHour_11 (wi_call3 fField_passHour_12 (Nat.le_of_ble_eq_true rfl) (k_Field_work (h.2 c5).1 (fun y2 τ3 eτ3 => (wi_iadd fField_passHour_13 ((h.2 c5).2 y2 τ3 eτ3).1 (wi_istore2 fField_passHour_14 trivial (wi_iinc3 fField_passHour_15 trivial (((h.2 c5).2 y2 τ3 eτ3).2 _ rfl).1 (wi_goto fField_passHour_16 (((h.2 c5).2 y2 τ3 eτ3).2 _ rfl).2))))))))))))))))
theorem k_Field_passHour {xs : List Int} {d : Nat} {Q : Option w_V → w_M → Prop} {a : Nat} {x1 : Int} {σ : w_M} (hp : p_Field_passHour a x1 σ) (hQ : ∀ (x : Int) (σ' : w_M), q_Field_passHour a x1 σ x σ' → Q (some (.inl x)) σ') : w_Call (xs, d + 3) 41 [.inr (.inr (2, a)), .inl x1] σ Q := by
  refine w_Call_in (fun hms => ?_)
  obtain ⟨hok, hh, hc⟩ := hp
  have hn := n_ok.n hok
  have hrs := n_ok.hrs hok
  have hr := n_ok.hr hok
  refine bField_passHour_0 ?_
  refine (w_loop (n := (σ a 5).toNat) (P := fun k => ∀ (τ : w_M) (v : Int), w_ab τ a = n_hourF (w_ab σ a) x1 k → w_fr σ τ a (a + 9) → τ a 15 = w_wr (σ a 15 + n_lostF (w_ab σ a) x1 k) → v = n_sd (w_ab σ a) - n_sd (n_hourF (w_ab σ a) x1 k) → τ a 6 = σ a 6 → LField_passHour_4 xs (d + 3) Q a x1 v (k : Int) τ) ?_ ?_) σ 0 rfl w_fr.rfl' (w_wr_0 (hms _ _)).symm (by simp [n_hourF]) rfl
  · intro τ v A1 F1 l1 ev m6
    obtain ⟨g1, g2, g3, g4, g5⟩ := n_hourF_all hok hc (n_n (w_ab σ a)) (Nat.le_refl _)
    have A1' : w_ab τ a = n_hourF (w_ab σ a) x1 (n_n (w_ab σ a)) := A1
    rw [← A1'] at g1 g2 g3 g4
    have z1 : τ a 1 = σ a 1 := g3
    have z5 : τ a 5 = σ a 5 := g2.1 5 (by decide) (by decide)
    refine bField_passHour_4 ⟨fun _ => ⟨by rw [z1]; exact ⟨by omega, by omega⟩, fun τ1 t1 => hQ _ _ ?_⟩, fun h => by omega⟩
    have e : w_ab τ1 a = n_hour (w_ab σ a) x1 := by
      rw [t1, w_ab_up0 (by decide), A1', z1]
      rfl
    refine ⟨e, ?_, by rw [t1]; exact F1.up (by omega) (by omega), by rw [t1, w_up_j (by decide)]; exact l1, by rw [t1, w_up_j (by decide)]; exact m6⟩
    rw [ev]
    unfold n_hour
    rw [n_sd_up (by decide) (by decide)]
    rfl
  · intro k hk ih τ v A1 F1 l1 ev m6
    obtain ⟨g1, g2, g3, g4, g5⟩ := n_hourF_all hok hc k (Nat.le_of_lt hk)
    rw [← A1] at g1 g2 g3 g4
    have z5 : τ a 5 = σ a 5 := g2.1 5 (by decide) (by decide)
    have b1 := n_sd_le hok
    have b2 := n_sd_le g1
    refine bField_passHour_4 ⟨fun h => by omega, fun h => ⟨⟨g1, ⟨by omega, by omega⟩, hc⟩, ?_⟩⟩
    intro y2 τ3 hq
    obtain ⟨q1, q2, q3, q4, q5⟩ := hq
    rw [Int.toNat_natCast] at q1 q2 q4
    have w1 := n_work_all g1 (r := k) (by show k < (τ a 5).toNat; rw [z5]; exact hk) hc
    have b3 := n_sd_le w1.1
    have hw : n_hourF (w_ab σ a) x1 (k + 1) = n_work (w_ab τ a) k x1 := by simp only [n_hourF]; rw [A1]
    rw [← A1] at ev
    refine ⟨⟨by omega, by omega⟩, fun y4 e4 => ⟨⟨by omega, by omega⟩, ?_⟩⟩
    rw [← w_cs1]
    refine ih τ3 y4 (by rw [hw]; exact q1) (F1.tr q3) ?_ (by rw [hw]; omega) (q5.trans m6)
    rw [q4, l1, w_wr_wr]
    simp only [n_lostF]
    rw [← A1]
noncomputable def p_Field_pass (a : Nat) (n : Int) (σ : w_M) : Prop := n_ok σ a ∧ (0 ≤ n ∧ n ≤ 12)
noncomputable def q_Field_pass (a : Nat) (n : Int) (σ : w_M) (x : Int) (σ' : w_M) : Prop := w_ab σ' a = n_goes (w_ab σ a) n.toNat ∧ x = n_sd (w_ab σ a) - n_sd (n_goes (w_ab σ a) n.toNat) ∧ w_fr σ σ' a (a + 9) ∧ σ' a 6 = σ a 6
theorem fField_pass_0 : w_fe am_c40 0 1 (.bipush 0) := ⟨rfl, rfl⟩
theorem fField_pass_1 : w_fe am_c40 1 2 (.istore 2) := ⟨rfl, rfl⟩
theorem fField_pass_2 : w_fe am_c40 2 3 (.bipush 0) := ⟨rfl, rfl⟩
theorem fField_pass_3 : w_fe am_c40 3 4 (.istore 3) := ⟨rfl, rfl⟩
theorem fField_pass_4 : w_fe am_c40 4 5 (.iload 3) := ⟨rfl, rfl⟩
theorem fField_pass_5 : w_fe am_c40 5 6 (.iload 1) := ⟨rfl, rfl⟩
theorem fField_pass_6 : w_ic am_c40 6 7 .ge 23 := ⟨rfl, rfl⟩
theorem fField_pass_7 : w_fe am_c40 7 8 (.aload 0) := ⟨rfl, rfl⟩
theorem fField_pass_8 : w_fe am_c40 8 9 (.getfield 201) := ⟨rfl, rfl⟩
theorem fField_pass_9 : w_fe am_c40 9 10 (.aload 0) := ⟨rfl, rfl⟩
theorem fField_pass_10 : w_fe am_c40 10 11 (.getfield 200) := ⟨rfl, rfl⟩
theorem fField_pass_11 : w_ic am_c40 11 12 .ge 23 := ⟨rfl, rfl⟩
theorem fField_pass_12 : w_fe am_c40 12 13 (.iload 2) := ⟨rfl, rfl⟩
theorem fField_pass_13 : w_fe am_c40 13 14 (.aload 0) := ⟨rfl, rfl⟩
theorem fField_pass_14 : w_fe am_c40 14 15 (.aload 0) := ⟨rfl, rfl⟩
theorem fField_pass_15 : w_fe am_c40 15 16 (.aload 0) := ⟨rfl, rfl⟩
theorem fField_pass_16 : w_fe am_c40 16 17 (.getfield 201) := ⟨rfl, rfl⟩
theorem fField_pass_17 : w_fe am_c40 17 18 (.invokestatic 29) := ⟨rfl, rfl⟩
theorem fField_pass_18 : w_fe am_c40 18 19 (.invokestatic 41) := ⟨rfl, rfl⟩
theorem fField_pass_19 : w_fe am_c40 19 20 (.iadd) := ⟨rfl, rfl⟩
theorem fField_pass_20 : w_fe am_c40 20 21 (.istore 2) := ⟨rfl, rfl⟩
theorem fField_pass_21 : w_fe am_c40 21 22 (.iinc 3 1) := ⟨rfl, rfl⟩
theorem fField_pass_22 : w_gt am_c40 22 4 := rfl
theorem fField_pass_23 : w_fe am_c40 23 24 (.iload 2) := ⟨rfl, rfl⟩
theorem fField_pass_24 : w_fe am_c40 24 25 (.ireturn) := ⟨rfl, rfl⟩
noncomputable def LField_pass_4 (xs : List Int) (d : Nat) (Q : Option w_V → w_M → Prop) (r0 : Nat) (v1 : Int) (v2 : Int) (v3 : Int) (σ : w_M) : Prop := w_Ex (xs, d) 1 am_c40 Q 4 [some (.inr (.inr (2, r0))), some (.inl v1), some (.inl v2), some (.inl v3)] [] σ
set_option maxRecDepth 20000 in
theorem bField_pass_0 {xs : List Int} {d : Nat} {Q : Option w_V → w_M → Prop} {a : Nat} {x1 : Int} {σ : w_M}
    (h : LField_pass_4 xs (d + 4) Q a x1 0 0 σ) : w_Call (xs, (d + 4)) 40 [.inr (.inr (2, a)), .inl x1] σ Q :=
  (w_mk (mid := 40) (by decide) rfl rfl rfl rfl rfl (Nat.le_of_ble_eq_true rfl) ⟨rfl, Or.inl (by decide)⟩ (wi_bipush fField_pass_0 (wi_istore2 fField_pass_1 trivial (wi_bipush fField_pass_2 (wi_istore3 fField_pass_3 trivial h)))))
set_option maxRecDepth 20000 in
theorem bField_pass_4 {xs : List Int} {d : Nat} {Q : Option w_V → w_M → Prop} {r0 : Nat} {v1 : Int} {v2 : Int} {v3 : Int} {σ : w_M}
    (h : (v1 ≤ v3 → Q (some (.inl v2)) σ) ∧ (v3 < v1 → (((σ r0 0) ≤ (σ r0 1) → Q (some (.inl v2)) σ) ∧ ((σ r0 1) < (σ r0 0) → (p_Field_passHour r0 (w_bi (¬ w_and (w_shr (σ r0 2) (σ r0 1)) 1 = 0)) σ ∧ (∀ (y1 : Int) (τ2 : w_M), q_Field_passHour r0 (w_bi (¬ w_and (w_shr (σ r0 2) (σ r0 1)) 1 = 0)) σ y1 τ2 → (w_in (v2 + y1) ∧ (∀ (y3 : Int), y3 = (v2 + y1) → (w_in (v3 + 1) ∧ LField_pass_4 xs (d + 4) Q r0 v1 y3 (v3 + 1) τ2))))))))) : LField_pass_4 xs (d + 4) Q r0 v1 v2 v3 σ :=
  (wi_iload3 fField_pass_4 (wi_iload1 fField_pass_5 (wi_ic_ge fField_pass_6 (fun c5 => (wi_iload2 fField_pass_23 (wi_ret1 fField_pass_24 (h.1 c5)))) (fun c5 => (wi_aload0 fField_pass_7 (wi_getf201 fField_pass_8 (wi_aload0 fField_pass_9 (wi_getf200 fField_pass_10 (wi_ic_ge fField_pass_11 (fun c4 => (wi_iload2 fField_pass_23 (wi_ret1 fField_pass_24 ((h.2 c5).1 c4)))) (fun c4 => (wi_iload2 fField_pass_12 (wi_aload0 fField_pass_13 (wi_aload0 fField_pass_14 (wi_aload0 fField_pass_15 (wi_getf201 fField_pass_16 (wi_call2 fField_pass_17 (Nat.le_of_ble_eq_true rfl) (k_Field_isCloudy (wi_call2 fField_pass_18 (Nat.le_of_ble_eq_true rfl) (k_Field_passHour ((h.2 c5).2 c4).1 (fun y1 τ2 eτ2 => (wi_iadd fField_pass_19 (((h.2 c5).2 c4).2 y1 τ2 eτ2).1 (wi_istore2 fField_pass_20 trivial (wi_iinc3 fField_pass_21 trivial ((((h.2 c5).2 c4).2 y1 τ2 eτ2).2 _ rfl).1 (wi_goto fField_pass_22 ((((h.2 c5).2 c4).2 y1 τ2 eτ2).2 _ rfl).2))))))))))))))))))))))))
theorem k_Field_pass {xs : List Int} {d : Nat} {Q : Option w_V → w_M → Prop} {a : Nat} {x1 : Int} {σ : w_M} (hp : p_Field_pass a x1 σ) (hQ : ∀ (x : Int) (σ' : w_M), q_Field_pass a x1 σ x σ' → Q (some (.inl x)) σ') : w_Call (xs, d + 4) 40 [.inr (.inr (2, a)), .inl x1] σ Q := by
  obtain ⟨hok, n0, n1⟩ := hp
  have hrs := n_ok.hrs hok
  have hr := n_ok.hr hok
  refine bField_pass_0 ?_
  refine (w_loop (n := x1.toNat) (P := fun k => ∀ (τ : w_M) (v : Int), w_ab τ a = n_goes (w_ab σ a) k → w_fr σ τ a (a + 9) → v = n_sd (w_ab σ a) - n_sd (n_goes (w_ab σ a) k) → τ a 6 = σ a 6 → LField_pass_4 xs (d + 4) Q a x1 v (k : Int) τ) ?_ ?_) σ 0 rfl w_fr.rfl' (by simp [n_goes]) rfl
  · intro τ v A1 F1 ev m6
    exact bField_pass_4 ⟨fun _ => hQ _ _ ⟨A1, ev, F1, m6⟩, fun h => by omega⟩
  · intro k hk ih τ v A1 F1 ev m6
    obtain ⟨g1, g2, g3, g4⟩ := n_goes_all hok k
    rw [← A1] at g1 g2 g3 g4 ev
    have b1 := n_sd_le hok
    have b2 := n_sd_le g1
    refine bField_pass_4 ⟨fun h => by omega, fun h => ⟨fun h2 => ?_, fun h2 => ?_⟩⟩
    · have he : n_goes (w_ab σ a) x1.toNat = n_goes (w_ab σ a) k := by
        have := n_goes_end (A := w_ab σ a) (k := k) (by rw [← A1]; show ¬ τ a 1 < τ a 0; omega) (x1.toNat - k)
        rw [show k + (x1.toNat - k) = x1.toNat by omega] at this
        exact this
      exact hQ _ _ ⟨by rw [he]; exact A1, by rw [he, ← A1]; exact ev, F1, m6⟩
    · rw [w_bi_and1]
      have hc : n_cl (w_ab τ a) (w_ab τ a 0 1) = w_and (w_shr (τ a 2) (τ a 1)) 1 := rfl
      rw [← hc]
      refine ⟨⟨g1, h2, n_cl01 _ _⟩, ?_⟩
      intro y1 τ2 hq
      obtain ⟨q1, q2, q3, q4, q5⟩ := hq
      have w1 := n_on_all g1 h2
      have b3 := n_sd_le w1.1
      have hw : n_goes (w_ab σ a) (k + 1) = n_on (w_ab τ a) := by
        simp only [n_goes]
        rw [← A1, if_pos (show w_ab τ a 0 1 < w_ab τ a 0 0 from h2)]
      have q2' : y1 = n_sd (w_ab τ a) - n_sd (n_on (w_ab τ a)) := q2
      refine ⟨⟨by omega, by omega⟩, fun y3 e3 => ⟨⟨by omega, by omega⟩, ?_⟩⟩
      rw [← w_cs1]
      exact ih τ2 y3 (by rw [hw]; exact q1) (F1.tr q3) (by rw [hw]; omega) (q5.trans m6)
/-- what is lost in the first k hours -/
noncomputable def n_lostT (A : w_M) : Nat → Int
  | 0 => 0
  | k + 1 => n_lostT A k + n_lostF (n_goes A k) (n_cl (n_goes A k) ((n_goes A k) 0 1)) (n_n (n_goes A k))
noncomputable def p_Field_passUntilDone (a : Nat) (most _spare : Int) (σ : w_M) : Prop := n_ok σ a ∧ (0 ≤ most ∧ most ≤ 12)
/-- j hours go by; all but the last state stand; at the end it is done, or it is given up, and why -/
noncomputable def n_pud (A : w_M) (most spare x : Int) (j : Nat) : Prop := (j : Int) ≤ most ∧ A 0 1 + j ≤ A 0 0 ∧ (∀ i, i < j → 0 < n_sd (n_goes A i)) ∧ ((x = j ∧ n_sd (n_goes A j) = 0) ∨ (x = -4 ∧ 0 < n_sd (n_goes A j) ∧ ((j : Int) = most ∨ A 0 1 + j = A 0 0 ∨ spare < n_lostT A j)))
noncomputable def q_Field_passUntilDone (a : Nat) (most spare : Int) (σ : w_M) (x : Int) (σ' : w_M) : Prop := ∃ j : Nat, w_ab σ' a = n_goes (w_ab σ a) j ∧ n_pud (w_ab σ a) most spare x j ∧ w_fr σ σ' a (a + 9)
theorem fField_passUntilDone_0 : w_fe am_c45 0 1 (.aload 0) := ⟨rfl, rfl⟩
theorem fField_passUntilDone_1 : w_fe am_c45 1 2 (.invokestatic 35) := ⟨rfl, rfl⟩
theorem fField_passUntilDone_2 : w_fe am_c45 2 3 (.istore 3) := ⟨rfl, rfl⟩
theorem fField_passUntilDone_3 : w_fe am_c45 3 4 (.aload 0) := ⟨rfl, rfl⟩
theorem fField_passUntilDone_4 : w_fe am_c45 4 5 (.bipush 0) := ⟨rfl, rfl⟩
theorem fField_passUntilDone_5 : w_fe am_c45 5 6 (.putfield 215) := ⟨rfl, rfl⟩
theorem fField_passUntilDone_6 : w_fe am_c45 6 7 (.bipush 0) := ⟨rfl, rfl⟩
theorem fField_passUntilDone_7 : w_fe am_c45 7 8 (.istore 4) := ⟨rfl, rfl⟩
theorem fField_passUntilDone_8 : w_fe am_c45 8 9 (.iload 4) := ⟨rfl, rfl⟩
theorem fField_passUntilDone_9 : w_fe am_c45 9 10 (.iload 1) := ⟨rfl, rfl⟩
theorem fField_passUntilDone_10 : w_ic am_c45 10 11 .ge 39 := ⟨rfl, rfl⟩
theorem fField_passUntilDone_11 : w_fe am_c45 11 12 (.iload 3) := ⟨rfl, rfl⟩
theorem fField_passUntilDone_12 : w_if am_c45 12 13 .le 39 := ⟨rfl, rfl⟩
theorem fField_passUntilDone_13 : w_fe am_c45 13 14 (.aload 0) := ⟨rfl, rfl⟩
theorem fField_passUntilDone_14 : w_fe am_c45 14 15 (.getfield 215) := ⟨rfl, rfl⟩
theorem fField_passUntilDone_15 : w_fe am_c45 15 16 (.iload 2) := ⟨rfl, rfl⟩
theorem fField_passUntilDone_16 : w_ic am_c45 16 17 .gt 39 := ⟨rfl, rfl⟩
theorem fField_passUntilDone_17 : w_fe am_c45 17 18 (.aload 0) := ⟨rfl, rfl⟩
theorem fField_passUntilDone_18 : w_fe am_c45 18 19 (.getfield 201) := ⟨rfl, rfl⟩
theorem fField_passUntilDone_19 : w_fe am_c45 19 20 (.aload 0) := ⟨rfl, rfl⟩
theorem fField_passUntilDone_20 : w_fe am_c45 20 21 (.getfield 200) := ⟨rfl, rfl⟩
theorem fField_passUntilDone_21 : w_ic am_c45 21 22 .ge 39 := ⟨rfl, rfl⟩
theorem fField_passUntilDone_22 : w_fe am_c45 22 23 (.iload 3) := ⟨rfl, rfl⟩
theorem fField_passUntilDone_23 : w_fe am_c45 23 24 (.aload 0) := ⟨rfl, rfl⟩
theorem fField_passUntilDone_24 : w_fe am_c45 24 25 (.aload 0) := ⟨rfl, rfl⟩
theorem fField_passUntilDone_25 : w_fe am_c45 25 26 (.aload 0) := ⟨rfl, rfl⟩
theorem fField_passUntilDone_26 : w_fe am_c45 26 27 (.getfield 201) := ⟨rfl, rfl⟩
theorem fField_passUntilDone_27 : w_fe am_c45 27 28 (.invokestatic 29) := ⟨rfl, rfl⟩
theorem fField_passUntilDone_28 : w_fe am_c45 28 29 (.invokestatic 41) := ⟨rfl, rfl⟩
theorem fField_passUntilDone_29 : w_fe am_c45 29 30 (.isub) := ⟨rfl, rfl⟩
theorem fField_passUntilDone_30 : w_fe am_c45 30 31 (.istore 3) := ⟨rfl, rfl⟩
theorem fField_passUntilDone_31 : w_fe am_c45 31 32 (.iload 3) := ⟨rfl, rfl⟩
theorem fField_passUntilDone_32 : w_if am_c45 32 33 .ne 37 := ⟨rfl, rfl⟩
theorem fField_passUntilDone_33 : w_fe am_c45 33 34 (.iload 4) := ⟨rfl, rfl⟩
theorem fField_passUntilDone_34 : w_fe am_c45 34 35 (.bipush 1) := ⟨rfl, rfl⟩
theorem fField_passUntilDone_35 : w_fe am_c45 35 36 (.iadd) := ⟨rfl, rfl⟩
theorem fField_passUntilDone_36 : w_fe am_c45 36 37 (.ireturn) := ⟨rfl, rfl⟩
theorem fField_passUntilDone_37 : w_fe am_c45 37 38 (.iinc 4 1) := ⟨rfl, rfl⟩
theorem fField_passUntilDone_38 : w_gt am_c45 38 8 := rfl
theorem fField_passUntilDone_39 : w_fe am_c45 39 40 (.iload 3) := ⟨rfl, rfl⟩
theorem fField_passUntilDone_40 : w_if am_c45 40 41 .ne 43 := ⟨rfl, rfl⟩
theorem fField_passUntilDone_41 : w_fe am_c45 41 42 (.bipush 0) := ⟨rfl, rfl⟩
theorem fField_passUntilDone_42 : w_gt am_c45 42 44 := rfl
theorem fField_passUntilDone_43 : w_fe am_c45 43 44 (.bipush (-4)) := ⟨rfl, rfl⟩
theorem fField_passUntilDone_44 : w_fe am_c45 44 45 (.ireturn) := ⟨rfl, rfl⟩
noncomputable def LField_passUntilDone_8 (xs : List Int) (d : Nat) (Q : Option w_V → w_M → Prop) (r0 : Nat) (v1 : Int) (v2 : Int) (v3 : Int) (v4 : Int) (σ : w_M) : Prop := w_Ex (xs, d) 1 am_c45 Q 8 [some (.inr (.inr (2, r0))), some (.inl v1), some (.inl v2), some (.inl v3), some (.inl v4)] [] σ
set_option maxRecDepth 20000 in
theorem bField_passUntilDone_0 {xs : List Int} {d : Nat} {Q : Option w_V → w_M → Prop} {a : Nat} {x1 : Int} {x2 : Int} {σ : w_M}
    (h : p_Field_standing a σ ∧ (∀ (y1 : Int), y1 = v_Field_standing a σ → ∀ (τ2 : w_M), τ2 = w_up σ a 15 0 → LField_passUntilDone_8 xs (d + 4) Q a x1 x2 y1 0 τ2)) : w_Call (xs, (d + 4)) 45 [.inr (.inr (2, a)), .inl x1, .inl x2] σ Q :=
  (w_mk (mid := 45) (by decide) rfl rfl rfl rfl rfl (Nat.le_of_ble_eq_true rfl) ⟨rfl, Or.inl (by decide)⟩ (wi_aload0 fField_passUntilDone_0 (wi_call1 fField_passUntilDone_1 (Nat.le_of_ble_eq_true rfl) (k_Field_standing h.1 (wi_istore3 fField_passUntilDone_2 trivial (wi_aload0 fField_passUntilDone_3 (wi_bipush fField_passUntilDone_4 (wi_putf215 fField_passUntilDone_5 (wi_bipush fField_passUntilDone_6 (wi_istore4 fField_passUntilDone_7 trivial ((h.2 _ rfl) _ rfl)))))))))))
set_option maxRecDepth 20000 in
theorem bField_passUntilDone_8 {xs : List Int} {d : Nat} {Q : Option w_V → w_M → Prop} {r0 : Nat} {v1 : Int} {v2 : Int} {v3 : Int} {v4 : Int} {σ : w_M}
    (h : (v1 ≤ v4 → ((¬ v3 = 0 → Q (some (.inl (-4))) σ) ∧ (v3 = 0 → Q (some (.inl 0)) σ))) ∧ (v4 < v1 → ((v3 ≤ 0 → ((¬ v3 = 0 → Q (some (.inl (-4))) σ) ∧ (v3 = 0 → Q (some (.inl 0)) σ))) ∧ (0 < v3 → ((v2 < (σ r0 15) → ((¬ v3 = 0 → Q (some (.inl (-4))) σ) ∧ (v3 = 0 → Q (some (.inl 0)) σ))) ∧ ((σ r0 15) ≤ v2 → (((σ r0 0) ≤ (σ r0 1) → ((¬ v3 = 0 → Q (some (.inl (-4))) σ) ∧ (v3 = 0 → Q (some (.inl 0)) σ))) ∧ ((σ r0 1) < (σ r0 0) → (p_Field_passHour r0 (w_bi (¬ w_and (w_shr (σ r0 2) (σ r0 1)) 1 = 0)) σ ∧ (∀ (y5 : Int) (τ6 : w_M), q_Field_passHour r0 (w_bi (¬ w_and (w_shr (σ r0 2) (σ r0 1)) 1 = 0)) σ y5 τ6 → (w_in (v3 - y5) ∧ (∀ (y7 : Int), y7 = (v3 - y5) → ((¬ y7 = 0 → (w_in (v4 + 1) ∧ LField_passUntilDone_8 xs (d + 4) Q r0 v1 v2 y7 (v4 + 1) τ6)) ∧ (y7 = 0 → (w_in (v4 + 1) ∧ Q (some (.inl (v4 + 1))) τ6))))))))))))))) : LField_passUntilDone_8 xs (d + 4) Q r0 v1 v2 v3 v4 σ :=
  (wi_iload4 fField_passUntilDone_8 (wi_iload1 fField_passUntilDone_9 (wi_ic_ge fField_passUntilDone_10 (fun c12 => (wi_iload3 fField_passUntilDone_39 (wi_if_ne fField_passUntilDone_40 (fun c1 => (wi_bipush fField_passUntilDone_43 (wi_ret1 fField_passUntilDone_44 ((h.1 c12).1 c1)))) (fun c1 => (wi_bipush fField_passUntilDone_41 (wi_goto fField_passUntilDone_42 (wi_ret1 fField_passUntilDone_44 ((h.1 c12).2 c1)))))))) (fun c12 => (wi_iload3 fField_passUntilDone_11 (wi_if_le fField_passUntilDone_12 (fun c11 => (wi_iload3 fField_passUntilDone_39 (wi_if_ne fField_passUntilDone_40 (fun c2 => (wi_bipush fField_passUntilDone_43 (wi_ret1 fField_passUntilDone_44 (((h.2 c12).1 c11).1 c2)))) (fun c2 => (wi_bipush fField_passUntilDone_41 (wi_goto fField_passUntilDone_42 (wi_ret1 fField_passUntilDone_44 (((h.2 c12).1 c11).2 c2)))))))) (fun c11 => (wi_aload0 fField_passUntilDone_13 (wi_getf215 fField_passUntilDone_14 (wi_iload2 fField_passUntilDone_15 (wi_ic_gt fField_passUntilDone_16 (fun c10 => (wi_iload3 fField_passUntilDone_39 (wi_if_ne fField_passUntilDone_40 (fun c3 => (wi_bipush fField_passUntilDone_43 (wi_ret1 fField_passUntilDone_44 ((((h.2 c12).2 c11).1 c10).1 c3)))) (fun c3 => (wi_bipush fField_passUntilDone_41 (wi_goto fField_passUntilDone_42 (wi_ret1 fField_passUntilDone_44 ((((h.2 c12).2 c11).1 c10).2 c3)))))))) (fun c10 => (wi_aload0 fField_passUntilDone_17 (wi_getf201 fField_passUntilDone_18 (wi_aload0 fField_passUntilDone_19 (wi_getf200 fField_passUntilDone_20 (wi_ic_ge fField_passUntilDone_21 (fun c9 => (wi_iload3 fField_passUntilDone_39 (wi_if_ne fField_passUntilDone_40 (fun c4 => (wi_bipush fField_passUntilDone_43 (wi_ret1 fField_passUntilDone_44 (((((h.2 c12).2 c11).2 c10).1 c9).1 c4)))) (fun c4 => (wi_bipush fField_passUntilDone_41 (wi_goto fField_passUntilDone_42 (wi_ret1 fField_passUntilDone_44 (((((h.2 c12).2 c11).2 c10).1 c9).2 c4)))))))) (fun c9 => (wi_iload3 fField_passUntilDone_22 (wi_aload0 fField_passUntilDone_23 (wi_aload0 fField_passUntilDone_24 (wi_aload0 fField_passUntilDone_25 (wi_getf201 fField_passUntilDone_26 (wi_call2 fField_passUntilDone_27 (Nat.le_of_ble_eq_true rfl) (k_Field_isCloudy (wi_call2 fField_passUntilDone_28 (Nat.le_of_ble_eq_true rfl) (k_Field_passHour ((((h.2 c12).2 c11).2 c10).2 c9).1 (fun y5 τ6 eτ6 => (wi_isub fField_passUntilDone_29 (((((h.2 c12).2 c11).2 c10).2 c9).2 y5 τ6 eτ6).1 (wi_istore3 fField_passUntilDone_30 trivial (wi_iload3 fField_passUntilDone_31 (wi_if_ne fField_passUntilDone_32 (fun c8 => (wi_iinc4 fField_passUntilDone_37 trivial (((((((h.2 c12).2 c11).2 c10).2 c9).2 y5 τ6 eτ6).2 _ rfl).1 c8).1 (wi_goto fField_passUntilDone_38 (((((((h.2 c12).2 c11).2 c10).2 c9).2 y5 τ6 eτ6).2 _ rfl).1 c8).2))) (fun c8 => (wi_iload4 fField_passUntilDone_33 (wi_bipush fField_passUntilDone_34 (wi_iadd fField_passUntilDone_35 (((((((h.2 c12).2 c11).2 c10).2 c9).2 y5 τ6 eτ6).2 _ rfl).2 c8).1 (wi_ret1 fField_passUntilDone_36 (((((((h.2 c12).2 c11).2 c10).2 c9).2 y5 τ6 eτ6).2 _ rfl).2 c8).2)))))))))))))))))))))))))))))))))))))
set_option maxHeartbeats 1000000 in
theorem k_Field_passUntilDone {xs : List Int} {d : Nat} {Q : Option w_V → w_M → Prop} {a : Nat} {x1 : Int} {x2 : Int} {σ : w_M} (hp : p_Field_passUntilDone a x1 x2 σ) (hQ : ∀ (x : Int) (σ' : w_M), q_Field_passUntilDone a x1 x2 σ x σ' → Q (some (.inl x)) σ') : w_Call (xs, d + 4) 45 [.inr (.inr (2, a)), .inl x1, .inl x2] σ Q := by
  obtain ⟨hok, n0, n1⟩ := hp
  have hrs := n_ok.hrs hok
  have hr := n_ok.hr hok
  have b1 := n_sd_le hok
  refine bField_passUntilDone_0 ⟨hok, fun y1 e1 τ2 t2 => ?_⟩
  have z00 : w_ab σ a 0 0 = σ a 0 := rfl
  have z01 : w_ab σ a 0 1 = σ a 1 := rfl
  refine (w_loop (n := 13) (P := fun k => ∀ (τ : w_M) (v : Int), (k : Int) ≤ x1 → σ a 1 + k ≤ σ a 0 → w_ab τ a = n_goes (w_ab σ a) k → w_fr σ τ a (a + 9) → τ a 15 = n_lostT (w_ab σ a) k → (0 ≤ n_lostT (w_ab σ a) k ∧ n_lostT (w_ab σ a) k ≤ 36 * k) → (∀ i, i < k → 0 < n_sd (n_goes (w_ab σ a) i)) → (k = 0 ∨ 0 < v) → v = n_sd (n_goes (w_ab σ a) k) → LField_passUntilDone_8 xs (d + 4) Q a x1 x2 v (k : Int) τ) ?_ ?_) τ2 y1 (by omega) (by omega) (by rw [t2]; exact w_ab_lost) (by rw [t2]; exact w_fr.up0 (by omega) (by omega)) (by rw [t2, w_up_at]; rfl) (by simp [n_lostT]) (fun i hi => by omega) (Or.inl rfl) e1
  · intro τ v h1
    omega
  · intro k hk ih τ v h1 h2 A1 F1 l1 lb hst hv0 ev
    obtain ⟨g1, g2, g3, g4⟩ := n_goes_all hok k
    rw [← A1] at g1 g2 g3 g4
    have b2 := n_sd_le g1
    rw [A1] at b2
    have stop : ∀ τ', (x1 ≤ k ∨ v ≤ 0 ∨ x2 < τ a 15 ∨ τ a 0 ≤ τ a 1) → τ' = τ → (¬ v = 0 → Q (some (.inl (-4))) τ') ∧ (v = 0 → Q (some (.inl 0)) τ') := by
      intro τ' hw et
      subst et
      have z0 : τ' a 0 = σ a 0 := g2.1 0 (by decide) (by decide)
      have z1 : τ' a 1 = σ a 1 + k := by
        have e : w_ab τ' a 0 1 = τ' a 1 := rfl
        rw [e, if_pos (by rw [z00, z01]; omega)] at g3
        exact g3
      refine ⟨fun hv => hQ _ _ ⟨k, A1, ⟨h1, h2, hst, Or.inr ⟨rfl, by omega, ?_⟩⟩, F1⟩, fun hv => ?_⟩
      · rw [← l1, z00, z01]
        rcases hw with hw | hw | hw | hw
        · left; omega
        · omega
        · right; right; exact hw
        · right; left; omega
      · rcases hv0 with rfl | hv0
        · exact hQ _ _ ⟨0, A1, ⟨h1, h2, hst, Or.inl ⟨rfl, by omega⟩⟩, F1⟩
        · omega
    refine bField_passUntilDone_8 ⟨fun c => stop τ (Or.inl c) rfl, fun c => ⟨fun c2 => stop τ (Or.inr (Or.inl c2)) rfl, fun c2 => ⟨fun c3 => stop τ (Or.inr (Or.inr (Or.inl c3))) rfl, fun c3 => ⟨fun c4 => stop τ (Or.inr (Or.inr (Or.inr c4))) rfl, fun c4 => ?_⟩⟩⟩⟩
    rw [w_bi_and1]
    have hc : n_cl (w_ab τ a) (w_ab τ a 0 1) = w_and (w_shr (τ a 2) (τ a 1)) 1 := rfl
    rw [← hc]
    refine ⟨⟨g1, c4, n_cl01 _ _⟩, ?_⟩
    intro y5 τ6 hq
    obtain ⟨q1, q2, q3, q4, -⟩ := hq
    have w1 := n_on_all g1 c4
    have b3 := n_sd_le w1.1
    have z0 : τ a 0 = σ a 0 := g2.1 0 (by decide) (by decide)
    have z1 : τ a 1 = σ a 1 + k := by
      have e : w_ab τ a 0 1 = τ a 1 := rfl
      rw [e, if_pos (by rw [z00, z01]; omega)] at g3
      exact g3
    have hw : n_goes (w_ab σ a) (k + 1) = n_on (w_ab τ a) := by
      simp only [n_goes]
      rw [← A1, if_pos (show w_ab τ a 0 1 < w_ab τ a 0 0 from c4)]
    have q2' : y5 = n_sd (w_ab τ a) - n_sd (n_on (w_ab τ a)) := q2
    rw [← A1] at ev
    have hl := (n_hourF_all g1 (n_cl01 (w_ab τ a) (w_ab τ a 0 1)) (n_n (w_ab τ a)) (Nat.le_refl _)).2.2.2.2
    have hn4 : (n_n (w_ab τ a) : Int) ≤ 4 := by have := n_WF.n g1; unfold n_n; omega
    have hT : n_lostT (w_ab σ a) (k + 1) = n_lostT (w_ab σ a) k + n_lostF (w_ab τ a) (n_cl (w_ab τ a) (w_ab τ a 0 1)) (n_n (w_ab τ a)) := by
      simp only [n_lostT]
      rw [← A1]
    have l6 : τ6 a 15 = n_lostT (w_ab σ a) (k + 1) := by
      rw [q4, l1, hT]
      exact w_wr_of ⟨by omega, by omega⟩
    have hst2 : ∀ i, i < k + 1 → 0 < n_sd (n_goes (w_ab σ a) i) := fun i hi => by
      by_cases hik : i = k
      · rw [hik, ← A1]; omega
      · exact hst i (by omega)
    refine ⟨⟨by omega, by omega⟩, fun y7 e7 => ⟨fun c5 => ⟨⟨by omega, by omega⟩, ?_⟩, fun c5 => ⟨⟨by omega, by omega⟩, ?_⟩⟩⟩
    · rw [← w_cs1]
      exact ih τ6 y7 (by omega) (by omega) (by rw [hw]; exact q1) (F1.tr q3) l6 (by rw [hT]; omega) hst2 (Or.inr (by omega)) (by rw [hw]; omega)
    · refine hQ _ _ ⟨k + 1, by rw [hw]; exact q1, ⟨by omega, by rw [z00, z01]; omega, hst2, Or.inl ⟨by omega, by rw [hw]; omega⟩⟩, F1.tr q3⟩
/-- how often he would cut in k hours, if yards stood all the time: edge, oil, cuts -/
noncomputable def n_cutF (A : w_M) (r : Nat) (o : Int) : Nat → Int × Int × Int
  | 0 => (A 5 r, o, 0)
  | k + 1 => if (n_cutF A r o k).1 = 0 then (3, (n_cutF A r o k).2.1, (n_cutF A r o k).2.2)
    else if n_cl A (A 0 1 + k) = 0 ∨ 0 < (n_cutF A r o k).2.1 then ((n_cutF A r o k).1 - 1, (n_cutF A r o k).2.1 - n_cl A (A 0 1 + k), (n_cutF A r o k).2.2 + 1)
    else n_cutF A r o k
/-- hours that are left, n at the most -/
noncomputable def n_lft (A : w_M) (n : Int) : Nat := if n ≤ A 0 0 - A 0 1 then n.toNat else (A 0 0 - A 0 1).toNat
noncomputable def p_Field_cutsAhead (a : Nat) (r o n : Int) (σ : w_M) : Prop := n_ok σ a ∧ (0 ≤ r ∧ r < σ a 5) ∧ (0 ≤ o ∧ o ≤ 9) ∧ (0 ≤ n ∧ n ≤ 12)
noncomputable def v_Field_cutsAhead (a : Nat) (r o n : Int) (σ : w_M) : Int := (n_cutF (w_ab σ a) r.toNat o (n_lft (w_ab σ a) n)).2.2
theorem fField_cutsAhead_0 : w_fe am_c46 0 1 (.aload 0) := ⟨rfl, rfl⟩
theorem fField_cutsAhead_1 : w_fe am_c46 1 2 (.getfield 211) := ⟨rfl, rfl⟩
theorem fField_cutsAhead_2 : w_fe am_c46 2 3 (.iload 1) := ⟨rfl, rfl⟩
theorem fField_cutsAhead_3 : w_fe am_c46 3 4 (.iaload) := ⟨rfl, rfl⟩
theorem fField_cutsAhead_4 : w_fe am_c46 4 5 (.istore 4) := ⟨rfl, rfl⟩
theorem fField_cutsAhead_5 : w_fe am_c46 5 6 (.iload 2) := ⟨rfl, rfl⟩
theorem fField_cutsAhead_6 : w_fe am_c46 6 7 (.istore 5) := ⟨rfl, rfl⟩
theorem fField_cutsAhead_7 : w_fe am_c46 7 8 (.bipush 0) := ⟨rfl, rfl⟩
theorem fField_cutsAhead_8 : w_fe am_c46 8 9 (.istore 6) := ⟨rfl, rfl⟩
theorem fField_cutsAhead_9 : w_fe am_c46 9 10 (.aload 0) := ⟨rfl, rfl⟩
theorem fField_cutsAhead_10 : w_fe am_c46 10 11 (.getfield 201) := ⟨rfl, rfl⟩
theorem fField_cutsAhead_11 : w_fe am_c46 11 12 (.istore 7) := ⟨rfl, rfl⟩
theorem fField_cutsAhead_12 : w_fe am_c46 12 13 (.iload 7) := ⟨rfl, rfl⟩
theorem fField_cutsAhead_13 : w_fe am_c46 13 14 (.aload 0) := ⟨rfl, rfl⟩
theorem fField_cutsAhead_14 : w_fe am_c46 14 15 (.getfield 200) := ⟨rfl, rfl⟩
theorem fField_cutsAhead_15 : w_ic am_c46 15 16 .ge 42 := ⟨rfl, rfl⟩
theorem fField_cutsAhead_16 : w_fe am_c46 16 17 (.iload 7) := ⟨rfl, rfl⟩
theorem fField_cutsAhead_17 : w_fe am_c46 17 18 (.aload 0) := ⟨rfl, rfl⟩
theorem fField_cutsAhead_18 : w_fe am_c46 18 19 (.getfield 201) := ⟨rfl, rfl⟩
theorem fField_cutsAhead_19 : w_fe am_c46 19 20 (.isub) := ⟨rfl, rfl⟩
theorem fField_cutsAhead_20 : w_fe am_c46 20 21 (.iload 3) := ⟨rfl, rfl⟩
theorem fField_cutsAhead_21 : w_ic am_c46 21 22 .ge 42 := ⟨rfl, rfl⟩
theorem fField_cutsAhead_22 : w_fe am_c46 22 23 (.aload 0) := ⟨rfl, rfl⟩
theorem fField_cutsAhead_23 : w_fe am_c46 23 24 (.iload 7) := ⟨rfl, rfl⟩
theorem fField_cutsAhead_24 : w_fe am_c46 24 25 (.invokestatic 29) := ⟨rfl, rfl⟩
theorem fField_cutsAhead_25 : w_fe am_c46 25 26 (.istore 8) := ⟨rfl, rfl⟩
theorem fField_cutsAhead_26 : w_fe am_c46 26 27 (.iload 4) := ⟨rfl, rfl⟩
theorem fField_cutsAhead_27 : w_if am_c46 27 28 .ne 31 := ⟨rfl, rfl⟩
theorem fField_cutsAhead_28 : w_fe am_c46 28 29 (.bipush 3) := ⟨rfl, rfl⟩
theorem fField_cutsAhead_29 : w_fe am_c46 29 30 (.istore 4) := ⟨rfl, rfl⟩
theorem fField_cutsAhead_30 : w_gt am_c46 30 40 := rfl
theorem fField_cutsAhead_31 : w_fe am_c46 31 32 (.iload 8) := ⟨rfl, rfl⟩
theorem fField_cutsAhead_32 : w_if am_c46 32 33 .eq 35 := ⟨rfl, rfl⟩
theorem fField_cutsAhead_33 : w_fe am_c46 33 34 (.iload 5) := ⟨rfl, rfl⟩
theorem fField_cutsAhead_34 : w_if am_c46 34 35 .le 40 := ⟨rfl, rfl⟩
theorem fField_cutsAhead_35 : w_fe am_c46 35 36 (.iinc 4 (-1)) := ⟨rfl, rfl⟩
theorem fField_cutsAhead_36 : w_fe am_c46 36 37 (.iinc 6 1) := ⟨rfl, rfl⟩
theorem fField_cutsAhead_37 : w_fe am_c46 37 38 (.iload 8) := ⟨rfl, rfl⟩
theorem fField_cutsAhead_38 : w_if am_c46 38 39 .eq 40 := ⟨rfl, rfl⟩
theorem fField_cutsAhead_39 : w_fe am_c46 39 40 (.iinc 5 (-1)) := ⟨rfl, rfl⟩
theorem fField_cutsAhead_40 : w_fe am_c46 40 41 (.iinc 7 1) := ⟨rfl, rfl⟩
theorem fField_cutsAhead_41 : w_gt am_c46 41 12 := rfl
theorem fField_cutsAhead_42 : w_fe am_c46 42 43 (.iload 6) := ⟨rfl, rfl⟩
theorem fField_cutsAhead_43 : w_fe am_c46 43 44 (.ireturn) := ⟨rfl, rfl⟩
noncomputable def LField_cutsAhead_12 (xs : List Int) (d : Nat) (Q : Option w_V → w_M → Prop) (r0 : Nat) (v3 : Int) (v4 : Int) (v5 : Int) (v6 : Int) (v7 : Int) (σ : w_M) : Prop := ∀ l1, w_nl l1 → ∀ l2, w_nl l2 → ∀ l8, w_nl l8 → w_Ex (xs, d) 1 am_c46 Q 12 [some (.inr (.inr (2, r0))), l1, l2, some (.inl v3), some (.inl v4), some (.inl v5), some (.inl v6), some (.inl v7), l8] [] σ
set_option maxRecDepth 20000 in
theorem bField_cutsAhead_0 {xs : List Int} {d : Nat} {Q : Option w_V → w_M → Prop} {a : Nat} {x1 : Int} {x2 : Int} {x3 : Int} {σ : w_M}
    (h : 0 ≤ x1 ∧ x1 < 4 ∧ (∀ (y1 : Int), y1 = (σ (a + 5) x1.toNat) → ∀ (y2 : Int), y2 = (σ a 1) → LField_cutsAhead_12 xs (d + 1) Q a x3 y1 x2 0 y2 σ)) : w_Call (xs, (d + 1)) 46 [.inr (.inr (2, a)), .inl x1, .inl x2, .inl x3] σ Q :=
  (w_mk (mid := 46) (by decide) rfl rfl rfl rfl rfl (Nat.le_of_ble_eq_true rfl) ⟨rfl, Or.inl (by decide)⟩ (wi_aload0 fField_cutsAhead_0 (wi_getf211 fField_cutsAhead_1 (wi_iload1 fField_cutsAhead_2 (wi_iald1004 fField_cutsAhead_3 h.1 h.2.1 (wi_istore4 fField_cutsAhead_4 trivial (wi_iload2 fField_cutsAhead_5 (wi_istore5 fField_cutsAhead_6 trivial (wi_bipush fField_cutsAhead_7 (wi_istore6 fField_cutsAhead_8 trivial (wi_aload0 fField_cutsAhead_9 (wi_getf201 fField_cutsAhead_10 (wi_istore7 fField_cutsAhead_11 trivial (((h.2.2 _ rfl) _ rfl) _ (by exact trivial) _ (by exact trivial) _ (by exact trivial)))))))))))))))
set_option maxRecDepth 20000 in
theorem bField_cutsAhead_12 {xs : List Int} {d : Nat} {Q : Option w_V → w_M → Prop} {r0 : Nat} {v3 : Int} {v4 : Int} {v5 : Int} {v6 : Int} {v7 : Int} {σ : w_M}
    (h : ((σ r0 0) ≤ v7 → Q (some (.inl v6)) σ) ∧ (v7 < (σ r0 0) → (w_in (v7 - (σ r0 1)) ∧ ((v3 ≤ (v7 - (σ r0 1)) → Q (some (.inl v6)) σ) ∧ ((v7 - (σ r0 1)) < v3 → ∀ (y1 : Int), y1 = (w_bi (¬ w_and (w_shr (σ r0 2) v7) 1 = 0)) → ((¬ v4 = 0 → ((y1 = 0 → (w_in (v4 + (-1)) ∧ w_in (v6 + 1) ∧ w_in (v7 + 1) ∧ LField_cutsAhead_12 xs (d + 1) Q r0 v3 (v4 + (-1)) v5 (v6 + 1) (v7 + 1) σ)) ∧ (¬ y1 = 0 → ((v5 ≤ 0 → (w_in (v7 + 1) ∧ LField_cutsAhead_12 xs (d + 1) Q r0 v3 v4 v5 v6 (v7 + 1) σ)) ∧ (0 < v5 → (w_in (v4 + (-1)) ∧ w_in (v6 + 1) ∧ w_in (v5 + (-1)) ∧ w_in (v7 + 1) ∧ LField_cutsAhead_12 xs (d + 1) Q r0 v3 (v4 + (-1)) (v5 + (-1)) (v6 + 1) (v7 + 1) σ)))))) ∧ (v4 = 0 → (w_in (v7 + 1) ∧ LField_cutsAhead_12 xs (d + 1) Q r0 v3 3 v5 v6 (v7 + 1) σ)))))))) : LField_cutsAhead_12 xs (d + 1) Q r0 v3 v4 v5 v6 v7 σ :=
  fun l1 nl1 => fun l2 nl2 => fun l8 nl8 => (wi_iload7 fField_cutsAhead_12 (wi_aload0 fField_cutsAhead_13 (wi_getf200 fField_cutsAhead_14 (wi_ic_ge fField_cutsAhead_15 (fun c6 => (wi_iload6 fField_cutsAhead_42 (wi_ret1 fField_cutsAhead_43 (h.1 c6)))) (fun c6 => (wi_iload7 fField_cutsAhead_16 (wi_aload0 fField_cutsAhead_17 (wi_getf201 fField_cutsAhead_18 (wi_isub fField_cutsAhead_19 (h.2 c6).1 (wi_iload3 fField_cutsAhead_20 (wi_ic_ge fField_cutsAhead_21 (fun c5 => (wi_iload6 fField_cutsAhead_42 (wi_ret1 fField_cutsAhead_43 ((h.2 c6).2.1 c5)))) (fun c5 => (wi_aload0 fField_cutsAhead_22 (wi_iload7 fField_cutsAhead_23 (wi_call2 fField_cutsAhead_24 (Nat.le_of_ble_eq_true rfl) (k_Field_isCloudy (wi_istore8 fField_cutsAhead_25 trivial (wi_iload4 fField_cutsAhead_26 (wi_if_ne fField_cutsAhead_27 (fun c4 => (wi_iload8 fField_cutsAhead_31 (wi_if_eq fField_cutsAhead_32 (fun c3 => (wi_iinc4 fField_cutsAhead_35 trivial (((((h.2 c6).2.2 c5) _ rfl).1 c4).1 c3).1 (wi_iinc6 fField_cutsAhead_36 trivial (((((h.2 c6).2.2 c5) _ rfl).1 c4).1 c3).2.1 (wi_iload8 fField_cutsAhead_37 (wi_if_eq fField_cutsAhead_38 (fun _ => (wi_iinc7 fField_cutsAhead_40 trivial (((((h.2 c6).2.2 c5) _ rfl).1 c4).1 c3).2.2.1 (wi_goto fField_cutsAhead_41 ((((((h.2 c6).2.2 c5) _ rfl).1 c4).1 c3).2.2.2 _ nl1 _ nl2 _ (by exact trivial))))) (fun e => absurd c3 (w_n_eq e))))))) (fun c3 => (wi_iload5 fField_cutsAhead_33 (wi_if_le fField_cutsAhead_34 (fun c2 => (wi_iinc7 fField_cutsAhead_40 trivial ((((((h.2 c6).2.2 c5) _ rfl).1 c4).2 c3).1 c2).1 (wi_goto fField_cutsAhead_41 (((((((h.2 c6).2.2 c5) _ rfl).1 c4).2 c3).1 c2).2 _ nl1 _ nl2 _ (by exact trivial))))) (fun c2 => (wi_iinc4 fField_cutsAhead_35 trivial ((((((h.2 c6).2.2 c5) _ rfl).1 c4).2 c3).2 c2).1 (wi_iinc6 fField_cutsAhead_36 trivial ((((((h.2 c6).2.2 c5) _ rfl).1 c4).2 c3).2 c2).2.1 (wi_iload8 fField_cutsAhead_37 (wi_if_eq fField_cutsAhead_38 (fun e => absurd c3 (w_m_eq e)) (fun _ => (wi_iinc5 fField_cutsAhead_39 trivial ((((((h.2 c6).2.2 c5) _ rfl).1 c4).2 c3).2 c2).2.2.1 (wi_iinc7 fField_cutsAhead_40 trivial ((((((h.2 c6).2.2 c5) _ rfl).1 c4).2 c3).2 c2).2.2.2.1 (wi_goto fField_cutsAhead_41 (((((((h.2 c6).2.2 c5) _ rfl).1 c4).2 c3).2 c2).2.2.2.2 _ nl1 _ nl2 _ (by exact trivial))))))))))))))))) (fun c4 => (wi_bipush fField_cutsAhead_28 (wi_istore4 fField_cutsAhead_29 trivial (wi_goto fField_cutsAhead_30 (wi_iinc7 fField_cutsAhead_40 trivial ((((h.2 c6).2.2 c5) _ rfl).2 c4).1 (wi_goto fField_cutsAhead_41 (((((h.2 c6).2.2 c5) _ rfl).2 c4).2 _ nl1 _ nl2 _ (by exact trivial)))))))))))))))))))))))))))
theorem n_cutF_le {A : w_M} (h : n_WF A) {r : Nat} (hr : r < n_n A) {o : Int} (ho : 0 ≤ o ∧ o ≤ 9) : ∀ k : Nat, (0 ≤ (n_cutF A r o k).1 ∧ (n_cutF A r o k).1 ≤ 3) ∧ (0 ≤ (n_cutF A r o k).2.1 ∧ (n_cutF A r o k).2.1 ≤ 9) ∧ (0 ≤ (n_cutF A r o k).2.2 ∧ (n_cutF A r o k).2.2 ≤ k) := by
  intro k
  induction k with
  | zero =>
    have := (h.r hr).2.2.1
    simp only [n_cutF]
    omega
  | succ k ih =>
    have c01 := n_cl01 A (A 0 1 + k)
    simp only [n_cutF]
    split
    · simp only; omega
    · split
      · simp only; omega
      · omega
set_option maxHeartbeats 1000000 in
theorem k_Field_cutsAhead {xs : List Int} {d : Nat} {Q : Option w_V → w_M → Prop} {a : Nat} {x1 : Int} {x2 : Int} {x3 : Int} {σ : w_M} (hp : p_Field_cutsAhead a x1 x2 x3 σ) (hQ : Q (some (.inl (v_Field_cutsAhead a x1 x2 x3 σ))) σ) : w_Call (xs, d + 1) 46 [.inr (.inr (2, a)), .inl x1, .inl x2, .inl x3] σ Q := by
  obtain ⟨hok, ⟨r0, r1⟩, ho, hn⟩ := hp
  obtain ⟨r, rfl⟩ := Int.eq_ofNat_of_zero_le r0
  have hnn := n_ok.n hok
  have hr : r < (σ a 5).toNat := by omega
  have hrs := n_ok.hrs hok
  have hrr := n_ok.hr hok
  have e5 : σ (a + 5) r = w_ab σ a 5 r := w_rd (by decide) (by rw [w_rl37 (by decide) (by decide)]; exact hr)
  have hl : n_lft (w_ab σ a) x3 = if x3 ≤ σ a 0 - σ a 1 then x3.toNat else (σ a 0 - σ a 1).toNat := rfl
  unfold v_Field_cutsAhead at hQ
  rw [Int.toNat_natCast] at hQ
  refine bField_cutsAhead_0 ⟨r0, by omega, fun y1 e1 y2 e2 => ?_⟩
  have key : LField_cutsAhead_12 xs (d + 1) Q a x3 (n_cutF (w_ab σ a) r x2 0).1 (n_cutF (w_ab σ a) r x2 0).2.1 (n_cutF (w_ab σ a) r x2 0).2.2 (σ a 1 + ((0 : Nat) : Int)) σ := by
    refine w_loop (n := n_lft (w_ab σ a) x3) (P := fun k => LField_cutsAhead_12 xs (d + 1) Q a x3 (n_cutF (w_ab σ a) r x2 k).1 (n_cutF (w_ab σ a) r x2 k).2.1 (n_cutF (w_ab σ a) r x2 k).2.2 (σ a 1 + (k : Int)) σ) ?_ ?_
    · rw [hl] at hQ ⊢
      split
      · rename_i hc
        rw [if_pos hc] at hQ
        exact bField_cutsAhead_12 ⟨fun _ => hQ, fun _ => ⟨⟨by omega, by omega⟩, fun _ => hQ, fun c => by omega⟩⟩
      · rename_i hc
        rw [if_neg hc] at hQ
        exact bField_cutsAhead_12 ⟨fun _ => hQ, fun c => by omega⟩
    · intro k hk ih
      have hk2 : (k : Int) < x3 ∧ σ a 1 + (k : Int) < σ a 0 := by
        rw [hl] at hk
        split at hk <;> omega
      obtain ⟨c1, c2, c3⟩ := n_cutF_le hok hr ho k
      have ec : n_cl (w_ab σ a) (w_ab σ a 0 1 + (k : Int)) = w_and (w_shr (σ a 2) (σ a 1 + (k : Int))) 1 := rfl
      have e01 := n_cl01 (w_ab σ a) (w_ab σ a 0 1 + (k : Int))
      simp only [n_cutF] at ih
      rw [w_cs1, ← Int.add_assoc] at ih
      refine bField_cutsAhead_12 ⟨fun c => by omega, fun c => ⟨⟨by omega, by omega⟩, fun c4 => by omega, fun c4 => ?_⟩⟩
      intro y1 ey
      rw [w_bi_and1, ← ec] at ey
      refine ⟨fun s => ⟨fun s2 => ⟨⟨by omega, by omega⟩, ⟨by omega, by omega⟩, ⟨by omega, by omega⟩, ?_⟩, fun s2 => ⟨fun s3 => ⟨⟨by omega, by omega⟩, ?_⟩, fun s3 => ⟨⟨by omega, by omega⟩, ⟨by omega, by omega⟩, ⟨by omega, by omega⟩, ⟨by omega, by omega⟩, ?_⟩⟩⟩, fun s => ⟨⟨by omega, by omega⟩, ?_⟩⟩
      · rw [if_neg s, if_pos (by omega), ← ey, s2, Int.sub_zero] at ih
        exact ih
      · rw [if_neg s, if_neg (by omega)] at ih
        exact ih
      · rw [if_neg s, if_pos (by omega), ← ey, show y1 = 1 by omega] at ih
        exact ih
      · rw [if_pos s] at ih
        exact ih
  rw [show σ a 1 + ((0 : Nat) : Int) = σ a 1 from Int.add_zero _] at key
  rw [e1, e2, Int.toNat_natCast, e5]
  exact key
noncomputable def q_Field_clear (a : Nat) (σ σ' : w_M) : Prop := (σ' a 0 = 8 ∧ σ' a 1 = 0 ∧ σ' a 2 = 0 ∧ σ' a 3 = -4 ∧ σ' a 4 = 0 ∧ σ' a 5 = 0 ∧ σ' a 6 = 0) ∧ (∀ o, o < 4 → σ' (a + 8) o = 0) ∧ w_fr σ σ' a (a + 9)
theorem fField_clear_0 : w_fe am_c28 0 1 (.aload 0) := ⟨rfl, rfl⟩
theorem fField_clear_1 : w_fe am_c28 1 2 (.bipush 8) := ⟨rfl, rfl⟩
theorem fField_clear_2 : w_fe am_c28 2 3 (.putfield 200) := ⟨rfl, rfl⟩
theorem fField_clear_3 : w_fe am_c28 3 4 (.aload 0) := ⟨rfl, rfl⟩
theorem fField_clear_4 : w_fe am_c28 4 5 (.bipush 0) := ⟨rfl, rfl⟩
theorem fField_clear_5 : w_fe am_c28 5 6 (.putfield 201) := ⟨rfl, rfl⟩
theorem fField_clear_6 : w_fe am_c28 6 7 (.aload 0) := ⟨rfl, rfl⟩
theorem fField_clear_7 : w_fe am_c28 7 8 (.bipush 0) := ⟨rfl, rfl⟩
theorem fField_clear_8 : w_fe am_c28 8 9 (.putfield 202) := ⟨rfl, rfl⟩
theorem fField_clear_9 : w_fe am_c28 9 10 (.aload 0) := ⟨rfl, rfl⟩
theorem fField_clear_10 : w_fe am_c28 10 11 (.bipush (-4)) := ⟨rfl, rfl⟩
theorem fField_clear_11 : w_fe am_c28 11 12 (.putfield 203) := ⟨rfl, rfl⟩
theorem fField_clear_12 : w_fe am_c28 12 13 (.aload 0) := ⟨rfl, rfl⟩
theorem fField_clear_13 : w_fe am_c28 13 14 (.bipush 0) := ⟨rfl, rfl⟩
theorem fField_clear_14 : w_fe am_c28 14 15 (.putfield 204) := ⟨rfl, rfl⟩
theorem fField_clear_15 : w_fe am_c28 15 16 (.aload 0) := ⟨rfl, rfl⟩
theorem fField_clear_16 : w_fe am_c28 16 17 (.bipush 0) := ⟨rfl, rfl⟩
theorem fField_clear_17 : w_fe am_c28 17 18 (.putfield 205) := ⟨rfl, rfl⟩
theorem fField_clear_18 : w_fe am_c28 18 19 (.aload 0) := ⟨rfl, rfl⟩
theorem fField_clear_19 : w_fe am_c28 19 20 (.bipush 0) := ⟨rfl, rfl⟩
theorem fField_clear_20 : w_fe am_c28 20 21 (.putfield 206) := ⟨rfl, rfl⟩
theorem fField_clear_21 : w_fe am_c28 21 22 (.aload 0) := ⟨rfl, rfl⟩
theorem fField_clear_22 : w_fe am_c28 22 23 (.getfield 214) := ⟨rfl, rfl⟩
theorem fField_clear_23 : w_fe am_c28 23 24 (.bipush 0) := ⟨rfl, rfl⟩
theorem fField_clear_24 : w_fe am_c28 24 25 (.invokestatic 4) := ⟨rfl, rfl⟩
theorem fField_clear_25 : w_fe am_c28 25 26 (.return_) := ⟨rfl, rfl⟩
set_option maxRecDepth 20000 in
theorem bField_clear_0 {xs : List Int} {d : Nat} {Q : Option w_V → w_M → Prop} {a : Nat} {σ : w_M}
    (h : ∀ (τ1 : w_M), τ1 = w_up σ a 0 8 → ∀ (τ2 : w_M), τ2 = w_up τ1 a 1 0 → ∀ (τ3 : w_M), τ3 = w_up τ2 a 2 0 → ∀ (τ4 : w_M), τ4 = w_up τ3 a 3 (-4) → ∀ (τ5 : w_M), τ5 = w_up τ4 a 4 0 → ∀ (τ6 : w_M), τ6 = w_up τ5 a 5 0 → ∀ (τ7 : w_M), τ7 = w_up τ6 a 6 0 → ∀ (τ8 : w_M), q_Arrays_fill (a + 8) 0 τ7 τ8 → Q none τ8) : w_Call (xs, (d + 1)) 28 [.inr (.inr (2, a))] σ Q :=
  (w_mk (mid := 28) (by decide) rfl rfl rfl rfl rfl (Nat.le_of_ble_eq_true rfl) ⟨rfl, Or.inl (by decide)⟩ (wi_aload0 fField_clear_0 (wi_bipush fField_clear_1 (wi_putf200 fField_clear_2 (wi_aload0 fField_clear_3 (wi_bipush fField_clear_4 (wi_putf201 fField_clear_5 (wi_aload0 fField_clear_6 (wi_bipush fField_clear_7 (wi_putf202 fField_clear_8 (wi_aload0 fField_clear_9 (wi_bipush fField_clear_10 (wi_putf203 fField_clear_11 (wi_aload0 fField_clear_12 (wi_bipush fField_clear_13 (wi_putf204 fField_clear_14 (wi_aload0 fField_clear_15 (wi_bipush fField_clear_16 (wi_putf205 fField_clear_17 (wi_aload0 fField_clear_18 (wi_bipush fField_clear_19 (wi_putf206 fField_clear_20 (wi_aload0 fField_clear_21 (wi_getf214 fField_clear_22 (wi_bipush fField_clear_23 (wi_call2 fField_clear_24 (Nat.le_of_ble_eq_true rfl) (k_Arrays_fill (fun τ8 eτ8 => (wi_ret0 fField_clear_25 ((((((((h _ rfl) _ rfl) _ rfl) _ rfl) _ rfl) _ rfl) _ rfl) τ8 eτ8))))))))))))))))))))))))))))))
theorem k_Field_clear {xs : List Int} {d : Nat} {Q : Option w_V → w_M → Prop} {a : Nat} {σ : w_M} (hQ : ∀ σ' : w_M, q_Field_clear a σ σ' → Q none σ') : w_Call (xs, d + 1) 28 [.inr (.inr (2, a))] σ Q := by
  refine bField_clear_0 ?_
  intro τ1 t1 τ2 t2 τ3 t3 τ4 t4 τ5 t5 τ6 t6 τ7 t7 τ8 hq
  unfold q_Arrays_fill at hq
  have h8 : τ8 a = τ7 a := by rw [hq]; exact f_fill_ne (by omega)
  refine hQ _ ⟨?_, fun o ho => by rw [hq]; exact f_fill_at ho, fun b hb => ?_⟩
  · rw [h8, t7, t6, t5, t4, t3, t2, t1]
    simp [w_up]
  · rw [hq, f_fill_ne (by omega), t7, w_up_ne (by omega), t6, w_up_ne (by omega), t5, w_up_ne (by omega), t4, w_up_ne (by omega), t3, w_up_ne (by omega), t2, w_up_ne (by omega), t1, w_up_ne (by omega)]
end
section
/-! Copies of a Field; the reference's night in its own rows -/
theorem w_ab_eq {σ σ' : w_M} {a b : Nat} (h0 : ∀ j, j < 7 → σ' a j = σ b j) (hd : ∀ d i, 1 ≤ d → d < 9 → i < w_rl σ b d → σ' (a + d) i = σ (b + d) i) : w_ab σ' a = w_ab σ b := by
  have hr : ∀ k, w_rl σ' a k = w_rl σ b k := fun k => by unfold w_rl; rw [h0 4 (by decide), h0 5 (by decide)]
  funext k q
  unfold w_ab
  rw [hr, h0 4 (by decide), h0 6 (by decide)]
  by_cases hk : k < 9
  · rw [if_pos hk, if_pos hk]
    by_cases hq : q < w_rl σ b k
    · rw [if_pos hq, if_pos hq]
      by_cases hk0 : k = 0
      · subst hk0
        have : q < 6 := hq
        exact h0 q (by omega)
      · exact hd k q (by omega) hk hq
    · rw [if_neg hq, if_neg hq]
  · rw [if_neg hk, if_neg hk]
theorem w_cpy_at {σ : w_M} {s d n i : Nat} (h : i < n) : w_cpy σ s d 0 0 n d i = σ s i := by
  unfold w_cpy
  rw [if_pos ⟨rfl, Nat.zero_le _, by omega⟩]
  rw [Nat.sub_zero, Nat.zero_add]
theorem w_fr.cpy {σ σ' : w_M} {lo hi s d sp dp n : Nat} (h : w_fr σ σ' lo hi) (h1 : lo ≤ d) (h2 : d < hi) : w_fr σ (w_cpy σ' s d sp dp n) lo hi := fun b hb => by
  rw [w_cpy_ne (by omega)]
  exact h b hb
noncomputable def p_Field_copyFrom (a b : Nat) (σ : w_M) : Prop := n_ok σ b ∧ (a + 9 ≤ b ∨ b + 9 ≤ a)
noncomputable def q_Field_copyFrom (a b : Nat) (σ σ' : w_M) : Prop := w_ab σ' a = w_ab σ b ∧ σ' a 6 = σ b 6 ∧ w_fr σ σ' a (a + 9)
theorem fField_copyFrom_0 : w_fe am_c34 0 1 (.aload 0) := ⟨rfl, rfl⟩
theorem fField_copyFrom_1 : w_fe am_c34 1 2 (.aload 1) := ⟨rfl, rfl⟩
theorem fField_copyFrom_2 : w_fe am_c34 2 3 (.getfield 200) := ⟨rfl, rfl⟩
theorem fField_copyFrom_3 : w_fe am_c34 3 4 (.putfield 200) := ⟨rfl, rfl⟩
theorem fField_copyFrom_4 : w_fe am_c34 4 5 (.aload 0) := ⟨rfl, rfl⟩
theorem fField_copyFrom_5 : w_fe am_c34 5 6 (.aload 1) := ⟨rfl, rfl⟩
theorem fField_copyFrom_6 : w_fe am_c34 6 7 (.getfield 201) := ⟨rfl, rfl⟩
theorem fField_copyFrom_7 : w_fe am_c34 7 8 (.putfield 201) := ⟨rfl, rfl⟩
theorem fField_copyFrom_8 : w_fe am_c34 8 9 (.aload 0) := ⟨rfl, rfl⟩
theorem fField_copyFrom_9 : w_fe am_c34 9 10 (.aload 1) := ⟨rfl, rfl⟩
theorem fField_copyFrom_10 : w_fe am_c34 10 11 (.getfield 202) := ⟨rfl, rfl⟩
theorem fField_copyFrom_11 : w_fe am_c34 11 12 (.putfield 202) := ⟨rfl, rfl⟩
theorem fField_copyFrom_12 : w_fe am_c34 12 13 (.aload 0) := ⟨rfl, rfl⟩
theorem fField_copyFrom_13 : w_fe am_c34 13 14 (.aload 1) := ⟨rfl, rfl⟩
theorem fField_copyFrom_14 : w_fe am_c34 14 15 (.getfield 203) := ⟨rfl, rfl⟩
theorem fField_copyFrom_15 : w_fe am_c34 15 16 (.putfield 203) := ⟨rfl, rfl⟩
theorem fField_copyFrom_16 : w_fe am_c34 16 17 (.aload 0) := ⟨rfl, rfl⟩
theorem fField_copyFrom_17 : w_fe am_c34 17 18 (.aload 1) := ⟨rfl, rfl⟩
theorem fField_copyFrom_18 : w_fe am_c34 18 19 (.getfield 204) := ⟨rfl, rfl⟩
theorem fField_copyFrom_19 : w_fe am_c34 19 20 (.putfield 204) := ⟨rfl, rfl⟩
theorem fField_copyFrom_20 : w_fe am_c34 20 21 (.aload 0) := ⟨rfl, rfl⟩
theorem fField_copyFrom_21 : w_fe am_c34 21 22 (.aload 1) := ⟨rfl, rfl⟩
theorem fField_copyFrom_22 : w_fe am_c34 22 23 (.getfield 205) := ⟨rfl, rfl⟩
theorem fField_copyFrom_23 : w_fe am_c34 23 24 (.putfield 205) := ⟨rfl, rfl⟩
theorem fField_copyFrom_24 : w_fe am_c34 24 25 (.aload 0) := ⟨rfl, rfl⟩
theorem fField_copyFrom_25 : w_fe am_c34 25 26 (.aload 1) := ⟨rfl, rfl⟩
theorem fField_copyFrom_26 : w_fe am_c34 26 27 (.getfield 206) := ⟨rfl, rfl⟩
theorem fField_copyFrom_27 : w_fe am_c34 27 28 (.putfield 206) := ⟨rfl, rfl⟩
theorem fField_copyFrom_28 : w_fe am_c34 28 29 (.aload 1) := ⟨rfl, rfl⟩
theorem fField_copyFrom_29 : w_fe am_c34 29 30 (.getfield 207) := ⟨rfl, rfl⟩
theorem fField_copyFrom_30 : w_fe am_c34 30 31 (.bipush 0) := ⟨rfl, rfl⟩
theorem fField_copyFrom_31 : w_fe am_c34 31 32 (.aload 0) := ⟨rfl, rfl⟩
theorem fField_copyFrom_32 : w_fe am_c34 32 33 (.getfield 207) := ⟨rfl, rfl⟩
theorem fField_copyFrom_33 : w_fe am_c34 33 34 (.bipush 0) := ⟨rfl, rfl⟩
theorem fField_copyFrom_34 : w_fe am_c34 34 35 (.bipush 7) := ⟨rfl, rfl⟩
theorem fField_copyFrom_35 : w_fe am_c34 35 36 (.invokedynamic 0) := ⟨rfl, rfl⟩
theorem fField_copyFrom_36 : w_fe am_c34 36 37 (.aload 1) := ⟨rfl, rfl⟩
theorem fField_copyFrom_37 : w_fe am_c34 37 38 (.getfield 208) := ⟨rfl, rfl⟩
theorem fField_copyFrom_38 : w_fe am_c34 38 39 (.bipush 0) := ⟨rfl, rfl⟩
theorem fField_copyFrom_39 : w_fe am_c34 39 40 (.aload 0) := ⟨rfl, rfl⟩
theorem fField_copyFrom_40 : w_fe am_c34 40 41 (.getfield 208) := ⟨rfl, rfl⟩
theorem fField_copyFrom_41 : w_fe am_c34 41 42 (.bipush 0) := ⟨rfl, rfl⟩
theorem fField_copyFrom_42 : w_fe am_c34 42 43 (.bipush 7) := ⟨rfl, rfl⟩
theorem fField_copyFrom_43 : w_fe am_c34 43 44 (.invokedynamic 0) := ⟨rfl, rfl⟩
theorem fField_copyFrom_44 : w_fe am_c34 44 45 (.aload 1) := ⟨rfl, rfl⟩
theorem fField_copyFrom_45 : w_fe am_c34 45 46 (.getfield 209) := ⟨rfl, rfl⟩
theorem fField_copyFrom_46 : w_fe am_c34 46 47 (.bipush 0) := ⟨rfl, rfl⟩
theorem fField_copyFrom_47 : w_fe am_c34 47 48 (.aload 0) := ⟨rfl, rfl⟩
theorem fField_copyFrom_48 : w_fe am_c34 48 49 (.getfield 209) := ⟨rfl, rfl⟩
theorem fField_copyFrom_49 : w_fe am_c34 49 50 (.bipush 0) := ⟨rfl, rfl⟩
theorem fField_copyFrom_50 : w_fe am_c34 50 51 (.bipush 4) := ⟨rfl, rfl⟩
theorem fField_copyFrom_51 : w_fe am_c34 51 52 (.invokedynamic 0) := ⟨rfl, rfl⟩
theorem fField_copyFrom_52 : w_fe am_c34 52 53 (.aload 1) := ⟨rfl, rfl⟩
theorem fField_copyFrom_53 : w_fe am_c34 53 54 (.getfield 210) := ⟨rfl, rfl⟩
theorem fField_copyFrom_54 : w_fe am_c34 54 55 (.bipush 0) := ⟨rfl, rfl⟩
theorem fField_copyFrom_55 : w_fe am_c34 55 56 (.aload 0) := ⟨rfl, rfl⟩
theorem fField_copyFrom_56 : w_fe am_c34 56 57 (.getfield 210) := ⟨rfl, rfl⟩
theorem fField_copyFrom_57 : w_fe am_c34 57 58 (.bipush 0) := ⟨rfl, rfl⟩
theorem fField_copyFrom_58 : w_fe am_c34 58 59 (.bipush 4) := ⟨rfl, rfl⟩
theorem fField_copyFrom_59 : w_fe am_c34 59 60 (.invokedynamic 0) := ⟨rfl, rfl⟩
theorem fField_copyFrom_60 : w_fe am_c34 60 61 (.aload 1) := ⟨rfl, rfl⟩
theorem fField_copyFrom_61 : w_fe am_c34 61 62 (.getfield 211) := ⟨rfl, rfl⟩
theorem fField_copyFrom_62 : w_fe am_c34 62 63 (.bipush 0) := ⟨rfl, rfl⟩
theorem fField_copyFrom_63 : w_fe am_c34 63 64 (.aload 0) := ⟨rfl, rfl⟩
theorem fField_copyFrom_64 : w_fe am_c34 64 65 (.getfield 211) := ⟨rfl, rfl⟩
theorem fField_copyFrom_65 : w_fe am_c34 65 66 (.bipush 0) := ⟨rfl, rfl⟩
theorem fField_copyFrom_66 : w_fe am_c34 66 67 (.bipush 4) := ⟨rfl, rfl⟩
theorem fField_copyFrom_67 : w_fe am_c34 67 68 (.invokedynamic 0) := ⟨rfl, rfl⟩
theorem fField_copyFrom_68 : w_fe am_c34 68 69 (.aload 1) := ⟨rfl, rfl⟩
theorem fField_copyFrom_69 : w_fe am_c34 69 70 (.getfield 212) := ⟨rfl, rfl⟩
theorem fField_copyFrom_70 : w_fe am_c34 70 71 (.bipush 0) := ⟨rfl, rfl⟩
theorem fField_copyFrom_71 : w_fe am_c34 71 72 (.aload 0) := ⟨rfl, rfl⟩
theorem fField_copyFrom_72 : w_fe am_c34 72 73 (.getfield 212) := ⟨rfl, rfl⟩
theorem fField_copyFrom_73 : w_fe am_c34 73 74 (.bipush 0) := ⟨rfl, rfl⟩
theorem fField_copyFrom_74 : w_fe am_c34 74 75 (.bipush 4) := ⟨rfl, rfl⟩
theorem fField_copyFrom_75 : w_fe am_c34 75 76 (.invokedynamic 0) := ⟨rfl, rfl⟩
theorem fField_copyFrom_76 : w_fe am_c34 76 77 (.aload 1) := ⟨rfl, rfl⟩
theorem fField_copyFrom_77 : w_fe am_c34 77 78 (.getfield 213) := ⟨rfl, rfl⟩
theorem fField_copyFrom_78 : w_fe am_c34 78 79 (.bipush 0) := ⟨rfl, rfl⟩
theorem fField_copyFrom_79 : w_fe am_c34 79 80 (.aload 0) := ⟨rfl, rfl⟩
theorem fField_copyFrom_80 : w_fe am_c34 80 81 (.getfield 213) := ⟨rfl, rfl⟩
theorem fField_copyFrom_81 : w_fe am_c34 81 82 (.bipush 0) := ⟨rfl, rfl⟩
theorem fField_copyFrom_82 : w_fe am_c34 82 83 (.bipush 4) := ⟨rfl, rfl⟩
theorem fField_copyFrom_83 : w_fe am_c34 83 84 (.invokedynamic 0) := ⟨rfl, rfl⟩
theorem fField_copyFrom_84 : w_fe am_c34 84 85 (.aload 1) := ⟨rfl, rfl⟩
theorem fField_copyFrom_85 : w_fe am_c34 85 86 (.getfield 214) := ⟨rfl, rfl⟩
theorem fField_copyFrom_86 : w_fe am_c34 86 87 (.bipush 0) := ⟨rfl, rfl⟩
theorem fField_copyFrom_87 : w_fe am_c34 87 88 (.aload 0) := ⟨rfl, rfl⟩
theorem fField_copyFrom_88 : w_fe am_c34 88 89 (.getfield 214) := ⟨rfl, rfl⟩
theorem fField_copyFrom_89 : w_fe am_c34 89 90 (.bipush 0) := ⟨rfl, rfl⟩
theorem fField_copyFrom_90 : w_fe am_c34 90 91 (.bipush 4) := ⟨rfl, rfl⟩
theorem fField_copyFrom_91 : w_fe am_c34 91 92 (.invokedynamic 0) := ⟨rfl, rfl⟩
theorem fField_copyFrom_92 : w_fe am_c34 92 93 (.return_) := ⟨rfl, rfl⟩
set_option maxRecDepth 20000 in
theorem bField_copyFrom_0 {xs : List Int} {d : Nat} {Q : Option w_V → w_M → Prop} {a : Nat} {b : Nat} {σ : w_M}
    (h : ∀ (τ1 : w_M), τ1 = w_up σ a 0 (σ b 0) → ∀ (τ2 : w_M), τ2 = w_up τ1 a 1 (τ1 b 1) → ∀ (τ3 : w_M), τ3 = w_up τ2 a 2 (τ2 b 2) → ∀ (τ4 : w_M), τ4 = w_up τ3 a 3 (τ3 b 3) → ∀ (τ5 : w_M), τ5 = w_up τ4 a 4 (τ4 b 4) → ∀ (τ6 : w_M), τ6 = w_up τ5 a 5 (τ5 b 5) → ∀ (τ7 : w_M), τ7 = w_up τ6 a 6 (τ6 b 6) → ∀ (τ8 : w_M), τ8 = w_cpy τ7 (b + 1) (a + 1) 0 0 7 → ∀ (τ9 : w_M), τ9 = w_cpy τ8 (b + 2) (a + 2) 0 0 7 → ∀ (τ10 : w_M), τ10 = w_cpy τ9 (b + 3) (a + 3) 0 0 4 → ∀ (τ11 : w_M), τ11 = w_cpy τ10 (b + 4) (a + 4) 0 0 4 → ∀ (τ12 : w_M), τ12 = w_cpy τ11 (b + 5) (a + 5) 0 0 4 → ∀ (τ13 : w_M), τ13 = w_cpy τ12 (b + 6) (a + 6) 0 0 4 → ∀ (τ14 : w_M), τ14 = w_cpy τ13 (b + 7) (a + 7) 0 0 4 → ∀ (τ15 : w_M), τ15 = w_cpy τ14 (b + 8) (a + 8) 0 0 4 → Q none τ15) : w_Call (xs, d) 34 [.inr (.inr (2, a)), .inr (.inr (2, b))] σ Q :=
  (w_mk (mid := 34) (by decide) rfl rfl rfl rfl rfl (Nat.le_of_ble_eq_true rfl) ⟨rfl, Or.inl (by decide)⟩ (wi_aload0 fField_copyFrom_0 (wi_aload1 fField_copyFrom_1 (wi_getf200 fField_copyFrom_2 (wi_putf200 fField_copyFrom_3 (wi_aload0 fField_copyFrom_4 (wi_aload1 fField_copyFrom_5 (wi_getf201 fField_copyFrom_6 (wi_putf201 fField_copyFrom_7 (wi_aload0 fField_copyFrom_8 (wi_aload1 fField_copyFrom_9 (wi_getf202 fField_copyFrom_10 (wi_putf202 fField_copyFrom_11 (wi_aload0 fField_copyFrom_12 (wi_aload1 fField_copyFrom_13 (wi_getf203 fField_copyFrom_14 (wi_putf203 fField_copyFrom_15 (wi_aload0 fField_copyFrom_16 (wi_aload1 fField_copyFrom_17 (wi_getf204 fField_copyFrom_18 (wi_putf204 fField_copyFrom_19 (wi_aload0 fField_copyFrom_20 (wi_aload1 fField_copyFrom_21 (wi_getf205 fField_copyFrom_22 (wi_putf205 fField_copyFrom_23 (wi_aload0 fField_copyFrom_24 (wi_aload1 fField_copyFrom_25 (wi_getf206 fField_copyFrom_26 (wi_putf206 fField_copyFrom_27 (wi_aload1 fField_copyFrom_28 (wi_getf207 fField_copyFrom_29 (wi_bipush fField_copyFrom_30 (wi_aload0 fField_copyFrom_31 (wi_getf207 fField_copyFrom_32 (wi_bipush fField_copyFrom_33 (wi_bipush fField_copyFrom_34 (wi_acopy fField_copyFrom_35 (by decide) (Nat.le_of_ble_eq_true rfl) (by decide) (by decide) (by decide) (by decide) (by decide) (wi_aload1 fField_copyFrom_36 (wi_getf208 fField_copyFrom_37 (wi_bipush fField_copyFrom_38 (wi_aload0 fField_copyFrom_39 (wi_getf208 fField_copyFrom_40 (wi_bipush fField_copyFrom_41 (wi_bipush fField_copyFrom_42 (wi_acopy fField_copyFrom_43 (by decide) (Nat.le_of_ble_eq_true rfl) (by decide) (by decide) (by decide) (by decide) (by decide) (wi_aload1 fField_copyFrom_44 (wi_getf209 fField_copyFrom_45 (wi_bipush fField_copyFrom_46 (wi_aload0 fField_copyFrom_47 (wi_getf209 fField_copyFrom_48 (wi_bipush fField_copyFrom_49 (wi_bipush fField_copyFrom_50 (wi_acopy fField_copyFrom_51 (by decide) (Nat.le_of_ble_eq_true rfl) (by decide) (by decide) (by decide) (by decide) (by decide) (wi_aload1 fField_copyFrom_52 (wi_getf210 fField_copyFrom_53 (wi_bipush fField_copyFrom_54 (wi_aload0 fField_copyFrom_55 (wi_getf210 fField_copyFrom_56 (wi_bipush fField_copyFrom_57 (wi_bipush fField_copyFrom_58 (wi_acopy fField_copyFrom_59 (by decide) (Nat.le_of_ble_eq_true rfl) (by decide) (by decide) (by decide) (by decide) (by decide) (wi_aload1 fField_copyFrom_60 (wi_getf211 fField_copyFrom_61 (wi_bipush fField_copyFrom_62 (wi_aload0 fField_copyFrom_63 (wi_getf211 fField_copyFrom_64 (wi_bipush fField_copyFrom_65 (wi_bipush fField_copyFrom_66 (wi_acopy fField_copyFrom_67 (by decide) (Nat.le_of_ble_eq_true rfl) (by decide) (by decide) (by decide) (by decide) (by decide) (wi_aload1 fField_copyFrom_68 (wi_getf212 fField_copyFrom_69 (wi_bipush fField_copyFrom_70 (wi_aload0 fField_copyFrom_71 (wi_getf212 fField_copyFrom_72 (wi_bipush fField_copyFrom_73 (wi_bipush fField_copyFrom_74 (wi_acopy fField_copyFrom_75 (by decide) (Nat.le_of_ble_eq_true rfl) (by decide) (by decide) (by decide) (by decide) (by decide) (wi_aload1 fField_copyFrom_76 (wi_getf213 fField_copyFrom_77 (wi_bipush fField_copyFrom_78 (wi_aload0 fField_copyFrom_79 (wi_getf213 fField_copyFrom_80 (wi_bipush fField_copyFrom_81 (wi_bipush fField_copyFrom_82 (wi_acopy fField_copyFrom_83 (by decide) (Nat.le_of_ble_eq_true rfl) (by decide) (by decide) (by decide) (by decide) (by decide) (wi_aload1 fField_copyFrom_84 (wi_getf214 fField_copyFrom_85 (wi_bipush fField_copyFrom_86 (wi_aload0 fField_copyFrom_87 (wi_getf214 fField_copyFrom_88 (wi_bipush fField_copyFrom_89 (wi_bipush fField_copyFrom_90 (wi_acopy fField_copyFrom_91 (by decide) (Nat.le_of_ble_eq_true rfl) (by decide) (by decide) (by decide) (by decide) (by decide) (wi_ret0 fField_copyFrom_92 (((((((((((((((h _ rfl) _ rfl) _ rfl) _ rfl) _ rfl) _ rfl) _ rfl) _ rfl) _ rfl) _ rfl) _ rfl) _ rfl) _ rfl) _ rfl) _ rfl)))))))))))))))))))))))))))))))))))))))))))))))))))))))))))))))))))))))))))))))))))))))))))))))
set_option maxHeartbeats 1000000 in
theorem k_Field_copyFrom {xs : List Int} {d : Nat} {Q : Option w_V → w_M → Prop} {a : Nat} {b : Nat} {σ : w_M} (hp : p_Field_copyFrom a b σ) (hQ : ∀ σ' : w_M, q_Field_copyFrom a b σ σ' → Q none σ') : w_Call (xs, d) 34 [.inr (.inr (2, a)), .inr (.inr (2, b))] σ Q := by
  obtain ⟨hok, hab⟩ := hp
  have hs := n_ok.s hok
  have hn := n_ok.n hok
  refine bField_copyFrom_0 ?_
  intro τ1 t1 τ2 t2 τ3 t3 τ4 t4 τ5 t5 τ6 t6 τ7 t7 τ8 t8 τ9 t9 τ10 t10 τ11 t11 τ12 t12 τ13 t13 τ14 t14 τ15 t15
  have f1 : w_fr σ τ1 a (a + 9) := by rw [t1]; exact w_fr.up0 (by omega) (by omega)
  have f2 : w_fr σ τ2 a (a + 9) := by rw [t2]; exact f1.up (by omega) (by omega)
  have f3 : w_fr σ τ3 a (a + 9) := by rw [t3]; exact f2.up (by omega) (by omega)
  have f4 : w_fr σ τ4 a (a + 9) := by rw [t4]; exact f3.up (by omega) (by omega)
  have f5 : w_fr σ τ5 a (a + 9) := by rw [t5]; exact f4.up (by omega) (by omega)
  have f6 : w_fr σ τ6 a (a + 9) := by rw [t6]; exact f5.up (by omega) (by omega)
  have f7 : w_fr σ τ7 a (a + 9) := by rw [t7]; exact f6.up (by omega) (by omega)
  have f8 : w_fr σ τ8 a (a + 9) := by rw [t8]; exact f7.cpy (by omega) (by omega)
  have f9 : w_fr σ τ9 a (a + 9) := by rw [t9]; exact f8.cpy (by omega) (by omega)
  have f10 : w_fr σ τ10 a (a + 9) := by rw [t10]; exact f9.cpy (by omega) (by omega)
  have f11 : w_fr σ τ11 a (a + 9) := by rw [t11]; exact f10.cpy (by omega) (by omega)
  have f12 : w_fr σ τ12 a (a + 9) := by rw [t12]; exact f11.cpy (by omega) (by omega)
  have f13 : w_fr σ τ13 a (a + 9) := by rw [t13]; exact f12.cpy (by omega) (by omega)
  have f14 : w_fr σ τ14 a (a + 9) := by rw [t14]; exact f13.cpy (by omega) (by omega)
  have f15 : w_fr σ τ15 a (a + 9) := by rw [t15]; exact f14.cpy (by omega) (by omega)
  have r15 : ∀ c, c < a + 8 → τ15 c = τ14 c := fun c hc => by rw [t15, w_cpy_ne (by omega)]
  have r14 : ∀ c, c < a + 7 → τ15 c = τ13 c := fun c hc => by rw [r15 c (by omega), t14, w_cpy_ne (by omega)]
  have r13 : ∀ c, c < a + 6 → τ15 c = τ12 c := fun c hc => by rw [r14 c (by omega), t13, w_cpy_ne (by omega)]
  have r12 : ∀ c, c < a + 5 → τ15 c = τ11 c := fun c hc => by rw [r13 c (by omega), t12, w_cpy_ne (by omega)]
  have r11 : ∀ c, c < a + 4 → τ15 c = τ10 c := fun c hc => by rw [r12 c (by omega), t11, w_cpy_ne (by omega)]
  have r10 : ∀ c, c < a + 3 → τ15 c = τ9 c := fun c hc => by rw [r11 c (by omega), t10, w_cpy_ne (by omega)]
  have r9 : ∀ c, c < a + 2 → τ15 c = τ8 c := fun c hc => by rw [r10 c (by omega), t9, w_cpy_ne (by omega)]
  have r8 : ∀ c, c < a + 1 → τ15 c = τ7 c := fun c hc => by rw [r9 c (by omega), t8, w_cpy_ne (by omega)]
  have hb : ∀ {τ : w_M}, w_fr σ τ a (a + 9) → ∀ k, k < 9 → τ (b + k) = σ (b + k) := fun f k hk => f _ (by omega)
  have h0 : ∀ j, j < 7 → τ15 a j = σ b j := fun j hj => by
    rw [r8 a (by omega), t7, t6, t5, t4, t3, t2, t1]
    have hb0 : b ≠ a := by omega
    rcases (show j = 0 ∨ j = 1 ∨ j = 2 ∨ j = 3 ∨ j = 4 ∨ j = 5 ∨ j = 6 by omega) with rfl | rfl | rfl | rfl | rfl | rfl | rfl <;> simp [w_up, hb0]
  refine hQ _ ⟨w_ab_eq h0 ?_, h0 6 (by decide), f15⟩
  intro k i k1 k9 hi
  have h7 : k ≤ 2 → i < 7 := fun hk => by rw [w_rl12 k1 hk] at hi; omega
  have h4 : 3 ≤ k → i < 4 := fun hk => by
    by_cases h8 : k = 8
    · subst h8; exact hi
    · rw [w_rl37 hk (by omega)] at hi; omega
  rcases (show k = 1 ∨ k = 2 ∨ k = 3 ∨ k = 4 ∨ k = 5 ∨ k = 6 ∨ k = 7 ∨ k = 8 by omega) with rfl | rfl | rfl | rfl | rfl | rfl | rfl | rfl
  · rw [r9 _ (by omega), t8, w_cpy_at (h7 (by decide)), hb f7 1 (by decide)]
  · rw [r10 _ (by omega), t9, w_cpy_at (h7 (by decide)), hb f8 2 (by decide)]
  · rw [r11 _ (by omega), t10, w_cpy_at (h4 (by decide)), hb f9 3 (by decide)]
  · rw [r12 _ (by omega), t11, w_cpy_at (h4 (by decide)), hb f10 4 (by decide)]
  · rw [r13 _ (by omega), t12, w_cpy_at (h4 (by decide)), hb f11 5 (by decide)]
  · rw [r14 _ (by omega), t13, w_cpy_at (h4 (by decide)), hb f12 6 (by decide)]
  · rw [r15 _ (by omega), t14, w_cpy_at (h4 (by decide)), hb f13 7 (by decide)]
  · rw [t15, w_cpy_at (h4 (by decide)), hb f14 8 (by decide)]
/-- where the reference keeps a night's numbers -/
noncomputable def m_ix (d i : Nat) : Nat := match d with
  | 1 => i
  | 2 => 7 + i
  | 3 => 21 + 5 * i
  | 4 => 22 + 5 * i
  | 5 => 23 + 5 * i
  | 6 => 24 + 5 * i
  | 7 => 25 + 5 * i
  | 8 => 43 + i
  | _ => 14 + i
noncomputable def m_L (d : Nat) : Nat := if d = 0 then 0 else if d ≤ 2 then 7 else if d ≤ 8 then 4 else if d = 9 then 7 else 0
theorem m_ix_inj0 : ∀ p, p < 70 → ∀ q, q < 70 → p % 7 < m_L (p / 7) → q % 7 < m_L (q / 7) → m_ix (p / 7) (p % 7) = m_ix (q / 7) (q % 7) → p = q := by decide +kernel
theorem m_ix_inj (d : Nat) (hd : d < 10) (i : Nat) (hi : i < 7) (e : Nat) (he : e < 10) (j : Nat) (hj : j < 7) (h1 : i < m_L d) (h2 : j < m_L e) (h : m_ix d i = m_ix e j) : d = e ∧ i = j := by
  have a1 : (7 * d + i) / 7 = d := by omega
  have a2 : (7 * d + i) % 7 = i := by omega
  have b1 : (7 * e + j) / 7 = e := by omega
  have b2 : (7 * e + j) % 7 = j := by omega
  have := m_ix_inj0 (7 * d + i) (by omega) (7 * e + j) (by omega) (by rw [a1, a2]; exact h1) (by rw [b1, b2]; exact h2) (by rw [a1, a2, b1, b2]; exact h)
  omega
theorem m_ix_sc : ∀ d, d < 10 → ∀ i, i < 7 → i < m_L d → m_ix d i ≠ 41 ∧ m_ix d i ≠ 42 ∧ m_ix d i ≠ 47 ∧ m_ix d i < 48 := by decide +kernel
noncomputable def m_rl (σ : w_M) (d : Nat) : Nat := if d = 0 then 0 else if d ≤ 2 then (σ 122 4).toNat else if d ≤ 7 then (σ 122 5).toNat else if d = 8 then 4 else if d = 9 then (σ 122 4).toNat else 0
noncomputable def w_am (σ : w_M) (c o : Nat) : w_M := fun d i => if d = 0 then (if i = 0 then σ 122 3 else if i = 1 then σ c (o + 42) else if i = 2 then σ c (o + 41) else if i = 3 then σ c (o + 47) else if i = 4 then σ 122 4 else if i = 5 then σ 122 5 else 0)
  else if i < m_rl σ d then σ c (o + m_ix d i) else 0
noncomputable def m_sm (σ : w_M) : Prop := (σ 122 4).toNat ≤ 7 ∧ (σ 122 5).toNat ≤ 4
theorem m_rl_le {σ : w_M} (h : m_sm σ) (d : Nat) : m_rl σ d ≤ m_L d := by
  unfold m_sm at h
  unfold m_rl m_L
  repeat' split
  all_goals omega
theorem m_rd {σ : w_M} {c o d i x : Nat} (hd : d ≠ 0) (hi : i < m_rl σ d) (hx : x = o + m_ix d i) : σ c x = w_am σ c o d i := by
  unfold w_am
  rw [if_neg hd, if_pos hi, hx]
theorem m_rl_d {σ : w_M} {d i : Nat} (h : m_sm σ) (hi : i < m_rl σ d) : d < 10 ∧ i < 7 ∧ i < m_L d := by
  have h1 := m_rl_le h d
  have : i < m_L d := by omega
  refine ⟨?_, ?_, this⟩
  · unfold m_L at this
    repeat' split at this
    all_goals omega
  · unfold m_L at this
    repeat' split at this
    all_goals omega
theorem w_am_up {σ : w_M} {c o d i x : Nat} {v : Int} (h : m_sm σ) (hc : c ≠ 122) (hi : i < m_rl σ d) (hx : x = o + m_ix d i) : w_am (w_up σ c x v) c o = w_up (w_am σ c o) d i v := by
  obtain ⟨d10, i7, iL⟩ := m_rl_d h hi
  have hd0 : d ≠ 0 := fun e => by rw [e] at hi; simp [m_rl] at hi
  have h0 : w_up σ c x v 122 = σ 122 := w_up_ne (fun e => hc e.symm)
  have hr : ∀ k, m_rl (w_up σ c x v) k = m_rl σ k := fun k => by unfold m_rl; rw [h0]
  obtain ⟨s1, s2, s3, s4⟩ := m_ix_sc d d10 i i7 iL
  funext k j
  by_cases hk : k = 0
  · subst hk
    show w_am (w_up σ c x v) c o 0 j = if 0 = d ∧ j = i then v else w_am σ c o 0 j
    unfold w_am
    rw [h0]
    have e1 : w_up σ c x v c (o + 42) = σ c (o + 42) := w_up_j (by omega)
    have e2 : w_up σ c x v c (o + 41) = σ c (o + 41) := w_up_j (by omega)
    have e3 : w_up σ c x v c (o + 47) = σ c (o + 47) := w_up_j (by omega)
    rw [if_pos rfl, e1, e2, e3, if_neg (show ¬ (0 = d ∧ j = i) by omega), if_pos rfl]
  · have eL : w_am (w_up σ c x v) c o k j = if j < m_rl σ k then w_up σ c x v c (o + m_ix k j) else 0 := by
      unfold w_am
      rw [if_neg hk, hr]
    rw [eL]
    show _ = if k = d ∧ j = i then v else w_am σ c o k j
    by_cases hj : j < m_rl σ k
    · obtain ⟨k10, j7, jL⟩ := m_rl_d h hj
      rw [if_pos hj]
      by_cases hq : k = d ∧ j = i
      · rw [if_pos hq, hq.1, hq.2, ← hx, w_up_at]
      · rw [if_neg hq, w_up_j (fun e => hq (m_ix_inj k k10 j j7 d d10 i i7 jL iL (by omega)))]
        exact m_rd hk hj rfl
    · rw [if_neg hj, if_neg (fun q => hj (by rw [q.1, q.2]; exact hi))]
      unfold w_am
      rw [if_neg hk, if_neg hj]
theorem w_am_up0 {σ : w_M} {c o j x : Nat} {v : Int} (h : m_sm σ) (hc : c ≠ 122) (hx : (j = 1 ∧ x = o + 42) ∨ (j = 2 ∧ x = o + 41) ∨ (j = 3 ∧ x = o + 47)) : w_am (w_up σ c x v) c o = w_up (w_am σ c o) 0 j v := by
  have h0 : w_up σ c x v 122 = σ 122 := w_up_ne (fun e => hc e.symm)
  have hr : ∀ k, m_rl (w_up σ c x v) k = m_rl σ k := fun k => by unfold m_rl; rw [h0]
  funext k q
  by_cases hk : k = 0
  · subst hk
    show w_am (w_up σ c x v) c o 0 q = if (0 : Nat) = 0 ∧ q = j then v else w_am σ c o 0 q
    by_cases hq : q = j
    · rw [if_pos (show (0 : Nat) = 0 ∧ q = j from ⟨rfl, hq⟩)]
      unfold w_am
      rw [if_pos rfl, h0]
      rcases hx with ⟨rfl, rfl⟩ | ⟨rfl, rfl⟩ | ⟨rfl, rfl⟩ <;> subst hq <;> simp [w_up]
    · rw [if_neg (show ¬ ((0 : Nat) = 0 ∧ q = j) from fun e => hq e.2)]
      unfold w_am
      rw [if_pos rfl, if_pos rfl, h0]
      rcases hx with ⟨rfl, rfl⟩ | ⟨rfl, rfl⟩ | ⟨rfl, rfl⟩
      · simp only [w_up_j (show o + 41 ≠ o + 42 by omega), w_up_j (show o + 47 ≠ o + 42 by omega), if_neg hq]
      · simp only [w_up_j (show o + 42 ≠ o + 41 by omega), w_up_j (show o + 47 ≠ o + 41 by omega), if_neg hq]
      · simp only [w_up_j (show o + 42 ≠ o + 47 by omega), w_up_j (show o + 41 ≠ o + 47 by omega), if_neg hq]
  · have eL : w_am (w_up σ c x v) c o k q = if q < m_rl σ k then w_up σ c x v c (o + m_ix k q) else 0 := by
      unfold w_am
      rw [if_neg hk, hr]
    rw [eL]
    show _ = if k = 0 ∧ q = j then v else w_am σ c o k q
    rw [if_neg (fun e : k = 0 ∧ q = j => hk e.1)]
    by_cases hj : q < m_rl σ k
    · obtain ⟨k10, j7, jL⟩ := m_rl_d h hj
      obtain ⟨s1, s2, s3, s4⟩ := m_ix_sc k k10 q j7 jL
      rw [if_pos hj, w_up_j (by omega)]
      exact m_rd hk hj rfl
    · rw [if_neg hj]
      unfold w_am
      rw [if_neg hk, if_neg hj]
theorem w_am_fr {σ σ' : w_M} {c o : Nat} (h0 : σ' 122 3 = σ 122 3 ∧ σ' 122 4 = σ 122 4 ∧ σ' 122 5 = σ 122 5) (h : σ' c = σ c) : w_am σ' c o = w_am σ c o := by
  funext k j
  unfold w_am m_rl
  rw [h0.1, h0.2.1, h0.2.2, h]
noncomputable def m_ok (σ : w_M) (c o : Nat) : Prop := n_WF (w_am σ c o)
theorem m_ok.s {σ : w_M} {c o : Nat} (h : m_ok σ c o) : 0 ≤ σ 122 4 ∧ σ 122 4 ≤ 7 := n_WF.s h
theorem m_ok.n {σ : w_M} {c o : Nat} (h : m_ok σ c o) : 0 ≤ σ 122 5 ∧ σ 122 5 ≤ 4 := n_WF.n h
theorem m_ok.hrs {σ : w_M} {c o : Nat} (h : m_ok σ c o) : 1 ≤ σ 122 3 ∧ σ 122 3 ≤ 12 := n_WF.hrs h
theorem m_ok.hr {σ : w_M} {c o : Nat} (h : m_ok σ c o) : 0 ≤ σ c (o + 42) ∧ σ c (o + 42) ≤ σ 122 3 := n_WF.hr h
theorem m_ok.sm {σ : w_M} {c o : Nat} (h : m_ok σ c o) : m_sm σ := by
  have := h.s
  have := h.n
  exact ⟨by omega, by omega⟩
theorem n_s_am {σ : w_M} {c o : Nat} : n_s (w_am σ c o) = (σ 122 4).toNat := rfl
theorem n_n_am {σ : w_M} {c o : Nat} : n_n (w_am σ c o) = (σ 122 5).toNat := rfl
end
section
/-! The reference's night -/
/-- one cell alone may have changed -/
noncomputable def w_f1 (σ σ' : w_M) (c : Nat) : Prop := ∀ b, b ≠ c → σ' b = σ b
theorem w_f1.rfl' {σ : w_M} {c : Nat} : w_f1 σ σ c := fun _ _ => rfl
theorem w_f1.tr {σ σ1 σ2 : w_M} {c : Nat} (h : w_f1 σ σ1 c) (h2 : w_f1 σ1 σ2 c) : w_f1 σ σ2 c := fun b hb => (h2 b hb).trans (h b hb)
theorem w_f1.up {σ σ' : w_M} {c i : Nat} {x : Int} (h : w_f1 σ σ' c) : w_f1 σ (w_up σ' c i x) c := fun b hb => by rw [w_up_ne hb]; exact h b hb
theorem w_f1.up0 {σ : w_M} {c i : Nat} {x : Int} : w_f1 σ (w_up σ c i x) c := w_f1.rfl'.up
/-- of the reference's trial alone, and there of the night alone -/
noncomputable def w_g1 (σ σ' : w_M) : Prop := w_f1 σ σ' 124 ∧ ∀ x, 48 ≤ x → σ' 124 x = σ 124 x
theorem w_g1.rfl' {σ : w_M} : w_g1 σ σ := ⟨w_f1.rfl', fun _ _ => rfl⟩
theorem w_g1.tr {σ σ1 σ2 : w_M} (h : w_g1 σ σ1) (h2 : w_g1 σ1 σ2) : w_g1 σ σ2 := ⟨h.1.tr h2.1, fun x hx => (h2.2 x hx).trans (h.2 x hx)⟩
theorem w_g1.up {σ σ' : w_M} {i : Nat} {x : Int} (h : w_g1 σ σ') (hi : i < 48) : w_g1 σ (w_up σ' 124 i x) := ⟨h.1.up, fun y hy => by rw [w_up_j (by omega)]; exact h.2 y hy⟩
theorem w_g1.up0 {σ : w_M} {i : Nat} {x : Int} (hi : i < 48) : w_g1 σ (w_up σ 124 i x) := w_g1.rfl'.up hi
noncomputable def v_Model_flag (x : Int) : Int := if x = 0 then 0 else 1
theorem fModel_in_0 : w_fe am_c157 0 1 (.lload 0) := ⟨rfl, rfl⟩
theorem fModel_in_1 : w_fe am_c157 1 2 (.lload 2) := ⟨rfl, rfl⟩
theorem fModel_in_2 : w_fe am_c157 2 3 (.lcmp) := ⟨rfl, rfl⟩
theorem fModel_in_3 : w_if am_c157 3 4 .lt 10 := ⟨rfl, rfl⟩
theorem fModel_in_4 : w_fe am_c157 4 5 (.lload 0) := ⟨rfl, rfl⟩
theorem fModel_in_5 : w_fe am_c157 5 6 (.lload 4) := ⟨rfl, rfl⟩
theorem fModel_in_6 : w_fe am_c157 6 7 (.lcmp) := ⟨rfl, rfl⟩
theorem fModel_in_7 : w_if am_c157 7 8 .gt 10 := ⟨rfl, rfl⟩
theorem fModel_in_8 : w_fe am_c157 8 9 (.bipush 1) := ⟨rfl, rfl⟩
theorem fModel_in_9 : w_gt am_c157 9 11 := rfl
theorem fModel_in_10 : w_fe am_c157 10 11 (.bipush 0) := ⟨rfl, rfl⟩
theorem fModel_in_11 : w_fe am_c157 11 12 (.ireturn) := ⟨rfl, rfl⟩
set_option maxRecDepth 20000 in
theorem bModel_in_0 {xs : List Int} {d : Nat} {Q : Option w_V → w_M → Prop} {x0 : Int} {x1 : Int} {x2 : Int} {σ : w_M}
    (h : (x0 < x1 → Q (some (.inl 0)) σ) ∧ (x1 ≤ x0 → ((x2 < x0 → Q (some (.inl 0)) σ) ∧ (x0 ≤ x2 → Q (some (.inl 1)) σ)))) : w_Call (xs, d) 157 [.inr (.inl x0), .inr (.inl x1), .inr (.inl x2)] σ Q :=
  (w_mk (mid := 157) (by decide) rfl rfl rfl rfl rfl (Nat.le_of_ble_eq_true rfl) trivial (wi_lload0 fModel_in_0 (wi_lload2 fModel_in_1 (wi_lcmp_lt fModel_in_2 fModel_in_3 (fun c2 => (wi_bipush fModel_in_10 (wi_ret2 fModel_in_11 (by decide) (h.1 c2)))) (fun c2 => (wi_lload0 fModel_in_4 (wi_lload4 fModel_in_5 (wi_lcmp_gt fModel_in_6 fModel_in_7 (fun c1 => (wi_bipush fModel_in_10 (wi_ret2 fModel_in_11 (by decide) ((h.2 c2).1 c1)))) (fun c1 => (wi_bipush fModel_in_8 (wi_goto fModel_in_9 (wi_ret2 fModel_in_11 (by decide) ((h.2 c2).2 c1)))))))))))))
theorem fModel_flag_0 : w_fe am_c179 0 1 (.iload 0) := ⟨rfl, rfl⟩
theorem fModel_flag_1 : w_if am_c179 1 2 .eq 4 := ⟨rfl, rfl⟩
theorem fModel_flag_2 : w_fe am_c179 2 3 (.bipush 1) := ⟨rfl, rfl⟩
theorem fModel_flag_3 : w_gt am_c179 3 5 := rfl
theorem fModel_flag_4 : w_fe am_c179 4 5 (.bipush 0) := ⟨rfl, rfl⟩
theorem fModel_flag_5 : w_fe am_c179 5 6 (.ireturn) := ⟨rfl, rfl⟩
set_option maxRecDepth 20000 in
theorem bModel_flag_0 {xs : List Int} {d : Nat} {Q : Option w_V → w_M → Prop} {x0 : Int} {σ : w_M}
    (h : (x0 = 0 → Q (some (.inl 0)) σ) ∧ (¬ x0 = 0 → Q (some (.inl 1)) σ)) : w_Call (xs, d) 179 [.inl x0] σ Q :=
  (w_mk (mid := 179) (by decide) rfl rfl rfl rfl rfl (Nat.le_of_ble_eq_true rfl) trivial (wi_iload0 fModel_flag_0 (wi_if_eq fModel_flag_1 (fun c1 => (wi_bipush fModel_flag_4 (wi_ret1 fModel_flag_5 (h.1 c1)))) (fun c1 => (wi_bipush fModel_flag_2 (wi_goto fModel_flag_3 (wi_ret1 fModel_flag_5 (h.2 c1))))))))
theorem k_Model_in {xs : List Int} {d : Nat} {Q : Option w_V → w_M → Prop} {x0 : Int} {x1 : Int} {x2 : Int} {σ : w_M} (hQ : Q (some (.inl (w_bi (x1 ≤ x0 ∧ x0 ≤ x2)))) σ) : w_Call (xs, d) 157 [.inr (.inl x0), .inr (.inl x1), .inr (.inl x2)] σ Q := by
  refine bModel_in_0 ⟨fun h => ?_, fun h => ⟨fun h2 => ?_, fun h2 => ?_⟩⟩
  · rw [w_bi_f (by omega)] at hQ; exact hQ
  · rw [w_bi_f (by omega)] at hQ; exact hQ
  · rw [w_bi_t (by omega)] at hQ; exact hQ
theorem k_Model_flag {xs : List Int} {d : Nat} {Q : Option w_V → w_M → Prop} {x0 : Int} {σ : w_M} (hQ : Q (some (.inl (v_Model_flag x0))) σ) : w_Call (xs, d) 179 [.inl x0] σ Q := by
  unfold v_Model_flag at hQ
  refine bModel_flag_0 ⟨fun h => ?_, fun h => ?_⟩
  · rw [if_pos h] at hQ; exact hQ
  · rw [if_neg h] at hQ; exact hQ
noncomputable def p_Model_isStrip (_ : Int) (σ : w_M) : Prop := 0 ≤ σ 122 4 ∧ σ 122 4 ≤ 7
noncomputable def p_Model_isReaper (_ : Int) (σ : w_M) : Prop := 0 ≤ σ 122 5 ∧ σ 122 5 ≤ 4
theorem fModel_isStrip_0 : w_fe am_c177 0 1 (.iload 1) := ⟨rfl, rfl⟩
theorem fModel_isStrip_1 : w_fe am_c177 1 2 (.i2l) := ⟨rfl, rfl⟩
theorem fModel_isStrip_2 : w_fe am_c177 2 3 (.sipush 0) := ⟨rfl, rfl⟩
theorem fModel_isStrip_3 : w_fe am_c177 3 4 (.aload 0) := ⟨rfl, rfl⟩
theorem fModel_isStrip_4 : w_fe am_c177 4 5 (.getfield 904) := ⟨rfl, rfl⟩
theorem fModel_isStrip_5 : w_fe am_c177 5 6 (.bipush 1) := ⟨rfl, rfl⟩
theorem fModel_isStrip_6 : w_fe am_c177 6 7 (.isub) := ⟨rfl, rfl⟩
theorem fModel_isStrip_7 : w_fe am_c177 7 8 (.i2l) := ⟨rfl, rfl⟩
theorem fModel_isStrip_8 : w_fe am_c177 8 9 (.invokestatic 157) := ⟨rfl, rfl⟩
theorem fModel_isStrip_9 : w_fe am_c177 9 10 (.ireturn) := ⟨rfl, rfl⟩
set_option maxRecDepth 20000 in
theorem bModel_isStrip_0 {xs : List Int} {d : Nat} {Q : Option w_V → w_M → Prop} {x1 : Int} {σ : w_M}
    (h : w_in ((σ 122 4) - 1) ∧ Q (some (.inl (w_bi (0 ≤ x1 ∧ x1 ≤ ((σ 122 4) - 1))))) σ) : w_Call (xs, (d + 1)) 177 [.inr (.inr (9, 122)), .inl x1] σ Q :=
  (w_mk (mid := 177) (by decide) rfl rfl rfl rfl rfl (Nat.le_of_ble_eq_true rfl) ⟨rfl, Or.inl (by decide)⟩ (wi_iload1 fModel_isStrip_0 (wi_i2l fModel_isStrip_1 (wi_sipush fModel_isStrip_2 (wi_aload0 fModel_isStrip_3 (wi_getf904 fModel_isStrip_4 (wi_bipush fModel_isStrip_5 (wi_isub fModel_isStrip_6 h.1 (wi_i2l fModel_isStrip_7 (wi_call3 fModel_isStrip_8 (Nat.le_of_ble_eq_true rfl) (k_Model_in (wi_ret2 fModel_isStrip_9 (w_bi01 _) h.2))))))))))))
theorem fModel_isReaper_0 : w_fe am_c181 0 1 (.iload 1) := ⟨rfl, rfl⟩
theorem fModel_isReaper_1 : w_fe am_c181 1 2 (.i2l) := ⟨rfl, rfl⟩
theorem fModel_isReaper_2 : w_fe am_c181 2 3 (.sipush 0) := ⟨rfl, rfl⟩
theorem fModel_isReaper_3 : w_fe am_c181 3 4 (.aload 0) := ⟨rfl, rfl⟩
theorem fModel_isReaper_4 : w_fe am_c181 4 5 (.getfield 905) := ⟨rfl, rfl⟩
theorem fModel_isReaper_5 : w_fe am_c181 5 6 (.bipush 1) := ⟨rfl, rfl⟩
theorem fModel_isReaper_6 : w_fe am_c181 6 7 (.isub) := ⟨rfl, rfl⟩
theorem fModel_isReaper_7 : w_fe am_c181 7 8 (.i2l) := ⟨rfl, rfl⟩
theorem fModel_isReaper_8 : w_fe am_c181 8 9 (.invokestatic 157) := ⟨rfl, rfl⟩
theorem fModel_isReaper_9 : w_fe am_c181 9 10 (.ireturn) := ⟨rfl, rfl⟩
set_option maxRecDepth 20000 in
theorem bModel_isReaper_0 {xs : List Int} {d : Nat} {Q : Option w_V → w_M → Prop} {x1 : Int} {σ : w_M}
    (h : w_in ((σ 122 5) - 1) ∧ Q (some (.inl (w_bi (0 ≤ x1 ∧ x1 ≤ ((σ 122 5) - 1))))) σ) : w_Call (xs, (d + 1)) 181 [.inr (.inr (9, 122)), .inl x1] σ Q :=
  (w_mk (mid := 181) (by decide) rfl rfl rfl rfl rfl (Nat.le_of_ble_eq_true rfl) ⟨rfl, Or.inl (by decide)⟩ (wi_iload1 fModel_isReaper_0 (wi_i2l fModel_isReaper_1 (wi_sipush fModel_isReaper_2 (wi_aload0 fModel_isReaper_3 (wi_getf905 fModel_isReaper_4 (wi_bipush fModel_isReaper_5 (wi_isub fModel_isReaper_6 h.1 (wi_i2l fModel_isReaper_7 (wi_call3 fModel_isReaper_8 (Nat.le_of_ble_eq_true rfl) (k_Model_in (wi_ret2 fModel_isReaper_9 (w_bi01 _) h.2))))))))))))
theorem fModel_isOwner_0 : w_fe am_c183 0 1 (.iload 0) := ⟨rfl, rfl⟩
theorem fModel_isOwner_1 : w_fe am_c183 1 2 (.i2l) := ⟨rfl, rfl⟩
theorem fModel_isOwner_2 : w_fe am_c183 2 3 (.sipush 0) := ⟨rfl, rfl⟩
theorem fModel_isOwner_3 : w_fe am_c183 3 4 (.sipush 3) := ⟨rfl, rfl⟩
theorem fModel_isOwner_4 : w_fe am_c183 4 5 (.invokestatic 157) := ⟨rfl, rfl⟩
theorem fModel_isOwner_5 : w_fe am_c183 5 6 (.ireturn) := ⟨rfl, rfl⟩
set_option maxRecDepth 20000 in
theorem bModel_isOwner_0 {xs : List Int} {d : Nat} {Q : Option w_V → w_M → Prop} {x0 : Int} {σ : w_M}
    (h : Q (some (.inl (w_bi (0 ≤ x0 ∧ x0 ≤ 3)))) σ) : w_Call (xs, (d + 1)) 183 [.inl x0] σ Q :=
  (w_mk (mid := 183) (by decide) rfl rfl rfl rfl rfl (Nat.le_of_ble_eq_true rfl) trivial (wi_iload0 fModel_isOwner_0 (wi_i2l fModel_isOwner_1 (wi_sipush fModel_isOwner_2 (wi_sipush fModel_isOwner_3 (wi_call3 fModel_isOwner_4 (Nat.le_of_ble_eq_true rfl) (k_Model_in (wi_ret2 fModel_isOwner_5 (w_bi01 _) h))))))))
theorem k_Model_isStrip {xs : List Int} {d : Nat} {Q : Option w_V → w_M → Prop} {x1 : Int} {σ : w_M} (hp : p_Model_isStrip x1 σ) (hQ : Q (some (.inl (w_bi (0 ≤ x1 ∧ x1 < σ 122 4)))) σ) : w_Call (xs, d + 1) 177 [.inr (.inr (9, 122)), .inl x1] σ Q := by
  unfold p_Model_isStrip at hp
  refine bModel_isStrip_0 ⟨⟨by omega, by omega⟩, ?_⟩
  rw [w_bi_congr (show (0 ≤ x1 ∧ x1 ≤ σ 122 4 - 1) ↔ (0 ≤ x1 ∧ x1 < σ 122 4) by omega)]
  exact hQ
theorem k_Model_isReaper {xs : List Int} {d : Nat} {Q : Option w_V → w_M → Prop} {x1 : Int} {σ : w_M} (hp : p_Model_isReaper x1 σ) (hQ : Q (some (.inl (w_bi (0 ≤ x1 ∧ x1 < σ 122 5)))) σ) : w_Call (xs, d + 1) 181 [.inr (.inr (9, 122)), .inl x1] σ Q := by
  unfold p_Model_isReaper at hp
  refine bModel_isReaper_0 ⟨⟨by omega, by omega⟩, ?_⟩
  rw [w_bi_congr (show (0 ≤ x1 ∧ x1 ≤ σ 122 5 - 1) ↔ (0 ≤ x1 ∧ x1 < σ 122 5) by omega)]
  exact hQ
theorem k_Model_isOwner {xs : List Int} {d : Nat} {Q : Option w_V → w_M → Prop} {x0 : Int} {σ : w_M} (hQ : Q (some (.inl (w_bi (0 ≤ x0 ∧ x0 ≤ 3)))) σ) : w_Call (xs, d + 1) 183 [.inl x0] σ Q := bModel_isOwner_0 hQ
noncomputable def p_Model_starts (σ : w_M) : Prop := m_sm σ
noncomputable def q_Model_starts (σ σ' : w_M) : Prop := w_am σ' 124 0 = w_am σ 123 0 ∧ w_f1 σ σ' 124 ∧ (∀ j, j < 82 → σ' 124 j = σ 123 j)
theorem fModel_starts_0 : w_fe am_c174 0 1 (.bipush 0) := ⟨rfl, rfl⟩
theorem fModel_starts_1 : w_fe am_c174 1 2 (.istore 1) := ⟨rfl, rfl⟩
theorem fModel_starts_2 : w_fe am_c174 2 3 (.iload 1) := ⟨rfl, rfl⟩
theorem fModel_starts_3 : w_fe am_c174 3 4 (.bipush 82) := ⟨rfl, rfl⟩
theorem fModel_starts_4 : w_ic am_c174 4 5 .ge 15 := ⟨rfl, rfl⟩
theorem fModel_starts_5 : w_fe am_c174 5 6 (.aload 0) := ⟨rfl, rfl⟩
theorem fModel_starts_6 : w_fe am_c174 6 7 (.getfield 901) := ⟨rfl, rfl⟩
theorem fModel_starts_7 : w_fe am_c174 7 8 (.iload 1) := ⟨rfl, rfl⟩
theorem fModel_starts_8 : w_fe am_c174 8 9 (.aload 0) := ⟨rfl, rfl⟩
theorem fModel_starts_9 : w_fe am_c174 9 10 (.getfield 900) := ⟨rfl, rfl⟩
theorem fModel_starts_10 : w_fe am_c174 10 11 (.iload 1) := ⟨rfl, rfl⟩
theorem fModel_starts_11 : w_fe am_c174 11 12 (.iaload) := ⟨rfl, rfl⟩
theorem fModel_starts_12 : w_fe am_c174 12 13 (.iastore) := ⟨rfl, rfl⟩
theorem fModel_starts_13 : w_fe am_c174 13 14 (.iinc 1 1) := ⟨rfl, rfl⟩
theorem fModel_starts_14 : w_gt am_c174 14 2 := rfl
theorem fModel_starts_15 : w_fe am_c174 15 16 (.return_) := ⟨rfl, rfl⟩
noncomputable def LModel_starts_2 (xs : List Int) (d : Nat) (Q : Option w_V → w_M → Prop) (v1 : Int) (σ : w_M) : Prop := w_Ex (xs, d) 0 am_c174 Q 2 [some (.inr (.inr (9, 122))), some (.inl v1)] [] σ
set_option maxRecDepth 20000 in
theorem bModel_starts_0 {xs : List Int} {d : Nat} {Q : Option w_V → w_M → Prop}  {σ : w_M}
    (h : LModel_starts_2 xs d Q 0 σ) : w_Call (xs, d) 174 [.inr (.inr (9, 122))] σ Q :=
  (w_mk (mid := 174) (by decide) rfl rfl rfl rfl rfl (Nat.le_of_ble_eq_true rfl) ⟨rfl, Or.inl (by decide)⟩ (wi_bipush fModel_starts_0 (wi_istore1 fModel_starts_1 trivial h)))
set_option maxRecDepth 20000 in
theorem bModel_starts_2 {xs : List Int} {d : Nat} {Q : Option w_V → w_M → Prop} {v1 : Int} {σ : w_M}
    (h : (82 ≤ v1 → Q none σ) ∧ (v1 < 82 → (0 ≤ v1 ∧ v1 < 246 ∧ (∀ (τ1 : w_M), τ1 = w_up σ 124 v1.toNat (σ 123 v1.toNat) → (w_in (v1 + 1) ∧ LModel_starts_2 xs d Q (v1 + 1) τ1))))) : LModel_starts_2 xs d Q v1 σ :=
  (wi_iload1 fModel_starts_2 (wi_bipush fModel_starts_3 (wi_ic_ge fModel_starts_4 (fun c2 => (wi_ret0 fModel_starts_15 (h.1 c2))) (fun c2 => (wi_aload0 fModel_starts_5 (wi_getf901 fModel_starts_6 (wi_iload1 fModel_starts_7 (wi_aload0 fModel_starts_8 (wi_getf900 fModel_starts_9 (wi_iload1 fModel_starts_10 (wi_iald1246 fModel_starts_11 (h.2 c2).1 (h.2 c2).2.1 (wi_iast1082 fModel_starts_12 (h.2 c2).1 c2 (wi_iinc1 fModel_starts_13 trivial ((h.2 c2).2.2 _ rfl).1 (wi_goto fModel_starts_14 ((h.2 c2).2.2 _ rfl).2))))))))))))))
theorem k_Model_starts {xs : List Int} {d : Nat} {Q : Option w_V → w_M → Prop}  {σ : w_M} (hp : p_Model_starts σ) (hQ : ∀ σ' : w_M, q_Model_starts σ σ' → Q none σ') : w_Call (xs, d) 174 [.inr (.inr (9, 122))] σ Q := by
  refine bModel_starts_0 ?_
  refine (w_loop (n := 82) (P := fun k => ∀ τ : w_M, w_f1 σ τ 124 → (∀ j, j < k → τ 124 j = σ 123 j) → LModel_starts_2 xs d Q (k : Int) τ) ?_ ?_) σ w_f1.rfl' (fun j hj => by omega)
  · intro τ F h
    refine bModel_starts_2 ⟨fun _ => hQ _ ⟨?_, F, h⟩, fun h => by omega⟩
    have h122 : τ 122 = σ 122 := F 122 (by decide)
    have hr : ∀ k, m_rl τ k = m_rl σ k := fun k => by unfold m_rl; rw [h122]
    funext k j
    unfold w_am
    rw [h122, hr, h 42 (by decide), h 41 (by decide), h 47 (by decide)]
    by_cases hj : j < m_rl σ k
    · obtain ⟨k10, j7, jL⟩ := m_rl_d hp hj
      have := (m_ix_sc k k10 j j7 jL).2.2.2
      rw [if_pos hj, if_pos hj, Nat.zero_add, h _ (by omega)]
    · rw [if_neg hj, if_neg hj]
  · intro k hk ih τ F h
    refine bModel_starts_2 ⟨fun h => by omega, fun _ => ⟨by omega, by omega, fun τ1 t1 => ⟨⟨by omega, by omega⟩, ?_⟩⟩⟩
    rw [← w_cs1]
    refine ih τ1 (by rw [t1]; exact F.up) (fun j hj => ?_)
    rw [t1, Int.toNat_natCast, w_up_eq]
    by_cases hjk : j = k
    · rw [if_pos ⟨rfl, hjk⟩, F 123 (by decide), hjk]
    · rw [if_neg (fun e => hjk e.2)]
      exact h j (by omega)
noncomputable def p_Model_of (r k : Int) (_ : w_M) : Prop := (0 ≤ r ∧ r ≤ 3) ∧ (0 ≤ k ∧ k ≤ 4)
noncomputable def p_Model_becomesOf (r k _v : Int) (_ : w_M) : Prop := (0 ≤ r ∧ r ≤ 3) ∧ (0 ≤ k ∧ k ≤ 4)
noncomputable def q_Model_becomesOf (r k v : Int) (σ σ' : w_M) : Prop := σ' = w_up σ 124 (21 + 5 * r + k).toNat v
theorem fModel_of_0 : w_fe am_c178 0 1 (.aload 0) := ⟨rfl, rfl⟩
theorem fModel_of_1 : w_fe am_c178 1 2 (.getfield 901) := ⟨rfl, rfl⟩
theorem fModel_of_2 : w_fe am_c178 2 3 (.bipush 21) := ⟨rfl, rfl⟩
theorem fModel_of_3 : w_fe am_c178 3 4 (.bipush 5) := ⟨rfl, rfl⟩
theorem fModel_of_4 : w_fe am_c178 4 5 (.iload 1) := ⟨rfl, rfl⟩
theorem fModel_of_5 : w_fe am_c178 5 6 (.imul) := ⟨rfl, rfl⟩
theorem fModel_of_6 : w_fe am_c178 6 7 (.iadd) := ⟨rfl, rfl⟩
theorem fModel_of_7 : w_fe am_c178 7 8 (.iload 2) := ⟨rfl, rfl⟩
theorem fModel_of_8 : w_fe am_c178 8 9 (.iadd) := ⟨rfl, rfl⟩
theorem fModel_of_9 : w_fe am_c178 9 10 (.iaload) := ⟨rfl, rfl⟩
theorem fModel_of_10 : w_fe am_c178 10 11 (.ireturn) := ⟨rfl, rfl⟩
set_option maxRecDepth 20000 in
theorem bModel_of_0 {xs : List Int} {d : Nat} {Q : Option w_V → w_M → Prop} {x1 : Int} {x2 : Int} {σ : w_M}
    (h : w_in (5 * x1) ∧ w_in (21 + (5 * x1)) ∧ w_in ((21 + (5 * x1)) + x2) ∧ 0 ≤ ((21 + (5 * x1)) + x2) ∧ ((21 + (5 * x1)) + x2) < 82 ∧ Q (some (.inl (σ 124 ((21 + (5 * x1)) + x2).toNat))) σ) : w_Call (xs, d) 178 [.inr (.inr (9, 122)), .inl x1, .inl x2] σ Q :=
  (w_mk (mid := 178) (by decide) rfl rfl rfl rfl rfl (Nat.le_of_ble_eq_true rfl) ⟨rfl, Or.inl (by decide)⟩ (wi_aload0 fModel_of_0 (wi_getf901 fModel_of_1 (wi_bipush fModel_of_2 (wi_bipush fModel_of_3 (wi_iload1 fModel_of_4 (wi_imul fModel_of_5 h.1 (wi_iadd fModel_of_6 h.2.1 (wi_iload2 fModel_of_7 (wi_iadd fModel_of_8 h.2.2.1 (wi_iald1082 fModel_of_9 h.2.2.2.1 h.2.2.2.2.1 (wi_ret1 fModel_of_10 h.2.2.2.2.2))))))))))))
theorem fModel_becomesOf_0 : w_fe am_c199 0 1 (.aload 0) := ⟨rfl, rfl⟩
theorem fModel_becomesOf_1 : w_fe am_c199 1 2 (.getfield 901) := ⟨rfl, rfl⟩
theorem fModel_becomesOf_2 : w_fe am_c199 2 3 (.bipush 21) := ⟨rfl, rfl⟩
theorem fModel_becomesOf_3 : w_fe am_c199 3 4 (.bipush 5) := ⟨rfl, rfl⟩
theorem fModel_becomesOf_4 : w_fe am_c199 4 5 (.iload 1) := ⟨rfl, rfl⟩
theorem fModel_becomesOf_5 : w_fe am_c199 5 6 (.imul) := ⟨rfl, rfl⟩
theorem fModel_becomesOf_6 : w_fe am_c199 6 7 (.iadd) := ⟨rfl, rfl⟩
theorem fModel_becomesOf_7 : w_fe am_c199 7 8 (.iload 2) := ⟨rfl, rfl⟩
theorem fModel_becomesOf_8 : w_fe am_c199 8 9 (.iadd) := ⟨rfl, rfl⟩
theorem fModel_becomesOf_9 : w_fe am_c199 9 10 (.iload 3) := ⟨rfl, rfl⟩
theorem fModel_becomesOf_10 : w_fe am_c199 10 11 (.iastore) := ⟨rfl, rfl⟩
theorem fModel_becomesOf_11 : w_fe am_c199 11 12 (.return_) := ⟨rfl, rfl⟩
set_option maxRecDepth 20000 in
theorem bModel_becomesOf_0 {xs : List Int} {d : Nat} {Q : Option w_V → w_M → Prop} {x1 : Int} {x2 : Int} {x3 : Int} {σ : w_M}
    (h : w_in (5 * x1) ∧ w_in (21 + (5 * x1)) ∧ w_in ((21 + (5 * x1)) + x2) ∧ 0 ≤ ((21 + (5 * x1)) + x2) ∧ ((21 + (5 * x1)) + x2) < 82 ∧ (∀ (τ1 : w_M), τ1 = w_up σ 124 ((21 + (5 * x1)) + x2).toNat x3 → Q none τ1)) : w_Call (xs, d) 199 [.inr (.inr (9, 122)), .inl x1, .inl x2, .inl x3] σ Q :=
  (w_mk (mid := 199) (by decide) rfl rfl rfl rfl rfl (Nat.le_of_ble_eq_true rfl) ⟨rfl, Or.inl (by decide)⟩ (wi_aload0 fModel_becomesOf_0 (wi_getf901 fModel_becomesOf_1 (wi_bipush fModel_becomesOf_2 (wi_bipush fModel_becomesOf_3 (wi_iload1 fModel_becomesOf_4 (wi_imul fModel_becomesOf_5 h.1 (wi_iadd fModel_becomesOf_6 h.2.1 (wi_iload2 fModel_becomesOf_7 (wi_iadd fModel_becomesOf_8 h.2.2.1 (wi_iload3 fModel_becomesOf_9 (wi_iast1082 fModel_becomesOf_10 h.2.2.2.1 h.2.2.2.2.1 (wi_ret0 fModel_becomesOf_11 (h.2.2.2.2.2 _ rfl))))))))))))))
theorem k_Model_of {xs : List Int} {d : Nat} {Q : Option w_V → w_M → Prop} {x1 : Int} {x2 : Int} {σ : w_M} (hp : p_Model_of x1 x2 σ) (hQ : Q (some (.inl (σ 124 (21 + 5 * x1 + x2).toNat))) σ) : w_Call (xs, d) 178 [.inr (.inr (9, 122)), .inl x1, .inl x2] σ Q := by
  unfold p_Model_of at hp
  exact bModel_of_0 ⟨⟨by omega, by omega⟩, ⟨by omega, by omega⟩, ⟨by omega, by omega⟩, by omega, by omega, hQ⟩
theorem k_Model_becomesOf {xs : List Int} {d : Nat} {Q : Option w_V → w_M → Prop} {x1 : Int} {x2 : Int} {x3 : Int} {σ : w_M} (hp : p_Model_becomesOf x1 x2 x3 σ) (hQ : ∀ σ' : w_M, q_Model_becomesOf x1 x2 x3 σ σ' → Q none σ') : w_Call (xs, d) 199 [.inr (.inr (9, 122)), .inl x1, .inl x2, .inl x3] σ Q := by
  unfold p_Model_becomesOf at hp
  exact bModel_becomesOf_0 ⟨⟨by omega, by omega⟩, ⟨by omega, by omega⟩, ⟨by omega, by omega⟩, by omega, by omega, fun τ t => hQ _ t⟩
theorem m_rl12 {σ : w_M} {d : Nat} (h1 : 1 ≤ d) (h2 : d ≤ 2) : m_rl σ d = (σ 122 4).toNat := by
  unfold m_rl
  rw [if_neg (by omega), if_pos h2]
theorem m_rl37 {σ : w_M} {d : Nat} (h1 : 3 ≤ d) (h2 : d ≤ 7) : m_rl σ d = (σ 122 5).toNat := by
  unfold m_rl
  rw [if_neg (by omega), if_neg (by omega), if_pos h2]
theorem m_rl9 {σ : w_M} : m_rl σ 9 = (σ 122 4).toNat := rfl
noncomputable def p_Model_standing (σ : w_M) : Prop := m_ok σ 124 0
noncomputable def v_Model_standing (σ : w_M) : Int := n_sd (w_am σ 124 0)
theorem fModel_standing_0 : w_fe am_c175 0 1 (.bipush 0) := ⟨rfl, rfl⟩
theorem fModel_standing_1 : w_fe am_c175 1 2 (.istore 1) := ⟨rfl, rfl⟩
theorem fModel_standing_2 : w_fe am_c175 2 3 (.bipush 0) := ⟨rfl, rfl⟩
theorem fModel_standing_3 : w_fe am_c175 3 4 (.istore 2) := ⟨rfl, rfl⟩
theorem fModel_standing_4 : w_fe am_c175 4 5 (.iload 2) := ⟨rfl, rfl⟩
theorem fModel_standing_5 : w_fe am_c175 5 6 (.aload 0) := ⟨rfl, rfl⟩
theorem fModel_standing_6 : w_fe am_c175 6 7 (.getfield 904) := ⟨rfl, rfl⟩
theorem fModel_standing_7 : w_ic am_c175 7 8 .ge 19 := ⟨rfl, rfl⟩
theorem fModel_standing_8 : w_fe am_c175 8 9 (.iload 1) := ⟨rfl, rfl⟩
theorem fModel_standing_9 : w_fe am_c175 9 10 (.aload 0) := ⟨rfl, rfl⟩
theorem fModel_standing_10 : w_fe am_c175 10 11 (.getfield 901) := ⟨rfl, rfl⟩
theorem fModel_standing_11 : w_fe am_c175 11 12 (.bipush 0) := ⟨rfl, rfl⟩
theorem fModel_standing_12 : w_fe am_c175 12 13 (.iload 2) := ⟨rfl, rfl⟩
theorem fModel_standing_13 : w_fe am_c175 13 14 (.iadd) := ⟨rfl, rfl⟩
theorem fModel_standing_14 : w_fe am_c175 14 15 (.iaload) := ⟨rfl, rfl⟩
theorem fModel_standing_15 : w_fe am_c175 15 16 (.iadd) := ⟨rfl, rfl⟩
theorem fModel_standing_16 : w_fe am_c175 16 17 (.istore 1) := ⟨rfl, rfl⟩
theorem fModel_standing_17 : w_fe am_c175 17 18 (.iinc 2 1) := ⟨rfl, rfl⟩
theorem fModel_standing_18 : w_gt am_c175 18 4 := rfl
theorem fModel_standing_19 : w_fe am_c175 19 20 (.iload 1) := ⟨rfl, rfl⟩
theorem fModel_standing_20 : w_fe am_c175 20 21 (.ireturn) := ⟨rfl, rfl⟩
noncomputable def LModel_standing_4 (xs : List Int) (d : Nat) (Q : Option w_V → w_M → Prop) (v1 : Int) (v2 : Int) (σ : w_M) : Prop := w_Ex (xs, d) 1 am_c175 Q 4 [some (.inr (.inr (9, 122))), some (.inl v1), some (.inl v2)] [] σ
set_option maxRecDepth 20000 in
theorem bModel_standing_0 {xs : List Int} {d : Nat} {Q : Option w_V → w_M → Prop}  {σ : w_M}
    (h : LModel_standing_4 xs d Q 0 0 σ) : w_Call (xs, d) 175 [.inr (.inr (9, 122))] σ Q :=
  (w_mk (mid := 175) (by decide) rfl rfl rfl rfl rfl (Nat.le_of_ble_eq_true rfl) ⟨rfl, Or.inl (by decide)⟩ (wi_bipush fModel_standing_0 (wi_istore1 fModel_standing_1 trivial (wi_bipush fModel_standing_2 (wi_istore2 fModel_standing_3 trivial h)))))
set_option maxRecDepth 20000 in
theorem bModel_standing_4 {xs : List Int} {d : Nat} {Q : Option w_V → w_M → Prop} {v1 : Int} {v2 : Int} {σ : w_M}
    (h : ((σ 122 4) ≤ v2 → Q (some (.inl v1)) σ) ∧ (v2 < (σ 122 4) → (w_in (0 + v2) ∧ 0 ≤ (0 + v2) ∧ (0 + v2) < 82 ∧ w_in (v1 + (σ 124 (0 + v2).toNat)) ∧ (∀ (y1 : Int), y1 = (v1 + (σ 124 (0 + v2).toNat)) → (w_in (v2 + 1) ∧ LModel_standing_4 xs d Q y1 (v2 + 1) σ))))) : LModel_standing_4 xs d Q v1 v2 σ :=
  (wi_iload2 fModel_standing_4 (wi_aload0 fModel_standing_5 (wi_getf904 fModel_standing_6 (wi_ic_ge fModel_standing_7 (fun c2 => (wi_iload1 fModel_standing_19 (wi_ret1 fModel_standing_20 (h.1 c2)))) (fun c2 => (wi_iload1 fModel_standing_8 (wi_aload0 fModel_standing_9 (wi_getf901 fModel_standing_10 (wi_bipush fModel_standing_11 (wi_iload2 fModel_standing_12 (wi_iadd fModel_standing_13 (h.2 c2).1 (wi_iald1082 fModel_standing_14 (h.2 c2).2.1 (h.2 c2).2.2.1 (wi_iadd fModel_standing_15 (h.2 c2).2.2.2.1 (wi_istore1 fModel_standing_16 trivial (wi_iinc2 fModel_standing_17 trivial ((h.2 c2).2.2.2.2 _ rfl).1 (wi_goto fModel_standing_18 ((h.2 c2).2.2.2.2 _ rfl).2))))))))))))))))
theorem k_Model_standing {xs : List Int} {d : Nat} {Q : Option w_V → w_M → Prop}  {σ : w_M} (hp : p_Model_standing σ) (hQ : Q (some (.inl (v_Model_standing σ))) σ) : w_Call (xs, d) 175 [.inr (.inr (9, 122))] σ Q := by
  refine bModel_standing_0 ?_
  have hs := m_ok.s hp
  refine w_loop (n := (σ 122 4).toNat) (P := fun i => LModel_standing_4 xs d Q (f_sum (w_am σ 124 0 1) i) (i : Int) σ) ?_ ?_
  · exact bModel_standing_4 ⟨fun _ => hQ, fun h => by omega⟩
  · intro i hi ih
    have e : σ 124 ((0 : Int) + (i : Int)).toNat = w_am σ 124 0 1 i := m_rd (by decide) (by rw [m_rl12 (by decide) (by decide)]; exact hi) (by show _ = 0 + i; omega)
    have h1 := (n_WF.i hp (show i < n_s (w_am σ 124 0) from hi)).1
    have h2 := f_sum_le (f := w_am σ 124 0 1) (B := 40) (m := n_s (w_am σ 124 0)) (fun i hi => (n_WF.i hp hi).1) (Nat.le_of_lt hi)
    refine bModel_standing_4 ⟨fun h => by omega, fun h => ⟨⟨by omega, by omega⟩, by omega, by omega, ?_, fun y e2 => ⟨⟨by omega, by omega⟩, ?_⟩⟩⟩
    · rw [e]; exact ⟨by omega, by omega⟩
    · rw [e2, e, ← w_cs1]; exact ih
noncomputable def p_Model_nearest (f : Int) (σ : w_M) : Prop := m_ok σ 124 0 ∧ 0 ≤ f ∧ f ≤ 7
noncomputable def v_Model_nearest (f : Int) (σ : w_M) : Int := n_near (w_am σ 124 0) f
theorem fModel_nearest_0 : w_fe am_c198 0 1 (.bipush (-4)) := ⟨rfl, rfl⟩
theorem fModel_nearest_1 : w_fe am_c198 1 2 (.istore 2) := ⟨rfl, rfl⟩
theorem fModel_nearest_2 : w_fe am_c198 2 3 (.bipush 1000000) := ⟨rfl, rfl⟩
theorem fModel_nearest_3 : w_fe am_c198 3 4 (.istore 3) := ⟨rfl, rfl⟩
theorem fModel_nearest_4 : w_fe am_c198 4 5 (.bipush 0) := ⟨rfl, rfl⟩
theorem fModel_nearest_5 : w_fe am_c198 5 6 (.istore 4) := ⟨rfl, rfl⟩
theorem fModel_nearest_6 : w_fe am_c198 6 7 (.iload 4) := ⟨rfl, rfl⟩
theorem fModel_nearest_7 : w_fe am_c198 7 8 (.aload 0) := ⟨rfl, rfl⟩
theorem fModel_nearest_8 : w_fe am_c198 8 9 (.getfield 904) := ⟨rfl, rfl⟩
theorem fModel_nearest_9 : w_ic am_c198 9 10 .ge 49 := ⟨rfl, rfl⟩
theorem fModel_nearest_10 : w_fe am_c198 10 11 (.iload 4) := ⟨rfl, rfl⟩
theorem fModel_nearest_11 : w_fe am_c198 11 12 (.iload 1) := ⟨rfl, rfl⟩
theorem fModel_nearest_12 : w_ic am_c198 12 13 .ge 17 := ⟨rfl, rfl⟩
theorem fModel_nearest_13 : w_fe am_c198 13 14 (.iload 1) := ⟨rfl, rfl⟩
theorem fModel_nearest_14 : w_fe am_c198 14 15 (.iload 4) := ⟨rfl, rfl⟩
theorem fModel_nearest_15 : w_fe am_c198 15 16 (.isub) := ⟨rfl, rfl⟩
theorem fModel_nearest_16 : w_gt am_c198 16 20 := rfl
theorem fModel_nearest_17 : w_fe am_c198 17 18 (.iload 4) := ⟨rfl, rfl⟩
theorem fModel_nearest_18 : w_fe am_c198 18 19 (.iload 1) := ⟨rfl, rfl⟩
theorem fModel_nearest_19 : w_fe am_c198 19 20 (.isub) := ⟨rfl, rfl⟩
theorem fModel_nearest_20 : w_fe am_c198 20 21 (.istore 5) := ⟨rfl, rfl⟩
theorem fModel_nearest_21 : w_fe am_c198 21 22 (.aload 0) := ⟨rfl, rfl⟩
theorem fModel_nearest_22 : w_fe am_c198 22 23 (.getfield 901) := ⟨rfl, rfl⟩
theorem fModel_nearest_23 : w_fe am_c198 23 24 (.bipush 0) := ⟨rfl, rfl⟩
theorem fModel_nearest_24 : w_fe am_c198 24 25 (.iload 4) := ⟨rfl, rfl⟩
theorem fModel_nearest_25 : w_fe am_c198 25 26 (.iadd) := ⟨rfl, rfl⟩
theorem fModel_nearest_26 : w_fe am_c198 26 27 (.iaload) := ⟨rfl, rfl⟩
theorem fModel_nearest_27 : w_if am_c198 27 28 .le 33 := ⟨rfl, rfl⟩
theorem fModel_nearest_28 : w_fe am_c198 28 29 (.iload 5) := ⟨rfl, rfl⟩
theorem fModel_nearest_29 : w_fe am_c198 29 30 (.iload 3) := ⟨rfl, rfl⟩
theorem fModel_nearest_30 : w_ic am_c198 30 31 .ge 33 := ⟨rfl, rfl⟩
theorem fModel_nearest_31 : w_fe am_c198 31 32 (.bipush 1) := ⟨rfl, rfl⟩
theorem fModel_nearest_32 : w_gt am_c198 32 34 := rfl
theorem fModel_nearest_33 : w_fe am_c198 33 34 (.bipush 0) := ⟨rfl, rfl⟩
theorem fModel_nearest_34 : w_fe am_c198 34 35 (.istore 6) := ⟨rfl, rfl⟩
theorem fModel_nearest_35 : w_fe am_c198 35 36 (.iload 6) := ⟨rfl, rfl⟩
theorem fModel_nearest_36 : w_if am_c198 36 37 .eq 39 := ⟨rfl, rfl⟩
theorem fModel_nearest_37 : w_fe am_c198 37 38 (.iload 4) := ⟨rfl, rfl⟩
theorem fModel_nearest_38 : w_gt am_c198 38 40 := rfl
theorem fModel_nearest_39 : w_fe am_c198 39 40 (.iload 2) := ⟨rfl, rfl⟩
theorem fModel_nearest_40 : w_fe am_c198 40 41 (.istore 2) := ⟨rfl, rfl⟩
theorem fModel_nearest_41 : w_fe am_c198 41 42 (.iload 6) := ⟨rfl, rfl⟩
theorem fModel_nearest_42 : w_if am_c198 42 43 .eq 45 := ⟨rfl, rfl⟩
theorem fModel_nearest_43 : w_fe am_c198 43 44 (.iload 5) := ⟨rfl, rfl⟩
theorem fModel_nearest_44 : w_gt am_c198 44 46 := rfl
theorem fModel_nearest_45 : w_fe am_c198 45 46 (.iload 3) := ⟨rfl, rfl⟩
theorem fModel_nearest_46 : w_fe am_c198 46 47 (.istore 3) := ⟨rfl, rfl⟩
theorem fModel_nearest_47 : w_fe am_c198 47 48 (.iinc 4 1) := ⟨rfl, rfl⟩
theorem fModel_nearest_48 : w_gt am_c198 48 6 := rfl
theorem fModel_nearest_49 : w_fe am_c198 49 50 (.iload 2) := ⟨rfl, rfl⟩
theorem fModel_nearest_50 : w_fe am_c198 50 51 (.ireturn) := ⟨rfl, rfl⟩
noncomputable def LModel_nearest_6 (xs : List Int) (d : Nat) (Q : Option w_V → w_M → Prop) (v1 : Int) (v2 : Int) (v3 : Int) (v4 : Int) (σ : w_M) : Prop := ∀ l5, w_nl l5 → ∀ l6, w_nl l6 → w_Ex (xs, d) 1 am_c198 Q 6 [some (.inr (.inr (9, 122))), some (.inl v1), some (.inl v2), some (.inl v3), some (.inl v4), l5, l6] [] σ
set_option maxRecDepth 20000 in
theorem bModel_nearest_0 {xs : List Int} {d : Nat} {Q : Option w_V → w_M → Prop} {x1 : Int} {σ : w_M}
    (h : LModel_nearest_6 xs d Q x1 (-4) 1000000 0 σ) : w_Call (xs, d) 198 [.inr (.inr (9, 122)), .inl x1] σ Q :=
  (w_mk (mid := 198) (by decide) rfl rfl rfl rfl rfl (Nat.le_of_ble_eq_true rfl) ⟨rfl, Or.inl (by decide)⟩ (wi_bipush fModel_nearest_0 (wi_istore2 fModel_nearest_1 trivial (wi_bipush fModel_nearest_2 (wi_istore3 fModel_nearest_3 trivial (wi_bipush fModel_nearest_4 (wi_istore4 fModel_nearest_5 trivial (h _ (by exact trivial) _ (by exact trivial)))))))))
set_option maxRecDepth 20000 in
theorem bModel_nearest_6 {xs : List Int} {d : Nat} {Q : Option w_V → w_M → Prop} {v1 : Int} {v2 : Int} {v3 : Int} {v4 : Int} {σ : w_M}
    (h : ((σ 122 4) ≤ v4 → Q (some (.inl v2)) σ) ∧ (v4 < (σ 122 4) → ((v1 ≤ v4 → (w_in (v4 - v1) ∧ (∀ (y1 : Int), y1 = (v4 - v1) → (w_in (0 + v4) ∧ 0 ≤ (0 + v4) ∧ (0 + v4) < 82 ∧ (((σ 124 (0 + v4).toNat) ≤ 0 → (w_in (v4 + 1) ∧ LModel_nearest_6 xs d Q v1 v2 v3 (v4 + 1) σ)) ∧ (0 < (σ 124 (0 + v4).toNat) → ((v3 ≤ y1 → (w_in (v4 + 1) ∧ LModel_nearest_6 xs d Q v1 v2 v3 (v4 + 1) σ)) ∧ (y1 < v3 → (w_in (v4 + 1) ∧ LModel_nearest_6 xs d Q v1 v4 y1 (v4 + 1) σ))))))))) ∧ (v4 < v1 → (w_in (v1 - v4) ∧ (∀ (y4 : Int), y4 = (v1 - v4) → (w_in (0 + v4) ∧ 0 ≤ (0 + v4) ∧ (0 + v4) < 82 ∧ (((σ 124 (0 + v4).toNat) ≤ 0 → (w_in (v4 + 1) ∧ LModel_nearest_6 xs d Q v1 v2 v3 (v4 + 1) σ)) ∧ (0 < (σ 124 (0 + v4).toNat) → ((v3 ≤ y4 → (w_in (v4 + 1) ∧ LModel_nearest_6 xs d Q v1 v2 v3 (v4 + 1) σ)) ∧ (y4 < v3 → (w_in (v4 + 1) ∧ LModel_nearest_6 xs d Q v1 v4 y4 (v4 + 1) σ)))))))))))) : LModel_nearest_6 xs d Q v1 v2 v3 v4 σ :=
  fun l5 nl5 => fun l6 nl6 => (wi_iload4 fModel_nearest_6 (wi_aload0 fModel_nearest_7 (wi_getf904 fModel_nearest_8 (wi_ic_ge fModel_nearest_9 (fun c8 => (wi_iload2 fModel_nearest_49 (wi_ret1 fModel_nearest_50 (h.1 c8)))) (fun c8 => (wi_iload4 fModel_nearest_10 (wi_iload1 fModel_nearest_11 (wi_ic_ge fModel_nearest_12 (fun c7 => (wi_iload4 fModel_nearest_17 (wi_iload1 fModel_nearest_18 (wi_isub fModel_nearest_19 ((h.2 c8).1 c7).1 (wi_istore5 fModel_nearest_20 trivial (wi_aload0 fModel_nearest_21 (wi_getf901 fModel_nearest_22 (wi_bipush fModel_nearest_23 (wi_iload4 fModel_nearest_24 (wi_iadd fModel_nearest_25 (((h.2 c8).1 c7).2 _ rfl).1 (wi_iald1082 fModel_nearest_26 (((h.2 c8).1 c7).2 _ rfl).2.1 (((h.2 c8).1 c7).2 _ rfl).2.2.1 (wi_if_le fModel_nearest_27 (fun c3 => (wi_bipush fModel_nearest_33 (wi_istore6 fModel_nearest_34 trivial (wi_iload6 fModel_nearest_35 (wi_if_eq fModel_nearest_36 (fun _ => (wi_iload2 fModel_nearest_39 (wi_istore2 fModel_nearest_40 trivial (wi_iload6 fModel_nearest_41 (wi_if_eq fModel_nearest_42 (fun _ => (wi_iload3 fModel_nearest_45 (wi_istore3 fModel_nearest_46 trivial (wi_iinc4 fModel_nearest_47 trivial ((((h.2 c8).1 c7).2 _ rfl).2.2.2.1 c3).1 (wi_goto fModel_nearest_48 (((((h.2 c8).1 c7).2 _ rfl).2.2.2.1 c3).2 _ (by exact trivial) _ (by exact trivial))))))) (fun e => absurd e (by decide))))))) (fun e => absurd e (by decide))))))) (fun c3 => (wi_iload5 fModel_nearest_28 (wi_iload3 fModel_nearest_29 (wi_ic_ge fModel_nearest_30 (fun c2 => (wi_bipush fModel_nearest_33 (wi_istore6 fModel_nearest_34 trivial (wi_iload6 fModel_nearest_35 (wi_if_eq fModel_nearest_36 (fun _ => (wi_iload2 fModel_nearest_39 (wi_istore2 fModel_nearest_40 trivial (wi_iload6 fModel_nearest_41 (wi_if_eq fModel_nearest_42 (fun _ => (wi_iload3 fModel_nearest_45 (wi_istore3 fModel_nearest_46 trivial (wi_iinc4 fModel_nearest_47 trivial (((((h.2 c8).1 c7).2 _ rfl).2.2.2.2 c3).1 c2).1 (wi_goto fModel_nearest_48 ((((((h.2 c8).1 c7).2 _ rfl).2.2.2.2 c3).1 c2).2 _ (by exact trivial) _ (by exact trivial))))))) (fun e => absurd e (by decide))))))) (fun e => absurd e (by decide))))))) (fun c2 => (wi_bipush fModel_nearest_31 (wi_goto fModel_nearest_32 (wi_istore6 fModel_nearest_34 trivial (wi_iload6 fModel_nearest_35 (wi_if_eq fModel_nearest_36 (fun e => absurd e (by decide)) (fun _ => (wi_iload4 fModel_nearest_37 (wi_goto fModel_nearest_38 (wi_istore2 fModel_nearest_40 trivial (wi_iload6 fModel_nearest_41 (wi_if_eq fModel_nearest_42 (fun e => absurd e (by decide)) (fun _ => (wi_iload5 fModel_nearest_43 (wi_goto fModel_nearest_44 (wi_istore3 fModel_nearest_46 trivial (wi_iinc4 fModel_nearest_47 trivial (((((h.2 c8).1 c7).2 _ rfl).2.2.2.2 c3).2 c2).1 (wi_goto fModel_nearest_48 ((((((h.2 c8).1 c7).2 _ rfl).2.2.2.2 c3).2 c2).2 _ (by exact trivial) _ (by exact trivial)))))))))))))))))))))))))))))))))))) (fun c7 => (wi_iload1 fModel_nearest_13 (wi_iload4 fModel_nearest_14 (wi_isub fModel_nearest_15 ((h.2 c8).2 c7).1 (wi_goto fModel_nearest_16 (wi_istore5 fModel_nearest_20 trivial (wi_aload0 fModel_nearest_21 (wi_getf901 fModel_nearest_22 (wi_bipush fModel_nearest_23 (wi_iload4 fModel_nearest_24 (wi_iadd fModel_nearest_25 (((h.2 c8).2 c7).2 _ rfl).1 (wi_iald1082 fModel_nearest_26 (((h.2 c8).2 c7).2 _ rfl).2.1 (((h.2 c8).2 c7).2 _ rfl).2.2.1 (wi_if_le fModel_nearest_27 (fun c6 => (wi_bipush fModel_nearest_33 (wi_istore6 fModel_nearest_34 trivial (wi_iload6 fModel_nearest_35 (wi_if_eq fModel_nearest_36 (fun _ => (wi_iload2 fModel_nearest_39 (wi_istore2 fModel_nearest_40 trivial (wi_iload6 fModel_nearest_41 (wi_if_eq fModel_nearest_42 (fun _ => (wi_iload3 fModel_nearest_45 (wi_istore3 fModel_nearest_46 trivial (wi_iinc4 fModel_nearest_47 trivial ((((h.2 c8).2 c7).2 _ rfl).2.2.2.1 c6).1 (wi_goto fModel_nearest_48 (((((h.2 c8).2 c7).2 _ rfl).2.2.2.1 c6).2 _ (by exact trivial) _ (by exact trivial))))))) (fun e => absurd e (by decide))))))) (fun e => absurd e (by decide))))))) (fun c6 => (wi_iload5 fModel_nearest_28 (wi_iload3 fModel_nearest_29 (wi_ic_ge fModel_nearest_30 (fun c5 => (wi_bipush fModel_nearest_33 (wi_istore6 fModel_nearest_34 trivial (wi_iload6 fModel_nearest_35 (wi_if_eq fModel_nearest_36 (fun _ => (wi_iload2 fModel_nearest_39 (wi_istore2 fModel_nearest_40 trivial (wi_iload6 fModel_nearest_41 (wi_if_eq fModel_nearest_42 (fun _ => (wi_iload3 fModel_nearest_45 (wi_istore3 fModel_nearest_46 trivial (wi_iinc4 fModel_nearest_47 trivial (((((h.2 c8).2 c7).2 _ rfl).2.2.2.2 c6).1 c5).1 (wi_goto fModel_nearest_48 ((((((h.2 c8).2 c7).2 _ rfl).2.2.2.2 c6).1 c5).2 _ (by exact trivial) _ (by exact trivial))))))) (fun e => absurd e (by decide))))))) (fun e => absurd e (by decide))))))) (fun c5 => (wi_bipush fModel_nearest_31 (wi_goto fModel_nearest_32 (wi_istore6 fModel_nearest_34 trivial (wi_iload6 fModel_nearest_35 (wi_if_eq fModel_nearest_36 (fun e => absurd e (by decide)) (fun _ => (wi_iload4 fModel_nearest_37 (wi_goto fModel_nearest_38 (wi_istore2 fModel_nearest_40 trivial (wi_iload6 fModel_nearest_41 (wi_if_eq fModel_nearest_42 (fun e => absurd e (by decide)) (fun _ => (wi_iload5 fModel_nearest_43 (wi_goto fModel_nearest_44 (wi_istore3 fModel_nearest_46 trivial (wi_iinc4 fModel_nearest_47 trivial (((((h.2 c8).2 c7).2 _ rfl).2.2.2.2 c6).2 c5).1 (wi_goto fModel_nearest_48 ((((((h.2 c8).2 c7).2 _ rfl).2.2.2.2 c6).2 c5).2 _ (by exact trivial) _ (by exact trivial)))))))))))))))))))))))))))))))))))))))))))))
theorem k_Model_nearest {xs : List Int} {d : Nat} {Q : Option w_V → w_M → Prop} {x1 : Int} {σ : w_M} (hp : p_Model_nearest x1 σ) (hQ : Q (some (.inl (v_Model_nearest x1 σ))) σ) : w_Call (xs, d) 198 [.inr (.inr (9, 122)), .inl x1] σ Q := by
  obtain ⟨hok, f0, f1⟩ := hp
  have hs := m_ok.s hok
  refine bModel_nearest_0 ?_
  refine w_loop (n := (σ 122 4).toNat) (P := fun k => LModel_nearest_6 xs d Q x1 (n_nearF (w_am σ 124 0) x1 k).1 (n_nearF (w_am σ 124 0) x1 k).2 (k : Int) σ) ?_ ?_
  · exact bModel_nearest_6 ⟨fun _ => hQ, fun h => by omega⟩
  · intro k hk ih
    have e : σ 124 ((0 : Int) + (k : Int)).toNat = w_am σ 124 0 1 k := m_rd (by decide) (by rw [m_rl12 (by decide) (by decide)]; exact hk) (by show _ = 0 + k; omega)
    simp only [n_nearF] at ih
    rw [w_cs1] at ih
    refine bModel_nearest_6 ⟨fun h => by omega, fun h => ⟨fun c => ⟨⟨by omega, by omega⟩, fun y ey => ⟨⟨by omega, by omega⟩, by omega, by omega, ?_⟩⟩, fun c => ⟨⟨by omega, by omega⟩, fun y ey => ⟨⟨by omega, by omega⟩, by omega, by omega, ?_⟩⟩⟩⟩
    · rw [if_neg (show ¬ (k : Int) < x1 by omega), ← ey] at ih
      rw [e]
      refine ⟨fun c2 => ⟨⟨by omega, by omega⟩, ?_⟩, fun c2 => ⟨fun c3 => ⟨⟨by omega, by omega⟩, ?_⟩, fun c3 => ⟨⟨by omega, by omega⟩, ?_⟩⟩⟩
      · rw [if_neg (by omega)] at ih; exact ih
      · rw [if_neg (by omega)] at ih; exact ih
      · rw [if_pos ⟨c2, c3⟩] at ih; exact ih
    · rw [if_pos (show (k : Int) < x1 by omega), ← ey] at ih
      rw [e]
      refine ⟨fun c2 => ⟨⟨by omega, by omega⟩, ?_⟩, fun c2 => ⟨fun c3 => ⟨⟨by omega, by omega⟩, ?_⟩, fun c3 => ⟨⟨by omega, by omega⟩, ?_⟩⟩⟩
      · rw [if_neg (by omega)] at ih; exact ih
      · rw [if_neg (by omega)] at ih; exact ih
      · rw [if_pos ⟨c2, c3⟩] at ih; exact ih
noncomputable def m_cut (A : w_M) (r : Nat) (c : Int) : w_M := n_cut (w_up (w_up A 5 r (A 5 r - 1)) 4 r (A 4 r - c)) r (A 6 r).toNat
noncomputable def p_Model_cuts (r c : Int) (σ : w_M) : Prop := m_ok σ 124 0 ∧ (0 ≤ r ∧ r < σ 122 5) ∧ (c = 0 ∨ c = 1)
noncomputable def q_Model_cuts (r c : Int) (σ σ' : w_M) : Prop := w_am σ' 124 0 = m_cut (w_am σ 124 0) r.toNat c ∧ w_g1 σ σ'
noncomputable def w_c200 : List Instr := [.aload 0, .iload 1, .bipush 3, .invokestatic 178, .istore 3, .aload 0, .getfield 901, .bipush 14, .iload 3, .iadd, .iaload, .bipush 1, .if_icmp .ne 22, .aload 0, .iload 1, .bipush 0, .invokestatic 178, .bipush 1, .iadd, .bipush 2, .idiv, .goto 26, .aload 0, .iload 1, .bipush 0, .invokestatic 178, .istore 4, .iload 4, .aload 0, .getfield 901, .bipush 0, .iload 3, .iadd, .iaload, .if_icmp .ge 37, .iload 4, .goto 43, .aload 0, .getfield 901, .bipush 0, .iload 3, .iadd, .iaload, .istore 5, .aload 0, .getfield 901, .bipush 0, .iload 3, .iadd, .dup2, .iaload, .iload 5, .isub, .iastore, .aload 0, .iload 1, .bipush 4, .aload 0, .iload 1, .bipush 4, .invokestatic 178, .iload 5, .fadd, .invokestatic 199, .aload 0, .getfield 901, .bipush 43, .aload 0, .getfield 901, .bipush 7, .iload 3, .iadd, .iaload, .iadd, .dup2, .iaload, .iload 5, .fadd, .iastore, .aload 0, .getfield 901, .bipush 47, .iload 1, .iastore, .aload 0, .iload 1, .bipush 2, .aload 0, .iload 1, .bipush 2, .invokestatic 178, .bipush 1, .isub, .invokestatic 199, .aload 0, .iload 1, .bipush 1, .aload 0, .iload 1, .bipush 1, .invokestatic 178, .iload 2, .invokestatic 179, .isub, .invokestatic 199, .return_]
theorem fModel_cuts_0 : w_fe w_c200 0 1 (.aload 0) := ⟨rfl, rfl⟩
theorem fModel_cuts_1 : w_fe w_c200 1 2 (.iload 1) := ⟨rfl, rfl⟩
theorem fModel_cuts_2 : w_fe w_c200 2 3 (.bipush 3) := ⟨rfl, rfl⟩
theorem fModel_cuts_3 : w_fe w_c200 3 4 (.invokestatic 178) := ⟨rfl, rfl⟩
theorem fModel_cuts_4 : w_fe w_c200 4 5 (.istore 3) := ⟨rfl, rfl⟩
theorem fModel_cuts_5 : w_fe w_c200 5 6 (.aload 0) := ⟨rfl, rfl⟩
theorem fModel_cuts_6 : w_fe w_c200 6 7 (.getfield 901) := ⟨rfl, rfl⟩
theorem fModel_cuts_7 : w_fe w_c200 7 8 (.bipush 14) := ⟨rfl, rfl⟩
theorem fModel_cuts_8 : w_fe w_c200 8 9 (.iload 3) := ⟨rfl, rfl⟩
theorem fModel_cuts_9 : w_fe w_c200 9 10 (.iadd) := ⟨rfl, rfl⟩
theorem fModel_cuts_10 : w_fe w_c200 10 11 (.iaload) := ⟨rfl, rfl⟩
theorem fModel_cuts_11 : w_fe w_c200 11 12 (.bipush 1) := ⟨rfl, rfl⟩
theorem fModel_cuts_12 : w_ic w_c200 12 13 .ne 22 := ⟨rfl, rfl⟩
theorem fModel_cuts_13 : w_fe w_c200 13 14 (.aload 0) := ⟨rfl, rfl⟩
theorem fModel_cuts_14 : w_fe w_c200 14 15 (.iload 1) := ⟨rfl, rfl⟩
theorem fModel_cuts_15 : w_fe w_c200 15 16 (.bipush 0) := ⟨rfl, rfl⟩
theorem fModel_cuts_16 : w_fe w_c200 16 17 (.invokestatic 178) := ⟨rfl, rfl⟩
theorem fModel_cuts_17 : w_fe w_c200 17 18 (.bipush 1) := ⟨rfl, rfl⟩
theorem fModel_cuts_18 : w_fe w_c200 18 19 (.iadd) := ⟨rfl, rfl⟩
theorem fModel_cuts_19 : w_fe w_c200 19 20 (.bipush 2) := ⟨rfl, rfl⟩
theorem fModel_cuts_20 : w_fe w_c200 20 21 (.idiv) := ⟨rfl, rfl⟩
theorem fModel_cuts_21 : w_gt w_c200 21 26 := rfl
theorem fModel_cuts_22 : w_fe w_c200 22 23 (.aload 0) := ⟨rfl, rfl⟩
theorem fModel_cuts_23 : w_fe w_c200 23 24 (.iload 1) := ⟨rfl, rfl⟩
theorem fModel_cuts_24 : w_fe w_c200 24 25 (.bipush 0) := ⟨rfl, rfl⟩
theorem fModel_cuts_25 : w_fe w_c200 25 26 (.invokestatic 178) := ⟨rfl, rfl⟩
theorem fModel_cuts_26 : w_fe w_c200 26 27 (.istore 4) := ⟨rfl, rfl⟩
theorem fModel_cuts_27 : w_fe w_c200 27 28 (.iload 4) := ⟨rfl, rfl⟩
theorem fModel_cuts_28 : w_fe w_c200 28 29 (.aload 0) := ⟨rfl, rfl⟩
theorem fModel_cuts_29 : w_fe w_c200 29 30 (.getfield 901) := ⟨rfl, rfl⟩
theorem fModel_cuts_30 : w_fe w_c200 30 31 (.bipush 0) := ⟨rfl, rfl⟩
theorem fModel_cuts_31 : w_fe w_c200 31 32 (.iload 3) := ⟨rfl, rfl⟩
theorem fModel_cuts_32 : w_fe w_c200 32 33 (.iadd) := ⟨rfl, rfl⟩
theorem fModel_cuts_33 : w_fe w_c200 33 34 (.iaload) := ⟨rfl, rfl⟩
theorem fModel_cuts_34 : w_ic w_c200 34 35 .ge 37 := ⟨rfl, rfl⟩
theorem fModel_cuts_35 : w_fe w_c200 35 36 (.iload 4) := ⟨rfl, rfl⟩
theorem fModel_cuts_36 : w_gt w_c200 36 43 := rfl
theorem fModel_cuts_37 : w_fe w_c200 37 38 (.aload 0) := ⟨rfl, rfl⟩
theorem fModel_cuts_38 : w_fe w_c200 38 39 (.getfield 901) := ⟨rfl, rfl⟩
theorem fModel_cuts_39 : w_fe w_c200 39 40 (.bipush 0) := ⟨rfl, rfl⟩
theorem fModel_cuts_40 : w_fe w_c200 40 41 (.iload 3) := ⟨rfl, rfl⟩
theorem fModel_cuts_41 : w_fe w_c200 41 42 (.iadd) := ⟨rfl, rfl⟩
theorem fModel_cuts_42 : w_fe w_c200 42 43 (.iaload) := ⟨rfl, rfl⟩
theorem fModel_cuts_43 : w_fe w_c200 43 44 (.istore 5) := ⟨rfl, rfl⟩
theorem fModel_cuts_44 : w_fe w_c200 44 45 (.aload 0) := ⟨rfl, rfl⟩
theorem fModel_cuts_45 : w_fe w_c200 45 46 (.getfield 901) := ⟨rfl, rfl⟩
theorem fModel_cuts_46 : w_fe w_c200 46 47 (.bipush 0) := ⟨rfl, rfl⟩
theorem fModel_cuts_47 : w_fe w_c200 47 48 (.iload 3) := ⟨rfl, rfl⟩
theorem fModel_cuts_48 : w_fe w_c200 48 49 (.iadd) := ⟨rfl, rfl⟩
theorem fModel_cuts_49 : w_fe w_c200 49 50 (.dup2) := ⟨rfl, rfl⟩
theorem fModel_cuts_50 : w_fe w_c200 50 51 (.iaload) := ⟨rfl, rfl⟩
theorem fModel_cuts_51 : w_fe w_c200 51 52 (.iload 5) := ⟨rfl, rfl⟩
theorem fModel_cuts_52 : w_fe w_c200 52 53 (.isub) := ⟨rfl, rfl⟩
theorem fModel_cuts_53 : w_fe w_c200 53 54 (.iastore) := ⟨rfl, rfl⟩
theorem fModel_cuts_54 : w_fe w_c200 54 55 (.aload 0) := ⟨rfl, rfl⟩
theorem fModel_cuts_55 : w_fe w_c200 55 56 (.iload 1) := ⟨rfl, rfl⟩
theorem fModel_cuts_56 : w_fe w_c200 56 57 (.bipush 4) := ⟨rfl, rfl⟩
theorem fModel_cuts_57 : w_fe w_c200 57 58 (.aload 0) := ⟨rfl, rfl⟩
theorem fModel_cuts_58 : w_fe w_c200 58 59 (.iload 1) := ⟨rfl, rfl⟩
theorem fModel_cuts_59 : w_fe w_c200 59 60 (.bipush 4) := ⟨rfl, rfl⟩
theorem fModel_cuts_60 : w_fe w_c200 60 61 (.invokestatic 178) := ⟨rfl, rfl⟩
theorem fModel_cuts_61 : w_fe w_c200 61 62 (.iload 5) := ⟨rfl, rfl⟩
theorem fModel_cuts_62 : w_fe w_c200 62 63 (.fadd) := ⟨rfl, rfl⟩
theorem fModel_cuts_63 : w_fe w_c200 63 64 (.invokestatic 199) := ⟨rfl, rfl⟩
theorem fModel_cuts_64 : w_fe w_c200 64 65 (.aload 0) := ⟨rfl, rfl⟩
theorem fModel_cuts_65 : w_fe w_c200 65 66 (.getfield 901) := ⟨rfl, rfl⟩
theorem fModel_cuts_66 : w_fe w_c200 66 67 (.bipush 43) := ⟨rfl, rfl⟩
theorem fModel_cuts_67 : w_fe w_c200 67 68 (.aload 0) := ⟨rfl, rfl⟩
theorem fModel_cuts_68 : w_fe w_c200 68 69 (.getfield 901) := ⟨rfl, rfl⟩
theorem fModel_cuts_69 : w_fe w_c200 69 70 (.bipush 7) := ⟨rfl, rfl⟩
theorem fModel_cuts_70 : w_fe w_c200 70 71 (.iload 3) := ⟨rfl, rfl⟩
theorem fModel_cuts_71 : w_fe w_c200 71 72 (.iadd) := ⟨rfl, rfl⟩
theorem fModel_cuts_72 : w_fe w_c200 72 73 (.iaload) := ⟨rfl, rfl⟩
theorem fModel_cuts_73 : w_fe w_c200 73 74 (.iadd) := ⟨rfl, rfl⟩
theorem fModel_cuts_74 : w_fe w_c200 74 75 (.dup2) := ⟨rfl, rfl⟩
theorem fModel_cuts_75 : w_fe w_c200 75 76 (.iaload) := ⟨rfl, rfl⟩
theorem fModel_cuts_76 : w_fe w_c200 76 77 (.iload 5) := ⟨rfl, rfl⟩
theorem fModel_cuts_77 : w_fe w_c200 77 78 (.fadd) := ⟨rfl, rfl⟩
theorem fModel_cuts_78 : w_fe w_c200 78 79 (.iastore) := ⟨rfl, rfl⟩
theorem fModel_cuts_79 : w_fe w_c200 79 80 (.aload 0) := ⟨rfl, rfl⟩
theorem fModel_cuts_80 : w_fe w_c200 80 81 (.getfield 901) := ⟨rfl, rfl⟩
theorem fModel_cuts_81 : w_fe w_c200 81 82 (.bipush 47) := ⟨rfl, rfl⟩
theorem fModel_cuts_82 : w_fe w_c200 82 83 (.iload 1) := ⟨rfl, rfl⟩
theorem fModel_cuts_83 : w_fe w_c200 83 84 (.iastore) := ⟨rfl, rfl⟩
theorem fModel_cuts_84 : w_fe w_c200 84 85 (.aload 0) := ⟨rfl, rfl⟩
theorem fModel_cuts_85 : w_fe w_c200 85 86 (.iload 1) := ⟨rfl, rfl⟩
theorem fModel_cuts_86 : w_fe w_c200 86 87 (.bipush 2) := ⟨rfl, rfl⟩
theorem fModel_cuts_87 : w_fe w_c200 87 88 (.aload 0) := ⟨rfl, rfl⟩
theorem fModel_cuts_88 : w_fe w_c200 88 89 (.iload 1) := ⟨rfl, rfl⟩
theorem fModel_cuts_89 : w_fe w_c200 89 90 (.bipush 2) := ⟨rfl, rfl⟩
theorem fModel_cuts_90 : w_fe w_c200 90 91 (.invokestatic 178) := ⟨rfl, rfl⟩
theorem fModel_cuts_91 : w_fe w_c200 91 92 (.bipush 1) := ⟨rfl, rfl⟩
theorem fModel_cuts_92 : w_fe w_c200 92 93 (.isub) := ⟨rfl, rfl⟩
theorem fModel_cuts_93 : w_fe w_c200 93 94 (.invokestatic 199) := ⟨rfl, rfl⟩
theorem fModel_cuts_94 : w_fe w_c200 94 95 (.aload 0) := ⟨rfl, rfl⟩
theorem fModel_cuts_95 : w_fe w_c200 95 96 (.iload 1) := ⟨rfl, rfl⟩
theorem fModel_cuts_96 : w_fe w_c200 96 97 (.bipush 1) := ⟨rfl, rfl⟩
theorem fModel_cuts_97 : w_fe w_c200 97 98 (.aload 0) := ⟨rfl, rfl⟩
theorem fModel_cuts_98 : w_fe w_c200 98 99 (.iload 1) := ⟨rfl, rfl⟩
theorem fModel_cuts_99 : w_fe w_c200 99 100 (.bipush 1) := ⟨rfl, rfl⟩
theorem fModel_cuts_100 : w_fe w_c200 100 101 (.invokestatic 178) := ⟨rfl, rfl⟩
theorem fModel_cuts_101 : w_fe w_c200 101 102 (.iload 2) := ⟨rfl, rfl⟩
theorem fModel_cuts_102 : w_fe w_c200 102 103 (.invokestatic 179) := ⟨rfl, rfl⟩
theorem fModel_cuts_103 : w_fe w_c200 103 104 (.isub) := ⟨rfl, rfl⟩
theorem fModel_cuts_104 : w_fe w_c200 104 105 (.invokestatic 199) := ⟨rfl, rfl⟩
theorem fModel_cuts_105 : w_fe w_c200 105 106 (.return_) := ⟨rfl, rfl⟩
noncomputable def LModel_cuts_27 (xs : List Int) (d : Nat) (Q : Option w_V → w_M → Prop) (v1 : Int) (v2 : Int) (v3 : Int) (v4 : Int) (σ : w_M) : Prop := ∀ l5, w_nl l5 → w_Ex (xs, d) 0 w_c200 Q 27 [some (.inr (.inr (9, 122))), some (.inl v1), some (.inl v2), some (.inl v3), some (.inl v4), l5] [] σ
noncomputable def LModel_cuts_44 (xs : List Int) (d : Nat) (Q : Option w_V → w_M → Prop) (v1 : Int) (v2 : Int) (v3 : Int) (v5 : Int) (σ : w_M) : Prop := ∀ l4, w_nl l4 → w_Ex (xs, d) 0 w_c200 Q 44 [some (.inr (.inr (9, 122))), some (.inl v1), some (.inl v2), some (.inl v3), l4, some (.inl v5)] [] σ
set_option maxRecDepth 20000 in
theorem bModel_cuts_0 {xs : List Int} {d : Nat} {Q : Option w_V → w_M → Prop} {x1 : Int} {x2 : Int} {σ : w_M}
    (h : p_Model_of x1 3 σ ∧ (∀ (y1 : Int), y1 = (σ 124 (21 + 5 * x1 + 3).toNat) → (w_in (14 + y1) ∧ 0 ≤ (14 + y1) ∧ (14 + y1) < 82 ∧ ((¬ (σ 124 (14 + y1).toNat) = 1 → (p_Model_of x1 0 σ ∧ (∀ (y2 : Int), y2 = (σ 124 (21 + 5 * x1 + 0).toNat) → LModel_cuts_27 xs (d + 1) Q x1 x2 y1 y2 σ))) ∧ ((σ 124 (14 + y1).toNat) = 1 → (p_Model_of x1 0 σ ∧ w_in ((σ 124 (21 + 5 * x1 + 0).toNat) + 1) ∧ w_in (((σ 124 (21 + 5 * x1 + 0).toNat) + 1).tdiv 2) ∧ (∀ (y3 : Int), y3 = (((σ 124 (21 + 5 * x1 + 0).toNat) + 1).tdiv 2) → LModel_cuts_27 xs (d + 1) Q x1 x2 y1 y3 σ))))))) : w_Call (xs, (d + 1)) 200 [.inr (.inr (9, 122)), .inl x1, .inl x2] σ Q :=
  (w_mk (mid := 200) (by decide) rfl rfl rfl rfl rfl (Nat.le_of_ble_eq_true rfl) ⟨rfl, Or.inl (by decide)⟩ (wi_aload0 fModel_cuts_0 (wi_iload1 fModel_cuts_1 (wi_bipush fModel_cuts_2 (wi_call3 fModel_cuts_3 (Nat.le_of_ble_eq_true rfl) (k_Model_of h.1 (wi_istore3 fModel_cuts_4 trivial (wi_aload0 fModel_cuts_5 (wi_getf901 fModel_cuts_6 (wi_bipush fModel_cuts_7 (wi_iload3 fModel_cuts_8 (wi_iadd fModel_cuts_9 (h.2 _ rfl).1 (wi_iald1082 fModel_cuts_10 (h.2 _ rfl).2.1 (h.2 _ rfl).2.2.1 (wi_bipush fModel_cuts_11 (wi_ic_ne fModel_cuts_12 (fun c4 => (wi_aload0 fModel_cuts_22 (wi_iload1 fModel_cuts_23 (wi_bipush fModel_cuts_24 (wi_call3 fModel_cuts_25 (Nat.le_of_ble_eq_true rfl) (k_Model_of ((h.2 _ rfl).2.2.2.1 c4).1 (wi_istore4 fModel_cuts_26 trivial ((((h.2 _ rfl).2.2.2.1 c4).2 _ rfl) _ (by exact trivial))))))))) (fun c4 => (wi_aload0 fModel_cuts_13 (wi_iload1 fModel_cuts_14 (wi_bipush fModel_cuts_15 (wi_call3 fModel_cuts_16 (Nat.le_of_ble_eq_true rfl) (k_Model_of ((h.2 _ rfl).2.2.2.2 c4).1 (wi_bipush fModel_cuts_17 (wi_iadd fModel_cuts_18 ((h.2 _ rfl).2.2.2.2 c4).2.1 (wi_bipush fModel_cuts_19 (wi_idiv fModel_cuts_20 (by decide) ((h.2 _ rfl).2.2.2.2 c4).2.2.1 (wi_goto fModel_cuts_21 (wi_istore4 fModel_cuts_26 trivial ((((h.2 _ rfl).2.2.2.2 c4).2.2.2 _ rfl) _ (by exact trivial)))))))))))))))))))))))))))))
set_option maxRecDepth 20000 in
theorem bModel_cuts_27 {xs : List Int} {d : Nat} {Q : Option w_V → w_M → Prop} {v1 : Int} {v2 : Int} {v3 : Int} {v4 : Int} {σ : w_M}
    (h : w_in (0 + v3) ∧ 0 ≤ (0 + v3) ∧ (0 + v3) < 82 ∧ (((σ 124 (0 + v3).toNat) ≤ v4 → ∀ (y1 : Int), y1 = (σ 124 (0 + v3).toNat) → LModel_cuts_44 xs (d + 1) Q v1 v2 v3 y1 σ) ∧ (v4 < (σ 124 (0 + v3).toNat) → LModel_cuts_44 xs (d + 1) Q v1 v2 v3 v4 σ))) : LModel_cuts_27 xs (d + 1) Q v1 v2 v3 v4 σ :=
  fun l5 nl5 => (wi_iload4 fModel_cuts_27 (wi_aload0 fModel_cuts_28 (wi_getf901 fModel_cuts_29 (wi_bipush fModel_cuts_30 (wi_iload3 fModel_cuts_31 (wi_iadd fModel_cuts_32 h.1 (wi_iald1082 fModel_cuts_33 h.2.1 h.2.2.1 (wi_ic_ge fModel_cuts_34 (fun c2 => (wi_aload0 fModel_cuts_37 (wi_getf901 fModel_cuts_38 (wi_bipush fModel_cuts_39 (wi_iload3 fModel_cuts_40 (wi_iadd fModel_cuts_41 h.1 (wi_iald1082 fModel_cuts_42 h.2.1 h.2.2.1 (wi_istore5 fModel_cuts_43 trivial (((h.2.2.2.1 c2) _ rfl) _ (by exact trivial)))))))))) (fun c2 => (wi_iload4 fModel_cuts_35 (wi_goto fModel_cuts_36 (wi_istore5 fModel_cuts_43 trivial ((h.2.2.2.2 c2) _ (by exact trivial))))))))))))))
set_option maxRecDepth 20000 in
theorem bModel_cuts_44 {xs : List Int} {d : Nat} {Q : Option w_V → w_M → Prop} {v1 : Int} {v2 : Int} {v3 : Int} {v5 : Int} {σ : w_M}
    (h : w_in (0 + v3) ∧ 0 ≤ (0 + v3) ∧ (0 + v3) < 82 ∧ w_in ((σ 124 (0 + v3).toNat) - v5) ∧ (∀ (τ1 : w_M), τ1 = w_up σ 124 (0 + v3).toNat ((σ 124 (0 + v3).toNat) - v5) → (p_Model_of v1 4 τ1 ∧ p_Model_becomesOf v1 4 (w_wr ((τ1 124 (21 + 5 * v1 + 4).toNat) + v5)) τ1 ∧ (∀ (τ2 : w_M), q_Model_becomesOf v1 4 (w_wr ((τ1 124 (21 + 5 * v1 + 4).toNat) + v5)) τ1 τ2 → (w_in (7 + v3) ∧ 0 ≤ (7 + v3) ∧ (7 + v3) < 82 ∧ w_in (43 + (τ2 124 (7 + v3).toNat)) ∧ 0 ≤ (43 + (τ2 124 (7 + v3).toNat)) ∧ (43 + (τ2 124 (7 + v3).toNat)) < 82 ∧ (∀ (τ3 : w_M), τ3 = w_up τ2 124 (43 + (τ2 124 (7 + v3).toNat)).toNat (w_wr ((τ2 124 (43 + (τ2 124 (7 + v3).toNat)).toNat) + v5)) → ∀ (τ4 : w_M), τ4 = w_up τ3 124 47 v1 → (p_Model_of v1 2 τ4 ∧ w_in ((τ4 124 (21 + 5 * v1 + 2).toNat) - 1) ∧ p_Model_becomesOf v1 2 ((τ4 124 (21 + 5 * v1 + 2).toNat) - 1) τ4 ∧ (∀ (τ5 : w_M), q_Model_becomesOf v1 2 ((τ4 124 (21 + 5 * v1 + 2).toNat) - 1) τ4 τ5 → (p_Model_of v1 1 τ5 ∧ (∀ (y6 : Int), y6 = v_Model_flag v2 → (w_in ((τ5 124 (21 + 5 * v1 + 1).toNat) - y6) ∧ p_Model_becomesOf v1 1 ((τ5 124 (21 + 5 * v1 + 1).toNat) - y6) τ5 ∧ (∀ (τ7 : w_M), q_Model_becomesOf v1 1 ((τ5 124 (21 + 5 * v1 + 1).toNat) - y6) τ5 τ7 → Q none τ7)))))))))))) : LModel_cuts_44 xs (d + 1) Q v1 v2 v3 v5 σ :=
  fun l4 nl4 => (wi_aload0 fModel_cuts_44 (wi_getf901 fModel_cuts_45 (wi_bipush fModel_cuts_46 (wi_iload3 fModel_cuts_47 (wi_iadd fModel_cuts_48 h.1 (wi_dup2 fModel_cuts_49 (wi_iald1082 fModel_cuts_50 h.2.1 h.2.2.1 (wi_iload5 fModel_cuts_51 (wi_isub fModel_cuts_52 h.2.2.2.1 (wi_iast1082 fModel_cuts_53 h.2.1 h.2.2.1 (wi_aload0 fModel_cuts_54 (wi_iload1 fModel_cuts_55 (wi_bipush fModel_cuts_56 (wi_aload0 fModel_cuts_57 (wi_iload1 fModel_cuts_58 (wi_bipush fModel_cuts_59 (wi_call3 fModel_cuts_60 (Nat.le_of_ble_eq_true rfl) (k_Model_of (h.2.2.2.2 _ rfl).1 (wi_iload5 fModel_cuts_61 (wi_fadd fModel_cuts_62 (wi_call4 fModel_cuts_63 (Nat.le_of_ble_eq_true rfl) (k_Model_becomesOf (h.2.2.2.2 _ rfl).2.1 (fun τ2 eτ2 => (wi_aload0 fModel_cuts_64 (wi_getf901 fModel_cuts_65 (wi_bipush fModel_cuts_66 (wi_aload0 fModel_cuts_67 (wi_getf901 fModel_cuts_68 (wi_bipush fModel_cuts_69 (wi_iload3 fModel_cuts_70 (wi_iadd fModel_cuts_71 ((h.2.2.2.2 _ rfl).2.2 τ2 eτ2).1 (wi_iald1082 fModel_cuts_72 ((h.2.2.2.2 _ rfl).2.2 τ2 eτ2).2.1 ((h.2.2.2.2 _ rfl).2.2 τ2 eτ2).2.2.1 (wi_iadd fModel_cuts_73 ((h.2.2.2.2 _ rfl).2.2 τ2 eτ2).2.2.2.1 (wi_dup2 fModel_cuts_74 (wi_iald1082 fModel_cuts_75 ((h.2.2.2.2 _ rfl).2.2 τ2 eτ2).2.2.2.2.1 ((h.2.2.2.2 _ rfl).2.2 τ2 eτ2).2.2.2.2.2.1 (wi_iload5 fModel_cuts_76 (wi_fadd fModel_cuts_77 (wi_iast1082 fModel_cuts_78 ((h.2.2.2.2 _ rfl).2.2 τ2 eτ2).2.2.2.2.1 ((h.2.2.2.2 _ rfl).2.2 τ2 eτ2).2.2.2.2.2.1 (wi_aload0 fModel_cuts_79 (wi_getf901 fModel_cuts_80 (wi_bipush fModel_cuts_81 (wi_iload1 fModel_cuts_82 (wi_iast1082 fModel_cuts_83 (by decide) (by decide) (wi_aload0 fModel_cuts_84 (wi_iload1 fModel_cuts_85 (wi_bipush fModel_cuts_86 (wi_aload0 fModel_cuts_87 (wi_iload1 fModel_cuts_88 (wi_bipush fModel_cuts_89 (wi_call3 fModel_cuts_90 (Nat.le_of_ble_eq_true rfl) (k_Model_of ((((h.2.2.2.2 _ rfl).2.2 τ2 eτ2).2.2.2.2.2.2 _ rfl) _ rfl).1 (wi_bipush fModel_cuts_91 (wi_isub fModel_cuts_92 ((((h.2.2.2.2 _ rfl).2.2 τ2 eτ2).2.2.2.2.2.2 _ rfl) _ rfl).2.1 (wi_call4 fModel_cuts_93 (Nat.le_of_ble_eq_true rfl) (k_Model_becomesOf ((((h.2.2.2.2 _ rfl).2.2 τ2 eτ2).2.2.2.2.2.2 _ rfl) _ rfl).2.2.1 (fun τ5 eτ5 => (wi_aload0 fModel_cuts_94 (wi_iload1 fModel_cuts_95 (wi_bipush fModel_cuts_96 (wi_aload0 fModel_cuts_97 (wi_iload1 fModel_cuts_98 (wi_bipush fModel_cuts_99 (wi_call3 fModel_cuts_100 (Nat.le_of_ble_eq_true rfl) (k_Model_of (((((h.2.2.2.2 _ rfl).2.2 τ2 eτ2).2.2.2.2.2.2 _ rfl) _ rfl).2.2.2 τ5 eτ5).1 (wi_iload2 fModel_cuts_101 (wi_call1 fModel_cuts_102 (Nat.le_of_ble_eq_true rfl) (k_Model_flag (wi_isub fModel_cuts_103 ((((((h.2.2.2.2 _ rfl).2.2 τ2 eτ2).2.2.2.2.2.2 _ rfl) _ rfl).2.2.2 τ5 eτ5).2 _ rfl).1 (wi_call4 fModel_cuts_104 (Nat.le_of_ble_eq_true rfl) (k_Model_becomesOf ((((((h.2.2.2.2 _ rfl).2.2 τ2 eτ2).2.2.2.2.2.2 _ rfl) _ rfl).2.2.2 τ5 eτ5).2 _ rfl).2.1 (fun τ7 eτ7 => (wi_ret0 fModel_cuts_105 (((((((h.2.2.2.2 _ rfl).2.2 τ2 eτ2).2.2.2.2.2.2 _ rfl) _ rfl).2.2.2 τ5 eτ5).2 _ rfl).2.2 τ7 eτ7)))))))))))))))))))))))))))))))))))))))))))))))))))))))))))))))))))))))))
theorem m_cut_order {A : w_M} {r i o : Nat} {a b c e f g : Int} : w_up (w_up (w_up (w_up (w_up (w_up A 1 i a) 7 r b) 8 o c) 0 3 e) 5 r f) 4 r g = w_up (w_up (w_up (w_up (w_up (w_up A 5 r f) 4 r g) 1 i a) 7 r b) 0 3 e) 8 o c := by
  funext k j
  by_cases h0 : k = 0
  · subst h0; simp [w_up]
  by_cases h1 : k = 1
  · subst h1; simp [w_up]
  by_cases h4 : k = 4
  · subst h4; simp [w_up]
  by_cases h5 : k = 5
  · subst h5; simp [w_up]
  by_cases h7 : k = 7
  · subst h7; simp [w_up]
  by_cases h8 : k = 8
  · subst h8; simp [w_up]
  simp [w_up, h0, h1, h4, h5, h7, h8]
set_option maxHeartbeats 1000000 in
theorem k_cuts_tail {xs : List Int} {d : Nat} {Q : Option w_V → w_M → Prop} {r i : Nat} {c v : Int} {σ : w_M} (hok : m_ok σ 124 0) (hr : r < (σ 122 5).toNat) (hi : i < (σ 122 4).toNat) (hi6 : w_am σ 124 0 6 r = i) (hc : c = 0 ∨ c = 1) (hv : v = n_amt (w_am σ 124 0) r i) (hQ : ∀ σ' : w_M, q_Model_cuts r c σ σ' → Q none σ') : LModel_cuts_44 xs (d + 1) Q r c i v σ := by
  have hs := m_ok.s hok
  have hn := m_ok.n hok
  have hsm := m_ok.sm hok
  have i1 : i < m_rl σ 1 := by rw [m_rl12 (by decide) (by decide)]; exact hi
  have i2 : i < m_rl σ 2 := by rw [m_rl12 (by decide) (by decide)]; exact hi
  have rk : ∀ k, 3 ≤ k → k ≤ 7 → r < m_rl σ k := fun k a b => by rw [m_rl37 a b]; exact hr
  have x1 : ((0 : Int) + (i : Int)).toNat = i := by omega
  have e1 : σ 124 i = w_am σ 124 0 1 i := m_rd (by decide) i1 (by show i = 0 + i; omega)
  have h1 := n_WF.i hok hi
  have h2 := n_WF.r hok hr
  have ham := n_amt_le hok hr hi
  have sm : ∀ {τ : w_M}, w_g1 σ τ → m_sm τ ∧ (∀ k, m_rl τ k = m_rl σ k) := fun {τ} F => by
    have : τ 122 = σ 122 := F.1 122 (by decide)
    refine ⟨by unfold m_sm; rw [this]; exact hsm, fun k => by unfold m_rl; rw [this]⟩
  refine bModel_cuts_44 ⟨⟨by omega, by omega⟩, by omega, by omega, ?_⟩
  rw [x1, e1]
  refine ⟨⟨by omega, by omega⟩, ?_⟩
  intro τ1 t1
  have F1 : w_g1 σ τ1 := by rw [t1]; exact w_g1.up0 (by omega)
  have A1 : w_am τ1 124 0 = w_up (w_am σ 124 0) 1 i (w_am σ 124 0 1 i - v) := by rw [t1]; exact w_am_up hsm (by decide) i1 (by show i = 0 + i; omega)
  obtain ⟨m1, l1⟩ := sm F1
  have a7 : τ1 124 (21 + 5 * (r : Int) + 4).toNat = w_am σ 124 0 7 r := (m_rd (o := 0) (d := 7) (i := r) (by decide) (by rw [l1]; exact rk 7 (by decide) (by decide)) (by show _ = 0 + (25 + 5 * r); omega)).trans (by rw [A1, w_up_ne (by decide)])
  rw [a7]
  refine ⟨⟨by omega, by omega⟩, ⟨by omega, by omega⟩, ?_⟩
  intro τ2 t2
  have F2 : w_g1 σ τ2 := by rw [t2]; exact F1.up (by omega)
  obtain ⟨m2, l2⟩ := sm F2
  have A2 : w_am τ2 124 0 = w_up (w_am τ1 124 0) 7 r (w_wr (w_am σ 124 0 7 r + v)) := by
    rw [t2]
    exact w_am_up m1 (by decide) (by rw [l1]; exact rk 7 (by decide) (by decide)) (by show _ = 0 + (25 + 5 * r); omega)
  have a2 : τ2 124 (7 + (i : Int)).toNat = w_am σ 124 0 2 i := (m_rd (o := 0) (d := 2) (i := i) (by decide) (by rw [l2]; exact i2) (by show _ = 0 + (7 + i); omega)).trans (by rw [A2, w_up_ne (by decide), A1, w_up_ne (by decide)])
  rw [a2]
  have ho := h1.2.1
  have a8 : τ2 124 (43 + w_am σ 124 0 2 i).toNat = w_am σ 124 0 8 (w_am σ 124 0 2 i).toNat := (m_rd (o := 0) (d := 8) (i := (w_am σ 124 0 2 i).toNat) (by decide) (show _ < 4 by omega) (by show _ = 0 + (43 + (w_am σ 124 0 2 i).toNat); omega)).trans (by rw [A2, w_up_ne (by decide), A1, w_up_ne (by decide)])
  rw [a8]
  refine ⟨⟨by omega, by omega⟩, by omega, by omega, ⟨by omega, by omega⟩, by omega, by omega, ?_⟩
  intro τ3 t3
  have F3 : w_g1 σ τ3 := by rw [t3]; exact F2.up (by omega)
  obtain ⟨m3, l3⟩ := sm F3
  have A3 : w_am τ3 124 0 = w_up (w_am τ2 124 0) 8 (w_am σ 124 0 2 i).toNat (w_wr (w_am σ 124 0 8 (w_am σ 124 0 2 i).toNat + v)) := by
    rw [t3]
    exact w_am_up m2 (by decide) (show _ < 4 by omega) (by show _ = 0 + (43 + (w_am σ 124 0 2 i).toNat); omega)
  intro τ4 t4
  have F4 : w_g1 σ τ4 := by rw [t4]; exact F3.up (by omega)
  obtain ⟨m4, l4⟩ := sm F4
  have A4 : w_am τ4 124 0 = w_up (w_am τ3 124 0) 0 3 r := by rw [t4]; exact w_am_up0 m3 (by decide) (Or.inr (Or.inr ⟨rfl, rfl⟩))
  have a5 : τ4 124 (21 + 5 * (r : Int) + 2).toNat = w_am σ 124 0 5 r := (m_rd (o := 0) (d := 5) (i := r) (by decide) (by rw [l4]; exact rk 5 (by decide) (by decide)) (by show _ = 0 + (23 + 5 * r); omega)).trans (by rw [A4, w_up_ne (by decide), A3, w_up_ne (by decide), A2, w_up_ne (by decide), A1, w_up_ne (by decide)])
  rw [a5]
  refine ⟨⟨by omega, by omega⟩, ⟨by omega, by omega⟩, ⟨by omega, by omega⟩, ?_⟩
  intro τ5 t5
  have F5 : w_g1 σ τ5 := by rw [t5]; exact F4.up (by omega)
  obtain ⟨m5, l5⟩ := sm F5
  have A5 : w_am τ5 124 0 = w_up (w_am τ4 124 0) 5 r (w_am σ 124 0 5 r - 1) := by
    rw [t5]
    exact w_am_up m4 (by decide) (by rw [l4]; exact rk 5 (by decide) (by decide)) (by show _ = 0 + (23 + 5 * r); omega)
  have a4 : τ5 124 (21 + 5 * (r : Int) + 1).toNat = w_am σ 124 0 4 r := (m_rd (o := 0) (d := 4) (i := r) (by decide) (by rw [l5]; exact rk 4 (by decide) (by decide)) (by show _ = 0 + (22 + 5 * r); omega)).trans (by rw [A5, w_up_ne (by decide), A4, w_up_ne (by decide), A3, w_up_ne (by decide), A2, w_up_ne (by decide), A1, w_up_ne (by decide)])
  rw [a4]
  refine ⟨⟨by omega, by omega⟩, ?_⟩
  intro y6 e6
  have e6' : y6 = c := by rw [e6]; unfold v_Model_flag; rcases hc with rfl | rfl <;> rfl
  refine ⟨⟨by omega, by omega⟩, ⟨by omega, by omega⟩, ?_⟩
  intro τ7 t7
  have A7 : w_am τ7 124 0 = w_up (w_am τ5 124 0) 4 r (w_am σ 124 0 4 r - y6) := by
    rw [t7]
    exact w_am_up m5 (by decide) (by rw [l5]; exact rk 4 (by decide) (by decide)) (by show _ = 0 + (22 + 5 * r); omega)
  refine hQ _ ⟨?_, by rw [t7]; exact F5.up (by omega)⟩
  have ht : ((r : Int)).toNat = r := Int.toNat_natCast r
  have hit : (w_am σ 124 0 6 r).toNat = i := by rw [hi6]; exact Int.toNat_natCast i
  rw [A7, A5, A4, A3, A2, A1, e6', ht]
  unfold m_cut
  rw [hit, m_cut_order]
  generalize hB : w_up (w_up (w_am σ 124 0) 5 r (w_am σ 124 0 5 r - 1)) 4 r (w_am σ 124 0 4 r - c) = B
  have b1 : B 1 = w_am σ 124 0 1 := by rw [← hB, w_up_ne (by decide), w_up_ne (by decide)]
  have b2 : B 2 = w_am σ 124 0 2 := by rw [← hB, w_up_ne (by decide), w_up_ne (by decide)]
  have b3 : B 3 = w_am σ 124 0 3 := by rw [← hB, w_up_ne (by decide), w_up_ne (by decide)]
  have b7 : B 7 = w_am σ 124 0 7 := by rw [← hB, w_up_ne (by decide), w_up_ne (by decide)]
  have b8 : B 8 = w_am σ 124 0 8 := by rw [← hB, w_up_ne (by decide), w_up_ne (by decide)]
  have b9 : B 9 = w_am σ 124 0 9 := by rw [← hB, w_up_ne (by decide), w_up_ne (by decide)]
  unfold n_cut
  rw [n_amt_congr b1 b3 b9, b1, b2, b7, b8, hv]
theorem k_Model_cuts {xs : List Int} {d : Nat} {Q : Option w_V → w_M → Prop} {x1 : Int} {x2 : Int} {σ : w_M} (hp : p_Model_cuts x1 x2 σ) (hQ : ∀ σ' : w_M, q_Model_cuts x1 x2 σ σ' → Q none σ') : w_Call (xs, d + 1) 200 [.inr (.inr (9, 122)), .inl x1, .inl x2] σ Q := by
  obtain ⟨hok, ⟨r0, r1⟩, hc⟩ := hp
  obtain ⟨r, rfl⟩ := Int.eq_ofNat_of_zero_le r0
  have hs := m_ok.s hok
  have hn := m_ok.n hok
  have hr : r < (σ 122 5).toNat := by omega
  have h2 := n_WF.r hok hr
  have rk : ∀ k, 3 ≤ k → k ≤ 7 → r < m_rl σ k := fun k a b => by rw [m_rl37 a b]; exact hr
  have e6 : σ 124 (21 + 5 * (r : Int) + 3).toNat = w_am σ 124 0 6 r := m_rd (by decide) (rk 6 (by decide) (by decide)) (by show _ = 0 + (24 + 5 * r); omega)
  have e3 : σ 124 (21 + 5 * (r : Int) + 0).toNat = w_am σ 124 0 3 r := m_rd (by decide) (rk 3 (by decide) (by decide)) (by show _ = 0 + (21 + 5 * r); omega)
  have h04 : w_am σ 124 0 0 4 = σ 122 4 := rfl
  obtain ⟨i, hi6⟩ := Int.eq_ofNat_of_zero_le h2.2.2.2.1
  have hi : i < (σ 122 4).toNat := by omega
  have h1 := n_WF.i hok hi
  have e9 : σ 124 (14 + (i : Int)).toNat = w_am σ 124 0 9 i := m_rd (by decide) (by rw [m_rl9]; exact hi) (by show _ = 0 + (14 + i); omega)
  have e1 : σ 124 ((0 : Int) + (i : Int)).toNat = w_am σ 124 0 1 i := m_rd (by decide) (by rw [m_rl12 (by decide) (by decide)]; exact hi) (by show _ = 0 + i; omega)
  have next : ∀ y, y = n_pc (w_am σ 124 0) r i → LModel_cuts_27 xs (d + 1) Q r x2 i y σ := by
    intro y ey
    refine bModel_cuts_27 ⟨⟨by omega, by omega⟩, by omega, by omega, fun c => fun z ez => ?_, fun c => ?_⟩
    · rw [e1] at c ez
      refine k_cuts_tail hok hr hi hi6 hc ?_ hQ
      rw [ez]
      unfold n_amt
      rw [if_neg (by omega)]
    · rw [e1] at c
      refine k_cuts_tail hok hr hi hi6 hc ?_ hQ
      unfold n_amt
      rw [← ey, if_pos c]
  refine bModel_cuts_0 ⟨⟨by omega, by omega⟩, fun y1 ey => ?_⟩
  rw [e6, hi6] at ey
  rw [ey, e9, e3]
  refine ⟨⟨by omega, by omega⟩, by omega, by omega, fun c => ⟨⟨by omega, by omega⟩, fun y e => next y ?_⟩, fun c => ⟨⟨by omega, by omega⟩, ?_⟩⟩
  · rw [e]; unfold n_pc; rw [if_neg c]
  · have hd : ((w_am σ 124 0 3 r) + 1).tdiv 2 = (w_am σ 124 0 3 r + 1) / 2 := Int.tdiv_eq_ediv_of_nonneg (by omega)
    refine ⟨⟨by omega, by omega⟩, by rw [hd]; exact ⟨by omega, by omega⟩, fun y e => next y ?_⟩
    rw [e]; unfold n_pc; rw [if_pos c]
noncomputable def p_Model_does (r c : Int) (σ : w_M) : Prop := m_ok σ 124 0 ∧ (0 ≤ r ∧ r < σ 122 5) ∧ (c = 0 ∨ c = 1)
noncomputable def q_Model_does (r c : Int) (σ σ' : w_M) : Prop := w_am σ' 124 0 = n_work (w_am σ 124 0) r.toNat c ∧ w_g1 σ σ'
theorem fModel_does_0 : w_fe am_c197 0 1 (.aload 0) := ⟨rfl, rfl⟩
theorem fModel_does_1 : w_fe am_c197 1 2 (.aload 0) := ⟨rfl, rfl⟩
theorem fModel_does_2 : w_fe am_c197 2 3 (.iload 1) := ⟨rfl, rfl⟩
theorem fModel_does_3 : w_fe am_c197 3 4 (.bipush 3) := ⟨rfl, rfl⟩
theorem fModel_does_4 : w_fe am_c197 4 5 (.invokestatic 178) := ⟨rfl, rfl⟩
theorem fModel_does_5 : w_fe am_c197 5 6 (.invokestatic 198) := ⟨rfl, rfl⟩
theorem fModel_does_6 : w_fe am_c197 6 7 (.istore 3) := ⟨rfl, rfl⟩
theorem fModel_does_7 : w_fe am_c197 7 8 (.iload 3) := ⟨rfl, rfl⟩
theorem fModel_does_8 : w_fe am_c197 8 9 (.bipush (-4)) := ⟨rfl, rfl⟩
theorem fModel_does_9 : w_ic am_c197 9 10 .ne 11 := ⟨rfl, rfl⟩
theorem fModel_does_10 : w_fe am_c197 10 11 (.return_) := ⟨rfl, rfl⟩
theorem fModel_does_11 : w_fe am_c197 11 12 (.aload 0) := ⟨rfl, rfl⟩
theorem fModel_does_12 : w_fe am_c197 12 13 (.iload 1) := ⟨rfl, rfl⟩
theorem fModel_does_13 : w_fe am_c197 13 14 (.bipush 3) := ⟨rfl, rfl⟩
theorem fModel_does_14 : w_fe am_c197 14 15 (.iload 3) := ⟨rfl, rfl⟩
theorem fModel_does_15 : w_fe am_c197 15 16 (.invokestatic 199) := ⟨rfl, rfl⟩
theorem fModel_does_16 : w_fe am_c197 16 17 (.aload 0) := ⟨rfl, rfl⟩
theorem fModel_does_17 : w_fe am_c197 17 18 (.iload 1) := ⟨rfl, rfl⟩
theorem fModel_does_18 : w_fe am_c197 18 19 (.bipush 2) := ⟨rfl, rfl⟩
theorem fModel_does_19 : w_fe am_c197 19 20 (.invokestatic 178) := ⟨rfl, rfl⟩
theorem fModel_does_20 : w_if am_c197 20 21 .ne 27 := ⟨rfl, rfl⟩
theorem fModel_does_21 : w_fe am_c197 21 22 (.aload 0) := ⟨rfl, rfl⟩
theorem fModel_does_22 : w_fe am_c197 22 23 (.iload 1) := ⟨rfl, rfl⟩
theorem fModel_does_23 : w_fe am_c197 23 24 (.bipush 2) := ⟨rfl, rfl⟩
theorem fModel_does_24 : w_fe am_c197 24 25 (.bipush 3) := ⟨rfl, rfl⟩
theorem fModel_does_25 : w_fe am_c197 25 26 (.invokestatic 199) := ⟨rfl, rfl⟩
theorem fModel_does_26 : w_gt am_c197 26 38 := rfl
theorem fModel_does_27 : w_fe am_c197 27 28 (.iload 2) := ⟨rfl, rfl⟩
theorem fModel_does_28 : w_if am_c197 28 29 .eq 34 := ⟨rfl, rfl⟩
theorem fModel_does_29 : w_fe am_c197 29 30 (.aload 0) := ⟨rfl, rfl⟩
theorem fModel_does_30 : w_fe am_c197 30 31 (.iload 1) := ⟨rfl, rfl⟩
theorem fModel_does_31 : w_fe am_c197 31 32 (.bipush 1) := ⟨rfl, rfl⟩
theorem fModel_does_32 : w_fe am_c197 32 33 (.invokestatic 178) := ⟨rfl, rfl⟩
theorem fModel_does_33 : w_if am_c197 33 34 .le 38 := ⟨rfl, rfl⟩
theorem fModel_does_34 : w_fe am_c197 34 35 (.aload 0) := ⟨rfl, rfl⟩
theorem fModel_does_35 : w_fe am_c197 35 36 (.iload 1) := ⟨rfl, rfl⟩
theorem fModel_does_36 : w_fe am_c197 36 37 (.iload 2) := ⟨rfl, rfl⟩
theorem fModel_does_37 : w_fe am_c197 37 38 (.invokestatic 200) := ⟨rfl, rfl⟩
theorem fModel_does_38 : w_fe am_c197 38 39 (.return_) := ⟨rfl, rfl⟩
set_option maxRecDepth 20000 in
theorem bModel_does_0 {xs : List Int} {d : Nat} {Q : Option w_V → w_M → Prop} {x1 : Int} {x2 : Int} {σ : w_M}
    (h : p_Model_of x1 3 σ ∧ p_Model_nearest (σ 124 (21 + 5 * x1 + 3).toNat) σ ∧ (∀ (y1 : Int), y1 = v_Model_nearest (σ 124 (21 + 5 * x1 + 3).toNat) σ → ((¬ y1 = (-4) → (p_Model_becomesOf x1 3 y1 σ ∧ (∀ (τ2 : w_M), q_Model_becomesOf x1 3 y1 σ τ2 → (p_Model_of x1 2 τ2 ∧ ((¬ (τ2 124 (21 + 5 * x1 + 2).toNat) = 0 → ((x2 = 0 → (p_Model_cuts x1 x2 τ2 ∧ (∀ (τ3 : w_M), q_Model_cuts x1 x2 τ2 τ3 → Q none τ3))) ∧ (¬ x2 = 0 → (p_Model_of x1 1 τ2 ∧ (((τ2 124 (21 + 5 * x1 + 1).toNat) ≤ 0 → Q none τ2) ∧ (0 < (τ2 124 (21 + 5 * x1 + 1).toNat) → (p_Model_cuts x1 x2 τ2 ∧ (∀ (τ4 : w_M), q_Model_cuts x1 x2 τ2 τ4 → Q none τ4)))))))) ∧ ((τ2 124 (21 + 5 * x1 + 2).toNat) = 0 → (p_Model_becomesOf x1 2 3 τ2 ∧ (∀ (τ7 : w_M), q_Model_becomesOf x1 2 3 τ2 τ7 → Q none τ7)))))))) ∧ (y1 = (-4) → Q none σ)))) : w_Call (xs, (d + 2)) 197 [.inr (.inr (9, 122)), .inl x1, .inl x2] σ Q :=
  (w_mk (mid := 197) (by decide) rfl rfl rfl rfl rfl (Nat.le_of_ble_eq_true rfl) ⟨rfl, Or.inl (by decide)⟩ (wi_aload0 fModel_does_0 (wi_aload0 fModel_does_1 (wi_iload1 fModel_does_2 (wi_bipush fModel_does_3 (wi_call3 fModel_does_4 (Nat.le_of_ble_eq_true rfl) (k_Model_of h.1 (wi_call2 fModel_does_5 (Nat.le_of_ble_eq_true rfl) (k_Model_nearest h.2.1 (wi_istore3 fModel_does_6 trivial (wi_iload3 fModel_does_7 (wi_bipush fModel_does_8 (wi_ic_ne fModel_does_9 (fun c9 => (wi_aload0 fModel_does_11 (wi_iload1 fModel_does_12 (wi_bipush fModel_does_13 (wi_iload3 fModel_does_14 (wi_call4 fModel_does_15 (Nat.le_of_ble_eq_true rfl) (k_Model_becomesOf ((h.2.2 _ rfl).1 c9).1 (fun τ2 eτ2 => (wi_aload0 fModel_does_16 (wi_iload1 fModel_does_17 (wi_bipush fModel_does_18 (wi_call3 fModel_does_19 (Nat.le_of_ble_eq_true rfl) (k_Model_of (((h.2.2 _ rfl).1 c9).2 τ2 eτ2).1 (wi_if_ne fModel_does_20 (fun c8 => (wi_iload2 fModel_does_27 (wi_if_eq fModel_does_28 (fun c6 => (wi_aload0 fModel_does_34 (wi_iload1 fModel_does_35 (wi_iload2 fModel_does_36 (wi_call3 fModel_does_37 (Nat.le_of_ble_eq_true rfl) (k_Model_cuts (((((h.2.2 _ rfl).1 c9).2 τ2 eτ2).2.1 c8).1 c6).1 (fun τ3 eτ3 => (wi_ret0 fModel_does_38 ((((((h.2.2 _ rfl).1 c9).2 τ2 eτ2).2.1 c8).1 c6).2 τ3 eτ3))))))))) (fun c6 => (wi_aload0 fModel_does_29 (wi_iload1 fModel_does_30 (wi_bipush fModel_does_31 (wi_call3 fModel_does_32 (Nat.le_of_ble_eq_true rfl) (k_Model_of (((((h.2.2 _ rfl).1 c9).2 τ2 eτ2).2.1 c8).2 c6).1 (wi_if_le fModel_does_33 (fun c5 => (wi_ret0 fModel_does_38 ((((((h.2.2 _ rfl).1 c9).2 τ2 eτ2).2.1 c8).2 c6).2.1 c5))) (fun c5 => (wi_aload0 fModel_does_34 (wi_iload1 fModel_does_35 (wi_iload2 fModel_does_36 (wi_call3 fModel_does_37 (Nat.le_of_ble_eq_true rfl) (k_Model_cuts ((((((h.2.2 _ rfl).1 c9).2 τ2 eτ2).2.1 c8).2 c6).2.2 c5).1 (fun τ4 eτ4 => (wi_ret0 fModel_does_38 (((((((h.2.2 _ rfl).1 c9).2 τ2 eτ2).2.1 c8).2 c6).2.2 c5).2 τ4 eτ4))))))))))))))))))) (fun c8 => (wi_aload0 fModel_does_21 (wi_iload1 fModel_does_22 (wi_bipush fModel_does_23 (wi_bipush fModel_does_24 (wi_call4 fModel_does_25 (Nat.le_of_ble_eq_true rfl) (k_Model_becomesOf ((((h.2.2 _ rfl).1 c9).2 τ2 eτ2).2.2 c8).1 (fun τ7 eτ7 => (wi_goto fModel_does_26 (wi_ret0 fModel_does_38 (((((h.2.2 _ rfl).1 c9).2 τ2 eτ2).2.2 c8).2 τ7 eτ7))))))))))))))))))))))))) (fun c9 => (wi_ret0 fModel_does_10 ((h.2.2 _ rfl).2 c9))))))))))))))))
set_option maxHeartbeats 1000000 in
theorem k_Model_does {xs : List Int} {d : Nat} {Q : Option w_V → w_M → Prop} {x1 : Int} {x2 : Int} {σ : w_M} (hp : p_Model_does x1 x2 σ) (hQ : ∀ σ' : w_M, q_Model_does x1 x2 σ σ' → Q none σ') : w_Call (xs, d + 2) 197 [.inr (.inr (9, 122)), .inl x1, .inl x2] σ Q := by
  obtain ⟨hok, ⟨r0, r1⟩, hc⟩ := hp
  obtain ⟨r, rfl⟩ := Int.eq_ofNat_of_zero_le r0
  have hs := m_ok.s hok
  have hn := m_ok.n hok
  have hsm := m_ok.sm hok
  have hr : r < (σ 122 5).toNat := by omega
  have h2 := n_WF.r hok hr
  have rk : ∀ k, 3 ≤ k → k ≤ 7 → r < m_rl σ k := fun k a b => by rw [m_rl37 a b]; exact hr
  have e6 : σ 124 (21 + 5 * (r : Int) + 3).toNat = w_am σ 124 0 6 r := m_rd (by decide) (rk 6 (by decide) (by decide)) (by show _ = 0 + (24 + 5 * r); omega)
  have h04 : w_am σ 124 0 0 4 = σ 122 4 := rfl
  have hsn : n_s (w_am σ 124 0) ≤ 1000 := by rw [n_s_am]; omega
  unfold q_Model_does at hQ
  rw [Int.toNat_natCast] at hQ
  refine bModel_does_0 ⟨⟨by omega, by omega⟩, ?_⟩
  rw [e6]
  refine ⟨⟨hok, by omega, by omega⟩, fun y1 ey => ?_⟩
  unfold v_Model_nearest at ey
  rcases n_near_cases (A := w_am σ 124 0) (f := w_am σ 124 0 6 r) (by omega) hsn with ⟨g1, g2⟩ | ⟨i, g1, g2, g3⟩
  · refine ⟨fun c => absurd (ey.trans g1) c, fun c => hQ _ ⟨?_, w_g1.rfl'⟩⟩
    unfold n_work
    rw [if_pos g1]
  · rw [n_s_am] at g1
    have hne : ¬ n_near (w_am σ 124 0) (w_am σ 124 0 6 r) = -4 := by omega
    refine ⟨fun c => ⟨⟨by omega, by omega⟩, fun τ2 t2 => ?_⟩, fun c => absurd (ey.symm.trans c) hne⟩
    have F2 : w_g1 σ τ2 := by rw [t2]; exact w_g1.up0 (by omega)
    have z2 : τ2 122 = σ 122 := F2.1 122 (by decide)
    have A2 : w_am τ2 124 0 = w_up (w_am σ 124 0) 6 r y1 := by
      rw [t2]
      exact w_am_up hsm (by decide) (rk 6 (by decide) (by decide)) (by show _ = 0 + (24 + 5 * r); omega)
    have l2 : ∀ k, m_rl τ2 k = m_rl σ k := fun k => by unfold m_rl; rw [z2]
    have m2 : m_sm τ2 := by unfold m_sm; rw [z2]; exact hsm
    have f5 : τ2 124 (21 + 5 * (r : Int) + 2).toNat = w_am σ 124 0 5 r := (m_rd (o := 0) (d := 5) (i := r) (by decide) (by rw [l2]; exact rk 5 (by decide) (by decide)) (by show _ = 0 + (23 + 5 * r); omega)).trans (by rw [A2, w_up_ne (by decide)])
    have f4 : τ2 124 (21 + 5 * (r : Int) + 1).toNat = w_am σ 124 0 4 r := (m_rd (o := 0) (d := 4) (i := r) (by decide) (by rw [l2]; exact rk 4 (by decide) (by decide)) (by show _ = 0 + (22 + 5 * r); omega)).trans (by rw [A2, w_up_ne (by decide)])
    rw [f5, f4]
    have W2 : m_ok τ2 124 0 := by
      unfold m_ok
      rw [A2]
      refine n_WF_up hok ?_ ?_ ?_ ?_ ?_ ?_ ?_ ?_ <;> (intros; omega)
    have cutting : x2 = 0 ∨ 0 < w_am σ 124 0 4 r → ¬ w_am σ 124 0 5 r = 0 → p_Model_cuts r x2 τ2 ∧ ∀ τ', q_Model_cuts r x2 τ2 τ' → Q none τ' := by
      intro ho h5
      refine ⟨⟨W2, by rw [z2]; exact ⟨r0, r1⟩, hc⟩, fun τ' hq => ?_⟩
      obtain ⟨q1, q2⟩ := hq
      refine hQ _ ⟨?_, F2.tr q2⟩
      rw [q1, Int.toNat_natCast]
      unfold n_work m_cut
      rw [← ey, if_neg c, if_neg h5, if_pos ho, A2, w_up_at, w_up_eq, if_neg (by omega), w_up_eq, if_neg (by omega)]
    refine ⟨⟨by omega, by omega⟩, fun h5 => ⟨fun hx => cutting (Or.inl hx) h5, fun hx => ⟨⟨by omega, by omega⟩, fun ho => ?_, fun ho => cutting (Or.inr ho) h5⟩⟩, fun h5 => ⟨⟨by omega, by omega⟩, fun τ7 t7 => ?_⟩⟩
    · refine hQ _ ⟨?_, F2⟩
      unfold n_work
      rw [← ey, if_neg c, if_neg h5, if_neg (by omega), A2]
    · refine hQ _ ⟨?_, by rw [t7]; exact F2.up (by omega)⟩
      unfold n_work
      rw [← ey, if_neg c, if_pos h5, t7, w_am_up m2 (by decide) (by rw [l2]; exact rk 5 (by decide) (by decide)) (by show _ = 0 + (23 + 5 * r); omega), A2]
end
section
/-! The reference's hours -/
noncomputable def p_Model_goesBy (c : Int) (σ : w_M) : Prop := m_ok σ 124 0 ∧ σ 124 42 < σ 122 3 ∧ (c = 0 ∨ c = 1)
noncomputable def q_Model_goesBy (c : Int) (σ σ' : w_M) : Prop := w_am σ' 124 0 = n_hour (w_am σ 124 0) c ∧ w_g1 σ σ'
theorem fModel_goesBy_0 : w_fe am_c196 0 1 (.bipush 0) := ⟨rfl, rfl⟩
theorem fModel_goesBy_1 : w_fe am_c196 1 2 (.istore 2) := ⟨rfl, rfl⟩
theorem fModel_goesBy_2 : w_fe am_c196 2 3 (.iload 2) := ⟨rfl, rfl⟩
theorem fModel_goesBy_3 : w_fe am_c196 3 4 (.aload 0) := ⟨rfl, rfl⟩
theorem fModel_goesBy_4 : w_fe am_c196 4 5 (.getfield 905) := ⟨rfl, rfl⟩
theorem fModel_goesBy_5 : w_ic am_c196 5 6 .ge 12 := ⟨rfl, rfl⟩
theorem fModel_goesBy_6 : w_fe am_c196 6 7 (.aload 0) := ⟨rfl, rfl⟩
theorem fModel_goesBy_7 : w_fe am_c196 7 8 (.iload 2) := ⟨rfl, rfl⟩
theorem fModel_goesBy_8 : w_fe am_c196 8 9 (.iload 1) := ⟨rfl, rfl⟩
theorem fModel_goesBy_9 : w_fe am_c196 9 10 (.invokestatic 197) := ⟨rfl, rfl⟩
theorem fModel_goesBy_10 : w_fe am_c196 10 11 (.iinc 2 1) := ⟨rfl, rfl⟩
theorem fModel_goesBy_11 : w_gt am_c196 11 2 := rfl
theorem fModel_goesBy_12 : w_fe am_c196 12 13 (.aload 0) := ⟨rfl, rfl⟩
theorem fModel_goesBy_13 : w_fe am_c196 13 14 (.getfield 901) := ⟨rfl, rfl⟩
theorem fModel_goesBy_14 : w_fe am_c196 14 15 (.bipush 42) := ⟨rfl, rfl⟩
theorem fModel_goesBy_15 : w_fe am_c196 15 16 (.dup2) := ⟨rfl, rfl⟩
theorem fModel_goesBy_16 : w_fe am_c196 16 17 (.iaload) := ⟨rfl, rfl⟩
theorem fModel_goesBy_17 : w_fe am_c196 17 18 (.bipush 1) := ⟨rfl, rfl⟩
theorem fModel_goesBy_18 : w_fe am_c196 18 19 (.iadd) := ⟨rfl, rfl⟩
theorem fModel_goesBy_19 : w_fe am_c196 19 20 (.iastore) := ⟨rfl, rfl⟩
theorem fModel_goesBy_20 : w_fe am_c196 20 21 (.return_) := ⟨rfl, rfl⟩
noncomputable def LModel_goesBy_2 (xs : List Int) (d : Nat) (Q : Option w_V → w_M → Prop) (v1 : Int) (v2 : Int) (σ : w_M) : Prop := w_Ex (xs, d) 0 am_c196 Q 2 [some (.inr (.inr (9, 122))), some (.inl v1), some (.inl v2)] [] σ
set_option maxRecDepth 20000 in
theorem bModel_goesBy_0 {xs : List Int} {d : Nat} {Q : Option w_V → w_M → Prop} {x1 : Int} {σ : w_M}
    (h : LModel_goesBy_2 xs (d + 3) Q x1 0 σ) : w_Call (xs, (d + 3)) 196 [.inr (.inr (9, 122)), .inl x1] σ Q :=
  (w_mk (mid := 196) (by decide) rfl rfl rfl rfl rfl (Nat.le_of_ble_eq_true rfl) ⟨rfl, Or.inl (by decide)⟩ (wi_bipush fModel_goesBy_0 (wi_istore2 fModel_goesBy_1 trivial h)))
set_option maxRecDepth 20000 in
theorem bModel_goesBy_2 {xs : List Int} {d : Nat} {Q : Option w_V → w_M → Prop} {v1 : Int} {v2 : Int} {σ : w_M}
    (h : ((σ 122 5) ≤ v2 → (w_in ((σ 124 42) + 1) ∧ (∀ (τ1 : w_M), τ1 = w_up σ 124 42 ((σ 124 42) + 1) → Q none τ1))) ∧ (v2 < (σ 122 5) → (p_Model_does v2 v1 σ ∧ (∀ (τ2 : w_M), q_Model_does v2 v1 σ τ2 → (w_in (v2 + 1) ∧ LModel_goesBy_2 xs (d + 3) Q v1 (v2 + 1) τ2))))) : LModel_goesBy_2 xs (d + 3) Q v1 v2 σ :=
  (wi_iload2 fModel_goesBy_2 (wi_aload0 fModel_goesBy_3 (wi_getf905 fModel_goesBy_4 (wi_ic_ge fModel_goesBy_5 (fun c3 => (wi_aload0 fModel_goesBy_12 (wi_getf901 fModel_goesBy_13 (wi_bipush fModel_goesBy_14 (wi_dup2 fModel_goesBy_15 (wi_iald1082 fModel_goesBy_16 (by decide) (by decide) (wi_bipush fModel_goesBy_17 (wi_iadd fModel_goesBy_18 (h.1 c3).1 (wi_iast1082 fModel_goesBy_19 (by decide) (by decide) (wi_ret0 fModel_goesBy_20 ((h.1 c3).2 _ rfl))))))))))) (fun c3 => (wi_aload0 fModel_goesBy_6 (wi_iload2 fModel_goesBy_7 (wi_iload1 fModel_goesBy_8 (wi_call3 fModel_goesBy_9 (Nat.le_of_ble_eq_true rfl) (k_Model_does (h.2 c3).1 (fun τ2 eτ2 => (wi_iinc2 fModel_goesBy_10 trivial ((h.2 c3).2 τ2 eτ2).1 (wi_goto fModel_goesBy_11 ((h.2 c3).2 τ2 eτ2).2)))))))))))))
theorem m_ok.of {σ : w_M} {c o : Nat} (h : n_WF (w_am σ c o)) : m_ok σ c o := h
theorem k_Model_goesBy {xs : List Int} {d : Nat} {Q : Option w_V → w_M → Prop} {x1 : Int} {σ : w_M} (hp : p_Model_goesBy x1 σ) (hQ : ∀ σ' : w_M, q_Model_goesBy x1 σ σ' → Q none σ') : w_Call (xs, d + 3) 196 [.inr (.inr (9, 122)), .inl x1] σ Q := by
  obtain ⟨hok, hh, hc⟩ := hp
  have hn := m_ok.n hok
  have hrs := m_ok.hrs hok
  have hr : 0 ≤ σ 124 42 ∧ σ 124 42 ≤ σ 122 3 := m_ok.hr hok
  refine bModel_goesBy_0 ?_
  refine (w_loop (n := (σ 122 5).toNat) (P := fun k => ∀ τ : w_M, w_am τ 124 0 = n_hourF (w_am σ 124 0) x1 k → w_g1 σ τ → LModel_goesBy_2 xs (d + 3) Q x1 (k : Int) τ) ?_ ?_) σ rfl w_g1.rfl'
  · intro τ A1 F1
    obtain ⟨g1, g2, g3, g4, g5⟩ := n_hourF_all hok hc (n_n (w_am σ 124 0)) (Nat.le_refl _)
    have A1' : w_am τ 124 0 = n_hourF (w_am σ 124 0) x1 (n_n (w_am σ 124 0)) := A1
    rw [← A1'] at g1 g2 g3 g4
    have z1 : τ 124 42 = σ 124 42 := g3
    have z2 : τ 122 = σ 122 := F1.1 122 (by decide)
    refine bModel_goesBy_2 ⟨fun _ => ⟨by rw [z1]; exact ⟨by omega, by omega⟩, fun τ1 t1 => hQ _ ⟨?_, by rw [t1]; exact F1.up (by decide)⟩⟩, fun h => by rw [z2] at h; omega⟩
    rw [t1, w_am_up0 (m_ok.sm g1) (by decide) (Or.inl ⟨rfl, rfl⟩), A1', z1]
    rfl
  · intro k hk ih τ A1 F1
    obtain ⟨g1, g2, g3, g4, g5⟩ := n_hourF_all hok hc k (Nat.le_of_lt hk)
    rw [← A1] at g1 g2 g3 g4
    have z2 : τ 122 = σ 122 := F1.1 122 (by decide)
    refine bModel_goesBy_2 ⟨fun h => by rw [z2] at h; omega, fun h => ⟨⟨g1, ⟨by omega, by rw [z2]; omega⟩, hc⟩, ?_⟩⟩
    intro τ2 hq
    obtain ⟨q1, q2⟩ := hq
    rw [Int.toNat_natCast] at q1
    refine ⟨⟨by omega, by omega⟩, ?_⟩
    rw [← w_cs1]
    refine ih τ2 ?_ (F1.tr q2)
    rw [q1]
    simp only [n_hourF]
    rw [A1]
noncomputable def p_Model_goesOn (σ : w_M) : Prop := m_ok σ 124 0 ∧ σ 124 42 < σ 122 3
noncomputable def q_Model_goesOn (σ σ' : w_M) : Prop := w_am σ' 124 0 = n_on (w_am σ 124 0) ∧ w_g1 σ σ'
theorem fModel_goesOn_0 : w_fe am_c195 0 1 (.aload 0) := ⟨rfl, rfl⟩
theorem fModel_goesOn_1 : w_fe am_c195 1 2 (.aload 0) := ⟨rfl, rfl⟩
theorem fModel_goesOn_2 : w_fe am_c195 2 3 (.getfield 901) := ⟨rfl, rfl⟩
theorem fModel_goesOn_3 : w_fe am_c195 3 4 (.bipush 41) := ⟨rfl, rfl⟩
theorem fModel_goesOn_4 : w_fe am_c195 4 5 (.iaload) := ⟨rfl, rfl⟩
theorem fModel_goesOn_5 : w_fe am_c195 5 6 (.aload 0) := ⟨rfl, rfl⟩
theorem fModel_goesOn_6 : w_fe am_c195 6 7 (.getfield 901) := ⟨rfl, rfl⟩
theorem fModel_goesOn_7 : w_fe am_c195 7 8 (.bipush 42) := ⟨rfl, rfl⟩
theorem fModel_goesOn_8 : w_fe am_c195 8 9 (.iaload) := ⟨rfl, rfl⟩
theorem fModel_goesOn_9 : w_fe am_c195 9 10 (.ishr) := ⟨rfl, rfl⟩
theorem fModel_goesOn_10 : w_fe am_c195 10 11 (.bipush 1) := ⟨rfl, rfl⟩
theorem fModel_goesOn_11 : w_fe am_c195 11 12 (.iand) := ⟨rfl, rfl⟩
theorem fModel_goesOn_12 : w_fe am_c195 12 13 (.bipush 1) := ⟨rfl, rfl⟩
theorem fModel_goesOn_13 : w_ic am_c195 13 14 .ne 16 := ⟨rfl, rfl⟩
theorem fModel_goesOn_14 : w_fe am_c195 14 15 (.bipush 1) := ⟨rfl, rfl⟩
theorem fModel_goesOn_15 : w_gt am_c195 15 17 := rfl
theorem fModel_goesOn_16 : w_fe am_c195 16 17 (.bipush 0) := ⟨rfl, rfl⟩
theorem fModel_goesOn_17 : w_fe am_c195 17 18 (.invokestatic 196) := ⟨rfl, rfl⟩
theorem fModel_goesOn_18 : w_fe am_c195 18 19 (.return_) := ⟨rfl, rfl⟩
set_option maxRecDepth 20000 in
theorem bModel_goesOn_0 {xs : List Int} {d : Nat} {Q : Option w_V → w_M → Prop}  {σ : w_M}
    (h : (¬ (w_and (w_shr (σ 124 41) (σ 124 42)) 1) = 1 → (p_Model_goesBy 0 σ ∧ (∀ (τ1 : w_M), q_Model_goesBy 0 σ τ1 → Q none τ1))) ∧ ((w_and (w_shr (σ 124 41) (σ 124 42)) 1) = 1 → (p_Model_goesBy 1 σ ∧ (∀ (τ2 : w_M), q_Model_goesBy 1 σ τ2 → Q none τ2)))) : w_Call (xs, (d + 4)) 195 [.inr (.inr (9, 122))] σ Q :=
  (w_mk (mid := 195) (by decide) rfl rfl rfl rfl rfl (Nat.le_of_ble_eq_true rfl) ⟨rfl, Or.inl (by decide)⟩ (wi_aload0 fModel_goesOn_0 (wi_aload0 fModel_goesOn_1 (wi_getf901 fModel_goesOn_2 (wi_bipush fModel_goesOn_3 (wi_iald1082 fModel_goesOn_4 (by decide) (by decide) (wi_aload0 fModel_goesOn_5 (wi_getf901 fModel_goesOn_6 (wi_bipush fModel_goesOn_7 (wi_iald1082 fModel_goesOn_8 (by decide) (by decide) (wi_ishr fModel_goesOn_9 (wi_bipush fModel_goesOn_10 (wi_iand fModel_goesOn_11 (wi_bipush fModel_goesOn_12 (wi_ic_ne fModel_goesOn_13 (fun c3 => (wi_bipush fModel_goesOn_16 (wi_call2 fModel_goesOn_17 (Nat.le_of_ble_eq_true rfl) (k_Model_goesBy (h.1 c3).1 (fun τ1 eτ1 => (wi_ret0 fModel_goesOn_18 ((h.1 c3).2 τ1 eτ1))))))) (fun c3 => (wi_bipush fModel_goesOn_14 (wi_goto fModel_goesOn_15 (wi_call2 fModel_goesOn_17 (Nat.le_of_ble_eq_true rfl) (k_Model_goesBy (h.2 c3).1 (fun τ2 eτ2 => (wi_ret0 fModel_goesOn_18 ((h.2 c3).2 τ2 eτ2)))))))))))))))))))))))
theorem k_Model_goesOn {xs : List Int} {d : Nat} {Q : Option w_V → w_M → Prop}  {σ : w_M} (hp : p_Model_goesOn σ) (hQ : ∀ σ' : w_M, q_Model_goesOn σ σ' → Q none σ') : w_Call (xs, d + 4) 195 [.inr (.inr (9, 122))] σ Q := by
  have e : n_cl (w_am σ 124 0) (w_am σ 124 0 0 1) = w_and (w_shr (σ 124 41) (σ 124 42)) 1 := rfl
  refine bModel_goesOn_0 ⟨fun c => ⟨⟨hp.1, hp.2, Or.inl rfl⟩, fun τ hq => hQ _ ⟨?_, hq.2⟩⟩, fun c => ⟨⟨hp.1, hp.2, Or.inr rfl⟩, fun τ hq => hQ _ ⟨?_, hq.2⟩⟩⟩
  · rw [hq.1]; unfold n_on; rw [e, (w_and1 _).resolve_right c]
  · rw [hq.1]; unfold n_on; rw [e, c]
noncomputable def p_Model_goesTo (n : Int) (σ : w_M) : Prop := m_ok σ 124 0 ∧ (0 ≤ n ∧ n ≤ 12)
noncomputable def q_Model_goesTo (n : Int) (σ σ' : w_M) : Prop := w_am σ' 124 0 = n_goes (w_am σ 124 0) n.toNat ∧ w_g1 σ σ'
theorem fModel_goesTo_0 : w_fe am_c194 0 1 (.bipush 0) := ⟨rfl, rfl⟩
theorem fModel_goesTo_1 : w_fe am_c194 1 2 (.istore 2) := ⟨rfl, rfl⟩
theorem fModel_goesTo_2 : w_fe am_c194 2 3 (.iload 2) := ⟨rfl, rfl⟩
theorem fModel_goesTo_3 : w_fe am_c194 3 4 (.iload 1) := ⟨rfl, rfl⟩
theorem fModel_goesTo_4 : w_ic am_c194 4 5 .ge 16 := ⟨rfl, rfl⟩
theorem fModel_goesTo_5 : w_fe am_c194 5 6 (.aload 0) := ⟨rfl, rfl⟩
theorem fModel_goesTo_6 : w_fe am_c194 6 7 (.getfield 901) := ⟨rfl, rfl⟩
theorem fModel_goesTo_7 : w_fe am_c194 7 8 (.bipush 42) := ⟨rfl, rfl⟩
theorem fModel_goesTo_8 : w_fe am_c194 8 9 (.iaload) := ⟨rfl, rfl⟩
theorem fModel_goesTo_9 : w_fe am_c194 9 10 (.aload 0) := ⟨rfl, rfl⟩
theorem fModel_goesTo_10 : w_fe am_c194 10 11 (.getfield 903) := ⟨rfl, rfl⟩
theorem fModel_goesTo_11 : w_ic am_c194 11 12 .ge 16 := ⟨rfl, rfl⟩
theorem fModel_goesTo_12 : w_fe am_c194 12 13 (.aload 0) := ⟨rfl, rfl⟩
theorem fModel_goesTo_13 : w_fe am_c194 13 14 (.invokestatic 195) := ⟨rfl, rfl⟩
theorem fModel_goesTo_14 : w_fe am_c194 14 15 (.iinc 2 1) := ⟨rfl, rfl⟩
theorem fModel_goesTo_15 : w_gt am_c194 15 2 := rfl
theorem fModel_goesTo_16 : w_fe am_c194 16 17 (.return_) := ⟨rfl, rfl⟩
noncomputable def LModel_goesTo_2 (xs : List Int) (d : Nat) (Q : Option w_V → w_M → Prop) (v1 : Int) (v2 : Int) (σ : w_M) : Prop := w_Ex (xs, d) 0 am_c194 Q 2 [some (.inr (.inr (9, 122))), some (.inl v1), some (.inl v2)] [] σ
set_option maxRecDepth 20000 in
theorem bModel_goesTo_0 {xs : List Int} {d : Nat} {Q : Option w_V → w_M → Prop} {x1 : Int} {σ : w_M}
    (h : LModel_goesTo_2 xs (d + 5) Q x1 0 σ) : w_Call (xs, (d + 5)) 194 [.inr (.inr (9, 122)), .inl x1] σ Q :=
  (w_mk (mid := 194) (by decide) rfl rfl rfl rfl rfl (Nat.le_of_ble_eq_true rfl) ⟨rfl, Or.inl (by decide)⟩ (wi_bipush fModel_goesTo_0 (wi_istore2 fModel_goesTo_1 trivial h)))
set_option maxRecDepth 20000 in
theorem bModel_goesTo_2 {xs : List Int} {d : Nat} {Q : Option w_V → w_M → Prop} {v1 : Int} {v2 : Int} {σ : w_M}
    (h : (v1 ≤ v2 → Q none σ) ∧ (v2 < v1 → (((σ 122 3) ≤ (σ 124 42) → Q none σ) ∧ ((σ 124 42) < (σ 122 3) → (p_Model_goesOn σ ∧ (∀ (τ1 : w_M), q_Model_goesOn σ τ1 → (w_in (v2 + 1) ∧ LModel_goesTo_2 xs (d + 5) Q v1 (v2 + 1) τ1))))))) : LModel_goesTo_2 xs (d + 5) Q v1 v2 σ :=
  (wi_iload2 fModel_goesTo_2 (wi_iload1 fModel_goesTo_3 (wi_ic_ge fModel_goesTo_4 (fun c3 => (wi_ret0 fModel_goesTo_16 (h.1 c3))) (fun c3 => (wi_aload0 fModel_goesTo_5 (wi_getf901 fModel_goesTo_6 (wi_bipush fModel_goesTo_7 (wi_iald1082 fModel_goesTo_8 (by decide) (by decide) (wi_aload0 fModel_goesTo_9 (wi_getf903 fModel_goesTo_10 (wi_ic_ge fModel_goesTo_11 (fun c2 => (wi_ret0 fModel_goesTo_16 ((h.2 c3).1 c2))) (fun c2 => (wi_aload0 fModel_goesTo_12 (wi_call1 fModel_goesTo_13 (Nat.le_of_ble_eq_true rfl) (k_Model_goesOn ((h.2 c3).2 c2).1 (fun τ1 eτ1 => (wi_iinc2 fModel_goesTo_14 trivial (((h.2 c3).2 c2).2 τ1 eτ1).1 (wi_goto fModel_goesTo_15 (((h.2 c3).2 c2).2 τ1 eτ1).2))))))))))))))))))
theorem k_Model_goesTo {xs : List Int} {d : Nat} {Q : Option w_V → w_M → Prop} {x1 : Int} {σ : w_M} (hp : p_Model_goesTo x1 σ) (hQ : ∀ σ' : w_M, q_Model_goesTo x1 σ σ' → Q none σ') : w_Call (xs, d + 5) 194 [.inr (.inr (9, 122)), .inl x1] σ Q := by
  obtain ⟨hok, n0, n1⟩ := hp
  refine bModel_goesTo_0 ?_
  refine (w_loop (n := x1.toNat) (P := fun k => ∀ τ : w_M, w_am τ 124 0 = n_goes (w_am σ 124 0) k → w_g1 σ τ → LModel_goesTo_2 xs (d + 5) Q x1 (k : Int) τ) ?_ ?_) σ rfl w_g1.rfl'
  · intro τ A1 F1
    exact bModel_goesTo_2 ⟨fun _ => hQ _ ⟨A1, F1⟩, fun h => by omega⟩
  · intro k hk ih τ A1 F1
    obtain ⟨g1, g2, g3, g4⟩ := n_goes_all hok k
    rw [← A1] at g1
    refine bModel_goesTo_2 ⟨fun h => by omega, fun h => ⟨fun h2 => ?_, fun h2 => ⟨⟨g1, h2⟩, fun τ1 hq => ⟨⟨by omega, by omega⟩, ?_⟩⟩⟩⟩
    · have he : n_goes (w_am σ 124 0) x1.toNat = n_goes (w_am σ 124 0) k := by
        have := n_goes_end (A := w_am σ 124 0) (k := k) (by rw [← A1]; show ¬ τ 124 42 < τ 122 3; omega) (x1.toNat - k)
        rw [show k + (x1.toNat - k) = x1.toNat by omega] at this
        exact this
      exact hQ _ ⟨by rw [he]; exact A1, F1⟩
    · rw [← w_cs1]
      refine ih τ1 ?_ (F1.tr hq.2)
      rw [hq.1]
      simp only [n_goes]
      rw [← A1, if_pos (show w_am τ 124 0 0 1 < w_am τ 124 0 0 0 from h2)]
/-- the first hour at whose end nothing stands, k at the latest -/
noncomputable def n_st (A : w_M) : Nat → Nat
  | 0 => 0
  | k + 1 => if n_sd (n_goes A (n_st A k)) = 0 then n_st A k else k + 1
noncomputable def n_left (A : w_M) : Nat := (A 0 0 - A 0 1).toNat
noncomputable def n_fin (A : w_M) : Nat := n_st A (n_left A)
noncomputable def n_done (A : w_M) : Int := if n_sd (n_goes A (n_fin A)) = 0 then (n_fin A : Int) else -4
theorem n_st_spec (A : w_M) (hA : n_WF A) : ∀ k : Nat, n_st A k ≤ k ∧ (∀ i, i < n_st A k → 0 < n_sd (n_goes A i)) ∧ (n_sd (n_goes A (n_st A k)) = 0 ∨ n_st A k = k) := by
  intro k
  induction k with
  | zero => exact ⟨Nat.le_refl _, fun i hi => absurd hi (Nat.not_lt_zero _), Or.inr rfl⟩
  | succ k ih =>
    obtain ⟨h1, h2, h3⟩ := ih
    simp only [n_st]
    split
    · rename_i h
      exact ⟨by omega, h2, Or.inl h⟩
    · rename_i h
      have hk : n_st A k = k := h3.resolve_left h
      refine ⟨Nat.le_refl _, fun i hi => ?_, Or.inr rfl⟩
      by_cases hik : i = k
      · rw [hk] at h
        rw [hik]
        have := (n_sd_le (n_goes_all hA k).1).1
        omega
      · exact h2 i (by omega)
/-- it is told by what it is -/
theorem n_fin_of {A : w_M} (hA : n_WF A) {j : Nat} (h1 : j ≤ n_left A) (h2 : ∀ i, i < j → 0 < n_sd (n_goes A i)) (h3 : n_sd (n_goes A j) = 0 ∨ j = n_left A) : n_fin A = j := by
  obtain ⟨g1, g2, g3⟩ := n_st_spec A hA (n_left A)
  unfold n_fin
  by_cases hlt : n_st A (n_left A) < j
  · have := h2 _ hlt
    rcases g3 with g3 | g3 <;> omega
  · by_cases hgt : j < n_st A (n_left A)
    · have := g2 _ hgt
      rcases h3 with h3 | h3 <;> omega
    · omega
noncomputable def p_Model_doneBehind (σ : w_M) : Prop := m_ok σ 124 0
noncomputable def q_Model_doneBehind (σ : w_M) (x : Int) (σ' : w_M) : Prop := w_am σ' 124 0 = n_goes (w_am σ 124 0) (n_fin (w_am σ 124 0)) ∧ x = n_done (w_am σ 124 0) ∧ w_f1 σ σ' 124
theorem fModel_doneBehind_0 : w_fe am_c204 0 1 (.aload 0) := ⟨rfl, rfl⟩
theorem fModel_doneBehind_1 : w_fe am_c204 1 2 (.getfield 901) := ⟨rfl, rfl⟩
theorem fModel_doneBehind_2 : w_fe am_c204 2 3 (.bipush 42) := ⟨rfl, rfl⟩
theorem fModel_doneBehind_3 : w_fe am_c204 3 4 (.iaload) := ⟨rfl, rfl⟩
theorem fModel_doneBehind_4 : w_fe am_c204 4 5 (.istore 1) := ⟨rfl, rfl⟩
theorem fModel_doneBehind_5 : w_fe am_c204 5 6 (.aload 0) := ⟨rfl, rfl⟩
theorem fModel_doneBehind_6 : w_fe am_c204 6 7 (.invokestatic 175) := ⟨rfl, rfl⟩
theorem fModel_doneBehind_7 : w_if am_c204 7 8 .le 18 := ⟨rfl, rfl⟩
theorem fModel_doneBehind_8 : w_fe am_c204 8 9 (.aload 0) := ⟨rfl, rfl⟩
theorem fModel_doneBehind_9 : w_fe am_c204 9 10 (.getfield 901) := ⟨rfl, rfl⟩
theorem fModel_doneBehind_10 : w_fe am_c204 10 11 (.bipush 42) := ⟨rfl, rfl⟩
theorem fModel_doneBehind_11 : w_fe am_c204 11 12 (.iaload) := ⟨rfl, rfl⟩
theorem fModel_doneBehind_12 : w_fe am_c204 12 13 (.aload 0) := ⟨rfl, rfl⟩
theorem fModel_doneBehind_13 : w_fe am_c204 13 14 (.getfield 903) := ⟨rfl, rfl⟩
theorem fModel_doneBehind_14 : w_ic am_c204 14 15 .ge 18 := ⟨rfl, rfl⟩
theorem fModel_doneBehind_15 : w_fe am_c204 15 16 (.aload 0) := ⟨rfl, rfl⟩
theorem fModel_doneBehind_16 : w_fe am_c204 16 17 (.invokestatic 195) := ⟨rfl, rfl⟩
theorem fModel_doneBehind_17 : w_gt am_c204 17 5 := rfl
theorem fModel_doneBehind_18 : w_fe am_c204 18 19 (.aload 0) := ⟨rfl, rfl⟩
theorem fModel_doneBehind_19 : w_fe am_c204 19 20 (.invokestatic 175) := ⟨rfl, rfl⟩
theorem fModel_doneBehind_20 : w_if am_c204 20 21 .le 23 := ⟨rfl, rfl⟩
theorem fModel_doneBehind_21 : w_fe am_c204 21 22 (.bipush (-4)) := ⟨rfl, rfl⟩
theorem fModel_doneBehind_22 : w_gt am_c204 22 29 := rfl
theorem fModel_doneBehind_23 : w_fe am_c204 23 24 (.aload 0) := ⟨rfl, rfl⟩
theorem fModel_doneBehind_24 : w_fe am_c204 24 25 (.getfield 901) := ⟨rfl, rfl⟩
theorem fModel_doneBehind_25 : w_fe am_c204 25 26 (.bipush 42) := ⟨rfl, rfl⟩
theorem fModel_doneBehind_26 : w_fe am_c204 26 27 (.iaload) := ⟨rfl, rfl⟩
theorem fModel_doneBehind_27 : w_fe am_c204 27 28 (.iload 1) := ⟨rfl, rfl⟩
theorem fModel_doneBehind_28 : w_fe am_c204 28 29 (.isub) := ⟨rfl, rfl⟩
theorem fModel_doneBehind_29 : w_fe am_c204 29 30 (.ireturn) := ⟨rfl, rfl⟩
noncomputable def LModel_doneBehind_5 (xs : List Int) (d : Nat) (Q : Option w_V → w_M → Prop) (v1 : Int) (σ : w_M) : Prop := w_Ex (xs, d) 1 am_c204 Q 5 [some (.inr (.inr (9, 122))), some (.inl v1)] [] σ
set_option maxRecDepth 20000 in
theorem bModel_doneBehind_0 {xs : List Int} {d : Nat} {Q : Option w_V → w_M → Prop}  {σ : w_M}
    (h : ∀ (y1 : Int), y1 = (σ 124 42) → LModel_doneBehind_5 xs (d + 5) Q y1 σ) : w_Call (xs, (d + 5)) 204 [.inr (.inr (9, 122))] σ Q :=
  (w_mk (mid := 204) (by decide) rfl rfl rfl rfl rfl (Nat.le_of_ble_eq_true rfl) ⟨rfl, Or.inl (by decide)⟩ (wi_aload0 fModel_doneBehind_0 (wi_getf901 fModel_doneBehind_1 (wi_bipush fModel_doneBehind_2 (wi_iald1082 fModel_doneBehind_3 (by decide) (by decide) (wi_istore1 fModel_doneBehind_4 trivial (h _ rfl)))))))
set_option maxRecDepth 20000 in
theorem bModel_doneBehind_5 {xs : List Int} {d : Nat} {Q : Option w_V → w_M → Prop} {v1 : Int} {σ : w_M}
    (h : p_Model_standing σ ∧ (∀ (y1 : Int), y1 = v_Model_standing σ → ((y1 ≤ 0 → ∀ (y2 : Int), y2 = v_Model_standing σ → ((y2 ≤ 0 → (w_in ((σ 124 42) - v1) ∧ Q (some (.inl ((σ 124 42) - v1))) σ)) ∧ (0 < y2 → Q (some (.inl (-4))) σ))) ∧ (0 < y1 → (((σ 122 3) ≤ (σ 124 42) → ∀ (y4 : Int), y4 = v_Model_standing σ → ((y4 ≤ 0 → (w_in ((σ 124 42) - v1) ∧ Q (some (.inl ((σ 124 42) - v1))) σ)) ∧ (0 < y4 → Q (some (.inl (-4))) σ))) ∧ ((σ 124 42) < (σ 122 3) → (p_Model_goesOn σ ∧ (∀ (τ6 : w_M), q_Model_goesOn σ τ6 → LModel_doneBehind_5 xs (d + 5) Q v1 τ6)))))))) : LModel_doneBehind_5 xs (d + 5) Q v1 σ :=
  (wi_aload0 fModel_doneBehind_5 (wi_call1 fModel_doneBehind_6 (Nat.le_of_ble_eq_true rfl) (k_Model_standing h.1 (wi_if_le fModel_doneBehind_7 (fun c8 => (wi_aload0 fModel_doneBehind_18 (wi_call1 fModel_doneBehind_19 (Nat.le_of_ble_eq_true rfl) (k_Model_standing h.1 (wi_if_le fModel_doneBehind_20 (fun c3 => (wi_aload0 fModel_doneBehind_23 (wi_getf901 fModel_doneBehind_24 (wi_bipush fModel_doneBehind_25 (wi_iald1082 fModel_doneBehind_26 (by decide) (by decide) (wi_iload1 fModel_doneBehind_27 (wi_isub fModel_doneBehind_28 ((((h.2 _ rfl).1 c8) _ rfl).1 c3).1 (wi_ret1 fModel_doneBehind_29 ((((h.2 _ rfl).1 c8) _ rfl).1 c3).2)))))))) (fun c3 => (wi_bipush fModel_doneBehind_21 (wi_goto fModel_doneBehind_22 (wi_ret1 fModel_doneBehind_29 ((((h.2 _ rfl).1 c8) _ rfl).2 c3)))))))))) (fun c8 => (wi_aload0 fModel_doneBehind_8 (wi_getf901 fModel_doneBehind_9 (wi_bipush fModel_doneBehind_10 (wi_iald1082 fModel_doneBehind_11 (by decide) (by decide) (wi_aload0 fModel_doneBehind_12 (wi_getf903 fModel_doneBehind_13 (wi_ic_ge fModel_doneBehind_14 (fun c7 => (wi_aload0 fModel_doneBehind_18 (wi_call1 fModel_doneBehind_19 (Nat.le_of_ble_eq_true rfl) (k_Model_standing h.1 (wi_if_le fModel_doneBehind_20 (fun c5 => (wi_aload0 fModel_doneBehind_23 (wi_getf901 fModel_doneBehind_24 (wi_bipush fModel_doneBehind_25 (wi_iald1082 fModel_doneBehind_26 (by decide) (by decide) (wi_iload1 fModel_doneBehind_27 (wi_isub fModel_doneBehind_28 (((((h.2 _ rfl).2 c8).1 c7) _ rfl).1 c5).1 (wi_ret1 fModel_doneBehind_29 (((((h.2 _ rfl).2 c8).1 c7) _ rfl).1 c5).2)))))))) (fun c5 => (wi_bipush fModel_doneBehind_21 (wi_goto fModel_doneBehind_22 (wi_ret1 fModel_doneBehind_29 (((((h.2 _ rfl).2 c8).1 c7) _ rfl).2 c5)))))))))) (fun c7 => (wi_aload0 fModel_doneBehind_15 (wi_call1 fModel_doneBehind_16 (Nat.le_of_ble_eq_true rfl) (k_Model_goesOn (((h.2 _ rfl).2 c8).2 c7).1 (fun τ6 eτ6 => (wi_goto fModel_doneBehind_17 ((((h.2 _ rfl).2 c8).2 c7).2 τ6 eτ6)))))))))))))))))))
theorem k_Model_doneBehind {xs : List Int} {d : Nat} {Q : Option w_V → w_M → Prop}  {σ : w_M} (hp : p_Model_doneBehind σ) (hQ : ∀ (x : Int) (σ' : w_M), q_Model_doneBehind σ x σ' → Q (some (.inl x)) σ') : w_Call (xs, d + 5) 204 [.inr (.inr (9, 122))] σ Q := by
  have hrs := m_ok.hrs hp
  have hr : 0 ≤ σ 124 42 ∧ σ 124 42 ≤ σ 122 3 := m_ok.hr hp
  have hl : n_left (w_am σ 124 0) = (σ 122 3 - σ 124 42).toNat := rfl
  refine bModel_doneBehind_0 (fun y1 e1 => ?_)
  refine (w_loop (n := 13) (P := fun k => ∀ τ : w_M, σ 124 42 + k ≤ σ 122 3 → w_am τ 124 0 = n_goes (w_am σ 124 0) k → w_f1 σ τ 124 → (∀ i, i < k → 0 < n_sd (n_goes (w_am σ 124 0) i)) → LModel_doneBehind_5 xs (d + 5) Q y1 τ) ?_ ?_) σ (by omega) rfl w_f1.rfl' (fun i hi => by omega)
  · intro τ h; omega
  · intro k hk ih τ h1 A1 F1 hst
    obtain ⟨g1, g2, g3, g4⟩ := n_goes_all hp k
    have b := n_sd_le g1
    rw [← A1] at g1 g2 g3
    have z2 : τ 122 = σ 122 := F1 122 (by decide)
    have z1 : τ 124 42 = σ 124 42 + k := by
      have e : w_am τ 124 0 0 1 = τ 124 42 := rfl
      have e0 : w_am σ 124 0 0 1 = σ 124 42 := rfl
      have e00 : w_am σ 124 0 0 0 = σ 122 3 := rfl
      rw [e, e0, e00, if_pos h1] at g3
      exact g3
    have stop : (n_sd (n_goes (w_am σ 124 0) k) = 0 ∨ k = n_left (w_am σ 124 0)) → ∀ y : Int, y = v_Model_standing τ → (y ≤ 0 → w_in (τ 124 42 - y1) ∧ Q (some (.inl (τ 124 42 - y1))) τ) ∧ (0 < y → Q (some (.inl (-4))) τ) := by
      intro h3 y ey
      have hf := n_fin_of hp (j := k) (by rw [hl]; omega) hst h3
      unfold v_Model_standing at ey
      rw [A1] at ey
      refine ⟨fun hy => ⟨⟨by omega, by omega⟩, hQ _ _ ⟨by rw [hf]; exact A1, ?_, F1⟩⟩, fun hy => hQ _ _ ⟨by rw [hf]; exact A1, ?_, F1⟩⟩
      · unfold n_done
        rw [hf, if_pos (by omega)]
        omega
      · unfold n_done
        rw [hf, if_neg (by omega)]
    refine bModel_doneBehind_5 ⟨g1, fun y ey => ⟨fun c => ?_, fun c => ⟨fun c2 => ?_, fun c2 => ⟨⟨g1, c2⟩, fun τ6 hq => ?_⟩⟩⟩⟩
    · refine stop (Or.inl ?_)
      unfold v_Model_standing at ey
      rw [A1] at ey
      omega
    · rw [z2] at c2
      exact stop (Or.inr (by rw [hl]; omega))
    · rw [z2] at c2
      refine ih τ6 (by omega) ?_ (F1.tr hq.2.1) (fun i hi => ?_)
      · rw [hq.1]
        simp only [n_goes]
        rw [← A1, if_pos (show w_am τ 124 0 0 1 < w_am τ 124 0 0 0 from (by show τ 124 42 < τ 122 3; rw [z2]; exact c2))]
      · by_cases hik : i = k
        · unfold v_Model_standing at ey
          rw [A1] at ey
          rw [hik]
          omega
        · exact hst i (by omega)
noncomputable def p_Model_becomes (k _v : Int) (_ : w_M) : Prop := 0 ≤ k ∧ k < 246
noncomputable def q_Model_becomes (k v : Int) (σ : w_M) (x : Int) (σ' : w_M) : Prop := x = σ 123 k.toNat ∧ σ' = w_up σ 123 k.toNat v
theorem fModel_becomes_0 : w_fe am_c185 0 1 (.aload 0) := ⟨rfl, rfl⟩
theorem fModel_becomes_1 : w_fe am_c185 1 2 (.getfield 900) := ⟨rfl, rfl⟩
theorem fModel_becomes_2 : w_fe am_c185 2 3 (.iload 1) := ⟨rfl, rfl⟩
theorem fModel_becomes_3 : w_fe am_c185 3 4 (.iaload) := ⟨rfl, rfl⟩
theorem fModel_becomes_4 : w_fe am_c185 4 5 (.istore 3) := ⟨rfl, rfl⟩
theorem fModel_becomes_5 : w_fe am_c185 5 6 (.aload 0) := ⟨rfl, rfl⟩
theorem fModel_becomes_6 : w_fe am_c185 6 7 (.getfield 900) := ⟨rfl, rfl⟩
theorem fModel_becomes_7 : w_fe am_c185 7 8 (.iload 1) := ⟨rfl, rfl⟩
theorem fModel_becomes_8 : w_fe am_c185 8 9 (.iload 2) := ⟨rfl, rfl⟩
theorem fModel_becomes_9 : w_fe am_c185 9 10 (.iastore) := ⟨rfl, rfl⟩
theorem fModel_becomes_10 : w_fe am_c185 10 11 (.iload 3) := ⟨rfl, rfl⟩
theorem fModel_becomes_11 : w_fe am_c185 11 12 (.ireturn) := ⟨rfl, rfl⟩
set_option maxRecDepth 20000 in
theorem bModel_becomes_0 {xs : List Int} {d : Nat} {Q : Option w_V → w_M → Prop} {x1 : Int} {x2 : Int} {σ : w_M}
    (h : 0 ≤ x1 ∧ x1 < 246 ∧ (∀ (y1 : Int), y1 = (σ 123 x1.toNat) → ∀ (τ2 : w_M), τ2 = w_up σ 123 x1.toNat x2 → Q (some (.inl y1)) τ2)) : w_Call (xs, d) 185 [.inr (.inr (9, 122)), .inl x1, .inl x2] σ Q :=
  (w_mk (mid := 185) (by decide) rfl rfl rfl rfl rfl (Nat.le_of_ble_eq_true rfl) ⟨rfl, Or.inl (by decide)⟩ (wi_aload0 fModel_becomes_0 (wi_getf900 fModel_becomes_1 (wi_iload1 fModel_becomes_2 (wi_iald1246 fModel_becomes_3 h.1 h.2.1 (wi_istore3 fModel_becomes_4 trivial (wi_aload0 fModel_becomes_5 (wi_getf900 fModel_becomes_6 (wi_iload1 fModel_becomes_7 (wi_iload2 fModel_becomes_8 (wi_iast1246 fModel_becomes_9 h.1 h.2.1 (wi_iload3 fModel_becomes_10 (wi_ret1 fModel_becomes_11 ((h.2.2 _ rfl) _ rfl))))))))))))))
theorem k_Model_becomes {xs : List Int} {d : Nat} {Q : Option w_V → w_M → Prop} {x1 : Int} {x2 : Int} {σ : w_M} (hp : p_Model_becomes x1 x2 σ) (hQ : ∀ (x : Int) (σ' : w_M), q_Model_becomes x1 x2 σ x σ' → Q (some (.inl x)) σ') : w_Call (xs, d) 185 [.inr (.inr (9, 122)), .inl x1, .inl x2] σ Q := bModel_becomes_0 ⟨hp.1, hp.2, fun y e τ t => hQ _ _ ⟨e, t⟩⟩
/-- the class's own way to the end of it -/
theorem n_lostT_le {A : w_M} (h : n_WF A) : ∀ k : Nat, 0 ≤ n_lostT A k ∧ n_lostT A k ≤ 36 * k := by
  intro k
  induction k with
  | zero => simp [n_lostT]
  | succ k ih =>
    have g := (n_goes_all h k).1
    have hl := (n_hourF_all g (n_cl01 (n_goes A k) ((n_goes A k) 0 1)) (n_n (n_goes A k)) (Nat.le_refl _)).2.2.2.2
    have hn4 : (n_n (n_goes A k) : Int) ≤ 4 := by have := g.n; unfold n_n; omega
    simp only [n_lostT]
    omega
theorem n_pud_done {A : w_M} (h : n_WF A) {x : Int} {j : Nat} (hp : n_pud A 12 1000000 x j) : j = n_fin A ∧ x = n_done A := by
  obtain ⟨h1, h2, h3, h4⟩ := hp
  have hrs := h.hrs
  have hr := h.hr
  have hl := n_lostT_le h j
  have hjl : j ≤ n_left A := by unfold n_left; omega
  have key : n_sd (n_goes A j) = 0 ∨ j = n_left A := by
    rcases h4 with ⟨_, h5⟩ | ⟨_, _, h5 | h5 | h5⟩
    · exact Or.inl h5
    · right; unfold n_left at hjl ⊢; omega
    · right; unfold n_left; omega
    · omega
  have hf := n_fin_of h hjl h3 key
  refine ⟨hf.symm, ?_⟩
  unfold n_done
  rw [hf]
  rcases h4 with ⟨h5, h6⟩ | ⟨h5, h6, _⟩
  · rw [if_pos h6]; exact h5
  · rw [if_neg (by omega)]; exact h5
end
section
/-! What class and reference hold, in one picture: S p d i. Parts: 0 the night, 1 what was seen, 2 what was paid, 3 the tape, the fault, 4 the sheets, 5 6 7 and 8 9 10 the images, 11 which images there are -/
noncomputable def w_0 : w_M := fun _ _ => 0
noncomputable abbrev w_S : Type := Nat → w_M
noncomputable def w_sp (S : w_S) (p : Nat) (X : w_M) : w_S := fun q => if q = p then X else S q
theorem w_sp_at {S : w_S} {p : Nat} {X : w_M} : w_sp S p X p = X := if_pos rfl
theorem w_sp_ne {S : w_S} {p q : Nat} {X : w_M} (h : q ≠ p) : w_sp S p X q = S q := if_neg h
theorem w_sp_self {S : w_S} {p : Nat} : w_sp S p (S p) = S := by
  funext q
  unfold w_sp
  split
  · rename_i h; rw [h]
  · rfl
noncomputable def s_ab (σ : w_M) (a : Nat) : w_M := fun d i => if d = 0 then (if i = 0 then σ a 0 else 0) else if d < 4 then (if i < (σ a 0).toNat then σ (a + d) i else 0) else 0
noncomputable def c_ab (σ : w_M) (a : Nat) : w_M := fun d i => if d = 0 then (if i = 0 then σ a 0 else 0) else if d < 3 then (if i < (σ a 0).toNat then σ (a + d) i else 0) else 0
noncomputable def t_ab (σ : w_M) : w_M := fun d i => if d = 0 then (if i = 0 then σ 1 1 else if i = 1 then σ 0 8 else 0) else if d = 1 then (if i < (σ 1 1).toNat then σ 2 i else 0) else 0
noncomputable def h_ab (σ : w_M) : w_M := fun k j => if k < 4 then (if σ 87 k < 0 then (if j = 0 then -4 else 0) else if j = 0 then σ 87 k else if j = 1 then σ 86 k else if j < 42 then σ (82 + k) (j - 2) else 0) else 0
noncomputable def k_ab (σ : w_M) (k : Nat) : Int := w_and (w_shr (σ 0 7) k) 1
noncomputable def s_am (σ : w_M) (o : Nat) : w_M := fun d i => if d = 0 then (if i = 0 then σ 123 (o + 48) else 0) else if d < 4 then (if i < (σ 123 (o + 48)).toNat then σ 123 (o + 49 + 3 * i + (d - 1)) else 0) else 0
noncomputable def c_am (σ : w_M) (o : Nat) : w_M := fun d i => if d = 0 then (if i = 0 then σ 123 (o + 73) else 0) else if d < 3 then (if i < (σ 123 (o + 73)).toNat then σ 123 (o + 74 + 2 * i + (d - 1)) else 0) else 0
noncomputable def t_am (σ : w_M) : w_M := fun d i => if d = 0 then (if i = 0 then σ 122 15 else if i = 1 then σ 122 20 else 0) else if d = 1 then (if i < (σ 122 15).toNat then σ 127 i else 0) else 0
noncomputable def h_am (σ : w_M) : w_M := fun k j => if k < 4 then (if σ 130 k = -4 then (if j = 0 then -4 else 0) else if j = 0 then (if σ 131 k < 0 then -5 else σ 131 k) else if j = 1 then σ 130 k else if j < 42 then σ 132 (40 * k + (j - 2)) else 0) else 0
noncomputable def cS (σ : w_M) : w_S := fun p => match p with
  | 0 => w_ab σ 14
  | 1 => s_ab σ 23
  | 2 => c_ab σ 27
  | 3 => t_ab σ
  | 4 => h_ab σ
  | 5 => if k_ab σ 0 = 1 then w_ab σ 89 else w_0
  | 6 => if k_ab σ 0 = 1 then s_ab σ 98 else w_0
  | 7 => if k_ab σ 0 = 1 then c_ab σ 102 else w_0
  | 8 => if k_ab σ 1 = 1 then w_ab σ 106 else w_0
  | 9 => if k_ab σ 1 = 1 then s_ab σ 115 else w_0
  | 10 => if k_ab σ 1 = 1 then c_ab σ 119 else w_0
  | 11 => fun d i => if d = 0 ∧ i < 2 then k_ab σ i else 0
  | _ => w_0
noncomputable def mS (σ : w_M) : w_S := fun p => match p with
  | 0 => w_am σ 123 0
  | 1 => s_am σ 0
  | 2 => c_am σ 0
  | 3 => t_am σ
  | 4 => h_am σ
  | 5 => if σ 125 0 = 1 then w_am σ 123 82 else w_0
  | 6 => if σ 125 0 = 1 then s_am σ 82 else w_0
  | 7 => if σ 125 0 = 1 then c_am σ 82 else w_0
  | 8 => if σ 125 1 = 1 then w_am σ 123 164 else w_0
  | 9 => if σ 125 1 = 1 then s_am σ 164 else w_0
  | 10 => if σ 125 1 = 1 then c_am σ 164 else w_0
  | 11 => fun d i => if d = 0 ∧ i < 2 then σ 125 i else 0
  | _ => w_0
noncomputable def seWF (B : w_M) : Prop := (0 ≤ B 0 0 ∧ B 0 0 ≤ 8) ∧ ∀ k, k < (B 0 0).toNat → (0 ≤ B 1 k ∧ B 1 k ≤ 6) ∧ (0 ≤ B 2 k ∧ B 2 k ≤ 6) ∧ (B 3 k = 0 ∨ B 3 k = 1)
noncomputable def paWF (A C : w_M) : Prop := (0 ≤ C 0 0 ∧ C 0 0 ≤ 4) ∧ ∀ k, k < (C 0 0).toNat → (0 ≤ C 1 k ∧ C 1 k < A 0 5) ∧ (0 ≤ C 2 k ∧ C 2 k ≤ 99)
noncomputable def taWF (T : w_M) : Prop := (0 ≤ T 0 0 ∧ T 0 0 ≤ 160) ∧ ∀ i, i < (T 0 0).toNat → 0 ≤ T 1 i ∧ T 1 i ≤ 127
noncomputable def shWF (H : w_M) : Prop := ∀ k, k < 4 → H k 0 = -4 ∨ ((0 ≤ H k 0 ∧ H k 0 ≤ 40) ∧ (0 ≤ H k 1 ∧ H k 1 ≤ 2))
/-- an image: its night is as long, has as many strips and reapers, as the one that is -/
noncomputable def imWF (A A' B C : w_M) : Prop := n_WF A' ∧ (A' 0 0 = A 0 0 ∧ A' 0 4 = A 0 4 ∧ A' 0 5 = A 0 5) ∧ seWF B ∧ paWF A' C
noncomputable def sWF (S : w_S) : Prop := n_WF (S 0) ∧ seWF (S 1) ∧ paWF (S 0) (S 2) ∧ taWF (S 3) ∧ shWF (S 4) ∧ (S 11 0 0 = 0 ∨ S 11 0 0 = 1) ∧ (S 11 0 1 = 0 ∨ S 11 0 1 = 1) ∧ (S 11 0 0 = 1 → imWF (S 0) (S 5) (S 6) (S 7)) ∧ (S 11 0 1 = 1 → imWF (S 0) (S 8) (S 9) (S 10))
/-- the class's own: its masks -/
noncomputable def cX (σ : w_M) : Prop := (0 ≤ σ 14 6 ∧ σ 14 6 ≤ 127) ∧ (0 ≤ σ 0 7 ∧ σ 0 7 ≤ 3) ∧ (k_ab σ 0 = 1 → 0 ≤ σ 89 6 ∧ σ 89 6 ≤ 127) ∧ (k_ab σ 1 = 1 → 0 ≤ σ 106 6 ∧ σ 106 6 ≤ 127)
noncomputable def CI (σ : w_M) : Prop := sWF (cS σ) ∧ cX σ
noncomputable def MI (σ : w_M) : Prop := sWF (mS σ)
theorem s_ab_fr {σ σ' : w_M} {a : Nat} (h : ∀ d, d < 4 → σ' (a + d) = σ (a + d)) : s_ab σ' a = s_ab σ a := by
  have h0 : σ' a = σ a := h 0 (by decide)
  funext d i
  unfold s_ab
  rw [h0]
  by_cases hd : d < 4
  · rw [h d hd]
  · rw [if_neg hd, if_neg hd]
theorem c_ab_fr {σ σ' : w_M} {a : Nat} (h : ∀ d, d < 3 → σ' (a + d) = σ (a + d)) : c_ab σ' a = c_ab σ a := by
  have h0 : σ' a = σ a := h 0 (by decide)
  funext d i
  unfold c_ab
  rw [h0]
  by_cases hd : d < 3
  · rw [h d hd]
  · rw [if_neg hd, if_neg hd]
theorem t_ab_fr {σ σ' : w_M} (h1 : σ' 1 1 = σ 1 1) (h8 : σ' 0 8 = σ 0 8) (h2 : σ' 2 = σ 2) : t_ab σ' = t_ab σ := by
  funext d i
  unfold t_ab
  rw [h1, h8, h2]
theorem h_ab_fr {σ σ' : w_M} (h : ∀ b, 80 ≤ b → b < 88 → σ' b = σ b) : h_ab σ' = h_ab σ := by
  funext k j
  unfold h_ab
  by_cases hk : k < 4
  · rw [h 87 (by decide) (by decide), h 86 (by decide) (by decide), h (82 + k) (by omega) (by omega)]
  · rw [if_neg hk, if_neg hk]
/-- the images, as far as cells 88 .. 121 and the bits tell them -/
theorem cS_im {σ σ' : w_M} (h0 : σ' 0 7 = σ 0 7) (h : ∀ b, 88 ≤ b → b < 122 → σ' b = σ b) : ∀ p, 5 ≤ p → cS σ' p = cS σ p := by
  have hk : ∀ k, k_ab σ' k = k_ab σ k := fun k => by unfold k_ab; rw [h0]
  have a1 : w_ab σ' 89 = w_ab σ 89 := w_ab_fr (fun d hd => h _ (by omega) (by omega))
  have a2 : s_ab σ' 98 = s_ab σ 98 := s_ab_fr (fun d hd => h _ (by omega) (by omega))
  have a3 : c_ab σ' 102 = c_ab σ 102 := c_ab_fr (fun d hd => h _ (by omega) (by omega))
  have b1 : w_ab σ' 106 = w_ab σ 106 := w_ab_fr (fun d hd => h _ (by omega) (by omega))
  have b2 : s_ab σ' 115 = s_ab σ 115 := s_ab_fr (fun d hd => h _ (by omega) (by omega))
  have b3 : c_ab σ' 119 = c_ab σ 119 := c_ab_fr (fun d hd => h _ (by omega) (by omega))
  intro p hp
  match p, hp with
  | 5, _ => simp only [cS]; rw [hk, a1]
  | 6, _ => simp only [cS]; rw [hk, a2]
  | 7, _ => simp only [cS]; rw [hk, a3]
  | 8, _ => simp only [cS]; rw [hk, b1]
  | 9, _ => simp only [cS]; rw [hk, b2]
  | 10, _ => simp only [cS]; rw [hk, b3]
  | 11, _ => simp only [cS]; funext d i; rw [hk]
  | p + 12, _ => exact (show cS σ' (p + 12) = w_0 from rfl).trans (show cS σ (p + 12) = w_0 from rfl).symm
theorem cS_ext {S T : w_S} (h0 : S 0 = T 0) (h1 : S 1 = T 1) (h2 : S 2 = T 2) (h3 : S 3 = T 3) (h4 : S 4 = T 4) (h5 : ∀ p, 5 ≤ p → S p = T p) : S = T := by
  funext p
  match p with
  | 0 => exact h0
  | 1 => exact h1
  | 2 => exact h2
  | 3 => exact h3
  | 4 => exact h4
  | p + 5 => exact h5 _ (by omega)
theorem cS_scratch {σ σ' : w_M} (h : w_fr σ σ' 31 80) : cS σ' = cS σ :=
  cS_ext (w_ab_fr (fun d hd => h _ (by omega))) (s_ab_fr (fun d hd => h _ (by omega))) (c_ab_fr (fun d hd => h _ (by omega))) (t_ab_fr (by rw [h 1 (by omega)]) (by rw [h 0 (by omega)]) (h 2 (by omega))) (h_ab_fr (fun b h1 h2 => h b (by omega))) (cS_im (by rw [h 0 (by omega)]) (fun b h1 h2 => h b (by omega)))
theorem cS_lo {σ σ' : w_M} (h : ∀ b, b < 122 → σ' b = σ b) : cS σ' = cS σ :=
  cS_ext (w_ab_fr (fun d hd => h _ (by omega))) (s_ab_fr (fun d hd => h _ (by omega))) (c_ab_fr (fun d hd => h _ (by omega))) (t_ab_fr (by rw [h 1 (by omega)]) (by rw [h 0 (by omega)]) (h 2 (by omega))) (h_ab_fr (fun b h1 h2 => h b (by omega))) (cS_im (by rw [h 0 (by omega)]) (fun b h1 h2 => h b (by omega)))
theorem cS_part0 {σ σ' : w_M} (h : w_fr σ σ' 14 23) : cS σ' = w_sp (cS σ) 0 (w_ab σ' 14) :=
  cS_ext rfl (s_ab_fr (fun d hd => h _ (by omega))) (c_ab_fr (fun d hd => h _ (by omega))) (t_ab_fr (by rw [h 1 (by omega)]) (by rw [h 0 (by omega)]) (h 2 (by omega))) (h_ab_fr (fun b h1 h2 => h b (by omega))) (fun p hp => by rw [w_sp_ne (by omega)]; exact cS_im (by rw [h 0 (by omega)]) (fun b h1 h2 => h b (by omega)) p hp)
theorem cS_part1 {σ σ' : w_M} (h : w_fr σ σ' 23 27) : cS σ' = w_sp (cS σ) 1 (s_ab σ' 23) :=
  cS_ext (w_ab_fr (fun d hd => h _ (by omega))) rfl (c_ab_fr (fun d hd => h _ (by omega))) (t_ab_fr (by rw [h 1 (by omega)]) (by rw [h 0 (by omega)]) (h 2 (by omega))) (h_ab_fr (fun b h1 h2 => h b (by omega))) (fun p hp => by rw [w_sp_ne (by omega)]; exact cS_im (by rw [h 0 (by omega)]) (fun b h1 h2 => h b (by omega)) p hp)
theorem cS_part2 {σ σ' : w_M} (h : w_fr σ σ' 27 30) : cS σ' = w_sp (cS σ) 2 (c_ab σ' 27) :=
  cS_ext (w_ab_fr (fun d hd => h _ (by omega))) (s_ab_fr (fun d hd => h _ (by omega))) rfl (t_ab_fr (by rw [h 1 (by omega)]) (by rw [h 0 (by omega)]) (h 2 (by omega))) (h_ab_fr (fun b h1 h2 => h b (by omega))) (fun p hp => by rw [w_sp_ne (by omega)]; exact cS_im (by rw [h 0 (by omega)]) (fun b h1 h2 => h b (by omega)) p hp)
theorem cS_part3 {σ σ' : w_M} (h : w_fr σ σ' 0 13) (h7 : σ' 0 7 = σ 0 7) : cS σ' = w_sp (cS σ) 3 (t_ab σ') :=
  cS_ext (w_ab_fr (fun d hd => h _ (by omega))) (s_ab_fr (fun d hd => h _ (by omega))) (c_ab_fr (fun d hd => h _ (by omega))) rfl (h_ab_fr (fun b h1 h2 => h b (by omega))) (fun p hp => by rw [w_sp_ne (by omega)]; exact cS_im h7 (fun b h1 h2 => h b (by omega)) p hp)
theorem cS_part4 {σ σ' : w_M} (h : w_fr σ σ' 80 88) : cS σ' = w_sp (cS σ) 4 (h_ab σ') :=
  cS_ext (w_ab_fr (fun d hd => h _ (by omega))) (s_ab_fr (fun d hd => h _ (by omega))) (c_ab_fr (fun d hd => h _ (by omega))) (t_ab_fr (by rw [h 1 (by omega)]) (by rw [h 0 (by omega)]) (h 2 (by omega))) rfl (fun p hp => by rw [w_sp_ne (by omega)]; exact cS_im (by rw [h 0 (by omega)]) (fun b h1 h2 => h b (by omega)) p hp)
theorem cX_fr {σ σ' : w_M} (h : cX σ) (h14 : σ' 14 6 = σ 14 6) (h0 : σ' 0 7 = σ 0 7) (h1 : σ' 89 6 = σ 89 6) (h2 : σ' 106 6 = σ 106 6) : cX σ' := by
  unfold cX k_ab at h ⊢
  rw [h14, h0, h1, h2]
  exact h
/-- the reference's side -/
theorem s_am_fr {σ σ' : w_M} {o : Nat} (h : ∀ x, o + 48 ≤ x → x < o + 73 → σ' 123 x = σ 123 x) (hc : σ 123 (o + 48) ≤ 8) : s_am σ' o = s_am σ o := by
  funext d i
  unfold s_am
  rw [h (o + 48) (by omega) (by omega)]
  by_cases hd : d < 4
  · by_cases hi : i < (σ 123 (o + 48)).toNat
    · rw [h (o + 49 + 3 * i + (d - 1)) (by omega) (by omega)]
    · rw [if_neg hi, if_neg hi]
  · rw [if_neg hd, if_neg hd]
theorem c_am_fr {σ σ' : w_M} {o : Nat} (h : ∀ x, o + 73 ≤ x → x < o + 82 → σ' 123 x = σ 123 x) (hc : σ 123 (o + 73) ≤ 4) : c_am σ' o = c_am σ o := by
  funext d i
  unfold c_am
  rw [h (o + 73) (by omega) (by omega)]
  by_cases hd : d < 3
  · by_cases hi : i < (σ 123 (o + 73)).toNat
    · rw [h (o + 74 + 2 * i + (d - 1)) (by omega) (by omega)]
    · rw [if_neg hi, if_neg hi]
  · rw [if_neg hd, if_neg hd]
theorem w_am_frx {σ σ' : w_M} {o : Nat} (hsm : m_sm σ) (h0 : σ' 122 3 = σ 122 3 ∧ σ' 122 4 = σ 122 4 ∧ σ' 122 5 = σ 122 5) (h : ∀ x, o ≤ x → x < o + 48 → σ' 123 x = σ 123 x) : w_am σ' 123 o = w_am σ 123 o := by
  have hr : ∀ k, m_rl σ' k = m_rl σ k := fun k => by unfold m_rl; rw [h0.2.1, h0.2.2]
  funext k j
  unfold w_am
  rw [h0.1, h0.2.1, h0.2.2, hr, h (o + 42) (by omega) (by omega), h (o + 41) (by omega) (by omega), h (o + 47) (by omega) (by omega)]
  by_cases hj : j < m_rl σ k
  · obtain ⟨k10, j7, jL⟩ := m_rl_d hsm hj
    have := (m_ix_sc k k10 j j7 jL).2.2.2
    rw [h (o + m_ix k j) (by omega) (by omega)]
  · rw [if_neg hj, if_neg hj]
theorem t_am_fr {σ σ' : w_M} (h1 : σ' 122 15 = σ 122 15) (h8 : σ' 122 20 = σ 122 20) (h2 : σ' 127 = σ 127) : t_am σ' = t_am σ := by
  funext d i
  unfold t_am
  rw [h1, h8, h2]
theorem h_am_fr {σ σ' : w_M} (h : ∀ b, 130 ≤ b → b < 133 → σ' b = σ b) : h_am σ' = h_am σ := by
  funext k j
  unfold h_am
  rw [h 130 (by decide) (by decide), h 131 (by decide) (by decide), h 132 (by decide) (by decide)]
theorem MI.sm {σ : w_M} (h : MI σ) : m_sm σ := m_ok.sm (c := 123) (o := 0) h.1
theorem MI.ok {σ : w_M} (h : MI σ) : m_ok σ 123 0 := h.1
/-- the images of the reference, as far as places 82 .. 245 and the marks tell them -/
theorem mS_im {σ σ' : w_M} (hM : MI σ) (h122 : σ' 122 3 = σ 122 3 ∧ σ' 122 4 = σ 122 4 ∧ σ' 122 5 = σ 122 5) (h125 : σ' 125 = σ 125) (h : ∀ x, 82 ≤ x → σ' 123 x = σ 123 x) : ∀ p, 5 ≤ p → mS σ' p = mS σ p := by
  have hsm := hM.sm
  obtain ⟨-, -, -, -, -, -, -, i0, i1⟩ := hM
  have e0 : mS σ 11 0 0 = σ 125 0 := rfl
  have e1 : mS σ 11 0 1 = σ 125 1 := rfl
  have a1 : w_am σ' 123 82 = w_am σ 123 82 := w_am_frx hsm h122 (fun x h1 h2 => h x (by omega))
  have b1 : w_am σ' 123 164 = w_am σ 123 164 := w_am_frx hsm h122 (fun x h1 h2 => h x (by omega))
  intro p hp
  match p, hp with
  | 5, _ => simp only [mS]; rw [h125, a1]
  | 6, _ =>
    simp only [mS]
    rw [h125]
    by_cases hk : σ 125 0 = 1
    · rw [if_pos hk, if_pos hk]
      have hw := (i0 hk).2.2.1.1.2
      simp only [mS] at hw
      rw [if_pos hk] at hw
      exact s_am_fr (fun x h1 h2 => h x (by omega)) hw
    · rw [if_neg hk, if_neg hk]
  | 7, _ =>
    simp only [mS]
    rw [h125]
    by_cases hk : σ 125 0 = 1
    · rw [if_pos hk, if_pos hk]
      have hw := (i0 hk).2.2.2.1.2
      simp only [mS] at hw
      rw [if_pos hk] at hw
      exact c_am_fr (fun x h1 h2 => h x (by omega)) hw
    · rw [if_neg hk, if_neg hk]
  | 8, _ => simp only [mS]; rw [h125, b1]
  | 9, _ =>
    simp only [mS]
    rw [h125]
    by_cases hk : σ 125 1 = 1
    · rw [if_pos hk, if_pos hk]
      have hw := (i1 hk).2.2.1.1.2
      simp only [mS] at hw
      rw [if_pos hk] at hw
      exact s_am_fr (fun x h1 h2 => h x (by omega)) hw
    · rw [if_neg hk, if_neg hk]
  | 10, _ =>
    simp only [mS]
    rw [h125]
    by_cases hk : σ 125 1 = 1
    · rw [if_pos hk, if_pos hk]
      have hw := (i1 hk).2.2.2.1.2
      simp only [mS] at hw
      rw [if_pos hk] at hw
      exact c_am_fr (fun x h1 h2 => h x (by omega)) hw
    · rw [if_neg hk, if_neg hk]
  | 11, _ => simp only [mS]; funext d i; rw [h125]
  | p + 12, _ => exact (show mS σ' (p + 12) = w_0 from rfl).trans (show mS σ (p + 12) = w_0 from rfl).symm
theorem MI.se {σ : w_M} (h : MI σ) : 0 ≤ σ 123 48 ∧ σ 123 48 ≤ 8 := h.2.1.1
theorem MI.pa {σ : w_M} (h : MI σ) : 0 ≤ σ 123 73 ∧ σ 123 73 ≤ 4 := h.2.2.1.1
/-- nothing of what counts has changed -/
theorem mS_scratch {σ σ' : w_M} (hM : MI σ) (h122 : ∀ j, j = 3 ∨ j = 4 ∨ j = 5 ∨ j = 15 ∨ j = 20 → σ' 122 j = σ 122 j) (h : ∀ b, b = 123 ∨ b = 125 ∨ b = 127 ∨ b = 130 ∨ b = 131 ∨ b = 132 → σ' b = σ b) : mS σ' = mS σ := by
  have e : σ' 122 3 = σ 122 3 ∧ σ' 122 4 = σ 122 4 ∧ σ' 122 5 = σ 122 5 := ⟨h122 3 (by omega), h122 4 (by omega), h122 5 (by omega)⟩
  have h123 := h 123 (by omega)
  exact cS_ext (w_am_frx hM.sm e (fun x _ _ => by rw [h123])) (s_am_fr (fun x _ _ => by rw [h123]) hM.se.2) (c_am_fr (fun x _ _ => by rw [h123]) hM.pa.2) (t_am_fr (h122 15 (by omega)) (h122 20 (by omega)) (h 127 (by omega))) (h_am_fr (fun b h1 h2 => h b (by omega))) (mS_im hM e (h 125 (by omega)) (fun x _ => by rw [h123]))
theorem mS_f1 {σ σ' : w_M} (hM : MI σ) (h : w_f1 σ σ' 124) : mS σ' = mS σ := mS_scratch hM (fun j _ => by rw [h 122 (by decide)]) (fun b hb => h b (by omega))
theorem mS_part0 {σ σ' : w_M} (hM : MI σ) (h : w_f1 σ σ' 123) (hx : ∀ x, 48 ≤ x → σ' 123 x = σ 123 x) : mS σ' = w_sp (mS σ) 0 (w_am σ' 123 0) := by
  have h122 := h 122 (by decide)
  exact cS_ext rfl (s_am_fr (fun x h1 h2 => hx x (by omega)) hM.se.2) (c_am_fr (fun x h1 h2 => hx x (by omega)) hM.pa.2) (t_am_fr (by rw [h122]) (by rw [h122]) (h 127 (by decide))) (h_am_fr (fun b h1 h2 => h b (by omega))) (fun p hp => by rw [w_sp_ne (by omega)]; exact mS_im hM (by rw [h122]; exact ⟨rfl, rfl, rfl⟩) (h 125 (by decide)) (fun x hx2 => hx x (by omega)) p hp)
theorem mS_part1 {σ σ' : w_M} (hM : MI σ) (h : w_f1 σ σ' 123) (hx : ∀ x, x < 48 ∨ 73 ≤ x → σ' 123 x = σ 123 x) : mS σ' = w_sp (mS σ) 1 (s_am σ' 0) := by
  have h122 := h 122 (by decide)
  have e : σ' 122 3 = σ 122 3 ∧ σ' 122 4 = σ 122 4 ∧ σ' 122 5 = σ 122 5 := by rw [h122]; exact ⟨rfl, rfl, rfl⟩
  exact cS_ext (w_am_frx hM.sm e (fun x h1 h2 => hx x (by omega))) rfl (c_am_fr (fun x h1 h2 => hx x (by omega)) hM.pa.2) (t_am_fr (by rw [h122]) (by rw [h122]) (h 127 (by decide))) (h_am_fr (fun b h1 h2 => h b (by omega))) (fun p hp => by rw [w_sp_ne (by omega)]; exact mS_im hM e (h 125 (by decide)) (fun x hx2 => hx x (by omega)) p hp)
theorem mS_part2 {σ σ' : w_M} (hM : MI σ) (h : w_f1 σ σ' 123) (hx : ∀ x, x < 73 ∨ 82 ≤ x → σ' 123 x = σ 123 x) : mS σ' = w_sp (mS σ) 2 (c_am σ' 0) := by
  have h122 := h 122 (by decide)
  have e : σ' 122 3 = σ 122 3 ∧ σ' 122 4 = σ 122 4 ∧ σ' 122 5 = σ 122 5 := by rw [h122]; exact ⟨rfl, rfl, rfl⟩
  exact cS_ext (w_am_frx hM.sm e (fun x h1 h2 => hx x (by omega))) (s_am_fr (fun x h1 h2 => hx x (by omega)) hM.se.2) rfl (t_am_fr (by rw [h122]) (by rw [h122]) (h 127 (by decide))) (h_am_fr (fun b h1 h2 => h b (by omega))) (fun p hp => by rw [w_sp_ne (by omega)]; exact mS_im hM e (h 125 (by decide)) (fun x hx2 => hx x (by omega)) p hp)
theorem mS_part3 {σ σ' : w_M} (hM : MI σ) (h122 : ∀ j, j = 3 ∨ j = 4 ∨ j = 5 → σ' 122 j = σ 122 j) (h : ∀ b, b = 123 ∨ b = 125 ∨ b = 130 ∨ b = 131 ∨ b = 132 → σ' b = σ b) : mS σ' = w_sp (mS σ) 3 (t_am σ') := by
  have e : σ' 122 3 = σ 122 3 ∧ σ' 122 4 = σ 122 4 ∧ σ' 122 5 = σ 122 5 := ⟨h122 3 (by omega), h122 4 (by omega), h122 5 (by omega)⟩
  have h123 := h 123 (by omega)
  exact cS_ext (w_am_frx hM.sm e (fun x _ _ => by rw [h123])) (s_am_fr (fun x _ _ => by rw [h123]) hM.se.2) (c_am_fr (fun x _ _ => by rw [h123]) hM.pa.2) rfl (h_am_fr (fun b h1 h2 => h b (by omega))) (fun p hp => by rw [w_sp_ne (by omega)]; exact mS_im hM e (h 125 (by omega)) (fun x _ => by rw [h123]) p hp)
theorem mS_part4 {σ σ' : w_M} (hM : MI σ) (h122 : σ' 122 = σ 122) (h : ∀ b, b = 123 ∨ b = 125 ∨ b = 127 → σ' b = σ b) : mS σ' = w_sp (mS σ) 4 (h_am σ') := by
  have e : σ' 122 3 = σ 122 3 ∧ σ' 122 4 = σ 122 4 ∧ σ' 122 5 = σ 122 5 := by rw [h122]; exact ⟨rfl, rfl, rfl⟩
  have h123 := h 123 (by omega)
  exact cS_ext (w_am_frx hM.sm e (fun x _ _ => by rw [h123])) (s_am_fr (fun x _ _ => by rw [h123]) hM.se.2) (c_am_fr (fun x _ _ => by rw [h123]) hM.pa.2) (t_am_fr (by rw [h122]) (by rw [h122]) (h 127 (by omega))) rfl (fun p hp => by rw [w_sp_ne (by omega)]; exact mS_im hM e (h 125 (by omega)) (fun x _ => by rw [h123]) p hp)
theorem mS_hi {σ σ' : w_M} (h : ∀ b, 122 ≤ b → σ' b = σ b) : mS σ' = mS σ := by
  have e : ∀ o, w_am σ' 123 o = w_am σ 123 o := fun o => w_am_fr (by rw [h 122 (by decide)]; exact ⟨rfl, rfl, rfl⟩) (h 123 (by decide))
  have e2 : ∀ o, s_am σ' o = s_am σ o := fun o => by funext d i; unfold s_am; rw [h 123 (by decide)]
  have e3 : ∀ o, c_am σ' o = c_am σ o := fun o => by funext d i; unfold c_am; rw [h 123 (by decide)]
  refine cS_ext (e 0) (e2 0) (e3 0) (t_am_fr (by rw [h 122 (by decide)]) (by rw [h 122 (by decide)]) (h 127 (by decide))) (h_am_fr (fun b h1 h2 => h b (by omega))) (fun p hp => ?_)
  match p, hp with
  | 5, _ => simp only [mS]; rw [h 125 (by decide), e]
  | 6, _ => simp only [mS]; rw [h 125 (by decide), e2]
  | 7, _ => simp only [mS]; rw [h 125 (by decide), e3]
  | 8, _ => simp only [mS]; rw [h 125 (by decide), e]
  | 9, _ => simp only [mS]; rw [h 125 (by decide), e2]
  | 10, _ => simp only [mS]; rw [h 125 (by decide), e3]
  | 11, _ => simp only [mS]; funext d i; rw [h 125 (by decide)]
  | p + 12, _ => exact (show mS σ' (p + 12) = w_0 from rfl).trans (show mS σ (p + 12) = w_0 from rfl).symm
end
section
/-! What each call answers and changes, said once for both -/
noncomputable def c_q (F : Int) (G : w_S) (σ : w_M) (x : Int) (σ' : w_M) : Prop := x = F ∧ CI σ' ∧ cS σ' = G ∧ (∀ b, 122 ≤ b → σ' b = σ b) ∧ σ' 0 9 = σ 0 9
noncomputable def m_q (F : Int) (G : w_S) (σ : w_M) (x : Int) (σ' : w_M) : Prop := x = F ∧ MI σ' ∧ mS σ' = G ∧ (∀ b, b < 122 → σ' b = σ b) ∧ σ' 122 27 = σ 122 27
theorem c_qr {σ : w_M} {F x : Int} (hC : CI σ) (e : x = F) : c_q F (cS σ) σ x σ := ⟨e, hC, rfl, fun _ _ => rfl, rfl⟩
theorem CI_scratch {σ σ' : w_M} (hC : CI σ) (h : w_fr σ σ' 31 80) : CI σ' := ⟨by rw [cS_scratch h]; exact hC.1, cX_fr hC.2 (by rw [h 14 (by omega)]) (by rw [h 0 (by omega)]) (by rw [h 89 (by omega)]) (by rw [h 106 (by omega)])⟩
theorem c_qs {σ σ' : w_M} {F x : Int} (hC : CI σ) (h : w_fr σ σ' 31 80) (e : x = F) : c_q F (cS σ) σ x σ' := ⟨e, CI_scratch hC h, cS_scratch h, fun b hb => h b (by omega), by rw [h 0 (by omega)]⟩
theorem sWF_0 {S : w_S} (h : sWF S) {A' : w_M} (hA : n_WF A') (e0 : A' 0 0 = S 0 0 0) (e4 : A' 0 4 = S 0 0 4) (e5 : A' 0 5 = S 0 0 5) : sWF (w_sp S 0 A') := by
  obtain ⟨h0, h1, h2, h3, h4, h5, h6, h7, h8⟩ := h
  refine ⟨hA, h1, ?_, h3, h4, h5, h6, ?_, ?_⟩
  · show paWF A' (S 2)
    unfold paWF at h2 ⊢
    rw [e5]
    exact h2
  · intro hk
    have := h7 hk
    show imWF A' (S 5) (S 6) (S 7)
    unfold imWF at this ⊢
    rw [e0, e4, e5]
    exact this
  · intro hk
    have := h8 hk
    show imWF A' (S 8) (S 9) (S 10)
    unfold imWF at this ⊢
    rw [e0, e4, e5]
    exact this
theorem sWF_1 {S : w_S} (h : sWF S) {B : w_M} (hB : seWF B) : sWF (w_sp S 1 B) := ⟨h.1, hB, h.2.2⟩
theorem sWF_2 {S : w_S} (h : sWF S) {C : w_M} (hC : paWF (S 0) C) : sWF (w_sp S 2 C) := ⟨h.1, h.2.1, hC, h.2.2.2⟩
theorem sWF_3 {S : w_S} (h : sWF S) {T : w_M} (hT : taWF T) : sWF (w_sp S 3 T) := ⟨h.1, h.2.1, h.2.2.1, hT, h.2.2.2.2⟩
theorem sWF_4 {S : w_S} (h : sWF S) {H : w_M} (hH : shWF H) : sWF (w_sp S 4 H) := ⟨h.1, h.2.1, h.2.2.1, h.2.2.2.1, hH, h.2.2.2.2.2⟩
theorem c_q0 {σ σ' : w_M} {A' : w_M} {F x : Int} (hC : CI σ) (hf : w_fr σ σ' 14 23) (hA : w_ab σ' 14 = A') (hW : n_WF A') (e0 : A' 0 0 = σ 14 0) (e4 : A' 0 4 = σ 14 4) (e5 : A' 0 5 = σ 14 5) (hm : 0 ≤ σ' 14 6 ∧ σ' 14 6 ≤ 127) (hx : x = F) : c_q F (w_sp (cS σ) 0 A') σ x σ' := by
  have e : cS σ' = w_sp (cS σ) 0 A' := by rw [cS_part0 hf, hA]
  refine ⟨hx, ⟨?_, ?_⟩, e, fun b hb => hf b (by omega), by rw [hf 0 (by omega)]⟩
  · rw [e]
    exact sWF_0 hC.1 hW e0 e4 e5
  · have hX := hC.2
    unfold cX k_ab at hX ⊢
    rw [hf 0 (by omega), hf 89 (by omega), hf 106 (by omega)]
    exact ⟨hm, hX.2⟩
theorem c_q1 {σ σ' : w_M} {B : w_M} {F x : Int} (hC : CI σ) (hf : w_fr σ σ' 23 27) (hB : s_ab σ' 23 = B) (hW : seWF B) (hx : x = F) : c_q F (w_sp (cS σ) 1 B) σ x σ' := by
  have e : cS σ' = w_sp (cS σ) 1 B := by rw [cS_part1 hf, hB]
  exact ⟨hx, ⟨by rw [e]; exact sWF_1 hC.1 hW, cX_fr hC.2 (by rw [hf 14 (by omega)]) (by rw [hf 0 (by omega)]) (by rw [hf 89 (by omega)]) (by rw [hf 106 (by omega)])⟩, e, fun b hb => hf b (by omega), by rw [hf 0 (by omega)]⟩
theorem c_q2 {σ σ' : w_M} {B : w_M} {F x : Int} (hC : CI σ) (hf : w_fr σ σ' 27 30) (hB : c_ab σ' 27 = B) (hW : paWF (w_ab σ 14) B) (hx : x = F) : c_q F (w_sp (cS σ) 2 B) σ x σ' := by
  have e : cS σ' = w_sp (cS σ) 2 B := by rw [cS_part2 hf, hB]
  exact ⟨hx, ⟨by rw [e]; exact sWF_2 hC.1 hW, cX_fr hC.2 (by rw [hf 14 (by omega)]) (by rw [hf 0 (by omega)]) (by rw [hf 89 (by omega)]) (by rw [hf 106 (by omega)])⟩, e, fun b hb => hf b (by omega), by rw [hf 0 (by omega)]⟩
theorem c_q3 {σ σ' : w_M} {T : w_M} {F x : Int} (hC : CI σ) (hf : w_fr σ σ' 0 13) (h7 : σ' 0 7 = σ 0 7) (h9 : σ' 0 9 = σ 0 9) (hT : t_ab σ' = T) (hW : taWF T) (hx : x = F) : c_q F (w_sp (cS σ) 3 T) σ x σ' := by
  have e : cS σ' = w_sp (cS σ) 3 T := by rw [cS_part3 hf h7, hT]
  exact ⟨hx, ⟨by rw [e]; exact sWF_3 hC.1 hW, cX_fr hC.2 (by rw [hf 14 (by omega)]) h7 (by rw [hf 89 (by omega)]) (by rw [hf 106 (by omega)])⟩, e, fun b hb => hf b (by omega), h9⟩
theorem c_q4 {σ σ' : w_M} {H : w_M} {F x : Int} (hC : CI σ) (hf : w_fr σ σ' 80 88) (hH : h_ab σ' = H) (hW : shWF H) (hx : x = F) : c_q F (w_sp (cS σ) 4 H) σ x σ' := by
  have e : cS σ' = w_sp (cS σ) 4 H := by rw [cS_part4 hf, hH]
  exact ⟨hx, ⟨by rw [e]; exact sWF_4 hC.1 hW, cX_fr hC.2 (by rw [hf 14 (by omega)]) (by rw [hf 0 (by omega)]) (by rw [hf 89 (by omega)]) (by rw [hf 106 (by omega)])⟩, e, fun b hb => hf b (by omega), by rw [hf 0 (by omega)]⟩
theorem m_qr {σ : w_M} {F x : Int} (hM : MI σ) (e : x = F) : m_q F (mS σ) σ x σ := ⟨e, hM, rfl, fun _ _ => rfl, rfl⟩
theorem m_qs {σ σ' : w_M} {F x : Int} (hM : MI σ) (h : w_f1 σ σ' 124) (e : x = F) : m_q F (mS σ) σ x σ' := ⟨e, by unfold MI; rw [mS_f1 hM h]; exact hM, mS_f1 hM h, fun b hb => h b (by omega), by rw [h 122 (by decide)]⟩
theorem m_q0 {σ σ' : w_M} {A' : w_M} {F x : Int} (hM : MI σ) (hf : w_f1 σ σ' 123) (hx3 : ∀ x, 48 ≤ x → σ' 123 x = σ 123 x) (hA : w_am σ' 123 0 = A') (hW : n_WF A') (e0 : A' 0 0 = σ 122 3) (e4 : A' 0 4 = σ 122 4) (e5 : A' 0 5 = σ 122 5) (hx : x = F) : m_q F (w_sp (mS σ) 0 A') σ x σ' := by
  have e : mS σ' = w_sp (mS σ) 0 A' := by rw [mS_part0 hM hf hx3, hA]
  exact ⟨hx, by unfold MI; rw [e]; exact sWF_0 hM hW e0 e4 e5, e, fun b hb => hf b (by omega), by rw [hf 122 (by decide)]⟩
/-- a change of one number of the night, and what it was -/
noncomputable def F_set (S : w_S) (P : Prop) (d j : Nat) : Int := @ite _ P (Classical.propDecidable P) (S 0 d j) (-1)
noncomputable def G_set (S : w_S) (P : Prop) (d j : Nat) (v : Int) : w_S := @ite _ P (Classical.propDecidable P) (w_sp S 0 (w_up (S 0) d j v)) S
theorem F_set_t {S : w_S} {P : Prop} {d j : Nat} (h : P) : F_set S P d j = S 0 d j := if_pos h
theorem F_set_f {S : w_S} {P : Prop} {d j : Nat} (h : ¬ P) : F_set S P d j = -1 := if_neg h
theorem G_set_t {S : w_S} {P : Prop} {d j : Nat} {v : Int} (h : P) : G_set S P d j v = w_sp S 0 (w_up (S 0) d j v) := if_pos h
theorem G_set_f {S : w_S} {P : Prop} {d j : Nat} {v : Int} (h : ¬ P) : G_set S P d j v = S := if_neg h
noncomputable def F_feed (S : w_S) (c : Int) : Int := if 0 ≤ c ∧ c ≤ 127 then (if S 3 0 0 < 160 then S 3 0 0 + 1 else -3) else -1
noncomputable def G_feed (S : w_S) (c : Int) : w_S := if (0 ≤ c ∧ c ≤ 127) ∧ S 3 0 0 < 160 then w_sp S 3 (w_up (w_up (S 3) 1 (S 3 0 0).toNat c) 0 0 (S 3 0 0 + 1)) else S
noncomputable def F_end (S : w_S) (n : Int) : Int := if 0 ≤ n ∧ n ≤ S 3 0 0 then S 3 0 0 else -1
noncomputable def t_cut (T : w_M) (n : Int) : w_M := fun d i => if d = 1 then (if i < n.toNat then T 1 i else 0) else if d = 0 ∧ i = 0 then n else T d i
noncomputable def G_end (S : w_S) (n : Int) : w_S := if 0 ≤ n ∧ n ≤ S 3 0 0 then w_sp S 3 (t_cut (S 3) n) else S
noncomputable def F_fault (S : w_S) : Int := S 3 0 1
noncomputable def F_rule (S : w_S) (w : Int) : Int := if w = 0 then S 0 0 0 else if w = 1 then S 0 0 1 else if w = 2 then S 0 0 2 else if w = 3 then S 0 0 4 else if w = 4 then S 0 0 5 else if w = 5 then S 0 0 3 else if w = 6 then n_sd (S 0) else -1
noncomputable def F_strip (S : w_S) (i w : Int) : Int := if 0 ≤ i ∧ i < S 0 0 4 then (if w = 0 then S 0 1 i.toNat else if w = 1 then S 0 2 i.toNat else if w = 2 then S 0 9 i.toNat else if w = 3 then ((n_rat (S 0) i (n_n (S 0)) : Nat) : Int) else -1) else -1
noncomputable def F_reaper (S : w_S) (r w : Int) : Int := n_tell (S 0) r w
noncomputable def F_harvest (S : w_S) (o : Int) : Int := if 0 ≤ o ∧ o ≤ 3 then S 0 8 o.toNat else -1
noncomputable def P_send (S : w_S) (r i : Int) : Prop := (0 ≤ r ∧ r < S 0 0 5) ∧ (0 ≤ i ∧ i < S 0 0 4)
noncomputable def P_whet (S : w_S) (r e : Int) : Prop := (0 ≤ r ∧ r < S 0 0 5) ∧ (0 ≤ e ∧ e ≤ 3)
noncomputable def P_fill (S : w_S) (r v : Int) : Prop := (0 ≤ r ∧ r < S 0 0 5) ∧ (0 ≤ v ∧ v ≤ 9)
noncomputable def P_own (S : w_S) (i o : Int) : Prop := (0 ≤ i ∧ i < S 0 0 4) ∧ (0 ≤ o ∧ o ≤ 3)
noncomputable def P_grow (S : w_S) (i y : Int) : Prop := (0 ≤ i ∧ i < S 0 0 4) ∧ (0 ≤ y ∧ y ≤ 40)
noncomputable def P_thistle (S : w_S) (i : Int) : Prop := 0 ≤ i ∧ i < S 0 0 4
noncomputable def F_send (S : w_S) (r i : Int) : Int := F_set S (P_send S r i) 6 r.toNat
noncomputable def G_send (S : w_S) (r i : Int) : w_S := G_set S (P_send S r i) 6 r.toNat i
noncomputable def F_whet (S : w_S) (r i : Int) : Int := F_set S (P_whet S r i) 5 r.toNat
noncomputable def G_whet (S : w_S) (r i : Int) : w_S := G_set S (P_whet S r i) 5 r.toNat i
noncomputable def F_fill (S : w_S) (r i : Int) : Int := F_set S (P_fill S r i) 4 r.toNat
noncomputable def G_fill (S : w_S) (r i : Int) : w_S := G_set S (P_fill S r i) 4 r.toNat i
noncomputable def F_own (S : w_S) (r i : Int) : Int := F_set S (P_own S r i) 2 r.toNat
noncomputable def G_own (S : w_S) (r i : Int) : w_S := G_set S (P_own S r i) 2 r.toNat i
noncomputable def F_grow (S : w_S) (r i : Int) : Int := F_set S (P_grow S r i) 1 r.toNat
noncomputable def G_grow (S : w_S) (r i : Int) : w_S := G_set S (P_grow S r i) 1 r.toNat i
noncomputable def F_thistle (S : w_S) (r _i : Int) : Int := F_set S (P_thistle S r) 9 r.toNat
noncomputable def G_thistle (S : w_S) (r i : Int) : w_S := G_set S (P_thistle S r) 9 r.toNat i
noncomputable def P_lend (S : w_S) (a b o : Int) : Prop := ((0 ≤ a ∧ a < S 0 0 5) ∧ (0 ≤ b ∧ b < S 0 0 5) ∧ ¬ a = b) ∧ (0 ≤ o ∧ o ≤ 9)
noncomputable def P_near (S : w_S) (a b o : Int) : Prop := (-1 ≤ S 0 6 a.toNat - S 0 6 b.toNat ∧ S 0 6 a.toNat - S 0 6 b.toNat ≤ 1) ∧ o ≤ S 0 4 a.toNat
noncomputable def F_lend (S : w_S) (a b o : Int) : Int := @ite _ (P_lend S a b o) (Classical.propDecidable _) (@ite _ (P_near S a b o) (Classical.propDecidable _) (if S 0 4 b.toNat + o ≤ 9 then S 0 4 b.toNat + o else -3) (-2)) (-1)
noncomputable def G_lend (S : w_S) (a b o : Int) : w_S := @ite _ (P_lend S a b o ∧ P_near S a b o ∧ S 0 4 b.toNat + o ≤ 9) (Classical.propDecidable _) (w_sp S 0 (w_up (w_up (S 0) 4 a.toNat (S 0 4 a.toNat - o)) 4 b.toNat (S 0 4 b.toNat + o))) S
noncomputable def F_cloud (S : w_S) (t _is : Int) : Int := if 0 ≤ t ∧ t < S 0 0 0 then n_cl (S 0) t else -1
noncomputable def G_cloud (S : w_S) (t is : Int) : w_S := if 0 ≤ t ∧ t < S 0 0 0 then w_sp S 0 (w_up (S 0) 0 2 (v_Moon_withBit (S 0 0 2) t is)) else S
noncomputable def F_go (S : w_S) (n : Int) : Int := if 0 ≤ n ∧ n ≤ 12 then (if n ≤ S 0 0 0 - S 0 0 1 then n_sd (S 0) - n_sd (n_goes (S 0) n.toNat) else -3) else -1
noncomputable def G_go (S : w_S) (n : Int) : w_S := if (0 ≤ n ∧ n ≤ 12) ∧ n ≤ S 0 0 0 - S 0 0 1 then w_sp S 0 (n_goes (S 0) n.toNat) else S
noncomputable def F_ahead (S : w_S) (r n w : Int) : Int := if 0 ≤ n ∧ n ≤ 12 then n_tell (n_goes (S 0) n.toNat) r w else -1
noncomputable def F_stands (S : w_S) (i n : Int) : Int := if (0 ≤ i ∧ i < S 0 0 4) ∧ (0 ≤ n ∧ n ≤ 12) then (n_goes (S 0) n.toNat) 1 i.toNat else -1
noncomputable def F_done (S : w_S) (w : Int) : Int := if w = 0 then n_done (S 0) else if w = 1 then (n_goes (S 0) 12) 0 3 else -1
noncomputable def F_left (S : w_S) : Int := n_sd (n_goes (S 0) 12)
/-- the bits of the clouds stay within twelve -/
theorem w_nn {x : Nat} (h : x < 2147483648) : (Int32.ofInt (x : Int)).toBitVec.toNat = x := by
  show (BitVec.ofInt 32 (x : Int)).toNat = x
  rw [BitVec.ofInt_natCast, BitVec.toNat_ofNat]
  omega
theorem w_pos {z : Int32} (h : z.toBitVec.toNat < 2147483648) : z.toInt = (z.toBitVec.toNat : Int) := by
  show z.toBitVec.toInt = _
  rw [BitVec.toInt_eq_toNat_of_lt (by omega)]
theorem w_or_nat {x y : Nat} (hx : x < 2147483648) (hy : y < 2147483648) : w_or (x : Int) (y : Int) = ((x ||| y : Nat) : Int) := by
  have h : (Int32.ofInt (x : Int) ||| Int32.ofInt (y : Int)).toBitVec.toNat = x ||| y := by
    rw [Int32.toBitVec_or, BitVec.toNat_or, w_nn hx, w_nn hy]
  have hlt : x ||| y < 2147483648 := Nat.or_lt_two_pow (n := 31) hx hy
  show (Int32.ofInt (x : Int) ||| Int32.ofInt (y : Int)).toInt = _
  rw [w_pos (by rw [h]; exact hlt), h]
theorem w_and_le {x : Nat} (hx : x < 2147483648) (y : Int) : 0 ≤ w_and (x : Int) y ∧ w_and (x : Int) y ≤ x := by
  have h : (Int32.ofInt (x : Int) &&& Int32.ofInt y).toBitVec.toNat ≤ x := by
    rw [Int32.toBitVec_and, BitVec.toNat_and, w_nn hx]
    exact Nat.and_le_left
  show 0 ≤ (Int32.ofInt (x : Int) &&& Int32.ofInt y).toInt ∧ (Int32.ofInt (x : Int) &&& Int32.ofInt y).toInt ≤ x
  rw [w_pos (by omega)]
  omega
theorem w_shl1 : ∀ t, t < 12 → w_shl 1 ((t : Nat) : Int) = ((2 ^ t : Nat) : Int) := by decide +kernel
theorem w_cl_bits {c t is : Int} (hc : 0 ≤ c ∧ c ≤ 4095) (ht : 0 ≤ t ∧ t < 12) : 0 ≤ v_Moon_withBit c t is ∧ v_Moon_withBit c t is ≤ 4095 := by
  obtain ⟨c', rfl⟩ := Int.eq_ofNat_of_zero_le hc.1
  obtain ⟨t', rfl⟩ := Int.eq_ofNat_of_zero_le ht.1
  unfold v_Moon_withBit
  split
  · have := w_and_le (x := c') (by omega) (w_xor (w_shl 1 (t' : Int)) (-1))
    omega
  · have h2 : 2 ^ t' < 2 ^ 12 := Nat.pow_lt_pow_right (by decide) (by omega)
    rw [w_shl1 t' (by omega), w_or_nat (by omega) (by omega)]
    have := Nat.or_lt_two_pow (n := 12) (x := c') (y := 2 ^ t') (by omega) h2
    omega
theorem w_th_bits : ∀ m, m < 128 → ∀ q, q < 49 → (w_and (w_shr (v_Moon_withBit (m : Nat) ((q / 7 : Nat) : Int) 1) ((q % 7 : Nat) : Int)) 1 = if q % 7 = q / 7 then 1 else w_and (w_shr ((m : Nat) : Int) ((q % 7 : Nat) : Int)) 1) ∧ (w_and (w_shr (v_Moon_withBit (m : Nat) ((q / 7 : Nat) : Int) 0) ((q % 7 : Nat) : Int)) 1 = if q % 7 = q / 7 then 0 else w_and (w_shr ((m : Nat) : Int) ((q % 7 : Nat) : Int)) 1) := by decide +kernel
end
