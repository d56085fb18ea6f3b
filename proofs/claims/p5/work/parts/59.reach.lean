/-! Where all are to begin: how much can be cut at the most, pure -/
noncomputable def ct_b (e o c : Int) : Int := if e = 0 then 0 else if c = 0 ∨ 0 < o then 1 else 0
noncomputable def ct_e (e o c : Int) : Int := if e = 0 then 3 else if c = 0 ∨ 0 < o then e - 1 else e
noncomputable def ct_o (e o c : Int) : Int := if e = 0 then o else if c = 0 ∨ 0 < o then o - c else o
theorem ct_b01 (e o c : Int) : ct_b e o c = 0 ∨ ct_b e o c = 1 := by
  unfold ct_b
  split
  · exact Or.inl rfl
  · split
    · exact Or.inr rfl
    · exact Or.inl rfl
theorem n_cutF_s {A : w_M} {r : Nat} {o : Int} {k : Nat} : n_cutF A r o (k + 1) = (ct_e (n_cutF A r o k).1 (n_cutF A r o k).2.1 (n_cl A (A 0 1 + k)), ct_o (n_cutF A r o k).1 (n_cutF A r o k).2.1 (n_cl A (A 0 1 + k)), (n_cutF A r o k).2.2 + ct_b (n_cutF A r o k).1 (n_cutF A r o k).2.1 (n_cl A (A 0 1 + k))) := by
  simp only [n_cutF]
  unfold ct_e ct_o ct_b
  by_cases h1 : (n_cutF A r o k).1 = 0
  · simp only [if_pos h1, Int.add_zero]
  · by_cases h2 : n_cl A (A 0 1 + k) = 0 ∨ 0 < (n_cutF A r o k).2.1
    · simp only [if_neg h1, if_pos h2]
    · simp only [if_neg h1, if_neg h2, Int.add_zero]
theorem n_work_cut {B : w_M} (h : n_WF B) {r : Nat} (hr : r < n_n B) {c : Int} (hc : c = 0 ∨ c = 1) :
    n_sd B - n_sd (n_work B r c) + n_lost B r c ≤ B 3 r * ct_b (B 5 r) (B 4 r) c ∧
    (∀ q, q ≠ r → (n_work B r c) 5 q = B 5 q ∧ (n_work B r c) 4 q = B 4 q) ∧
    (0 < n_sd (n_work B r c) → (n_work B r c) 5 r = ct_e (B 5 r) (B 4 r) c ∧ (n_work B r c) 4 r = ct_o (B 5 r) (B 4 r) c) := by
  have hR := h.r hr
  have hs := h.s
  have hsn : n_s B ≤ 1000 := by unfold n_s; omega
  rcases n_near_cases (A := B) (f := B 6 r) (by omega) hsn with ⟨h1, h2⟩ | ⟨i, h1, h2, h3⟩
  · have hz : n_sd B = 0 := by
      have : 0 ≤ n_sd B := (n_sd_le h).1
      by_cases hp : 0 < n_sd B
      · obtain ⟨j, hj, hy⟩ := f_sum_pos (f := B 1) (fun i hi => (h.i hi).1.1) hp
        exact absurd hy (h2 j hj)
      · omega
    unfold n_work n_lost
    rw [if_pos h1, if_pos h1]
    refine ⟨?_, fun q _ => ⟨rfl, rfl⟩, fun hp => by omega⟩
    have := ct_b01 (B 5 r) (B 4 r) c
    rcases this with e | e <;> rw [e] <;> omega
  · have hne : ¬ n_near B (B 6 r) = -4 := by omega
    unfold n_work n_lost ct_b ct_e ct_o
    rw [if_neg hne, if_neg hne]
    by_cases h5 : B 5 r = 0
    · rw [if_pos h5, if_pos h5, if_pos h5, if_pos h5, if_pos h5]
      refine ⟨?_, fun q hq => ⟨?_, ?_⟩, fun _ => ⟨w_up_at, ?_⟩⟩
      · rw [n_sd_up (by decide) (by omega), n_sd_up (by decide) (by omega)]; omega
      · rw [w_up_j hq, w_up_ne (by decide)]
      · rw [w_up_ne (by decide), w_up_ne (by decide)]
      · rw [w_up_ne (by decide), w_up_ne (by decide)]
    · rw [if_neg h5, if_neg h5, if_neg h5, if_neg h5, if_neg h5]
      by_cases ho : c = 0 ∨ 0 < B 4 r
      · rw [if_pos ho, if_pos ho, if_pos ho, if_pos ho, if_pos ho]
        have en : (n_near B (B 6 r)).toNat = i := by rw [h2]; exact Int.toNat_natCast i
        rw [en]
        generalize hD : w_up (w_up (w_up B 6 r (n_near B (B 6 r))) 5 r (B 5 r - 1)) 4 r (B 4 r - c) = D
        have y4 : n_sd D = n_sd B := by rw [← hD, n_sd_up (by decide) (by omega), n_sd_up (by decide) (by omega), n_sd_up (by decide) (by omega)]
        have s4 : n_s D = n_s B := by
          rw [← hD]
          unfold n_s
          rw [w_up_ne (by decide), w_up_ne (by decide), w_up_ne (by decide)]
        have a4 : n_amt D r i = n_amt B r i := n_amt_congr (by rw [← hD, w_up_ne (by decide), w_up_ne (by decide), w_up_ne (by decide)]) (by rw [← hD, w_up_ne (by decide), w_up_ne (by decide), w_up_ne (by decide)]) (by rw [← hD, w_up_ne (by decide), w_up_ne (by decide), w_up_ne (by decide)])
        have c5 : (n_cut D r i) 5 = D 5 := by unfold n_cut; rw [w_up_ne (by decide), w_up_ne (by decide), w_up_ne (by decide), w_up_ne (by decide)]
        have c4 : (n_cut D r i) 4 = D 4 := by unfold n_cut; rw [w_up_ne (by decide), w_up_ne (by decide), w_up_ne (by decide), w_up_ne (by decide)]
        have am := n_amt_le h hr h1
        refine ⟨?_, fun q hq => ⟨?_, ?_⟩, fun _ => ⟨?_, ?_⟩⟩
        · rw [n_cut_sd (by rw [s4]; exact h1), y4, a4]
          omega
        · rw [c5, ← hD, w_up_ne (by decide), w_up_j hq, w_up_ne (by decide)]
        · rw [c4, ← hD, w_up_j hq, w_up_ne (by decide), w_up_ne (by decide)]
        · rw [c5, ← hD, w_up_ne (by decide), w_up_at]
        · rw [c4, ← hD, w_up_at]
      · rw [if_neg ho, if_neg ho, if_neg ho, if_neg ho, if_neg ho]
        refine ⟨?_, fun q hq => ⟨?_, ?_⟩, fun _ => ⟨?_, ?_⟩⟩
        · rw [n_sd_up (by decide) (by omega)]; omega
        · rw [w_up_ne (by decide)]
        · rw [w_up_ne (by decide)]
        · rw [w_up_ne (by decide)]
        · rw [w_up_ne (by decide)]
theorem n_hourF_cut {B : w_M} (h : n_WF B) {c : Int} (hc : c = 0 ∨ c = 1) : ∀ m : Nat, m ≤ n_n B →
    n_sd B - n_sd (n_hourF B c m) + n_lostF B c m ≤ f_sum (fun r => B 3 r * ct_b (B 5 r) (B 4 r) c) m ∧
    (∀ q, m ≤ q → (n_hourF B c m) 5 q = B 5 q ∧ (n_hourF B c m) 4 q = B 4 q) ∧
    (0 < n_sd (n_hourF B c m) → ∀ r, r < m → (n_hourF B c m) 5 r = ct_e (B 5 r) (B 4 r) c ∧ (n_hourF B c m) 4 r = ct_o (B 5 r) (B 4 r) c) := by
  intro m
  induction m with
  | zero =>
    intro _
    refine ⟨?_, fun q _ => ⟨rfl, rfl⟩, fun _ r hr => by omega⟩
    simp [n_hourF, n_lostF, f_sum]
  | succ m ih =>
    intro hm
    obtain ⟨i1, i2, i3⟩ := ih (by omega)
    obtain ⟨g1, g2, -, -, -⟩ := n_hourF_all h hc m (by omega)
    have hr : m < n_n (n_hourF B c m) := by rw [g2.n]; omega
    obtain ⟨w1, w2, w3⟩ := n_work_cut g1 hr hc
    have wl := (n_work_all g1 hr hc).2.2.2.1
    obtain ⟨e5, e4⟩ := i2 m (Nat.le_refl _)
    rw [e5, e4, g2.2.2.1] at w1
    rw [e5, e4] at w3
    simp only [n_hourF, n_lostF, f_sum]
    refine ⟨by omega, fun q hq => ?_, fun hp r hr2 => ?_⟩
    · obtain ⟨a, b⟩ := w2 q (by omega)
      obtain ⟨a', b'⟩ := i2 q (by omega)
      exact ⟨a.trans a', b.trans b'⟩
    · by_cases e : r = m
      · rw [e]; exact w3 hp
      · obtain ⟨a, b⟩ := w2 r e
        obtain ⟨a', b'⟩ := i3 (by omega) r (by omega)
        exact ⟨a.trans a', b.trans b'⟩
/-- what all can cut in k hours at the most -/
noncomputable def n_rch (A : w_M) (k : Nat) : Int := f_sum (fun r => A 3 r * (n_cutF A r (A 4 r) k).2.2) (n_n A)
theorem f_sum_add {f g : Nat → Int} : ∀ n : Nat, f_sum (fun i => f i + g i) n = f_sum f n + f_sum g n := by
  intro n
  induction n with
  | zero => rfl
  | succ n ih => simp only [f_sum]; rw [ih]; omega
theorem n_rch_s {A : w_M} (k : Nat) : n_rch A (k + 1) = n_rch A k + f_sum (fun r => A 3 r * ct_b (n_cutF A r (A 4 r) k).1 (n_cutF A r (A 4 r) k).2.1 (n_cl A (A 0 1 + k))) (n_n A) := by
  unfold n_rch
  rw [← f_sum_add]
  refine f_sum_congr (fun r _ => ?_)
  rw [n_cutF_s]
  simp only []
  rw [Int.mul_add]
theorem n_rch_mono {A : w_M} (h : n_WF A) {k : Nat} : ∀ j : Nat, n_rch A k ≤ n_rch A (k + j) := by
  intro j
  induction j with
  | zero => exact Int.le_refl _
  | succ j ih =>
    have e : n_rch A (k + (j + 1)) = n_rch A (k + j) + _ := n_rch_s (k + j)
    have : 0 ≤ f_sum (fun r => A 3 r * ct_b (n_cutF A r (A 4 r) (k + j)).1 (n_cutF A r (A 4 r) (k + j)).2.1 (n_cl A (A 0 1 + ((k + j : Nat) : Int)))) (n_n A) := by
      refine (f_sum_le (B := 9) (m := n_n A) (fun r hr => ?_) (Nat.le_refl _)).1
      have h3 := (h.r hr).1
      rcases ct_b01 (n_cutF A r (A 4 r) (k + j)).1 (n_cutF A r (A 4 r) (k + j)).2.1 (n_cl A (A 0 1 + ((k + j : Nat) : Int))) with e | e <;> rw [e] <;> omega
    rw [e]
    omega
theorem n_lostT_mono {A : w_M} (h : n_WF A) {k : Nat} : ∀ j : Nat, A 0 1 + ((k + j : Nat) : Int) ≤ A 0 0 → n_lostT A k ≤ n_lostT A (k + j) := by
  intro j
  induction j with
  | zero => intro _; exact Int.le_refl _
  | succ j ih =>
    intro hj
    have := ih (by omega)
    have G := n_goes_all h (k + j)
    have := (n_hourF_all G.1 (n_cl01 (n_goes A (k + j)) ((n_goes A (k + j)) 0 1)) (n_n (n_goes A (k + j))) (Nat.le_refl _)).2.2.2.2
    have e : n_lostT A (k + (j + 1)) = n_lostT A (k + j) + n_lostF (n_goes A (k + j)) (n_cl (n_goes A (k + j)) ((n_goes A (k + j)) 0 1)) (n_n (n_goes A (k + j))) := rfl
    omega
theorem n_reach {A : w_M} (h : n_WF A) : ∀ k : Nat, A 0 1 + (k : Int) ≤ A 0 0 → (∀ i, i < k → 0 < n_sd (n_goes A i)) →
    n_sd A - n_sd (n_goes A k) + n_lostT A k ≤ n_rch A k ∧ (0 < n_sd (n_goes A k) → ∀ r, r < n_n A → (n_goes A k) 5 r = (n_cutF A r (A 4 r) k).1 ∧ (n_goes A k) 4 r = (n_cutF A r (A 4 r) k).2.1) := by
  intro k
  induction k with
  | zero =>
    intro _ _
    refine ⟨?_, fun _ r _ => ⟨rfl, rfl⟩⟩
    have : 0 ≤ n_rch A 0 := by
      unfold n_rch
      refine (f_sum_le (B := 0) (m := n_n A) (fun r hr => ?_) (Nat.le_refl _)).1
      simp [n_cutF]
    simp only [n_goes, n_lostT]
    omega
  | succ k ih =>
    intro hk hst
    obtain ⟨i1, i2⟩ := ih (by omega) (fun i hi => hst i (by omega))
    have i3 := i2 (hst k (by omega))
    have G := n_goes_all h k
    have e1 : (n_goes A k) 0 1 = A 0 1 + k := by rw [G.2.2.1, if_pos (by omega)]
    have e0 : (n_goes A k) 0 0 = A 0 0 := G.2.1.1 0 (by decide) (by decide)
    have e2 : (n_goes A k) 0 2 = A 0 2 := G.2.1.1 2 (by decide) (by decide)
    have ecl : n_cl (n_goes A k) ((n_goes A k) 0 1) = n_cl A (A 0 1 + k) := by unfold n_cl; rw [e2, e1]
    have en : n_n (n_goes A k) = n_n A := G.2.1.n
    have eg : n_goes A (k + 1) = n_hour (n_goes A k) (n_cl A (A 0 1 + k)) := by
      simp only [n_goes]
      rw [if_pos (by rw [e1, e0]; omega)]
      unfold n_on
      rw [ecl]
    obtain ⟨w1, w2, w3⟩ := n_hourF_cut G.1 (n_cl01 A (A 0 1 + k)) (n_n (n_goes A k)) (Nat.le_refl _)
    have esd : n_sd (n_goes A (k + 1)) = n_sd (n_hourF (n_goes A k) (n_cl A (A 0 1 + k)) (n_n (n_goes A k))) := by rw [eg]; unfold n_hour; rw [n_sd_up (by decide) (by decide)]
    have el : n_lostT A (k + 1) = n_lostT A k + n_lostF (n_goes A k) (n_cl A (A 0 1 + k)) (n_n (n_goes A k)) := by
      simp only [n_lostT]
      rw [ecl]
    have es : f_sum (fun r => (n_goes A k) 3 r * ct_b ((n_goes A k) 5 r) ((n_goes A k) 4 r) (n_cl A (A 0 1 + k))) (n_n (n_goes A k)) = f_sum (fun r => A 3 r * ct_b (n_cutF A r (A 4 r) k).1 (n_cutF A r (A 4 r) k).2.1 (n_cl A (A 0 1 + k))) (n_n A) := by
      rw [en]
      refine f_sum_congr (fun r hr => ?_)
      rw [G.2.1.2.2.1, (i3 r hr).1, (i3 r hr).2]
    rw [es] at w1
    refine ⟨by rw [esd, el, n_rch_s]; omega, fun hp r hr => ?_⟩
    rw [esd] at hp
    have := w3 hp r (by rw [en]; exact hr)
    rw [(i3 r hr).1, (i3 r hr).2] at this
    have r5 : (n_goes A (k + 1)) 5 r = (n_hourF (n_goes A k) (n_cl A (A 0 1 + k)) (n_n (n_goes A k))) 5 r := by rw [eg]; unfold n_hour; rw [w_up_ne (by decide)]
    have r4 : (n_goes A (k + 1)) 4 r = (n_hourF (n_goes A k) (n_cl A (A 0 1 + k)) (n_n (n_goes A k))) 4 r := by rw [eg]; unfold n_hour; rw [w_up_ne (by decide)]
    rw [r5, r4, this.1, this.2, n_cutF_s]
    exact ⟨rfl, rfl⟩
theorem n_done_spec {A : w_M} (h : n_WF A) : (n_done A = -4 ∧ ∀ i, i ≤ n_left A → 0 < n_sd (n_goes A i)) ∨ (n_done A = (n_fin A : Int) ∧ n_fin A ≤ n_left A ∧ n_sd (n_goes A (n_fin A)) = 0 ∧ ∀ i, i < n_fin A → 0 < n_sd (n_goes A i)) := by
  obtain ⟨h1, h2, h3⟩ := n_st_spec A h (n_left A)
  unfold n_done
  by_cases hz : n_sd (n_goes A (n_fin A)) = 0
  · rw [if_pos hz]
    exact Or.inr ⟨rfl, h1, hz, h2⟩
  · rw [if_neg hz]
    refine Or.inl ⟨rfl, fun i hi => ?_⟩
    have h3' : n_fin A = n_left A := h3.resolve_left hz
    have hge := (n_sd_le (n_goes_all h (n_fin A)).1).1
    by_cases hl : i < n_fin A
    · exact h2 i hl
    · have : i = n_fin A := by omega
      rw [this]
      omega
/-- who is done behind m hours can cut that much -/
theorem n_done_reach {A : w_M} (h : n_WF A) {m : Nat} (hd : n_done A = (m : Int)) : n_sd A + n_lostT A m ≤ n_rch A m ∧ m ≤ n_left A := by
  have hrs := h.hrs
  have hr := h.hr
  rcases n_done_spec h with ⟨h1, -⟩ | ⟨h1, h2, h3, h4⟩
  · omega
  · have em : m = n_fin A := by omega
    subst em
    have hl : n_left A = (A 0 0 - A 0 1).toNat := rfl
    have := (n_reach h (n_fin A) (by omega) h4).1
    omega
theorem n_left_lft {A : w_M} (h : n_WF A) {n : Int} (hn : 0 ≤ n) : n_lft A n ≤ n_left A ∧ (n_lft A n : Int) ≤ n ∧ (∀ m : Nat, (m : Int) ≤ n → m ≤ n_left A → m ≤ n_lft A n) := by
  have hr := h.hr
  have hl : n_left A = (A 0 0 - A 0 1).toNat := rfl
  unfold n_lft
  split
  · refine ⟨by omega, by omega, fun m h1 h2 => by omega⟩
  · refine ⟨by omega, by omega, fun m h1 h2 => by omega⟩
/-- what passUntilDone finds where it gives up what can't be done -/
theorem n_pud_cut {A : w_M} (h : n_WF A) {most spare x : Int} {j : Nat} (h0 : 0 ≤ most) (hs : n_rch A (n_lft A most) - n_sd A ≤ spare) (hp : n_pud A most spare x j) : x = if n_done A ≠ -4 ∧ n_done A ≤ most then n_done A else -4 := by
  have hrs := h.hrs
  have hr := h.hr
  have hl : n_left A = (A 0 0 - A 0 1).toNat := rfl
  obtain ⟨p1, p2, p3, p4⟩ := hp
  rcases p4 with ⟨e, hz⟩ | ⟨e, hpos, why⟩
  · have hf := n_fin_of h (j := j) (by omega) p3 (Or.inl hz)
    have hd : n_done A = (j : Int) := by unfold n_done; rw [hf, if_pos hz]
    rw [hd, if_pos ⟨by omega, p1⟩]
    exact e
  · rw [e]
    refine (if_neg ?_).symm
    rintro ⟨d1, d2⟩
    rcases n_done_spec h with ⟨h1, -⟩ | ⟨h1, h2, h3, h4⟩
    · exact d1 h1
    · have hj : j < n_fin A := by
        by_cases hlt : j < n_fin A
        · exact hlt
        · by_cases he : j = n_fin A
          · rw [he] at hpos; omega
          · have := p3 (n_fin A) (by omega); omega
      rcases why with w | w | w
      · omega
      · omega
      · obtain ⟨r1, r2⟩ := n_done_reach h h1
        have l1 := n_lostT_mono h (k := j) (n_fin A - j) (by rw [show j + (n_fin A - j) = n_fin A by omega]; omega)
        rw [show j + (n_fin A - j) = n_fin A by omega] at l1
        have hle := (n_left_lft h h0).2.2 (n_fin A) (by omega) h2
        have m1 := n_rch_mono h (k := n_fin A) (n_lft A most - n_fin A)
        rw [show n_fin A + (n_lft A most - n_fin A) = n_lft A most by omega] at m1
        omega
theorem n_done_cut {A : w_M} (h : n_WF A) {most : Int} (hs : most < 0 ∨ n_rch A (n_lft A most) < n_sd A) : ¬ (n_done A ≠ -4 ∧ n_done A ≤ most) := by
  rintro ⟨d1, d2⟩
  rcases n_done_spec h with ⟨h1, -⟩ | ⟨h1, h2, h3, h4⟩
  · exact d1 h1
  · have h0 : 0 ≤ most := by omega
    rcases hs with w | w
    · omega
    · obtain ⟨r1, r2⟩ := n_done_reach h h1
      have hle := (n_left_lft h h0).2.2 (n_fin A) (by omega) h2
      have m1 := n_rch_mono h (k := n_fin A) (n_lft A most - n_fin A)
      rw [show n_fin A + (n_lft A most - n_fin A) = n_lft A most by omega] at m1
      have := (n_lostT_le h (n_fin A)).1
      omega
/-- the soonest row -/
noncomputable def sn_F (f : Nat → Int) : Nat → Int × Int
  | 0 => (1000000, -4)
  | k + 1 => if f k ≠ -4 ∧ f k < (sn_F f k).1 then (f k, (k : Int)) else sn_F f k
theorem sn_stay {f : Nat → Int} {k : Nat} : ∀ j : Nat, (∀ i, k ≤ i → i < k + j → ¬ (f i ≠ -4 ∧ f i < (sn_F f k).1)) → sn_F f (k + j) = sn_F f k := by
  intro j
  induction j with
  | zero => intro _; rfl
  | succ j ih =>
    intro h
    have e := ih (fun i h1 h2 => h i h1 (by omega))
    show (if f (k + j) ≠ -4 ∧ f (k + j) < (sn_F f (k + j)).1 then (f (k + j), ((k + j : Nat) : Int)) else sn_F f (k + j)) = _
    rw [e, if_neg (h (k + j) (by omega) (by omega))]
theorem sn_F_le {f : Nat → Int} (hf : ∀ i, f i = -4 ∨ (0 ≤ f i ∧ f i ≤ 12)) : ∀ k : Nat, ((sn_F f k).2 = -4 ∧ (sn_F f k).1 = 1000000) ∨ ((0 ≤ (sn_F f k).2 ∧ (sn_F f k).2 < k) ∧ (0 ≤ (sn_F f k).1 ∧ (sn_F f k).1 ≤ 12)) := by
  intro k
  induction k with
  | zero => exact Or.inl ⟨rfl, rfl⟩
  | succ k ih =>
    simp only [sn_F]
    split
    · rename_i h
      have := hf k
      simp only []
      right
      omega
    · omega
noncomputable def sn_f (A : w_M) (k : Nat) : Int := n_done (n_row A k)
theorem n_done_le {A : w_M} (h : n_WF A) : n_done A = -4 ∨ (0 ≤ n_done A ∧ n_done A ≤ A 0 0 - A 0 1) := by
  have hr := h.hr
  have hl : n_left A = (A 0 0 - A 0 1).toNat := rfl
  rcases n_done_spec h with ⟨h1, -⟩ | ⟨h1, h2, -, -⟩
  · exact Or.inl h1
  · right; omega
theorem sn_f_le {A : w_M} (h : n_WF A) (k : Nat) : sn_f A k = -4 ∨ (0 ≤ sn_f A k ∧ sn_f A k ≤ A 0 0 - A 0 1) := by
  have := n_done_le (n_row_WF h (n_s_pos h) k)
  have e : (n_row A k) 0 = A 0 := by unfold n_row; exact n_bg_ne (by decide)
  rw [e] at this
  exact this
noncomputable def F_begin (S : w_S) (w : Int) : Int := if w = 0 ∨ (10 ≤ w ∧ w - 10 < S 0 0 5) then
  (if S 0 0 4 = 0 ∨ S 0 0 5 = 0 then -2 else if (sn_F (sn_f (S 0)) (ft_r (S 0))).2 = -4 then -4 else if w = 0 then (sn_F (sn_f (S 0)) (ft_r (S 0))).1 else ((dg (n_s (S 0)) (n_n (S 0)) (sn_F (sn_f (S 0)) (ft_r (S 0))).2.toNat (w - 10).toNat : Nat) : Int)) else -1
theorem n_cutF_bg {A : w_M} {f : Nat → Int} {r : Nat} {o : Int} : ∀ k : Nat, n_cutF (n_bg A f) r o k = n_cutF A r o k := by
  intro k
  have e0 : n_bg A f 0 = A 0 := n_bg_ne (by decide)
  induction k with
  | zero => show (n_bg A f 5 r, o, (0 : Int)) = (A 5 r, o, 0); rw [n_bg_ne (by decide)]
  | succ k ih =>
    rw [n_cutF_s, n_cutF_s, ih]
    unfold n_cl
    rw [e0]
theorem n_rch_bg {A : w_M} {f : Nat → Int} (k : Nat) : n_rch (n_bg A f) k = n_rch A k := by
  unfold n_rch
  have en : n_n (n_bg A f) = n_n A := by unfold n_n; rw [n_bg_ne (by decide)]
  rw [en]
  refine f_sum_congr (fun r _ => ?_)
  rw [n_cutF_bg, n_bg_ne (by decide), n_bg_ne (by decide)]
theorem n_lft_bg {A : w_M} {f : Nat → Int} {n : Int} : n_lft (n_bg A f) n = n_lft A n := by unfold n_lft; rw [n_bg_ne (by decide)]
theorem n_rch_le {A : w_M} (h : n_WF A) {k : Nat} (hk : k ≤ 12) : 0 ≤ n_rch A k ∧ n_rch A k ≤ 432 := by
  have hn := h.n
  have h1 := f_sum_le (f := fun r => A 3 r * (n_cutF A r (A 4 r) k).2.2) (B := 108) (m := n_n A) (fun r hr => by
    have a := (h.r hr).1
    have b := (n_cutF_le h hr (h.r hr).2.1 k).2.2
    exact ⟨Int.mul_nonneg (by omega) b.1, by have := Int.mul_le_mul a.2 (show (n_cutF A r (A 4 r) k).2.2 ≤ 12 by omega) b.1 (by decide); omega⟩) (Nat.le_refl _)
  unfold n_rch
  unfold n_n at h1 ⊢
  omega
