/-! A night's hour: what stays, what falls -/
theorem w_Call_in {E : w_C} {c : Nat} {as : List w_V} {σ : w_M} {Q : Option w_V → w_M → Prop} (h : w_ms σ → w_Call E c as σ Q) : w_Call E c as σ Q := fun h1 h2 h3 => h h3 h1 h2 h3
theorem w_Call_vs {E : w_C} {c : Nat} {as : List w_V} {σ : w_M} {Q : Option w_V → w_M → Prop} (h : w_vs as → w_Call E c as σ Q) : w_Call E c as σ Q := fun h1 h2 h3 => h h2 h1 h2 h3
theorem w_wr_wr {x y z : Int} : w_wr (w_wr (x + y) + z) = w_wr (x + (y + z)) := by
  unfold w_wr
  rw [← Int.add_assoc]
  simp
theorem w_wr_0 {x : Int} (h : w_in x) : w_wr (x + 0) = x := by rw [Int.add_zero]; exact w_wr_of h
theorem n_WF_up {A : w_M} {d i : Nat} {x : Int} (h : n_WF A) (h0 : d = 0 → i = 3 ∨ (i = 1 ∧ 0 ≤ x ∧ x ≤ A 0 0) ∨ (i = 2 ∧ 0 ≤ x ∧ x ≤ 4095)) (h1 : d = 1 → 0 ≤ x ∧ x ≤ 40) (h2 : d = 2 → 0 ≤ x ∧ x ≤ 3) (h3 : d ≠ 3) (h4 : d = 4 → 0 ≤ x ∧ x ≤ 9) (h5 : d = 5 → 0 ≤ x ∧ x ≤ 3) (h6 : d = 6 → 0 ≤ x ∧ x < A 0 4) (h9 : d = 9 → x = 0 ∨ x = 1) : n_WF (w_up A d i x) := by
  have e4 : w_up A d i x 0 4 = A 0 4 := by rw [w_up_eq, if_neg (by omega)]
  have e5 : w_up A d i x 0 5 = A 0 5 := by rw [w_up_eq, if_neg (by omega)]
  have e0 : w_up A d i x 0 0 = A 0 0 := by rw [w_up_eq, if_neg (by omega)]
  have es : n_s (w_up A d i x) = n_s A := by unfold n_s; rw [e4]
  have en : n_n (w_up A d i x) = n_n A := by unfold n_n; rw [e5]
  refine ⟨by rw [e0]; exact h.hrs, ?_, ?_, by rw [e4]; exact h.s, by rw [e5]; exact h.n, ?_, ?_⟩
  · rw [e0, w_up_eq]
    have := h.hr
    split <;> omega
  · rw [w_up_eq]
    have := h.2.2.1
    split <;> omega
  · intro j hj
    rw [es] at hj
    have := h.i hj
    refine ⟨?_, ?_, ?_⟩
    · rw [w_up_eq]; split
      · rename_i q; exact h1 q.1.symm
      · exact this.1
    · rw [w_up_eq]; split
      · rename_i q; exact h2 q.1.symm
      · exact this.2.1
    · rw [w_up_eq]; split
      · rename_i q; exact h9 q.1.symm
      · exact this.2.2
  · intro j hj
    rw [en] at hj
    have := h.r hj
    refine ⟨?_, ?_, ?_, ?_⟩
    · rw [w_up_eq, if_neg (by omega)]; exact this.1
    · rw [w_up_eq]; split
      · rename_i q; exact h4 q.1.symm
      · exact this.2.1
    · rw [w_up_eq]; split
      · rename_i q; exact h5 q.1.symm
      · exact this.2.2.1
    · rw [e4, w_up_eq]; split
      · rename_i q; exact h6 q.1.symm
      · exact this.2.2.2
theorem n_pc_le {A : w_M} (h : n_WF A) {r i : Nat} (hr : r < n_n A) : 1 ≤ n_pc A r i ∧ n_pc A r i ≤ A 3 r := by
  have := (h.r hr).1
  unfold n_pc
  split
  · rw [Int.tdiv_eq_ediv_of_nonneg (by omega)]
    omega
  · omega
theorem n_amt_le {A : w_M} (h : n_WF A) {r i : Nat} (hr : r < n_n A) (hi : i < n_s A) : 0 ≤ n_amt A r i ∧ n_amt A r i ≤ A 1 i ∧ n_amt A r i ≤ A 3 r ∧ (0 < A 1 i → 1 ≤ n_amt A r i) := by
  have h1 := n_pc_le (i := i) h hr
  have h2 := (h.i hi).1
  unfold n_amt
  split <;> omega
theorem n_sd_up {A : w_M} {d i : Nat} {x : Int} (hd : d ≠ 1) (h0 : d = 0 → i ≠ 4) : n_sd (w_up A d i x) = n_sd A := by
  have e4 : w_up A d i x 0 4 = A 0 4 := by rw [w_up_eq, if_neg (by omega)]
  unfold n_sd n_s
  rw [e4, w_up_ne (by omega)]
theorem n_sd_up1 {A : w_M} {i : Nat} {x : Int} (hi : i < n_s A) : n_sd (w_up A 1 i x) = n_sd A + (x - A 1 i) := by
  have e4 : w_up A 1 i x 0 4 = A 0 4 := by rw [w_up_eq, if_neg (by omega)]
  unfold n_sd
  have es : n_s (w_up A 1 i x) = n_s A := by unfold n_s; rw [e4]
  rw [es, f_sum_up (f := A 1) hi (fun k _ hk => by rw [w_up_eq, if_neg (by omega)])]
  rw [w_up_at]
theorem n_cut_WF {A : w_M} (h : n_WF A) {r i : Nat} (hr : r < n_n A) (hi : i < n_s A) : n_WF (n_cut A r i) := by
  have h1 := n_amt_le h hr hi
  have h2 := (h.i hi).1
  unfold n_cut
  refine n_WF_up (n_WF_up (n_WF_up (n_WF_up h ?_ ?_ ?_ ?_ ?_ ?_ ?_ ?_) ?_ ?_ ?_ ?_ ?_ ?_ ?_ ?_) ?_ ?_ ?_ ?_ ?_ ?_ ?_ ?_) ?_ ?_ ?_ ?_ ?_ ?_ ?_ ?_
  all_goals (intros; omega)
theorem n_cut_sd {A : w_M} {r i : Nat} (hi : i < n_s A) : n_sd (n_cut A r i) = n_sd A - n_amt A r i := by
  unfold n_cut
  rw [n_sd_up (by decide) (by omega), n_sd_up (by decide) (by omega), n_sd_up (by decide) (by omega), n_sd_up1 hi]
  omega
/-- what no hour changes -/
noncomputable def n_same (A B : w_M) : Prop := (∀ j, j ≠ 1 → j ≠ 3 → B 0 j = A 0 j) ∧ B 2 = A 2 ∧ B 3 = A 3 ∧ B 9 = A 9
theorem n_same.rfl' {A : w_M} : n_same A A := ⟨fun _ _ _ => rfl, rfl, rfl, rfl⟩
theorem n_same.tr {A B C : w_M} (h : n_same A B) (h2 : n_same B C) : n_same A C := ⟨fun j a b => (h2.1 j a b).trans (h.1 j a b), h2.2.1.trans h.2.1, h2.2.2.1.trans h.2.2.1, h2.2.2.2.trans h.2.2.2⟩
theorem n_same.up {A B : w_M} {d i : Nat} {x : Int} (h : n_same A B) (h0 : d = 0 → i = 1 ∨ i = 3) (h2 : d ≠ 2) (h3 : d ≠ 3) (h9 : d ≠ 9) : n_same A (w_up B d i x) :=
  ⟨fun j a b => by rw [w_up_eq, if_neg (by omega)]; exact h.1 j a b, by rw [w_up_ne (by omega)]; exact h.2.1, by rw [w_up_ne (by omega)]; exact h.2.2.1, by rw [w_up_ne (by omega)]; exact h.2.2.2⟩
theorem n_same.s {A B : w_M} (h : n_same A B) : n_s B = n_s A := by unfold n_s; rw [h.1 4 (by decide) (by decide)]
theorem n_same.n {A B : w_M} (h : n_same A B) : n_n B = n_n A := by unfold n_n; rw [h.1 5 (by decide) (by decide)]
theorem n_work_all {A : w_M} (h : n_WF A) {r : Nat} (hr : r < n_n A) {c : Int} (hc : c = 0 ∨ c = 1) : n_WF (n_work A r c) ∧ n_same A (n_work A r c) ∧ (n_work A r c) 0 1 = A 0 1 ∧ n_sd (n_work A r c) ≤ n_sd A ∧ (0 ≤ n_lost A r c ∧ n_lost A r c ≤ 9) := by
  have hR := h.r hr
  have hs := h.s
  have hsn : n_s A ≤ 1000 := by unfold n_s; omega
  rcases n_near_cases (A := A) (f := A 6 r) (by omega) hsn with ⟨h1, h2⟩ | ⟨i, h1, h2, h3⟩
  · unfold n_work n_lost
    rw [if_pos h1, if_pos h1]
    exact ⟨h, n_same.rfl', rfl, Int.le_refl _, by omega, by omega⟩
  · have hne : ¬ n_near A (A 6 r) = -4 := by omega
    have hin : 0 ≤ n_near A (A 6 r) ∧ n_near A (A 6 r) < A 0 4 := by
      rw [h2]
      unfold n_s at h1
      omega
    have W6 : n_WF (w_up A 6 r (n_near A (A 6 r))) := by
      refine n_WF_up h ?_ ?_ ?_ ?_ ?_ ?_ ?_ ?_ <;> (intros; omega)
    unfold n_work n_lost
    rw [if_neg hne, if_neg hne]
    by_cases h5 : A 5 r = 0
    · rw [if_pos h5, if_pos h5]
      refine ⟨n_WF_up W6 ?_ ?_ ?_ ?_ ?_ ?_ ?_ ?_, (n_same.rfl'.up ?_ ?_ ?_ ?_).up ?_ ?_ ?_ ?_, ?_, ?_, by omega, by omega⟩
      all_goals first | (intros; omega) | skip
      · rw [w_up_eq, if_neg (by omega), w_up_eq, if_neg (by omega)]
      · rw [n_sd_up (by decide) (by omega), n_sd_up (by decide) (by omega)]
        exact Int.le_refl _
    · rw [if_neg h5, if_neg h5]
      by_cases ho : c = 0 ∨ 0 < A 4 r
      · rw [if_pos ho, if_pos ho]
        have en : (n_near A (A 6 r)).toNat = i := by rw [h2]; exact Int.toNat_natCast i
        rw [en]
        have W5 : n_WF (w_up (w_up A 6 r (n_near A (A 6 r))) 5 r (A 5 r - 1)) := by
          refine n_WF_up W6 ?_ ?_ ?_ ?_ ?_ ?_ ?_ ?_ <;> (intros; omega)
        have W4 : n_WF (w_up (w_up (w_up A 6 r (n_near A (A 6 r))) 5 r (A 5 r - 1)) 4 r (A 4 r - c)) := by
          refine n_WF_up W5 ?_ ?_ ?_ ?_ ?_ ?_ ?_ ?_ <;> (intros; omega)
        have S4 : n_same A (w_up (w_up (w_up A 6 r (n_near A (A 6 r))) 5 r (A 5 r - 1)) 4 r (A 4 r - c)) := by
          refine ((n_same.rfl'.up ?_ ?_ ?_ ?_).up ?_ ?_ ?_ ?_).up ?_ ?_ ?_ ?_ <;> (intros; omega)
        have y4 : n_sd (w_up (w_up (w_up A 6 r (n_near A (A 6 r))) 5 r (A 5 r - 1)) 4 r (A 4 r - c)) = n_sd A := by
          rw [n_sd_up (by decide) (by omega), n_sd_up (by decide) (by omega), n_sd_up (by decide) (by omega)]
        have z4 : (w_up (w_up (w_up A 6 r (n_near A (A 6 r))) 5 r (A 5 r - 1)) 4 r (A 4 r - c)) 0 1 = A 0 1 := by
          rw [w_up_eq, if_neg (by omega), w_up_eq, if_neg (by omega), w_up_eq, if_neg (by omega)]
        generalize w_up (w_up (w_up A 6 r (n_near A (A 6 r))) 5 r (A 5 r - 1)) 4 r (A 4 r - c) = B at W4 S4 y4 z4
        have hrB : r < n_n B := by rw [S4.n]; exact hr
        have hiB : i < n_s B := by rw [S4.s]; exact h1
        have am := n_amt_le W4 hrB hiB
        have am2 := n_amt_le h hr h1
        refine ⟨n_cut_WF W4 hrB hiB, ?_, ?_, ?_, by omega, by omega⟩
        · unfold n_cut
          refine (((S4.up ?_ ?_ ?_ ?_).up ?_ ?_ ?_ ?_).up ?_ ?_ ?_ ?_).up ?_ ?_ ?_ ?_ <;> (intros; omega)
        · unfold n_cut
          rw [w_up_eq, if_neg (by omega), w_up_eq, if_neg (by omega), w_up_eq, if_neg (by omega), w_up_eq, if_neg (by omega)]
          exact z4
        · rw [n_cut_sd hiB, y4]
          omega
      · rw [if_neg ho, if_neg ho]
        refine ⟨W6, n_same.rfl'.up ?_ ?_ ?_ ?_, ?_, ?_, by omega, by omega⟩
        all_goals first | (intros; omega) | skip
        · rw [w_up_eq, if_neg (by omega)]
        · rw [n_sd_up (by decide) (by omega)]
          exact Int.le_refl _
theorem n_hourF_all {A : w_M} (h : n_WF A) {c : Int} (hc : c = 0 ∨ c = 1) : ∀ k : Nat, k ≤ n_n A → n_WF (n_hourF A c k) ∧ n_same A (n_hourF A c k) ∧ (n_hourF A c k) 0 1 = A 0 1 ∧ n_sd (n_hourF A c k) ≤ n_sd A ∧ (0 ≤ n_lostF A c k ∧ n_lostF A c k ≤ 9 * k) := by
  intro k
  induction k with
  | zero => intro _; exact ⟨h, n_same.rfl', rfl, Int.le_refl _, by simp [n_lostF]⟩
  | succ k ih =>
    intro hk
    obtain ⟨h1, h2, h3, h4, h5⟩ := ih (by omega)
    obtain ⟨g1, g2, g3, g4, g5⟩ := n_work_all h1 (r := k) (by rw [h2.n]; omega) hc
    simp only [n_hourF, n_lostF]
    refine ⟨g1, h2.tr g2, g3.trans h3, by omega, by omega, by omega⟩
theorem n_hour_all {A : w_M} (h : n_WF A) (hh : A 0 1 < A 0 0) {c : Int} (hc : c = 0 ∨ c = 1) : n_WF (n_hour A c) ∧ n_same A (n_hour A c) ∧ (n_hour A c) 0 1 = A 0 1 + 1 ∧ n_sd (n_hour A c) ≤ n_sd A := by
  obtain ⟨h1, h2, h3, h4, h5⟩ := n_hourF_all h hc (n_n A) (Nat.le_refl _)
  have := h.hr
  unfold n_hour
  refine ⟨n_WF_up h1 ?_ ?_ ?_ ?_ ?_ ?_ ?_ ?_, h2.up ?_ ?_ ?_ ?_, w_up_at, ?_⟩
  all_goals first | (intros; omega) | skip
  · intro _
    have e0 := h2.1 0 (by decide) (by decide)
    right; left
    exact ⟨rfl, by omega, by omega⟩
  · rw [n_sd_up (by decide) (by omega)]
    exact h4
theorem n_cl01 (A : w_M) (t : Int) : n_cl A t = 0 ∨ n_cl A t = 1 := w_and1 _
theorem n_on_all {A : w_M} (h : n_WF A) (hh : A 0 1 < A 0 0) : n_WF (n_on A) ∧ n_same A (n_on A) ∧ (n_on A) 0 1 = A 0 1 + 1 ∧ n_sd (n_on A) ≤ n_sd A := n_hour_all h hh (n_cl01 _ _)
theorem n_goes_all {A : w_M} (h : n_WF A) : ∀ k : Nat, n_WF (n_goes A k) ∧ n_same A (n_goes A k) ∧ ((n_goes A k) 0 1 = if A 0 1 + k ≤ A 0 0 then A 0 1 + k else A 0 0) ∧ n_sd (n_goes A k) ≤ n_sd A := by
  intro k
  induction k with
  | zero =>
    have := h.hr
    refine ⟨h, n_same.rfl', ?_, Int.le_refl _⟩
    simp only [n_goes]
    split <;> omega
  | succ k ih =>
    obtain ⟨h1, h2, h3, h4⟩ := ih
    have e0 := h2.1 0 (by decide) (by decide)
    have := h.hr
    simp only [n_goes]
    split
    · rename_i hlt
      obtain ⟨g1, g2, g3, g4⟩ := n_on_all h1 hlt
      refine ⟨g1, h2.tr g2, ?_, by omega⟩
      rw [g3, h3]
      rw [h3, e0] at hlt
      split at hlt
      · rename_i q
        rw [if_pos q, if_pos (by omega)]
        omega
      · omega
    · rename_i hlt
      refine ⟨h1, h2, ?_, h4⟩
      rw [h3]
      rw [h3, e0] at hlt
      split at hlt
      · rename_i q
        rw [if_pos q]
        split <;> omega
      · rename_i q
        rw [if_neg q, if_neg (by omega)]
/-- beyond the night's end nothing more happens -/
theorem n_goes_end {A : w_M} {k : Nat} (h : ¬ (n_goes A k) 0 1 < (n_goes A k) 0 0) : ∀ j : Nat, n_goes A (k + j) = n_goes A k := by
  intro j
  induction j with
  | zero => rfl
  | succ j ih =>
    show (if (n_goes A (k + j)) 0 1 < (n_goes A (k + j)) 0 0 then n_on (n_goes A (k + j)) else n_goes A (k + j)) = n_goes A k
    rw [ih, if_neg h]
/-- with nothing standing nobody does anything -/
theorem n_work_done {A : w_M} (h : n_WF A) (hd : n_sd A = 0) {r : Nat} (hr : r < n_n A) {c : Int} : n_work A r c = A ∧ n_lost A r c = 0 := by
  have hR := h.r hr
  have hs := h.s
  have hsn : n_s A ≤ 1000 := by unfold n_s; omega
  have h0 : ∀ j, j < n_s A → ¬ 0 < A 1 j := fun j hj hy => by
    have := f_sum_ge (f := A 1) (fun i hi => ((h.i hi).1).1) hj
    unfold n_sd at hd
    omega
  have h1 := n_near_none (A := A) (f := A 6 r) (by omega) hsn h0
  unfold n_work n_lost
  rw [if_pos h1, if_pos h1]
  exact ⟨rfl, rfl⟩
theorem n_hour_done {A : w_M} (h : n_WF A) (hd : n_sd A = 0) {c : Int} : n_hour A c = w_up A 0 1 (A 0 1 + 1) := by
  have key : ∀ k : Nat, k ≤ n_n A → n_hourF A c k = A := by
    intro k
    induction k with
    | zero => intro _; rfl
    | succ k ih =>
      intro hk
      simp only [n_hourF]
      rw [ih (by omega)]
      exact (n_work_done h hd (by omega)).1
  unfold n_hour
  rw [key _ (Nat.le_refl _)]
