/-! The odds, pure: the class's tree of hours and the reference's rows of clouds are one sum -/
theorem w_shr_nat {c k : Nat} (hc : c < 2147483648) (hk : k < 13) : w_shr (c : Int) (k : Int) = ((c / 2 ^ k : Nat) : Int) := by
  have hb : ((Int32.ofInt (k : Int) &&& 31).toBitVec.smod 32#32).toNat = k := by
    have : ∀ k, k < 13 → ((Int32.ofInt ((k : Nat) : Int) &&& 31).toBitVec.smod 32#32).toNat = k := by decide +kernel
    exact this k hk
  have hm : (Int32.ofInt (c : Int)).toBitVec.msb = false := by
    rw [BitVec.msb_eq_false_iff_two_mul_lt, w_nn hc]
    omega
  have h : (Int32.ofInt (c : Int) >>> (Int32.ofInt (k : Int) &&& 31)).toBitVec.toNat = c / 2 ^ k := by
    show ((Int32.ofInt (c : Int)).toBitVec.sshiftRight ((Int32.ofInt (k : Int) &&& 31).toBitVec.smod 32#32).toNat).toNat = c / 2 ^ k
    rw [hb, BitVec.sshiftRight_eq_of_msb_false hm, BitVec.toNat_ushiftRight, w_nn hc, Nat.shiftRight_eq_div_pow]
  have hlt : c / 2 ^ k < 2147483648 := Nat.lt_of_le_of_lt (Nat.div_le_self _ _) hc
  show (Int32.ofInt (c : Int) >>> (Int32.ofInt (k : Int) &&& 31)).toInt = _
  rw [w_pos (by rw [h]; exact hlt), h]
theorem w_and1_nat {x : Nat} (hx : x < 2147483648) : w_and (x : Int) 1 = ((x % 2 : Nat) : Int) := by
  have h : (Int32.ofInt (x : Int) &&& Int32.ofInt 1).toBitVec.toNat = x % 2 := by
    rw [Int32.toBitVec_and, BitVec.toNat_and, w_nn hx]
    exact Nat.and_one_is_mod x
  show (Int32.ofInt (x : Int) &&& Int32.ofInt 1).toInt = _
  rw [w_pos (by rw [h]; omega), h]
theorem lk_b_nat {c k : Nat} (hc : c < 2147483648) (hk : k < 13) : lk_b c k = ((c / 2 ^ k % 2 : Nat) : Int) := by
  unfold lk_b
  rw [w_shr_nat hc hk, w_and1_nat (Nat.lt_of_le_of_lt (Nat.div_le_self _ _) hc)]
theorem lk_b_0 {c b : Nat} (hc : c < 4096) (hb : b < 2) : lk_b (2 * c + b) 0 = b := by
  rw [lk_b_nat (by omega) (by decide)]
  simp
  omega
theorem lk_b_s {c b k : Nat} (hc : c < 4096) (hb : b < 2) (hk : k < 12) : lk_b (2 * c + b) (k + 1) = lk_b c k := by
  rw [lk_b_nat (by omega) (by omega), lk_b_nat (by omega) (by omega), Nat.pow_succ, Nat.mul_comm (2 ^ k) 2, ← Nat.div_div_eq_div_mul, show (2 * c + b) / 2 = c by omega]
theorem lk_A_s {A : w_M} {c b : Nat} (hc : c < 4096) (hb : b < 2) : ∀ k : Nat, k ≤ 12 → lk_A A (2 * c + b) (k + 1) = lk_A (n_hour A b) c k := by
  intro k
  induction k with
  | zero => intro _; simp only [lk_A]; rw [lk_b_0 hc hb]
  | succ k ih =>
    intro hk
    show n_hour (lk_A A (2 * c + b) (k + 1)) (lk_b (2 * c + b) (k + 1)) = n_hour (lk_A (n_hour A b) c k) (lk_b c k)
    rw [ih (by omega), lk_b_s hc hb (by omega)]
theorem lk_w_s {v : Int} {c b : Nat} (hc : c < 4096) (hb : b < 2) : ∀ k : Nat, k ≤ 12 → lk_w v (2 * c + b) (k + 1) = lk_f v b * lk_w v c k := by
  intro k
  induction k with
  | zero => intro _; simp only [lk_w]; rw [lk_b_0 hc hb, Int.one_mul, Int.mul_one]
  | succ k ih =>
    intro hk
    show lk_w v (2 * c + b) (k + 1) * lk_f v (lk_b (2 * c + b) (k + 1)) = lk_f v b * (lk_w v c k * lk_f v (lk_b c k))
    rw [ih (by omega), lk_b_s hc hb (by omega), Int.mul_assoc]
theorem f_sum_two (g : Nat → Int) : ∀ m : Nat, f_sum g (2 * m) = f_sum (fun c => g (2 * c) + g (2 * c + 1)) m := by
  intro m
  induction m with
  | zero => rfl
  | succ m ih =>
    show f_sum g (2 * m + 1 + 1) = _
    simp only [f_sum]
    rw [ih]
    omega
theorem f_sum_lin {f g : Nat → Int} {a b : Int} : ∀ m : Nat, f_sum (fun c => a * f c + b * g c) m = a * f_sum f m + b * f_sum g m := by
  intro m
  induction m with
  | zero => simp [f_sum]
  | succ m ih => simp only [f_sum]; rw [ih, Int.mul_add, Int.mul_add]; omega
theorem lk_t_s {A : w_M} {v : Int} {c b n : Nat} (hc : c < 4096) (hb : b < 2) (hn : n ≤ 12) : lk_t A v (n + 1) (2 * c + b) = lk_f v b * lk_t (n_hour A b) v n c := by
  unfold lk_t
  rw [lk_A_s hc hb n hn, lk_w_s hc hb n hn]
  split
  · rfl
  · rw [Int.mul_zero]
theorem lk_rec {A : w_M} {v : Int} {n : Nat} (hn : n < 12) : lk_s A v (n + 1) (2 ^ (n + 1)) = (10 - v) * lk_s (n_hour A 0) v n (2 ^ n) + v * lk_s (n_hour A 1) v n (2 ^ n) := by
  have h2 : 2 ^ n < 4096 := Nat.pow_lt_pow_right (a := 2) (by decide) hn
  unfold lk_s
  rw [Nat.pow_succ, Nat.mul_comm, f_sum_two, ← f_sum_lin]
  refine f_sum_congr (fun c hc => ?_)
  have e0 := lk_t_s (A := A) (v := v) (c := c) (b := 0) (n := n) (by omega) (by decide) (by omega)
  have e1 := lk_t_s (A := A) (v := v) (c := c) (b := 1) (n := n) (by omega) (by decide) (by omega)
  exact (show lk_t A v (n + 1) (2 * c + 0) + lk_t A v (n + 1) (2 * c + 1) = _ by rw [e0, e1]; rfl)
theorem lk_0 {A : w_M} {v : Int} : lk_s A v 0 (2 ^ 0) = if n_sd A = 0 then 1 else 0 := by
  show 0 + lk_t A v 0 0 = _
  rw [Int.zero_add]
  rfl
/-- with nothing standing all odds are for it -/
theorem lk_done {v : Int} : ∀ (n : Nat) (A : w_M), n_WF A → n_sd A = 0 → n ≤ 12 → A 0 1 + n ≤ A 0 0 → lk_s A v n (2 ^ n) = lk_p n := by
  intro n
  induction n with
  | zero => intro A hA h0 _ _; rw [lk_0, if_pos h0]; rfl
  | succ n ih =>
    intro A hA h0 hn hh
    have g : ∀ c : Int, c = 0 ∨ c = 1 → lk_s (n_hour A c) v n (2 ^ n) = lk_p n := fun c hc => by
      obtain ⟨g1, g2, g3, g4⟩ := n_hour_all hA (by omega) hc
      have e0 : (n_hour A c) 0 0 = A 0 0 := g2.1 0 (by decide) (by decide)
      have := n_sd_le g1
      exact ih _ g1 (by omega) (by omega) (by omega)
    rw [lk_rec (by omega), g 0 (Or.inl rfl), g 1 (Or.inr rfl), lk_p_s, ← Int.add_mul, Int.mul_comm]
    congr 1
    omega
theorem n_work_sd {A : w_M} (h : n_WF A) {r : Nat} (hr : r < n_n A) {c : Int} (hc : c = 0 ∨ c = 1) : n_sd A - A 3 r ≤ n_sd (n_work A r c) := by
  have hR := h.r hr
  have hs := h.s
  have hsn : n_s A ≤ 1000 := by unfold n_s; omega
  rcases n_near_cases (A := A) (f := A 6 r) (by omega) hsn with ⟨h1, h2⟩ | ⟨i, h1, h2, h3⟩
  · unfold n_work
    rw [if_pos h1]
    omega
  · have hne : ¬ n_near A (A 6 r) = -4 := by omega
    unfold n_work
    rw [if_neg hne]
    by_cases h5 : A 5 r = 0
    · rw [if_pos h5, n_sd_up (by decide) (by omega), n_sd_up (by decide) (by omega)]
      omega
    · rw [if_neg h5]
      by_cases ho : c = 0 ∨ 0 < A 4 r
      · rw [if_pos ho]
        have en : (n_near A (A 6 r)).toNat = i := by rw [h2]; exact Int.toNat_natCast i
        rw [en]
        have y4 : n_sd (w_up (w_up (w_up A 6 r (n_near A (A 6 r))) 5 r (A 5 r - 1)) 4 r (A 4 r - c)) = n_sd A := by
          rw [n_sd_up (by decide) (by omega), n_sd_up (by decide) (by omega), n_sd_up (by decide) (by omega)]
        have s4 : n_s (w_up (w_up (w_up A 6 r (n_near A (A 6 r))) 5 r (A 5 r - 1)) 4 r (A 4 r - c)) = n_s A := by
          unfold n_s
          rw [w_up_ne (by decide), w_up_ne (by decide), w_up_ne (by decide)]
        have a4 : n_amt (w_up (w_up (w_up A 6 r (n_near A (A 6 r))) 5 r (A 5 r - 1)) 4 r (A 4 r - c)) r i = n_amt A r i := n_amt_congr (by rw [w_up_ne (by decide), w_up_ne (by decide), w_up_ne (by decide)]) (by rw [w_up_ne (by decide), w_up_ne (by decide), w_up_ne (by decide)]) (by rw [w_up_ne (by decide), w_up_ne (by decide), w_up_ne (by decide)])
        have am := n_amt_le h hr h1
        rw [n_cut_sd (by rw [s4]; exact h1), y4, a4]
        omega
      · rw [if_neg ho, n_sd_up (by decide) (by omega)]
        omega
theorem n_hour_sd {A : w_M} (h : n_WF A) {c : Int} (hc : c = 0 ∨ c = 1) : n_sd A - n_pcs A ≤ n_sd (n_hour A c) := by
  have key : ∀ k : Nat, k ≤ n_n A → n_sd A - f_sum (A 3) k ≤ n_sd (n_hourF A c k) := by
    intro k
    induction k with
    | zero => intro _; simp [f_sum, n_hourF]
    | succ k ih =>
      intro hk
      obtain ⟨h1, h2, -, -, -⟩ := n_hourF_all h hc k (by omega)
      have h3 := n_work_sd h1 (r := k) (by rw [h2.n]; omega) hc
      rw [h2.2.2.1] at h3
      have := ih (by omega)
      simp only [f_sum, n_hourF]
      omega
  unfold n_hour
  rw [n_sd_up (by decide) (by omega)]
  exact key _ (Nat.le_refl _)
theorem n_pcs_le {A : w_M} (h : n_WF A) : 0 ≤ n_pcs A ∧ n_pcs A ≤ 36 := by
  have h1 := f_sum_le (f := A 3) (B := 9) (m := n_n A) (fun i hi => by have := (h.r hi).1; omega) (Nat.le_refl _)
  have h2 := h.n
  unfold n_pcs
  unfold n_n at h1 ⊢
  omega
/-- with too much standing none are -/
theorem lk_zero {v : Int} : ∀ (n : Nat) (A : w_M), n_WF A → (n : Int) * n_pcs A < n_sd A → n ≤ 12 → A 0 1 + n ≤ A 0 0 → lk_s A v n (2 ^ n) = 0 := by
  intro n
  induction n with
  | zero =>
    intro A hA h0 _ _
    rw [lk_0, if_neg (by intro h; rw [h] at h0; simp at h0)]
  | succ n ih =>
    intro A hA h0 hn hh
    have g : ∀ c : Int, c = 0 ∨ c = 1 → lk_s (n_hour A c) v n (2 ^ n) = 0 := fun c hc => by
      obtain ⟨g1, g2, g3, g4⟩ := n_hour_all hA (by omega) hc
      have e0 : (n_hour A c) 0 0 = A 0 0 := g2.1 0 (by decide) (by decide)
      have e3 : n_pcs (n_hour A c) = n_pcs A := by unfold n_pcs; rw [g2.n, g2.2.2.1]
      have hs := n_hour_sd hA hc
      refine ih _ g1 ?_ (by omega) (by omega)
      rw [e3]
      have : ((n + 1 : Nat) : Int) * n_pcs A = n * n_pcs A + n_pcs A := by rw [Int.natCast_add, Int.add_mul]; simp
      omega
    rw [lk_rec (by omega), g 0 (Or.inl rfl), g 1 (Or.inr rfl)]
    simp
/-- nights that go on alike: all but the bride, the wages, the harvests -/
noncomputable def n_lk (A B : w_M) : Prop := (∀ j, j ≠ 3 → B 0 j = A 0 j) ∧ ∀ d, 1 ≤ d → d ≠ 7 → d ≠ 8 → B d = A d
theorem n_lk.rfl' {A : w_M} : n_lk A A := ⟨fun _ _ => rfl, fun _ _ _ _ => rfl⟩
theorem n_lk.sym {A B : w_M} (h : n_lk A B) : n_lk B A := ⟨fun j hj => (h.1 j hj).symm, fun d h1 h2 h3 => (h.2 d h1 h2 h3).symm⟩
theorem n_lk.tr {A B C : w_M} (h : n_lk A B) (g : n_lk B C) : n_lk A C := ⟨fun j hj => (g.1 j hj).trans (h.1 j hj), fun d h1 h2 h3 => (g.2 d h1 h2 h3).trans (h.2 d h1 h2 h3)⟩
theorem n_lk.up {A B : w_M} (h : n_lk A B) (d i : Nat) (x : Int) : n_lk (w_up A d i x) (w_up B d i x) := by
  refine ⟨fun j hj => ?_, fun e h1 h2 h3 => ?_⟩
  · rw [w_up_eq, w_up_eq, h.1 j hj]
  · funext j
    rw [w_up_eq, w_up_eq, h.2 e h1 h2 h3]
theorem n_lk.no {A B : w_M} (h : n_lk A B) {d i : Nat} {x : Int} (hd : (d = 0 ∧ i = 3) ∨ d = 7 ∨ d = 8) : n_lk A (w_up B d i x) := by
  refine ⟨fun j hj => ?_, fun e h1 h2 h3 => ?_⟩
  · rw [w_up_eq, if_neg (by omega)]; exact h.1 j hj
  · rw [w_up_ne (by omega)]; exact h.2 e h1 h2 h3
theorem n_lk.s {A B : w_M} (h : n_lk A B) : n_s B = n_s A := by unfold n_s; rw [h.1 4 (by decide)]
theorem n_lk.n {A B : w_M} (h : n_lk A B) : n_n B = n_n A := by unfold n_n; rw [h.1 5 (by decide)]
theorem n_lk.sd {A B : w_M} (h : n_lk A B) : n_sd B = n_sd A := by unfold n_sd; rw [h.s, h.2 1 (by decide) (by decide) (by decide)]
theorem n_lk.near {A B : w_M} (h : n_lk A B) (f : Int) : n_near B f = n_near A f := by
  have key : ∀ k : Nat, n_nearF B f k = n_nearF A f k := by
    intro k
    induction k with
    | zero => rfl
    | succ k ih => simp only [n_nearF]; rw [ih, h.2 1 (by decide) (by decide) (by decide)]
  unfold n_near
  rw [h.s, key]
theorem n_lk_cut (A : w_M) (r i : Nat) : n_lk (w_up A 1 i (A 1 i - n_amt A r i)) (n_cut A r i) := by
  unfold n_cut
  exact ((n_lk.rfl'.no (Or.inr (Or.inl rfl))).no (Or.inl ⟨rfl, rfl⟩)).no (Or.inr (Or.inr rfl))
theorem n_lk.cut {A B : w_M} (h : n_lk A B) (r i : Nat) : n_lk (n_cut A r i) (n_cut B r i) := by
  have e1 := h.2 1 (by decide) (by decide) (by decide)
  have ea : n_amt B r i = n_amt A r i := n_amt_congr e1 (h.2 3 (by decide) (by decide) (by decide)) (h.2 9 (by decide) (by decide) (by decide))
  refine (n_lk_cut A r i).sym.tr (n_lk.tr ?_ (n_lk_cut B r i))
  rw [ea, e1]
  exact h.up _ _ _
theorem n_lk.work {A B : w_M} (h : n_lk A B) (r : Nat) (c : Int) : n_lk (n_work A r c) (n_work B r c) := by
  have e4 := h.2 4 (by decide) (by decide) (by decide)
  have e5 := h.2 5 (by decide) (by decide) (by decide)
  have e6 := h.2 6 (by decide) (by decide) (by decide)
  unfold n_work
  rw [e6, h.near, e5, e4]
  split
  · exact h
  · split
    · exact (h.up _ _ _).up _ _ _
    · split
      · exact (((h.up _ _ _).up _ _ _).up _ _ _).cut _ _
      · exact h.up _ _ _
theorem n_lk.hour {A B : w_M} (h : n_lk A B) (c : Int) : n_lk (n_hour A c) (n_hour B c) := by
  have key : ∀ k : Nat, n_lk (n_hourF A c k) (n_hourF B c k) := by
    intro k
    induction k with
    | zero => exact h
    | succ k ih => exact ih.work k c
  unfold n_hour
  rw [h.n, h.1 1 (by decide)]
  exact (key _).up _ _ _
theorem n_lk.lk {A B : w_M} (h : n_lk A B) {v : Int} {n m : Nat} : lk_s B v n m = lk_s A v n m := by
  have key : ∀ c k : Nat, n_lk (lk_A A c k) (lk_A B c k) := by
    intro c k
    induction k with
    | zero => exact h
    | succ k ih => exact ih.hour _
  unfold lk_s
  refine f_sum_congr (fun c _ => ?_)
  unfold lk_t
  rw [(key c n).sd]
theorem n_lk.WF {A B : w_M} (h : n_lk A B) (hA : n_WF A) : n_WF B := by
  have e := h.1
  unfold n_WF at hA ⊢
  rw [h.s, h.n, e 0 (by decide), e 1 (by decide), e 2 (by decide), e 4 (by decide), e 5 (by decide), h.2 1 (by decide) (by decide) (by decide), h.2 2 (by decide) (by decide) (by decide), h.2 3 (by decide) (by decide) (by decide), h.2 4 (by decide) (by decide) (by decide), h.2 5 (by decide) (by decide) (by decide), h.2 6 (by decide) (by decide) (by decide), h.2 9 (by decide) (by decide) (by decide)]
  exact hA
