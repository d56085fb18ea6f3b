/-! The hare's runs: how many come to a strip, how many go on from there -/
noncomputable def r_bes (s : Nat) (f : Nat → Int) (i : Nat) : Int := (if 0 < i then f (i - 1) else 0) + f i + (if i + 1 < s then f (i + 1) else 0)
noncomputable def r_if (B : w_M) (n i : Nat) (v : Int) : Int := @ite _ (se_al B n i) (Classical.propDecidable _) v 0
noncomputable def r_c (B : w_M) (s : Nat) : Nat → Nat → Int
  | 0, i => r_if B 0 i 1
  | n + 1, i => r_if B (n + 1) i (r_bes s (r_c B s n) i)
/-- m hours before the last, hour 6 - m -/
noncomputable def r_g (B : w_M) (s : Nat) : Nat → Nat → Int
  | 0, i => r_if B 6 i 1
  | m + 1, i => r_if B (6 - (m + 1)) i (r_bes s (r_g B s m) i)
noncomputable def r_h (B : w_M) (s : Nat) : Nat → Nat → Int
  | 0, _ => 1
  | m + 1, i => r_bes s (r_g B s m) i
theorem r_g_h {B : w_M} {s : Nat} (m i : Nat) : r_g B s m i = r_if B (6 - m) i (r_h B s m i) := by
  cases m <;> rfl
theorem r_if_l {B : w_M} {n i : Nat} {v w : Int} : v * r_if B n i w = r_if B n i (v * w) := by
  unfold r_if
  by_cases h : se_al B n i
  · rw [if_pos h, if_pos h]
  · rw [if_neg h, if_neg h, Int.mul_zero]
theorem r_if_r {B : w_M} {n i : Nat} {v w : Int} : r_if B n i v * w = r_if B n i (v * w) := by
  unfold r_if
  by_cases h : se_al B n i
  · rw [if_pos h, if_pos h]
  · rw [if_neg h, if_neg h, Int.zero_mul]
theorem r_bes_sym {s : Nat} (hs : s ≤ 7) (f g : Nat → Int) : f_sum (fun i => r_bes s f i * g i) s = f_sum (fun i => f i * r_bes s g i) s := by
  have : s = 0 ∨ s = 1 ∨ s = 2 ∨ s = 3 ∨ s = 4 ∨ s = 5 ∨ s = 6 ∨ s = 7 := by omega
  rcases this with rfl | rfl | rfl | rfl | rfl | rfl | rfl | rfl <;> simp [f_sum, r_bes] <;> grind
/-- at whatever hour they are counted, there are as many runs -/
theorem r_all {B : w_M} {s : Nat} (hs : s ≤ 7) : ∀ m, m ≤ 6 → f_sum (fun i => r_c B s (6 - m) i * r_h B s m i) s = f_sum (r_c B s 6) s := by
  intro m
  induction m with
  | zero =>
    intro _
    refine f_sum_congr (fun i hi => ?_)
    show r_c B s 6 i * 1 = _
    rw [Int.mul_one]
  | succ m ih =>
    intro hm
    rw [← ih (by omega)]
    show f_sum (fun i => r_c B s (6 - (m + 1)) i * r_bes s (r_g B s m) i) s = _
    rw [← r_bes_sym hs]
    refine f_sum_congr (fun i hi => ?_)
    show r_bes s (r_c B s (6 - (m + 1))) i * r_g B s m i = r_c B s (6 - m) i * r_h B s m i
    obtain ⟨n, hn⟩ : ∃ n, n = 6 - (m + 1) := ⟨_, rfl⟩
    have e : 6 - m = n + 1 := by omega
    rw [r_g_h, ← hn, e]
    show _ = r_if B (n + 1) i (r_bes s (r_c B s n) i) * _
    rw [r_if_l, r_if_r]
/-- the class's number of runs through a strip, and the reference's -/
theorem r_thr {B : w_M} {s n i : Nat} (hn : n ≤ 6) : r_c B s n i * r_g B s (6 - n) i = r_if B n i (r_c B s n i * r_h B s (6 - n) i) := by
  rw [r_g_h, r_if_l, show 6 - (6 - n) = n by omega]
/-- the class's sum, and the reference's -/
theorem r_sum {B : w_M} {s : Nat} (hs : s ≤ 7) : f_sum (fun i => r_if B 0 i (r_c B s 0 i * r_h B s 6 i)) s = f_sum (r_c B s 6) s := by
  rw [← r_all hs 6 (Nat.le_refl _)]
  refine f_sum_congr (fun i hi => ?_)
  show r_if B 0 i (r_if B 0 i 1 * _) = r_if B 0 i 1 * _
  rw [r_if_r]
  unfold r_if
  by_cases h : se_al B (0 : Nat) i
  · rw [if_pos h, if_pos h]
  · rw [if_neg h, if_neg h]
theorem r_bes_le {s : Nat} {f : Nat → Int} {M : Int} (h : ∀ i, i < s → 0 ≤ f i ∧ f i ≤ M) {i : Nat} (hi : i < s) : 0 ≤ r_bes s f i ∧ r_bes s f i ≤ 3 * M := by
  unfold r_bes
  have h1 := h i hi
  have h2 : 0 < i → 0 ≤ f (i - 1) ∧ f (i - 1) ≤ M := fun _ => h _ (by omega)
  have h3 : i + 1 < s → 0 ≤ f (i + 1) ∧ f (i + 1) ≤ M := fun q => h _ q
  by_cases c1 : 0 < i
  · by_cases c2 : i + 1 < s
    · rw [if_pos c1, if_pos c2]; have := h2 c1; have := h3 c2; omega
    · rw [if_pos c1, if_neg c2]; have := h2 c1; omega
  · by_cases c2 : i + 1 < s
    · rw [if_neg c1, if_pos c2]; have := h3 c2; omega
    · rw [if_neg c1, if_neg c2]; omega
theorem r_if_le {B : w_M} {n i : Nat} {v M : Int} (h : 0 ≤ v ∧ v ≤ M) : 0 ≤ r_if B n i v ∧ r_if B n i v ≤ M := by
  unfold r_if
  by_cases c : se_al B n i
  · rw [if_pos c]; exact h
  · rw [if_neg c]; omega
theorem r_c_le {B : w_M} {s : Nat} : ∀ n, ∀ i, i < s → 0 ≤ r_c B s n i ∧ r_c B s n i ≤ 3 ^ n := by
  intro n
  induction n with
  | zero => intro i _; exact r_if_le (by decide)
  | succ n ih =>
    intro i hi
    refine r_if_le ?_
    have := r_bes_le ih hi
    rw [Int.pow_succ]
    omega
theorem r_g_le {B : w_M} {s : Nat} : ∀ n, ∀ i, i < s → 0 ≤ r_g B s n i ∧ r_g B s n i ≤ 3 ^ n := by
  intro n
  induction n with
  | zero => intro i _; exact r_if_le (by decide)
  | succ n ih =>
    intro i hi
    refine r_if_le ?_
    have := r_bes_le ih hi
    rw [Int.pow_succ]
    omega
