/-! What is seen, paid, kept, counted: the class -/
def seAdd (B : w_M) (x y z : Int) : w_M := w_up (w_up (w_up (w_up B 1 (B 0 0).toNat x) 2 (B 0 0).toNat y) 3 (B 0 0).toNat z) 0 0 (B 0 0 + 1)
def paAdd (C : w_M) (x y : Int) : w_M := w_up (w_up (w_up C 1 (C 0 0).toNat x) 2 (C 0 0).toNat y) 0 0 (C 0 0 + 1)
def r_cut (B : w_M) (n : Int) : w_M := fun d i => if d = 0 then (if i = 0 then n else B 0 i) else if i < n.toNat then B d i else 0
def F_see (S : w_S) (n i _is : Int) : Int := if (0 ≤ n ∧ n ≤ 6) ∧ (0 ≤ i ∧ i < S 0 0 4) then (if S 1 0 0 < 8 then S 1 0 0 + 1 else -3) else -1
def G_see (S : w_S) (n i is : Int) : w_S := if ((0 ≤ n ∧ n ≤ 6) ∧ (0 ≤ i ∧ i < S 0 0 4)) ∧ S 1 0 0 < 8 then w_sp S 1 (seAdd (S 1) n i is) else S
def F_forget (S : w_S) (n : Int) : Int := if 0 ≤ n ∧ n ≤ S 1 0 0 then S 1 0 0 else -1
def G_forget (S : w_S) (n : Int) : w_S := if 0 ≤ n ∧ n ≤ S 1 0 0 then w_sp S 1 (r_cut (S 1) n) else S
def F_pay (S : w_S) (r w : Int) : Int := if (0 ≤ r ∧ r < S 0 0 5) ∧ (0 ≤ w ∧ w ≤ 99) then (if S 2 0 0 < 4 then S 2 0 0 + 1 else -3) else -1
def G_pay (S : w_S) (r w : Int) : w_S := if ((0 ≤ r ∧ r < S 0 0 5) ∧ (0 ≤ w ∧ w ≤ 99)) ∧ S 2 0 0 < 4 then w_sp S 2 (paAdd (S 2) r w) else S
def F_owe (S : w_S) (n : Int) : Int := if 0 ≤ n ∧ n ≤ S 2 0 0 then S 2 0 0 else -1
def G_owe (S : w_S) (n : Int) : w_S := if 0 ≤ n ∧ n ≤ S 2 0 0 then w_sp S 2 (r_cut (S 2) n) else S
def F_count (S : w_S) (w : Int) : Int := if w = 0 then n_swy (S 0) else if w = 1 then n_wgs (S 0) else if w = 2 then n_oils (S 0) else if w = 3 then S 1 0 0 else if w = 4 then S 2 0 0 else if w = 5 then S 11 0 0 + S 11 0 1 else if w = 6 then S 3 0 0 else if w = 7 then S 4 0 0 else -1
def F_keep (S : w_S) (k : Int) : Int := if 0 ≤ k ∧ k ≤ 1 then S 11 0 k.toNat else -1
def im_set (S : w_S) (k : Nat) : w_S := w_sp (w_sp (w_sp (w_sp S (5 + 3 * k) (S 0)) (6 + 3 * k) (S 1)) (7 + 3 * k) (S 2)) 11 (w_up (S 11) 0 k 1)
def im_get (S : w_S) (k : Nat) : w_S := w_sp (w_sp (w_sp S 0 (S (5 + 3 * k))) 1 (S (6 + 3 * k))) 2 (S (7 + 3 * k))
def G_keep (S : w_S) (k : Int) : w_S := if 0 ≤ k ∧ k ≤ 1 then im_set S k.toNat else S
def F_back (S : w_S) (k : Int) : Int := if 0 ≤ k ∧ k ≤ 1 then (if S 11 0 k.toNat = 1 then S (5 + 3 * k.toNat) 0 1 else -2) else -1
def G_back (S : w_S) (k : Int) : w_S := if (0 ≤ k ∧ k ≤ 1) ∧ S 11 0 k.toNat = 1 then im_get S k.toNat else S
theorem seAdd_WF {B : w_M} (h : seWF B) {x y z : Int} (hn : B 0 0 < 8) (hx : 0 ≤ x ∧ x ≤ 6) (hy : 0 ≤ y ∧ y ≤ 6) (hz : z = 0 ∨ z = 1) : seWF (seAdd B x y z) := by
  obtain ⟨h1, h2⟩ := h
  have e : seAdd B x y z 0 0 = B 0 0 + 1 := w_up_at
  refine ⟨by rw [e]; omega, fun k hk => ?_⟩
  rw [e] at hk
  unfold seAdd
  rw [w_up_ne (show 1 ≠ 0 by decide), w_up_ne (show 2 ≠ 0 by decide), w_up_ne (show 3 ≠ 0 by decide), w_up_ne (show 1 ≠ 3 by decide), w_up_ne (show 2 ≠ 3 by decide), w_up_ne (show 1 ≠ 2 by decide)]
  by_cases hkn : k = (B 0 0).toNat
  · subst hkn
    rw [w_up_at, w_up_at, w_up_at]
    exact ⟨hx, hy, hz⟩
  · have := h2 k (by omega)
    rw [w_up_j hkn, w_up_j hkn, w_up_j hkn, w_up_ne (show 2 ≠ 1 by decide), w_up_ne (show 3 ≠ 2 by decide), w_up_ne (show 3 ≠ 1 by decide)]
    exact this
theorem paAdd_WF {A C : w_M} (h : paWF A C) {x y : Int} (hn : C 0 0 < 4) (hx : 0 ≤ x ∧ x < A 0 5) (hy : 0 ≤ y ∧ y ≤ 99) : paWF A (paAdd C x y) := by
  obtain ⟨h1, h2⟩ := h
  have e : paAdd C x y 0 0 = C 0 0 + 1 := w_up_at
  refine ⟨by rw [e]; omega, fun k hk => ?_⟩
  rw [e] at hk
  unfold paAdd
  rw [w_up_ne (show 1 ≠ 0 by decide), w_up_ne (show 2 ≠ 0 by decide), w_up_ne (show 1 ≠ 2 by decide)]
  by_cases hkn : k = (C 0 0).toNat
  · subst hkn
    rw [w_up_at, w_up_at]
    exact ⟨hx, hy⟩
  · have := h2 k (by omega)
    rw [w_up_j hkn, w_up_j hkn, w_up_ne (show 2 ≠ 1 by decide)]
    exact this
theorem r_cut_se {B : w_M} (h : seWF B) {n : Int} (hn : 0 ≤ n ∧ n ≤ B 0 0) : seWF (r_cut B n) := by
  obtain ⟨h1, h2⟩ := h
  have e : r_cut B n 0 0 = n := rfl
  refine ⟨by rw [e]; omega, fun k hk => ?_⟩
  rw [e] at hk
  have r : ∀ d, 1 ≤ d → r_cut B n d k = B d k := fun d hd => by unfold r_cut; rw [if_neg (by omega), if_pos hk]
  rw [r 1 (by decide), r 2 (by decide), r 3 (by decide)]
  exact h2 k (by omega)
theorem r_cut_pa {A B : w_M} (h : paWF A B) {n : Int} (hn : 0 ≤ n ∧ n ≤ B 0 0) : paWF A (r_cut B n) := by
  obtain ⟨h1, h2⟩ := h
  have e : r_cut B n 0 0 = n := rfl
  refine ⟨by rw [e]; omega, fun k hk => ?_⟩
  rw [e] at hk
  have r : ∀ d, 1 ≤ d → r_cut B n d k = B d k := fun d hd => by unfold r_cut; rw [if_neg (by omega), if_pos hk]
  rw [r 1 (by decide), r 2 (by decide)]
  exact h2 k (by omega)
/-- a row of entries, told by where each lies -/
def g_ab (N : Nat) (cnt : Int) (f : Nat → Nat → Int) : w_M := fun d i => if d = 0 then (if i = 0 then cnt else 0) else if d < N then (if i < cnt.toNat then f d i else 0) else 0
theorem g_ab_congr {N : Nat} {c c' : Int} {f f' : Nat → Nat → Int} (hc : c' = c) (h : ∀ d i, 1 ≤ d → d < N → i < c.toNat → f' d i = f d i) : g_ab N c' f' = g_ab N c f := by
  funext d i
  unfold g_ab
  rw [hc]
  by_cases hd : d = 0
  · rw [if_pos hd, if_pos hd]
  · rw [if_neg hd, if_neg hd]
    by_cases hN : d < N
    · rw [if_pos hN, if_pos hN]
      by_cases hi : i < c.toNat
      · rw [if_pos hi, if_pos hi, h d i (by omega) hN hi]
      · rw [if_neg hi, if_neg hi]
    · rw [if_neg hN, if_neg hN]
theorem g_ab_cut {N : Nat} {c n : Int} {f f' : Nat → Nat → Int} (hn : 0 ≤ n ∧ n ≤ c) (h : ∀ d i, 1 ≤ d → d < N → i < n.toNat → f' d i = f d i) : g_ab N n f' = r_cut (g_ab N c f) n := by
  funext d i
  unfold g_ab r_cut
  by_cases hd : d = 0
  · rw [if_pos hd, if_pos hd]
    subst hd
    by_cases hi : i = 0
    · rw [if_pos hi, if_pos hi]
    · rw [if_neg hi, if_neg hi]
      show 0 = (if i = 0 then c else 0)
      rw [if_neg hi]
  · rw [if_neg hd, if_neg hd]
    by_cases hi : i < n.toNat
    · rw [if_pos hi, if_pos hi]
      by_cases hN : d < N
      · rw [if_pos hN]
        show _ = (if d = 0 then (if i = 0 then c else 0) else if d < N then (if i < c.toNat then f d i else 0) else 0)
        rw [if_neg hd, if_pos hN, if_pos (by omega), h d i (by omega) hN hi]
      · rw [if_neg hN]
        show _ = (if d = 0 then (if i = 0 then c else 0) else if d < N then (if i < c.toNat then f d i else 0) else 0)
        rw [if_neg hd, if_neg hN]
    · rw [if_neg hi, if_neg hi]
      split <;> rfl
theorem g_ab_se {c : Int} {f f' : Nat → Nat → Int} {x y z : Int} (hc : 0 ≤ c) (h : ∀ d i, 1 ≤ d → d < 4 → i < c.toNat → f' d i = f d i) (h1 : f' 1 c.toNat = x) (h2 : f' 2 c.toNat = y) (h3 : f' 3 c.toNat = z) : g_ab 4 (c + 1) f' = seAdd (g_ab 4 c f) x y z := by
  have e0 : g_ab 4 c f 0 0 = c := rfl
  funext d i
  unfold seAdd
  rw [e0]
  by_cases hd0 : d = 0
  · subst hd0
    by_cases hi : i = 0
    · subst hi; rw [w_up_at]; rfl
    · rw [w_up_j hi, w_up_ne (by decide), w_up_ne (by decide), w_up_ne (by decide)]
      show (if i = 0 then c + 1 else 0) = (if i = 0 then c else 0)
      rw [if_neg hi, if_neg hi]
  · rw [w_up_ne hd0]
    have key : ∀ v, 1 ≤ d → d < 4 → f' d c.toNat = v → g_ab 4 (c + 1) f' d i = if i = c.toNat then v else g_ab 4 c f d i := by
      intro v a b e
      unfold g_ab
      rw [if_neg hd0, if_pos b, if_neg hd0, if_pos b]
      by_cases hi : i = c.toNat
      · rw [if_pos hi, if_pos (by omega), hi, e]
      · rw [if_neg hi]
        by_cases hlt : i < c.toNat
        · rw [if_pos (by omega), if_pos hlt, h d i a b hlt]
        · rw [if_neg (by omega), if_neg hlt]
    by_cases hd3 : d = 3
    · subst hd3
      rw [key z (by decide) (by decide) h3, w_up_eq]
      by_cases hi : i = c.toNat
      · rw [if_pos hi, if_pos ⟨rfl, hi⟩]
      · rw [if_neg hi, if_neg (fun e => hi e.2), w_up_ne (by decide), w_up_ne (by decide)]
    · rw [w_up_ne hd3]
      by_cases hd2 : d = 2
      · subst hd2
        rw [key y (by decide) (by decide) h2, w_up_eq]
        by_cases hi : i = c.toNat
        · rw [if_pos hi, if_pos ⟨rfl, hi⟩]
        · rw [if_neg hi, if_neg (fun e => hi e.2), w_up_ne (by decide)]
      · rw [w_up_ne hd2]
        by_cases hd1 : d = 1
        · subst hd1
          rw [key x (by decide) (by decide) h1, w_up_eq]
          by_cases hi : i = c.toNat
          · rw [if_pos hi, if_pos ⟨rfl, hi⟩]
          · rw [if_neg hi, if_neg (fun e => hi e.2)]
        · rw [w_up_ne hd1]
          unfold g_ab
          rw [if_neg hd0, if_neg (by omega), if_neg hd0, if_neg (by omega)]
theorem g_ab_pa {c : Int} {f f' : Nat → Nat → Int} {x y : Int} (hc : 0 ≤ c) (h : ∀ d i, 1 ≤ d → d < 3 → i < c.toNat → f' d i = f d i) (h1 : f' 1 c.toNat = x) (h2 : f' 2 c.toNat = y) : g_ab 3 (c + 1) f' = paAdd (g_ab 3 c f) x y := by
  have e0 : g_ab 3 c f 0 0 = c := rfl
  funext d i
  unfold paAdd
  rw [e0]
  by_cases hd0 : d = 0
  · subst hd0
    by_cases hi : i = 0
    · subst hi; rw [w_up_at]; rfl
    · rw [w_up_j hi, w_up_ne (by decide), w_up_ne (by decide)]
      show (if i = 0 then c + 1 else 0) = (if i = 0 then c else 0)
      rw [if_neg hi, if_neg hi]
  · rw [w_up_ne hd0]
    have key : ∀ v, 1 ≤ d → d < 3 → f' d c.toNat = v → g_ab 3 (c + 1) f' d i = if i = c.toNat then v else g_ab 3 c f d i := by
      intro v a b e
      unfold g_ab
      rw [if_neg hd0, if_pos b, if_neg hd0, if_pos b]
      by_cases hi : i = c.toNat
      · rw [if_pos hi, if_pos (by omega), hi, e]
      · rw [if_neg hi]
        by_cases hlt : i < c.toNat
        · rw [if_pos (by omega), if_pos hlt, h d i a b hlt]
        · rw [if_neg (by omega), if_neg hlt]
    by_cases hd2 : d = 2
    · subst hd2
      rw [key y (by decide) (by decide) h2, w_up_eq]
      by_cases hi : i = c.toNat
      · rw [if_pos hi, if_pos ⟨rfl, hi⟩]
      · rw [if_neg hi, if_neg (fun e => hi e.2), w_up_ne (by decide)]
    · rw [w_up_ne hd2]
      by_cases hd1 : d = 1
      · subst hd1
        rw [key x (by decide) (by decide) h1, w_up_eq]
        by_cases hi : i = c.toNat
        · rw [if_pos hi, if_pos ⟨rfl, hi⟩]
        · rw [if_neg hi, if_neg (fun e => hi e.2)]
      · rw [w_up_ne hd1]
        unfold g_ab
        rw [if_neg hd0, if_neg (by omega), if_neg hd0, if_neg (by omega)]
theorem s_ab_g (σ : w_M) (a : Nat) : s_ab σ a = g_ab 4 (σ a 0) (fun d i => σ (a + d) i) := rfl
theorem c_ab_g (σ : w_M) (a : Nat) : c_ab σ a = g_ab 3 (σ a 0) (fun d i => σ (a + d) i) := rfl
theorem s_am_g (σ : w_M) (o : Nat) : s_am σ o = g_ab 4 (σ 123 (o + 48)) (fun d i => σ 123 (o + 49 + 3 * i + (d - 1))) := rfl
theorem c_am_g (σ : w_M) (o : Nat) : c_am σ o = g_ab 3 (σ 123 (o + 73)) (fun d i => σ 123 (o + 74 + 2 * i + (d - 1))) := rfl
theorem CI.se {σ : w_M} (h : CI σ) : 0 ≤ σ 23 0 ∧ σ 23 0 ≤ 8 := h.1.2.1.1
theorem CI.pa {σ : w_M} (h : CI σ) : 0 ≤ σ 27 0 ∧ σ 27 0 ≤ 4 := h.1.2.2.1.1
def p_Seen_add (a : Nat) (_ _ z : Int) (σ : w_M) : Prop := (0 ≤ σ a 0 ∧ σ a 0 ≤ 8) ∧ (z = 0 ∨ z = 1)
def q_Seen_add (a : Nat) (x y z : Int) (σ : w_M) (r : Int) (σ' : w_M) : Prop := (σ a 0 < 8 → r = σ a 0 + 1 ∧ s_ab σ' a = seAdd (s_ab σ a) x y z) ∧ (¬ σ a 0 < 8 → r = -3 ∧ σ' = σ) ∧ w_fr σ σ' a (a + 4)
theorem f57_0 : w_fe am_c57 0 1 (.aload 0) := ⟨rfl, rfl⟩
theorem f57_1 : w_fe am_c57 1 2 (.getfield 400) := ⟨rfl, rfl⟩
theorem f57_2 : w_fe am_c57 2 3 (.bipush 8) := ⟨rfl, rfl⟩
theorem f57_3 : w_ic am_c57 3 4 .lt 6 := ⟨rfl, rfl⟩
theorem f57_4 : w_fe am_c57 4 5 (.bipush (-3)) := ⟨rfl, rfl⟩
theorem f57_5 : w_fe am_c57 5 6 (.ireturn) := ⟨rfl, rfl⟩
theorem f57_6 : w_fe am_c57 6 7 (.aload 0) := ⟨rfl, rfl⟩
theorem f57_7 : w_fe am_c57 7 8 (.getfield 401) := ⟨rfl, rfl⟩
theorem f57_8 : w_fe am_c57 8 9 (.aload 0) := ⟨rfl, rfl⟩
theorem f57_9 : w_fe am_c57 9 10 (.getfield 400) := ⟨rfl, rfl⟩
theorem f57_10 : w_fe am_c57 10 11 (.iload 1) := ⟨rfl, rfl⟩
theorem f57_11 : w_fe am_c57 11 12 (.iastore) := ⟨rfl, rfl⟩
theorem f57_12 : w_fe am_c57 12 13 (.aload 0) := ⟨rfl, rfl⟩
theorem f57_13 : w_fe am_c57 13 14 (.getfield 402) := ⟨rfl, rfl⟩
theorem f57_14 : w_fe am_c57 14 15 (.aload 0) := ⟨rfl, rfl⟩
theorem f57_15 : w_fe am_c57 15 16 (.getfield 400) := ⟨rfl, rfl⟩
theorem f57_16 : w_fe am_c57 16 17 (.iload 2) := ⟨rfl, rfl⟩
theorem f57_17 : w_fe am_c57 17 18 (.iastore) := ⟨rfl, rfl⟩
theorem f57_18 : w_fe am_c57 18 19 (.aload 0) := ⟨rfl, rfl⟩
theorem f57_19 : w_fe am_c57 19 20 (.getfield 403) := ⟨rfl, rfl⟩
theorem f57_20 : w_fe am_c57 20 21 (.aload 0) := ⟨rfl, rfl⟩
theorem f57_21 : w_fe am_c57 21 22 (.getfield 400) := ⟨rfl, rfl⟩
theorem f57_22 : w_fe am_c57 22 23 (.iload 3) := ⟨rfl, rfl⟩
theorem f57_23 : w_if am_c57 23 24 .eq 26 := ⟨rfl, rfl⟩
theorem f57_24 : w_fe am_c57 24 25 (.bipush 1) := ⟨rfl, rfl⟩
theorem f57_25 : w_gt am_c57 25 27 := rfl
theorem f57_26 : w_fe am_c57 26 27 (.bipush 0) := ⟨rfl, rfl⟩
theorem f57_27 : w_fe am_c57 27 28 (.iastore) := ⟨rfl, rfl⟩
theorem f57_28 : w_fe am_c57 28 29 (.aload 0) := ⟨rfl, rfl⟩
theorem f57_29 : w_fe am_c57 29 30 (.dup) := ⟨rfl, rfl⟩
theorem f57_30 : w_fe am_c57 30 31 (.getfield 400) := ⟨rfl, rfl⟩
theorem f57_31 : w_fe am_c57 31 32 (.bipush 1) := ⟨rfl, rfl⟩
theorem f57_32 : w_fe am_c57 32 33 (.iadd) := ⟨rfl, rfl⟩
theorem f57_33 : w_fe am_c57 33 34 (.putfield 400) := ⟨rfl, rfl⟩
theorem f57_34 : w_fe am_c57 34 35 (.aload 0) := ⟨rfl, rfl⟩
theorem f57_35 : w_fe am_c57 35 36 (.getfield 400) := ⟨rfl, rfl⟩
theorem f57_36 : w_fe am_c57 36 37 (.ireturn) := ⟨rfl, rfl⟩
set_option maxRecDepth 20000 in
theorem b57_0 {xs : List Int} {d : Nat} {Q : Option w_V → w_M → Prop} {a : Nat} {x1 : Int} {x2 : Int} {x3 : Int} {σ : w_M}
    (h : ((σ a 0) < 8 → (0 ≤ (σ a 0) ∧ (∀ (τ1 : w_M), τ1 = w_up σ (a + 1) (σ a 0).toNat x1 → (0 ≤ (τ1 a 0) ∧ (τ1 a 0) < 8 ∧ (∀ (τ2 : w_M), τ2 = w_up τ1 (a + 2) (τ1 a 0).toNat x2 → ((x3 = 0 → (0 ≤ (τ2 a 0) ∧ (τ2 a 0) < 8 ∧ (∀ (τ3 : w_M), τ3 = w_up τ2 (a + 3) (τ2 a 0).toNat 0 → (w_in ((τ3 a 0) + 1) ∧ (∀ (τ4 : w_M), τ4 = w_up τ3 a 0 ((τ3 a 0) + 1) → Q (some (.inl (τ4 a 0))) τ4))))) ∧ (¬ x3 = 0 → (0 ≤ (τ2 a 0) ∧ (τ2 a 0) < 8 ∧ (∀ (τ5 : w_M), τ5 = w_up τ2 (a + 3) (τ2 a 0).toNat 1 → (w_in ((τ5 a 0) + 1) ∧ (∀ (τ6 : w_M), τ6 = w_up τ5 a 0 ((τ5 a 0) + 1) → Q (some (.inl (τ6 a 0))) τ6))))))))))) ∧ (8 ≤ (σ a 0) → Q (some (.inl (-3))) σ)) : w_Call (xs, d) 57 [.inr (.inr (4, a)), .inl x1, .inl x2, .inl x3] σ Q :=
  (w_mk (mid := 57) (by decide) rfl rfl rfl rfl rfl (Nat.le_of_ble_eq_true rfl) ⟨rfl, Or.inl (by decide)⟩ (wi_aload0 f57_0 (wi_getf400 f57_1 (wi_bipush f57_2 (wi_ic_lt f57_3 (fun c8 => (wi_aload0 f57_6 (wi_getf401 f57_7 (wi_aload0 f57_8 (wi_getf400 f57_9 (wi_iload1 f57_10 (wi_iast1008 f57_11 (h.1 c8).1 c8 (wi_aload0 f57_12 (wi_getf402 f57_13 (wi_aload0 f57_14 (wi_getf400 f57_15 (wi_iload2 f57_16 (wi_iast1008 f57_17 ((h.1 c8).2 _ rfl).1 ((h.1 c8).2 _ rfl).2.1 (wi_aload0 f57_18 (wi_getf403 f57_19 (wi_aload0 f57_20 (wi_getf400 f57_21 (wi_iload3 f57_22 (wi_if_eq f57_23 (fun c7 => (wi_bipush f57_26 (wi_iast1008 f57_27 ((((h.1 c8).2 _ rfl).2.2 _ rfl).1 c7).1 ((((h.1 c8).2 _ rfl).2.2 _ rfl).1 c7).2.1 (wi_aload0 f57_28 (wi_dup_a f57_29 (wi_getf400 f57_30 (wi_bipush f57_31 (wi_iadd f57_32 (((((h.1 c8).2 _ rfl).2.2 _ rfl).1 c7).2.2 _ rfl).1 (wi_putf400 f57_33 (wi_aload0 f57_34 (wi_getf400 f57_35 (wi_ret1 f57_36 ((((((h.1 c8).2 _ rfl).2.2 _ rfl).1 c7).2.2 _ rfl).2 _ rfl))))))))))))) (fun c7 => (wi_bipush f57_24 (wi_goto f57_25 (wi_iast1008 f57_27 ((((h.1 c8).2 _ rfl).2.2 _ rfl).2 c7).1 ((((h.1 c8).2 _ rfl).2.2 _ rfl).2 c7).2.1 (wi_aload0 f57_28 (wi_dup_a f57_29 (wi_getf400 f57_30 (wi_bipush f57_31 (wi_iadd f57_32 (((((h.1 c8).2 _ rfl).2.2 _ rfl).2 c7).2.2 _ rfl).1 (wi_putf400 f57_33 (wi_aload0 f57_34 (wi_getf400 f57_35 (wi_ret1 f57_36 ((((((h.1 c8).2 _ rfl).2.2 _ rfl).2 c7).2.2 _ rfl).2 _ rfl))))))))))))))))))))))))))))))))) (fun c8 => (wi_bipush f57_4 (wi_ret1 f57_5 (h.2 c8)))))))))
theorem k_Seen_add {xs : List Int} {d : Nat} {Q : Option w_V → w_M → Prop} {a : Nat} {x1 : Int} {x2 : Int} {x3 : Int} {σ : w_M} (hp : p_Seen_add a x1 x2 x3 σ) (hQ : ∀ (x : Int) (σ' : w_M), q_Seen_add a x1 x2 x3 σ x σ' → Q (some (.inl x)) σ') : w_Call (xs, d) 57 [.inr (.inr (4, a)), .inl x1, .inl x2, .inl x3] σ Q := by
  obtain ⟨h0, hz⟩ := hp
  have main : σ a 0 < 8 → ∀ τ1, τ1 = w_up σ (a + 1) (σ a 0).toNat x1 → ∀ τ2, τ2 = w_up τ1 (a + 2) (σ a 0).toNat x2 → ∀ τ3, τ3 = w_up τ2 (a + 3) (σ a 0).toNat x3 → ∀ τ4, τ4 = w_up τ3 a 0 (σ a 0 + 1) → Q (some (.inl (τ4 a 0))) τ4 := by
    intro c τ1 t1 τ2 t2 τ3 t3 τ4 t4
    have e0 : τ4 a 0 = σ a 0 + 1 := by rw [t4]; exact w_up_at
    refine hQ _ _ ⟨fun _ => ⟨e0, ?_⟩, fun c2 => absurd c c2, by rw [t4, t3, t2, t1]; exact (((w_fr.up0 (by omega) (by omega)).up (by omega) (by omega)).up (by omega) (by omega)).up (by omega) (by omega)⟩
    rw [s_ab_g, s_ab_g, e0]
    refine g_ab_se h0.1 (fun d i h1 h2 h3 => ?_) ?_ ?_ ?_
    · show τ4 (a + d) i = σ (a + d) i
      have hi : i ≠ (σ a 0).toNat := by omega
      rw [t4, w_up_ne (by omega), t3, w_up_eq, if_neg (by omega), t2, w_up_eq, if_neg (by omega), t1, w_up_eq, if_neg (by omega)]
    · show τ4 (a + 1) _ = _
      rw [t4, w_up_ne (by omega), t3, w_up_ne (by omega), t2, w_up_ne (by omega), t1, w_up_at]
    · show τ4 (a + 2) _ = _
      rw [t4, w_up_ne (by omega), t3, w_up_ne (by omega), t2, w_up_at]
    · show τ4 (a + 3) _ = _
      rw [t4, w_up_ne (by omega), t3, w_up_at]
  refine b57_0 ⟨fun c => ⟨h0.1, fun τ1 t1 => ?_⟩, fun c => hQ _ _ ⟨fun c2 => by omega, fun _ => ⟨rfl, rfl⟩, w_fr.rfl'⟩⟩
  have z1 : τ1 a = σ a := by rw [t1]; exact w_up_ne (by omega)
  rw [z1]
  refine ⟨h0.1, c, fun τ2 t2 => ?_⟩
  have z2 : τ2 a = σ a := by rw [t2, w_up_ne (by omega)]; exact z1
  rw [z2]
  refine ⟨fun hx => ⟨h0.1, c, fun τ3 t3 => ?_⟩, fun hx => ⟨h0.1, c, fun τ3 t3 => ?_⟩⟩
  · have z3 : τ3 a = σ a := by rw [t3, w_up_ne (by omega)]; exact z2
    rw [z3]
    exact ⟨⟨by omega, by omega⟩, fun τ4 t4 => main c τ1 t1 τ2 t2 τ3 (by rw [hx]; exact t3) τ4 t4⟩
  · have z3 : τ3 a = σ a := by rw [t3, w_up_ne (by omega)]; exact z2
    rw [z3]
    exact ⟨⟨by omega, by omega⟩, fun τ4 t4 => main c τ1 t1 τ2 t2 τ3 (by rw [hz.resolve_left hx]; exact t3) τ4 t4⟩
def p_Paid_add (a : Nat) (_ _ : Int) (σ : w_M) : Prop := 0 ≤ σ a 0 ∧ σ a 0 ≤ 4
def q_Paid_add (a : Nat) (x y : Int) (σ : w_M) (r : Int) (σ' : w_M) : Prop := (σ a 0 < 4 → r = σ a 0 + 1 ∧ c_ab σ' a = paAdd (c_ab σ a) x y) ∧ (¬ σ a 0 < 4 → r = -3 ∧ σ' = σ) ∧ w_fr σ σ' a (a + 3)
theorem f61_0 : w_fe am_c61 0 1 (.aload 0) := ⟨rfl, rfl⟩
theorem f61_1 : w_fe am_c61 1 2 (.getfield 500) := ⟨rfl, rfl⟩
theorem f61_2 : w_fe am_c61 2 3 (.bipush 4) := ⟨rfl, rfl⟩
theorem f61_3 : w_ic am_c61 3 4 .lt 6 := ⟨rfl, rfl⟩
theorem f61_4 : w_fe am_c61 4 5 (.bipush (-3)) := ⟨rfl, rfl⟩
theorem f61_5 : w_fe am_c61 5 6 (.ireturn) := ⟨rfl, rfl⟩
theorem f61_6 : w_fe am_c61 6 7 (.aload 0) := ⟨rfl, rfl⟩
theorem f61_7 : w_fe am_c61 7 8 (.getfield 501) := ⟨rfl, rfl⟩
theorem f61_8 : w_fe am_c61 8 9 (.aload 0) := ⟨rfl, rfl⟩
theorem f61_9 : w_fe am_c61 9 10 (.getfield 500) := ⟨rfl, rfl⟩
theorem f61_10 : w_fe am_c61 10 11 (.iload 1) := ⟨rfl, rfl⟩
theorem f61_11 : w_fe am_c61 11 12 (.iastore) := ⟨rfl, rfl⟩
theorem f61_12 : w_fe am_c61 12 13 (.aload 0) := ⟨rfl, rfl⟩
theorem f61_13 : w_fe am_c61 13 14 (.getfield 502) := ⟨rfl, rfl⟩
theorem f61_14 : w_fe am_c61 14 15 (.aload 0) := ⟨rfl, rfl⟩
theorem f61_15 : w_fe am_c61 15 16 (.getfield 500) := ⟨rfl, rfl⟩
theorem f61_16 : w_fe am_c61 16 17 (.iload 2) := ⟨rfl, rfl⟩
theorem f61_17 : w_fe am_c61 17 18 (.iastore) := ⟨rfl, rfl⟩
theorem f61_18 : w_fe am_c61 18 19 (.aload 0) := ⟨rfl, rfl⟩
theorem f61_19 : w_fe am_c61 19 20 (.dup) := ⟨rfl, rfl⟩
theorem f61_20 : w_fe am_c61 20 21 (.getfield 500) := ⟨rfl, rfl⟩
theorem f61_21 : w_fe am_c61 21 22 (.bipush 1) := ⟨rfl, rfl⟩
theorem f61_22 : w_fe am_c61 22 23 (.iadd) := ⟨rfl, rfl⟩
theorem f61_23 : w_fe am_c61 23 24 (.putfield 500) := ⟨rfl, rfl⟩
theorem f61_24 : w_fe am_c61 24 25 (.aload 0) := ⟨rfl, rfl⟩
theorem f61_25 : w_fe am_c61 25 26 (.getfield 500) := ⟨rfl, rfl⟩
theorem f61_26 : w_fe am_c61 26 27 (.ireturn) := ⟨rfl, rfl⟩
set_option maxRecDepth 20000 in
theorem b61_0 {xs : List Int} {d : Nat} {Q : Option w_V → w_M → Prop} {a : Nat} {x1 : Int} {x2 : Int} {σ : w_M}
    (h : ((σ a 0) < 4 → (0 ≤ (σ a 0) ∧ (∀ (τ1 : w_M), τ1 = w_up σ (a + 1) (σ a 0).toNat x1 → (0 ≤ (τ1 a 0) ∧ (τ1 a 0) < 4 ∧ (∀ (τ2 : w_M), τ2 = w_up τ1 (a + 2) (τ1 a 0).toNat x2 → (w_in ((τ2 a 0) + 1) ∧ (∀ (τ3 : w_M), τ3 = w_up τ2 a 0 ((τ2 a 0) + 1) → Q (some (.inl (τ3 a 0))) τ3))))))) ∧ (4 ≤ (σ a 0) → Q (some (.inl (-3))) σ)) : w_Call (xs, d) 61 [.inr (.inr (5, a)), .inl x1, .inl x2] σ Q :=
  (w_mk (mid := 61) (by decide) rfl rfl rfl rfl rfl (Nat.le_of_ble_eq_true rfl) ⟨rfl, Or.inl (by decide)⟩ (wi_aload0 f61_0 (wi_getf500 f61_1 (wi_bipush f61_2 (wi_ic_lt f61_3 (fun c4 => (wi_aload0 f61_6 (wi_getf501 f61_7 (wi_aload0 f61_8 (wi_getf500 f61_9 (wi_iload1 f61_10 (wi_iast1004 f61_11 (h.1 c4).1 c4 (wi_aload0 f61_12 (wi_getf502 f61_13 (wi_aload0 f61_14 (wi_getf500 f61_15 (wi_iload2 f61_16 (wi_iast1004 f61_17 ((h.1 c4).2 _ rfl).1 ((h.1 c4).2 _ rfl).2.1 (wi_aload0 f61_18 (wi_dup_a f61_19 (wi_getf500 f61_20 (wi_bipush f61_21 (wi_iadd f61_22 (((h.1 c4).2 _ rfl).2.2 _ rfl).1 (wi_putf500 f61_23 (wi_aload0 f61_24 (wi_getf500 f61_25 (wi_ret1 f61_26 ((((h.1 c4).2 _ rfl).2.2 _ rfl).2 _ rfl))))))))))))))))))))))) (fun c4 => (wi_bipush f61_4 (wi_ret1 f61_5 (h.2 c4)))))))))
theorem k_Paid_add {xs : List Int} {d : Nat} {Q : Option w_V → w_M → Prop} {a : Nat} {x1 : Int} {x2 : Int} {σ : w_M} (hp : p_Paid_add a x1 x2 σ) (hQ : ∀ (x : Int) (σ' : w_M), q_Paid_add a x1 x2 σ x σ' → Q (some (.inl x)) σ') : w_Call (xs, d) 61 [.inr (.inr (5, a)), .inl x1, .inl x2] σ Q := by
  have h0 : 0 ≤ σ a 0 ∧ σ a 0 ≤ 4 := hp
  refine b61_0 ⟨fun c => ⟨h0.1, fun τ1 t1 => ?_⟩, fun c => hQ _ _ ⟨fun c2 => by omega, fun _ => ⟨rfl, rfl⟩, w_fr.rfl'⟩⟩
  have z1 : τ1 a = σ a := by rw [t1]; exact w_up_ne (by omega)
  rw [z1]
  refine ⟨h0.1, c, fun τ2 t2 => ?_⟩
  have z2 : τ2 a = σ a := by rw [t2, w_up_ne (by omega)]; exact z1
  rw [z2]
  refine ⟨⟨by omega, by omega⟩, fun τ4 t4 => ?_⟩
  have e0 : τ4 a 0 = σ a 0 + 1 := by rw [t4]; exact w_up_at
  refine hQ _ _ ⟨fun _ => ⟨e0, ?_⟩, fun c2 => absurd c c2, by rw [t4, t2, t1]; exact ((w_fr.up0 (by omega) (by omega)).up (by omega) (by omega)).up (by omega) (by omega)⟩
  rw [c_ab_g, c_ab_g, e0]
  refine g_ab_pa h0.1 (fun d i h1 h2 h3 => ?_) ?_ ?_
  · show τ4 (a + d) i = σ (a + d) i
    have hi : i ≠ (σ a 0).toNat := by omega
    rw [t4, w_up_ne (by omega), t2, w_up_eq, if_neg (by omega), t1, w_up_eq, if_neg (by omega)]
  · show τ4 (a + 1) _ = _
    rw [t4, w_up_ne (by omega), t2, w_up_ne (by omega), t1, w_up_at]
  · show τ4 (a + 2) _ = _
    rw [t4, w_up_ne (by omega), t2, w_up_at]
def p_Moon_see (_x1 : Int) (_x2 : Int) (x3 : Int) (σ : w_M) : Prop := CI σ ∧ (x3 = 0 ∨ x3 = 1)
def q_Moon_see (x1 : Int) (x2 : Int) (x3 : Int) (σ : w_M) (x : Int) (σ' : w_M) : Prop := c_q (F_see (cS σ) x1 x2 x3) (G_see (cS σ) x1 x2 x3) σ x σ'
def p_Moon_forget (_x1 : Int) (σ : w_M) : Prop := CI σ
def q_Moon_forget (x1 : Int) (σ : w_M) (x : Int) (σ' : w_M) : Prop := c_q (F_forget (cS σ) x1) (G_forget (cS σ) x1) σ x σ'
def p_Moon_pay (_x1 : Int) (_x2 : Int) (σ : w_M) : Prop := CI σ
def q_Moon_pay (x1 : Int) (x2 : Int) (σ : w_M) (x : Int) (σ' : w_M) : Prop := c_q (F_pay (cS σ) x1 x2) (G_pay (cS σ) x1 x2) σ x σ'
def p_Moon_owe (_x1 : Int) (σ : w_M) : Prop := CI σ
def q_Moon_owe (x1 : Int) (σ : w_M) (x : Int) (σ' : w_M) : Prop := c_q (F_owe (cS σ) x1) (G_owe (cS σ) x1) σ x σ'
theorem f138_0 : w_fe am_c138 0 1 (.iload 1) := ⟨rfl, rfl⟩
theorem f138_1 : w_fe am_c138 1 2 (.bipush 0) := ⟨rfl, rfl⟩
theorem f138_2 : w_fe am_c138 2 3 (.bipush 6) := ⟨rfl, rfl⟩
theorem f138_3 : w_fe am_c138 3 4 (.invokestatic 108) := ⟨rfl, rfl⟩
theorem f138_4 : w_if am_c138 4 5 .eq 10 := ⟨rfl, rfl⟩
theorem f138_5 : w_fe am_c138 5 6 (.aload 0) := ⟨rfl, rfl⟩
theorem f138_6 : w_fe am_c138 6 7 (.getfield 2) := ⟨rfl, rfl⟩
theorem f138_7 : w_fe am_c138 7 8 (.iload 2) := ⟨rfl, rfl⟩
theorem f138_8 : w_fe am_c138 8 9 (.invokestatic 33) := ⟨rfl, rfl⟩
theorem f138_9 : w_if am_c138 9 10 .ne 12 := ⟨rfl, rfl⟩
theorem f138_10 : w_fe am_c138 10 11 (.bipush (-1)) := ⟨rfl, rfl⟩
theorem f138_11 : w_fe am_c138 11 12 (.ireturn) := ⟨rfl, rfl⟩
theorem f138_12 : w_fe am_c138 12 13 (.aload 0) := ⟨rfl, rfl⟩
theorem f138_13 : w_fe am_c138 13 14 (.getfield 1) := ⟨rfl, rfl⟩
theorem f138_14 : w_fe am_c138 14 15 (.getfield 301) := ⟨rfl, rfl⟩
theorem f138_15 : w_fe am_c138 15 16 (.iload 1) := ⟨rfl, rfl⟩
theorem f138_16 : w_fe am_c138 16 17 (.iload 2) := ⟨rfl, rfl⟩
theorem f138_17 : w_fe am_c138 17 18 (.iload 3) := ⟨rfl, rfl⟩
theorem f138_18 : w_fe am_c138 18 19 (.invokestatic 57) := ⟨rfl, rfl⟩
theorem f138_19 : w_fe am_c138 19 20 (.ireturn) := ⟨rfl, rfl⟩
set_option maxRecDepth 20000 in
theorem b138_0 {xs : List Int} {d : Nat} {Q : Option w_V → w_M → Prop} {x1 : Int} {x2 : Int} {x3 : Int} {σ : w_M}
    (h : (¬ (0 ≤ x1 ∧ x1 ≤ 6) → Q (some (.inl (-1))) σ) ∧ ((0 ≤ x1 ∧ x1 ≤ 6) → (((0 ≤ x2 ∧ x2 < σ 14 4) → (p_Seen_add 23 x1 x2 x3 σ ∧ (∀ (y1 : Int) (τ2 : w_M), q_Seen_add 23 x1 x2 x3 σ y1 τ2 → Q (some (.inl y1)) τ2))) ∧ (¬ (0 ≤ x2 ∧ x2 < σ 14 4) → Q (some (.inl (-1))) σ)))) : w_Call (xs, (d + 1)) 138 [.inr (.inr (0, 0)), .inl x1, .inl x2, .inl x3] σ Q :=
  (w_mk (mid := 138) (by decide) rfl rfl rfl rfl rfl (Nat.le_of_ble_eq_true rfl) ⟨rfl, Or.inl (by decide)⟩ (wi_iload1 f138_0 (wi_bipush f138_1 (wi_bipush f138_2 (wi_call3 f138_3 (Nat.le_of_ble_eq_true rfl) (k_Moon_isWithin (wi_ifb_eq f138_4 (fun c4 => (wi_bipush f138_10 (wi_ret1 f138_11 (h.1 c4)))) (fun c4 => (wi_aload0 f138_5 (wi_getf2 f138_6 (wi_iload2 f138_7 (wi_call2 f138_8 (Nat.le_of_ble_eq_true rfl) (k_Field_isStrip (wi_ifb_ne f138_9 (fun c3 => (wi_aload0 f138_12 (wi_getf1 f138_13 (wi_getf301 f138_14 (wi_iload1 f138_15 (wi_iload2 f138_16 (wi_iload3 f138_17 (wi_call4 f138_18 (Nat.le_of_ble_eq_true rfl) (k_Seen_add ((h.2 c4).1 c3).1 (fun y1 τ2 eτ2 => (wi_ret1 f138_19 (((h.2 c4).1 c3).2 y1 τ2 eτ2)))))))))))) (fun c3 => (wi_bipush f138_10 (wi_ret1 f138_11 ((h.2 c4).2 c3))))))))))))))))))
theorem f139_0 : w_fe am_c139 0 1 (.aload 0) := ⟨rfl, rfl⟩
theorem f139_1 : w_fe am_c139 1 2 (.getfield 1) := ⟨rfl, rfl⟩
theorem f139_2 : w_fe am_c139 2 3 (.getfield 301) := ⟨rfl, rfl⟩
theorem f139_3 : w_fe am_c139 3 4 (.getfield 400) := ⟨rfl, rfl⟩
theorem f139_4 : w_fe am_c139 4 5 (.istore 2) := ⟨rfl, rfl⟩
theorem f139_5 : w_fe am_c139 5 6 (.iload 1) := ⟨rfl, rfl⟩
theorem f139_6 : w_fe am_c139 6 7 (.bipush 0) := ⟨rfl, rfl⟩
theorem f139_7 : w_fe am_c139 7 8 (.iload 2) := ⟨rfl, rfl⟩
theorem f139_8 : w_fe am_c139 8 9 (.invokestatic 108) := ⟨rfl, rfl⟩
theorem f139_9 : w_if am_c139 9 10 .ne 12 := ⟨rfl, rfl⟩
theorem f139_10 : w_fe am_c139 10 11 (.bipush (-1)) := ⟨rfl, rfl⟩
theorem f139_11 : w_fe am_c139 11 12 (.ireturn) := ⟨rfl, rfl⟩
theorem f139_12 : w_fe am_c139 12 13 (.aload 0) := ⟨rfl, rfl⟩
theorem f139_13 : w_fe am_c139 13 14 (.getfield 1) := ⟨rfl, rfl⟩
theorem f139_14 : w_fe am_c139 14 15 (.getfield 301) := ⟨rfl, rfl⟩
theorem f139_15 : w_fe am_c139 15 16 (.iload 1) := ⟨rfl, rfl⟩
theorem f139_16 : w_fe am_c139 16 17 (.putfield 400) := ⟨rfl, rfl⟩
theorem f139_17 : w_fe am_c139 17 18 (.iload 2) := ⟨rfl, rfl⟩
theorem f139_18 : w_fe am_c139 18 19 (.ireturn) := ⟨rfl, rfl⟩
set_option maxRecDepth 20000 in
theorem b139_0 {xs : List Int} {d : Nat} {Q : Option w_V → w_M → Prop} {x1 : Int} {σ : w_M}
    (h : ∀ (y1 : Int), y1 = (σ 23 0) → (((0 ≤ x1 ∧ x1 ≤ y1) → ∀ (τ2 : w_M), τ2 = w_up σ 23 0 x1 → Q (some (.inl y1)) τ2) ∧ (¬ (0 ≤ x1 ∧ x1 ≤ y1) → Q (some (.inl (-1))) σ))) : w_Call (xs, (d + 1)) 139 [.inr (.inr (0, 0)), .inl x1] σ Q :=
  (w_mk (mid := 139) (by decide) rfl rfl rfl rfl rfl (Nat.le_of_ble_eq_true rfl) ⟨rfl, Or.inl (by decide)⟩ (wi_aload0 f139_0 (wi_getf1 f139_1 (wi_getf301 f139_2 (wi_getf400 f139_3 (wi_istore2 f139_4 trivial (wi_iload1 f139_5 (wi_bipush f139_6 (wi_iload2 f139_7 (wi_call3 f139_8 (Nat.le_of_ble_eq_true rfl) (k_Moon_isWithin (wi_ifb_ne f139_9 (fun c3 => (wi_aload0 f139_12 (wi_getf1 f139_13 (wi_getf301 f139_14 (wi_iload1 f139_15 (wi_putf400 f139_16 (wi_iload2 f139_17 (wi_ret1 f139_18 (((h _ rfl).1 c3) _ rfl))))))))) (fun c3 => (wi_bipush f139_10 (wi_ret1 f139_11 ((h _ rfl).2 c3))))))))))))))))
theorem f143_0 : w_fe am_c143 0 1 (.aload 0) := ⟨rfl, rfl⟩
theorem f143_1 : w_fe am_c143 1 2 (.getfield 2) := ⟨rfl, rfl⟩
theorem f143_2 : w_fe am_c143 2 3 (.iload 1) := ⟨rfl, rfl⟩
theorem f143_3 : w_fe am_c143 3 4 (.invokestatic 38) := ⟨rfl, rfl⟩
theorem f143_4 : w_if am_c143 4 5 .eq 10 := ⟨rfl, rfl⟩
theorem f143_5 : w_fe am_c143 5 6 (.iload 2) := ⟨rfl, rfl⟩
theorem f143_6 : w_fe am_c143 6 7 (.bipush 0) := ⟨rfl, rfl⟩
theorem f143_7 : w_fe am_c143 7 8 (.bipush 99) := ⟨rfl, rfl⟩
theorem f143_8 : w_fe am_c143 8 9 (.invokestatic 108) := ⟨rfl, rfl⟩
theorem f143_9 : w_if am_c143 9 10 .ne 12 := ⟨rfl, rfl⟩
theorem f143_10 : w_fe am_c143 10 11 (.bipush (-1)) := ⟨rfl, rfl⟩
theorem f143_11 : w_fe am_c143 11 12 (.ireturn) := ⟨rfl, rfl⟩
theorem f143_12 : w_fe am_c143 12 13 (.aload 0) := ⟨rfl, rfl⟩
theorem f143_13 : w_fe am_c143 13 14 (.getfield 1) := ⟨rfl, rfl⟩
theorem f143_14 : w_fe am_c143 14 15 (.getfield 302) := ⟨rfl, rfl⟩
theorem f143_15 : w_fe am_c143 15 16 (.iload 1) := ⟨rfl, rfl⟩
theorem f143_16 : w_fe am_c143 16 17 (.iload 2) := ⟨rfl, rfl⟩
theorem f143_17 : w_fe am_c143 17 18 (.invokestatic 61) := ⟨rfl, rfl⟩
theorem f143_18 : w_fe am_c143 18 19 (.ireturn) := ⟨rfl, rfl⟩
set_option maxRecDepth 20000 in
theorem b143_0 {xs : List Int} {d : Nat} {Q : Option w_V → w_M → Prop} {x1 : Int} {x2 : Int} {σ : w_M}
    (h : (¬ (0 ≤ x1 ∧ x1 < σ 14 5) → Q (some (.inl (-1))) σ) ∧ ((0 ≤ x1 ∧ x1 < σ 14 5) → (((0 ≤ x2 ∧ x2 ≤ 99) → (p_Paid_add 27 x1 x2 σ ∧ (∀ (y1 : Int) (τ2 : w_M), q_Paid_add 27 x1 x2 σ y1 τ2 → Q (some (.inl y1)) τ2))) ∧ (¬ (0 ≤ x2 ∧ x2 ≤ 99) → Q (some (.inl (-1))) σ)))) : w_Call (xs, (d + 1)) 143 [.inr (.inr (0, 0)), .inl x1, .inl x2] σ Q :=
  (w_mk (mid := 143) (by decide) rfl rfl rfl rfl rfl (Nat.le_of_ble_eq_true rfl) ⟨rfl, Or.inl (by decide)⟩ (wi_aload0 f143_0 (wi_getf2 f143_1 (wi_iload1 f143_2 (wi_call2 f143_3 (Nat.le_of_ble_eq_true rfl) (k_Field_isReaper (wi_ifb_eq f143_4 (fun c4 => (wi_bipush f143_10 (wi_ret1 f143_11 (h.1 c4)))) (fun c4 => (wi_iload2 f143_5 (wi_bipush f143_6 (wi_bipush f143_7 (wi_call3 f143_8 (Nat.le_of_ble_eq_true rfl) (k_Moon_isWithin (wi_ifb_ne f143_9 (fun c3 => (wi_aload0 f143_12 (wi_getf1 f143_13 (wi_getf302 f143_14 (wi_iload1 f143_15 (wi_iload2 f143_16 (wi_call3 f143_17 (Nat.le_of_ble_eq_true rfl) (k_Paid_add ((h.2 c4).1 c3).1 (fun y1 τ2 eτ2 => (wi_ret1 f143_18 (((h.2 c4).1 c3).2 y1 τ2 eτ2))))))))))) (fun c3 => (wi_bipush f143_10 (wi_ret1 f143_11 ((h.2 c4).2 c3))))))))))))))))))
theorem f144_0 : w_fe am_c144 0 1 (.aload 0) := ⟨rfl, rfl⟩
theorem f144_1 : w_fe am_c144 1 2 (.getfield 1) := ⟨rfl, rfl⟩
theorem f144_2 : w_fe am_c144 2 3 (.getfield 302) := ⟨rfl, rfl⟩
theorem f144_3 : w_fe am_c144 3 4 (.getfield 500) := ⟨rfl, rfl⟩
theorem f144_4 : w_fe am_c144 4 5 (.istore 2) := ⟨rfl, rfl⟩
theorem f144_5 : w_fe am_c144 5 6 (.iload 1) := ⟨rfl, rfl⟩
theorem f144_6 : w_fe am_c144 6 7 (.bipush 0) := ⟨rfl, rfl⟩
theorem f144_7 : w_fe am_c144 7 8 (.iload 2) := ⟨rfl, rfl⟩
theorem f144_8 : w_fe am_c144 8 9 (.invokestatic 108) := ⟨rfl, rfl⟩
theorem f144_9 : w_if am_c144 9 10 .ne 12 := ⟨rfl, rfl⟩
theorem f144_10 : w_fe am_c144 10 11 (.bipush (-1)) := ⟨rfl, rfl⟩
theorem f144_11 : w_fe am_c144 11 12 (.ireturn) := ⟨rfl, rfl⟩
theorem f144_12 : w_fe am_c144 12 13 (.aload 0) := ⟨rfl, rfl⟩
theorem f144_13 : w_fe am_c144 13 14 (.getfield 1) := ⟨rfl, rfl⟩
theorem f144_14 : w_fe am_c144 14 15 (.getfield 302) := ⟨rfl, rfl⟩
theorem f144_15 : w_fe am_c144 15 16 (.iload 1) := ⟨rfl, rfl⟩
theorem f144_16 : w_fe am_c144 16 17 (.putfield 500) := ⟨rfl, rfl⟩
theorem f144_17 : w_fe am_c144 17 18 (.iload 2) := ⟨rfl, rfl⟩
theorem f144_18 : w_fe am_c144 18 19 (.ireturn) := ⟨rfl, rfl⟩
set_option maxRecDepth 20000 in
theorem b144_0 {xs : List Int} {d : Nat} {Q : Option w_V → w_M → Prop} {x1 : Int} {σ : w_M}
    (h : ∀ (y1 : Int), y1 = (σ 27 0) → (((0 ≤ x1 ∧ x1 ≤ y1) → ∀ (τ2 : w_M), τ2 = w_up σ 27 0 x1 → Q (some (.inl y1)) τ2) ∧ (¬ (0 ≤ x1 ∧ x1 ≤ y1) → Q (some (.inl (-1))) σ))) : w_Call (xs, (d + 1)) 144 [.inr (.inr (0, 0)), .inl x1] σ Q :=
  (w_mk (mid := 144) (by decide) rfl rfl rfl rfl rfl (Nat.le_of_ble_eq_true rfl) ⟨rfl, Or.inl (by decide)⟩ (wi_aload0 f144_0 (wi_getf1 f144_1 (wi_getf302 f144_2 (wi_getf500 f144_3 (wi_istore2 f144_4 trivial (wi_iload1 f144_5 (wi_bipush f144_6 (wi_iload2 f144_7 (wi_call3 f144_8 (Nat.le_of_ble_eq_true rfl) (k_Moon_isWithin (wi_ifb_ne f144_9 (fun c3 => (wi_aload0 f144_12 (wi_getf1 f144_13 (wi_getf302 f144_14 (wi_iload1 f144_15 (wi_putf500 f144_16 (wi_iload2 f144_17 (wi_ret1 f144_18 (((h _ rfl).1 c3) _ rfl))))))))) (fun c3 => (wi_bipush f144_10 (wi_ret1 f144_11 ((h _ rfl).2 c3))))))))))))))))
theorem k_Moon_see {xs : List Int} {d : Nat} {Q : Option w_V → w_M → Prop} {x1 : Int} {x2 : Int} {x3 : Int} {σ : w_M} (hp : p_Moon_see x1 x2 x3 σ) (hQ : ∀ (x : Int) (σ' : w_M), q_Moon_see x1 x2 x3 σ x σ' → Q (some (.inl x)) σ') : w_Call (xs, d + 1) 138 [.inr (.inr (0, 0)), .inl x1, .inl x2, .inl x3] σ Q := by
  obtain ⟨hC, hb⟩ := hp
  have hs := n_ok.s hC.ok
  unfold q_Moon_see F_see G_see at hQ
  have e4 : cS σ 0 0 4 = σ 14 4 := rfl
  have e1 : cS σ 1 0 0 = σ 23 0 := rfl
  rw [e4, e1] at hQ
  have bad : ¬ ((0 ≤ x1 ∧ x1 ≤ 6) ∧ (0 ≤ x2 ∧ x2 < σ 14 4)) → Q (some (.inl (-1))) σ := fun h => by
    rw [if_neg h, if_neg (fun q => h q.1)] at hQ
    exact hQ _ _ (c_qr hC rfl)
  refine b138_0 ⟨fun c => bad (fun q => c q.1), fun c => ⟨fun c2 => ⟨⟨hC.se, hb⟩, fun y τ hq => ?_⟩, fun c2 => bad (fun q => c2 q.2)⟩⟩
  obtain ⟨q1, q2, q3⟩ := hq
  rw [if_pos ⟨c, c2⟩] at hQ
  by_cases hlt : σ 23 0 < 8
  · rw [if_pos hlt, if_pos ⟨⟨c, c2⟩, hlt⟩] at hQ
    exact hQ _ _ (c_q1 hC q3 (q1 hlt).2 (seAdd_WF hC.1.2.1 hlt c (by omega) hb) (q1 hlt).1)
  · rw [if_neg hlt, if_neg (fun q => hlt q.2)] at hQ
    obtain ⟨r1, r2⟩ := q2 hlt
    rw [r2]
    exact hQ _ _ (c_qr hC r1)
theorem k_Moon_forget {xs : List Int} {d : Nat} {Q : Option w_V → w_M → Prop} {x1 : Int} {σ : w_M} (hp : p_Moon_forget x1 σ) (hQ : ∀ (x : Int) (σ' : w_M), q_Moon_forget x1 σ x σ' → Q (some (.inl x)) σ') : w_Call (xs, d + 1) 139 [.inr (.inr (0, 0)), .inl x1] σ Q := by
  have hC : CI σ := hp
  have h0 := hC.se
  unfold q_Moon_forget F_forget G_forget at hQ
  have e1 : cS σ 1 0 0 = σ 23 0 := rfl
  rw [e1] at hQ
  refine b139_0 (fun y e => ?_)
  rw [e]
  refine ⟨fun c τ t => ?_, fun c => ?_⟩
  · rw [if_pos c, if_pos c] at hQ
    refine hQ _ _ (c_q1 hC (by rw [t]; exact w_fr.up0 (by omega) (by omega)) ?_ (r_cut_se hC.1.2.1 c) rfl)
    show _ = r_cut (s_ab σ 23) x1
    rw [s_ab_g, s_ab_g, show τ 23 0 = x1 by rw [t]; exact w_up_at]
    exact g_ab_cut c (fun d i h1 h2 h3 => by show τ (23 + d) i = σ (23 + d) i; rw [t, w_up_ne (by omega)])
  · rw [if_neg c, if_neg c] at hQ
    exact hQ _ _ (c_qr hC rfl)
theorem k_Moon_pay {xs : List Int} {d : Nat} {Q : Option w_V → w_M → Prop} {x1 : Int} {x2 : Int} {σ : w_M} (hp : p_Moon_pay x1 x2 σ) (hQ : ∀ (x : Int) (σ' : w_M), q_Moon_pay x1 x2 σ x σ' → Q (some (.inl x)) σ') : w_Call (xs, d + 1) 143 [.inr (.inr (0, 0)), .inl x1, .inl x2] σ Q := by
  have hC : CI σ := hp
  unfold q_Moon_pay F_pay G_pay at hQ
  have e5 : cS σ 0 0 5 = σ 14 5 := rfl
  have e1 : cS σ 2 0 0 = σ 27 0 := rfl
  rw [e5, e1] at hQ
  have bad : ¬ ((0 ≤ x1 ∧ x1 < σ 14 5) ∧ (0 ≤ x2 ∧ x2 ≤ 99)) → Q (some (.inl (-1))) σ := fun h => by
    rw [if_neg h, if_neg (fun q => h q.1)] at hQ
    exact hQ _ _ (c_qr hC rfl)
  refine b143_0 ⟨fun c => bad (fun q => c q.1), fun c => ⟨fun c2 => ⟨hC.pa, fun y τ hq => ?_⟩, fun c2 => bad (fun q => c2 q.2)⟩⟩
  obtain ⟨q1, q2, q3⟩ := hq
  rw [if_pos ⟨c, c2⟩] at hQ
  by_cases hlt : σ 27 0 < 4
  · rw [if_pos hlt, if_pos ⟨⟨c, c2⟩, hlt⟩] at hQ
    exact hQ _ _ (c_q2 hC q3 (q1 hlt).2 (paAdd_WF hC.1.2.2.1 hlt c c2) (q1 hlt).1)
  · rw [if_neg hlt, if_neg (fun q => hlt q.2)] at hQ
    obtain ⟨r1, r2⟩ := q2 hlt
    rw [r2]
    exact hQ _ _ (c_qr hC r1)
theorem k_Moon_owe {xs : List Int} {d : Nat} {Q : Option w_V → w_M → Prop} {x1 : Int} {σ : w_M} (hp : p_Moon_owe x1 σ) (hQ : ∀ (x : Int) (σ' : w_M), q_Moon_owe x1 σ x σ' → Q (some (.inl x)) σ') : w_Call (xs, d + 1) 144 [.inr (.inr (0, 0)), .inl x1] σ Q := by
  have hC : CI σ := hp
  have h0 := hC.pa
  unfold q_Moon_owe F_owe G_owe at hQ
  have e1 : cS σ 2 0 0 = σ 27 0 := rfl
  rw [e1] at hQ
  refine b144_0 (fun y e => ?_)
  rw [e]
  refine ⟨fun c τ t => ?_, fun c => ?_⟩
  · rw [if_pos c, if_pos c] at hQ
    refine hQ _ _ (c_q2 hC (by rw [t]; exact w_fr.up0 (by omega) (by omega)) ?_ (r_cut_pa hC.1.2.2.1 c) rfl)
    show _ = r_cut (c_ab σ 27) x1
    rw [c_ab_g, c_ab_g, show τ 27 0 = x1 by rw [t]; exact w_up_at]
    exact g_ab_cut c (fun d i h1 h2 h3 => by show τ (27 + d) i = σ (27 + d) i; rw [t, w_up_ne (by omega)])
  · rw [if_neg c, if_neg c] at hQ
    exact hQ _ _ (c_qr hC rfl)
