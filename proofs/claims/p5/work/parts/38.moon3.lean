/-! What is seen, paid, kept, counted: the class -/
noncomputable def seAdd (B : w_M) (x y z : Int) : w_M := w_up (w_up (w_up (w_up B 1 (B 0 0).toNat x) 2 (B 0 0).toNat y) 3 (B 0 0).toNat z) 0 0 (B 0 0 + 1)
noncomputable def paAdd (C : w_M) (x y : Int) : w_M := w_up (w_up (w_up C 1 (C 0 0).toNat x) 2 (C 0 0).toNat y) 0 0 (C 0 0 + 1)
noncomputable def r_cut (B : w_M) (n : Int) : w_M := fun d i => if d = 0 then (if i = 0 then n else B 0 i) else if i < n.toNat then B d i else 0
noncomputable def F_see (S : w_S) (n i _is : Int) : Int := if (0 ≤ n ∧ n ≤ 6) ∧ (0 ≤ i ∧ i < S 0 0 4) then (if S 1 0 0 < 8 then S 1 0 0 + 1 else -3) else -1
noncomputable def G_see (S : w_S) (n i is : Int) : w_S := if ((0 ≤ n ∧ n ≤ 6) ∧ (0 ≤ i ∧ i < S 0 0 4)) ∧ S 1 0 0 < 8 then w_sp S 1 (seAdd (S 1) n i is) else S
noncomputable def F_forget (S : w_S) (n : Int) : Int := if 0 ≤ n ∧ n ≤ S 1 0 0 then S 1 0 0 else -1
noncomputable def G_forget (S : w_S) (n : Int) : w_S := if 0 ≤ n ∧ n ≤ S 1 0 0 then w_sp S 1 (r_cut (S 1) n) else S
noncomputable def F_pay (S : w_S) (r w : Int) : Int := if (0 ≤ r ∧ r < S 0 0 5) ∧ (0 ≤ w ∧ w ≤ 99) then (if S 2 0 0 < 4 then S 2 0 0 + 1 else -3) else -1
noncomputable def G_pay (S : w_S) (r w : Int) : w_S := if ((0 ≤ r ∧ r < S 0 0 5) ∧ (0 ≤ w ∧ w ≤ 99)) ∧ S 2 0 0 < 4 then w_sp S 2 (paAdd (S 2) r w) else S
noncomputable def F_owe (S : w_S) (n : Int) : Int := if 0 ≤ n ∧ n ≤ S 2 0 0 then S 2 0 0 else -1
noncomputable def G_owe (S : w_S) (n : Int) : w_S := if 0 ≤ n ∧ n ≤ S 2 0 0 then w_sp S 2 (r_cut (S 2) n) else S
noncomputable def F_count (S : w_S) (w : Int) : Int := if w = 0 then n_swy (S 0) else if w = 1 then n_wgs (S 0) else if w = 2 then n_oils (S 0) else if w = 3 then S 1 0 0 else if w = 4 then S 2 0 0 else if w = 5 then S 11 0 0 + S 11 0 1 else if w = 6 then S 3 0 0 else if w = 7 then S 4 0 0 else -1
noncomputable def F_keep (S : w_S) (k : Int) : Int := if 0 ≤ k ∧ k ≤ 1 then S 11 0 k.toNat else -1
noncomputable def im_set (S : w_S) (k : Nat) : w_S := w_sp (w_sp (w_sp (w_sp S (5 + 3 * k) (S 0)) (6 + 3 * k) (S 1)) (7 + 3 * k) (S 2)) 11 (w_up (S 11) 0 k 1)
noncomputable def im_get (S : w_S) (k : Nat) : w_S := w_sp (w_sp (w_sp S 0 (S (5 + 3 * k))) 1 (S (6 + 3 * k))) 2 (S (7 + 3 * k))
noncomputable def G_keep (S : w_S) (k : Int) : w_S := if 0 ≤ k ∧ k ≤ 1 then im_set S k.toNat else S
noncomputable def F_back (S : w_S) (k : Int) : Int := if 0 ≤ k ∧ k ≤ 1 then (if S 11 0 k.toNat = 1 then S (5 + 3 * k.toNat) 0 1 else -2) else -1
noncomputable def G_back (S : w_S) (k : Int) : w_S := if (0 ≤ k ∧ k ≤ 1) ∧ S 11 0 k.toNat = 1 then im_get S k.toNat else S
theorem seAdd_WF {B : w_M} (h : seWF B) {x y z : Int} (hn : B 0 0 < 8) (hx : 0 ≤ x ∧ x ≤ 6) (hy : 0 ≤ y ∧ y ≤ 6) (hz : z = 0 ∨ z = 1) : seWF (seAdd B x y z) := by
  obtain ⟨h1, h2⟩ := h
  have e : seAdd B x y z 0 0 = B 0 0 + 1 := w_up_at
  refine ⟨by rw [e]; omega, fun k hk => ?_⟩
  rw [e] at hk
  unfold seAdd
  rw [w_up_ne (show 1 ≠ 0 by decide), w_up_ne (show 2 ≠ 0 by decide), w_up_ne (show 3 ≠ 0 by decide), w_up_ne (show 1 ≠ 3 by decide), w_up_ne (show 2 ≠ 3 by decide), w_up_ne (show 1 ≠ 2 by decide)]
  by_cases hkn : k = (B 0 0).toNat
  · subst hkn
    rw [w_up_at, w_up_at, w_up_at]
    exact ⟨hx, hy, hz⟩
  · have := h2 k (by omega)
    rw [w_up_j hkn, w_up_j hkn, w_up_j hkn, w_up_ne (show 2 ≠ 1 by decide), w_up_ne (show 3 ≠ 2 by decide), w_up_ne (show 3 ≠ 1 by decide)]
    exact this
theorem paAdd_WF {A C : w_M} (h : paWF A C) {x y : Int} (hn : C 0 0 < 4) (hx : 0 ≤ x ∧ x < A 0 5) (hy : 0 ≤ y ∧ y ≤ 99) : paWF A (paAdd C x y) := by
  obtain ⟨h1, h2⟩ := h
  have e : paAdd C x y 0 0 = C 0 0 + 1 := w_up_at
  refine ⟨by rw [e]; omega, fun k hk => ?_⟩
  rw [e] at hk
  unfold paAdd
  rw [w_up_ne (show 1 ≠ 0 by decide), w_up_ne (show 2 ≠ 0 by decide), w_up_ne (show 1 ≠ 2 by decide)]
  by_cases hkn : k = (C 0 0).toNat
  · subst hkn
    rw [w_up_at, w_up_at]
    exact ⟨hx, hy⟩
  · have := h2 k (by omega)
    rw [w_up_j hkn, w_up_j hkn, w_up_ne (show 2 ≠ 1 by decide)]
    exact this
theorem r_cut_se {B : w_M} (h : seWF B) {n : Int} (hn : 0 ≤ n ∧ n ≤ B 0 0) : seWF (r_cut B n) := by
  obtain ⟨h1, h2⟩ := h
  have e : r_cut B n 0 0 = n := rfl
  refine ⟨by rw [e]; omega, fun k hk => ?_⟩
  rw [e] at hk
  have r : ∀ d, 1 ≤ d → r_cut B n d k = B d k := fun d hd => by unfold r_cut; rw [if_neg (by omega), if_pos hk]
  rw [r 1 (by decide), r 2 (by decide), r 3 (by decide)]
  exact h2 k (by omega)
theorem r_cut_pa {A B : w_M} (h : paWF A B) {n : Int} (hn : 0 ≤ n ∧ n ≤ B 0 0) : paWF A (r_cut B n) := by
  obtain ⟨h1, h2⟩ := h
  have e : r_cut B n 0 0 = n := rfl
  refine ⟨by rw [e]; omega, fun k hk => ?_⟩
  rw [e] at hk
  have r : ∀ d, 1 ≤ d → r_cut B n d k = B d k := fun d hd => by unfold r_cut; rw [if_neg (by omega), if_pos hk]
  rw [r 1 (by decide), r 2 (by decide)]
  exact h2 k (by omega)
/-- a row of entries, told by where each lies -/
noncomputable def g_ab (N : Nat) (cnt : Int) (f : Nat → Nat → Int) : w_M := fun d i => if d = 0 then (if i = 0 then cnt else 0) else if d < N then (if i < cnt.toNat then f d i else 0) else 0
theorem g_ab_congr {N : Nat} {c c' : Int} {f f' : Nat → Nat → Int} (hc : c' = c) (h : ∀ d i, 1 ≤ d → d < N → i < c.toNat → f' d i = f d i) : g_ab N c' f' = g_ab N c f := by
  funext d i
  unfold g_ab
  rw [hc]
  by_cases hd : d = 0
  · rw [if_pos hd, if_pos hd]
  · rw [if_neg hd, if_neg hd]
    by_cases hN : d < N
    · rw [if_pos hN, if_pos hN]
      by_cases hi : i < c.toNat
      · rw [if_pos hi, if_pos hi, h d i (by omega) hN hi]
      · rw [if_neg hi, if_neg hi]
    · rw [if_neg hN, if_neg hN]
theorem g_ab_cut {N : Nat} {c n : Int} {f f' : Nat → Nat → Int} (hn : 0 ≤ n ∧ n ≤ c) (h : ∀ d i, 1 ≤ d → d < N → i < n.toNat → f' d i = f d i) : g_ab N n f' = r_cut (g_ab N c f) n := by
  funext d i
  unfold g_ab r_cut
  by_cases hd : d = 0
  · rw [if_pos hd, if_pos hd]
    subst hd
    by_cases hi : i = 0
    · rw [if_pos hi, if_pos hi]
    · rw [if_neg hi, if_neg hi]
      show 0 = (if i = 0 then c else 0)
      rw [if_neg hi]
  · rw [if_neg hd, if_neg hd]
    by_cases hi : i < n.toNat
    · rw [if_pos hi, if_pos hi]
      by_cases hN : d < N
      · rw [if_pos hN]
        show _ = (if d = 0 then (if i = 0 then c else 0) else if d < N then (if i < c.toNat then f d i else 0) else 0)
        rw [if_neg hd, if_pos hN, if_pos (by omega), h d i (by omega) hN hi]
      · rw [if_neg hN]
        show _ = (if d = 0 then (if i = 0 then c else 0) else if d < N then (if i < c.toNat then f d i else 0) else 0)
        rw [if_neg hd, if_neg hN]
    · rw [if_neg hi, if_neg hi]
      split <;> rfl
theorem g_ab_se {c : Int} {f f' : Nat → Nat → Int} {x y z : Int} (hc : 0 ≤ c) (h : ∀ d i, 1 ≤ d → d < 4 → i < c.toNat → f' d i = f d i) (h1 : f' 1 c.toNat = x) (h2 : f' 2 c.toNat = y) (h3 : f' 3 c.toNat = z) : g_ab 4 (c + 1) f' = seAdd (g_ab 4 c f) x y z := by
  have e0 : g_ab 4 c f 0 0 = c := rfl
  funext d i
  unfold seAdd
  rw [e0]
  by_cases hd0 : d = 0
  · subst hd0
    by_cases hi : i = 0
    · subst hi; rw [w_up_at]; rfl
    · rw [w_up_j hi, w_up_ne (by decide), w_up_ne (by decide), w_up_ne (by decide)]
      show (if i = 0 then c + 1 else 0) = (if i = 0 then c else 0)
      rw [if_neg hi, if_neg hi]
  · rw [w_up_ne hd0]
    have key : ∀ v, 1 ≤ d → d < 4 → f' d c.toNat = v → g_ab 4 (c + 1) f' d i = if i = c.toNat then v else g_ab 4 c f d i := by
      intro v a b e
      unfold g_ab
      rw [if_neg hd0, if_pos b, if_neg hd0, if_pos b]
      by_cases hi : i = c.toNat
      · rw [if_pos hi, if_pos (by omega), hi, e]
      · rw [if_neg hi]
        by_cases hlt : i < c.toNat
        · rw [if_pos (by omega), if_pos hlt, h d i a b hlt]
        · rw [if_neg (by omega), if_neg hlt]
    by_cases hd3 : d = 3
    · subst hd3
      rw [key z (by decide) (by decide) h3, w_up_eq]
      by_cases hi : i = c.toNat
      · rw [if_pos hi, if_pos ⟨rfl, hi⟩]
      · rw [if_neg hi, if_neg (fun e => hi e.2), w_up_ne (by decide), w_up_ne (by decide)]
    · rw [w_up_ne hd3]
      by_cases hd2 : d = 2
      · subst hd2
        rw [key y (by decide) (by decide) h2, w_up_eq]
        by_cases hi : i = c.toNat
        · rw [if_pos hi, if_pos ⟨rfl, hi⟩]
        · rw [if_neg hi, if_neg (fun e => hi e.2), w_up_ne (by decide)]
      · rw [w_up_ne hd2]
        by_cases hd1 : d = 1
        · subst hd1
          rw [key x (by decide) (by decide) h1, w_up_eq]
          by_cases hi : i = c.toNat
          · rw [if_pos hi, if_pos ⟨rfl, hi⟩]
          · rw [if_neg hi, if_neg (fun e => hi e.2)]
        · rw [w_up_ne hd1]
          unfold g_ab
          rw [if_neg hd0, if_neg (by omega), if_neg hd0, if_neg (by omega)]
theorem g_ab_pa {c : Int} {f f' : Nat → Nat → Int} {x y : Int} (hc : 0 ≤ c) (h : ∀ d i, 1 ≤ d → d < 3 → i < c.toNat → f' d i = f d i) (h1 : f' 1 c.toNat = x) (h2 : f' 2 c.toNat = y) : g_ab 3 (c + 1) f' = paAdd (g_ab 3 c f) x y := by
  have e0 : g_ab 3 c f 0 0 = c := rfl
  funext d i
  unfold paAdd
  rw [e0]
  by_cases hd0 : d = 0
  · subst hd0
    by_cases hi : i = 0
    · subst hi; rw [w_up_at]; rfl
    · rw [w_up_j hi, w_up_ne (by decide), w_up_ne (by decide)]
      show (if i = 0 then c + 1 else 0) = (if i = 0 then c else 0)
      rw [if_neg hi, if_neg hi]
  · rw [w_up_ne hd0]
    have key : ∀ v, 1 ≤ d → d < 3 → f' d c.toNat = v → g_ab 3 (c + 1) f' d i = if i = c.toNat then v else g_ab 3 c f d i := by
      intro v a b e
      unfold g_ab
      rw [if_neg hd0, if_pos b, if_neg hd0, if_pos b]
      by_cases hi : i = c.toNat
      · rw [if_pos hi, if_pos (by omega), hi, e]
      · rw [if_neg hi]
        by_cases hlt : i < c.toNat
        · rw [if_pos (by omega), if_pos hlt, h d i a b hlt]
        · rw [if_neg (by omega), if_neg hlt]
    by_cases hd2 : d = 2
    · subst hd2
      rw [key y (by decide) (by decide) h2, w_up_eq]
      by_cases hi : i = c.toNat
      · rw [if_pos hi, if_pos ⟨rfl, hi⟩]
      · rw [if_neg hi, if_neg (fun e => hi e.2), w_up_ne (by decide)]
    · rw [w_up_ne hd2]
      by_cases hd1 : d = 1
      · subst hd1
        rw [key x (by decide) (by decide) h1, w_up_eq]
        by_cases hi : i = c.toNat
        · rw [if_pos hi, if_pos ⟨rfl, hi⟩]
        · rw [if_neg hi, if_neg (fun e => hi e.2)]
      · rw [w_up_ne hd1]
        unfold g_ab
        rw [if_neg hd0, if_neg (by omega), if_neg hd0, if_neg (by omega)]
theorem s_ab_g (σ : w_M) (a : Nat) : s_ab σ a = g_ab 4 (σ a 0) (fun d i => σ (a + d) i) := rfl
theorem c_ab_g (σ : w_M) (a : Nat) : c_ab σ a = g_ab 3 (σ a 0) (fun d i => σ (a + d) i) := rfl
theorem s_am_g (σ : w_M) (o : Nat) : s_am σ o = g_ab 4 (σ 123 (o + 48)) (fun d i => σ 123 (o + 49 + 3 * i + (d - 1))) := rfl
theorem c_am_g (σ : w_M) (o : Nat) : c_am σ o = g_ab 3 (σ 123 (o + 73)) (fun d i => σ 123 (o + 74 + 2 * i + (d - 1))) := rfl
theorem CI.se {σ : w_M} (h : CI σ) : 0 ≤ σ 23 0 ∧ σ 23 0 ≤ 8 := h.1.2.1.1
theorem CI.pa {σ : w_M} (h : CI σ) : 0 ≤ σ 27 0 ∧ σ 27 0 ≤ 4 := h.1.2.2.1.1
noncomputable def p_Seen_add (a : Nat) (_ _ z : Int) (σ : w_M) : Prop := (0 ≤ σ a 0 ∧ σ a 0 ≤ 8) ∧ (z = 0 ∨ z = 1)
noncomputable def q_Seen_add (a : Nat) (x y z : Int) (σ : w_M) (r : Int) (σ' : w_M) : Prop := (σ a 0 < 8 → r = σ a 0 + 1 ∧ s_ab σ' a = seAdd (s_ab σ a) x y z) ∧ (¬ σ a 0 < 8 → r = -3 ∧ σ' = σ) ∧ w_fr σ σ' a (a + 4)
theorem fSeen_add_0 : w_fe am_c56 0 1 (.aload 0) := ⟨rfl, rfl⟩
theorem fSeen_add_1 : w_fe am_c56 1 2 (.getfield 400) := ⟨rfl, rfl⟩
theorem fSeen_add_2 : w_fe am_c56 2 3 (.bipush 8) := ⟨rfl, rfl⟩
theorem fSeen_add_3 : w_ic am_c56 3 4 .lt 6 := ⟨rfl, rfl⟩
theorem fSeen_add_4 : w_fe am_c56 4 5 (.bipush (-3)) := ⟨rfl, rfl⟩
theorem fSeen_add_5 : w_fe am_c56 5 6 (.ireturn) := ⟨rfl, rfl⟩
theorem fSeen_add_6 : w_fe am_c56 6 7 (.aload 0) := ⟨rfl, rfl⟩
theorem fSeen_add_7 : w_fe am_c56 7 8 (.getfield 401) := ⟨rfl, rfl⟩
theorem fSeen_add_8 : w_fe am_c56 8 9 (.aload 0) := ⟨rfl, rfl⟩
theorem fSeen_add_9 : w_fe am_c56 9 10 (.getfield 400) := ⟨rfl, rfl⟩
theorem fSeen_add_10 : w_fe am_c56 10 11 (.iload 1) := ⟨rfl, rfl⟩
theorem fSeen_add_11 : w_fe am_c56 11 12 (.iastore) := ⟨rfl, rfl⟩
theorem fSeen_add_12 : w_fe am_c56 12 13 (.aload 0) := ⟨rfl, rfl⟩
theorem fSeen_add_13 : w_fe am_c56 13 14 (.getfield 402) := ⟨rfl, rfl⟩
theorem fSeen_add_14 : w_fe am_c56 14 15 (.aload 0) := ⟨rfl, rfl⟩
theorem fSeen_add_15 : w_fe am_c56 15 16 (.getfield 400) := ⟨rfl, rfl⟩
theorem fSeen_add_16 : w_fe am_c56 16 17 (.iload 2) := ⟨rfl, rfl⟩
theorem fSeen_add_17 : w_fe am_c56 17 18 (.iastore) := ⟨rfl, rfl⟩
theorem fSeen_add_18 : w_fe am_c56 18 19 (.aload 0) := ⟨rfl, rfl⟩
theorem fSeen_add_19 : w_fe am_c56 19 20 (.getfield 403) := ⟨rfl, rfl⟩
theorem fSeen_add_20 : w_fe am_c56 20 21 (.aload 0) := ⟨rfl, rfl⟩
theorem fSeen_add_21 : w_fe am_c56 21 22 (.getfield 400) := ⟨rfl, rfl⟩
theorem fSeen_add_22 : w_fe am_c56 22 23 (.iload 3) := ⟨rfl, rfl⟩
theorem fSeen_add_23 : w_if am_c56 23 24 .eq 26 := ⟨rfl, rfl⟩
theorem fSeen_add_24 : w_fe am_c56 24 25 (.bipush 1) := ⟨rfl, rfl⟩
theorem fSeen_add_25 : w_gt am_c56 25 27 := rfl
theorem fSeen_add_26 : w_fe am_c56 26 27 (.bipush 0) := ⟨rfl, rfl⟩
theorem fSeen_add_27 : w_fe am_c56 27 28 (.iastore) := ⟨rfl, rfl⟩
theorem fSeen_add_28 : w_fe am_c56 28 29 (.aload 0) := ⟨rfl, rfl⟩
theorem fSeen_add_29 : w_fe am_c56 29 30 (.dup) := ⟨rfl, rfl⟩
theorem fSeen_add_30 : w_fe am_c56 30 31 (.getfield 400) := ⟨rfl, rfl⟩
theorem fSeen_add_31 : w_fe am_c56 31 32 (.bipush 1) := ⟨rfl, rfl⟩
theorem fSeen_add_32 : w_fe am_c56 32 33 (.iadd) := ⟨rfl, rfl⟩
theorem fSeen_add_33 : w_fe am_c56 33 34 (.putfield 400) := ⟨rfl, rfl⟩
theorem fSeen_add_34 : w_fe am_c56 34 35 (.aload 0) := ⟨rfl, rfl⟩
theorem fSeen_add_35 : w_fe am_c56 35 36 (.getfield 400) := ⟨rfl, rfl⟩
theorem fSeen_add_36 : w_fe am_c56 36 37 (.ireturn) := ⟨rfl, rfl⟩
set_option maxRecDepth 20000 in
theorem bSeen_add_0 {xs : List Int} {d : Nat} {Q : Option w_V → w_M → Prop} {a : Nat} {x1 : Int} {x2 : Int} {x3 : Int} {σ : w_M}
    (h : ((σ a 0) < 8 → (0 ≤ (σ a 0) ∧ (∀ (τ1 : w_M), τ1 = w_up σ (a + 1) (σ a 0).toNat x1 → (0 ≤ (τ1 a 0) ∧ (τ1 a 0) < 8 ∧ (∀ (τ2 : w_M), τ2 = w_up τ1 (a + 2) (τ1 a 0).toNat x2 → ((x3 = 0 → (0 ≤ (τ2 a 0) ∧ (τ2 a 0) < 8 ∧ (∀ (τ3 : w_M), τ3 = w_up τ2 (a + 3) (τ2 a 0).toNat 0 → (w_in ((τ3 a 0) + 1) ∧ (∀ (τ4 : w_M), τ4 = w_up τ3 a 0 ((τ3 a 0) + 1) → Q (some (.inl (τ4 a 0))) τ4))))) ∧ (¬ x3 = 0 → (0 ≤ (τ2 a 0) ∧ (τ2 a 0) < 8 ∧ (∀ (τ5 : w_M), τ5 = w_up τ2 (a + 3) (τ2 a 0).toNat 1 → (w_in ((τ5 a 0) + 1) ∧ (∀ (τ6 : w_M), τ6 = w_up τ5 a 0 ((τ5 a 0) + 1) → Q (some (.inl (τ6 a 0))) τ6))))))))))) ∧ (8 ≤ (σ a 0) → Q (some (.inl (-3))) σ)) : w_Call (xs, d) 56 [.inr (.inr (4, a)), .inl x1, .inl x2, .inl x3] σ Q :=
  (w_mk (mid := 56) (by decide) rfl rfl rfl rfl rfl (Nat.le_of_ble_eq_true rfl) ⟨rfl, Or.inl (by decide)⟩ (wi_aload0 fSeen_add_0 (wi_getf400 fSeen_add_1 (wi_bipush fSeen_add_2 (wi_ic_lt fSeen_add_3 (fun c8 => (wi_aload0 fSeen_add_6 (wi_getf401 fSeen_add_7 (wi_aload0 fSeen_add_8 (wi_getf400 fSeen_add_9 (wi_iload1 fSeen_add_10 (wi_iast1008 fSeen_add_11 (h.1 c8).1 c8 (wi_aload0 fSeen_add_12 (wi_getf402 fSeen_add_13 (wi_aload0 fSeen_add_14 (wi_getf400 fSeen_add_15 (wi_iload2 fSeen_add_16 (wi_iast1008 fSeen_add_17 ((h.1 c8).2 _ rfl).1 ((h.1 c8).2 _ rfl).2.1 (wi_aload0 fSeen_add_18 (wi_getf403 fSeen_add_19 (wi_aload0 fSeen_add_20 (wi_getf400 fSeen_add_21 (wi_iload3 fSeen_add_22 (wi_if_eq fSeen_add_23 (fun c7 => (wi_bipush fSeen_add_26 (wi_iast1008 fSeen_add_27 ((((h.1 c8).2 _ rfl).2.2 _ rfl).1 c7).1 ((((h.1 c8).2 _ rfl).2.2 _ rfl).1 c7).2.1 (wi_aload0 fSeen_add_28 (wi_dup_a fSeen_add_29 (wi_getf400 fSeen_add_30 (wi_bipush fSeen_add_31 (wi_iadd fSeen_add_32 (((((h.1 c8).2 _ rfl).2.2 _ rfl).1 c7).2.2 _ rfl).1 (wi_putf400 fSeen_add_33 (wi_aload0 fSeen_add_34 (wi_getf400 fSeen_add_35 (wi_ret1 fSeen_add_36 ((((((h.1 c8).2 _ rfl).2.2 _ rfl).1 c7).2.2 _ rfl).2 _ rfl))))))))))))) (fun c7 => (wi_bipush fSeen_add_24 (wi_goto fSeen_add_25 (wi_iast1008 fSeen_add_27 ((((h.1 c8).2 _ rfl).2.2 _ rfl).2 c7).1 ((((h.1 c8).2 _ rfl).2.2 _ rfl).2 c7).2.1 (wi_aload0 fSeen_add_28 (wi_dup_a fSeen_add_29 (wi_getf400 fSeen_add_30 (wi_bipush fSeen_add_31 (wi_iadd fSeen_add_32 (((((h.1 c8).2 _ rfl).2.2 _ rfl).2 c7).2.2 _ rfl).1 (wi_putf400 fSeen_add_33 (wi_aload0 fSeen_add_34 (wi_getf400 fSeen_add_35 (wi_ret1 fSeen_add_36 ((((((h.1 c8).2 _ rfl).2.2 _ rfl).2 c7).2.2 _ rfl).2 _ rfl))))))))))))))))))))))))))))))))) (fun c8 => (wi_bipush fSeen_add_4 (wi_ret1 fSeen_add_5 (h.2 c8)))))))))
theorem k_Seen_add {xs : List Int} {d : Nat} {Q : Option w_V → w_M → Prop} {a : Nat} {x1 : Int} {x2 : Int} {x3 : Int} {σ : w_M} (hp : p_Seen_add a x1 x2 x3 σ) (hQ : ∀ (x : Int) (σ' : w_M), q_Seen_add a x1 x2 x3 σ x σ' → Q (some (.inl x)) σ') : w_Call (xs, d) 56 [.inr (.inr (4, a)), .inl x1, .inl x2, .inl x3] σ Q := by
  obtain ⟨h0, hz⟩ := hp
  have main : σ a 0 < 8 → ∀ τ1, τ1 = w_up σ (a + 1) (σ a 0).toNat x1 → ∀ τ2, τ2 = w_up τ1 (a + 2) (σ a 0).toNat x2 → ∀ τ3, τ3 = w_up τ2 (a + 3) (σ a 0).toNat x3 → ∀ τ4, τ4 = w_up τ3 a 0 (σ a 0 + 1) → Q (some (.inl (τ4 a 0))) τ4 := by
    intro c τ1 t1 τ2 t2 τ3 t3 τ4 t4
    have e0 : τ4 a 0 = σ a 0 + 1 := by rw [t4]; exact w_up_at
    refine hQ _ _ ⟨fun _ => ⟨e0, ?_⟩, fun c2 => absurd c c2, by rw [t4, t3, t2, t1]; exact (((w_fr.up0 (by omega) (by omega)).up (by omega) (by omega)).up (by omega) (by omega)).up (by omega) (by omega)⟩
    rw [s_ab_g, s_ab_g, e0]
    refine g_ab_se h0.1 (fun d i h1 h2 h3 => ?_) ?_ ?_ ?_
    · show τ4 (a + d) i = σ (a + d) i
      have hi : i ≠ (σ a 0).toNat := by omega
      rw [t4, w_up_ne (by omega), t3, w_up_eq, if_neg (by omega), t2, w_up_eq, if_neg (by omega), t1, w_up_eq, if_neg (by omega)]
    · show τ4 (a + 1) _ = _
      rw [t4, w_up_ne (by omega), t3, w_up_ne (by omega), t2, w_up_ne (by omega), t1, w_up_at]
    · show τ4 (a + 2) _ = _
      rw [t4, w_up_ne (by omega), t3, w_up_ne (by omega), t2, w_up_at]
    · show τ4 (a + 3) _ = _
      rw [t4, w_up_ne (by omega), t3, w_up_at]
  refine bSeen_add_0 ⟨fun c => ⟨h0.1, fun τ1 t1 => ?_⟩, fun c => hQ _ _ ⟨fun c2 => by omega, fun _ => ⟨rfl, rfl⟩, w_fr.rfl'⟩⟩
  have z1 : τ1 a = σ a := by rw [t1]; exact w_up_ne (by omega)
  rw [z1]
  refine ⟨h0.1, c, fun τ2 t2 => ?_⟩
  have z2 : τ2 a = σ a := by rw [t2, w_up_ne (by omega)]; exact z1
  rw [z2]
  refine ⟨fun hx => ⟨h0.1, c, fun τ3 t3 => ?_⟩, fun hx => ⟨h0.1, c, fun τ3 t3 => ?_⟩⟩
  · have z3 : τ3 a = σ a := by rw [t3, w_up_ne (by omega)]; exact z2
    rw [z3]
    exact ⟨⟨by omega, by omega⟩, fun τ4 t4 => main c τ1 t1 τ2 t2 τ3 (by rw [hx]; exact t3) τ4 t4⟩
  · have z3 : τ3 a = σ a := by rw [t3, w_up_ne (by omega)]; exact z2
    rw [z3]
    exact ⟨⟨by omega, by omega⟩, fun τ4 t4 => main c τ1 t1 τ2 t2 τ3 (by rw [hz.resolve_left hx]; exact t3) τ4 t4⟩
noncomputable def p_Paid_add (a : Nat) (_ _ : Int) (σ : w_M) : Prop := 0 ≤ σ a 0 ∧ σ a 0 ≤ 4
noncomputable def q_Paid_add (a : Nat) (x y : Int) (σ : w_M) (r : Int) (σ' : w_M) : Prop := (σ a 0 < 4 → r = σ a 0 + 1 ∧ c_ab σ' a = paAdd (c_ab σ a) x y) ∧ (¬ σ a 0 < 4 → r = -3 ∧ σ' = σ) ∧ w_fr σ σ' a (a + 3)
theorem fPaid_add_0 : w_fe am_c60 0 1 (.aload 0) := ⟨rfl, rfl⟩
theorem fPaid_add_1 : w_fe am_c60 1 2 (.getfield 500) := ⟨rfl, rfl⟩
theorem fPaid_add_2 : w_fe am_c60 2 3 (.bipush 4) := ⟨rfl, rfl⟩
theorem fPaid_add_3 : w_ic am_c60 3 4 .lt 6 := ⟨rfl, rfl⟩
theorem fPaid_add_4 : w_fe am_c60 4 5 (.bipush (-3)) := ⟨rfl, rfl⟩
theorem fPaid_add_5 : w_fe am_c60 5 6 (.ireturn) := ⟨rfl, rfl⟩
theorem fPaid_add_6 : w_fe am_c60 6 7 (.aload 0) := ⟨rfl, rfl⟩
theorem fPaid_add_7 : w_fe am_c60 7 8 (.getfield 501) := ⟨rfl, rfl⟩
theorem fPaid_add_8 : w_fe am_c60 8 9 (.aload 0) := ⟨rfl, rfl⟩
theorem fPaid_add_9 : w_fe am_c60 9 10 (.getfield 500) := ⟨rfl, rfl⟩
theorem fPaid_add_10 : w_fe am_c60 10 11 (.iload 1) := ⟨rfl, rfl⟩
theorem fPaid_add_11 : w_fe am_c60 11 12 (.iastore) := ⟨rfl, rfl⟩
theorem fPaid_add_12 : w_fe am_c60 12 13 (.aload 0) := ⟨rfl, rfl⟩
theorem fPaid_add_13 : w_fe am_c60 13 14 (.getfield 502) := ⟨rfl, rfl⟩
theorem fPaid_add_14 : w_fe am_c60 14 15 (.aload 0) := ⟨rfl, rfl⟩
theorem fPaid_add_15 : w_fe am_c60 15 16 (.getfield 500) := ⟨rfl, rfl⟩
theorem fPaid_add_16 : w_fe am_c60 16 17 (.iload 2) := ⟨rfl, rfl⟩
theorem fPaid_add_17 : w_fe am_c60 17 18 (.iastore) := ⟨rfl, rfl⟩
theorem fPaid_add_18 : w_fe am_c60 18 19 (.aload 0) := ⟨rfl, rfl⟩
theorem fPaid_add_19 : w_fe am_c60 19 20 (.dup) := ⟨rfl, rfl⟩
theorem fPaid_add_20 : w_fe am_c60 20 21 (.getfield 500) := ⟨rfl, rfl⟩
theorem fPaid_add_21 : w_fe am_c60 21 22 (.bipush 1) := ⟨rfl, rfl⟩
theorem fPaid_add_22 : w_fe am_c60 22 23 (.iadd) := ⟨rfl, rfl⟩
theorem fPaid_add_23 : w_fe am_c60 23 24 (.putfield 500) := ⟨rfl, rfl⟩
theorem fPaid_add_24 : w_fe am_c60 24 25 (.aload 0) := ⟨rfl, rfl⟩
theorem fPaid_add_25 : w_fe am_c60 25 26 (.getfield 500) := ⟨rfl, rfl⟩
theorem fPaid_add_26 : w_fe am_c60 26 27 (.ireturn) := ⟨rfl, rfl⟩
set_option maxRecDepth 20000 in
theorem bPaid_add_0 {xs : List Int} {d : Nat} {Q : Option w_V → w_M → Prop} {a : Nat} {x1 : Int} {x2 : Int} {σ : w_M}
    (h : ((σ a 0) < 4 → (0 ≤ (σ a 0) ∧ (∀ (τ1 : w_M), τ1 = w_up σ (a + 1) (σ a 0).toNat x1 → (0 ≤ (τ1 a 0) ∧ (τ1 a 0) < 4 ∧ (∀ (τ2 : w_M), τ2 = w_up τ1 (a + 2) (τ1 a 0).toNat x2 → (w_in ((τ2 a 0) + 1) ∧ (∀ (τ3 : w_M), τ3 = w_up τ2 a 0 ((τ2 a 0) + 1) → Q (some (.inl (τ3 a 0))) τ3))))))) ∧ (4 ≤ (σ a 0) → Q (some (.inl (-3))) σ)) : w_Call (xs, d) 60 [.inr (.inr (5, a)), .inl x1, .inl x2] σ Q :=
  (w_mk (mid := 60) (by decide) rfl rfl rfl rfl rfl (Nat.le_of_ble_eq_true rfl) ⟨rfl, Or.inl (by decide)⟩ (wi_aload0 fPaid_add_0 (wi_getf500 fPaid_add_1 (wi_bipush fPaid_add_2 (wi_ic_lt fPaid_add_3 (fun c4 => (wi_aload0 fPaid_add_6 (wi_getf501 fPaid_add_7 (wi_aload0 fPaid_add_8 (wi_getf500 fPaid_add_9 (wi_iload1 fPaid_add_10 (wi_iast1004 fPaid_add_11 (h.1 c4).1 c4 (wi_aload0 fPaid_add_12 (wi_getf502 fPaid_add_13 (wi_aload0 fPaid_add_14 (wi_getf500 fPaid_add_15 (wi_iload2 fPaid_add_16 (wi_iast1004 fPaid_add_17 ((h.1 c4).2 _ rfl).1 ((h.1 c4).2 _ rfl).2.1 (wi_aload0 fPaid_add_18 (wi_dup_a fPaid_add_19 (wi_getf500 fPaid_add_20 (wi_bipush fPaid_add_21 (wi_iadd fPaid_add_22 (((h.1 c4).2 _ rfl).2.2 _ rfl).1 (wi_putf500 fPaid_add_23 (wi_aload0 fPaid_add_24 (wi_getf500 fPaid_add_25 (wi_ret1 fPaid_add_26 ((((h.1 c4).2 _ rfl).2.2 _ rfl).2 _ rfl))))))))))))))))))))))) (fun c4 => (wi_bipush fPaid_add_4 (wi_ret1 fPaid_add_5 (h.2 c4)))))))))
theorem k_Paid_add {xs : List Int} {d : Nat} {Q : Option w_V → w_M → Prop} {a : Nat} {x1 : Int} {x2 : Int} {σ : w_M} (hp : p_Paid_add a x1 x2 σ) (hQ : ∀ (x : Int) (σ' : w_M), q_Paid_add a x1 x2 σ x σ' → Q (some (.inl x)) σ') : w_Call (xs, d) 60 [.inr (.inr (5, a)), .inl x1, .inl x2] σ Q := by
  have h0 : 0 ≤ σ a 0 ∧ σ a 0 ≤ 4 := hp
  refine bPaid_add_0 ⟨fun c => ⟨h0.1, fun τ1 t1 => ?_⟩, fun c => hQ _ _ ⟨fun c2 => by omega, fun _ => ⟨rfl, rfl⟩, w_fr.rfl'⟩⟩
  have z1 : τ1 a = σ a := by rw [t1]; exact w_up_ne (by omega)
  rw [z1]
  refine ⟨h0.1, c, fun τ2 t2 => ?_⟩
  have z2 : τ2 a = σ a := by rw [t2, w_up_ne (by omega)]; exact z1
  rw [z2]
  refine ⟨⟨by omega, by omega⟩, fun τ4 t4 => ?_⟩
  have e0 : τ4 a 0 = σ a 0 + 1 := by rw [t4]; exact w_up_at
  refine hQ _ _ ⟨fun _ => ⟨e0, ?_⟩, fun c2 => absurd c c2, by rw [t4, t2, t1]; exact ((w_fr.up0 (by omega) (by omega)).up (by omega) (by omega)).up (by omega) (by omega)⟩
  rw [c_ab_g, c_ab_g, e0]
  refine g_ab_pa h0.1 (fun d i h1 h2 h3 => ?_) ?_ ?_
  · show τ4 (a + d) i = σ (a + d) i
    have hi : i ≠ (σ a 0).toNat := by omega
    rw [t4, w_up_ne (by omega), t2, w_up_eq, if_neg (by omega), t1, w_up_eq, if_neg (by omega)]
  · show τ4 (a + 1) _ = _
    rw [t4, w_up_ne (by omega), t2, w_up_ne (by omega), t1, w_up_at]
  · show τ4 (a + 2) _ = _
    rw [t4, w_up_ne (by omega), t2, w_up_at]
noncomputable def p_Moon_see (_x1 : Int) (_x2 : Int) (x3 : Int) (σ : w_M) : Prop := CI σ ∧ (x3 = 0 ∨ x3 = 1)
noncomputable def q_Moon_see (x1 : Int) (x2 : Int) (x3 : Int) (σ : w_M) (x : Int) (σ' : w_M) : Prop := c_q (F_see (cS σ) x1 x2 x3) (G_see (cS σ) x1 x2 x3) σ x σ'
noncomputable def p_Moon_forget (_x1 : Int) (σ : w_M) : Prop := CI σ
noncomputable def q_Moon_forget (x1 : Int) (σ : w_M) (x : Int) (σ' : w_M) : Prop := c_q (F_forget (cS σ) x1) (G_forget (cS σ) x1) σ x σ'
noncomputable def p_Moon_pay (_x1 : Int) (_x2 : Int) (σ : w_M) : Prop := CI σ
noncomputable def q_Moon_pay (x1 : Int) (x2 : Int) (σ : w_M) (x : Int) (σ' : w_M) : Prop := c_q (F_pay (cS σ) x1 x2) (G_pay (cS σ) x1 x2) σ x σ'
noncomputable def p_Moon_owe (_x1 : Int) (σ : w_M) : Prop := CI σ
noncomputable def q_Moon_owe (x1 : Int) (σ : w_M) (x : Int) (σ' : w_M) : Prop := c_q (F_owe (cS σ) x1) (G_owe (cS σ) x1) σ x σ'
theorem fMoon_see_0 : w_fe am_c137 0 1 (.iload 1) := ⟨rfl, rfl⟩
theorem fMoon_see_1 : w_fe am_c137 1 2 (.bipush 0) := ⟨rfl, rfl⟩
theorem fMoon_see_2 : w_fe am_c137 2 3 (.bipush 6) := ⟨rfl, rfl⟩
theorem fMoon_see_3 : w_fe am_c137 3 4 (.invokestatic 107) := ⟨rfl, rfl⟩
theorem fMoon_see_4 : w_if am_c137 4 5 .eq 10 := ⟨rfl, rfl⟩
theorem fMoon_see_5 : w_fe am_c137 5 6 (.aload 0) := ⟨rfl, rfl⟩
theorem fMoon_see_6 : w_fe am_c137 6 7 (.getfield 2) := ⟨rfl, rfl⟩
theorem fMoon_see_7 : w_fe am_c137 7 8 (.iload 2) := ⟨rfl, rfl⟩
theorem fMoon_see_8 : w_fe am_c137 8 9 (.invokestatic 33) := ⟨rfl, rfl⟩
theorem fMoon_see_9 : w_if am_c137 9 10 .ne 12 := ⟨rfl, rfl⟩
theorem fMoon_see_10 : w_fe am_c137 10 11 (.bipush (-1)) := ⟨rfl, rfl⟩
theorem fMoon_see_11 : w_fe am_c137 11 12 (.ireturn) := ⟨rfl, rfl⟩
theorem fMoon_see_12 : w_fe am_c137 12 13 (.aload 0) := ⟨rfl, rfl⟩
theorem fMoon_see_13 : w_fe am_c137 13 14 (.getfield 1) := ⟨rfl, rfl⟩
theorem fMoon_see_14 : w_fe am_c137 14 15 (.getfield 301) := ⟨rfl, rfl⟩
theorem fMoon_see_15 : w_fe am_c137 15 16 (.iload 1) := ⟨rfl, rfl⟩
theorem fMoon_see_16 : w_fe am_c137 16 17 (.iload 2) := ⟨rfl, rfl⟩
theorem fMoon_see_17 : w_fe am_c137 17 18 (.iload 3) := ⟨rfl, rfl⟩
theorem fMoon_see_18 : w_fe am_c137 18 19 (.invokestatic 56) := ⟨rfl, rfl⟩
theorem fMoon_see_19 : w_fe am_c137 19 20 (.ireturn) := ⟨rfl, rfl⟩
set_option maxRecDepth 20000 in
theorem bMoon_see_0 {xs : List Int} {d : Nat} {Q : Option w_V → w_M → Prop} {x1 : Int} {x2 : Int} {x3 : Int} {σ : w_M}
    (h : (¬ (0 ≤ x1 ∧ x1 ≤ 6) → Q (some (.inl (-1))) σ) ∧ ((0 ≤ x1 ∧ x1 ≤ 6) → (((0 ≤ x2 ∧ x2 < σ 14 4) → (p_Seen_add 23 x1 x2 x3 σ ∧ (∀ (y1 : Int) (τ2 : w_M), q_Seen_add 23 x1 x2 x3 σ y1 τ2 → Q (some (.inl y1)) τ2))) ∧ (¬ (0 ≤ x2 ∧ x2 < σ 14 4) → Q (some (.inl (-1))) σ)))) : w_Call (xs, (d + 1)) 137 [.inr (.inr (0, 0)), .inl x1, .inl x2, .inl x3] σ Q :=
  (w_mk (mid := 137) (by decide) rfl rfl rfl rfl rfl (Nat.le_of_ble_eq_true rfl) ⟨rfl, Or.inl (by decide)⟩ (wi_iload1 fMoon_see_0 (wi_bipush fMoon_see_1 (wi_bipush fMoon_see_2 (wi_call3 fMoon_see_3 (Nat.le_of_ble_eq_true rfl) (k_Moon_isWithin (wi_ifb_eq fMoon_see_4 (fun c4 => (wi_bipush fMoon_see_10 (wi_ret1 fMoon_see_11 (h.1 c4)))) (fun c4 => (wi_aload0 fMoon_see_5 (wi_getf2 fMoon_see_6 (wi_iload2 fMoon_see_7 (wi_call2 fMoon_see_8 (Nat.le_of_ble_eq_true rfl) (k_Field_isStrip (wi_ifb_ne fMoon_see_9 (fun c3 => (wi_aload0 fMoon_see_12 (wi_getf1 fMoon_see_13 (wi_getf301 fMoon_see_14 (wi_iload1 fMoon_see_15 (wi_iload2 fMoon_see_16 (wi_iload3 fMoon_see_17 (wi_call4 fMoon_see_18 (Nat.le_of_ble_eq_true rfl) (k_Seen_add ((h.2 c4).1 c3).1 (fun y1 τ2 eτ2 => (wi_ret1 fMoon_see_19 (((h.2 c4).1 c3).2 y1 τ2 eτ2)))))))))))) (fun c3 => (wi_bipush fMoon_see_10 (wi_ret1 fMoon_see_11 ((h.2 c4).2 c3))))))))))))))))))
theorem fMoon_forget_0 : w_fe am_c138 0 1 (.aload 0) := ⟨rfl, rfl⟩
theorem fMoon_forget_1 : w_fe am_c138 1 2 (.getfield 1) := ⟨rfl, rfl⟩
theorem fMoon_forget_2 : w_fe am_c138 2 3 (.getfield 301) := ⟨rfl, rfl⟩
theorem fMoon_forget_3 : w_fe am_c138 3 4 (.getfield 400) := ⟨rfl, rfl⟩
theorem fMoon_forget_4 : w_fe am_c138 4 5 (.istore 2) := ⟨rfl, rfl⟩
theorem fMoon_forget_5 : w_fe am_c138 5 6 (.iload 1) := ⟨rfl, rfl⟩
theorem fMoon_forget_6 : w_fe am_c138 6 7 (.bipush 0) := ⟨rfl, rfl⟩
theorem fMoon_forget_7 : w_fe am_c138 7 8 (.iload 2) := ⟨rfl, rfl⟩
theorem fMoon_forget_8 : w_fe am_c138 8 9 (.invokestatic 107) := ⟨rfl, rfl⟩
theorem fMoon_forget_9 : w_if am_c138 9 10 .ne 12 := ⟨rfl, rfl⟩
theorem fMoon_forget_10 : w_fe am_c138 10 11 (.bipush (-1)) := ⟨rfl, rfl⟩
theorem fMoon_forget_11 : w_fe am_c138 11 12 (.ireturn) := ⟨rfl, rfl⟩
theorem fMoon_forget_12 : w_fe am_c138 12 13 (.aload 0) := ⟨rfl, rfl⟩
theorem fMoon_forget_13 : w_fe am_c138 13 14 (.getfield 1) := ⟨rfl, rfl⟩
theorem fMoon_forget_14 : w_fe am_c138 14 15 (.getfield 301) := ⟨rfl, rfl⟩
theorem fMoon_forget_15 : w_fe am_c138 15 16 (.iload 1) := ⟨rfl, rfl⟩
theorem fMoon_forget_16 : w_fe am_c138 16 17 (.putfield 400) := ⟨rfl, rfl⟩
theorem fMoon_forget_17 : w_fe am_c138 17 18 (.iload 2) := ⟨rfl, rfl⟩
theorem fMoon_forget_18 : w_fe am_c138 18 19 (.ireturn) := ⟨rfl, rfl⟩
set_option maxRecDepth 20000 in
theorem bMoon_forget_0 {xs : List Int} {d : Nat} {Q : Option w_V → w_M → Prop} {x1 : Int} {σ : w_M}
    (h : ∀ (y1 : Int), y1 = (σ 23 0) → (((0 ≤ x1 ∧ x1 ≤ y1) → ∀ (τ2 : w_M), τ2 = w_up σ 23 0 x1 → Q (some (.inl y1)) τ2) ∧ (¬ (0 ≤ x1 ∧ x1 ≤ y1) → Q (some (.inl (-1))) σ))) : w_Call (xs, (d + 1)) 138 [.inr (.inr (0, 0)), .inl x1] σ Q :=
  (w_mk (mid := 138) (by decide) rfl rfl rfl rfl rfl (Nat.le_of_ble_eq_true rfl) ⟨rfl, Or.inl (by decide)⟩ (wi_aload0 fMoon_forget_0 (wi_getf1 fMoon_forget_1 (wi_getf301 fMoon_forget_2 (wi_getf400 fMoon_forget_3 (wi_istore2 fMoon_forget_4 trivial (wi_iload1 fMoon_forget_5 (wi_bipush fMoon_forget_6 (wi_iload2 fMoon_forget_7 (wi_call3 fMoon_forget_8 (Nat.le_of_ble_eq_true rfl) (k_Moon_isWithin (wi_ifb_ne fMoon_forget_9 (fun c3 => (wi_aload0 fMoon_forget_12 (wi_getf1 fMoon_forget_13 (wi_getf301 fMoon_forget_14 (wi_iload1 fMoon_forget_15 (wi_putf400 fMoon_forget_16 (wi_iload2 fMoon_forget_17 (wi_ret1 fMoon_forget_18 (((h _ rfl).1 c3) _ rfl))))))))) (fun c3 => (wi_bipush fMoon_forget_10 (wi_ret1 fMoon_forget_11 ((h _ rfl).2 c3))))))))))))))))
theorem fMoon_pay_0 : w_fe am_c142 0 1 (.aload 0) := ⟨rfl, rfl⟩
theorem fMoon_pay_1 : w_fe am_c142 1 2 (.getfield 2) := ⟨rfl, rfl⟩
theorem fMoon_pay_2 : w_fe am_c142 2 3 (.iload 1) := ⟨rfl, rfl⟩
theorem fMoon_pay_3 : w_fe am_c142 3 4 (.invokestatic 38) := ⟨rfl, rfl⟩
theorem fMoon_pay_4 : w_if am_c142 4 5 .eq 10 := ⟨rfl, rfl⟩
theorem fMoon_pay_5 : w_fe am_c142 5 6 (.iload 2) := ⟨rfl, rfl⟩
theorem fMoon_pay_6 : w_fe am_c142 6 7 (.bipush 0) := ⟨rfl, rfl⟩
theorem fMoon_pay_7 : w_fe am_c142 7 8 (.bipush 99) := ⟨rfl, rfl⟩
theorem fMoon_pay_8 : w_fe am_c142 8 9 (.invokestatic 107) := ⟨rfl, rfl⟩
theorem fMoon_pay_9 : w_if am_c142 9 10 .ne 12 := ⟨rfl, rfl⟩
theorem fMoon_pay_10 : w_fe am_c142 10 11 (.bipush (-1)) := ⟨rfl, rfl⟩
theorem fMoon_pay_11 : w_fe am_c142 11 12 (.ireturn) := ⟨rfl, rfl⟩
theorem fMoon_pay_12 : w_fe am_c142 12 13 (.aload 0) := ⟨rfl, rfl⟩
theorem fMoon_pay_13 : w_fe am_c142 13 14 (.getfield 1) := ⟨rfl, rfl⟩
theorem fMoon_pay_14 : w_fe am_c142 14 15 (.getfield 302) := ⟨rfl, rfl⟩
theorem fMoon_pay_15 : w_fe am_c142 15 16 (.iload 1) := ⟨rfl, rfl⟩
theorem fMoon_pay_16 : w_fe am_c142 16 17 (.iload 2) := ⟨rfl, rfl⟩
theorem fMoon_pay_17 : w_fe am_c142 17 18 (.invokestatic 60) := ⟨rfl, rfl⟩
theorem fMoon_pay_18 : w_fe am_c142 18 19 (.ireturn) := ⟨rfl, rfl⟩
set_option maxRecDepth 20000 in
theorem bMoon_pay_0 {xs : List Int} {d : Nat} {Q : Option w_V → w_M → Prop} {x1 : Int} {x2 : Int} {σ : w_M}
    (h : (¬ (0 ≤ x1 ∧ x1 < σ 14 5) → Q (some (.inl (-1))) σ) ∧ ((0 ≤ x1 ∧ x1 < σ 14 5) → (((0 ≤ x2 ∧ x2 ≤ 99) → (p_Paid_add 27 x1 x2 σ ∧ (∀ (y1 : Int) (τ2 : w_M), q_Paid_add 27 x1 x2 σ y1 τ2 → Q (some (.inl y1)) τ2))) ∧ (¬ (0 ≤ x2 ∧ x2 ≤ 99) → Q (some (.inl (-1))) σ)))) : w_Call (xs, (d + 1)) 142 [.inr (.inr (0, 0)), .inl x1, .inl x2] σ Q :=
  (w_mk (mid := 142) (by decide) rfl rfl rfl rfl rfl (Nat.le_of_ble_eq_true rfl) ⟨rfl, Or.inl (by decide)⟩ (wi_aload0 fMoon_pay_0 (wi_getf2 fMoon_pay_1 (wi_iload1 fMoon_pay_2 (wi_call2 fMoon_pay_3 (Nat.le_of_ble_eq_true rfl) (k_Field_isReaper (wi_ifb_eq fMoon_pay_4 (fun c4 => (wi_bipush fMoon_pay_10 (wi_ret1 fMoon_pay_11 (h.1 c4)))) (fun c4 => (wi_iload2 fMoon_pay_5 (wi_bipush fMoon_pay_6 (wi_bipush fMoon_pay_7 (wi_call3 fMoon_pay_8 (Nat.le_of_ble_eq_true rfl) (k_Moon_isWithin (wi_ifb_ne fMoon_pay_9 (fun c3 => (wi_aload0 fMoon_pay_12 (wi_getf1 fMoon_pay_13 (wi_getf302 fMoon_pay_14 (wi_iload1 fMoon_pay_15 (wi_iload2 fMoon_pay_16 (wi_call3 fMoon_pay_17 (Nat.le_of_ble_eq_true rfl) (k_Paid_add ((h.2 c4).1 c3).1 (fun y1 τ2 eτ2 => (wi_ret1 fMoon_pay_18 (((h.2 c4).1 c3).2 y1 τ2 eτ2))))))))))) (fun c3 => (wi_bipush fMoon_pay_10 (wi_ret1 fMoon_pay_11 ((h.2 c4).2 c3))))))))))))))))))
theorem fMoon_owe_0 : w_fe am_c143 0 1 (.aload 0) := ⟨rfl, rfl⟩
theorem fMoon_owe_1 : w_fe am_c143 1 2 (.getfield 1) := ⟨rfl, rfl⟩
theorem fMoon_owe_2 : w_fe am_c143 2 3 (.getfield 302) := ⟨rfl, rfl⟩
theorem fMoon_owe_3 : w_fe am_c143 3 4 (.getfield 500) := ⟨rfl, rfl⟩
theorem fMoon_owe_4 : w_fe am_c143 4 5 (.istore 2) := ⟨rfl, rfl⟩
theorem fMoon_owe_5 : w_fe am_c143 5 6 (.iload 1) := ⟨rfl, rfl⟩
theorem fMoon_owe_6 : w_fe am_c143 6 7 (.bipush 0) := ⟨rfl, rfl⟩
theorem fMoon_owe_7 : w_fe am_c143 7 8 (.iload 2) := ⟨rfl, rfl⟩
theorem fMoon_owe_8 : w_fe am_c143 8 9 (.invokestatic 107) := ⟨rfl, rfl⟩
theorem fMoon_owe_9 : w_if am_c143 9 10 .ne 12 := ⟨rfl, rfl⟩
theorem fMoon_owe_10 : w_fe am_c143 10 11 (.bipush (-1)) := ⟨rfl, rfl⟩
theorem fMoon_owe_11 : w_fe am_c143 11 12 (.ireturn) := ⟨rfl, rfl⟩
theorem fMoon_owe_12 : w_fe am_c143 12 13 (.aload 0) := ⟨rfl, rfl⟩
theorem fMoon_owe_13 : w_fe am_c143 13 14 (.getfield 1) := ⟨rfl, rfl⟩
theorem fMoon_owe_14 : w_fe am_c143 14 15 (.getfield 302) := ⟨rfl, rfl⟩
theorem fMoon_owe_15 : w_fe am_c143 15 16 (.iload 1) := ⟨rfl, rfl⟩
theorem fMoon_owe_16 : w_fe am_c143 16 17 (.putfield 500) := ⟨rfl, rfl⟩
theorem fMoon_owe_17 : w_fe am_c143 17 18 (.iload 2) := ⟨rfl, rfl⟩
theorem fMoon_owe_18 : w_fe am_c143 18 19 (.ireturn) := ⟨rfl, rfl⟩
set_option maxRecDepth 20000 in
theorem bMoon_owe_0 {xs : List Int} {d : Nat} {Q : Option w_V → w_M → Prop} {x1 : Int} {σ : w_M}
    (h : ∀ (y1 : Int), y1 = (σ 27 0) → (((0 ≤ x1 ∧ x1 ≤ y1) → ∀ (τ2 : w_M), τ2 = w_up σ 27 0 x1 → Q (some (.inl y1)) τ2) ∧ (¬ (0 ≤ x1 ∧ x1 ≤ y1) → Q (some (.inl (-1))) σ))) : w_Call (xs, (d + 1)) 143 [.inr (.inr (0, 0)), .inl x1] σ Q :=
  (w_mk (mid := 143) (by decide) rfl rfl rfl rfl rfl (Nat.le_of_ble_eq_true rfl) ⟨rfl, Or.inl (by decide)⟩ (wi_aload0 fMoon_owe_0 (wi_getf1 fMoon_owe_1 (wi_getf302 fMoon_owe_2 (wi_getf500 fMoon_owe_3 (wi_istore2 fMoon_owe_4 trivial (wi_iload1 fMoon_owe_5 (wi_bipush fMoon_owe_6 (wi_iload2 fMoon_owe_7 (wi_call3 fMoon_owe_8 (Nat.le_of_ble_eq_true rfl) (k_Moon_isWithin (wi_ifb_ne fMoon_owe_9 (fun c3 => (wi_aload0 fMoon_owe_12 (wi_getf1 fMoon_owe_13 (wi_getf302 fMoon_owe_14 (wi_iload1 fMoon_owe_15 (wi_putf500 fMoon_owe_16 (wi_iload2 fMoon_owe_17 (wi_ret1 fMoon_owe_18 (((h _ rfl).1 c3) _ rfl))))))))) (fun c3 => (wi_bipush fMoon_owe_10 (wi_ret1 fMoon_owe_11 ((h _ rfl).2 c3))))))))))))))))
theorem k_Moon_see {xs : List Int} {d : Nat} {Q : Option w_V → w_M → Prop} {x1 : Int} {x2 : Int} {x3 : Int} {σ : w_M} (hp : p_Moon_see x1 x2 x3 σ) (hQ : ∀ (x : Int) (σ' : w_M), q_Moon_see x1 x2 x3 σ x σ' → Q (some (.inl x)) σ') : w_Call (xs, d + 1) 137 [.inr (.inr (0, 0)), .inl x1, .inl x2, .inl x3] σ Q := by
  obtain ⟨hC, hb⟩ := hp
  have hs := n_ok.s hC.ok
  unfold q_Moon_see F_see G_see at hQ
  have e4 : cS σ 0 0 4 = σ 14 4 := rfl
  have e1 : cS σ 1 0 0 = σ 23 0 := rfl
  rw [e4, e1] at hQ
  have bad : ¬ ((0 ≤ x1 ∧ x1 ≤ 6) ∧ (0 ≤ x2 ∧ x2 < σ 14 4)) → Q (some (.inl (-1))) σ := fun h => by
    rw [if_neg h, if_neg (fun q => h q.1)] at hQ
    exact hQ _ _ (c_qr hC rfl)
  refine bMoon_see_0 ⟨fun c => bad (fun q => c q.1), fun c => ⟨fun c2 => ⟨⟨hC.se, hb⟩, fun y τ hq => ?_⟩, fun c2 => bad (fun q => c2 q.2)⟩⟩
  obtain ⟨q1, q2, q3⟩ := hq
  rw [if_pos ⟨c, c2⟩] at hQ
  by_cases hlt : σ 23 0 < 8
  · rw [if_pos hlt, if_pos ⟨⟨c, c2⟩, hlt⟩] at hQ
    exact hQ _ _ (c_q1 hC q3 (q1 hlt).2 (seAdd_WF hC.1.2.1 hlt c (by omega) hb) (q1 hlt).1)
  · rw [if_neg hlt, if_neg (fun q => hlt q.2)] at hQ
    obtain ⟨r1, r2⟩ := q2 hlt
    rw [r2]
    exact hQ _ _ (c_qr hC r1)
theorem k_Moon_forget {xs : List Int} {d : Nat} {Q : Option w_V → w_M → Prop} {x1 : Int} {σ : w_M} (hp : p_Moon_forget x1 σ) (hQ : ∀ (x : Int) (σ' : w_M), q_Moon_forget x1 σ x σ' → Q (some (.inl x)) σ') : w_Call (xs, d + 1) 138 [.inr (.inr (0, 0)), .inl x1] σ Q := by
  have hC : CI σ := hp
  have h0 := hC.se
  unfold q_Moon_forget F_forget G_forget at hQ
  have e1 : cS σ 1 0 0 = σ 23 0 := rfl
  rw [e1] at hQ
  refine bMoon_forget_0 (fun y e => ?_)
  rw [e]
  refine ⟨fun c τ t => ?_, fun c => ?_⟩
  · rw [if_pos c, if_pos c] at hQ
    refine hQ _ _ (c_q1 hC (by rw [t]; exact w_fr.up0 (by omega) (by omega)) ?_ (r_cut_se hC.1.2.1 c) rfl)
    show _ = r_cut (s_ab σ 23) x1
    rw [s_ab_g, s_ab_g, show τ 23 0 = x1 by rw [t]; exact w_up_at]
    exact g_ab_cut c (fun d i h1 h2 h3 => by show τ (23 + d) i = σ (23 + d) i; rw [t, w_up_ne (by omega)])
  · rw [if_neg c, if_neg c] at hQ
    exact hQ _ _ (c_qr hC rfl)
theorem k_Moon_pay {xs : List Int} {d : Nat} {Q : Option w_V → w_M → Prop} {x1 : Int} {x2 : Int} {σ : w_M} (hp : p_Moon_pay x1 x2 σ) (hQ : ∀ (x : Int) (σ' : w_M), q_Moon_pay x1 x2 σ x σ' → Q (some (.inl x)) σ') : w_Call (xs, d + 1) 142 [.inr (.inr (0, 0)), .inl x1, .inl x2] σ Q := by
  have hC : CI σ := hp
  unfold q_Moon_pay F_pay G_pay at hQ
  have e5 : cS σ 0 0 5 = σ 14 5 := rfl
  have e1 : cS σ 2 0 0 = σ 27 0 := rfl
  rw [e5, e1] at hQ
  have bad : ¬ ((0 ≤ x1 ∧ x1 < σ 14 5) ∧ (0 ≤ x2 ∧ x2 ≤ 99)) → Q (some (.inl (-1))) σ := fun h => by
    rw [if_neg h, if_neg (fun q => h q.1)] at hQ
    exact hQ _ _ (c_qr hC rfl)
  refine bMoon_pay_0 ⟨fun c => bad (fun q => c q.1), fun c => ⟨fun c2 => ⟨hC.pa, fun y τ hq => ?_⟩, fun c2 => bad (fun q => c2 q.2)⟩⟩
  obtain ⟨q1, q2, q3⟩ := hq
  rw [if_pos ⟨c, c2⟩] at hQ
  by_cases hlt : σ 27 0 < 4
  · rw [if_pos hlt, if_pos ⟨⟨c, c2⟩, hlt⟩] at hQ
    exact hQ _ _ (c_q2 hC q3 (q1 hlt).2 (paAdd_WF hC.1.2.2.1 hlt c c2) (q1 hlt).1)
  · rw [if_neg hlt, if_neg (fun q => hlt q.2)] at hQ
    obtain ⟨r1, r2⟩ := q2 hlt
    rw [r2]
    exact hQ _ _ (c_qr hC r1)
theorem k_Moon_owe {xs : List Int} {d : Nat} {Q : Option w_V → w_M → Prop} {x1 : Int} {σ : w_M} (hp : p_Moon_owe x1 σ) (hQ : ∀ (x : Int) (σ' : w_M), q_Moon_owe x1 σ x σ' → Q (some (.inl x)) σ') : w_Call (xs, d + 1) 143 [.inr (.inr (0, 0)), .inl x1] σ Q := by
  have hC : CI σ := hp
  have h0 := hC.pa
  unfold q_Moon_owe F_owe G_owe at hQ
  have e1 : cS σ 2 0 0 = σ 27 0 := rfl
  rw [e1] at hQ
  refine bMoon_owe_0 (fun y e => ?_)
  rw [e]
  refine ⟨fun c τ t => ?_, fun c => ?_⟩
  · rw [if_pos c, if_pos c] at hQ
    refine hQ _ _ (c_q2 hC (by rw [t]; exact w_fr.up0 (by omega) (by omega)) ?_ (r_cut_pa hC.1.2.2.1 c) rfl)
    show _ = r_cut (c_ab σ 27) x1
    rw [c_ab_g, c_ab_g, show τ 27 0 = x1 by rw [t]; exact w_up_at]
    exact g_ab_cut c (fun d i h1 h2 h3 => by show τ (27 + d) i = σ (27 + d) i; rw [t, w_up_ne (by omega)])
  · rw [if_neg c, if_neg c] at hQ
    exact hQ _ _ (c_qr hC rfl)
