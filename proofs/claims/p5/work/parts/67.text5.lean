/-! The class reads the text -/
theorem nf_stay {T : Nat → Int} {L : Nat} {D : w_M} {k b j : Nat} (h : ¬ (nf T L D k b j).1 = 0) : ∀ i, nf T L D k b (j + i) = nf T L D k b j := by
  intro i
  induction i with
  | zero => rfl
  | succ i ih =>
    show (if (nf T L D k b (j + i)).1 = 0 then _ else nf T L D k b (j + i)) = _
    rw [ih, if_neg h]
theorem nf_pl {T : Nat → Int} {L : Nat} {D : w_M} {k b : Nat} (hb : b ≤ L) : ∀ j, (nf T L D k b j).2 ≤ L ∧ ((nf T L D k b j).1 = 0 → pp T L b j ≤ L) := by
  intro j
  induction j with
  | zero => exact ⟨Nat.zero_le _, fun _ => hb⟩
  | succ j ih =>
    simp only [nf]
    by_cases e : (nf T L D k b j).1 = 0
    · rw [if_pos e]
      have hp := ih.2 e
      refine ⟨(tk_f_le hp).2, fun h => ?_⟩
      have hk := (nt_f_0 h).1
      exact (tk_b_le (tk_k0 (by omega))).2
    · rw [if_neg e]
      exact ⟨ih.1, fun h => absurd h e⟩
theorem ln_m_le : ∀ k, k < 5 → 1 ≤ ln_m k ∧ ln_m k ≤ 3 ∧ ((w_cnum.getD k 0).toNat : Int) = w_cnum.getD k 0 := by decide
theorem ln_f_pl {T : Nat → Int} {L : Nat} {D : w_M} {k f b : Nat} (hf : f ≤ L) (hb : b ≤ L) : (ln_f T L D k f b).2 ≤ L := by
  unfold ln_f
  split
  · exact hf
  · split
    · exact (nf_pl hb _).1
    · rename_i h
      have hz : (nf T L D k b (ln_m k)).1 = 0 := by
        by_cases q : (nf T L D k b (ln_m k)).1 = 0
        · exact q
        · exact absurd q h
      exact (tk_f_le ((nf_pl hb _).2 hz)).2
/-- a line that is right -/
theorem ln_ok {T : Nat → Int} {L : Nat} {D : w_M} {k f b : Nat} (hb : b ≤ L) (h : (ln_f T L D k f b).1 = 0) : ln_b D k = 0 ∧ (nf T L D k b (ln_m k)).1 = 0 ∧ tk_k T L (pp T L b (ln_m k)) = 3 ∧ pp T L b (ln_m k) ≤ L := by
  unfold ln_f at h
  by_cases e1 : ln_b D k = 0
  · rw [if_neg (fun q => q e1)] at h
    by_cases e2 : (nf T L D k b (ln_m k)).1 = 0
    · rw [if_neg (fun q => q e2)] at h
      have h' : ln_s T L (pp T L b (ln_m k)) = 0 := h
      unfold ln_s at h'
      by_cases e3 : tk_k T L (pp T L b (ln_m k)) = 4
      · rw [if_pos e3] at h'; omega
      · rw [if_neg e3] at h'
        by_cases e4 : tk_k T L (pp T L b (ln_m k)) = 3
        · exact ⟨e1, e2, e4, (nf_pl hb _).2 e2⟩
        · rw [if_pos e4] at h'; omega
    · rw [if_pos e2] at h
      exact absurd h e2
  · rw [if_pos e1] at h
    exact absurd h e1
theorem ln_D_ok {T : Nat → Int} {L : Nat} {D : w_M} {k f b : Nat} (hW : d_WF D) (hk : k < 5) (hb : b ≤ L) (h : (ln_f T L D k f b).1 = 0) : d_WF (ln_D D k (tk_v T L b) (tk_v T L (pp T L b 1)) (tk_v T L (pp T L b 2))) := by
  obtain ⟨h1, h2, h3, h4⟩ := ln_ok hb h
  have hm := (ln_m_le k hk).1
  have n0 := nf_0 _ h2
  refine ln_D_WF hW hk h1 ?_ (fun q => ?_) (fun q => ?_)
  · exact (nt_f_0 (n0 0 (by omega))).2.1
  · exact (nt_f_0 (n0 1 q)).2.1
  · exact (nt_f_0 (n0 2 q)).2.1
theorem rd_pl {T : Nat → Int} {L : Nat} : ∀ (n l p : Nat) (D : w_M), p ≤ L → (rd_R T L n l p D).1.2 ≤ L := by
  intro n
  induction n with
  | zero => intro l p D _; exact Nat.zero_le _
  | succ n ih =>
    intro l p D hp
    have hf := tk_f_le (T := T) hp
    simp only [rd_R]
    by_cases e0 : tk_k T L p = 0
    · rw [if_pos e0]
      by_cases hb : d_bad D
      · rw [if_pos hb]; exact Nat.le_refl _
      · rw [if_neg hb]; exact Nat.zero_le _
    · rw [if_neg e0]
      have hb := tk_b_le (tk_k0 e0)
      split
      · exact hf.2
      · split
        · exact hf.2
        · split
          · exact ln_f_pl hf.2 hb.2
          · rename_i h3
            have hz := Classical.byContradiction h3
            obtain ⟨a1, a2, a3, a4⟩ := ln_ok hb.2 hz
            exact ih _ _ _ (tk_b_le (tk_k0 (by omega))).2
theorem pp_ge {T : Nat → Int} {L b : Nat} : ∀ j, (∀ i, i < j → tk_f T L (pp T L b i) < L ∧ pp T L b i ≤ L) → b ≤ pp T L b j := by
  intro j
  induction j with
  | zero => intro _; exact Nat.le_refl _
  | succ j ih =>
    intro h
    have h1 := ih (fun i hi => h i (by omega))
    have h2 := h j (by omega)
    have h3 := tk_f_le (T := T) h2.2
    have h4 := (tk_b_le h2.1).1
    show b ≤ tk_b T L (pp T L b j)
    omega
/-- a line goes on -/
theorem ln_adv {T : Nat → Int} {L p : Nat} {D : w_M} {k f : Nat} (hp : p ≤ L) (h0 : ¬ tk_k T L p = 0) (h : (ln_f T L D k f (tk_b T L p)).1 = 0) : p < tk_b T L (pp T L (tk_b T L p) (ln_m k)) ∧ tk_b T L (pp T L (tk_b T L p) (ln_m k)) ≤ L := by
  have hf := tk_f_le (T := T) hp
  have hb := tk_b_le (tk_k0 h0)
  obtain ⟨a1, a2, a3, a4⟩ := ln_ok hb.2 h
  have hpl := nf_pl (T := T) (L := L) (D := D) (k := k) (b := tk_b T L p) hb.2
  have n0 := nf_0 _ a2
  have hall : ∀ i, i < ln_m k → tk_f T L (pp T L (tk_b T L p) i) < L ∧ pp T L (tk_b T L p) i ≤ L := by
    intro i hi
    have hk2 := (nt_f_0 (n0 i hi)).1
    have hz : (nf T L D k (tk_b T L p) i).1 = 0 := by
      by_cases q : (nf T L D k (tk_b T L p) i).1 = 0
      · exact q
      · have := nf_stay q (ln_m k - i)
        rw [show i + (ln_m k - i) = ln_m k by omega] at this
        rw [this] at a2
        exact absurd a2 q
    exact ⟨tk_k0 (by omega), (hpl i).2 hz⟩
  have hge := pp_ge (ln_m k) hall
  have h5 := tk_f_le (T := T) a4
  have h6 := tk_b_le (T := T) (L := L) (p := pp T L (tk_b T L p) (ln_m k)) (tk_k0 (by omega))
  omega
theorem rd_good {T : Nat → Int} {L : Nat} : ∀ (n l p : Nat) (D : w_M), p ≤ L → L < p + n → d_WF D → (rd_R T L n l p D).1.1 = 0 → d_WF (rd_R T L n l p D).2.2 ∧ ¬ d_bad (rd_R T L n l p D).2.2 := by
  intro n
  induction n with
  | zero => intro l p D h1 h2; omega
  | succ n ih =>
    intro l p D hp hn hW
    simp only [rd_R]
    by_cases e0 : tk_k T L p = 0
    · rw [if_pos e0]
      by_cases hb : d_bad D
      · rw [if_pos hb]; intro h; exact absurd (show (6 : Int) = 0 from h) (by decide)
      · rw [if_neg hb]; intro _; exact ⟨hW, hb⟩
    · rw [if_neg e0]
      have hf := tk_f_le (T := T) hp
      have hb := tk_b_le (tk_k0 e0)
      split
      · intro h; exact absurd (show (1 : Int) = 0 from h) (by decide)
      · split
        · intro h; exact absurd (show (2 : Int) = 0 from h) (by decide)
        · rename_i h2
          split
          · rename_i h3
            intro h
            exact absurd h h3
          · rename_i h3
            have hz := Classical.byContradiction h3
            have adv := ln_adv hp e0 hz
            refine ih _ _ _ adv.2 (by omega) ?_
            have hk : (ln_n T L (tk_f T L p) (tk_b T L p)).toNat < 5 := by
              have := ln_k_le (T := T) (L := L) (f := tk_f T L p) (b := tk_b T L p) 5
              unfold ln_n
              omega
            exact ln_D_ok hW hk hb.2 hz
noncomputable def r_f2 (σ σ' : w_M) : Prop := (∀ b, b < 1 ∨ b = 2 ∨ 13 ≤ b → σ' b = σ b) ∧ σ' 1 1 = σ 1 1
theorem r_f2.rfl' {σ : w_M} : r_f2 σ σ := ⟨fun _ _ => rfl, rfl⟩
theorem r_f2.tr {σ σ1 σ2 : w_M} (h : r_f2 σ σ1) (g : r_f2 σ1 σ2) : r_f2 σ σ2 := ⟨fun b hb => (g.1 b hb).trans (h.1 b hb), g.2.trans h.2⟩
theorem r_f3.f2 {σ σ' : w_M} (h : r_f3 σ σ') : r_f2 σ σ' := ⟨fun b hb => h.1 b (by omega) (by omega), h.2.1⟩
theorem r_fr.f2 {σ σ' : w_M} (h : r_fr σ σ') : r_f2 σ σ' := ⟨fun b hb => h.1 b (by omega), h.2.1⟩
theorem r_fr.f3 {σ σ' : w_M} (h : r_fr σ σ') : r_f3 σ σ' := ⟨fun b hb _ => h.1 b hb, h.2⟩
theorem r_f3.tr {σ σ1 σ2 : w_M} (h : r_f3 σ σ1) (g : r_f3 σ1 σ2) : r_f3 σ σ2 := ⟨fun b h1 h2 => (g.1 b h1 h2).trans (h.1 b h1 h2), g.2.1.trans h.2.1, g.2.2.trans h.2.2⟩
theorem r_f3.D {σ τ : w_M} (h : r_f3 σ τ) : d_ab τ = d_ab σ := by
  have z : ∀ b, 3 ≤ b → b ≤ 11 → τ b = σ b := fun b h1 h2 => h.1 b (by omega) (by omega)
  refine d_ab_eq (fun i => ?_) (fun d i h1 h2 => ?_) (fun d i h => ?_) (fun d i h => d_ab_no h)
  · rw [d_ab_0, d_ab_0, z 3 (by decide) (by decide), h.2.2]
  · rw [d_ab_12 h1 h2, z 3 (by decide) (by decide), z (3 + d) (by omega) (by omega)]
  · rw [d_ab_346 h, z 3 (by decide) (by decide), z (3 + d) (by omega) (by omega)]
theorem r_f3.cn {σ τ : w_M} (h : r_f3 σ τ) (hc : d_cn σ) : d_cn τ := by
  unfold d_cn at hc ⊢
  rw [h.1 3 (by decide) (by decide), h.1 8 (by decide) (by decide), h.1 10 (by decide) (by decide), h.1 11 (by decide) (by decide)]
  exact hc
theorem r_f2.T {σ τ : w_M} (h : r_f2 σ τ) : rT τ = rT σ := by unfold rT; rw [h.2, h.1 2 (by omega)]
theorem r_f2.L {σ τ : w_M} (h : r_f2 σ τ) : rL τ = rL σ := by unfold rL; rw [h.2]
theorem r_f2.ok {σ τ : w_M} (h : r_f2 σ τ) (hk : r_ok σ) : r_ok τ := by unfold r_ok at hk ⊢; rw [h.2, h.1 2 (by omega)]; exact hk
noncomputable def p_Reader_readLine (σ : w_M) : Prop := (r_ok σ ∧ d_WF (d_ab σ)) ∧ (0 ≤ σ 1 8 ∧ σ 1 8 ≤ σ 1 1) ∧ (σ 1 7 = 1 → σ 1 3 = 0 ∧ (0 ≤ σ 1 9 ∧ σ 1 9 ≤ σ 1 1))
/-- a line was read, or not -/
noncomputable def rl_q (T : Nat → Int) (L f b : Nat) (σ σ' : w_M) : Prop := (ln_n T L f b = -1 → σ' 1 3 = 2 ∧ σ' 1 4 = (f : Int)) ∧ (¬ ln_n T L f b = -1 → (¬ (ln_f T L (d_ab σ) (ln_n T L f b).toNat f b).1 = 0 → σ' 1 3 = (ln_f T L (d_ab σ) (ln_n T L f b).toNat f b).1 ∧ σ' 1 4 = (((ln_f T L (d_ab σ) (ln_n T L f b).toNat f b).2 : Nat) : Int)) ∧
  ((ln_f T L (d_ab σ) (ln_n T L f b).toNat f b).1 = 0 → σ' 1 3 = 0 ∧ σ' 1 9 = ((tk_b T L (pp T L b (ln_m (ln_n T L f b).toNat)) : Nat) : Int) ∧ d_ab σ' = ln_D (d_ab σ) (ln_n T L f b).toNat (tk_v T L b) (tk_v T L (pp T L b 1)) (tk_v T L (pp T L b 2)) ∧ (d_cn σ → d_cn σ')))
noncomputable def q_Reader_readLine (σ σ' : w_M) : Prop := r_f2 σ σ' ∧ (¬ σ 1 7 = 1 → (σ 1 3 = 0 → σ' 1 3 = 2 ∧ σ' 1 4 = σ 1 8) ∧ (¬ σ 1 3 = 0 → σ' = σ)) ∧ (σ 1 7 = 1 → rl_q (rT σ) (rL σ) (σ 1 8).toNat (σ 1 9).toNat σ σ')
theorem fReader_readLine_0 : w_fe am_c19 0 1 (.aload 0) := ⟨rfl, rfl⟩
theorem fReader_readLine_1 : w_fe am_c19 1 2 (.getfield 107) := ⟨rfl, rfl⟩
theorem fReader_readLine_2 : w_fe am_c19 2 3 (.bipush 1) := ⟨rfl, rfl⟩
theorem fReader_readLine_3 : w_ic am_c19 3 4 .ne 7 := ⟨rfl, rfl⟩
theorem fReader_readLine_4 : w_fe am_c19 4 5 (.aload 0) := ⟨rfl, rfl⟩
theorem fReader_readLine_5 : w_fe am_c19 5 6 (.invokestatic 20) := ⟨rfl, rfl⟩
theorem fReader_readLine_6 : w_gt am_c19 6 8 := rfl
theorem fReader_readLine_7 : w_fe am_c19 7 8 (.bipush (-1)) := ⟨rfl, rfl⟩
theorem fReader_readLine_8 : w_fe am_c19 8 9 (.istore 1) := ⟨rfl, rfl⟩
theorem fReader_readLine_9 : w_fe am_c19 9 10 (.iload 1) := ⟨rfl, rfl⟩
theorem fReader_readLine_10 : w_fe am_c19 10 11 (.bipush (-1)) := ⟨rfl, rfl⟩
theorem fReader_readLine_11 : w_ic am_c19 11 12 .ne 18 := ⟨rfl, rfl⟩
theorem fReader_readLine_12 : w_fe am_c19 12 13 (.aload 0) := ⟨rfl, rfl⟩
theorem fReader_readLine_13 : w_fe am_c19 13 14 (.bipush 2) := ⟨rfl, rfl⟩
theorem fReader_readLine_14 : w_fe am_c19 14 15 (.aload 0) := ⟨rfl, rfl⟩
theorem fReader_readLine_15 : w_fe am_c19 15 16 (.getfield 108) := ⟨rfl, rfl⟩
theorem fReader_readLine_16 : w_fe am_c19 16 17 (.invokestatic 18) := ⟨rfl, rfl⟩
theorem fReader_readLine_17 : w_fe am_c19 17 18 (.return_) := ⟨rfl, rfl⟩
theorem fReader_readLine_18 : w_fe am_c19 18 19 (.aload 0) := ⟨rfl, rfl⟩
theorem fReader_readLine_19 : w_fe am_c19 19 20 (.iload 1) := ⟨rfl, rfl⟩
theorem fReader_readLine_20 : w_fe am_c19 20 21 (.invokestatic 23) := ⟨rfl, rfl⟩
theorem fReader_readLine_21 : w_fe am_c19 21 22 (.getstatic 1) := ⟨rfl, rfl⟩
theorem fReader_readLine_22 : w_fe am_c19 22 23 (.iload 1) := ⟨rfl, rfl⟩
theorem fReader_readLine_23 : w_fe am_c19 23 24 (.iaload) := ⟨rfl, rfl⟩
theorem fReader_readLine_24 : w_fe am_c19 24 25 (.istore 2) := ⟨rfl, rfl⟩
theorem fReader_readLine_25 : w_fe am_c19 25 26 (.bipush 0) := ⟨rfl, rfl⟩
theorem fReader_readLine_26 : w_fe am_c19 26 27 (.istore 3) := ⟨rfl, rfl⟩
theorem fReader_readLine_27 : w_fe am_c19 27 28 (.iload 3) := ⟨rfl, rfl⟩
theorem fReader_readLine_28 : w_fe am_c19 28 29 (.iload 2) := ⟨rfl, rfl⟩
theorem fReader_readLine_29 : w_ic am_c19 29 30 .ge 39 := ⟨rfl, rfl⟩
theorem fReader_readLine_30 : w_fe am_c19 30 31 (.aload 0) := ⟨rfl, rfl⟩
theorem fReader_readLine_31 : w_fe am_c19 31 32 (.getfield 103) := ⟨rfl, rfl⟩
theorem fReader_readLine_32 : w_if am_c19 32 33 .ne 39 := ⟨rfl, rfl⟩
theorem fReader_readLine_33 : w_fe am_c19 33 34 (.aload 0) := ⟨rfl, rfl⟩
theorem fReader_readLine_34 : w_fe am_c19 34 35 (.iload 1) := ⟨rfl, rfl⟩
theorem fReader_readLine_35 : w_fe am_c19 35 36 (.iload 3) := ⟨rfl, rfl⟩
theorem fReader_readLine_36 : w_fe am_c19 36 37 (.invokestatic 24) := ⟨rfl, rfl⟩
theorem fReader_readLine_37 : w_fe am_c19 37 38 (.iinc 3 1) := ⟨rfl, rfl⟩
theorem fReader_readLine_38 : w_gt am_c19 38 27 := rfl
theorem fReader_readLine_39 : w_fe am_c19 39 40 (.aload 0) := ⟨rfl, rfl⟩
theorem fReader_readLine_40 : w_fe am_c19 40 41 (.getfield 103) := ⟨rfl, rfl⟩
theorem fReader_readLine_41 : w_if am_c19 41 42 .ne 53 := ⟨rfl, rfl⟩
theorem fReader_readLine_42 : w_fe am_c19 42 43 (.aload 0) := ⟨rfl, rfl⟩
theorem fReader_readLine_43 : w_fe am_c19 43 44 (.invokestatic 13) := ⟨rfl, rfl⟩
theorem fReader_readLine_44 : w_fe am_c19 44 45 (.aload 0) := ⟨rfl, rfl⟩
theorem fReader_readLine_45 : w_fe am_c19 45 46 (.getfield 107) := ⟨rfl, rfl⟩
theorem fReader_readLine_46 : w_fe am_c19 46 47 (.bipush 3) := ⟨rfl, rfl⟩
theorem fReader_readLine_47 : w_ic am_c19 47 48 .eq 53 := ⟨rfl, rfl⟩
theorem fReader_readLine_48 : w_fe am_c19 48 49 (.aload 0) := ⟨rfl, rfl⟩
theorem fReader_readLine_49 : w_fe am_c19 49 50 (.bipush 2) := ⟨rfl, rfl⟩
theorem fReader_readLine_50 : w_fe am_c19 50 51 (.aload 0) := ⟨rfl, rfl⟩
theorem fReader_readLine_51 : w_fe am_c19 51 52 (.getfield 108) := ⟨rfl, rfl⟩
theorem fReader_readLine_52 : w_fe am_c19 52 53 (.invokestatic 18) := ⟨rfl, rfl⟩
theorem fReader_readLine_53 : w_fe am_c19 53 54 (.aload 0) := ⟨rfl, rfl⟩
theorem fReader_readLine_54 : w_fe am_c19 54 55 (.getfield 103) := ⟨rfl, rfl⟩
theorem fReader_readLine_55 : w_if am_c19 55 56 .ne 59 := ⟨rfl, rfl⟩
theorem fReader_readLine_56 : w_fe am_c19 56 57 (.aload 0) := ⟨rfl, rfl⟩
theorem fReader_readLine_57 : w_fe am_c19 57 58 (.iload 1) := ⟨rfl, rfl⟩
theorem fReader_readLine_58 : w_fe am_c19 58 59 (.invokestatic 25) := ⟨rfl, rfl⟩
theorem fReader_readLine_59 : w_fe am_c19 59 60 (.return_) := ⟨rfl, rfl⟩
noncomputable def LReader_readLine_27 (xs : List Int) (d : Nat) (Q : Option w_V → w_M → Prop) (v1 : Int) (v2 : Int) (v3 : Int) (σ : w_M) : Prop := w_Ex (xs, d) 0 am_c19 Q 27 [some (.inr (.inr (1, 1))), some (.inl v1), some (.inl v2), some (.inl v3)] [] σ
set_option maxRecDepth 20000 in
theorem bReader_readLine_0 {xs : List Int} {d : Nat} {Q : Option w_V → w_M → Prop}  {σ : w_M}
    (h : (¬ (σ 1 7) = 1 → ∀ (τ1 : w_M), q_Reader_fail 2 (σ 1 8) σ τ1 → Q none τ1) ∧ ((σ 1 7) = 1 → (p_Reader_lineOfName σ ∧ (∀ (y2 : Int), y2 = v_Reader_lineOfName σ → ((¬ y2 = (-1) → (p_Reader_beginLine y2 σ ∧ (∀ (τ3 : w_M), q_Reader_beginLine y2 σ τ3 → (0 ≤ y2 ∧ y2 < ((w_carr xs 1010).length : Int) ∧ (∀ (y4 : Int), y4 = ((w_carr xs 1010).getD y2.toNat 0) → LReader_readLine_27 xs (d + 4) Q y2 y4 0 τ3))))) ∧ (y2 = (-1) → ∀ (τ5 : w_M), q_Reader_fail 2 (σ 1 8) σ τ5 → Q none τ5)))))) : w_Call (xs, (d + 4)) 19 [.inr (.inr (1, 1))] σ Q :=
  (w_mk (mid := 19) (by decide) rfl rfl rfl rfl rfl (Nat.le_of_ble_eq_true rfl) ⟨rfl, Or.inl (by decide)⟩ (wi_aload0 fReader_readLine_0 (wi_getf107 fReader_readLine_1 (wi_bipush fReader_readLine_2 (wi_ic_ne fReader_readLine_3 (fun c7 => (wi_bipush fReader_readLine_7 (wi_istore1 fReader_readLine_8 trivial (wi_iload1 fReader_readLine_9 (wi_bipush fReader_readLine_10 (wi_ic_ne fReader_readLine_11 (fun e => absurd e (by decide)) (fun _ => (wi_aload0 fReader_readLine_12 (wi_bipush fReader_readLine_13 (wi_aload0 fReader_readLine_14 (wi_getf108 fReader_readLine_15 (wi_call3 fReader_readLine_16 (Nat.le_of_ble_eq_true rfl) (k_Reader_fail (fun τ1 eτ1 => (wi_ret0 fReader_readLine_17 ((h.1 c7) τ1 eτ1)))))))))))))))) (fun c7 => (wi_aload0 fReader_readLine_4 (wi_call1 fReader_readLine_5 (Nat.le_of_ble_eq_true rfl) (k_Reader_lineOfName (h.2 c7).1 (wi_goto fReader_readLine_6 (wi_istore1 fReader_readLine_8 trivial (wi_iload1 fReader_readLine_9 (wi_bipush fReader_readLine_10 (wi_ic_ne fReader_readLine_11 (fun c6 => (wi_aload0 fReader_readLine_18 (wi_iload1 fReader_readLine_19 (wi_call2 fReader_readLine_20 (Nat.le_of_ble_eq_true rfl) (k_Reader_beginLine (((h.2 c7).2 _ rfl).1 c6).1 (fun τ3 eτ3 => (wi_getstatic1 fReader_readLine_21 (wi_iload1 fReader_readLine_22 (wi_iald6005 fReader_readLine_23 ((((h.2 c7).2 _ rfl).1 c6).2 τ3 eτ3).1 ((((h.2 c7).2 _ rfl).1 c6).2 τ3 eτ3).2.1 (wi_istore2 fReader_readLine_24 trivial (wi_bipush fReader_readLine_25 (wi_istore3 fReader_readLine_26 trivial (((((h.2 c7).2 _ rfl).1 c6).2 τ3 eτ3).2.2 _ rfl))))))))))))) (fun c6 => (wi_aload0 fReader_readLine_12 (wi_bipush fReader_readLine_13 (wi_aload0 fReader_readLine_14 (wi_getf108 fReader_readLine_15 (wi_call3 fReader_readLine_16 (Nat.le_of_ble_eq_true rfl) (k_Reader_fail (fun τ5 eτ5 => (wi_ret0 fReader_readLine_17 ((((h.2 c7).2 _ rfl).2 c6) τ5 eτ5))))))))))))))))))))))))
set_option maxRecDepth 20000 in
theorem bReader_readLine_27 {xs : List Int} {d : Nat} {Q : Option w_V → w_M → Prop} {v1 : Int} {v2 : Int} {v3 : Int} {σ : w_M}
    (h : (v2 ≤ v3 → ((¬ (σ 1 3) = 0 → Q none σ) ∧ ((σ 1 3) = 0 → (p_Reader_readToken σ ∧ (∀ (τ1 : w_M), q_Reader_readToken σ τ1 → (((τ1 1 7) = 3 → ((¬ (τ1 1 3) = 0 → Q none τ1) ∧ ((τ1 1 3) = 0 → (p_Reader_takeLine v1 τ1 ∧ (∀ (τ2 : w_M), q_Reader_takeLine v1 τ1 τ2 → Q none τ2))))) ∧ (¬ (τ1 1 7) = 3 → ∀ (τ4 : w_M), q_Reader_fail 2 (τ1 1 8) τ1 τ4 → ((¬ (τ4 1 3) = 0 → Q none τ4) ∧ ((τ4 1 3) = 0 → (p_Reader_takeLine v1 τ4 ∧ (∀ (τ5 : w_M), q_Reader_takeLine v1 τ4 τ5 → Q none τ5))))))))))) ∧ (v3 < v2 → ((¬ (σ 1 3) = 0 → Q none σ) ∧ ((σ 1 3) = 0 → (p_Reader_readNumber v1 v3 σ ∧ (∀ (τ9 : w_M), q_Reader_readNumber v1 v3 σ τ9 → (w_in (v3 + 1) ∧ LReader_readLine_27 xs (d + 4) Q v1 v2 (v3 + 1) τ9))))))) : LReader_readLine_27 xs (d + 4) Q v1 v2 v3 σ :=
  (wi_iload3 fReader_readLine_27 (wi_iload2 fReader_readLine_28 (wi_ic_ge fReader_readLine_29 (fun c11 => (wi_aload0 fReader_readLine_39 (wi_getf103 fReader_readLine_40 (wi_if_ne fReader_readLine_41 (fun c8 => (wi_aload0 fReader_readLine_53 (wi_getf103 fReader_readLine_54 (wi_if_ne fReader_readLine_55 (fun _ => (wi_ret0 fReader_readLine_59 ((h.1 c11).1 c8))) (fun e => absurd c8 (w_n_ne e)))))) (fun c8 => (wi_aload0 fReader_readLine_42 (wi_call1 fReader_readLine_43 (Nat.le_of_ble_eq_true rfl) (k_Reader_readToken ((h.1 c11).2 c8).1 (fun τ1 eτ1 => (wi_aload0 fReader_readLine_44 (wi_getf107 fReader_readLine_45 (wi_bipush fReader_readLine_46 (wi_ic_eq fReader_readLine_47 (fun c7 => (wi_aload0 fReader_readLine_53 (wi_getf103 fReader_readLine_54 (wi_if_ne fReader_readLine_55 (fun c3 => (wi_ret0 fReader_readLine_59 (((((h.1 c11).2 c8).2 τ1 eτ1).1 c7).1 c3))) (fun c3 => (wi_aload0 fReader_readLine_56 (wi_iload1 fReader_readLine_57 (wi_call2 fReader_readLine_58 (Nat.le_of_ble_eq_true rfl) (k_Reader_takeLine (((((h.1 c11).2 c8).2 τ1 eτ1).1 c7).2 c3).1 (fun τ2 eτ2 => (wi_ret0 fReader_readLine_59 ((((((h.1 c11).2 c8).2 τ1 eτ1).1 c7).2 c3).2 τ2 eτ2)))))))))))) (fun c7 => (wi_aload0 fReader_readLine_48 (wi_bipush fReader_readLine_49 (wi_aload0 fReader_readLine_50 (wi_getf108 fReader_readLine_51 (wi_call3 fReader_readLine_52 (Nat.le_of_ble_eq_true rfl) (k_Reader_fail (fun τ4 eτ4 => (wi_aload0 fReader_readLine_53 (wi_getf103 fReader_readLine_54 (wi_if_ne fReader_readLine_55 (fun c6 => (wi_ret0 fReader_readLine_59 ((((((h.1 c11).2 c8).2 τ1 eτ1).2 c7) τ4 eτ4).1 c6))) (fun c6 => (wi_aload0 fReader_readLine_56 (wi_iload1 fReader_readLine_57 (wi_call2 fReader_readLine_58 (Nat.le_of_ble_eq_true rfl) (k_Reader_takeLine ((((((h.1 c11).2 c8).2 τ1 eτ1).2 c7) τ4 eτ4).2 c6).1 (fun τ5 eτ5 => (wi_ret0 fReader_readLine_59 (((((((h.1 c11).2 c8).2 τ1 eτ1).2 c7) τ4 eτ4).2 c6).2 τ5 eτ5)))))))))))))))))))))))))))))))) (fun c11 => (wi_aload0 fReader_readLine_30 (wi_getf103 fReader_readLine_31 (wi_if_ne fReader_readLine_32 (fun c10 => (wi_aload0 fReader_readLine_39 (wi_getf103 fReader_readLine_40 (wi_if_ne fReader_readLine_41 (fun _ => (wi_aload0 fReader_readLine_53 (wi_getf103 fReader_readLine_54 (wi_if_ne fReader_readLine_55 (fun _ => (wi_ret0 fReader_readLine_59 ((h.2 c11).1 c10))) (fun e => absurd c10 (w_n_ne e)))))) (fun e => absurd c10 (w_n_ne e)))))) (fun c10 => (wi_aload0 fReader_readLine_33 (wi_iload1 fReader_readLine_34 (wi_iload3 fReader_readLine_35 (wi_call3 fReader_readLine_36 (Nat.le_of_ble_eq_true rfl) (k_Reader_readNumber ((h.2 c11).2 c10).1 (fun τ9 eτ9 => (wi_iinc3 fReader_readLine_37 trivial (((h.2 c11).2 c10).2 τ9 eτ9).1 (wi_goto fReader_readLine_38 (((h.2 c11).2 c10).2 τ9 eτ9).2))))))))))))))))
set_option maxHeartbeats 4000000 in
theorem k_Reader_readLine {xs : List Int} {d : Nat} {Q : Option w_V → w_M → Prop}  {σ : w_M} (hp : p_Reader_readLine σ) (hQ : ∀ σ' : w_M, q_Reader_readLine σ σ' → Q none σ') : w_Call (xs, d + 4) 19 [.inr (.inr (1, 1))] σ Q := by
  obtain ⟨⟨hk, hW⟩, h8, hn⟩ := hp
  have fail_f : ∀ (n p : Int) (τ τ' : w_M), q_Reader_fail n p τ τ' → τ 1 3 = 0 → τ' 1 3 = n ∧ τ' 1 4 = p ∧ r_fr τ τ' := fun n p τ τ' q h => by
    have e := q.1 h
    rw [e]
    exact ⟨by rw [w_up_j (by decide), w_up_at], by rw [w_up_at], (r_fr.rfl'.up (by decide) (by decide)).up (by decide) (by decide)⟩
  refine bReader_readLine_0 ⟨fun c τ1 q1 => ?_, fun c => ?_⟩
  · by_cases h3 : σ 1 3 = 0
    · obtain ⟨a, b, F⟩ := fail_f 2 _ σ τ1 q1 h3
      exact hQ _ ⟨F.f2, fun _ => ⟨fun _ => ⟨a, b⟩, fun h => absurd h3 h⟩, fun h => absurd h c⟩
    · have e := q1.2 h3
      exact hQ _ ⟨by rw [e]; exact r_f2.rfl', fun _ => ⟨fun h => absurd h h3, fun _ => e⟩, fun h => absurd h c⟩
  · obtain ⟨h3, h9⟩ := hn c
    unfold q_Reader_readLine at hQ
    obtain ⟨f, hf⟩ : ∃ f : Nat, σ 1 8 = (f : Int) := ⟨(σ 1 8).toNat, by omega⟩
    obtain ⟨b, hb⟩ : ∃ b : Nat, σ 1 9 = (b : Int) := ⟨(σ 1 9).toNat, by omega⟩
    rw [show (σ 1 8).toNat = f by omega, show (σ 1 9).toNat = b by omega] at hQ
    have hv : v_Reader_lineOfName σ = ln_n (rT σ) (rL σ) f b := by unfold v_Reader_lineOfName; rw [show (σ 1 8).toNat = f by omega, show (σ 1 9).toNat = b by omega]
    have hLe : rL σ = (σ 1 1).toNat := rfl
    have hk1 := hk.1
    have rTL : ∀ τ : w_M, r_f3 σ τ → rT τ = rT σ ∧ rL τ = rL σ ∧ r_ok τ := fun τ F => ⟨F.f2.T, F.f2.L, F.f2.ok hk⟩
    refine ⟨⟨hk, h8, h9⟩, fun y2 e2 => ?_⟩
    rw [hv] at e2
    generalize hT : rT σ = T at *
    generalize hL : rL σ = L at *
    have fin : ∀ τ : w_M, r_f2 σ τ → rl_q T L f b σ τ → Q none τ := fun τ F h => hQ _ ⟨F, fun q => absurd c q, fun _ => h⟩
    refine ⟨fun c2 => ?_, fun c2 τ5 q5 => ?_⟩
    · have hle := ln_k_le (T := T) (L := L) (f := f) (b := b) 5
      have hle' : ln_n T L f b = -1 ∨ (0 ≤ ln_n T L f b ∧ ln_n T L f b < 5) := hle
      obtain ⟨k, hkk⟩ : ∃ k : Nat, ln_n T L f b = (k : Int) := ⟨(ln_n T L f b).toNat, by omega⟩
      have hk5 : k < 5 := by omega
      have ek : (ln_n T L f b).toNat = k := by omega
      have ey : y2 = (k : Int) := by omega
      obtain ⟨m1, m3, mi⟩ := ln_m_le k hk5
      have hbL : b ≤ L := by omega
      have done_f : ∀ τ : w_M, r_f2 σ τ → ¬ (ln_f T L (d_ab σ) k f b).1 = 0 → τ 1 3 = (ln_f T L (d_ab σ) k f b).1 → τ 1 4 = (((ln_f T L (d_ab σ) k f b).2 : Nat) : Int) → Q none τ := fun τ F h1 h2 h3' => by
        refine fin τ F ⟨fun h => by omega, fun _ => ?_⟩
        rw [ek]
        exact ⟨fun _ => ⟨h2, h3'⟩, fun h => absurd h h1⟩
      rw [ey]
      refine ⟨⟨h3, by omega, by omega⟩, fun τ3 q3 => ⟨by omega, by show (k : Int) < 5; omega, fun y4 e4 => ?_⟩⟩
      have e4' : y4 = (ln_m k : Int) := by
        rw [e4, Int.toNat_natCast]
        exact mi.symm
      rw [e4']
      unfold q_Reader_beginLine at q3
      rw [Int.toNat_natCast] at q3
      by_cases hbl : ln_b (d_ab σ) k = 0
      · have e3 := q3.1 hbl
        rw [e3]
        refine (w_loop (n := ln_m k) (P := fun j => ∀ τ : w_M, r_f3 σ τ → τ 1 3 = (nf T L (d_ab σ) k b j).1 → (¬ (nf T L (d_ab σ) k b j).1 = 0 → τ 1 4 = (((nf T L (d_ab σ) k b j).2 : Nat) : Int)) → ((nf T L (d_ab σ) k b j).1 = 0 → τ 1 9 = ((pp T L b j : Nat) : Int) ∧ ∀ i, i < j → τ 12 i = tk_v T L (pp T L b i)) → LReader_readLine_27 xs (d + 4) Q (k : Int) (ln_m k : Int) (j : Int) τ) ?_ ?_) σ ⟨fun _ _ _ => rfl, rfl, rfl⟩ h3 (fun h => absurd rfl h) (fun _ => ⟨hb, fun i hi => by omega⟩)
        · intro τ F i3 i4 i9
          obtain ⟨g1, g2, g3⟩ := rTL τ F
          have pl := nf_pl (T := T) (L := L) (D := d_ab σ) (k := k) hbL (ln_m k)
          have elf : ln_f T L (d_ab σ) k f b = if ¬ (nf T L (d_ab σ) k b (ln_m k)).1 = 0 then nf T L (d_ab σ) k b (ln_m k) else (ln_s T L (pp T L b (ln_m k)), tk_f T L (pp T L b (ln_m k))) := by unfold ln_f; rw [if_neg (fun q => q hbl)]
          refine bReader_readLine_27 ⟨fun _ => ⟨fun c5 => ?_, fun c5 => ?_⟩, fun h => by omega⟩
          · have hnz : ¬ (nf T L (d_ab σ) k b (ln_m k)).1 = 0 := by rw [← i3]; exact c5
            rw [if_pos hnz] at elf
            exact done_f τ F.f2 (by rw [elf]; exact hnz) (by rw [elf]; exact i3) (by rw [elf]; exact i4 hnz)
          · have hz : (nf T L (d_ab σ) k b (ln_m k)).1 = 0 := by rw [← i3]; exact c5
            rw [if_neg (fun q => q hz)] at elf
            obtain ⟨i9', i12⟩ := i9 hz
            have ppL := pl.2 hz
            have e11 : τ 1 1 = σ 1 1 := F.2.1
            refine ⟨⟨⟨g3, c5⟩, by omega, by omega⟩, fun τ1 q1 => ?_⟩
            unfold q_Reader_readToken at q1
            rw [g1, g2, i9', Int.toNat_natCast] at q1
            obtain ⟨F1, t8, t9, t7, t10, tf, tn⟩ := q1
            have F13 : r_f3 σ τ1 := F.tr F1.f3
            refine ⟨fun c6 => ?_, fun c6 τ4 q4 => ?_⟩
            · rw [t7] at c6
              obtain ⟨n3, n4⟩ := tn (by omega)
              have hs : ln_s T L (pp T L b (ln_m k)) = 0 := by unfold ln_s; rw [if_neg (by omega), if_neg (fun q => q c6)]
              have hlf : (ln_f T L (d_ab σ) k f b).1 = 0 := by rw [elf]; exact hs
              refine ⟨fun h => absurd n3 h, fun _ => ⟨⟨⟨by omega, by omega⟩, by rw [F13.D, Int.toNat_natCast]; exact hbl, by rw [F13.D]; exact hW⟩, fun τ2 q2 => ?_⟩⟩
              obtain ⟨u1, u2, u3, u4⟩ := q2
              rw [F13.D, Int.toNat_natCast] at u1
              have z12 : τ1 12 = τ 12 := F1.1 12 (by decide)
              refine fin τ2 ⟨fun b' hb' => by rw [u3 b' (by omega), F13.f2.1 b' hb'], by rw [u4 1 (by decide)]; exact F13.2.1⟩ ⟨fun h => by omega, fun _ => ?_⟩
              rw [ek]
              refine ⟨fun h => absurd hlf h, fun _ => ⟨by rw [u4 3 (by decide)]; exact n3, by rw [u4 9 (by decide)]; exact t9 (by omega), ?_, fun hc => u2 (F13.cn hc)⟩⟩
              rw [u1, z12]
              have v0 := i12 0 (by omega)
              rcases (show k = 0 ∨ k = 1 ∨ k = 2 ∨ k = 3 ∨ k = 4 by omega) with rfl | rfl | rfl | rfl | rfl
              · show w_up (w_up (d_ab σ) 0 0 (τ 12 0)) 0 7 1 = _; rw [v0]; rfl
              · have v1 := i12 1 (by decide)
                show w_up (w_up (w_up (d_ab σ) 1 (d_ab σ 0 4).toNat (τ 12 0)) 2 (d_ab σ 0 4).toNat (τ 12 1)) 0 4 (d_ab σ 0 4 + 1) = _
                rw [v0, v1]; rfl
              · have v1 := i12 1 (by decide)
                have v2 := i12 2 (by decide)
                show w_up (w_up (w_up (w_up (d_ab σ) 3 (d_ab σ 0 5).toNat (τ 12 0)) 4 (d_ab σ 0 5).toNat (τ 12 1)) 6 (d_ab σ 0 5).toNat (τ 12 2)) 0 5 (d_ab σ 0 5 + 1) = _
                rw [v0, v1, v2]; rfl
              · show w_up (d_ab σ) 0 2 (w_or (d_ab σ 0 2) (w_shl 1 (τ 12 0))) = _; rw [v0]; rfl
              · show w_up (d_ab σ) 0 6 (w_or (d_ab σ 0 6) (w_shl 1 (τ 12 0))) = _; rw [v0]; rfl
            · rw [t7] at c6
              by_cases h4 : tk_k T L (pp T L b (ln_m k)) = 4
              · have hs : ln_s T L (pp T L b (ln_m k)) = 1 := by unfold ln_s; rw [if_pos h4]
                have e4' := q4.2 (by rw [(tf h4).1]; decide)
                rw [e4']
                refine ⟨fun _ => done_f τ1 F13.f2 (by rw [elf]; show ¬ ln_s T L (pp T L b (ln_m k)) = 0; omega) (by rw [elf]; show _ = ln_s T L (pp T L b (ln_m k)); rw [hs]; exact (tf h4).1) (by rw [elf]; exact (tf h4).2), fun h => absurd h (by rw [(tf h4).1]; decide)⟩
              · have hs : ln_s T L (pp T L b (ln_m k)) = 2 := by unfold ln_s; rw [if_neg h4, if_pos c6]
                obtain ⟨a1, a2, a3⟩ := fail_f 2 _ τ1 τ4 q4 (tn h4).1
                refine ⟨fun _ => done_f τ4 (F13.f2.tr a3.f2) (by rw [elf]; show ¬ ln_s T L (pp T L b (ln_m k)) = 0; omega) (by rw [elf]; show _ = ln_s T L (pp T L b (ln_m k)); rw [hs]; exact a1) (by rw [elf, a2]; exact t8), fun h => absurd h (by rw [a1]; decide)⟩
        · intro j hj ih τ F i3 i4 i9
          obtain ⟨g1, g2, g3⟩ := rTL τ F
          have pl := nf_pl (T := T) (L := L) (D := d_ab σ) (k := k) hbL j
          have e11 : τ 1 1 = σ 1 1 := F.2.1
          refine bReader_readLine_27 ⟨fun h => by omega, fun _ => ⟨fun c5 => ?_, fun c5 => ?_⟩⟩
          · have hnz : ¬ (nf T L (d_ab σ) k b j).1 = 0 := by rw [← i3]; exact c5
            have es := nf_stay hnz (ln_m k - j)
            rw [show j + (ln_m k - j) = ln_m k by omega] at es
            have elf : ln_f T L (d_ab σ) k f b = nf T L (d_ab σ) k b j := by unfold ln_f; rw [if_neg (fun q => q hbl), es, if_pos hnz]
            exact done_f τ F.f2 (by rw [elf]; exact hnz) (by rw [elf]; exact i3) (by rw [elf]; exact i4 hnz)
          · have hz : (nf T L (d_ab σ) k b j).1 = 0 := by rw [← i3]; exact c5
            obtain ⟨i9', i12⟩ := i9 hz
            have ppL := pl.2 hz
            refine ⟨⟨⟨⟨g3, c5⟩, by omega, by omega⟩, ⟨by omega, by omega⟩, by omega, by omega⟩, fun τ9 q9 => ⟨⟨by omega, by omega⟩, ?_⟩⟩
            unfold q_Reader_readNumber at q9
            rw [g1, g2, F.D, i9', Int.toNat_natCast, Int.toNat_natCast, Int.toNat_natCast] at q9
            obtain ⟨n1, n2, n3, n4⟩ := q9
            have enf : nf T L (d_ab σ) k b (j + 1) = (nt_f T L (d_ab σ) k j (pp T L b j), tk_f T L (pp T L b j)) := by simp only [nf]; rw [if_pos hz]
            rw [← w_cs1]
            refine ih τ9 (F.tr n1) (by rw [enf]; exact n2) (fun h => ?_) (fun h => ?_)
            · rw [enf] at h ⊢
              exact n3 h
            · rw [enf] at h
              obtain ⟨o1, o2, o3⟩ := n4 h
              refine ⟨o1, fun i hi => ?_⟩
              by_cases e : i = j
              · rw [e]; exact o2
              · rw [o3 i e]; exact i12 i (by omega)
      · have e3 := q3.2 hbl
        have F3 : r_fr σ τ3 := by rw [e3]; exact (r_fr.rfl'.up (by decide) (by decide)).up (by decide) (by decide)
        have z3 : τ3 1 3 = ln_b (d_ab σ) k := by rw [e3, w_up_j (by decide), w_up_at]
        have z4 : τ3 1 4 = (f : Int) := by rw [e3, w_up_at, hf]
        have elf : ln_f T L (d_ab σ) k f b = (ln_b (d_ab σ) k, f) := by unfold ln_f; rw [if_pos hbl]
        refine bReader_readLine_27 ⟨fun h => by omega, fun _ => ⟨fun _ => done_f τ3 F3.f2 (by rw [elf]; exact hbl) (by rw [elf]; exact z3) (by rw [elf]; exact z4), fun h => absurd (z3.symm.trans h) hbl⟩⟩
    · obtain ⟨a1, a2, a3⟩ := fail_f 2 _ σ τ5 q5 h3
      exact fin τ5 a3.f2 ⟨fun _ => ⟨a1, by rw [a2, hf]⟩, fun h => absurd (e2.symm.trans c2) h⟩
