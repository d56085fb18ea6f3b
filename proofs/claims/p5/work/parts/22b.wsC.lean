section WS
variable {d mid : Nat} {Q : Option w_V → w_M → Prop} {pc : Nat} {ls : w_L} {st : List w_V} {σ : w_M} {M : am_M} {xs : List Int} {E : w_C} {rt : Nat}
theorem w_ofn (n : Nat) : Int32.ofInt (n : Int) = Int32.ofNat n := rfl
theorem wS_arraylength (hP : am_P mid = some M) (hop : M.1[pc]? = some .arraylength) (hxl : E.1.length ≤ 400) (h : w_opG (w_Sem (am_cst (E.1.map Int32.ofInt)) d mid Q) E rt Q .arraylength (pc + 1) ls st σ) : w_Sem (am_cst (E.1.map Int32.ofInt)) d mid Q pc ls st σ := by
  intro hl hst hσ
  simp only [w_opG] at h
  split at h
  · rename_i k a r
    have hrv : w_rv k a := w_vs_hd hst
    have hr := w_vs_tl hst
    split at h
    · rename_i hc
      obtain ⟨ha, hk⟩ := w_rv_lo hrv hc.1 hc.2
      have e1 : ∃ t l, am_look (am_cst (E.1.map Int32.ofInt)) (w_mem σ) a = some (.inl (t, l)) ∧ l.length = k % 1000 := by
        rw [w_look_lo ha, w_mem_get ha, hk]
        by_cases c1 : k < 2000
        · rw [w_cell_i hc.1 c1]
          exact ⟨_, _, rfl, by rw [List.length_map, List.length_range]; omega⟩
        · by_cases c2 : k < 3000
          · rw [w_cell_b (by omega) c2]
            exact ⟨_, _, rfl, by rw [List.length_map, List.length_range]; omega⟩
          · rw [w_cell_z (by omega) hc.2]
            exact ⟨_, _, rfl, by rw [List.length_map, List.length_range]; omega⟩
      obtain ⟨t, l, e1, e2⟩ := e1
      refine w_go hP hop (j := none) h ?_ hl (w_vs_cons (v := .inl ((k % 1000 : Nat) : Int)) (show w_in _ by unfold w_in; omega) hr) hσ
      simp only [am_step, List.map_cons, w_tv, e1, e2, w_ofn]
    · obtain ⟨hc, h⟩ := h
      have e1 : ∃ t, am_look (am_cst (E.1.map Int32.ofInt)) (w_mem σ) a = some (.inl (t, (w_carr E.1 a).map Int32.ofInt)) := by
        unfold w_rv at hrv
        by_cases c7 : k = 7000
        · refine ⟨_, w_carr_b ?_⟩
          rcases hrv with ⟨q1, q2⟩ | q
          · have := w_kd_ok a q1
            omega
          · omega
        · refine ⟨_, w_carr_i ?_⟩
          rcases hrv with ⟨q1, q2⟩ | q
          · have := w_kd_ok a q1
            omega
          · omega
      obtain ⟨t, e1⟩ := e1
      have hle := w_carr_len hxl a
      refine w_go hP hop (j := none) h ?_ hl (w_vs_cons (v := .inl ((w_carr E.1 a).length : Int)) (show w_in _ by unfold w_in; omega) hr) hσ
      simp only [am_step, List.map_cons, w_tv, e1, List.length_map, w_ofn]
  · exact h.elim
theorem wS_getfield (hP : am_P mid = some M) {f : Nat} (hop : M.1[pc]? = some (.getfield f)) (hf : (f = 2000 ∨ f = 2001) ∨ (f / 100 < 10 ∧ f % 100 < w_nf (f / 100))) (h : w_opG (w_Sem (am_cst (E.1.map Int32.ofInt)) d mid Q) E rt Q (.getfield f) (pc + 1) ls st σ) : w_Sem (am_cst (E.1.map Int32.ofInt)) d mid Q pc ls st σ := by
  intro hl hst hσ
  simp only [w_opG] at h
  split at h
  · rename_i k a r
    have hrv : w_rv k a := w_vs_hd hst
    have hr := w_vs_tl hst
    split at h
    · rename_i hc
      subst hc
      obtain ⟨rfl, h⟩ := h
      have hs : 1000 ≤ a ∧ a < 1010 ∧ a % 2 = 0 := by
        unfold w_rv at hrv
        rcases hrv with ⟨q1, q2⟩ | q
        · have := (w_rf_ok a q1 (by omega)).1
          omega
        · omega
      refine w_go hP hop (j := none) h ?_ hl (w_vs_cons (v := .inr (.inr (7000, a + 1))) (Or.inr (Or.inr (Or.inl ⟨rfl, by omega, by omega, by omega⟩))) hr) hσ
      simp only [am_step, List.map_cons, w_tv, w_carr_s hs]
      rfl
    split at h
    · rename_i hc
      subst hc
      obtain ⟨rfl, h⟩ := h
      have hs : 1000 ≤ a ∧ a < 1010 ∧ a % 2 = 0 := by
        unfold w_rv at hrv
        rcases hrv with ⟨q1, q2⟩ | q
        · have := (w_rf_ok a q1 (by omega)).1
          omega
        · omega
      refine w_go hP hop (j := none) h ?_ hl (w_vs_cons (v := .inl 0) w_in0 hr) hσ
      simp only [am_step, List.map_cons, w_tv, w_carr_s hs]
      rfl
    · rename_i hc1 hc2
      obtain ⟨rfl, h⟩ := h
      obtain ⟨f1, f2⟩ := hf.resolve_left (by omega)
      have hak : a < 134 ∧ w_kind a = f / 100 := by unfold w_rv at hrv; omega
      have hff : f / 100 * 100 + f % 100 = f := by omega
      have e1 : am_look (am_cst (E.1.map Int32.ofInt)) (w_mem σ) a = some (.inr (.inl (f / 100, (List.range (w_nf (f / 100))).map (w_fv (f / 100) a (σ a))))) := by rw [w_look_lo hak.1, w_mem_get hak.1, hak.2, w_cell_o (by omega)]
      have e2 : ((List.range (w_nf (f / 100))).map (w_fv (f / 100) a (σ a)))[f % 100]? = some (w_fv (f / 100) a (σ a) (f % 100)) := by
        rw [List.getElem?_map, List.getElem?_range f2, Option.map_some]
      cases hrf : w_rf f with
      | some q =>
        rw [hrf] at h
        rw [w_fv_s (q := q) (by rw [hff]; exact hrf)] at e2
        have hv := (w_rf_ok a hak.1 (by omega)).2 (f % 100) (by rw [hak.2]; exact f2)
        unfold w_rfb at hv
        rw [hak.2, hff, hrf] at hv
        simp only [Bool.and_eq_true, decide_eq_true_eq] at hv
        refine w_go hP hop (j := none) h ?_ hl (w_vs_cons (v := .inr (.inr (q.1, a + q.2))) (Or.inl hv) hr) hσ
        simp only [am_step, List.map_cons, w_tv, e1, if_true, e2]
      | none =>
        rw [hrf] at h
        rw [w_fv_n (by rw [hff]; exact hrf)] at e2
        refine w_go hP hop (j := none) h ?_ hl (w_vs_cons (v := .inl (σ a (f % 100))) (hσ _ _) hr) hσ
        simp only [am_step, List.map_cons, w_tv, e1, if_true, e2]
  · exact h.elim
theorem wS_putfield (hP : am_P mid = some M) {f : Nat} (hop : M.1[pc]? = some (.putfield f)) (hf : f / 100 < 10 ∧ f % 100 < w_nf (f / 100)) {cst : List am_E} (h : w_opG (w_Sem cst d mid Q) E rt Q (.putfield f) (pc + 1) ls st σ) : w_Sem cst d mid Q pc ls st σ := by
  intro hl hst hσ
  simp only [w_opG] at h
  split at h
  · rename_i x k a r
    have hx : w_in x := w_vs_hd hst
    have hrv : w_rv k a := w_vs_hd (w_vs_tl hst)
    have hr := w_vs_tl (w_vs_tl hst)
    obtain ⟨rfl, hrf, hb, h⟩ := h
    obtain ⟨f1, f2⟩ := hf
    have hak : a < 134 ∧ w_kind a = f / 100 := by unfold w_rv at hrv; omega
    have hff : f / 100 * 100 + f % 100 = f := by omega
    have e1 : (w_mem σ)[a]? = some (.inr (.inl (f / 100, (List.range (w_nf (f / 100))).map (w_fv (f / 100) a (σ a))))) := by rw [w_mem_get hak.1, hak.2, w_cell_o (by omega)]
    have ht := w_ft_ok (f / 100) f1 (f % 100) f2
    unfold w_ftb at ht
    rw [hff, hrf] at ht
    cases hq : (am_ft (f / 100))[f % 100]? with
    | none => rw [hq] at ht; cases ht
    | some q =>
      obtain ⟨ty, fin, dv⟩ := q
      rw [hq] at ht
      simp only [Bool.or_eq_true, Bool.and_eq_true, decide_eq_true_eq] at ht
      have e3 : f / 100 = f / 100 ∧ a < 1000 ∧ f % 100 < ((List.range (w_nf (f / 100))).map (w_fv (f / 100) a (σ a))).length ∧ narrow ty (.int (Int32.ofInt x)) = .int (Int32.ofInt x) ∧ fits ty (.int (Int32.ofInt x)) = true := by
        refine ⟨rfl, by omega, by rw [List.length_map, List.length_range]; exact f2, ?_⟩
        rcases ht with rfl | ⟨rfl, h5⟩
        · exact ⟨rfl, rfl⟩
        · rcases hb h5 with rfl | rfl <;> exact ⟨rfl, rfl⟩
      refine w_go hP hop (j := none) h ?_ hl hr (w_up_ms hσ hx)
      rw [← w_mem_set (σ := σ) (a := a) (fun b hb => w_up_ne hb), hak.2, w_cell_o (by omega)]
      simp only [am_step, List.map_cons, w_tv, e1, hq, if_pos e3]
      rw [w_smrV (g' := w_fv (f / 100) a (w_up σ a (f % 100) x a)) (by rw [w_fv_n (by rw [hff]; exact hrf), w_up_at]) (fun i hi => by unfold w_fv; simp only [w_up_j hi])]
      rw [if_pos ⟨trivial, e3.2⟩]
  · exact h.elim
theorem w_cpy_ne {s dd sp dp n : Nat} {b : Nat} (h : b ≠ dd) : w_cpy σ s dd sp dp n b = σ b := by
  funext j
  simp [w_cpy, h]
theorem w_cpy_ms {s dd sp dp n : Nat} (h : w_ms σ) : w_ms (w_cpy σ s dd sp dp n) := by
  intro b j
  unfold w_cpy
  split
  · exact h _ _
  · exact h b j
theorem w_self (l : List Int32) : l = (List.range l.length).map fun j => l.getD j 0 := by
  apply List.ext_getElem?
  intro i
  rw [List.getElem?_map]
  by_cases h : i < l.length
  · rw [List.getElem?_range h, Option.map_some, List.getD_eq_getElem?_getD, List.getElem?_eq_getElem h]
    rfl
  · rw [List.getElem?_eq_none (by omega), List.getElem?_eq_none (by rw [List.length_range]; omega)]
    rfl
theorem wS_acopy (hP : am_P mid = some M) {z : Nat} (hop : M.1[pc]? = some (.invokedynamic z)) {cst : List am_E} (h : w_opG (w_Sem cst d mid Q) E rt Q (.invokedynamic z) (pc + 1) ls st σ) : w_Sem cst d mid Q pc ls st σ := by
  intro hl hst hσ
  simp only [w_opG] at h
  split at h
  · rename_i n dp k dd sp k2 s r
    have hn : w_in n := w_vs_hd hst
    have hst := w_vs_tl hst
    have hdp : w_in dp := w_vs_hd hst
    have hst := w_vs_tl hst
    have hrd : w_rv k dd := w_vs_hd hst
    have hst := w_vs_tl hst
    have hsp : w_in sp := w_vs_hd hst
    have hst := w_vs_tl hst
    have hrs : w_rv k2 s := w_vs_hd hst
    have hr := w_vs_tl hst
    obtain ⟨⟨c1, c2, c3, c4⟩, h8, h0, h1, h2, h3, h4, h⟩ := h
    obtain ⟨hd1, hd2⟩ := w_rv_lo hrd c1 (by omega)
    obtain ⟨hs1, hs2⟩ := w_rv_lo hrs c3 (by omega)
    have e1 : (w_mem σ)[s]? = some (.inl (0, (List.range (k2 - 1000)).map fun i => Int32.ofInt (σ s i))) := by rw [w_mem_get hs1, hs2, w_cell_i c3 c4]
    have e2 : (w_mem σ)[dd]? = some (.inl (0, (List.range (k - 1000)).map fun i => Int32.ofInt (σ dd i))) := by rw [w_mem_get hd1, hd2, w_cell_i c1 c2]
    have nn : ∀ x, w_in x → 0 ≤ x → ¬ Int32.ofInt x < 0 := fun x hx h0 q => by have := (w_neg hx).mp q; omega
    have l1 : sp.toNat + n.toNat ≤ ((List.range (k2 - 1000)).map fun i => Int32.ofInt (σ s i)).length := by rw [List.length_map, List.length_range]; omega
    have l2 : dp.toNat + n.toNat ≤ ((List.range (k - 1000)).map fun i => Int32.ofInt (σ dd i)).length := by rw [List.length_map, List.length_range]; omega
    have e3 : ¬ Int32.ofInt n < 0 ∧ ¬ Int32.ofInt dp < 0 ∧ ¬ Int32.ofInt sp < 0 ∧ sp.toNat + n.toNat ≤ ((List.range (k2 - 1000)).map fun i => Int32.ofInt (σ s i)).length ∧ dp.toNat + n.toNat ≤ ((List.range (k - 1000)).map fun i => Int32.ofInt (σ dd i)).length ∧ s < 1000 ∧ dd < 1000 ∧ ((r.map w_tv).map fun v => v.category).sum ≤ 8 :=
      ⟨nn n hn h0, nn dp hdp h1, nn sp hsp h2, l1, l2, by omega, by omega, by rw [w_cs_ok]; exact h8⟩
    have e4 : am_cpyl ((List.range (k2 - 1000)).map fun i => Int32.ofInt (σ s i)) ((List.range (k - 1000)).map fun i => Int32.ofInt (σ dd i)) sp.toNat dp.toNat n.toNat = (List.range (k - 1000)).map fun i => Int32.ofInt (w_cpy σ s dd sp.toNat dp.toNat n.toNat dd i) := by
      rw [w_self (am_cpyl _ _ _ _ _), am_cpyl_len l1 l2, List.length_map, List.length_range]
      apply List.map_congr_left
      intro i hi
      have hi := List.mem_range.mp hi
      have := congrFun (am_cpyl_cpy l1 l2) i
      rw [this]
      unfold va_cpy w_cpy
      by_cases hc : dp.toNat ≤ i ∧ i < dp.toNat + n.toNat
      · rw [if_pos hc, if_pos ⟨rfl, hc⟩]
        simp only
        rw [w_gmr (by omega)]
      · rw [if_neg hc, if_neg (fun q => hc q.2)]
        simp only
        rw [w_gmr hi]
    refine w_go hP hop (j := none) h ?_ hl hr (w_cpy_ms hσ)
    rw [← w_mem_set (σ := σ) (a := dd) (fun b hb => w_cpy_ne hb), hd2, w_cell_i c1 c2, ← e4]
    simp only [am_step, List.map_cons, w_tv, e1, e2, w_nat hn, w_nat hdp, w_nat hsp]
    rw [if_pos e3]
  · exact h.elim
theorem wS_monitorexit (hP : am_P mid = some M) (hop : M.1[pc]? = some .monitorexit) {cst : List am_E} (h : w_opG (w_Sem cst d mid Q) E rt Q .monitorexit (pc + 1) ls st σ) : w_Sem cst d mid Q pc ls st σ := by
  intro hl hst hσ
  simp only [w_opG] at h
  split at h
  · rename_i n i r
    have hn : w_in n := w_vs_hd hst
    have hi : w_in i := w_vs_hd (w_vs_tl hst)
    have hr := w_vs_tl (w_vs_tl hst)
    obtain ⟨⟨h0, h1⟩, h8, h⟩ := h
    have e1 : (¬ Int32.ofInt i < 0 ∧ Int32.ofInt i < Int32.ofInt n) ∧ ((r.map w_tv).map fun v => v.category).sum ≤ 8 :=
      ⟨⟨fun q => by have := (w_neg hi).mp q; omega, (w_lt hi hn).mpr h1⟩, by rw [w_cs_ok]; exact h8⟩
    refine w_go hP hop (j := none) h ?_ hl hr hσ
    simp only [am_step, List.map_cons, w_tv]
    rw [if_pos e1]
  · exact h.elim
theorem wS_call (hP : am_P mid = some M) {c : Nat} (hop : M.1[pc]? = some (.invokestatic c)) (hxs : w_xs E.1) (h : w_opG (w_Sem (am_cst (E.1.map Int32.ofInt)) E.2 mid Q) E rt Q (.invokestatic c) (pc + 1) ls st σ) : w_Sem (am_cst (E.1.map Int32.ofInt)) E.2 mid Q pc ls st σ := by
  intro hl hst hσ
  simp only [w_opG] at h
  obtain ⟨as, r, d', rfl, hd, h2, h4⟩ := h
  have hvas : w_vs as := fun v hv => hst v (List.mem_append_left _ (List.mem_reverse.mpr hv))
  have hvr : w_vs r := fun v hv => hst v (List.mem_append_right _ hv)
  obtain ⟨Mc, q1, q2, q3, q4, n1, rv, s1, q5, h5, q6, q7⟩ := h4 hxs hvas hσ
  have hvs2 : w_vs (w_push rv r) := by
    cases rv with
    | none => exact hvr
    | some v => exact w_vs_cons (q7 v rfl) hvr
  obtain ⟨n2, rr, s2, x1, x2⟩ := h5 hl hvs2 q6
  refine ⟨max n1 n2 + 1, rr, s2, ?_, x2⟩
  have y1 := am_exec_fuel_le (Nat.le_max_left n1 n2) q5
  have y2 := am_exec_fuel_le (Nat.le_max_right n1 n2) x1
  have hl1 : (as.reverse.map w_tv).length = as.length := by rw [List.length_map, List.length_reverse]
  have t1 : (((as.reverse ++ r).map w_tv).take Mc.2.2.1).reverse = as.map w_tv := by
    rw [q2, List.map_append, List.take_append_of_le_length (by rw [hl1]; exact Nat.le_refl _), List.take_of_length_le (by rw [hl1]; exact Nat.le_refl _), ← List.map_reverse, List.reverse_reverse]
  have t2 : ((as.reverse ++ r).map w_tv).drop Mc.2.2.1 = r.map w_tv := by
    rw [q2, List.map_append, List.drop_append_of_le_length (by rw [hl1]; exact Nat.le_refl _), List.drop_of_length_le (by rw [hl1]; exact Nat.le_refl _), List.nil_append]
  rw [hd] at y2 ⊢
  unfold am_exec
  rw [hP]
  simp only [hop, q1, t1, t2]
  rw [if_pos ⟨by rw [List.length_map, List.length_append, List.length_reverse, q2]; omega, by rw [w_cs_ok]; exact h2, q3, q4⟩]
  simp only [] at y1
  rw [y1]
  simp only
  cases rv with
  | none => exact y2
  | some v => exact y2
theorem wS_ireturn (hP : am_P mid = some M) (hrt : rt = M.2.2.2.2) (hop : M.1[pc]? = some .ireturn) {cst : List am_E} (h : w_opG (w_Sem cst d mid Q) E rt Q .ireturn (pc + 1) ls st σ) : w_Sem cst d mid Q pc ls st σ := by
  intro hl hst hσ
  simp only [w_opG] at h
  split at h
  · rename_i v
    refine ⟨1, some v, σ, ?_, h.2, hσ, fun x hx => by cases hx; exact w_vs_hd hst⟩
    have hv := w_vs_hd hst
    have hk : am_rok M.2.2.2.2 (w_tv v) = true := by
      rw [← hrt]
      have hw := h.1
      unfold w_rtk at hw
      split at hw
      · rfl
      · rcases hw with rfl | rfl <;> rfl
      · rfl
      · rfl
      · rename_i x
        have hx : w_in x := hv
        show decide (narrow .char (.int (Int32.ofInt x)) = .int (Int32.ofInt x)) = true
        have e1 : ((Int32.ofInt x).toUInt32 % 65536).toInt32 = Int32.ofInt x := lg_i2c_word (by rw [w_ci hx]; exact hw.1) (by rw [w_ci hx]; have := hw.2; omega)
        rw [lg_i2c_nf] at e1
        simp only [narrow, e1, decide_true]
      · rename_i x
        have hx : w_in x := hv
        show decide (narrow .byte (.int (Int32.ofInt x)) = .int (Int32.ofInt x)) = true
        have e1 : (Int32.ofInt x).toInt8.toInt32 = Int32.ofInt x := by rw [Int32.toInt8_ofInt, ← Int32.ofInt_int8ToInt, Int8.toInt_ofInt_of_le (by omega) (by omega)]
        simp only [narrow, e1, decide_true]
      · exact hw.elim
    unfold am_exec
    rw [hP]
    simp only [hop, List.map_cons, List.map_nil, if_pos hk, Option.map_some]
  · exact h.elim
theorem wS_return (hP : am_P mid = some M) (hrt : rt = M.2.2.2.2) (hop : M.1[pc]? = some .return_) {cst : List am_E} (h : w_opG (w_Sem cst d mid Q) E rt Q .return_ (pc + 1) ls st σ) : w_Sem cst d mid Q pc ls st σ := by
  intro hl hst hσ
  simp only [w_opG] at h
  split at h
  · refine ⟨1, none, σ, ?_, h.2, hσ, fun x hx => by cases hx⟩
    have hk : M.2.2.2.2 = 0 := by rw [← hrt]; exact h.1
    unfold am_exec
    rw [hP]
    simp only [hop, List.map_nil, if_pos hk, Option.map_none]
  · exact h.elim
end WS
