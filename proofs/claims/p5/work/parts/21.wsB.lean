/-! Jumps, cells -/
section WS
variable {d mid : Nat} {Q : Option w_V → w_M → Prop} {pc : Nat} {ls : w_L} {st : List w_V} {σ : w_M} {M : am_M} {xs : List Int} {E : w_C} {rt : Nat}
theorem wS_bipush (hP : am_P mid = some M) {n : Int} (hn : w_in n) (hop : M.1[pc]? = some (.bipush n)) {cst : List am_E} (h : w_opG (w_Sem cst d mid Q) E rt Q (.bipush n) (pc + 1) ls st σ) : w_Sem cst d mid Q pc ls st σ := by
  intro hl hst hσ
  exact w_go hP hop (j := none) h rfl hl (w_vs_cons (v := .inl n) hn hst) hσ
theorem wS_sipush (hP : am_P mid = some M) {n : Int} (hn : w_inl n) (hop : M.1[pc]? = some (.sipush n)) {cst : List am_E} (h : w_opG (w_Sem cst d mid Q) E rt Q (.sipush n) (pc + 1) ls st σ) : w_Sem cst d mid Q pc ls st σ := by
  intro hl hst hσ
  exact w_go hP hop (j := none) h rfl hl (w_vs_cons (v := .inr (.inl n)) hn hst) hσ
theorem wS_ldc (hP : am_P mid = some M) {k : Nat} (hk : 1000 ≤ k ∧ k < 1010 ∧ k % 2 = 0) (hop : M.1[pc]? = some (.ldc k)) {cst : List am_E} (h : w_opG (w_Sem cst d mid Q) E rt Q (.ldc k) (pc + 1) ls st σ) : w_Sem cst d mid Q pc ls st σ := by
  intro hl hst hσ
  exact w_go hP hop (j := none) h rfl hl (w_vs_cons (v := .inr (.inr (20, k))) (Or.inr (Or.inl ⟨rfl, hk⟩)) hst) hσ
theorem wS_getstatic (hP : am_P mid = some M) {k : Nat} (hop : M.1[pc]? = some (.getstatic k)) {cst : List am_E} (h : w_opG (w_Sem cst d mid Q) E rt Q (.getstatic k) (pc + 1) ls st σ) : w_Sem cst d mid Q pc ls st σ := by
  intro hl hst hσ
  simp only [w_opG] at h
  obtain ⟨h1, h⟩ := h
  rcases (show k = 0 ∨ k = 1 ∨ k = 2 ∨ k = 3 by omega) with rfl | rfl | rfl | rfl
  · exact w_go hP hop (j := none) h rfl hl (w_vs_cons (v := .inl 1) (by constructor <;> decide) hst) hσ
  · exact w_go hP hop (j := none) h rfl hl (w_vs_cons (v := .inr (.inr (6005, 1010))) (Or.inr (Or.inr (Or.inr (Or.inl ⟨rfl, rfl⟩)))) hst) hσ
  · exact w_go hP hop (j := none) h rfl hl (w_vs_cons (v := .inr (.inr (6015, 1011))) (Or.inr (Or.inr (Or.inr (Or.inr (Or.inl ⟨rfl, Or.inl rfl⟩))))) hst) hσ
  · exact w_go hP hop (j := none) h rfl hl (w_vs_cons (v := .inr (.inr (6015, 1012))) (Or.inr (Or.inr (Or.inr (Or.inr (Or.inl ⟨rfl, Or.inr rfl⟩))))) hst) hσ
theorem wS_goto (hP : am_P mid = some M) {t : Int} (hop : M.1[pc]? = some (.goto t)) {cst : List am_E} (h : w_opG (w_Sem cst d mid Q) E rt Q (.goto t) (pc + 1) ls st σ) : w_Sem cst d mid Q pc ls st σ := by
  intro hl hst hσ
  exact w_go hP hop (j := some t.toNat) h rfl hl hst hσ
theorem wS_ifCond (hP : am_P mid = some M) {c : Jvm.ClassFile.Cond} {t : Int} (hop : M.1[pc]? = some (.ifCond c t)) {cst : List am_E} (h : w_opG (w_Sem cst d mid Q) E rt Q (.ifCond c t) (pc + 1) ls st σ) : w_Sem cst d mid Q pc ls st σ := by
  intro hl hst hσ
  simp only [w_opG] at h
  split at h
  · rename_i x r
    have hx := w_vs_hd hst
    have hq : am_cmp c (Int32.ofInt x) 0 = true ↔ w_cmp c x 0 := w_cmp_ok (y := 0) hx w_in0
    by_cases hc : w_cmp c x 0
    · refine w_go hP hop (j := some t.toNat) (h.1 hc) ?_ hl (w_vs_tl hst) hσ
      simp only [am_step, List.map_cons, w_tv, if_pos (hq.mpr hc)]
    · refine w_go hP hop (j := none) (h.2 hc) ?_ hl (w_vs_tl hst) hσ
      simp only [am_step, List.map_cons, w_tv, if_neg (fun q => hc (hq.mp q))]
  · exact h.elim
theorem wS_if_icmp (hP : am_P mid = some M) {c : Jvm.ClassFile.Cond} {t : Int} (hop : M.1[pc]? = some (.if_icmp c t)) {cst : List am_E} (h : w_opG (w_Sem cst d mid Q) E rt Q (.if_icmp c t) (pc + 1) ls st σ) : w_Sem cst d mid Q pc ls st σ := by
  intro hl hst hσ
  simp only [w_opG] at h
  split at h
  · rename_i y x r
    have hy := w_vs_hd hst
    have hx := w_vs_hd (w_vs_tl hst)
    have hq : am_cmp c (Int32.ofInt x) (Int32.ofInt y) = true ↔ w_cmp c x y := w_cmp_ok hx hy
    by_cases hc : w_cmp c x y
    · refine w_go hP hop (j := some t.toNat) (h.1 hc) ?_ hl (w_vs_tl (w_vs_tl hst)) hσ
      simp only [am_step, List.map_cons, w_tv, if_pos (hq.mpr hc)]
    · refine w_go hP hop (j := none) (h.2 hc) ?_ hl (w_vs_tl (w_vs_tl hst)) hσ
      simp only [am_step, List.map_cons, w_tv, if_neg (fun q => hc (hq.mp q))]
  · exact h.elim
theorem w_tsw_get {K : Nat → Prop} {x : Int} : ∀ {ts : List Int} {lo : Int} {k : Nat} {t : Int}, w_tsw K x lo ts → ts[k]? = some t → x = lo + k → K t.toNat
  | [], _, _, _, _, h, _ => by simp at h
  | _ :: _, lo, 0, t, h, hk, hx => by
    cases hk
    exact h.1 (by omega)
  | _ :: r, lo, k + 1, t, h, hk, hx => w_tsw_get (ts := r) (lo := lo + 1) (k := k) h.2 hk (by omega)
theorem wS_tableswitch (hP : am_P mid = some M) {dd lo hi : Int} {ts : Array Int} (hop : M.1[pc]? = some (.tableswitch dd lo hi ts)) {cst : List am_E} (h : w_opG (w_Sem cst d mid Q) E rt Q (.tableswitch dd lo hi ts) (pc + 1) ls st σ) : w_Sem cst d mid Q pc ls st σ := by
  intro hl hst hσ
  simp only [w_opG] at h
  split at h
  · rename_i x r
    have hx := w_vs_hd hst
    obtain ⟨h1, h2, h3⟩ := h
    by_cases hc : x < lo ∨ hi < x
    · refine w_go hP hop (j := some dd.toNat) (h2 hc) ?_ hl (w_vs_tl hst) hσ
      simp only [am_step, List.map_cons, w_tv, w_ci hx, if_pos hc]
    · have hlt : (x - lo).toNat < ts.toList.length := by omega
      have hg : ts[(x - lo).toNat]? = some ts.toList[(x - lo).toNat] := by
        rw [← Array.getElem?_toList]
        exact List.getElem?_eq_getElem hlt
      refine w_go hP hop (j := some (ts.toList[(x - lo).toNat]).toNat) (w_tsw_get h3 (k := (x - lo).toNat) (List.getElem?_eq_getElem hlt) (by omega)) ?_ hl (w_vs_tl hst) hσ
      simp only [am_step, List.map_cons, w_tv, w_ci hx, if_neg hc, hg]
  · exact h.elim
theorem w_lks_ok {K : Nat → Prop} {x : Int} : ∀ {ps : List (Int × Int)} {dd : Int}, w_lks K x ps dd → K (am_lks ps dd x).toNat
  | [], _, h => h
  | (a, t) :: r, dd, h => by
    unfold am_lks
    by_cases hx : x = a
    · rw [if_pos hx]
      exact h.1 hx
    · rw [if_neg hx]
      exact w_lks_ok (h.2 hx)
theorem wS_lookupswitch (hP : am_P mid = some M) {dd : Int} {ps : Array (Int × Int)} (hop : M.1[pc]? = some (.lookupswitch dd ps)) {cst : List am_E} (h : w_opG (w_Sem cst d mid Q) E rt Q (.lookupswitch dd ps) (pc + 1) ls st σ) : w_Sem cst d mid Q pc ls st σ := by
  intro hl hst hσ
  simp only [w_opG] at h
  split at h
  · rename_i x r
    have hx := w_vs_hd hst
    refine w_go hP hop (j := some (am_lks ps.toList dd x).toNat) (w_lks_ok h) ?_ hl (w_vs_tl hst) hσ
    simp only [am_step, List.map_cons, w_tv, w_ci hx]
  · exact h.elim
theorem wS_iaload (hP : am_P mid = some M) (hop : M.1[pc]? = some .iaload) (hxs : ∀ x ∈ E.1, w_in x) (h : w_opG (w_Sem (am_cst (E.1.map Int32.ofInt)) d mid Q) E rt Q .iaload (pc + 1) ls st σ) : w_Sem (am_cst (E.1.map Int32.ofInt)) d mid Q pc ls st σ := by
  intro hl hst hσ
  simp only [w_opG] at h
  split at h
  · rename_i j k a r
    have hj : w_in j := w_vs_hd hst
    have hrv : w_rv k a := w_vs_hd (w_vs_tl hst)
    have hr := w_vs_tl (w_vs_tl hst)
    split at h
    · rename_i hc
      obtain ⟨h0, h1, h⟩ := h
      obtain ⟨ha, hk⟩ := w_rv_lo hrv hc.1 (by omega)
      have e1 : am_look (am_cst (E.1.map Int32.ofInt)) (w_mem σ) a = some (.inl (0, (List.range (k - 1000)).map fun i => Int32.ofInt (σ a i))) := by rw [w_look_lo ha, w_mem_get ha, hk, w_cell_i hc.1 hc.2]
      have e2 : am_inb (Int32.ofInt j) ((List.range (k - 1000)).map fun i => Int32.ofInt (σ a i)).length = true := by rw [List.length_map, List.length_range]; exact w_inb hj h0 h1
      refine w_go hP hop (j := none) h ?_ hl (w_vs_cons (v := .inl (σ a j.toNat)) (hσ _ _) hr) hσ
      simp only [am_step, List.map_cons, w_tv, e1, if_pos e2, w_nat hj, w_gmr (show j.toNat < k - 1000 by omega)]
    · obtain ⟨hc, h0, h1, h⟩ := h
      have e1 : am_look (am_cst (E.1.map Int32.ofInt)) (w_mem σ) a = some (.inl (0, (w_carr E.1 a).map Int32.ofInt)) := w_carr_i (by
        unfold w_rv at hrv
        rcases hrv with ⟨q1, q2⟩ | q
        · have := w_kd_ok a q1
          omega
        · omega)
      have e2 : am_inb (Int32.ofInt j) ((w_carr E.1 a).map Int32.ofInt).length = true := by rw [List.length_map]; exact w_inb hj h0 h1
      refine w_go hP hop (j := none) h ?_ hl (w_vs_cons (v := .inl _) (w_carr_in hxs) hr) hσ
      simp only [am_step, List.map_cons, w_tv, e1, if_pos e2, w_nat hj, w_gD (show j.toNat < (w_carr E.1 a).length by omega)]
  · exact h.elim
theorem wS_baload (hP : am_P mid = some M) (hop : M.1[pc]? = some .baload) (hxs : ∀ x ∈ E.1, w_in x) (h : w_opG (w_Sem (am_cst (E.1.map Int32.ofInt)) d mid Q) E rt Q .baload (pc + 1) ls st σ) : w_Sem (am_cst (E.1.map Int32.ofInt)) d mid Q pc ls st σ := by
  intro hl hst hσ
  simp only [w_opG] at h
  split at h
  · rename_i j k a r
    have hj : w_in j := w_vs_hd hst
    have hrv : w_rv k a := w_vs_hd (w_vs_tl hst)
    have hr := w_vs_tl (w_vs_tl hst)
    split at h
    · rename_i hc
      obtain ⟨h0, h1, h⟩ := h
      obtain ⟨ha, hk⟩ := w_rv_lo hrv (by omega) (by omega)
      by_cases hb : k < 3000
      · have e1 : am_look (am_cst (E.1.map Int32.ofInt)) (w_mem σ) a = some (.inl (0 + 1, (List.range (k - 2000)).map fun i => Int32.ofInt (σ a i))) := by rw [w_look_lo ha, w_mem_get ha, hk, w_cell_b hc.1 hb]
        have e2 : am_inb (Int32.ofInt j) ((List.range (k - 2000)).map fun i => Int32.ofInt (σ a i)).length = true := by rw [List.length_map, List.length_range]; exact w_inb hj h0 (by omega)
        refine w_go hP hop (j := none) h ?_ hl (w_vs_cons (v := .inl (σ a j.toNat)) (hσ _ _) hr) hσ
        simp only [am_step, List.map_cons, w_tv, e1, if_pos e2, w_nat hj, w_gmr (show j.toNat < k - 2000 by omega)]
      · have e1 : am_look (am_cst (E.1.map Int32.ofInt)) (w_mem σ) a = some (.inl (1 + 1, (List.range (k - 3000)).map fun i => Int32.ofInt (σ a i))) := by rw [w_look_lo ha, w_mem_get ha, hk, w_cell_z (by omega) hc.2]
        have e2 : am_inb (Int32.ofInt j) ((List.range (k - 3000)).map fun i => Int32.ofInt (σ a i)).length = true := by rw [List.length_map, List.length_range]; exact w_inb hj h0 (by omega)
        refine w_go hP hop (j := none) h ?_ hl (w_vs_cons (v := .inl (σ a j.toNat)) (hσ _ _) hr) hσ
        simp only [am_step, List.map_cons, w_tv, e1, if_pos e2, w_nat hj, w_gmr (show j.toNat < k - 3000 by omega)]
    · obtain ⟨hc, h0, h1, h⟩ := h
      have e1 : am_look (am_cst (E.1.map Int32.ofInt)) (w_mem σ) a = some (.inl (0 + 1, (w_carr E.1 a).map Int32.ofInt)) := w_carr_b (by
        unfold w_rv at hrv
        rcases hrv with ⟨q1, q2⟩ | q
        · have := w_kd_ok a q1
          omega
        · omega)
      have e2 : am_inb (Int32.ofInt j) ((w_carr E.1 a).map Int32.ofInt).length = true := by rw [List.length_map]; exact w_inb hj h0 h1
      refine w_go hP hop (j := none) h ?_ hl (w_vs_cons (v := .inl _) (w_carr_in hxs) hr) hσ
      simp only [am_step, List.map_cons, w_tv, e1, if_pos e2, w_nat hj, w_gD (show j.toNat < (w_carr E.1 a).length by omega)]
  · exact h.elim
theorem wS_iastore (hP : am_P mid = some M) (hop : M.1[pc]? = some .iastore) {cst : List am_E} (h : w_opG (w_Sem cst d mid Q) E rt Q .iastore (pc + 1) ls st σ) : w_Sem cst d mid Q pc ls st σ := by
  intro hl hst hσ
  simp only [w_opG] at h
  split at h
  · rename_i x j k a r
    have hx : w_in x := w_vs_hd hst
    have hj : w_in j := w_vs_hd (w_vs_tl hst)
    have hrv : w_rv k a := w_vs_hd (w_vs_tl (w_vs_tl hst))
    have hr := w_vs_tl (w_vs_tl (w_vs_tl hst))
    obtain ⟨hc, h0, h1, h⟩ := h
    obtain ⟨ha, hk⟩ := w_rv_lo hrv hc.1 (by omega)
    have e1 : (w_mem σ)[a]? = some (.inl (0, (List.range (k - 1000)).map fun i => Int32.ofInt (σ a i))) := by rw [w_mem_get ha, hk, w_cell_i hc.1 hc.2]
    have e2 : am_inb (Int32.ofInt j) ((List.range (k - 1000)).map fun i => Int32.ofInt (σ a i)).length = true ∧ a < 1000 := ⟨by rw [List.length_map, List.length_range]; exact w_inb hj h0 h1, by omega⟩
    refine w_go hP hop (j := none) h ?_ hl hr (w_up_ms hσ hx)
    rw [← w_mem_set (σ := σ) (a := a) (fun b hb => w_up_ne hb), hk, w_cell_i hc.1 hc.2]
    simp only [am_step, List.map_cons, w_tv, e1, if_pos e2, w_nat hj]
    rw [w_smr (g' := fun i => Int32.ofInt (w_up σ a j.toNat x a i)) (by simp only [w_up_at]) (fun i hi => by simp only [w_up_j hi])]
  · exact h.elim
theorem wS_bastore (hP : am_P mid = some M) (hop : M.1[pc]? = some .bastore) {cst : List am_E} (h : w_opG (w_Sem cst d mid Q) E rt Q .bastore (pc + 1) ls st σ) : w_Sem cst d mid Q pc ls st σ := by
  intro hl hst hσ
  simp only [w_opG] at h
  split at h
  · rename_i x j k a r
    have hx : w_in x := w_vs_hd hst
    have hj : w_in j := w_vs_hd (w_vs_tl hst)
    have hrv : w_rv k a := w_vs_hd (w_vs_tl (w_vs_tl hst))
    have hr := w_vs_tl (w_vs_tl (w_vs_tl hst))
    obtain ⟨hc, hv, h0, h1, h⟩ := h
    obtain ⟨ha, hk⟩ := w_rv_lo hrv (by omega) (by omega)
    by_cases hb : k < 3000
    · rw [if_pos hb] at hv
      have e1 : (w_mem σ)[a]? = some (.inl (0 + 1, (List.range (k - 2000)).map fun i => Int32.ofInt (σ a i))) := by rw [w_mem_get ha, hk, w_cell_b hc.1 hb]
      have e2 : am_inb (Int32.ofInt j) ((List.range (k - 2000)).map fun i => Int32.ofInt (σ a i)).length = true ∧ a < 1000 := ⟨by rw [List.length_map, List.length_range]; exact w_inb hj h0 (by omega), by omega⟩
      have e3 : am_nar (0 + 1) (Int32.ofInt x) = Int32.ofInt x := by
        show (Int32.ofInt x).toInt8.toInt32 = _
        rw [Int32.toInt8_ofInt, ← Int32.ofInt_int8ToInt, Int8.toInt_ofInt_of_le (by omega) (by omega)]
      refine w_go hP hop (j := none) h ?_ hl hr (w_up_ms hσ hx)
      rw [← w_mem_set (σ := σ) (a := a) (fun b hb => w_up_ne hb), hk, w_cell_b hc.1 hb]
      simp only [am_step, List.map_cons, w_tv, e1, if_pos e2, w_nat hj, e3]
      rw [w_smr (g' := fun i => Int32.ofInt (w_up σ a j.toNat x a i)) (by simp only [w_up_at]) (fun i hi => by simp only [w_up_j hi])]
    · rw [if_neg hb] at hv
      have e1 : (w_mem σ)[a]? = some (.inl (1 + 1, (List.range (k - 3000)).map fun i => Int32.ofInt (σ a i))) := by rw [w_mem_get ha, hk, w_cell_z (by omega) hc.2]
      have e2 : am_inb (Int32.ofInt j) ((List.range (k - 3000)).map fun i => Int32.ofInt (σ a i)).length = true ∧ a < 1000 := ⟨by rw [List.length_map, List.length_range]; exact w_inb hj h0 (by omega), by omega⟩
      have e3 : am_nar (1 + 1) (Int32.ofInt x) = Int32.ofInt x := by
        rcases hv with rfl | rfl <;> rfl
      refine w_go hP hop (j := none) h ?_ hl hr (w_up_ms hσ hx)
      rw [← w_mem_set (σ := σ) (a := a) (fun b hb => w_up_ne hb), hk, w_cell_z (by omega) hc.2]
      simp only [am_step, List.map_cons, w_tv, e1, if_pos e2, w_nat hj, e3]
      rw [w_smr (g' := fun i => Int32.ofInt (w_up σ a j.toNat x a i)) (by simp only [w_up_at]) (fun i hi => by simp only [w_up_j hi])]
  · exact h.elim
theorem wS_aaload (hP : am_P mid = some M) (hop : M.1[pc]? = some .aaload) {cst : List am_E} (h : w_opG (w_Sem cst d mid Q) E rt Q .aaload (pc + 1) ls st σ) : w_Sem cst d mid Q pc ls st σ := by
  intro hl hst hσ
  simp only [w_opG] at h
  split at h
  · rename_i j k a r
    have hj : w_in j := w_vs_hd hst
    have hrv : w_rv k a := w_vs_hd (w_vs_tl hst)
    have hr := w_vs_tl (w_vs_tl hst)
    split at h
    · rename_i hc
      subst hc
      obtain ⟨h0, h1, h⟩ := h
      have hak : a < 134 ∧ w_kind a = 4002 := by unfold w_rv at hrv; omega
      have e1 : (w_mem σ)[a]? = some (.inr (.inr (0, (List.range 2).map fun j => some (88 + 17 * j)))) := by rw [w_mem_get hak.1, hak.2, w_cell_q (by omega) (by omega)]
      have e2 : am_inb (Int32.ofInt j) ((List.range 2).map fun j => some (88 + 17 * j)).length = true ∧ a < 1000 := ⟨by rw [List.length_map, List.length_range]; exact w_inb hj h0 h1, by omega⟩
      refine w_go hP hop (j := none) h ?_ hl (w_vs_cons (v := .inr (.inr (3, 88 + 17 * j.toNat))) (Or.inl (w_im_ok _ (by omega))) hr) hσ
      simp only [am_step, List.map_cons, w_tv, e1, if_pos e2, w_nat hj, w_gmr (show j.toNat < 2 by omega)]
    · obtain ⟨hc, h0, h1, h⟩ := h
      have hak : a < 134 ∧ w_kind a = k := by unfold w_rv at hrv; omega
      have e1 : (w_mem σ)[a]? = some (.inr (.inr (1, (List.range (k / 100 % 100)).map fun j => some (a + 1 + j)))) := by rw [w_mem_get hak.1, hak.2, w_cell_r hc]
      have e2 : am_inb (Int32.ofInt j) ((List.range (k / 100 % 100)).map fun j => some (a + 1 + j)).length = true ∧ a < 1000 := ⟨by rw [List.length_map, List.length_range]; exact w_inb hj h0 h1, by omega⟩
      have hv := w_aa_ok a hak.1 (by rw [hak.2]; exact hc) j.toNat (by rw [hak.2]; omega)
      rw [hak.2] at hv
      refine w_go hP hop (j := none) h ?_ hl (w_vs_cons (v := .inr (.inr (1000 + k % 100, a + 1 + j.toNat))) (Or.inl hv) hr) hσ
      simp only [am_step, List.map_cons, w_tv, e1, if_pos e2, w_nat hj, w_gmr (show j.toNat < k / 100 % 100 by omega)]
  · exact h.elim
end WS
