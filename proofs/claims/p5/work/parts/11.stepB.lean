/-! Instructions that read or write cells -/
theorem am_set_upd {xs : List Int32} {k : Nat} (h : k < xs.length) (x : Int32) : (fun j => (xs.set k x).getD j 0) = upd (fun j => xs.getD j 0) k x := by
  funext j
  unfold upd
  rw [List.getD_eq_getElem?_getD, List.getElem?_set]
  by_cases e : k = j
  · subst e
    simp [h]
  · have : ¬ j = k := fun q => e q.symm
    simp [e, this]
theorem am_nar_byte (x : Int32) : vp_nar .byte x = am_nar 1 x := vp_nar_byte x
theorem am_nar_bool (x : Int32) (t : Nat) : vp_nar .boolean x = am_nar (t + 2) x := rfl
section AMS
variable {p : Program} {l : Launch} {e : Env} {R : Room} {s : State} {m : MethodId} {args : Array Value} {below : List Frame} {meth : Method} {c : Code} {Q : State → Prop} {B : Nat} {ka : Nat → Nat} {D : va_G} {cst : List am_E} {mid n0 z0 : Nat}
theorem am_cq_get {ci : Nat} (h : ci < 10) : (∀ w ∈ u_ws (am_clq ci).1 (am_clq ci).2.1 (am_clq ci).2.2, w ∈ am_big) ∧
    (∀ k, k < (am_clq ci).2.2 → ∃ ty fin v, (am_ft ci)[k]? = some (ty, fin, v) ∧ parseFieldDescriptor ((am_clq ci).2.1 k).2.2.1 = some ty ∧ ((am_clq ci).2.1 k).2.2.2 = fin ∧ defaultValue ty = v) ∧ (am_ft ci).length = (am_clq ci).2.2 ∧
    (∀ a, a < (am_clq ci).2.2 → ∀ b, b < (am_clq ci).2.2 → a ≠ b → ((am_clq ci).2.1 a).2.1 ≠ ((am_clq ci).2.1 b).2.1) ∧ Cond.instantiable (am_clq ci).1 (am_clq ci).2.2 ∈ am_big ∧ Cond.initialized (am_clq ci).1 ∈ am_big := by
  have hq := am_cq_all h
  simp only [am_cq, Bool.and_eq_true, decide_eq_true_eq] at hq
  obtain ⟨⟨⟨⟨⟨h1, h2⟩, h3⟩, h4⟩, h5⟩, h6⟩ := hq
  refine ⟨fun w hw => ?_, fun k hk => ?_, h3, fun a ha b hb hab => ?_, am_wq_ok h5, am_wq_ok h6⟩
  · obtain ⟨k, hk, rfl⟩ := List.mem_map.mp hw
    exact am_wq_ok (List.all_eq_true.mp h1 k hk)
  · have := List.all_eq_true.mp h2 k (List.mem_range.mpr hk)
    cases hf : (am_ft ci)[k]? with
    | none => rw [hf] at this; cases this
    | some q =>
      rw [hf] at this
      simp only [Bool.and_eq_true, decide_eq_true_eq] at this
      exact ⟨q.1, q.2.1, q.2.2, rfl, this.1.1, this.1.2, this.2⟩
  · have := List.all_eq_true.mp (List.all_eq_true.mp h4 a (List.mem_range.mpr ha)) b (List.mem_range.mpr hb)
    simp only [Bool.or_eq_true, decide_eq_true_eq] at this
    rcases this with q | q
    · exact absurd q hab
    · exact q
theorem am_va_at_ci {mem : List am_E} {cA : Nat → ClassId} {H : Heap} {k ci : Nat} {fs : List Value} (hP : va_P D am_cl (am_ws B ka cA mem) H) (h : mem[k]? = some (.inr (.inl (ci, fs)))) : ci < 10 := by
  obtain ⟨r, hr, -⟩ := hP k _ (am_ws_at h)
  exact (List.getElem?_eq_some_iff.mp hr).1
set_option maxHeartbeats 4000000 in
theorem am_stepR (C : am_Cx B ka D cst mid n0 p s m args meth c) (hR : 1 ≤ R.frames ∧ 64 ≤ R.locals) {i pc len rt : Nat} {op raw : Instr} {ls ls' : am_L} {st st' : List Value} {mem : List am_E} {j : Option Nat} (hpc : (am_pcs mid).getD i 0 = pc)
    (hdec : decode (am_bytes mid) pc = .ok (raw, len)) (hchk : am_chk (am_on.getD mid 0) rt (am_pcs mid) i op raw pc len = true)
    (hA : match op with | .iaload | .baload | .aaload | .arraylength | .getfield _ | .monitorenter => True | _ => False)
    {mem' : List am_E} (h : am_step am_ft cst op ls st mem = some (j, ls', st', mem')) (kk : am_G B ka D mid n0 z0 p l e R s m args below meth c Q (j.getD (i + 1)) ls' st' mem') : am_G B ka D mid n0 z0 p l e R s m args below meth c Q i ls st mem := by
  intro lsA H locs hl hSt
  obtain ⟨hx, hb, hml, hown, hts, hKC, hCO, hsz, hnm, -⟩ := C
  rw [hpc]
  cases op with
  | iaload =>
    simp only [am_step] at h
    split at h
    · rename_i ix k r
      split at h
      · rename_i xs hk
        split at h
        · rename_i hin
          simp only [Option.some.injEq, Prod.mk.injEq] at h
          obtain ⟨rfl, rfl, rfl, rfl⟩ := h
          simp only [am_chk, Bool.and_eq_true] at hchk
          obtain ⟨hn, hr⟩ := hchk
          have kk := kk lsA H locs hl hSt
          rw [Option.getD_none, am_nx_ok hn] at kk
          obtain ⟨cA, hP, hWK, hS⟩ := hSt
          cases raw with
          | iaload =>
            obtain rfl := beq_iff_eq.mp hr
            unfold am_look at hk
            split at hk
            · rename_i hlo
              show W p l e R s m args below meth c H locs _ _ Q (F0 m pc lsA (.int ix :: .ref (am_phi B ka k) :: r.map (am_tv (am_phi B ka))))
              rw [am_phi_lo hlo]
              exact va_iald hx hb (am_K1 hKC hWK hk rfl) hP k 0 (am_ws_at hk) rfl (am_inb_ok hin) hdec kk
            · rename_i hhi
              show W p l e R s m args below meth c H locs _ _ Q (F0 m pc lsA (.int ix :: .ref (am_phi B ka k) :: r.map (am_tv (am_phi B ka))))
              rw [am_phi_hi hhi]
              exact va_ti hx hb (hCO.1 _ _ _ hk rfl) hS (am_inb_ok hin) rfl hdec kk
          | _ => cases hr
        · cases h
      · cases h
    · cases h
  | baload =>
    simp only [am_step] at h
    split at h
    · rename_i ix k r
      split at h
      · rename_i t xs hk
        split at h
        · rename_i hin
          simp only [Option.some.injEq, Prod.mk.injEq] at h
          obtain ⟨rfl, rfl, rfl, rfl⟩ := h
          simp only [am_chk, Bool.and_eq_true] at hchk
          obtain ⟨hn, hr⟩ := hchk
          have kk := kk lsA H locs hl hSt
          rw [Option.getD_none, am_nx_ok hn] at kk
          obtain ⟨cA, hP, hWK, hS⟩ := hSt
          cases raw with
          | baload =>
            obtain rfl := beq_iff_eq.mp hr
            unfold am_look at hk
            show W p l e R s m args below meth c H locs _ _ Q (F0 m pc lsA (.int ix :: .ref (am_phi B ka k) :: r.map (am_tv (am_phi B ka))))
            split at hk
            · rename_i hlo
              rw [am_phi_lo hlo]
              cases t with
              | zero => exact va_bald hx hb (am_K1 hKC hWK hk rfl) hP k 0 (am_ws_at hk) rfl (am_inb_ok hin) hdec kk
              | succ t => exact va_zald hx hb (am_K1 hKC hWK hk rfl) hP k 0 (am_ws_at hk) rfl (am_inb_ok hin) hdec kk
            · rename_i hhi
              rw [am_phi_hi hhi]
              cases t with
              | zero => exact va_tb hx hb (hCO.1 _ _ _ hk rfl) hS (am_inb_ok hin) rfl hdec kk
              | succ t => exact va_tz hx hb (hCO.1 _ _ _ hk rfl) hS (am_inb_ok hin) rfl hdec kk
          | _ => cases hr
        · cases h
      · cases h
    · cases h
  | aaload =>
    simp only [am_step] at h
    split at h
    · rename_i ix k r
      split at h
      · rename_i t rs hk
        split at h
        · rename_i hin
          split at h
          · rename_i q hq
            simp only [Option.some.injEq, Prod.mk.injEq] at h
            obtain ⟨rfl, rfl, rfl, rfl⟩ := h
            simp only [am_chk, Bool.and_eq_true] at hchk
            obtain ⟨hn, hr⟩ := hchk
            have kk := kk lsA H locs hl hSt
            rw [Option.getD_none, am_nx_ok hn] at kk
            obtain ⟨cA, hP, hWK, hS⟩ := hSt
            cases raw with
            | aaload =>
              obtain rfl := beq_iff_eq.mp hr
              show W p l e R s m args below meth c H locs _ _ Q (F0 m pc lsA (.int ix :: .ref (am_phi B ka k) :: r.map (am_tv (am_phi B ka))))
              rw [am_phi_lo hin.2]
              have hlt := am_inb_lt hin.1
              have hcell := hP k _ (am_ws_at hk)
              have hv : (vp_cell (cA k) (rs.length, .inr (.inr (.inr (.inr (fun j => (rs.getD j none).map (am_phi B ka))))))).slots[ix.toNatClampNeg]? = some (.ref (am_phi B ka q)) := by
                rw [vp_cell_q, arrV_read _ _ hlt, hq]
                rfl
              cases t with
              | zero => exact W.aald hx hb hcell ((hWK k _ _ hk rfl).1 rs.length (fun j => va_rf ((rs.getD j none).map (am_phi B ka)))) rfl (fun q => by cases q) (by show ¬ (ix < 0 ∨ (arrV _ _ _).slots.size ≤ _); rw [arrV_size]; exact am_inb_ok hin.1) hv rfl rfl hdec kk
              | succ t => exact W.aald hx hb hcell ((hWK k _ _ hk rfl).1 rs.length (fun j => va_rf ((rs.getD j none).map (am_phi B ka)))) rfl (fun q => by cases q) (by show ¬ (ix < 0 ∨ (arrV _ _ _).slots.size ≤ _); rw [arrV_size]; exact am_inb_ok hin.1) hv rfl rfl hdec kk
            | _ => cases hr
          · cases h
        · cases h
      · cases h
    · cases h
  | arraylength =>
    simp only [am_step] at h
    split at h
    · rename_i k r
      split at h
      · rename_i t xs hk
        simp only [Option.some.injEq, Prod.mk.injEq] at h
        obtain ⟨rfl, rfl, rfl, rfl⟩ := h
        simp only [am_chk, Bool.and_eq_true] at hchk
        obtain ⟨hn, hr⟩ := hchk
        have kk := kk lsA H locs hl hSt
        rw [Option.getD_none, am_nx_ok hn] at kk
        obtain ⟨cA, hP, hWK, hS⟩ := hSt
        cases raw with
        | arraylength =>
          obtain rfl := beq_iff_eq.mp hr
          unfold am_look at hk
          show W p l e R s m args below meth c H locs _ _ Q (F0 m pc lsA (.ref (am_phi B ka k) :: r.map (am_tv (am_phi B ka))))
          obtain ⟨ty, hty⟩ : ∃ ty, am_aty (.inl (t, xs)) = some ty := by
            match t with
            | 0 => exact ⟨_, rfl⟩
            | 1 => exact ⟨_, rfl⟩
            | _ + 2 => exact ⟨_, rfl⟩
          split at hk
          · rename_i hlo
            rw [am_phi_lo hlo]
            exact va_alen hx hb (am_K1 hKC hWK hk hty) hP k 0 (am_ws_at hk) rfl rfl hdec kk
          · rename_i hhi
            rw [am_phi_hi hhi]
            exact va_tlen hx hb (hCO.1 _ _ _ hk hty) hS rfl hdec kk
        | _ => cases hr
      · cases h
    · cases h
  | getfield f =>
    simp only [am_step] at h
    split at h
    · rename_i k r
      split at h
      · rename_i ci fs hk
        split at h
        · rename_i hci
          split at h
          · rename_i v hv
            simp only [Option.some.injEq, Prod.mk.injEq] at h
            obtain ⟨rfl, rfl, rfl, rfl⟩ := h
            simp only [am_chk, Bool.and_eq_true] at hchk
            obtain ⟨hn, hr⟩ := hchk
            have kk := kk lsA H locs hl hSt
            rw [Option.getD_none, am_nx_ok hn] at kk
            obtain ⟨cA, hP, hWK, hS⟩ := hSt
            cases raw with
            | getfield ix =>
              simp only [Bool.and_eq_true, beq_iff_eq, Bool.or_eq_true] at hr
              obtain ⟨rfl, hr⟩ := hr
              show W p l e R s m args below meth c H locs _ _ Q (F0 m pc lsA (.ref (am_phi B ka k) :: r.map (am_tv (am_phi B ka))))
              unfold am_look at hk
              split at hk
              · rename_i hlo
                rw [am_phi_lo hlo]
                have hc10 := am_va_at_ci hP hk
                rcases hr with hr | hr
                · obtain ⟨f1, f2⟩ := am_lf_fin hr
                  have hq := am_cq_get f1
                  subst hci
                  exact va_get hx hb hts hq.1 hown (am_K0 hKC) hP k (am_ws_at hk) (am_cl_get f1) (f % 100) f2 (hts _ (am_lf_ok hr)) (fun x h => h) (v := am_tv (am_phi B ka) v) (by rw [List.getElem?_map, hv]; rfl) hdec kk
                · rcases am_lsf_ok hr with ⟨rfl, -⟩ | ⟨rfl, -⟩ <;> omega
              · rename_i hhi
                rw [am_phi_hi hhi]
                have h20 := hCO.2.2.2.2.1 _ _ _ hk
                subst h20
                obtain ⟨-, o1, o2⟩ := hCO.2.1 _ _ hk
                rcases hr with hr | hr
                · have := (am_lf_fin hr).1
                  omega
                · rcases am_lsf_ok hr with ⟨rfl, hw⟩ | ⟨rfl, hw⟩
                  · exact vk_getf hx hb (o1 v hv) hS hown (hts _ hw) (fun x h => h) hdec kk
                  · exact vk_getf hx hb (o2 v hv) hS hown (hts _ hw) (fun x h => h) hdec kk
            | _ => cases hr
          · cases h
        · cases h
      · cases h
    · cases h
  | monitorenter =>
    simp only [am_step] at h
    split at h
    · rename_i k r
      split at h
      · rename_i hr8
        simp only [Option.some.injEq, Prod.mk.injEq] at h
        obtain ⟨rfl, rfl, rfl, rfl⟩ := h
        simp only [am_chk, Bool.and_eq_true] at hchk
        obtain ⟨hn, hr⟩ := hchk
        have kk := kk lsA H locs hl hSt
        rw [Option.getD_none, am_nx_ok hn] at kk
        cases raw with
        | invokespecial ix =>
          simp only [Bool.and_eq_true, beq_iff_eq] at hr
          obtain ⟨rfl, hr⟩ := hr
          exact W.objInit hx hb hown (hts _ (am_lo_ok hr)) (hts _ am_ob_w.1) (hts _ am_ob_w.2) rfl (hl.1.trans hml.symm) rfl hdec hR.1 (by
            have := lv_room (m := m) (pc := pc) (ls := lsA) (rest := r.map (am_tv (am_phi B ka))) (st := r.map (am_tv (am_phi B ka))) (by rw [am_tv_cats]; exact hr8)
            show 2 * (F0 m pc lsA _).monitorRoom + _ + 12 ≤ R.locals
            have h2 := hR.2
            simp only [F0] at this ⊢
            omega) kk
        | _ => cases hr
      · cases h
    · cases h
  | _ => exact absurd hA (by simp)
end AMS
