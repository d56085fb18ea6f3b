section
/-! Calls; whole runs; the contract of every method -/
theorem am_lm_lt : (am_lm.all fun q => decide (q.2.2.1 < 239)) = true := by decide +kernel
noncomputable def am_lmk (q : Nat × Nat × Nat × Nat × Nat) : Bool := let M := am_mq q.2.2.1; let y := am_infq q.2.2.1
  if q.2.2.2.1 % 3 = 0 then M.2.2.2.1.isSome && decide (y.1.name ≠ "<init>") else if q.2.2.2.1 % 3 = 1 then M.2.2.2.1.isNone else M.2.2.2.1.isSome && decide (y.1.name = "<init>") && decide (y.2 = none)
theorem am_lmk_c : (am_lm.all am_lmk) = true := by decide +kernel
theorem am_good {ws : List Cond} (h : ∀ w ∈ ws, w ∈ am_big) : GoodIn am_big ws := fun w hw => ⟨h w hw, good_of_word (am_big_good (h w hw))⟩
noncomputable def am_cw (k : Nat) : Cond := .code (am_infq k).1 (am_bytes k) (am_mq k).2.1 (am_infq k).2
noncomputable def am_wsk (k : Nat) : List Cond := am_cw k :: am_big
theorem am_mw_get {k : Nat} (h : k < 239) : am_cw k ∈ am_big ∧ Cond.initialized (am_infq k).1.cls ∈ am_big ∧ ((am_mq k).2.2.2.1 = none → Cond.static (am_infq k).1 ∈ am_big) ∧
    (∀ ci, (am_mq k).2.2.2.1 = some ci → Cond.instanceMethod (am_infq k).1 ∈ am_big ∧ ((am_infq k).1.name = "<init>" ∨ Cond.selects (am_infq k).1.cls (am_infq k).1 (am_infq k).1 ∈ am_big)) := by
  refine ⟨am_big_at _ (am_g1 h) rfl, am_big_mem (am_g2 h) rfl, fun hn => ?_, fun ci hc => ?_⟩
  · have := am_g3 h
    unfold am_w3 at this
    rw [hn] at this
    exact am_big_mem this rfl
  · have := am_g3 h
    unfold am_w3 at this
    rw [hc] at this
    refine ⟨am_big_mem this rfl, ?_⟩
    rcases am_g4 h with h4 | h4 | h4
    · rw [hc] at h4
      cases h4
    · exact Or.inl h4
    · exact Or.inr (am_big_mem h4 rfl)
noncomputable def am_rtq (rt : Nat) (ret : Option FieldType) : Prop := (rt = 0 ∧ ret = none) ∨ (rt = 1 ∧ ret = some .int) ∨ (rt = 2 ∧ ret = some .boolean) ∨ (rt = 3 ∧ ret = some .long) ∨ (rt = 4 ∧ ∃ n, ret = some (.object n)) ∨ (rt = 5 ∧ ret = some .char) ∨ (rt = 6 ∧ ret = some .byte)
theorem am_nm_get {k : Nat} (h : k < 240) : plainFor (am_infq k).1 = true ∧ (am_infq k).1.cls ≠ "java/lang/invoke/MethodHandle" ∧ (am_infq k).1.cls ≠ "java/lang/invoke/VarHandle" ∧ am_ownS (am_on.getD k 0) = (am_infq k).1.cls ∧
    (parseMethodDescriptor (am_infq k).1.desc).map (fun d => d.parameters.length) = some ((am_mq k).2.2.1 - (if (am_mq k).2.2.2.1 = none then 0 else 1)) ∧ (am_mq k).2.1 ≤ 13 ∧
    (∀ ci, (am_mq k).2.2.2.1 = some ci → 1 ≤ (am_mq k).2.2.1 ∧ (am_infq k).1.cls = (if ci = 20 then "java/lang/String" else (am_clq ci).1) ∧ (ci = 20 ∨ ci < 10)) ∧ am_rtq (am_mq k).2.2.2.2 (am_infq k).2 := by
  have hq := List.all_eq_true.mp am_nm_c k (List.mem_range.mpr h)
  unfold am_nmq am_nmy at hq
  simp only [Bool.and_eq_true, decide_eq_true_eq] at hq
  obtain ⟨h1, h2, h3, h4, h5, h6, h7, h8⟩ := hq
  refine ⟨h1, h2, h3, h4, h5, h6, fun ci hc => ?_, ?_⟩
  · rw [hc] at h7
    simp only [Bool.and_eq_true, decide_eq_true_eq] at h7
    exact ⟨h7.1.1, h7.1.2, h7.2⟩
  · unfold am_rtq
    split at h8
    all_goals first | (rename_i hret; rw [hret]; have h8 := beq_iff_eq.mp h8; simp [h8]; done) | cases h8
theorem am_zchk_ok {o rt : Nat} {pcs : List Nat} : ∀ {ops : List Instr} {raws : List (Instr × Nat × Nat)} {k : Nat}, am_zchk o rt pcs k ops raws = true → ∀ {i : Nat} {op : Instr}, ops[i]? = some op → ∃ q, raws[i]? = some q ∧ am_chk o rt pcs (k + i) op q.1 q.2.1 q.2.2 = true
  | [], _, _, _, i, op, h => by simp at h
  | a :: r, [], _, h, _, _, _ => by cases h
  | a :: r, b :: q, k, h, i, op, hi => by
    simp only [am_zchk, Bool.and_eq_true] at h
    match i, hi with
    | 0, hi => cases hi; exact ⟨b, rfl, h.1⟩
    | i + 1, hi =>
      obtain ⟨x, hx, hc⟩ := am_zchk_ok h.2 hi
      exact ⟨x, hx, by rw [show k + (i + 1) = k + 1 + i by omega]; exact hc⟩
theorem am_site {mid i : Nat} {op : Instr} (hm : mid < 240) (h : (am_mq mid).1[i]? = some op) : ∃ raw pc len, (am_pcs mid).getD i 0 = pc ∧ decode (am_bytes mid) pc = .ok (raw, len) ∧ am_chk (am_on.getD mid 0) (am_mq mid).2.2.2.2 (am_pcs mid) i op raw pc len = true := by
  have hz := am_mall hm
  unfold am_mchk at hz
  obtain ⟨q, hq, hc⟩ := am_zchk_ok hz h
  rw [Nat.zero_add] at hc
  have hd := List.all_eq_true.mp (am_dall hm) q (List.mem_of_getElem? hq)
  refine ⟨q.1, q.2.1, q.2.2, ?_, of_decide_eq_true hd, hc⟩
  unfold am_pcs
  rw [List.getD_eq_getElem?_getD, List.getElem?_map, hq]
  rfl
theorem am_tab_len : am_tab.length = 240 := by decide +kernel
theorem am_P_get {k : Nat} {M : am_M} (h : am_P k = some M) : k < 240 ∧ M = am_mq k := by
  have h1 : am_tab[k]? = some M := h
  refine ⟨by rw [← am_tab_len]; exact (List.getElem?_eq_some_iff.mp h1).1, ?_⟩
  unfold am_mq
  rw [List.getD_eq_getElem?_getD, h1]
  rfl
noncomputable def am_rm (d a b : Nat) : Room := { frames := d + 3, cells := a, slots := b, locals := 64 * (d + 3) }
noncomputable def am_U (B : Nat) (ka : Nat → Nat) (D : va_G) (cst mem : List am_E) (U : State) : Prop := U.heap.size = B + mem.length ∧ am_KC D U ∧ am_CO B ka cst U U.heap ∧ am_NW U ∧ ∃ cA : Nat → ClassId, va_P D am_cl (am_ws B ka cA mem) U.heap ∧ am_WK cA mem U
noncomputable def am_V (B : Nat) (ka : Nat → Nat) (D : va_G) (mem : List am_E) (U : State) : Prop := ∃ cA : Nat → ClassId, va_P D am_cl (am_ws B ka cA mem) U.heap ∧ am_WK cA mem U
noncomputable def am_Pc (B : Nat) (ka : Nat → Nat) (D : va_G) (cst mem : List am_E) (vs : List Value) : Array Value → State → Prop := fun a U => a = (vs.map (am_tv (am_phi B ka))).toArray ∧ am_U B ka D cst mem U
noncomputable def am_Qc (B : Nat) (ka : Nat → Nat) (D : va_G) (mem : List am_E) (r : Option Value) : Array Value → State → Outcome → State → Prop := fun _ st o t => o = .returned (r.map (am_tv (am_phi B ka))) ∧ am_V B ka D mem t ∧ va_F (am_A B) st t
noncomputable def am_Con (l : Launch) (B : Nat) (ka : Nat → Nat) (D : va_G) (cst : List am_E) (d : Nat) : Prop := ∀ (n k : Nat) (vs : List Value) (mem : List am_E) (r : Option Value) (mem' : List am_E), k < 239 → (am_place vs).length ≤ (am_mq k).2.1 → am_exec am_ft am_P cst n d k 0 (am_args vs (am_mq k).2.1) [] mem = some (r, mem') →
  Met l (am_infq k).1 (am_wsk k) (am_rm d (mem'.length - mem.length) (am_sz mem' - am_sz mem)) (am_Pc B ka D cst mem vs) (am_Qc B ka D mem' r) (mem'.length - mem.length) (am_sz mem' - am_sz mem) (am_A B)
theorem am_NW.warm {s U : State} (hW : s.WarmedH U.vm) (h : am_NW s) : am_NW U := ⟨fun q hq h3 => va_Nw.warmM hW (h.1 q hq h3), h.2.1.moved hW.alike, Jvm.Stand.arrayOver_alikeB hW.alike h.2.2⟩
theorem am_NW.same {s U : State} (hv : s.vm = U.vm) (h : am_NW s) : am_NW U := ⟨fun q hq h3 => va_Nw.same rfl hv (h.1 q hq h3), h.2.1.moved (by rw [hv]; exact Vm.Alike.refl _), Jvm.Stand.arrayOver_alikeB (by rw [hv]; exact Vm.Alike.refl _) h.2.2⟩
theorem am_blind {B : Nat} {ka : Nat → Nat} {D : va_G} {cst mem : List am_E} {vs : List Value} : FrameBlind (am_Pc B ka D cst mem vs) := fun a U g mk q => by
  obtain ⟨h1, h2, h3, h4, h5, cA, h6, h7⟩ := q
  exact ⟨h1, h2, h3.moved (u := U) (U := U.calling g mk a) (Vm.Alike.refl U.vm), h4.same (s := U) (U := U.calling g mk a) rfl, h5.same (s := U) (U := U.calling g mk a) rfl, cA, h6, h7.moved (u := U) (U := U.calling g mk a) (Vm.Alike.refl U.vm)⟩
section AMS
variable {p : Program} {l : Launch} {e : Env} {R : Room} {s : State} {m : MethodId} {args : Array Value} {below : List Frame} {meth : Method} {c : Code} {Q : State → Prop} {B : Nat} {ka : Nat → Nat} {D : va_G} {cst : List am_E} {mid n0 z0 : Nat}
set_option maxHeartbeats 4000000 in
theorem am_run (C : am_Cx B ka D cst mid n0 p s m args meth c) {d : Nat} (hRd : d + 4 ≤ R.frames ∧ 64 * (d + 4) ≤ R.locals) (hCon : am_Con l B ka D cst d) {n k i pc len rt : Nat} {raw : Instr} {st : List Value} {mem mem1 : List am_E} {r : Option Value}
    (hdec : decode (am_bytes mid) pc = .ok (raw, len)) (hchk : am_chk (am_on.getD mid 0) rt (am_pcs mid) i (.invokestatic k) raw pc len = true)
    (hnp : (am_mq k).2.2.1 ≤ st.length) (hr8 : ((st.drop (am_mq k).2.2.1).map fun v => v.category).sum ≤ 8) (hpl : (am_place (st.take (am_mq k).2.2.1).reverse).length ≤ (am_mq k).2.1) (hrecv : am_recv cst mem (am_mq k).2.2.2.1 (st.take (am_mq k).2.2.1).reverse = true)
    (hex : am_exec am_ft am_P cst n d k 0 (am_args (st.take (am_mq k).2.2.1).reverse (am_mq k).2.1) [] mem = some (r, mem1))
    {lsA : Array Slot} {H : Heap} {locs : List Loc} {cells slots : Nat} (hlA : lsA.size = (am_mq mid).2.1) {cA : Nat → ClassId} (hP : va_P D am_cl (am_ws B ka cA mem) H) (hWK : am_WK cA mem s) (hS : va_S (am_A B) s.heap H locs) (hHs : H.size = B + mem.length)
    (hf : cells + (mem1.length - mem.length) ≤ R.cells ∧ slots + (am_sz mem1 - am_sz mem) ≤ R.slots) :
    len = 3 ∧ va_Run p l e R s m args below meth c H locs cells slots (mem1.length - mem.length) (am_sz mem1 - am_sz mem) (F0 m pc lsA (st.map (am_tv (am_phi B ka)))) ((st.drop (am_mq k).2.2.1).map (am_tv (am_phi B ka))) (am_Qc B ka D mem1 r #[]) (am_A B) := by
  obtain ⟨hx, hb, hml, hown, hts, hKC, hCO, hsz, hnm, hnw⟩ := C
  generalize hvs : (st.take (am_mq k).2.2.1).reverse = vs at *
  generalize hrs : st.drop (am_mq k).2.2.1 = rest at *
  have hst : st.map (am_tv (am_phi B ka)) = (vs.map (am_tv (am_phi B ka))).reverse ++ rest.map (am_tv (am_phi B ka)) := by
    rw [← List.map_reverse, ← hvs, List.reverse_reverse, ← hrs, ← List.map_append, List.take_append_drop]
  have hvl : vs.length = (am_mq k).2.2.1 := by
    rw [← hvs, List.length_reverse, List.length_take]
    omega
  have hroom : ∀ stk : List Value, 2 * (F0 m pc lsA stk).monitorRoom + ((rest.map (am_tv (am_phi B ka))).map fun v => v.category).sum ≤ 8 := fun stk => lv_room (by rw [am_tv_cats]; exact hr8)
  have hU : ∀ U : State, U.heap = H → s.WarmedH U.vm → am_U B ka D cst mem U := fun U hUh hW => by
    refine ⟨by rw [hUh]; exact hHs, hKC.moved hW.alike, ?_, hnw.warm hW, cA, by rw [hUh]; exact hP, hWK.moved hW.alike⟩
    rw [hUh]
    exact (hCO.kept hS.2.1).warm hW
  simp only [am_chk, Bool.and_eq_true] at hchk
  obtain ⟨-, hr⟩ := hchk
  have hq : ∃ q ∈ am_lm, q.1 = am_on.getD mid 0 ∧ q.2.2.1 = k ∧ len = 3 ∧ ((raw = .invokevirtual q.2.1 ∧ (q.2.2.2.1 = 0 ∨ q.2.2.2.1 = 3)) ∨ (raw = .invokestatic q.2.1 ∧ (q.2.2.2.1 = 1 ∨ q.2.2.2.1 = 4)) ∨ (raw = .invokespecial q.2.1 ∧ (q.2.2.2.1 = 2 ∨ q.2.2.2.1 = 5))) := by
    cases raw with
    | invokevirtual ix =>
      simp only [Bool.and_eq_true, beq_iff_eq] at hr
      obtain ⟨rfl, hr⟩ := hr
      obtain ⟨q, hq, he⟩ := List.any_eq_true.mp hr
      simp only [Bool.and_eq_true, beq_iff_eq, Bool.or_eq_true] at he
      obtain ⟨⟨⟨h1, rfl⟩, h3⟩, h4⟩ := he
      exact ⟨q, hq, h1, h3, rfl, Or.inl ⟨rfl, h4⟩⟩
    | invokestatic ix =>
      simp only [Bool.and_eq_true, beq_iff_eq] at hr
      obtain ⟨rfl, hr⟩ := hr
      obtain ⟨q, hq, he⟩ := List.any_eq_true.mp hr
      simp only [Bool.and_eq_true, beq_iff_eq, Bool.or_eq_true] at he
      obtain ⟨⟨⟨h1, rfl⟩, h3⟩, h4⟩ := he
      exact ⟨q, hq, h1, h3, rfl, Or.inr (Or.inl ⟨rfl, h4⟩)⟩
    | invokespecial ix =>
      simp only [Bool.and_eq_true, beq_iff_eq] at hr
      obtain ⟨rfl, hr⟩ := hr
      obtain ⟨q, hq, he⟩ := List.any_eq_true.mp hr
      simp only [Bool.and_eq_true, beq_iff_eq, Bool.or_eq_true] at he
      obtain ⟨⟨⟨h1, rfl⟩, h3⟩, h4⟩ := he
      exact ⟨q, hq, h1, h3, rfl, Or.inr (Or.inr ⟨rfl, h4⟩)⟩
    | _ => cases hr
  obtain ⟨q, hq, ho, hk, rfl, hkind⟩ := hq
  have hk240 : q.2.2.1 < 239 := of_decide_eq_true (List.all_eq_true.mp am_lm_lt q hq)
  rw [hk] at hk240
  have hlk := List.all_eq_true.mp am_lmk_c q hq
  unfold am_lmk at hlk
  rw [hk] at hlk
  obtain ⟨w1, w2, w3, w4⟩ := am_mw_get hk240
  obtain ⟨m1, m2, m3, m4, m5, m6, m7, m8⟩ := am_nm_get (show k < 240 by omega)
  have hM := hCon n k vs mem r mem1 hk240 hpl hex
  have hG : GoodIn am_big (am_wsk k) := am_good fun w hw => by
    rcases List.mem_cons.mp hw with rfl | hw
    · exact w1
    · exact hw
  have hRR : (am_rm d (mem1.length - mem.length) (am_sz mem1 - am_sz mem)).frames + 1 ≤ R.frames ∧ 8 + ((am_mq k).2.1 + 11) + (am_rm d (mem1.length - mem.length) (am_sz mem1 - am_sz mem)).locals ≤ R.locals := by
    simp only [am_rm]
    omega
  have hS3 : CallFix p m c (am_bytes mid) (am_mq mid).2.1 s args am_big (am_ownS (am_on.getD mid 0)) := ⟨hx, hb, hml, hown, hts⟩
  have hlink : q.2.2.2.1 < 3 → Cond.methodLink (am_ownS (am_on.getD mid 0)) q.2.1 (am_infq k).1 ∈ am_big := fun h3 => by
    have := List.all_eq_true.mp am_lm_c q hq
    simp only [Bool.or_eq_true, decide_eq_true_eq] at this
    rcases this with h | h
    · omega
    · have := am_wq_ok h
      rw [ho, hk] at this
      exact this
  have hnest : ¬ q.2.2.2.1 < 3 → va_Nw (.methodLinkNest (am_ownS (am_on.getD mid 0)) q.2.1 (am_infq k).1 "MoonReapers") s := fun h3 => by
    have := hnw.1 q hq h3
    unfold am_nw at this
    rw [ho, hk] at this
    exact this
  have recv : ∀ ci, (am_mq k).2.2.2.1 = some ci → ∃ b as, vs = .ref b :: as ∧ as.length = (am_mq k).2.2.1 - 1 ∧ (∃ cellB : Cell, H[am_phi B ka b]? = some cellB ∧ cellB.vm.isStatics = false ∧ s.vm.findClass (am_infq k).1.cls = some cellB.cls) := fun ci hci => by
    rw [hci] at hrecv
    unfold am_recv at hrecv
    simp only at hrecv
    obtain ⟨c1, c2, c3⟩ := m7 ci hci
    split at hrecv
    · rename_i b as
      refine ⟨b, as, rfl, by simp only [List.length_cons] at hvl; omega, ?_⟩
      split at hrecv
      · rename_i cj fs hlook
        have hcj := of_decide_eq_true hrecv
        subst hcj
        unfold am_look at hlook
        split at hlook
        · rename_i hlo
          have h10 := am_va_at_ci hP hlook
          rw [am_phi_lo hlo, c2, if_neg (by omega)]
          exact va_recv (am_K0 hKC) hP (am_cl_get h10) (am_ws_at hlook)
        · rename_i hhi
          have h20 := hCO.2.2.2.2.1 _ _ _ hlook
          subst h20
          rw [am_phi_hi hhi, c2, if_pos rfl]
          exact va_Orecv (hCO.2.1 _ _ hlook).1 hS
      · cases hrecv
    · cases hrecv
  refine ⟨rfl, ?_⟩
  rcases hkind with ⟨rfl, hkd⟩ | ⟨rfl, hkd⟩ | ⟨rfl, hkd⟩
  · have hk3 : q.2.2.2.1 % 3 = 0 := by omega
    rw [if_pos hk3] at hlk
    simp only [Bool.and_eq_true, decide_eq_true_eq] at hlk
    obtain ⟨ci, hci⟩ := Option.isSome_iff_exists.mp hlk.1
    obtain ⟨b, as, rfl, hal, hcell⟩ := recv ci hci
    rw [hci, if_neg (by simp)] at m5
    obtain ⟨i1, i2⟩ := w4 ci hci
    have hsel := i2.resolve_left hlk.2
    have hst2 : st.map (am_tv (am_phi B ka)) = (as.map (am_tv (am_phi B ka))).reverse ++ .ref (am_phi B ka b) :: rest.map (am_tv (am_phi B ka)) := by
      rw [hst, List.map_cons, List.reverse_cons, List.append_assoc]
      rfl
    rcases hkd with h0 | h0
    · exact va_runV (C := (am_infq k).1.cls) (b := am_phi B ka b) (As := as.map (am_tv (am_phi B ka))) hS3 hM (cwV _ hts (am_good fun w hw => by
        unfold wsV at hw
        rcases List.mem_append.mp hw with hw | hw
        · simp only [List.mem_cons, List.not_mem_nil, or_false] at hw
          rcases hw with rfl | rfl | rfl | rfl
          · exact hlink (by omega)
          · exact i1
          · exact hsel
          · exact w2
        · rcases List.mem_cons.mp hw with rfl | hw
          · exact w1
          · exact hw) rfl rfl rfl ⟨rfl, m2, m3, m5⟩ hRR) ⟨am_blind, hcell, fun U hU1 hW => ⟨by rw [List.map_cons]; rfl, hU U hU1 hW⟩⟩ rfl (by rw [List.length_map]; exact hal) hlA hst2 (hroom _) hdec hf
    · exact va_runVN (C := (am_infq k).1.cls) (host := "MoonReapers") (b := am_phi B ka b) (As := as.map (am_tv (am_phi B ka))) hS3 hM ⟨va_cnB _ hts hG rfl rfl rfl (hnest (by omega)) (hts _ w2) ⟨m2, m3, m5⟩ hRR, hts _ i1, hts _ hsel⟩ ⟨am_blind, hcell, fun U hU1 hW => ⟨by rw [List.map_cons]; rfl, hU U hU1 hW⟩⟩ rfl (by rw [List.length_map]; exact hal) hlA hst2 (hroom _) hdec hf
  · have hk3 : ¬ q.2.2.2.1 % 3 = 0 := by omega
    have hk1 : q.2.2.2.1 % 3 = 1 := by omega
    rw [if_neg hk3, if_pos hk1] at hlk
    have hci : (am_mq k).2.2.2.1 = none := Option.isNone_iff_eq_none.mp hlk
    rw [hci, if_pos rfl, Nat.sub_zero] at m5
    rcases hkd with h0 | h0
    · exact va_runS (As := vs.map (am_tv (am_phi B ka))) hS3 hM (va_cwS _ hts (am_good fun w hw => by
        unfold va_wsS at hw
        rcases List.mem_append.mp hw with hw | hw
        · simp only [List.mem_cons, List.not_mem_nil, or_false] at hw
          rcases hw with rfl | rfl | rfl
          · exact hlink (by omega)
          · exact w3 hci
          · exact w2
        · rcases List.mem_cons.mp hw with rfl | hw
          · exact w1
          · exact hw) rfl rfl rfl ⟨m2, m3, m5⟩ hRR) ⟨am_blind, fun U hU1 hW => ⟨rfl, hU U hU1 hW⟩⟩ rfl (by rw [List.length_map]; exact hvl) hlA hst (hroom _) hdec hf
    · exact va_runSN (host := "MoonReapers") (As := vs.map (am_tv (am_phi B ka))) hS3 hM ⟨va_cnB _ hts hG rfl rfl rfl (hnest (by omega)) (hts _ w2) ⟨m2, m3, m5⟩ hRR, hts _ (w3 hci), trivial⟩ ⟨am_blind, fun U hU1 hW => ⟨rfl, hU U hU1 hW⟩⟩ rfl (by rw [List.length_map]; exact hvl) hlA hst (hroom _) hdec hf
  · have hk3 : ¬ q.2.2.2.1 % 3 = 0 := by omega
    have hk1 : ¬ q.2.2.2.1 % 3 = 1 := by omega
    rw [if_neg hk3, if_neg hk1] at hlk
    simp only [Bool.and_eq_true, decide_eq_true_eq] at hlk
    obtain ⟨ci, hci⟩ := Option.isSome_iff_exists.mp hlk.1.1
    obtain ⟨b, as, rfl, hal, hcell⟩ := recv ci hci
    rw [hci, if_neg (by simp)] at m5
    obtain ⟨i1, i2⟩ := w4 ci hci
    have hst2 : st.map (am_tv (am_phi B ka)) = (as.map (am_tv (am_phi B ka))).reverse ++ .ref (am_phi B ka b) :: rest.map (am_tv (am_phi B ka)) := by
      rw [hst, List.map_cons, List.reverse_cons, List.append_assoc]
      rfl
    have hcw : am_wsk k = Cond.code (am_infq k).1 (am_bytes k) (am_mq k).2.1 none :: am_big := by
      unfold am_wsk am_cw
      rw [hlk.2]
    rcases hkd with h0 | h0
    · exact va_runI (b := am_phi B ka b) (As := as.map (am_tv (am_phi B ka))) hS3 hM (cwI _ hts hG hcw rfl rfl (hts _ w2) (hts _ (hlink (by omega))) (hts _ i1) hlk.1.2 ⟨m2, m3, m5⟩ hRR) ⟨am_blind, fun U hU1 hW => ⟨by rw [List.map_cons]; rfl, hU U hU1 hW⟩⟩ rfl (by rw [List.length_map]; exact hal) hlA hst2 (hroom _) hdec hf
    · exact va_runIN (host := "MoonReapers") (b := am_phi B ka b) (As := as.map (am_tv (am_phi B ka))) hS3 hM ⟨va_cnB _ hts hG hcw rfl rfl (hnest (by omega)) (hts _ w2) ⟨m2, m3, m5⟩ hRR, hlk.1.2, hts _ i1⟩ ⟨am_blind, fun U hU1 hW => ⟨by rw [List.map_cons]; rfl, hU U hU1 hW⟩⟩ rfl (by rw [List.length_map]; exact hal) hlA hst2 (hroom _) hdec hf
end AMS
end
section
/-! Runs of the list machine are runs of the machine -/
noncomputable def am_ret (rt : Nat) (raw : Instr) (r : Option Value) : Prop := (rt = 0 ∧ raw = .return_ ∧ r = none) ∨ ∃ v, r = some v ∧ am_rok rt v = true ∧ ((raw = .ireturn ∧ (rt = 1 ∨ rt = 2 ∨ rt = 5 ∨ rt = 6)) ∨ (raw = .lreturn ∧ rt = 3) ∨ (raw = .areturn ∧ rt = 4))
theorem am_pc0 : ((List.range 240).all fun k => (am_pcs k).getD 0 0 == 0) = true := by decide +kernel
set_option maxHeartbeats 4000000 in
theorem am_step_mono {cst : List am_E} {op : Instr} {ls ls' : am_L} {st st' : List Value} {mem mem' : List am_E} {j : Option Nat} (h : am_step am_ft cst op ls st mem = some (j, ls', st', mem')) : mem.length ≤ mem'.length ∧ am_sz mem ≤ am_sz mem' := by
  cases op
  case iastore =>
    simp only [am_step] at h
    (repeat' split at h) <;> first | (cases h; done) | skip
    rename_i x ix k r xs hk hin
    simp only [Option.some.injEq, Prod.mk.injEq] at h
    obtain ⟨-, -, -, rfl⟩ := h
    rw [List.length_set, am_sz_set hk (by simp [am_ez])]
    exact ⟨Nat.le_refl _, Nat.le_refl _⟩
  case bastore =>
    simp only [am_step] at h
    (repeat' split at h) <;> first | (cases h; done) | skip
    rename_i x ix k r t xs hk hin
    simp only [Option.some.injEq, Prod.mk.injEq] at h
    obtain ⟨-, -, -, rfl⟩ := h
    rw [List.length_set, am_sz_set hk (by simp [am_ez])]
    exact ⟨Nat.le_refl _, Nat.le_refl _⟩
  case aastore =>
    simp only [am_step] at h
    (repeat' split at h) <;> first | (cases h; done) | skip
    rename_i v ix k r rs fs hk hv hin
    simp only [Option.some.injEq, Prod.mk.injEq] at h
    obtain ⟨-, -, -, rfl⟩ := h
    rw [List.length_set, am_sz_set hk (by simp [am_ez])]
    exact ⟨Nat.le_refl _, Nat.le_refl _⟩
  case putfield f =>
    simp only [am_step] at h
    (repeat' split at h) <;> first | (cases h; done) | skip
    rename_i v k r ci fs ty fin dv hk hft hq
    simp only [Option.some.injEq, Prod.mk.injEq] at h
    obtain ⟨-, -, -, rfl⟩ := h
    rw [List.length_set, am_sz_set hk (by simp [am_ez])]
    exact ⟨Nat.le_refl _, Nat.le_refl _⟩
  case invokedynamic =>
    simp only [am_step] at h
    (repeat' split at h) <;> first | (cases h; done) | skip
    rename_i n dp d sp a r fl gl ha hd hq
    simp only [Option.some.injEq, Prod.mk.injEq] at h
    obtain ⟨-, -, -, rfl⟩ := h
    rw [List.length_set, am_sz_set hd (by simp only [am_ez]; exact am_cpyl_len hq.2.2.2.1 hq.2.2.2.2.1)]
    exact ⟨Nat.le_refl _, Nat.le_refl _⟩
  case new ci =>
    simp only [am_step] at h
    (repeat' split at h) <;> first | (cases h; done) | skip
    simp only [Option.some.injEq, Prod.mk.injEq] at h
    obtain ⟨-, -, -, rfl⟩ := h
    rw [List.length_append, am_sz_app]
    omega
  case newarray a =>
    simp only [am_step] at h
    (repeat' split at h) <;> first | (cases h; done) | skip
    simp only [Option.some.injEq, Prod.mk.injEq] at h
    obtain ⟨-, -, -, rfl⟩ := h
    rw [List.length_append, am_sz_app]
    omega
  case anewarray a =>
    simp only [am_step] at h
    (repeat' split at h) <;> first | (cases h; done) | skip
    simp only [Option.some.injEq, Prod.mk.injEq] at h
    obtain ⟨-, -, -, rfl⟩ := h
    rw [List.length_append, am_sz_app]
    omega
  case multianewarray a b =>
    simp only [am_step] at h
    (repeat' split at h) <;> first | (cases h; done) | skip
    simp only [Option.some.injEq, Prod.mk.injEq] at h
    obtain ⟨-, -, -, rfl⟩ := h
    rw [List.length_append, am_sz_app]
    omega
  all_goals
    simp only [am_step] at h
    (repeat' split at h) <;> first
      | (cases h; done)
      | (simp only [Option.some.injEq, Prod.mk.injEq] at h; obtain ⟨-, -, -, rfl⟩ := h; exact ⟨Nat.le_refl _, Nat.le_refl _⟩)
      | (obtain ⟨st2, -, h2⟩ := Option.map_eq_some_iff.mp h; simp only [Prod.mk.injEq] at h2; obtain ⟨-, -, -, rfl⟩ := h2; exact ⟨Nat.le_refl _, Nat.le_refl _⟩)
theorem am_exec_mono {cst : List am_E} : ∀ {n d mid i : Nat} {ls : am_L} {st : List Value} {mem : List am_E} {r : Option Value} {mem' : List am_E}, am_exec am_ft am_P cst n d mid i ls st mem = some (r, mem') → mem.length ≤ mem'.length ∧ am_sz mem ≤ am_sz mem' := by
  intro n
  induction n with
  | zero => intro d mid i ls st mem r mem' h; cases h
  | succ n ih =>
    intro d mid i ls st mem r mem' h
    unfold am_exec at h
    split at h
    · cases h
    · split at h
      · cases h
      · split at h
        · (repeat' split at h) <;> first | (cases h; done) | (simp only [Option.some.injEq, Prod.mk.injEq] at h; obtain ⟨-, rfl⟩ := h; exact ⟨Nat.le_refl _, Nat.le_refl _⟩)
        · (repeat' split at h) <;> first | (cases h; done) | (simp only [Option.some.injEq, Prod.mk.injEq] at h; obtain ⟨-, rfl⟩ := h; exact ⟨Nat.le_refl _, Nat.le_refl _⟩)
        · split at h
          · split at h
            · split at h
              · rename_i h1
                have a1 := ih h1
                have a2 := ih h
                omega
              · cases h
            · cases h
          · cases h
        · split at h
          · rename_i h1
            have a1 := am_step_mono h1
            have a2 := ih h
            omega
          · cases h
section AMS
variable {p : Program} {l : Launch} {e : Env} {R : Room} {s : State} {m : MethodId} {args : Array Value} {below : List Frame} {meth : Method} {c : Code} {Q : State → Prop} {B : Nat} {ka : Nat → Nat} {D : va_G} {cst : List am_E} {mid n0 z0 : Nat}
set_option maxHeartbeats 4000000 in
theorem am_stepW (C : am_Cx B ka D cst mid n0 p s m args meth c) (hR : 3 ≤ R.frames ∧ 192 ≤ R.locals) (hmid : mid < 240) {i pc len rt : Nat} {op raw : Instr} (hop : op ∈ (am_mq mid).1) {ls ls' : am_L} {st st' : List Value} {mem : List am_E} {j : Option Nat} (hpc : (am_pcs mid).getD i 0 = pc)
    (hdec : decode (am_bytes mid) pc = .ok (raw, len)) (hchk : am_chk (am_on.getD mid 0) rt (am_pcs mid) i op raw pc len = true) (hn0 : n0 ≤ mem.length) (hz0 : z0 ≤ am_sz mem)
    {mem' : List am_E} (hr1 : mem'.length - n0 ≤ R.cells) (hr2 : am_sz mem' - z0 ≤ R.slots) (h : am_step am_ft cst op ls st mem = some (j, ls', st', mem')) (kk : am_G B ka D mid n0 z0 p l e R s m args below meth c Q (j.getD (i + 1)) ls' st' mem') : am_G B ka D mid n0 z0 p l e R s m args below meth c Q i ls st mem := by
  cases op
  case iaload => exact am_stepR C ⟨by omega, by omega⟩ hpc hdec hchk True.intro h kk
  case baload => exact am_stepR C ⟨by omega, by omega⟩ hpc hdec hchk True.intro h kk
  case aaload => exact am_stepR C ⟨by omega, by omega⟩ hpc hdec hchk True.intro h kk
  case arraylength => exact am_stepR C ⟨by omega, by omega⟩ hpc hdec hchk True.intro h kk
  case getfield => exact am_stepR C ⟨by omega, by omega⟩ hpc hdec hchk True.intro h kk
  case monitorenter => exact am_stepR C ⟨by omega, by omega⟩ hpc hdec hchk True.intro h kk
  case monitorexit => exact am_stepK C hR hpc hdec hchk hn0 hr1 hr2 h kk
  case iastore => exact am_stepS C ⟨by omega, by omega⟩ hmid hop hpc hdec hchk True.intro h kk
  case bastore => exact am_stepS C ⟨by omega, by omega⟩ hmid hop hpc hdec hchk True.intro h kk
  case aastore => exact am_stepS C ⟨by omega, by omega⟩ hmid hop hpc hdec hchk True.intro h kk
  case putfield => exact am_stepS C ⟨by omega, by omega⟩ hmid hop hpc hdec hchk True.intro h kk
  case invokedynamic => exact am_stepS C ⟨by omega, by omega⟩ hmid hop hpc hdec hchk True.intro h kk
  case new => exact am_stepN C hpc hdec hchk True.intro hn0 hz0 hr1 hr2 h kk
  case newarray => exact am_stepN C hpc hdec hchk True.intro hn0 hz0 hr1 hr2 h kk
  case anewarray => exact am_stepN C hpc hdec hchk True.intro hn0 hz0 hr1 hr2 h kk
  case multianewarray => exact am_stepN C hpc hdec hchk True.intro hn0 hz0 hr1 hr2 h kk
  case bipush => exact am_stepA C hpc hdec hchk True.intro h kk
  case sipush => exact am_stepA C hpc hdec hchk True.intro h kk
  case ldc => exact am_stepA C hpc hdec hchk True.intro h kk
  case getstatic => exact am_stepA C hpc hdec hchk True.intro h kk
  case iload => exact am_stepA C hpc hdec hchk True.intro h kk
  case lload => exact am_stepA C hpc hdec hchk True.intro h kk
  case aload => exact am_stepA C hpc hdec hchk True.intro h kk
  case istore => exact am_stepA C hpc hdec hchk True.intro h kk
  case lstore => exact am_stepA C hpc hdec hchk True.intro h kk
  case astore => exact am_stepA C hpc hdec hchk True.intro h kk
  case iinc => exact am_stepA C hpc hdec hchk True.intro h kk
  case ifCond => exact am_stepA C hpc hdec hchk True.intro h kk
  case if_icmp => exact am_stepA C hpc hdec hchk True.intro h kk
  case goto => exact am_stepA C hpc hdec hchk True.intro h kk
  case tableswitch => exact am_stepA C hpc hdec hchk True.intro h kk
  case lookupswitch => exact am_stepA C hpc hdec hchk True.intro h kk
  all_goals first
    | exact am_stepA C hpc hdec hchk rfl h kk
    | (exfalso; simp [am_step, am_sop] at h; done)
set_option maxHeartbeats 4000000 in
theorem am_execW (C : am_Cx B ka D cst mid n0 p s m args meth c) (hmid : mid < 240) {r : Option Value} {mem' : List am_E} (hr1 : mem'.length - n0 ≤ R.cells) (hr2 : am_sz mem' - z0 ≤ R.slots)
    (kret : ∀ (i : Nat) (ls : am_L) (raw : Instr), decode (am_bytes mid) ((am_pcs mid).getD i 0) = .ok (raw, 1) → am_ret (am_mq mid).2.2.2.2 raw r → am_G B ka D mid n0 z0 p l e R s m args below meth c Q i ls r.toList mem') :
    ∀ (n d i : Nat) (ls : am_L) (st : List Value) (mem : List am_E), (d + 3 ≤ R.frames ∧ 64 * (d + 3) ≤ R.locals) → (∀ d', d = d' + 1 → am_Con l B ka D cst d') → n0 ≤ mem.length → z0 ≤ am_sz mem → am_exec am_ft am_P cst n d mid i ls st mem = some (r, mem') → am_G B ka D mid n0 z0 p l e R s m args below meth c Q i ls st mem := by
  intro n
  induction n with
  | zero => intro d i ls st mem _ _ _ _ h; cases h
  | succ n ih =>
    intro d i ls st mem hR hCon hn0 hz0 h
    unfold am_exec at h
    split at h
    · cases h
    · rename_i M hM
      obtain ⟨-, rfl⟩ := am_P_get hM
      split at h
      · cases h
      · rename_i op hop
        obtain ⟨raw, pc, len, hpc, hdec, hchk⟩ := am_site hmid hop
        split at h
        · split at h
          · split at h
            · rename_i v hrok
              simp only [Option.some.injEq, Prod.mk.injEq] at h
              obtain ⟨rfl, rfl⟩ := h
              simp only [am_chk] at hchk
              have hq : len = 1 ∧ ((raw = .ireturn ∧ ((am_mq mid).2.2.2.2 = 1 ∨ (am_mq mid).2.2.2.2 = 2 ∨ (am_mq mid).2.2.2.2 = 5 ∨ (am_mq mid).2.2.2.2 = 6)) ∨ (raw = .lreturn ∧ (am_mq mid).2.2.2.2 = 3) ∨ (raw = .areturn ∧ (am_mq mid).2.2.2.2 = 4)) := by
                cases raw with
                | ireturn => simp only [Bool.and_eq_true, beq_iff_eq, Bool.or_eq_true] at hchk; exact ⟨hchk.1, Or.inl ⟨rfl, by have := hchk.2; omega⟩⟩
                | lreturn => simp only [Bool.and_eq_true, beq_iff_eq] at hchk; exact ⟨hchk.1, Or.inr (Or.inl ⟨rfl, hchk.2⟩)⟩
                | areturn => simp only [Bool.and_eq_true, beq_iff_eq] at hchk; exact ⟨hchk.1, Or.inr (Or.inr ⟨rfl, hchk.2⟩)⟩
                | _ => cases hchk
              obtain ⟨rfl, hq⟩ := hq
              exact kret i ls raw (by rw [hpc]; exact hdec) (Or.inr ⟨v, rfl, hrok, hq⟩)
            · cases h
          · cases h
        · split at h
          · split at h
            · rename_i h0
              simp only [Option.some.injEq, Prod.mk.injEq] at h
              obtain ⟨rfl, rfl⟩ := h
              simp only [am_chk] at hchk
              have hq : len = 1 ∧ raw = .return_ := by
                cases raw with
                | return_ => simp only [Bool.and_eq_true, beq_iff_eq] at hchk; exact ⟨hchk.1, rfl⟩
                | _ => cases hchk
              obtain ⟨rfl, rfl⟩ := hq
              exact kret i ls _ (by rw [hpc]; exact hdec) (Or.inl ⟨h0, rfl, rfl⟩)
            · cases h
          · cases h
        · rename_i k
          split at h
          · rename_i d' Cq hPk
            obtain ⟨-, rfl⟩ := am_P_get hPk
            split at h
            · rename_i hq
              obtain ⟨q1, q2, q3, q4⟩ := hq
              split at h
              · rename_i r1 mem1 hex
                have mo1 := am_exec_mono hex
                have mo2 := am_exec_mono h
                intro lsA H locs hl hSt
                rw [hpc]
                obtain ⟨cA, hP, hWK, hS⟩ := hSt
                intro T hT X
                have hh := X.heapSize
                have hsz : s.heap.size = B + n0 := C.2.2.2.2.2.2.2.1
                rw [hT, hsz] at hh
                have hlow : B + mem.length ≤ H.size := by
                  rcases Nat.eq_zero_or_pos mem.length with h0 | h0
                  · have := hS.1
                    omega
                  · have := (hP (mem.length - 1) _ (am_ws_at (List.getElem?_eq_getElem (show mem.length - 1 < mem.length by omega)))).lt
                    simp only at this
                    omega
                have hHs : H.size = B + mem.length := by omega
                obtain ⟨rfl, hrun⟩ := am_run (l := l) (e := e) (below := below) (cells := mem.length - n0) (slots := am_sz mem - z0) C (d := d') (by omega) (hCon d' rfl) hdec hchk q1 q2 q3 q4 hex hl.1 hP hWK hS hHs (by omega)
                obtain ⟨v, st₀, t, T', L, h0, X', hL, e1, e2, ⟨hv, ⟨cA2, hP2, hWK2⟩, hF⟩, step⟩ := hrun T hT X
                injection hv with hv
                subst hv
                have hcy : s.vm.Alike t.vm := by rw [← e2]; exact X'.warmed.alike
                have hS2 : va_S (am_A B) s.heap T'.heap (locs ++ L) := by
                  obtain ⟨g1, g2⟩ := hF
                  rw [h0] at g1 g2
                  refine ⟨by rw [e1]; exact Nat.le_trans hS.1 g1, fun q h1 h2 => by rw [e1, g2 q (Nat.lt_of_lt_of_le h1 hS.1) h2]; exact hS.2.1 q h1 h2, fun q hq => ?_⟩
                  rcases List.mem_append.mp hq with h | h
                  · exact hS.2.2 q h
                  · exact hL q h
                have kk := ih _ _ _ _ _ hR hCon (by omega) (by omega) h lsA T'.heap (locs ++ L) hl ⟨cA2, by rw [e1]; exact hP2, hWK2.moved hcy.symm, hS2⟩
                rw [show mem1.length - n0 = mem.length - n0 + (mem1.length - mem.length) by omega, show am_sz mem1 - z0 = am_sz mem - z0 + (am_sz mem1 - am_sz mem) by omega] at kk
                obtain ⟨t2, a1, b1⟩ := kk T' rfl X'
                refine ⟨t2, step t2 ?_, b1⟩
                simp only [am_chk, Bool.and_eq_true] at hchk
                rw [am_nx_ok hchk.1, List.map_append] at a1
                cases r1 <;> exact a1
              · cases h
            · cases h
          · cases h
        · split at h
          · rename_i j ls' st' mem2 hstep
            have mo1 := am_step_mono hstep
            have mo2 := am_exec_mono h
            exact am_stepW C (by omega) hmid (List.mem_of_getElem? hop) hpc hdec hchk hn0 hz0 (by omega) (by omega) hstep (ih _ _ _ _ _ hR hCon (by omega) (by omega) h)
          · cases h
end AMS
set_option maxHeartbeats 4000000 in
theorem am_con_of (l : Launch) (B : Nat) (ka : Nat → Nat) (D : va_G) (cst : List am_E) (d : Nat) (ih : ∀ d', d = d' + 1 → am_Con l B ka D cst d') : am_Con l B ka D cst d := by
  intro n k vs mem r mem' hk hpl hex
  obtain ⟨m1, m2, m3, m4, m5, m6, m7, m8⟩ := am_nm_get (show k < 240 by omega)
  refine va_MetF (cc := am_bytes k) (maxL := (am_mq k).2.1) (ret := (am_infq k).2) m1 rfl ?_
  intro p e s m args below meth c s₁ Bd hml hv
  obtain ⟨rfl, hsz, hKC, hCO, hNW, cA, hP, hWK⟩ := hv
  have hts := atoms_spec (ws := am_wsk k) Bd.pre
  have hown : s.vm.findClass (am_infq k).1.cls = some m.cls := findClass_of_methodNamed Bd.named
  have hnm := (name_of_methodNamed Bd.named Bd.method).1
  have hlocks := Bd.notSynchronized
  have hret := Bd.returns
  have C : am_Cx B ka D cst k mem.length p s m (vs.map (am_tv (am_phi B ka))).toArray meth c := ⟨Bd.exec, Bd.bytes, hml, by rw [m4]; exact hown, fun w hw => hts w (List.mem_cons_of_mem _ hw), hKC, hCO, hsz, fun h => hnm.trans h, hNW⟩
  have hl := am_LV.entry (am_phi B ka) hpl
  rw [lg_entry_eq]
  have hpc0 : (am_pcs k).getD 0 0 = 0 := beq_iff_eq.mp (List.all_eq_true.mp am_pc0 k (List.mem_range.mpr (by omega)))
  have main := am_execW (l := l) (e := e) (below := below) (R := (headSpec (am_wsk k) (am_rm d (mem'.length - mem.length) (am_sz mem' - am_sz mem))).room) (Q := MQ below (am_Qc B ka D mem' r) (vs.map (am_tv (am_phi B ka))).toArray s (mem'.length - mem.length) (am_sz mem' - am_sz mem) (am_A B)) (z0 := am_sz mem) C (by omega) (r := r) (mem' := mem') (Nat.le_refl _) (Nat.le_refl _) ?_ n d 0 _ [] mem ⟨Nat.le_refl _, Nat.le_refl _⟩ ih (Nat.le_refl _) (Nat.le_refl _) hex _ s.heap [] hl ⟨cA, hP, hWK, va_S.rf⟩
  · rw [Nat.sub_self, Nat.sub_self, hpc0] at main
    exact main
  · intro i ls raw hdec hr lsA H1 locs1 hl1 hSt
    obtain ⟨cA1, hP1, hWK1, hS1⟩ := hSt
    have hq : ∀ t : State, t.heap = H1 → s.WarmedH t.vm → am_Qc B ka D mem' r (vs.map (am_tv (am_phi B ka))).toArray s (.returned (r.map (am_tv (am_phi B ka)))) t := fun t ht hW => ⟨rfl, ⟨cA1, by rw [ht]; exact hP1, hWK1.moved hW.alike⟩, hS1.F ht⟩
    rcases hr with ⟨h0, rfl, rfl⟩ | ⟨v, rfl, hrok, hraw⟩
    · have hre : (am_infq k).2 = none := by
        rcases m8 with ⟨_, h⟩ | ⟨h, _⟩ | ⟨h, _⟩ | ⟨h, _⟩ | ⟨h, _⟩ | ⟨h, _⟩ | ⟨h, _⟩
        · exact h
        all_goals omega
      exact W.vret Bd.exec Bd.bytes (hret.trans hre) hq hS1.2.2 hdec hlocks
    · rcases m8 with ⟨h, _⟩ | ⟨h, hre⟩ | ⟨h, hre⟩ | ⟨h, hre⟩ | ⟨h, nn, hre⟩ | ⟨h, hre⟩ | ⟨h, hre⟩
      · rcases hraw with ⟨-, h1⟩ | ⟨-, h1⟩ | ⟨-, h1⟩ <;> omega
      · rcases hraw with ⟨rfl, -⟩ | ⟨-, h1⟩ | ⟨-, h1⟩
        · rw [h] at hrok
          cases v <;> first | exact W.iret Bd.exec Bd.bytes (hret.trans hre) hq hS1.2.2 hdec hlocks | cases hrok
        · omega
        · omega
      · rcases hraw with ⟨rfl, -⟩ | ⟨-, h1⟩ | ⟨-, h1⟩
        · rw [h] at hrok
          cases v with
          | int x =>
            simp only [am_rok, Bool.or_eq_true, decide_eq_true_eq] at hrok
            exact W.zret Bd.exec Bd.bytes (hret.trans hre) (by rcases hrok with rfl | rfl <;> rfl) hq hS1.2.2 hdec hlocks
          | _ => cases hrok
        · omega
        · omega
      · rcases hraw with ⟨-, h1⟩ | ⟨rfl, -⟩ | ⟨-, h1⟩
        · omega
        · rw [h] at hrok
          cases v <;> first | exact W.lret Bd.exec Bd.bytes (hret.trans hre) hq hS1.2.2 hdec hlocks | cases hrok
        · omega
      · rcases hraw with ⟨-, h1⟩ | ⟨-, h1⟩ | ⟨rfl, -⟩
        · omega
        · omega
        · rw [h] at hrok
          cases v <;> first | exact W.aret Bd.exec Bd.bytes (hret.trans hre) (Or.inl ⟨nn, rfl⟩) (Or.inr ⟨_, rfl⟩) hq hS1.2.2 hdec hlocks | cases hrok
      · rcases hraw with ⟨rfl, -⟩ | ⟨-, h1⟩ | ⟨-, h1⟩
        · rw [h] at hrok
          cases v with
          | int x =>
            simp only [am_rok, decide_eq_true_eq] at hrok
            exact W.zret Bd.exec Bd.bytes (hret.trans hre) hrok hq hS1.2.2 hdec hlocks
          | _ => cases hrok
        · omega
        · omega
      · rcases hraw with ⟨rfl, -⟩ | ⟨-, h1⟩ | ⟨-, h1⟩
        · rw [h] at hrok
          cases v with
          | int x =>
            simp only [am_rok, decide_eq_true_eq] at hrok
            exact W.zret Bd.exec Bd.bytes (hret.trans hre) hrok hq hS1.2.2 hdec hlocks
          | _ => cases hrok
        · omega
        · omega
set_option maxHeartbeats 4000000 in
theorem am_con (l : Launch) (B : Nat) (ka : Nat → Nat) (D : va_G) (cst : List am_E) : ∀ d, am_Con l B ka D cst d := by
  intro d
  induction d with
  | zero => exact am_con_of l B ka D cst 0 (fun d' h => by omega)
  | succ d ih => exact am_con_of l B ka D cst (d + 1) (fun d' h => by obtain rfl : d = d' := by omega
                                                                      exact ih)
end
section
/-! THE CLAIM OUT OF ONE WALK OF THE LAW'S BODY. Your part is whole_start (and what it stands on); all else here is the same for every law, but numbers. -/
noncomputable def R_law : String := "MoonReapersLaw"
noncomputable def lw_P (b : Addr) (xs : List Int32) (args : Array Value) (s : State) : Prop := args = #[.ref b] ∧ s.IntsAt b xs ∧ xs.length ≤ 320 ∧ (Jvm.Cond.and given_1 narrow_1).before args s = true
noncomputable def lw_Q (_ : Array Value) (s : State) (o : Outcome) (t : State) : Prop := o = .returned (some (.int 1)) ∧ Framed s o t [] 600000 7302250
noncomputable def lw_Z (below : List Frame) (a : Array Value) (s : State) : State → Prop := fun t => ∃ o, t.status = .running ∧ Ended t below o ∧ lw_Q a s o t
/-- the law's own end, with 1 on the stack, nothing written that was there before, its room as the claim has it -/
theorem lw_ret {p : Program} {l : Launch} {e : Env} {s : State} {m : MethodId} {below : List Frame} {meth : Method} {c : Code} {b : Nat} (hx : p.tables.exec = Jvm.exec) (hb : c.code = code) (hr : meth.sig.returnType = ret) (hlocks : meth.locks = false) {pc : Nat} {H : Heap} {ls : Array Slot} (hdg : decode code pc = .ok (.ireturn, 1)) : W p l e room_1 s m #[Value.ref b] below meth c H [] 600000 7302250 (lw_Z below #[Value.ref b] s) (F0 m pc ls [.int 1]) := by
  intro T hT X
  obtain ⟨fs, hret, hrun, hended, hW, hframe⟩ := X.leave (v := some (.int 1)) (hlocks := hlocks) (fun h => by rw [hr] at h; cases h)
  have hmeth' : T.vm.method? m = some meth := X.method'
  refine ⟨T.setFrames fs, ?_, .returned (some (.int 1)), hrun, hended, rfl, ⟨_, rfl⟩, hW, hframe⟩
  jvm_step X.here [X.here.top, hx, hb, hdg, hmeth', hr, ret, narrow_b1]
  (try refine ⟨rfl, ?_⟩); (try refine ⟨rfl, ?_⟩)
  first | (intro acts; rw [hret _ acts rfl rfl rfl]) | rw [hret _ _ rfl rfl rfl]
  exact Steps.refl _
/-- what holds at the law's entry: the machine, the code, the tables' words (any of lw_tbl by 'hts w (by decide +kernel)'), the script of L ints xs at the cell b, what the Statement gives of the start (any of its parts by flat_of_before) -/
noncomputable def lw_At (p : Program) (s : State) (m : MethodId) (meth : Method) (c : Code) (b L : Nat) (xs : Nat → Int32) : Prop :=
  p.tables.exec = Jvm.exec ∧ c.code = code ∧ meth.sig.returnType = ret ∧ c.maxLocals = 4 ∧ s.vm.findClass R_law = some m.cls ∧ (∀ w ∈ lw_tbl, w.before #[Value.ref b] s = true) ∧ va_X b L xs s s.heap ∧ b < s.heap.size ∧ meth.locks = false ∧ (Jvm.Cond.and given_1 narrow_1).before #[Value.ref b] s = true
/-! constants of the claim, and the law's own run -/
noncomputable def am_byt : List (List Int32) := [[110, 105, 103, 104, 116], [115, 116, 114, 105, 112], [114, 101, 97, 112, 101, 114], [99, 108, 111, 117, 100], [116, 104, 105, 115, 116, 108, 101]]
noncomputable def am_num : List Int32 := [1, 2, 3, 1, 1]
noncomputable def am_low : List Int32 := [1, 0, 0, 0, 0, 0, 1, 0, 0, 0, 0, 0, 0, 0, 0]
noncomputable def am_hig : List Int32 := [12, 0, 0, 40, 3, 0, 9, 9, 6, 11, 0, 0, 6, 0, 0]
noncomputable def am_cst (xl : List Int32) : List am_E := [.inr (.inl (20, [.ref 1001, .int 0])), .inl (1, am_byt.getD 0 []), .inr (.inl (20, [.ref 1003, .int 0])), .inl (1, am_byt.getD 1 []), .inr (.inl (20, [.ref 1005, .int 0])), .inl (1, am_byt.getD 2 []), .inr (.inl (20, [.ref 1007, .int 0])), .inl (1, am_byt.getD 3 []), .inr (.inl (20, [.ref 1009, .int 0])), .inl (1, am_byt.getD 4 []), .inl (0, am_num), .inl (0, am_low), .inl (0, am_hig), .inl (0, xl)]
noncomputable def am_tm (i : Nat) : Term := .string "MoonReapers$Reader" (139 + 2 * i)
noncomputable def am_prem : List Cond := flatC (Jvm.Cond.and given_1 narrow_1)
theorem am_pr1 : ∀ i, i < 5 → Cond.exactly (am_tm i) "java/lang/String" ∈ am_prem := by decide +kernel
theorem am_pr2 : ∀ i, i < 5 → Cond.eq (.field (am_tm i) "java/lang/String" "coder" "B") (.int 0) ∈ am_prem := by decide +kernel
theorem am_pr3 : ∀ i, i < 5 → Cond.arrayOf (.field (am_tm i) "java/lang/String" "value" "[B") .byte ∈ am_prem := by decide +kernel
theorem am_pr4 : ∀ i, i < 5 → Cond.eq (.length (.field (am_tm i) "java/lang/String" "value" "[B")) (.int (Int32.ofNat (([5, 5, 6, 5, 7] : List Nat).getD i 0))) ∈ am_prem := by decide +kernel
theorem am_pr5 : ∀ i, i < 5 → ∀ j, j < ([5, 5, 6, 5, 7] : List Nat).getD i 0 → Cond.eq (.elem (.field (am_tm i) "java/lang/String" "value" "[B") (.int (Int32.ofNat j))) (.int ((am_byt.getD i []).getD j 0)) ∈ am_prem := by decide +kernel
theorem am_pr6 : ∀ i, i < 5 → ∀ j, j < 5 → i ≠ j → Cond.not (Cond.eq (am_tm i) (am_tm j)) ∈ am_prem ∨ Cond.not (Cond.eq (am_tm j) (am_tm i)) ∈ am_prem := by decide +kernel
noncomputable def am_tn : Term := .static "MoonReapers$Reader" "NUMBERS" "[I"
noncomputable def am_tl : Term := .static "MoonReapers$Reader" "LOW" "[I"
noncomputable def am_th : Term := .static "MoonReapers$Reader" "HIGH" "[I"
theorem am_pr7 : (Cond.arrayOf am_tn .int ∈ am_prem ∧ Cond.arrayOf am_tl .int ∈ am_prem ∧ Cond.arrayOf am_th .int ∈ am_prem) ∧ (Cond.eq (.length am_tn) (.int (Int32.ofNat 5)) ∈ am_prem ∧ Cond.eq (.length am_tl) (.int (Int32.ofNat 15)) ∈ am_prem ∧ Cond.eq (.length am_th) (.int (Int32.ofNat 15)) ∈ am_prem) := by decide +kernel
theorem am_pr8 : ∀ j, j < 5 → Cond.eq (.elem am_tn (.int (Int32.ofNat j))) (.int (am_num.getD j 0)) ∈ am_prem := by decide +kernel
theorem am_pr9 : ∀ j, j < 15 → Cond.eq (.elem am_tl (.int (Int32.ofNat j))) (.int (am_low.getD j 0)) ∈ am_prem := by decide +kernel
theorem am_pr10 : ∀ j, j < 15 → Cond.eq (.elem am_th (.int (Int32.ofNat j))) (.int (am_hig.getD j 0)) ∈ am_prem := by decide +kernel
theorem am_pr11 : Cond.eq (.static "java/lang/String" "COMPACT_STRINGS" "Z") (.int 1) ∈ am_prem := by decide +kernel
theorem am_pr12 : (Cond.laysStatic "java/lang/String" "COMPACT_STRINGS" "Z" ∈ lw_tbl ∧ Cond.laysStatic "MoonReapers$Reader" "NUMBERS" "[I" ∈ lw_tbl ∧ Cond.laysStatic "MoonReapers$Reader" "LOW" "[I" ∈ lw_tbl ∧ Cond.laysStatic "MoonReapers$Reader" "HIGH" "[I" ∈ lw_tbl) ∧ Cond.initialized "java/lang/String" ∈ lw_tbl ∧ Cond.initialized "MoonReapers$Reader" ∈ lw_tbl ∧ Cond.arrayOver (.object "MoonReapers$State") ∈ lw_tbl ∧ Cond.arrayOver (.array .int) ∈ lw_tbl := by decide +kernel
theorem am_pr13 : (am_ls.all fun q => decide (q.1 = 5) && decide (1000 ≤ q.2.2.1) && decide (q.2.2.1 < 1010) && decide ((q.2.2.1 - 1000) % 2 = 0) && decide (q.2.1 = 139 + (q.2.2.1 - 1000)) && decide (Cond.stringRef (am_ownS q.1) q.2.1 (am_lst q.2.2.1) ∈ lw_tbl)) = true := by decide +kernel
theorem am_pr14 : Cond.laysStatic "jdk/internal/util/Preconditions" "SIOOBE_FORMATTER" "Ljava/util/function/BiFunction;" ∈ lw_tbl ∧ Cond.initialized "jdk/internal/util/Preconditions" ∈ lw_tbl ∧ Cond.isRef (.static "jdk/internal/util/Preconditions" "SIOOBE_FORMATTER" "Ljava/util/function/BiFunction;") ∈ am_prem := by
  refine ⟨by decide +kernel, by decide +kernel, by decide +kernel⟩
noncomputable def am_ka (adK adV : Nat → Nat) (tn tl th b : Nat) (j : Nat) : Nat := if j < 10 then (if j % 2 = 0 then adK (j / 2) else adV (j / 2)) else if j = 10 then tn else if j = 11 then tl else if j = 12 then th else b
theorem am_eq_of {args : Array Value} {s : State} {t : Term} {x : Int32} (h : (Cond.eq t (.int x)).before args s = true) : t.eval args s none [] s = some (.int x) :=
  va_eqI (u := .int x) (beq_iff_eq.mp h) rfl
set_option maxHeartbeats 4000000 in
theorem am_law {p : Program} {e : Env} {s : State} {m : MethodId} {below : List Frame} {meth : Method} {c : Code} (l : Launch) {b L : Nat} {xs : Nat → Int32} (C0 : lw_At p s m meth c b L xs) {n d : Nat} {mem' : List am_E} (hd : d ≤ 1000)
    (hex : am_exec am_ft am_P (am_cst ((List.range L).map xs)) n d 239 0 (am_args [.ref 1013] 4) [] [] = some (some (.int 1), mem')) (h1 : mem'.length ≤ 600000) (h2 : am_sz mem' ≤ 7302250) :
    W p l e room_1 s m #[Value.ref b] below meth c s.heap [] 0 0 (lw_Z below #[Value.ref b] s) (entryFrame m ([Value.ref b] : List Value).toArray 4) := by
  obtain ⟨hx, hb, hr, hml, hown, hts, hX, hbl, hlocks, hgv⟩ := C0
  have hs := flat_of_before _ hgv
  have hA : ∀ a : Nat, a < s.heap.size → ¬ am_A s.heap.size a := fun a ha h => Nat.not_le.mpr ha h
  have hex5 : ∀ i j : Nat, i < 5 → j < 5 → i ≠ j → (Cond.not (Cond.eq (am_tm i) (am_tm j))).before #[Value.ref b] s = true ∨ (Cond.not (Cond.eq (am_tm j) (am_tm i))).before #[Value.ref b] s = true := fun i j hi hj hij => (am_pr6 i hi j hj hij).imp (hs _) (hs _)
  obtain ⟨adK, adV, hstr, hadK⟩ := vk_Sof (args := #[Value.ref b]) (s := s) (N := 5) (tm := am_tm) (len := [5, 5, 6, 5, 7]) (byt := am_byt) (A := am_A s.heap.size) (fun i hi => by rcases (show i = 0 ∨ i = 1 ∨ i = 2 ∨ i = 3 ∨ i = 4 by omega) with rfl | rfl | rfl | rfl | rfl <;> decide) (fun i hi => hs _ (am_pr1 i hi)) (fun i hi => hs _ (am_pr2 i hi)) (fun i hi => hs _ (am_pr3 i hi)) (fun i hi => hs _ (am_pr4 i hi)) (fun i hi j hj => hs _ (am_pr5 i hi j hj)) hex5 hA
  obtain ⟨tn, htn, hTn⟩ := va_Tof (N := 5) (f := fun j => .int (am_num.getD j 0)) (A := am_A s.heap.size) (by decide) (hs _ am_pr7.1.1) (am_eq_of (hs _ am_pr7.2.1)) (fun j hj => am_eq_of (hs _ (am_pr8 j hj))) hA
  obtain ⟨tl, htl, hTl⟩ := va_Tof (N := 15) (f := fun j => .int (am_low.getD j 0)) (A := am_A s.heap.size) (by decide) (hs _ am_pr7.1.2.1) (am_eq_of (hs _ am_pr7.2.2.1)) (fun j hj => am_eq_of (hs _ (am_pr9 j hj))) hA
  obtain ⟨th, hth, hTh⟩ := va_Tof (N := 15) (f := fun j => .int (am_hig.getD j 0)) (A := am_A s.heap.size) (by decide) (hs _ am_pr7.1.2.2) (am_eq_of (hs _ am_pr7.2.2.2)) (fun j hj => am_eq_of (hs _ (am_pr10 j hj))) hA
  have hTs : va_T .int b ((List.range L).map xs).length (fun j => .int (((List.range L).map xs).getD j 0)) (am_A s.heap.size) s s.heap := by
    obtain ⟨scr, q1, q2, q3, q4, q5⟩ := hX
    rw [List.length_map, List.length_range]
    refine ⟨scr, q1, q2, q3, by omega, by rw [q4], fun j hj => ?_, hA b hbl⟩
    rw [q5 j hj]
    simp only [List.getD_eq_getElem?_getD, List.getElem?_map, List.getElem?_range hj]
    rfl
  have hZ1 := va_Zof (A := am_A s.heap.size) (hts _ am_pr12.1.1) (hts _ am_pr12.2.1) (am_eq_of (hs _ am_pr11)) hA
  have hZ2 := va_Zof (A := am_A s.heap.size) (hts _ am_pr12.1.2.1) (hts _ am_pr12.2.2.1) htn hA
  have hZ3 := va_Zof (A := am_A s.heap.size) (hts _ am_pr12.1.2.2.1) (hts _ am_pr12.2.2.1) htl hA
  have hZ4 := va_Zof (A := am_A s.heap.size) (hts _ am_pr12.1.2.2.2) (hts _ am_pr12.2.2.1) hth hA
  have hCO : am_CO s.heap.size (am_ka adK adV tn tl th b) (am_cst ((List.range L).map xs)) s s.heap := by
    refine ⟨fun j q ty hj hty => ?_, fun j fs hj => ?_, fun j v hj => ?_, fun q hq => ?_, fun j ci fs hj => ?_, va_Zqof (hts _ am_pr14.1) (hts _ am_pr14.2.1) (hs _ am_pr14.2.2) hA⟩
    · match j, hj with
      | 0, hj => cases hj
      | 1, hj => cases hj; cases hty; exact (hstr.1 0 (by decide)).2.2.2
      | 2, hj => cases hj
      | 3, hj => cases hj; cases hty; exact (hstr.1 1 (by decide)).2.2.2
      | 4, hj => cases hj
      | 5, hj => cases hj; cases hty; exact (hstr.1 2 (by decide)).2.2.2
      | 6, hj => cases hj
      | 7, hj => cases hj; cases hty; exact (hstr.1 3 (by decide)).2.2.2
      | 8, hj => cases hj
      | 9, hj => cases hj; cases hty; exact (hstr.1 4 (by decide)).2.2.2
      | 10, hj => cases hj; cases hty; exact hTn
      | 11, hj => cases hj; cases hty; exact hTl
      | 12, hj => cases hj; cases hty; exact hTh
      | 13, hj => cases hj; cases hty; exact hTs
      | j + 14, hj => cases hj
    · match j, hj with
      | 0, hj => cases hj; exact ⟨(hstr.1 0 (by decide)).1, fun v hv => by cases hv; exact (hstr.1 0 (by decide)).2.2.1, fun v hv => by cases hv; exact (hstr.1 0 (by decide)).2.1⟩
      | 1, hj => cases hj
      | 2, hj => cases hj; exact ⟨(hstr.1 1 (by decide)).1, fun v hv => by cases hv; exact (hstr.1 1 (by decide)).2.2.1, fun v hv => by cases hv; exact (hstr.1 1 (by decide)).2.1⟩
      | 3, hj => cases hj
      | 4, hj => cases hj; exact ⟨(hstr.1 2 (by decide)).1, fun v hv => by cases hv; exact (hstr.1 2 (by decide)).2.2.1, fun v hv => by cases hv; exact (hstr.1 2 (by decide)).2.1⟩
      | 5, hj => cases hj
      | 6, hj => cases hj; exact ⟨(hstr.1 3 (by decide)).1, fun v hv => by cases hv; exact (hstr.1 3 (by decide)).2.2.1, fun v hv => by cases hv; exact (hstr.1 3 (by decide)).2.1⟩
      | 7, hj => cases hj
      | 8, hj => cases hj; exact ⟨(hstr.1 4 (by decide)).1, fun v hv => by cases hv; exact (hstr.1 4 (by decide)).2.2.1, fun v hv => by cases hv; exact (hstr.1 4 (by decide)).2.1⟩
      | 9, hj => cases hj
      | 10, hj => cases hj
      | 11, hj => cases hj
      | 12, hj => cases hj
      | 13, hj => cases hj
      | j + 14, hj => cases hj
    · match j, hj with
      | 0, hj => cases hj; exact hZ1
      | 1, hj => cases hj; exact hZ2
      | 2, hj => cases hj; exact hZ3
      | 3, hj => cases hj; exact hZ4
      | j + 4, hj => cases hj
    · have hq2 := List.all_eq_true.mp am_pr13 q hq
      simp only [Bool.and_eq_true, decide_eq_true_eq] at hq2
      obtain ⟨⟨⟨⟨⟨e1, e2⟩, e3⟩, e4⟩, e5⟩, e6⟩ := hq2
      have hi : (q.2.2.1 - 1000) / 2 < 5 := by omega
      have hev := hadK _ hi
      have hph : am_phi s.heap.size (am_ka adK adV tn tl th b) q.2.2.1 = adK ((q.2.2.1 - 1000) / 2) := by
        rw [am_phi_hi (by omega)]
        unfold am_ka
        rw [if_pos (by omega), if_pos e4]
      rw [hph]
      refine vk_R.of (hts _ e6) ?_
      rw [e1]
      unfold am_tm at hev
      rw [show 139 + 2 * ((q.2.2.1 - 1000) / 2) = q.2.1 by omega] at hev
      exact hev
    · match j, hj with
      | 0, hj => cases hj; rfl
      | 1, hj => cases hj
      | 2, hj => cases hj; rfl
      | 3, hj => cases hj
      | 4, hj => cases hj; rfl
      | 5, hj => cases hj
      | 6, hj => cases hj; rfl
      | 7, hj => cases hj
      | 8, hj => cases hj; rfl
      | 9, hj => cases hj
      | 10, hj => cases hj
      | 11, hj => cases hj
      | 12, hj => cases hj
      | 13, hj => cases hj
      | j + 14, hj => cases hj
  have hkn : ∀ ci : Nat, ∃ q : ClassId × (Nat → Nat), ci < 10 → u_Kn s (am_clq ci).1 (am_clq ci).2.1 (am_clq ci).2.2 q.1 q.2 := fun ci => by
    by_cases h10 : ci < 10
    · obtain ⟨g1, -, -, -, g5, -⟩ := am_cq_get h10
      obtain ⟨cC, iS, hK⟩ := u_known hts (fun w hw => am_big_in (g1 w hw)) (hts _ (am_big_in g5))
      exact ⟨(cC, iS), fun _ => hK⟩
    · exact ⟨(0, fun _ => 0), fun h => absurd h h10⟩
  have hKC : am_KC (fun ci => (Classical.choose (hkn ci)).1, fun ci => (Classical.choose (hkn ci)).2) s := fun ci q hq => by
    have h10 : ci < 10 := (List.getElem?_eq_some_iff.mp hq).1
    have hq2 := am_cl_get h10
    rw [hq2] at hq
    cases hq
    exact Classical.choose_spec (hkn ci) h10
  have hNW : am_NW s := by
    refine ⟨fun q hq h3 => ?_, va_AO.of (hts _ am_pr12.2.2.2.1), ?_⟩
    · have := List.all_eq_true.mp am_lx_c q hq
      simp only [Bool.or_eq_true, decide_eq_true_eq] at this
      rcases this with h | h
      · exact absurd h h3
      · exact va_Nw.of rfl (hts _ (List.mem_of_getElem? h))
    · have := hts _ am_pr12.2.2.2.2
      exact Jvm.Stand.arrayOver_alikeB (Vm.Alike.refl _) this
  have hm4 : (am_mq 239).2.1 = 4 := by decide +kernel
  have C : am_Cx s.heap.size (am_ka adK adV tn tl th b) (fun ci => (Classical.choose (hkn ci)).1, fun ci => (Classical.choose (hkn ci)).2) (am_cst ((List.range L).map xs)) 239 0 p s m #[Value.ref b] meth c := by
    refine ⟨hx, hb, hml.trans hm4.symm, ?_, fun w hw => hts w (am_big_in hw), hKC, hCO, rfl, fun h => ?_, hNW⟩
    · rw [(am_nm_get (k := 239) (by decide)).2.2.2.1]
      exact hown
    · exact absurd h (by decide +kernel)
  have hl := am_LV.entry (am_phi s.heap.size (am_ka adK adV tn tl th b)) (vs := [.ref 1013]) (ml := 4) (by decide)
  rw [lg_entry_eq]
  have hP : va_P (fun ci => (Classical.choose (hkn ci)).1, fun ci => (Classical.choose (hkn ci)).2) am_cl (am_ws s.heap.size (am_ka adK adV tn tl th b) (fun _ => 0) []) s.heap := fun k q h => by cases h
  have hWK : am_WK (fun _ => 0) [] s := fun k e2 ty h _ => by cases h
  have hpc0 : (am_pcs 239).getD 0 0 = 0 := beq_iff_eq.mp (List.all_eq_true.mp am_pc0 239 (List.mem_range.mpr (by decide)))
  rw [← hm4] at hex hl
  have main := am_execW (l := l) (e := e) (below := below) (R := room_1) (Q := lw_Z below #[Value.ref b] s) (z0 := 0) C (by decide) (r := some (.int 1)) (mem' := mem') h1 h2 ?_ n d 0 _ [] [] (by show d + 3 ≤ 2048 ∧ 64 * (d + 3) ≤ 84000; omega) (fun d' _ => am_con l _ _ _ _ d') (Nat.le_refl _) (Nat.le_refl _) hex _ s.heap [] hl ⟨_, hP, hWK, va_S.rf⟩
  · rw [hpc0] at main
    rw [hm4] at main
    exact main
  · intro i ls raw hdec hret lsA H1 locs1 hl1 hSt
    obtain ⟨cA1, hP1, hWK1, hS1⟩ := hSt
    have hrt : (am_mq 239).2.2.2.2 = 2 := by decide +kernel
    rw [hrt] at hret
    rcases hret with ⟨h0, -, -⟩ | ⟨v, hv, -, hraw⟩
    · cases h0
    · cases hv
      rcases hraw with ⟨rfl, -⟩ | ⟨-, h3⟩ | ⟨-, h3⟩
      · refine va_forget (fun q hq => hS1.2.2 q hq) ?_
        refine W.widen (k := 600000) (n := 7302250) h1 h2 ?_
        exact lw_ret hx hb hr hlocks hdec
      · cases h3
      · cases h3
end
