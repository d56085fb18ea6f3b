/-! Calls; whole runs; the contract of every method -/
theorem am_lm_lt : (am_lm.all fun q => decide (q.2.2.1 < 239)) = true := by decide +kernel
noncomputable def am_lmk (q : Nat × Nat × Nat × Nat × Nat) : Bool := let M := am_mq q.2.2.1; let y := am_infq q.2.2.1
  if q.2.2.2.1 % 3 = 0 then M.2.2.2.1.isSome && decide (y.1.name ≠ "<init>") else if q.2.2.2.1 % 3 = 1 then M.2.2.2.1.isNone else M.2.2.2.1.isSome && decide (y.1.name = "<init>") && decide (y.2 = none)
theorem am_lmk_c : (am_lm.all am_lmk) = true := by decide +kernel
theorem am_good {ws : List Cond} (h : ∀ w ∈ ws, w ∈ am_big) : GoodIn am_big ws := fun w hw => ⟨h w hw, good_of_word (am_big_good (h w hw))⟩
noncomputable def am_cw (k : Nat) : Cond := .code (am_infq k).1 (am_bytes k) (am_mq k).2.1 (am_infq k).2
noncomputable def am_wsk (k : Nat) : List Cond := am_cw k :: am_big
theorem am_mw_get {k : Nat} (h : k < 239) : am_cw k ∈ am_big ∧ Cond.initialized (am_infq k).1.cls ∈ am_big ∧ ((am_mq k).2.2.2.1 = none → Cond.static (am_infq k).1 ∈ am_big) ∧
    (∀ ci, (am_mq k).2.2.2.1 = some ci → Cond.instanceMethod (am_infq k).1 ∈ am_big ∧ ((am_infq k).1.name = "<init>" ∨ Cond.selects (am_infq k).1.cls (am_infq k).1 (am_infq k).1 ∈ am_big)) := by
  obtain ⟨b', hw⟩ := am_g1 h
  refine ⟨?_, am_big_mem (am_g2 h) rfl, fun hn => ?_, fun ci hc => ?_⟩
  · have hb : am_bytes k = b' := by
      unfold am_bytes
      rw [if_neg (by omega)]
      unfold am_bt
      unfold am_mwd at hw
      rw [hw]
    unfold am_cw
    rw [hb]
    exact am_big_at _ hw rfl
  · have := am_g3 h
    unfold am_w3 at this
    rw [hn] at this
    exact am_big_mem this rfl
  · have := am_g3 h
    unfold am_w3 at this
    rw [hc] at this
    refine ⟨am_big_mem this rfl, ?_⟩
    rcases am_g4 h with h4 | h4 | h4
    · rw [hc] at h4
      cases h4
    · exact Or.inl h4
    · exact Or.inr (am_big_mem h4 rfl)
noncomputable def am_rtq (rt : Nat) (ret : Option FieldType) : Prop := (rt = 0 ∧ ret = none) ∨ (rt = 1 ∧ ret = some .int) ∨ (rt = 2 ∧ ret = some .boolean) ∨ (rt = 3 ∧ ret = some .long) ∨ (rt = 4 ∧ ∃ n, ret = some (.object n)) ∨ (rt = 5 ∧ ret = some .char) ∨ (rt = 6 ∧ ret = some .byte)
theorem am_nm_get {k : Nat} (h : k < 240) : plainFor (am_infq k).1 = true ∧ (am_infq k).1.cls ≠ "java/lang/invoke/MethodHandle" ∧ (am_infq k).1.cls ≠ "java/lang/invoke/VarHandle" ∧ am_ownS (am_on.getD k 0) = (am_infq k).1.cls ∧
    (parseMethodDescriptor (am_infq k).1.desc).map (fun d => d.parameters.length) = some ((am_mq k).2.2.1 - (if (am_mq k).2.2.2.1 = none then 0 else 1)) ∧ (am_mq k).2.1 ≤ 13 ∧
    (∀ ci, (am_mq k).2.2.2.1 = some ci → 1 ≤ (am_mq k).2.2.1 ∧ (am_infq k).1.cls = (if ci = 20 then "java/lang/String" else (am_clq ci).1) ∧ (ci = 20 ∨ ci < 10)) ∧ am_rtq (am_mq k).2.2.2.2 (am_infq k).2 := by
  have hq := List.all_eq_true.mp am_nm_c k (List.mem_range.mpr h)
  unfold am_nmq am_nmy at hq
  simp only [Bool.and_eq_true, decide_eq_true_eq] at hq
  obtain ⟨h1, h2, h3, h4, h5, h6, h7, h8⟩ := hq
  refine ⟨h1, h2, h3, h4, h5, h6, fun ci hc => ?_, ?_⟩
  · rw [hc] at h7
    simp only [Bool.and_eq_true, decide_eq_true_eq] at h7
    exact ⟨h7.1.1, h7.1.2, h7.2⟩
  · unfold am_rtq
    split at h8
    all_goals first | (rename_i hret; rw [hret]; have h8 := beq_iff_eq.mp h8; simp [h8]; done) | cases h8
theorem am_zchk_ok {o rt : Nat} {pcs : List Nat} : ∀ {ops : List Instr} {raws : List (Instr × Nat × Nat)} {k : Nat}, am_zchk o rt pcs k ops raws = true → ∀ {i : Nat} {op : Instr}, ops[i]? = some op → ∃ q, raws[i]? = some q ∧ am_chk o rt pcs (k + i) op q.1 q.2.1 q.2.2 = true
  | [], _, _, _, i, op, h => by simp at h
  | a :: r, [], _, h, _, _, _ => by cases h
  | a :: r, b :: q, k, h, i, op, hi => by
    simp only [am_zchk, Bool.and_eq_true] at h
    match i, hi with
    | 0, hi => cases hi; exact ⟨b, rfl, h.1⟩
    | i + 1, hi =>
      obtain ⟨x, hx, hc⟩ := am_zchk_ok h.2 hi
      exact ⟨x, hx, by rw [show k + (i + 1) = k + 1 + i by omega]; exact hc⟩
theorem am_site {mid i : Nat} {op : Instr} (hm : mid < 240) (h : (am_mq mid).1[i]? = some op) : ∃ raw pc len, (am_pcs mid).getD i 0 = pc ∧ decode (am_bytes mid) pc = .ok (raw, len) ∧ am_chk (am_on.getD mid 0) (am_mq mid).2.2.2.2 (am_pcs mid) i op raw pc len = true := by
  have hz := am_mall hm
  unfold am_mchk at hz
  obtain ⟨q, hq, hc⟩ := am_zchk_ok hz h
  rw [Nat.zero_add] at hc
  have hd := List.all_eq_true.mp (am_dall hm) q (List.mem_of_getElem? hq)
  refine ⟨q.1, q.2.1, q.2.2, ?_, of_decide_eq_true hd, hc⟩
  unfold am_pcs
  rw [List.getD_eq_getElem?_getD, List.getElem?_map, hq]
  rfl
theorem am_tab_len : am_tab.length = 240 := by decide +kernel
theorem am_P_get {k : Nat} {M : am_M} (h : am_P k = some M) : k < 240 ∧ M = am_mq k := by
  have h1 : am_tab[k]? = some M := h
  refine ⟨by rw [← am_tab_len]; exact (List.getElem?_eq_some_iff.mp h1).1, ?_⟩
  unfold am_mq
  rw [List.getD_eq_getElem?_getD, h1]
  rfl
noncomputable def am_rm (d a b : Nat) : Room := { frames := d + 3, cells := a, slots := b, locals := 64 * (d + 3) }
noncomputable def am_U (B : Nat) (ka : Nat → Nat) (D : va_G) (cst mem : List am_E) (U : State) : Prop := U.heap.size = B + mem.length ∧ am_KC D U ∧ am_CO B ka cst U U.heap ∧ am_NW U ∧ ∃ cA : Nat → ClassId, va_P D am_cl (am_ws B ka cA mem) U.heap ∧ am_WK cA mem U
noncomputable def am_V (B : Nat) (ka : Nat → Nat) (D : va_G) (mem : List am_E) (U : State) : Prop := ∃ cA : Nat → ClassId, va_P D am_cl (am_ws B ka cA mem) U.heap ∧ am_WK cA mem U
noncomputable def am_Pc (B : Nat) (ka : Nat → Nat) (D : va_G) (cst mem : List am_E) (vs : List Value) : Array Value → State → Prop := fun a U => a = (vs.map (am_tv (am_phi B ka))).toArray ∧ am_U B ka D cst mem U
noncomputable def am_Qc (B : Nat) (ka : Nat → Nat) (D : va_G) (mem : List am_E) (r : Option Value) : Array Value → State → Outcome → State → Prop := fun _ st o t => o = .returned (r.map (am_tv (am_phi B ka))) ∧ am_V B ka D mem t ∧ va_F (am_A B) st t
noncomputable def am_Con (l : Launch) (B : Nat) (ka : Nat → Nat) (D : va_G) (cst : List am_E) (d : Nat) : Prop := ∀ (n k : Nat) (vs : List Value) (mem : List am_E) (r : Option Value) (mem' : List am_E), k < 239 → (am_place vs).length ≤ (am_mq k).2.1 → am_exec am_ft am_P cst n d k 0 (am_args vs (am_mq k).2.1) [] mem = some (r, mem') →
  Met l (am_infq k).1 (am_wsk k) (am_rm d (mem'.length - mem.length) (am_sz mem' - am_sz mem)) (am_Pc B ka D cst mem vs) (am_Qc B ka D mem' r) (mem'.length - mem.length) (am_sz mem' - am_sz mem) (am_A B)
theorem am_NW.warm {s U : State} (hW : s.WarmedH U.vm) (h : am_NW s) : am_NW U := ⟨fun q hq h3 => va_Nw.warmM hW (h.1 q hq h3), h.2.1.moved hW.alike, Jvm.Stand.arrayOver_alikeB hW.alike h.2.2⟩
theorem am_NW.same {s U : State} (hv : s.vm = U.vm) (h : am_NW s) : am_NW U := ⟨fun q hq h3 => va_Nw.same rfl hv (h.1 q hq h3), h.2.1.moved (by rw [hv]; exact Vm.Alike.refl _), Jvm.Stand.arrayOver_alikeB (by rw [hv]; exact Vm.Alike.refl _) h.2.2⟩
theorem am_blind {B : Nat} {ka : Nat → Nat} {D : va_G} {cst mem : List am_E} {vs : List Value} : FrameBlind (am_Pc B ka D cst mem vs) := fun a U g mk q => by
  obtain ⟨h1, h2, h3, h4, h5, cA, h6, h7⟩ := q
  exact ⟨h1, h2, h3.moved (u := U) (U := U.calling g mk a) (Vm.Alike.refl U.vm), h4.same (s := U) (U := U.calling g mk a) rfl, h5.same (s := U) (U := U.calling g mk a) rfl, cA, h6, h7.moved (u := U) (U := U.calling g mk a) (Vm.Alike.refl U.vm)⟩
section AMS
variable {p : Program} {l : Launch} {e : Env} {R : Room} {s : State} {m : MethodId} {args : Array Value} {below : List Frame} {meth : Method} {c : Code} {Q : State → Prop} {B : Nat} {ka : Nat → Nat} {D : va_G} {cst : List am_E} {mid n0 z0 : Nat}
set_option maxHeartbeats 4000000 in
theorem am_run (C : am_Cx B ka D cst mid n0 p s m args meth c) {d : Nat} (hRd : d + 4 ≤ R.frames ∧ 64 * (d + 4) ≤ R.locals) (hCon : am_Con l B ka D cst d) {n k i pc len rt : Nat} {raw : Instr} {st : List Value} {mem mem1 : List am_E} {r : Option Value}
    (hdec : decode (am_bytes mid) pc = .ok (raw, len)) (hchk : am_chk (am_on.getD mid 0) rt (am_pcs mid) i (.invokestatic k) raw pc len = true)
    (hnp : (am_mq k).2.2.1 ≤ st.length) (hr8 : ((st.drop (am_mq k).2.2.1).map fun v => v.category).sum ≤ 8) (hpl : (am_place (st.take (am_mq k).2.2.1).reverse).length ≤ (am_mq k).2.1) (hrecv : am_recv cst mem (am_mq k).2.2.2.1 (st.take (am_mq k).2.2.1).reverse = true)
    (hex : am_exec am_ft am_P cst n d k 0 (am_args (st.take (am_mq k).2.2.1).reverse (am_mq k).2.1) [] mem = some (r, mem1))
    {lsA : Array Slot} {H : Heap} {locs : List Loc} {cells slots : Nat} (hlA : lsA.size = (am_mq mid).2.1) {cA : Nat → ClassId} (hP : va_P D am_cl (am_ws B ka cA mem) H) (hWK : am_WK cA mem s) (hS : va_S (am_A B) s.heap H locs) (hHs : H.size = B + mem.length)
    (hf : cells + (mem1.length - mem.length) ≤ R.cells ∧ slots + (am_sz mem1 - am_sz mem) ≤ R.slots) :
    len = 3 ∧ va_Run p l e R s m args below meth c H locs cells slots (mem1.length - mem.length) (am_sz mem1 - am_sz mem) (F0 m pc lsA (st.map (am_tv (am_phi B ka)))) ((st.drop (am_mq k).2.2.1).map (am_tv (am_phi B ka))) (am_Qc B ka D mem1 r #[]) (am_A B) := by
  obtain ⟨hx, hb, hml, hown, hts, hKC, hCO, hsz, hnm, hnw⟩ := C
  generalize hvs : (st.take (am_mq k).2.2.1).reverse = vs at *
  generalize hrs : st.drop (am_mq k).2.2.1 = rest at *
  have hst : st.map (am_tv (am_phi B ka)) = (vs.map (am_tv (am_phi B ka))).reverse ++ rest.map (am_tv (am_phi B ka)) := by
    rw [← List.map_reverse, ← hvs, List.reverse_reverse, ← hrs, ← List.map_append, List.take_append_drop]
  have hvl : vs.length = (am_mq k).2.2.1 := by
    rw [← hvs, List.length_reverse, List.length_take]
    omega
  have hroom : ∀ stk : List Value, 2 * (F0 m pc lsA stk).monitorRoom + ((rest.map (am_tv (am_phi B ka))).map fun v => v.category).sum ≤ 8 := fun stk => lv_room (by rw [am_tv_cats]; exact hr8)
  have hU : ∀ U : State, U.heap = H → s.WarmedH U.vm → am_U B ka D cst mem U := fun U hUh hW => by
    refine ⟨by rw [hUh]; exact hHs, hKC.moved hW.alike, ?_, hnw.warm hW, cA, by rw [hUh]; exact hP, hWK.moved hW.alike⟩
    rw [hUh]
    exact (hCO.kept hS.2.1).warm hW
  simp only [am_chk, Bool.and_eq_true] at hchk
  obtain ⟨-, hr⟩ := hchk
  have hq : ∃ q ∈ am_lm, q.1 = am_on.getD mid 0 ∧ q.2.2.1 = k ∧ len = 3 ∧ ((raw = .invokevirtual q.2.1 ∧ (q.2.2.2.1 = 0 ∨ q.2.2.2.1 = 3)) ∨ (raw = .invokestatic q.2.1 ∧ (q.2.2.2.1 = 1 ∨ q.2.2.2.1 = 4)) ∨ (raw = .invokespecial q.2.1 ∧ (q.2.2.2.1 = 2 ∨ q.2.2.2.1 = 5))) := by
    cases raw with
    | invokevirtual ix =>
      simp only [Bool.and_eq_true, beq_iff_eq] at hr
      obtain ⟨rfl, hr⟩ := hr
      obtain ⟨q, hq, he⟩ := List.any_eq_true.mp hr
      simp only [Bool.and_eq_true, beq_iff_eq, Bool.or_eq_true] at he
      obtain ⟨⟨⟨h1, rfl⟩, h3⟩, h4⟩ := he
      exact ⟨q, hq, h1, h3, rfl, Or.inl ⟨rfl, h4⟩⟩
    | invokestatic ix =>
      simp only [Bool.and_eq_true, beq_iff_eq] at hr
      obtain ⟨rfl, hr⟩ := hr
      obtain ⟨q, hq, he⟩ := List.any_eq_true.mp hr
      simp only [Bool.and_eq_true, beq_iff_eq, Bool.or_eq_true] at he
      obtain ⟨⟨⟨h1, rfl⟩, h3⟩, h4⟩ := he
      exact ⟨q, hq, h1, h3, rfl, Or.inr (Or.inl ⟨rfl, h4⟩)⟩
    | invokespecial ix =>
      simp only [Bool.and_eq_true, beq_iff_eq] at hr
      obtain ⟨rfl, hr⟩ := hr
      obtain ⟨q, hq, he⟩ := List.any_eq_true.mp hr
      simp only [Bool.and_eq_true, beq_iff_eq, Bool.or_eq_true] at he
      obtain ⟨⟨⟨h1, rfl⟩, h3⟩, h4⟩ := he
      exact ⟨q, hq, h1, h3, rfl, Or.inr (Or.inr ⟨rfl, h4⟩)⟩
    | _ => cases hr
  obtain ⟨q, hq, ho, hk, rfl, hkind⟩ := hq
  have hk240 : q.2.2.1 < 239 := of_decide_eq_true (List.all_eq_true.mp am_lm_lt q hq)
  rw [hk] at hk240
  have hlk := List.all_eq_true.mp am_lmk_c q hq
  unfold am_lmk at hlk
  rw [hk] at hlk
  obtain ⟨w1, w2, w3, w4⟩ := am_mw_get hk240
  obtain ⟨m1, m2, m3, m4, m5, m6, m7, m8⟩ := am_nm_get (show k < 240 by omega)
  have hM := hCon n k vs mem r mem1 hk240 hpl hex
  have hG : GoodIn am_big (am_wsk k) := am_good fun w hw => by
    rcases List.mem_cons.mp hw with rfl | hw
    · exact w1
    · exact hw
  have hRR : (am_rm d (mem1.length - mem.length) (am_sz mem1 - am_sz mem)).frames + 1 ≤ R.frames ∧ 8 + ((am_mq k).2.1 + 11) + (am_rm d (mem1.length - mem.length) (am_sz mem1 - am_sz mem)).locals ≤ R.locals := by
    simp only [am_rm]
    omega
  have hS3 : CallFix p m c (am_bytes mid) (am_mq mid).2.1 s args am_big (am_ownS (am_on.getD mid 0)) := ⟨hx, hb, hml, hown, hts⟩
  have hlink : q.2.2.2.1 < 3 → Cond.methodLink (am_ownS (am_on.getD mid 0)) q.2.1 (am_infq k).1 ∈ am_big := fun h3 => by
    have := List.all_eq_true.mp am_lm_c q hq
    simp only [Bool.or_eq_true, decide_eq_true_eq] at this
    rcases this with h | h
    · omega
    · have := am_wq_ok h
      rw [ho, hk] at this
      exact this
  have hnest : ¬ q.2.2.2.1 < 3 → va_Nw (.methodLinkNest (am_ownS (am_on.getD mid 0)) q.2.1 (am_infq k).1 "MoonReapers") s := fun h3 => by
    have := hnw.1 q hq h3
    unfold am_nw at this
    rw [ho, hk] at this
    exact this
  have recv : ∀ ci, (am_mq k).2.2.2.1 = some ci → ∃ b as, vs = .ref b :: as ∧ as.length = (am_mq k).2.2.1 - 1 ∧ (∃ cellB : Cell, H[am_phi B ka b]? = some cellB ∧ cellB.vm.isStatics = false ∧ s.vm.findClass (am_infq k).1.cls = some cellB.cls) := fun ci hci => by
    rw [hci] at hrecv
    unfold am_recv at hrecv
    simp only at hrecv
    obtain ⟨c1, c2, c3⟩ := m7 ci hci
    split at hrecv
    · rename_i b as
      refine ⟨b, as, rfl, by simp only [List.length_cons] at hvl; omega, ?_⟩
      split at hrecv
      · rename_i cj fs hlook
        have hcj := of_decide_eq_true hrecv
        subst hcj
        unfold am_look at hlook
        split at hlook
        · rename_i hlo
          have h10 := am_va_at_ci hP hlook
          rw [am_phi_lo hlo, c2, if_neg (by omega)]
          exact va_recv (am_K0 hKC) hP (am_cl_get h10) (am_ws_at hlook)
        · rename_i hhi
          have h20 := hCO.2.2.2.2.1 _ _ _ hlook
          subst h20
          rw [am_phi_hi hhi, c2, if_pos rfl]
          exact va_Orecv (hCO.2.1 _ _ hlook).1 hS
      · cases hrecv
    · cases hrecv
  refine ⟨rfl, ?_⟩
  rcases hkind with ⟨rfl, hkd⟩ | ⟨rfl, hkd⟩ | ⟨rfl, hkd⟩
  · have hk3 : q.2.2.2.1 % 3 = 0 := by omega
    rw [if_pos hk3] at hlk
    simp only [Bool.and_eq_true, decide_eq_true_eq] at hlk
    obtain ⟨ci, hci⟩ := Option.isSome_iff_exists.mp hlk.1
    obtain ⟨b, as, rfl, hal, hcell⟩ := recv ci hci
    rw [hci, if_neg (by simp)] at m5
    obtain ⟨i1, i2⟩ := w4 ci hci
    have hsel := i2.resolve_left hlk.2
    have hst2 : st.map (am_tv (am_phi B ka)) = (as.map (am_tv (am_phi B ka))).reverse ++ .ref (am_phi B ka b) :: rest.map (am_tv (am_phi B ka)) := by
      rw [hst, List.map_cons, List.reverse_cons, List.append_assoc]
      rfl
    rcases hkd with h0 | h0
    · exact va_runV (C := (am_infq k).1.cls) (b := am_phi B ka b) (As := as.map (am_tv (am_phi B ka))) hS3 hM (cwV _ hts (am_good fun w hw => by
        unfold wsV at hw
        rcases List.mem_append.mp hw with hw | hw
        · simp only [List.mem_cons, List.not_mem_nil, or_false] at hw
          rcases hw with rfl | rfl | rfl | rfl
          · exact hlink (by omega)
          · exact i1
          · exact hsel
          · exact w2
        · rcases List.mem_cons.mp hw with rfl | hw
          · exact w1
          · exact hw) rfl rfl rfl ⟨rfl, m2, m3, m5⟩ hRR) ⟨am_blind, hcell, fun U hU1 hW => ⟨by rw [List.map_cons]; rfl, hU U hU1 hW⟩⟩ rfl (by rw [List.length_map]; exact hal) hlA hst2 (hroom _) hdec hf
    · exact va_runVN (C := (am_infq k).1.cls) (host := "MoonReapers") (b := am_phi B ka b) (As := as.map (am_tv (am_phi B ka))) hS3 hM ⟨va_cnB _ hts hG rfl rfl rfl (hnest (by omega)) (hts _ w2) ⟨m2, m3, m5⟩ hRR, hts _ i1, hts _ hsel⟩ ⟨am_blind, hcell, fun U hU1 hW => ⟨by rw [List.map_cons]; rfl, hU U hU1 hW⟩⟩ rfl (by rw [List.length_map]; exact hal) hlA hst2 (hroom _) hdec hf
  · have hk3 : ¬ q.2.2.2.1 % 3 = 0 := by omega
    have hk1 : q.2.2.2.1 % 3 = 1 := by omega
    rw [if_neg hk3, if_pos hk1] at hlk
    have hci : (am_mq k).2.2.2.1 = none := Option.isNone_iff_eq_none.mp hlk
    rw [hci, if_pos rfl, Nat.sub_zero] at m5
    rcases hkd with h0 | h0
    · exact va_runS (As := vs.map (am_tv (am_phi B ka))) hS3 hM (va_cwS _ hts (am_good fun w hw => by
        unfold va_wsS at hw
        rcases List.mem_append.mp hw with hw | hw
        · simp only [List.mem_cons, List.not_mem_nil, or_false] at hw
          rcases hw with rfl | rfl | rfl
          · exact hlink (by omega)
          · exact w3 hci
          · exact w2
        · rcases List.mem_cons.mp hw with rfl | hw
          · exact w1
          · exact hw) rfl rfl rfl ⟨m2, m3, m5⟩ hRR) ⟨am_blind, fun U hU1 hW => ⟨rfl, hU U hU1 hW⟩⟩ rfl (by rw [List.length_map]; exact hvl) hlA hst (hroom _) hdec hf
    · exact va_runSN (host := "MoonReapers") (As := vs.map (am_tv (am_phi B ka))) hS3 hM ⟨va_cnB _ hts hG rfl rfl rfl (hnest (by omega)) (hts _ w2) ⟨m2, m3, m5⟩ hRR, hts _ (w3 hci), trivial⟩ ⟨am_blind, fun U hU1 hW => ⟨rfl, hU U hU1 hW⟩⟩ rfl (by rw [List.length_map]; exact hvl) hlA hst (hroom _) hdec hf
  · have hk3 : ¬ q.2.2.2.1 % 3 = 0 := by omega
    have hk1 : ¬ q.2.2.2.1 % 3 = 1 := by omega
    rw [if_neg hk3, if_neg hk1] at hlk
    simp only [Bool.and_eq_true, decide_eq_true_eq] at hlk
    obtain ⟨ci, hci⟩ := Option.isSome_iff_exists.mp hlk.1.1
    obtain ⟨b, as, rfl, hal, hcell⟩ := recv ci hci
    rw [hci, if_neg (by simp)] at m5
    obtain ⟨i1, i2⟩ := w4 ci hci
    have hst2 : st.map (am_tv (am_phi B ka)) = (as.map (am_tv (am_phi B ka))).reverse ++ .ref (am_phi B ka b) :: rest.map (am_tv (am_phi B ka)) := by
      rw [hst, List.map_cons, List.reverse_cons, List.append_assoc]
      rfl
    have hcw : am_wsk k = Cond.code (am_infq k).1 (am_bytes k) (am_mq k).2.1 none :: am_big := by
      unfold am_wsk am_cw
      rw [hlk.2]
    rcases hkd with h0 | h0
    · exact va_runI (b := am_phi B ka b) (As := as.map (am_tv (am_phi B ka))) hS3 hM (cwI _ hts hG hcw rfl rfl (hts _ w2) (hts _ (hlink (by omega))) (hts _ i1) hlk.1.2 ⟨m2, m3, m5⟩ hRR) ⟨am_blind, fun U hU1 hW => ⟨by rw [List.map_cons]; rfl, hU U hU1 hW⟩⟩ rfl (by rw [List.length_map]; exact hal) hlA hst2 (hroom _) hdec hf
    · exact va_runIN (host := "MoonReapers") (b := am_phi B ka b) (As := as.map (am_tv (am_phi B ka))) hS3 hM ⟨va_cnB _ hts hG hcw rfl rfl (hnest (by omega)) (hts _ w2) ⟨m2, m3, m5⟩ hRR, hlk.1.2, hts _ i1⟩ ⟨am_blind, fun U hU1 hW => ⟨by rw [List.map_cons]; rfl, hU U hU1 hW⟩⟩ rfl (by rw [List.length_map]; exact hal) hlA hst2 (hroom _) hdec hf
end AMS
