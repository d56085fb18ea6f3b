/-! String.checkIndex, in one step of the list machine -/
noncomputable def ck_yP : MethodName := ⟨"jdk/internal/util/Preconditions", "checkIndex", "(IILjava/util/function/BiFunction;)I"⟩
noncomputable def ck_bS : ByteArray := prog_14_method_155_code
noncomputable def ck_bP : ByteArray := prog_19_method_11_code
noncomputable def ck_wS : Cond := .code ck_yS ck_bS 2 none
noncomputable def ck_wP : Cond := .code ck_yP ck_bP 3 (some .int)
theorem ck_wS_in : ck_wS ∈ am_big := by
  refine am_big_at 477 ?_ (by decide +kernel)
  decide +kernel
theorem ck_wP_in : ck_wP ∈ am_big := by
  refine am_big_at 482 ?_ (by decide +kernel)
  decide +kernel
theorem ck_ws : Cond.static ck_yS ∈ am_big ∧ Cond.initialized "java/lang/String" ∈ am_big ∧ Cond.static ck_yP ∈ am_big ∧ Cond.initialized "jdk/internal/util/Preconditions" ∈ am_big ∧ Cond.methodLink "java/lang/String" 1059 ck_yP ∈ am_big ∧ Cond.fieldLink "java/lang/String" 1053 "jdk/internal/util/Preconditions" "SIOOBE_FORMATTER" "Ljava/util/function/BiFunction;" ∈ am_big := by
  refine ⟨by decide +kernel, by decide +kernel, by decide +kernel, by decide +kernel, by decide +kernel, by decide +kernel⟩
theorem ck_good {ws : List Cond} (h : ∀ w ∈ ws, w ∈ am_big) : GoodIn am_big ws := fun w hw => ⟨h w hw, good_of_word (am_big_good (h w hw))⟩
theorem ck_dS0 : decode ck_bS 0 = .ok (.iload_n 0, 1) := by decide +kernel
theorem ck_dS1 : decode ck_bS 1 = .ok (.iload_n 1, 1) := by decide +kernel
theorem ck_dS2 : decode ck_bS 2 = .ok (.getstatic 1053, 3) := by decide +kernel
theorem ck_dS5 : decode ck_bS 5 = .ok (.invokestatic 1059, 3) := by decide +kernel
theorem ck_dS8 : decode ck_bS 8 = .ok (.pop, 1) := by decide +kernel
theorem ck_dS9 : decode ck_bS 9 = .ok (.return_, 1) := by decide +kernel
theorem ck_dP0 : decode ck_bP 0 = .ok (.iload_n 0, 1) := by decide +kernel
theorem ck_dP1 : decode ck_bP 1 = .ok (.ifCond .lt 8, 3) := by decide +kernel
theorem ck_dP4 : decode ck_bP 4 = .ok (.iload_n 0, 1) := by decide +kernel
theorem ck_dP5 : decode ck_bP 5 = .ok (.iload_n 1, 1) := by decide +kernel
theorem ck_dP6 : decode ck_bP 6 = .ok (.if_icmp .lt 10, 3) := by decide +kernel
theorem ck_dP16 : decode ck_bP 16 = .ok (.iload_n 0, 1) := by decide +kernel
theorem ck_dP17 : decode ck_bP 17 = .ok (.ireturn, 1) := by decide +kernel
noncomputable def ck_no : Nat → Prop := fun _ => False
set_option maxHeartbeats 4000000 in
set_option maxRecDepth 100000 in
theorem ck_P (l : Launch) (i n : Int32) (v : Value) (hvv : v = .null ∨ ∃ t : Nat, v = .ref t) (h0 : ¬ i < 0) (h1 : i < n) : Met l ck_yP (ck_wP :: am_big) ({ frames := 0, cells := 0, slots := 0, locals := 0 }) (va_Pc [.int i, .int n, v] (fun _ => True)) (va_Qi (fun (_ : Int32) (_ : Unit) => True) (fun _ _ => True) ck_no) 0 0 ck_no := by
  refine Met.ofW (cc := ck_bP) (maxL := 3) (ret := some .int) (by decide) rfl ?_
  intro p e s m args below meth c s₁ B hml hv
  obtain ⟨rfl, -⟩ := hv
  have hx := B.exec
  have hb := B.bytes
  have hr := B.returns
  have hlocks := B.notSynchronized
  have hS : va_S ck_no s.heap s.heap [] := va_S.rf
  have hl : ∃ ls : Array Slot, entryFrame m ([.int i, .int n, v] : List Value).toArray 3 = F0 m 0 ls [] ∧ lv_has ls 3 [(0, .int i), (1, .int n), (2, v)] := by
    rcases hvv with rfl | ⟨t, rfl⟩
    · exact ⟨_, by rw [lg_entry_eq], lv_entry ([.int i, .int n, .null]) (n := 3) (Nat.le_of_ble_eq_true rfl)⟩
    · exact ⟨_, by rw [lg_entry_eq], lv_entry ([.int i, .int n, .ref t]) (n := 3) (Nat.le_of_ble_eq_true rfl)⟩
  obtain ⟨ls, he, hl⟩ := hl
  rw [he]
  refine lv_iload_n hx hb ck_dP0 rfl (lv_at hl 0 rfl) ?_
  refine lv_if_lt hx hb ck_dP1 (tgt := 9) rfl (fun q => absurd q h0) (fun _ => ?_)
  refine lv_iload_n hx hb ck_dP4 rfl (lv_at hl 0 rfl) ?_
  refine lv_iload_n hx hb ck_dP5 rfl (lv_at hl 1 rfl) ?_
  refine lv_icmp_lt hx hb ck_dP6 (tgt := 16) rfl (fun _ => ?_) (fun q => absurd h1 q)
  refine lv_iload_n hx hb ck_dP16 rfl (lv_at hl 0 rfl) ?_
  exact W.iret (v := i) hx hb hr (fun t ht hW => ⟨⟨i, (), rfl, trivial, trivial⟩, hS.F ht⟩) hS.2.2 ck_dP17
set_option maxHeartbeats 4000000 in
set_option maxRecDepth 100000 in
theorem ck_S (l : Launch) (i n : Int32) (v : Value) (hvv : v = .null ∨ ∃ t : Nat, v = .ref t) (h0 : ¬ i < 0) (h1 : i < n) (A : Nat → Prop) : Met l ck_yS (ck_wS :: am_big) ({ frames := 1, cells := 0, slots := 0, locals := 22 }) (va_Pc [.int i, .int n] (fun U => va_Z "jdk/internal/util/Preconditions" "SIOOBE_FORMATTER" "Ljava/util/function/BiFunction;" v A U U.heap)) (va_Qv (fun (_ : Unit) => True) (fun _ _ => True) ck_no) 0 0 ck_no := by
  refine Met.ofW (cc := ck_bS) (maxL := 2) (ret := none) (by decide) rfl ?_
  intro p e s m args below meth c s₁ B hml hv
  obtain ⟨rfl, hZ⟩ := hv
  have hx := B.exec
  have hb := B.bytes
  have hr := B.returns
  have hts0 := atoms_spec (ws := ck_wS :: am_big) B.pre
  have hts : ∀ w ∈ am_big, w.before #[.int i, .int n] s = true := fun w hw => hts0 w (List.mem_cons_of_mem _ hw)
  have hown : s.vm.findClass "java/lang/String" = some m.cls := findClass_of_methodNamed B.named
  have hlocks := B.notSynchronized
  have hS : va_S ck_no s.heap s.heap [] := va_S.rf
  have hS2 : va_S A s.heap s.heap [] := va_S.rf
  have hl := lv_entry ([.int i, .int n]) (n := 2) (Nat.le_of_ble_eq_true rfl)
  rw [lg_entry_eq]
  generalize (lg_sl ([.int i, .int n]) ++ List.replicate (2 - (lg_sl ([.int i, .int n])).length) Slot.unset).toArray = ls at hl ⊢
  have hl : lv_has ls 2 [(0, .int i), (1, .int n)] := hl
  refine lv_iload_n hx hb ck_dS0 rfl (lv_at hl 0 rfl) ?_
  refine lv_iload_n hx hb ck_dS1 rfl (lv_at hl 1 rfl) ?_
  refine va_gets hx hb hZ hS2 hown (hts _ ck_ws.2.2.2.2.2) (fun x h => h) ck_dS2 ?_
  have hG : GoodIn am_big (va_wsS "java/lang/String" 1059 ck_yP (ck_wP :: am_big)) := ck_good fun w hw => by
    unfold va_wsS at hw
    rcases List.mem_append.mp hw with hw | hw
    · simp only [List.mem_cons, List.not_mem_nil, or_false] at hw
      rcases hw with rfl | rfl | rfl
      · exact ck_ws.2.2.2.2.1
      · exact ck_ws.2.2.1
      · exact ck_ws.2.2.2.1
    · rcases List.mem_cons.mp hw with rfl | hw
      · exact ck_wP_in
      · exact hw
  refine va_calli (va_runS (As := [.int i, .int n, v]) (rest := []) ⟨hx, hb, hml, hown, hts⟩ (ck_P l i n v hvv h0 h1) (va_cwS 3 hts hG rfl rfl rfl ⟨by decide, by decide, by decide +kernel⟩ ⟨Nat.le_refl _, Nat.le_refl _⟩) ⟨fun a U g mk q => q, fun U hU hW => ⟨rfl, trivial⟩⟩ rfl rfl hl.1 rfl (lv_room (Nat.zero_le _)) ck_dS5 ⟨Nat.le_refl _, Nat.le_refl _⟩) hS (fun q _ h => h) (fun q h => h) (fun r u t H1 locs1 ht hvm hp hB hz hk hS => ?_)
  refine lv_pop hx hb ck_dS8 rfl ?_
  exact W.vret hx hb hr (fun t ht hW => ⟨⟨(), rfl, trivial, trivial⟩, hS.F ht⟩) hS.2.2 ck_dS9
section AMS
variable {p : Program} {l : Launch} {e : Env} {R : Room} {s : State} {m : MethodId} {args : Array Value} {below : List Frame} {meth : Method} {c : Code} {Q : State → Prop} {B : Nat} {ka : Nat → Nat} {D : va_G} {cst : List am_E} {mid n0 z0 : Nat}
set_option maxHeartbeats 4000000 in
theorem am_stepK (C : am_Cx B ka D cst mid n0 p s m args meth c) (hR : 3 ≤ R.frames ∧ 192 ≤ R.locals) {i pc len rt : Nat} {raw : Instr} {ls ls' : am_L} {st st' : List Value} {mem : List am_E} {j : Option Nat} (hpc : (am_pcs mid).getD i 0 = pc)
    (hdec : decode (am_bytes mid) pc = .ok (raw, len)) (hchk : am_chk (am_on.getD mid 0) rt (am_pcs mid) i .monitorexit raw pc len = true) {mem' : List am_E} (hn0 : n0 ≤ mem.length) (hr1 : mem'.length - n0 ≤ R.cells) (hr2 : am_sz mem' - z0 ≤ R.slots)
    (h : am_step am_ft cst .monitorexit ls st mem = some (j, ls', st', mem')) (kk : am_G B ka D mid n0 z0 p l e R s m args below meth c Q (j.getD (i + 1)) ls' st' mem') : am_G B ka D mid n0 z0 p l e R s m args below meth c Q i ls st mem := by
  intro lsA H locs hl hSt
  obtain ⟨hx, hb, hml, hown, hts, hKC, hCO, hsz, hnm, -⟩ := C
  rw [hpc]
  simp only [am_step] at h
  split at h
  · rename_i n ix r
    split at h
    · rename_i hq
      obtain ⟨⟨q0, q1⟩, hr8⟩ := hq
      simp only [Option.some.injEq, Prod.mk.injEq] at h
      obtain ⟨rfl, rfl, rfl, rfl⟩ := h
      simp only [am_chk, Bool.and_eq_true] at hchk
      obtain ⟨hn, hr⟩ := hchk
      obtain ⟨cA, hP, hWK, hS⟩ := hSt
      cases raw with
      | invokestatic ix2 =>
        simp only [Bool.and_eq_true, beq_iff_eq] at hr
        obtain ⟨rfl, hr⟩ := hr
        obtain ⟨q, hq, he⟩ := List.any_eq_true.mp hr
        simp only [Bool.and_eq_true, beq_iff_eq] at he
        obtain ⟨e1, e2⟩ := he
        have hw := am_wq_ok (List.all_eq_true.mp am_lck_c q hq)
        rw [e1, e2] at hw
        have hG : GoodIn am_big (va_wsS (am_ownS (am_on.getD mid 0)) ix2 ck_yS (ck_wS :: am_big)) := ck_good fun w hw2 => by
          unfold va_wsS at hw2
          rcases List.mem_append.mp hw2 with hw2 | hw2
          · simp only [List.mem_cons, List.not_mem_nil, or_false] at hw2
            rcases hw2 with rfl | rfl | rfl
            · exact hw
            · exact ck_ws.1
            · exact ck_ws.2.1
          · rcases List.mem_cons.mp hw2 with rfl | hw2
            · exact ck_wS_in
            · exact hw2
        have hz : ∃ v : Value, (v = .null ∨ ∃ t : Nat, v = .ref t) ∧ va_Z "jdk/internal/util/Preconditions" "SIOOBE_FORMATTER" "Ljava/util/function/BiFunction;" v (am_A B) s s.heap := by
          rcases hCO.2.2.2.2.2 with hz | ⟨t, hz⟩
          · exact ⟨_, Or.inl rfl, hz⟩
          · exact ⟨_, Or.inr ⟨t, rfl⟩, hz⟩
        obtain ⟨v, hv, hZ⟩ := hz
        refine va_callv (va_runS (As := [.int ix, .int n]) (rest := r.map (am_tv (am_phi B ka))) ⟨hx, hb, hml, hown, hts⟩ (ck_S l ix n v hv q0 q1 (am_A B)) (va_cwS 2 hts hG rfl rfl rfl ⟨by decide, by decide, by decide +kernel⟩ ⟨by show 1 + 1 ≤ R.frames; omega, by show 8 + (2 + 11) + 22 ≤ R.locals; omega⟩) ⟨fun a U g mk q => ⟨q.1, va_Z.moved (u := U) (U := U.calling g mk a) (Vm.Alike.refl U.vm) q.2⟩, fun U hU hW => ⟨rfl, va_Z.moved hW.alike (by rw [hU]; exact hZ.kept hS.2.1)⟩⟩ rfl rfl hl.1 rfl (lv_room (by rw [am_tv_cats]; exact hr8)) hdec ⟨by omega, by omega⟩) hS (fun q _ h => h.elim) (fun q h => h.elim) (fun u t H1 locs1 ht hvm hp hB hz hk hS1 => ?_)
        have hP1 : va_P D am_cl (am_ws B ka cA mem) H1 := hP.kept (fun k q hk2 => hk _ ((hP k q hk2).lt) (fun h => h))
        have kk := kk lsA H1 locs1 hl ⟨cA, hP1, hWK, hS1⟩
        rw [Option.getD_none, am_nx_ok hn] at kk
        exact kk
      | _ => cases hr
    · cases h
  · cases h
end AMS
